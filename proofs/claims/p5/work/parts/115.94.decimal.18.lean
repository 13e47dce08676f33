theorem d_15_51_0 : decode prog_15_method_51_code 0 = .ok (.aload_n 0, 1) := by decide +kernel
theorem d_15_51_1 : decode prog_15_method_51_code 1 = .ok (.bipush 69, 2) := by decide +kernel
theorem d_15_51_3 : decode prog_15_method_51_code 3 = .ok (.invokevirtual 189, 3) := by decide +kernel
theorem d_15_51_6 : decode prog_15_method_51_code 6 = .ok (.aload_n 0, 1) := by decide +kernel
theorem d_15_51_7 : decode prog_15_method_51_code 7 = .ok (.iload_n 1, 1) := by decide +kernel
theorem d_15_51_18 : decode prog_15_method_51_code 18 = .ok (.invokevirtual 189, 3) := by decide +kernel
theorem d_15_51_21 : decode prog_15_method_51_code 21 = .ok (.iload_n 1, 1) := by decide +kernel
theorem d_15_51_31 : decode prog_15_method_51_code 31 = .ok (.istore_n 2, 1) := by decide +kernel
theorem d_15_51_32 : decode prog_15_method_51_code 32 = .ok (.iconst 1, 1) := by decide +kernel
theorem d_15_51_33 : decode prog_15_method_51_code 33 = .ok (.istore_n 3, 1) := by decide +kernel
theorem d_15_51_34 : decode prog_15_method_51_code 34 = .ok (.iload_n 2, 1) := by decide +kernel
theorem d_15_51_35 : decode prog_15_method_51_code 35 = .ok (.iload_n 3, 1) := by decide +kernel
theorem d_15_51_36 : decode prog_15_method_51_code 36 = .ok (.idiv, 1) := by decide +kernel
theorem d_15_51_37 : decode prog_15_method_51_code 37 = .ok (.bipush 9, 2) := by decide +kernel
theorem d_15_51_39 : decode prog_15_method_51_code 39 = .ok (.if_icmp .le 11, 3) := by decide +kernel
theorem d_15_51_50 : decode prog_15_method_51_code 50 = .ok (.iload_n 3, 1) := by decide +kernel
theorem d_15_51_51 : decode prog_15_method_51_code 51 = .ok (.ifCond .le 24, 3) := by decide +kernel
theorem d_15_51_75 : decode prog_15_method_51_code 75 = .ok (.return_, 1) := by decide +kernel
theorem d_15_51_54 : decode prog_15_method_51_code 54 = .ok (.aload_n 0, 1) := by decide +kernel
theorem d_15_51_55 : decode prog_15_method_51_code 55 = .ok (.bipush 48, 2) := by decide +kernel
theorem d_15_51_57 : decode prog_15_method_51_code 57 = .ok (.iload_n 2, 1) := by decide +kernel
theorem d_15_51_58 : decode prog_15_method_51_code 58 = .ok (.iload_n 3, 1) := by decide +kernel
theorem d_15_51_59 : decode prog_15_method_51_code 59 = .ok (.idiv, 1) := by decide +kernel
theorem d_15_51_60 : decode prog_15_method_51_code 60 = .ok (.bipush 10, 2) := by decide +kernel
theorem d_15_51_62 : decode prog_15_method_51_code 62 = .ok (.irem, 1) := by decide +kernel
theorem d_15_51_63 : decode prog_15_method_51_code 63 = .ok (.iadd, 1) := by decide +kernel
theorem d_15_51_64 : decode prog_15_method_51_code 64 = .ok (.invokevirtual 189, 3) := by decide +kernel
theorem d_15_51_67 : decode prog_15_method_51_code 67 = .ok (.iload_n 3, 1) := by decide +kernel
theorem d_15_51_68 : decode prog_15_method_51_code 68 = .ok (.bipush 10, 2) := by decide +kernel
theorem d_15_51_70 : decode prog_15_method_51_code 70 = .ok (.idiv, 1) := by decide +kernel
theorem d_15_51_71 : decode prog_15_method_51_code 71 = .ok (.istore_n 3, 1) := by decide +kernel
theorem d_15_51_72 : decode prog_15_method_51_code 72 = .ok (.goto (-22), 3) := by decide +kernel
theorem d_15_51_42 : decode prog_15_method_51_code 42 = .ok (.iload_n 3, 1) := by decide +kernel
theorem d_15_51_43 : decode prog_15_method_51_code 43 = .ok (.bipush 10, 2) := by decide +kernel
theorem d_15_51_45 : decode prog_15_method_51_code 45 = .ok (.imul, 1) := by decide +kernel
theorem d_15_51_46 : decode prog_15_method_51_code 46 = .ok (.istore_n 3, 1) := by decide +kernel
theorem d_15_51_47 : decode prog_15_method_51_code 47 = .ok (.goto (-13), 3) := by decide +kernel
theorem d_15_51_22 : decode prog_15_method_51_code 22 = .ok (.ifCond .ge 8, 3) := by decide +kernel
theorem d_15_51_30 : decode prog_15_method_51_code 30 = .ok (.iload_n 1, 1) := by decide +kernel
theorem d_15_51_25 : decode prog_15_method_51_code 25 = .ok (.iload_n 1, 1) := by decide +kernel
theorem d_15_51_26 : decode prog_15_method_51_code 26 = .ok (.ineg, 1) := by decide +kernel
theorem d_15_51_27 : decode prog_15_method_51_code 27 = .ok (.goto 4, 3) := by decide +kernel
theorem d_15_51_8 : decode prog_15_method_51_code 8 = .ok (.ifCond .ge 8, 3) := by decide +kernel
theorem d_15_51_16 : decode prog_15_method_51_code 16 = .ok (.bipush 43, 2) := by decide +kernel
theorem d_15_51_11 : decode prog_15_method_51_code 11 = .ok (.bipush 45, 2) := by decide +kernel
theorem d_15_51_13 : decode prog_15_method_51_code 13 = .ok (.goto 5, 3) := by decide +kernel
def y_DR_exponent : MethodName := ⟨"NumberHouseModel$DecimalRows", "exponent", "(I)V"⟩
def F_DR_exponent_c64 (K_F_DR_exponent_L34 : Int32 → (Int32 × Int32 × Int32 × Int64 × Int32 × Int32 × Int32 × Int32 × Int32 × Int32 × Int32 × (Nat → Int32))) (K_F_DR_exponent_L50 : Int32 → Int32 → Int32 → Int32 → Int64 → Int32 → Int32 → Int32 → Int32 → Int32 → Int32 → Int32 → (Nat → Int32) → (Int32 × Int32 × Int32 × Int64 × Int32 × Int32 × Int32 × Int32 × Int32 × Int32 × Int32 × (Nat → Int32))) (x2 : Int32) (t0_0 : Int32) (t0_1 : Int32) (t0_2 : Int32) (t0_3 : Int64) (t0_4 : Int32) (t0_5 : Int32) (t0_6 : Int32) (t0_7 : Int32) (t0_8 : Int32) (t0_9 : Int32) (t0_10 : Int32) (t1_0 : (Nat → Int32)) (p62 : (Int32 × Int32 × Int32 × Int64 × Int32 × Int32 × Int32 × Int32 × Int32 × Int32 × Int32 × (Nat → Int32))) (y24 : Int32) (y25 : Int32) (y26 : Int32) (y27 : Int64) (y28 : Int32) (y29 : Int32) (y30 : Int32) (y31 : Int32) (y32 : Int32) (y33 : Int32) (y34 : Int32) (f35 : (Nat → Int32)) (lx81 : Int32) (p134 : (Int32 × Int32 × Int32 × Int64 × Int32 × Int32 × Int32 × Int32 × Int32 × Int32 × Int32 × (Nat → Int32))) (y96 : Int32) (y97 : Int32) (y98 : Int32) (y99 : Int64) (y100 : Int32) (y101 : Int32) (y102 : Int32) (y103 : Int32) (y104 : Int32) (y105 : Int32) (y106 : Int32) (f107 : (Nat → Int32)) (lx153 : Int32) (lx163 : Int32) (lx176 : Int32) (lx177 : Int32) (lx178 : Int32) (lx179 : Int32) (lx180 : Int64) (lx181 : Int32) (lx182 : Int32) (lx183 : Int32) (lx184 : Int32) (lx185 : Int32) (lx186 : Int32) (lx187 : Int32) (lx188 : (Nat → Int32)) (p280 : (Int32 × Int32 × Int32 × Int64 × Int32 × Int32 × Int32 × Int32 × Int32 × Int32 × Int32 × (Nat → Int32))) : Int32 × Int32 × Int32 × Int64 × Int32 × Int32 × Int32 × Int32 × Int32 × Int32 × Int32 × (Nat → Int32) := K_F_DR_exponent_L50 (lx176 / 10 : Int32) (p280.1 : Int32) (p280.2.1 : Int32) (p280.2.2.1 : Int32) (p280.2.2.2.1 : Int64) (p280.2.2.2.2.1 : Int32) (p280.2.2.2.2.2.1 : Int32) (p280.2.2.2.2.2.2.1 : Int32) (p280.2.2.2.2.2.2.2.1 : Int32) (p280.2.2.2.2.2.2.2.2.1 : Int32) (p280.2.2.2.2.2.2.2.2.2.1 : Int32) (p280.2.2.2.2.2.2.2.2.2.2.1 : Int32) (p280.2.2.2.2.2.2.2.2.2.2.2 : (Nat → Int32))
def F_DR_exponent_L50 (K_F_DR_exponent_L34 : Int32 → (Int32 × Int32 × Int32 × Int64 × Int32 × Int32 × Int32 × Int32 × Int32 × Int32 × Int32 × (Nat → Int32))) (x2 : Int32) (t0_0 : Int32) (t0_1 : Int32) (t0_2 : Int32) (t0_3 : Int64) (t0_4 : Int32) (t0_5 : Int32) (t0_6 : Int32) (t0_7 : Int32) (t0_8 : Int32) (t0_9 : Int32) (t0_10 : Int32) (t1_0 : (Nat → Int32)) (p62 : (Int32 × Int32 × Int32 × Int64 × Int32 × Int32 × Int32 × Int32 × Int32 × Int32 × Int32 × (Nat → Int32))) (y24 : Int32) (y25 : Int32) (y26 : Int32) (y27 : Int64) (y28 : Int32) (y29 : Int32) (y30 : Int32) (y31 : Int32) (y32 : Int32) (y33 : Int32) (y34 : Int32) (f35 : (Nat → Int32)) (lx81 : Int32) (p134 : (Int32 × Int32 × Int32 × Int64 × Int32 × Int32 × Int32 × Int32 × Int32 × Int32 × Int32 × (Nat → Int32))) (y96 : Int32) (y97 : Int32) (y98 : Int32) (y99 : Int64) (y100 : Int32) (y101 : Int32) (y102 : Int32) (y103 : Int32) (y104 : Int32) (y105 : Int32) (y106 : Int32) (f107 : (Nat → Int32)) (lx153 : Int32) (lx163 : Int32) : Nat → Int32 → Int32 → Int32 → Int32 → Int64 → Int32 → Int32 → Int32 → Int32 → Int32 → Int32 → Int32 → (Nat → Int32) → (Int32 × Int32 × Int32 × Int64 × Int32 × Int32 × Int32 × Int32 × Int32 × Int32 × Int32 × (Nat → Int32))
  | 0, _, _, _, _, _, _, _, _, _, _, _, _, _ => default
  | fm + 1, lx176, lx177, lx178, lx179, lx180, lx181, lx182, lx183, lx184, lx185, lx186, lx187, lx188 => if lx176 ≤ (0 : Int32) then ((lx177, lx178, lx179, lx180, lx181, lx182, lx183, lx184, lx185, lx186, lx187, lx188)) else (F_DR_exponent_c64 K_F_DR_exponent_L34 (F_DR_exponent_L50 K_F_DR_exponent_L34 x2 t0_0 t0_1 t0_2 t0_3 t0_4 t0_5 t0_6 t0_7 t0_8 t0_9 t0_10 t1_0 p62 y24 y25 y26 y27 y28 y29 y30 y31 y32 y33 y34 f35 lx81 p134 y96 y97 y98 y99 y100 y101 y102 y103 y104 y105 y106 f107 lx153 lx163 fm) x2 t0_0 t0_1 t0_2 t0_3 t0_4 t0_5 t0_6 t0_7 t0_8 t0_9 t0_10 t1_0 p62 y24 y25 y26 y27 y28 y29 y30 y31 y32 y33 y34 f35 lx81 p134 y96 y97 y98 y99 y100 y101 y102 y103 y104 y105 y106 f107 lx153 lx163 lx176 lx177 lx178 lx179 lx180 lx181 lx182 lx183 lx184 lx185 lx186 lx187 lx188 ((F_DR_print (48 + ((lx153 / lx176 : Int32) - (lx153 / lx176 : Int32) / 10 * 10 : Int32) : Int32) lx177 lx178 lx179 lx180 lx181 lx182 lx183 lx184 lx185 lx186 lx187 lx188) : (Int32 × Int32 × Int32 × Int64 × Int32 × Int32 × Int32 × Int32 × Int32 × Int32 × Int32 × (Nat → Int32))))
def F_DR_exponent_L34 (x2 : Int32) (t0_0 : Int32) (t0_1 : Int32) (t0_2 : Int32) (t0_3 : Int64) (t0_4 : Int32) (t0_5 : Int32) (t0_6 : Int32) (t0_7 : Int32) (t0_8 : Int32) (t0_9 : Int32) (t0_10 : Int32) (t1_0 : (Nat → Int32)) (p62 : (Int32 × Int32 × Int32 × Int64 × Int32 × Int32 × Int32 × Int32 × Int32 × Int32 × Int32 × (Nat → Int32))) (y24 : Int32) (y25 : Int32) (y26 : Int32) (y27 : Int64) (y28 : Int32) (y29 : Int32) (y30 : Int32) (y31 : Int32) (y32 : Int32) (y33 : Int32) (y34 : Int32) (f35 : (Nat → Int32)) (lx81 : Int32) (p134 : (Int32 × Int32 × Int32 × Int64 × Int32 × Int32 × Int32 × Int32 × Int32 × Int32 × Int32 × (Nat → Int32))) (y96 : Int32) (y97 : Int32) (y98 : Int32) (y99 : Int64) (y100 : Int32) (y101 : Int32) (y102 : Int32) (y103 : Int32) (y104 : Int32) (y105 : Int32) (y106 : Int32) (f107 : (Nat → Int32)) (lx153 : Int32) : Nat → Int32 → (Int32 × Int32 × Int32 × Int64 × Int32 × Int32 × Int32 × Int32 × Int32 × Int32 × Int32 × (Nat → Int32))
  | 0, _ => default
  | fm + 1, lx163 => if (lx153 / lx163 : Int32) ≤ (9 : Int32) then (F_DR_exponent_L50 (F_DR_exponent_L34 x2 t0_0 t0_1 t0_2 t0_3 t0_4 t0_5 t0_6 t0_7 t0_8 t0_9 t0_10 t1_0 p62 y24 y25 y26 y27 y28 y29 y30 y31 y32 y33 y34 f35 lx81 p134 y96 y97 y98 y99 y100 y101 y102 y103 y104 y105 y106 f107 lx153 fm) x2 t0_0 t0_1 t0_2 t0_3 t0_4 t0_5 t0_6 t0_7 t0_8 t0_9 t0_10 t1_0 p62 y24 y25 y26 y27 y28 y29 y30 y31 y32 y33 y34 f35 lx81 p134 y96 y97 y98 y99 y100 y101 y102 y103 y104 y105 y106 f107 lx153 lx163 ((lx163.toInt - ((-1))).toNat + 1) lx163 y96 y97 y98 y99 y100 y101 y102 y103 y104 y105 y106 f107) else (F_DR_exponent_L34 x2 t0_0 t0_1 t0_2 t0_3 t0_4 t0_5 t0_6 t0_7 t0_8 t0_9 t0_10 t1_0 p62 y24 y25 y26 y27 y28 y29 y30 y31 y32 y33 y34 f35 lx81 p134 y96 y97 y98 y99 y100 y101 y102 y103 y104 y105 y106 f107 lx153 fm (lx163 * 10 : Int32))
def F_DR_exponent_J31 (x2 : Int32) (t0_0 : Int32) (t0_1 : Int32) (t0_2 : Int32) (t0_3 : Int64) (t0_4 : Int32) (t0_5 : Int32) (t0_6 : Int32) (t0_7 : Int32) (t0_8 : Int32) (t0_9 : Int32) (t0_10 : Int32) (t1_0 : (Nat → Int32)) (p62 : (Int32 × Int32 × Int32 × Int64 × Int32 × Int32 × Int32 × Int32 × Int32 × Int32 × Int32 × (Nat → Int32))) (y24 : Int32) (y25 : Int32) (y26 : Int32) (y27 : Int64) (y28 : Int32) (y29 : Int32) (y30 : Int32) (y31 : Int32) (y32 : Int32) (y33 : Int32) (y34 : Int32) (f35 : (Nat → Int32)) (lx81 : Int32) (p134 : (Int32 × Int32 × Int32 × Int64 × Int32 × Int32 × Int32 × Int32 × Int32 × Int32 × Int32 × (Nat → Int32))) (y96 : Int32) (y97 : Int32) (y98 : Int32) (y99 : Int64) (y100 : Int32) (y101 : Int32) (y102 : Int32) (y103 : Int32) (y104 : Int32) (y105 : Int32) (y106 : Int32) (f107 : (Nat → Int32)) (lx153 : Int32) : Int32 × Int32 × Int32 × Int64 × Int32 × Int32 × Int32 × Int32 × Int32 × Int32 × Int32 × (Nat → Int32) := F_DR_exponent_L34 x2 t0_0 t0_1 t0_2 t0_3 t0_4 t0_5 t0_6 t0_7 t0_8 t0_9 t0_10 t1_0 p62 y24 y25 y26 y27 y28 y29 y30 y31 y32 y33 y34 f35 lx81 p134 y96 y97 y98 y99 y100 y101 y102 y103 y104 y105 y106 f107 lx153 1000000 1
def F_DR_exponent_c18 (x2 : Int32) (t0_0 : Int32) (t0_1 : Int32) (t0_2 : Int32) (t0_3 : Int64) (t0_4 : Int32) (t0_5 : Int32) (t0_6 : Int32) (t0_7 : Int32) (t0_8 : Int32) (t0_9 : Int32) (t0_10 : Int32) (t1_0 : (Nat → Int32)) (p62 : (Int32 × Int32 × Int32 × Int64 × Int32 × Int32 × Int32 × Int32 × Int32 × Int32 × Int32 × (Nat → Int32))) (y24 : Int32) (y25 : Int32) (y26 : Int32) (y27 : Int64) (y28 : Int32) (y29 : Int32) (y30 : Int32) (y31 : Int32) (y32 : Int32) (y33 : Int32) (y34 : Int32) (f35 : (Nat → Int32)) (lx81 : Int32) (p134 : (Int32 × Int32 × Int32 × Int64 × Int32 × Int32 × Int32 × Int32 × Int32 × Int32 × Int32 × (Nat → Int32))) : Int32 × Int32 × Int32 × Int64 × Int32 × Int32 × Int32 × Int32 × Int32 × Int32 × Int32 × (Nat → Int32) := if (0 : Int32) ≤ x2 then (F_DR_exponent_J31 x2 t0_0 t0_1 t0_2 t0_3 t0_4 t0_5 t0_6 t0_7 t0_8 t0_9 t0_10 t1_0 p62 y24 y25 y26 y27 y28 y29 y30 y31 y32 y33 y34 f35 lx81 p134 (p134.1 : Int32) (p134.2.1 : Int32) (p134.2.2.1 : Int32) (p134.2.2.2.1 : Int64) (p134.2.2.2.2.1 : Int32) (p134.2.2.2.2.2.1 : Int32) (p134.2.2.2.2.2.2.1 : Int32) (p134.2.2.2.2.2.2.2.1 : Int32) (p134.2.2.2.2.2.2.2.2.1 : Int32) (p134.2.2.2.2.2.2.2.2.2.1 : Int32) (p134.2.2.2.2.2.2.2.2.2.2.1 : Int32) (p134.2.2.2.2.2.2.2.2.2.2.2 : (Nat → Int32)) x2) else (F_DR_exponent_J31 x2 t0_0 t0_1 t0_2 t0_3 t0_4 t0_5 t0_6 t0_7 t0_8 t0_9 t0_10 t1_0 p62 y24 y25 y26 y27 y28 y29 y30 y31 y32 y33 y34 f35 lx81 p134 (p134.1 : Int32) (p134.2.1 : Int32) (p134.2.2.1 : Int32) (p134.2.2.2.1 : Int64) (p134.2.2.2.2.1 : Int32) (p134.2.2.2.2.2.1 : Int32) (p134.2.2.2.2.2.2.1 : Int32) (p134.2.2.2.2.2.2.2.1 : Int32) (p134.2.2.2.2.2.2.2.2.1 : Int32) (p134.2.2.2.2.2.2.2.2.2.1 : Int32) (p134.2.2.2.2.2.2.2.2.2.2.1 : Int32) (p134.2.2.2.2.2.2.2.2.2.2.2 : (Nat → Int32)) (-x2 : Int32))
def F_DR_exponent_J18 (x2 : Int32) (t0_0 : Int32) (t0_1 : Int32) (t0_2 : Int32) (t0_3 : Int64) (t0_4 : Int32) (t0_5 : Int32) (t0_6 : Int32) (t0_7 : Int32) (t0_8 : Int32) (t0_9 : Int32) (t0_10 : Int32) (t1_0 : (Nat → Int32)) (p62 : (Int32 × Int32 × Int32 × Int64 × Int32 × Int32 × Int32 × Int32 × Int32 × Int32 × Int32 × (Nat → Int32))) (y24 : Int32) (y25 : Int32) (y26 : Int32) (y27 : Int64) (y28 : Int32) (y29 : Int32) (y30 : Int32) (y31 : Int32) (y32 : Int32) (y33 : Int32) (y34 : Int32) (f35 : (Nat → Int32)) (lx81 : Int32) : Int32 × Int32 × Int32 × Int64 × Int32 × Int32 × Int32 × Int32 × Int32 × Int32 × Int32 × (Nat → Int32) := F_DR_exponent_c18 x2 t0_0 t0_1 t0_2 t0_3 t0_4 t0_5 t0_6 t0_7 t0_8 t0_9 t0_10 t1_0 p62 y24 y25 y26 y27 y28 y29 y30 y31 y32 y33 y34 f35 lx81 ((F_DR_print lx81 y24 y25 y26 y27 y28 y29 y30 y31 y32 y33 y34 f35) : (Int32 × Int32 × Int32 × Int64 × Int32 × Int32 × Int32 × Int32 × Int32 × Int32 × Int32 × (Nat → Int32)))
def F_DR_exponent_c3 (x2 : Int32) (t0_0 : Int32) (t0_1 : Int32) (t0_2 : Int32) (t0_3 : Int64) (t0_4 : Int32) (t0_5 : Int32) (t0_6 : Int32) (t0_7 : Int32) (t0_8 : Int32) (t0_9 : Int32) (t0_10 : Int32) (t1_0 : (Nat → Int32)) (p62 : (Int32 × Int32 × Int32 × Int64 × Int32 × Int32 × Int32 × Int32 × Int32 × Int32 × Int32 × (Nat → Int32))) : Int32 × Int32 × Int32 × Int64 × Int32 × Int32 × Int32 × Int32 × Int32 × Int32 × Int32 × (Nat → Int32) := if (0 : Int32) ≤ x2 then (F_DR_exponent_J18 x2 t0_0 t0_1 t0_2 t0_3 t0_4 t0_5 t0_6 t0_7 t0_8 t0_9 t0_10 t1_0 p62 (p62.1 : Int32) (p62.2.1 : Int32) (p62.2.2.1 : Int32) (p62.2.2.2.1 : Int64) (p62.2.2.2.2.1 : Int32) (p62.2.2.2.2.2.1 : Int32) (p62.2.2.2.2.2.2.1 : Int32) (p62.2.2.2.2.2.2.2.1 : Int32) (p62.2.2.2.2.2.2.2.2.1 : Int32) (p62.2.2.2.2.2.2.2.2.2.1 : Int32) (p62.2.2.2.2.2.2.2.2.2.2.1 : Int32) (p62.2.2.2.2.2.2.2.2.2.2.2 : (Nat → Int32)) 43) else (F_DR_exponent_J18 x2 t0_0 t0_1 t0_2 t0_3 t0_4 t0_5 t0_6 t0_7 t0_8 t0_9 t0_10 t1_0 p62 (p62.1 : Int32) (p62.2.1 : Int32) (p62.2.2.1 : Int32) (p62.2.2.2.1 : Int64) (p62.2.2.2.2.1 : Int32) (p62.2.2.2.2.2.1 : Int32) (p62.2.2.2.2.2.2.1 : Int32) (p62.2.2.2.2.2.2.2.1 : Int32) (p62.2.2.2.2.2.2.2.2.1 : Int32) (p62.2.2.2.2.2.2.2.2.2.1 : Int32) (p62.2.2.2.2.2.2.2.2.2.2.1 : Int32) (p62.2.2.2.2.2.2.2.2.2.2.2 : (Nat → Int32)) 45)
def F_DR_exponent (x2 : Int32) (t0_0 : Int32) (t0_1 : Int32) (t0_2 : Int32) (t0_3 : Int64) (t0_4 : Int32) (t0_5 : Int32) (t0_6 : Int32) (t0_7 : Int32) (t0_8 : Int32) (t0_9 : Int32) (t0_10 : Int32) (t1_0 : (Nat → Int32)) : Int32 × Int32 × Int32 × Int64 × Int32 × Int32 × Int32 × Int32 × Int32 × Int32 × Int32 × (Nat → Int32) := F_DR_exponent_c3 x2 t0_0 t0_1 t0_2 t0_3 t0_4 t0_5 t0_6 t0_7 t0_8 t0_9 t0_10 t1_0 ((F_DR_print (69 : Int32) t0_0 t0_1 t0_2 t0_3 t0_4 t0_5 t0_6 t0_7 t0_8 t0_9 t0_10 t1_0) : (Int32 × Int32 × Int32 × Int64 × Int32 × Int32 × Int32 × Int32 × Int32 × Int32 × Int32 × (Nat → Int32)))
def S_DR_exponent_c64 (K_S_DR_exponent_L34 : Int32 → Prop) (K_S_DR_exponent_L50 : Int32 → Int32 → Int32 → Int32 → Int64 → Int32 → Int32 → Int32 → Int32 → Int32 → Int32 → Int32 → (Nat → Int32) → Prop) (x2 : Int32) (t0_0 : Int32) (t0_1 : Int32) (t0_2 : Int32) (t0_3 : Int64) (t0_4 : Int32) (t0_5 : Int32) (t0_6 : Int32) (t0_7 : Int32) (t0_8 : Int32) (t0_9 : Int32) (t0_10 : Int32) (t1_0 : (Nat → Int32)) (p62 : (Int32 × Int32 × Int32 × Int64 × Int32 × Int32 × Int32 × Int32 × Int32 × Int32 × Int32 × (Nat → Int32))) (y24 : Int32) (y25 : Int32) (y26 : Int32) (y27 : Int64) (y28 : Int32) (y29 : Int32) (y30 : Int32) (y31 : Int32) (y32 : Int32) (y33 : Int32) (y34 : Int32) (f35 : (Nat → Int32)) (lx81 : Int32) (p134 : (Int32 × Int32 × Int32 × Int64 × Int32 × Int32 × Int32 × Int32 × Int32 × Int32 × Int32 × (Nat → Int32))) (y96 : Int32) (y97 : Int32) (y98 : Int32) (y99 : Int64) (y100 : Int32) (y101 : Int32) (y102 : Int32) (y103 : Int32) (y104 : Int32) (y105 : Int32) (y106 : Int32) (f107 : (Nat → Int32)) (lx153 : Int32) (lx163 : Int32) (lx176 : Int32) (lx177 : Int32) (lx178 : Int32) (lx179 : Int32) (lx180 : Int64) (lx181 : Int32) (lx182 : Int32) (lx183 : Int32) (lx184 : Int32) (lx185 : Int32) (lx186 : Int32) (lx187 : Int32) (lx188 : (Nat → Int32)) (p280 : (Int32 × Int32 × Int32 × Int64 × Int32 × Int32 × Int32 × Int32 × Int32 × Int32 × Int32 × (Nat → Int32))) : Prop := K_S_DR_exponent_L50 (lx176 / 10 : Int32) (p280.1 : Int32) (p280.2.1 : Int32) (p280.2.2.1 : Int32) (p280.2.2.2.1 : Int64) (p280.2.2.2.2.1 : Int32) (p280.2.2.2.2.2.1 : Int32) (p280.2.2.2.2.2.2.1 : Int32) (p280.2.2.2.2.2.2.2.1 : Int32) (p280.2.2.2.2.2.2.2.2.1 : Int32) (p280.2.2.2.2.2.2.2.2.2.1 : Int32) (p280.2.2.2.2.2.2.2.2.2.2.1 : Int32) (p280.2.2.2.2.2.2.2.2.2.2.2 : (Nat → Int32))
def S_DR_exponent_L50 (K_S_DR_exponent_L34 : Int32 → Prop) (x2 : Int32) (t0_0 : Int32) (t0_1 : Int32) (t0_2 : Int32) (t0_3 : Int64) (t0_4 : Int32) (t0_5 : Int32) (t0_6 : Int32) (t0_7 : Int32) (t0_8 : Int32) (t0_9 : Int32) (t0_10 : Int32) (t1_0 : (Nat → Int32)) (p62 : (Int32 × Int32 × Int32 × Int64 × Int32 × Int32 × Int32 × Int32 × Int32 × Int32 × Int32 × (Nat → Int32))) (y24 : Int32) (y25 : Int32) (y26 : Int32) (y27 : Int64) (y28 : Int32) (y29 : Int32) (y30 : Int32) (y31 : Int32) (y32 : Int32) (y33 : Int32) (y34 : Int32) (f35 : (Nat → Int32)) (lx81 : Int32) (p134 : (Int32 × Int32 × Int32 × Int64 × Int32 × Int32 × Int32 × Int32 × Int32 × Int32 × Int32 × (Nat → Int32))) (y96 : Int32) (y97 : Int32) (y98 : Int32) (y99 : Int64) (y100 : Int32) (y101 : Int32) (y102 : Int32) (y103 : Int32) (y104 : Int32) (y105 : Int32) (y106 : Int32) (f107 : (Nat → Int32)) (lx153 : Int32) (lx163 : Int32) : Nat → Int32 → Int32 → Int32 → Int32 → Int64 → Int32 → Int32 → Int32 → Int32 → Int32 → Int32 → Int32 → (Nat → Int32) → Prop
  | 0, _, _, _, _, _, _, _, _, _, _, _, _, _ => False
  | fm + 1, lx176, lx177, lx178, lx179, lx180, lx181, lx182, lx183, lx184, lx185, lx186, lx187, lx188 => if lx176 ≤ (0 : Int32) then (True) else ((True ∧ S_DR_print (48 + ((lx153 / lx176 : Int32) - (lx153 / lx176 : Int32) / 10 * 10 : Int32) : Int32) lx177 lx178 lx179 lx180 lx181 lx182 lx183 lx184 lx185 lx186 lx187 lx188) ∧ (S_DR_exponent_c64 K_S_DR_exponent_L34 (S_DR_exponent_L50 K_S_DR_exponent_L34 x2 t0_0 t0_1 t0_2 t0_3 t0_4 t0_5 t0_6 t0_7 t0_8 t0_9 t0_10 t1_0 p62 y24 y25 y26 y27 y28 y29 y30 y31 y32 y33 y34 f35 lx81 p134 y96 y97 y98 y99 y100 y101 y102 y103 y104 y105 y106 f107 lx153 lx163 fm) x2 t0_0 t0_1 t0_2 t0_3 t0_4 t0_5 t0_6 t0_7 t0_8 t0_9 t0_10 t1_0 p62 y24 y25 y26 y27 y28 y29 y30 y31 y32 y33 y34 f35 lx81 p134 y96 y97 y98 y99 y100 y101 y102 y103 y104 y105 y106 f107 lx153 lx163 lx176 lx177 lx178 lx179 lx180 lx181 lx182 lx183 lx184 lx185 lx186 lx187 lx188 ((F_DR_print (48 + ((lx153 / lx176 : Int32) - (lx153 / lx176 : Int32) / 10 * 10 : Int32) : Int32) lx177 lx178 lx179 lx180 lx181 lx182 lx183 lx184 lx185 lx186 lx187 lx188) : (Int32 × Int32 × Int32 × Int64 × Int32 × Int32 × Int32 × Int32 × Int32 × Int32 × Int32 × (Nat → Int32)))))
def S_DR_exponent_L34 (x2 : Int32) (t0_0 : Int32) (t0_1 : Int32) (t0_2 : Int32) (t0_3 : Int64) (t0_4 : Int32) (t0_5 : Int32) (t0_6 : Int32) (t0_7 : Int32) (t0_8 : Int32) (t0_9 : Int32) (t0_10 : Int32) (t1_0 : (Nat → Int32)) (p62 : (Int32 × Int32 × Int32 × Int64 × Int32 × Int32 × Int32 × Int32 × Int32 × Int32 × Int32 × (Nat → Int32))) (y24 : Int32) (y25 : Int32) (y26 : Int32) (y27 : Int64) (y28 : Int32) (y29 : Int32) (y30 : Int32) (y31 : Int32) (y32 : Int32) (y33 : Int32) (y34 : Int32) (f35 : (Nat → Int32)) (lx81 : Int32) (p134 : (Int32 × Int32 × Int32 × Int64 × Int32 × Int32 × Int32 × Int32 × Int32 × Int32 × Int32 × (Nat → Int32))) (y96 : Int32) (y97 : Int32) (y98 : Int32) (y99 : Int64) (y100 : Int32) (y101 : Int32) (y102 : Int32) (y103 : Int32) (y104 : Int32) (y105 : Int32) (y106 : Int32) (f107 : (Nat → Int32)) (lx153 : Int32) : Nat → Int32 → Prop
  | 0, _ => False
  | fm + 1, lx163 => (1 ≤ lx163.toInt) ∧ (if (lx153 / lx163 : Int32) ≤ (9 : Int32) then (S_DR_exponent_L50 (S_DR_exponent_L34 x2 t0_0 t0_1 t0_2 t0_3 t0_4 t0_5 t0_6 t0_7 t0_8 t0_9 t0_10 t1_0 p62 y24 y25 y26 y27 y28 y29 y30 y31 y32 y33 y34 f35 lx81 p134 y96 y97 y98 y99 y100 y101 y102 y103 y104 y105 y106 f107 lx153 fm) x2 t0_0 t0_1 t0_2 t0_3 t0_4 t0_5 t0_6 t0_7 t0_8 t0_9 t0_10 t1_0 p62 y24 y25 y26 y27 y28 y29 y30 y31 y32 y33 y34 f35 lx81 p134 y96 y97 y98 y99 y100 y101 y102 y103 y104 y105 y106 f107 lx153 lx163 ((lx163.toInt - ((-1))).toNat + 1) lx163 y96 y97 y98 y99 y100 y101 y102 y103 y104 y105 y106 f107) else (S_DR_exponent_L34 x2 t0_0 t0_1 t0_2 t0_3 t0_4 t0_5 t0_6 t0_7 t0_8 t0_9 t0_10 t1_0 p62 y24 y25 y26 y27 y28 y29 y30 y31 y32 y33 y34 f35 lx81 p134 y96 y97 y98 y99 y100 y101 y102 y103 y104 y105 y106 f107 lx153 fm (lx163 * 10 : Int32)))
def S_DR_exponent_J31 (x2 : Int32) (t0_0 : Int32) (t0_1 : Int32) (t0_2 : Int32) (t0_3 : Int64) (t0_4 : Int32) (t0_5 : Int32) (t0_6 : Int32) (t0_7 : Int32) (t0_8 : Int32) (t0_9 : Int32) (t0_10 : Int32) (t1_0 : (Nat → Int32)) (p62 : (Int32 × Int32 × Int32 × Int64 × Int32 × Int32 × Int32 × Int32 × Int32 × Int32 × Int32 × (Nat → Int32))) (y24 : Int32) (y25 : Int32) (y26 : Int32) (y27 : Int64) (y28 : Int32) (y29 : Int32) (y30 : Int32) (y31 : Int32) (y32 : Int32) (y33 : Int32) (y34 : Int32) (f35 : (Nat → Int32)) (lx81 : Int32) (p134 : (Int32 × Int32 × Int32 × Int64 × Int32 × Int32 × Int32 × Int32 × Int32 × Int32 × Int32 × (Nat → Int32))) (y96 : Int32) (y97 : Int32) (y98 : Int32) (y99 : Int64) (y100 : Int32) (y101 : Int32) (y102 : Int32) (y103 : Int32) (y104 : Int32) (y105 : Int32) (y106 : Int32) (f107 : (Nat → Int32)) (lx153 : Int32) : Prop := S_DR_exponent_L34 x2 t0_0 t0_1 t0_2 t0_3 t0_4 t0_5 t0_6 t0_7 t0_8 t0_9 t0_10 t1_0 p62 y24 y25 y26 y27 y28 y29 y30 y31 y32 y33 y34 f35 lx81 p134 y96 y97 y98 y99 y100 y101 y102 y103 y104 y105 y106 f107 lx153 1000000 1
def S_DR_exponent_c18 (x2 : Int32) (t0_0 : Int32) (t0_1 : Int32) (t0_2 : Int32) (t0_3 : Int64) (t0_4 : Int32) (t0_5 : Int32) (t0_6 : Int32) (t0_7 : Int32) (t0_8 : Int32) (t0_9 : Int32) (t0_10 : Int32) (t1_0 : (Nat → Int32)) (p62 : (Int32 × Int32 × Int32 × Int64 × Int32 × Int32 × Int32 × Int32 × Int32 × Int32 × Int32 × (Nat → Int32))) (y24 : Int32) (y25 : Int32) (y26 : Int32) (y27 : Int64) (y28 : Int32) (y29 : Int32) (y30 : Int32) (y31 : Int32) (y32 : Int32) (y33 : Int32) (y34 : Int32) (f35 : (Nat → Int32)) (lx81 : Int32) (p134 : (Int32 × Int32 × Int32 × Int64 × Int32 × Int32 × Int32 × Int32 × Int32 × Int32 × Int32 × (Nat → Int32))) : Prop := if (0 : Int32) ≤ x2 then (S_DR_exponent_J31 x2 t0_0 t0_1 t0_2 t0_3 t0_4 t0_5 t0_6 t0_7 t0_8 t0_9 t0_10 t1_0 p62 y24 y25 y26 y27 y28 y29 y30 y31 y32 y33 y34 f35 lx81 p134 (p134.1 : Int32) (p134.2.1 : Int32) (p134.2.2.1 : Int32) (p134.2.2.2.1 : Int64) (p134.2.2.2.2.1 : Int32) (p134.2.2.2.2.2.1 : Int32) (p134.2.2.2.2.2.2.1 : Int32) (p134.2.2.2.2.2.2.2.1 : Int32) (p134.2.2.2.2.2.2.2.2.1 : Int32) (p134.2.2.2.2.2.2.2.2.2.1 : Int32) (p134.2.2.2.2.2.2.2.2.2.2.1 : Int32) (p134.2.2.2.2.2.2.2.2.2.2.2 : (Nat → Int32)) x2) else (S_DR_exponent_J31 x2 t0_0 t0_1 t0_2 t0_3 t0_4 t0_5 t0_6 t0_7 t0_8 t0_9 t0_10 t1_0 p62 y24 y25 y26 y27 y28 y29 y30 y31 y32 y33 y34 f35 lx81 p134 (p134.1 : Int32) (p134.2.1 : Int32) (p134.2.2.1 : Int32) (p134.2.2.2.1 : Int64) (p134.2.2.2.2.1 : Int32) (p134.2.2.2.2.2.1 : Int32) (p134.2.2.2.2.2.2.1 : Int32) (p134.2.2.2.2.2.2.2.1 : Int32) (p134.2.2.2.2.2.2.2.2.1 : Int32) (p134.2.2.2.2.2.2.2.2.2.1 : Int32) (p134.2.2.2.2.2.2.2.2.2.2.1 : Int32) (p134.2.2.2.2.2.2.2.2.2.2.2 : (Nat → Int32)) (-x2 : Int32))
def S_DR_exponent_J18 (x2 : Int32) (t0_0 : Int32) (t0_1 : Int32) (t0_2 : Int32) (t0_3 : Int64) (t0_4 : Int32) (t0_5 : Int32) (t0_6 : Int32) (t0_7 : Int32) (t0_8 : Int32) (t0_9 : Int32) (t0_10 : Int32) (t1_0 : (Nat → Int32)) (p62 : (Int32 × Int32 × Int32 × Int64 × Int32 × Int32 × Int32 × Int32 × Int32 × Int32 × Int32 × (Nat → Int32))) (y24 : Int32) (y25 : Int32) (y26 : Int32) (y27 : Int64) (y28 : Int32) (y29 : Int32) (y30 : Int32) (y31 : Int32) (y32 : Int32) (y33 : Int32) (y34 : Int32) (f35 : (Nat → Int32)) (lx81 : Int32) : Prop := (True ∧ S_DR_print lx81 y24 y25 y26 y27 y28 y29 y30 y31 y32 y33 y34 f35) ∧ (S_DR_exponent_c18 x2 t0_0 t0_1 t0_2 t0_3 t0_4 t0_5 t0_6 t0_7 t0_8 t0_9 t0_10 t1_0 p62 y24 y25 y26 y27 y28 y29 y30 y31 y32 y33 y34 f35 lx81 ((F_DR_print lx81 y24 y25 y26 y27 y28 y29 y30 y31 y32 y33 y34 f35) : (Int32 × Int32 × Int32 × Int64 × Int32 × Int32 × Int32 × Int32 × Int32 × Int32 × Int32 × (Nat → Int32))))
def S_DR_exponent_c3 (x2 : Int32) (t0_0 : Int32) (t0_1 : Int32) (t0_2 : Int32) (t0_3 : Int64) (t0_4 : Int32) (t0_5 : Int32) (t0_6 : Int32) (t0_7 : Int32) (t0_8 : Int32) (t0_9 : Int32) (t0_10 : Int32) (t1_0 : (Nat → Int32)) (p62 : (Int32 × Int32 × Int32 × Int64 × Int32 × Int32 × Int32 × Int32 × Int32 × Int32 × Int32 × (Nat → Int32))) : Prop := if (0 : Int32) ≤ x2 then (S_DR_exponent_J18 x2 t0_0 t0_1 t0_2 t0_3 t0_4 t0_5 t0_6 t0_7 t0_8 t0_9 t0_10 t1_0 p62 (p62.1 : Int32) (p62.2.1 : Int32) (p62.2.2.1 : Int32) (p62.2.2.2.1 : Int64) (p62.2.2.2.2.1 : Int32) (p62.2.2.2.2.2.1 : Int32) (p62.2.2.2.2.2.2.1 : Int32) (p62.2.2.2.2.2.2.2.1 : Int32) (p62.2.2.2.2.2.2.2.2.1 : Int32) (p62.2.2.2.2.2.2.2.2.2.1 : Int32) (p62.2.2.2.2.2.2.2.2.2.2.1 : Int32) (p62.2.2.2.2.2.2.2.2.2.2.2 : (Nat → Int32)) 43) else (S_DR_exponent_J18 x2 t0_0 t0_1 t0_2 t0_3 t0_4 t0_5 t0_6 t0_7 t0_8 t0_9 t0_10 t1_0 p62 (p62.1 : Int32) (p62.2.1 : Int32) (p62.2.2.1 : Int32) (p62.2.2.2.1 : Int64) (p62.2.2.2.2.1 : Int32) (p62.2.2.2.2.2.1 : Int32) (p62.2.2.2.2.2.2.1 : Int32) (p62.2.2.2.2.2.2.2.1 : Int32) (p62.2.2.2.2.2.2.2.2.1 : Int32) (p62.2.2.2.2.2.2.2.2.2.1 : Int32) (p62.2.2.2.2.2.2.2.2.2.2.1 : Int32) (p62.2.2.2.2.2.2.2.2.2.2.2 : (Nat → Int32)) 45)
def S_DR_exponent (x2 : Int32) (t0_0 : Int32) (t0_1 : Int32) (t0_2 : Int32) (t0_3 : Int64) (t0_4 : Int32) (t0_5 : Int32) (t0_6 : Int32) (t0_7 : Int32) (t0_8 : Int32) (t0_9 : Int32) (t0_10 : Int32) (t1_0 : (Nat → Int32)) : Prop := (True ∧ S_DR_print (69 : Int32) t0_0 t0_1 t0_2 t0_3 t0_4 t0_5 t0_6 t0_7 t0_8 t0_9 t0_10 t1_0) ∧ (S_DR_exponent_c3 x2 t0_0 t0_1 t0_2 t0_3 t0_4 t0_5 t0_6 t0_7 t0_8 t0_9 t0_10 t1_0 ((F_DR_print (69 : Int32) t0_0 t0_1 t0_2 t0_3 t0_4 t0_5 t0_6 t0_7 t0_8 t0_9 t0_10 t1_0) : (Int32 × Int32 × Int32 × Int64 × Int32 × Int32 × Int32 × Int32 × Int32 × Int32 × Int32 × (Nat → Int32))))
set_option maxRecDepth 100000 in
set_option maxHeartbeats 4000000 in
theorem X_DR_exponent (l : Launch) (D : va_G) (g : Nat → ClassId) (q : Nat → Nat) (ws : va_W) (x2 : Int32) (hI : q_I (msh g q) q ws) (t0_0 : Int32) (t0_1 : Int32) (t0_2 : Int32) (t0_3 : Int64) (t0_4 : Int32) (t0_5 : Int32) (t0_6 : Int32) (t0_7 : Int32) (t0_8 : Int32) (t0_9 : Int32) (t0_10 : Int32) (hT0 : ws[134]? = (some (q 134, .inr (14, [.int t0_0, .ref (q 135), .int t0_1, .ref (q 136), .ref (q 137), .ref (q 138), .ref (q 139), .ref (q 140), .int t0_2, .long t0_3, .int t0_4, .int t0_5, .ref (q 141), .int t0_6, .ref (q 142), .int t0_7, .ref (q 143), .int t0_8, .ref (q 144), .int t0_9, .int t0_10])) : Option (Nat × va_E))) (t1_0 : (Nat → Int32)) (hT1 : ws[144]? = (some (q 144, .inl (g 0, (12200 : Int32).toNatClampNeg, .inl t1_0)) : Option (Nat × va_E))) (hS : True ∧ S_DR_exponent x2 t0_0 t0_1 t0_2 t0_3 t0_4 t0_5 t0_6 t0_7 t0_8 t0_9 t0_10 t1_0) : q_mV l y_DR_exponent prog_15_method_51_code 4 2 0 0 D g [.ref (q 134), .int x2] ws (fun u => q_I (msh g q) q u ∧ q_un ws u [134, 144] ∧ ∃ (u0_0 : Int32) (u0_1 : Int32) (u0_2 : Int32) (u0_3 : Int64) (u0_4 : Int32) (u0_5 : Int32) (u0_6 : Int32) (u0_7 : Int32) (u0_8 : Int32) (u0_9 : Int32) (u0_10 : Int32) (u1_0 : (Nat → Int32)), u[134]? = (some (q 134, .inr (14, [.int u0_0, .ref (q 135), .int u0_1, .ref (q 136), .ref (q 137), .ref (q 138), .ref (q 139), .ref (q 140), .int u0_2, .long u0_3, .int u0_4, .int u0_5, .ref (q 141), .int u0_6, .ref (q 142), .int u0_7, .ref (q 143), .int u0_8, .ref (q 144), .int u0_9, .int u0_10])) : Option (Nat × va_E)) ∧ u[144]? = (some (q 144, .inl (g 0, (12200 : Int32).toNatClampNeg, .inl u1_0)) : Option (Nat × va_E)) ∧ (u0_9.toInt ≤ 12200) ∧ (t0_0.toInt ≤ u0_0.toInt) ∧ (u0_0.toInt ≤ t0_0.toInt) ∧ (t0_1.toInt ≤ u0_1.toInt) ∧ (u0_1.toInt ≤ t0_1.toInt) ∧ (t0_2.toInt ≤ u0_2.toInt) ∧ (u0_2.toInt ≤ t0_2.toInt) ∧ (t0_3.toInt ≤ u0_3.toInt) ∧ (u0_3.toInt ≤ t0_3.toInt) ∧ (t0_4.toInt ≤ u0_4.toInt) ∧ (u0_4.toInt ≤ t0_4.toInt) ∧ (t0_5.toInt ≤ u0_5.toInt) ∧ (u0_5.toInt ≤ t0_5.toInt) ∧ (t0_6.toInt ≤ u0_6.toInt) ∧ (u0_6.toInt ≤ t0_6.toInt) ∧ (t0_7.toInt ≤ u0_7.toInt) ∧ (u0_7.toInt ≤ t0_7.toInt) ∧ (t0_8.toInt ≤ u0_8.toInt) ∧ (u0_8.toInt ≤ t0_8.toInt) ∧ (t0_9.toInt + 2 ≤ u0_9.toInt) ∧ (t0_10.toInt ≤ u0_10.toInt) ∧ (u0_10.toInt ≤ t0_10.toInt) ∧ (u0_0, u0_1, u0_2, u0_3, u0_4, u0_5, u0_6, u0_7, u0_8, u0_9, u0_10, u1_0) = (F_DR_exponent x2 t0_0 t0_1 t0_2 t0_3 t0_4 t0_5 t0_6 t0_7 t0_8 t0_9 t0_10 t1_0)) := by
  intro sz
  refine q_into (by decide) (Nat.le_of_ble_eq_true rfl) ?_
  intro p e s m below meth c ls hsz C0 V hl
  have hx := C0.1
  have hb := C0.2.1
  obtain ⟨btt0_1, hZ9⟩ := n_w134 hI hT0
  obtain ⟨btt0_4, hZ9⟩ := hZ9
  obtain ⟨btt0_5, btt0_9⟩ := hZ9
  replace btt0_1 : q_F (0 ≤ t0_1.toInt ∧ t0_1.toInt ≤ 4100) := btt0_1
  replace btt0_4 : q_F (0 ≤ t0_4.toInt ∧ t0_4.toInt ≤ 1) := btt0_4
  replace btt0_5 : q_F (0 ≤ t0_5.toInt ∧ t0_5.toInt ≤ 1) := btt0_5
  replace btt0_9 : q_F (0 ≤ t0_9.toInt ∧ t0_9.toInt ≤ 12200) := btt0_9
  have hF : q_un ws ws [134, 144] := q_u0
  have hl : lv_has ls 4 [(0, .ref (q 134)), (1, .int x2)] := hl
  refine lv_aload_n hx hb d_15_51_0 rfl (lv_at hl 0 rfl) ?_
  refine lv_bipush (v := 69) hx hb d_15_51_1 (by decide) ?_
  have ob20 : True ∧ S_DR_print (69 : Int32) t0_0 t0_1 t0_2 t0_3 t0_4 t0_5 t0_6 t0_7 t0_8 t0_9 t0_10 t1_0 := (by have h := hS; rw [S_DR_exponent.eq_1] at h; with_reducible exact h.2.1)
  refine q_gov V (q_runV (As := [.int 69]) (rest := []) (d := 1) (mc := 0) (ms := 0) (ci := 14) C0 V rfl LV_DR_189 (X_DR_print l D g q ws  69 hI t0_0 t0_1 t0_2 t0_3 t0_4 t0_5 t0_6 t0_7 t0_8 t0_9 t0_10 hT0 t1_0 hT1 ob20 _) rfl rfl hT0 rfl hl.1 rfl (Nat.le_of_ble_eq_true rfl) ⟨by decide, by decide⟩ ⟨Nat.le_of_ble_eq_true rfl, Nat.le_of_ble_eq_true rfl⟩ d_15_51_3) (fun u21 H locs hp22 V => ?_)
  obtain ⟨hI, hZ9⟩ := hp22
  obtain ⟨hu61, hZ9⟩ := hZ9
  obtain ⟨y24, hZ9⟩ := hZ9
  obtain ⟨y25, hZ9⟩ := hZ9
  obtain ⟨y26, hZ9⟩ := hZ9
  obtain ⟨y27, hZ9⟩ := hZ9
  obtain ⟨y28, hZ9⟩ := hZ9
  obtain ⟨y29, hZ9⟩ := hZ9
  obtain ⟨y30, hZ9⟩ := hZ9
  obtain ⟨y31, hZ9⟩ := hZ9
  obtain ⟨y32, hZ9⟩ := hZ9
  obtain ⟨y33, hZ9⟩ := hZ9
  obtain ⟨y34, hZ9⟩ := hZ9
  obtain ⟨f35, hZ9⟩ := hZ9
  obtain ⟨hO23, hZ9⟩ := hZ9
  obtain ⟨hA36, hZ9⟩ := hZ9
  replace hZ9 := hZ9.2
  obtain ⟨b38, hZ9⟩ := hZ9
  obtain ⟨b39, hZ9⟩ := hZ9
  obtain ⟨b40, hZ9⟩ := hZ9
  obtain ⟨b41, hZ9⟩ := hZ9
  obtain ⟨b42, hZ9⟩ := hZ9
  obtain ⟨b43, hZ9⟩ := hZ9
  obtain ⟨b44, hZ9⟩ := hZ9
  obtain ⟨b45, hZ9⟩ := hZ9
  obtain ⟨b46, hZ9⟩ := hZ9
  obtain ⟨b47, hZ9⟩ := hZ9
  obtain ⟨b48, hZ9⟩ := hZ9
  obtain ⟨b49, hZ9⟩ := hZ9
  obtain ⟨b50, hZ9⟩ := hZ9
  obtain ⟨b51, hZ9⟩ := hZ9
  obtain ⟨b52, hZ9⟩ := hZ9
  obtain ⟨b53, hZ9⟩ := hZ9
  obtain ⟨b54, hZ9⟩ := hZ9
  obtain ⟨b55, hZ9⟩ := hZ9
  obtain ⟨b56, hZ9⟩ := hZ9
  replace hZ9 := hZ9.2
  obtain ⟨b58, hZ9⟩ := hZ9
  obtain ⟨b59, hE60⟩ := hZ9
  replace hO23 : u21[134]? = (some (q 134, .inr (14, [.int y24, .ref (q 135), .int y25, .ref (q 136), .ref (q 137), .ref (q 138), .ref (q 139), .ref (q 140), .int y26, .long y27, .int y28, .int y29, .ref (q 141), .int y30, .ref (q 142), .int y31, .ref (q 143), .int y32, .ref (q 144), .int y33, .int y34])) : Option (Nat × va_E)) := hO23
  replace hA36 : u21[144]? = (some (q 144, .inl (g 0, (12200 : Int32).toNatClampNeg, .inl f35)) : Option (Nat × va_E)) := hA36
  obtain ⟨p62, e63⟩ : ∃ z, z = (F_DR_print (69 : Int32) t0_0 t0_1 t0_2 t0_3 t0_4 t0_5 t0_6 t0_7 t0_8 t0_9 t0_10 t1_0) := ⟨_, rfl⟩
  have e64 : y24 = p62.1 := congrArg (fun z => z.1) (hE60.trans e63.symm)
  have e65 : y25 = p62.2.1 := congrArg (fun z => z.2.1) (hE60.trans e63.symm)
  have e66 : y26 = p62.2.2.1 := congrArg (fun z => z.2.2.1) (hE60.trans e63.symm)
  have e67 : y27 = p62.2.2.2.1 := congrArg (fun z => z.2.2.2.1) (hE60.trans e63.symm)
  have e68 : y28 = p62.2.2.2.2.1 := congrArg (fun z => z.2.2.2.2.1) (hE60.trans e63.symm)
  have e69 : y29 = p62.2.2.2.2.2.1 := congrArg (fun z => z.2.2.2.2.2.1) (hE60.trans e63.symm)
  have e70 : y30 = p62.2.2.2.2.2.2.1 := congrArg (fun z => z.2.2.2.2.2.2.1) (hE60.trans e63.symm)
  have e71 : y31 = p62.2.2.2.2.2.2.2.1 := congrArg (fun z => z.2.2.2.2.2.2.2.1) (hE60.trans e63.symm)
  have e72 : y32 = p62.2.2.2.2.2.2.2.2.1 := congrArg (fun z => z.2.2.2.2.2.2.2.2.1) (hE60.trans e63.symm)
  have e73 : y33 = p62.2.2.2.2.2.2.2.2.2.1 := congrArg (fun z => z.2.2.2.2.2.2.2.2.2.1) (hE60.trans e63.symm)
  have e74 : y34 = p62.2.2.2.2.2.2.2.2.2.2.1 := congrArg (fun z => z.2.2.2.2.2.2.2.2.2.2.1) (hE60.trans e63.symm)
  have e75 : f35 = p62.2.2.2.2.2.2.2.2.2.2.2 := congrArg (fun z => z.2.2.2.2.2.2.2.2.2.2.2) (hE60.trans e63.symm)
  replace b38 : q_F (t0_0.toInt ≤ y24.toInt) := b38
  replace b39 : q_F (y24.toInt ≤ t0_0.toInt) := b39
  replace b40 : q_F (t0_1.toInt ≤ y25.toInt) := b40
  replace b41 : q_F (y25.toInt ≤ t0_1.toInt) := b41
  replace b42 : q_F (t0_2.toInt ≤ y26.toInt) := b42
  replace b43 : q_F (y26.toInt ≤ t0_2.toInt) := b43
  replace b44 : q_F (t0_3.toInt ≤ y27.toInt) := b44
  replace b45 : q_F (y27.toInt ≤ t0_3.toInt) := b45
  replace b46 : q_F (t0_4.toInt ≤ y28.toInt) := b46
  replace b47 : q_F (y28.toInt ≤ t0_4.toInt) := b47
  replace b48 : q_F (t0_5.toInt ≤ y29.toInt) := b48
  replace b49 : q_F (y29.toInt ≤ t0_5.toInt) := b49
  replace b50 : q_F (t0_6.toInt ≤ y30.toInt) := b50
  replace b51 : q_F (y30.toInt ≤ t0_6.toInt) := b51
  replace b52 : q_F (t0_7.toInt ≤ y31.toInt) := b52
  replace b53 : q_F (y31.toInt ≤ t0_7.toInt) := b53
  replace b54 : q_F (t0_8.toInt ≤ y32.toInt) := b54
  replace b55 : q_F (y32.toInt ≤ t0_8.toInt) := b55
  replace b56 : q_F (t0_9.toInt + 1 ≤ y33.toInt) := b56
  replace b58 : q_F (t0_10.toInt ≤ y34.toInt) := b58
  replace b59 : q_F (y34.toInt ≤ t0_10.toInt) := b59
  replace hF := q_uc hF hu61 (by simp)
  have hR76 := (show F_DR_exponent_c3 x2 t0_0 t0_1 t0_2 t0_3 t0_4 t0_5 t0_6 t0_7 t0_8 t0_9 t0_10 t1_0 p62 = (F_DR_exponent x2 t0_0 t0_1 t0_2 t0_3 t0_4 t0_5 t0_6 t0_7 t0_8 t0_9 t0_10 t1_0) from (by rw [e63, F_DR_exponent.eq_1]))
  have hS77 := (show True ∧ S_DR_exponent_c3 x2 t0_0 t0_1 t0_2 t0_3 t0_4 t0_5 t0_6 t0_7 t0_8 t0_9 t0_10 t1_0 p62 from (by rw [e63]; have h := hS; rw [S_DR_exponent.eq_1] at h; replace h := q_s2 h; with_reducible exact h))
  refine lv_aload_n hx hb d_15_51_6 rfl (lv_at hl 0 rfl) ?_
  refine lv_iload_n hx hb d_15_51_7 rfl (lv_at hl 1 rfl) ?_
  refine q_join (X := Int32) (fun z H locs ls _ => q_F (43 ≤ z.toInt) ∧ q_F (z.toInt ≤ 45) ∧ q_Wd D g (va_A ws sz) s u21 H locs ∧ lv_has ls 4 [(0, .ref (q 134)), (1, .int x2)] ∧ F_DR_exponent_J18 x2 t0_0 t0_1 t0_2 t0_3 t0_4 t0_5 t0_6 t0_7 t0_8 t0_9 t0_10 t1_0 p62 y24 y25 y26 y27 y28 y29 y30 y31 y32 y33 y34 f35 z = (F_DR_exponent x2 t0_0 t0_1 t0_2 t0_3 t0_4 t0_5 t0_6 t0_7 t0_8 t0_9 t0_10 t1_0) ∧ True ∧ S_DR_exponent_J18 x2 t0_0 t0_1 t0_2 t0_3 t0_4 t0_5 t0_6 t0_7 t0_8 t0_9 t0_10 t1_0 p62 y24 y25 y26 y27 y28 y29 y30 y31 y32 y33 y34 f35 z) (fun z => [.int z, .ref (q 134)]) 18 0 0 ?_ ?_
  ·
    rintro lx81 H locs ls _ hZ9
    replace hZ9 := hZ9.2.2
    obtain ⟨V, hZ9⟩ := hZ9
    obtain ⟨hl, hZ9⟩ := hZ9
    obtain ⟨hR87, hS88⟩ := hZ9
    replace hl : lv_has ls 4 [(0, .ref (q 134)), (1, .int x2)] := hl
    have ob92 : True ∧ S_DR_print lx81 y24 y25 y26 y27 y28 y29 y30 y31 y32 y33 y34 f35 := (by have h := hS88; rw [S_DR_exponent_J18.eq_1] at h; with_reducible exact h.2.1)
    refine q_gov V (q_runV (As := [.int lx81]) (rest := []) (d := 1) (mc := 0) (ms := 0) (ci := 14) C0 V rfl LV_DR_189 (X_DR_print l D g q u21  lx81 hI y24 y25 y26 y27 y28 y29 y30 y31 y32 y33 y34 hO23 f35 hA36 ob92 _) rfl rfl hO23 rfl hl.1 rfl (Nat.le_of_ble_eq_true rfl) ⟨by decide, by decide⟩ ⟨Nat.le_of_ble_eq_true rfl, Nat.le_of_ble_eq_true rfl⟩ d_15_51_18) (fun u93 H locs hp94 V => ?_)
    obtain ⟨hI, hZ9⟩ := hp94
    obtain ⟨hu133, hZ9⟩ := hZ9
    obtain ⟨y96, hZ9⟩ := hZ9
    obtain ⟨y97, hZ9⟩ := hZ9
    obtain ⟨y98, hZ9⟩ := hZ9
    obtain ⟨y99, hZ9⟩ := hZ9
    obtain ⟨y100, hZ9⟩ := hZ9
    obtain ⟨y101, hZ9⟩ := hZ9
    obtain ⟨y102, hZ9⟩ := hZ9
    obtain ⟨y103, hZ9⟩ := hZ9
    obtain ⟨y104, hZ9⟩ := hZ9
    obtain ⟨y105, hZ9⟩ := hZ9
    obtain ⟨y106, hZ9⟩ := hZ9
    obtain ⟨f107, hZ9⟩ := hZ9
    obtain ⟨hO95, hZ9⟩ := hZ9
    obtain ⟨hA108, hZ9⟩ := hZ9
    obtain ⟨b109, hZ9⟩ := hZ9
    obtain ⟨b110, hZ9⟩ := hZ9
    obtain ⟨b111, hZ9⟩ := hZ9
    obtain ⟨b112, hZ9⟩ := hZ9
    obtain ⟨b113, hZ9⟩ := hZ9
    obtain ⟨b114, hZ9⟩ := hZ9
    obtain ⟨b115, hZ9⟩ := hZ9
    obtain ⟨b116, hZ9⟩ := hZ9
    obtain ⟨b117, hZ9⟩ := hZ9
    obtain ⟨b118, hZ9⟩ := hZ9
    obtain ⟨b119, hZ9⟩ := hZ9
    obtain ⟨b120, hZ9⟩ := hZ9
    obtain ⟨b121, hZ9⟩ := hZ9
    obtain ⟨b122, hZ9⟩ := hZ9
    obtain ⟨b123, hZ9⟩ := hZ9
    obtain ⟨b124, hZ9⟩ := hZ9
    obtain ⟨b125, hZ9⟩ := hZ9
    obtain ⟨b126, hZ9⟩ := hZ9
    obtain ⟨b127, hZ9⟩ := hZ9
    obtain ⟨b128, hZ9⟩ := hZ9
    replace hZ9 := hZ9.2
    obtain ⟨b130, hZ9⟩ := hZ9
    obtain ⟨b131, hE132⟩ := hZ9
    replace hO95 : u93[134]? = (some (q 134, .inr (14, [.int y96, .ref (q 135), .int y97, .ref (q 136), .ref (q 137), .ref (q 138), .ref (q 139), .ref (q 140), .int y98, .long y99, .int y100, .int y101, .ref (q 141), .int y102, .ref (q 142), .int y103, .ref (q 143), .int y104, .ref (q 144), .int y105, .int y106])) : Option (Nat × va_E)) := hO95
    replace hA108 : u93[144]? = (some (q 144, .inl (g 0, (12200 : Int32).toNatClampNeg, .inl f107)) : Option (Nat × va_E)) := hA108
    obtain ⟨p134, e135⟩ : ∃ z, z = (F_DR_print lx81 y24 y25 y26 y27 y28 y29 y30 y31 y32 y33 y34 f35) := ⟨_, rfl⟩
    have e136 : y96 = p134.1 := congrArg (fun z => z.1) (hE132.trans e135.symm)
    have e137 : y97 = p134.2.1 := congrArg (fun z => z.2.1) (hE132.trans e135.symm)
    have e138 : y98 = p134.2.2.1 := congrArg (fun z => z.2.2.1) (hE132.trans e135.symm)
    have e139 : y99 = p134.2.2.2.1 := congrArg (fun z => z.2.2.2.1) (hE132.trans e135.symm)
    have e140 : y100 = p134.2.2.2.2.1 := congrArg (fun z => z.2.2.2.2.1) (hE132.trans e135.symm)
    have e141 : y101 = p134.2.2.2.2.2.1 := congrArg (fun z => z.2.2.2.2.2.1) (hE132.trans e135.symm)
    have e142 : y102 = p134.2.2.2.2.2.2.1 := congrArg (fun z => z.2.2.2.2.2.2.1) (hE132.trans e135.symm)
    have e143 : y103 = p134.2.2.2.2.2.2.2.1 := congrArg (fun z => z.2.2.2.2.2.2.2.1) (hE132.trans e135.symm)
    have e144 : y104 = p134.2.2.2.2.2.2.2.2.1 := congrArg (fun z => z.2.2.2.2.2.2.2.2.1) (hE132.trans e135.symm)
    have e145 : y105 = p134.2.2.2.2.2.2.2.2.2.1 := congrArg (fun z => z.2.2.2.2.2.2.2.2.2.1) (hE132.trans e135.symm)
    have e146 : y106 = p134.2.2.2.2.2.2.2.2.2.2.1 := congrArg (fun z => z.2.2.2.2.2.2.2.2.2.2.1) (hE132.trans e135.symm)
    have e147 : f107 = p134.2.2.2.2.2.2.2.2.2.2.2 := congrArg (fun z => z.2.2.2.2.2.2.2.2.2.2.2) (hE132.trans e135.symm)
    replace b109 : q_F (y105.toInt ≤ 12200) := b109
    replace b110 : q_F (y24.toInt ≤ y96.toInt) := b110
    replace b111 : q_F (y96.toInt ≤ y24.toInt) := b111
    replace b112 : q_F (y25.toInt ≤ y97.toInt) := b112
    replace b113 : q_F (y97.toInt ≤ y25.toInt) := b113
    replace b114 : q_F (y26.toInt ≤ y98.toInt) := b114
    replace b115 : q_F (y98.toInt ≤ y26.toInt) := b115
    replace b116 : q_F (y27.toInt ≤ y99.toInt) := b116
    replace b117 : q_F (y99.toInt ≤ y27.toInt) := b117
    replace b118 : q_F (y28.toInt ≤ y100.toInt) := b118
    replace b119 : q_F (y100.toInt ≤ y28.toInt) := b119
    replace b120 : q_F (y29.toInt ≤ y101.toInt) := b120
    replace b121 : q_F (y101.toInt ≤ y29.toInt) := b121
    replace b122 : q_F (y30.toInt ≤ y102.toInt) := b122
    replace b123 : q_F (y102.toInt ≤ y30.toInt) := b123
    replace b124 : q_F (y31.toInt ≤ y103.toInt) := b124
    replace b125 : q_F (y103.toInt ≤ y31.toInt) := b125
    replace b126 : q_F (y32.toInt ≤ y104.toInt) := b126
    replace b127 : q_F (y104.toInt ≤ y32.toInt) := b127
    replace b128 : q_F (y33.toInt + 1 ≤ y105.toInt) := b128
    replace b130 : q_F (y34.toInt ≤ y106.toInt) := b130
    replace b131 : q_F (y106.toInt ≤ y34.toInt) := b131
    replace hF := q_uc hF hu133 (by simp)
    have hR148 := (show F_DR_exponent_c18 x2 t0_0 t0_1 t0_2 t0_3 t0_4 t0_5 t0_6 t0_7 t0_8 t0_9 t0_10 t1_0 p62 y24 y25 y26 y27 y28 y29 y30 y31 y32 y33 y34 f35 lx81 p134 = (F_DR_exponent x2 t0_0 t0_1 t0_2 t0_3 t0_4 t0_5 t0_6 t0_7 t0_8 t0_9 t0_10 t1_0) from Eq.trans (by rw [e135, F_DR_exponent_J18.eq_1]) hR87)
    have hS149 := (show True ∧ S_DR_exponent_c18 x2 t0_0 t0_1 t0_2 t0_3 t0_4 t0_5 t0_6 t0_7 t0_8 t0_9 t0_10 t1_0 p62 y24 y25 y26 y27 y28 y29 y30 y31 y32 y33 y34 f35 lx81 p134 from (by rw [e135]; have h := hS88; rw [S_DR_exponent_J18.eq_1] at h; replace h := q_s2 h; with_reducible exact h))
    refine lv_iload_n hx hb d_15_51_21 rfl (lv_at hl 1 rfl) ?_
    refine q_join (X := Int32) (fun z H locs ls _ => q_Wd D g (va_A ws sz) s u93 H locs ∧ lv_has ls 4 [(0, .ref (q 134))] ∧ F_DR_exponent_J31 x2 t0_0 t0_1 t0_2 t0_3 t0_4 t0_5 t0_6 t0_7 t0_8 t0_9 t0_10 t1_0 p62 y24 y25 y26 y27 y28 y29 y30 y31 y32 y33 y34 f35 lx81 p134 y96 y97 y98 y99 y100 y101 y102 y103 y104 y105 y106 f107 z = (F_DR_exponent x2 t0_0 t0_1 t0_2 t0_3 t0_4 t0_5 t0_6 t0_7 t0_8 t0_9 t0_10 t1_0) ∧ True ∧ S_DR_exponent_J31 x2 t0_0 t0_1 t0_2 t0_3 t0_4 t0_5 t0_6 t0_7 t0_8 t0_9 t0_10 t1_0 p62 y24 y25 y26 y27 y28 y29 y30 y31 y32 y33 y34 f35 lx81 p134 y96 y97 y98 y99 y100 y101 y102 y103 y104 y105 y106 f107 z) (fun z => [.int z]) 31 0 0 ?_ ?_
    ·
      rintro lx153 H locs ls _ ⟨V, hl, hR157, hS158⟩
      replace hl : lv_has ls 4 [(0, .ref (q 134))] := hl
      refine lv_istore_n (lv' := [(2, .int lx153), (0, .ref (q 134))]) hx hb d_15_51_31 rfl hl (by decide) rfl (fun ls hl => ?_)
      refine lv_iconst (v := 1) hx hb d_15_51_32 (by decide) ?_
      refine lv_istore_n (lv' := [(3, .int 1), (2, .int lx153), (0, .ref (q 134))]) hx hb d_15_51_33 rfl hl (by decide) rfl (fun ls hl => ?_)
      refine q_loop (X := Nat × Int32) (fun z H locs ls _ => q_Wd D g (va_A ws sz) s u93 H locs ∧ lv_has ls 4 [(3, .int z.2), (2, .int lx153), (0, .ref (q 134))] ∧ F_DR_exponent_L34 x2 t0_0 t0_1 t0_2 t0_3 t0_4 t0_5 t0_6 t0_7 t0_8 t0_9 t0_10 t1_0 p62 y24 y25 y26 y27 y28 y29 y30 y31 y32 y33 y34 f35 lx81 p134 y96 y97 y98 y99 y100 y101 y102 y103 y104 y105 y106 f107 lx153 z.1 z.2 = (F_DR_exponent x2 t0_0 t0_1 t0_2 t0_3 t0_4 t0_5 t0_6 t0_7 t0_8 t0_9 t0_10 t1_0) ∧ True ∧ S_DR_exponent_L34 x2 t0_0 t0_1 t0_2 t0_3 t0_4 t0_5 t0_6 t0_7 t0_8 t0_9 t0_10 t1_0 p62 y24 y25 y26 y27 y28 y29 y30 y31 y32 y33 y34 f35 lx81 p134 y96 y97 y98 y99 y100 y101 y102 y103 y104 y105 y106 f107 lx153 z.1 z.2) (fun z => z.1) ?_ ((1000000 : Nat), (1 : Int32)) _ _ _ u93 ⟨V, q_lw hl (q_lw1 0 rfl (q_lw1 1 rfl (q_lw1 2 rfl q_lw0))), (show F_DR_exponent_L34 x2 t0_0 t0_1 t0_2 t0_3 t0_4 t0_5 t0_6 t0_7 t0_8 t0_9 t0_10 t1_0 p62 y24 y25 y26 y27 y28 y29 y30 y31 y32 y33 y34 f35 lx81 p134 y96 y97 y98 y99 y100 y101 y102 y103 y104 y105 y106 f107 lx153 1000000 1 = (F_DR_exponent x2 t0_0 t0_1 t0_2 t0_3 t0_4 t0_5 t0_6 t0_7 t0_8 t0_9 t0_10 t1_0) from Eq.trans (by rw [F_DR_exponent_J31.eq_1]) hR157), (show True ∧ S_DR_exponent_L34 x2 t0_0 t0_1 t0_2 t0_3 t0_4 t0_5 t0_6 t0_7 t0_8 t0_9 t0_10 t1_0 p62 y24 y25 y26 y27 y28 y29 y30 y31 y32 y33 y34 f35 lx81 p134 y96 y97 y98 y99 y100 y101 y102 y103 y104 y105 y106 f107 lx153 1000000 1 from (by have h := hS158; rw [S_DR_exponent_J31.eq_1] at h; with_reducible exact h))⟩
      rintro ⟨fu167, lx163⟩ H locs ls _ ⟨V, hl, hR165, hS166⟩ ih164
      obtain ⟨fm169, rfl⟩ : ∃ m, fu167 = m + 1 := Nat.exists_eq_succ_of_ne_zero (fun e => by subst e; rw [S_DR_exponent_L34.eq_1] at hS166; exact hS166.2)
      replace hl : lv_has ls 4 [(3, .int lx163), (2, .int lx153), (0, .ref (q 134))] := hl
      refine lv_iload_n hx hb d_15_51_34 rfl (lv_at hl 1 rfl) ?_
      refine lv_iload_n hx hb d_15_51_35 rfl (lv_at hl 0 rfl) ?_
      have ob170 : q_F (1 ≤ lx163.toInt) := (by have h := hS166; rw [S_DR_exponent_L34.eq_2] at h; exact h.2.1)
      refine lv_idiv hx hb d_15_51_36 (s_nzI (by first | with_reducible exact q_fe ob170 | (have t1 : 1 ≤ lx163.toInt := ob170; omega))) ?_
      obtain ⟨a171, e172⟩ := q_nm (lx153 / lx163 : Int32)
      refine q_ti (v := a171) e172 ?_
      refine lv_bipush (v := 9) hx hb d_15_51_37 (by decide) ?_
      refine lv_icmp_le (tgt := 50) hx hb d_15_51_39 (by decide) (fun c173 => ?_) (fun c173 => ?_)
      ·
        refine q_loop (X := Int32 × Int32 × Int32 × Int32 × Int64 × Int32 × Int32 × Int32 × Int32 × Int32 × Int32 × Int32 × (Nat → Int32)) (fun z H locs ls w221 => q_F (0 ≤ z.1.toInt) ∧ q_F (0 ≤ z.2.2.1.toInt) ∧ q_F (z.2.2.1.toInt ≤ 4100) ∧ q_F (0 ≤ z.2.2.2.2.2.1.toInt) ∧ q_F (z.2.2.2.2.2.1.toInt ≤ 1) ∧ q_F (0 ≤ z.2.2.2.2.2.2.1.toInt) ∧ q_F (z.2.2.2.2.2.2.1.toInt ≤ 1) ∧ q_F (2 ≤ z.2.2.2.2.2.2.2.2.2.2.1.toInt) ∧ q_F (z.2.2.2.2.2.2.2.2.2.2.1.toInt ≤ 12200) ∧ q_F (y96.toInt ≤ z.2.1.toInt) ∧ q_F (z.2.1.toInt ≤ y96.toInt) ∧ q_F (y97.toInt ≤ z.2.2.1.toInt) ∧ q_F (z.2.2.1.toInt ≤ y97.toInt) ∧ q_F (y98.toInt ≤ z.2.2.2.1.toInt) ∧ q_F (z.2.2.2.1.toInt ≤ y98.toInt) ∧ q_F (y99.toInt ≤ z.2.2.2.2.1.toInt) ∧ q_F (z.2.2.2.2.1.toInt ≤ y99.toInt) ∧ q_F (y100.toInt ≤ z.2.2.2.2.2.1.toInt) ∧ q_F (z.2.2.2.2.2.1.toInt ≤ y100.toInt) ∧ q_F (y101.toInt ≤ z.2.2.2.2.2.2.1.toInt) ∧ q_F (z.2.2.2.2.2.2.1.toInt ≤ y101.toInt) ∧ q_F (y102.toInt ≤ z.2.2.2.2.2.2.2.1.toInt) ∧ q_F (z.2.2.2.2.2.2.2.1.toInt ≤ y102.toInt) ∧ q_F (y103.toInt ≤ z.2.2.2.2.2.2.2.2.1.toInt) ∧ q_F (z.2.2.2.2.2.2.2.2.1.toInt ≤ y103.toInt) ∧ q_F (y104.toInt ≤ z.2.2.2.2.2.2.2.2.2.1.toInt) ∧ q_F (z.2.2.2.2.2.2.2.2.2.1.toInt ≤ y104.toInt) ∧ q_F (y105.toInt ≤ z.2.2.2.2.2.2.2.2.2.2.1.toInt) ∧ q_F (y106.toInt ≤ z.2.2.2.2.2.2.2.2.2.2.2.1.toInt) ∧ q_F (z.2.2.2.2.2.2.2.2.2.2.2.1.toInt ≤ y106.toInt) ∧ q_F (z.1.toInt + z.2.2.2.2.2.2.2.2.2.2.1.toInt ≤ lx163.toInt + y105.toInt) ∧ q_Wd D g (va_A ws sz) s w221 H locs ∧ lv_has ls 4 [(3, .int z.1), (2, .int lx153), (0, .ref (q 134))] ∧ q_I (msh g q) q w221 ∧ q_un ws w221 [134, 144] ∧ w221[134]? = (some (q 134, .inr (14, [.int z.2.1, .ref (q 135), .int z.2.2.1, .ref (q 136), .ref (q 137), .ref (q 138), .ref (q 139), .ref (q 140), .int z.2.2.2.1, .long z.2.2.2.2.1, .int z.2.2.2.2.2.1, .int z.2.2.2.2.2.2.1, .ref (q 141), .int z.2.2.2.2.2.2.2.1, .ref (q 142), .int z.2.2.2.2.2.2.2.2.1, .ref (q 143), .int z.2.2.2.2.2.2.2.2.2.1, .ref (q 144), .int z.2.2.2.2.2.2.2.2.2.2.1, .int z.2.2.2.2.2.2.2.2.2.2.2.1])) : Option (Nat × va_E)) ∧ w221[144]? = (some (q 144, .inl (g 0, (12200 : Int32).toNatClampNeg, .inl z.2.2.2.2.2.2.2.2.2.2.2.2)) : Option (Nat × va_E)) ∧ (∃ n, (z.1.toInt - ((-1))).toNat < n ∧ F_DR_exponent_L50 (F_DR_exponent_L34 x2 t0_0 t0_1 t0_2 t0_3 t0_4 t0_5 t0_6 t0_7 t0_8 t0_9 t0_10 t1_0 p62 y24 y25 y26 y27 y28 y29 y30 y31 y32 y33 y34 f35 lx81 p134 y96 y97 y98 y99 y100 y101 y102 y103 y104 y105 y106 f107 lx153 fm169) x2 t0_0 t0_1 t0_2 t0_3 t0_4 t0_5 t0_6 t0_7 t0_8 t0_9 t0_10 t1_0 p62 y24 y25 y26 y27 y28 y29 y30 y31 y32 y33 y34 f35 lx81 p134 y96 y97 y98 y99 y100 y101 y102 y103 y104 y105 y106 f107 lx153 lx163 n z.1 z.2.1 z.2.2.1 z.2.2.2.1 z.2.2.2.2.1 z.2.2.2.2.2.1 z.2.2.2.2.2.2.1 z.2.2.2.2.2.2.2.1 z.2.2.2.2.2.2.2.2.1 z.2.2.2.2.2.2.2.2.2.1 z.2.2.2.2.2.2.2.2.2.2.1 z.2.2.2.2.2.2.2.2.2.2.2.1 z.2.2.2.2.2.2.2.2.2.2.2.2 = (F_DR_exponent x2 t0_0 t0_1 t0_2 t0_3 t0_4 t0_5 t0_6 t0_7 t0_8 t0_9 t0_10 t1_0) ∧ True ∧ S_DR_exponent_L50 (S_DR_exponent_L34 x2 t0_0 t0_1 t0_2 t0_3 t0_4 t0_5 t0_6 t0_7 t0_8 t0_9 t0_10 t1_0 p62 y24 y25 y26 y27 y28 y29 y30 y31 y32 y33 y34 f35 lx81 p134 y96 y97 y98 y99 y100 y101 y102 y103 y104 y105 y106 f107 lx153 fm169) x2 t0_0 t0_1 t0_2 t0_3 t0_4 t0_5 t0_6 t0_7 t0_8 t0_9 t0_10 t1_0 p62 y24 y25 y26 y27 y28 y29 y30 y31 y32 y33 y34 f35 lx81 p134 y96 y97 y98 y99 y100 y101 y102 y103 y104 y105 y106 f107 lx153 lx163 n z.1 z.2.1 z.2.2.1 z.2.2.2.1 z.2.2.2.2.1 z.2.2.2.2.2.1 z.2.2.2.2.2.2.1 z.2.2.2.2.2.2.2.1 z.2.2.2.2.2.2.2.2.1 z.2.2.2.2.2.2.2.2.2.1 z.2.2.2.2.2.2.2.2.2.2.1 z.2.2.2.2.2.2.2.2.2.2.2.1 z.2.2.2.2.2.2.2.2.2.2.2.2)) (fun z => (z.1.toInt - ((-1))).toNat) ?_ ((lx163 : Int32), (y96 : Int32), (y97 : Int32), (y98 : Int32), (y99 : Int64), (y100 : Int32), (y101 : Int32), (y102 : Int32), (y103 : Int32), (y104 : Int32), (y105 : Int32), (y106 : Int32), (f107 : (Nat → Int32))) _ _ _ u93 ⟨(show q_F (0 ≤ lx163.toInt) from (show 0 ≤ lx163.toInt from by have t1 : 1 ≤ lx163.toInt := ob170; omega)), (show q_F (0 ≤ y97.toInt) from (show 0 ≤ y97.toInt from by have t1 : 0 ≤ t0_1.toInt ∧ t0_1.toInt ≤ 4100 := btt0_1; have t2 : t0_1.toInt ≤ y25.toInt := b40; have t3 : y25.toInt ≤ y97.toInt := b112; omega)), (show q_F (y97.toInt ≤ 4100) from (show y97.toInt ≤ 4100 from by have t1 : 0 ≤ t0_1.toInt ∧ t0_1.toInt ≤ 4100 := btt0_1; have t2 : y25.toInt ≤ t0_1.toInt := b41; have t3 : y97.toInt ≤ y25.toInt := b113; omega)), (show q_F (0 ≤ y100.toInt) from (show 0 ≤ y100.toInt from by have t1 : 0 ≤ t0_4.toInt ∧ t0_4.toInt ≤ 1 := btt0_4; have t2 : t0_4.toInt ≤ y28.toInt := b46; have t3 : y28.toInt ≤ y100.toInt := b118; omega)), (show q_F (y100.toInt ≤ 1) from (show y100.toInt ≤ 1 from by have t1 : 0 ≤ t0_4.toInt ∧ t0_4.toInt ≤ 1 := btt0_4; have t2 : y28.toInt ≤ t0_4.toInt := b47; have t3 : y100.toInt ≤ y28.toInt := b119; omega)), (show q_F (0 ≤ y101.toInt) from (show 0 ≤ y101.toInt from by have t1 : 0 ≤ t0_5.toInt ∧ t0_5.toInt ≤ 1 := btt0_5; have t2 : t0_5.toInt ≤ y29.toInt := b48; have t3 : y29.toInt ≤ y101.toInt := b120; omega)), (show q_F (y101.toInt ≤ 1) from (show y101.toInt ≤ 1 from by have t1 : 0 ≤ t0_5.toInt ∧ t0_5.toInt ≤ 1 := btt0_5; have t2 : y29.toInt ≤ t0_5.toInt := b49; have t3 : y101.toInt ≤ y29.toInt := b121; omega)), (show q_F (2 ≤ y105.toInt) from (show 2 ≤ y105.toInt from by have t1 : 0 ≤ t0_9.toInt ∧ t0_9.toInt ≤ 12200 := btt0_9; have t2 : t0_9.toInt + 1 ≤ y33.toInt := b56; have t3 : y33.toInt + 1 ≤ y105.toInt := b128; omega)), (show q_F (y105.toInt ≤ 12200) from (show y105.toInt ≤ 12200 from by have t1 : y105.toInt ≤ 12200 := b109; omega)), (show q_F (y96.toInt ≤ y96.toInt) from (show y96.toInt ≤ y96.toInt from by omega)), (show q_F (y96.toInt ≤ y96.toInt) from (show y96.toInt ≤ y96.toInt from by omega)), (show q_F (y97.toInt ≤ y97.toInt) from (show y97.toInt ≤ y97.toInt from by omega)), (show q_F (y97.toInt ≤ y97.toInt) from (show y97.toInt ≤ y97.toInt from by omega)), (show q_F (y98.toInt ≤ y98.toInt) from (show y98.toInt ≤ y98.toInt from by omega)), (show q_F (y98.toInt ≤ y98.toInt) from (show y98.toInt ≤ y98.toInt from by omega)), (show q_F (y99.toInt ≤ y99.toInt) from (show y99.toInt ≤ y99.toInt from by omega)), (show q_F (y99.toInt ≤ y99.toInt) from (show y99.toInt ≤ y99.toInt from by omega)), (show q_F (y100.toInt ≤ y100.toInt) from (show y100.toInt ≤ y100.toInt from by omega)), (show q_F (y100.toInt ≤ y100.toInt) from (show y100.toInt ≤ y100.toInt from by omega)), (show q_F (y101.toInt ≤ y101.toInt) from (show y101.toInt ≤ y101.toInt from by omega)), (show q_F (y101.toInt ≤ y101.toInt) from (show y101.toInt ≤ y101.toInt from by omega)), (show q_F (y102.toInt ≤ y102.toInt) from (show y102.toInt ≤ y102.toInt from by omega)), (show q_F (y102.toInt ≤ y102.toInt) from (show y102.toInt ≤ y102.toInt from by omega)), (show q_F (y103.toInt ≤ y103.toInt) from (show y103.toInt ≤ y103.toInt from by omega)), (show q_F (y103.toInt ≤ y103.toInt) from (show y103.toInt ≤ y103.toInt from by omega)), (show q_F (y104.toInt ≤ y104.toInt) from (show y104.toInt ≤ y104.toInt from by omega)), (show q_F (y104.toInt ≤ y104.toInt) from (show y104.toInt ≤ y104.toInt from by omega)), (show q_F (y105.toInt ≤ y105.toInt) from (show y105.toInt ≤ y105.toInt from by omega)), (show q_F (y106.toInt ≤ y106.toInt) from (show y106.toInt ≤ y106.toInt from by omega)), (show q_F (y106.toInt ≤ y106.toInt) from (show y106.toInt ≤ y106.toInt from by omega)), (show q_F (lx163.toInt + y105.toInt ≤ lx163.toInt + y105.toInt) from (show lx163.toInt + y105.toInt ≤ lx163.toInt + y105.toInt from by omega)), V, q_lw hl (q_lw1 0 rfl (q_lw1 1 rfl (q_lw1 2 rfl q_lw0))), hI, hF, hO95, hA108, ⟨((lx163.toInt - ((-1))).toNat + 1), Nat.lt_succ_self _, (show F_DR_exponent_L50 (F_DR_exponent_L34 x2 t0_0 t0_1 t0_2 t0_3 t0_4 t0_5 t0_6 t0_7 t0_8 t0_9 t0_10 t1_0 p62 y24 y25 y26 y27 y28 y29 y30 y31 y32 y33 y34 f35 lx81 p134 y96 y97 y98 y99 y100 y101 y102 y103 y104 y105 y106 f107 lx153 fm169) x2 t0_0 t0_1 t0_2 t0_3 t0_4 t0_5 t0_6 t0_7 t0_8 t0_9 t0_10 t1_0 p62 y24 y25 y26 y27 y28 y29 y30 y31 y32 y33 y34 f35 lx81 p134 y96 y97 y98 y99 y100 y101 y102 y103 y104 y105 y106 f107 lx153 lx163 ((lx163.toInt - ((-1))).toNat + 1) lx163 y96 y97 y98 y99 y100 y101 y102 y103 y104 y105 y106 f107 = (F_DR_exponent x2 t0_0 t0_1 t0_2 t0_3 t0_4 t0_5 t0_6 t0_7 t0_8 t0_9 t0_10 t1_0) from Eq.trans (by have c173x := c173; rw [← e172] at c173x; rw [F_DR_exponent_L34.eq_2, if_pos c173x]) hR165), (show True ∧ S_DR_exponent_L50 (S_DR_exponent_L34 x2 t0_0 t0_1 t0_2 t0_3 t0_4 t0_5 t0_6 t0_7 t0_8 t0_9 t0_10 t1_0 p62 y24 y25 y26 y27 y28 y29 y30 y31 y32 y33 y34 f35 lx81 p134 y96 y97 y98 y99 y100 y101 y102 y103 y104 y105 y106 f107 lx153 fm169) x2 t0_0 t0_1 t0_2 t0_3 t0_4 t0_5 t0_6 t0_7 t0_8 t0_9 t0_10 t1_0 p62 y24 y25 y26 y27 y28 y29 y30 y31 y32 y33 y34 f35 lx81 p134 y96 y97 y98 y99 y100 y101 y102 y103 y104 y105 y106 f107 lx153 lx163 ((lx163.toInt - ((-1))).toNat + 1) lx163 y96 y97 y98 y99 y100 y101 y102 y103 y104 y105 y106 f107 from (by have h := hS166; rw [S_DR_exponent_L34.eq_2] at h; replace h := q_s2 h; have c173x := c173; rw [← e172] at c173x; rw [if_pos c173x] at h; with_reducible exact h))⟩⟩
        rintro ⟨lx176, lx177, lx178, lx179, lx180, lx181, lx182, lx183, lx184, lx185, lx186, lx187, lx188⟩ H locs ls w221 ⟨i189, i190, i191, i192, i193, i194, i195, i196, i197, i198, i199, i200, i201, i202, i203, i204, i205, i206, i207, i208, i209, i210, i211, i212, i213, i214, i215, i216, i217, i218, i219, V, hl, hI, hF, hO222, hO223, ⟨fu226, hf227, hR224, hS225⟩⟩ ih220
        obtain ⟨fm228, rfl⟩ : ∃ m, fu226 = m + 1 := ⟨fu226 - 1, by omega⟩
        replace i189 : q_F (0 ≤ lx176.toInt) := i189
        replace i190 : q_F (0 ≤ lx178.toInt) := i190
        replace i191 : q_F (lx178.toInt ≤ 4100) := i191
        replace i192 : q_F (0 ≤ lx181.toInt) := i192
        replace i193 : q_F (lx181.toInt ≤ 1) := i193
        replace i194 : q_F (0 ≤ lx182.toInt) := i194
        replace i195 : q_F (lx182.toInt ≤ 1) := i195
        replace i196 : q_F (2 ≤ lx186.toInt) := i196
        replace i197 : q_F (lx186.toInt ≤ 12200) := i197
        replace i198 : q_F (y96.toInt ≤ lx177.toInt) := i198
        replace i199 : q_F (lx177.toInt ≤ y96.toInt) := i199
        replace i200 : q_F (y97.toInt ≤ lx178.toInt) := i200
        replace i201 : q_F (lx178.toInt ≤ y97.toInt) := i201
        replace i202 : q_F (y98.toInt ≤ lx179.toInt) := i202
        replace i203 : q_F (lx179.toInt ≤ y98.toInt) := i203
        replace i204 : q_F (y99.toInt ≤ lx180.toInt) := i204
        replace i205 : q_F (lx180.toInt ≤ y99.toInt) := i205
        replace i206 : q_F (y100.toInt ≤ lx181.toInt) := i206
        replace i207 : q_F (lx181.toInt ≤ y100.toInt) := i207
        replace i208 : q_F (y101.toInt ≤ lx182.toInt) := i208
        replace i209 : q_F (lx182.toInt ≤ y101.toInt) := i209
        replace i210 : q_F (y102.toInt ≤ lx183.toInt) := i210
        replace i211 : q_F (lx183.toInt ≤ y102.toInt) := i211
        replace i212 : q_F (y103.toInt ≤ lx184.toInt) := i212
        replace i213 : q_F (lx184.toInt ≤ y103.toInt) := i213
        replace i214 : q_F (y104.toInt ≤ lx185.toInt) := i214
        replace i215 : q_F (lx185.toInt ≤ y104.toInt) := i215
        replace i216 : q_F (y105.toInt ≤ lx186.toInt) := i216
        replace i217 : q_F (y106.toInt ≤ lx187.toInt) := i217
        replace i218 : q_F (lx187.toInt ≤ y106.toInt) := i218
        replace i219 : q_F (lx176.toInt + lx186.toInt ≤ lx163.toInt + y105.toInt) := i219
        replace hl : lv_has ls 4 [(3, .int lx176), (2, .int lx153), (0, .ref (q 134))] := hl
        replace hO222 : w221[134]? = (some (q 134, .inr (14, [.int lx177, .ref (q 135), .int lx178, .ref (q 136), .ref (q 137), .ref (q 138), .ref (q 139), .ref (q 140), .int lx179, .long lx180, .int lx181, .int lx182, .ref (q 141), .int lx183, .ref (q 142), .int lx184, .ref (q 143), .int lx185, .ref (q 144), .int lx186, .int lx187])) : Option (Nat × va_E)) := hO222
        replace hO223 : w221[144]? = (some (q 144, .inl (g 0, (12200 : Int32).toNatClampNeg, .inl lx188)) : Option (Nat × va_E)) := hO223
        refine lv_iload_n hx hb d_15_51_50 rfl (lv_at hl 0 rfl) ?_
        refine lv_if_le (tgt := 75) hx hb d_15_51_51 (by decide) (fun c229 => ?_) (fun c229 => ?_)
        ·
          exact q_retv C0 V (⟨hI, hF, lx177, lx178, lx179, lx180, lx181, lx182, lx183, lx184, lx185, lx186, lx187, lx188, hO222, hO223, (show lx186.toInt ≤ 12200 from (by first | with_reducible exact q_fe i197 | (have t1 : lx186.toInt ≤ 12200 := i197; omega))), (show t0_0.toInt ≤ lx177.toInt from (by have t1 : t0_0.toInt ≤ y24.toInt := b38; have t2 : y24.toInt ≤ y96.toInt := b110; have t3 : y96.toInt ≤ lx177.toInt := i198; omega)), (show lx177.toInt ≤ t0_0.toInt from (by have t1 : y24.toInt ≤ t0_0.toInt := b39; have t2 : y96.toInt ≤ y24.toInt := b111; have t3 : lx177.toInt ≤ y96.toInt := i199; omega)), (show t0_1.toInt ≤ lx178.toInt from (by have t1 : t0_1.toInt ≤ y25.toInt := b40; have t2 : y25.toInt ≤ y97.toInt := b112; have t3 : y97.toInt ≤ lx178.toInt := i200; omega)), (show lx178.toInt ≤ t0_1.toInt from (by have t1 : y25.toInt ≤ t0_1.toInt := b41; have t2 : y97.toInt ≤ y25.toInt := b113; have t3 : lx178.toInt ≤ y97.toInt := i201; omega)), (show t0_2.toInt ≤ lx179.toInt from (by have t1 : t0_2.toInt ≤ y26.toInt := b42; have t2 : y26.toInt ≤ y98.toInt := b114; have t3 : y98.toInt ≤ lx179.toInt := i202; omega)), (show lx179.toInt ≤ t0_2.toInt from (by have t1 : y26.toInt ≤ t0_2.toInt := b43; have t2 : y98.toInt ≤ y26.toInt := b115; have t3 : lx179.toInt ≤ y98.toInt := i203; omega)), (show t0_3.toInt ≤ lx180.toInt from (by have t1 : t0_3.toInt ≤ y27.toInt := b44; have t2 : y27.toInt ≤ y99.toInt := b116; have t3 : y99.toInt ≤ lx180.toInt := i204; omega)), (show lx180.toInt ≤ t0_3.toInt from (by have t1 : y27.toInt ≤ t0_3.toInt := b45; have t2 : y99.toInt ≤ y27.toInt := b117; have t3 : lx180.toInt ≤ y99.toInt := i205; omega)), (show t0_4.toInt ≤ lx181.toInt from (by have t1 : t0_4.toInt ≤ y28.toInt := b46; have t2 : y28.toInt ≤ y100.toInt := b118; have t3 : y100.toInt ≤ lx181.toInt := i206; omega)), (show lx181.toInt ≤ t0_4.toInt from (by have t1 : y28.toInt ≤ t0_4.toInt := b47; have t2 : y100.toInt ≤ y28.toInt := b119; have t3 : lx181.toInt ≤ y100.toInt := i207; omega)), (show t0_5.toInt ≤ lx182.toInt from (by have t1 : t0_5.toInt ≤ y29.toInt := b48; have t2 : y29.toInt ≤ y101.toInt := b120; have t3 : y101.toInt ≤ lx182.toInt := i208; omega)), (show lx182.toInt ≤ t0_5.toInt from (by have t1 : y29.toInt ≤ t0_5.toInt := b49; have t2 : y101.toInt ≤ y29.toInt := b121; have t3 : lx182.toInt ≤ y101.toInt := i209; omega)), (show t0_6.toInt ≤ lx183.toInt from (by have t1 : t0_6.toInt ≤ y30.toInt := b50; have t2 : y30.toInt ≤ y102.toInt := b122; have t3 : y102.toInt ≤ lx183.toInt := i210; omega)), (show lx183.toInt ≤ t0_6.toInt from (by have t1 : y30.toInt ≤ t0_6.toInt := b51; have t2 : y102.toInt ≤ y30.toInt := b123; have t3 : lx183.toInt ≤ y102.toInt := i211; omega)), (show t0_7.toInt ≤ lx184.toInt from (by have t1 : t0_7.toInt ≤ y31.toInt := b52; have t2 : y31.toInt ≤ y103.toInt := b124; have t3 : y103.toInt ≤ lx184.toInt := i212; omega)), (show lx184.toInt ≤ t0_7.toInt from (by have t1 : y31.toInt ≤ t0_7.toInt := b53; have t2 : y103.toInt ≤ y31.toInt := b125; have t3 : lx184.toInt ≤ y103.toInt := i213; omega)), (show t0_8.toInt ≤ lx185.toInt from (by have t1 : t0_8.toInt ≤ y32.toInt := b54; have t2 : y32.toInt ≤ y104.toInt := b126; have t3 : y104.toInt ≤ lx185.toInt := i214; omega)), (show lx185.toInt ≤ t0_8.toInt from (by have t1 : y32.toInt ≤ t0_8.toInt := b55; have t2 : y104.toInt ≤ y32.toInt := b127; have t3 : lx185.toInt ≤ y104.toInt := i215; omega)), (show t0_9.toInt + 2 ≤ lx186.toInt from (by have t1 : t0_9.toInt + 1 ≤ y33.toInt := b56; have t2 : y33.toInt + 1 ≤ y105.toInt := b128; have t3 : y105.toInt ≤ lx186.toInt := i216; omega)), (show t0_10.toInt ≤ lx187.toInt from (by have t1 : t0_10.toInt ≤ y34.toInt := b58; have t2 : y34.toInt ≤ y106.toInt := b130; have t3 : y106.toInt ≤ lx187.toInt := i217; omega)), (show lx187.toInt ≤ t0_10.toInt from (by have t1 : y34.toInt ≤ t0_10.toInt := b59; have t2 : y106.toInt ≤ y34.toInt := b131; have t3 : lx187.toInt ≤ y106.toInt := i218; omega)), (show (lx177, lx178, lx179, lx180, lx181, lx182, lx183, lx184, lx185, lx186, lx187, lx188) = (F_DR_exponent x2 t0_0 t0_1 t0_2 t0_3 t0_4 t0_5 t0_6 t0_7 t0_8 t0_9 t0_10 t1_0) from Eq.trans (by rw [F_DR_exponent_L50.eq_2, if_pos c229]) hR224)⟩) d_15_51_75
        ·
          have b231 : q_F (0 < lx176.toInt) := (q_nleI c229)
          refine lv_aload_n hx hb d_15_51_54 rfl (lv_at hl 2 rfl) ?_
          refine lv_bipush (v := 48) hx hb d_15_51_55 (by decide) ?_
          refine lv_iload_n hx hb d_15_51_57 rfl (lv_at hl 1 rfl) ?_
          refine lv_iload_n hx hb d_15_51_58 rfl (lv_at hl 0 rfl) ?_
          refine lv_idiv hx hb d_15_51_59 (s_nzI (by first | with_reducible exact q_fe b231 | (have t1 : 0 < lx176.toInt := b231; omega))) ?_
          obtain ⟨a232, e233⟩ := q_nm (lx153 / lx176 : Int32)
          refine q_ti (v := a232) e233 ?_
          refine lv_bipush (v := 10) hx hb d_15_51_60 (by decide) ?_
          refine lv_irem hx hb d_15_51_62 (by decide) ?_
          obtain ⟨a234, e235⟩ := q_nm (a232 - a232 / 10 * 10 : Int32)
          refine q_ti (v := a234) e235 ?_
          refine lv_iadd hx hb d_15_51_63 ?_
          obtain ⟨a236, e237⟩ := q_nm (48 + a234 : Int32)
          refine q_ti (v := a236) e237 ?_
          have ob238 : True ∧ S_DR_print a236 lx177 lx178 lx179 lx180 lx181 lx182 lx183 lx184 lx185 lx186 lx187 lx188 := (by rw [← e237, ← e235, ← e233]; have h := hS225; rw [S_DR_exponent_L50.eq_2] at h; rw [if_neg c229] at h; with_reducible exact h.2.1)
          refine q_gov V (q_runV (As := [.int a236]) (rest := []) (d := 1) (mc := 0) (ms := 0) (ci := 14) C0 V rfl LV_DR_189 (X_DR_print l D g q w221  a236 hI lx177 lx178 lx179 lx180 lx181 lx182 lx183 lx184 lx185 lx186 lx187 hO222 lx188 hO223 ob238 _) rfl rfl hO222 rfl hl.1 rfl (Nat.le_of_ble_eq_true rfl) ⟨by decide, by decide⟩ ⟨Nat.le_of_ble_eq_true rfl, Nat.le_of_ble_eq_true rfl⟩ d_15_51_64) (fun u239 H locs hp240 V => ?_)
          obtain ⟨hI, hZ9⟩ := hp240
          obtain ⟨hu279, hZ9⟩ := hZ9
          obtain ⟨y242, hZ9⟩ := hZ9
          obtain ⟨y243, hZ9⟩ := hZ9
          obtain ⟨y244, hZ9⟩ := hZ9
          obtain ⟨y245, hZ9⟩ := hZ9
          obtain ⟨y246, hZ9⟩ := hZ9
          obtain ⟨y247, hZ9⟩ := hZ9
          obtain ⟨y248, hZ9⟩ := hZ9
          obtain ⟨y249, hZ9⟩ := hZ9
          obtain ⟨y250, hZ9⟩ := hZ9
          obtain ⟨y251, hZ9⟩ := hZ9
          obtain ⟨y252, hZ9⟩ := hZ9
          obtain ⟨f253, hZ9⟩ := hZ9
          obtain ⟨hO241, hZ9⟩ := hZ9
          obtain ⟨hA254, hZ9⟩ := hZ9
          obtain ⟨b255, hZ9⟩ := hZ9
          obtain ⟨b256, hZ9⟩ := hZ9
          obtain ⟨b257, hZ9⟩ := hZ9
          obtain ⟨b258, hZ9⟩ := hZ9
          obtain ⟨b259, hZ9⟩ := hZ9
          obtain ⟨b260, hZ9⟩ := hZ9
          obtain ⟨b261, hZ9⟩ := hZ9
          obtain ⟨b262, hZ9⟩ := hZ9
          obtain ⟨b263, hZ9⟩ := hZ9
          obtain ⟨b264, hZ9⟩ := hZ9
          obtain ⟨b265, hZ9⟩ := hZ9
          obtain ⟨b266, hZ9⟩ := hZ9
          obtain ⟨b267, hZ9⟩ := hZ9
          obtain ⟨b268, hZ9⟩ := hZ9
          obtain ⟨b269, hZ9⟩ := hZ9
          obtain ⟨b270, hZ9⟩ := hZ9
          obtain ⟨b271, hZ9⟩ := hZ9
          obtain ⟨b272, hZ9⟩ := hZ9
          obtain ⟨b273, hZ9⟩ := hZ9
          obtain ⟨b274, hZ9⟩ := hZ9
          obtain ⟨b275, hZ9⟩ := hZ9
          obtain ⟨b276, hZ9⟩ := hZ9
          obtain ⟨b277, hE278⟩ := hZ9
          replace hO241 : u239[134]? = (some (q 134, .inr (14, [.int y242, .ref (q 135), .int y243, .ref (q 136), .ref (q 137), .ref (q 138), .ref (q 139), .ref (q 140), .int y244, .long y245, .int y246, .int y247, .ref (q 141), .int y248, .ref (q 142), .int y249, .ref (q 143), .int y250, .ref (q 144), .int y251, .int y252])) : Option (Nat × va_E)) := hO241
          replace hA254 : u239[144]? = (some (q 144, .inl (g 0, (12200 : Int32).toNatClampNeg, .inl f253)) : Option (Nat × va_E)) := hA254
          obtain ⟨p280, e281⟩ : ∃ z, z = (F_DR_print a236 lx177 lx178 lx179 lx180 lx181 lx182 lx183 lx184 lx185 lx186 lx187 lx188) := ⟨_, rfl⟩
          have e282 : y242 = p280.1 := congrArg (fun z => z.1) (hE278.trans e281.symm)
          have e283 : y243 = p280.2.1 := congrArg (fun z => z.2.1) (hE278.trans e281.symm)
          have e284 : y244 = p280.2.2.1 := congrArg (fun z => z.2.2.1) (hE278.trans e281.symm)
          have e285 : y245 = p280.2.2.2.1 := congrArg (fun z => z.2.2.2.1) (hE278.trans e281.symm)
          have e286 : y246 = p280.2.2.2.2.1 := congrArg (fun z => z.2.2.2.2.1) (hE278.trans e281.symm)
          have e287 : y247 = p280.2.2.2.2.2.1 := congrArg (fun z => z.2.2.2.2.2.1) (hE278.trans e281.symm)
          have e288 : y248 = p280.2.2.2.2.2.2.1 := congrArg (fun z => z.2.2.2.2.2.2.1) (hE278.trans e281.symm)
          have e289 : y249 = p280.2.2.2.2.2.2.2.1 := congrArg (fun z => z.2.2.2.2.2.2.2.1) (hE278.trans e281.symm)
          have e290 : y250 = p280.2.2.2.2.2.2.2.2.1 := congrArg (fun z => z.2.2.2.2.2.2.2.2.1) (hE278.trans e281.symm)
          have e291 : y251 = p280.2.2.2.2.2.2.2.2.2.1 := congrArg (fun z => z.2.2.2.2.2.2.2.2.2.1) (hE278.trans e281.symm)
          have e292 : y252 = p280.2.2.2.2.2.2.2.2.2.2.1 := congrArg (fun z => z.2.2.2.2.2.2.2.2.2.2.1) (hE278.trans e281.symm)
          have e293 : f253 = p280.2.2.2.2.2.2.2.2.2.2.2 := congrArg (fun z => z.2.2.2.2.2.2.2.2.2.2.2) (hE278.trans e281.symm)
          replace b255 : q_F (y251.toInt ≤ 12200) := b255
          replace b256 : q_F (lx177.toInt ≤ y242.toInt) := b256
          replace b257 : q_F (y242.toInt ≤ lx177.toInt) := b257
          replace b258 : q_F (lx178.toInt ≤ y243.toInt) := b258
          replace b259 : q_F (y243.toInt ≤ lx178.toInt) := b259
          replace b260 : q_F (lx179.toInt ≤ y244.toInt) := b260
          replace b261 : q_F (y244.toInt ≤ lx179.toInt) := b261
          replace b262 : q_F (lx180.toInt ≤ y245.toInt) := b262
          replace b263 : q_F (y245.toInt ≤ lx180.toInt) := b263
          replace b264 : q_F (lx181.toInt ≤ y246.toInt) := b264
          replace b265 : q_F (y246.toInt ≤ lx181.toInt) := b265
          replace b266 : q_F (lx182.toInt ≤ y247.toInt) := b266
          replace b267 : q_F (y247.toInt ≤ lx182.toInt) := b267
          replace b268 : q_F (lx183.toInt ≤ y248.toInt) := b268
          replace b269 : q_F (y248.toInt ≤ lx183.toInt) := b269
          replace b270 : q_F (lx184.toInt ≤ y249.toInt) := b270
          replace b271 : q_F (y249.toInt ≤ lx184.toInt) := b271
          replace b272 : q_F (lx185.toInt ≤ y250.toInt) := b272
          replace b273 : q_F (y250.toInt ≤ lx185.toInt) := b273
          replace b274 : q_F (lx186.toInt + 1 ≤ y251.toInt) := b274
          replace b275 : q_F (y251.toInt ≤ lx186.toInt + 1) := b275
          replace b276 : q_F (lx187.toInt ≤ y252.toInt) := b276
          replace b277 : q_F (y252.toInt ≤ lx187.toInt) := b277
          replace hF := q_uc hF hu279 (by simp)
          have hR294 := (show F_DR_exponent_c64 (F_DR_exponent_L34 x2 t0_0 t0_1 t0_2 t0_3 t0_4 t0_5 t0_6 t0_7 t0_8 t0_9 t0_10 t1_0 p62 y24 y25 y26 y27 y28 y29 y30 y31 y32 y33 y34 f35 lx81 p134 y96 y97 y98 y99 y100 y101 y102 y103 y104 y105 y106 f107 lx153 fm169) (F_DR_exponent_L50 (F_DR_exponent_L34 x2 t0_0 t0_1 t0_2 t0_3 t0_4 t0_5 t0_6 t0_7 t0_8 t0_9 t0_10 t1_0 p62 y24 y25 y26 y27 y28 y29 y30 y31 y32 y33 y34 f35 lx81 p134 y96 y97 y98 y99 y100 y101 y102 y103 y104 y105 y106 f107 lx153 fm169) x2 t0_0 t0_1 t0_2 t0_3 t0_4 t0_5 t0_6 t0_7 t0_8 t0_9 t0_10 t1_0 p62 y24 y25 y26 y27 y28 y29 y30 y31 y32 y33 y34 f35 lx81 p134 y96 y97 y98 y99 y100 y101 y102 y103 y104 y105 y106 f107 lx153 lx163 fm228) x2 t0_0 t0_1 t0_2 t0_3 t0_4 t0_5 t0_6 t0_7 t0_8 t0_9 t0_10 t1_0 p62 y24 y25 y26 y27 y28 y29 y30 y31 y32 y33 y34 f35 lx81 p134 y96 y97 y98 y99 y100 y101 y102 y103 y104 y105 y106 f107 lx153 lx163 lx176 lx177 lx178 lx179 lx180 lx181 lx182 lx183 lx184 lx185 lx186 lx187 lx188 p280 = (F_DR_exponent x2 t0_0 t0_1 t0_2 t0_3 t0_4 t0_5 t0_6 t0_7 t0_8 t0_9 t0_10 t1_0) from Eq.trans (by rw [e281, ← e237, ← e235, ← e233, F_DR_exponent_L50.eq_2, if_neg c229]) hR224)
          have hS295 := (show True ∧ S_DR_exponent_c64 (S_DR_exponent_L34 x2 t0_0 t0_1 t0_2 t0_3 t0_4 t0_5 t0_6 t0_7 t0_8 t0_9 t0_10 t1_0 p62 y24 y25 y26 y27 y28 y29 y30 y31 y32 y33 y34 f35 lx81 p134 y96 y97 y98 y99 y100 y101 y102 y103 y104 y105 y106 f107 lx153 fm169) (S_DR_exponent_L50 (S_DR_exponent_L34 x2 t0_0 t0_1 t0_2 t0_3 t0_4 t0_5 t0_6 t0_7 t0_8 t0_9 t0_10 t1_0 p62 y24 y25 y26 y27 y28 y29 y30 y31 y32 y33 y34 f35 lx81 p134 y96 y97 y98 y99 y100 y101 y102 y103 y104 y105 y106 f107 lx153 fm169) x2 t0_0 t0_1 t0_2 t0_3 t0_4 t0_5 t0_6 t0_7 t0_8 t0_9 t0_10 t1_0 p62 y24 y25 y26 y27 y28 y29 y30 y31 y32 y33 y34 f35 lx81 p134 y96 y97 y98 y99 y100 y101 y102 y103 y104 y105 y106 f107 lx153 lx163 fm228) x2 t0_0 t0_1 t0_2 t0_3 t0_4 t0_5 t0_6 t0_7 t0_8 t0_9 t0_10 t1_0 p62 y24 y25 y26 y27 y28 y29 y30 y31 y32 y33 y34 f35 lx81 p134 y96 y97 y98 y99 y100 y101 y102 y103 y104 y105 y106 f107 lx153 lx163 lx176 lx177 lx178 lx179 lx180 lx181 lx182 lx183 lx184 lx185 lx186 lx187 lx188 p280 from (by rw [e281, ← e237, ← e235, ← e233]; have h := hS225; rw [S_DR_exponent_L50.eq_2] at h; rw [if_neg c229] at h; replace h := q_s2 h; with_reducible exact h))
          refine lv_iload_n hx hb d_15_51_67 rfl (lv_at hl 0 rfl) ?_
          refine lv_bipush (v := 10) hx hb d_15_51_68 (by decide) ?_
          refine lv_idiv hx hb d_15_51_70 (by decide) ?_
          obtain ⟨a299, e300⟩ := q_nm (lx176 / 10 : Int32)
          refine q_ti (v := a299) e300 ?_
          have b301 : q_F (10 * a299.toInt ≤ lx176.toInt ∧ lx176.toInt ≤ 10 * a299.toInt + 9) := (by rw [← e300]; show 10 * (lx176 / 10 : Int32).toInt ≤ lx176.toInt ∧ lx176.toInt ≤ 10 * (lx176 / 10 : Int32).toInt + 9; exact (by have z := q_divI (y := 10) (rfl : lx176.toInt = _) (by decide : (10 : Int32).toInt = 10) (by first | with_reducible exact q_fe i189 | (have t1 : 0 ≤ lx176.toInt := i189; omega)) (by decide); omega))
          refine lv_istore_n (lv' := [(3, .int a299), (2, .int lx153), (0, .ref (q 134))]) hx hb d_15_51_71 rfl hl (by decide) rfl (fun ls hl => ?_)
          refine lv_goto (tgt := 50) hx hb d_15_51_72 (by decide) ?_
          exact ih220 ((a299 : Int32), (y242 : Int32), (y243 : Int32), (y244 : Int32), (y245 : Int64), (y246 : Int32), (y247 : Int32), (y248 : Int32), (y249 : Int32), (y250 : Int32), (y251 : Int32), (y252 : Int32), (f253 : (Nat → Int32))) _ _ _ _ (show (a299.toInt - ((-1))).toNat < (lx176.toInt - ((-1))).toNat from by have t1 : 0 < lx176.toInt := b231; have t2 : 10 * a299.toInt ≤ lx176.toInt ∧ lx176.toInt ≤ 10 * a299.toInt + 9 := b301; have t3 : 0 ≤ lx176.toInt := i189; omega) ⟨(show q_F (0 ≤ a299.toInt) from (show 0 ≤ a299.toInt from by have t1 : 0 ≤ lx176.toInt := i189; have t2 : 10 * a299.toInt ≤ lx176.toInt ∧ lx176.toInt ≤ 10 * a299.toInt + 9 := b301; omega)), (show q_F (0 ≤ y243.toInt) from (show 0 ≤ y243.toInt from by have t1 : 0 ≤ lx178.toInt := i190; have t2 : lx178.toInt ≤ y243.toInt := b258; omega)), (show q_F (y243.toInt ≤ 4100) from (show y243.toInt ≤ 4100 from by have t1 : lx178.toInt ≤ 4100 := i191; have t2 : y243.toInt ≤ lx178.toInt := b259; omega)), (show q_F (0 ≤ y246.toInt) from (show 0 ≤ y246.toInt from by have t1 : 0 ≤ lx181.toInt := i192; have t2 : lx181.toInt ≤ y246.toInt := b264; omega)), (show q_F (y246.toInt ≤ 1) from (show y246.toInt ≤ 1 from by have t1 : lx181.toInt ≤ 1 := i193; have t2 : y246.toInt ≤ lx181.toInt := b265; omega)), (show q_F (0 ≤ y247.toInt) from (show 0 ≤ y247.toInt from by have t1 : 0 ≤ lx182.toInt := i194; have t2 : lx182.toInt ≤ y247.toInt := b266; omega)), (show q_F (y247.toInt ≤ 1) from (show y247.toInt ≤ 1 from by have t1 : lx182.toInt ≤ 1 := i195; have t2 : y247.toInt ≤ lx182.toInt := b267; omega)), (show q_F (2 ≤ y251.toInt) from (show 2 ≤ y251.toInt from by have t1 : 2 ≤ lx186.toInt := i196; have t2 : lx186.toInt + 1 ≤ y251.toInt := b274; omega)), (show q_F (y251.toInt ≤ 12200) from (show y251.toInt ≤ 12200 from by have t1 : y251.toInt ≤ 12200 := b255; omega)), (show q_F (y96.toInt ≤ y242.toInt) from (show y96.toInt ≤ y242.toInt from by have t1 : y96.toInt ≤ lx177.toInt := i198; have t2 : lx177.toInt ≤ y242.toInt := b256; omega)), (show q_F (y242.toInt ≤ y96.toInt) from (show y242.toInt ≤ y96.toInt from by have t1 : lx177.toInt ≤ y96.toInt := i199; have t2 : y242.toInt ≤ lx177.toInt := b257; omega)), (show q_F (y97.toInt ≤ y243.toInt) from (show y97.toInt ≤ y243.toInt from by have t1 : y97.toInt ≤ lx178.toInt := i200; have t2 : lx178.toInt ≤ y243.toInt := b258; omega)), (show q_F (y243.toInt ≤ y97.toInt) from (show y243.toInt ≤ y97.toInt from by have t1 : lx178.toInt ≤ y97.toInt := i201; have t2 : y243.toInt ≤ lx178.toInt := b259; omega)), (show q_F (y98.toInt ≤ y244.toInt) from (show y98.toInt ≤ y244.toInt from by have t1 : y98.toInt ≤ lx179.toInt := i202; have t2 : lx179.toInt ≤ y244.toInt := b260; omega)), (show q_F (y244.toInt ≤ y98.toInt) from (show y244.toInt ≤ y98.toInt from by have t1 : lx179.toInt ≤ y98.toInt := i203; have t2 : y244.toInt ≤ lx179.toInt := b261; omega)), (show q_F (y99.toInt ≤ y245.toInt) from (show y99.toInt ≤ y245.toInt from by have t1 : y99.toInt ≤ lx180.toInt := i204; have t2 : lx180.toInt ≤ y245.toInt := b262; omega)), (show q_F (y245.toInt ≤ y99.toInt) from (show y245.toInt ≤ y99.toInt from by have t1 : lx180.toInt ≤ y99.toInt := i205; have t2 : y245.toInt ≤ lx180.toInt := b263; omega)), (show q_F (y100.toInt ≤ y246.toInt) from (show y100.toInt ≤ y246.toInt from by have t1 : y100.toInt ≤ lx181.toInt := i206; have t2 : lx181.toInt ≤ y246.toInt := b264; omega)), (show q_F (y246.toInt ≤ y100.toInt) from (show y246.toInt ≤ y100.toInt from by have t1 : lx181.toInt ≤ y100.toInt := i207; have t2 : y246.toInt ≤ lx181.toInt := b265; omega)), (show q_F (y101.toInt ≤ y247.toInt) from (show y101.toInt ≤ y247.toInt from by have t1 : y101.toInt ≤ lx182.toInt := i208; have t2 : lx182.toInt ≤ y247.toInt := b266; omega)), (show q_F (y247.toInt ≤ y101.toInt) from (show y247.toInt ≤ y101.toInt from by have t1 : lx182.toInt ≤ y101.toInt := i209; have t2 : y247.toInt ≤ lx182.toInt := b267; omega)), (show q_F (y102.toInt ≤ y248.toInt) from (show y102.toInt ≤ y248.toInt from by have t1 : y102.toInt ≤ lx183.toInt := i210; have t2 : lx183.toInt ≤ y248.toInt := b268; omega)), (show q_F (y248.toInt ≤ y102.toInt) from (show y248.toInt ≤ y102.toInt from by have t1 : lx183.toInt ≤ y102.toInt := i211; have t2 : y248.toInt ≤ lx183.toInt := b269; omega)), (show q_F (y103.toInt ≤ y249.toInt) from (show y103.toInt ≤ y249.toInt from by have t1 : y103.toInt ≤ lx184.toInt := i212; have t2 : lx184.toInt ≤ y249.toInt := b270; omega)), (show q_F (y249.toInt ≤ y103.toInt) from (show y249.toInt ≤ y103.toInt from by have t1 : lx184.toInt ≤ y103.toInt := i213; have t2 : y249.toInt ≤ lx184.toInt := b271; omega)), (show q_F (y104.toInt ≤ y250.toInt) from (show y104.toInt ≤ y250.toInt from by have t1 : y104.toInt ≤ lx185.toInt := i214; have t2 : lx185.toInt ≤ y250.toInt := b272; omega)), (show q_F (y250.toInt ≤ y104.toInt) from (show y250.toInt ≤ y104.toInt from by have t1 : lx185.toInt ≤ y104.toInt := i215; have t2 : y250.toInt ≤ lx185.toInt := b273; omega)), (show q_F (y105.toInt ≤ y251.toInt) from (show y105.toInt ≤ y251.toInt from by have t1 : y105.toInt ≤ lx186.toInt := i216; have t2 : lx186.toInt + 1 ≤ y251.toInt := b274; omega)), (show q_F (y106.toInt ≤ y252.toInt) from (show y106.toInt ≤ y252.toInt from by have t1 : y106.toInt ≤ lx187.toInt := i217; have t2 : lx187.toInt ≤ y252.toInt := b276; omega)), (show q_F (y252.toInt ≤ y106.toInt) from (show y252.toInt ≤ y106.toInt from by have t1 : lx187.toInt ≤ y106.toInt := i218; have t2 : y252.toInt ≤ lx187.toInt := b277; omega)), (show q_F (a299.toInt + y251.toInt ≤ lx163.toInt + y105.toInt) from (show a299.toInt + y251.toInt ≤ lx163.toInt + y105.toInt from by have t1 : lx176.toInt + lx186.toInt ≤ lx163.toInt + y105.toInt := i219; have t2 : 0 < lx176.toInt := b231; have t3 : y251.toInt ≤ lx186.toInt + 1 := b275; have t4 : 10 * a299.toInt ≤ lx176.toInt ∧ lx176.toInt ≤ 10 * a299.toInt + 9 := b301; omega)), V, q_lw hl (q_lw1 0 rfl (q_lw1 1 rfl (q_lw1 2 rfl q_lw0))), hI, hF, hO241, hA254, ⟨fm228, Nat.lt_of_lt_of_le (show (a299.toInt - ((-1))).toNat < (lx176.toInt - ((-1))).toNat from by have t1 : 0 < lx176.toInt := b231; have t2 : 10 * a299.toInt ≤ lx176.toInt ∧ lx176.toInt ≤ 10 * a299.toInt + 9 := b301; have t3 : 0 ≤ lx176.toInt := i189; omega) (Nat.le_of_lt_succ hf227), (show F_DR_exponent_L50 (F_DR_exponent_L34 x2 t0_0 t0_1 t0_2 t0_3 t0_4 t0_5 t0_6 t0_7 t0_8 t0_9 t0_10 t1_0 p62 y24 y25 y26 y27 y28 y29 y30 y31 y32 y33 y34 f35 lx81 p134 y96 y97 y98 y99 y100 y101 y102 y103 y104 y105 y106 f107 lx153 fm169) x2 t0_0 t0_1 t0_2 t0_3 t0_4 t0_5 t0_6 t0_7 t0_8 t0_9 t0_10 t1_0 p62 y24 y25 y26 y27 y28 y29 y30 y31 y32 y33 y34 f35 lx81 p134 y96 y97 y98 y99 y100 y101 y102 y103 y104 y105 y106 f107 lx153 lx163 fm228 a299 y242 y243 y244 y245 y246 y247 y248 y249 y250 y251 y252 f253 = (F_DR_exponent x2 t0_0 t0_1 t0_2 t0_3 t0_4 t0_5 t0_6 t0_7 t0_8 t0_9 t0_10 t1_0) from Eq.trans (by rw [← e300, e293, e292, e291, e290, e289, e288, e287, e286, e285, e284, e283, e282, F_DR_exponent_c64.eq_1]) hR294), (show True ∧ S_DR_exponent_L50 (S_DR_exponent_L34 x2 t0_0 t0_1 t0_2 t0_3 t0_4 t0_5 t0_6 t0_7 t0_8 t0_9 t0_10 t1_0 p62 y24 y25 y26 y27 y28 y29 y30 y31 y32 y33 y34 f35 lx81 p134 y96 y97 y98 y99 y100 y101 y102 y103 y104 y105 y106 f107 lx153 fm169) x2 t0_0 t0_1 t0_2 t0_3 t0_4 t0_5 t0_6 t0_7 t0_8 t0_9 t0_10 t1_0 p62 y24 y25 y26 y27 y28 y29 y30 y31 y32 y33 y34 f35 lx81 p134 y96 y97 y98 y99 y100 y101 y102 y103 y104 y105 y106 f107 lx153 lx163 fm228 a299 y242 y243 y244 y245 y246 y247 y248 y249 y250 y251 y252 f253 from (by rw [← e300, e293, e292, e291, e290, e289, e288, e287, e286, e285, e284, e283, e282]; have h := hS295; rw [S_DR_exponent_c64.eq_1] at h; with_reducible exact h))⟩⟩
      ·
        refine lv_iload_n hx hb d_15_51_42 rfl (lv_at hl 0 rfl) ?_
        refine lv_bipush (v := 10) hx hb d_15_51_43 (by decide) ?_
        refine lv_imul hx hb d_15_51_45 ?_
        obtain ⟨a303, e304⟩ := q_nm (lx163 * 10 : Int32)
        refine q_ti (v := a303) e304 ?_
        refine lv_istore_n (lv' := [(3, .int a303), (2, .int lx153), (0, .ref (q 134))]) hx hb d_15_51_46 rfl hl (by decide) rfl (fun ls hl => ?_)
        refine lv_goto (tgt := 34) hx hb d_15_51_47 (by decide) ?_
        exact ih164 ((fm169 : Nat), (a303 : Int32)) _ _ _ u93 (Nat.lt_succ_self _) ⟨V, q_lw hl (q_lw1 0 rfl (q_lw1 1 rfl (q_lw1 2 rfl q_lw0))), (show F_DR_exponent_L34 x2 t0_0 t0_1 t0_2 t0_3 t0_4 t0_5 t0_6 t0_7 t0_8 t0_9 t0_10 t1_0 p62 y24 y25 y26 y27 y28 y29 y30 y31 y32 y33 y34 f35 lx81 p134 y96 y97 y98 y99 y100 y101 y102 y103 y104 y105 y106 f107 lx153 fm169 a303 = (F_DR_exponent x2 t0_0 t0_1 t0_2 t0_3 t0_4 t0_5 t0_6 t0_7 t0_8 t0_9 t0_10 t1_0) from Eq.trans (by have c173x := c173; rw [← e172] at c173x; rw [← e304, F_DR_exponent_L34.eq_2, if_neg c173x]) hR165), (show True ∧ S_DR_exponent_L34 x2 t0_0 t0_1 t0_2 t0_3 t0_4 t0_5 t0_6 t0_7 t0_8 t0_9 t0_10 t1_0 p62 y24 y25 y26 y27 y28 y29 y30 y31 y32 y33 y34 f35 lx81 p134 y96 y97 y98 y99 y100 y101 y102 y103 y104 y105 y106 f107 lx153 fm169 a303 from (by rw [← e304]; have h := hS166; rw [S_DR_exponent_L34.eq_2] at h; replace h := q_s2 h; have c173x := c173; rw [← e172] at c173x; rw [if_neg c173x] at h; with_reducible exact h))⟩
    ·
      intro J156
      refine lv_if_ge (tgt := 30) hx hb d_15_51_22 (by decide) (fun c305 => ?_) (fun c305 => ?_)
      ·
        refine lv_iload_n hx hb d_15_51_30 rfl (lv_at hl 1 rfl) ?_
        exact J156 ((x2 : Int32)) _ _ _ u93 ⟨V, q_lw hl (q_lw1 0 rfl q_lw0), (show F_DR_exponent_J31 x2 t0_0 t0_1 t0_2 t0_3 t0_4 t0_5 t0_6 t0_7 t0_8 t0_9 t0_10 t1_0 p62 y24 y25 y26 y27 y28 y29 y30 y31 y32 y33 y34 f35 lx81 p134 y96 y97 y98 y99 y100 y101 y102 y103 y104 y105 y106 f107 x2 = (F_DR_exponent x2 t0_0 t0_1 t0_2 t0_3 t0_4 t0_5 t0_6 t0_7 t0_8 t0_9 t0_10 t1_0) from Eq.trans (by rw [e147, e146, e145, e144, e143, e142, e141, e140, e139, e138, e137, e136, F_DR_exponent_c18.eq_1, if_pos c305]) hR148), (show True ∧ S_DR_exponent_J31 x2 t0_0 t0_1 t0_2 t0_3 t0_4 t0_5 t0_6 t0_7 t0_8 t0_9 t0_10 t1_0 p62 y24 y25 y26 y27 y28 y29 y30 y31 y32 y33 y34 f35 lx81 p134 y96 y97 y98 y99 y100 y101 y102 y103 y104 y105 y106 f107 x2 from (by rw [e147, e146, e145, e144, e143, e142, e141, e140, e139, e138, e137, e136]; have h := hS149; rw [S_DR_exponent_c18.eq_1] at h; rw [if_pos c305] at h; with_reducible exact h))⟩
      ·
        refine lv_iload_n hx hb d_15_51_25 rfl (lv_at hl 1 rfl) ?_
        refine lv_ineg hx hb d_15_51_26 ?_
        obtain ⟨a308, e309⟩ := q_nm (-x2 : Int32)
        refine q_ti (v := a308) e309 ?_
        refine lv_goto (tgt := 31) hx hb d_15_51_27 (by decide) ?_
        exact J156 ((a308 : Int32)) _ _ _ u93 ⟨V, q_lw hl (q_lw1 0 rfl q_lw0), (show F_DR_exponent_J31 x2 t0_0 t0_1 t0_2 t0_3 t0_4 t0_5 t0_6 t0_7 t0_8 t0_9 t0_10 t1_0 p62 y24 y25 y26 y27 y28 y29 y30 y31 y32 y33 y34 f35 lx81 p134 y96 y97 y98 y99 y100 y101 y102 y103 y104 y105 y106 f107 a308 = (F_DR_exponent x2 t0_0 t0_1 t0_2 t0_3 t0_4 t0_5 t0_6 t0_7 t0_8 t0_9 t0_10 t1_0) from Eq.trans (by rw [← e309, e147, e146, e145, e144, e143, e142, e141, e140, e139, e138, e137, e136, F_DR_exponent_c18.eq_1, if_neg c305]) hR148), (show True ∧ S_DR_exponent_J31 x2 t0_0 t0_1 t0_2 t0_3 t0_4 t0_5 t0_6 t0_7 t0_8 t0_9 t0_10 t1_0 p62 y24 y25 y26 y27 y28 y29 y30 y31 y32 y33 y34 f35 lx81 p134 y96 y97 y98 y99 y100 y101 y102 y103 y104 y105 y106 f107 a308 from (by rw [← e309, e147, e146, e145, e144, e143, e142, e141, e140, e139, e138, e137, e136]; have h := hS149; rw [S_DR_exponent_c18.eq_1] at h; rw [if_neg c305] at h; with_reducible exact h))⟩
  ·
    intro J84
    refine lv_if_ge (tgt := 16) hx hb d_15_51_8 (by decide) (fun c310 => ?_) (fun c310 => ?_)
    ·
      refine lv_bipush (v := 43) hx hb d_15_51_16 (by decide) ?_
      exact J84 ((43 : Int32)) _ _ _ u21 ⟨(show q_F (43 ≤ 43) from (show 43 ≤ 43 from by omega)), (show q_F (43 ≤ 45) from (show 43 ≤ 45 from by omega)), V, q_lw hl (q_lw1 0 rfl (q_lw1 1 rfl q_lw0)), (show F_DR_exponent_J18 x2 t0_0 t0_1 t0_2 t0_3 t0_4 t0_5 t0_6 t0_7 t0_8 t0_9 t0_10 t1_0 p62 y24 y25 y26 y27 y28 y29 y30 y31 y32 y33 y34 f35 43 = (F_DR_exponent x2 t0_0 t0_1 t0_2 t0_3 t0_4 t0_5 t0_6 t0_7 t0_8 t0_9 t0_10 t1_0) from Eq.trans (by rw [e75, e74, e73, e72, e71, e70, e69, e68, e67, e66, e65, e64, F_DR_exponent_c3.eq_1, if_pos c310]) hR76), (show True ∧ S_DR_exponent_J18 x2 t0_0 t0_1 t0_2 t0_3 t0_4 t0_5 t0_6 t0_7 t0_8 t0_9 t0_10 t1_0 p62 y24 y25 y26 y27 y28 y29 y30 y31 y32 y33 y34 f35 43 from (by rw [e75, e74, e73, e72, e71, e70, e69, e68, e67, e66, e65, e64]; have h := hS77; rw [S_DR_exponent_c3.eq_1] at h; rw [if_pos c310] at h; with_reducible exact h))⟩
    ·
      refine lv_bipush (v := 45) hx hb d_15_51_11 (by decide) ?_
      refine lv_goto (tgt := 18) hx hb d_15_51_13 (by decide) ?_
      exact J84 ((45 : Int32)) _ _ _ u21 ⟨(show q_F (43 ≤ 45) from (show 43 ≤ 45 from by omega)), (show q_F (45 ≤ 45) from (show 45 ≤ 45 from by omega)), V, q_lw hl (q_lw1 0 rfl (q_lw1 1 rfl q_lw0)), (show F_DR_exponent_J18 x2 t0_0 t0_1 t0_2 t0_3 t0_4 t0_5 t0_6 t0_7 t0_8 t0_9 t0_10 t1_0 p62 y24 y25 y26 y27 y28 y29 y30 y31 y32 y33 y34 f35 45 = (F_DR_exponent x2 t0_0 t0_1 t0_2 t0_3 t0_4 t0_5 t0_6 t0_7 t0_8 t0_9 t0_10 t1_0) from Eq.trans (by rw [e75, e74, e73, e72, e71, e70, e69, e68, e67, e66, e65, e64, F_DR_exponent_c3.eq_1, if_neg c310]) hR76), (show True ∧ S_DR_exponent_J18 x2 t0_0 t0_1 t0_2 t0_3 t0_4 t0_5 t0_6 t0_7 t0_8 t0_9 t0_10 t1_0 p62 y24 y25 y26 y27 y28 y29 y30 y31 y32 y33 y34 f35 45 from (by rw [e75, e74, e73, e72, e71, e70, e69, e68, e67, e66, e65, e64]; have h := hS77; rw [S_DR_exponent_c3.eq_1] at h; rw [if_neg c310] at h; with_reducible exact h))⟩
theorem d_15_52_0 : decode prog_15_method_52_code 0 = .ok (.iload_n 0, 1) := by decide +kernel
theorem d_15_52_1 : decode prog_15_method_52_code 1 = .ok (.ifCond .lt 11, 3) := by decide +kernel
theorem d_15_52_12 : decode prog_15_method_52_code 12 = .ok (.iconst 2, 1) := by decide +kernel
theorem d_15_52_13 : decode prog_15_method_52_code 13 = .ok (.iload_n 0, 1) := by decide +kernel
theorem d_15_52_14 : decode prog_15_method_52_code 14 = .ok (.isub, 1) := by decide +kernel
theorem d_15_52_15 : decode prog_15_method_52_code 15 = .ok (.iconst 3, 1) := by decide +kernel
theorem d_15_52_16 : decode prog_15_method_52_code 16 = .ok (.idiv, 1) := by decide +kernel
theorem d_15_52_17 : decode prog_15_method_52_code 17 = .ok (.iconst 3, 1) := by decide +kernel
theorem d_15_52_18 : decode prog_15_method_52_code 18 = .ok (.imul, 1) := by decide +kernel
theorem d_15_52_19 : decode prog_15_method_52_code 19 = .ok (.ineg, 1) := by decide +kernel
theorem d_15_52_20 : decode prog_15_method_52_code 20 = .ok (.ireturn, 1) := by decide +kernel
theorem d_15_52_4 : decode prog_15_method_52_code 4 = .ok (.iload_n 0, 1) := by decide +kernel
theorem d_15_52_5 : decode prog_15_method_52_code 5 = .ok (.iconst 3, 1) := by decide +kernel
theorem d_15_52_6 : decode prog_15_method_52_code 6 = .ok (.idiv, 1) := by decide +kernel
theorem d_15_52_7 : decode prog_15_method_52_code 7 = .ok (.iconst 3, 1) := by decide +kernel
theorem d_15_52_8 : decode prog_15_method_52_code 8 = .ok (.imul, 1) := by decide +kernel
theorem d_15_52_9 : decode prog_15_method_52_code 9 = .ok (.goto 11, 3) := by decide +kernel
def y_DR_down3 : MethodName := ⟨"NumberHouseModel$DecimalRows", "down3", "(I)I"⟩
def F_DR_down3 (x1 : Int32) : Int32 := if x1 < (0 : Int32) then ((-(((2 - x1 : Int32) / 3 : Int32) * 3 : Int32) : Int32)) else (((x1 / 3 : Int32) * 3 : Int32))
set_option maxRecDepth 100000 in
set_option maxHeartbeats 4000000 in
theorem X_DR_down3 (l : Launch) (D : va_G) (g : Nat → ClassId) (q : Nat → Nat) (ws : va_W) (x1 : Int32) (hI : q_I (msh g q) q ws) : q_mI l y_DR_down3 prog_15_method_52_code 1 (.int) 1 0 0 D g [.int x1] ws (fun r u => ws = u ∧ (0 ≤ r.toInt + 2147483646) ∧ (r.toInt ≤ 2147483646) ∧ r = (F_DR_down3 x1)) := by
  intro sz
  refine q_into (by decide) (Nat.le_of_ble_eq_true rfl) ?_
  intro p e s m below meth c ls hsz C0 V hl
  have hx := C0.1
  have hb := C0.2.1
  have hl : lv_has ls 1 [(0, .int x1)] := hl
  refine lv_iload_n hx hb d_15_52_0 rfl (lv_at hl 0 rfl) ?_
  refine lv_if_lt (tgt := 12) hx hb d_15_52_1 (by decide) (fun c1 => ?_) (fun c1 => ?_)
  ·
    refine lv_iconst (v := 2) hx hb d_15_52_12 (by decide) ?_
    refine lv_iload_n hx hb d_15_52_13 rfl (lv_at hl 0 rfl) ?_
    refine lv_isub hx hb d_15_52_14 ?_
    obtain ⟨a3, e4⟩ := q_nm (2 - x1 : Int32)
    refine q_ti (v := a3) e4 ?_
    refine lv_iconst (v := 3) hx hb d_15_52_15 (by decide) ?_
    refine lv_idiv hx hb d_15_52_16 (by decide) ?_
    obtain ⟨a5, e6⟩ := q_nm (a3 / 3 : Int32)
    refine q_ti (v := a5) e6 ?_
    have b7 : q_F ((0 ≤ a3.toInt ∧ 3 * a5.toInt ≤ a3.toInt ∧ a3.toInt ≤ 3 * a5.toInt + (3 - 1)) ∨ (a3.toInt < 0 ∧ a3.toInt ≤ 3 * a5.toInt ∧ 3 * a5.toInt ≤ a3.toInt + (3 - 1))) := (by rw [← e6]; show (0 ≤ a3.toInt ∧ 3 * (a3 / 3 : Int32).toInt ≤ a3.toInt ∧ a3.toInt ≤ 3 * (a3 / 3 : Int32).toInt + (3 - 1)) ∨ (a3.toInt < 0 ∧ a3.toInt ≤ 3 * (a3 / 3 : Int32).toInt ∧ 3 * (a3 / 3 : Int32).toInt ≤ a3.toInt + (3 - 1)); exact n_divI (a := a3) (b := 3) (n := 3) (by decide) (by decide))
    refine lv_iconst (v := 3) hx hb d_15_52_17 (by decide) ?_
    refine lv_imul hx hb d_15_52_18 ?_
    obtain ⟨a8, e9⟩ := q_nm (a5 * 3 : Int32)
    refine q_ti (v := a8) e9 ?_
    have b10 : q_F (a8.toInt = a5.toInt * 3) := (by rw [← e9]; show (a5 * 3 : Int32).toInt = a5.toInt * 3; exact q_mulI (x := a5.toInt) (y := 3) rfl (by decide) (by have t1 : (0 ≤ a3.toInt ∧ 3 * a5.toInt ≤ a3.toInt ∧ a3.toInt ≤ 3 * a5.toInt + (3 - 1)) ∨ (a3.toInt < 0 ∧ a3.toInt ≤ 3 * a5.toInt ∧ 3 * a5.toInt ≤ a3.toInt + (3 - 1)) := b7; have _ := q_lo32 (x := a3); have _ := q_hi32 (x := a3); omega) (by have t1 : (0 ≤ a3.toInt ∧ 3 * a5.toInt ≤ a3.toInt ∧ a3.toInt ≤ 3 * a5.toInt + (3 - 1)) ∨ (a3.toInt < 0 ∧ a3.toInt ≤ 3 * a5.toInt ∧ 3 * a5.toInt ≤ a3.toInt + (3 - 1)) := b7; have _ := q_lo32 (x := a3); have _ := q_hi32 (x := a3); omega))
    refine lv_ineg hx hb d_15_52_19 ?_
    obtain ⟨a11, e12⟩ := q_nm (-a8 : Int32)
    refine q_ti (v := a11) e12 ?_
    have b13 : q_F (a11.toInt = -a8.toInt) := (by rw [← e12]; show (-a8 : Int32).toInt = -a8.toInt; exact q_negI rfl (by have t1 : a8.toInt = a5.toInt * 3 := b10; have _ := q_lo32 (x := a5); have _ := q_hi32 (x := a5); have _ := q_lo32 (x := a8); have _ := q_hi32 (x := a8); omega))
    exact q_reti C0 V (⟨rfl, (show 0 ≤ a11.toInt + 2147483646 from (by have t1 : (0 ≤ a3.toInt ∧ 3 * a5.toInt ≤ a3.toInt ∧ a3.toInt ≤ 3 * a5.toInt + (3 - 1)) ∨ (a3.toInt < 0 ∧ a3.toInt ≤ 3 * a5.toInt ∧ 3 * a5.toInt ≤ a3.toInt + (3 - 1)) := b7; have t2 : a8.toInt = a5.toInt * 3 := b10; have t3 : a11.toInt = -a8.toInt := b13; have _ := q_lo32 (x := a3); have _ := q_hi32 (x := a3); have _ := q_lo32 (x := a5); have _ := q_hi32 (x := a5); omega)), (show a11.toInt ≤ 2147483646 from (by have t1 : (0 ≤ a3.toInt ∧ 3 * a5.toInt ≤ a3.toInt ∧ a3.toInt ≤ 3 * a5.toInt + (3 - 1)) ∨ (a3.toInt < 0 ∧ a3.toInt ≤ 3 * a5.toInt ∧ 3 * a5.toInt ≤ a3.toInt + (3 - 1)) := b7; have t2 : a8.toInt = a5.toInt * 3 := b10; have t3 : a11.toInt = -a8.toInt := b13; have _ := q_lo32 (x := a3); have _ := q_hi32 (x := a3); have _ := q_lo32 (x := a5); have _ := q_hi32 (x := a5); omega)), (show a11 = (F_DR_down3 x1) from (by rw [← e12, ← e9, ← e6, ← e4, F_DR_down3.eq_1, if_pos c1]))⟩) d_15_52_20
  ·
    have b14 : q_F (0 ≤ x1.toInt) := (q_nltI c1)
    refine lv_iload_n hx hb d_15_52_4 rfl (lv_at hl 0 rfl) ?_
    refine lv_iconst (v := 3) hx hb d_15_52_5 (by decide) ?_
    refine lv_idiv hx hb d_15_52_6 (by decide) ?_
    obtain ⟨a15, e16⟩ := q_nm (x1 / 3 : Int32)
    refine q_ti (v := a15) e16 ?_
    have b17 : q_F (3 * a15.toInt ≤ x1.toInt ∧ x1.toInt ≤ 3 * a15.toInt + 2) := (by rw [← e16]; show 3 * (x1 / 3 : Int32).toInt ≤ x1.toInt ∧ x1.toInt ≤ 3 * (x1 / 3 : Int32).toInt + 2; exact (by have z := q_divI (y := 3) (rfl : x1.toInt = _) (by decide : (3 : Int32).toInt = 3) (by first | with_reducible exact q_fe b14 | (have t1 : 0 ≤ x1.toInt := b14; omega)) (by decide); omega))
    refine lv_iconst (v := 3) hx hb d_15_52_7 (by decide) ?_
    refine lv_imul hx hb d_15_52_8 ?_
    obtain ⟨a18, e19⟩ := q_nm (a15 * 3 : Int32)
    refine q_ti (v := a18) e19 ?_
    have b20 : q_F (a18.toInt = a15.toInt * 3) := (by rw [← e19]; show (a15 * 3 : Int32).toInt = a15.toInt * 3; exact q_mulI (x := a15.toInt) (y := 3) rfl (by decide) (by have t1 : 0 ≤ x1.toInt := b14; have t2 : 3 * a15.toInt ≤ x1.toInt ∧ x1.toInt ≤ 3 * a15.toInt + 2 := b17; have _ := q_lo32 (x := x1); have _ := q_hi32 (x := x1); omega) (by have t1 : 0 ≤ x1.toInt := b14; have t2 : 3 * a15.toInt ≤ x1.toInt ∧ x1.toInt ≤ 3 * a15.toInt + 2 := b17; have _ := q_lo32 (x := x1); have _ := q_hi32 (x := x1); omega))
    refine lv_goto (tgt := 20) hx hb d_15_52_9 (by decide) ?_
    exact q_reti C0 V (⟨rfl, (show 0 ≤ a18.toInt + 2147483646 from (by have t1 : a18.toInt = a15.toInt * 3 := b20; have _ := q_lo32 (x := a15); have _ := q_hi32 (x := a15); have _ := q_lo32 (x := a18); have _ := q_hi32 (x := a18); omega)), (show a18.toInt ≤ 2147483646 from (by have t1 : a18.toInt = a15.toInt * 3 := b20; have _ := q_lo32 (x := a15); have _ := q_hi32 (x := a15); have _ := q_lo32 (x := a18); have _ := q_hi32 (x := a18); omega)), (show a18 = (F_DR_down3 x1) from (by rw [← e19, ← e16, F_DR_down3.eq_1, if_neg c1]))⟩) d_15_52_20
theorem d_15_53_0 : decode prog_15_method_53_code 0 = .ok (.aload_n 0, 1) := by decide +kernel
theorem d_15_53_1 : decode prog_15_method_53_code 1 = .ok (.iload_n 1, 1) := by decide +kernel
theorem d_15_53_2 : decode prog_15_method_53_code 2 = .ok (.invokestatic 113, 3) := by decide +kernel
theorem d_15_53_22 : decode prog_15_method_53_code 22 = .ok (.putfield 41, 3) := by decide +kernel
theorem d_15_53_25 : decode prog_15_method_53_code 25 = .ok (.aload_n 0, 1) := by decide +kernel
theorem d_15_53_26 : decode prog_15_method_53_code 26 = .ok (.getfield 41, 3) := by decide +kernel
theorem d_15_53_29 : decode prog_15_method_53_code 29 = .ok (.ifCond .le 5, 3) := by decide +kernel
theorem d_15_53_34 : decode prog_15_method_53_code 34 = .ok (.aload_n 0, 1) := by decide +kernel
theorem d_15_53_35 : decode prog_15_method_53_code 35 = .ok (.iconst 0, 1) := by decide +kernel
theorem d_15_53_36 : decode prog_15_method_53_code 36 = .ok (.putfield 186, 3) := by decide +kernel
theorem d_15_53_39 : decode prog_15_method_53_code 39 = .ok (.aload_n 0, 1) := by decide +kernel
theorem d_15_53_40 : decode prog_15_method_53_code 40 = .ok (.getfield 19, 3) := by decide +kernel
theorem d_15_53_43 : decode prog_15_method_53_code 43 = .ok (.iload_n 1, 1) := by decide +kernel
theorem d_15_53_44 : decode prog_15_method_53_code 44 = .ok (.baload, 1) := by decide +kernel
theorem d_15_53_54 : decode prog_15_method_53_code 54 = .ok (.aload_n 0, 1) := by decide +kernel
theorem d_15_53_55 : decode prog_15_method_53_code 55 = .ok (.getfield 16, 3) := by decide +kernel
theorem d_15_53_58 : decode prog_15_method_53_code 58 = .ok (.iload_n 1, 1) := by decide +kernel
theorem d_15_53_59 : decode prog_15_method_53_code 59 = .ok (.iaload, 1) := by decide +kernel
theorem d_15_53_60 : decode prog_15_method_53_code 60 = .ok (.istore_n 3, 1) := by decide +kernel
theorem d_15_53_61 : decode prog_15_method_53_code 61 = .ok (.aload_n 0, 1) := by decide +kernel
theorem d_15_53_62 : decode prog_15_method_53_code 62 = .ok (.getfield 23, 3) := by decide +kernel
theorem d_15_53_65 : decode prog_15_method_53_code 65 = .ok (.iload_n 1, 1) := by decide +kernel
theorem d_15_53_66 : decode prog_15_method_53_code 66 = .ok (.iaload, 1) := by decide +kernel
theorem d_15_53_67 : decode prog_15_method_53_code 67 = .ok (.istore 4, 2) := by decide +kernel
theorem d_15_53_69 : decode prog_15_method_53_code 69 = .ok (.iload_n 3, 1) := by decide +kernel
theorem d_15_53_70 : decode prog_15_method_53_code 70 = .ok (.iconst 1, 1) := by decide +kernel
theorem d_15_53_71 : decode prog_15_method_53_code 71 = .ok (.isub, 1) := by decide +kernel
theorem d_15_53_72 : decode prog_15_method_53_code 72 = .ok (.iload 4, 2) := by decide +kernel
theorem d_15_53_74 : decode prog_15_method_53_code 74 = .ok (.isub, 1) := by decide +kernel
theorem d_15_53_75 : decode prog_15_method_53_code 75 = .ok (.istore 5, 2) := by decide +kernel
theorem d_15_53_77 : decode prog_15_method_53_code 77 = .ok (.iload_n 2, 1) := by decide +kernel
theorem d_15_53_78 : decode prog_15_method_53_code 78 = .ok (.iconst 1, 1) := by decide +kernel
theorem d_15_53_113 : decode prog_15_method_53_code 113 = .ok (.iload 4, 2) := by decide +kernel
theorem d_15_53_170 : decode prog_15_method_53_code 170 = .ok (.iload_n 2, 1) := by decide +kernel
theorem d_15_53_171 : decode prog_15_method_53_code 171 = .ok (.ifCond .ne 20, 3) := by decide +kernel
theorem d_15_53_191 : decode prog_15_method_53_code 191 = .ok (.aload_n 0, 1) := by decide +kernel
theorem d_15_53_192 : decode prog_15_method_53_code 192 = .ok (.iload_n 1, 1) := by decide +kernel
theorem d_15_53_193 : decode prog_15_method_53_code 193 = .ok (.invokevirtual 120, 3) := by decide +kernel
theorem d_15_53_196 : decode prog_15_method_53_code 196 = .ok (.ifCond .eq 40, 3) := by decide +kernel
theorem d_15_53_236 : decode prog_15_method_53_code 236 = .ok (.iload 5, 2) := by decide +kernel
theorem d_15_53_238 : decode prog_15_method_53_code 238 = .ok (.invokestatic 199, 3) := by decide +kernel
set_option maxRecDepth 100000 in
theorem w_2972 : (Cond.code ({ cls := "NumberHouseModel$DecimalRows", name := "down3", desc := "(I)I" } : MethodName) prog_15_method_52_code (1 : Nat) (some .int)) ∈ q_tbl := q_of13 92 rfl (by decide +kernel)
set_option maxRecDepth 100000 in
theorem w_2970 : (Cond.methodLink "NumberHouseModel$DecimalRows" (199 : Nat) ({ cls := "NumberHouseModel$DecimalRows", name := "down3", desc := "(I)I" } : MethodName)) ∈ q_tbl := q_of13 90 rfl (by decide +kernel)
set_option maxRecDepth 100000 in
theorem w_2971 : (Cond.static ({ cls := "NumberHouseModel$DecimalRows", name := "down3", desc := "(I)I" } : MethodName)) ∈ q_tbl := q_of13 91 rfl (by decide +kernel)
theorem LS_DR_199 : q_LS "NumberHouseModel$DecimalRows" 199 y_DR_down3 prog_15_method_52_code 1 (some .int) 1 := ⟨w_2972, w_16, w_2970, w_2971, ⟨by decide, by decide, by decide +kernel⟩⟩
theorem d_15_53_241 : decode prog_15_method_53_code 241 = .ok (.istore 6, 2) := by decide +kernel
theorem d_15_53_243 : decode prog_15_method_53_code 243 = .ok (.aload_n 0, 1) := by decide +kernel
theorem d_15_53_244 : decode prog_15_method_53_code 244 = .ok (.iload_n 1, 1) := by decide +kernel
theorem d_15_53_245 : decode prog_15_method_53_code 245 = .ok (.iconst 0, 1) := by decide +kernel
theorem d_15_53_246 : decode prog_15_method_53_code 246 = .ok (.iload_n 3, 1) := by decide +kernel
theorem d_15_53_247 : decode prog_15_method_53_code 247 = .ok (.iload 5, 2) := by decide +kernel
theorem d_15_53_249 : decode prog_15_method_53_code 249 = .ok (.iload 6, 2) := by decide +kernel
theorem d_15_53_251 : decode prog_15_method_53_code 251 = .ok (.isub, 1) := by decide +kernel
theorem d_15_53_252 : decode prog_15_method_53_code 252 = .ok (.iconst 1, 1) := by decide +kernel
theorem d_15_53_253 : decode prog_15_method_53_code 253 = .ok (.iadd, 1) := by decide +kernel
theorem d_15_53_268 : decode prog_15_method_53_code 268 = .ok (.iload 5, 2) := by decide +kernel
theorem d_15_53_270 : decode prog_15_method_53_code 270 = .ok (.iload 6, 2) := by decide +kernel
theorem d_15_53_272 : decode prog_15_method_53_code 272 = .ok (.isub, 1) := by decide +kernel
theorem d_15_53_273 : decode prog_15_method_53_code 273 = .ok (.iconst 1, 1) := by decide +kernel
theorem d_15_53_274 : decode prog_15_method_53_code 274 = .ok (.iadd, 1) := by decide +kernel
theorem d_15_53_275 : decode prog_15_method_53_code 275 = .ok (.invokevirtual 192, 3) := by decide +kernel
set_option maxRecDepth 100000 in
theorem w_2965 : (Cond.code ({ cls := "NumberHouseModel$DecimalRows", name := "figures", desc := "(IIII)V" } : MethodName) prog_15_method_50_code (6 : Nat) (none : Option ClassFile.FieldType)) ∈ q_tbl := q_of13 85 rfl (by decide +kernel)
set_option maxRecDepth 100000 in
theorem w_2962 : (Cond.methodLink "NumberHouseModel$DecimalRows" (192 : Nat) ({ cls := "NumberHouseModel$DecimalRows", name := "figures", desc := "(IIII)V" } : MethodName)) ∈ q_tbl := q_of13 82 rfl (by decide +kernel)
set_option maxRecDepth 100000 in
theorem w_2964 : (Cond.instanceMethod ({ cls := "NumberHouseModel$DecimalRows", name := "figures", desc := "(IIII)V" } : MethodName)) ∈ q_tbl := q_of13 84 rfl (by decide +kernel)
theorem ws_131 : Cond.selects "NumberHouseModel$DecimalRows" (⟨"NumberHouseModel$DecimalRows", "figures", "(IIII)V"⟩ : MethodName) (⟨"NumberHouseModel$DecimalRows", "figures", "(IIII)V"⟩ : MethodName) ∈ q_tbl := q_ofs 131 (by decide +kernel) (by decide +kernel)
theorem LV_DR_192 : q_LV "NumberHouseModel$DecimalRows" 192 y_DR_figures prog_15_method_50_code 6 none 4 := ⟨w_2965, w_16, w_2962, w_2964, ws_131, ⟨by decide, by decide, by decide +kernel⟩⟩
theorem d_15_53_278 : decode prog_15_method_53_code 278 = .ok (.iload 6, 2) := by decide +kernel
theorem d_15_53_280 : decode prog_15_method_53_code 280 = .ok (.ifCond .eq 9, 3) := by decide +kernel
theorem d_15_53_289 : decode prog_15_method_53_code 289 = .ok (.aload_n 0, 1) := by decide +kernel
theorem d_15_53_290 : decode prog_15_method_53_code 290 = .ok (.getfield 186, 3) := by decide +kernel
theorem d_15_53_293 : decode prog_15_method_53_code 293 = .ok (.ireturn, 1) := by decide +kernel
theorem d_15_53_283 : decode prog_15_method_53_code 283 = .ok (.aload_n 0, 1) := by decide +kernel
theorem d_15_53_284 : decode prog_15_method_53_code 284 = .ok (.iload 6, 2) := by decide +kernel
theorem d_15_53_286 : decode prog_15_method_53_code 286 = .ok (.invokevirtual 196, 3) := by decide +kernel
set_option maxRecDepth 100000 in
theorem w_2969 : (Cond.code ({ cls := "NumberHouseModel$DecimalRows", name := "exponent", desc := "(I)V" } : MethodName) prog_15_method_51_code (4 : Nat) (none : Option ClassFile.FieldType)) ∈ q_tbl := q_of13 89 rfl (by decide +kernel)
set_option maxRecDepth 100000 in
theorem w_2966 : (Cond.methodLink "NumberHouseModel$DecimalRows" (196 : Nat) ({ cls := "NumberHouseModel$DecimalRows", name := "exponent", desc := "(I)V" } : MethodName)) ∈ q_tbl := q_of13 86 rfl (by decide +kernel)
set_option maxRecDepth 100000 in
theorem w_2968 : (Cond.instanceMethod ({ cls := "NumberHouseModel$DecimalRows", name := "exponent", desc := "(I)V" } : MethodName)) ∈ q_tbl := q_of13 88 rfl (by decide +kernel)
theorem ws_132 : Cond.selects "NumberHouseModel$DecimalRows" (⟨"NumberHouseModel$DecimalRows", "exponent", "(I)V"⟩ : MethodName) (⟨"NumberHouseModel$DecimalRows", "exponent", "(I)V"⟩ : MethodName) ∈ q_tbl := q_ofs 132 (by decide +kernel) (by decide +kernel)
theorem LV_DR_196 : q_LV "NumberHouseModel$DecimalRows" 196 y_DR_exponent prog_15_method_51_code 4 none 1 := ⟨w_2969, w_16, w_2966, w_2968, ws_132, ⟨by decide, by decide, by decide +kernel⟩⟩
theorem d_15_53_254 : decode prog_15_method_53_code 254 = .ok (.if_icmp .le 7, 3) := by decide +kernel
theorem d_15_53_261 : decode prog_15_method_53_code 261 = .ok (.iload 5, 2) := by decide +kernel
theorem d_15_53_263 : decode prog_15_method_53_code 263 = .ok (.iload 6, 2) := by decide +kernel
theorem d_15_53_265 : decode prog_15_method_53_code 265 = .ok (.isub, 1) := by decide +kernel
theorem d_15_53_266 : decode prog_15_method_53_code 266 = .ok (.iconst 1, 1) := by decide +kernel
theorem d_15_53_267 : decode prog_15_method_53_code 267 = .ok (.iadd, 1) := by decide +kernel
theorem d_15_53_257 : decode prog_15_method_53_code 257 = .ok (.iload_n 3, 1) := by decide +kernel
theorem d_15_53_258 : decode prog_15_method_53_code 258 = .ok (.goto 10, 3) := by decide +kernel
theorem d_15_53_199 : decode prog_15_method_53_code 199 = .ok (.iload 5, 2) := by decide +kernel
theorem d_15_53_201 : decode prog_15_method_53_code 201 = .ok (.ineg, 1) := by decide +kernel
theorem d_15_53_202 : decode prog_15_method_53_code 202 = .ok (.invokestatic 199, 3) := by decide +kernel
theorem d_15_53_205 : decode prog_15_method_53_code 205 = .ok (.ineg, 1) := by decide +kernel
theorem d_15_53_206 : decode prog_15_method_53_code 206 = .ok (.istore 6, 2) := by decide +kernel
theorem d_15_53_208 : decode prog_15_method_53_code 208 = .ok (.aload_n 0, 1) := by decide +kernel
theorem d_15_53_209 : decode prog_15_method_53_code 209 = .ok (.iload_n 1, 1) := by decide +kernel
theorem d_15_53_210 : decode prog_15_method_53_code 210 = .ok (.iconst 0, 1) := by decide +kernel
theorem d_15_53_211 : decode prog_15_method_53_code 211 = .ok (.iconst 1, 1) := by decide +kernel
theorem d_15_53_212 : decode prog_15_method_53_code 212 = .ok (.iload 6, 2) := by decide +kernel
theorem d_15_53_214 : decode prog_15_method_53_code 214 = .ok (.iadd, 1) := by decide +kernel
theorem d_15_53_215 : decode prog_15_method_53_code 215 = .ok (.iload 5, 2) := by decide +kernel
theorem d_15_53_217 : decode prog_15_method_53_code 217 = .ok (.isub, 1) := by decide +kernel
theorem d_15_53_218 : decode prog_15_method_53_code 218 = .ok (.iconst 1, 1) := by decide +kernel
theorem d_15_53_219 : decode prog_15_method_53_code 219 = .ok (.invokevirtual 192, 3) := by decide +kernel
theorem d_15_53_222 : decode prog_15_method_53_code 222 = .ok (.iload 6, 2) := by decide +kernel
theorem d_15_53_224 : decode prog_15_method_53_code 224 = .ok (.ifCond .eq 9, 3) := by decide +kernel
theorem d_15_53_233 : decode prog_15_method_53_code 233 = .ok (.goto 56, 3) := by decide +kernel
theorem d_15_53_227 : decode prog_15_method_53_code 227 = .ok (.aload_n 0, 1) := by decide +kernel
theorem d_15_53_228 : decode prog_15_method_53_code 228 = .ok (.iload 6, 2) := by decide +kernel
theorem d_15_53_230 : decode prog_15_method_53_code 230 = .ok (.invokevirtual 196, 3) := by decide +kernel
theorem d_15_53_174 : decode prog_15_method_53_code 174 = .ok (.aload_n 0, 1) := by decide +kernel
theorem d_15_53_175 : decode prog_15_method_53_code 175 = .ok (.iload_n 1, 1) := by decide +kernel
theorem d_15_53_176 : decode prog_15_method_53_code 176 = .ok (.iconst 0, 1) := by decide +kernel
theorem d_15_53_177 : decode prog_15_method_53_code 177 = .ok (.iload_n 3, 1) := by decide +kernel
theorem d_15_53_178 : decode prog_15_method_53_code 178 = .ok (.iconst 1, 1) := by decide +kernel
theorem d_15_53_179 : decode prog_15_method_53_code 179 = .ok (.invokevirtual 192, 3) := by decide +kernel
theorem d_15_53_182 : decode prog_15_method_53_code 182 = .ok (.aload_n 0, 1) := by decide +kernel
theorem d_15_53_183 : decode prog_15_method_53_code 183 = .ok (.iload 5, 2) := by decide +kernel
theorem d_15_53_185 : decode prog_15_method_53_code 185 = .ok (.invokevirtual 196, 3) := by decide +kernel
theorem d_15_53_188 : decode prog_15_method_53_code 188 = .ok (.goto 101, 3) := by decide +kernel
theorem d_15_53_115 : decode prog_15_method_53_code 115 = .ok (.ifCond .lt 55, 3) := by decide +kernel
theorem d_15_53_118 : decode prog_15_method_53_code 118 = .ok (.iload_n 2, 1) := by decide +kernel
theorem d_15_53_119 : decode prog_15_method_53_code 119 = .ok (.iconst 1, 1) := by decide +kernel
theorem d_15_53_130 : decode prog_15_method_53_code 130 = .ok (.aload_n 0, 1) := by decide +kernel
theorem d_15_53_131 : decode prog_15_method_53_code 131 = .ok (.iload_n 1, 1) := by decide +kernel
theorem d_15_53_132 : decode prog_15_method_53_code 132 = .ok (.iload_n 3, 1) := by decide +kernel
theorem d_15_53_133 : decode prog_15_method_53_code 133 = .ok (.iload 4, 2) := by decide +kernel
theorem d_15_53_135 : decode prog_15_method_53_code 135 = .ok (.isub, 1) := by decide +kernel
theorem d_15_53_136 : decode prog_15_method_53_code 136 = .ok (.iconst 1, 1) := by decide +kernel
theorem d_15_53_150 : decode prog_15_method_53_code 150 = .ok (.iload_n 3, 1) := by decide +kernel
theorem d_15_53_151 : decode prog_15_method_53_code 151 = .ok (.iload 4, 2) := by decide +kernel
theorem d_15_53_153 : decode prog_15_method_53_code 153 = .ok (.ifCond .ne 7, 3) := by decide +kernel
theorem d_15_53_160 : decode prog_15_method_53_code 160 = .ok (.iload_n 3, 1) := by decide +kernel
theorem d_15_53_161 : decode prog_15_method_53_code 161 = .ok (.iload 4, 2) := by decide +kernel
theorem d_15_53_163 : decode prog_15_method_53_code 163 = .ok (.isub, 1) := by decide +kernel
theorem d_15_53_164 : decode prog_15_method_53_code 164 = .ok (.invokevirtual 192, 3) := by decide +kernel
theorem d_15_53_167 : decode prog_15_method_53_code 167 = .ok (.goto 122, 3) := by decide +kernel
theorem d_15_53_156 : decode prog_15_method_53_code 156 = .ok (.iconst (-1), 1) := by decide +kernel
theorem d_15_53_157 : decode prog_15_method_53_code 157 = .ok (.goto 7, 3) := by decide +kernel
theorem d_15_53_137 : decode prog_15_method_53_code 137 = .ok (.if_icmp .ge 12, 3) := by decide +kernel
theorem d_15_53_149 : decode prog_15_method_53_code 149 = .ok (.iconst 0, 1) := by decide +kernel
theorem d_15_53_140 : decode prog_15_method_53_code 140 = .ok (.iload_n 3, 1) := by decide +kernel
theorem d_15_53_141 : decode prog_15_method_53_code 141 = .ok (.iload 4, 2) := by decide +kernel
theorem d_15_53_143 : decode prog_15_method_53_code 143 = .ok (.isub, 1) := by decide +kernel
theorem d_15_53_144 : decode prog_15_method_53_code 144 = .ok (.iconst 1, 1) := by decide +kernel
theorem d_15_53_145 : decode prog_15_method_53_code 145 = .ok (.isub, 1) := by decide +kernel
theorem d_15_53_146 : decode prog_15_method_53_code 146 = .ok (.goto 4, 3) := by decide +kernel
theorem d_15_53_120 : decode prog_15_method_53_code 120 = .ok (.if_icmp .eq 10, 3) := by decide +kernel
theorem d_15_53_123 : decode prog_15_method_53_code 123 = .ok (.iload 5, 2) := by decide +kernel
theorem d_15_53_125 : decode prog_15_method_53_code 125 = .ok (.bipush (-6), 2) := by decide +kernel
theorem d_15_53_127 : decode prog_15_method_53_code 127 = .ok (.if_icmp .lt 43, 3) := by decide +kernel
theorem d_15_53_79 : decode prog_15_method_53_code 79 = .ok (.if_icmp .ne 34, 3) := by decide +kernel
theorem d_15_53_82 : decode prog_15_method_53_code 82 = .ok (.iload 4, 2) := by decide +kernel
theorem d_15_53_84 : decode prog_15_method_53_code 84 = .ok (.ifCond .gt 29, 3) := by decide +kernel
theorem d_15_53_87 : decode prog_15_method_53_code 87 = .ok (.aload_n 0, 1) := by decide +kernel
theorem d_15_53_88 : decode prog_15_method_53_code 88 = .ok (.iload_n 1, 1) := by decide +kernel
theorem d_15_53_89 : decode prog_15_method_53_code 89 = .ok (.iconst 0, 1) := by decide +kernel
theorem d_15_53_90 : decode prog_15_method_53_code 90 = .ok (.aload_n 0, 1) := by decide +kernel
theorem d_15_53_91 : decode prog_15_method_53_code 91 = .ok (.iload_n 1, 1) := by decide +kernel
theorem d_15_53_92 : decode prog_15_method_53_code 92 = .ok (.invokevirtual 120, 3) := by decide +kernel
theorem d_15_53_95 : decode prog_15_method_53_code 95 = .ok (.ifCond .eq 7, 3) := by decide +kernel
theorem d_15_53_102 : decode prog_15_method_53_code 102 = .ok (.iload_n 3, 1) := by decide +kernel
theorem d_15_53_103 : decode prog_15_method_53_code 103 = .ok (.iload 4, 2) := by decide +kernel
theorem d_15_53_105 : decode prog_15_method_53_code 105 = .ok (.isub, 1) := by decide +kernel
theorem d_15_53_106 : decode prog_15_method_53_code 106 = .ok (.iconst (-1), 1) := by decide +kernel
theorem d_15_53_107 : decode prog_15_method_53_code 107 = .ok (.invokevirtual 192, 3) := by decide +kernel
theorem d_15_53_110 : decode prog_15_method_53_code 110 = .ok (.goto 179, 3) := by decide +kernel
theorem d_15_53_98 : decode prog_15_method_53_code 98 = .ok (.iconst 1, 1) := by decide +kernel
theorem d_15_53_99 : decode prog_15_method_53_code 99 = .ok (.goto 7, 3) := by decide +kernel
theorem d_15_53_45 : decode prog_15_method_53_code 45 = .ok (.ifCond .eq 9, 3) := by decide +kernel
theorem d_15_53_48 : decode prog_15_method_53_code 48 = .ok (.aload_n 0, 1) := by decide +kernel
theorem d_15_53_49 : decode prog_15_method_53_code 49 = .ok (.bipush 45, 2) := by decide +kernel
theorem d_15_53_51 : decode prog_15_method_53_code 51 = .ok (.invokevirtual 189, 3) := by decide +kernel
theorem d_15_53_32 : decode prog_15_method_53_code 32 = .ok (.iconst 0, 1) := by decide +kernel
theorem d_15_53_33 : decode prog_15_method_53_code 33 = .ok (.ireturn, 1) := by decide +kernel
theorem d_15_53_17 : decode prog_15_method_53_code 17 = .ok (.iconst 1, 1) := by decide +kernel
theorem d_15_53_18 : decode prog_15_method_53_code 18 = .ok (.goto 4, 3) := by decide +kernel
theorem d_15_53_5 : decode prog_15_method_53_code 5 = .ok (.ifCond .ne 12, 3) := by decide +kernel
theorem d_15_53_8 : decode prog_15_method_53_code 8 = .ok (.iload_n 2, 1) := by decide +kernel
theorem d_15_53_9 : decode prog_15_method_53_code 9 = .ok (.ifCond .lt 8, 3) := by decide +kernel
theorem d_15_53_12 : decode prog_15_method_53_code 12 = .ok (.iload_n 2, 1) := by decide +kernel
theorem d_15_53_13 : decode prog_15_method_53_code 13 = .ok (.iconst 2, 1) := by decide +kernel
theorem d_15_53_14 : decode prog_15_method_53_code 14 = .ok (.if_icmp .le 7, 3) := by decide +kernel
theorem d_15_53_21 : decode prog_15_method_53_code 21 = .ok (.iconst 0, 1) := by decide +kernel
def y_DR_written : MethodName := ⟨"NumberHouseModel$DecimalRows", "written", "(II)I"⟩
def F_DR_written_c286 (x2 : Int32) (x3 : Int32) (t0_0 : Int32) (t0_1 : Int32) (t0_2 : Int32) (t0_3 : Int64) (t0_4 : Int32) (t0_5 : Int32) (t0_6 : Int32) (t0_7 : Int32) (t0_8 : Int32) (t0_9 : Int32) (t0_10 : Int32) (t1_0 : (Nat → Int32)) (t2_0 : (Nat → Int32)) (t3_0 : (Nat → Int32)) (t4_0 : (Nat → Int32)) (t5_0 : (Nat → Int32)) (lx39 : Int32) (lx64 : Int32) (lx65 : Int32) (lx66 : Int32) (lx67 : Int64) (lx68 : Int32) (lx69 : Int32) (lx70 : Int32) (lx71 : Int32) (lx72 : Int32) (lx73 : Int32) (lx74 : Int32) (lx75 : (Nat → Int32)) (a117 : Int32) (a113 : Int32) (a111 : Int32) (a157 : Int32) (lx166 : Int32) (p224 : (Int32 × Int32 × Int32 × Int64 × Int32 × Int32 × Int32 × Int32 × Int32 × Int32 × Int32 × (Nat → Int32))) (p287 : (Int32 × Int32 × Int32 × Int64 × Int32 × Int32 × Int32 × Int32 × Int32 × Int32 × Int32 × (Nat → Int32))) : Int32 × Int32 × Int32 × Int32 × Int64 × Int32 × Int32 × Int32 × Int32 × Int32 × Int32 × Int32 × (Nat → Int32) := ((p287.2.2.2.2.2.2.2.2.2.1 : Int32), (p287.1 : Int32), (p287.2.1 : Int32), (p287.2.2.1 : Int32), (p287.2.2.2.1 : Int64), (p287.2.2.2.2.1 : Int32), (p287.2.2.2.2.2.1 : Int32), (p287.2.2.2.2.2.2.1 : Int32), (p287.2.2.2.2.2.2.2.1 : Int32), (p287.2.2.2.2.2.2.2.2.1 : Int32), (p287.2.2.2.2.2.2.2.2.2.1 : Int32), (p287.2.2.2.2.2.2.2.2.2.2.1 : Int32), (p287.2.2.2.2.2.2.2.2.2.2.2 : (Nat → Int32)))
def F_DR_written_c275 (x2 : Int32) (x3 : Int32) (t0_0 : Int32) (t0_1 : Int32) (t0_2 : Int32) (t0_3 : Int64) (t0_4 : Int32) (t0_5 : Int32) (t0_6 : Int32) (t0_7 : Int32) (t0_8 : Int32) (t0_9 : Int32) (t0_10 : Int32) (t1_0 : (Nat → Int32)) (t2_0 : (Nat → Int32)) (t3_0 : (Nat → Int32)) (t4_0 : (Nat → Int32)) (t5_0 : (Nat → Int32)) (lx39 : Int32) (lx64 : Int32) (lx65 : Int32) (lx66 : Int32) (lx67 : Int64) (lx68 : Int32) (lx69 : Int32) (lx70 : Int32) (lx71 : Int32) (lx72 : Int32) (lx73 : Int32) (lx74 : Int32) (lx75 : (Nat → Int32)) (a117 : Int32) (a113 : Int32) (a111 : Int32) (a157 : Int32) (lx166 : Int32) (p224 : (Int32 × Int32 × Int32 × Int64 × Int32 × Int32 × Int32 × Int32 × Int32 × Int32 × Int32 × (Nat → Int32))) : Int32 × Int32 × Int32 × Int32 × Int64 × Int32 × Int32 × Int32 × Int32 × Int32 × Int32 × Int32 × (Nat → Int32) := if a157 = (0 : Int32) then (((p224.2.2.2.2.2.2.2.2.2.1 : Int32), (p224.1 : Int32), (p224.2.1 : Int32), (p224.2.2.1 : Int32), (p224.2.2.2.1 : Int64), (p224.2.2.2.2.1 : Int32), (p224.2.2.2.2.2.1 : Int32), (p224.2.2.2.2.2.2.1 : Int32), (p224.2.2.2.2.2.2.2.1 : Int32), (p224.2.2.2.2.2.2.2.2.1 : Int32), (p224.2.2.2.2.2.2.2.2.2.1 : Int32), (p224.2.2.2.2.2.2.2.2.2.2.1 : Int32), (p224.2.2.2.2.2.2.2.2.2.2.2 : (Nat → Int32)))) else (F_DR_written_c286 x2 x3 t0_0 t0_1 t0_2 t0_3 t0_4 t0_5 t0_6 t0_7 t0_8 t0_9 t0_10 t1_0 t2_0 t3_0 t4_0 t5_0 lx39 lx64 lx65 lx66 lx67 lx68 lx69 lx70 lx71 lx72 lx73 lx74 lx75 a117 a113 a111 a157 lx166 p224 ((F_DR_exponent a157 (p224.1 : Int32) (p224.2.1 : Int32) (p224.2.2.1 : Int32) (p224.2.2.2.1 : Int64) (p224.2.2.2.2.1 : Int32) (p224.2.2.2.2.2.1 : Int32) (p224.2.2.2.2.2.2.1 : Int32) (p224.2.2.2.2.2.2.2.1 : Int32) (p224.2.2.2.2.2.2.2.2.1 : Int32) (p224.2.2.2.2.2.2.2.2.2.1 : Int32) (p224.2.2.2.2.2.2.2.2.2.2.1 : Int32) (p224.2.2.2.2.2.2.2.2.2.2.2 : (Nat → Int32))) : (Int32 × Int32 × Int32 × Int64 × Int32 × Int32 × Int32 × Int32 × Int32 × Int32 × Int32 × (Nat → Int32))))
def F_DR_written_J268 (x2 : Int32) (x3 : Int32) (t0_0 : Int32) (t0_1 : Int32) (t0_2 : Int32) (t0_3 : Int64) (t0_4 : Int32) (t0_5 : Int32) (t0_6 : Int32) (t0_7 : Int32) (t0_8 : Int32) (t0_9 : Int32) (t0_10 : Int32) (t1_0 : (Nat → Int32)) (t2_0 : (Nat → Int32)) (t3_0 : (Nat → Int32)) (t4_0 : (Nat → Int32)) (t5_0 : (Nat → Int32)) (lx39 : Int32) (lx64 : Int32) (lx65 : Int32) (lx66 : Int32) (lx67 : Int64) (lx68 : Int32) (lx69 : Int32) (lx70 : Int32) (lx71 : Int32) (lx72 : Int32) (lx73 : Int32) (lx74 : Int32) (lx75 : (Nat → Int32)) (a117 : Int32) (a113 : Int32) (a111 : Int32) (a157 : Int32) (lx166 : Int32) : Int32 × Int32 × Int32 × Int32 × Int64 × Int32 × Int32 × Int32 × Int32 × Int32 × Int32 × Int32 × (Nat → Int32) := F_DR_written_c275 x2 x3 t0_0 t0_1 t0_2 t0_3 t0_4 t0_5 t0_6 t0_7 t0_8 t0_9 t0_10 t1_0 t2_0 t3_0 t4_0 t5_0 lx39 lx64 lx65 lx66 lx67 lx68 lx69 lx70 lx71 lx72 lx73 lx74 lx75 a117 a113 a111 a157 lx166 ((F_DR_figures x2 (0 : Int32) lx166 ((a117 - a157 : Int32) + 1 : Int32) lx64 lx65 lx66 lx67 lx68 lx69 lx70 lx71 lx72 lx73 lx74 t1_0 t2_0 lx75) : (Int32 × Int32 × Int32 × Int64 × Int32 × Int32 × Int32 × Int32 × Int32 × Int32 × Int32 × (Nat → Int32)))
def F_DR_written_c230 (x2 : Int32) (x3 : Int32) (t0_0 : Int32) (t0_1 : Int32) (t0_2 : Int32) (t0_3 : Int64) (t0_4 : Int32) (t0_5 : Int32) (t0_6 : Int32) (t0_7 : Int32) (t0_8 : Int32) (t0_9 : Int32) (t0_10 : Int32) (t1_0 : (Nat → Int32)) (t2_0 : (Nat → Int32)) (t3_0 : (Nat → Int32)) (t4_0 : (Nat → Int32)) (t5_0 : (Nat → Int32)) (lx39 : Int32) (lx64 : Int32) (lx65 : Int32) (lx66 : Int32) (lx67 : Int64) (lx68 : Int32) (lx69 : Int32) (lx70 : Int32) (lx71 : Int32) (lx72 : Int32) (lx73 : Int32) (lx74 : Int32) (lx75 : (Nat → Int32)) (a117 : Int32) (a113 : Int32) (a111 : Int32) (a323 : Int32) (p372 : (Int32 × Int32 × Int32 × Int64 × Int32 × Int32 × Int32 × Int32 × Int32 × Int32 × Int32 × (Nat → Int32))) (p435 : (Int32 × Int32 × Int32 × Int64 × Int32 × Int32 × Int32 × Int32 × Int32 × Int32 × Int32 × (Nat → Int32))) : Int32 × Int32 × Int32 × Int32 × Int64 × Int32 × Int32 × Int32 × Int32 × Int32 × Int32 × Int32 × (Nat → Int32) := ((p435.2.2.2.2.2.2.2.2.2.1 : Int32), (p435.1 : Int32), (p435.2.1 : Int32), (p435.2.2.1 : Int32), (p435.2.2.2.1 : Int64), (p435.2.2.2.2.1 : Int32), (p435.2.2.2.2.2.1 : Int32), (p435.2.2.2.2.2.2.1 : Int32), (p435.2.2.2.2.2.2.2.1 : Int32), (p435.2.2.2.2.2.2.2.2.1 : Int32), (p435.2.2.2.2.2.2.2.2.2.1 : Int32), (p435.2.2.2.2.2.2.2.2.2.2.1 : Int32), (p435.2.2.2.2.2.2.2.2.2.2.2 : (Nat → Int32)))
def F_DR_written_c219 (x2 : Int32) (x3 : Int32) (t0_0 : Int32) (t0_1 : Int32) (t0_2 : Int32) (t0_3 : Int64) (t0_4 : Int32) (t0_5 : Int32) (t0_6 : Int32) (t0_7 : Int32) (t0_8 : Int32) (t0_9 : Int32) (t0_10 : Int32) (t1_0 : (Nat → Int32)) (t2_0 : (Nat → Int32)) (t3_0 : (Nat → Int32)) (t4_0 : (Nat → Int32)) (t5_0 : (Nat → Int32)) (lx39 : Int32) (lx64 : Int32) (lx65 : Int32) (lx66 : Int32) (lx67 : Int64) (lx68 : Int32) (lx69 : Int32) (lx70 : Int32) (lx71 : Int32) (lx72 : Int32) (lx73 : Int32) (lx74 : Int32) (lx75 : (Nat → Int32)) (a117 : Int32) (a113 : Int32) (a111 : Int32) (a323 : Int32) (p372 : (Int32 × Int32 × Int32 × Int64 × Int32 × Int32 × Int32 × Int32 × Int32 × Int32 × Int32 × (Nat → Int32))) : Int32 × Int32 × Int32 × Int32 × Int64 × Int32 × Int32 × Int32 × Int32 × Int32 × Int32 × Int32 × (Nat → Int32) := if a323 = (0 : Int32) then (((p372.2.2.2.2.2.2.2.2.2.1 : Int32), (p372.1 : Int32), (p372.2.1 : Int32), (p372.2.2.1 : Int32), (p372.2.2.2.1 : Int64), (p372.2.2.2.2.1 : Int32), (p372.2.2.2.2.2.1 : Int32), (p372.2.2.2.2.2.2.1 : Int32), (p372.2.2.2.2.2.2.2.1 : Int32), (p372.2.2.2.2.2.2.2.2.1 : Int32), (p372.2.2.2.2.2.2.2.2.2.1 : Int32), (p372.2.2.2.2.2.2.2.2.2.2.1 : Int32), (p372.2.2.2.2.2.2.2.2.2.2.2 : (Nat → Int32)))) else (F_DR_written_c230 x2 x3 t0_0 t0_1 t0_2 t0_3 t0_4 t0_5 t0_6 t0_7 t0_8 t0_9 t0_10 t1_0 t2_0 t3_0 t4_0 t5_0 lx39 lx64 lx65 lx66 lx67 lx68 lx69 lx70 lx71 lx72 lx73 lx74 lx75 a117 a113 a111 a323 p372 ((F_DR_exponent a323 (p372.1 : Int32) (p372.2.1 : Int32) (p372.2.2.1 : Int32) (p372.2.2.2.1 : Int64) (p372.2.2.2.2.1 : Int32) (p372.2.2.2.2.2.1 : Int32) (p372.2.2.2.2.2.2.1 : Int32) (p372.2.2.2.2.2.2.2.1 : Int32) (p372.2.2.2.2.2.2.2.2.1 : Int32) (p372.2.2.2.2.2.2.2.2.2.1 : Int32) (p372.2.2.2.2.2.2.2.2.2.2.1 : Int32) (p372.2.2.2.2.2.2.2.2.2.2.2 : (Nat → Int32))) : (Int32 × Int32 × Int32 × Int64 × Int32 × Int32 × Int32 × Int32 × Int32 × Int32 × Int32 × (Nat → Int32))))
def F_DR_written_c185 (x2 : Int32) (x3 : Int32) (t0_0 : Int32) (t0_1 : Int32) (t0_2 : Int32) (t0_3 : Int64) (t0_4 : Int32) (t0_5 : Int32) (t0_6 : Int32) (t0_7 : Int32) (t0_8 : Int32) (t0_9 : Int32) (t0_10 : Int32) (t1_0 : (Nat → Int32)) (t2_0 : (Nat → Int32)) (t3_0 : (Nat → Int32)) (t4_0 : (Nat → Int32)) (t5_0 : (Nat → Int32)) (lx39 : Int32) (lx64 : Int32) (lx65 : Int32) (lx66 : Int32) (lx67 : Int64) (lx68 : Int32) (lx69 : Int32) (lx70 : Int32) (lx71 : Int32) (lx72 : Int32) (lx73 : Int32) (lx74 : Int32) (lx75 : (Nat → Int32)) (a117 : Int32) (a113 : Int32) (a111 : Int32) (p496 : (Int32 × Int32 × Int32 × Int64 × Int32 × Int32 × Int32 × Int32 × Int32 × Int32 × Int32 × (Nat → Int32))) (p556 : (Int32 × Int32 × Int32 × Int64 × Int32 × Int32 × Int32 × Int32 × Int32 × Int32 × Int32 × (Nat → Int32))) : Int32 × Int32 × Int32 × Int32 × Int64 × Int32 × Int32 × Int32 × Int32 × Int32 × Int32 × Int32 × (Nat → Int32) := ((p556.2.2.2.2.2.2.2.2.2.1 : Int32), (p556.1 : Int32), (p556.2.1 : Int32), (p556.2.2.1 : Int32), (p556.2.2.2.1 : Int64), (p556.2.2.2.2.1 : Int32), (p556.2.2.2.2.2.1 : Int32), (p556.2.2.2.2.2.2.1 : Int32), (p556.2.2.2.2.2.2.2.1 : Int32), (p556.2.2.2.2.2.2.2.2.1 : Int32), (p556.2.2.2.2.2.2.2.2.2.1 : Int32), (p556.2.2.2.2.2.2.2.2.2.2.1 : Int32), (p556.2.2.2.2.2.2.2.2.2.2.2 : (Nat → Int32)))
def F_DR_written_c179 (x2 : Int32) (x3 : Int32) (t0_0 : Int32) (t0_1 : Int32) (t0_2 : Int32) (t0_3 : Int64) (t0_4 : Int32) (t0_5 : Int32) (t0_6 : Int32) (t0_7 : Int32) (t0_8 : Int32) (t0_9 : Int32) (t0_10 : Int32) (t1_0 : (Nat → Int32)) (t2_0 : (Nat → Int32)) (t3_0 : (Nat → Int32)) (t4_0 : (Nat → Int32)) (t5_0 : (Nat → Int32)) (lx39 : Int32) (lx64 : Int32) (lx65 : Int32) (lx66 : Int32) (lx67 : Int64) (lx68 : Int32) (lx69 : Int32) (lx70 : Int32) (lx71 : Int32) (lx72 : Int32) (lx73 : Int32) (lx74 : Int32) (lx75 : (Nat → Int32)) (a117 : Int32) (a113 : Int32) (a111 : Int32) (p496 : (Int32 × Int32 × Int32 × Int64 × Int32 × Int32 × Int32 × Int32 × Int32 × Int32 × Int32 × (Nat → Int32))) : Int32 × Int32 × Int32 × Int32 × Int64 × Int32 × Int32 × Int32 × Int32 × Int32 × Int32 × Int32 × (Nat → Int32) := F_DR_written_c185 x2 x3 t0_0 t0_1 t0_2 t0_3 t0_4 t0_5 t0_6 t0_7 t0_8 t0_9 t0_10 t1_0 t2_0 t3_0 t4_0 t5_0 lx39 lx64 lx65 lx66 lx67 lx68 lx69 lx70 lx71 lx72 lx73 lx74 lx75 a117 a113 a111 p496 ((F_DR_exponent a117 (p496.1 : Int32) (p496.2.1 : Int32) (p496.2.2.1 : Int32) (p496.2.2.2.1 : Int64) (p496.2.2.2.2.1 : Int32) (p496.2.2.2.2.2.1 : Int32) (p496.2.2.2.2.2.2.1 : Int32) (p496.2.2.2.2.2.2.2.1 : Int32) (p496.2.2.2.2.2.2.2.2.1 : Int32) (p496.2.2.2.2.2.2.2.2.2.1 : Int32) (p496.2.2.2.2.2.2.2.2.2.2.1 : Int32) (p496.2.2.2.2.2.2.2.2.2.2.2 : (Nat → Int32))) : (Int32 × Int32 × Int32 × Int64 × Int32 × Int32 × Int32 × Int32 × Int32 × Int32 × Int32 × (Nat → Int32)))
def F_DR_written_J170 (x2 : Int32) (x3 : Int32) (t0_0 : Int32) (t0_1 : Int32) (t0_2 : Int32) (t0_3 : Int64) (t0_4 : Int32) (t0_5 : Int32) (t0_6 : Int32) (t0_7 : Int32) (t0_8 : Int32) (t0_9 : Int32) (t0_10 : Int32) (t1_0 : (Nat → Int32)) (t2_0 : (Nat → Int32)) (t3_0 : (Nat → Int32)) (t4_0 : (Nat → Int32)) (t5_0 : (Nat → Int32)) (lx39 : Int32) (lx64 : Int32) (lx65 : Int32) (lx66 : Int32) (lx67 : Int64) (lx68 : Int32) (lx69 : Int32) (lx70 : Int32) (lx71 : Int32) (lx72 : Int32) (lx73 : Int32) (lx74 : Int32) (lx75 : (Nat → Int32)) (a117 : Int32) (a113 : Int32) (a111 : Int32) : Int32 × Int32 × Int32 × Int32 × Int64 × Int32 × Int32 × Int32 × Int32 × Int32 × Int32 × Int32 × (Nat → Int32) := if x3 = (0 : Int32) then (F_DR_written_c179 x2 x3 t0_0 t0_1 t0_2 t0_3 t0_4 t0_5 t0_6 t0_7 t0_8 t0_9 t0_10 t1_0 t2_0 t3_0 t4_0 t5_0 lx39 lx64 lx65 lx66 lx67 lx68 lx69 lx70 lx71 lx72 lx73 lx74 lx75 a117 a113 a111 ((F_DR_figures x2 (0 : Int32) a111 (1 : Int32) lx64 lx65 lx66 lx67 lx68 lx69 lx70 lx71 lx72 lx73 lx74 t1_0 t2_0 lx75) : (Int32 × Int32 × Int32 × Int64 × Int32 × Int32 × Int32 × Int32 × Int32 × Int32 × Int32 × (Nat → Int32)))) else (if ((F_DR_isZero x2 lx64 lx65 lx66 lx67 lx68 lx69 lx70 lx71 lx72 lx73 lx74 t1_0) : Int32) = (0 : Int32) then (if a111 ≤ ((a117 - ((F_DR_down3 a117) : Int32) : Int32) + 1 : Int32) then (F_DR_written_J268 x2 x3 t0_0 t0_1 t0_2 t0_3 t0_4 t0_5 t0_6 t0_7 t0_8 t0_9 t0_10 t1_0 t2_0 t3_0 t4_0 t5_0 lx39 lx64 lx65 lx66 lx67 lx68 lx69 lx70 lx71 lx72 lx73 lx74 lx75 a117 a113 a111 ((F_DR_down3 a117) : Int32) ((a117 - ((F_DR_down3 a117) : Int32) : Int32) + 1 : Int32)) else (F_DR_written_J268 x2 x3 t0_0 t0_1 t0_2 t0_3 t0_4 t0_5 t0_6 t0_7 t0_8 t0_9 t0_10 t1_0 t2_0 t3_0 t4_0 t5_0 lx39 lx64 lx65 lx66 lx67 lx68 lx69 lx70 lx71 lx72 lx73 lx74 lx75 a117 a113 a111 ((F_DR_down3 a117) : Int32) a111)) else (F_DR_written_c219 x2 x3 t0_0 t0_1 t0_2 t0_3 t0_4 t0_5 t0_6 t0_7 t0_8 t0_9 t0_10 t1_0 t2_0 t3_0 t4_0 t5_0 lx39 lx64 lx65 lx66 lx67 lx68 lx69 lx70 lx71 lx72 lx73 lx74 lx75 a117 a113 a111 (-((F_DR_down3 (-a117 : Int32)) : Int32) : Int32) ((F_DR_figures x2 (0 : Int32) ((1 + (-((F_DR_down3 (-a117 : Int32)) : Int32) : Int32) : Int32) - a117 : Int32) (1 : Int32) lx64 lx65 lx66 lx67 lx68 lx69 lx70 lx71 lx72 lx73 lx74 t1_0 t2_0 lx75) : (Int32 × Int32 × Int32 × Int64 × Int32 × Int32 × Int32 × Int32 × Int32 × Int32 × Int32 × (Nat → Int32)))))
def F_DR_written_c164 (x2 : Int32) (x3 : Int32) (t0_0 : Int32) (t0_1 : Int32) (t0_2 : Int32) (t0_3 : Int64) (t0_4 : Int32) (t0_5 : Int32) (t0_6 : Int32) (t0_7 : Int32) (t0_8 : Int32) (t0_9 : Int32) (t0_10 : Int32) (t1_0 : (Nat → Int32)) (t2_0 : (Nat → Int32)) (t3_0 : (Nat → Int32)) (t4_0 : (Nat → Int32)) (t5_0 : (Nat → Int32)) (lx39 : Int32) (lx64 : Int32) (lx65 : Int32) (lx66 : Int32) (lx67 : Int64) (lx68 : Int32) (lx69 : Int32) (lx70 : Int32) (lx71 : Int32) (lx72 : Int32) (lx73 : Int32) (lx74 : Int32) (lx75 : (Nat → Int32)) (a117 : Int32) (a113 : Int32) (a111 : Int32) (lx592 : Int32) (p650 : (Int32 × Int32 × Int32 × Int64 × Int32 × Int32 × Int32 × Int32 × Int32 × Int32 × Int32 × (Nat → Int32))) : Int32 × Int32 × Int32 × Int32 × Int64 × Int32 × Int32 × Int32 × Int32 × Int32 × Int32 × Int32 × (Nat → Int32) := ((p650.2.2.2.2.2.2.2.2.2.1 : Int32), (p650.1 : Int32), (p650.2.1 : Int32), (p650.2.2.1 : Int32), (p650.2.2.2.1 : Int64), (p650.2.2.2.2.1 : Int32), (p650.2.2.2.2.2.1 : Int32), (p650.2.2.2.2.2.2.1 : Int32), (p650.2.2.2.2.2.2.2.1 : Int32), (p650.2.2.2.2.2.2.2.2.1 : Int32), (p650.2.2.2.2.2.2.2.2.2.1 : Int32), (p650.2.2.2.2.2.2.2.2.2.2.1 : Int32), (p650.2.2.2.2.2.2.2.2.2.2.2 : (Nat → Int32)))
def F_DR_written_c164_15 (x2 : Int32) (x3 : Int32) (t0_0 : Int32) (t0_1 : Int32) (t0_2 : Int32) (t0_3 : Int64) (t0_4 : Int32) (t0_5 : Int32) (t0_6 : Int32) (t0_7 : Int32) (t0_8 : Int32) (t0_9 : Int32) (t0_10 : Int32) (t1_0 : (Nat → Int32)) (t2_0 : (Nat → Int32)) (t3_0 : (Nat → Int32)) (t4_0 : (Nat → Int32)) (t5_0 : (Nat → Int32)) (lx39 : Int32) (lx64 : Int32) (lx65 : Int32) (lx66 : Int32) (lx67 : Int64) (lx68 : Int32) (lx69 : Int32) (lx70 : Int32) (lx71 : Int32) (lx72 : Int32) (lx73 : Int32) (lx74 : Int32) (lx75 : (Nat → Int32)) (a117 : Int32) (a113 : Int32) (a111 : Int32) (lx592 : Int32) (p711 : (Int32 × Int32 × Int32 × Int64 × Int32 × Int32 × Int32 × Int32 × Int32 × Int32 × Int32 × (Nat → Int32))) : Int32 × Int32 × Int32 × Int32 × Int64 × Int32 × Int32 × Int32 × Int32 × Int32 × Int32 × Int32 × (Nat → Int32) := ((p711.2.2.2.2.2.2.2.2.2.1 : Int32), (p711.1 : Int32), (p711.2.1 : Int32), (p711.2.2.1 : Int32), (p711.2.2.2.1 : Int64), (p711.2.2.2.2.1 : Int32), (p711.2.2.2.2.2.1 : Int32), (p711.2.2.2.2.2.2.1 : Int32), (p711.2.2.2.2.2.2.2.1 : Int32), (p711.2.2.2.2.2.2.2.2.1 : Int32), (p711.2.2.2.2.2.2.2.2.2.1 : Int32), (p711.2.2.2.2.2.2.2.2.2.2.1 : Int32), (p711.2.2.2.2.2.2.2.2.2.2.2 : (Nat → Int32)))
def F_DR_written_J150 (x2 : Int32) (x3 : Int32) (t0_0 : Int32) (t0_1 : Int32) (t0_2 : Int32) (t0_3 : Int64) (t0_4 : Int32) (t0_5 : Int32) (t0_6 : Int32) (t0_7 : Int32) (t0_8 : Int32) (t0_9 : Int32) (t0_10 : Int32) (t1_0 : (Nat → Int32)) (t2_0 : (Nat → Int32)) (t3_0 : (Nat → Int32)) (t4_0 : (Nat → Int32)) (t5_0 : (Nat → Int32)) (lx39 : Int32) (lx64 : Int32) (lx65 : Int32) (lx66 : Int32) (lx67 : Int64) (lx68 : Int32) (lx69 : Int32) (lx70 : Int32) (lx71 : Int32) (lx72 : Int32) (lx73 : Int32) (lx74 : Int32) (lx75 : (Nat → Int32)) (a117 : Int32) (a113 : Int32) (a111 : Int32) (lx592 : Int32) : Int32 × Int32 × Int32 × Int32 × Int64 × Int32 × Int32 × Int32 × Int32 × Int32 × Int32 × Int32 × (Nat → Int32) := if a113 = (0 : Int32) then (F_DR_written_c164_15 x2 x3 t0_0 t0_1 t0_2 t0_3 t0_4 t0_5 t0_6 t0_7 t0_8 t0_9 t0_10 t1_0 t2_0 t3_0 t4_0 t5_0 lx39 lx64 lx65 lx66 lx67 lx68 lx69 lx70 lx71 lx72 lx73 lx74 lx75 a117 a113 a111 lx592 ((F_DR_figures x2 lx592 a111 (-1 : Int32) lx64 lx65 lx66 lx67 lx68 lx69 lx70 lx71 lx72 lx73 lx74 t1_0 t2_0 lx75) : (Int32 × Int32 × Int32 × Int64 × Int32 × Int32 × Int32 × Int32 × Int32 × Int32 × Int32 × (Nat → Int32)))) else (F_DR_written_c164 x2 x3 t0_0 t0_1 t0_2 t0_3 t0_4 t0_5 t0_6 t0_7 t0_8 t0_9 t0_10 t1_0 t2_0 t3_0 t4_0 t5_0 lx39 lx64 lx65 lx66 lx67 lx68 lx69 lx70 lx71 lx72 lx73 lx74 lx75 a117 a113 a111 lx592 ((F_DR_figures x2 lx592 a111 (a111 - a113 : Int32) lx64 lx65 lx66 lx67 lx68 lx69 lx70 lx71 lx72 lx73 lx74 t1_0 t2_0 lx75) : (Int32 × Int32 × Int32 × Int64 × Int32 × Int32 × Int32 × Int32 × Int32 × Int32 × Int32 × (Nat → Int32))))
def F_DR_written_J130 (x2 : Int32) (x3 : Int32) (t0_0 : Int32) (t0_1 : Int32) (t0_2 : Int32) (t0_3 : Int64) (t0_4 : Int32) (t0_5 : Int32) (t0_6 : Int32) (t0_7 : Int32) (t0_8 : Int32) (t0_9 : Int32) (t0_10 : Int32) (t1_0 : (Nat → Int32)) (t2_0 : (Nat → Int32)) (t3_0 : (Nat → Int32)) (t4_0 : (Nat → Int32)) (t5_0 : (Nat → Int32)) (lx39 : Int32) (lx64 : Int32) (lx65 : Int32) (lx66 : Int32) (lx67 : Int64) (lx68 : Int32) (lx69 : Int32) (lx70 : Int32) (lx71 : Int32) (lx72 : Int32) (lx73 : Int32) (lx74 : Int32) (lx75 : (Nat → Int32)) (a117 : Int32) (a113 : Int32) (a111 : Int32) : Int32 × Int32 × Int32 × Int32 × Int64 × Int32 × Int32 × Int32 × Int32 × Int32 × Int32 × Int32 × (Nat → Int32) := if (1 : Int32) ≤ (a111 - a113 : Int32) then (F_DR_written_J150 x2 x3 t0_0 t0_1 t0_2 t0_3 t0_4 t0_5 t0_6 t0_7 t0_8 t0_9 t0_10 t1_0 t2_0 t3_0 t4_0 t5_0 lx39 lx64 lx65 lx66 lx67 lx68 lx69 lx70 lx71 lx72 lx73 lx74 lx75 a117 a113 a111 0) else (F_DR_written_J150 x2 x3 t0_0 t0_1 t0_2 t0_3 t0_4 t0_5 t0_6 t0_7 t0_8 t0_9 t0_10 t1_0 t2_0 t3_0 t4_0 t5_0 lx39 lx64 lx65 lx66 lx67 lx68 lx69 lx70 lx71 lx72 lx73 lx74 lx75 a117 a113 a111 ((a111 - a113 : Int32) - 1 : Int32))
def F_DR_written_J113 (x2 : Int32) (x3 : Int32) (t0_0 : Int32) (t0_1 : Int32) (t0_2 : Int32) (t0_3 : Int64) (t0_4 : Int32) (t0_5 : Int32) (t0_6 : Int32) (t0_7 : Int32) (t0_8 : Int32) (t0_9 : Int32) (t0_10 : Int32) (t1_0 : (Nat → Int32)) (t2_0 : (Nat → Int32)) (t3_0 : (Nat → Int32)) (t4_0 : (Nat → Int32)) (t5_0 : (Nat → Int32)) (lx39 : Int32) (lx64 : Int32) (lx65 : Int32) (lx66 : Int32) (lx67 : Int64) (lx68 : Int32) (lx69 : Int32) (lx70 : Int32) (lx71 : Int32) (lx72 : Int32) (lx73 : Int32) (lx74 : Int32) (lx75 : (Nat → Int32)) (a117 : Int32) (a113 : Int32) (a111 : Int32) : Int32 × Int32 × Int32 × Int32 × Int64 × Int32 × Int32 × Int32 × Int32 × Int32 × Int32 × Int32 × (Nat → Int32) := if a113 < (0 : Int32) then (F_DR_written_J170 x2 x3 t0_0 t0_1 t0_2 t0_3 t0_4 t0_5 t0_6 t0_7 t0_8 t0_9 t0_10 t1_0 t2_0 t3_0 t4_0 t5_0 lx39 lx64 lx65 lx66 lx67 lx68 lx69 lx70 lx71 lx72 lx73 lx74 lx75 a117 a113 a111) else (if x3 = (1 : Int32) then (F_DR_written_J130 x2 x3 t0_0 t0_1 t0_2 t0_3 t0_4 t0_5 t0_6 t0_7 t0_8 t0_9 t0_10 t1_0 t2_0 t3_0 t4_0 t5_0 lx39 lx64 lx65 lx66 lx67 lx68 lx69 lx70 lx71 lx72 lx73 lx74 lx75 a117 a113 a111) else (if a117 < (-6 : Int32) then (F_DR_written_J170 x2 x3 t0_0 t0_1 t0_2 t0_3 t0_4 t0_5 t0_6 t0_7 t0_8 t0_9 t0_10 t1_0 t2_0 t3_0 t4_0 t5_0 lx39 lx64 lx65 lx66 lx67 lx68 lx69 lx70 lx71 lx72 lx73 lx74 lx75 a117 a113 a111) else (F_DR_written_J130 x2 x3 t0_0 t0_1 t0_2 t0_3 t0_4 t0_5 t0_6 t0_7 t0_8 t0_9 t0_10 t1_0 t2_0 t3_0 t4_0 t5_0 lx39 lx64 lx65 lx66 lx67 lx68 lx69 lx70 lx71 lx72 lx73 lx74 lx75 a117 a113 a111)))
def F_DR_written_c107 (x2 : Int32) (x3 : Int32) (t0_0 : Int32) (t0_1 : Int32) (t0_2 : Int32) (t0_3 : Int64) (t0_4 : Int32) (t0_5 : Int32) (t0_6 : Int32) (t0_7 : Int32) (t0_8 : Int32) (t0_9 : Int32) (t0_10 : Int32) (t1_0 : (Nat → Int32)) (t2_0 : (Nat → Int32)) (t3_0 : (Nat → Int32)) (t4_0 : (Nat → Int32)) (t5_0 : (Nat → Int32)) (lx39 : Int32) (lx64 : Int32) (lx65 : Int32) (lx66 : Int32) (lx67 : Int64) (lx68 : Int32) (lx69 : Int32) (lx70 : Int32) (lx71 : Int32) (lx72 : Int32) (lx73 : Int32) (lx74 : Int32) (lx75 : (Nat → Int32)) (a117 : Int32) (a113 : Int32) (a111 : Int32) (p802 : (Int32 × Int32 × Int32 × Int64 × Int32 × Int32 × Int32 × Int32 × Int32 × Int32 × Int32 × (Nat → Int32))) : Int32 × Int32 × Int32 × Int32 × Int64 × Int32 × Int32 × Int32 × Int32 × Int32 × Int32 × Int32 × (Nat → Int32) := ((p802.2.2.2.2.2.2.2.2.2.1 : Int32), (p802.1 : Int32), (p802.2.1 : Int32), (p802.2.2.1 : Int32), (p802.2.2.2.1 : Int64), (p802.2.2.2.2.1 : Int32), (p802.2.2.2.2.2.1 : Int32), (p802.2.2.2.2.2.2.1 : Int32), (p802.2.2.2.2.2.2.2.1 : Int32), (p802.2.2.2.2.2.2.2.2.1 : Int32), (p802.2.2.2.2.2.2.2.2.2.1 : Int32), (p802.2.2.2.2.2.2.2.2.2.2.1 : Int32), (p802.2.2.2.2.2.2.2.2.2.2.2 : (Nat → Int32)))
def F_DR_written_c107_17 (x2 : Int32) (x3 : Int32) (t0_0 : Int32) (t0_1 : Int32) (t0_2 : Int32) (t0_3 : Int64) (t0_4 : Int32) (t0_5 : Int32) (t0_6 : Int32) (t0_7 : Int32) (t0_8 : Int32) (t0_9 : Int32) (t0_10 : Int32) (t1_0 : (Nat → Int32)) (t2_0 : (Nat → Int32)) (t3_0 : (Nat → Int32)) (t4_0 : (Nat → Int32)) (t5_0 : (Nat → Int32)) (lx39 : Int32) (lx64 : Int32) (lx65 : Int32) (lx66 : Int32) (lx67 : Int64) (lx68 : Int32) (lx69 : Int32) (lx70 : Int32) (lx71 : Int32) (lx72 : Int32) (lx73 : Int32) (lx74 : Int32) (lx75 : (Nat → Int32)) (a117 : Int32) (a113 : Int32) (a111 : Int32) (p863 : (Int32 × Int32 × Int32 × Int64 × Int32 × Int32 × Int32 × Int32 × Int32 × Int32 × Int32 × (Nat → Int32))) : Int32 × Int32 × Int32 × Int32 × Int64 × Int32 × Int32 × Int32 × Int32 × Int32 × Int32 × Int32 × (Nat → Int32) := ((p863.2.2.2.2.2.2.2.2.2.1 : Int32), (p863.1 : Int32), (p863.2.1 : Int32), (p863.2.2.1 : Int32), (p863.2.2.2.1 : Int64), (p863.2.2.2.2.1 : Int32), (p863.2.2.2.2.2.1 : Int32), (p863.2.2.2.2.2.2.1 : Int32), (p863.2.2.2.2.2.2.2.1 : Int32), (p863.2.2.2.2.2.2.2.2.1 : Int32), (p863.2.2.2.2.2.2.2.2.2.1 : Int32), (p863.2.2.2.2.2.2.2.2.2.2.1 : Int32), (p863.2.2.2.2.2.2.2.2.2.2.2 : (Nat → Int32)))
def F_DR_written_J54 (x2 : Int32) (x3 : Int32) (t0_0 : Int32) (t0_1 : Int32) (t0_2 : Int32) (t0_3 : Int64) (t0_4 : Int32) (t0_5 : Int32) (t0_6 : Int32) (t0_7 : Int32) (t0_8 : Int32) (t0_9 : Int32) (t0_10 : Int32) (t1_0 : (Nat → Int32)) (t2_0 : (Nat → Int32)) (t3_0 : (Nat → Int32)) (t4_0 : (Nat → Int32)) (t5_0 : (Nat → Int32)) (lx39 : Int32) (lx64 : Int32) (lx65 : Int32) (lx66 : Int32) (lx67 : Int64) (lx68 : Int32) (lx69 : Int32) (lx70 : Int32) (lx71 : Int32) (lx72 : Int32) (lx73 : Int32) (lx74 : Int32) (lx75 : (Nat → Int32)) : Int32 × Int32 × Int32 × Int32 × Int64 × Int32 × Int32 × Int32 × Int32 × Int32 × Int32 × Int32 × (Nat → Int32) := if x3 = (1 : Int32) then (if (0 : Int32) < (t4_0 x2.toNatClampNeg : Int32) then (F_DR_written_J113 x2 x3 t0_0 t0_1 t0_2 t0_3 t0_4 t0_5 t0_6 t0_7 t0_8 t0_9 t0_10 t1_0 t2_0 t3_0 t4_0 t5_0 lx39 lx64 lx65 lx66 lx67 lx68 lx69 lx70 lx71 lx72 lx73 lx74 lx75 (((t2_0 x2.toNatClampNeg : Int32) - 1 : Int32) - (t4_0 x2.toNatClampNeg : Int32) : Int32) (t4_0 x2.toNatClampNeg : Int32) (t2_0 x2.toNatClampNeg : Int32)) else (if ((F_DR_isZero x2 lx64 lx65 lx66 lx67 lx68 lx69 lx70 lx71 lx72 lx73 lx74 t1_0) : Int32) = (0 : Int32) then (F_DR_written_c107 x2 x3 t0_0 t0_1 t0_2 t0_3 t0_4 t0_5 t0_6 t0_7 t0_8 t0_9 t0_10 t1_0 t2_0 t3_0 t4_0 t5_0 lx39 lx64 lx65 lx66 lx67 lx68 lx69 lx70 lx71 lx72 lx73 lx74 lx75 (((t2_0 x2.toNatClampNeg : Int32) - 1 : Int32) - (t4_0 x2.toNatClampNeg : Int32) : Int32) (t4_0 x2.toNatClampNeg : Int32) (t2_0 x2.toNatClampNeg : Int32) ((F_DR_figures x2 (0 : Int32) ((t2_0 x2.toNatClampNeg : Int32) - (t4_0 x2.toNatClampNeg : Int32) : Int32) (-1 : Int32) lx64 lx65 lx66 lx67 lx68 lx69 lx70 lx71 lx72 lx73 lx74 t1_0 t2_0 lx75) : (Int32 × Int32 × Int32 × Int64 × Int32 × Int32 × Int32 × Int32 × Int32 × Int32 × Int32 × (Nat → Int32)))) else (F_DR_written_c107_17 x2 x3 t0_0 t0_1 t0_2 t0_3 t0_4 t0_5 t0_6 t0_7 t0_8 t0_9 t0_10 t1_0 t2_0 t3_0 t4_0 t5_0 lx39 lx64 lx65 lx66 lx67 lx68 lx69 lx70 lx71 lx72 lx73 lx74 lx75 (((t2_0 x2.toNatClampNeg : Int32) - 1 : Int32) - (t4_0 x2.toNatClampNeg : Int32) : Int32) (t4_0 x2.toNatClampNeg : Int32) (t2_0 x2.toNatClampNeg : Int32) ((F_DR_figures x2 (0 : Int32) (1 : Int32) (-1 : Int32) lx64 lx65 lx66 lx67 lx68 lx69 lx70 lx71 lx72 lx73 lx74 t1_0 t2_0 lx75) : (Int32 × Int32 × Int32 × Int64 × Int32 × Int32 × Int32 × Int32 × Int32 × Int32 × Int32 × (Nat → Int32)))))) else (F_DR_written_J113 x2 x3 t0_0 t0_1 t0_2 t0_3 t0_4 t0_5 t0_6 t0_7 t0_8 t0_9 t0_10 t1_0 t2_0 t3_0 t4_0 t5_0 lx39 lx64 lx65 lx66 lx67 lx68 lx69 lx70 lx71 lx72 lx73 lx74 lx75 (((t2_0 x2.toNatClampNeg : Int32) - 1 : Int32) - (t4_0 x2.toNatClampNeg : Int32) : Int32) (t4_0 x2.toNatClampNeg : Int32) (t2_0 x2.toNatClampNeg : Int32))
def F_DR_written_c51 (x2 : Int32) (x3 : Int32) (t0_0 : Int32) (t0_1 : Int32) (t0_2 : Int32) (t0_3 : Int64) (t0_4 : Int32) (t0_5 : Int32) (t0_6 : Int32) (t0_7 : Int32) (t0_8 : Int32) (t0_9 : Int32) (t0_10 : Int32) (t1_0 : (Nat → Int32)) (t2_0 : (Nat → Int32)) (t3_0 : (Nat → Int32)) (t4_0 : (Nat → Int32)) (t5_0 : (Nat → Int32)) (lx39 : Int32) (p927 : (Int32 × Int32 × Int32 × Int64 × Int32 × Int32 × Int32 × Int32 × Int32 × Int32 × Int32 × (Nat → Int32))) : Int32 × Int32 × Int32 × Int32 × Int64 × Int32 × Int32 × Int32 × Int32 × Int32 × Int32 × Int32 × (Nat → Int32) := F_DR_written_J54 x2 x3 t0_0 t0_1 t0_2 t0_3 t0_4 t0_5 t0_6 t0_7 t0_8 t0_9 t0_10 t1_0 t2_0 t3_0 t4_0 t5_0 lx39 (p927.1 : Int32) (p927.2.1 : Int32) (p927.2.2.1 : Int32) (p927.2.2.2.1 : Int64) (p927.2.2.2.2.1 : Int32) (p927.2.2.2.2.2.1 : Int32) (p927.2.2.2.2.2.2.1 : Int32) (p927.2.2.2.2.2.2.2.1 : Int32) (p927.2.2.2.2.2.2.2.2.1 : Int32) (p927.2.2.2.2.2.2.2.2.2.1 : Int32) (p927.2.2.2.2.2.2.2.2.2.2.1 : Int32) (p927.2.2.2.2.2.2.2.2.2.2.2 : (Nat → Int32))
def F_DR_written_J22 (x2 : Int32) (x3 : Int32) (t0_0 : Int32) (t0_1 : Int32) (t0_2 : Int32) (t0_3 : Int64) (t0_4 : Int32) (t0_5 : Int32) (t0_6 : Int32) (t0_7 : Int32) (t0_8 : Int32) (t0_9 : Int32) (t0_10 : Int32) (t1_0 : (Nat → Int32)) (t2_0 : (Nat → Int32)) (t3_0 : (Nat → Int32)) (t4_0 : (Nat → Int32)) (t5_0 : (Nat → Int32)) (lx39 : Int32) : Int32 × Int32 × Int32 × Int32 × Int64 × Int32 × Int32 × Int32 × Int32 × Int32 × Int32 × Int32 × (Nat → Int32) := if lx39 ≤ (0 : Int32) then (if (t3_0 x2.toNatClampNeg : Int32) = (0 : Int32) then (F_DR_written_J54 x2 x3 t0_0 t0_1 t0_2 t0_3 t0_4 t0_5 t0_6 t0_7 t0_8 t0_9 t0_10 t1_0 t2_0 t3_0 t4_0 t5_0 lx39 lx39 t0_1 t0_2 t0_3 t0_4 t0_5 t0_6 t0_7 t0_8 0 t0_10 t5_0) else (F_DR_written_c51 x2 x3 t0_0 t0_1 t0_2 t0_3 t0_4 t0_5 t0_6 t0_7 t0_8 t0_9 t0_10 t1_0 t2_0 t3_0 t4_0 t5_0 lx39 ((F_DR_print (45 : Int32) lx39 t0_1 t0_2 t0_3 t0_4 t0_5 t0_6 t0_7 t0_8 (0 : Int32) t0_10 t5_0) : (Int32 × Int32 × Int32 × Int64 × Int32 × Int32 × Int32 × Int32 × Int32 × Int32 × Int32 × (Nat → Int32))))) else (((0 : Int32), lx39, t0_1, t0_2, t0_3, t0_4, t0_5, t0_6, t0_7, t0_8, t0_9, t0_10, t5_0))
def F_DR_written_J17 (x2 : Int32) (x3 : Int32) (t0_0 : Int32) (t0_1 : Int32) (t0_2 : Int32) (t0_3 : Int64) (t0_4 : Int32) (t0_5 : Int32) (t0_6 : Int32) (t0_7 : Int32) (t0_8 : Int32) (t0_9 : Int32) (t0_10 : Int32) (t1_0 : (Nat → Int32)) (t2_0 : (Nat → Int32)) (t3_0 : (Nat → Int32)) (t4_0 : (Nat → Int32)) (t5_0 : (Nat → Int32)) : Int32 × Int32 × Int32 × Int32 × Int64 × Int32 × Int32 × Int32 × Int32 × Int32 × Int32 × Int32 × (Nat → Int32) := F_DR_written_J22 x2 x3 t0_0 t0_1 t0_2 t0_3 t0_4 t0_5 t0_6 t0_7 t0_8 t0_9 t0_10 t1_0 t2_0 t3_0 t4_0 t5_0 1
def F_DR_written (x2 : Int32) (x3 : Int32) (t0_0 : Int32) (t0_1 : Int32) (t0_2 : Int32) (t0_3 : Int64) (t0_4 : Int32) (t0_5 : Int32) (t0_6 : Int32) (t0_7 : Int32) (t0_8 : Int32) (t0_9 : Int32) (t0_10 : Int32) (t1_0 : (Nat → Int32)) (t2_0 : (Nat → Int32)) (t3_0 : (Nat → Int32)) (t4_0 : (Nat → Int32)) (t5_0 : (Nat → Int32)) : Int32 × Int32 × Int32 × Int32 × Int64 × Int32 × Int32 × Int32 × Int32 × Int32 × Int32 × Int32 × (Nat → Int32) := if ((F_DR_no x2) : Int32) = (0 : Int32) then (if x3 < (0 : Int32) then (F_DR_written_J17 x2 x3 t0_0 t0_1 t0_2 t0_3 t0_4 t0_5 t0_6 t0_7 t0_8 t0_9 t0_10 t1_0 t2_0 t3_0 t4_0 t5_0) else (if x3 ≤ (2 : Int32) then (F_DR_written_J22 x2 x3 t0_0 t0_1 t0_2 t0_3 t0_4 t0_5 t0_6 t0_7 t0_8 t0_9 t0_10 t1_0 t2_0 t3_0 t4_0 t5_0 0) else (F_DR_written_J17 x2 x3 t0_0 t0_1 t0_2 t0_3 t0_4 t0_5 t0_6 t0_7 t0_8 t0_9 t0_10 t1_0 t2_0 t3_0 t4_0 t5_0))) else (F_DR_written_J17 x2 x3 t0_0 t0_1 t0_2 t0_3 t0_4 t0_5 t0_6 t0_7 t0_8 t0_9 t0_10 t1_0 t2_0 t3_0 t4_0 t5_0)
def S_DR_written_c286 (x2 : Int32) (x3 : Int32) (t0_0 : Int32) (t0_1 : Int32) (t0_2 : Int32) (t0_3 : Int64) (t0_4 : Int32) (t0_5 : Int32) (t0_6 : Int32) (t0_7 : Int32) (t0_8 : Int32) (t0_9 : Int32) (t0_10 : Int32) (t1_0 : (Nat → Int32)) (t2_0 : (Nat → Int32)) (t3_0 : (Nat → Int32)) (t4_0 : (Nat → Int32)) (t5_0 : (Nat → Int32)) (lx39 : Int32) (lx64 : Int32) (lx65 : Int32) (lx66 : Int32) (lx67 : Int64) (lx68 : Int32) (lx69 : Int32) (lx70 : Int32) (lx71 : Int32) (lx72 : Int32) (lx73 : Int32) (lx74 : Int32) (lx75 : (Nat → Int32)) (a117 : Int32) (a113 : Int32) (a111 : Int32) (a157 : Int32) (lx166 : Int32) (p224 : (Int32 × Int32 × Int32 × Int64 × Int32 × Int32 × Int32 × Int32 × Int32 × Int32 × Int32 × (Nat → Int32))) (p287 : (Int32 × Int32 × Int32 × Int64 × Int32 × Int32 × Int32 × Int32 × Int32 × Int32 × Int32 × (Nat → Int32))) : Prop := True
def S_DR_written_c275 (x2 : Int32) (x3 : Int32) (t0_0 : Int32) (t0_1 : Int32) (t0_2 : Int32) (t0_3 : Int64) (t0_4 : Int32) (t0_5 : Int32) (t0_6 : Int32) (t0_7 : Int32) (t0_8 : Int32) (t0_9 : Int32) (t0_10 : Int32) (t1_0 : (Nat → Int32)) (t2_0 : (Nat → Int32)) (t3_0 : (Nat → Int32)) (t4_0 : (Nat → Int32)) (t5_0 : (Nat → Int32)) (lx39 : Int32) (lx64 : Int32) (lx65 : Int32) (lx66 : Int32) (lx67 : Int64) (lx68 : Int32) (lx69 : Int32) (lx70 : Int32) (lx71 : Int32) (lx72 : Int32) (lx73 : Int32) (lx74 : Int32) (lx75 : (Nat → Int32)) (a117 : Int32) (a113 : Int32) (a111 : Int32) (a157 : Int32) (lx166 : Int32) (p224 : (Int32 × Int32 × Int32 × Int64 × Int32 × Int32 × Int32 × Int32 × Int32 × Int32 × Int32 × (Nat → Int32))) : Prop := if a157 = (0 : Int32) then (True) else ((True ∧ S_DR_exponent a157 (p224.1 : Int32) (p224.2.1 : Int32) (p224.2.2.1 : Int32) (p224.2.2.2.1 : Int64) (p224.2.2.2.2.1 : Int32) (p224.2.2.2.2.2.1 : Int32) (p224.2.2.2.2.2.2.1 : Int32) (p224.2.2.2.2.2.2.2.1 : Int32) (p224.2.2.2.2.2.2.2.2.1 : Int32) (p224.2.2.2.2.2.2.2.2.2.1 : Int32) (p224.2.2.2.2.2.2.2.2.2.2.1 : Int32) (p224.2.2.2.2.2.2.2.2.2.2.2 : (Nat → Int32))) ∧ (S_DR_written_c286 x2 x3 t0_0 t0_1 t0_2 t0_3 t0_4 t0_5 t0_6 t0_7 t0_8 t0_9 t0_10 t1_0 t2_0 t3_0 t4_0 t5_0 lx39 lx64 lx65 lx66 lx67 lx68 lx69 lx70 lx71 lx72 lx73 lx74 lx75 a117 a113 a111 a157 lx166 p224 ((F_DR_exponent a157 (p224.1 : Int32) (p224.2.1 : Int32) (p224.2.2.1 : Int32) (p224.2.2.2.1 : Int64) (p224.2.2.2.2.1 : Int32) (p224.2.2.2.2.2.1 : Int32) (p224.2.2.2.2.2.2.1 : Int32) (p224.2.2.2.2.2.2.2.1 : Int32) (p224.2.2.2.2.2.2.2.2.1 : Int32) (p224.2.2.2.2.2.2.2.2.2.1 : Int32) (p224.2.2.2.2.2.2.2.2.2.2.1 : Int32) (p224.2.2.2.2.2.2.2.2.2.2.2 : (Nat → Int32))) : (Int32 × Int32 × Int32 × Int64 × Int32 × Int32 × Int32 × Int32 × Int32 × Int32 × Int32 × (Nat → Int32)))))
def S_DR_written_J268 (x2 : Int32) (x3 : Int32) (t0_0 : Int32) (t0_1 : Int32) (t0_2 : Int32) (t0_3 : Int64) (t0_4 : Int32) (t0_5 : Int32) (t0_6 : Int32) (t0_7 : Int32) (t0_8 : Int32) (t0_9 : Int32) (t0_10 : Int32) (t1_0 : (Nat → Int32)) (t2_0 : (Nat → Int32)) (t3_0 : (Nat → Int32)) (t4_0 : (Nat → Int32)) (t5_0 : (Nat → Int32)) (lx39 : Int32) (lx64 : Int32) (lx65 : Int32) (lx66 : Int32) (lx67 : Int64) (lx68 : Int32) (lx69 : Int32) (lx70 : Int32) (lx71 : Int32) (lx72 : Int32) (lx73 : Int32) (lx74 : Int32) (lx75 : (Nat → Int32)) (a117 : Int32) (a113 : Int32) (a111 : Int32) (a157 : Int32) (lx166 : Int32) : Prop := (True ∧ S_DR_figures x2 (0 : Int32) lx166 ((a117 - a157 : Int32) + 1 : Int32) lx64 lx65 lx66 lx67 lx68 lx69 lx70 lx71 lx72 lx73 lx74 t1_0 t2_0 lx75) ∧ (S_DR_written_c275 x2 x3 t0_0 t0_1 t0_2 t0_3 t0_4 t0_5 t0_6 t0_7 t0_8 t0_9 t0_10 t1_0 t2_0 t3_0 t4_0 t5_0 lx39 lx64 lx65 lx66 lx67 lx68 lx69 lx70 lx71 lx72 lx73 lx74 lx75 a117 a113 a111 a157 lx166 ((F_DR_figures x2 (0 : Int32) lx166 ((a117 - a157 : Int32) + 1 : Int32) lx64 lx65 lx66 lx67 lx68 lx69 lx70 lx71 lx72 lx73 lx74 t1_0 t2_0 lx75) : (Int32 × Int32 × Int32 × Int64 × Int32 × Int32 × Int32 × Int32 × Int32 × Int32 × Int32 × (Nat → Int32))))
def S_DR_written_c230 (x2 : Int32) (x3 : Int32) (t0_0 : Int32) (t0_1 : Int32) (t0_2 : Int32) (t0_3 : Int64) (t0_4 : Int32) (t0_5 : Int32) (t0_6 : Int32) (t0_7 : Int32) (t0_8 : Int32) (t0_9 : Int32) (t0_10 : Int32) (t1_0 : (Nat → Int32)) (t2_0 : (Nat → Int32)) (t3_0 : (Nat → Int32)) (t4_0 : (Nat → Int32)) (t5_0 : (Nat → Int32)) (lx39 : Int32) (lx64 : Int32) (lx65 : Int32) (lx66 : Int32) (lx67 : Int64) (lx68 : Int32) (lx69 : Int32) (lx70 : Int32) (lx71 : Int32) (lx72 : Int32) (lx73 : Int32) (lx74 : Int32) (lx75 : (Nat → Int32)) (a117 : Int32) (a113 : Int32) (a111 : Int32) (a323 : Int32) (p372 : (Int32 × Int32 × Int32 × Int64 × Int32 × Int32 × Int32 × Int32 × Int32 × Int32 × Int32 × (Nat → Int32))) (p435 : (Int32 × Int32 × Int32 × Int64 × Int32 × Int32 × Int32 × Int32 × Int32 × Int32 × Int32 × (Nat → Int32))) : Prop := True
def S_DR_written_c219 (x2 : Int32) (x3 : Int32) (t0_0 : Int32) (t0_1 : Int32) (t0_2 : Int32) (t0_3 : Int64) (t0_4 : Int32) (t0_5 : Int32) (t0_6 : Int32) (t0_7 : Int32) (t0_8 : Int32) (t0_9 : Int32) (t0_10 : Int32) (t1_0 : (Nat → Int32)) (t2_0 : (Nat → Int32)) (t3_0 : (Nat → Int32)) (t4_0 : (Nat → Int32)) (t5_0 : (Nat → Int32)) (lx39 : Int32) (lx64 : Int32) (lx65 : Int32) (lx66 : Int32) (lx67 : Int64) (lx68 : Int32) (lx69 : Int32) (lx70 : Int32) (lx71 : Int32) (lx72 : Int32) (lx73 : Int32) (lx74 : Int32) (lx75 : (Nat → Int32)) (a117 : Int32) (a113 : Int32) (a111 : Int32) (a323 : Int32) (p372 : (Int32 × Int32 × Int32 × Int64 × Int32 × Int32 × Int32 × Int32 × Int32 × Int32 × Int32 × (Nat → Int32))) : Prop := if a323 = (0 : Int32) then (True) else ((True ∧ S_DR_exponent a323 (p372.1 : Int32) (p372.2.1 : Int32) (p372.2.2.1 : Int32) (p372.2.2.2.1 : Int64) (p372.2.2.2.2.1 : Int32) (p372.2.2.2.2.2.1 : Int32) (p372.2.2.2.2.2.2.1 : Int32) (p372.2.2.2.2.2.2.2.1 : Int32) (p372.2.2.2.2.2.2.2.2.1 : Int32) (p372.2.2.2.2.2.2.2.2.2.1 : Int32) (p372.2.2.2.2.2.2.2.2.2.2.1 : Int32) (p372.2.2.2.2.2.2.2.2.2.2.2 : (Nat → Int32))) ∧ (S_DR_written_c230 x2 x3 t0_0 t0_1 t0_2 t0_3 t0_4 t0_5 t0_6 t0_7 t0_8 t0_9 t0_10 t1_0 t2_0 t3_0 t4_0 t5_0 lx39 lx64 lx65 lx66 lx67 lx68 lx69 lx70 lx71 lx72 lx73 lx74 lx75 a117 a113 a111 a323 p372 ((F_DR_exponent a323 (p372.1 : Int32) (p372.2.1 : Int32) (p372.2.2.1 : Int32) (p372.2.2.2.1 : Int64) (p372.2.2.2.2.1 : Int32) (p372.2.2.2.2.2.1 : Int32) (p372.2.2.2.2.2.2.1 : Int32) (p372.2.2.2.2.2.2.2.1 : Int32) (p372.2.2.2.2.2.2.2.2.1 : Int32) (p372.2.2.2.2.2.2.2.2.2.1 : Int32) (p372.2.2.2.2.2.2.2.2.2.2.1 : Int32) (p372.2.2.2.2.2.2.2.2.2.2.2 : (Nat → Int32))) : (Int32 × Int32 × Int32 × Int64 × Int32 × Int32 × Int32 × Int32 × Int32 × Int32 × Int32 × (Nat → Int32)))))
def S_DR_written_c185 (x2 : Int32) (x3 : Int32) (t0_0 : Int32) (t0_1 : Int32) (t0_2 : Int32) (t0_3 : Int64) (t0_4 : Int32) (t0_5 : Int32) (t0_6 : Int32) (t0_7 : Int32) (t0_8 : Int32) (t0_9 : Int32) (t0_10 : Int32) (t1_0 : (Nat → Int32)) (t2_0 : (Nat → Int32)) (t3_0 : (Nat → Int32)) (t4_0 : (Nat → Int32)) (t5_0 : (Nat → Int32)) (lx39 : Int32) (lx64 : Int32) (lx65 : Int32) (lx66 : Int32) (lx67 : Int64) (lx68 : Int32) (lx69 : Int32) (lx70 : Int32) (lx71 : Int32) (lx72 : Int32) (lx73 : Int32) (lx74 : Int32) (lx75 : (Nat → Int32)) (a117 : Int32) (a113 : Int32) (a111 : Int32) (p496 : (Int32 × Int32 × Int32 × Int64 × Int32 × Int32 × Int32 × Int32 × Int32 × Int32 × Int32 × (Nat → Int32))) (p556 : (Int32 × Int32 × Int32 × Int64 × Int32 × Int32 × Int32 × Int32 × Int32 × Int32 × Int32 × (Nat → Int32))) : Prop := True
def S_DR_written_c179 (x2 : Int32) (x3 : Int32) (t0_0 : Int32) (t0_1 : Int32) (t0_2 : Int32) (t0_3 : Int64) (t0_4 : Int32) (t0_5 : Int32) (t0_6 : Int32) (t0_7 : Int32) (t0_8 : Int32) (t0_9 : Int32) (t0_10 : Int32) (t1_0 : (Nat → Int32)) (t2_0 : (Nat → Int32)) (t3_0 : (Nat → Int32)) (t4_0 : (Nat → Int32)) (t5_0 : (Nat → Int32)) (lx39 : Int32) (lx64 : Int32) (lx65 : Int32) (lx66 : Int32) (lx67 : Int64) (lx68 : Int32) (lx69 : Int32) (lx70 : Int32) (lx71 : Int32) (lx72 : Int32) (lx73 : Int32) (lx74 : Int32) (lx75 : (Nat → Int32)) (a117 : Int32) (a113 : Int32) (a111 : Int32) (p496 : (Int32 × Int32 × Int32 × Int64 × Int32 × Int32 × Int32 × Int32 × Int32 × Int32 × Int32 × (Nat → Int32))) : Prop := (True ∧ S_DR_exponent a117 (p496.1 : Int32) (p496.2.1 : Int32) (p496.2.2.1 : Int32) (p496.2.2.2.1 : Int64) (p496.2.2.2.2.1 : Int32) (p496.2.2.2.2.2.1 : Int32) (p496.2.2.2.2.2.2.1 : Int32) (p496.2.2.2.2.2.2.2.1 : Int32) (p496.2.2.2.2.2.2.2.2.1 : Int32) (p496.2.2.2.2.2.2.2.2.2.1 : Int32) (p496.2.2.2.2.2.2.2.2.2.2.1 : Int32) (p496.2.2.2.2.2.2.2.2.2.2.2 : (Nat → Int32))) ∧ (S_DR_written_c185 x2 x3 t0_0 t0_1 t0_2 t0_3 t0_4 t0_5 t0_6 t0_7 t0_8 t0_9 t0_10 t1_0 t2_0 t3_0 t4_0 t5_0 lx39 lx64 lx65 lx66 lx67 lx68 lx69 lx70 lx71 lx72 lx73 lx74 lx75 a117 a113 a111 p496 ((F_DR_exponent a117 (p496.1 : Int32) (p496.2.1 : Int32) (p496.2.2.1 : Int32) (p496.2.2.2.1 : Int64) (p496.2.2.2.2.1 : Int32) (p496.2.2.2.2.2.1 : Int32) (p496.2.2.2.2.2.2.1 : Int32) (p496.2.2.2.2.2.2.2.1 : Int32) (p496.2.2.2.2.2.2.2.2.1 : Int32) (p496.2.2.2.2.2.2.2.2.2.1 : Int32) (p496.2.2.2.2.2.2.2.2.2.2.1 : Int32) (p496.2.2.2.2.2.2.2.2.2.2.2 : (Nat → Int32))) : (Int32 × Int32 × Int32 × Int64 × Int32 × Int32 × Int32 × Int32 × Int32 × Int32 × Int32 × (Nat → Int32))))
def S_DR_written_J170 (x2 : Int32) (x3 : Int32) (t0_0 : Int32) (t0_1 : Int32) (t0_2 : Int32) (t0_3 : Int64) (t0_4 : Int32) (t0_5 : Int32) (t0_6 : Int32) (t0_7 : Int32) (t0_8 : Int32) (t0_9 : Int32) (t0_10 : Int32) (t1_0 : (Nat → Int32)) (t2_0 : (Nat → Int32)) (t3_0 : (Nat → Int32)) (t4_0 : (Nat → Int32)) (t5_0 : (Nat → Int32)) (lx39 : Int32) (lx64 : Int32) (lx65 : Int32) (lx66 : Int32) (lx67 : Int64) (lx68 : Int32) (lx69 : Int32) (lx70 : Int32) (lx71 : Int32) (lx72 : Int32) (lx73 : Int32) (lx74 : Int32) (lx75 : (Nat → Int32)) (a117 : Int32) (a113 : Int32) (a111 : Int32) : Prop := if x3 = (0 : Int32) then ((True ∧ S_DR_figures x2 (0 : Int32) a111 (1 : Int32) lx64 lx65 lx66 lx67 lx68 lx69 lx70 lx71 lx72 lx73 lx74 t1_0 t2_0 lx75) ∧ (S_DR_written_c179 x2 x3 t0_0 t0_1 t0_2 t0_3 t0_4 t0_5 t0_6 t0_7 t0_8 t0_9 t0_10 t1_0 t2_0 t3_0 t4_0 t5_0 lx39 lx64 lx65 lx66 lx67 lx68 lx69 lx70 lx71 lx72 lx73 lx74 lx75 a117 a113 a111 ((F_DR_figures x2 (0 : Int32) a111 (1 : Int32) lx64 lx65 lx66 lx67 lx68 lx69 lx70 lx71 lx72 lx73 lx74 t1_0 t2_0 lx75) : (Int32 × Int32 × Int32 × Int64 × Int32 × Int32 × Int32 × Int32 × Int32 × Int32 × Int32 × (Nat → Int32))))) else ((True ∧ S_DR_isZero x2 lx64 lx65 lx66 lx67 lx68 lx69 lx70 lx71 lx72 lx73 lx74 t1_0) ∧ (if ((F_DR_isZero x2 lx64 lx65 lx66 lx67 lx68 lx69 lx70 lx71 lx72 lx73 lx74 t1_0) : Int32) = (0 : Int32) then (if a111 ≤ ((a117 - ((F_DR_down3 a117) : Int32) : Int32) + 1 : Int32) then (S_DR_written_J268 x2 x3 t0_0 t0_1 t0_2 t0_3 t0_4 t0_5 t0_6 t0_7 t0_8 t0_9 t0_10 t1_0 t2_0 t3_0 t4_0 t5_0 lx39 lx64 lx65 lx66 lx67 lx68 lx69 lx70 lx71 lx72 lx73 lx74 lx75 a117 a113 a111 ((F_DR_down3 a117) : Int32) ((a117 - ((F_DR_down3 a117) : Int32) : Int32) + 1 : Int32)) else (S_DR_written_J268 x2 x3 t0_0 t0_1 t0_2 t0_3 t0_4 t0_5 t0_6 t0_7 t0_8 t0_9 t0_10 t1_0 t2_0 t3_0 t4_0 t5_0 lx39 lx64 lx65 lx66 lx67 lx68 lx69 lx70 lx71 lx72 lx73 lx74 lx75 a117 a113 a111 ((F_DR_down3 a117) : Int32) a111)) else ((True ∧ S_DR_figures x2 (0 : Int32) ((1 + (-((F_DR_down3 (-a117 : Int32)) : Int32) : Int32) : Int32) - a117 : Int32) (1 : Int32) lx64 lx65 lx66 lx67 lx68 lx69 lx70 lx71 lx72 lx73 lx74 t1_0 t2_0 lx75) ∧ (S_DR_written_c219 x2 x3 t0_0 t0_1 t0_2 t0_3 t0_4 t0_5 t0_6 t0_7 t0_8 t0_9 t0_10 t1_0 t2_0 t3_0 t4_0 t5_0 lx39 lx64 lx65 lx66 lx67 lx68 lx69 lx70 lx71 lx72 lx73 lx74 lx75 a117 a113 a111 (-((F_DR_down3 (-a117 : Int32)) : Int32) : Int32) ((F_DR_figures x2 (0 : Int32) ((1 + (-((F_DR_down3 (-a117 : Int32)) : Int32) : Int32) : Int32) - a117 : Int32) (1 : Int32) lx64 lx65 lx66 lx67 lx68 lx69 lx70 lx71 lx72 lx73 lx74 t1_0 t2_0 lx75) : (Int32 × Int32 × Int32 × Int64 × Int32 × Int32 × Int32 × Int32 × Int32 × Int32 × Int32 × (Nat → Int32)))))))
def S_DR_written_c164 (x2 : Int32) (x3 : Int32) (t0_0 : Int32) (t0_1 : Int32) (t0_2 : Int32) (t0_3 : Int64) (t0_4 : Int32) (t0_5 : Int32) (t0_6 : Int32) (t0_7 : Int32) (t0_8 : Int32) (t0_9 : Int32) (t0_10 : Int32) (t1_0 : (Nat → Int32)) (t2_0 : (Nat → Int32)) (t3_0 : (Nat → Int32)) (t4_0 : (Nat → Int32)) (t5_0 : (Nat → Int32)) (lx39 : Int32) (lx64 : Int32) (lx65 : Int32) (lx66 : Int32) (lx67 : Int64) (lx68 : Int32) (lx69 : Int32) (lx70 : Int32) (lx71 : Int32) (lx72 : Int32) (lx73 : Int32) (lx74 : Int32) (lx75 : (Nat → Int32)) (a117 : Int32) (a113 : Int32) (a111 : Int32) (lx592 : Int32) (p650 : (Int32 × Int32 × Int32 × Int64 × Int32 × Int32 × Int32 × Int32 × Int32 × Int32 × Int32 × (Nat → Int32))) : Prop := True
def S_DR_written_c164_15 (x2 : Int32) (x3 : Int32) (t0_0 : Int32) (t0_1 : Int32) (t0_2 : Int32) (t0_3 : Int64) (t0_4 : Int32) (t0_5 : Int32) (t0_6 : Int32) (t0_7 : Int32) (t0_8 : Int32) (t0_9 : Int32) (t0_10 : Int32) (t1_0 : (Nat → Int32)) (t2_0 : (Nat → Int32)) (t3_0 : (Nat → Int32)) (t4_0 : (Nat → Int32)) (t5_0 : (Nat → Int32)) (lx39 : Int32) (lx64 : Int32) (lx65 : Int32) (lx66 : Int32) (lx67 : Int64) (lx68 : Int32) (lx69 : Int32) (lx70 : Int32) (lx71 : Int32) (lx72 : Int32) (lx73 : Int32) (lx74 : Int32) (lx75 : (Nat → Int32)) (a117 : Int32) (a113 : Int32) (a111 : Int32) (lx592 : Int32) (p711 : (Int32 × Int32 × Int32 × Int64 × Int32 × Int32 × Int32 × Int32 × Int32 × Int32 × Int32 × (Nat → Int32))) : Prop := True
def S_DR_written_J150 (x2 : Int32) (x3 : Int32) (t0_0 : Int32) (t0_1 : Int32) (t0_2 : Int32) (t0_3 : Int64) (t0_4 : Int32) (t0_5 : Int32) (t0_6 : Int32) (t0_7 : Int32) (t0_8 : Int32) (t0_9 : Int32) (t0_10 : Int32) (t1_0 : (Nat → Int32)) (t2_0 : (Nat → Int32)) (t3_0 : (Nat → Int32)) (t4_0 : (Nat → Int32)) (t5_0 : (Nat → Int32)) (lx39 : Int32) (lx64 : Int32) (lx65 : Int32) (lx66 : Int32) (lx67 : Int64) (lx68 : Int32) (lx69 : Int32) (lx70 : Int32) (lx71 : Int32) (lx72 : Int32) (lx73 : Int32) (lx74 : Int32) (lx75 : (Nat → Int32)) (a117 : Int32) (a113 : Int32) (a111 : Int32) (lx592 : Int32) : Prop := if a113 = (0 : Int32) then ((True ∧ S_DR_figures x2 lx592 a111 (-1 : Int32) lx64 lx65 lx66 lx67 lx68 lx69 lx70 lx71 lx72 lx73 lx74 t1_0 t2_0 lx75) ∧ (S_DR_written_c164_15 x2 x3 t0_0 t0_1 t0_2 t0_3 t0_4 t0_5 t0_6 t0_7 t0_8 t0_9 t0_10 t1_0 t2_0 t3_0 t4_0 t5_0 lx39 lx64 lx65 lx66 lx67 lx68 lx69 lx70 lx71 lx72 lx73 lx74 lx75 a117 a113 a111 lx592 ((F_DR_figures x2 lx592 a111 (-1 : Int32) lx64 lx65 lx66 lx67 lx68 lx69 lx70 lx71 lx72 lx73 lx74 t1_0 t2_0 lx75) : (Int32 × Int32 × Int32 × Int64 × Int32 × Int32 × Int32 × Int32 × Int32 × Int32 × Int32 × (Nat → Int32))))) else ((True ∧ S_DR_figures x2 lx592 a111 (a111 - a113 : Int32) lx64 lx65 lx66 lx67 lx68 lx69 lx70 lx71 lx72 lx73 lx74 t1_0 t2_0 lx75) ∧ (S_DR_written_c164 x2 x3 t0_0 t0_1 t0_2 t0_3 t0_4 t0_5 t0_6 t0_7 t0_8 t0_9 t0_10 t1_0 t2_0 t3_0 t4_0 t5_0 lx39 lx64 lx65 lx66 lx67 lx68 lx69 lx70 lx71 lx72 lx73 lx74 lx75 a117 a113 a111 lx592 ((F_DR_figures x2 lx592 a111 (a111 - a113 : Int32) lx64 lx65 lx66 lx67 lx68 lx69 lx70 lx71 lx72 lx73 lx74 t1_0 t2_0 lx75) : (Int32 × Int32 × Int32 × Int64 × Int32 × Int32 × Int32 × Int32 × Int32 × Int32 × Int32 × (Nat → Int32)))))
def S_DR_written_J130 (x2 : Int32) (x3 : Int32) (t0_0 : Int32) (t0_1 : Int32) (t0_2 : Int32) (t0_3 : Int64) (t0_4 : Int32) (t0_5 : Int32) (t0_6 : Int32) (t0_7 : Int32) (t0_8 : Int32) (t0_9 : Int32) (t0_10 : Int32) (t1_0 : (Nat → Int32)) (t2_0 : (Nat → Int32)) (t3_0 : (Nat → Int32)) (t4_0 : (Nat → Int32)) (t5_0 : (Nat → Int32)) (lx39 : Int32) (lx64 : Int32) (lx65 : Int32) (lx66 : Int32) (lx67 : Int64) (lx68 : Int32) (lx69 : Int32) (lx70 : Int32) (lx71 : Int32) (lx72 : Int32) (lx73 : Int32) (lx74 : Int32) (lx75 : (Nat → Int32)) (a117 : Int32) (a113 : Int32) (a111 : Int32) : Prop := if (1 : Int32) ≤ (a111 - a113 : Int32) then (S_DR_written_J150 x2 x3 t0_0 t0_1 t0_2 t0_3 t0_4 t0_5 t0_6 t0_7 t0_8 t0_9 t0_10 t1_0 t2_0 t3_0 t4_0 t5_0 lx39 lx64 lx65 lx66 lx67 lx68 lx69 lx70 lx71 lx72 lx73 lx74 lx75 a117 a113 a111 0) else (S_DR_written_J150 x2 x3 t0_0 t0_1 t0_2 t0_3 t0_4 t0_5 t0_6 t0_7 t0_8 t0_9 t0_10 t1_0 t2_0 t3_0 t4_0 t5_0 lx39 lx64 lx65 lx66 lx67 lx68 lx69 lx70 lx71 lx72 lx73 lx74 lx75 a117 a113 a111 ((a111 - a113 : Int32) - 1 : Int32))
def S_DR_written_J113 (x2 : Int32) (x3 : Int32) (t0_0 : Int32) (t0_1 : Int32) (t0_2 : Int32) (t0_3 : Int64) (t0_4 : Int32) (t0_5 : Int32) (t0_6 : Int32) (t0_7 : Int32) (t0_8 : Int32) (t0_9 : Int32) (t0_10 : Int32) (t1_0 : (Nat → Int32)) (t2_0 : (Nat → Int32)) (t3_0 : (Nat → Int32)) (t4_0 : (Nat → Int32)) (t5_0 : (Nat → Int32)) (lx39 : Int32) (lx64 : Int32) (lx65 : Int32) (lx66 : Int32) (lx67 : Int64) (lx68 : Int32) (lx69 : Int32) (lx70 : Int32) (lx71 : Int32) (lx72 : Int32) (lx73 : Int32) (lx74 : Int32) (lx75 : (Nat → Int32)) (a117 : Int32) (a113 : Int32) (a111 : Int32) : Prop := if a113 < (0 : Int32) then (S_DR_written_J170 x2 x3 t0_0 t0_1 t0_2 t0_3 t0_4 t0_5 t0_6 t0_7 t0_8 t0_9 t0_10 t1_0 t2_0 t3_0 t4_0 t5_0 lx39 lx64 lx65 lx66 lx67 lx68 lx69 lx70 lx71 lx72 lx73 lx74 lx75 a117 a113 a111) else (if x3 = (1 : Int32) then (S_DR_written_J130 x2 x3 t0_0 t0_1 t0_2 t0_3 t0_4 t0_5 t0_6 t0_7 t0_8 t0_9 t0_10 t1_0 t2_0 t3_0 t4_0 t5_0 lx39 lx64 lx65 lx66 lx67 lx68 lx69 lx70 lx71 lx72 lx73 lx74 lx75 a117 a113 a111) else (if a117 < (-6 : Int32) then (S_DR_written_J170 x2 x3 t0_0 t0_1 t0_2 t0_3 t0_4 t0_5 t0_6 t0_7 t0_8 t0_9 t0_10 t1_0 t2_0 t3_0 t4_0 t5_0 lx39 lx64 lx65 lx66 lx67 lx68 lx69 lx70 lx71 lx72 lx73 lx74 lx75 a117 a113 a111) else (S_DR_written_J130 x2 x3 t0_0 t0_1 t0_2 t0_3 t0_4 t0_5 t0_6 t0_7 t0_8 t0_9 t0_10 t1_0 t2_0 t3_0 t4_0 t5_0 lx39 lx64 lx65 lx66 lx67 lx68 lx69 lx70 lx71 lx72 lx73 lx74 lx75 a117 a113 a111)))
def S_DR_written_c107 (x2 : Int32) (x3 : Int32) (t0_0 : Int32) (t0_1 : Int32) (t0_2 : Int32) (t0_3 : Int64) (t0_4 : Int32) (t0_5 : Int32) (t0_6 : Int32) (t0_7 : Int32) (t0_8 : Int32) (t0_9 : Int32) (t0_10 : Int32) (t1_0 : (Nat → Int32)) (t2_0 : (Nat → Int32)) (t3_0 : (Nat → Int32)) (t4_0 : (Nat → Int32)) (t5_0 : (Nat → Int32)) (lx39 : Int32) (lx64 : Int32) (lx65 : Int32) (lx66 : Int32) (lx67 : Int64) (lx68 : Int32) (lx69 : Int32) (lx70 : Int32) (lx71 : Int32) (lx72 : Int32) (lx73 : Int32) (lx74 : Int32) (lx75 : (Nat → Int32)) (a117 : Int32) (a113 : Int32) (a111 : Int32) (p802 : (Int32 × Int32 × Int32 × Int64 × Int32 × Int32 × Int32 × Int32 × Int32 × Int32 × Int32 × (Nat → Int32))) : Prop := True
def S_DR_written_c107_17 (x2 : Int32) (x3 : Int32) (t0_0 : Int32) (t0_1 : Int32) (t0_2 : Int32) (t0_3 : Int64) (t0_4 : Int32) (t0_5 : Int32) (t0_6 : Int32) (t0_7 : Int32) (t0_8 : Int32) (t0_9 : Int32) (t0_10 : Int32) (t1_0 : (Nat → Int32)) (t2_0 : (Nat → Int32)) (t3_0 : (Nat → Int32)) (t4_0 : (Nat → Int32)) (t5_0 : (Nat → Int32)) (lx39 : Int32) (lx64 : Int32) (lx65 : Int32) (lx66 : Int32) (lx67 : Int64) (lx68 : Int32) (lx69 : Int32) (lx70 : Int32) (lx71 : Int32) (lx72 : Int32) (lx73 : Int32) (lx74 : Int32) (lx75 : (Nat → Int32)) (a117 : Int32) (a113 : Int32) (a111 : Int32) (p863 : (Int32 × Int32 × Int32 × Int64 × Int32 × Int32 × Int32 × Int32 × Int32 × Int32 × Int32 × (Nat → Int32))) : Prop := True
def S_DR_written_J54 (x2 : Int32) (x3 : Int32) (t0_0 : Int32) (t0_1 : Int32) (t0_2 : Int32) (t0_3 : Int64) (t0_4 : Int32) (t0_5 : Int32) (t0_6 : Int32) (t0_7 : Int32) (t0_8 : Int32) (t0_9 : Int32) (t0_10 : Int32) (t1_0 : (Nat → Int32)) (t2_0 : (Nat → Int32)) (t3_0 : (Nat → Int32)) (t4_0 : (Nat → Int32)) (t5_0 : (Nat → Int32)) (lx39 : Int32) (lx64 : Int32) (lx65 : Int32) (lx66 : Int32) (lx67 : Int64) (lx68 : Int32) (lx69 : Int32) (lx70 : Int32) (lx71 : Int32) (lx72 : Int32) (lx73 : Int32) (lx74 : Int32) (lx75 : (Nat → Int32)) : Prop := if x3 = (1 : Int32) then (if (0 : Int32) < (t4_0 x2.toNatClampNeg : Int32) then (S_DR_written_J113 x2 x3 t0_0 t0_1 t0_2 t0_3 t0_4 t0_5 t0_6 t0_7 t0_8 t0_9 t0_10 t1_0 t2_0 t3_0 t4_0 t5_0 lx39 lx64 lx65 lx66 lx67 lx68 lx69 lx70 lx71 lx72 lx73 lx74 lx75 (((t2_0 x2.toNatClampNeg : Int32) - 1 : Int32) - (t4_0 x2.toNatClampNeg : Int32) : Int32) (t4_0 x2.toNatClampNeg : Int32) (t2_0 x2.toNatClampNeg : Int32)) else ((True ∧ S_DR_isZero x2 lx64 lx65 lx66 lx67 lx68 lx69 lx70 lx71 lx72 lx73 lx74 t1_0) ∧ (if ((F_DR_isZero x2 lx64 lx65 lx66 lx67 lx68 lx69 lx70 lx71 lx72 lx73 lx74 t1_0) : Int32) = (0 : Int32) then ((True ∧ S_DR_figures x2 (0 : Int32) ((t2_0 x2.toNatClampNeg : Int32) - (t4_0 x2.toNatClampNeg : Int32) : Int32) (-1 : Int32) lx64 lx65 lx66 lx67 lx68 lx69 lx70 lx71 lx72 lx73 lx74 t1_0 t2_0 lx75) ∧ (S_DR_written_c107 x2 x3 t0_0 t0_1 t0_2 t0_3 t0_4 t0_5 t0_6 t0_7 t0_8 t0_9 t0_10 t1_0 t2_0 t3_0 t4_0 t5_0 lx39 lx64 lx65 lx66 lx67 lx68 lx69 lx70 lx71 lx72 lx73 lx74 lx75 (((t2_0 x2.toNatClampNeg : Int32) - 1 : Int32) - (t4_0 x2.toNatClampNeg : Int32) : Int32) (t4_0 x2.toNatClampNeg : Int32) (t2_0 x2.toNatClampNeg : Int32) ((F_DR_figures x2 (0 : Int32) ((t2_0 x2.toNatClampNeg : Int32) - (t4_0 x2.toNatClampNeg : Int32) : Int32) (-1 : Int32) lx64 lx65 lx66 lx67 lx68 lx69 lx70 lx71 lx72 lx73 lx74 t1_0 t2_0 lx75) : (Int32 × Int32 × Int32 × Int64 × Int32 × Int32 × Int32 × Int32 × Int32 × Int32 × Int32 × (Nat → Int32))))) else ((True ∧ S_DR_figures x2 (0 : Int32) (1 : Int32) (-1 : Int32) lx64 lx65 lx66 lx67 lx68 lx69 lx70 lx71 lx72 lx73 lx74 t1_0 t2_0 lx75) ∧ (S_DR_written_c107_17 x2 x3 t0_0 t0_1 t0_2 t0_3 t0_4 t0_5 t0_6 t0_7 t0_8 t0_9 t0_10 t1_0 t2_0 t3_0 t4_0 t5_0 lx39 lx64 lx65 lx66 lx67 lx68 lx69 lx70 lx71 lx72 lx73 lx74 lx75 (((t2_0 x2.toNatClampNeg : Int32) - 1 : Int32) - (t4_0 x2.toNatClampNeg : Int32) : Int32) (t4_0 x2.toNatClampNeg : Int32) (t2_0 x2.toNatClampNeg : Int32) ((F_DR_figures x2 (0 : Int32) (1 : Int32) (-1 : Int32) lx64 lx65 lx66 lx67 lx68 lx69 lx70 lx71 lx72 lx73 lx74 t1_0 t2_0 lx75) : (Int32 × Int32 × Int32 × Int64 × Int32 × Int32 × Int32 × Int32 × Int32 × Int32 × Int32 × (Nat → Int32)))))))) else (S_DR_written_J113 x2 x3 t0_0 t0_1 t0_2 t0_3 t0_4 t0_5 t0_6 t0_7 t0_8 t0_9 t0_10 t1_0 t2_0 t3_0 t4_0 t5_0 lx39 lx64 lx65 lx66 lx67 lx68 lx69 lx70 lx71 lx72 lx73 lx74 lx75 (((t2_0 x2.toNatClampNeg : Int32) - 1 : Int32) - (t4_0 x2.toNatClampNeg : Int32) : Int32) (t4_0 x2.toNatClampNeg : Int32) (t2_0 x2.toNatClampNeg : Int32))
def S_DR_written_c51 (x2 : Int32) (x3 : Int32) (t0_0 : Int32) (t0_1 : Int32) (t0_2 : Int32) (t0_3 : Int64) (t0_4 : Int32) (t0_5 : Int32) (t0_6 : Int32) (t0_7 : Int32) (t0_8 : Int32) (t0_9 : Int32) (t0_10 : Int32) (t1_0 : (Nat → Int32)) (t2_0 : (Nat → Int32)) (t3_0 : (Nat → Int32)) (t4_0 : (Nat → Int32)) (t5_0 : (Nat → Int32)) (lx39 : Int32) (p927 : (Int32 × Int32 × Int32 × Int64 × Int32 × Int32 × Int32 × Int32 × Int32 × Int32 × Int32 × (Nat → Int32))) : Prop := S_DR_written_J54 x2 x3 t0_0 t0_1 t0_2 t0_3 t0_4 t0_5 t0_6 t0_7 t0_8 t0_9 t0_10 t1_0 t2_0 t3_0 t4_0 t5_0 lx39 (p927.1 : Int32) (p927.2.1 : Int32) (p927.2.2.1 : Int32) (p927.2.2.2.1 : Int64) (p927.2.2.2.2.1 : Int32) (p927.2.2.2.2.2.1 : Int32) (p927.2.2.2.2.2.2.1 : Int32) (p927.2.2.2.2.2.2.2.1 : Int32) (p927.2.2.2.2.2.2.2.2.1 : Int32) (p927.2.2.2.2.2.2.2.2.2.1 : Int32) (p927.2.2.2.2.2.2.2.2.2.2.1 : Int32) (p927.2.2.2.2.2.2.2.2.2.2.2 : (Nat → Int32))
def S_DR_written_J22 (x2 : Int32) (x3 : Int32) (t0_0 : Int32) (t0_1 : Int32) (t0_2 : Int32) (t0_3 : Int64) (t0_4 : Int32) (t0_5 : Int32) (t0_6 : Int32) (t0_7 : Int32) (t0_8 : Int32) (t0_9 : Int32) (t0_10 : Int32) (t1_0 : (Nat → Int32)) (t2_0 : (Nat → Int32)) (t3_0 : (Nat → Int32)) (t4_0 : (Nat → Int32)) (t5_0 : (Nat → Int32)) (lx39 : Int32) : Prop := if lx39 ≤ (0 : Int32) then ((0 ≤ x2.toInt) ∧ ((x2.toInt ≤ 9) ∧ (if (t3_0 x2.toNatClampNeg : Int32) = (0 : Int32) then (S_DR_written_J54 x2 x3 t0_0 t0_1 t0_2 t0_3 t0_4 t0_5 t0_6 t0_7 t0_8 t0_9 t0_10 t1_0 t2_0 t3_0 t4_0 t5_0 lx39 lx39 t0_1 t0_2 t0_3 t0_4 t0_5 t0_6 t0_7 t0_8 0 t0_10 t5_0) else ((True ∧ S_DR_print (45 : Int32) lx39 t0_1 t0_2 t0_3 t0_4 t0_5 t0_6 t0_7 t0_8 (0 : Int32) t0_10 t5_0) ∧ (S_DR_written_c51 x2 x3 t0_0 t0_1 t0_2 t0_3 t0_4 t0_5 t0_6 t0_7 t0_8 t0_9 t0_10 t1_0 t2_0 t3_0 t4_0 t5_0 lx39 ((F_DR_print (45 : Int32) lx39 t0_1 t0_2 t0_3 t0_4 t0_5 t0_6 t0_7 t0_8 (0 : Int32) t0_10 t5_0) : (Int32 × Int32 × Int32 × Int64 × Int32 × Int32 × Int32 × Int32 × Int32 × Int32 × Int32 × (Nat → Int32)))))))) else (True)
def S_DR_written_J17 (x2 : Int32) (x3 : Int32) (t0_0 : Int32) (t0_1 : Int32) (t0_2 : Int32) (t0_3 : Int64) (t0_4 : Int32) (t0_5 : Int32) (t0_6 : Int32) (t0_7 : Int32) (t0_8 : Int32) (t0_9 : Int32) (t0_10 : Int32) (t1_0 : (Nat → Int32)) (t2_0 : (Nat → Int32)) (t3_0 : (Nat → Int32)) (t4_0 : (Nat → Int32)) (t5_0 : (Nat → Int32)) : Prop := S_DR_written_J22 x2 x3 t0_0 t0_1 t0_2 t0_3 t0_4 t0_5 t0_6 t0_7 t0_8 t0_9 t0_10 t1_0 t2_0 t3_0 t4_0 t5_0 1
def S_DR_written (x2 : Int32) (x3 : Int32) (t0_0 : Int32) (t0_1 : Int32) (t0_2 : Int32) (t0_3 : Int64) (t0_4 : Int32) (t0_5 : Int32) (t0_6 : Int32) (t0_7 : Int32) (t0_8 : Int32) (t0_9 : Int32) (t0_10 : Int32) (t1_0 : (Nat → Int32)) (t2_0 : (Nat → Int32)) (t3_0 : (Nat → Int32)) (t4_0 : (Nat → Int32)) (t5_0 : (Nat → Int32)) : Prop := if ((F_DR_no x2) : Int32) = (0 : Int32) then (if x3 < (0 : Int32) then (S_DR_written_J17 x2 x3 t0_0 t0_1 t0_2 t0_3 t0_4 t0_5 t0_6 t0_7 t0_8 t0_9 t0_10 t1_0 t2_0 t3_0 t4_0 t5_0) else (if x3 ≤ (2 : Int32) then (S_DR_written_J22 x2 x3 t0_0 t0_1 t0_2 t0_3 t0_4 t0_5 t0_6 t0_7 t0_8 t0_9 t0_10 t1_0 t2_0 t3_0 t4_0 t5_0 0) else (S_DR_written_J17 x2 x3 t0_0 t0_1 t0_2 t0_3 t0_4 t0_5 t0_6 t0_7 t0_8 t0_9 t0_10 t1_0 t2_0 t3_0 t4_0 t5_0))) else (S_DR_written_J17 x2 x3 t0_0 t0_1 t0_2 t0_3 t0_4 t0_5 t0_6 t0_7 t0_8 t0_9 t0_10 t1_0 t2_0 t3_0 t4_0 t5_0)
set_option maxRecDepth 100000 in
set_option maxHeartbeats 4000000 in
theorem X_DR_written (l : Launch) (D : va_G) (g : Nat → ClassId) (q : Nat → Nat) (ws : va_W) (x2 : Int32) (x3 : Int32) (hI : q_I (msh g q) q ws) (t0_0 : Int32) (t0_1 : Int32) (t0_2 : Int32) (t0_3 : Int64) (t0_4 : Int32) (t0_5 : Int32) (t0_6 : Int32) (t0_7 : Int32) (t0_8 : Int32) (t0_9 : Int32) (t0_10 : Int32) (hT0 : ws[134]? = (some (q 134, .inr (14, [.int t0_0, .ref (q 135), .int t0_1, .ref (q 136), .ref (q 137), .ref (q 138), .ref (q 139), .ref (q 140), .int t0_2, .long t0_3, .int t0_4, .int t0_5, .ref (q 141), .int t0_6, .ref (q 142), .int t0_7, .ref (q 143), .int t0_8, .ref (q 144), .int t0_9, .int t0_10])) : Option (Nat × va_E))) (t1_0 : (Nat → Int32)) (hT1 : ws[136]? = (some (q 136, .inl (g 0, (10000 : Int32).toNatClampNeg, .inl t1_0)) : Option (Nat × va_E))) (t2_0 : (Nat → Int32)) (hT2 : ws[137]? = (some (q 137, .inl (g 0, (10 : Int32).toNatClampNeg, .inl t2_0)) : Option (Nat × va_E))) (t3_0 : (Nat → Int32)) (hT3 : ws[138]? = (some (q 138, .inl (g 3, 10, .inl t3_0)) : Option (Nat × va_E))) (t4_0 : (Nat → Int32)) (hT4 : ws[139]? = (some (q 139, .inl (g 0, (10 : Int32).toNatClampNeg, .inl t4_0)) : Option (Nat × va_E))) (t5_0 : (Nat → Int32)) (hT5 : ws[144]? = (some (q 144, .inl (g 0, (12200 : Int32).toNatClampNeg, .inl t5_0)) : Option (Nat × va_E))) (hS : True ∧ S_DR_written x2 x3 t0_0 t0_1 t0_2 t0_3 t0_4 t0_5 t0_6 t0_7 t0_8 t0_9 t0_10 t1_0 t2_0 t3_0 t4_0 t5_0) : q_mI l y_DR_written prog_15_method_53_code 7 (.int) 3 0 0 D g [.ref (q 134), .int x2, .int x3] ws (fun r u => q_I (msh g q) q u ∧ q_un ws u [134, 144] ∧ ∃ (u0_0 : Int32) (u0_1 : Int32) (u0_2 : Int32) (u0_3 : Int64) (u0_4 : Int32) (u0_5 : Int32) (u0_6 : Int32) (u0_7 : Int32) (u0_8 : Int32) (u0_9 : Int32) (u0_10 : Int32) (u5_0 : (Nat → Int32)), u[134]? = (some (q 134, .inr (14, [.int u0_0, .ref (q 135), .int u0_1, .ref (q 136), .ref (q 137), .ref (q 138), .ref (q 139), .ref (q 140), .int u0_2, .long u0_3, .int u0_4, .int u0_5, .ref (q 141), .int u0_6, .ref (q 142), .int u0_7, .ref (q 143), .int u0_8, .ref (q 144), .int u0_9, .int u0_10])) : Option (Nat × va_E)) ∧ u[144]? = (some (q 144, .inl (g 0, (12200 : Int32).toNatClampNeg, .inl u5_0)) : Option (Nat × va_E)) ∧ (0 ≤ r.toInt) ∧ (u0_9.toInt ≤ 12200) ∧ (t0_1.toInt ≤ u0_1.toInt) ∧ (u0_1.toInt ≤ t0_1.toInt) ∧ (t0_2.toInt ≤ u0_2.toInt) ∧ (u0_2.toInt ≤ t0_2.toInt) ∧ (t0_3.toInt ≤ u0_3.toInt) ∧ (u0_3.toInt ≤ t0_3.toInt) ∧ (t0_4.toInt ≤ u0_4.toInt) ∧ (u0_4.toInt ≤ t0_4.toInt) ∧ (t0_5.toInt ≤ u0_5.toInt) ∧ (u0_5.toInt ≤ t0_5.toInt) ∧ (t0_6.toInt ≤ u0_6.toInt) ∧ (u0_6.toInt ≤ t0_6.toInt) ∧ (t0_7.toInt ≤ u0_7.toInt) ∧ (u0_7.toInt ≤ t0_7.toInt) ∧ (t0_8.toInt ≤ u0_8.toInt) ∧ (u0_8.toInt ≤ t0_8.toInt) ∧ (t0_10.toInt ≤ u0_10.toInt) ∧ (u0_10.toInt ≤ t0_10.toInt) ∧ (r.toInt ≤ u0_9.toInt) ∧ (r, u0_0, u0_1, u0_2, u0_3, u0_4, u0_5, u0_6, u0_7, u0_8, u0_9, u0_10, u5_0) = (F_DR_written x2 x3 t0_0 t0_1 t0_2 t0_3 t0_4 t0_5 t0_6 t0_7 t0_8 t0_9 t0_10 t1_0 t2_0 t3_0 t4_0 t5_0)) := by
  intro sz
  refine q_into (by decide) (Nat.le_of_ble_eq_true rfl) ?_
  intro p e s m below meth c ls hsz C0 V hl
  have hx := C0.1
  have hb := C0.2.1
  obtain ⟨btt0_1, hZ9⟩ := n_w134 hI hT0
  obtain ⟨btt0_4, hZ9⟩ := hZ9
  obtain ⟨btt0_5, btt0_9⟩ := hZ9
  replace btt0_1 : q_F (0 ≤ t0_1.toInt ∧ t0_1.toInt ≤ 4100) := btt0_1
  replace btt0_4 : q_F (0 ≤ t0_4.toInt ∧ t0_4.toInt ≤ 1) := btt0_4
  replace btt0_5 : q_F (0 ≤ t0_5.toInt ∧ t0_5.toInt ≤ 1) := btt0_5
  replace btt0_9 : q_F (0 ≤ t0_9.toInt ∧ t0_9.toInt ≤ 12200) := btt0_9
  have hF : q_un ws ws [134, 144] := q_u0
  have hl : lv_has ls 7 [(0, .ref (q 134)), (1, .int x2), (2, .int x3)] := hl
  refine lv_aload_n hx hb d_15_53_0 rfl (lv_at hl 0 rfl) ?_
  refine lv_iload_n hx hb d_15_53_1 rfl (lv_at hl 1 rfl) ?_
  refine q_goi V (q_runS (As := [.int x2]) (rest := [.ref (q 134)]) (d := 1) (mc := 0) (ms := 0) C0 V rfl LS_DR_113 (X_DR_no l D g q ws  x2 hI   _) rfl hl.1 rfl (Nat.le_of_ble_eq_true rfl) ⟨by decide, by decide⟩ ⟨Nat.le_of_ble_eq_true rfl, Nat.le_of_ble_eq_true rfl⟩ d_15_53_2) (fun a34 u32 H locs hp33 V => ?_)
  obtain ⟨rfl, b35, b36, hE37⟩ := hp33
  have e38 : a34 = (F_DR_no x2) := hE37
  clear b35
  clear b36
  refine q_join (X := Int32) (fun z H locs ls _ => q_F (0 ≤ z.toInt) ∧ q_F (z.toInt ≤ 1) ∧ q_Wd D g (va_A ws sz) s ws H locs ∧ lv_has ls 7 [(0, .ref (q 134)), (1, .int x2), (2, .int x3)] ∧ F_DR_written_J22 x2 x3 t0_0 t0_1 t0_2 t0_3 t0_4 t0_5 t0_6 t0_7 t0_8 t0_9 t0_10 t1_0 t2_0 t3_0 t4_0 t5_0 z = (F_DR_written x2 x3 t0_0 t0_1 t0_2 t0_3 t0_4 t0_5 t0_6 t0_7 t0_8 t0_9 t0_10 t1_0 t2_0 t3_0 t4_0 t5_0) ∧ True ∧ S_DR_written_J22 x2 x3 t0_0 t0_1 t0_2 t0_3 t0_4 t0_5 t0_6 t0_7 t0_8 t0_9 t0_10 t1_0 t2_0 t3_0 t4_0 t5_0 z) (fun z => [.int z, .ref (q 134)]) 22 0 0 ?_ ?_
  ·
    rintro lx39 H locs ls _ hZ9
    replace hZ9 := hZ9.2.2
    obtain ⟨V, hZ9⟩ := hZ9
    obtain ⟨hl, hZ9⟩ := hZ9
    obtain ⟨hR49, hS50⟩ := hZ9
    replace hl : lv_has ls 7 [(0, .ref (q 134)), (1, .int x2), (2, .int x3)] := hl
    refine q_put (ci := 14) (j := 0) (v := .int lx39) (ty := .int) C0 V i_DR o_DR n_DR rfl rfl hT0 (by decide) w_1996 rfl rfl rfl rfl (Nat.le_of_ble_eq_true rfl) d_15_53_22 (fun H locs w54 hu55 hT0 V => ?_)
    replace hT0 : w54[134]? = (some (q 134, .inr (14, [.int lx39, .ref (q 135), .int t0_1, .ref (q 136), .ref (q 137), .ref (q 138), .ref (q 139), .ref (q 140), .int t0_2, .long t0_3, .int t0_4, .int t0_5, .ref (q 141), .int t0_6, .ref (q 142), .int t0_7, .ref (q 143), .int t0_8, .ref (q 144), .int t0_9, .int t0_10])) : Option (Nat × va_E)) := hT0
    replace hI := n_p134 hI hu55 hT0 (by first | with_reducible exact q_fe btt0_1 | exact ⟨(by have t1 : 0 ≤ t0_1.toInt ∧ t0_1.toInt ≤ 4100 := btt0_1; omega), (by have t1 : 0 ≤ t0_1.toInt ∧ t0_1.toInt ≤ 4100 := btt0_1; omega)⟩) (by first | with_reducible exact q_fe btt0_4 | exact ⟨(by have t1 : 0 ≤ t0_4.toInt ∧ t0_4.toInt ≤ 1 := btt0_4; omega), (by have t1 : 0 ≤ t0_4.toInt ∧ t0_4.toInt ≤ 1 := btt0_4; omega)⟩) (by first | with_reducible exact q_fe btt0_5 | exact ⟨(by have t1 : 0 ≤ t0_5.toInt ∧ t0_5.toInt ≤ 1 := btt0_5; omega), (by have t1 : 0 ≤ t0_5.toInt ∧ t0_5.toInt ≤ 1 := btt0_5; omega)⟩) (by first | with_reducible exact q_fe btt0_9 | exact ⟨(by have t1 : 0 ≤ t0_9.toInt ∧ t0_9.toInt ≤ 12200 := btt0_9; omega), (by have t1 : 0 ≤ t0_9.toInt ∧ t0_9.toInt ≤ 12200 := btt0_9; omega)⟩)
    replace hT1 := (hu55 _ (by decide)).trans hT1
    replace hT2 := (hu55 _ (by decide)).trans hT2
    replace hT3 := (hu55 _ (by decide)).trans hT3
    replace hT4 := (hu55 _ (by decide)).trans hT4
    replace hT5 := (hu55 _ (by decide)).trans hT5
    replace hF := q_us hF hu55 (by simp)
    refine lv_aload_n hx hb d_15_53_25 rfl (lv_at hl 0 rfl) ?_
    refine q_get (ci := 14) (j := 0) (v := .int lx39) C0 V i_DR rfl rfl hT0 (by decide) w_1996 rfl d_15_53_26 ?_
    refine lv_if_le (tgt := 34) hx hb d_15_53_29 (by decide) (fun c56 => ?_) (fun c56 => ?_)
    ·
      refine lv_aload_n hx hb d_15_53_34 rfl (lv_at hl 0 rfl) ?_
      refine lv_iconst (v := 0) hx hb d_15_53_35 (by decide) ?_
      refine q_put (ci := 14) (j := 19) (v := .int 0) (ty := .int) C0 V i_DR o_DR n_DR rfl rfl hT0 (by decide) w_2023 rfl rfl rfl rfl (Nat.le_of_ble_eq_true rfl) d_15_53_36 (fun H locs w58 hu59 hT0 V => ?_)
      replace hT0 : w58[134]? = (some (q 134, .inr (14, [.int lx39, .ref (q 135), .int t0_1, .ref (q 136), .ref (q 137), .ref (q 138), .ref (q 139), .ref (q 140), .int t0_2, .long t0_3, .int t0_4, .int t0_5, .ref (q 141), .int t0_6, .ref (q 142), .int t0_7, .ref (q 143), .int t0_8, .ref (q 144), .int 0, .int t0_10])) : Option (Nat × va_E)) := hT0
      replace hI := n_p134 hI hu59 hT0 (by first | with_reducible exact q_fe btt0_1 | exact ⟨(by have t1 : 0 ≤ t0_1.toInt ∧ t0_1.toInt ≤ 4100 := btt0_1; omega), (by have t1 : 0 ≤ t0_1.toInt ∧ t0_1.toInt ≤ 4100 := btt0_1; omega)⟩) (by first | with_reducible exact q_fe btt0_4 | exact ⟨(by have t1 : 0 ≤ t0_4.toInt ∧ t0_4.toInt ≤ 1 := btt0_4; omega), (by have t1 : 0 ≤ t0_4.toInt ∧ t0_4.toInt ≤ 1 := btt0_4; omega)⟩) (by first | with_reducible exact q_fe btt0_5 | exact ⟨(by have t1 : 0 ≤ t0_5.toInt ∧ t0_5.toInt ≤ 1 := btt0_5; omega), (by have t1 : 0 ≤ t0_5.toInt ∧ t0_5.toInt ≤ 1 := btt0_5; omega)⟩) ⟨(by have z9 : (0 : Int32).toInt = 0 := rfl; omega), (by have z9 : (0 : Int32).toInt = 0 := rfl; omega)⟩
      replace hT1 := (hu59 _ (by decide)).trans hT1
      replace hT2 := (hu59 _ (by decide)).trans hT2
      replace hT3 := (hu59 _ (by decide)).trans hT3
      replace hT4 := (hu59 _ (by decide)).trans hT4
      replace hT5 := (hu59 _ (by decide)).trans hT5
      replace hF := q_us hF hu59 (by simp)
      refine lv_aload_n hx hb d_15_53_39 rfl (lv_at hl 0 rfl) ?_
      refine q_get (ci := 14) (j := 5) (v := .ref (q 138)) C0 V i_DR rfl rfl hT0 (by decide) w_2006 rfl d_15_53_40 ?_
      refine lv_iload_n hx hb d_15_53_43 rfl (lv_at hl 1 rfl) ?_
      have ob60 : q_F (0 ≤ x2.toInt) := (by have h := hS50; rw [S_DR_written_J22.eq_1] at h; rw [if_pos c56] at h; exact h.2.1)
      have ob61 : q_F (x2.toInt ≤ 9) := (by have h := hS50; rw [S_DR_written_J22.eq_1] at h; rw [if_pos c56] at h; replace h := q_s2 h; exact h.2.1)
      refine q_zald C0 V hT3 (q_ix (x := x2.toInt) rfl (by first | with_reducible exact q_fe ob60 | (have t1 : 0 ≤ x2.toInt := ob60; omega)) (by have t1 : 0 ≤ x2.toInt := ob60; have t2 : x2.toInt ≤ 9 := ob61; omega)) d_15_53_44 ?_
      obtain ⟨a62, e63⟩ := q_nm (t3_0 x2.toNatClampNeg : Int32)
      refine q_ti (v := a62) e63 ?_
      refine q_join (X := Int32 × Int32 × Int32 × Int64 × Int32 × Int32 × Int32 × Int32 × Int32 × Int32 × Int32 × (Nat → Int32)) (fun z H locs ls w105 => q_F (0 ≤ z.2.2.2.2.2.2.2.2.2.1.toInt) ∧ q_F (z.2.2.2.2.2.2.2.2.2.1.toInt ≤ 1) ∧ q_F (lx39.toInt ≤ z.1.toInt) ∧ q_F (z.1.toInt ≤ lx39.toInt) ∧ q_F (t0_1.toInt ≤ z.2.1.toInt) ∧ q_F (z.2.1.toInt ≤ t0_1.toInt) ∧ q_F (t0_2.toInt ≤ z.2.2.1.toInt) ∧ q_F (z.2.2.1.toInt ≤ t0_2.toInt) ∧ q_F (t0_3.toInt ≤ z.2.2.2.1.toInt) ∧ q_F (z.2.2.2.1.toInt ≤ t0_3.toInt) ∧ q_F (t0_4.toInt ≤ z.2.2.2.2.1.toInt) ∧ q_F (z.2.2.2.2.1.toInt ≤ t0_4.toInt) ∧ q_F (t0_5.toInt ≤ z.2.2.2.2.2.1.toInt) ∧ q_F (z.2.2.2.2.2.1.toInt ≤ t0_5.toInt) ∧ q_F (t0_6.toInt ≤ z.2.2.2.2.2.2.1.toInt) ∧ q_F (z.2.2.2.2.2.2.1.toInt ≤ t0_6.toInt) ∧ q_F (t0_7.toInt ≤ z.2.2.2.2.2.2.2.1.toInt) ∧ q_F (z.2.2.2.2.2.2.2.1.toInt ≤ t0_7.toInt) ∧ q_F (t0_8.toInt ≤ z.2.2.2.2.2.2.2.2.1.toInt) ∧ q_F (z.2.2.2.2.2.2.2.2.1.toInt ≤ t0_8.toInt) ∧ q_F (t0_10.toInt ≤ z.2.2.2.2.2.2.2.2.2.2.1.toInt) ∧ q_F (z.2.2.2.2.2.2.2.2.2.2.1.toInt ≤ t0_10.toInt) ∧ q_Wd D g (va_A ws sz) s w105 H locs ∧ lv_has ls 7 [(0, .ref (q 134)), (1, .int x2), (2, .int x3)] ∧ q_I (msh g q) q w105 ∧ q_un ws w105 [134, 144] ∧ w105[134]? = (some (q 134, .inr (14, [.int z.1, .ref (q 135), .int z.2.1, .ref (q 136), .ref (q 137), .ref (q 138), .ref (q 139), .ref (q 140), .int z.2.2.1, .long z.2.2.2.1, .int z.2.2.2.2.1, .int z.2.2.2.2.2.1, .ref (q 141), .int z.2.2.2.2.2.2.1, .ref (q 142), .int z.2.2.2.2.2.2.2.1, .ref (q 143), .int z.2.2.2.2.2.2.2.2.1, .ref (q 144), .int z.2.2.2.2.2.2.2.2.2.1, .int z.2.2.2.2.2.2.2.2.2.2.1])) : Option (Nat × va_E)) ∧ w105[136]? = (some (q 136, .inl (g 0, (10000 : Int32).toNatClampNeg, .inl t1_0)) : Option (Nat × va_E)) ∧ w105[137]? = (some (q 137, .inl (g 0, (10 : Int32).toNatClampNeg, .inl t2_0)) : Option (Nat × va_E)) ∧ w105[138]? = (some (q 138, .inl (g 3, 10, .inl t3_0)) : Option (Nat × va_E)) ∧ w105[139]? = (some (q 139, .inl (g 0, (10 : Int32).toNatClampNeg, .inl t4_0)) : Option (Nat × va_E)) ∧ w105[144]? = (some (q 144, .inl (g 0, (12200 : Int32).toNatClampNeg, .inl z.2.2.2.2.2.2.2.2.2.2.2)) : Option (Nat × va_E)) ∧ F_DR_written_J54 x2 x3 t0_0 t0_1 t0_2 t0_3 t0_4 t0_5 t0_6 t0_7 t0_8 t0_9 t0_10 t1_0 t2_0 t3_0 t4_0 t5_0 lx39 z.1 z.2.1 z.2.2.1 z.2.2.2.1 z.2.2.2.2.1 z.2.2.2.2.2.1 z.2.2.2.2.2.2.1 z.2.2.2.2.2.2.2.1 z.2.2.2.2.2.2.2.2.1 z.2.2.2.2.2.2.2.2.2.1 z.2.2.2.2.2.2.2.2.2.2.1 z.2.2.2.2.2.2.2.2.2.2.2 = (F_DR_written x2 x3 t0_0 t0_1 t0_2 t0_3 t0_4 t0_5 t0_6 t0_7 t0_8 t0_9 t0_10 t1_0 t2_0 t3_0 t4_0 t5_0) ∧ True ∧ S_DR_written_J54 x2 x3 t0_0 t0_1 t0_2 t0_3 t0_4 t0_5 t0_6 t0_7 t0_8 t0_9 t0_10 t1_0 t2_0 t3_0 t4_0 t5_0 lx39 z.1 z.2.1 z.2.2.1 z.2.2.2.1 z.2.2.2.2.1 z.2.2.2.2.2.1 z.2.2.2.2.2.2.1 z.2.2.2.2.2.2.2.1 z.2.2.2.2.2.2.2.2.1 z.2.2.2.2.2.2.2.2.2.1 z.2.2.2.2.2.2.2.2.2.2.1 z.2.2.2.2.2.2.2.2.2.2.2) (fun z => []) 54 0 0 ?_ ?_
      ·
        rintro ⟨lx64, lx65, lx66, lx67, lx68, lx69, lx70, lx71, lx72, lx73, lx74, lx75⟩ H locs ls w105 ⟨i83, i84, i85, i86, i87, i88, i89, i90, i91, i92, i93, i94, i95, i96, i97, i98, i99, i100, i101, i102, i103, i104, V, hl, hI, hF, hO76, hA77, hA78, hA79, hA80, hA81, hR106, hS107⟩
        replace i83 : q_F (0 ≤ lx73.toInt) := i83
        clear i84
        clear i85
        clear i86
        replace i87 : q_F (t0_1.toInt ≤ lx65.toInt) := i87
        replace i88 : q_F (lx65.toInt ≤ t0_1.toInt) := i88
        replace i89 : q_F (t0_2.toInt ≤ lx66.toInt) := i89
        replace i90 : q_F (lx66.toInt ≤ t0_2.toInt) := i90
        replace i91 : q_F (t0_3.toInt ≤ lx67.toInt) := i91
        replace i92 : q_F (lx67.toInt ≤ t0_3.toInt) := i92
        replace i93 : q_F (t0_4.toInt ≤ lx68.toInt) := i93
        replace i94 : q_F (lx68.toInt ≤ t0_4.toInt) := i94
        replace i95 : q_F (t0_5.toInt ≤ lx69.toInt) := i95
        replace i96 : q_F (lx69.toInt ≤ t0_5.toInt) := i96
        replace i97 : q_F (t0_6.toInt ≤ lx70.toInt) := i97
        replace i98 : q_F (lx70.toInt ≤ t0_6.toInt) := i98
        replace i99 : q_F (t0_7.toInt ≤ lx71.toInt) := i99
        replace i100 : q_F (lx71.toInt ≤ t0_7.toInt) := i100
        replace i101 : q_F (t0_8.toInt ≤ lx72.toInt) := i101
        replace i102 : q_F (lx72.toInt ≤ t0_8.toInt) := i102
        replace i103 : q_F (t0_10.toInt ≤ lx74.toInt) := i103
        replace i104 : q_F (lx74.toInt ≤ t0_10.toInt) := i104
        replace hl : lv_has ls 7 [(0, .ref (q 134)), (1, .int x2), (2, .int x3)] := hl
        replace hO76 : w105[134]? = (some (q 134, .inr (14, [.int lx64, .ref (q 135), .int lx65, .ref (q 136), .ref (q 137), .ref (q 138), .ref (q 139), .ref (q 140), .int lx66, .long lx67, .int lx68, .int lx69, .ref (q 141), .int lx70, .ref (q 142), .int lx71, .ref (q 143), .int lx72, .ref (q 144), .int lx73, .int lx74])) : Option (Nat × va_E)) := hO76
        replace hA77 : w105[136]? = (some (q 136, .inl (g 0, (10000 : Int32).toNatClampNeg, .inl t1_0)) : Option (Nat × va_E)) := hA77
        replace hA78 : w105[137]? = (some (q 137, .inl (g 0, (10 : Int32).toNatClampNeg, .inl t2_0)) : Option (Nat × va_E)) := hA78
        replace hA80 : w105[139]? = (some (q 139, .inl (g 0, (10 : Int32).toNatClampNeg, .inl t4_0)) : Option (Nat × va_E)) := hA80
        replace hA81 : w105[144]? = (some (q 144, .inl (g 0, (12200 : Int32).toNatClampNeg, .inl lx75)) : Option (Nat × va_E)) := hA81
        refine lv_aload_n hx hb d_15_53_54 rfl (lv_at hl 0 rfl) ?_
        refine q_get (ci := 14) (j := 4) (v := .ref (q 137)) C0 V i_DR rfl rfl hO76 (by decide) w_2004 rfl d_15_53_55 ?_
        refine lv_iload_n hx hb d_15_53_58 rfl (lv_at hl 1 rfl) ?_
        refine q_iald C0 V hA78 (q_ix (x := x2.toInt) rfl (by first | with_reducible exact q_fe ob60 | (have t1 : 0 ≤ x2.toInt := ob60; omega)) (by have t1 : 0 ≤ x2.toInt := ob60; have t2 : x2.toInt ≤ 9 := ob61; have e9 : (((10 : Int32).toNatClampNeg : Nat) : Int) = 10 := (by decide); omega)) d_15_53_59 ?_
        obtain ⟨a111, e112⟩ := q_nm (t2_0 x2.toNatClampNeg : Int32)
        refine q_ti (v := a111) e112 ?_
        refine lv_istore_n (lv' := [(3, .int a111), (0, .ref (q 134)), (1, .int x2), (2, .int x3)]) hx hb d_15_53_60 rfl hl (by decide) rfl (fun ls hl => ?_)
        refine lv_aload_n hx hb d_15_53_61 rfl (lv_at hl 1 rfl) ?_
        refine q_get (ci := 14) (j := 6) (v := .ref (q 139)) C0 V i_DR rfl rfl hO76 (by decide) w_2008 rfl d_15_53_62 ?_
        refine lv_iload_n hx hb d_15_53_65 rfl (lv_at hl 2 rfl) ?_
        refine q_iald C0 V hA80 (q_ix (x := x2.toInt) rfl (by first | with_reducible exact q_fe ob60 | (have t1 : 0 ≤ x2.toInt := ob60; omega)) (by have t1 : 0 ≤ x2.toInt := ob60; have t2 : x2.toInt ≤ 9 := ob61; have e9 : (((10 : Int32).toNatClampNeg : Nat) : Int) = 10 := (by decide); omega)) d_15_53_66 ?_
        obtain ⟨a113, e114⟩ := q_nm (t4_0 x2.toNatClampNeg : Int32)
        refine q_ti (v := a113) e114 ?_
        refine lv_istore (lv' := [(4, .int a113), (3, .int a111), (0, .ref (q 134)), (1, .int x2), (2, .int x3)]) hx hb d_15_53_67 hl (by decide) rfl (fun ls hl => ?_)
        refine lv_iload_n hx hb d_15_53_69 rfl (lv_at hl 1 rfl) ?_
        refine lv_iconst (v := 1) hx hb d_15_53_70 (by decide) ?_
        refine lv_isub hx hb d_15_53_71 ?_
        obtain ⟨a115, e116⟩ := q_nm (a111 - 1 : Int32)
        refine q_ti (v := a115) e116 ?_
        refine lv_iload hx hb d_15_53_72 (lv_at hl 0 rfl) ?_
        refine lv_isub hx hb d_15_53_74 ?_
        obtain ⟨a117, e118⟩ := q_nm (a115 - a113 : Int32)
        refine q_ti (v := a117) e118 ?_
        refine lv_istore (lv' := [(5, .int a117), (4, .int a113), (3, .int a111), (0, .ref (q 134)), (1, .int x2), (2, .int x3)]) hx hb d_15_53_75 hl (by decide) rfl (fun ls hl => ?_)
        refine lv_iload_n hx hb d_15_53_77 rfl (lv_at hl 5 rfl) ?_
        refine lv_iconst (v := 1) hx hb d_15_53_78 (by decide) ?_
        refine q_join (X := Unit) (fun z H locs ls _ => q_Wd D g (va_A ws sz) s w105 H locs ∧ lv_has ls 7 [(5, .int a117), (4, .int a113), (3, .int a111), (0, .ref (q 134)), (1, .int x2), (2, .int x3)] ∧ F_DR_written_J113 x2 x3 t0_0 t0_1 t0_2 t0_3 t0_4 t0_5 t0_6 t0_7 t0_8 t0_9 t0_10 t1_0 t2_0 t3_0 t4_0 t5_0 lx39 lx64 lx65 lx66 lx67 lx68 lx69 lx70 lx71 lx72 lx73 lx74 lx75 a117 a113 a111 = (F_DR_written x2 x3 t0_0 t0_1 t0_2 t0_3 t0_4 t0_5 t0_6 t0_7 t0_8 t0_9 t0_10 t1_0 t2_0 t3_0 t4_0 t5_0) ∧ True ∧ S_DR_written_J113 x2 x3 t0_0 t0_1 t0_2 t0_3 t0_4 t0_5 t0_6 t0_7 t0_8 t0_9 t0_10 t1_0 t2_0 t3_0 t4_0 t5_0 lx39 lx64 lx65 lx66 lx67 lx68 lx69 lx70 lx71 lx72 lx73 lx74 lx75 a117 a113 a111) (fun z => []) 113 0 0 ?_ ?_
        ·
          rintro _ H locs ls _ ⟨V, hl, hR126, hS127⟩
          replace hl : lv_has ls 7 [(5, .int a117), (4, .int a113), (3, .int a111), (0, .ref (q 134)), (1, .int x2), (2, .int x3)] := hl
          refine lv_iload hx hb d_15_53_113 (lv_at hl 1 rfl) ?_
          refine q_join (X := Unit) (fun z H locs ls _ => q_Wd D g (va_A ws sz) s w105 H locs ∧ lv_has ls 7 [(5, .int a117), (3, .int a111), (0, .ref (q 134)), (1, .int x2), (2, .int x3)] ∧ F_DR_written_J170 x2 x3 t0_0 t0_1 t0_2 t0_3 t0_4 t0_5 t0_6 t0_7 t0_8 t0_9 t0_10 t1_0 t2_0 t3_0 t4_0 t5_0 lx39 lx64 lx65 lx66 lx67 lx68 lx69 lx70 lx71 lx72 lx73 lx74 lx75 a117 a113 a111 = (F_DR_written x2 x3 t0_0 t0_1 t0_2 t0_3 t0_4 t0_5 t0_6 t0_7 t0_8 t0_9 t0_10 t1_0 t2_0 t3_0 t4_0 t5_0) ∧ True ∧ S_DR_written_J170 x2 x3 t0_0 t0_1 t0_2 t0_3 t0_4 t0_5 t0_6 t0_7 t0_8 t0_9 t0_10 t1_0 t2_0 t3_0 t4_0 t5_0 lx39 lx64 lx65 lx66 lx67 lx68 lx69 lx70 lx71 lx72 lx73 lx74 lx75 a117 a113 a111) (fun z => []) 170 0 0 ?_ ?_
          ·
            rintro _ H locs ls _ ⟨V, hl, hR138, hS139⟩
            replace hl : lv_has ls 7 [(5, .int a117), (3, .int a111), (0, .ref (q 134)), (1, .int x2), (2, .int x3)] := hl
            refine lv_iload_n hx hb d_15_53_170 rfl (lv_at hl 4 rfl) ?_
            refine lv_if_ne (tgt := 191) hx hb d_15_53_171 (by decide) (fun c143 => ?_) (fun c143 => ?_)
            ·
              refine lv_aload_n hx hb d_15_53_191 rfl (lv_at hl 2 rfl) ?_
              refine lv_iload_n hx hb d_15_53_192 rfl (lv_at hl 3 rfl) ?_
              have ob145 : True ∧ S_DR_isZero x2 lx64 lx65 lx66 lx67 lx68 lx69 lx70 lx71 lx72 lx73 lx74 t1_0 := (by have h := hS139; rw [S_DR_written_J170.eq_1] at h; rw [if_neg c143] at h; with_reducible exact h.2.1)
              refine q_goi V (q_runV (As := [.int x2]) (rest := []) (d := 1) (mc := 0) (ms := 0) (ci := 14) C0 V rfl LV_DR_120 (X_DR_isZero l D g q w105  x2 hI lx64 lx65 lx66 lx67 lx68 lx69 lx70 lx71 lx72 lx73 lx74 hO76 t1_0 hA77 ob145 _) rfl rfl hO76 rfl hl.1 rfl (Nat.le_of_ble_eq_true rfl) ⟨by decide, by decide⟩ ⟨Nat.le_of_ble_eq_true rfl, Nat.le_of_ble_eq_true rfl⟩ d_15_53_193) (fun a148 u146 H locs hp147 V => ?_)
              obtain ⟨rfl, b149, b150, hE151⟩ := hp147
              have e152 : a148 = (F_DR_isZero x2 lx64 lx65 lx66 lx67 lx68 lx69 lx70 lx71 lx72 lx73 lx74 t1_0) := hE151
              clear b149
              clear b150
              refine lv_if_eq (tgt := 236) hx hb d_15_53_196 (by decide) (fun c153 => ?_) (fun c153 => ?_)
              ·
                refine lv_iload hx hb d_15_53_236 (lv_at hl 0 rfl) ?_
                refine q_goi V (q_runS (As := [.int a117]) (rest := []) (d := 1) (mc := 0) (ms := 0) C0 V rfl LS_DR_199 (X_DR_down3 l D g q w105  a117 hI   _) rfl hl.1 rfl (Nat.le_of_ble_eq_true rfl) ⟨by decide, by decide⟩ ⟨Nat.le_of_ble_eq_true rfl, Nat.le_of_ble_eq_true rfl⟩ d_15_53_238) (fun a157 u155 H locs hp156 V => ?_)
                obtain ⟨rfl, b158, b159, hE160⟩ := hp156
                have e161 : a157 = (F_DR_down3 a117) := hE160
                clear b158
                clear b159
                refine lv_istore (lv' := [(6, .int a157), (5, .int a117), (3, .int a111), (0, .ref (q 134)), (1, .int x2), (2, .int x3)]) hx hb d_15_53_241 hl (by decide) rfl (fun ls hl => ?_)
                refine lv_aload_n hx hb d_15_53_243 rfl (lv_at hl 3 rfl) ?_
                refine lv_iload_n hx hb d_15_53_244 rfl (lv_at hl 4 rfl) ?_
                refine lv_iconst (v := 0) hx hb d_15_53_245 (by decide) ?_
                refine lv_iload_n hx hb d_15_53_246 rfl (lv_at hl 2 rfl) ?_
                refine lv_iload hx hb d_15_53_247 (lv_at hl 1 rfl) ?_
                refine lv_iload hx hb d_15_53_249 (lv_at hl 0 rfl) ?_
                refine lv_isub hx hb d_15_53_251 ?_
                obtain ⟨a162, e163⟩ := q_nm (a117 - a157 : Int32)
                refine q_ti (v := a162) e163 ?_
                refine lv_iconst (v := 1) hx hb d_15_53_252 (by decide) ?_
                refine lv_iadd hx hb d_15_53_253 ?_
                obtain ⟨a164, e165⟩ := q_nm (a162 + 1 : Int32)
                refine q_ti (v := a164) e165 ?_
                refine q_join (X := Int32) (fun z H locs ls _ => q_Wd D g (va_A ws sz) s w105 H locs ∧ lv_has ls 7 [(6, .int a157), (5, .int a117), (0, .ref (q 134))] ∧ F_DR_written_J268 x2 x3 t0_0 t0_1 t0_2 t0_3 t0_4 t0_5 t0_6 t0_7 t0_8 t0_9 t0_10 t1_0 t2_0 t3_0 t4_0 t5_0 lx39 lx64 lx65 lx66 lx67 lx68 lx69 lx70 lx71 lx72 lx73 lx74 lx75 a117 a113 a111 a157 z = (F_DR_written x2 x3 t0_0 t0_1 t0_2 t0_3 t0_4 t0_5 t0_6 t0_7 t0_8 t0_9 t0_10 t1_0 t2_0 t3_0 t4_0 t5_0) ∧ True ∧ S_DR_written_J268 x2 x3 t0_0 t0_1 t0_2 t0_3 t0_4 t0_5 t0_6 t0_7 t0_8 t0_9 t0_10 t1_0 t2_0 t3_0 t4_0 t5_0 lx39 lx64 lx65 lx66 lx67 lx68 lx69 lx70 lx71 lx72 lx73 lx74 lx75 a117 a113 a111 a157 z) (fun z => [.int z, .int 0, .int x2, .ref (q 134)]) 268 0 0 ?_ ?_
                ·
                  rintro lx166 H locs ls _ ⟨V, hl, hR174, hS175⟩
                  replace hl : lv_has ls 7 [(6, .int a157), (5, .int a117), (0, .ref (q 134))] := hl
                  refine lv_iload hx hb d_15_53_268 (lv_at hl 1 rfl) ?_
                  refine lv_iload hx hb d_15_53_270 (lv_at hl 0 rfl) ?_
                  refine lv_isub hx hb d_15_53_272 ?_
                  obtain ⟨a179, e180⟩ := q_nm (a117 - a157 : Int32)
                  refine q_ti (v := a179) e180 ?_
                  refine lv_iconst (v := 1) hx hb d_15_53_273 (by decide) ?_
                  refine lv_iadd hx hb d_15_53_274 ?_
                  obtain ⟨a181, e182⟩ := q_nm (a179 + 1 : Int32)
                  refine q_ti (v := a181) e182 ?_
                  have ob183 : True ∧ S_DR_figures x2 (0 : Int32) lx166 a181 lx64 lx65 lx66 lx67 lx68 lx69 lx70 lx71 lx72 lx73 lx74 t1_0 t2_0 lx75 := (by rw [← e182, ← e180]; have h := hS175; rw [S_DR_written_J268.eq_1] at h; with_reducible exact h.2.1)
                  refine q_gov V (q_runV (As := [.int x2, .int 0, .int lx166, .int a181]) (rest := []) (d := 2) (mc := 0) (ms := 0) (ci := 14) C0 V rfl LV_DR_192 (X_DR_figures l D g q w105  x2 0 lx166 a181 hI lx64 lx65 lx66 lx67 lx68 lx69 lx70 lx71 lx72 lx73 lx74 hO76 t1_0 hA77 t2_0 hA78 lx75 hA81 ob183 _) rfl rfl hO76 rfl hl.1 rfl (Nat.le_of_ble_eq_true rfl) ⟨by decide, by decide⟩ ⟨Nat.le_of_ble_eq_true rfl, Nat.le_of_ble_eq_true rfl⟩ d_15_53_275) (fun u184 H locs hp185 V => ?_)
                  obtain ⟨hI, hZ9⟩ := hp185
                  obtain ⟨hu223, hZ9⟩ := hZ9
                  obtain ⟨y187, hZ9⟩ := hZ9
                  obtain ⟨y188, hZ9⟩ := hZ9
                  obtain ⟨y189, hZ9⟩ := hZ9
                  obtain ⟨y190, hZ9⟩ := hZ9
                  obtain ⟨y191, hZ9⟩ := hZ9
                  obtain ⟨y192, hZ9⟩ := hZ9
                  obtain ⟨y193, hZ9⟩ := hZ9
                  obtain ⟨y194, hZ9⟩ := hZ9
                  obtain ⟨y195, hZ9⟩ := hZ9
                  obtain ⟨y196, hZ9⟩ := hZ9
                  obtain ⟨y197, hZ9⟩ := hZ9
                  obtain ⟨f198, hZ9⟩ := hZ9
                  obtain ⟨hO186, hZ9⟩ := hZ9
                  obtain ⟨hA199, hZ9⟩ := hZ9
                  obtain ⟨b200, hZ9⟩ := hZ9
                  replace hZ9 := hZ9.2.2
                  obtain ⟨b203, hZ9⟩ := hZ9
                  obtain ⟨b204, hZ9⟩ := hZ9
                  obtain ⟨b205, hZ9⟩ := hZ9
                  obtain ⟨b206, hZ9⟩ := hZ9
                  obtain ⟨b207, hZ9⟩ := hZ9
                  obtain ⟨b208, hZ9⟩ := hZ9
                  obtain ⟨b209, hZ9⟩ := hZ9
                  obtain ⟨b210, hZ9⟩ := hZ9
                  obtain ⟨b211, hZ9⟩ := hZ9
                  obtain ⟨b212, hZ9⟩ := hZ9
                  obtain ⟨b213, hZ9⟩ := hZ9
                  obtain ⟨b214, hZ9⟩ := hZ9
                  obtain ⟨b215, hZ9⟩ := hZ9
                  obtain ⟨b216, hZ9⟩ := hZ9
                  obtain ⟨b217, hZ9⟩ := hZ9
                  obtain ⟨b218, hZ9⟩ := hZ9
                  obtain ⟨b219, hZ9⟩ := hZ9
                  obtain ⟨b220, hZ9⟩ := hZ9
                  obtain ⟨b221, hE222⟩ := hZ9
                  replace hO186 : u184[134]? = (some (q 134, .inr (14, [.int y187, .ref (q 135), .int y188, .ref (q 136), .ref (q 137), .ref (q 138), .ref (q 139), .ref (q 140), .int y189, .long y190, .int y191, .int y192, .ref (q 141), .int y193, .ref (q 142), .int y194, .ref (q 143), .int y195, .ref (q 144), .int y196, .int y197])) : Option (Nat × va_E)) := hO186
                  replace hA199 : u184[144]? = (some (q 144, .inl (g 0, (12200 : Int32).toNatClampNeg, .inl f198)) : Option (Nat × va_E)) := hA199
                  obtain ⟨p224, e225⟩ : ∃ z, z = (F_DR_figures x2 (0 : Int32) lx166 a181 lx64 lx65 lx66 lx67 lx68 lx69 lx70 lx71 lx72 lx73 lx74 t1_0 t2_0 lx75) := ⟨_, rfl⟩
                  have e226 : y187 = p224.1 := congrArg (fun z => z.1) (hE222.trans e225.symm)
                  have e227 : y188 = p224.2.1 := congrArg (fun z => z.2.1) (hE222.trans e225.symm)
                  have e228 : y189 = p224.2.2.1 := congrArg (fun z => z.2.2.1) (hE222.trans e225.symm)
                  have e229 : y190 = p224.2.2.2.1 := congrArg (fun z => z.2.2.2.1) (hE222.trans e225.symm)
                  have e230 : y191 = p224.2.2.2.2.1 := congrArg (fun z => z.2.2.2.2.1) (hE222.trans e225.symm)
                  have e231 : y192 = p224.2.2.2.2.2.1 := congrArg (fun z => z.2.2.2.2.2.1) (hE222.trans e225.symm)
                  have e232 : y193 = p224.2.2.2.2.2.2.1 := congrArg (fun z => z.2.2.2.2.2.2.1) (hE222.trans e225.symm)
                  have e233 : y194 = p224.2.2.2.2.2.2.2.1 := congrArg (fun z => z.2.2.2.2.2.2.2.1) (hE222.trans e225.symm)
                  have e234 : y195 = p224.2.2.2.2.2.2.2.2.1 := congrArg (fun z => z.2.2.2.2.2.2.2.2.1) (hE222.trans e225.symm)
                  have e235 : y196 = p224.2.2.2.2.2.2.2.2.2.1 := congrArg (fun z => z.2.2.2.2.2.2.2.2.2.1) (hE222.trans e225.symm)
                  have e236 : y197 = p224.2.2.2.2.2.2.2.2.2.2.1 := congrArg (fun z => z.2.2.2.2.2.2.2.2.2.2.1) (hE222.trans e225.symm)
                  have e237 : f198 = p224.2.2.2.2.2.2.2.2.2.2.2 := congrArg (fun z => z.2.2.2.2.2.2.2.2.2.2.2) (hE222.trans e225.symm)
                  replace b200 : q_F (y196.toInt ≤ 12200) := b200
                  replace b203 : q_F (lx65.toInt ≤ y188.toInt) := b203
                  replace b204 : q_F (y188.toInt ≤ lx65.toInt) := b204
                  replace b205 : q_F (lx66.toInt ≤ y189.toInt) := b205
                  replace b206 : q_F (y189.toInt ≤ lx66.toInt) := b206
                  replace b207 : q_F (lx67.toInt ≤ y190.toInt) := b207
                  replace b208 : q_F (y190.toInt ≤ lx67.toInt) := b208
                  replace b209 : q_F (lx68.toInt ≤ y191.toInt) := b209
                  replace b210 : q_F (y191.toInt ≤ lx68.toInt) := b210
                  replace b211 : q_F (lx69.toInt ≤ y192.toInt) := b211
                  replace b212 : q_F (y192.toInt ≤ lx69.toInt) := b212
                  replace b213 : q_F (lx70.toInt ≤ y193.toInt) := b213
                  replace b214 : q_F (y193.toInt ≤ lx70.toInt) := b214
                  replace b215 : q_F (lx71.toInt ≤ y194.toInt) := b215
                  replace b216 : q_F (y194.toInt ≤ lx71.toInt) := b216
                  replace b217 : q_F (lx72.toInt ≤ y195.toInt) := b217
                  replace b218 : q_F (y195.toInt ≤ lx72.toInt) := b218
                  replace b219 : q_F (lx73.toInt ≤ y196.toInt) := b219
                  replace b220 : q_F (lx74.toInt ≤ y197.toInt) := b220
                  replace b221 : q_F (y197.toInt ≤ lx74.toInt) := b221
                  replace hF := q_uc hF hu223 (by simp)
                  have hR238 := (show F_DR_written_c275 x2 x3 t0_0 t0_1 t0_2 t0_3 t0_4 t0_5 t0_6 t0_7 t0_8 t0_9 t0_10 t1_0 t2_0 t3_0 t4_0 t5_0 lx39 lx64 lx65 lx66 lx67 lx68 lx69 lx70 lx71 lx72 lx73 lx74 lx75 a117 a113 a111 a157 lx166 p224 = (F_DR_written x2 x3 t0_0 t0_1 t0_2 t0_3 t0_4 t0_5 t0_6 t0_7 t0_8 t0_9 t0_10 t1_0 t2_0 t3_0 t4_0 t5_0) from Eq.trans (by rw [e225, ← e182, ← e180, F_DR_written_J268.eq_1]) hR174)
                  have hS239 := (show True ∧ S_DR_written_c275 x2 x3 t0_0 t0_1 t0_2 t0_3 t0_4 t0_5 t0_6 t0_7 t0_8 t0_9 t0_10 t1_0 t2_0 t3_0 t4_0 t5_0 lx39 lx64 lx65 lx66 lx67 lx68 lx69 lx70 lx71 lx72 lx73 lx74 lx75 a117 a113 a111 a157 lx166 p224 from (by rw [e225, ← e182, ← e180]; have h := hS175; rw [S_DR_written_J268.eq_1] at h; replace h := q_s2 h; with_reducible exact h))
                  refine lv_iload hx hb d_15_53_278 (lv_at hl 0 rfl) ?_
                  refine lv_if_eq (tgt := 289) hx hb d_15_53_280 (by decide) (fun c243 => ?_) (fun c243 => ?_)
                  ·
                    refine lv_aload_n hx hb d_15_53_289 rfl (lv_at hl 2 rfl) ?_
                    refine q_get (ci := 14) (j := 19) (v := .int y196) C0 V i_DR rfl rfl hO186 (by decide) w_2023 rfl d_15_53_290 ?_
                    exact q_reti C0 V (⟨hI, hF, y187, y188, y189, y190, y191, y192, y193, y194, y195, y196, y197, f198, hO186, hA199, (show 0 ≤ y196.toInt from (by have t1 : 0 ≤ lx73.toInt := i83; have t2 : lx73.toInt ≤ y196.toInt := b219; omega)), (show y196.toInt ≤ 12200 from (by first | with_reducible exact q_fe b200 | (have t1 : y196.toInt ≤ 12200 := b200; omega))), (show t0_1.toInt ≤ y188.toInt from (by have t1 : t0_1.toInt ≤ lx65.toInt := i87; have t2 : lx65.toInt ≤ y188.toInt := b203; omega)), (show y188.toInt ≤ t0_1.toInt from (by have t1 : lx65.toInt ≤ t0_1.toInt := i88; have t2 : y188.toInt ≤ lx65.toInt := b204; omega)), (show t0_2.toInt ≤ y189.toInt from (by have t1 : t0_2.toInt ≤ lx66.toInt := i89; have t2 : lx66.toInt ≤ y189.toInt := b205; omega)), (show y189.toInt ≤ t0_2.toInt from (by have t1 : lx66.toInt ≤ t0_2.toInt := i90; have t2 : y189.toInt ≤ lx66.toInt := b206; omega)), (show t0_3.toInt ≤ y190.toInt from (by have t1 : t0_3.toInt ≤ lx67.toInt := i91; have t2 : lx67.toInt ≤ y190.toInt := b207; omega)), (show y190.toInt ≤ t0_3.toInt from (by have t1 : lx67.toInt ≤ t0_3.toInt := i92; have t2 : y190.toInt ≤ lx67.toInt := b208; omega)), (show t0_4.toInt ≤ y191.toInt from (by have t1 : t0_4.toInt ≤ lx68.toInt := i93; have t2 : lx68.toInt ≤ y191.toInt := b209; omega)), (show y191.toInt ≤ t0_4.toInt from (by have t1 : lx68.toInt ≤ t0_4.toInt := i94; have t2 : y191.toInt ≤ lx68.toInt := b210; omega)), (show t0_5.toInt ≤ y192.toInt from (by have t1 : t0_5.toInt ≤ lx69.toInt := i95; have t2 : lx69.toInt ≤ y192.toInt := b211; omega)), (show y192.toInt ≤ t0_5.toInt from (by have t1 : lx69.toInt ≤ t0_5.toInt := i96; have t2 : y192.toInt ≤ lx69.toInt := b212; omega)), (show t0_6.toInt ≤ y193.toInt from (by have t1 : t0_6.toInt ≤ lx70.toInt := i97; have t2 : lx70.toInt ≤ y193.toInt := b213; omega)), (show y193.toInt ≤ t0_6.toInt from (by have t1 : lx70.toInt ≤ t0_6.toInt := i98; have t2 : y193.toInt ≤ lx70.toInt := b214; omega)), (show t0_7.toInt ≤ y194.toInt from (by have t1 : t0_7.toInt ≤ lx71.toInt := i99; have t2 : lx71.toInt ≤ y194.toInt := b215; omega)), (show y194.toInt ≤ t0_7.toInt from (by have t1 : lx71.toInt ≤ t0_7.toInt := i100; have t2 : y194.toInt ≤ lx71.toInt := b216; omega)), (show t0_8.toInt ≤ y195.toInt from (by have t1 : t0_8.toInt ≤ lx72.toInt := i101; have t2 : lx72.toInt ≤ y195.toInt := b217; omega)), (show y195.toInt ≤ t0_8.toInt from (by have t1 : lx72.toInt ≤ t0_8.toInt := i102; have t2 : y195.toInt ≤ lx72.toInt := b218; omega)), (show t0_10.toInt ≤ y197.toInt from (by have t1 : t0_10.toInt ≤ lx74.toInt := i103; have t2 : lx74.toInt ≤ y197.toInt := b220; omega)), (show y197.toInt ≤ t0_10.toInt from (by have t1 : lx74.toInt ≤ t0_10.toInt := i104; have t2 : y197.toInt ≤ lx74.toInt := b221; omega)), (show y196.toInt ≤ y196.toInt from (by omega)), (show (y196, y187, y188, y189, y190, y191, y192, y193, y194, y195, y196, y197, f198) = (F_DR_written x2 x3 t0_0 t0_1 t0_2 t0_3 t0_4 t0_5 t0_6 t0_7 t0_8 t0_9 t0_10 t1_0 t2_0 t3_0 t4_0 t5_0) from Eq.trans (by rw [e237, e236, e235, e234, e233, e232, e231, e230, e229, e228, e227, e226, F_DR_written_c275.eq_1, if_pos c243]) hR238)⟩) d_15_53_293
                  ·
                    refine lv_aload_n hx hb d_15_53_283 rfl (lv_at hl 2 rfl) ?_
                    refine lv_iload hx hb d_15_53_284 (lv_at hl 0 rfl) ?_
                    have ob246 : True ∧ S_DR_exponent a157 y187 y188 y189 y190 y191 y192 y193 y194 y195 y196 y197 f198 := (by rw [e237, e236, e235, e234, e233, e232, e231, e230, e229, e228, e227, e226]; have h := hS239; rw [S_DR_written_c275.eq_1] at h; rw [if_neg c243] at h; with_reducible exact h.2.1)
                    refine q_gov V (q_runV (As := [.int a157]) (rest := []) (d := 2) (mc := 0) (ms := 0) (ci := 14) C0 V rfl LV_DR_196 (X_DR_exponent l D g q u184  a157 hI y187 y188 y189 y190 y191 y192 y193 y194 y195 y196 y197 hO186 f198 hA199 ob246 _) rfl rfl hO186 rfl hl.1 rfl (Nat.le_of_ble_eq_true rfl) ⟨by decide, by decide⟩ ⟨Nat.le_of_ble_eq_true rfl, Nat.le_of_ble_eq_true rfl⟩ d_15_53_286) (fun u247 H locs hp248 V => ?_)
                    obtain ⟨hI, hZ9⟩ := hp248
                    obtain ⟨hu286, hZ9⟩ := hZ9
                    obtain ⟨y250, hZ9⟩ := hZ9
                    obtain ⟨y251, hZ9⟩ := hZ9
                    obtain ⟨y252, hZ9⟩ := hZ9
                    obtain ⟨y253, hZ9⟩ := hZ9
                    obtain ⟨y254, hZ9⟩ := hZ9
                    obtain ⟨y255, hZ9⟩ := hZ9
                    obtain ⟨y256, hZ9⟩ := hZ9
                    obtain ⟨y257, hZ9⟩ := hZ9
                    obtain ⟨y258, hZ9⟩ := hZ9
                    obtain ⟨y259, hZ9⟩ := hZ9
                    obtain ⟨y260, hZ9⟩ := hZ9
                    obtain ⟨f261, hZ9⟩ := hZ9
                    obtain ⟨hO249, hZ9⟩ := hZ9
                    obtain ⟨hA262, hZ9⟩ := hZ9
                    obtain ⟨b263, hZ9⟩ := hZ9
                    replace hZ9 := hZ9.2.2
                    obtain ⟨b266, hZ9⟩ := hZ9
                    obtain ⟨b267, hZ9⟩ := hZ9
                    obtain ⟨b268, hZ9⟩ := hZ9
                    obtain ⟨b269, hZ9⟩ := hZ9
                    obtain ⟨b270, hZ9⟩ := hZ9
                    obtain ⟨b271, hZ9⟩ := hZ9
                    obtain ⟨b272, hZ9⟩ := hZ9
                    obtain ⟨b273, hZ9⟩ := hZ9
                    obtain ⟨b274, hZ9⟩ := hZ9
                    obtain ⟨b275, hZ9⟩ := hZ9
                    obtain ⟨b276, hZ9⟩ := hZ9
                    obtain ⟨b277, hZ9⟩ := hZ9
                    obtain ⟨b278, hZ9⟩ := hZ9
                    obtain ⟨b279, hZ9⟩ := hZ9
                    obtain ⟨b280, hZ9⟩ := hZ9
                    obtain ⟨b281, hZ9⟩ := hZ9
                    obtain ⟨b282, hZ9⟩ := hZ9
                    obtain ⟨b283, hZ9⟩ := hZ9
                    obtain ⟨b284, hE285⟩ := hZ9
                    replace hO249 : u247[134]? = (some (q 134, .inr (14, [.int y250, .ref (q 135), .int y251, .ref (q 136), .ref (q 137), .ref (q 138), .ref (q 139), .ref (q 140), .int y252, .long y253, .int y254, .int y255, .ref (q 141), .int y256, .ref (q 142), .int y257, .ref (q 143), .int y258, .ref (q 144), .int y259, .int y260])) : Option (Nat × va_E)) := hO249
                    replace hA262 : u247[144]? = (some (q 144, .inl (g 0, (12200 : Int32).toNatClampNeg, .inl f261)) : Option (Nat × va_E)) := hA262
                    obtain ⟨p287, e288⟩ : ∃ z, z = (F_DR_exponent a157 y187 y188 y189 y190 y191 y192 y193 y194 y195 y196 y197 f198) := ⟨_, rfl⟩
                    have e289 : y250 = p287.1 := congrArg (fun z => z.1) (hE285.trans e288.symm)
                    have e290 : y251 = p287.2.1 := congrArg (fun z => z.2.1) (hE285.trans e288.symm)
                    have e291 : y252 = p287.2.2.1 := congrArg (fun z => z.2.2.1) (hE285.trans e288.symm)
                    have e292 : y253 = p287.2.2.2.1 := congrArg (fun z => z.2.2.2.1) (hE285.trans e288.symm)
                    have e293 : y254 = p287.2.2.2.2.1 := congrArg (fun z => z.2.2.2.2.1) (hE285.trans e288.symm)
                    have e294 : y255 = p287.2.2.2.2.2.1 := congrArg (fun z => z.2.2.2.2.2.1) (hE285.trans e288.symm)
                    have e295 : y256 = p287.2.2.2.2.2.2.1 := congrArg (fun z => z.2.2.2.2.2.2.1) (hE285.trans e288.symm)
                    have e296 : y257 = p287.2.2.2.2.2.2.2.1 := congrArg (fun z => z.2.2.2.2.2.2.2.1) (hE285.trans e288.symm)
                    have e297 : y258 = p287.2.2.2.2.2.2.2.2.1 := congrArg (fun z => z.2.2.2.2.2.2.2.2.1) (hE285.trans e288.symm)
                    have e298 : y259 = p287.2.2.2.2.2.2.2.2.2.1 := congrArg (fun z => z.2.2.2.2.2.2.2.2.2.1) (hE285.trans e288.symm)
                    have e299 : y260 = p287.2.2.2.2.2.2.2.2.2.2.1 := congrArg (fun z => z.2.2.2.2.2.2.2.2.2.2.1) (hE285.trans e288.symm)
                    have e300 : f261 = p287.2.2.2.2.2.2.2.2.2.2.2 := congrArg (fun z => z.2.2.2.2.2.2.2.2.2.2.2) (hE285.trans e288.symm)
                    replace b263 : q_F (y259.toInt ≤ 12200) := b263
                    replace b266 : q_F (y188.toInt ≤ y251.toInt) := b266
                    replace b267 : q_F (y251.toInt ≤ y188.toInt) := b267
                    replace b268 : q_F (y189.toInt ≤ y252.toInt) := b268
                    replace b269 : q_F (y252.toInt ≤ y189.toInt) := b269
                    replace b270 : q_F (y190.toInt ≤ y253.toInt) := b270
                    replace b271 : q_F (y253.toInt ≤ y190.toInt) := b271
                    replace b272 : q_F (y191.toInt ≤ y254.toInt) := b272
                    replace b273 : q_F (y254.toInt ≤ y191.toInt) := b273
                    replace b274 : q_F (y192.toInt ≤ y255.toInt) := b274
                    replace b275 : q_F (y255.toInt ≤ y192.toInt) := b275
                    replace b276 : q_F (y193.toInt ≤ y256.toInt) := b276
                    replace b277 : q_F (y256.toInt ≤ y193.toInt) := b277
                    replace b278 : q_F (y194.toInt ≤ y257.toInt) := b278
                    replace b279 : q_F (y257.toInt ≤ y194.toInt) := b279
                    replace b280 : q_F (y195.toInt ≤ y258.toInt) := b280
                    replace b281 : q_F (y258.toInt ≤ y195.toInt) := b281
                    replace b282 : q_F (y196.toInt + 2 ≤ y259.toInt) := b282
                    replace b283 : q_F (y197.toInt ≤ y260.toInt) := b283
                    replace b284 : q_F (y260.toInt ≤ y197.toInt) := b284
                    replace hF := q_uc hF hu286 (by simp)
                    have hR301 := (show F_DR_written_c286 x2 x3 t0_0 t0_1 t0_2 t0_3 t0_4 t0_5 t0_6 t0_7 t0_8 t0_9 t0_10 t1_0 t2_0 t3_0 t4_0 t5_0 lx39 lx64 lx65 lx66 lx67 lx68 lx69 lx70 lx71 lx72 lx73 lx74 lx75 a117 a113 a111 a157 lx166 p224 p287 = (F_DR_written x2 x3 t0_0 t0_1 t0_2 t0_3 t0_4 t0_5 t0_6 t0_7 t0_8 t0_9 t0_10 t1_0 t2_0 t3_0 t4_0 t5_0) from Eq.trans (by rw [e288, e237, e236, e235, e234, e233, e232, e231, e230, e229, e228, e227, e226, F_DR_written_c275.eq_1, if_neg c243]) hR238)
                    have hS302 := (show True ∧ S_DR_written_c286 x2 x3 t0_0 t0_1 t0_2 t0_3 t0_4 t0_5 t0_6 t0_7 t0_8 t0_9 t0_10 t1_0 t2_0 t3_0 t4_0 t5_0 lx39 lx64 lx65 lx66 lx67 lx68 lx69 lx70 lx71 lx72 lx73 lx74 lx75 a117 a113 a111 a157 lx166 p224 p287 from (by rw [e288, e237, e236, e235, e234, e233, e232, e231, e230, e229, e228, e227, e226]; have h := hS239; rw [S_DR_written_c275.eq_1] at h; rw [if_neg c243] at h; replace h := q_s2 h; with_reducible exact h))
                    refine lv_aload_n hx hb d_15_53_289 rfl (lv_at hl 2 rfl) ?_
                    refine q_get (ci := 14) (j := 19) (v := .int y259) C0 V i_DR rfl rfl hO249 (by decide) w_2023 rfl d_15_53_290 ?_
                    exact q_reti C0 V (⟨hI, hF, y250, y251, y252, y253, y254, y255, y256, y257, y258, y259, y260, f261, hO249, hA262, (show 0 ≤ y259.toInt from (by have t1 : 0 ≤ lx73.toInt := i83; have t2 : lx73.toInt ≤ y196.toInt := b219; have t3 : y196.toInt + 2 ≤ y259.toInt := b282; omega)), (show y259.toInt ≤ 12200 from (by first | with_reducible exact q_fe b263 | (have t1 : y259.toInt ≤ 12200 := b263; omega))), (show t0_1.toInt ≤ y251.toInt from (by have t1 : t0_1.toInt ≤ lx65.toInt := i87; have t2 : lx65.toInt ≤ y188.toInt := b203; have t3 : y188.toInt ≤ y251.toInt := b266; omega)), (show y251.toInt ≤ t0_1.toInt from (by have t1 : lx65.toInt ≤ t0_1.toInt := i88; have t2 : y188.toInt ≤ lx65.toInt := b204; have t3 : y251.toInt ≤ y188.toInt := b267; omega)), (show t0_2.toInt ≤ y252.toInt from (by have t1 : t0_2.toInt ≤ lx66.toInt := i89; have t2 : lx66.toInt ≤ y189.toInt := b205; have t3 : y189.toInt ≤ y252.toInt := b268; omega)), (show y252.toInt ≤ t0_2.toInt from (by have t1 : lx66.toInt ≤ t0_2.toInt := i90; have t2 : y189.toInt ≤ lx66.toInt := b206; have t3 : y252.toInt ≤ y189.toInt := b269; omega)), (show t0_3.toInt ≤ y253.toInt from (by have t1 : t0_3.toInt ≤ lx67.toInt := i91; have t2 : lx67.toInt ≤ y190.toInt := b207; have t3 : y190.toInt ≤ y253.toInt := b270; omega)), (show y253.toInt ≤ t0_3.toInt from (by have t1 : lx67.toInt ≤ t0_3.toInt := i92; have t2 : y190.toInt ≤ lx67.toInt := b208; have t3 : y253.toInt ≤ y190.toInt := b271; omega)), (show t0_4.toInt ≤ y254.toInt from (by have t1 : t0_4.toInt ≤ lx68.toInt := i93; have t2 : lx68.toInt ≤ y191.toInt := b209; have t3 : y191.toInt ≤ y254.toInt := b272; omega)), (show y254.toInt ≤ t0_4.toInt from (by have t1 : lx68.toInt ≤ t0_4.toInt := i94; have t2 : y191.toInt ≤ lx68.toInt := b210; have t3 : y254.toInt ≤ y191.toInt := b273; omega)), (show t0_5.toInt ≤ y255.toInt from (by have t1 : t0_5.toInt ≤ lx69.toInt := i95; have t2 : lx69.toInt ≤ y192.toInt := b211; have t3 : y192.toInt ≤ y255.toInt := b274; omega)), (show y255.toInt ≤ t0_5.toInt from (by have t1 : lx69.toInt ≤ t0_5.toInt := i96; have t2 : y192.toInt ≤ lx69.toInt := b212; have t3 : y255.toInt ≤ y192.toInt := b275; omega)), (show t0_6.toInt ≤ y256.toInt from (by have t1 : t0_6.toInt ≤ lx70.toInt := i97; have t2 : lx70.toInt ≤ y193.toInt := b213; have t3 : y193.toInt ≤ y256.toInt := b276; omega)), (show y256.toInt ≤ t0_6.toInt from (by have t1 : lx70.toInt ≤ t0_6.toInt := i98; have t2 : y193.toInt ≤ lx70.toInt := b214; have t3 : y256.toInt ≤ y193.toInt := b277; omega)), (show t0_7.toInt ≤ y257.toInt from (by have t1 : t0_7.toInt ≤ lx71.toInt := i99; have t2 : lx71.toInt ≤ y194.toInt := b215; have t3 : y194.toInt ≤ y257.toInt := b278; omega)), (show y257.toInt ≤ t0_7.toInt from (by have t1 : lx71.toInt ≤ t0_7.toInt := i100; have t2 : y194.toInt ≤ lx71.toInt := b216; have t3 : y257.toInt ≤ y194.toInt := b279; omega)), (show t0_8.toInt ≤ y258.toInt from (by have t1 : t0_8.toInt ≤ lx72.toInt := i101; have t2 : lx72.toInt ≤ y195.toInt := b217; have t3 : y195.toInt ≤ y258.toInt := b280; omega)), (show y258.toInt ≤ t0_8.toInt from (by have t1 : lx72.toInt ≤ t0_8.toInt := i102; have t2 : y195.toInt ≤ lx72.toInt := b218; have t3 : y258.toInt ≤ y195.toInt := b281; omega)), (show t0_10.toInt ≤ y260.toInt from (by have t1 : t0_10.toInt ≤ lx74.toInt := i103; have t2 : lx74.toInt ≤ y197.toInt := b220; have t3 : y197.toInt ≤ y260.toInt := b283; omega)), (show y260.toInt ≤ t0_10.toInt from (by have t1 : lx74.toInt ≤ t0_10.toInt := i104; have t2 : y197.toInt ≤ lx74.toInt := b221; have t3 : y260.toInt ≤ y197.toInt := b284; omega)), (show y259.toInt ≤ y259.toInt from (by omega)), (show (y259, y250, y251, y252, y253, y254, y255, y256, y257, y258, y259, y260, f261) = (F_DR_written x2 x3 t0_0 t0_1 t0_2 t0_3 t0_4 t0_5 t0_6 t0_7 t0_8 t0_9 t0_10 t1_0 t2_0 t3_0 t4_0 t5_0) from Eq.trans (by rw [e300, e299, e298, e297, e296, e295, e294, e293, e292, e291, e290, e289, F_DR_written_c286.eq_1]) hR301)⟩) d_15_53_293
                ·
                  intro J173
                  refine lv_icmp_le (tgt := 261) hx hb d_15_53_254 (by decide) (fun c306 => ?_) (fun c306 => ?_)
                  ·
                    refine lv_iload hx hb d_15_53_261 (lv_at hl 1 rfl) ?_
                    refine lv_iload hx hb d_15_53_263 (lv_at hl 0 rfl) ?_
                    refine lv_isub hx hb d_15_53_265 ?_
                    obtain ⟨a308, e309⟩ := q_nm (a117 - a157 : Int32)
                    refine q_ti (v := a308) e309 ?_
                    refine lv_iconst (v := 1) hx hb d_15_53_266 (by decide) ?_
                    refine lv_iadd hx hb d_15_53_267 ?_
                    obtain ⟨a310, e311⟩ := q_nm (a308 + 1 : Int32)
                    refine q_ti (v := a310) e311 ?_
                    exact J173 ((a310 : Int32)) _ _ _ w105 ⟨V, q_lw hl (q_lw1 0 rfl (q_lw1 1 rfl (q_lw1 3 rfl q_lw0))), (show F_DR_written_J268 x2 x3 t0_0 t0_1 t0_2 t0_3 t0_4 t0_5 t0_6 t0_7 t0_8 t0_9 t0_10 t1_0 t2_0 t3_0 t4_0 t5_0 lx39 lx64 lx65 lx66 lx67 lx68 lx69 lx70 lx71 lx72 lx73 lx74 lx75 a117 a113 a111 a157 a310 = (F_DR_written x2 x3 t0_0 t0_1 t0_2 t0_3 t0_4 t0_5 t0_6 t0_7 t0_8 t0_9 t0_10 t1_0 t2_0 t3_0 t4_0 t5_0) from Eq.trans (by have c153x := c153; rw [e152] at c153x; have c306x := c306; rw [← e165, ← e163, e161] at c306x; rw [← e311, ← e309, e161, F_DR_written_J170.eq_1, if_neg c143, if_pos c153x, if_pos c306x]) hR138), (show True ∧ S_DR_written_J268 x2 x3 t0_0 t0_1 t0_2 t0_3 t0_4 t0_5 t0_6 t0_7 t0_8 t0_9 t0_10 t1_0 t2_0 t3_0 t4_0 t5_0 lx39 lx64 lx65 lx66 lx67 lx68 lx69 lx70 lx71 lx72 lx73 lx74 lx75 a117 a113 a111 a157 a310 from (by rw [← e311, ← e309, e161]; have h := hS139; rw [S_DR_written_J170.eq_1] at h; rw [if_neg c143] at h; replace h := q_s2 h; have c153x := c153; rw [e152] at c153x; rw [if_pos c153x] at h; have c306x := c306; rw [← e165, ← e163, e161] at c306x; rw [if_pos c306x] at h; with_reducible exact h))⟩
                  ·
                    refine lv_iload_n hx hb d_15_53_257 rfl (lv_at hl 2 rfl) ?_
                    refine lv_goto (tgt := 268) hx hb d_15_53_258 (by decide) ?_
                    exact J173 ((a111 : Int32)) _ _ _ w105 ⟨V, q_lw hl (q_lw1 0 rfl (q_lw1 1 rfl (q_lw1 3 rfl q_lw0))), (show F_DR_written_J268 x2 x3 t0_0 t0_1 t0_2 t0_3 t0_4 t0_5 t0_6 t0_7 t0_8 t0_9 t0_10 t1_0 t2_0 t3_0 t4_0 t5_0 lx39 lx64 lx65 lx66 lx67 lx68 lx69 lx70 lx71 lx72 lx73 lx74 lx75 a117 a113 a111 a157 a111 = (F_DR_written x2 x3 t0_0 t0_1 t0_2 t0_3 t0_4 t0_5 t0_6 t0_7 t0_8 t0_9 t0_10 t1_0 t2_0 t3_0 t4_0 t5_0) from Eq.trans (by have c153x := c153; rw [e152] at c153x; have c306x := c306; rw [← e165, ← e163, e161] at c306x; rw [e161, F_DR_written_J170.eq_1, if_neg c143, if_pos c153x, if_neg c306x]) hR138), (show True ∧ S_DR_written_J268 x2 x3 t0_0 t0_1 t0_2 t0_3 t0_4 t0_5 t0_6 t0_7 t0_8 t0_9 t0_10 t1_0 t2_0 t3_0 t4_0 t5_0 lx39 lx64 lx65 lx66 lx67 lx68 lx69 lx70 lx71 lx72 lx73 lx74 lx75 a117 a113 a111 a157 a111 from (by rw [e161]; have h := hS139; rw [S_DR_written_J170.eq_1] at h; rw [if_neg c143] at h; replace h := q_s2 h; have c153x := c153; rw [e152] at c153x; rw [if_pos c153x] at h; have c306x := c306; rw [← e165, ← e163, e161] at c306x; rw [if_neg c306x] at h; with_reducible exact h))⟩
              ·
                refine lv_iload hx hb d_15_53_199 (lv_at hl 0 rfl) ?_
                refine lv_ineg hx hb d_15_53_201 ?_
                obtain ⟨a314, e315⟩ := q_nm (-a117 : Int32)
                refine q_ti (v := a314) e315 ?_
                refine q_goi V (q_runS (As := [.int a314]) (rest := []) (d := 1) (mc := 0) (ms := 0) C0 V rfl LS_DR_199 (X_DR_down3 l D g q w105  a314 hI   _) rfl hl.1 rfl (Nat.le_of_ble_eq_true rfl) ⟨by decide, by decide⟩ ⟨Nat.le_of_ble_eq_true rfl, Nat.le_of_ble_eq_true rfl⟩ d_15_53_202) (fun a318 u316 H locs hp317 V => ?_)
                obtain ⟨rfl, b319, b320, hE321⟩ := hp317
                have e322 : a318 = (F_DR_down3 a314) := hE321
                clear b319
                clear b320
                refine lv_ineg hx hb d_15_53_205 ?_
                obtain ⟨a323, e324⟩ := q_nm (-a318 : Int32)
                refine q_ti (v := a323) e324 ?_
                refine lv_istore (lv' := [(6, .int a323), (5, .int a117), (3, .int a111), (0, .ref (q 134)), (1, .int x2), (2, .int x3)]) hx hb d_15_53_206 hl (by decide) rfl (fun ls hl => ?_)
                refine lv_aload_n hx hb d_15_53_208 rfl (lv_at hl 3 rfl) ?_
                refine lv_iload_n hx hb d_15_53_209 rfl (lv_at hl 4 rfl) ?_
                refine lv_iconst (v := 0) hx hb d_15_53_210 (by decide) ?_
                refine lv_iconst (v := 1) hx hb d_15_53_211 (by decide) ?_
                refine lv_iload hx hb d_15_53_212 (lv_at hl 0 rfl) ?_
                refine lv_iadd hx hb d_15_53_214 ?_
                obtain ⟨a326, e327⟩ := q_nm (1 + a323 : Int32)
                refine q_ti (v := a326) e327 ?_
                refine lv_iload hx hb d_15_53_215 (lv_at hl 1 rfl) ?_
                refine lv_isub hx hb d_15_53_217 ?_
                obtain ⟨a329, e330⟩ := q_nm (a326 - a117 : Int32)
                refine q_ti (v := a329) e330 ?_
                refine lv_iconst (v := 1) hx hb d_15_53_218 (by decide) ?_
                have ob331 : True ∧ S_DR_figures x2 (0 : Int32) a329 (1 : Int32) lx64 lx65 lx66 lx67 lx68 lx69 lx70 lx71 lx72 lx73 lx74 t1_0 t2_0 lx75 := (by rw [← e330, ← e327, ← e324, e322, ← e315]; have h := hS139; rw [S_DR_written_J170.eq_1] at h; rw [if_neg c143] at h; replace h := q_s2 h; have c153x := c153; rw [e152] at c153x; rw [if_neg c153x] at h; with_reducible exact h.2.1)
                refine q_gov V (q_runV (As := [.int x2, .int 0, .int a329, .int 1]) (rest := []) (d := 2) (mc := 0) (ms := 0) (ci := 14) C0 V rfl LV_DR_192 (X_DR_figures l D g q w105  x2 0 a329 1 hI lx64 lx65 lx66 lx67 lx68 lx69 lx70 lx71 lx72 lx73 lx74 hO76 t1_0 hA77 t2_0 hA78 lx75 hA81 ob331 _) rfl rfl hO76 rfl hl.1 rfl (Nat.le_of_ble_eq_true rfl) ⟨by decide, by decide⟩ ⟨Nat.le_of_ble_eq_true rfl, Nat.le_of_ble_eq_true rfl⟩ d_15_53_219) (fun u332 H locs hp333 V => ?_)
                obtain ⟨hI, hZ9⟩ := hp333
                obtain ⟨hu371, hZ9⟩ := hZ9
                obtain ⟨y335, hZ9⟩ := hZ9
                obtain ⟨y336, hZ9⟩ := hZ9
                obtain ⟨y337, hZ9⟩ := hZ9
                obtain ⟨y338, hZ9⟩ := hZ9
                obtain ⟨y339, hZ9⟩ := hZ9
                obtain ⟨y340, hZ9⟩ := hZ9
                obtain ⟨y341, hZ9⟩ := hZ9
                obtain ⟨y342, hZ9⟩ := hZ9
                obtain ⟨y343, hZ9⟩ := hZ9
                obtain ⟨y344, hZ9⟩ := hZ9
                obtain ⟨y345, hZ9⟩ := hZ9
                obtain ⟨f346, hZ9⟩ := hZ9
                obtain ⟨hO334, hZ9⟩ := hZ9
                obtain ⟨hA347, hZ9⟩ := hZ9
                obtain ⟨b348, hZ9⟩ := hZ9
                replace hZ9 := hZ9.2.2
                obtain ⟨b351, hZ9⟩ := hZ9
                obtain ⟨b352, hZ9⟩ := hZ9
                obtain ⟨b353, hZ9⟩ := hZ9
                obtain ⟨b354, hZ9⟩ := hZ9
                obtain ⟨b355, hZ9⟩ := hZ9
                obtain ⟨b356, hZ9⟩ := hZ9
                obtain ⟨b357, hZ9⟩ := hZ9
                obtain ⟨b358, hZ9⟩ := hZ9
                obtain ⟨b359, hZ9⟩ := hZ9
                obtain ⟨b360, hZ9⟩ := hZ9
                obtain ⟨b361, hZ9⟩ := hZ9
                obtain ⟨b362, hZ9⟩ := hZ9
                obtain ⟨b363, hZ9⟩ := hZ9
                obtain ⟨b364, hZ9⟩ := hZ9
                obtain ⟨b365, hZ9⟩ := hZ9
                obtain ⟨b366, hZ9⟩ := hZ9
                obtain ⟨b367, hZ9⟩ := hZ9
                obtain ⟨b368, hZ9⟩ := hZ9
                obtain ⟨b369, hE370⟩ := hZ9
                replace hO334 : u332[134]? = (some (q 134, .inr (14, [.int y335, .ref (q 135), .int y336, .ref (q 136), .ref (q 137), .ref (q 138), .ref (q 139), .ref (q 140), .int y337, .long y338, .int y339, .int y340, .ref (q 141), .int y341, .ref (q 142), .int y342, .ref (q 143), .int y343, .ref (q 144), .int y344, .int y345])) : Option (Nat × va_E)) := hO334
                replace hA347 : u332[144]? = (some (q 144, .inl (g 0, (12200 : Int32).toNatClampNeg, .inl f346)) : Option (Nat × va_E)) := hA347
                obtain ⟨p372, e373⟩ : ∃ z, z = (F_DR_figures x2 (0 : Int32) a329 (1 : Int32) lx64 lx65 lx66 lx67 lx68 lx69 lx70 lx71 lx72 lx73 lx74 t1_0 t2_0 lx75) := ⟨_, rfl⟩
                have e374 : y335 = p372.1 := congrArg (fun z => z.1) (hE370.trans e373.symm)
                have e375 : y336 = p372.2.1 := congrArg (fun z => z.2.1) (hE370.trans e373.symm)
                have e376 : y337 = p372.2.2.1 := congrArg (fun z => z.2.2.1) (hE370.trans e373.symm)
                have e377 : y338 = p372.2.2.2.1 := congrArg (fun z => z.2.2.2.1) (hE370.trans e373.symm)
                have e378 : y339 = p372.2.2.2.2.1 := congrArg (fun z => z.2.2.2.2.1) (hE370.trans e373.symm)
                have e379 : y340 = p372.2.2.2.2.2.1 := congrArg (fun z => z.2.2.2.2.2.1) (hE370.trans e373.symm)
                have e380 : y341 = p372.2.2.2.2.2.2.1 := congrArg (fun z => z.2.2.2.2.2.2.1) (hE370.trans e373.symm)
                have e381 : y342 = p372.2.2.2.2.2.2.2.1 := congrArg (fun z => z.2.2.2.2.2.2.2.1) (hE370.trans e373.symm)
                have e382 : y343 = p372.2.2.2.2.2.2.2.2.1 := congrArg (fun z => z.2.2.2.2.2.2.2.2.1) (hE370.trans e373.symm)
                have e383 : y344 = p372.2.2.2.2.2.2.2.2.2.1 := congrArg (fun z => z.2.2.2.2.2.2.2.2.2.1) (hE370.trans e373.symm)
                have e384 : y345 = p372.2.2.2.2.2.2.2.2.2.2.1 := congrArg (fun z => z.2.2.2.2.2.2.2.2.2.2.1) (hE370.trans e373.symm)
                have e385 : f346 = p372.2.2.2.2.2.2.2.2.2.2.2 := congrArg (fun z => z.2.2.2.2.2.2.2.2.2.2.2) (hE370.trans e373.symm)
                replace b348 : q_F (y344.toInt ≤ 12200) := b348
                replace b351 : q_F (lx65.toInt ≤ y336.toInt) := b351
                replace b352 : q_F (y336.toInt ≤ lx65.toInt) := b352
                replace b353 : q_F (lx66.toInt ≤ y337.toInt) := b353
                replace b354 : q_F (y337.toInt ≤ lx66.toInt) := b354
                replace b355 : q_F (lx67.toInt ≤ y338.toInt) := b355
                replace b356 : q_F (y338.toInt ≤ lx67.toInt) := b356
                replace b357 : q_F (lx68.toInt ≤ y339.toInt) := b357
                replace b358 : q_F (y339.toInt ≤ lx68.toInt) := b358
                replace b359 : q_F (lx69.toInt ≤ y340.toInt) := b359
                replace b360 : q_F (y340.toInt ≤ lx69.toInt) := b360
                replace b361 : q_F (lx70.toInt ≤ y341.toInt) := b361
                replace b362 : q_F (y341.toInt ≤ lx70.toInt) := b362
                replace b363 : q_F (lx71.toInt ≤ y342.toInt) := b363
                replace b364 : q_F (y342.toInt ≤ lx71.toInt) := b364
                replace b365 : q_F (lx72.toInt ≤ y343.toInt) := b365
                replace b366 : q_F (y343.toInt ≤ lx72.toInt) := b366
                replace b367 : q_F (lx73.toInt ≤ y344.toInt) := b367
                replace b368 : q_F (lx74.toInt ≤ y345.toInt) := b368
                replace b369 : q_F (y345.toInt ≤ lx74.toInt) := b369
                replace hF := q_uc hF hu371 (by simp)
                have hR386 := (show F_DR_written_c219 x2 x3 t0_0 t0_1 t0_2 t0_3 t0_4 t0_5 t0_6 t0_7 t0_8 t0_9 t0_10 t1_0 t2_0 t3_0 t4_0 t5_0 lx39 lx64 lx65 lx66 lx67 lx68 lx69 lx70 lx71 lx72 lx73 lx74 lx75 a117 a113 a111 a323 p372 = (F_DR_written x2 x3 t0_0 t0_1 t0_2 t0_3 t0_4 t0_5 t0_6 t0_7 t0_8 t0_9 t0_10 t1_0 t2_0 t3_0 t4_0 t5_0) from Eq.trans (by have c153x := c153; rw [e152] at c153x; rw [e373, ← e330, ← e327, ← e324, e322, ← e315, F_DR_written_J170.eq_1, if_neg c143, if_neg c153x]) hR138)
                have hS387 := (show True ∧ S_DR_written_c219 x2 x3 t0_0 t0_1 t0_2 t0_3 t0_4 t0_5 t0_6 t0_7 t0_8 t0_9 t0_10 t1_0 t2_0 t3_0 t4_0 t5_0 lx39 lx64 lx65 lx66 lx67 lx68 lx69 lx70 lx71 lx72 lx73 lx74 lx75 a117 a113 a111 a323 p372 from (by rw [e373, ← e330, ← e327, ← e324, e322, ← e315]; have h := hS139; rw [S_DR_written_J170.eq_1] at h; rw [if_neg c143] at h; replace h := q_s2 h; have c153x := c153; rw [e152] at c153x; rw [if_neg c153x] at h; replace h := q_s2 h; with_reducible exact h))
                refine lv_iload hx hb d_15_53_222 (lv_at hl 0 rfl) ?_
                refine lv_if_eq (tgt := 233) hx hb d_15_53_224 (by decide) (fun c391 => ?_) (fun c391 => ?_)
                ·
                  refine lv_goto (tgt := 289) hx hb d_15_53_233 (by decide) ?_
                  refine lv_aload_n hx hb d_15_53_289 rfl (lv_at hl 3 rfl) ?_
                  refine q_get (ci := 14) (j := 19) (v := .int y344) C0 V i_DR rfl rfl hO334 (by decide) w_2023 rfl d_15_53_290 ?_
                  exact q_reti C0 V (⟨hI, hF, y335, y336, y337, y338, y339, y340, y341, y342, y343, y344, y345, f346, hO334, hA347, (show 0 ≤ y344.toInt from (by have t1 : 0 ≤ lx73.toInt := i83; have t2 : lx73.toInt ≤ y344.toInt := b367; omega)), (show y344.toInt ≤ 12200 from (by first | with_reducible exact q_fe b348 | (have t1 : y344.toInt ≤ 12200 := b348; omega))), (show t0_1.toInt ≤ y336.toInt from (by have t1 : t0_1.toInt ≤ lx65.toInt := i87; have t2 : lx65.toInt ≤ y336.toInt := b351; omega)), (show y336.toInt ≤ t0_1.toInt from (by have t1 : lx65.toInt ≤ t0_1.toInt := i88; have t2 : y336.toInt ≤ lx65.toInt := b352; omega)), (show t0_2.toInt ≤ y337.toInt from (by have t1 : t0_2.toInt ≤ lx66.toInt := i89; have t2 : lx66.toInt ≤ y337.toInt := b353; omega)), (show y337.toInt ≤ t0_2.toInt from (by have t1 : lx66.toInt ≤ t0_2.toInt := i90; have t2 : y337.toInt ≤ lx66.toInt := b354; omega)), (show t0_3.toInt ≤ y338.toInt from (by have t1 : t0_3.toInt ≤ lx67.toInt := i91; have t2 : lx67.toInt ≤ y338.toInt := b355; omega)), (show y338.toInt ≤ t0_3.toInt from (by have t1 : lx67.toInt ≤ t0_3.toInt := i92; have t2 : y338.toInt ≤ lx67.toInt := b356; omega)), (show t0_4.toInt ≤ y339.toInt from (by have t1 : t0_4.toInt ≤ lx68.toInt := i93; have t2 : lx68.toInt ≤ y339.toInt := b357; omega)), (show y339.toInt ≤ t0_4.toInt from (by have t1 : lx68.toInt ≤ t0_4.toInt := i94; have t2 : y339.toInt ≤ lx68.toInt := b358; omega)), (show t0_5.toInt ≤ y340.toInt from (by have t1 : t0_5.toInt ≤ lx69.toInt := i95; have t2 : lx69.toInt ≤ y340.toInt := b359; omega)), (show y340.toInt ≤ t0_5.toInt from (by have t1 : lx69.toInt ≤ t0_5.toInt := i96; have t2 : y340.toInt ≤ lx69.toInt := b360; omega)), (show t0_6.toInt ≤ y341.toInt from (by have t1 : t0_6.toInt ≤ lx70.toInt := i97; have t2 : lx70.toInt ≤ y341.toInt := b361; omega)), (show y341.toInt ≤ t0_6.toInt from (by have t1 : lx70.toInt ≤ t0_6.toInt := i98; have t2 : y341.toInt ≤ lx70.toInt := b362; omega)), (show t0_7.toInt ≤ y342.toInt from (by have t1 : t0_7.toInt ≤ lx71.toInt := i99; have t2 : lx71.toInt ≤ y342.toInt := b363; omega)), (show y342.toInt ≤ t0_7.toInt from (by have t1 : lx71.toInt ≤ t0_7.toInt := i100; have t2 : y342.toInt ≤ lx71.toInt := b364; omega)), (show t0_8.toInt ≤ y343.toInt from (by have t1 : t0_8.toInt ≤ lx72.toInt := i101; have t2 : lx72.toInt ≤ y343.toInt := b365; omega)), (show y343.toInt ≤ t0_8.toInt from (by have t1 : lx72.toInt ≤ t0_8.toInt := i102; have t2 : y343.toInt ≤ lx72.toInt := b366; omega)), (show t0_10.toInt ≤ y345.toInt from (by have t1 : t0_10.toInt ≤ lx74.toInt := i103; have t2 : lx74.toInt ≤ y345.toInt := b368; omega)), (show y345.toInt ≤ t0_10.toInt from (by have t1 : lx74.toInt ≤ t0_10.toInt := i104; have t2 : y345.toInt ≤ lx74.toInt := b369; omega)), (show y344.toInt ≤ y344.toInt from (by omega)), (show (y344, y335, y336, y337, y338, y339, y340, y341, y342, y343, y344, y345, f346) = (F_DR_written x2 x3 t0_0 t0_1 t0_2 t0_3 t0_4 t0_5 t0_6 t0_7 t0_8 t0_9 t0_10 t1_0 t2_0 t3_0 t4_0 t5_0) from Eq.trans (by rw [e385, e384, e383, e382, e381, e380, e379, e378, e377, e376, e375, e374, F_DR_written_c219.eq_1, if_pos c391]) hR386)⟩) d_15_53_293
                ·
                  refine lv_aload_n hx hb d_15_53_227 rfl (lv_at hl 3 rfl) ?_
                  refine lv_iload hx hb d_15_53_228 (lv_at hl 0 rfl) ?_
                  have ob394 : True ∧ S_DR_exponent a323 y335 y336 y337 y338 y339 y340 y341 y342 y343 y344 y345 f346 := (by rw [e385, e384, e383, e382, e381, e380, e379, e378, e377, e376, e375, e374]; have h := hS387; rw [S_DR_written_c219.eq_1] at h; rw [if_neg c391] at h; with_reducible exact h.2.1)
                  refine q_gov V (q_runV (As := [.int a323]) (rest := []) (d := 2) (mc := 0) (ms := 0) (ci := 14) C0 V rfl LV_DR_196 (X_DR_exponent l D g q u332  a323 hI y335 y336 y337 y338 y339 y340 y341 y342 y343 y344 y345 hO334 f346 hA347 ob394 _) rfl rfl hO334 rfl hl.1 rfl (Nat.le_of_ble_eq_true rfl) ⟨by decide, by decide⟩ ⟨Nat.le_of_ble_eq_true rfl, Nat.le_of_ble_eq_true rfl⟩ d_15_53_230) (fun u395 H locs hp396 V => ?_)
                  obtain ⟨hI, hZ9⟩ := hp396
                  obtain ⟨hu434, hZ9⟩ := hZ9
                  obtain ⟨y398, hZ9⟩ := hZ9
                  obtain ⟨y399, hZ9⟩ := hZ9
                  obtain ⟨y400, hZ9⟩ := hZ9
                  obtain ⟨y401, hZ9⟩ := hZ9
                  obtain ⟨y402, hZ9⟩ := hZ9
                  obtain ⟨y403, hZ9⟩ := hZ9
                  obtain ⟨y404, hZ9⟩ := hZ9
                  obtain ⟨y405, hZ9⟩ := hZ9
                  obtain ⟨y406, hZ9⟩ := hZ9
                  obtain ⟨y407, hZ9⟩ := hZ9
                  obtain ⟨y408, hZ9⟩ := hZ9
                  obtain ⟨f409, hZ9⟩ := hZ9
                  obtain ⟨hO397, hZ9⟩ := hZ9
                  obtain ⟨hA410, hZ9⟩ := hZ9
                  obtain ⟨b411, hZ9⟩ := hZ9
                  replace hZ9 := hZ9.2.2
                  obtain ⟨b414, hZ9⟩ := hZ9
                  obtain ⟨b415, hZ9⟩ := hZ9
                  obtain ⟨b416, hZ9⟩ := hZ9
                  obtain ⟨b417, hZ9⟩ := hZ9
                  obtain ⟨b418, hZ9⟩ := hZ9
                  obtain ⟨b419, hZ9⟩ := hZ9
                  obtain ⟨b420, hZ9⟩ := hZ9
                  obtain ⟨b421, hZ9⟩ := hZ9
                  obtain ⟨b422, hZ9⟩ := hZ9
                  obtain ⟨b423, hZ9⟩ := hZ9
                  obtain ⟨b424, hZ9⟩ := hZ9
                  obtain ⟨b425, hZ9⟩ := hZ9
                  obtain ⟨b426, hZ9⟩ := hZ9
                  obtain ⟨b427, hZ9⟩ := hZ9
                  obtain ⟨b428, hZ9⟩ := hZ9
                  obtain ⟨b429, hZ9⟩ := hZ9
                  obtain ⟨b430, hZ9⟩ := hZ9
                  obtain ⟨b431, hZ9⟩ := hZ9
                  obtain ⟨b432, hE433⟩ := hZ9
                  replace hO397 : u395[134]? = (some (q 134, .inr (14, [.int y398, .ref (q 135), .int y399, .ref (q 136), .ref (q 137), .ref (q 138), .ref (q 139), .ref (q 140), .int y400, .long y401, .int y402, .int y403, .ref (q 141), .int y404, .ref (q 142), .int y405, .ref (q 143), .int y406, .ref (q 144), .int y407, .int y408])) : Option (Nat × va_E)) := hO397
                  replace hA410 : u395[144]? = (some (q 144, .inl (g 0, (12200 : Int32).toNatClampNeg, .inl f409)) : Option (Nat × va_E)) := hA410
                  obtain ⟨p435, e436⟩ : ∃ z, z = (F_DR_exponent a323 y335 y336 y337 y338 y339 y340 y341 y342 y343 y344 y345 f346) := ⟨_, rfl⟩
                  have e437 : y398 = p435.1 := congrArg (fun z => z.1) (hE433.trans e436.symm)
                  have e438 : y399 = p435.2.1 := congrArg (fun z => z.2.1) (hE433.trans e436.symm)
                  have e439 : y400 = p435.2.2.1 := congrArg (fun z => z.2.2.1) (hE433.trans e436.symm)
                  have e440 : y401 = p435.2.2.2.1 := congrArg (fun z => z.2.2.2.1) (hE433.trans e436.symm)
                  have e441 : y402 = p435.2.2.2.2.1 := congrArg (fun z => z.2.2.2.2.1) (hE433.trans e436.symm)
                  have e442 : y403 = p435.2.2.2.2.2.1 := congrArg (fun z => z.2.2.2.2.2.1) (hE433.trans e436.symm)
                  have e443 : y404 = p435.2.2.2.2.2.2.1 := congrArg (fun z => z.2.2.2.2.2.2.1) (hE433.trans e436.symm)
                  have e444 : y405 = p435.2.2.2.2.2.2.2.1 := congrArg (fun z => z.2.2.2.2.2.2.2.1) (hE433.trans e436.symm)
                  have e445 : y406 = p435.2.2.2.2.2.2.2.2.1 := congrArg (fun z => z.2.2.2.2.2.2.2.2.1) (hE433.trans e436.symm)
                  have e446 : y407 = p435.2.2.2.2.2.2.2.2.2.1 := congrArg (fun z => z.2.2.2.2.2.2.2.2.2.1) (hE433.trans e436.symm)
                  have e447 : y408 = p435.2.2.2.2.2.2.2.2.2.2.1 := congrArg (fun z => z.2.2.2.2.2.2.2.2.2.2.1) (hE433.trans e436.symm)
                  have e448 : f409 = p435.2.2.2.2.2.2.2.2.2.2.2 := congrArg (fun z => z.2.2.2.2.2.2.2.2.2.2.2) (hE433.trans e436.symm)
                  replace b411 : q_F (y407.toInt ≤ 12200) := b411
                  replace b414 : q_F (y336.toInt ≤ y399.toInt) := b414
                  replace b415 : q_F (y399.toInt ≤ y336.toInt) := b415
                  replace b416 : q_F (y337.toInt ≤ y400.toInt) := b416
                  replace b417 : q_F (y400.toInt ≤ y337.toInt) := b417
                  replace b418 : q_F (y338.toInt ≤ y401.toInt) := b418
                  replace b419 : q_F (y401.toInt ≤ y338.toInt) := b419
                  replace b420 : q_F (y339.toInt ≤ y402.toInt) := b420
                  replace b421 : q_F (y402.toInt ≤ y339.toInt) := b421
                  replace b422 : q_F (y340.toInt ≤ y403.toInt) := b422
                  replace b423 : q_F (y403.toInt ≤ y340.toInt) := b423
                  replace b424 : q_F (y341.toInt ≤ y404.toInt) := b424
                  replace b425 : q_F (y404.toInt ≤ y341.toInt) := b425
                  replace b426 : q_F (y342.toInt ≤ y405.toInt) := b426
                  replace b427 : q_F (y405.toInt ≤ y342.toInt) := b427
                  replace b428 : q_F (y343.toInt ≤ y406.toInt) := b428
                  replace b429 : q_F (y406.toInt ≤ y343.toInt) := b429
                  replace b430 : q_F (y344.toInt + 2 ≤ y407.toInt) := b430
                  replace b431 : q_F (y345.toInt ≤ y408.toInt) := b431
                  replace b432 : q_F (y408.toInt ≤ y345.toInt) := b432
                  replace hF := q_uc hF hu434 (by simp)
                  have hR449 := (show F_DR_written_c230 x2 x3 t0_0 t0_1 t0_2 t0_3 t0_4 t0_5 t0_6 t0_7 t0_8 t0_9 t0_10 t1_0 t2_0 t3_0 t4_0 t5_0 lx39 lx64 lx65 lx66 lx67 lx68 lx69 lx70 lx71 lx72 lx73 lx74 lx75 a117 a113 a111 a323 p372 p435 = (F_DR_written x2 x3 t0_0 t0_1 t0_2 t0_3 t0_4 t0_5 t0_6 t0_7 t0_8 t0_9 t0_10 t1_0 t2_0 t3_0 t4_0 t5_0) from Eq.trans (by rw [e436, e385, e384, e383, e382, e381, e380, e379, e378, e377, e376, e375, e374, F_DR_written_c219.eq_1, if_neg c391]) hR386)
                  have hS450 := (show True ∧ S_DR_written_c230 x2 x3 t0_0 t0_1 t0_2 t0_3 t0_4 t0_5 t0_6 t0_7 t0_8 t0_9 t0_10 t1_0 t2_0 t3_0 t4_0 t5_0 lx39 lx64 lx65 lx66 lx67 lx68 lx69 lx70 lx71 lx72 lx73 lx74 lx75 a117 a113 a111 a323 p372 p435 from (by rw [e436, e385, e384, e383, e382, e381, e380, e379, e378, e377, e376, e375, e374]; have h := hS387; rw [S_DR_written_c219.eq_1] at h; rw [if_neg c391] at h; replace h := q_s2 h; with_reducible exact h))
                  refine lv_goto (tgt := 289) hx hb d_15_53_233 (by decide) ?_
                  refine lv_aload_n hx hb d_15_53_289 rfl (lv_at hl 3 rfl) ?_
                  refine q_get (ci := 14) (j := 19) (v := .int y407) C0 V i_DR rfl rfl hO397 (by decide) w_2023 rfl d_15_53_290 ?_
                  exact q_reti C0 V (⟨hI, hF, y398, y399, y400, y401, y402, y403, y404, y405, y406, y407, y408, f409, hO397, hA410, (show 0 ≤ y407.toInt from (by have t1 : 0 ≤ lx73.toInt := i83; have t2 : lx73.toInt ≤ y344.toInt := b367; have t3 : y344.toInt + 2 ≤ y407.toInt := b430; omega)), (show y407.toInt ≤ 12200 from (by first | with_reducible exact q_fe b411 | (have t1 : y407.toInt ≤ 12200 := b411; omega))), (show t0_1.toInt ≤ y399.toInt from (by have t1 : t0_1.toInt ≤ lx65.toInt := i87; have t2 : lx65.toInt ≤ y336.toInt := b351; have t3 : y336.toInt ≤ y399.toInt := b414; omega)), (show y399.toInt ≤ t0_1.toInt from (by have t1 : lx65.toInt ≤ t0_1.toInt := i88; have t2 : y336.toInt ≤ lx65.toInt := b352; have t3 : y399.toInt ≤ y336.toInt := b415; omega)), (show t0_2.toInt ≤ y400.toInt from (by have t1 : t0_2.toInt ≤ lx66.toInt := i89; have t2 : lx66.toInt ≤ y337.toInt := b353; have t3 : y337.toInt ≤ y400.toInt := b416; omega)), (show y400.toInt ≤ t0_2.toInt from (by have t1 : lx66.toInt ≤ t0_2.toInt := i90; have t2 : y337.toInt ≤ lx66.toInt := b354; have t3 : y400.toInt ≤ y337.toInt := b417; omega)), (show t0_3.toInt ≤ y401.toInt from (by have t1 : t0_3.toInt ≤ lx67.toInt := i91; have t2 : lx67.toInt ≤ y338.toInt := b355; have t3 : y338.toInt ≤ y401.toInt := b418; omega)), (show y401.toInt ≤ t0_3.toInt from (by have t1 : lx67.toInt ≤ t0_3.toInt := i92; have t2 : y338.toInt ≤ lx67.toInt := b356; have t3 : y401.toInt ≤ y338.toInt := b419; omega)), (show t0_4.toInt ≤ y402.toInt from (by have t1 : t0_4.toInt ≤ lx68.toInt := i93; have t2 : lx68.toInt ≤ y339.toInt := b357; have t3 : y339.toInt ≤ y402.toInt := b420; omega)), (show y402.toInt ≤ t0_4.toInt from (by have t1 : lx68.toInt ≤ t0_4.toInt := i94; have t2 : y339.toInt ≤ lx68.toInt := b358; have t3 : y402.toInt ≤ y339.toInt := b421; omega)), (show t0_5.toInt ≤ y403.toInt from (by have t1 : t0_5.toInt ≤ lx69.toInt := i95; have t2 : lx69.toInt ≤ y340.toInt := b359; have t3 : y340.toInt ≤ y403.toInt := b422; omega)), (show y403.toInt ≤ t0_5.toInt from (by have t1 : lx69.toInt ≤ t0_5.toInt := i96; have t2 : y340.toInt ≤ lx69.toInt := b360; have t3 : y403.toInt ≤ y340.toInt := b423; omega)), (show t0_6.toInt ≤ y404.toInt from (by have t1 : t0_6.toInt ≤ lx70.toInt := i97; have t2 : lx70.toInt ≤ y341.toInt := b361; have t3 : y341.toInt ≤ y404.toInt := b424; omega)), (show y404.toInt ≤ t0_6.toInt from (by have t1 : lx70.toInt ≤ t0_6.toInt := i98; have t2 : y341.toInt ≤ lx70.toInt := b362; have t3 : y404.toInt ≤ y341.toInt := b425; omega)), (show t0_7.toInt ≤ y405.toInt from (by have t1 : t0_7.toInt ≤ lx71.toInt := i99; have t2 : lx71.toInt ≤ y342.toInt := b363; have t3 : y342.toInt ≤ y405.toInt := b426; omega)), (show y405.toInt ≤ t0_7.toInt from (by have t1 : lx71.toInt ≤ t0_7.toInt := i100; have t2 : y342.toInt ≤ lx71.toInt := b364; have t3 : y405.toInt ≤ y342.toInt := b427; omega)), (show t0_8.toInt ≤ y406.toInt from (by have t1 : t0_8.toInt ≤ lx72.toInt := i101; have t2 : lx72.toInt ≤ y343.toInt := b365; have t3 : y343.toInt ≤ y406.toInt := b428; omega)), (show y406.toInt ≤ t0_8.toInt from (by have t1 : lx72.toInt ≤ t0_8.toInt := i102; have t2 : y343.toInt ≤ lx72.toInt := b366; have t3 : y406.toInt ≤ y343.toInt := b429; omega)), (show t0_10.toInt ≤ y408.toInt from (by have t1 : t0_10.toInt ≤ lx74.toInt := i103; have t2 : lx74.toInt ≤ y345.toInt := b368; have t3 : y345.toInt ≤ y408.toInt := b431; omega)), (show y408.toInt ≤ t0_10.toInt from (by have t1 : lx74.toInt ≤ t0_10.toInt := i104; have t2 : y345.toInt ≤ lx74.toInt := b369; have t3 : y408.toInt ≤ y345.toInt := b432; omega)), (show y407.toInt ≤ y407.toInt from (by omega)), (show (y407, y398, y399, y400, y401, y402, y403, y404, y405, y406, y407, y408, f409) = (F_DR_written x2 x3 t0_0 t0_1 t0_2 t0_3 t0_4 t0_5 t0_6 t0_7 t0_8 t0_9 t0_10 t1_0 t2_0 t3_0 t4_0 t5_0) from Eq.trans (by rw [e448, e447, e446, e445, e444, e443, e442, e441, e440, e439, e438, e437, F_DR_written_c230.eq_1]) hR449)⟩) d_15_53_293
            ·
              refine lv_aload_n hx hb d_15_53_174 rfl (lv_at hl 2 rfl) ?_
              refine lv_iload_n hx hb d_15_53_175 rfl (lv_at hl 3 rfl) ?_
              refine lv_iconst (v := 0) hx hb d_15_53_176 (by decide) ?_
              refine lv_iload_n hx hb d_15_53_177 rfl (lv_at hl 1 rfl) ?_
              refine lv_iconst (v := 1) hx hb d_15_53_178 (by decide) ?_
              have ob455 : True ∧ S_DR_figures x2 (0 : Int32) a111 (1 : Int32) lx64 lx65 lx66 lx67 lx68 lx69 lx70 lx71 lx72 lx73 lx74 t1_0 t2_0 lx75 := (by have h := hS139; rw [S_DR_written_J170.eq_1] at h; rw [if_pos c143] at h; with_reducible exact h.2.1)
              refine q_gov V (q_runV (As := [.int x2, .int 0, .int a111, .int 1]) (rest := []) (d := 2) (mc := 0) (ms := 0) (ci := 14) C0 V rfl LV_DR_192 (X_DR_figures l D g q w105  x2 0 a111 1 hI lx64 lx65 lx66 lx67 lx68 lx69 lx70 lx71 lx72 lx73 lx74 hO76 t1_0 hA77 t2_0 hA78 lx75 hA81 ob455 _) rfl rfl hO76 rfl hl.1 rfl (Nat.le_of_ble_eq_true rfl) ⟨by decide, by decide⟩ ⟨Nat.le_of_ble_eq_true rfl, Nat.le_of_ble_eq_true rfl⟩ d_15_53_179) (fun u456 H locs hp457 V => ?_)
              obtain ⟨hI, hZ9⟩ := hp457
              obtain ⟨hu495, hZ9⟩ := hZ9
              obtain ⟨y459, hZ9⟩ := hZ9
              obtain ⟨y460, hZ9⟩ := hZ9
              obtain ⟨y461, hZ9⟩ := hZ9
              obtain ⟨y462, hZ9⟩ := hZ9
              obtain ⟨y463, hZ9⟩ := hZ9
              obtain ⟨y464, hZ9⟩ := hZ9
              obtain ⟨y465, hZ9⟩ := hZ9
              obtain ⟨y466, hZ9⟩ := hZ9
              obtain ⟨y467, hZ9⟩ := hZ9
              obtain ⟨y468, hZ9⟩ := hZ9
              obtain ⟨y469, hZ9⟩ := hZ9
              obtain ⟨f470, hZ9⟩ := hZ9
              obtain ⟨hO458, hZ9⟩ := hZ9
              obtain ⟨hA471, hZ9⟩ := hZ9
              replace hZ9 := hZ9.2.2.2
              obtain ⟨b475, hZ9⟩ := hZ9
              obtain ⟨b476, hZ9⟩ := hZ9
              obtain ⟨b477, hZ9⟩ := hZ9
              obtain ⟨b478, hZ9⟩ := hZ9
              obtain ⟨b479, hZ9⟩ := hZ9
              obtain ⟨b480, hZ9⟩ := hZ9
              obtain ⟨b481, hZ9⟩ := hZ9
              obtain ⟨b482, hZ9⟩ := hZ9
              obtain ⟨b483, hZ9⟩ := hZ9
              obtain ⟨b484, hZ9⟩ := hZ9
              obtain ⟨b485, hZ9⟩ := hZ9
              obtain ⟨b486, hZ9⟩ := hZ9
              obtain ⟨b487, hZ9⟩ := hZ9
              obtain ⟨b488, hZ9⟩ := hZ9
              obtain ⟨b489, hZ9⟩ := hZ9
              obtain ⟨b490, hZ9⟩ := hZ9
              obtain ⟨b491, hZ9⟩ := hZ9
              obtain ⟨b492, hZ9⟩ := hZ9
              obtain ⟨b493, hE494⟩ := hZ9
              replace hO458 : u456[134]? = (some (q 134, .inr (14, [.int y459, .ref (q 135), .int y460, .ref (q 136), .ref (q 137), .ref (q 138), .ref (q 139), .ref (q 140), .int y461, .long y462, .int y463, .int y464, .ref (q 141), .int y465, .ref (q 142), .int y466, .ref (q 143), .int y467, .ref (q 144), .int y468, .int y469])) : Option (Nat × va_E)) := hO458
              replace hA471 : u456[144]? = (some (q 144, .inl (g 0, (12200 : Int32).toNatClampNeg, .inl f470)) : Option (Nat × va_E)) := hA471
              obtain ⟨p496, e497⟩ : ∃ z, z = (F_DR_figures x2 (0 : Int32) a111 (1 : Int32) lx64 lx65 lx66 lx67 lx68 lx69 lx70 lx71 lx72 lx73 lx74 t1_0 t2_0 lx75) := ⟨_, rfl⟩
              have e498 : y459 = p496.1 := congrArg (fun z => z.1) (hE494.trans e497.symm)
              have e499 : y460 = p496.2.1 := congrArg (fun z => z.2.1) (hE494.trans e497.symm)
              have e500 : y461 = p496.2.2.1 := congrArg (fun z => z.2.2.1) (hE494.trans e497.symm)
              have e501 : y462 = p496.2.2.2.1 := congrArg (fun z => z.2.2.2.1) (hE494.trans e497.symm)
              have e502 : y463 = p496.2.2.2.2.1 := congrArg (fun z => z.2.2.2.2.1) (hE494.trans e497.symm)
              have e503 : y464 = p496.2.2.2.2.2.1 := congrArg (fun z => z.2.2.2.2.2.1) (hE494.trans e497.symm)
              have e504 : y465 = p496.2.2.2.2.2.2.1 := congrArg (fun z => z.2.2.2.2.2.2.1) (hE494.trans e497.symm)
              have e505 : y466 = p496.2.2.2.2.2.2.2.1 := congrArg (fun z => z.2.2.2.2.2.2.2.1) (hE494.trans e497.symm)
              have e506 : y467 = p496.2.2.2.2.2.2.2.2.1 := congrArg (fun z => z.2.2.2.2.2.2.2.2.1) (hE494.trans e497.symm)
              have e507 : y468 = p496.2.2.2.2.2.2.2.2.2.1 := congrArg (fun z => z.2.2.2.2.2.2.2.2.2.1) (hE494.trans e497.symm)
              have e508 : y469 = p496.2.2.2.2.2.2.2.2.2.2.1 := congrArg (fun z => z.2.2.2.2.2.2.2.2.2.2.1) (hE494.trans e497.symm)
              have e509 : f470 = p496.2.2.2.2.2.2.2.2.2.2.2 := congrArg (fun z => z.2.2.2.2.2.2.2.2.2.2.2) (hE494.trans e497.symm)
              replace b475 : q_F (lx65.toInt ≤ y460.toInt) := b475
              replace b476 : q_F (y460.toInt ≤ lx65.toInt) := b476
              replace b477 : q_F (lx66.toInt ≤ y461.toInt) := b477
              replace b478 : q_F (y461.toInt ≤ lx66.toInt) := b478
              replace b479 : q_F (lx67.toInt ≤ y462.toInt) := b479
              replace b480 : q_F (y462.toInt ≤ lx67.toInt) := b480
              replace b481 : q_F (lx68.toInt ≤ y463.toInt) := b481
              replace b482 : q_F (y463.toInt ≤ lx68.toInt) := b482
              replace b483 : q_F (lx69.toInt ≤ y464.toInt) := b483
              replace b484 : q_F (y464.toInt ≤ lx69.toInt) := b484
              replace b485 : q_F (lx70.toInt ≤ y465.toInt) := b485
              replace b486 : q_F (y465.toInt ≤ lx70.toInt) := b486
              replace b487 : q_F (lx71.toInt ≤ y466.toInt) := b487
              replace b488 : q_F (y466.toInt ≤ lx71.toInt) := b488
              replace b489 : q_F (lx72.toInt ≤ y467.toInt) := b489
              replace b490 : q_F (y467.toInt ≤ lx72.toInt) := b490
              replace b491 : q_F (lx73.toInt ≤ y468.toInt) := b491
              replace b492 : q_F (lx74.toInt ≤ y469.toInt) := b492
              replace b493 : q_F (y469.toInt ≤ lx74.toInt) := b493
              replace hF := q_uc hF hu495 (by simp)
              have hR510 := (show F_DR_written_c179 x2 x3 t0_0 t0_1 t0_2 t0_3 t0_4 t0_5 t0_6 t0_7 t0_8 t0_9 t0_10 t1_0 t2_0 t3_0 t4_0 t5_0 lx39 lx64 lx65 lx66 lx67 lx68 lx69 lx70 lx71 lx72 lx73 lx74 lx75 a117 a113 a111 p496 = (F_DR_written x2 x3 t0_0 t0_1 t0_2 t0_3 t0_4 t0_5 t0_6 t0_7 t0_8 t0_9 t0_10 t1_0 t2_0 t3_0 t4_0 t5_0) from Eq.trans (by rw [e497, F_DR_written_J170.eq_1, if_pos c143]) hR138)
              have hS511 := (show True ∧ S_DR_written_c179 x2 x3 t0_0 t0_1 t0_2 t0_3 t0_4 t0_5 t0_6 t0_7 t0_8 t0_9 t0_10 t1_0 t2_0 t3_0 t4_0 t5_0 lx39 lx64 lx65 lx66 lx67 lx68 lx69 lx70 lx71 lx72 lx73 lx74 lx75 a117 a113 a111 p496 from (by rw [e497]; have h := hS139; rw [S_DR_written_J170.eq_1] at h; rw [if_pos c143] at h; replace h := q_s2 h; with_reducible exact h))
              refine lv_aload_n hx hb d_15_53_182 rfl (lv_at hl 2 rfl) ?_
              refine lv_iload hx hb d_15_53_183 (lv_at hl 0 rfl) ?_
              have ob515 : True ∧ S_DR_exponent a117 y459 y460 y461 y462 y463 y464 y465 y466 y467 y468 y469 f470 := (by rw [e509, e508, e507, e506, e505, e504, e503, e502, e501, e500, e499, e498]; have h := hS511; rw [S_DR_written_c179.eq_1] at h; with_reducible exact h.2.1)
              refine q_gov V (q_runV (As := [.int a117]) (rest := []) (d := 2) (mc := 0) (ms := 0) (ci := 14) C0 V rfl LV_DR_196 (X_DR_exponent l D g q u456  a117 hI y459 y460 y461 y462 y463 y464 y465 y466 y467 y468 y469 hO458 f470 hA471 ob515 _) rfl rfl hO458 rfl hl.1 rfl (Nat.le_of_ble_eq_true rfl) ⟨by decide, by decide⟩ ⟨Nat.le_of_ble_eq_true rfl, Nat.le_of_ble_eq_true rfl⟩ d_15_53_185) (fun u516 H locs hp517 V => ?_)
              obtain ⟨hI, hZ9⟩ := hp517
              obtain ⟨hu555, hZ9⟩ := hZ9
              obtain ⟨y519, hZ9⟩ := hZ9
              obtain ⟨y520, hZ9⟩ := hZ9
              obtain ⟨y521, hZ9⟩ := hZ9
              obtain ⟨y522, hZ9⟩ := hZ9
              obtain ⟨y523, hZ9⟩ := hZ9
              obtain ⟨y524, hZ9⟩ := hZ9
              obtain ⟨y525, hZ9⟩ := hZ9
              obtain ⟨y526, hZ9⟩ := hZ9
              obtain ⟨y527, hZ9⟩ := hZ9
              obtain ⟨y528, hZ9⟩ := hZ9
              obtain ⟨y529, hZ9⟩ := hZ9
              obtain ⟨f530, hZ9⟩ := hZ9
              obtain ⟨hO518, hZ9⟩ := hZ9
              obtain ⟨hA531, hZ9⟩ := hZ9
              obtain ⟨b532, hZ9⟩ := hZ9
              replace hZ9 := hZ9.2.2
              obtain ⟨b535, hZ9⟩ := hZ9
              obtain ⟨b536, hZ9⟩ := hZ9
              obtain ⟨b537, hZ9⟩ := hZ9
              obtain ⟨b538, hZ9⟩ := hZ9
              obtain ⟨b539, hZ9⟩ := hZ9
              obtain ⟨b540, hZ9⟩ := hZ9
              obtain ⟨b541, hZ9⟩ := hZ9
              obtain ⟨b542, hZ9⟩ := hZ9
              obtain ⟨b543, hZ9⟩ := hZ9
              obtain ⟨b544, hZ9⟩ := hZ9
              obtain ⟨b545, hZ9⟩ := hZ9
              obtain ⟨b546, hZ9⟩ := hZ9
              obtain ⟨b547, hZ9⟩ := hZ9
              obtain ⟨b548, hZ9⟩ := hZ9
              obtain ⟨b549, hZ9⟩ := hZ9
              obtain ⟨b550, hZ9⟩ := hZ9
              obtain ⟨b551, hZ9⟩ := hZ9
              obtain ⟨b552, hZ9⟩ := hZ9
              obtain ⟨b553, hE554⟩ := hZ9
              replace hO518 : u516[134]? = (some (q 134, .inr (14, [.int y519, .ref (q 135), .int y520, .ref (q 136), .ref (q 137), .ref (q 138), .ref (q 139), .ref (q 140), .int y521, .long y522, .int y523, .int y524, .ref (q 141), .int y525, .ref (q 142), .int y526, .ref (q 143), .int y527, .ref (q 144), .int y528, .int y529])) : Option (Nat × va_E)) := hO518
              replace hA531 : u516[144]? = (some (q 144, .inl (g 0, (12200 : Int32).toNatClampNeg, .inl f530)) : Option (Nat × va_E)) := hA531
              obtain ⟨p556, e557⟩ : ∃ z, z = (F_DR_exponent a117 y459 y460 y461 y462 y463 y464 y465 y466 y467 y468 y469 f470) := ⟨_, rfl⟩
              have e558 : y519 = p556.1 := congrArg (fun z => z.1) (hE554.trans e557.symm)
              have e559 : y520 = p556.2.1 := congrArg (fun z => z.2.1) (hE554.trans e557.symm)
              have e560 : y521 = p556.2.2.1 := congrArg (fun z => z.2.2.1) (hE554.trans e557.symm)
              have e561 : y522 = p556.2.2.2.1 := congrArg (fun z => z.2.2.2.1) (hE554.trans e557.symm)
              have e562 : y523 = p556.2.2.2.2.1 := congrArg (fun z => z.2.2.2.2.1) (hE554.trans e557.symm)
              have e563 : y524 = p556.2.2.2.2.2.1 := congrArg (fun z => z.2.2.2.2.2.1) (hE554.trans e557.symm)
              have e564 : y525 = p556.2.2.2.2.2.2.1 := congrArg (fun z => z.2.2.2.2.2.2.1) (hE554.trans e557.symm)
              have e565 : y526 = p556.2.2.2.2.2.2.2.1 := congrArg (fun z => z.2.2.2.2.2.2.2.1) (hE554.trans e557.symm)
              have e566 : y527 = p556.2.2.2.2.2.2.2.2.1 := congrArg (fun z => z.2.2.2.2.2.2.2.2.1) (hE554.trans e557.symm)
              have e567 : y528 = p556.2.2.2.2.2.2.2.2.2.1 := congrArg (fun z => z.2.2.2.2.2.2.2.2.2.1) (hE554.trans e557.symm)
              have e568 : y529 = p556.2.2.2.2.2.2.2.2.2.2.1 := congrArg (fun z => z.2.2.2.2.2.2.2.2.2.2.1) (hE554.trans e557.symm)
              have e569 : f530 = p556.2.2.2.2.2.2.2.2.2.2.2 := congrArg (fun z => z.2.2.2.2.2.2.2.2.2.2.2) (hE554.trans e557.symm)
              replace b532 : q_F (y528.toInt ≤ 12200) := b532
              replace b535 : q_F (y460.toInt ≤ y520.toInt) := b535
              replace b536 : q_F (y520.toInt ≤ y460.toInt) := b536
              replace b537 : q_F (y461.toInt ≤ y521.toInt) := b537
              replace b538 : q_F (y521.toInt ≤ y461.toInt) := b538
              replace b539 : q_F (y462.toInt ≤ y522.toInt) := b539
              replace b540 : q_F (y522.toInt ≤ y462.toInt) := b540
              replace b541 : q_F (y463.toInt ≤ y523.toInt) := b541
              replace b542 : q_F (y523.toInt ≤ y463.toInt) := b542
              replace b543 : q_F (y464.toInt ≤ y524.toInt) := b543
              replace b544 : q_F (y524.toInt ≤ y464.toInt) := b544
              replace b545 : q_F (y465.toInt ≤ y525.toInt) := b545
              replace b546 : q_F (y525.toInt ≤ y465.toInt) := b546
              replace b547 : q_F (y466.toInt ≤ y526.toInt) := b547
              replace b548 : q_F (y526.toInt ≤ y466.toInt) := b548
              replace b549 : q_F (y467.toInt ≤ y527.toInt) := b549
              replace b550 : q_F (y527.toInt ≤ y467.toInt) := b550
              replace b551 : q_F (y468.toInt + 2 ≤ y528.toInt) := b551
              replace b552 : q_F (y469.toInt ≤ y529.toInt) := b552
              replace b553 : q_F (y529.toInt ≤ y469.toInt) := b553
              replace hF := q_uc hF hu555 (by simp)
              have hR570 := (show F_DR_written_c185 x2 x3 t0_0 t0_1 t0_2 t0_3 t0_4 t0_5 t0_6 t0_7 t0_8 t0_9 t0_10 t1_0 t2_0 t3_0 t4_0 t5_0 lx39 lx64 lx65 lx66 lx67 lx68 lx69 lx70 lx71 lx72 lx73 lx74 lx75 a117 a113 a111 p496 p556 = (F_DR_written x2 x3 t0_0 t0_1 t0_2 t0_3 t0_4 t0_5 t0_6 t0_7 t0_8 t0_9 t0_10 t1_0 t2_0 t3_0 t4_0 t5_0) from Eq.trans (by rw [e557, e509, e508, e507, e506, e505, e504, e503, e502, e501, e500, e499, e498, F_DR_written_c179.eq_1]) hR510)
              have hS571 := (show True ∧ S_DR_written_c185 x2 x3 t0_0 t0_1 t0_2 t0_3 t0_4 t0_5 t0_6 t0_7 t0_8 t0_9 t0_10 t1_0 t2_0 t3_0 t4_0 t5_0 lx39 lx64 lx65 lx66 lx67 lx68 lx69 lx70 lx71 lx72 lx73 lx74 lx75 a117 a113 a111 p496 p556 from (by rw [e557, e509, e508, e507, e506, e505, e504, e503, e502, e501, e500, e499, e498]; have h := hS511; rw [S_DR_written_c179.eq_1] at h; replace h := q_s2 h; with_reducible exact h))
              refine lv_goto (tgt := 289) hx hb d_15_53_188 (by decide) ?_
              refine lv_aload_n hx hb d_15_53_289 rfl (lv_at hl 2 rfl) ?_
              refine q_get (ci := 14) (j := 19) (v := .int y528) C0 V i_DR rfl rfl hO518 (by decide) w_2023 rfl d_15_53_290 ?_
              exact q_reti C0 V (⟨hI, hF, y519, y520, y521, y522, y523, y524, y525, y526, y527, y528, y529, f530, hO518, hA531, (show 0 ≤ y528.toInt from (by have t1 : 0 ≤ lx73.toInt := i83; have t2 : lx73.toInt ≤ y468.toInt := b491; have t3 : y468.toInt + 2 ≤ y528.toInt := b551; omega)), (show y528.toInt ≤ 12200 from (by first | with_reducible exact q_fe b532 | (have t1 : y528.toInt ≤ 12200 := b532; omega))), (show t0_1.toInt ≤ y520.toInt from (by have t1 : t0_1.toInt ≤ lx65.toInt := i87; have t2 : lx65.toInt ≤ y460.toInt := b475; have t3 : y460.toInt ≤ y520.toInt := b535; omega)), (show y520.toInt ≤ t0_1.toInt from (by have t1 : lx65.toInt ≤ t0_1.toInt := i88; have t2 : y460.toInt ≤ lx65.toInt := b476; have t3 : y520.toInt ≤ y460.toInt := b536; omega)), (show t0_2.toInt ≤ y521.toInt from (by have t1 : t0_2.toInt ≤ lx66.toInt := i89; have t2 : lx66.toInt ≤ y461.toInt := b477; have t3 : y461.toInt ≤ y521.toInt := b537; omega)), (show y521.toInt ≤ t0_2.toInt from (by have t1 : lx66.toInt ≤ t0_2.toInt := i90; have t2 : y461.toInt ≤ lx66.toInt := b478; have t3 : y521.toInt ≤ y461.toInt := b538; omega)), (show t0_3.toInt ≤ y522.toInt from (by have t1 : t0_3.toInt ≤ lx67.toInt := i91; have t2 : lx67.toInt ≤ y462.toInt := b479; have t3 : y462.toInt ≤ y522.toInt := b539; omega)), (show y522.toInt ≤ t0_3.toInt from (by have t1 : lx67.toInt ≤ t0_3.toInt := i92; have t2 : y462.toInt ≤ lx67.toInt := b480; have t3 : y522.toInt ≤ y462.toInt := b540; omega)), (show t0_4.toInt ≤ y523.toInt from (by have t1 : t0_4.toInt ≤ lx68.toInt := i93; have t2 : lx68.toInt ≤ y463.toInt := b481; have t3 : y463.toInt ≤ y523.toInt := b541; omega)), (show y523.toInt ≤ t0_4.toInt from (by have t1 : lx68.toInt ≤ t0_4.toInt := i94; have t2 : y463.toInt ≤ lx68.toInt := b482; have t3 : y523.toInt ≤ y463.toInt := b542; omega)), (show t0_5.toInt ≤ y524.toInt from (by have t1 : t0_5.toInt ≤ lx69.toInt := i95; have t2 : lx69.toInt ≤ y464.toInt := b483; have t3 : y464.toInt ≤ y524.toInt := b543; omega)), (show y524.toInt ≤ t0_5.toInt from (by have t1 : lx69.toInt ≤ t0_5.toInt := i96; have t2 : y464.toInt ≤ lx69.toInt := b484; have t3 : y524.toInt ≤ y464.toInt := b544; omega)), (show t0_6.toInt ≤ y525.toInt from (by have t1 : t0_6.toInt ≤ lx70.toInt := i97; have t2 : lx70.toInt ≤ y465.toInt := b485; have t3 : y465.toInt ≤ y525.toInt := b545; omega)), (show y525.toInt ≤ t0_6.toInt from (by have t1 : lx70.toInt ≤ t0_6.toInt := i98; have t2 : y465.toInt ≤ lx70.toInt := b486; have t3 : y525.toInt ≤ y465.toInt := b546; omega)), (show t0_7.toInt ≤ y526.toInt from (by have t1 : t0_7.toInt ≤ lx71.toInt := i99; have t2 : lx71.toInt ≤ y466.toInt := b487; have t3 : y466.toInt ≤ y526.toInt := b547; omega)), (show y526.toInt ≤ t0_7.toInt from (by have t1 : lx71.toInt ≤ t0_7.toInt := i100; have t2 : y466.toInt ≤ lx71.toInt := b488; have t3 : y526.toInt ≤ y466.toInt := b548; omega)), (show t0_8.toInt ≤ y527.toInt from (by have t1 : t0_8.toInt ≤ lx72.toInt := i101; have t2 : lx72.toInt ≤ y467.toInt := b489; have t3 : y467.toInt ≤ y527.toInt := b549; omega)), (show y527.toInt ≤ t0_8.toInt from (by have t1 : lx72.toInt ≤ t0_8.toInt := i102; have t2 : y467.toInt ≤ lx72.toInt := b490; have t3 : y527.toInt ≤ y467.toInt := b550; omega)), (show t0_10.toInt ≤ y529.toInt from (by have t1 : t0_10.toInt ≤ lx74.toInt := i103; have t2 : lx74.toInt ≤ y469.toInt := b492; have t3 : y469.toInt ≤ y529.toInt := b552; omega)), (show y529.toInt ≤ t0_10.toInt from (by have t1 : lx74.toInt ≤ t0_10.toInt := i104; have t2 : y469.toInt ≤ lx74.toInt := b493; have t3 : y529.toInt ≤ y469.toInt := b553; omega)), (show y528.toInt ≤ y528.toInt from (by omega)), (show (y528, y519, y520, y521, y522, y523, y524, y525, y526, y527, y528, y529, f530) = (F_DR_written x2 x3 t0_0 t0_1 t0_2 t0_3 t0_4 t0_5 t0_6 t0_7 t0_8 t0_9 t0_10 t1_0 t2_0 t3_0 t4_0 t5_0) from Eq.trans (by rw [e569, e568, e567, e566, e565, e564, e563, e562, e561, e560, e559, e558, F_DR_written_c185.eq_1]) hR570)⟩) d_15_53_293
          ·
            intro J137
            refine lv_if_lt (tgt := 170) hx hb d_15_53_115 (by decide) (fun c575 => ?_) (fun c575 => ?_)
            ·
              exact J137 (()) _ _ _ w105 ⟨V, q_lw hl (q_lw1 0 rfl (q_lw1 2 rfl (q_lw1 3 rfl (q_lw1 4 rfl (q_lw1 5 rfl q_lw0))))), (show F_DR_written_J170 x2 x3 t0_0 t0_1 t0_2 t0_3 t0_4 t0_5 t0_6 t0_7 t0_8 t0_9 t0_10 t1_0 t2_0 t3_0 t4_0 t5_0 lx39 lx64 lx65 lx66 lx67 lx68 lx69 lx70 lx71 lx72 lx73 lx74 lx75 a117 a113 a111 = (F_DR_written x2 x3 t0_0 t0_1 t0_2 t0_3 t0_4 t0_5 t0_6 t0_7 t0_8 t0_9 t0_10 t1_0 t2_0 t3_0 t4_0 t5_0) from Eq.trans (by rw [F_DR_written_J113.eq_1, if_pos c575]) hR126), (show True ∧ S_DR_written_J170 x2 x3 t0_0 t0_1 t0_2 t0_3 t0_4 t0_5 t0_6 t0_7 t0_8 t0_9 t0_10 t1_0 t2_0 t3_0 t4_0 t5_0 lx39 lx64 lx65 lx66 lx67 lx68 lx69 lx70 lx71 lx72 lx73 lx74 lx75 a117 a113 a111 from (by have h := hS127; rw [S_DR_written_J113.eq_1] at h; rw [if_pos c575] at h; with_reducible exact h))⟩
            ·
              refine lv_iload_n hx hb d_15_53_118 rfl (lv_at hl 5 rfl) ?_
              refine lv_iconst (v := 1) hx hb d_15_53_119 (by decide) ?_
              refine q_join (X := Unit) (fun z H locs ls _ => q_Wd D g (va_A ws sz) s w105 H locs ∧ lv_has ls 7 [(4, .int a113), (3, .int a111), (0, .ref (q 134)), (1, .int x2)] ∧ F_DR_written_J130 x2 x3 t0_0 t0_1 t0_2 t0_3 t0_4 t0_5 t0_6 t0_7 t0_8 t0_9 t0_10 t1_0 t2_0 t3_0 t4_0 t5_0 lx39 lx64 lx65 lx66 lx67 lx68 lx69 lx70 lx71 lx72 lx73 lx74 lx75 a117 a113 a111 = (F_DR_written x2 x3 t0_0 t0_1 t0_2 t0_3 t0_4 t0_5 t0_6 t0_7 t0_8 t0_9 t0_10 t1_0 t2_0 t3_0 t4_0 t5_0) ∧ True ∧ S_DR_written_J130 x2 x3 t0_0 t0_1 t0_2 t0_3 t0_4 t0_5 t0_6 t0_7 t0_8 t0_9 t0_10 t1_0 t2_0 t3_0 t4_0 t5_0 lx39 lx64 lx65 lx66 lx67 lx68 lx69 lx70 lx71 lx72 lx73 lx74 lx75 a117 a113 a111) (fun z => []) 130 0 0 ?_ ?_
              ·
                rintro _ H locs ls _ ⟨V, hl, hR585, hS586⟩
                replace hl : lv_has ls 7 [(4, .int a113), (3, .int a111), (0, .ref (q 134)), (1, .int x2)] := hl
                refine lv_aload_n hx hb d_15_53_130 rfl (lv_at hl 2 rfl) ?_
                refine lv_iload_n hx hb d_15_53_131 rfl (lv_at hl 3 rfl) ?_
                refine lv_iload_n hx hb d_15_53_132 rfl (lv_at hl 1 rfl) ?_
                refine lv_iload hx hb d_15_53_133 (lv_at hl 0 rfl) ?_
                refine lv_isub hx hb d_15_53_135 ?_
                obtain ⟨a590, e591⟩ := q_nm (a111 - a113 : Int32)
                refine q_ti (v := a590) e591 ?_
                refine lv_iconst (v := 1) hx hb d_15_53_136 (by decide) ?_
                refine q_join (X := Int32) (fun z H locs ls _ => q_Wd D g (va_A ws sz) s w105 H locs ∧ lv_has ls 7 [(4, .int a113), (3, .int a111), (0, .ref (q 134))] ∧ F_DR_written_J150 x2 x3 t0_0 t0_1 t0_2 t0_3 t0_4 t0_5 t0_6 t0_7 t0_8 t0_9 t0_10 t1_0 t2_0 t3_0 t4_0 t5_0 lx39 lx64 lx65 lx66 lx67 lx68 lx69 lx70 lx71 lx72 lx73 lx74 lx75 a117 a113 a111 z = (F_DR_written x2 x3 t0_0 t0_1 t0_2 t0_3 t0_4 t0_5 t0_6 t0_7 t0_8 t0_9 t0_10 t1_0 t2_0 t3_0 t4_0 t5_0) ∧ True ∧ S_DR_written_J150 x2 x3 t0_0 t0_1 t0_2 t0_3 t0_4 t0_5 t0_6 t0_7 t0_8 t0_9 t0_10 t1_0 t2_0 t3_0 t4_0 t5_0 lx39 lx64 lx65 lx66 lx67 lx68 lx69 lx70 lx71 lx72 lx73 lx74 lx75 a117 a113 a111 z) (fun z => [.int z, .int x2, .ref (q 134)]) 150 0 0 ?_ ?_
                ·
                  rintro lx592 H locs ls _ ⟨V, hl, hR600, hS601⟩
                  replace hl : lv_has ls 7 [(4, .int a113), (3, .int a111), (0, .ref (q 134))] := hl
                  refine lv_iload_n hx hb d_15_53_150 rfl (lv_at hl 1 rfl) ?_
                  refine lv_iload hx hb d_15_53_151 (lv_at hl 0 rfl) ?_
                  refine lv_if_ne (tgt := 160) hx hb d_15_53_153 (by decide) (fun c605 => ?_) (fun c605 => ?_)
                  ·
                    refine lv_iload_n hx hb d_15_53_160 rfl (lv_at hl 1 rfl) ?_
                    refine lv_iload hx hb d_15_53_161 (lv_at hl 0 rfl) ?_
                    refine lv_isub hx hb d_15_53_163 ?_
                    obtain ⟨a607, e608⟩ := q_nm (a111 - a113 : Int32)
                    refine q_ti (v := a607) e608 ?_
                    have ob609 : True ∧ S_DR_figures x2 lx592 a111 a607 lx64 lx65 lx66 lx67 lx68 lx69 lx70 lx71 lx72 lx73 lx74 t1_0 t2_0 lx75 := (by rw [← e608]; have h := hS601; rw [S_DR_written_J150.eq_1] at h; rw [if_neg c605] at h; with_reducible exact h.2.1)
                    refine q_gov V (q_runV (As := [.int x2, .int lx592, .int a111, .int a607]) (rest := []) (d := 2) (mc := 0) (ms := 0) (ci := 14) C0 V rfl LV_DR_192 (X_DR_figures l D g q w105  x2 lx592 a111 a607 hI lx64 lx65 lx66 lx67 lx68 lx69 lx70 lx71 lx72 lx73 lx74 hO76 t1_0 hA77 t2_0 hA78 lx75 hA81 ob609 _) rfl rfl hO76 rfl hl.1 rfl (Nat.le_of_ble_eq_true rfl) ⟨by decide, by decide⟩ ⟨Nat.le_of_ble_eq_true rfl, Nat.le_of_ble_eq_true rfl⟩ d_15_53_164) (fun u610 H locs hp611 V => ?_)
                    obtain ⟨hI, hZ9⟩ := hp611
                    obtain ⟨hu649, hZ9⟩ := hZ9
                    obtain ⟨y613, hZ9⟩ := hZ9
                    obtain ⟨y614, hZ9⟩ := hZ9
                    obtain ⟨y615, hZ9⟩ := hZ9
                    obtain ⟨y616, hZ9⟩ := hZ9
                    obtain ⟨y617, hZ9⟩ := hZ9
                    obtain ⟨y618, hZ9⟩ := hZ9
                    obtain ⟨y619, hZ9⟩ := hZ9
                    obtain ⟨y620, hZ9⟩ := hZ9
                    obtain ⟨y621, hZ9⟩ := hZ9
                    obtain ⟨y622, hZ9⟩ := hZ9
                    obtain ⟨y623, hZ9⟩ := hZ9
                    obtain ⟨f624, hZ9⟩ := hZ9
                    obtain ⟨hO612, hZ9⟩ := hZ9
                    obtain ⟨hA625, hZ9⟩ := hZ9
                    obtain ⟨b626, hZ9⟩ := hZ9
                    replace hZ9 := hZ9.2.2
                    obtain ⟨b629, hZ9⟩ := hZ9
                    obtain ⟨b630, hZ9⟩ := hZ9
                    obtain ⟨b631, hZ9⟩ := hZ9
                    obtain ⟨b632, hZ9⟩ := hZ9
                    obtain ⟨b633, hZ9⟩ := hZ9
                    obtain ⟨b634, hZ9⟩ := hZ9
                    obtain ⟨b635, hZ9⟩ := hZ9
                    obtain ⟨b636, hZ9⟩ := hZ9
                    obtain ⟨b637, hZ9⟩ := hZ9
                    obtain ⟨b638, hZ9⟩ := hZ9
                    obtain ⟨b639, hZ9⟩ := hZ9
                    obtain ⟨b640, hZ9⟩ := hZ9
                    obtain ⟨b641, hZ9⟩ := hZ9
                    obtain ⟨b642, hZ9⟩ := hZ9
                    obtain ⟨b643, hZ9⟩ := hZ9
                    obtain ⟨b644, hZ9⟩ := hZ9
                    obtain ⟨b645, hZ9⟩ := hZ9
                    obtain ⟨b646, hZ9⟩ := hZ9
                    obtain ⟨b647, hE648⟩ := hZ9
                    replace hO612 : u610[134]? = (some (q 134, .inr (14, [.int y613, .ref (q 135), .int y614, .ref (q 136), .ref (q 137), .ref (q 138), .ref (q 139), .ref (q 140), .int y615, .long y616, .int y617, .int y618, .ref (q 141), .int y619, .ref (q 142), .int y620, .ref (q 143), .int y621, .ref (q 144), .int y622, .int y623])) : Option (Nat × va_E)) := hO612
                    replace hA625 : u610[144]? = (some (q 144, .inl (g 0, (12200 : Int32).toNatClampNeg, .inl f624)) : Option (Nat × va_E)) := hA625
                    obtain ⟨p650, e651⟩ : ∃ z, z = (F_DR_figures x2 lx592 a111 a607 lx64 lx65 lx66 lx67 lx68 lx69 lx70 lx71 lx72 lx73 lx74 t1_0 t2_0 lx75) := ⟨_, rfl⟩
                    have e652 : y613 = p650.1 := congrArg (fun z => z.1) (hE648.trans e651.symm)
                    have e653 : y614 = p650.2.1 := congrArg (fun z => z.2.1) (hE648.trans e651.symm)
                    have e654 : y615 = p650.2.2.1 := congrArg (fun z => z.2.2.1) (hE648.trans e651.symm)
                    have e655 : y616 = p650.2.2.2.1 := congrArg (fun z => z.2.2.2.1) (hE648.trans e651.symm)
                    have e656 : y617 = p650.2.2.2.2.1 := congrArg (fun z => z.2.2.2.2.1) (hE648.trans e651.symm)
                    have e657 : y618 = p650.2.2.2.2.2.1 := congrArg (fun z => z.2.2.2.2.2.1) (hE648.trans e651.symm)
                    have e658 : y619 = p650.2.2.2.2.2.2.1 := congrArg (fun z => z.2.2.2.2.2.2.1) (hE648.trans e651.symm)
                    have e659 : y620 = p650.2.2.2.2.2.2.2.1 := congrArg (fun z => z.2.2.2.2.2.2.2.1) (hE648.trans e651.symm)
                    have e660 : y621 = p650.2.2.2.2.2.2.2.2.1 := congrArg (fun z => z.2.2.2.2.2.2.2.2.1) (hE648.trans e651.symm)
                    have e661 : y622 = p650.2.2.2.2.2.2.2.2.2.1 := congrArg (fun z => z.2.2.2.2.2.2.2.2.2.1) (hE648.trans e651.symm)
                    have e662 : y623 = p650.2.2.2.2.2.2.2.2.2.2.1 := congrArg (fun z => z.2.2.2.2.2.2.2.2.2.2.1) (hE648.trans e651.symm)
                    have e663 : f624 = p650.2.2.2.2.2.2.2.2.2.2.2 := congrArg (fun z => z.2.2.2.2.2.2.2.2.2.2.2) (hE648.trans e651.symm)
                    replace b626 : q_F (y622.toInt ≤ 12200) := b626
                    replace b629 : q_F (lx65.toInt ≤ y614.toInt) := b629
                    replace b630 : q_F (y614.toInt ≤ lx65.toInt) := b630
                    replace b631 : q_F (lx66.toInt ≤ y615.toInt) := b631
                    replace b632 : q_F (y615.toInt ≤ lx66.toInt) := b632
                    replace b633 : q_F (lx67.toInt ≤ y616.toInt) := b633
                    replace b634 : q_F (y616.toInt ≤ lx67.toInt) := b634
                    replace b635 : q_F (lx68.toInt ≤ y617.toInt) := b635
                    replace b636 : q_F (y617.toInt ≤ lx68.toInt) := b636
                    replace b637 : q_F (lx69.toInt ≤ y618.toInt) := b637
                    replace b638 : q_F (y618.toInt ≤ lx69.toInt) := b638
                    replace b639 : q_F (lx70.toInt ≤ y619.toInt) := b639
                    replace b640 : q_F (y619.toInt ≤ lx70.toInt) := b640
                    replace b641 : q_F (lx71.toInt ≤ y620.toInt) := b641
                    replace b642 : q_F (y620.toInt ≤ lx71.toInt) := b642
                    replace b643 : q_F (lx72.toInt ≤ y621.toInt) := b643
                    replace b644 : q_F (y621.toInt ≤ lx72.toInt) := b644
                    replace b645 : q_F (lx73.toInt ≤ y622.toInt) := b645
                    replace b646 : q_F (lx74.toInt ≤ y623.toInt) := b646
                    replace b647 : q_F (y623.toInt ≤ lx74.toInt) := b647
                    replace hF := q_uc hF hu649 (by simp)
                    have hR664 := (show F_DR_written_c164 x2 x3 t0_0 t0_1 t0_2 t0_3 t0_4 t0_5 t0_6 t0_7 t0_8 t0_9 t0_10 t1_0 t2_0 t3_0 t4_0 t5_0 lx39 lx64 lx65 lx66 lx67 lx68 lx69 lx70 lx71 lx72 lx73 lx74 lx75 a117 a113 a111 lx592 p650 = (F_DR_written x2 x3 t0_0 t0_1 t0_2 t0_3 t0_4 t0_5 t0_6 t0_7 t0_8 t0_9 t0_10 t1_0 t2_0 t3_0 t4_0 t5_0) from Eq.trans (by rw [e651, ← e608, F_DR_written_J150.eq_1, if_neg c605]) hR600)
                    have hS665 := (show True ∧ S_DR_written_c164 x2 x3 t0_0 t0_1 t0_2 t0_3 t0_4 t0_5 t0_6 t0_7 t0_8 t0_9 t0_10 t1_0 t2_0 t3_0 t4_0 t5_0 lx39 lx64 lx65 lx66 lx67 lx68 lx69 lx70 lx71 lx72 lx73 lx74 lx75 a117 a113 a111 lx592 p650 from (by rw [e651, ← e608]; have h := hS601; rw [S_DR_written_J150.eq_1] at h; rw [if_neg c605] at h; replace h := q_s2 h; with_reducible exact h))
                    refine lv_goto (tgt := 289) hx hb d_15_53_167 (by decide) ?_
                    refine lv_aload_n hx hb d_15_53_289 rfl (lv_at hl 2 rfl) ?_
                    refine q_get (ci := 14) (j := 19) (v := .int y622) C0 V i_DR rfl rfl hO612 (by decide) w_2023 rfl d_15_53_290 ?_
                    exact q_reti C0 V (⟨hI, hF, y613, y614, y615, y616, y617, y618, y619, y620, y621, y622, y623, f624, hO612, hA625, (show 0 ≤ y622.toInt from (by have t1 : 0 ≤ lx73.toInt := i83; have t2 : lx73.toInt ≤ y622.toInt := b645; omega)), (show y622.toInt ≤ 12200 from (by first | with_reducible exact q_fe b626 | (have t1 : y622.toInt ≤ 12200 := b626; omega))), (show t0_1.toInt ≤ y614.toInt from (by have t1 : t0_1.toInt ≤ lx65.toInt := i87; have t2 : lx65.toInt ≤ y614.toInt := b629; omega)), (show y614.toInt ≤ t0_1.toInt from (by have t1 : lx65.toInt ≤ t0_1.toInt := i88; have t2 : y614.toInt ≤ lx65.toInt := b630; omega)), (show t0_2.toInt ≤ y615.toInt from (by have t1 : t0_2.toInt ≤ lx66.toInt := i89; have t2 : lx66.toInt ≤ y615.toInt := b631; omega)), (show y615.toInt ≤ t0_2.toInt from (by have t1 : lx66.toInt ≤ t0_2.toInt := i90; have t2 : y615.toInt ≤ lx66.toInt := b632; omega)), (show t0_3.toInt ≤ y616.toInt from (by have t1 : t0_3.toInt ≤ lx67.toInt := i91; have t2 : lx67.toInt ≤ y616.toInt := b633; omega)), (show y616.toInt ≤ t0_3.toInt from (by have t1 : lx67.toInt ≤ t0_3.toInt := i92; have t2 : y616.toInt ≤ lx67.toInt := b634; omega)), (show t0_4.toInt ≤ y617.toInt from (by have t1 : t0_4.toInt ≤ lx68.toInt := i93; have t2 : lx68.toInt ≤ y617.toInt := b635; omega)), (show y617.toInt ≤ t0_4.toInt from (by have t1 : lx68.toInt ≤ t0_4.toInt := i94; have t2 : y617.toInt ≤ lx68.toInt := b636; omega)), (show t0_5.toInt ≤ y618.toInt from (by have t1 : t0_5.toInt ≤ lx69.toInt := i95; have t2 : lx69.toInt ≤ y618.toInt := b637; omega)), (show y618.toInt ≤ t0_5.toInt from (by have t1 : lx69.toInt ≤ t0_5.toInt := i96; have t2 : y618.toInt ≤ lx69.toInt := b638; omega)), (show t0_6.toInt ≤ y619.toInt from (by have t1 : t0_6.toInt ≤ lx70.toInt := i97; have t2 : lx70.toInt ≤ y619.toInt := b639; omega)), (show y619.toInt ≤ t0_6.toInt from (by have t1 : lx70.toInt ≤ t0_6.toInt := i98; have t2 : y619.toInt ≤ lx70.toInt := b640; omega)), (show t0_7.toInt ≤ y620.toInt from (by have t1 : t0_7.toInt ≤ lx71.toInt := i99; have t2 : lx71.toInt ≤ y620.toInt := b641; omega)), (show y620.toInt ≤ t0_7.toInt from (by have t1 : lx71.toInt ≤ t0_7.toInt := i100; have t2 : y620.toInt ≤ lx71.toInt := b642; omega)), (show t0_8.toInt ≤ y621.toInt from (by have t1 : t0_8.toInt ≤ lx72.toInt := i101; have t2 : lx72.toInt ≤ y621.toInt := b643; omega)), (show y621.toInt ≤ t0_8.toInt from (by have t1 : lx72.toInt ≤ t0_8.toInt := i102; have t2 : y621.toInt ≤ lx72.toInt := b644; omega)), (show t0_10.toInt ≤ y623.toInt from (by have t1 : t0_10.toInt ≤ lx74.toInt := i103; have t2 : lx74.toInt ≤ y623.toInt := b646; omega)), (show y623.toInt ≤ t0_10.toInt from (by have t1 : lx74.toInt ≤ t0_10.toInt := i104; have t2 : y623.toInt ≤ lx74.toInt := b647; omega)), (show y622.toInt ≤ y622.toInt from (by omega)), (show (y622, y613, y614, y615, y616, y617, y618, y619, y620, y621, y622, y623, f624) = (F_DR_written x2 x3 t0_0 t0_1 t0_2 t0_3 t0_4 t0_5 t0_6 t0_7 t0_8 t0_9 t0_10 t1_0 t2_0 t3_0 t4_0 t5_0) from Eq.trans (by rw [e663, e662, e661, e660, e659, e658, e657, e656, e655, e654, e653, e652, F_DR_written_c164.eq_1]) hR664)⟩) d_15_53_293
                  ·
                    refine lv_iconst (v := (-1)) hx hb d_15_53_156 (by decide) ?_
                    refine lv_goto (tgt := 164) hx hb d_15_53_157 (by decide) ?_
                    have ob670 : True ∧ S_DR_figures x2 lx592 a111 (-1 : Int32) lx64 lx65 lx66 lx67 lx68 lx69 lx70 lx71 lx72 lx73 lx74 t1_0 t2_0 lx75 := (by have h := hS601; rw [S_DR_written_J150.eq_1] at h; rw [if_pos c605] at h; with_reducible exact h.2.1)
                    refine q_gov V (q_runV (As := [.int x2, .int lx592, .int a111, .int (-1)]) (rest := []) (d := 2) (mc := 0) (ms := 0) (ci := 14) C0 V rfl LV_DR_192 (X_DR_figures l D g q w105  x2 lx592 a111 (-1) hI lx64 lx65 lx66 lx67 lx68 lx69 lx70 lx71 lx72 lx73 lx74 hO76 t1_0 hA77 t2_0 hA78 lx75 hA81 ob670 _) rfl rfl hO76 rfl hl.1 rfl (Nat.le_of_ble_eq_true rfl) ⟨by decide, by decide⟩ ⟨Nat.le_of_ble_eq_true rfl, Nat.le_of_ble_eq_true rfl⟩ d_15_53_164) (fun u671 H locs hp672 V => ?_)
                    obtain ⟨hI, hZ9⟩ := hp672
                    obtain ⟨hu710, hZ9⟩ := hZ9
                    obtain ⟨y674, hZ9⟩ := hZ9
                    obtain ⟨y675, hZ9⟩ := hZ9
                    obtain ⟨y676, hZ9⟩ := hZ9
                    obtain ⟨y677, hZ9⟩ := hZ9
                    obtain ⟨y678, hZ9⟩ := hZ9
                    obtain ⟨y679, hZ9⟩ := hZ9
                    obtain ⟨y680, hZ9⟩ := hZ9
                    obtain ⟨y681, hZ9⟩ := hZ9
                    obtain ⟨y682, hZ9⟩ := hZ9
                    obtain ⟨y683, hZ9⟩ := hZ9
                    obtain ⟨y684, hZ9⟩ := hZ9
                    obtain ⟨f685, hZ9⟩ := hZ9
                    obtain ⟨hO673, hZ9⟩ := hZ9
                    obtain ⟨hA686, hZ9⟩ := hZ9
                    obtain ⟨b687, hZ9⟩ := hZ9
                    replace hZ9 := hZ9.2.2
                    obtain ⟨b690, hZ9⟩ := hZ9
                    obtain ⟨b691, hZ9⟩ := hZ9
                    obtain ⟨b692, hZ9⟩ := hZ9
                    obtain ⟨b693, hZ9⟩ := hZ9
                    obtain ⟨b694, hZ9⟩ := hZ9
                    obtain ⟨b695, hZ9⟩ := hZ9
                    obtain ⟨b696, hZ9⟩ := hZ9
                    obtain ⟨b697, hZ9⟩ := hZ9
                    obtain ⟨b698, hZ9⟩ := hZ9
                    obtain ⟨b699, hZ9⟩ := hZ9
                    obtain ⟨b700, hZ9⟩ := hZ9
                    obtain ⟨b701, hZ9⟩ := hZ9
                    obtain ⟨b702, hZ9⟩ := hZ9
                    obtain ⟨b703, hZ9⟩ := hZ9
                    obtain ⟨b704, hZ9⟩ := hZ9
                    obtain ⟨b705, hZ9⟩ := hZ9
                    obtain ⟨b706, hZ9⟩ := hZ9
                    obtain ⟨b707, hZ9⟩ := hZ9
                    obtain ⟨b708, hE709⟩ := hZ9
                    replace hO673 : u671[134]? = (some (q 134, .inr (14, [.int y674, .ref (q 135), .int y675, .ref (q 136), .ref (q 137), .ref (q 138), .ref (q 139), .ref (q 140), .int y676, .long y677, .int y678, .int y679, .ref (q 141), .int y680, .ref (q 142), .int y681, .ref (q 143), .int y682, .ref (q 144), .int y683, .int y684])) : Option (Nat × va_E)) := hO673
                    replace hA686 : u671[144]? = (some (q 144, .inl (g 0, (12200 : Int32).toNatClampNeg, .inl f685)) : Option (Nat × va_E)) := hA686
                    obtain ⟨p711, e712⟩ : ∃ z, z = (F_DR_figures x2 lx592 a111 (-1 : Int32) lx64 lx65 lx66 lx67 lx68 lx69 lx70 lx71 lx72 lx73 lx74 t1_0 t2_0 lx75) := ⟨_, rfl⟩
                    have e713 : y674 = p711.1 := congrArg (fun z => z.1) (hE709.trans e712.symm)
                    have e714 : y675 = p711.2.1 := congrArg (fun z => z.2.1) (hE709.trans e712.symm)
                    have e715 : y676 = p711.2.2.1 := congrArg (fun z => z.2.2.1) (hE709.trans e712.symm)
                    have e716 : y677 = p711.2.2.2.1 := congrArg (fun z => z.2.2.2.1) (hE709.trans e712.symm)
                    have e717 : y678 = p711.2.2.2.2.1 := congrArg (fun z => z.2.2.2.2.1) (hE709.trans e712.symm)
                    have e718 : y679 = p711.2.2.2.2.2.1 := congrArg (fun z => z.2.2.2.2.2.1) (hE709.trans e712.symm)
                    have e719 : y680 = p711.2.2.2.2.2.2.1 := congrArg (fun z => z.2.2.2.2.2.2.1) (hE709.trans e712.symm)
                    have e720 : y681 = p711.2.2.2.2.2.2.2.1 := congrArg (fun z => z.2.2.2.2.2.2.2.1) (hE709.trans e712.symm)
                    have e721 : y682 = p711.2.2.2.2.2.2.2.2.1 := congrArg (fun z => z.2.2.2.2.2.2.2.2.1) (hE709.trans e712.symm)
                    have e722 : y683 = p711.2.2.2.2.2.2.2.2.2.1 := congrArg (fun z => z.2.2.2.2.2.2.2.2.2.1) (hE709.trans e712.symm)
                    have e723 : y684 = p711.2.2.2.2.2.2.2.2.2.2.1 := congrArg (fun z => z.2.2.2.2.2.2.2.2.2.2.1) (hE709.trans e712.symm)
                    have e724 : f685 = p711.2.2.2.2.2.2.2.2.2.2.2 := congrArg (fun z => z.2.2.2.2.2.2.2.2.2.2.2) (hE709.trans e712.symm)
                    replace b687 : q_F (y683.toInt ≤ 12200) := b687
                    replace b690 : q_F (lx65.toInt ≤ y675.toInt) := b690
                    replace b691 : q_F (y675.toInt ≤ lx65.toInt) := b691
                    replace b692 : q_F (lx66.toInt ≤ y676.toInt) := b692
                    replace b693 : q_F (y676.toInt ≤ lx66.toInt) := b693
                    replace b694 : q_F (lx67.toInt ≤ y677.toInt) := b694
                    replace b695 : q_F (y677.toInt ≤ lx67.toInt) := b695
                    replace b696 : q_F (lx68.toInt ≤ y678.toInt) := b696
                    replace b697 : q_F (y678.toInt ≤ lx68.toInt) := b697
                    replace b698 : q_F (lx69.toInt ≤ y679.toInt) := b698
                    replace b699 : q_F (y679.toInt ≤ lx69.toInt) := b699
                    replace b700 : q_F (lx70.toInt ≤ y680.toInt) := b700
                    replace b701 : q_F (y680.toInt ≤ lx70.toInt) := b701
                    replace b702 : q_F (lx71.toInt ≤ y681.toInt) := b702
                    replace b703 : q_F (y681.toInt ≤ lx71.toInt) := b703
                    replace b704 : q_F (lx72.toInt ≤ y682.toInt) := b704
                    replace b705 : q_F (y682.toInt ≤ lx72.toInt) := b705
                    replace b706 : q_F (lx73.toInt ≤ y683.toInt) := b706
                    replace b707 : q_F (lx74.toInt ≤ y684.toInt) := b707
                    replace b708 : q_F (y684.toInt ≤ lx74.toInt) := b708
                    replace hF := q_uc hF hu710 (by simp)
                    have hR725 := (show F_DR_written_c164_15 x2 x3 t0_0 t0_1 t0_2 t0_3 t0_4 t0_5 t0_6 t0_7 t0_8 t0_9 t0_10 t1_0 t2_0 t3_0 t4_0 t5_0 lx39 lx64 lx65 lx66 lx67 lx68 lx69 lx70 lx71 lx72 lx73 lx74 lx75 a117 a113 a111 lx592 p711 = (F_DR_written x2 x3 t0_0 t0_1 t0_2 t0_3 t0_4 t0_5 t0_6 t0_7 t0_8 t0_9 t0_10 t1_0 t2_0 t3_0 t4_0 t5_0) from Eq.trans (by rw [e712, F_DR_written_J150.eq_1, if_pos c605]) hR600)
                    have hS726 := (show True ∧ S_DR_written_c164_15 x2 x3 t0_0 t0_1 t0_2 t0_3 t0_4 t0_5 t0_6 t0_7 t0_8 t0_9 t0_10 t1_0 t2_0 t3_0 t4_0 t5_0 lx39 lx64 lx65 lx66 lx67 lx68 lx69 lx70 lx71 lx72 lx73 lx74 lx75 a117 a113 a111 lx592 p711 from (by rw [e712]; have h := hS601; rw [S_DR_written_J150.eq_1] at h; rw [if_pos c605] at h; replace h := q_s2 h; with_reducible exact h))
                    refine lv_goto (tgt := 289) hx hb d_15_53_167 (by decide) ?_
                    refine lv_aload_n hx hb d_15_53_289 rfl (lv_at hl 2 rfl) ?_
                    refine q_get (ci := 14) (j := 19) (v := .int y683) C0 V i_DR rfl rfl hO673 (by decide) w_2023 rfl d_15_53_290 ?_
                    exact q_reti C0 V (⟨hI, hF, y674, y675, y676, y677, y678, y679, y680, y681, y682, y683, y684, f685, hO673, hA686, (show 0 ≤ y683.toInt from (by have t1 : 0 ≤ lx73.toInt := i83; have t2 : lx73.toInt ≤ y683.toInt := b706; omega)), (show y683.toInt ≤ 12200 from (by first | with_reducible exact q_fe b687 | (have t1 : y683.toInt ≤ 12200 := b687; omega))), (show t0_1.toInt ≤ y675.toInt from (by have t1 : t0_1.toInt ≤ lx65.toInt := i87; have t2 : lx65.toInt ≤ y675.toInt := b690; omega)), (show y675.toInt ≤ t0_1.toInt from (by have t1 : lx65.toInt ≤ t0_1.toInt := i88; have t2 : y675.toInt ≤ lx65.toInt := b691; omega)), (show t0_2.toInt ≤ y676.toInt from (by have t1 : t0_2.toInt ≤ lx66.toInt := i89; have t2 : lx66.toInt ≤ y676.toInt := b692; omega)), (show y676.toInt ≤ t0_2.toInt from (by have t1 : lx66.toInt ≤ t0_2.toInt := i90; have t2 : y676.toInt ≤ lx66.toInt := b693; omega)), (show t0_3.toInt ≤ y677.toInt from (by have t1 : t0_3.toInt ≤ lx67.toInt := i91; have t2 : lx67.toInt ≤ y677.toInt := b694; omega)), (show y677.toInt ≤ t0_3.toInt from (by have t1 : lx67.toInt ≤ t0_3.toInt := i92; have t2 : y677.toInt ≤ lx67.toInt := b695; omega)), (show t0_4.toInt ≤ y678.toInt from (by have t1 : t0_4.toInt ≤ lx68.toInt := i93; have t2 : lx68.toInt ≤ y678.toInt := b696; omega)), (show y678.toInt ≤ t0_4.toInt from (by have t1 : lx68.toInt ≤ t0_4.toInt := i94; have t2 : y678.toInt ≤ lx68.toInt := b697; omega)), (show t0_5.toInt ≤ y679.toInt from (by have t1 : t0_5.toInt ≤ lx69.toInt := i95; have t2 : lx69.toInt ≤ y679.toInt := b698; omega)), (show y679.toInt ≤ t0_5.toInt from (by have t1 : lx69.toInt ≤ t0_5.toInt := i96; have t2 : y679.toInt ≤ lx69.toInt := b699; omega)), (show t0_6.toInt ≤ y680.toInt from (by have t1 : t0_6.toInt ≤ lx70.toInt := i97; have t2 : lx70.toInt ≤ y680.toInt := b700; omega)), (show y680.toInt ≤ t0_6.toInt from (by have t1 : lx70.toInt ≤ t0_6.toInt := i98; have t2 : y680.toInt ≤ lx70.toInt := b701; omega)), (show t0_7.toInt ≤ y681.toInt from (by have t1 : t0_7.toInt ≤ lx71.toInt := i99; have t2 : lx71.toInt ≤ y681.toInt := b702; omega)), (show y681.toInt ≤ t0_7.toInt from (by have t1 : lx71.toInt ≤ t0_7.toInt := i100; have t2 : y681.toInt ≤ lx71.toInt := b703; omega)), (show t0_8.toInt ≤ y682.toInt from (by have t1 : t0_8.toInt ≤ lx72.toInt := i101; have t2 : lx72.toInt ≤ y682.toInt := b704; omega)), (show y682.toInt ≤ t0_8.toInt from (by have t1 : lx72.toInt ≤ t0_8.toInt := i102; have t2 : y682.toInt ≤ lx72.toInt := b705; omega)), (show t0_10.toInt ≤ y684.toInt from (by have t1 : t0_10.toInt ≤ lx74.toInt := i103; have t2 : lx74.toInt ≤ y684.toInt := b707; omega)), (show y684.toInt ≤ t0_10.toInt from (by have t1 : lx74.toInt ≤ t0_10.toInt := i104; have t2 : y684.toInt ≤ lx74.toInt := b708; omega)), (show y683.toInt ≤ y683.toInt from (by omega)), (show (y683, y674, y675, y676, y677, y678, y679, y680, y681, y682, y683, y684, f685) = (F_DR_written x2 x3 t0_0 t0_1 t0_2 t0_3 t0_4 t0_5 t0_6 t0_7 t0_8 t0_9 t0_10 t1_0 t2_0 t3_0 t4_0 t5_0) from Eq.trans (by rw [e724, e723, e722, e721, e720, e719, e718, e717, e716, e715, e714, e713, F_DR_written_c164_15.eq_1]) hR725)⟩) d_15_53_293
                ·
                  intro J599
                  refine lv_icmp_ge (tgt := 149) hx hb d_15_53_137 (by decide) (fun c730 => ?_) (fun c730 => ?_)
                  ·
                    refine lv_iconst (v := 0) hx hb d_15_53_149 (by decide) ?_
                    exact J599 ((0 : Int32)) _ _ _ w105 ⟨V, q_lw hl (q_lw1 0 rfl (q_lw1 1 rfl (q_lw1 2 rfl q_lw0))), (show F_DR_written_J150 x2 x3 t0_0 t0_1 t0_2 t0_3 t0_4 t0_5 t0_6 t0_7 t0_8 t0_9 t0_10 t1_0 t2_0 t3_0 t4_0 t5_0 lx39 lx64 lx65 lx66 lx67 lx68 lx69 lx70 lx71 lx72 lx73 lx74 lx75 a117 a113 a111 0 = (F_DR_written x2 x3 t0_0 t0_1 t0_2 t0_3 t0_4 t0_5 t0_6 t0_7 t0_8 t0_9 t0_10 t1_0 t2_0 t3_0 t4_0 t5_0) from Eq.trans (by have c730x := c730; rw [← e591] at c730x; rw [F_DR_written_J130.eq_1, if_pos c730x]) hR585), (show True ∧ S_DR_written_J150 x2 x3 t0_0 t0_1 t0_2 t0_3 t0_4 t0_5 t0_6 t0_7 t0_8 t0_9 t0_10 t1_0 t2_0 t3_0 t4_0 t5_0 lx39 lx64 lx65 lx66 lx67 lx68 lx69 lx70 lx71 lx72 lx73 lx74 lx75 a117 a113 a111 0 from (by have h := hS586; rw [S_DR_written_J130.eq_1] at h; have c730x := c730; rw [← e591] at c730x; rw [if_pos c730x] at h; with_reducible exact h))⟩
                  ·
                    refine lv_iload_n hx hb d_15_53_140 rfl (lv_at hl 1 rfl) ?_
                    refine lv_iload hx hb d_15_53_141 (lv_at hl 0 rfl) ?_
                    refine lv_isub hx hb d_15_53_143 ?_
                    obtain ⟨a733, e734⟩ := q_nm (a111 - a113 : Int32)
                    refine q_ti (v := a733) e734 ?_
                    refine lv_iconst (v := 1) hx hb d_15_53_144 (by decide) ?_
                    refine lv_isub hx hb d_15_53_145 ?_
                    obtain ⟨a735, e736⟩ := q_nm (a733 - 1 : Int32)
                    refine q_ti (v := a735) e736 ?_
                    refine lv_goto (tgt := 150) hx hb d_15_53_146 (by decide) ?_
                    exact J599 ((a735 : Int32)) _ _ _ w105 ⟨V, q_lw hl (q_lw1 0 rfl (q_lw1 1 rfl (q_lw1 2 rfl q_lw0))), (show F_DR_written_J150 x2 x3 t0_0 t0_1 t0_2 t0_3 t0_4 t0_5 t0_6 t0_7 t0_8 t0_9 t0_10 t1_0 t2_0 t3_0 t4_0 t5_0 lx39 lx64 lx65 lx66 lx67 lx68 lx69 lx70 lx71 lx72 lx73 lx74 lx75 a117 a113 a111 a735 = (F_DR_written x2 x3 t0_0 t0_1 t0_2 t0_3 t0_4 t0_5 t0_6 t0_7 t0_8 t0_9 t0_10 t1_0 t2_0 t3_0 t4_0 t5_0) from Eq.trans (by have c730x := c730; rw [← e591] at c730x; rw [← e736, ← e734, F_DR_written_J130.eq_1, if_neg c730x]) hR585), (show True ∧ S_DR_written_J150 x2 x3 t0_0 t0_1 t0_2 t0_3 t0_4 t0_5 t0_6 t0_7 t0_8 t0_9 t0_10 t1_0 t2_0 t3_0 t4_0 t5_0 lx39 lx64 lx65 lx66 lx67 lx68 lx69 lx70 lx71 lx72 lx73 lx74 lx75 a117 a113 a111 a735 from (by rw [← e736, ← e734]; have h := hS586; rw [S_DR_written_J130.eq_1] at h; have c730x := c730; rw [← e591] at c730x; rw [if_neg c730x] at h; with_reducible exact h))⟩
              ·
                intro J584
                refine lv_icmp_eq (tgt := 130) hx hb d_15_53_120 (by decide) (fun c737 => ?_) (fun c737 => ?_)
                ·
                  exact J584 (()) _ _ _ w105 ⟨V, q_lw hl (q_lw1 1 rfl (q_lw1 2 rfl (q_lw1 3 rfl (q_lw1 4 rfl q_lw0)))), (show F_DR_written_J130 x2 x3 t0_0 t0_1 t0_2 t0_3 t0_4 t0_5 t0_6 t0_7 t0_8 t0_9 t0_10 t1_0 t2_0 t3_0 t4_0 t5_0 lx39 lx64 lx65 lx66 lx67 lx68 lx69 lx70 lx71 lx72 lx73 lx74 lx75 a117 a113 a111 = (F_DR_written x2 x3 t0_0 t0_1 t0_2 t0_3 t0_4 t0_5 t0_6 t0_7 t0_8 t0_9 t0_10 t1_0 t2_0 t3_0 t4_0 t5_0) from Eq.trans (by rw [F_DR_written_J113.eq_1, if_neg c575, if_pos c737]) hR126), (show True ∧ S_DR_written_J130 x2 x3 t0_0 t0_1 t0_2 t0_3 t0_4 t0_5 t0_6 t0_7 t0_8 t0_9 t0_10 t1_0 t2_0 t3_0 t4_0 t5_0 lx39 lx64 lx65 lx66 lx67 lx68 lx69 lx70 lx71 lx72 lx73 lx74 lx75 a117 a113 a111 from (by have h := hS127; rw [S_DR_written_J113.eq_1] at h; rw [if_neg c575] at h; rw [if_pos c737] at h; with_reducible exact h))⟩
                ·
                  refine lv_iload hx hb d_15_53_123 (lv_at hl 0 rfl) ?_
                  refine lv_bipush (v := (-6)) hx hb d_15_53_125 (by decide) ?_
                  refine lv_icmp_lt (tgt := 170) hx hb d_15_53_127 (by decide) (fun c740 => ?_) (fun c740 => ?_)
                  ·
                    exact J137 (()) _ _ _ w105 ⟨V, q_lw hl (q_lw1 0 rfl (q_lw1 2 rfl (q_lw1 3 rfl (q_lw1 4 rfl (q_lw1 5 rfl q_lw0))))), (show F_DR_written_J170 x2 x3 t0_0 t0_1 t0_2 t0_3 t0_4 t0_5 t0_6 t0_7 t0_8 t0_9 t0_10 t1_0 t2_0 t3_0 t4_0 t5_0 lx39 lx64 lx65 lx66 lx67 lx68 lx69 lx70 lx71 lx72 lx73 lx74 lx75 a117 a113 a111 = (F_DR_written x2 x3 t0_0 t0_1 t0_2 t0_3 t0_4 t0_5 t0_6 t0_7 t0_8 t0_9 t0_10 t1_0 t2_0 t3_0 t4_0 t5_0) from Eq.trans (by rw [F_DR_written_J113.eq_1, if_neg c575, if_neg c737, if_pos c740]) hR126), (show True ∧ S_DR_written_J170 x2 x3 t0_0 t0_1 t0_2 t0_3 t0_4 t0_5 t0_6 t0_7 t0_8 t0_9 t0_10 t1_0 t2_0 t3_0 t4_0 t5_0 lx39 lx64 lx65 lx66 lx67 lx68 lx69 lx70 lx71 lx72 lx73 lx74 lx75 a117 a113 a111 from (by have h := hS127; rw [S_DR_written_J113.eq_1] at h; rw [if_neg c575] at h; rw [if_neg c737] at h; rw [if_pos c740] at h; with_reducible exact h))⟩
                  ·
                    exact J584 (()) _ _ _ w105 ⟨V, q_lw hl (q_lw1 1 rfl (q_lw1 2 rfl (q_lw1 3 rfl (q_lw1 4 rfl q_lw0)))), (show F_DR_written_J130 x2 x3 t0_0 t0_1 t0_2 t0_3 t0_4 t0_5 t0_6 t0_7 t0_8 t0_9 t0_10 t1_0 t2_0 t3_0 t4_0 t5_0 lx39 lx64 lx65 lx66 lx67 lx68 lx69 lx70 lx71 lx72 lx73 lx74 lx75 a117 a113 a111 = (F_DR_written x2 x3 t0_0 t0_1 t0_2 t0_3 t0_4 t0_5 t0_6 t0_7 t0_8 t0_9 t0_10 t1_0 t2_0 t3_0 t4_0 t5_0) from Eq.trans (by rw [F_DR_written_J113.eq_1, if_neg c575, if_neg c737, if_neg c740]) hR126), (show True ∧ S_DR_written_J130 x2 x3 t0_0 t0_1 t0_2 t0_3 t0_4 t0_5 t0_6 t0_7 t0_8 t0_9 t0_10 t1_0 t2_0 t3_0 t4_0 t5_0 lx39 lx64 lx65 lx66 lx67 lx68 lx69 lx70 lx71 lx72 lx73 lx74 lx75 a117 a113 a111 from (by have h := hS127; rw [S_DR_written_J113.eq_1] at h; rw [if_neg c575] at h; rw [if_neg c737] at h; rw [if_neg c740] at h; with_reducible exact h))⟩
        ·
          intro J125
          refine lv_icmp_ne (tgt := 113) hx hb d_15_53_79 (by decide) (fun c743 => ?_) (fun c743 => ?_)
          ·
            exact J125 (()) _ _ _ w105 ⟨V, q_lw hl (q_lw1 0 rfl (q_lw1 1 rfl (q_lw1 2 rfl (q_lw1 3 rfl (q_lw1 4 rfl (q_lw1 5 rfl q_lw0)))))), (show F_DR_written_J113 x2 x3 t0_0 t0_1 t0_2 t0_3 t0_4 t0_5 t0_6 t0_7 t0_8 t0_9 t0_10 t1_0 t2_0 t3_0 t4_0 t5_0 lx39 lx64 lx65 lx66 lx67 lx68 lx69 lx70 lx71 lx72 lx73 lx74 lx75 a117 a113 a111 = (F_DR_written x2 x3 t0_0 t0_1 t0_2 t0_3 t0_4 t0_5 t0_6 t0_7 t0_8 t0_9 t0_10 t1_0 t2_0 t3_0 t4_0 t5_0) from Eq.trans (by rw [← e118, ← e116, ← e114, ← e112, F_DR_written_J54.eq_1, if_neg c743]) hR106), (show True ∧ S_DR_written_J113 x2 x3 t0_0 t0_1 t0_2 t0_3 t0_4 t0_5 t0_6 t0_7 t0_8 t0_9 t0_10 t1_0 t2_0 t3_0 t4_0 t5_0 lx39 lx64 lx65 lx66 lx67 lx68 lx69 lx70 lx71 lx72 lx73 lx74 lx75 a117 a113 a111 from (by rw [← e118, ← e116, ← e114, ← e112]; have h := hS107; rw [S_DR_written_J54.eq_1] at h; rw [if_neg c743] at h; with_reducible exact h))⟩
          ·
            refine lv_iload hx hb d_15_53_82 (lv_at hl 1 rfl) ?_
            refine lv_if_gt (tgt := 113) hx hb d_15_53_84 (by decide) (fun c746 => ?_) (fun c746 => ?_)
            ·
              exact J125 (()) _ _ _ w105 ⟨V, q_lw hl (q_lw1 0 rfl (q_lw1 1 rfl (q_lw1 2 rfl (q_lw1 3 rfl (q_lw1 4 rfl (q_lw1 5 rfl q_lw0)))))), (show F_DR_written_J113 x2 x3 t0_0 t0_1 t0_2 t0_3 t0_4 t0_5 t0_6 t0_7 t0_8 t0_9 t0_10 t1_0 t2_0 t3_0 t4_0 t5_0 lx39 lx64 lx65 lx66 lx67 lx68 lx69 lx70 lx71 lx72 lx73 lx74 lx75 a117 a113 a111 = (F_DR_written x2 x3 t0_0 t0_1 t0_2 t0_3 t0_4 t0_5 t0_6 t0_7 t0_8 t0_9 t0_10 t1_0 t2_0 t3_0 t4_0 t5_0) from Eq.trans (by have c746x := c746; rw [← e114] at c746x; rw [← e118, ← e116, ← e114, ← e112, F_DR_written_J54.eq_1, if_pos c743, if_pos c746x]) hR106), (show True ∧ S_DR_written_J113 x2 x3 t0_0 t0_1 t0_2 t0_3 t0_4 t0_5 t0_6 t0_7 t0_8 t0_9 t0_10 t1_0 t2_0 t3_0 t4_0 t5_0 lx39 lx64 lx65 lx66 lx67 lx68 lx69 lx70 lx71 lx72 lx73 lx74 lx75 a117 a113 a111 from (by rw [← e118, ← e116, ← e114, ← e112]; have h := hS107; rw [S_DR_written_J54.eq_1] at h; rw [if_pos c743] at h; have c746x := c746; rw [← e114] at c746x; rw [if_pos c746x] at h; with_reducible exact h))⟩
            ·
              refine lv_aload_n hx hb d_15_53_87 rfl (lv_at hl 3 rfl) ?_
              refine lv_iload_n hx hb d_15_53_88 rfl (lv_at hl 4 rfl) ?_
              refine lv_iconst (v := 0) hx hb d_15_53_89 (by decide) ?_
              refine lv_aload_n hx hb d_15_53_90 rfl (lv_at hl 3 rfl) ?_
              refine lv_iload_n hx hb d_15_53_91 rfl (lv_at hl 4 rfl) ?_
              have ob749 : True ∧ S_DR_isZero x2 lx64 lx65 lx66 lx67 lx68 lx69 lx70 lx71 lx72 lx73 lx74 t1_0 := (by have h := hS107; rw [S_DR_written_J54.eq_1] at h; rw [if_pos c743] at h; have c746x := c746; rw [← e114] at c746x; rw [if_neg c746x] at h; with_reducible exact h.2.1)
              refine q_goi V (q_runV (As := [.int x2]) (rest := [.int 0, .int x2, .ref (q 134)]) (d := 1) (mc := 0) (ms := 0) (ci := 14) C0 V rfl LV_DR_120 (X_DR_isZero l D g q w105  x2 hI lx64 lx65 lx66 lx67 lx68 lx69 lx70 lx71 lx72 lx73 lx74 hO76 t1_0 hA77 ob749 _) rfl rfl hO76 rfl hl.1 rfl (Nat.le_of_ble_eq_true rfl) ⟨by decide, by decide⟩ ⟨Nat.le_of_ble_eq_true rfl, Nat.le_of_ble_eq_true rfl⟩ d_15_53_92) (fun a752 u750 H locs hp751 V => ?_)
              obtain ⟨rfl, b753, b754, hE755⟩ := hp751
              have e756 : a752 = (F_DR_isZero x2 lx64 lx65 lx66 lx67 lx68 lx69 lx70 lx71 lx72 lx73 lx74 t1_0) := hE755
              clear b753
              clear b754
              refine lv_if_eq (tgt := 102) hx hb d_15_53_95 (by decide) (fun c757 => ?_) (fun c757 => ?_)
              ·
                refine lv_iload_n hx hb d_15_53_102 rfl (lv_at hl 2 rfl) ?_
                refine lv_iload hx hb d_15_53_103 (lv_at hl 1 rfl) ?_
                refine lv_isub hx hb d_15_53_105 ?_
                obtain ⟨a759, e760⟩ := q_nm (a111 - a113 : Int32)
                refine q_ti (v := a759) e760 ?_
                refine lv_iconst (v := (-1)) hx hb d_15_53_106 (by decide) ?_
                have ob761 : True ∧ S_DR_figures x2 (0 : Int32) a759 (-1 : Int32) lx64 lx65 lx66 lx67 lx68 lx69 lx70 lx71 lx72 lx73 lx74 t1_0 t2_0 lx75 := (by rw [← e760, ← e114, ← e112]; have h := hS107; rw [S_DR_written_J54.eq_1] at h; rw [if_pos c743] at h; have c746x := c746; rw [← e114] at c746x; rw [if_neg c746x] at h; replace h := q_s2 h; have c757x := c757; rw [e756] at c757x; rw [if_pos c757x] at h; with_reducible exact h.2.1)
                refine q_gov V (q_runV (As := [.int x2, .int 0, .int a759, .int (-1)]) (rest := []) (d := 2) (mc := 0) (ms := 0) (ci := 14) C0 V rfl LV_DR_192 (X_DR_figures l D g q w105  x2 0 a759 (-1) hI lx64 lx65 lx66 lx67 lx68 lx69 lx70 lx71 lx72 lx73 lx74 hO76 t1_0 hA77 t2_0 hA78 lx75 hA81 ob761 _) rfl rfl hO76 rfl hl.1 rfl (Nat.le_of_ble_eq_true rfl) ⟨by decide, by decide⟩ ⟨Nat.le_of_ble_eq_true rfl, Nat.le_of_ble_eq_true rfl⟩ d_15_53_107) (fun u762 H locs hp763 V => ?_)
                obtain ⟨hI, hZ9⟩ := hp763
                obtain ⟨hu801, hZ9⟩ := hZ9
                obtain ⟨y765, hZ9⟩ := hZ9
                obtain ⟨y766, hZ9⟩ := hZ9
                obtain ⟨y767, hZ9⟩ := hZ9
                obtain ⟨y768, hZ9⟩ := hZ9
                obtain ⟨y769, hZ9⟩ := hZ9
                obtain ⟨y770, hZ9⟩ := hZ9
                obtain ⟨y771, hZ9⟩ := hZ9
                obtain ⟨y772, hZ9⟩ := hZ9
                obtain ⟨y773, hZ9⟩ := hZ9
                obtain ⟨y774, hZ9⟩ := hZ9
                obtain ⟨y775, hZ9⟩ := hZ9
                obtain ⟨f776, hZ9⟩ := hZ9
                obtain ⟨hO764, hZ9⟩ := hZ9
                obtain ⟨hA777, hZ9⟩ := hZ9
                obtain ⟨b778, hZ9⟩ := hZ9
                replace hZ9 := hZ9.2.2
                obtain ⟨b781, hZ9⟩ := hZ9
                obtain ⟨b782, hZ9⟩ := hZ9
                obtain ⟨b783, hZ9⟩ := hZ9
                obtain ⟨b784, hZ9⟩ := hZ9
                obtain ⟨b785, hZ9⟩ := hZ9
                obtain ⟨b786, hZ9⟩ := hZ9
                obtain ⟨b787, hZ9⟩ := hZ9
                obtain ⟨b788, hZ9⟩ := hZ9
                obtain ⟨b789, hZ9⟩ := hZ9
                obtain ⟨b790, hZ9⟩ := hZ9
                obtain ⟨b791, hZ9⟩ := hZ9
                obtain ⟨b792, hZ9⟩ := hZ9
                obtain ⟨b793, hZ9⟩ := hZ9
                obtain ⟨b794, hZ9⟩ := hZ9
                obtain ⟨b795, hZ9⟩ := hZ9
                obtain ⟨b796, hZ9⟩ := hZ9
                obtain ⟨b797, hZ9⟩ := hZ9
                obtain ⟨b798, hZ9⟩ := hZ9
                obtain ⟨b799, hE800⟩ := hZ9
                replace hO764 : u762[134]? = (some (q 134, .inr (14, [.int y765, .ref (q 135), .int y766, .ref (q 136), .ref (q 137), .ref (q 138), .ref (q 139), .ref (q 140), .int y767, .long y768, .int y769, .int y770, .ref (q 141), .int y771, .ref (q 142), .int y772, .ref (q 143), .int y773, .ref (q 144), .int y774, .int y775])) : Option (Nat × va_E)) := hO764
                replace hA777 : u762[144]? = (some (q 144, .inl (g 0, (12200 : Int32).toNatClampNeg, .inl f776)) : Option (Nat × va_E)) := hA777
                obtain ⟨p802, e803⟩ : ∃ z, z = (F_DR_figures x2 (0 : Int32) a759 (-1 : Int32) lx64 lx65 lx66 lx67 lx68 lx69 lx70 lx71 lx72 lx73 lx74 t1_0 t2_0 lx75) := ⟨_, rfl⟩
                have e804 : y765 = p802.1 := congrArg (fun z => z.1) (hE800.trans e803.symm)
                have e805 : y766 = p802.2.1 := congrArg (fun z => z.2.1) (hE800.trans e803.symm)
                have e806 : y767 = p802.2.2.1 := congrArg (fun z => z.2.2.1) (hE800.trans e803.symm)
                have e807 : y768 = p802.2.2.2.1 := congrArg (fun z => z.2.2.2.1) (hE800.trans e803.symm)
                have e808 : y769 = p802.2.2.2.2.1 := congrArg (fun z => z.2.2.2.2.1) (hE800.trans e803.symm)
                have e809 : y770 = p802.2.2.2.2.2.1 := congrArg (fun z => z.2.2.2.2.2.1) (hE800.trans e803.symm)
                have e810 : y771 = p802.2.2.2.2.2.2.1 := congrArg (fun z => z.2.2.2.2.2.2.1) (hE800.trans e803.symm)
                have e811 : y772 = p802.2.2.2.2.2.2.2.1 := congrArg (fun z => z.2.2.2.2.2.2.2.1) (hE800.trans e803.symm)
                have e812 : y773 = p802.2.2.2.2.2.2.2.2.1 := congrArg (fun z => z.2.2.2.2.2.2.2.2.1) (hE800.trans e803.symm)
                have e813 : y774 = p802.2.2.2.2.2.2.2.2.2.1 := congrArg (fun z => z.2.2.2.2.2.2.2.2.2.1) (hE800.trans e803.symm)
                have e814 : y775 = p802.2.2.2.2.2.2.2.2.2.2.1 := congrArg (fun z => z.2.2.2.2.2.2.2.2.2.2.1) (hE800.trans e803.symm)
                have e815 : f776 = p802.2.2.2.2.2.2.2.2.2.2.2 := congrArg (fun z => z.2.2.2.2.2.2.2.2.2.2.2) (hE800.trans e803.symm)
                replace b778 : q_F (y774.toInt ≤ 12200) := b778
                replace b781 : q_F (lx65.toInt ≤ y766.toInt) := b781
                replace b782 : q_F (y766.toInt ≤ lx65.toInt) := b782
                replace b783 : q_F (lx66.toInt ≤ y767.toInt) := b783
                replace b784 : q_F (y767.toInt ≤ lx66.toInt) := b784
                replace b785 : q_F (lx67.toInt ≤ y768.toInt) := b785
                replace b786 : q_F (y768.toInt ≤ lx67.toInt) := b786
                replace b787 : q_F (lx68.toInt ≤ y769.toInt) := b787
                replace b788 : q_F (y769.toInt ≤ lx68.toInt) := b788
                replace b789 : q_F (lx69.toInt ≤ y770.toInt) := b789
                replace b790 : q_F (y770.toInt ≤ lx69.toInt) := b790
                replace b791 : q_F (lx70.toInt ≤ y771.toInt) := b791
                replace b792 : q_F (y771.toInt ≤ lx70.toInt) := b792
                replace b793 : q_F (lx71.toInt ≤ y772.toInt) := b793
                replace b794 : q_F (y772.toInt ≤ lx71.toInt) := b794
                replace b795 : q_F (lx72.toInt ≤ y773.toInt) := b795
                replace b796 : q_F (y773.toInt ≤ lx72.toInt) := b796
                replace b797 : q_F (lx73.toInt ≤ y774.toInt) := b797
                replace b798 : q_F (lx74.toInt ≤ y775.toInt) := b798
                replace b799 : q_F (y775.toInt ≤ lx74.toInt) := b799
                replace hF := q_uc hF hu801 (by simp)
                have hR816 := (show F_DR_written_c107 x2 x3 t0_0 t0_1 t0_2 t0_3 t0_4 t0_5 t0_6 t0_7 t0_8 t0_9 t0_10 t1_0 t2_0 t3_0 t4_0 t5_0 lx39 lx64 lx65 lx66 lx67 lx68 lx69 lx70 lx71 lx72 lx73 lx74 lx75 a117 a113 a111 p802 = (F_DR_written x2 x3 t0_0 t0_1 t0_2 t0_3 t0_4 t0_5 t0_6 t0_7 t0_8 t0_9 t0_10 t1_0 t2_0 t3_0 t4_0 t5_0) from Eq.trans (by have c746x := c746; rw [← e114] at c746x; have c757x := c757; rw [e756] at c757x; rw [e803, ← e760, ← e118, ← e116, ← e114, ← e112, F_DR_written_J54.eq_1, if_pos c743, if_neg c746x, if_pos c757x]) hR106)
                have hS817 := (show True ∧ S_DR_written_c107 x2 x3 t0_0 t0_1 t0_2 t0_3 t0_4 t0_5 t0_6 t0_7 t0_8 t0_9 t0_10 t1_0 t2_0 t3_0 t4_0 t5_0 lx39 lx64 lx65 lx66 lx67 lx68 lx69 lx70 lx71 lx72 lx73 lx74 lx75 a117 a113 a111 p802 from (by rw [e803, ← e760, ← e118, ← e116, ← e114, ← e112]; have h := hS107; rw [S_DR_written_J54.eq_1] at h; rw [if_pos c743] at h; have c746x := c746; rw [← e114] at c746x; rw [if_neg c746x] at h; replace h := q_s2 h; have c757x := c757; rw [e756] at c757x; rw [if_pos c757x] at h; replace h := q_s2 h; with_reducible exact h))
                refine lv_goto (tgt := 289) hx hb d_15_53_110 (by decide) ?_
                refine lv_aload_n hx hb d_15_53_289 rfl (lv_at hl 3 rfl) ?_
                refine q_get (ci := 14) (j := 19) (v := .int y774) C0 V i_DR rfl rfl hO764 (by decide) w_2023 rfl d_15_53_290 ?_
                exact q_reti C0 V (⟨hI, hF, y765, y766, y767, y768, y769, y770, y771, y772, y773, y774, y775, f776, hO764, hA777, (show 0 ≤ y774.toInt from (by have t1 : 0 ≤ lx73.toInt := i83; have t2 : lx73.toInt ≤ y774.toInt := b797; omega)), (show y774.toInt ≤ 12200 from (by first | with_reducible exact q_fe b778 | (have t1 : y774.toInt ≤ 12200 := b778; omega))), (show t0_1.toInt ≤ y766.toInt from (by have t1 : t0_1.toInt ≤ lx65.toInt := i87; have t2 : lx65.toInt ≤ y766.toInt := b781; omega)), (show y766.toInt ≤ t0_1.toInt from (by have t1 : lx65.toInt ≤ t0_1.toInt := i88; have t2 : y766.toInt ≤ lx65.toInt := b782; omega)), (show t0_2.toInt ≤ y767.toInt from (by have t1 : t0_2.toInt ≤ lx66.toInt := i89; have t2 : lx66.toInt ≤ y767.toInt := b783; omega)), (show y767.toInt ≤ t0_2.toInt from (by have t1 : lx66.toInt ≤ t0_2.toInt := i90; have t2 : y767.toInt ≤ lx66.toInt := b784; omega)), (show t0_3.toInt ≤ y768.toInt from (by have t1 : t0_3.toInt ≤ lx67.toInt := i91; have t2 : lx67.toInt ≤ y768.toInt := b785; omega)), (show y768.toInt ≤ t0_3.toInt from (by have t1 : lx67.toInt ≤ t0_3.toInt := i92; have t2 : y768.toInt ≤ lx67.toInt := b786; omega)), (show t0_4.toInt ≤ y769.toInt from (by have t1 : t0_4.toInt ≤ lx68.toInt := i93; have t2 : lx68.toInt ≤ y769.toInt := b787; omega)), (show y769.toInt ≤ t0_4.toInt from (by have t1 : lx68.toInt ≤ t0_4.toInt := i94; have t2 : y769.toInt ≤ lx68.toInt := b788; omega)), (show t0_5.toInt ≤ y770.toInt from (by have t1 : t0_5.toInt ≤ lx69.toInt := i95; have t2 : lx69.toInt ≤ y770.toInt := b789; omega)), (show y770.toInt ≤ t0_5.toInt from (by have t1 : lx69.toInt ≤ t0_5.toInt := i96; have t2 : y770.toInt ≤ lx69.toInt := b790; omega)), (show t0_6.toInt ≤ y771.toInt from (by have t1 : t0_6.toInt ≤ lx70.toInt := i97; have t2 : lx70.toInt ≤ y771.toInt := b791; omega)), (show y771.toInt ≤ t0_6.toInt from (by have t1 : lx70.toInt ≤ t0_6.toInt := i98; have t2 : y771.toInt ≤ lx70.toInt := b792; omega)), (show t0_7.toInt ≤ y772.toInt from (by have t1 : t0_7.toInt ≤ lx71.toInt := i99; have t2 : lx71.toInt ≤ y772.toInt := b793; omega)), (show y772.toInt ≤ t0_7.toInt from (by have t1 : lx71.toInt ≤ t0_7.toInt := i100; have t2 : y772.toInt ≤ lx71.toInt := b794; omega)), (show t0_8.toInt ≤ y773.toInt from (by have t1 : t0_8.toInt ≤ lx72.toInt := i101; have t2 : lx72.toInt ≤ y773.toInt := b795; omega)), (show y773.toInt ≤ t0_8.toInt from (by have t1 : lx72.toInt ≤ t0_8.toInt := i102; have t2 : y773.toInt ≤ lx72.toInt := b796; omega)), (show t0_10.toInt ≤ y775.toInt from (by have t1 : t0_10.toInt ≤ lx74.toInt := i103; have t2 : lx74.toInt ≤ y775.toInt := b798; omega)), (show y775.toInt ≤ t0_10.toInt from (by have t1 : lx74.toInt ≤ t0_10.toInt := i104; have t2 : y775.toInt ≤ lx74.toInt := b799; omega)), (show y774.toInt ≤ y774.toInt from (by omega)), (show (y774, y765, y766, y767, y768, y769, y770, y771, y772, y773, y774, y775, f776) = (F_DR_written x2 x3 t0_0 t0_1 t0_2 t0_3 t0_4 t0_5 t0_6 t0_7 t0_8 t0_9 t0_10 t1_0 t2_0 t3_0 t4_0 t5_0) from Eq.trans (by rw [e815, e814, e813, e812, e811, e810, e809, e808, e807, e806, e805, e804, F_DR_written_c107.eq_1]) hR816)⟩) d_15_53_293
              ·
                refine lv_iconst (v := 1) hx hb d_15_53_98 (by decide) ?_
                refine lv_goto (tgt := 106) hx hb d_15_53_99 (by decide) ?_
                refine lv_iconst (v := (-1)) hx hb d_15_53_106 (by decide) ?_
                have ob822 : True ∧ S_DR_figures x2 (0 : Int32) (1 : Int32) (-1 : Int32) lx64 lx65 lx66 lx67 lx68 lx69 lx70 lx71 lx72 lx73 lx74 t1_0 t2_0 lx75 := (by have h := hS107; rw [S_DR_written_J54.eq_1] at h; rw [if_pos c743] at h; have c746x := c746; rw [← e114] at c746x; rw [if_neg c746x] at h; replace h := q_s2 h; have c757x := c757; rw [e756] at c757x; rw [if_neg c757x] at h; with_reducible exact h.2.1)
                refine q_gov V (q_runV (As := [.int x2, .int 0, .int 1, .int (-1)]) (rest := []) (d := 2) (mc := 0) (ms := 0) (ci := 14) C0 V rfl LV_DR_192 (X_DR_figures l D g q w105  x2 0 1 (-1) hI lx64 lx65 lx66 lx67 lx68 lx69 lx70 lx71 lx72 lx73 lx74 hO76 t1_0 hA77 t2_0 hA78 lx75 hA81 ob822 _) rfl rfl hO76 rfl hl.1 rfl (Nat.le_of_ble_eq_true rfl) ⟨by decide, by decide⟩ ⟨Nat.le_of_ble_eq_true rfl, Nat.le_of_ble_eq_true rfl⟩ d_15_53_107) (fun u823 H locs hp824 V => ?_)
                obtain ⟨hI, hZ9⟩ := hp824
                obtain ⟨hu862, hZ9⟩ := hZ9
                obtain ⟨y826, hZ9⟩ := hZ9
                obtain ⟨y827, hZ9⟩ := hZ9
                obtain ⟨y828, hZ9⟩ := hZ9
                obtain ⟨y829, hZ9⟩ := hZ9
                obtain ⟨y830, hZ9⟩ := hZ9
                obtain ⟨y831, hZ9⟩ := hZ9
                obtain ⟨y832, hZ9⟩ := hZ9
                obtain ⟨y833, hZ9⟩ := hZ9
                obtain ⟨y834, hZ9⟩ := hZ9
                obtain ⟨y835, hZ9⟩ := hZ9
                obtain ⟨y836, hZ9⟩ := hZ9
                obtain ⟨f837, hZ9⟩ := hZ9
                obtain ⟨hO825, hZ9⟩ := hZ9
                obtain ⟨hA838, hZ9⟩ := hZ9
                obtain ⟨b839, hZ9⟩ := hZ9
                replace hZ9 := hZ9.2.2
                obtain ⟨b842, hZ9⟩ := hZ9
                obtain ⟨b843, hZ9⟩ := hZ9
                obtain ⟨b844, hZ9⟩ := hZ9
                obtain ⟨b845, hZ9⟩ := hZ9
                obtain ⟨b846, hZ9⟩ := hZ9
                obtain ⟨b847, hZ9⟩ := hZ9
                obtain ⟨b848, hZ9⟩ := hZ9
                obtain ⟨b849, hZ9⟩ := hZ9
                obtain ⟨b850, hZ9⟩ := hZ9
                obtain ⟨b851, hZ9⟩ := hZ9
                obtain ⟨b852, hZ9⟩ := hZ9
                obtain ⟨b853, hZ9⟩ := hZ9
                obtain ⟨b854, hZ9⟩ := hZ9
                obtain ⟨b855, hZ9⟩ := hZ9
                obtain ⟨b856, hZ9⟩ := hZ9
                obtain ⟨b857, hZ9⟩ := hZ9
                obtain ⟨b858, hZ9⟩ := hZ9
                obtain ⟨b859, hZ9⟩ := hZ9
                obtain ⟨b860, hE861⟩ := hZ9
                replace hO825 : u823[134]? = (some (q 134, .inr (14, [.int y826, .ref (q 135), .int y827, .ref (q 136), .ref (q 137), .ref (q 138), .ref (q 139), .ref (q 140), .int y828, .long y829, .int y830, .int y831, .ref (q 141), .int y832, .ref (q 142), .int y833, .ref (q 143), .int y834, .ref (q 144), .int y835, .int y836])) : Option (Nat × va_E)) := hO825
                replace hA838 : u823[144]? = (some (q 144, .inl (g 0, (12200 : Int32).toNatClampNeg, .inl f837)) : Option (Nat × va_E)) := hA838
                obtain ⟨p863, e864⟩ : ∃ z, z = (F_DR_figures x2 (0 : Int32) (1 : Int32) (-1 : Int32) lx64 lx65 lx66 lx67 lx68 lx69 lx70 lx71 lx72 lx73 lx74 t1_0 t2_0 lx75) := ⟨_, rfl⟩
                have e865 : y826 = p863.1 := congrArg (fun z => z.1) (hE861.trans e864.symm)
                have e866 : y827 = p863.2.1 := congrArg (fun z => z.2.1) (hE861.trans e864.symm)
                have e867 : y828 = p863.2.2.1 := congrArg (fun z => z.2.2.1) (hE861.trans e864.symm)
                have e868 : y829 = p863.2.2.2.1 := congrArg (fun z => z.2.2.2.1) (hE861.trans e864.symm)
                have e869 : y830 = p863.2.2.2.2.1 := congrArg (fun z => z.2.2.2.2.1) (hE861.trans e864.symm)
                have e870 : y831 = p863.2.2.2.2.2.1 := congrArg (fun z => z.2.2.2.2.2.1) (hE861.trans e864.symm)
                have e871 : y832 = p863.2.2.2.2.2.2.1 := congrArg (fun z => z.2.2.2.2.2.2.1) (hE861.trans e864.symm)
                have e872 : y833 = p863.2.2.2.2.2.2.2.1 := congrArg (fun z => z.2.2.2.2.2.2.2.1) (hE861.trans e864.symm)
                have e873 : y834 = p863.2.2.2.2.2.2.2.2.1 := congrArg (fun z => z.2.2.2.2.2.2.2.2.1) (hE861.trans e864.symm)
                have e874 : y835 = p863.2.2.2.2.2.2.2.2.2.1 := congrArg (fun z => z.2.2.2.2.2.2.2.2.2.1) (hE861.trans e864.symm)
                have e875 : y836 = p863.2.2.2.2.2.2.2.2.2.2.1 := congrArg (fun z => z.2.2.2.2.2.2.2.2.2.2.1) (hE861.trans e864.symm)
                have e876 : f837 = p863.2.2.2.2.2.2.2.2.2.2.2 := congrArg (fun z => z.2.2.2.2.2.2.2.2.2.2.2) (hE861.trans e864.symm)
                replace b839 : q_F (y835.toInt ≤ 12200) := b839
                replace b842 : q_F (lx65.toInt ≤ y827.toInt) := b842
                replace b843 : q_F (y827.toInt ≤ lx65.toInt) := b843
                replace b844 : q_F (lx66.toInt ≤ y828.toInt) := b844
                replace b845 : q_F (y828.toInt ≤ lx66.toInt) := b845
                replace b846 : q_F (lx67.toInt ≤ y829.toInt) := b846
                replace b847 : q_F (y829.toInt ≤ lx67.toInt) := b847
                replace b848 : q_F (lx68.toInt ≤ y830.toInt) := b848
                replace b849 : q_F (y830.toInt ≤ lx68.toInt) := b849
                replace b850 : q_F (lx69.toInt ≤ y831.toInt) := b850
                replace b851 : q_F (y831.toInt ≤ lx69.toInt) := b851
                replace b852 : q_F (lx70.toInt ≤ y832.toInt) := b852
                replace b853 : q_F (y832.toInt ≤ lx70.toInt) := b853
                replace b854 : q_F (lx71.toInt ≤ y833.toInt) := b854
                replace b855 : q_F (y833.toInt ≤ lx71.toInt) := b855
                replace b856 : q_F (lx72.toInt ≤ y834.toInt) := b856
                replace b857 : q_F (y834.toInt ≤ lx72.toInt) := b857
                replace b858 : q_F (lx73.toInt ≤ y835.toInt) := b858
                replace b859 : q_F (lx74.toInt ≤ y836.toInt) := b859
                replace b860 : q_F (y836.toInt ≤ lx74.toInt) := b860
                replace hF := q_uc hF hu862 (by simp)
                have hR877 := (show F_DR_written_c107_17 x2 x3 t0_0 t0_1 t0_2 t0_3 t0_4 t0_5 t0_6 t0_7 t0_8 t0_9 t0_10 t1_0 t2_0 t3_0 t4_0 t5_0 lx39 lx64 lx65 lx66 lx67 lx68 lx69 lx70 lx71 lx72 lx73 lx74 lx75 a117 a113 a111 p863 = (F_DR_written x2 x3 t0_0 t0_1 t0_2 t0_3 t0_4 t0_5 t0_6 t0_7 t0_8 t0_9 t0_10 t1_0 t2_0 t3_0 t4_0 t5_0) from Eq.trans (by have c746x := c746; rw [← e114] at c746x; have c757x := c757; rw [e756] at c757x; rw [e864, ← e118, ← e116, ← e114, ← e112, F_DR_written_J54.eq_1, if_pos c743, if_neg c746x, if_neg c757x]) hR106)
                have hS878 := (show True ∧ S_DR_written_c107_17 x2 x3 t0_0 t0_1 t0_2 t0_3 t0_4 t0_5 t0_6 t0_7 t0_8 t0_9 t0_10 t1_0 t2_0 t3_0 t4_0 t5_0 lx39 lx64 lx65 lx66 lx67 lx68 lx69 lx70 lx71 lx72 lx73 lx74 lx75 a117 a113 a111 p863 from (by rw [e864, ← e118, ← e116, ← e114, ← e112]; have h := hS107; rw [S_DR_written_J54.eq_1] at h; rw [if_pos c743] at h; have c746x := c746; rw [← e114] at c746x; rw [if_neg c746x] at h; replace h := q_s2 h; have c757x := c757; rw [e756] at c757x; rw [if_neg c757x] at h; replace h := q_s2 h; with_reducible exact h))
                refine lv_goto (tgt := 289) hx hb d_15_53_110 (by decide) ?_
                refine lv_aload_n hx hb d_15_53_289 rfl (lv_at hl 3 rfl) ?_
                refine q_get (ci := 14) (j := 19) (v := .int y835) C0 V i_DR rfl rfl hO825 (by decide) w_2023 rfl d_15_53_290 ?_
                exact q_reti C0 V (⟨hI, hF, y826, y827, y828, y829, y830, y831, y832, y833, y834, y835, y836, f837, hO825, hA838, (show 0 ≤ y835.toInt from (by have t1 : 0 ≤ lx73.toInt := i83; have t2 : lx73.toInt ≤ y835.toInt := b858; omega)), (show y835.toInt ≤ 12200 from (by first | with_reducible exact q_fe b839 | (have t1 : y835.toInt ≤ 12200 := b839; omega))), (show t0_1.toInt ≤ y827.toInt from (by have t1 : t0_1.toInt ≤ lx65.toInt := i87; have t2 : lx65.toInt ≤ y827.toInt := b842; omega)), (show y827.toInt ≤ t0_1.toInt from (by have t1 : lx65.toInt ≤ t0_1.toInt := i88; have t2 : y827.toInt ≤ lx65.toInt := b843; omega)), (show t0_2.toInt ≤ y828.toInt from (by have t1 : t0_2.toInt ≤ lx66.toInt := i89; have t2 : lx66.toInt ≤ y828.toInt := b844; omega)), (show y828.toInt ≤ t0_2.toInt from (by have t1 : lx66.toInt ≤ t0_2.toInt := i90; have t2 : y828.toInt ≤ lx66.toInt := b845; omega)), (show t0_3.toInt ≤ y829.toInt from (by have t1 : t0_3.toInt ≤ lx67.toInt := i91; have t2 : lx67.toInt ≤ y829.toInt := b846; omega)), (show y829.toInt ≤ t0_3.toInt from (by have t1 : lx67.toInt ≤ t0_3.toInt := i92; have t2 : y829.toInt ≤ lx67.toInt := b847; omega)), (show t0_4.toInt ≤ y830.toInt from (by have t1 : t0_4.toInt ≤ lx68.toInt := i93; have t2 : lx68.toInt ≤ y830.toInt := b848; omega)), (show y830.toInt ≤ t0_4.toInt from (by have t1 : lx68.toInt ≤ t0_4.toInt := i94; have t2 : y830.toInt ≤ lx68.toInt := b849; omega)), (show t0_5.toInt ≤ y831.toInt from (by have t1 : t0_5.toInt ≤ lx69.toInt := i95; have t2 : lx69.toInt ≤ y831.toInt := b850; omega)), (show y831.toInt ≤ t0_5.toInt from (by have t1 : lx69.toInt ≤ t0_5.toInt := i96; have t2 : y831.toInt ≤ lx69.toInt := b851; omega)), (show t0_6.toInt ≤ y832.toInt from (by have t1 : t0_6.toInt ≤ lx70.toInt := i97; have t2 : lx70.toInt ≤ y832.toInt := b852; omega)), (show y832.toInt ≤ t0_6.toInt from (by have t1 : lx70.toInt ≤ t0_6.toInt := i98; have t2 : y832.toInt ≤ lx70.toInt := b853; omega)), (show t0_7.toInt ≤ y833.toInt from (by have t1 : t0_7.toInt ≤ lx71.toInt := i99; have t2 : lx71.toInt ≤ y833.toInt := b854; omega)), (show y833.toInt ≤ t0_7.toInt from (by have t1 : lx71.toInt ≤ t0_7.toInt := i100; have t2 : y833.toInt ≤ lx71.toInt := b855; omega)), (show t0_8.toInt ≤ y834.toInt from (by have t1 : t0_8.toInt ≤ lx72.toInt := i101; have t2 : lx72.toInt ≤ y834.toInt := b856; omega)), (show y834.toInt ≤ t0_8.toInt from (by have t1 : lx72.toInt ≤ t0_8.toInt := i102; have t2 : y834.toInt ≤ lx72.toInt := b857; omega)), (show t0_10.toInt ≤ y836.toInt from (by have t1 : t0_10.toInt ≤ lx74.toInt := i103; have t2 : lx74.toInt ≤ y836.toInt := b859; omega)), (show y836.toInt ≤ t0_10.toInt from (by have t1 : lx74.toInt ≤ t0_10.toInt := i104; have t2 : y836.toInt ≤ lx74.toInt := b860; omega)), (show y835.toInt ≤ y835.toInt from (by omega)), (show (y835, y826, y827, y828, y829, y830, y831, y832, y833, y834, y835, y836, f837) = (F_DR_written x2 x3 t0_0 t0_1 t0_2 t0_3 t0_4 t0_5 t0_6 t0_7 t0_8 t0_9 t0_10 t1_0 t2_0 t3_0 t4_0 t5_0) from Eq.trans (by rw [e876, e875, e874, e873, e872, e871, e870, e869, e868, e867, e866, e865, F_DR_written_c107_17.eq_1]) hR877)⟩) d_15_53_293
      ·
        intro J82
        refine lv_if_eq (tgt := 54) hx hb d_15_53_45 (by decide) (fun c882 => ?_) (fun c882 => ?_)
        ·
          exact J82 ((lx39 : Int32), (t0_1 : Int32), (t0_2 : Int32), (t0_3 : Int64), (t0_4 : Int32), (t0_5 : Int32), (t0_6 : Int32), (t0_7 : Int32), (t0_8 : Int32), (0 : Int32), (t0_10 : Int32), (t5_0 : (Nat → Int32))) _ _ _ _ ⟨(show q_F (0 ≤ 0) from (show 0 ≤ 0 from by omega)), (show q_F (0 ≤ 1) from (show 0 ≤ 1 from by omega)), (show q_F (lx39.toInt ≤ lx39.toInt) from (show lx39.toInt ≤ lx39.toInt from by omega)), (show q_F (lx39.toInt ≤ lx39.toInt) from (show lx39.toInt ≤ lx39.toInt from by omega)), (show q_F (t0_1.toInt ≤ t0_1.toInt) from (show t0_1.toInt ≤ t0_1.toInt from by omega)), (show q_F (t0_1.toInt ≤ t0_1.toInt) from (show t0_1.toInt ≤ t0_1.toInt from by omega)), (show q_F (t0_2.toInt ≤ t0_2.toInt) from (show t0_2.toInt ≤ t0_2.toInt from by omega)), (show q_F (t0_2.toInt ≤ t0_2.toInt) from (show t0_2.toInt ≤ t0_2.toInt from by omega)), (show q_F (t0_3.toInt ≤ t0_3.toInt) from (show t0_3.toInt ≤ t0_3.toInt from by omega)), (show q_F (t0_3.toInt ≤ t0_3.toInt) from (show t0_3.toInt ≤ t0_3.toInt from by omega)), (show q_F (t0_4.toInt ≤ t0_4.toInt) from (show t0_4.toInt ≤ t0_4.toInt from by omega)), (show q_F (t0_4.toInt ≤ t0_4.toInt) from (show t0_4.toInt ≤ t0_4.toInt from by omega)), (show q_F (t0_5.toInt ≤ t0_5.toInt) from (show t0_5.toInt ≤ t0_5.toInt from by omega)), (show q_F (t0_5.toInt ≤ t0_5.toInt) from (show t0_5.toInt ≤ t0_5.toInt from by omega)), (show q_F (t0_6.toInt ≤ t0_6.toInt) from (show t0_6.toInt ≤ t0_6.toInt from by omega)), (show q_F (t0_6.toInt ≤ t0_6.toInt) from (show t0_6.toInt ≤ t0_6.toInt from by omega)), (show q_F (t0_7.toInt ≤ t0_7.toInt) from (show t0_7.toInt ≤ t0_7.toInt from by omega)), (show q_F (t0_7.toInt ≤ t0_7.toInt) from (show t0_7.toInt ≤ t0_7.toInt from by omega)), (show q_F (t0_8.toInt ≤ t0_8.toInt) from (show t0_8.toInt ≤ t0_8.toInt from by omega)), (show q_F (t0_8.toInt ≤ t0_8.toInt) from (show t0_8.toInt ≤ t0_8.toInt from by omega)), (show q_F (t0_10.toInt ≤ t0_10.toInt) from (show t0_10.toInt ≤ t0_10.toInt from by omega)), (show q_F (t0_10.toInt ≤ t0_10.toInt) from (show t0_10.toInt ≤ t0_10.toInt from by omega)), V, q_lw hl (q_lw1 0 rfl (q_lw1 1 rfl (q_lw1 2 rfl q_lw0))), hI, hF, hT0, hT1, hT2, hT3, hT4, hT5, (show F_DR_written_J54 x2 x3 t0_0 t0_1 t0_2 t0_3 t0_4 t0_5 t0_6 t0_7 t0_8 t0_9 t0_10 t1_0 t2_0 t3_0 t4_0 t5_0 lx39 lx39 t0_1 t0_2 t0_3 t0_4 t0_5 t0_6 t0_7 t0_8 0 t0_10 t5_0 = (F_DR_written x2 x3 t0_0 t0_1 t0_2 t0_3 t0_4 t0_5 t0_6 t0_7 t0_8 t0_9 t0_10 t1_0 t2_0 t3_0 t4_0 t5_0) from Eq.trans (by have c882x := c882; rw [← e63] at c882x; rw [F_DR_written_J22.eq_1, if_pos c56, if_pos c882x]) hR49), (show True ∧ S_DR_written_J54 x2 x3 t0_0 t0_1 t0_2 t0_3 t0_4 t0_5 t0_6 t0_7 t0_8 t0_9 t0_10 t1_0 t2_0 t3_0 t4_0 t5_0 lx39 lx39 t0_1 t0_2 t0_3 t0_4 t0_5 t0_6 t0_7 t0_8 0 t0_10 t5_0 from (by have h := hS50; rw [S_DR_written_J22.eq_1] at h; rw [if_pos c56] at h; replace h := q_s2 h; replace h := q_s2 h; have c882x := c882; rw [← e63] at c882x; rw [if_pos c882x] at h; with_reducible exact h))⟩
        ·
          refine lv_aload_n hx hb d_15_53_48 rfl (lv_at hl 0 rfl) ?_
          refine lv_bipush (v := 45) hx hb d_15_53_49 (by decide) ?_
          have ob885 : True ∧ S_DR_print (45 : Int32) lx39 t0_1 t0_2 t0_3 t0_4 t0_5 t0_6 t0_7 t0_8 (0 : Int32) t0_10 t5_0 := (by have h := hS50; rw [S_DR_written_J22.eq_1] at h; rw [if_pos c56] at h; replace h := q_s2 h; replace h := q_s2 h; have c882x := c882; rw [← e63] at c882x; rw [if_neg c882x] at h; with_reducible exact h.2.1)
          refine q_gov V (q_runV (As := [.int 45]) (rest := []) (d := 1) (mc := 0) (ms := 0) (ci := 14) C0 V rfl LV_DR_189 (X_DR_print l D g q w58  45 hI lx39 t0_1 t0_2 t0_3 t0_4 t0_5 t0_6 t0_7 t0_8 0 t0_10 hT0 t5_0 hT5 ob885 _) rfl rfl hT0 rfl hl.1 rfl (Nat.le_of_ble_eq_true rfl) ⟨by decide, by decide⟩ ⟨Nat.le_of_ble_eq_true rfl, Nat.le_of_ble_eq_true rfl⟩ d_15_53_51) (fun u886 H locs hp887 V => ?_)
          obtain ⟨hI, hZ9⟩ := hp887
          obtain ⟨hu926, hZ9⟩ := hZ9
          obtain ⟨y889, hZ9⟩ := hZ9
          obtain ⟨y890, hZ9⟩ := hZ9
          obtain ⟨y891, hZ9⟩ := hZ9
          obtain ⟨y892, hZ9⟩ := hZ9
          obtain ⟨y893, hZ9⟩ := hZ9
          obtain ⟨y894, hZ9⟩ := hZ9
          obtain ⟨y895, hZ9⟩ := hZ9
          obtain ⟨y896, hZ9⟩ := hZ9
          obtain ⟨y897, hZ9⟩ := hZ9
          obtain ⟨y898, hZ9⟩ := hZ9
          obtain ⟨y899, hZ9⟩ := hZ9
          obtain ⟨f900, hZ9⟩ := hZ9
          obtain ⟨hO888, hZ9⟩ := hZ9
          obtain ⟨hA901, hZ9⟩ := hZ9
          replace hZ9 := hZ9.2
          obtain ⟨b903, hZ9⟩ := hZ9
          obtain ⟨b904, hZ9⟩ := hZ9
          obtain ⟨b905, hZ9⟩ := hZ9
          obtain ⟨b906, hZ9⟩ := hZ9
          obtain ⟨b907, hZ9⟩ := hZ9
          obtain ⟨b908, hZ9⟩ := hZ9
          obtain ⟨b909, hZ9⟩ := hZ9
          obtain ⟨b910, hZ9⟩ := hZ9
          obtain ⟨b911, hZ9⟩ := hZ9
          obtain ⟨b912, hZ9⟩ := hZ9
          obtain ⟨b913, hZ9⟩ := hZ9
          obtain ⟨b914, hZ9⟩ := hZ9
          obtain ⟨b915, hZ9⟩ := hZ9
          obtain ⟨b916, hZ9⟩ := hZ9
          obtain ⟨b917, hZ9⟩ := hZ9
          obtain ⟨b918, hZ9⟩ := hZ9
          obtain ⟨b919, hZ9⟩ := hZ9
          obtain ⟨b920, hZ9⟩ := hZ9
          obtain ⟨b921, hZ9⟩ := hZ9
          obtain ⟨b922, hZ9⟩ := hZ9
          obtain ⟨b923, hZ9⟩ := hZ9
          obtain ⟨b924, hE925⟩ := hZ9
          replace hO888 : u886[134]? = (some (q 134, .inr (14, [.int y889, .ref (q 135), .int y890, .ref (q 136), .ref (q 137), .ref (q 138), .ref (q 139), .ref (q 140), .int y891, .long y892, .int y893, .int y894, .ref (q 141), .int y895, .ref (q 142), .int y896, .ref (q 143), .int y897, .ref (q 144), .int y898, .int y899])) : Option (Nat × va_E)) := hO888
          replace hA901 : u886[144]? = (some (q 144, .inl (g 0, (12200 : Int32).toNatClampNeg, .inl f900)) : Option (Nat × va_E)) := hA901
          obtain ⟨p927, e928⟩ : ∃ z, z = (F_DR_print (45 : Int32) lx39 t0_1 t0_2 t0_3 t0_4 t0_5 t0_6 t0_7 t0_8 (0 : Int32) t0_10 t5_0) := ⟨_, rfl⟩
          have e929 : y889 = p927.1 := congrArg (fun z => z.1) (hE925.trans e928.symm)
          have e930 : y890 = p927.2.1 := congrArg (fun z => z.2.1) (hE925.trans e928.symm)
          have e931 : y891 = p927.2.2.1 := congrArg (fun z => z.2.2.1) (hE925.trans e928.symm)
          have e932 : y892 = p927.2.2.2.1 := congrArg (fun z => z.2.2.2.1) (hE925.trans e928.symm)
          have e933 : y893 = p927.2.2.2.2.1 := congrArg (fun z => z.2.2.2.2.1) (hE925.trans e928.symm)
          have e934 : y894 = p927.2.2.2.2.2.1 := congrArg (fun z => z.2.2.2.2.2.1) (hE925.trans e928.symm)
          have e935 : y895 = p927.2.2.2.2.2.2.1 := congrArg (fun z => z.2.2.2.2.2.2.1) (hE925.trans e928.symm)
          have e936 : y896 = p927.2.2.2.2.2.2.2.1 := congrArg (fun z => z.2.2.2.2.2.2.2.1) (hE925.trans e928.symm)
          have e937 : y897 = p927.2.2.2.2.2.2.2.2.1 := congrArg (fun z => z.2.2.2.2.2.2.2.2.1) (hE925.trans e928.symm)
          have e938 : y898 = p927.2.2.2.2.2.2.2.2.2.1 := congrArg (fun z => z.2.2.2.2.2.2.2.2.2.1) (hE925.trans e928.symm)
          have e939 : y899 = p927.2.2.2.2.2.2.2.2.2.2.1 := congrArg (fun z => z.2.2.2.2.2.2.2.2.2.2.1) (hE925.trans e928.symm)
          have e940 : f900 = p927.2.2.2.2.2.2.2.2.2.2.2 := congrArg (fun z => z.2.2.2.2.2.2.2.2.2.2.2) (hE925.trans e928.symm)
          replace b903 : q_F (lx39.toInt ≤ y889.toInt) := b903
          replace b904 : q_F (y889.toInt ≤ lx39.toInt) := b904
          replace b905 : q_F (t0_1.toInt ≤ y890.toInt) := b905
          replace b906 : q_F (y890.toInt ≤ t0_1.toInt) := b906
          replace b907 : q_F (t0_2.toInt ≤ y891.toInt) := b907
          replace b908 : q_F (y891.toInt ≤ t0_2.toInt) := b908
          replace b909 : q_F (t0_3.toInt ≤ y892.toInt) := b909
          replace b910 : q_F (y892.toInt ≤ t0_3.toInt) := b910
          replace b911 : q_F (t0_4.toInt ≤ y893.toInt) := b911
          replace b912 : q_F (y893.toInt ≤ t0_4.toInt) := b912
          replace b913 : q_F (t0_5.toInt ≤ y894.toInt) := b913
          replace b914 : q_F (y894.toInt ≤ t0_5.toInt) := b914
          replace b915 : q_F (t0_6.toInt ≤ y895.toInt) := b915
          replace b916 : q_F (y895.toInt ≤ t0_6.toInt) := b916
          replace b917 : q_F (t0_7.toInt ≤ y896.toInt) := b917
          replace b918 : q_F (y896.toInt ≤ t0_7.toInt) := b918
          replace b919 : q_F (t0_8.toInt ≤ y897.toInt) := b919
          replace b920 : q_F (y897.toInt ≤ t0_8.toInt) := b920
          replace b921 : q_F (0 + 1 ≤ y898.toInt) := b921
          replace b922 : q_F (y898.toInt ≤ 0 + 1) := b922
          replace b923 : q_F (t0_10.toInt ≤ y899.toInt) := b923
          replace b924 : q_F (y899.toInt ≤ t0_10.toInt) := b924
          replace hT1 := (hu926 _ (by decide)).trans hT1
          replace hT2 := (hu926 _ (by decide)).trans hT2
          replace hT3 := (hu926 _ (by decide)).trans hT3
          replace hT4 := (hu926 _ (by decide)).trans hT4
          replace hF := q_uc hF hu926 (by simp)
          have hR941 := (show F_DR_written_c51 x2 x3 t0_0 t0_1 t0_2 t0_3 t0_4 t0_5 t0_6 t0_7 t0_8 t0_9 t0_10 t1_0 t2_0 t3_0 t4_0 t5_0 lx39 p927 = (F_DR_written x2 x3 t0_0 t0_1 t0_2 t0_3 t0_4 t0_5 t0_6 t0_7 t0_8 t0_9 t0_10 t1_0 t2_0 t3_0 t4_0 t5_0) from Eq.trans (by have c882x := c882; rw [← e63] at c882x; rw [e928, F_DR_written_J22.eq_1, if_pos c56, if_neg c882x]) hR49)
          have hS942 := (show True ∧ S_DR_written_c51 x2 x3 t0_0 t0_1 t0_2 t0_3 t0_4 t0_5 t0_6 t0_7 t0_8 t0_9 t0_10 t1_0 t2_0 t3_0 t4_0 t5_0 lx39 p927 from (by rw [e928]; have h := hS50; rw [S_DR_written_J22.eq_1] at h; rw [if_pos c56] at h; replace h := q_s2 h; replace h := q_s2 h; have c882x := c882; rw [← e63] at c882x; rw [if_neg c882x] at h; replace h := q_s2 h; with_reducible exact h))
          exact J82 ((y889 : Int32), (y890 : Int32), (y891 : Int32), (y892 : Int64), (y893 : Int32), (y894 : Int32), (y895 : Int32), (y896 : Int32), (y897 : Int32), (y898 : Int32), (y899 : Int32), (f900 : (Nat → Int32))) _ _ _ _ ⟨(show q_F (0 ≤ y898.toInt) from (show 0 ≤ y898.toInt from by have t1 : 0 + 1 ≤ y898.toInt := b921; omega)), (show q_F (y898.toInt ≤ 1) from (show y898.toInt ≤ 1 from by have t1 : y898.toInt ≤ 0 + 1 := b922; omega)), (show q_F (lx39.toInt ≤ y889.toInt) from (show lx39.toInt ≤ y889.toInt from by have t1 : lx39.toInt ≤ y889.toInt := b903; omega)), (show q_F (y889.toInt ≤ lx39.toInt) from (show y889.toInt ≤ lx39.toInt from by have t1 : y889.toInt ≤ lx39.toInt := b904; omega)), (show q_F (t0_1.toInt ≤ y890.toInt) from (show t0_1.toInt ≤ y890.toInt from by have t1 : t0_1.toInt ≤ y890.toInt := b905; omega)), (show q_F (y890.toInt ≤ t0_1.toInt) from (show y890.toInt ≤ t0_1.toInt from by have t1 : y890.toInt ≤ t0_1.toInt := b906; omega)), (show q_F (t0_2.toInt ≤ y891.toInt) from (show t0_2.toInt ≤ y891.toInt from by have t1 : t0_2.toInt ≤ y891.toInt := b907; omega)), (show q_F (y891.toInt ≤ t0_2.toInt) from (show y891.toInt ≤ t0_2.toInt from by have t1 : y891.toInt ≤ t0_2.toInt := b908; omega)), (show q_F (t0_3.toInt ≤ y892.toInt) from (show t0_3.toInt ≤ y892.toInt from by have t1 : t0_3.toInt ≤ y892.toInt := b909; omega)), (show q_F (y892.toInt ≤ t0_3.toInt) from (show y892.toInt ≤ t0_3.toInt from by have t1 : y892.toInt ≤ t0_3.toInt := b910; omega)), (show q_F (t0_4.toInt ≤ y893.toInt) from (show t0_4.toInt ≤ y893.toInt from by have t1 : t0_4.toInt ≤ y893.toInt := b911; omega)), (show q_F (y893.toInt ≤ t0_4.toInt) from (show y893.toInt ≤ t0_4.toInt from by have t1 : y893.toInt ≤ t0_4.toInt := b912; omega)), (show q_F (t0_5.toInt ≤ y894.toInt) from (show t0_5.toInt ≤ y894.toInt from by have t1 : t0_5.toInt ≤ y894.toInt := b913; omega)), (show q_F (y894.toInt ≤ t0_5.toInt) from (show y894.toInt ≤ t0_5.toInt from by have t1 : y894.toInt ≤ t0_5.toInt := b914; omega)), (show q_F (t0_6.toInt ≤ y895.toInt) from (show t0_6.toInt ≤ y895.toInt from by have t1 : t0_6.toInt ≤ y895.toInt := b915; omega)), (show q_F (y895.toInt ≤ t0_6.toInt) from (show y895.toInt ≤ t0_6.toInt from by have t1 : y895.toInt ≤ t0_6.toInt := b916; omega)), (show q_F (t0_7.toInt ≤ y896.toInt) from (show t0_7.toInt ≤ y896.toInt from by have t1 : t0_7.toInt ≤ y896.toInt := b917; omega)), (show q_F (y896.toInt ≤ t0_7.toInt) from (show y896.toInt ≤ t0_7.toInt from by have t1 : y896.toInt ≤ t0_7.toInt := b918; omega)), (show q_F (t0_8.toInt ≤ y897.toInt) from (show t0_8.toInt ≤ y897.toInt from by have t1 : t0_8.toInt ≤ y897.toInt := b919; omega)), (show q_F (y897.toInt ≤ t0_8.toInt) from (show y897.toInt ≤ t0_8.toInt from by have t1 : y897.toInt ≤ t0_8.toInt := b920; omega)), (show q_F (t0_10.toInt ≤ y899.toInt) from (show t0_10.toInt ≤ y899.toInt from by have t1 : t0_10.toInt ≤ y899.toInt := b923; omega)), (show q_F (y899.toInt ≤ t0_10.toInt) from (show y899.toInt ≤ t0_10.toInt from by have t1 : y899.toInt ≤ t0_10.toInt := b924; omega)), V, q_lw hl (q_lw1 0 rfl (q_lw1 1 rfl (q_lw1 2 rfl q_lw0))), hI, hF, hO888, hT1, hT2, hT3, hT4, hA901, (show F_DR_written_J54 x2 x3 t0_0 t0_1 t0_2 t0_3 t0_4 t0_5 t0_6 t0_7 t0_8 t0_9 t0_10 t1_0 t2_0 t3_0 t4_0 t5_0 lx39 y889 y890 y891 y892 y893 y894 y895 y896 y897 y898 y899 f900 = (F_DR_written x2 x3 t0_0 t0_1 t0_2 t0_3 t0_4 t0_5 t0_6 t0_7 t0_8 t0_9 t0_10 t1_0 t2_0 t3_0 t4_0 t5_0) from Eq.trans (by rw [e940, e939, e938, e937, e936, e935, e934, e933, e932, e931, e930, e929, F_DR_written_c51.eq_1]) hR941), (show True ∧ S_DR_written_J54 x2 x3 t0_0 t0_1 t0_2 t0_3 t0_4 t0_5 t0_6 t0_7 t0_8 t0_9 t0_10 t1_0 t2_0 t3_0 t4_0 t5_0 lx39 y889 y890 y891 y892 y893 y894 y895 y896 y897 y898 y899 f900 from (by rw [e940, e939, e938, e937, e936, e935, e934, e933, e932, e931, e930, e929]; have h := hS942; rw [S_DR_written_c51.eq_1] at h; with_reducible exact h))⟩
    ·
      refine lv_iconst (v := 0) hx hb d_15_53_32 (by decide) ?_
      exact q_reti C0 V (⟨hI, hF, lx39, t0_1, t0_2, t0_3, t0_4, t0_5, t0_6, t0_7, t0_8, t0_9, t0_10, t5_0, hT0, hT5, (show 0 ≤ (0 : Int32).toInt from (by have z18 : (0 : Int32).toInt = 0 := rfl; omega)), (show t0_9.toInt ≤ 12200 from (by have z18 : (0 : Int32).toInt = 0 := rfl; have t1 : 0 ≤ t0_9.toInt ∧ t0_9.toInt ≤ 12200 := btt0_9; omega)), (show t0_1.toInt ≤ t0_1.toInt from (by have z18 : (0 : Int32).toInt = 0 := rfl; omega)), (show t0_1.toInt ≤ t0_1.toInt from (by have z18 : (0 : Int32).toInt = 0 := rfl; omega)), (show t0_2.toInt ≤ t0_2.toInt from (by have z18 : (0 : Int32).toInt = 0 := rfl; omega)), (show t0_2.toInt ≤ t0_2.toInt from (by have z18 : (0 : Int32).toInt = 0 := rfl; omega)), (show t0_3.toInt ≤ t0_3.toInt from (by have z18 : (0 : Int32).toInt = 0 := rfl; omega)), (show t0_3.toInt ≤ t0_3.toInt from (by have z18 : (0 : Int32).toInt = 0 := rfl; omega)), (show t0_4.toInt ≤ t0_4.toInt from (by have z18 : (0 : Int32).toInt = 0 := rfl; omega)), (show t0_4.toInt ≤ t0_4.toInt from (by have z18 : (0 : Int32).toInt = 0 := rfl; omega)), (show t0_5.toInt ≤ t0_5.toInt from (by have z18 : (0 : Int32).toInt = 0 := rfl; omega)), (show t0_5.toInt ≤ t0_5.toInt from (by have z18 : (0 : Int32).toInt = 0 := rfl; omega)), (show t0_6.toInt ≤ t0_6.toInt from (by have z18 : (0 : Int32).toInt = 0 := rfl; omega)), (show t0_6.toInt ≤ t0_6.toInt from (by have z18 : (0 : Int32).toInt = 0 := rfl; omega)), (show t0_7.toInt ≤ t0_7.toInt from (by have z18 : (0 : Int32).toInt = 0 := rfl; omega)), (show t0_7.toInt ≤ t0_7.toInt from (by have z18 : (0 : Int32).toInt = 0 := rfl; omega)), (show t0_8.toInt ≤ t0_8.toInt from (by have z18 : (0 : Int32).toInt = 0 := rfl; omega)), (show t0_8.toInt ≤ t0_8.toInt from (by have z18 : (0 : Int32).toInt = 0 := rfl; omega)), (show t0_10.toInt ≤ t0_10.toInt from (by have z18 : (0 : Int32).toInt = 0 := rfl; omega)), (show t0_10.toInt ≤ t0_10.toInt from (by have z18 : (0 : Int32).toInt = 0 := rfl; omega)), (show (0 : Int32).toInt ≤ t0_9.toInt from (by have z18 : (0 : Int32).toInt = 0 := rfl; have t1 : 0 ≤ t0_9.toInt ∧ t0_9.toInt ≤ 12200 := btt0_9; omega)), (show ((0 : Int32), lx39, t0_1, t0_2, t0_3, t0_4, t0_5, t0_6, t0_7, t0_8, t0_9, t0_10, t5_0) = (F_DR_written x2 x3 t0_0 t0_1 t0_2 t0_3 t0_4 t0_5 t0_6 t0_7 t0_8 t0_9 t0_10 t1_0 t2_0 t3_0 t4_0 t5_0) from Eq.trans (by rw [F_DR_written_J22.eq_1, if_neg c56]) hR49)⟩) d_15_53_33
  ·
    intro J46
    refine q_join (X := Unit) (fun z H locs ls _ => q_Wd D g (va_A ws sz) s ws H locs ∧ lv_has ls 7 [(0, .ref (q 134)), (1, .int x2), (2, .int x3)] ∧ F_DR_written_J17 x2 x3 t0_0 t0_1 t0_2 t0_3 t0_4 t0_5 t0_6 t0_7 t0_8 t0_9 t0_10 t1_0 t2_0 t3_0 t4_0 t5_0 = (F_DR_written x2 x3 t0_0 t0_1 t0_2 t0_3 t0_4 t0_5 t0_6 t0_7 t0_8 t0_9 t0_10 t1_0 t2_0 t3_0 t4_0 t5_0) ∧ True ∧ S_DR_written_J17 x2 x3 t0_0 t0_1 t0_2 t0_3 t0_4 t0_5 t0_6 t0_7 t0_8 t0_9 t0_10 t1_0 t2_0 t3_0 t4_0 t5_0) (fun z => [.ref (q 134)]) 17 0 0 ?_ ?_
    ·
      rintro _ H locs ls _ ⟨V, hl, hR954, hS955⟩
      replace hl : lv_has ls 7 [(0, .ref (q 134)), (1, .int x2), (2, .int x3)] := hl
      refine lv_iconst (v := 1) hx hb d_15_53_17 (by decide) ?_
      refine lv_goto (tgt := 22) hx hb d_15_53_18 (by decide) ?_
      exact J46 ((1 : Int32)) _ _ _ ws ⟨(show q_F (0 ≤ 1) from (show 0 ≤ 1 from by omega)), (show q_F (1 ≤ 1) from (show 1 ≤ 1 from by omega)), V, q_lw hl (q_lw1 0 rfl (q_lw1 1 rfl (q_lw1 2 rfl q_lw0))), (show F_DR_written_J22 x2 x3 t0_0 t0_1 t0_2 t0_3 t0_4 t0_5 t0_6 t0_7 t0_8 t0_9 t0_10 t1_0 t2_0 t3_0 t4_0 t5_0 1 = (F_DR_written x2 x3 t0_0 t0_1 t0_2 t0_3 t0_4 t0_5 t0_6 t0_7 t0_8 t0_9 t0_10 t1_0 t2_0 t3_0 t4_0 t5_0) from Eq.trans (by rw [F_DR_written_J17.eq_1]) hR954), (show True ∧ S_DR_written_J22 x2 x3 t0_0 t0_1 t0_2 t0_3 t0_4 t0_5 t0_6 t0_7 t0_8 t0_9 t0_10 t1_0 t2_0 t3_0 t4_0 t5_0 1 from (by have h := hS955; rw [S_DR_written_J17.eq_1] at h; with_reducible exact h))⟩
    ·
      intro J953
      refine lv_if_ne (tgt := 17) hx hb d_15_53_5 (by decide) (fun c959 => ?_) (fun c959 => ?_)
      ·
        exact J953 (()) _ _ _ ws ⟨V, q_lw hl (q_lw1 0 rfl (q_lw1 1 rfl (q_lw1 2 rfl q_lw0))), (show F_DR_written_J17 x2 x3 t0_0 t0_1 t0_2 t0_3 t0_4 t0_5 t0_6 t0_7 t0_8 t0_9 t0_10 t1_0 t2_0 t3_0 t4_0 t5_0 = (F_DR_written x2 x3 t0_0 t0_1 t0_2 t0_3 t0_4 t0_5 t0_6 t0_7 t0_8 t0_9 t0_10 t1_0 t2_0 t3_0 t4_0 t5_0) from (by have c959x := c959; rw [e38] at c959x; rw [F_DR_written.eq_1, if_neg c959x])), (show True ∧ S_DR_written_J17 x2 x3 t0_0 t0_1 t0_2 t0_3 t0_4 t0_5 t0_6 t0_7 t0_8 t0_9 t0_10 t1_0 t2_0 t3_0 t4_0 t5_0 from (by have h := hS; rw [S_DR_written.eq_1] at h; have c959x := c959; rw [e38] at c959x; rw [if_neg c959x] at h; with_reducible exact h))⟩
      ·
        refine lv_iload_n hx hb d_15_53_8 rfl (lv_at hl 2 rfl) ?_
        refine lv_if_lt (tgt := 17) hx hb d_15_53_9 (by decide) (fun c962 => ?_) (fun c962 => ?_)
        ·
          exact J953 (()) _ _ _ ws ⟨V, q_lw hl (q_lw1 0 rfl (q_lw1 1 rfl (q_lw1 2 rfl q_lw0))), (show F_DR_written_J17 x2 x3 t0_0 t0_1 t0_2 t0_3 t0_4 t0_5 t0_6 t0_7 t0_8 t0_9 t0_10 t1_0 t2_0 t3_0 t4_0 t5_0 = (F_DR_written x2 x3 t0_0 t0_1 t0_2 t0_3 t0_4 t0_5 t0_6 t0_7 t0_8 t0_9 t0_10 t1_0 t2_0 t3_0 t4_0 t5_0) from (by have c959x := c959; rw [e38] at c959x; rw [F_DR_written.eq_1, if_pos c959x, if_pos c962])), (show True ∧ S_DR_written_J17 x2 x3 t0_0 t0_1 t0_2 t0_3 t0_4 t0_5 t0_6 t0_7 t0_8 t0_9 t0_10 t1_0 t2_0 t3_0 t4_0 t5_0 from (by have h := hS; rw [S_DR_written.eq_1] at h; have c959x := c959; rw [e38] at c959x; rw [if_pos c959x] at h; rw [if_pos c962] at h; with_reducible exact h))⟩
        ·
          refine lv_iload_n hx hb d_15_53_12 rfl (lv_at hl 2 rfl) ?_
          refine lv_iconst (v := 2) hx hb d_15_53_13 (by decide) ?_
          refine lv_icmp_le (tgt := 21) hx hb d_15_53_14 (by decide) (fun c965 => ?_) (fun c965 => ?_)
          ·
            refine lv_iconst (v := 0) hx hb d_15_53_21 (by decide) ?_
            exact J46 ((0 : Int32)) _ _ _ ws ⟨(show q_F (0 ≤ 0) from (show 0 ≤ 0 from by omega)), (show q_F (0 ≤ 1) from (show 0 ≤ 1 from by omega)), V, q_lw hl (q_lw1 0 rfl (q_lw1 1 rfl (q_lw1 2 rfl q_lw0))), (show F_DR_written_J22 x2 x3 t0_0 t0_1 t0_2 t0_3 t0_4 t0_5 t0_6 t0_7 t0_8 t0_9 t0_10 t1_0 t2_0 t3_0 t4_0 t5_0 0 = (F_DR_written x2 x3 t0_0 t0_1 t0_2 t0_3 t0_4 t0_5 t0_6 t0_7 t0_8 t0_9 t0_10 t1_0 t2_0 t3_0 t4_0 t5_0) from (by have c959x := c959; rw [e38] at c959x; rw [F_DR_written.eq_1, if_pos c959x, if_neg c962, if_pos c965])), (show True ∧ S_DR_written_J22 x2 x3 t0_0 t0_1 t0_2 t0_3 t0_4 t0_5 t0_6 t0_7 t0_8 t0_9 t0_10 t1_0 t2_0 t3_0 t4_0 t5_0 0 from (by have h := hS; rw [S_DR_written.eq_1] at h; have c959x := c959; rw [e38] at c959x; rw [if_pos c959x] at h; rw [if_neg c962] at h; rw [if_pos c965] at h; with_reducible exact h))⟩
          ·
            exact J953 (()) _ _ _ ws ⟨V, q_lw hl (q_lw1 0 rfl (q_lw1 1 rfl (q_lw1 2 rfl q_lw0))), (show F_DR_written_J17 x2 x3 t0_0 t0_1 t0_2 t0_3 t0_4 t0_5 t0_6 t0_7 t0_8 t0_9 t0_10 t1_0 t2_0 t3_0 t4_0 t5_0 = (F_DR_written x2 x3 t0_0 t0_1 t0_2 t0_3 t0_4 t0_5 t0_6 t0_7 t0_8 t0_9 t0_10 t1_0 t2_0 t3_0 t4_0 t5_0) from (by have c959x := c959; rw [e38] at c959x; rw [F_DR_written.eq_1, if_pos c959x, if_neg c962, if_neg c965])), (show True ∧ S_DR_written_J17 x2 x3 t0_0 t0_1 t0_2 t0_3 t0_4 t0_5 t0_6 t0_7 t0_8 t0_9 t0_10 t1_0 t2_0 t3_0 t4_0 t5_0 from (by have h := hS; rw [S_DR_written.eq_1] at h; have c959x := c959; rw [e38] at c959x; rw [if_pos c959x] at h; rw [if_neg c962] at h; rw [if_neg c965] at h; with_reducible exact h))⟩

