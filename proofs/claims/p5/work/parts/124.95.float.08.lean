theorem d_17_18_0 : decode prog_17_method_18_code 0 = .ok (.aload_n 0, 1) := by decide +kernel
theorem d_17_18_1 : decode prog_17_method_18_code 1 = .ok (.iconst 0, 1) := by decide +kernel
theorem d_17_18_2 : decode prog_17_method_18_code 2 = .ok (.putfield 107, 3) := by decide +kernel
theorem d_17_18_5 : decode prog_17_method_18_code 5 = .ok (.aload_n 0, 1) := by decide +kernel
theorem d_17_18_6 : decode prog_17_method_18_code 6 = .ok (.getfield 48, 3) := by decide +kernel
theorem d_17_18_9 : decode prog_17_method_18_code 9 = .ok (.lconst 0, 1) := by decide +kernel
theorem d_17_18_10 : decode prog_17_method_18_code 10 = .ok (.lcmp, 1) := by decide +kernel
theorem d_17_18_11 : decode prog_17_method_18_code 11 = .ok (.ifCond .eq 22, 3) := by decide +kernel
theorem d_17_18_33 : decode prog_17_method_18_code 33 = .ok (.aload_n 0, 1) := by decide +kernel
theorem d_17_18_34 : decode prog_17_method_18_code 34 = .ok (.invokevirtual 113, 3) := by decide +kernel
theorem d_17_18_37 : decode prog_17_method_18_code 37 = .ok (.ldc2_w 116, 3) := by decide +kernel
set_option maxRecDepth 100000 in
theorem w_3027 : (Cond.constantLong "NumberHouseModel$FloatRows" (116 : Nat) (8751735898823355977 : Int64)) ∈ q_tbl := q_of13 147 rfl (by decide +kernel)
theorem d_17_18_40 : decode prog_17_method_18_code 40 = .ok (.lstore_n 1, 1) := by decide +kernel
theorem d_17_18_41 : decode prog_17_method_18_code 41 = .ok (.iconst 0, 1) := by decide +kernel
theorem d_17_18_42 : decode prog_17_method_18_code 42 = .ok (.istore_n 3, 1) := by decide +kernel
theorem d_17_18_43 : decode prog_17_method_18_code 43 = .ok (.iload_n 3, 1) := by decide +kernel
theorem d_17_18_44 : decode prog_17_method_18_code 44 = .ok (.bipush 8, 2) := by decide +kernel
theorem d_17_18_46 : decode prog_17_method_18_code 46 = .ok (.if_icmp .ge 24, 3) := by decide +kernel
theorem d_17_18_70 : decode prog_17_method_18_code 70 = .ok (.return_, 1) := by decide +kernel
theorem d_17_18_49 : decode prog_17_method_18_code 49 = .ok (.aload_n 0, 1) := by decide +kernel
theorem d_17_18_50 : decode prog_17_method_18_code 50 = .ok (.lload_n 1, 1) := by decide +kernel
theorem d_17_18_51 : decode prog_17_method_18_code 51 = .ok (.bipush 8, 2) := by decide +kernel
theorem d_17_18_53 : decode prog_17_method_18_code 53 = .ok (.iload_n 3, 1) := by decide +kernel
theorem d_17_18_54 : decode prog_17_method_18_code 54 = .ok (.imul, 1) := by decide +kernel
theorem d_17_18_55 : decode prog_17_method_18_code 55 = .ok (.lshr, 1) := by decide +kernel
theorem d_17_18_56 : decode prog_17_method_18_code 56 = .ok (.ldc2_w 118, 3) := by decide +kernel
set_option maxRecDepth 100000 in
theorem w_3028 : (Cond.constantLong "NumberHouseModel$FloatRows" (118 : Nat) (255 : Int64)) ∈ q_tbl := q_of13 148 rfl (by decide +kernel)
theorem d_17_18_59 : decode prog_17_method_18_code 59 = .ok (.land, 1) := by decide +kernel
theorem d_17_18_60 : decode prog_17_method_18_code 60 = .ok (.l2i, 1) := by decide +kernel
theorem d_17_18_61 : decode prog_17_method_18_code 61 = .ok (.invokevirtual 110, 3) := by decide +kernel
theorem d_17_18_64 : decode prog_17_method_18_code 64 = .ok (.iinc 3 1, 3) := by decide +kernel
theorem d_17_18_67 : decode prog_17_method_18_code 67 = .ok (.goto (-24), 3) := by decide +kernel
theorem d_17_18_14 : decode prog_17_method_18_code 14 = .ok (.aload_n 0, 1) := by decide +kernel
theorem d_17_18_15 : decode prog_17_method_18_code 15 = .ok (.bipush 78, 2) := by decide +kernel
theorem d_17_18_17 : decode prog_17_method_18_code 17 = .ok (.invokevirtual 110, 3) := by decide +kernel
theorem d_17_18_20 : decode prog_17_method_18_code 20 = .ok (.aload_n 0, 1) := by decide +kernel
theorem d_17_18_21 : decode prog_17_method_18_code 21 = .ok (.bipush 97, 2) := by decide +kernel
theorem d_17_18_23 : decode prog_17_method_18_code 23 = .ok (.invokevirtual 110, 3) := by decide +kernel
theorem d_17_18_26 : decode prog_17_method_18_code 26 = .ok (.aload_n 0, 1) := by decide +kernel
theorem d_17_18_27 : decode prog_17_method_18_code 27 = .ok (.bipush 78, 2) := by decide +kernel
theorem d_17_18_29 : decode prog_17_method_18_code 29 = .ok (.invokevirtual 110, 3) := by decide +kernel
theorem d_17_18_32 : decode prog_17_method_18_code 32 = .ok (.return_, 1) := by decide +kernel
def y_FR_name : MethodName := ⟨"NumberHouseModel$FloatRows", "name", "()V"⟩
def F_FR_name_c61 (K_F_FR_name_L43 : Int32 → Int32 → Int32 → Int32 → Int32 → Int64 → Int32 → Int32 → Int64 → Int32 → Int64 → Int32 → (Nat → Int32) → (Int32 × Int32 × Int32 × Int32 × Int64 × Int32 × Int32 × Int64 × Int32 × Int64 × Int32 × (Nat → Int32))) (t0_0 : Int32) (t0_1 : Int32) (t0_2 : Int32) (t0_3 : Int32) (t0_4 : Int64) (t0_5 : Int32) (t0_6 : Int32) (t0_7 : Int64) (t0_8 : Int32) (t0_9 : Int64) (t0_10 : Int32) (t1_0 : (Nat → Int32)) (p65 : (Int32 × Int32 × Int32 × Int32 × Int64 × Int32 × Int32 × Int64 × Int32 × Int64 × Int32 × (Nat → Int32))) (lx85 : Int32) (lx86 : Int32) (lx87 : Int32) (lx88 : Int32) (lx89 : Int32) (lx90 : Int64) (lx91 : Int32) (lx92 : Int32) (lx93 : Int64) (lx94 : Int32) (lx95 : Int64) (lx96 : Int32) (lx97 : (Nat → Int32)) (p188 : (Int32 × Int32 × Int32 × Int32 × Int64 × Int32 × Int32 × Int64 × Int32 × Int64 × Int32 × (Nat → Int32))) : Int32 × Int32 × Int32 × Int32 × Int64 × Int32 × Int32 × Int64 × Int32 × Int64 × Int32 × (Nat → Int32) := K_F_FR_name_L43 (lx85 + 1 : Int32) (p188.1 : Int32) (p188.2.1 : Int32) (p188.2.2.1 : Int32) (p188.2.2.2.1 : Int32) (p188.2.2.2.2.1 : Int64) (p188.2.2.2.2.2.1 : Int32) (p188.2.2.2.2.2.2.1 : Int32) (p188.2.2.2.2.2.2.2.1 : Int64) (p188.2.2.2.2.2.2.2.2.1 : Int32) (p188.2.2.2.2.2.2.2.2.2.1 : Int64) (p188.2.2.2.2.2.2.2.2.2.2.1 : Int32) (p188.2.2.2.2.2.2.2.2.2.2.2 : (Nat → Int32))
def F_FR_name_L43 (t0_0 : Int32) (t0_1 : Int32) (t0_2 : Int32) (t0_3 : Int32) (t0_4 : Int64) (t0_5 : Int32) (t0_6 : Int32) (t0_7 : Int64) (t0_8 : Int32) (t0_9 : Int64) (t0_10 : Int32) (t1_0 : (Nat → Int32)) (p65 : (Int32 × Int32 × Int32 × Int32 × Int64 × Int32 × Int32 × Int64 × Int32 × Int64 × Int32 × (Nat → Int32))) : Nat → Int32 → Int32 → Int32 → Int32 → Int32 → Int64 → Int32 → Int32 → Int64 → Int32 → Int64 → Int32 → (Nat → Int32) → (Int32 × Int32 × Int32 × Int32 × Int64 × Int32 × Int32 × Int64 × Int32 × Int64 × Int32 × (Nat → Int32))
  | 0, _, _, _, _, _, _, _, _, _, _, _, _, _ => default
  | fm + 1, lx85, lx86, lx87, lx88, lx89, lx90, lx91, lx92, lx93, lx94, lx95, lx96, lx97 => if (8 : Int32) ≤ lx85 then ((lx86, lx87, lx88, lx89, lx90, lx91, lx92, lx93, lx94, lx95, lx96, lx97)) else (F_FR_name_c61 (F_FR_name_L43 t0_0 t0_1 t0_2 t0_3 t0_4 t0_5 t0_6 t0_7 t0_8 t0_9 t0_10 t1_0 p65 fm) t0_0 t0_1 t0_2 t0_3 t0_4 t0_5 t0_6 t0_7 t0_8 t0_9 t0_10 t1_0 p65 lx85 lx86 lx87 lx88 lx89 lx90 lx91 lx92 lx93 lx94 lx95 lx96 lx97 ((F_FR_add ((((8751735898823355977 : Int64) >>> ((8 * lx85 : Int32).toInt64 &&& 63) : Int64) &&& 255 : Int64).toInt32 : Int32) lx86 lx87 lx88 lx89 lx90 lx91 lx92 lx93 lx94 lx95 lx96 lx97) : (Int32 × Int32 × Int32 × Int32 × Int64 × Int32 × Int32 × Int64 × Int32 × Int64 × Int32 × (Nat → Int32))))
def F_FR_name_c34 (t0_0 : Int32) (t0_1 : Int32) (t0_2 : Int32) (t0_3 : Int32) (t0_4 : Int64) (t0_5 : Int32) (t0_6 : Int32) (t0_7 : Int64) (t0_8 : Int32) (t0_9 : Int64) (t0_10 : Int32) (t1_0 : (Nat → Int32)) (p65 : (Int32 × Int32 × Int32 × Int32 × Int64 × Int32 × Int32 × Int64 × Int32 × Int64 × Int32 × (Nat → Int32))) : Int32 × Int32 × Int32 × Int32 × Int64 × Int32 × Int32 × Int64 × Int32 × Int64 × Int32 × (Nat → Int32) := F_FR_name_L43 t0_0 t0_1 t0_2 t0_3 t0_4 t0_5 t0_6 t0_7 t0_8 t0_9 t0_10 t1_0 p65 ((8 - (0 : Int32).toInt).toNat + 1) 0 (p65.1 : Int32) (p65.2.1 : Int32) (p65.2.2.1 : Int32) (p65.2.2.2.1 : Int32) (p65.2.2.2.2.1 : Int64) (p65.2.2.2.2.2.1 : Int32) (p65.2.2.2.2.2.2.1 : Int32) (p65.2.2.2.2.2.2.2.1 : Int64) (p65.2.2.2.2.2.2.2.2.1 : Int32) (p65.2.2.2.2.2.2.2.2.2.1 : Int64) (p65.2.2.2.2.2.2.2.2.2.2.1 : Int32) (p65.2.2.2.2.2.2.2.2.2.2.2 : (Nat → Int32))
def F_FR_name_c29 (t0_0 : Int32) (t0_1 : Int32) (t0_2 : Int32) (t0_3 : Int32) (t0_4 : Int64) (t0_5 : Int32) (t0_6 : Int32) (t0_7 : Int64) (t0_8 : Int32) (t0_9 : Int64) (t0_10 : Int32) (t1_0 : (Nat → Int32)) (p254 : (Int32 × Int32 × Int32 × Int32 × Int64 × Int32 × Int32 × Int64 × Int32 × Int64 × Int32 × (Nat → Int32))) (p316 : (Int32 × Int32 × Int32 × Int32 × Int64 × Int32 × Int32 × Int64 × Int32 × Int64 × Int32 × (Nat → Int32))) (p378 : (Int32 × Int32 × Int32 × Int32 × Int64 × Int32 × Int32 × Int64 × Int32 × Int64 × Int32 × (Nat → Int32))) : Int32 × Int32 × Int32 × Int32 × Int64 × Int32 × Int32 × Int64 × Int32 × Int64 × Int32 × (Nat → Int32) := ((p378.1 : Int32), (p378.2.1 : Int32), (p378.2.2.1 : Int32), (p378.2.2.2.1 : Int32), (p378.2.2.2.2.1 : Int64), (p378.2.2.2.2.2.1 : Int32), (p378.2.2.2.2.2.2.1 : Int32), (p378.2.2.2.2.2.2.2.1 : Int64), (p378.2.2.2.2.2.2.2.2.1 : Int32), (p378.2.2.2.2.2.2.2.2.2.1 : Int64), (p378.2.2.2.2.2.2.2.2.2.2.1 : Int32), (p378.2.2.2.2.2.2.2.2.2.2.2 : (Nat → Int32)))
def F_FR_name_c23 (t0_0 : Int32) (t0_1 : Int32) (t0_2 : Int32) (t0_3 : Int32) (t0_4 : Int64) (t0_5 : Int32) (t0_6 : Int32) (t0_7 : Int64) (t0_8 : Int32) (t0_9 : Int64) (t0_10 : Int32) (t1_0 : (Nat → Int32)) (p254 : (Int32 × Int32 × Int32 × Int32 × Int64 × Int32 × Int32 × Int64 × Int32 × Int64 × Int32 × (Nat → Int32))) (p316 : (Int32 × Int32 × Int32 × Int32 × Int64 × Int32 × Int32 × Int64 × Int32 × Int64 × Int32 × (Nat → Int32))) : Int32 × Int32 × Int32 × Int32 × Int64 × Int32 × Int32 × Int64 × Int32 × Int64 × Int32 × (Nat → Int32) := F_FR_name_c29 t0_0 t0_1 t0_2 t0_3 t0_4 t0_5 t0_6 t0_7 t0_8 t0_9 t0_10 t1_0 p254 p316 ((F_FR_add (78 : Int32) (p316.1 : Int32) (p316.2.1 : Int32) (p316.2.2.1 : Int32) (p316.2.2.2.1 : Int32) (p316.2.2.2.2.1 : Int64) (p316.2.2.2.2.2.1 : Int32) (p316.2.2.2.2.2.2.1 : Int32) (p316.2.2.2.2.2.2.2.1 : Int64) (p316.2.2.2.2.2.2.2.2.1 : Int32) (p316.2.2.2.2.2.2.2.2.2.1 : Int64) (p316.2.2.2.2.2.2.2.2.2.2.1 : Int32) (p316.2.2.2.2.2.2.2.2.2.2.2 : (Nat → Int32))) : (Int32 × Int32 × Int32 × Int32 × Int64 × Int32 × Int32 × Int64 × Int32 × Int64 × Int32 × (Nat → Int32)))
def F_FR_name_c17 (t0_0 : Int32) (t0_1 : Int32) (t0_2 : Int32) (t0_3 : Int32) (t0_4 : Int64) (t0_5 : Int32) (t0_6 : Int32) (t0_7 : Int64) (t0_8 : Int32) (t0_9 : Int64) (t0_10 : Int32) (t1_0 : (Nat → Int32)) (p254 : (Int32 × Int32 × Int32 × Int32 × Int64 × Int32 × Int32 × Int64 × Int32 × Int64 × Int32 × (Nat → Int32))) : Int32 × Int32 × Int32 × Int32 × Int64 × Int32 × Int32 × Int64 × Int32 × Int64 × Int32 × (Nat → Int32) := F_FR_name_c23 t0_0 t0_1 t0_2 t0_3 t0_4 t0_5 t0_6 t0_7 t0_8 t0_9 t0_10 t1_0 p254 ((F_FR_add (97 : Int32) (p254.1 : Int32) (p254.2.1 : Int32) (p254.2.2.1 : Int32) (p254.2.2.2.1 : Int32) (p254.2.2.2.2.1 : Int64) (p254.2.2.2.2.2.1 : Int32) (p254.2.2.2.2.2.2.1 : Int32) (p254.2.2.2.2.2.2.2.1 : Int64) (p254.2.2.2.2.2.2.2.2.1 : Int32) (p254.2.2.2.2.2.2.2.2.2.1 : Int64) (p254.2.2.2.2.2.2.2.2.2.2.1 : Int32) (p254.2.2.2.2.2.2.2.2.2.2.2 : (Nat → Int32))) : (Int32 × Int32 × Int32 × Int32 × Int64 × Int32 × Int32 × Int64 × Int32 × Int64 × Int32 × (Nat → Int32)))
def F_FR_name (t0_0 : Int32) (t0_1 : Int32) (t0_2 : Int32) (t0_3 : Int32) (t0_4 : Int64) (t0_5 : Int32) (t0_6 : Int32) (t0_7 : Int64) (t0_8 : Int32) (t0_9 : Int64) (t0_10 : Int32) (t1_0 : (Nat → Int32)) : Int32 × Int32 × Int32 × Int32 × Int64 × Int32 × Int32 × Int64 × Int32 × Int64 × Int32 × (Nat → Int32) := if (lg_cmp t0_4 0 : Int32) = (0 : Int32) then (F_FR_name_c34 t0_0 t0_1 t0_2 t0_3 t0_4 t0_5 t0_6 t0_7 t0_8 t0_9 t0_10 t1_0 ((F_FR_begin t0_0 (0 : Int32) t0_2 t0_3 t0_4 t0_5 t0_6 t0_7 t0_8 t0_9 t0_10 t1_0) : (Int32 × Int32 × Int32 × Int32 × Int64 × Int32 × Int32 × Int64 × Int32 × Int64 × Int32 × (Nat → Int32)))) else (F_FR_name_c17 t0_0 t0_1 t0_2 t0_3 t0_4 t0_5 t0_6 t0_7 t0_8 t0_9 t0_10 t1_0 ((F_FR_add (78 : Int32) t0_0 (0 : Int32) t0_2 t0_3 t0_4 t0_5 t0_6 t0_7 t0_8 t0_9 t0_10 t1_0) : (Int32 × Int32 × Int32 × Int32 × Int64 × Int32 × Int32 × Int64 × Int32 × Int64 × Int32 × (Nat → Int32))))
def S_FR_name_c61 (K_S_FR_name_L43 : Int32 → Int32 → Int32 → Int32 → Int32 → Int64 → Int32 → Int32 → Int64 → Int32 → Int64 → Int32 → (Nat → Int32) → Prop) (t0_0 : Int32) (t0_1 : Int32) (t0_2 : Int32) (t0_3 : Int32) (t0_4 : Int64) (t0_5 : Int32) (t0_6 : Int32) (t0_7 : Int64) (t0_8 : Int32) (t0_9 : Int64) (t0_10 : Int32) (t1_0 : (Nat → Int32)) (p65 : (Int32 × Int32 × Int32 × Int32 × Int64 × Int32 × Int32 × Int64 × Int32 × Int64 × Int32 × (Nat → Int32))) (lx85 : Int32) (lx86 : Int32) (lx87 : Int32) (lx88 : Int32) (lx89 : Int32) (lx90 : Int64) (lx91 : Int32) (lx92 : Int32) (lx93 : Int64) (lx94 : Int32) (lx95 : Int64) (lx96 : Int32) (lx97 : (Nat → Int32)) (p188 : (Int32 × Int32 × Int32 × Int32 × Int64 × Int32 × Int32 × Int64 × Int32 × Int64 × Int32 × (Nat → Int32))) : Prop := K_S_FR_name_L43 (lx85 + 1 : Int32) (p188.1 : Int32) (p188.2.1 : Int32) (p188.2.2.1 : Int32) (p188.2.2.2.1 : Int32) (p188.2.2.2.2.1 : Int64) (p188.2.2.2.2.2.1 : Int32) (p188.2.2.2.2.2.2.1 : Int32) (p188.2.2.2.2.2.2.2.1 : Int64) (p188.2.2.2.2.2.2.2.2.1 : Int32) (p188.2.2.2.2.2.2.2.2.2.1 : Int64) (p188.2.2.2.2.2.2.2.2.2.2.1 : Int32) (p188.2.2.2.2.2.2.2.2.2.2.2 : (Nat → Int32))
def S_FR_name_L43 (t0_0 : Int32) (t0_1 : Int32) (t0_2 : Int32) (t0_3 : Int32) (t0_4 : Int64) (t0_5 : Int32) (t0_6 : Int32) (t0_7 : Int64) (t0_8 : Int32) (t0_9 : Int64) (t0_10 : Int32) (t1_0 : (Nat → Int32)) (p65 : (Int32 × Int32 × Int32 × Int32 × Int64 × Int32 × Int32 × Int64 × Int32 × Int64 × Int32 × (Nat → Int32))) : Nat → Int32 → Int32 → Int32 → Int32 → Int32 → Int64 → Int32 → Int32 → Int64 → Int32 → Int64 → Int32 → (Nat → Int32) → Prop
  | 0, _, _, _, _, _, _, _, _, _, _, _, _, _ => False
  | fm + 1, lx85, lx86, lx87, lx88, lx89, lx90, lx91, lx92, lx93, lx94, lx95, lx96, lx97 => if (8 : Int32) ≤ lx85 then (True) else ((True ∧ S_FR_add ((((8751735898823355977 : Int64) >>> ((8 * lx85 : Int32).toInt64 &&& 63) : Int64) &&& 255 : Int64).toInt32 : Int32) lx86 lx87 lx88 lx89 lx90 lx91 lx92 lx93 lx94 lx95 lx96 lx97) ∧ (S_FR_name_c61 (S_FR_name_L43 t0_0 t0_1 t0_2 t0_3 t0_4 t0_5 t0_6 t0_7 t0_8 t0_9 t0_10 t1_0 p65 fm) t0_0 t0_1 t0_2 t0_3 t0_4 t0_5 t0_6 t0_7 t0_8 t0_9 t0_10 t1_0 p65 lx85 lx86 lx87 lx88 lx89 lx90 lx91 lx92 lx93 lx94 lx95 lx96 lx97 ((F_FR_add ((((8751735898823355977 : Int64) >>> ((8 * lx85 : Int32).toInt64 &&& 63) : Int64) &&& 255 : Int64).toInt32 : Int32) lx86 lx87 lx88 lx89 lx90 lx91 lx92 lx93 lx94 lx95 lx96 lx97) : (Int32 × Int32 × Int32 × Int32 × Int64 × Int32 × Int32 × Int64 × Int32 × Int64 × Int32 × (Nat → Int32)))))
def S_FR_name_c34 (t0_0 : Int32) (t0_1 : Int32) (t0_2 : Int32) (t0_3 : Int32) (t0_4 : Int64) (t0_5 : Int32) (t0_6 : Int32) (t0_7 : Int64) (t0_8 : Int32) (t0_9 : Int64) (t0_10 : Int32) (t1_0 : (Nat → Int32)) (p65 : (Int32 × Int32 × Int32 × Int32 × Int64 × Int32 × Int32 × Int64 × Int32 × Int64 × Int32 × (Nat → Int32))) : Prop := S_FR_name_L43 t0_0 t0_1 t0_2 t0_3 t0_4 t0_5 t0_6 t0_7 t0_8 t0_9 t0_10 t1_0 p65 ((8 - (0 : Int32).toInt).toNat + 1) 0 (p65.1 : Int32) (p65.2.1 : Int32) (p65.2.2.1 : Int32) (p65.2.2.2.1 : Int32) (p65.2.2.2.2.1 : Int64) (p65.2.2.2.2.2.1 : Int32) (p65.2.2.2.2.2.2.1 : Int32) (p65.2.2.2.2.2.2.2.1 : Int64) (p65.2.2.2.2.2.2.2.2.1 : Int32) (p65.2.2.2.2.2.2.2.2.2.1 : Int64) (p65.2.2.2.2.2.2.2.2.2.2.1 : Int32) (p65.2.2.2.2.2.2.2.2.2.2.2 : (Nat → Int32))
def S_FR_name_c29 (t0_0 : Int32) (t0_1 : Int32) (t0_2 : Int32) (t0_3 : Int32) (t0_4 : Int64) (t0_5 : Int32) (t0_6 : Int32) (t0_7 : Int64) (t0_8 : Int32) (t0_9 : Int64) (t0_10 : Int32) (t1_0 : (Nat → Int32)) (p254 : (Int32 × Int32 × Int32 × Int32 × Int64 × Int32 × Int32 × Int64 × Int32 × Int64 × Int32 × (Nat → Int32))) (p316 : (Int32 × Int32 × Int32 × Int32 × Int64 × Int32 × Int32 × Int64 × Int32 × Int64 × Int32 × (Nat → Int32))) (p378 : (Int32 × Int32 × Int32 × Int32 × Int64 × Int32 × Int32 × Int64 × Int32 × Int64 × Int32 × (Nat → Int32))) : Prop := True
def S_FR_name_c23 (t0_0 : Int32) (t0_1 : Int32) (t0_2 : Int32) (t0_3 : Int32) (t0_4 : Int64) (t0_5 : Int32) (t0_6 : Int32) (t0_7 : Int64) (t0_8 : Int32) (t0_9 : Int64) (t0_10 : Int32) (t1_0 : (Nat → Int32)) (p254 : (Int32 × Int32 × Int32 × Int32 × Int64 × Int32 × Int32 × Int64 × Int32 × Int64 × Int32 × (Nat → Int32))) (p316 : (Int32 × Int32 × Int32 × Int32 × Int64 × Int32 × Int32 × Int64 × Int32 × Int64 × Int32 × (Nat → Int32))) : Prop := (True ∧ S_FR_add (78 : Int32) (p316.1 : Int32) (p316.2.1 : Int32) (p316.2.2.1 : Int32) (p316.2.2.2.1 : Int32) (p316.2.2.2.2.1 : Int64) (p316.2.2.2.2.2.1 : Int32) (p316.2.2.2.2.2.2.1 : Int32) (p316.2.2.2.2.2.2.2.1 : Int64) (p316.2.2.2.2.2.2.2.2.1 : Int32) (p316.2.2.2.2.2.2.2.2.2.1 : Int64) (p316.2.2.2.2.2.2.2.2.2.2.1 : Int32) (p316.2.2.2.2.2.2.2.2.2.2.2 : (Nat → Int32))) ∧ (S_FR_name_c29 t0_0 t0_1 t0_2 t0_3 t0_4 t0_5 t0_6 t0_7 t0_8 t0_9 t0_10 t1_0 p254 p316 ((F_FR_add (78 : Int32) (p316.1 : Int32) (p316.2.1 : Int32) (p316.2.2.1 : Int32) (p316.2.2.2.1 : Int32) (p316.2.2.2.2.1 : Int64) (p316.2.2.2.2.2.1 : Int32) (p316.2.2.2.2.2.2.1 : Int32) (p316.2.2.2.2.2.2.2.1 : Int64) (p316.2.2.2.2.2.2.2.2.1 : Int32) (p316.2.2.2.2.2.2.2.2.2.1 : Int64) (p316.2.2.2.2.2.2.2.2.2.2.1 : Int32) (p316.2.2.2.2.2.2.2.2.2.2.2 : (Nat → Int32))) : (Int32 × Int32 × Int32 × Int32 × Int64 × Int32 × Int32 × Int64 × Int32 × Int64 × Int32 × (Nat → Int32))))
def S_FR_name_c17 (t0_0 : Int32) (t0_1 : Int32) (t0_2 : Int32) (t0_3 : Int32) (t0_4 : Int64) (t0_5 : Int32) (t0_6 : Int32) (t0_7 : Int64) (t0_8 : Int32) (t0_9 : Int64) (t0_10 : Int32) (t1_0 : (Nat → Int32)) (p254 : (Int32 × Int32 × Int32 × Int32 × Int64 × Int32 × Int32 × Int64 × Int32 × Int64 × Int32 × (Nat → Int32))) : Prop := (True ∧ S_FR_add (97 : Int32) (p254.1 : Int32) (p254.2.1 : Int32) (p254.2.2.1 : Int32) (p254.2.2.2.1 : Int32) (p254.2.2.2.2.1 : Int64) (p254.2.2.2.2.2.1 : Int32) (p254.2.2.2.2.2.2.1 : Int32) (p254.2.2.2.2.2.2.2.1 : Int64) (p254.2.2.2.2.2.2.2.2.1 : Int32) (p254.2.2.2.2.2.2.2.2.2.1 : Int64) (p254.2.2.2.2.2.2.2.2.2.2.1 : Int32) (p254.2.2.2.2.2.2.2.2.2.2.2 : (Nat → Int32))) ∧ (S_FR_name_c23 t0_0 t0_1 t0_2 t0_3 t0_4 t0_5 t0_6 t0_7 t0_8 t0_9 t0_10 t1_0 p254 ((F_FR_add (97 : Int32) (p254.1 : Int32) (p254.2.1 : Int32) (p254.2.2.1 : Int32) (p254.2.2.2.1 : Int32) (p254.2.2.2.2.1 : Int64) (p254.2.2.2.2.2.1 : Int32) (p254.2.2.2.2.2.2.1 : Int32) (p254.2.2.2.2.2.2.2.1 : Int64) (p254.2.2.2.2.2.2.2.2.1 : Int32) (p254.2.2.2.2.2.2.2.2.2.1 : Int64) (p254.2.2.2.2.2.2.2.2.2.2.1 : Int32) (p254.2.2.2.2.2.2.2.2.2.2.2 : (Nat → Int32))) : (Int32 × Int32 × Int32 × Int32 × Int64 × Int32 × Int32 × Int64 × Int32 × Int64 × Int32 × (Nat → Int32))))
def S_FR_name (t0_0 : Int32) (t0_1 : Int32) (t0_2 : Int32) (t0_3 : Int32) (t0_4 : Int64) (t0_5 : Int32) (t0_6 : Int32) (t0_7 : Int64) (t0_8 : Int32) (t0_9 : Int64) (t0_10 : Int32) (t1_0 : (Nat → Int32)) : Prop := if (lg_cmp t0_4 0 : Int32) = (0 : Int32) then ((True ∧ S_FR_begin t0_0 (0 : Int32) t0_2 t0_3 t0_4 t0_5 t0_6 t0_7 t0_8 t0_9 t0_10 t1_0) ∧ (S_FR_name_c34 t0_0 t0_1 t0_2 t0_3 t0_4 t0_5 t0_6 t0_7 t0_8 t0_9 t0_10 t1_0 ((F_FR_begin t0_0 (0 : Int32) t0_2 t0_3 t0_4 t0_5 t0_6 t0_7 t0_8 t0_9 t0_10 t1_0) : (Int32 × Int32 × Int32 × Int32 × Int64 × Int32 × Int32 × Int64 × Int32 × Int64 × Int32 × (Nat → Int32))))) else ((True ∧ S_FR_add (78 : Int32) t0_0 (0 : Int32) t0_2 t0_3 t0_4 t0_5 t0_6 t0_7 t0_8 t0_9 t0_10 t1_0) ∧ (S_FR_name_c17 t0_0 t0_1 t0_2 t0_3 t0_4 t0_5 t0_6 t0_7 t0_8 t0_9 t0_10 t1_0 ((F_FR_add (78 : Int32) t0_0 (0 : Int32) t0_2 t0_3 t0_4 t0_5 t0_6 t0_7 t0_8 t0_9 t0_10 t1_0) : (Int32 × Int32 × Int32 × Int32 × Int64 × Int32 × Int32 × Int64 × Int32 × Int64 × Int32 × (Nat → Int32)))))
set_option maxRecDepth 100000 in
set_option maxHeartbeats 4000000 in
theorem X_FR_name (l : Launch) (D : va_G) (g : Nat → ClassId) (q : Nat → Nat) (ws : va_W) (hI : q_I (msh g q) q ws) (t0_0 : Int32) (t0_1 : Int32) (t0_2 : Int32) (t0_3 : Int32) (t0_4 : Int64) (t0_5 : Int32) (t0_6 : Int32) (t0_7 : Int64) (t0_8 : Int32) (t0_9 : Int64) (t0_10 : Int32) (hT0 : ws[145]? = (some (q 145, .inr (15, [.int t0_0, .ref (q 146), .ref (q 147), .ref (q 148), .ref (q 149), .ref (q 150), .ref (q 151), .ref (q 152), .int t0_1, .int t0_2, .int t0_3, .long t0_4, .int t0_5, .int t0_6, .long t0_7, .int t0_8, .long t0_9, .int t0_10])) : Option (Nat × va_E))) (t1_0 : (Nat → Int32)) (hT1 : ws[152]? = (some (q 152, .inl (g 0, (1600 : Int32).toNatClampNeg, .inl t1_0)) : Option (Nat × va_E))) (hS : True ∧ S_FR_name t0_0 t0_1 t0_2 t0_3 t0_4 t0_5 t0_6 t0_7 t0_8 t0_9 t0_10 t1_0) : q_mV l y_FR_name prog_17_method_18_code 4 3 0 0 D g [.ref (q 145)] ws (fun u => q_I (msh g q) q u ∧ q_un ws u [145, 152] ∧ ∃ (u0_0 : Int32) (u0_1 : Int32) (u0_2 : Int32) (u0_3 : Int32) (u0_4 : Int64) (u0_5 : Int32) (u0_6 : Int32) (u0_7 : Int64) (u0_8 : Int32) (u0_9 : Int64) (u0_10 : Int32) (u1_0 : (Nat → Int32)), u[145]? = (some (q 145, .inr (15, [.int u0_0, .ref (q 146), .ref (q 147), .ref (q 148), .ref (q 149), .ref (q 150), .ref (q 151), .ref (q 152), .int u0_1, .int u0_2, .int u0_3, .long u0_4, .int u0_5, .int u0_6, .long u0_7, .int u0_8, .long u0_9, .int u0_10])) : Option (Nat × va_E)) ∧ u[152]? = (some (q 152, .inl (g 0, (1600 : Int32).toNatClampNeg, .inl u1_0)) : Option (Nat × va_E)) ∧ (t0_0.toInt ≤ u0_0.toInt) ∧ (u0_0.toInt ≤ t0_0.toInt) ∧ (t0_2.toInt + 2 ≤ u0_1.toInt) ∧ (u0_1.toInt ≤ t0_2.toInt + 8) ∧ (t0_2.toInt ≤ u0_2.toInt) ∧ (u0_2.toInt ≤ t0_2.toInt) ∧ (t0_3.toInt ≤ u0_3.toInt) ∧ (u0_3.toInt ≤ t0_3.toInt) ∧ (t0_4.toInt ≤ u0_4.toInt) ∧ (u0_4.toInt ≤ t0_4.toInt) ∧ (t0_5.toInt ≤ u0_5.toInt) ∧ (u0_5.toInt ≤ t0_5.toInt) ∧ (t0_6.toInt ≤ u0_6.toInt) ∧ (u0_6.toInt ≤ t0_6.toInt) ∧ (t0_7.toInt ≤ u0_7.toInt) ∧ (u0_7.toInt ≤ t0_7.toInt) ∧ (t0_8.toInt ≤ u0_8.toInt) ∧ (u0_8.toInt ≤ t0_8.toInt) ∧ (t0_9.toInt ≤ u0_9.toInt) ∧ (u0_9.toInt ≤ t0_9.toInt) ∧ (t0_10.toInt ≤ u0_10.toInt) ∧ (u0_10.toInt ≤ t0_10.toInt) ∧ (u0_0, u0_1, u0_2, u0_3, u0_4, u0_5, u0_6, u0_7, u0_8, u0_9, u0_10, u1_0) = (F_FR_name t0_0 t0_1 t0_2 t0_3 t0_4 t0_5 t0_6 t0_7 t0_8 t0_9 t0_10 t1_0)) := by
  intro sz
  refine q_into (by decide) (Nat.le_of_ble_eq_true rfl) ?_
  intro p e s m below meth c ls hsz C0 V hl
  have hx := C0.1
  have hb := C0.2.1
  have btt0_2 := n_w145 hI hT0
  replace btt0_2 : q_F (0 ≤ t0_2.toInt ∧ t0_2.toInt ≤ 1) := btt0_2
  have hF : q_un ws ws [145, 152] := q_u0
  have hl : lv_has ls 4 [(0, .ref (q 145))] := hl
  refine lv_aload_n hx hb d_17_18_0 rfl (lv_at hl 0 rfl) ?_
  refine lv_iconst (v := 0) hx hb d_17_18_1 (by decide) ?_
  refine q_put (ci := 15) (j := 8) (v := .int 0) (ty := .int) C0 V i_FR o_FR n_FR rfl rfl hT0 (by decide) w_2084 rfl rfl rfl rfl (Nat.le_of_ble_eq_true rfl) d_17_18_2 (fun H locs w17 hu18 hT0 V => ?_)
  replace hT0 : w17[145]? = (some (q 145, .inr (15, [.int t0_0, .ref (q 146), .ref (q 147), .ref (q 148), .ref (q 149), .ref (q 150), .ref (q 151), .ref (q 152), .int 0, .int t0_2, .int t0_3, .long t0_4, .int t0_5, .int t0_6, .long t0_7, .int t0_8, .long t0_9, .int t0_10])) : Option (Nat × va_E)) := hT0
  replace hI := n_p145 hI hu18 hT0 (by first | with_reducible exact q_fe btt0_2 | exact ⟨(by have t1 : 0 ≤ t0_2.toInt ∧ t0_2.toInt ≤ 1 := btt0_2; omega), (by have t1 : 0 ≤ t0_2.toInt ∧ t0_2.toInt ≤ 1 := btt0_2; omega)⟩)
  replace hT1 := (hu18 _ (by decide)).trans hT1
  replace hF := q_us hF hu18 (by simp)
  refine lv_aload_n hx hb d_17_18_5 rfl (lv_at hl 0 rfl) ?_
  refine q_get (ci := 15) (j := 11) (v := .long t0_4) C0 V i_FR rfl rfl hT0 (by decide) w_2087 rfl d_17_18_6 ?_
  refine lv_lconst (v := 0) hx hb d_17_18_9 (by decide) ?_
  refine W.lcmp hx hb d_17_18_10 ?_
  obtain ⟨a19, e20⟩ := q_nm (lg_cmp t0_4 0 : Int32)
  refine q_ti (v := a19) e20 ?_
  have b21 : q_F (-1 ≤ a19.toInt ∧ a19.toInt ≤ 1 ∧ ((a19.toInt = -1 ∧ t0_4.toInt < 0) ∨ (a19.toInt = 0 ∧ t0_4.toInt = 0) ∨ (a19.toInt = 1 ∧ 0 < t0_4.toInt))) := (by rw [← e20]; show -1 ≤ (lg_cmp t0_4 0 : Int32).toInt ∧ (lg_cmp t0_4 0 : Int32).toInt ≤ 1 ∧ (((lg_cmp t0_4 0 : Int32).toInt = -1 ∧ t0_4.toInt < 0) ∨ ((lg_cmp t0_4 0 : Int32).toInt = 0 ∧ t0_4.toInt = 0) ∨ ((lg_cmp t0_4 0 : Int32).toInt = 1 ∧ 0 < t0_4.toInt)); exact (by have y1 : (0 : Int64).toInt = 0 := rfl; have z := s_lcmp (a := t0_4) (b := 0); omega))
  refine lv_if_eq (tgt := 33) hx hb d_17_18_11 (by decide) (fun c22 => ?_) (fun c22 => ?_)
  ·
    have b23 : q_F (a19.toInt = 0) := (q_eqI c22)
    refine lv_aload_n hx hb d_17_18_33 rfl (lv_at hl 0 rfl) ?_
    have ob24 : True ∧ S_FR_begin t0_0 (0 : Int32) t0_2 t0_3 t0_4 t0_5 t0_6 t0_7 t0_8 t0_9 t0_10 t1_0 := (by have h := hS; rw [S_FR_name.eq_1] at h; have c22x := c22; rw [← e20] at c22x; rw [if_pos c22x] at h; with_reducible exact h.2.1)
    refine q_gov V (q_runV (As := []) (rest := []) (d := 2) (mc := 0) (ms := 0) (ci := 15) C0 V rfl LV_FR_113 (X_FR_begin l D g q w17   hI t0_0 0 t0_2 t0_3 t0_4 t0_5 t0_6 t0_7 t0_8 t0_9 t0_10 hT0 t1_0 hT1 ob24 _) rfl rfl hT0 rfl hl.1 rfl (Nat.le_of_ble_eq_true rfl) ⟨by decide, by decide⟩ ⟨Nat.le_of_ble_eq_true rfl, Nat.le_of_ble_eq_true rfl⟩ d_17_18_34) (fun u25 H locs hp26 V => ?_)
    obtain ⟨hI, hZ9⟩ := hp26
    obtain ⟨hu64, hZ9⟩ := hZ9
    obtain ⟨y28, hZ9⟩ := hZ9
    obtain ⟨y29, hZ9⟩ := hZ9
    obtain ⟨y30, hZ9⟩ := hZ9
    obtain ⟨y31, hZ9⟩ := hZ9
    obtain ⟨y32, hZ9⟩ := hZ9
    obtain ⟨y33, hZ9⟩ := hZ9
    obtain ⟨y34, hZ9⟩ := hZ9
    obtain ⟨y35, hZ9⟩ := hZ9
    obtain ⟨y36, hZ9⟩ := hZ9
    obtain ⟨y37, hZ9⟩ := hZ9
    obtain ⟨y38, hZ9⟩ := hZ9
    obtain ⟨f39, hZ9⟩ := hZ9
    obtain ⟨hO27, hZ9⟩ := hZ9
    obtain ⟨hA40, hZ9⟩ := hZ9
    obtain ⟨b41, hZ9⟩ := hZ9
    obtain ⟨b42, hZ9⟩ := hZ9
    obtain ⟨b43, hZ9⟩ := hZ9
    obtain ⟨b44, hZ9⟩ := hZ9
    obtain ⟨b45, hZ9⟩ := hZ9
    obtain ⟨b46, hZ9⟩ := hZ9
    obtain ⟨b47, hZ9⟩ := hZ9
    obtain ⟨b48, hZ9⟩ := hZ9
    obtain ⟨b49, hZ9⟩ := hZ9
    obtain ⟨b50, hZ9⟩ := hZ9
    obtain ⟨b51, hZ9⟩ := hZ9
    obtain ⟨b52, hZ9⟩ := hZ9
    obtain ⟨b53, hZ9⟩ := hZ9
    obtain ⟨b54, hZ9⟩ := hZ9
    obtain ⟨b55, hZ9⟩ := hZ9
    obtain ⟨b56, hZ9⟩ := hZ9
    obtain ⟨b57, hZ9⟩ := hZ9
    obtain ⟨b58, hZ9⟩ := hZ9
    obtain ⟨b59, hZ9⟩ := hZ9
    obtain ⟨b60, hZ9⟩ := hZ9
    obtain ⟨b61, hZ9⟩ := hZ9
    obtain ⟨b62, hE63⟩ := hZ9
    replace hO27 : u25[145]? = (some (q 145, .inr (15, [.int y28, .ref (q 146), .ref (q 147), .ref (q 148), .ref (q 149), .ref (q 150), .ref (q 151), .ref (q 152), .int y29, .int y30, .int y31, .long y32, .int y33, .int y34, .long y35, .int y36, .long y37, .int y38])) : Option (Nat × va_E)) := hO27
    replace hA40 : u25[152]? = (some (q 152, .inl (g 0, (1600 : Int32).toNatClampNeg, .inl f39)) : Option (Nat × va_E)) := hA40
    obtain ⟨p65, e66⟩ : ∃ z, z = (F_FR_begin t0_0 (0 : Int32) t0_2 t0_3 t0_4 t0_5 t0_6 t0_7 t0_8 t0_9 t0_10 t1_0) := ⟨_, rfl⟩
    have e67 : y28 = p65.1 := congrArg (fun z => z.1) (hE63.trans e66.symm)
    have e68 : y29 = p65.2.1 := congrArg (fun z => z.2.1) (hE63.trans e66.symm)
    have e69 : y30 = p65.2.2.1 := congrArg (fun z => z.2.2.1) (hE63.trans e66.symm)
    have e70 : y31 = p65.2.2.2.1 := congrArg (fun z => z.2.2.2.1) (hE63.trans e66.symm)
    have e71 : y32 = p65.2.2.2.2.1 := congrArg (fun z => z.2.2.2.2.1) (hE63.trans e66.symm)
    have e72 : y33 = p65.2.2.2.2.2.1 := congrArg (fun z => z.2.2.2.2.2.1) (hE63.trans e66.symm)
    have e73 : y34 = p65.2.2.2.2.2.2.1 := congrArg (fun z => z.2.2.2.2.2.2.1) (hE63.trans e66.symm)
    have e74 : y35 = p65.2.2.2.2.2.2.2.1 := congrArg (fun z => z.2.2.2.2.2.2.2.1) (hE63.trans e66.symm)
    have e75 : y36 = p65.2.2.2.2.2.2.2.2.1 := congrArg (fun z => z.2.2.2.2.2.2.2.2.1) (hE63.trans e66.symm)
    have e76 : y37 = p65.2.2.2.2.2.2.2.2.2.1 := congrArg (fun z => z.2.2.2.2.2.2.2.2.2.1) (hE63.trans e66.symm)
    have e77 : y38 = p65.2.2.2.2.2.2.2.2.2.2.1 := congrArg (fun z => z.2.2.2.2.2.2.2.2.2.2.1) (hE63.trans e66.symm)
    have e78 : f39 = p65.2.2.2.2.2.2.2.2.2.2.2 := congrArg (fun z => z.2.2.2.2.2.2.2.2.2.2.2) (hE63.trans e66.symm)
    replace b41 : q_F (t0_0.toInt ≤ y28.toInt) := b41
    replace b42 : q_F (y28.toInt ≤ t0_0.toInt) := b42
    replace b43 : q_F (t0_2.toInt ≤ y30.toInt) := b43
    replace b44 : q_F (y30.toInt ≤ t0_2.toInt) := b44
    replace b45 : q_F (t0_3.toInt ≤ y31.toInt) := b45
    replace b46 : q_F (y31.toInt ≤ t0_3.toInt) := b46
    replace b47 : q_F (t0_4.toInt ≤ y32.toInt) := b47
    replace b48 : q_F (y32.toInt ≤ t0_4.toInt) := b48
    replace b49 : q_F (t0_5.toInt ≤ y33.toInt) := b49
    replace b50 : q_F (y33.toInt ≤ t0_5.toInt) := b50
    replace b51 : q_F (t0_6.toInt ≤ y34.toInt) := b51
    replace b52 : q_F (y34.toInt ≤ t0_6.toInt) := b52
    replace b53 : q_F (t0_7.toInt ≤ y35.toInt) := b53
    replace b54 : q_F (y35.toInt ≤ t0_7.toInt) := b54
    replace b55 : q_F (t0_8.toInt ≤ y36.toInt) := b55
    replace b56 : q_F (y36.toInt ≤ t0_8.toInt) := b56
    replace b57 : q_F (t0_9.toInt ≤ y37.toInt) := b57
    replace b58 : q_F (y37.toInt ≤ t0_9.toInt) := b58
    replace b59 : q_F (t0_10.toInt ≤ y38.toInt) := b59
    replace b60 : q_F (y38.toInt ≤ t0_10.toInt) := b60
    replace b61 : q_F (y30.toInt ≤ y29.toInt) := b61
    replace b62 : q_F (y29.toInt ≤ y30.toInt) := b62
    replace hF := q_uc hF hu64 (by simp)
    have hR79 := (show F_FR_name_c34 t0_0 t0_1 t0_2 t0_3 t0_4 t0_5 t0_6 t0_7 t0_8 t0_9 t0_10 t1_0 p65 = (F_FR_name t0_0 t0_1 t0_2 t0_3 t0_4 t0_5 t0_6 t0_7 t0_8 t0_9 t0_10 t1_0) from (by have c22x := c22; rw [← e20] at c22x; rw [e66, F_FR_name.eq_1, if_pos c22x]))
    have hS80 := (show True ∧ S_FR_name_c34 t0_0 t0_1 t0_2 t0_3 t0_4 t0_5 t0_6 t0_7 t0_8 t0_9 t0_10 t1_0 p65 from (by rw [e66]; have h := hS; rw [S_FR_name.eq_1] at h; have c22x := c22; rw [← e20] at c22x; rw [if_pos c22x] at h; replace h := q_s2 h; with_reducible exact h))
    refine q_ldc2 C0 rfl w_3027 d_17_18_37 ?_
    refine lv_lstore_n (lv' := [(1, .long 8751735898823355977), (0, .ref (q 145))]) hx hb d_17_18_40 rfl hl (by decide) rfl (fun ls hl => ?_)
    refine lv_iconst (v := 0) hx hb d_17_18_41 (by decide) ?_
    refine lv_istore_n (lv' := [(3, .int 0), (1, .long 8751735898823355977), (0, .ref (q 145))]) hx hb d_17_18_42 rfl hl (by decide) rfl (fun ls hl => ?_)
    refine q_loop (X := Int32 × Int32 × Int32 × Int32 × Int32 × Int64 × Int32 × Int32 × Int64 × Int32 × Int64 × Int32 × (Nat → Int32)) (fun z H locs ls w123 => q_F (z.1.toInt ≤ 8) ∧ q_F (0 ≤ z.2.2.2.2.2.1.toInt) ∧ q_F (z.2.2.2.2.2.1.toInt ≤ 0) ∧ q_F (y28.toInt ≤ z.2.1.toInt) ∧ q_F (z.2.1.toInt ≤ y28.toInt) ∧ q_F (y30.toInt ≤ z.2.2.2.1.toInt) ∧ q_F (z.2.2.2.1.toInt ≤ y30.toInt) ∧ q_F (y31.toInt ≤ z.2.2.2.2.1.toInt) ∧ q_F (z.2.2.2.2.1.toInt ≤ y31.toInt) ∧ q_F (y33.toInt ≤ z.2.2.2.2.2.2.1.toInt) ∧ q_F (z.2.2.2.2.2.2.1.toInt ≤ y33.toInt) ∧ q_F (y34.toInt ≤ z.2.2.2.2.2.2.2.1.toInt) ∧ q_F (z.2.2.2.2.2.2.2.1.toInt ≤ y34.toInt) ∧ q_F (y35.toInt ≤ z.2.2.2.2.2.2.2.2.1.toInt) ∧ q_F (z.2.2.2.2.2.2.2.2.1.toInt ≤ y35.toInt) ∧ q_F (y36.toInt ≤ z.2.2.2.2.2.2.2.2.2.1.toInt) ∧ q_F (z.2.2.2.2.2.2.2.2.2.1.toInt ≤ y36.toInt) ∧ q_F (y37.toInt ≤ z.2.2.2.2.2.2.2.2.2.2.1.toInt) ∧ q_F (z.2.2.2.2.2.2.2.2.2.2.1.toInt ≤ y37.toInt) ∧ q_F (y38.toInt ≤ z.2.2.2.2.2.2.2.2.2.2.2.1.toInt) ∧ q_F (z.2.2.2.2.2.2.2.2.2.2.2.1.toInt ≤ y38.toInt) ∧ q_F (z.2.2.1.toInt ≤ z.1.toInt + y29.toInt) ∧ q_F (z.1.toInt + y29.toInt ≤ z.2.2.1.toInt) ∧ q_F (z.2.2.2.2.2.2.2.2.2.2.2.1.toInt ≤ z.1.toInt + y38.toInt) ∧ q_Wd D g (va_A ws sz) s w123 H locs ∧ lv_has ls 4 [(3, .int z.1), (1, .long 8751735898823355977), (0, .ref (q 145))] ∧ q_I (msh g q) q w123 ∧ q_un ws w123 [145, 152] ∧ w123[145]? = (some (q 145, .inr (15, [.int z.2.1, .ref (q 146), .ref (q 147), .ref (q 148), .ref (q 149), .ref (q 150), .ref (q 151), .ref (q 152), .int z.2.2.1, .int z.2.2.2.1, .int z.2.2.2.2.1, .long z.2.2.2.2.2.1, .int z.2.2.2.2.2.2.1, .int z.2.2.2.2.2.2.2.1, .long z.2.2.2.2.2.2.2.2.1, .int z.2.2.2.2.2.2.2.2.2.1, .long z.2.2.2.2.2.2.2.2.2.2.1, .int z.2.2.2.2.2.2.2.2.2.2.2.1])) : Option (Nat × va_E)) ∧ w123[152]? = (some (q 152, .inl (g 0, (1600 : Int32).toNatClampNeg, .inl z.2.2.2.2.2.2.2.2.2.2.2.2)) : Option (Nat × va_E)) ∧ (∃ n, (8 - z.1.toInt).toNat < n ∧ F_FR_name_L43 t0_0 t0_1 t0_2 t0_3 t0_4 t0_5 t0_6 t0_7 t0_8 t0_9 t0_10 t1_0 p65 n z.1 z.2.1 z.2.2.1 z.2.2.2.1 z.2.2.2.2.1 z.2.2.2.2.2.1 z.2.2.2.2.2.2.1 z.2.2.2.2.2.2.2.1 z.2.2.2.2.2.2.2.2.1 z.2.2.2.2.2.2.2.2.2.1 z.2.2.2.2.2.2.2.2.2.2.1 z.2.2.2.2.2.2.2.2.2.2.2.1 z.2.2.2.2.2.2.2.2.2.2.2.2 = (F_FR_name t0_0 t0_1 t0_2 t0_3 t0_4 t0_5 t0_6 t0_7 t0_8 t0_9 t0_10 t1_0) ∧ True ∧ S_FR_name_L43 t0_0 t0_1 t0_2 t0_3 t0_4 t0_5 t0_6 t0_7 t0_8 t0_9 t0_10 t1_0 p65 n z.1 z.2.1 z.2.2.1 z.2.2.2.1 z.2.2.2.2.1 z.2.2.2.2.2.1 z.2.2.2.2.2.2.1 z.2.2.2.2.2.2.2.1 z.2.2.2.2.2.2.2.2.1 z.2.2.2.2.2.2.2.2.2.1 z.2.2.2.2.2.2.2.2.2.2.1 z.2.2.2.2.2.2.2.2.2.2.2.1 z.2.2.2.2.2.2.2.2.2.2.2.2)) (fun z => (8 - z.1.toInt).toNat) ?_ ((0 : Int32), (y28 : Int32), (y29 : Int32), (y30 : Int32), (y31 : Int32), (y32 : Int64), (y33 : Int32), (y34 : Int32), (y35 : Int64), (y36 : Int32), (y37 : Int64), (y38 : Int32), (f39 : (Nat → Int32))) _ _ _ u25 ⟨(show q_F (0 ≤ 8) from (show 0 ≤ 8 from by omega)), (show q_F (0 ≤ y32.toInt) from (show 0 ≤ y32.toInt from by have t1 : -1 ≤ a19.toInt ∧ a19.toInt ≤ 1 ∧ ((a19.toInt = -1 ∧ t0_4.toInt < 0) ∨ (a19.toInt = 0 ∧ t0_4.toInt = 0) ∨ (a19.toInt = 1 ∧ 0 < t0_4.toInt)) := b21; have t2 : a19.toInt = 0 := b23; have t3 : t0_4.toInt ≤ y32.toInt := b47; omega)), (show q_F (y32.toInt ≤ 0) from (show y32.toInt ≤ 0 from by have t1 : -1 ≤ a19.toInt ∧ a19.toInt ≤ 1 ∧ ((a19.toInt = -1 ∧ t0_4.toInt < 0) ∨ (a19.toInt = 0 ∧ t0_4.toInt = 0) ∨ (a19.toInt = 1 ∧ 0 < t0_4.toInt)) := b21; have t2 : a19.toInt = 0 := b23; have t3 : y32.toInt ≤ t0_4.toInt := b48; omega)), (show q_F (y28.toInt ≤ y28.toInt) from (show y28.toInt ≤ y28.toInt from by omega)), (show q_F (y28.toInt ≤ y28.toInt) from (show y28.toInt ≤ y28.toInt from by omega)), (show q_F (y30.toInt ≤ y30.toInt) from (show y30.toInt ≤ y30.toInt from by omega)), (show q_F (y30.toInt ≤ y30.toInt) from (show y30.toInt ≤ y30.toInt from by omega)), (show q_F (y31.toInt ≤ y31.toInt) from (show y31.toInt ≤ y31.toInt from by omega)), (show q_F (y31.toInt ≤ y31.toInt) from (show y31.toInt ≤ y31.toInt from by omega)), (show q_F (y33.toInt ≤ y33.toInt) from (show y33.toInt ≤ y33.toInt from by omega)), (show q_F (y33.toInt ≤ y33.toInt) from (show y33.toInt ≤ y33.toInt from by omega)), (show q_F (y34.toInt ≤ y34.toInt) from (show y34.toInt ≤ y34.toInt from by omega)), (show q_F (y34.toInt ≤ y34.toInt) from (show y34.toInt ≤ y34.toInt from by omega)), (show q_F (y35.toInt ≤ y35.toInt) from (show y35.toInt ≤ y35.toInt from by omega)), (show q_F (y35.toInt ≤ y35.toInt) from (show y35.toInt ≤ y35.toInt from by omega)), (show q_F (y36.toInt ≤ y36.toInt) from (show y36.toInt ≤ y36.toInt from by omega)), (show q_F (y36.toInt ≤ y36.toInt) from (show y36.toInt ≤ y36.toInt from by omega)), (show q_F (y37.toInt ≤ y37.toInt) from (show y37.toInt ≤ y37.toInt from by omega)), (show q_F (y37.toInt ≤ y37.toInt) from (show y37.toInt ≤ y37.toInt from by omega)), (show q_F (y38.toInt ≤ y38.toInt) from (show y38.toInt ≤ y38.toInt from by omega)), (show q_F (y38.toInt ≤ y38.toInt) from (show y38.toInt ≤ y38.toInt from by omega)), (show q_F (y29.toInt ≤ 0 + y29.toInt) from (show y29.toInt ≤ 0 + y29.toInt from by omega)), (show q_F (0 + y29.toInt ≤ y29.toInt) from (show 0 + y29.toInt ≤ y29.toInt from by omega)), (show q_F (y38.toInt ≤ 0 + y38.toInt) from (show y38.toInt ≤ 0 + y38.toInt from by omega)), V, q_lw hl (q_lw1 0 rfl (q_lw1 1 rfl (q_lw1 2 rfl q_lw0))), hI, hF, hO27, hA40, ⟨((8 - (0 : Int32).toInt).toNat + 1), Nat.lt_succ_self _, (show F_FR_name_L43 t0_0 t0_1 t0_2 t0_3 t0_4 t0_5 t0_6 t0_7 t0_8 t0_9 t0_10 t1_0 p65 ((8 - (0 : Int32).toInt).toNat + 1) 0 y28 y29 y30 y31 y32 y33 y34 y35 y36 y37 y38 f39 = (F_FR_name t0_0 t0_1 t0_2 t0_3 t0_4 t0_5 t0_6 t0_7 t0_8 t0_9 t0_10 t1_0) from Eq.trans (by rw [e78, e77, e76, e75, e74, e73, e72, e71, e70, e69, e68, e67, F_FR_name_c34.eq_1]) hR79), (show True ∧ S_FR_name_L43 t0_0 t0_1 t0_2 t0_3 t0_4 t0_5 t0_6 t0_7 t0_8 t0_9 t0_10 t1_0 p65 ((8 - (0 : Int32).toInt).toNat + 1) 0 y28 y29 y30 y31 y32 y33 y34 y35 y36 y37 y38 f39 from (by rw [e78, e77, e76, e75, e74, e73, e72, e71, e70, e69, e68, e67]; have h := hS80; rw [S_FR_name_c34.eq_1] at h; with_reducible exact h))⟩⟩
    rintro ⟨lx85, lx86, lx87, lx88, lx89, lx90, lx91, lx92, lx93, lx94, lx95, lx96, lx97⟩ H locs ls w123 ⟨i98, i99, i100, i101, i102, i103, i104, i105, i106, i107, i108, i109, i110, i111, i112, i113, i114, i115, i116, i117, i118, i119, i120, i121, V, hl, hI, hF, hO124, hO125, ⟨fu128, hf129, hR126, hS127⟩⟩ ih122
    obtain ⟨fm130, rfl⟩ : ∃ m, fu128 = m + 1 := ⟨fu128 - 1, by omega⟩
    replace i98 : q_F (lx85.toInt ≤ 8) := i98
    replace i99 : q_F (0 ≤ lx90.toInt) := i99
    replace i100 : q_F (lx90.toInt ≤ 0) := i100
    replace i101 : q_F (y28.toInt ≤ lx86.toInt) := i101
    replace i102 : q_F (lx86.toInt ≤ y28.toInt) := i102
    replace i103 : q_F (y30.toInt ≤ lx88.toInt) := i103
    replace i104 : q_F (lx88.toInt ≤ y30.toInt) := i104
    replace i105 : q_F (y31.toInt ≤ lx89.toInt) := i105
    replace i106 : q_F (lx89.toInt ≤ y31.toInt) := i106
    replace i107 : q_F (y33.toInt ≤ lx91.toInt) := i107
    replace i108 : q_F (lx91.toInt ≤ y33.toInt) := i108
    replace i109 : q_F (y34.toInt ≤ lx92.toInt) := i109
    replace i110 : q_F (lx92.toInt ≤ y34.toInt) := i110
    replace i111 : q_F (y35.toInt ≤ lx93.toInt) := i111
    replace i112 : q_F (lx93.toInt ≤ y35.toInt) := i112
    replace i113 : q_F (y36.toInt ≤ lx94.toInt) := i113
    replace i114 : q_F (lx94.toInt ≤ y36.toInt) := i114
    replace i115 : q_F (y37.toInt ≤ lx95.toInt) := i115
    replace i116 : q_F (lx95.toInt ≤ y37.toInt) := i116
    replace i117 : q_F (y38.toInt ≤ lx96.toInt) := i117
    replace i118 : q_F (lx96.toInt ≤ y38.toInt) := i118
    replace i119 : q_F (lx87.toInt ≤ lx85.toInt + y29.toInt) := i119
    replace i120 : q_F (lx85.toInt + y29.toInt ≤ lx87.toInt) := i120
    replace i121 : q_F (lx96.toInt ≤ lx85.toInt + y38.toInt) := i121
    replace hl : lv_has ls 4 [(3, .int lx85), (1, .long 8751735898823355977), (0, .ref (q 145))] := hl
    replace hO124 : w123[145]? = (some (q 145, .inr (15, [.int lx86, .ref (q 146), .ref (q 147), .ref (q 148), .ref (q 149), .ref (q 150), .ref (q 151), .ref (q 152), .int lx87, .int lx88, .int lx89, .long lx90, .int lx91, .int lx92, .long lx93, .int lx94, .long lx95, .int lx96])) : Option (Nat × va_E)) := hO124
    replace hO125 : w123[152]? = (some (q 152, .inl (g 0, (1600 : Int32).toNatClampNeg, .inl lx97)) : Option (Nat × va_E)) := hO125
    refine lv_iload_n hx hb d_17_18_43 rfl (lv_at hl 0 rfl) ?_
    refine lv_bipush (v := 8) hx hb d_17_18_44 (by decide) ?_
    refine lv_icmp_ge (tgt := 70) hx hb d_17_18_46 (by decide) (fun c131 => ?_) (fun c131 => ?_)
    ·
      have b132 : q_F (8 ≤ lx85.toInt) := (q_leI c131)
      exact q_retv C0 V (⟨hI, hF, lx86, lx87, lx88, lx89, lx90, lx91, lx92, lx93, lx94, lx95, lx96, lx97, hO124, hO125, (show t0_0.toInt ≤ lx86.toInt from (by have t1 : t0_0.toInt ≤ y28.toInt := b41; have t2 : y28.toInt ≤ lx86.toInt := i101; omega)), (show lx86.toInt ≤ t0_0.toInt from (by have t1 : y28.toInt ≤ t0_0.toInt := b42; have t2 : lx86.toInt ≤ y28.toInt := i102; omega)), (show t0_2.toInt + 2 ≤ lx87.toInt from (by have t1 : t0_2.toInt ≤ y30.toInt := b43; have t2 : y30.toInt ≤ y29.toInt := b61; have t3 : lx85.toInt + y29.toInt ≤ lx87.toInt := i120; have t4 : 8 ≤ lx85.toInt := b132; omega)), (show lx87.toInt ≤ t0_2.toInt + 8 from (by have t1 : y30.toInt ≤ t0_2.toInt := b44; have t2 : y29.toInt ≤ y30.toInt := b62; have t3 : lx85.toInt ≤ 8 := i98; have t4 : lx87.toInt ≤ lx85.toInt + y29.toInt := i119; omega)), (show t0_2.toInt ≤ lx88.toInt from (by have t1 : t0_2.toInt ≤ y30.toInt := b43; have t2 : y30.toInt ≤ lx88.toInt := i103; omega)), (show lx88.toInt ≤ t0_2.toInt from (by have t1 : y30.toInt ≤ t0_2.toInt := b44; have t2 : lx88.toInt ≤ y30.toInt := i104; omega)), (show t0_3.toInt ≤ lx89.toInt from (by have t1 : t0_3.toInt ≤ y31.toInt := b45; have t2 : y31.toInt ≤ lx89.toInt := i105; omega)), (show lx89.toInt ≤ t0_3.toInt from (by have t1 : y31.toInt ≤ t0_3.toInt := b46; have t2 : lx89.toInt ≤ y31.toInt := i106; omega)), (show t0_4.toInt ≤ lx90.toInt from (by have t1 : -1 ≤ a19.toInt ∧ a19.toInt ≤ 1 ∧ ((a19.toInt = -1 ∧ t0_4.toInt < 0) ∨ (a19.toInt = 0 ∧ t0_4.toInt = 0) ∨ (a19.toInt = 1 ∧ 0 < t0_4.toInt)) := b21; have t2 : a19.toInt = 0 := b23; have t3 : 0 ≤ lx90.toInt := i99; omega)), (show lx90.toInt ≤ t0_4.toInt from (by have t1 : -1 ≤ a19.toInt ∧ a19.toInt ≤ 1 ∧ ((a19.toInt = -1 ∧ t0_4.toInt < 0) ∨ (a19.toInt = 0 ∧ t0_4.toInt = 0) ∨ (a19.toInt = 1 ∧ 0 < t0_4.toInt)) := b21; have t2 : a19.toInt = 0 := b23; have t3 : lx90.toInt ≤ 0 := i100; omega)), (show t0_5.toInt ≤ lx91.toInt from (by have t1 : t0_5.toInt ≤ y33.toInt := b49; have t2 : y33.toInt ≤ lx91.toInt := i107; omega)), (show lx91.toInt ≤ t0_5.toInt from (by have t1 : y33.toInt ≤ t0_5.toInt := b50; have t2 : lx91.toInt ≤ y33.toInt := i108; omega)), (show t0_6.toInt ≤ lx92.toInt from (by have t1 : t0_6.toInt ≤ y34.toInt := b51; have t2 : y34.toInt ≤ lx92.toInt := i109; omega)), (show lx92.toInt ≤ t0_6.toInt from (by have t1 : y34.toInt ≤ t0_6.toInt := b52; have t2 : lx92.toInt ≤ y34.toInt := i110; omega)), (show t0_7.toInt ≤ lx93.toInt from (by have t1 : t0_7.toInt ≤ y35.toInt := b53; have t2 : y35.toInt ≤ lx93.toInt := i111; omega)), (show lx93.toInt ≤ t0_7.toInt from (by have t1 : y35.toInt ≤ t0_7.toInt := b54; have t2 : lx93.toInt ≤ y35.toInt := i112; omega)), (show t0_8.toInt ≤ lx94.toInt from (by have t1 : t0_8.toInt ≤ y36.toInt := b55; have t2 : y36.toInt ≤ lx94.toInt := i113; omega)), (show lx94.toInt ≤ t0_8.toInt from (by have t1 : y36.toInt ≤ t0_8.toInt := b56; have t2 : lx94.toInt ≤ y36.toInt := i114; omega)), (show t0_9.toInt ≤ lx95.toInt from (by have t1 : t0_9.toInt ≤ y37.toInt := b57; have t2 : y37.toInt ≤ lx95.toInt := i115; omega)), (show lx95.toInt ≤ t0_9.toInt from (by have t1 : y37.toInt ≤ t0_9.toInt := b58; have t2 : lx95.toInt ≤ y37.toInt := i116; omega)), (show t0_10.toInt ≤ lx96.toInt from (by have t1 : t0_10.toInt ≤ y38.toInt := b59; have t2 : y38.toInt ≤ lx96.toInt := i117; omega)), (show lx96.toInt ≤ t0_10.toInt from (by have t1 : y38.toInt ≤ t0_10.toInt := b60; have t2 : lx96.toInt ≤ y38.toInt := i118; omega)), (show (lx86, lx87, lx88, lx89, lx90, lx91, lx92, lx93, lx94, lx95, lx96, lx97) = (F_FR_name t0_0 t0_1 t0_2 t0_3 t0_4 t0_5 t0_6 t0_7 t0_8 t0_9 t0_10 t1_0) from Eq.trans (by rw [F_FR_name_L43.eq_2, if_pos c131]) hR126)⟩) d_17_18_70
    ·
      have b133 : q_F (lx85.toInt < 8) := (q_nleI c131)
      refine lv_aload_n hx hb d_17_18_49 rfl (lv_at hl 2 rfl) ?_
      refine lv_lload_n hx hb d_17_18_50 rfl (lv_at hl 1 rfl) ?_
      refine lv_bipush (v := 8) hx hb d_17_18_51 (by decide) ?_
      refine lv_iload_n hx hb d_17_18_53 rfl (lv_at hl 0 rfl) ?_
      refine lv_imul hx hb d_17_18_54 ?_
      obtain ⟨a134, e135⟩ := q_nm (8 * lx85 : Int32)
      refine q_ti (v := a134) e135 ?_
      have b136 : q_F (a134.toInt = 8 * lx85.toInt) := (by rw [← e135]; show (8 * lx85 : Int32).toInt = 8 * lx85.toInt; exact q_mulI (x := 8) (y := lx85.toInt) (by decide) rfl (by have t1 : y38.toInt ≤ lx96.toInt := i117; have t2 : lx96.toInt ≤ lx85.toInt + y38.toInt := i121; have t3 : lx85.toInt ≤ 8 := i98; omega) (by have t1 : y38.toInt ≤ lx96.toInt := i117; have t2 : lx96.toInt ≤ lx85.toInt + y38.toInt := i121; have t3 : lx85.toInt ≤ 8 := i98; omega))
      refine lv_lshr hx hb d_17_18_55 rfl ?_
      obtain ⟨j137, e138⟩ := q_nm ((8751735898823355977 : Int64) >>> (a134.toInt64 &&& 63) : Int64)
      refine q_tl (v := j137) e138 ?_
      refine q_ldc2 C0 rfl w_3028 d_17_18_56 ?_
      refine lv_land hx hb d_17_18_59 ?_
      obtain ⟨j139, e140⟩ := q_nm (j137 &&& 255 : Int64)
      refine q_tl (v := j139) e140 ?_
      refine lv_l2i hx hb d_17_18_60 rfl ?_
      obtain ⟨a142, e143⟩ := q_nm (j139.toInt32 : Int32)
      refine q_ti (v := a142) e143 ?_
      have ob145 : True ∧ S_FR_add a142 lx86 lx87 lx88 lx89 lx90 lx91 lx92 lx93 lx94 lx95 lx96 lx97 := (by rw [← e143, ← e140, ← e138, ← e135]; have h := hS127; rw [S_FR_name_L43.eq_2] at h; rw [if_neg c131] at h; with_reducible exact h.2.1)
      refine q_gov V (q_runV (As := [.int a142]) (rest := []) (d := 1) (mc := 0) (ms := 0) (ci := 15) C0 V rfl LV_FR_110 (X_FR_add l D g q w123  a142 hI lx86 lx87 lx88 lx89 lx90 lx91 lx92 lx93 lx94 lx95 lx96 hO124 lx97 hO125 ob145 _) rfl rfl hO124 rfl hl.1 rfl (Nat.le_of_ble_eq_true rfl) ⟨by decide, by decide⟩ ⟨Nat.le_of_ble_eq_true rfl, Nat.le_of_ble_eq_true rfl⟩ d_17_18_61) (fun u146 H locs hp147 V => ?_)
      obtain ⟨hI, hZ9⟩ := hp147
      obtain ⟨hu187, hZ9⟩ := hZ9
      obtain ⟨y149, hZ9⟩ := hZ9
      obtain ⟨y150, hZ9⟩ := hZ9
      obtain ⟨y151, hZ9⟩ := hZ9
      obtain ⟨y152, hZ9⟩ := hZ9
      obtain ⟨y153, hZ9⟩ := hZ9
      obtain ⟨y154, hZ9⟩ := hZ9
      obtain ⟨y155, hZ9⟩ := hZ9
      obtain ⟨y156, hZ9⟩ := hZ9
      obtain ⟨y157, hZ9⟩ := hZ9
      obtain ⟨y158, hZ9⟩ := hZ9
      obtain ⟨y159, hZ9⟩ := hZ9
      obtain ⟨f160, hZ9⟩ := hZ9
      obtain ⟨hO148, hZ9⟩ := hZ9
      obtain ⟨hA161, hZ9⟩ := hZ9
      replace hZ9 := hZ9.2.2
      obtain ⟨b164, hZ9⟩ := hZ9
      obtain ⟨b165, hZ9⟩ := hZ9
      obtain ⟨b166, hZ9⟩ := hZ9
      obtain ⟨b167, hZ9⟩ := hZ9
      obtain ⟨b168, hZ9⟩ := hZ9
      obtain ⟨b169, hZ9⟩ := hZ9
      obtain ⟨b170, hZ9⟩ := hZ9
      obtain ⟨b171, hZ9⟩ := hZ9
      obtain ⟨b172, hZ9⟩ := hZ9
      obtain ⟨b173, hZ9⟩ := hZ9
      obtain ⟨b174, hZ9⟩ := hZ9
      obtain ⟨b175, hZ9⟩ := hZ9
      obtain ⟨b176, hZ9⟩ := hZ9
      obtain ⟨b177, hZ9⟩ := hZ9
      obtain ⟨b178, hZ9⟩ := hZ9
      obtain ⟨b179, hZ9⟩ := hZ9
      obtain ⟨b180, hZ9⟩ := hZ9
      obtain ⟨b181, hZ9⟩ := hZ9
      obtain ⟨b182, hZ9⟩ := hZ9
      obtain ⟨b183, hZ9⟩ := hZ9
      obtain ⟨b184, hZ9⟩ := hZ9
      obtain ⟨b185, hE186⟩ := hZ9
      replace hO148 : u146[145]? = (some (q 145, .inr (15, [.int y149, .ref (q 146), .ref (q 147), .ref (q 148), .ref (q 149), .ref (q 150), .ref (q 151), .ref (q 152), .int y150, .int y151, .int y152, .long y153, .int y154, .int y155, .long y156, .int y157, .long y158, .int y159])) : Option (Nat × va_E)) := hO148
      replace hA161 : u146[152]? = (some (q 152, .inl (g 0, (1600 : Int32).toNatClampNeg, .inl f160)) : Option (Nat × va_E)) := hA161
      obtain ⟨p188, e189⟩ : ∃ z, z = (F_FR_add a142 lx86 lx87 lx88 lx89 lx90 lx91 lx92 lx93 lx94 lx95 lx96 lx97) := ⟨_, rfl⟩
      have e190 : y149 = p188.1 := congrArg (fun z => z.1) (hE186.trans e189.symm)
      have e191 : y150 = p188.2.1 := congrArg (fun z => z.2.1) (hE186.trans e189.symm)
      have e192 : y151 = p188.2.2.1 := congrArg (fun z => z.2.2.1) (hE186.trans e189.symm)
      have e193 : y152 = p188.2.2.2.1 := congrArg (fun z => z.2.2.2.1) (hE186.trans e189.symm)
      have e194 : y153 = p188.2.2.2.2.1 := congrArg (fun z => z.2.2.2.2.1) (hE186.trans e189.symm)
      have e195 : y154 = p188.2.2.2.2.2.1 := congrArg (fun z => z.2.2.2.2.2.1) (hE186.trans e189.symm)
      have e196 : y155 = p188.2.2.2.2.2.2.1 := congrArg (fun z => z.2.2.2.2.2.2.1) (hE186.trans e189.symm)
      have e197 : y156 = p188.2.2.2.2.2.2.2.1 := congrArg (fun z => z.2.2.2.2.2.2.2.1) (hE186.trans e189.symm)
      have e198 : y157 = p188.2.2.2.2.2.2.2.2.1 := congrArg (fun z => z.2.2.2.2.2.2.2.2.1) (hE186.trans e189.symm)
      have e199 : y158 = p188.2.2.2.2.2.2.2.2.2.1 := congrArg (fun z => z.2.2.2.2.2.2.2.2.2.1) (hE186.trans e189.symm)
      have e200 : y159 = p188.2.2.2.2.2.2.2.2.2.2.1 := congrArg (fun z => z.2.2.2.2.2.2.2.2.2.2.1) (hE186.trans e189.symm)
      have e201 : f160 = p188.2.2.2.2.2.2.2.2.2.2.2 := congrArg (fun z => z.2.2.2.2.2.2.2.2.2.2.2) (hE186.trans e189.symm)
      replace b164 : q_F (lx86.toInt ≤ y149.toInt) := b164
      replace b165 : q_F (y149.toInt ≤ lx86.toInt) := b165
      replace b166 : q_F (lx87.toInt + 1 ≤ y150.toInt) := b166
      replace b167 : q_F (y150.toInt ≤ lx87.toInt + 1) := b167
      replace b168 : q_F (lx88.toInt ≤ y151.toInt) := b168
      replace b169 : q_F (y151.toInt ≤ lx88.toInt) := b169
      replace b170 : q_F (lx89.toInt ≤ y152.toInt) := b170
      replace b171 : q_F (y152.toInt ≤ lx89.toInt) := b171
      replace b172 : q_F (lx90.toInt ≤ y153.toInt) := b172
      replace b173 : q_F (y153.toInt ≤ lx90.toInt) := b173
      replace b174 : q_F (lx91.toInt ≤ y154.toInt) := b174
      replace b175 : q_F (y154.toInt ≤ lx91.toInt) := b175
      replace b176 : q_F (lx92.toInt ≤ y155.toInt) := b176
      replace b177 : q_F (y155.toInt ≤ lx92.toInt) := b177
      replace b178 : q_F (lx93.toInt ≤ y156.toInt) := b178
      replace b179 : q_F (y156.toInt ≤ lx93.toInt) := b179
      replace b180 : q_F (lx94.toInt ≤ y157.toInt) := b180
      replace b181 : q_F (y157.toInt ≤ lx94.toInt) := b181
      replace b182 : q_F (lx95.toInt ≤ y158.toInt) := b182
      replace b183 : q_F (y158.toInt ≤ lx95.toInt) := b183
      replace b184 : q_F (lx96.toInt ≤ y159.toInt) := b184
      replace b185 : q_F (y159.toInt ≤ lx96.toInt) := b185
      replace hF := q_uc hF hu187 (by simp)
      have hR202 := (show F_FR_name_c61 (F_FR_name_L43 t0_0 t0_1 t0_2 t0_3 t0_4 t0_5 t0_6 t0_7 t0_8 t0_9 t0_10 t1_0 p65 fm130) t0_0 t0_1 t0_2 t0_3 t0_4 t0_5 t0_6 t0_7 t0_8 t0_9 t0_10 t1_0 p65 lx85 lx86 lx87 lx88 lx89 lx90 lx91 lx92 lx93 lx94 lx95 lx96 lx97 p188 = (F_FR_name t0_0 t0_1 t0_2 t0_3 t0_4 t0_5 t0_6 t0_7 t0_8 t0_9 t0_10 t1_0) from Eq.trans (by rw [e189, ← e143, ← e140, ← e138, ← e135, F_FR_name_L43.eq_2, if_neg c131]) hR126)
      have hS203 := (show True ∧ S_FR_name_c61 (S_FR_name_L43 t0_0 t0_1 t0_2 t0_3 t0_4 t0_5 t0_6 t0_7 t0_8 t0_9 t0_10 t1_0 p65 fm130) t0_0 t0_1 t0_2 t0_3 t0_4 t0_5 t0_6 t0_7 t0_8 t0_9 t0_10 t1_0 p65 lx85 lx86 lx87 lx88 lx89 lx90 lx91 lx92 lx93 lx94 lx95 lx96 lx97 p188 from (by rw [e189, ← e143, ← e140, ← e138, ← e135]; have h := hS127; rw [S_FR_name_L43.eq_2] at h; rw [if_neg c131] at h; replace h := q_s2 h; with_reducible exact h))
      obtain ⟨a207, e208⟩ := q_nm (lx85 + 1 : Int32)
      have b209 : q_F (a207.toInt = lx85.toInt + 1) := (by rw [← e208]; exact q_addI (y := 1) rfl (by decide) (by have t1 : a134.toInt = 8 * lx85.toInt := b136; have _ := q_lo32 (x := a134); have _ := q_hi32 (x := a134); have t2 : lx85.toInt ≤ 8 := i98; omega) (by have t1 : a134.toInt = 8 * lx85.toInt := b136; have _ := q_lo32 (x := a134); have _ := q_hi32 (x := a134); have t2 : lx85.toInt ≤ 8 := i98; omega))
      refine lv_iinc (v := a207) (lv' := [(3, .int a207), (1, .long 8751735898823355977), (0, .ref (q 145))]) hx hb d_17_18_64 hl (k := 0) rfl (e208) (by decide) rfl (fun ls hl => ?_)
      refine lv_goto (tgt := 43) hx hb d_17_18_67 (by decide) ?_
      exact ih122 ((a207 : Int32), (y149 : Int32), (y150 : Int32), (y151 : Int32), (y152 : Int32), (y153 : Int64), (y154 : Int32), (y155 : Int32), (y156 : Int64), (y157 : Int32), (y158 : Int64), (y159 : Int32), (f160 : (Nat → Int32))) _ _ _ _ (show (8 - a207.toInt).toNat < (8 - lx85.toInt).toNat from by have t1 : a207.toInt = lx85.toInt + 1 := b209; have t2 : lx85.toInt ≤ 8 := i98; have t3 : lx85.toInt < 8 := b133; omega) ⟨(show q_F (a207.toInt ≤ 8) from (show a207.toInt ≤ 8 from by have t1 : lx85.toInt < 8 := b133; have t2 : a207.toInt = lx85.toInt + 1 := b209; omega)), (show q_F (0 ≤ y153.toInt) from (show 0 ≤ y153.toInt from by have t1 : 0 ≤ lx90.toInt := i99; have t2 : lx90.toInt ≤ y153.toInt := b172; omega)), (show q_F (y153.toInt ≤ 0) from (show y153.toInt ≤ 0 from by have t1 : lx90.toInt ≤ 0 := i100; have t2 : y153.toInt ≤ lx90.toInt := b173; omega)), (show q_F (y28.toInt ≤ y149.toInt) from (show y28.toInt ≤ y149.toInt from by have t1 : y28.toInt ≤ lx86.toInt := i101; have t2 : lx86.toInt ≤ y149.toInt := b164; omega)), (show q_F (y149.toInt ≤ y28.toInt) from (show y149.toInt ≤ y28.toInt from by have t1 : lx86.toInt ≤ y28.toInt := i102; have t2 : y149.toInt ≤ lx86.toInt := b165; omega)), (show q_F (y30.toInt ≤ y151.toInt) from (show y30.toInt ≤ y151.toInt from by have t1 : y30.toInt ≤ lx88.toInt := i103; have t2 : lx88.toInt ≤ y151.toInt := b168; omega)), (show q_F (y151.toInt ≤ y30.toInt) from (show y151.toInt ≤ y30.toInt from by have t1 : lx88.toInt ≤ y30.toInt := i104; have t2 : y151.toInt ≤ lx88.toInt := b169; omega)), (show q_F (y31.toInt ≤ y152.toInt) from (show y31.toInt ≤ y152.toInt from by have t1 : y31.toInt ≤ lx89.toInt := i105; have t2 : lx89.toInt ≤ y152.toInt := b170; omega)), (show q_F (y152.toInt ≤ y31.toInt) from (show y152.toInt ≤ y31.toInt from by have t1 : lx89.toInt ≤ y31.toInt := i106; have t2 : y152.toInt ≤ lx89.toInt := b171; omega)), (show q_F (y33.toInt ≤ y154.toInt) from (show y33.toInt ≤ y154.toInt from by have t1 : y33.toInt ≤ lx91.toInt := i107; have t2 : lx91.toInt ≤ y154.toInt := b174; omega)), (show q_F (y154.toInt ≤ y33.toInt) from (show y154.toInt ≤ y33.toInt from by have t1 : lx91.toInt ≤ y33.toInt := i108; have t2 : y154.toInt ≤ lx91.toInt := b175; omega)), (show q_F (y34.toInt ≤ y155.toInt) from (show y34.toInt ≤ y155.toInt from by have t1 : y34.toInt ≤ lx92.toInt := i109; have t2 : lx92.toInt ≤ y155.toInt := b176; omega)), (show q_F (y155.toInt ≤ y34.toInt) from (show y155.toInt ≤ y34.toInt from by have t1 : lx92.toInt ≤ y34.toInt := i110; have t2 : y155.toInt ≤ lx92.toInt := b177; omega)), (show q_F (y35.toInt ≤ y156.toInt) from (show y35.toInt ≤ y156.toInt from by have t1 : y35.toInt ≤ lx93.toInt := i111; have t2 : lx93.toInt ≤ y156.toInt := b178; omega)), (show q_F (y156.toInt ≤ y35.toInt) from (show y156.toInt ≤ y35.toInt from by have t1 : lx93.toInt ≤ y35.toInt := i112; have t2 : y156.toInt ≤ lx93.toInt := b179; omega)), (show q_F (y36.toInt ≤ y157.toInt) from (show y36.toInt ≤ y157.toInt from by have t1 : y36.toInt ≤ lx94.toInt := i113; have t2 : lx94.toInt ≤ y157.toInt := b180; omega)), (show q_F (y157.toInt ≤ y36.toInt) from (show y157.toInt ≤ y36.toInt from by have t1 : lx94.toInt ≤ y36.toInt := i114; have t2 : y157.toInt ≤ lx94.toInt := b181; omega)), (show q_F (y37.toInt ≤ y158.toInt) from (show y37.toInt ≤ y158.toInt from by have t1 : y37.toInt ≤ lx95.toInt := i115; have t2 : lx95.toInt ≤ y158.toInt := b182; omega)), (show q_F (y158.toInt ≤ y37.toInt) from (show y158.toInt ≤ y37.toInt from by have t1 : lx95.toInt ≤ y37.toInt := i116; have t2 : y158.toInt ≤ lx95.toInt := b183; omega)), (show q_F (y38.toInt ≤ y159.toInt) from (show y38.toInt ≤ y159.toInt from by have t1 : y38.toInt ≤ lx96.toInt := i117; have t2 : lx96.toInt ≤ y159.toInt := b184; omega)), (show q_F (y159.toInt ≤ y38.toInt) from (show y159.toInt ≤ y38.toInt from by have t1 : lx96.toInt ≤ y38.toInt := i118; have t2 : y159.toInt ≤ lx96.toInt := b185; omega)), (show q_F (y150.toInt ≤ a207.toInt + y29.toInt) from (show y150.toInt ≤ a207.toInt + y29.toInt from by have t1 : lx87.toInt ≤ lx85.toInt + y29.toInt := i119; have t2 : y150.toInt ≤ lx87.toInt + 1 := b167; have t3 : a207.toInt = lx85.toInt + 1 := b209; omega)), (show q_F (a207.toInt + y29.toInt ≤ y150.toInt) from (show a207.toInt + y29.toInt ≤ y150.toInt from by have t1 : lx85.toInt + y29.toInt ≤ lx87.toInt := i120; have t2 : lx87.toInt + 1 ≤ y150.toInt := b166; have t3 : a207.toInt = lx85.toInt + 1 := b209; omega)), (show q_F (y159.toInt ≤ a207.toInt + y38.toInt) from (show y159.toInt ≤ a207.toInt + y38.toInt from by have t1 : lx96.toInt ≤ lx85.toInt + y38.toInt := i121; have t2 : y159.toInt ≤ lx96.toInt := b185; have t3 : a207.toInt = lx85.toInt + 1 := b209; omega)), V, q_lw hl (q_lw1 0 rfl (q_lw1 1 rfl (q_lw1 2 rfl q_lw0))), hI, hF, hO148, hA161, ⟨fm130, Nat.lt_of_lt_of_le (show (8 - a207.toInt).toNat < (8 - lx85.toInt).toNat from by have t1 : a207.toInt = lx85.toInt + 1 := b209; have t2 : lx85.toInt ≤ 8 := i98; have t3 : lx85.toInt < 8 := b133; omega) (Nat.le_of_lt_succ hf129), (show F_FR_name_L43 t0_0 t0_1 t0_2 t0_3 t0_4 t0_5 t0_6 t0_7 t0_8 t0_9 t0_10 t1_0 p65 fm130 a207 y149 y150 y151 y152 y153 y154 y155 y156 y157 y158 y159 f160 = (F_FR_name t0_0 t0_1 t0_2 t0_3 t0_4 t0_5 t0_6 t0_7 t0_8 t0_9 t0_10 t1_0) from Eq.trans (by rw [← e208, e201, e200, e199, e198, e197, e196, e195, e194, e193, e192, e191, e190, F_FR_name_c61.eq_1]) hR202), (show True ∧ S_FR_name_L43 t0_0 t0_1 t0_2 t0_3 t0_4 t0_5 t0_6 t0_7 t0_8 t0_9 t0_10 t1_0 p65 fm130 a207 y149 y150 y151 y152 y153 y154 y155 y156 y157 y158 y159 f160 from (by rw [← e208, e201, e200, e199, e198, e197, e196, e195, e194, e193, e192, e191, e190]; have h := hS203; rw [S_FR_name_c61.eq_1] at h; with_reducible exact h))⟩⟩
  ·
    refine lv_aload_n hx hb d_17_18_14 rfl (lv_at hl 0 rfl) ?_
    refine lv_bipush (v := 78) hx hb d_17_18_15 (by decide) ?_
    have ob211 : True ∧ S_FR_add (78 : Int32) t0_0 (0 : Int32) t0_2 t0_3 t0_4 t0_5 t0_6 t0_7 t0_8 t0_9 t0_10 t1_0 := (by have h := hS; rw [S_FR_name.eq_1] at h; have c22x := c22; rw [← e20] at c22x; rw [if_neg c22x] at h; with_reducible exact h.2.1)
    refine q_gov V (q_runV (As := [.int 78]) (rest := []) (d := 1) (mc := 0) (ms := 0) (ci := 15) C0 V rfl LV_FR_110 (X_FR_add l D g q w17  78 hI t0_0 0 t0_2 t0_3 t0_4 t0_5 t0_6 t0_7 t0_8 t0_9 t0_10 hT0 t1_0 hT1 ob211 _) rfl rfl hT0 rfl hl.1 rfl (Nat.le_of_ble_eq_true rfl) ⟨by decide, by decide⟩ ⟨Nat.le_of_ble_eq_true rfl, Nat.le_of_ble_eq_true rfl⟩ d_17_18_17) (fun u212 H locs hp213 V => ?_)
    obtain ⟨hI, hZ9⟩ := hp213
    obtain ⟨hu253, hZ9⟩ := hZ9
    obtain ⟨y215, hZ9⟩ := hZ9
    obtain ⟨y216, hZ9⟩ := hZ9
    obtain ⟨y217, hZ9⟩ := hZ9
    obtain ⟨y218, hZ9⟩ := hZ9
    obtain ⟨y219, hZ9⟩ := hZ9
    obtain ⟨y220, hZ9⟩ := hZ9
    obtain ⟨y221, hZ9⟩ := hZ9
    obtain ⟨y222, hZ9⟩ := hZ9
    obtain ⟨y223, hZ9⟩ := hZ9
    obtain ⟨y224, hZ9⟩ := hZ9
    obtain ⟨y225, hZ9⟩ := hZ9
    obtain ⟨f226, hZ9⟩ := hZ9
    obtain ⟨hO214, hZ9⟩ := hZ9
    obtain ⟨hA227, hZ9⟩ := hZ9
    obtain ⟨b228, hZ9⟩ := hZ9
    replace hZ9 := hZ9.2
    obtain ⟨b230, hZ9⟩ := hZ9
    obtain ⟨b231, hZ9⟩ := hZ9
    replace hZ9 := hZ9.2
    obtain ⟨b233, hZ9⟩ := hZ9
    obtain ⟨b234, hZ9⟩ := hZ9
    obtain ⟨b235, hZ9⟩ := hZ9
    obtain ⟨b236, hZ9⟩ := hZ9
    obtain ⟨b237, hZ9⟩ := hZ9
    obtain ⟨b238, hZ9⟩ := hZ9
    obtain ⟨b239, hZ9⟩ := hZ9
    obtain ⟨b240, hZ9⟩ := hZ9
    obtain ⟨b241, hZ9⟩ := hZ9
    obtain ⟨b242, hZ9⟩ := hZ9
    obtain ⟨b243, hZ9⟩ := hZ9
    obtain ⟨b244, hZ9⟩ := hZ9
    obtain ⟨b245, hZ9⟩ := hZ9
    obtain ⟨b246, hZ9⟩ := hZ9
    obtain ⟨b247, hZ9⟩ := hZ9
    obtain ⟨b248, hZ9⟩ := hZ9
    obtain ⟨b249, hZ9⟩ := hZ9
    obtain ⟨b250, hZ9⟩ := hZ9
    obtain ⟨b251, hE252⟩ := hZ9
    replace hO214 : u212[145]? = (some (q 145, .inr (15, [.int y215, .ref (q 146), .ref (q 147), .ref (q 148), .ref (q 149), .ref (q 150), .ref (q 151), .ref (q 152), .int y216, .int y217, .int y218, .long y219, .int y220, .int y221, .long y222, .int y223, .long y224, .int y225])) : Option (Nat × va_E)) := hO214
    replace hA227 : u212[152]? = (some (q 152, .inl (g 0, (1600 : Int32).toNatClampNeg, .inl f226)) : Option (Nat × va_E)) := hA227
    obtain ⟨p254, e255⟩ : ∃ z, z = (F_FR_add (78 : Int32) t0_0 (0 : Int32) t0_2 t0_3 t0_4 t0_5 t0_6 t0_7 t0_8 t0_9 t0_10 t1_0) := ⟨_, rfl⟩
    have e256 : y215 = p254.1 := congrArg (fun z => z.1) (hE252.trans e255.symm)
    have e257 : y216 = p254.2.1 := congrArg (fun z => z.2.1) (hE252.trans e255.symm)
    have e258 : y217 = p254.2.2.1 := congrArg (fun z => z.2.2.1) (hE252.trans e255.symm)
    have e259 : y218 = p254.2.2.2.1 := congrArg (fun z => z.2.2.2.1) (hE252.trans e255.symm)
    have e260 : y219 = p254.2.2.2.2.1 := congrArg (fun z => z.2.2.2.2.1) (hE252.trans e255.symm)
    have e261 : y220 = p254.2.2.2.2.2.1 := congrArg (fun z => z.2.2.2.2.2.1) (hE252.trans e255.symm)
    have e262 : y221 = p254.2.2.2.2.2.2.1 := congrArg (fun z => z.2.2.2.2.2.2.1) (hE252.trans e255.symm)
    have e263 : y222 = p254.2.2.2.2.2.2.2.1 := congrArg (fun z => z.2.2.2.2.2.2.2.1) (hE252.trans e255.symm)
    have e264 : y223 = p254.2.2.2.2.2.2.2.2.1 := congrArg (fun z => z.2.2.2.2.2.2.2.2.1) (hE252.trans e255.symm)
    have e265 : y224 = p254.2.2.2.2.2.2.2.2.2.1 := congrArg (fun z => z.2.2.2.2.2.2.2.2.2.1) (hE252.trans e255.symm)
    have e266 : y225 = p254.2.2.2.2.2.2.2.2.2.2.1 := congrArg (fun z => z.2.2.2.2.2.2.2.2.2.2.1) (hE252.trans e255.symm)
    have e267 : f226 = p254.2.2.2.2.2.2.2.2.2.2.2 := congrArg (fun z => z.2.2.2.2.2.2.2.2.2.2.2) (hE252.trans e255.symm)
    replace b228 : q_F (1 ≤ y216.toInt) := b228
    replace b230 : q_F (t0_0.toInt ≤ y215.toInt) := b230
    replace b231 : q_F (y215.toInt ≤ t0_0.toInt) := b231
    replace b233 : q_F (y216.toInt ≤ 0 + 1) := b233
    replace b234 : q_F (t0_2.toInt ≤ y217.toInt) := b234
    replace b235 : q_F (y217.toInt ≤ t0_2.toInt) := b235
    replace b236 : q_F (t0_3.toInt ≤ y218.toInt) := b236
    replace b237 : q_F (y218.toInt ≤ t0_3.toInt) := b237
    replace b238 : q_F (t0_4.toInt ≤ y219.toInt) := b238
    replace b239 : q_F (y219.toInt ≤ t0_4.toInt) := b239
    replace b240 : q_F (t0_5.toInt ≤ y220.toInt) := b240
    replace b241 : q_F (y220.toInt ≤ t0_5.toInt) := b241
    replace b242 : q_F (t0_6.toInt ≤ y221.toInt) := b242
    replace b243 : q_F (y221.toInt ≤ t0_6.toInt) := b243
    replace b244 : q_F (t0_7.toInt ≤ y222.toInt) := b244
    replace b245 : q_F (y222.toInt ≤ t0_7.toInt) := b245
    replace b246 : q_F (t0_8.toInt ≤ y223.toInt) := b246
    replace b247 : q_F (y223.toInt ≤ t0_8.toInt) := b247
    replace b248 : q_F (t0_9.toInt ≤ y224.toInt) := b248
    replace b249 : q_F (y224.toInt ≤ t0_9.toInt) := b249
    replace b250 : q_F (t0_10.toInt ≤ y225.toInt) := b250
    replace b251 : q_F (y225.toInt ≤ t0_10.toInt) := b251
    replace hF := q_uc hF hu253 (by simp)
    have hR268 := (show F_FR_name_c17 t0_0 t0_1 t0_2 t0_3 t0_4 t0_5 t0_6 t0_7 t0_8 t0_9 t0_10 t1_0 p254 = (F_FR_name t0_0 t0_1 t0_2 t0_3 t0_4 t0_5 t0_6 t0_7 t0_8 t0_9 t0_10 t1_0) from (by have c22x := c22; rw [← e20] at c22x; rw [e255, F_FR_name.eq_1, if_neg c22x]))
    have hS269 := (show True ∧ S_FR_name_c17 t0_0 t0_1 t0_2 t0_3 t0_4 t0_5 t0_6 t0_7 t0_8 t0_9 t0_10 t1_0 p254 from (by rw [e255]; have h := hS; rw [S_FR_name.eq_1] at h; have c22x := c22; rw [← e20] at c22x; rw [if_neg c22x] at h; replace h := q_s2 h; with_reducible exact h))
    refine lv_aload_n hx hb d_17_18_20 rfl (lv_at hl 0 rfl) ?_
    refine lv_bipush (v := 97) hx hb d_17_18_21 (by decide) ?_
    have ob273 : True ∧ S_FR_add (97 : Int32) y215 y216 y217 y218 y219 y220 y221 y222 y223 y224 y225 f226 := (by rw [e267, e266, e265, e264, e263, e262, e261, e260, e259, e258, e257, e256]; have h := hS269; rw [S_FR_name_c17.eq_1] at h; with_reducible exact h.2.1)
    refine q_gov V (q_runV (As := [.int 97]) (rest := []) (d := 1) (mc := 0) (ms := 0) (ci := 15) C0 V rfl LV_FR_110 (X_FR_add l D g q u212  97 hI y215 y216 y217 y218 y219 y220 y221 y222 y223 y224 y225 hO214 f226 hA227 ob273 _) rfl rfl hO214 rfl hl.1 rfl (Nat.le_of_ble_eq_true rfl) ⟨by decide, by decide⟩ ⟨Nat.le_of_ble_eq_true rfl, Nat.le_of_ble_eq_true rfl⟩ d_17_18_23) (fun u274 H locs hp275 V => ?_)
    obtain ⟨hI, hZ9⟩ := hp275
    obtain ⟨hu315, hZ9⟩ := hZ9
    obtain ⟨y277, hZ9⟩ := hZ9
    obtain ⟨y278, hZ9⟩ := hZ9
    obtain ⟨y279, hZ9⟩ := hZ9
    obtain ⟨y280, hZ9⟩ := hZ9
    obtain ⟨y281, hZ9⟩ := hZ9
    obtain ⟨y282, hZ9⟩ := hZ9
    obtain ⟨y283, hZ9⟩ := hZ9
    obtain ⟨y284, hZ9⟩ := hZ9
    obtain ⟨y285, hZ9⟩ := hZ9
    obtain ⟨y286, hZ9⟩ := hZ9
    obtain ⟨y287, hZ9⟩ := hZ9
    obtain ⟨f288, hZ9⟩ := hZ9
    obtain ⟨hO276, hZ9⟩ := hZ9
    obtain ⟨hA289, hZ9⟩ := hZ9
    replace hZ9 := hZ9.2.2
    obtain ⟨b292, hZ9⟩ := hZ9
    obtain ⟨b293, hZ9⟩ := hZ9
    obtain ⟨b294, hZ9⟩ := hZ9
    obtain ⟨b295, hZ9⟩ := hZ9
    obtain ⟨b296, hZ9⟩ := hZ9
    obtain ⟨b297, hZ9⟩ := hZ9
    obtain ⟨b298, hZ9⟩ := hZ9
    obtain ⟨b299, hZ9⟩ := hZ9
    obtain ⟨b300, hZ9⟩ := hZ9
    obtain ⟨b301, hZ9⟩ := hZ9
    obtain ⟨b302, hZ9⟩ := hZ9
    obtain ⟨b303, hZ9⟩ := hZ9
    obtain ⟨b304, hZ9⟩ := hZ9
    obtain ⟨b305, hZ9⟩ := hZ9
    obtain ⟨b306, hZ9⟩ := hZ9
    obtain ⟨b307, hZ9⟩ := hZ9
    obtain ⟨b308, hZ9⟩ := hZ9
    obtain ⟨b309, hZ9⟩ := hZ9
    obtain ⟨b310, hZ9⟩ := hZ9
    obtain ⟨b311, hZ9⟩ := hZ9
    obtain ⟨b312, hZ9⟩ := hZ9
    obtain ⟨b313, hE314⟩ := hZ9
    replace hO276 : u274[145]? = (some (q 145, .inr (15, [.int y277, .ref (q 146), .ref (q 147), .ref (q 148), .ref (q 149), .ref (q 150), .ref (q 151), .ref (q 152), .int y278, .int y279, .int y280, .long y281, .int y282, .int y283, .long y284, .int y285, .long y286, .int y287])) : Option (Nat × va_E)) := hO276
    replace hA289 : u274[152]? = (some (q 152, .inl (g 0, (1600 : Int32).toNatClampNeg, .inl f288)) : Option (Nat × va_E)) := hA289
    obtain ⟨p316, e317⟩ : ∃ z, z = (F_FR_add (97 : Int32) y215 y216 y217 y218 y219 y220 y221 y222 y223 y224 y225 f226) := ⟨_, rfl⟩
    have e318 : y277 = p316.1 := congrArg (fun z => z.1) (hE314.trans e317.symm)
    have e319 : y278 = p316.2.1 := congrArg (fun z => z.2.1) (hE314.trans e317.symm)
    have e320 : y279 = p316.2.2.1 := congrArg (fun z => z.2.2.1) (hE314.trans e317.symm)
    have e321 : y280 = p316.2.2.2.1 := congrArg (fun z => z.2.2.2.1) (hE314.trans e317.symm)
    have e322 : y281 = p316.2.2.2.2.1 := congrArg (fun z => z.2.2.2.2.1) (hE314.trans e317.symm)
    have e323 : y282 = p316.2.2.2.2.2.1 := congrArg (fun z => z.2.2.2.2.2.1) (hE314.trans e317.symm)
    have e324 : y283 = p316.2.2.2.2.2.2.1 := congrArg (fun z => z.2.2.2.2.2.2.1) (hE314.trans e317.symm)
    have e325 : y284 = p316.2.2.2.2.2.2.2.1 := congrArg (fun z => z.2.2.2.2.2.2.2.1) (hE314.trans e317.symm)
    have e326 : y285 = p316.2.2.2.2.2.2.2.2.1 := congrArg (fun z => z.2.2.2.2.2.2.2.2.1) (hE314.trans e317.symm)
    have e327 : y286 = p316.2.2.2.2.2.2.2.2.2.1 := congrArg (fun z => z.2.2.2.2.2.2.2.2.2.1) (hE314.trans e317.symm)
    have e328 : y287 = p316.2.2.2.2.2.2.2.2.2.2.1 := congrArg (fun z => z.2.2.2.2.2.2.2.2.2.2.1) (hE314.trans e317.symm)
    have e329 : f288 = p316.2.2.2.2.2.2.2.2.2.2.2 := congrArg (fun z => z.2.2.2.2.2.2.2.2.2.2.2) (hE314.trans e317.symm)
    replace b292 : q_F (y215.toInt ≤ y277.toInt) := b292
    replace b293 : q_F (y277.toInt ≤ y215.toInt) := b293
    replace b294 : q_F (y216.toInt + 1 ≤ y278.toInt) := b294
    replace b295 : q_F (y278.toInt ≤ y216.toInt + 1) := b295
    replace b296 : q_F (y217.toInt ≤ y279.toInt) := b296
    replace b297 : q_F (y279.toInt ≤ y217.toInt) := b297
    replace b298 : q_F (y218.toInt ≤ y280.toInt) := b298
    replace b299 : q_F (y280.toInt ≤ y218.toInt) := b299
    replace b300 : q_F (y219.toInt ≤ y281.toInt) := b300
    replace b301 : q_F (y281.toInt ≤ y219.toInt) := b301
    replace b302 : q_F (y220.toInt ≤ y282.toInt) := b302
    replace b303 : q_F (y282.toInt ≤ y220.toInt) := b303
    replace b304 : q_F (y221.toInt ≤ y283.toInt) := b304
    replace b305 : q_F (y283.toInt ≤ y221.toInt) := b305
    replace b306 : q_F (y222.toInt ≤ y284.toInt) := b306
    replace b307 : q_F (y284.toInt ≤ y222.toInt) := b307
    replace b308 : q_F (y223.toInt ≤ y285.toInt) := b308
    replace b309 : q_F (y285.toInt ≤ y223.toInt) := b309
    replace b310 : q_F (y224.toInt ≤ y286.toInt) := b310
    replace b311 : q_F (y286.toInt ≤ y224.toInt) := b311
    replace b312 : q_F (y225.toInt ≤ y287.toInt) := b312
    replace b313 : q_F (y287.toInt ≤ y225.toInt) := b313
    replace hF := q_uc hF hu315 (by simp)
    have hR330 := (show F_FR_name_c23 t0_0 t0_1 t0_2 t0_3 t0_4 t0_5 t0_6 t0_7 t0_8 t0_9 t0_10 t1_0 p254 p316 = (F_FR_name t0_0 t0_1 t0_2 t0_3 t0_4 t0_5 t0_6 t0_7 t0_8 t0_9 t0_10 t1_0) from Eq.trans (by rw [e317, e267, e266, e265, e264, e263, e262, e261, e260, e259, e258, e257, e256, F_FR_name_c17.eq_1]) hR268)
    have hS331 := (show True ∧ S_FR_name_c23 t0_0 t0_1 t0_2 t0_3 t0_4 t0_5 t0_6 t0_7 t0_8 t0_9 t0_10 t1_0 p254 p316 from (by rw [e317, e267, e266, e265, e264, e263, e262, e261, e260, e259, e258, e257, e256]; have h := hS269; rw [S_FR_name_c17.eq_1] at h; replace h := q_s2 h; with_reducible exact h))
    refine lv_aload_n hx hb d_17_18_26 rfl (lv_at hl 0 rfl) ?_
    refine lv_bipush (v := 78) hx hb d_17_18_27 (by decide) ?_
    have ob335 : True ∧ S_FR_add (78 : Int32) y277 y278 y279 y280 y281 y282 y283 y284 y285 y286 y287 f288 := (by rw [e329, e328, e327, e326, e325, e324, e323, e322, e321, e320, e319, e318]; have h := hS331; rw [S_FR_name_c23.eq_1] at h; with_reducible exact h.2.1)
    refine q_gov V (q_runV (As := [.int 78]) (rest := []) (d := 1) (mc := 0) (ms := 0) (ci := 15) C0 V rfl LV_FR_110 (X_FR_add l D g q u274  78 hI y277 y278 y279 y280 y281 y282 y283 y284 y285 y286 y287 hO276 f288 hA289 ob335 _) rfl rfl hO276 rfl hl.1 rfl (Nat.le_of_ble_eq_true rfl) ⟨by decide, by decide⟩ ⟨Nat.le_of_ble_eq_true rfl, Nat.le_of_ble_eq_true rfl⟩ d_17_18_29) (fun u336 H locs hp337 V => ?_)
    obtain ⟨hI, hZ9⟩ := hp337
    obtain ⟨hu377, hZ9⟩ := hZ9
    obtain ⟨y339, hZ9⟩ := hZ9
    obtain ⟨y340, hZ9⟩ := hZ9
    obtain ⟨y341, hZ9⟩ := hZ9
    obtain ⟨y342, hZ9⟩ := hZ9
    obtain ⟨y343, hZ9⟩ := hZ9
    obtain ⟨y344, hZ9⟩ := hZ9
    obtain ⟨y345, hZ9⟩ := hZ9
    obtain ⟨y346, hZ9⟩ := hZ9
    obtain ⟨y347, hZ9⟩ := hZ9
    obtain ⟨y348, hZ9⟩ := hZ9
    obtain ⟨y349, hZ9⟩ := hZ9
    obtain ⟨f350, hZ9⟩ := hZ9
    obtain ⟨hO338, hZ9⟩ := hZ9
    obtain ⟨hA351, hZ9⟩ := hZ9
    replace hZ9 := hZ9.2.2
    obtain ⟨b354, hZ9⟩ := hZ9
    obtain ⟨b355, hZ9⟩ := hZ9
    obtain ⟨b356, hZ9⟩ := hZ9
    obtain ⟨b357, hZ9⟩ := hZ9
    obtain ⟨b358, hZ9⟩ := hZ9
    obtain ⟨b359, hZ9⟩ := hZ9
    obtain ⟨b360, hZ9⟩ := hZ9
    obtain ⟨b361, hZ9⟩ := hZ9
    obtain ⟨b362, hZ9⟩ := hZ9
    obtain ⟨b363, hZ9⟩ := hZ9
    obtain ⟨b364, hZ9⟩ := hZ9
    obtain ⟨b365, hZ9⟩ := hZ9
    obtain ⟨b366, hZ9⟩ := hZ9
    obtain ⟨b367, hZ9⟩ := hZ9
    obtain ⟨b368, hZ9⟩ := hZ9
    obtain ⟨b369, hZ9⟩ := hZ9
    obtain ⟨b370, hZ9⟩ := hZ9
    obtain ⟨b371, hZ9⟩ := hZ9
    obtain ⟨b372, hZ9⟩ := hZ9
    obtain ⟨b373, hZ9⟩ := hZ9
    obtain ⟨b374, hZ9⟩ := hZ9
    obtain ⟨b375, hE376⟩ := hZ9
    replace hO338 : u336[145]? = (some (q 145, .inr (15, [.int y339, .ref (q 146), .ref (q 147), .ref (q 148), .ref (q 149), .ref (q 150), .ref (q 151), .ref (q 152), .int y340, .int y341, .int y342, .long y343, .int y344, .int y345, .long y346, .int y347, .long y348, .int y349])) : Option (Nat × va_E)) := hO338
    replace hA351 : u336[152]? = (some (q 152, .inl (g 0, (1600 : Int32).toNatClampNeg, .inl f350)) : Option (Nat × va_E)) := hA351
    obtain ⟨p378, e379⟩ : ∃ z, z = (F_FR_add (78 : Int32) y277 y278 y279 y280 y281 y282 y283 y284 y285 y286 y287 f288) := ⟨_, rfl⟩
    have e380 : y339 = p378.1 := congrArg (fun z => z.1) (hE376.trans e379.symm)
    have e381 : y340 = p378.2.1 := congrArg (fun z => z.2.1) (hE376.trans e379.symm)
    have e382 : y341 = p378.2.2.1 := congrArg (fun z => z.2.2.1) (hE376.trans e379.symm)
    have e383 : y342 = p378.2.2.2.1 := congrArg (fun z => z.2.2.2.1) (hE376.trans e379.symm)
    have e384 : y343 = p378.2.2.2.2.1 := congrArg (fun z => z.2.2.2.2.1) (hE376.trans e379.symm)
    have e385 : y344 = p378.2.2.2.2.2.1 := congrArg (fun z => z.2.2.2.2.2.1) (hE376.trans e379.symm)
    have e386 : y345 = p378.2.2.2.2.2.2.1 := congrArg (fun z => z.2.2.2.2.2.2.1) (hE376.trans e379.symm)
    have e387 : y346 = p378.2.2.2.2.2.2.2.1 := congrArg (fun z => z.2.2.2.2.2.2.2.1) (hE376.trans e379.symm)
    have e388 : y347 = p378.2.2.2.2.2.2.2.2.1 := congrArg (fun z => z.2.2.2.2.2.2.2.2.1) (hE376.trans e379.symm)
    have e389 : y348 = p378.2.2.2.2.2.2.2.2.2.1 := congrArg (fun z => z.2.2.2.2.2.2.2.2.2.1) (hE376.trans e379.symm)
    have e390 : y349 = p378.2.2.2.2.2.2.2.2.2.2.1 := congrArg (fun z => z.2.2.2.2.2.2.2.2.2.2.1) (hE376.trans e379.symm)
    have e391 : f350 = p378.2.2.2.2.2.2.2.2.2.2.2 := congrArg (fun z => z.2.2.2.2.2.2.2.2.2.2.2) (hE376.trans e379.symm)
    replace b354 : q_F (y277.toInt ≤ y339.toInt) := b354
    replace b355 : q_F (y339.toInt ≤ y277.toInt) := b355
    replace b356 : q_F (y278.toInt + 1 ≤ y340.toInt) := b356
    replace b357 : q_F (y340.toInt ≤ y278.toInt + 1) := b357
    replace b358 : q_F (y279.toInt ≤ y341.toInt) := b358
    replace b359 : q_F (y341.toInt ≤ y279.toInt) := b359
    replace b360 : q_F (y280.toInt ≤ y342.toInt) := b360
    replace b361 : q_F (y342.toInt ≤ y280.toInt) := b361
    replace b362 : q_F (y281.toInt ≤ y343.toInt) := b362
    replace b363 : q_F (y343.toInt ≤ y281.toInt) := b363
    replace b364 : q_F (y282.toInt ≤ y344.toInt) := b364
    replace b365 : q_F (y344.toInt ≤ y282.toInt) := b365
    replace b366 : q_F (y283.toInt ≤ y345.toInt) := b366
    replace b367 : q_F (y345.toInt ≤ y283.toInt) := b367
    replace b368 : q_F (y284.toInt ≤ y346.toInt) := b368
    replace b369 : q_F (y346.toInt ≤ y284.toInt) := b369
    replace b370 : q_F (y285.toInt ≤ y347.toInt) := b370
    replace b371 : q_F (y347.toInt ≤ y285.toInt) := b371
    replace b372 : q_F (y286.toInt ≤ y348.toInt) := b372
    replace b373 : q_F (y348.toInt ≤ y286.toInt) := b373
    replace b374 : q_F (y287.toInt ≤ y349.toInt) := b374
    replace b375 : q_F (y349.toInt ≤ y287.toInt) := b375
    replace hF := q_uc hF hu377 (by simp)
    have hR392 := (show F_FR_name_c29 t0_0 t0_1 t0_2 t0_3 t0_4 t0_5 t0_6 t0_7 t0_8 t0_9 t0_10 t1_0 p254 p316 p378 = (F_FR_name t0_0 t0_1 t0_2 t0_3 t0_4 t0_5 t0_6 t0_7 t0_8 t0_9 t0_10 t1_0) from Eq.trans (by rw [e379, e329, e328, e327, e326, e325, e324, e323, e322, e321, e320, e319, e318, F_FR_name_c23.eq_1]) hR330)
    have hS393 := (show True ∧ S_FR_name_c29 t0_0 t0_1 t0_2 t0_3 t0_4 t0_5 t0_6 t0_7 t0_8 t0_9 t0_10 t1_0 p254 p316 p378 from (by rw [e379, e329, e328, e327, e326, e325, e324, e323, e322, e321, e320, e319, e318]; have h := hS331; rw [S_FR_name_c23.eq_1] at h; replace h := q_s2 h; with_reducible exact h))
    exact q_retv C0 V (⟨hI, hF, y339, y340, y341, y342, y343, y344, y345, y346, y347, y348, y349, f350, hO338, hA351, (show t0_0.toInt ≤ y339.toInt from (by have t1 : t0_0.toInt ≤ y215.toInt := b230; have t2 : y215.toInt ≤ y277.toInt := b292; have t3 : y277.toInt ≤ y339.toInt := b354; omega)), (show y339.toInt ≤ t0_0.toInt from (by have t1 : y215.toInt ≤ t0_0.toInt := b231; have t2 : y277.toInt ≤ y215.toInt := b293; have t3 : y339.toInt ≤ y277.toInt := b355; omega)), (show t0_2.toInt + 2 ≤ y340.toInt from (by have t1 : 0 ≤ t0_2.toInt ∧ t0_2.toInt ≤ 1 := btt0_2; have t2 : 1 ≤ y216.toInt := b228; have t3 : y216.toInt + 1 ≤ y278.toInt := b294; have t4 : y278.toInt + 1 ≤ y340.toInt := b356; omega)), (show y340.toInt ≤ t0_2.toInt + 8 from (by have t1 : 0 ≤ t0_2.toInt ∧ t0_2.toInt ≤ 1 := btt0_2; have t2 : y216.toInt ≤ 0 + 1 := b233; have t3 : y278.toInt ≤ y216.toInt + 1 := b295; have t4 : y340.toInt ≤ y278.toInt + 1 := b357; omega)), (show t0_2.toInt ≤ y341.toInt from (by have t1 : t0_2.toInt ≤ y217.toInt := b234; have t2 : y217.toInt ≤ y279.toInt := b296; have t3 : y279.toInt ≤ y341.toInt := b358; omega)), (show y341.toInt ≤ t0_2.toInt from (by have t1 : y217.toInt ≤ t0_2.toInt := b235; have t2 : y279.toInt ≤ y217.toInt := b297; have t3 : y341.toInt ≤ y279.toInt := b359; omega)), (show t0_3.toInt ≤ y342.toInt from (by have t1 : t0_3.toInt ≤ y218.toInt := b236; have t2 : y218.toInt ≤ y280.toInt := b298; have t3 : y280.toInt ≤ y342.toInt := b360; omega)), (show y342.toInt ≤ t0_3.toInt from (by have t1 : y218.toInt ≤ t0_3.toInt := b237; have t2 : y280.toInt ≤ y218.toInt := b299; have t3 : y342.toInt ≤ y280.toInt := b361; omega)), (show t0_4.toInt ≤ y343.toInt from (by have t1 : t0_4.toInt ≤ y219.toInt := b238; have t2 : y219.toInt ≤ y281.toInt := b300; have t3 : y281.toInt ≤ y343.toInt := b362; omega)), (show y343.toInt ≤ t0_4.toInt from (by have t1 : y219.toInt ≤ t0_4.toInt := b239; have t2 : y281.toInt ≤ y219.toInt := b301; have t3 : y343.toInt ≤ y281.toInt := b363; omega)), (show t0_5.toInt ≤ y344.toInt from (by have t1 : t0_5.toInt ≤ y220.toInt := b240; have t2 : y220.toInt ≤ y282.toInt := b302; have t3 : y282.toInt ≤ y344.toInt := b364; omega)), (show y344.toInt ≤ t0_5.toInt from (by have t1 : y220.toInt ≤ t0_5.toInt := b241; have t2 : y282.toInt ≤ y220.toInt := b303; have t3 : y344.toInt ≤ y282.toInt := b365; omega)), (show t0_6.toInt ≤ y345.toInt from (by have t1 : t0_6.toInt ≤ y221.toInt := b242; have t2 : y221.toInt ≤ y283.toInt := b304; have t3 : y283.toInt ≤ y345.toInt := b366; omega)), (show y345.toInt ≤ t0_6.toInt from (by have t1 : y221.toInt ≤ t0_6.toInt := b243; have t2 : y283.toInt ≤ y221.toInt := b305; have t3 : y345.toInt ≤ y283.toInt := b367; omega)), (show t0_7.toInt ≤ y346.toInt from (by have t1 : t0_7.toInt ≤ y222.toInt := b244; have t2 : y222.toInt ≤ y284.toInt := b306; have t3 : y284.toInt ≤ y346.toInt := b368; omega)), (show y346.toInt ≤ t0_7.toInt from (by have t1 : y222.toInt ≤ t0_7.toInt := b245; have t2 : y284.toInt ≤ y222.toInt := b307; have t3 : y346.toInt ≤ y284.toInt := b369; omega)), (show t0_8.toInt ≤ y347.toInt from (by have t1 : t0_8.toInt ≤ y223.toInt := b246; have t2 : y223.toInt ≤ y285.toInt := b308; have t3 : y285.toInt ≤ y347.toInt := b370; omega)), (show y347.toInt ≤ t0_8.toInt from (by have t1 : y223.toInt ≤ t0_8.toInt := b247; have t2 : y285.toInt ≤ y223.toInt := b309; have t3 : y347.toInt ≤ y285.toInt := b371; omega)), (show t0_9.toInt ≤ y348.toInt from (by have t1 : t0_9.toInt ≤ y224.toInt := b248; have t2 : y224.toInt ≤ y286.toInt := b310; have t3 : y286.toInt ≤ y348.toInt := b372; omega)), (show y348.toInt ≤ t0_9.toInt from (by have t1 : y224.toInt ≤ t0_9.toInt := b249; have t2 : y286.toInt ≤ y224.toInt := b311; have t3 : y348.toInt ≤ y286.toInt := b373; omega)), (show t0_10.toInt ≤ y349.toInt from (by have t1 : t0_10.toInt ≤ y225.toInt := b250; have t2 : y225.toInt ≤ y287.toInt := b312; have t3 : y287.toInt ≤ y349.toInt := b374; omega)), (show y349.toInt ≤ t0_10.toInt from (by have t1 : y225.toInt ≤ t0_10.toInt := b251; have t2 : y287.toInt ≤ y225.toInt := b313; have t3 : y349.toInt ≤ y287.toInt := b375; omega)), (show (y339, y340, y341, y342, y343, y344, y345, y346, y347, y348, y349, f350) = (F_FR_name t0_0 t0_1 t0_2 t0_3 t0_4 t0_5 t0_6 t0_7 t0_8 t0_9 t0_10 t1_0) from Eq.trans (by rw [e391, e390, e389, e388, e387, e386, e385, e384, e383, e382, e381, e380, F_FR_name_c29.eq_1]) hR392)⟩) d_17_18_32
theorem d_17_21_0 : decode prog_17_method_21_code 0 = .ok (.aload_n 0, 1) := by decide +kernel
theorem d_17_21_1 : decode prog_17_method_21_code 1 = .ok (.getfield 95, 3) := by decide +kernel
theorem d_17_21_4 : decode prog_17_method_21_code 4 = .ok (.sipush 1080, 3) := by decide +kernel
theorem d_17_21_7 : decode prog_17_method_21_code 7 = .ok (.isub, 1) := by decide +kernel
theorem d_17_21_8 : decode prog_17_method_21_code 8 = .ok (.istore_n 1, 1) := by decide +kernel
theorem d_17_21_9 : decode prog_17_method_21_code 9 = .ok (.aload_n 0, 1) := by decide +kernel
theorem d_17_21_10 : decode prog_17_method_21_code 10 = .ok (.getfield 102, 3) := by decide +kernel
theorem d_17_21_13 : decode prog_17_method_21_code 13 = .ok (.lstore_n 2, 1) := by decide +kernel
theorem d_17_21_14 : decode prog_17_method_21_code 14 = .ok (.lload_n 2, 1) := by decide +kernel
theorem d_17_21_15 : decode prog_17_method_21_code 15 = .ok (.ldc2_w 120, 3) := by decide +kernel
set_option maxRecDepth 100000 in
theorem w_3033 : (Cond.constantLong "NumberHouseModel$FloatRows" (120 : Nat) (9 : Int64)) ∈ q_tbl := q_of13 153 rfl (by decide +kernel)
theorem d_17_21_18 : decode prog_17_method_21_code 18 = .ok (.lcmp, 1) := by decide +kernel
theorem d_17_21_19 : decode prog_17_method_21_code 19 = .ok (.ifCond .le 15, 3) := by decide +kernel
theorem d_17_21_34 : decode prog_17_method_21_code 34 = .ok (.iload_n 1, 1) := by decide +kernel
theorem d_17_21_35 : decode prog_17_method_21_code 35 = .ok (.ireturn, 1) := by decide +kernel
theorem d_17_21_22 : decode prog_17_method_21_code 22 = .ok (.iinc 1 1, 3) := by decide +kernel
theorem d_17_21_25 : decode prog_17_method_21_code 25 = .ok (.lload_n 2, 1) := by decide +kernel
theorem d_17_21_26 : decode prog_17_method_21_code 26 = .ok (.ldc2_w 105, 3) := by decide +kernel
theorem d_17_21_29 : decode prog_17_method_21_code 29 = .ok (.ldiv, 1) := by decide +kernel
theorem d_17_21_30 : decode prog_17_method_21_code 30 = .ok (.lstore_n 2, 1) := by decide +kernel
theorem d_17_21_31 : decode prog_17_method_21_code 31 = .ok (.goto (-17), 3) := by decide +kernel
def y_FR_shortestTop : MethodName := ⟨"NumberHouseModel$FloatRows", "shortestTop", "()I"⟩
def F_FR_shortestTop_L14 (t0_0 : Int32) (t0_1 : Int32) (t0_2 : Int32) (t0_3 : Int32) (t0_4 : Int64) (t0_5 : Int32) (t0_6 : Int32) (t0_7 : Int64) (t0_8 : Int32) (t0_9 : Int64) (t0_10 : Int32) : Nat → Int64 → Int32 → Int32
  | 0, _, _ => default
  | fm + 1, lx18, lx19 => if (lg_cmp lx18 9 : Int32) ≤ (0 : Int32) then (lx19) else (F_FR_shortestTop_L14 t0_0 t0_1 t0_2 t0_3 t0_4 t0_5 t0_6 t0_7 t0_8 t0_9 t0_10 fm (lx18 / 10 : Int64) (lx19 + 1 : Int32))
def F_FR_shortestTop (t0_0 : Int32) (t0_1 : Int32) (t0_2 : Int32) (t0_3 : Int32) (t0_4 : Int64) (t0_5 : Int32) (t0_6 : Int32) (t0_7 : Int64) (t0_8 : Int32) (t0_9 : Int64) (t0_10 : Int32) : Int32 := F_FR_shortestTop_L14 t0_0 t0_1 t0_2 t0_3 t0_4 t0_5 t0_6 t0_7 t0_8 t0_9 t0_10 1000000 t0_9 (t0_10 - 1080 : Int32)
def S_FR_shortestTop_L14 (t0_0 : Int32) (t0_1 : Int32) (t0_2 : Int32) (t0_3 : Int32) (t0_4 : Int64) (t0_5 : Int32) (t0_6 : Int32) (t0_7 : Int64) (t0_8 : Int32) (t0_9 : Int64) (t0_10 : Int32) : Nat → Int64 → Int32 → Prop
  | 0, _, _ => False
  | fm + 1, lx18, lx19 => if (lg_cmp lx18 9 : Int32) ≤ (0 : Int32) then (True) else (S_FR_shortestTop_L14 t0_0 t0_1 t0_2 t0_3 t0_4 t0_5 t0_6 t0_7 t0_8 t0_9 t0_10 fm (lx18 / 10 : Int64) (lx19 + 1 : Int32))
def S_FR_shortestTop (t0_0 : Int32) (t0_1 : Int32) (t0_2 : Int32) (t0_3 : Int32) (t0_4 : Int64) (t0_5 : Int32) (t0_6 : Int32) (t0_7 : Int64) (t0_8 : Int32) (t0_9 : Int64) (t0_10 : Int32) : Prop := S_FR_shortestTop_L14 t0_0 t0_1 t0_2 t0_3 t0_4 t0_5 t0_6 t0_7 t0_8 t0_9 t0_10 1000000 t0_9 (t0_10 - 1080 : Int32)
set_option maxRecDepth 100000 in
set_option maxHeartbeats 4000000 in
theorem X_FR_shortestTop (l : Launch) (D : va_G) (g : Nat → ClassId) (q : Nat → Nat) (ws : va_W) (hI : q_I (msh g q) q ws) (t0_0 : Int32) (t0_1 : Int32) (t0_2 : Int32) (t0_3 : Int32) (t0_4 : Int64) (t0_5 : Int32) (t0_6 : Int32) (t0_7 : Int64) (t0_8 : Int32) (t0_9 : Int64) (t0_10 : Int32) (hT0 : ws[145]? = (some (q 145, .inr (15, [.int t0_0, .ref (q 146), .ref (q 147), .ref (q 148), .ref (q 149), .ref (q 150), .ref (q 151), .ref (q 152), .int t0_1, .int t0_2, .int t0_3, .long t0_4, .int t0_5, .int t0_6, .long t0_7, .int t0_8, .long t0_9, .int t0_10])) : Option (Nat × va_E))) (hS : True ∧ S_FR_shortestTop t0_0 t0_1 t0_2 t0_3 t0_4 t0_5 t0_6 t0_7 t0_8 t0_9 t0_10) : q_mI l y_FR_shortestTop prog_17_method_21_code 4 (.int) 1 0 0 D g [.ref (q 145)] ws (fun r u => ws = u ∧ r = (F_FR_shortestTop t0_0 t0_1 t0_2 t0_3 t0_4 t0_5 t0_6 t0_7 t0_8 t0_9 t0_10)) := by
  intro sz
  refine q_into (by decide) (Nat.le_of_ble_eq_true rfl) ?_
  intro p e s m below meth c ls hsz C0 V hl
  have hx := C0.1
  have hb := C0.2.1
  have btt0_2 := n_w145 hI hT0
  clear btt0_2
  have hl : lv_has ls 4 [(0, .ref (q 145))] := hl
  refine lv_aload_n hx hb d_17_21_0 rfl (lv_at hl 0 rfl) ?_
  refine q_get (ci := 15) (j := 17) (v := .int t0_10) C0 V i_FR rfl rfl hT0 (by decide) w_2093 rfl d_17_21_1 ?_
  refine lv_sipush (v := 1080) hx hb d_17_21_4 (by decide) ?_
  refine lv_isub hx hb d_17_21_7 ?_
  obtain ⟨a14, e15⟩ := q_nm (t0_10 - 1080 : Int32)
  refine q_ti (v := a14) e15 ?_
  refine lv_istore_n (lv' := [(1, .int a14), (0, .ref (q 145))]) hx hb d_17_21_8 rfl hl (by decide) rfl (fun ls hl => ?_)
  refine lv_aload_n hx hb d_17_21_9 rfl (lv_at hl 1 rfl) ?_
  refine q_get (ci := 15) (j := 16) (v := .long t0_9) C0 V i_FR rfl rfl hT0 (by decide) w_2092 rfl d_17_21_10 ?_
  refine lv_lstore_n (lv' := [(2, .long t0_9), (1, .int a14), (0, .ref (q 145))]) hx hb d_17_21_13 rfl hl (by decide) rfl (fun ls hl => ?_)
  refine q_loop (X := Nat × Int64 × Int32) (fun z H locs ls _ => q_Wd D g (va_A ws sz) s ws H locs ∧ lv_has ls 4 [(2, .long z.2.1), (1, .int z.2.2)] ∧ F_FR_shortestTop_L14 t0_0 t0_1 t0_2 t0_3 t0_4 t0_5 t0_6 t0_7 t0_8 t0_9 t0_10 z.1 z.2.1 z.2.2 = (F_FR_shortestTop t0_0 t0_1 t0_2 t0_3 t0_4 t0_5 t0_6 t0_7 t0_8 t0_9 t0_10) ∧ True ∧ S_FR_shortestTop_L14 t0_0 t0_1 t0_2 t0_3 t0_4 t0_5 t0_6 t0_7 t0_8 t0_9 t0_10 z.1 z.2.1 z.2.2) (fun z => z.1) ?_ ((1000000 : Nat), (t0_9 : Int64), (a14 : Int32)) _ _ _ ws ⟨V, q_lw hl (q_lw1 0 rfl (q_lw1 1 rfl q_lw0)), (show F_FR_shortestTop_L14 t0_0 t0_1 t0_2 t0_3 t0_4 t0_5 t0_6 t0_7 t0_8 t0_9 t0_10 1000000 t0_9 a14 = (F_FR_shortestTop t0_0 t0_1 t0_2 t0_3 t0_4 t0_5 t0_6 t0_7 t0_8 t0_9 t0_10) from (by rw [← e15, F_FR_shortestTop.eq_1])), (show True ∧ S_FR_shortestTop_L14 t0_0 t0_1 t0_2 t0_3 t0_4 t0_5 t0_6 t0_7 t0_8 t0_9 t0_10 1000000 t0_9 a14 from (by rw [← e15]; have h := hS; rw [S_FR_shortestTop.eq_1] at h; with_reducible exact h))⟩
  rintro ⟨fu23, lx18, lx19⟩ H locs ls _ ⟨V, hl, hR21, hS22⟩ ih20
  obtain ⟨fm25, rfl⟩ : ∃ m, fu23 = m + 1 := Nat.exists_eq_succ_of_ne_zero (fun e => by subst e; rw [S_FR_shortestTop_L14.eq_1] at hS22; exact hS22.2)
  replace hl : lv_has ls 4 [(2, .long lx18), (1, .int lx19)] := hl
  refine lv_lload_n hx hb d_17_21_14 rfl (lv_at hl 0 rfl) ?_
  refine q_ldc2 C0 rfl w_3033 d_17_21_15 ?_
  refine W.lcmp hx hb d_17_21_18 ?_
  obtain ⟨a26, e27⟩ := q_nm (lg_cmp lx18 9 : Int32)
  refine q_ti (v := a26) e27 ?_
  refine lv_if_le (tgt := 34) hx hb d_17_21_19 (by decide) (fun c29 => ?_) (fun c29 => ?_)
  ·
    refine lv_iload_n hx hb d_17_21_34 rfl (lv_at hl 1 rfl) ?_
    exact q_reti C0 V (⟨rfl, (show lx19 = (F_FR_shortestTop t0_0 t0_1 t0_2 t0_3 t0_4 t0_5 t0_6 t0_7 t0_8 t0_9 t0_10) from Eq.trans (by have c29x := c29; rw [← e27] at c29x; rw [F_FR_shortestTop_L14.eq_2, if_pos c29x]) hR21)⟩) d_17_21_35
  ·
    obtain ⟨a32, e33⟩ := q_nm (lx19 + 1 : Int32)
    refine lv_iinc (v := a32) (lv' := [(1, .int a32), (2, .long lx18)]) hx hb d_17_21_22 hl (k := 1) rfl (e33) (by decide) rfl (fun ls hl => ?_)
    refine lv_lload_n hx hb d_17_21_25 rfl (lv_at hl 1 rfl) ?_
    refine q_ldc2 C0 rfl w_2639 d_17_21_26 ?_
    refine lv_ldiv hx hb d_17_21_29 (by decide) ?_
    obtain ⟨j34, e35⟩ := q_nm (lx18 / 10 : Int64)
    refine q_tl (v := j34) e35 ?_
    refine lv_lstore_n (lv' := [(2, .long j34), (1, .int a32)]) hx hb d_17_21_30 rfl hl (by decide) rfl (fun ls hl => ?_)
    refine lv_goto (tgt := 14) hx hb d_17_21_31 (by decide) ?_
    exact ih20 ((fm25 : Nat), (j34 : Int64), (a32 : Int32)) _ _ _ ws (Nat.lt_succ_self _) ⟨V, q_lw hl (q_lw1 0 rfl (q_lw1 1 rfl q_lw0)), (show F_FR_shortestTop_L14 t0_0 t0_1 t0_2 t0_3 t0_4 t0_5 t0_6 t0_7 t0_8 t0_9 t0_10 fm25 j34 a32 = (F_FR_shortestTop t0_0 t0_1 t0_2 t0_3 t0_4 t0_5 t0_6 t0_7 t0_8 t0_9 t0_10) from Eq.trans (by have c29x := c29; rw [← e27] at c29x; rw [← e35, ← e33, F_FR_shortestTop_L14.eq_2, if_neg c29x]) hR21), (show True ∧ S_FR_shortestTop_L14 t0_0 t0_1 t0_2 t0_3 t0_4 t0_5 t0_6 t0_7 t0_8 t0_9 t0_10 fm25 j34 a32 from (by rw [← e35, ← e33]; have h := hS22; rw [S_FR_shortestTop_L14.eq_2] at h; have c29x := c29; rw [← e27] at c29x; rw [if_neg c29x] at h; with_reducible exact h))⟩
theorem d_17_22_0 : decode prog_17_method_22_code 0 = .ok (.aload_n 0, 1) := by decide +kernel
theorem d_17_22_1 : decode prog_17_method_22_code 1 = .ok (.invokevirtual 77, 3) := by decide +kernel
theorem d_17_22_4 : decode prog_17_method_22_code 4 = .ok (.iload_n 1, 1) := by decide +kernel
theorem d_17_22_5 : decode prog_17_method_22_code 5 = .ok (.sipush 1080, 3) := by decide +kernel
theorem d_17_22_8 : decode prog_17_method_22_code 8 = .ok (.iadd, 1) := by decide +kernel
theorem d_17_22_9 : decode prog_17_method_22_code 9 = .ok (.if_icmp .ge 7, 3) := by decide +kernel
theorem d_17_22_16 : decode prog_17_method_22_code 16 = .ok (.iconst 0, 1) := by decide +kernel
theorem d_17_22_17 : decode prog_17_method_22_code 17 = .ok (.ireturn, 1) := by decide +kernel
theorem d_17_22_12 : decode prog_17_method_22_code 12 = .ok (.iconst 1, 1) := by decide +kernel
theorem d_17_22_13 : decode prog_17_method_22_code 13 = .ok (.goto 4, 3) := by decide +kernel
def y_FR_isBelow : MethodName := ⟨"NumberHouseModel$FloatRows", "isBelow", "(I)Z"⟩
def F_FR_isBelow (x2 : Int32) (t0_0 : Int32) (t0_1 : Int32) (t0_2 : Int32) (t0_3 : Int32) (t0_4 : Int64) (t0_5 : Int32) (t0_6 : Int32) (t0_7 : Int64) (t0_8 : Int32) (t0_9 : Int64) (t0_10 : Int32) (t1_0 : (Nat → Int32)) : Int32 := if (x2 + 1080 : Int32) ≤ ((F_FR_top t0_0 t0_1 t0_2 t0_3 t0_4 t0_5 t0_6 t0_7 t0_8 t0_9 t0_10 t1_0) : Int32) then ((0 : Int32)) else ((1 : Int32))
def S_FR_isBelow (x2 : Int32) (t0_0 : Int32) (t0_1 : Int32) (t0_2 : Int32) (t0_3 : Int32) (t0_4 : Int64) (t0_5 : Int32) (t0_6 : Int32) (t0_7 : Int64) (t0_8 : Int32) (t0_9 : Int64) (t0_10 : Int32) (t1_0 : (Nat → Int32)) : Prop := (True ∧ S_FR_top t0_0 t0_1 t0_2 t0_3 t0_4 t0_5 t0_6 t0_7 t0_8 t0_9 t0_10 t1_0) ∧ (if (x2 + 1080 : Int32) ≤ ((F_FR_top t0_0 t0_1 t0_2 t0_3 t0_4 t0_5 t0_6 t0_7 t0_8 t0_9 t0_10 t1_0) : Int32) then (True) else (True))
set_option maxRecDepth 100000 in
set_option maxHeartbeats 4000000 in
theorem X_FR_isBelow (l : Launch) (D : va_G) (g : Nat → ClassId) (q : Nat → Nat) (ws : va_W) (x2 : Int32) (hI : q_I (msh g q) q ws) (t0_0 : Int32) (t0_1 : Int32) (t0_2 : Int32) (t0_3 : Int32) (t0_4 : Int64) (t0_5 : Int32) (t0_6 : Int32) (t0_7 : Int64) (t0_8 : Int32) (t0_9 : Int64) (t0_10 : Int32) (hT0 : ws[145]? = (some (q 145, .inr (15, [.int t0_0, .ref (q 146), .ref (q 147), .ref (q 148), .ref (q 149), .ref (q 150), .ref (q 151), .ref (q 152), .int t0_1, .int t0_2, .int t0_3, .long t0_4, .int t0_5, .int t0_6, .long t0_7, .int t0_8, .long t0_9, .int t0_10])) : Option (Nat × va_E))) (t1_0 : (Nat → Int32)) (hT1 : ws[148]? = (some (q 148, .inl (g 0, (1404 : Int32).toNatClampNeg, .inl t1_0)) : Option (Nat × va_E))) (hS : True ∧ S_FR_isBelow x2 t0_0 t0_1 t0_2 t0_3 t0_4 t0_5 t0_6 t0_7 t0_8 t0_9 t0_10 t1_0) : q_mI l y_FR_isBelow prog_17_method_22_code 2 (.boolean) 2 0 0 D g [.ref (q 145), .int x2] ws (fun r u => ws = u ∧ (0 ≤ r.toInt) ∧ (r.toInt ≤ 1) ∧ r = (F_FR_isBelow x2 t0_0 t0_1 t0_2 t0_3 t0_4 t0_5 t0_6 t0_7 t0_8 t0_9 t0_10 t1_0)) := by
  intro sz
  refine q_into (by decide) (Nat.le_of_ble_eq_true rfl) ?_
  intro p e s m below meth c ls hsz C0 V hl
  have hx := C0.1
  have hb := C0.2.1
  have btt0_2 := n_w145 hI hT0
  clear btt0_2
  have hl : lv_has ls 2 [(0, .ref (q 145)), (1, .int x2)] := hl
  refine lv_aload_n hx hb d_17_22_0 rfl (lv_at hl 0 rfl) ?_
  have ob17 : True ∧ S_FR_top t0_0 t0_1 t0_2 t0_3 t0_4 t0_5 t0_6 t0_7 t0_8 t0_9 t0_10 t1_0 := (by have h := hS; rw [S_FR_isBelow.eq_1] at h; with_reducible exact h.2.1)
  refine q_goi V (q_runV (As := []) (rest := []) (d := 1) (mc := 0) (ms := 0) (ci := 15) C0 V rfl LV_FR_77 (X_FR_top l D g q ws   hI t0_0 t0_1 t0_2 t0_3 t0_4 t0_5 t0_6 t0_7 t0_8 t0_9 t0_10 hT0 t1_0 hT1 ob17 _) rfl rfl hT0 rfl hl.1 rfl (Nat.le_of_ble_eq_true rfl) ⟨by decide, by decide⟩ ⟨Nat.le_of_ble_eq_true rfl, Nat.le_of_ble_eq_true rfl⟩ d_17_22_1) (fun a20 u18 H locs hp19 V => ?_)
  obtain ⟨rfl, b21, b22, hE23⟩ := hp19
  have e24 : a20 = (F_FR_top t0_0 t0_1 t0_2 t0_3 t0_4 t0_5 t0_6 t0_7 t0_8 t0_9 t0_10 t1_0) := hE23
  clear b21
  clear b22
  refine lv_iload_n hx hb d_17_22_4 rfl (lv_at hl 1 rfl) ?_
  refine lv_sipush (v := 1080) hx hb d_17_22_5 (by decide) ?_
  refine lv_iadd hx hb d_17_22_8 ?_
  obtain ⟨a25, e26⟩ := q_nm (x2 + 1080 : Int32)
  refine q_ti (v := a25) e26 ?_
  refine lv_icmp_ge (tgt := 16) hx hb d_17_22_9 (by decide) (fun c27 => ?_) (fun c27 => ?_)
  ·
    refine lv_iconst (v := 0) hx hb d_17_22_16 (by decide) ?_
    exact q_retz C0 V (by decide) (⟨rfl, (show 0 ≤ (0 : Int32).toInt from (by have z13 : (0 : Int32).toInt = 0 := rfl; omega)), (show (0 : Int32).toInt ≤ 1 from (by have z13 : (0 : Int32).toInt = 0 := rfl; omega)), (show (0 : Int32) = (F_FR_isBelow x2 t0_0 t0_1 t0_2 t0_3 t0_4 t0_5 t0_6 t0_7 t0_8 t0_9 t0_10 t1_0) from (by have c27x := c27; rw [← e26, e24] at c27x; rw [F_FR_isBelow.eq_1, if_pos c27x]))⟩) d_17_22_17
  ·
    refine lv_iconst (v := 1) hx hb d_17_22_12 (by decide) ?_
    refine lv_goto (tgt := 17) hx hb d_17_22_13 (by decide) ?_
    exact q_retz C0 V (by decide) (⟨rfl, (show 0 ≤ (1 : Int32).toInt from (by have z13 : (1 : Int32).toInt = 1 := rfl; omega)), (show (1 : Int32).toInt ≤ 1 from (by have z13 : (1 : Int32).toInt = 1 := rfl; omega)), (show (1 : Int32) = (F_FR_isBelow x2 t0_0 t0_1 t0_2 t0_3 t0_4 t0_5 t0_6 t0_7 t0_8 t0_9 t0_10 t1_0) from (by have c27x := c27; rw [← e26, e24] at c27x; rw [F_FR_isBelow.eq_1, if_neg c27x]))⟩) d_17_22_17
theorem d_17_20_0 : decode prog_17_method_20_code 0 = .ok (.iload_n 1, 1) := by decide +kernel
theorem d_17_20_1 : decode prog_17_method_20_code 1 = .ok (.sipush 1080, 3) := by decide +kernel
theorem d_17_20_4 : decode prog_17_method_20_code 4 = .ok (.iadd, 1) := by decide +kernel
theorem d_17_20_5 : decode prog_17_method_20_code 5 = .ok (.istore_n 2, 1) := by decide +kernel
theorem d_17_20_6 : decode prog_17_method_20_code 6 = .ok (.aload_n 0, 1) := by decide +kernel
theorem d_17_20_7 : decode prog_17_method_20_code 7 = .ok (.getfield 102, 3) := by decide +kernel
theorem d_17_20_10 : decode prog_17_method_20_code 10 = .ok (.lstore_n 3, 1) := by decide +kernel
theorem d_17_20_11 : decode prog_17_method_20_code 11 = .ok (.aload_n 0, 1) := by decide +kernel
theorem d_17_20_12 : decode prog_17_method_20_code 12 = .ok (.getfield 95, 3) := by decide +kernel
theorem d_17_20_15 : decode prog_17_method_20_code 15 = .ok (.istore 5, 2) := by decide +kernel
theorem d_17_20_17 : decode prog_17_method_20_code 17 = .ok (.iload 5, 2) := by decide +kernel
theorem d_17_20_19 : decode prog_17_method_20_code 19 = .ok (.iload_n 2, 1) := by decide +kernel
theorem d_17_20_20 : decode prog_17_method_20_code 20 = .ok (.if_icmp .ge 21, 3) := by decide +kernel
theorem d_17_20_41 : decode prog_17_method_20_code 41 = .ok (.iload_n 2, 1) := by decide +kernel
theorem d_17_20_42 : decode prog_17_method_20_code 42 = .ok (.aload_n 0, 1) := by decide +kernel
theorem d_17_20_43 : decode prog_17_method_20_code 43 = .ok (.getfield 95, 3) := by decide +kernel
theorem d_17_20_46 : decode prog_17_method_20_code 46 = .ok (.if_icmp .ge 7, 3) := by decide +kernel
theorem d_17_20_53 : decode prog_17_method_20_code 53 = .ok (.lload_n 3, 1) := by decide +kernel
theorem d_17_20_54 : decode prog_17_method_20_code 54 = .ok (.ldc2_w 105, 3) := by decide +kernel
theorem d_17_20_57 : decode prog_17_method_20_code 57 = .ok (.lrem, 1) := by decide +kernel
theorem d_17_20_58 : decode prog_17_method_20_code 58 = .ok (.l2i, 1) := by decide +kernel
theorem d_17_20_59 : decode prog_17_method_20_code 59 = .ok (.ireturn, 1) := by decide +kernel
theorem d_17_20_49 : decode prog_17_method_20_code 49 = .ok (.iconst 0, 1) := by decide +kernel
theorem d_17_20_50 : decode prog_17_method_20_code 50 = .ok (.goto 9, 3) := by decide +kernel
theorem d_17_20_23 : decode prog_17_method_20_code 23 = .ok (.lload_n 3, 1) := by decide +kernel
theorem d_17_20_24 : decode prog_17_method_20_code 24 = .ok (.lconst 0, 1) := by decide +kernel
theorem d_17_20_25 : decode prog_17_method_20_code 25 = .ok (.lcmp, 1) := by decide +kernel
theorem d_17_20_26 : decode prog_17_method_20_code 26 = .ok (.ifCond .le 15, 3) := by decide +kernel
theorem d_17_20_29 : decode prog_17_method_20_code 29 = .ok (.lload_n 3, 1) := by decide +kernel
theorem d_17_20_30 : decode prog_17_method_20_code 30 = .ok (.ldc2_w 105, 3) := by decide +kernel
theorem d_17_20_33 : decode prog_17_method_20_code 33 = .ok (.ldiv, 1) := by decide +kernel
theorem d_17_20_34 : decode prog_17_method_20_code 34 = .ok (.lstore_n 3, 1) := by decide +kernel
theorem d_17_20_35 : decode prog_17_method_20_code 35 = .ok (.iinc 5 1, 3) := by decide +kernel
theorem d_17_20_38 : decode prog_17_method_20_code 38 = .ok (.goto (-21), 3) := by decide +kernel
def y_FR_figure : MethodName := ⟨"NumberHouseModel$FloatRows", "figure", "(I)I"⟩
def F_FR_figure_L17 (x2 : Int32) (t0_0 : Int32) (t0_1 : Int32) (t0_2 : Int32) (t0_3 : Int32) (t0_4 : Int64) (t0_5 : Int32) (t0_6 : Int32) (t0_7 : Int64) (t0_8 : Int32) (t0_9 : Int64) (t0_10 : Int32) (a14 : Int32) : Nat → Int32 → Int64 → Int32
  | 0, _, _ => default
  | fm + 1, lx18, lx19 => if a14 ≤ lx18 then (if t0_10 ≤ a14 then (((lx19 - lx19 / 10 * 10 : Int64).toInt32 : Int32)) else ((0 : Int32))) else (if (lg_cmp lx19 0 : Int32) ≤ (0 : Int32) then (((lx19 - lx19 / 10 * 10 : Int64).toInt32 : Int32)) else (F_FR_figure_L17 x2 t0_0 t0_1 t0_2 t0_3 t0_4 t0_5 t0_6 t0_7 t0_8 t0_9 t0_10 a14 fm (lx18 + 1 : Int32) (lx19 / 10 : Int64)))
def F_FR_figure (x2 : Int32) (t0_0 : Int32) (t0_1 : Int32) (t0_2 : Int32) (t0_3 : Int32) (t0_4 : Int64) (t0_5 : Int32) (t0_6 : Int32) (t0_7 : Int64) (t0_8 : Int32) (t0_9 : Int64) (t0_10 : Int32) : Int32 := F_FR_figure_L17 x2 t0_0 t0_1 t0_2 t0_3 t0_4 t0_5 t0_6 t0_7 t0_8 t0_9 t0_10 (x2 + 1080 : Int32) (((x2 + 1080 : Int32).toInt - t0_10.toInt).toNat + 1) t0_10 t0_9
set_option maxRecDepth 100000 in
set_option maxHeartbeats 4000000 in
theorem X_FR_figure (l : Launch) (D : va_G) (g : Nat → ClassId) (q : Nat → Nat) (ws : va_W) (x2 : Int32) (hI : q_I (msh g q) q ws) (t0_0 : Int32) (t0_1 : Int32) (t0_2 : Int32) (t0_3 : Int32) (t0_4 : Int64) (t0_5 : Int32) (t0_6 : Int32) (t0_7 : Int64) (t0_8 : Int32) (t0_9 : Int64) (t0_10 : Int32) (hT0 : ws[145]? = (some (q 145, .inr (15, [.int t0_0, .ref (q 146), .ref (q 147), .ref (q 148), .ref (q 149), .ref (q 150), .ref (q 151), .ref (q 152), .int t0_1, .int t0_2, .int t0_3, .long t0_4, .int t0_5, .int t0_6, .long t0_7, .int t0_8, .long t0_9, .int t0_10])) : Option (Nat × va_E))) : q_mI l y_FR_figure prog_17_method_20_code 6 (.int) 1 0 0 D g [.ref (q 145), .int x2] ws (fun r u => ws = u ∧ r = (F_FR_figure x2 t0_0 t0_1 t0_2 t0_3 t0_4 t0_5 t0_6 t0_7 t0_8 t0_9 t0_10)) := by
  intro sz
  refine q_into (by decide) (Nat.le_of_ble_eq_true rfl) ?_
  intro p e s m below meth c ls hsz C0 V hl
  have hx := C0.1
  have hb := C0.2.1
  have btt0_2 := n_w145 hI hT0
  clear btt0_2
  have hl : lv_has ls 6 [(0, .ref (q 145)), (1, .int x2)] := hl
  refine lv_iload_n hx hb d_17_20_0 rfl (lv_at hl 1 rfl) ?_
  refine lv_sipush (v := 1080) hx hb d_17_20_1 (by decide) ?_
  refine lv_iadd hx hb d_17_20_4 ?_
  obtain ⟨a14, e15⟩ := q_nm (x2 + 1080 : Int32)
  refine q_ti (v := a14) e15 ?_
  refine lv_istore_n (lv' := [(2, .int a14), (0, .ref (q 145)), (1, .int x2)]) hx hb d_17_20_5 rfl hl (by decide) rfl (fun ls hl => ?_)
  refine lv_aload_n hx hb d_17_20_6 rfl (lv_at hl 1 rfl) ?_
  refine q_get (ci := 15) (j := 16) (v := .long t0_9) C0 V i_FR rfl rfl hT0 (by decide) w_2092 rfl d_17_20_7 ?_
  refine lv_lstore_n (lv' := [(3, .long t0_9), (2, .int a14), (0, .ref (q 145)), (1, .int x2)]) hx hb d_17_20_10 rfl hl (by decide) rfl (fun ls hl => ?_)
  refine lv_aload_n hx hb d_17_20_11 rfl (lv_at hl 2 rfl) ?_
  refine q_get (ci := 15) (j := 17) (v := .int t0_10) C0 V i_FR rfl rfl hT0 (by decide) w_2093 rfl d_17_20_12 ?_
  refine lv_istore (lv' := [(5, .int t0_10), (3, .long t0_9), (2, .int a14), (0, .ref (q 145)), (1, .int x2)]) hx hb d_17_20_15 hl (by decide) rfl (fun ls hl => ?_)
  refine q_loop (X := Int32 × Int64) (fun z H locs ls _ => q_F (t0_10.toInt ≤ z.1.toInt) ∧ q_Wd D g (va_A ws sz) s ws H locs ∧ lv_has ls 6 [(5, .int z.1), (3, .long z.2), (2, .int a14), (0, .ref (q 145))] ∧ (∃ n, (a14.toInt - z.1.toInt).toNat < n ∧ F_FR_figure_L17 x2 t0_0 t0_1 t0_2 t0_3 t0_4 t0_5 t0_6 t0_7 t0_8 t0_9 t0_10 a14 n z.1 z.2 = (F_FR_figure x2 t0_0 t0_1 t0_2 t0_3 t0_4 t0_5 t0_6 t0_7 t0_8 t0_9 t0_10))) (fun z => (a14.toInt - z.1.toInt).toNat) ?_ ((t0_10 : Int32), (t0_9 : Int64)) _ _ _ ws ⟨(show q_F (t0_10.toInt ≤ t0_10.toInt) from (show t0_10.toInt ≤ t0_10.toInt from by omega)), V, q_lw hl (q_lw1 0 rfl (q_lw1 1 rfl (q_lw1 2 rfl (q_lw1 3 rfl q_lw0)))), ⟨((a14.toInt - t0_10.toInt).toNat + 1), Nat.lt_succ_self _, (show F_FR_figure_L17 x2 t0_0 t0_1 t0_2 t0_3 t0_4 t0_5 t0_6 t0_7 t0_8 t0_9 t0_10 a14 ((a14.toInt - t0_10.toInt).toNat + 1) t0_10 t0_9 = (F_FR_figure x2 t0_0 t0_1 t0_2 t0_3 t0_4 t0_5 t0_6 t0_7 t0_8 t0_9 t0_10) from (by rw [← e15, F_FR_figure.eq_1]))⟩⟩
  rintro ⟨lx18, lx19⟩ H locs ls _ ⟨i20, V, hl, ⟨fu24, hf25, hR22⟩⟩ ih21
  obtain ⟨fm26, rfl⟩ : ∃ m, fu24 = m + 1 := ⟨fu24 - 1, by omega⟩
  replace i20 : q_F (t0_10.toInt ≤ lx18.toInt) := i20
  replace hl : lv_has ls 6 [(5, .int lx18), (3, .long lx19), (2, .int a14), (0, .ref (q 145))] := hl
  refine lv_iload hx hb d_17_20_17 (lv_at hl 0 rfl) ?_
  refine lv_iload_n hx hb d_17_20_19 rfl (lv_at hl 2 rfl) ?_
  refine lv_icmp_ge (tgt := 41) hx hb d_17_20_20 (by decide) (fun c27 => ?_) (fun c27 => ?_)
  ·
    refine lv_iload_n hx hb d_17_20_41 rfl (lv_at hl 2 rfl) ?_
    refine lv_aload_n hx hb d_17_20_42 rfl (lv_at hl 3 rfl) ?_
    refine q_get (ci := 15) (j := 17) (v := .int t0_10) C0 V i_FR rfl rfl hT0 (by decide) w_2093 rfl d_17_20_43 ?_
    refine lv_icmp_ge (tgt := 53) hx hb d_17_20_46 (by decide) (fun c29 => ?_) (fun c29 => ?_)
    ·
      refine lv_lload_n hx hb d_17_20_53 rfl (lv_at hl 1 rfl) ?_
      refine q_ldc2 C0 rfl w_2639 d_17_20_54 ?_
      refine lv_lrem hx hb d_17_20_57 (by decide) ?_
      obtain ⟨j31, e32⟩ := q_nm (lx19 - lx19 / 10 * 10 : Int64)
      refine q_tl (v := j31) e32 ?_
      refine lv_l2i hx hb d_17_20_58 rfl ?_
      obtain ⟨a33, e34⟩ := q_nm (j31.toInt32 : Int32)
      refine q_ti (v := a33) e34 ?_
      exact q_reti C0 V (⟨rfl, (show a33 = (F_FR_figure x2 t0_0 t0_1 t0_2 t0_3 t0_4 t0_5 t0_6 t0_7 t0_8 t0_9 t0_10) from Eq.trans (by rw [← e34, ← e32, F_FR_figure_L17.eq_2, if_pos c27, if_pos c29]) hR22)⟩) d_17_20_59
    ·
      refine lv_iconst (v := 0) hx hb d_17_20_49 (by decide) ?_
      refine lv_goto (tgt := 59) hx hb d_17_20_50 (by decide) ?_
      exact q_reti C0 V (⟨rfl, (show (0 : Int32) = (F_FR_figure x2 t0_0 t0_1 t0_2 t0_3 t0_4 t0_5 t0_6 t0_7 t0_8 t0_9 t0_10) from Eq.trans (by rw [F_FR_figure_L17.eq_2, if_pos c27, if_neg c29]) hR22)⟩) d_17_20_59
  ·
    have b36 : q_F (lx18.toInt < a14.toInt) := (q_nleI c27)
    refine lv_lload_n hx hb d_17_20_23 rfl (lv_at hl 1 rfl) ?_
    refine lv_lconst (v := 0) hx hb d_17_20_24 (by decide) ?_
    refine W.lcmp hx hb d_17_20_25 ?_
    obtain ⟨a37, e38⟩ := q_nm (lg_cmp lx19 0 : Int32)
    refine q_ti (v := a37) e38 ?_
    refine lv_if_le (tgt := 41) hx hb d_17_20_26 (by decide) (fun c40 => ?_) (fun c40 => ?_)
    ·
      refine lv_iload_n hx hb d_17_20_41 rfl (lv_at hl 2 rfl) ?_
      refine lv_aload_n hx hb d_17_20_42 rfl (lv_at hl 3 rfl) ?_
      refine q_get (ci := 15) (j := 17) (v := .int t0_10) C0 V i_FR rfl rfl hT0 (by decide) w_2093 rfl d_17_20_43 ?_
      refine lv_icmp_ge (tgt := 53) hx hb d_17_20_46 (by decide) (fun c42 => ?_) (fun c42 => absurd (show a14.toInt < t0_10.toInt from q_nleI c42) (by have t1 : t0_10.toInt ≤ lx18.toInt := i20; have t2 : lx18.toInt < a14.toInt := b36; omega))
      refine lv_lload_n hx hb d_17_20_53 rfl (lv_at hl 1 rfl) ?_
      refine q_ldc2 C0 rfl w_2639 d_17_20_54 ?_
      refine lv_lrem hx hb d_17_20_57 (by decide) ?_
      obtain ⟨j43, e44⟩ := q_nm (lx19 - lx19 / 10 * 10 : Int64)
      refine q_tl (v := j43) e44 ?_
      refine lv_l2i hx hb d_17_20_58 rfl ?_
      obtain ⟨a45, e46⟩ := q_nm (j43.toInt32 : Int32)
      refine q_ti (v := a45) e46 ?_
      exact q_reti C0 V (⟨rfl, (show a45 = (F_FR_figure x2 t0_0 t0_1 t0_2 t0_3 t0_4 t0_5 t0_6 t0_7 t0_8 t0_9 t0_10) from Eq.trans (by have c40x := c40; rw [← e38] at c40x; rw [← e46, ← e44, F_FR_figure_L17.eq_2, if_neg c27, if_pos c40x]) hR22)⟩) d_17_20_59
    ·
      refine lv_lload_n hx hb d_17_20_29 rfl (lv_at hl 1 rfl) ?_
      refine q_ldc2 C0 rfl w_2639 d_17_20_30 ?_
      refine lv_ldiv hx hb d_17_20_33 (by decide) ?_
      obtain ⟨j48, e49⟩ := q_nm (lx19 / 10 : Int64)
      refine q_tl (v := j48) e49 ?_
      refine lv_lstore_n (lv' := [(3, .long j48), (5, .int lx18), (2, .int a14), (0, .ref (q 145))]) hx hb d_17_20_34 rfl hl (by decide) rfl (fun ls hl => ?_)
      obtain ⟨a50, e51⟩ := q_nm (lx18 + 1 : Int32)
      have b52 : q_F (a50.toInt = lx18.toInt + 1) := (by rw [← e51]; exact q_addI (y := 1) rfl (by decide) (by have _ := q_lo32 (x := lx18); have _ := q_hi32 (x := lx18); have t1 : lx18.toInt < a14.toInt := b36; have _ := q_lo32 (x := a14); have _ := q_hi32 (x := a14); omega) (by have _ := q_lo32 (x := lx18); have _ := q_hi32 (x := lx18); have t1 : lx18.toInt < a14.toInt := b36; have _ := q_lo32 (x := a14); have _ := q_hi32 (x := a14); omega))
      refine lv_iinc (v := a50) (lv' := [(5, .int a50), (3, .long j48), (2, .int a14), (0, .ref (q 145))]) hx hb d_17_20_35 hl (k := 1) rfl (e51) (by decide) rfl (fun ls hl => ?_)
      refine lv_goto (tgt := 17) hx hb d_17_20_38 (by decide) ?_
      exact ih21 ((a50 : Int32), (j48 : Int64)) _ _ _ ws (show (a14.toInt - a50.toInt).toNat < (a14.toInt - lx18.toInt).toNat from by have t1 : a50.toInt = lx18.toInt + 1 := b52; have t2 : lx18.toInt < a14.toInt := b36; omega) ⟨(show q_F (t0_10.toInt ≤ a50.toInt) from (show t0_10.toInt ≤ a50.toInt from by have t1 : t0_10.toInt ≤ lx18.toInt := i20; have t2 : a50.toInt = lx18.toInt + 1 := b52; omega)), V, q_lw hl (q_lw1 0 rfl (q_lw1 1 rfl (q_lw1 2 rfl (q_lw1 3 rfl q_lw0)))), ⟨fm26, Nat.lt_of_lt_of_le (show (a14.toInt - a50.toInt).toNat < (a14.toInt - lx18.toInt).toNat from by have t1 : a50.toInt = lx18.toInt + 1 := b52; have t2 : lx18.toInt < a14.toInt := b36; omega) (Nat.le_of_lt_succ hf25), (show F_FR_figure_L17 x2 t0_0 t0_1 t0_2 t0_3 t0_4 t0_5 t0_6 t0_7 t0_8 t0_9 t0_10 a14 fm26 a50 j48 = (F_FR_figure x2 t0_0 t0_1 t0_2 t0_3 t0_4 t0_5 t0_6 t0_7 t0_8 t0_9 t0_10) from Eq.trans (by have c40x := c40; rw [← e38] at c40x; rw [← e51, ← e49, F_FR_figure_L17.eq_2, if_neg c27, if_neg c40x]) hR22)⟩⟩
theorem d_17_19_0 : decode prog_17_method_19_code 0 = .ok (.iconst 1, 1) := by decide +kernel
theorem d_17_19_1 : decode prog_17_method_19_code 1 = .ok (.istore_n 2, 1) := by decide +kernel
theorem d_17_19_2 : decode prog_17_method_19_code 2 = .ok (.iload_n 1, 1) := by decide +kernel
theorem d_17_19_3 : decode prog_17_method_19_code 3 = .ok (.iload_n 2, 1) := by decide +kernel
theorem d_17_19_4 : decode prog_17_method_19_code 4 = .ok (.idiv, 1) := by decide +kernel
theorem d_17_19_5 : decode prog_17_method_19_code 5 = .ok (.bipush 9, 2) := by decide +kernel
theorem d_17_19_7 : decode prog_17_method_19_code 7 = .ok (.if_icmp .le 11, 3) := by decide +kernel
theorem d_17_19_18 : decode prog_17_method_19_code 18 = .ok (.iload_n 2, 1) := by decide +kernel
theorem d_17_19_19 : decode prog_17_method_19_code 19 = .ok (.ifCond .le 24, 3) := by decide +kernel
theorem d_17_19_43 : decode prog_17_method_19_code 43 = .ok (.return_, 1) := by decide +kernel
theorem d_17_19_22 : decode prog_17_method_19_code 22 = .ok (.aload_n 0, 1) := by decide +kernel
theorem d_17_19_23 : decode prog_17_method_19_code 23 = .ok (.bipush 48, 2) := by decide +kernel
theorem d_17_19_25 : decode prog_17_method_19_code 25 = .ok (.iload_n 1, 1) := by decide +kernel
theorem d_17_19_26 : decode prog_17_method_19_code 26 = .ok (.iload_n 2, 1) := by decide +kernel
theorem d_17_19_27 : decode prog_17_method_19_code 27 = .ok (.idiv, 1) := by decide +kernel
theorem d_17_19_28 : decode prog_17_method_19_code 28 = .ok (.bipush 10, 2) := by decide +kernel
theorem d_17_19_30 : decode prog_17_method_19_code 30 = .ok (.irem, 1) := by decide +kernel
theorem d_17_19_31 : decode prog_17_method_19_code 31 = .ok (.iadd, 1) := by decide +kernel
theorem d_17_19_32 : decode prog_17_method_19_code 32 = .ok (.invokevirtual 110, 3) := by decide +kernel
theorem d_17_19_35 : decode prog_17_method_19_code 35 = .ok (.iload_n 2, 1) := by decide +kernel
theorem d_17_19_36 : decode prog_17_method_19_code 36 = .ok (.bipush 10, 2) := by decide +kernel
theorem d_17_19_38 : decode prog_17_method_19_code 38 = .ok (.idiv, 1) := by decide +kernel
theorem d_17_19_39 : decode prog_17_method_19_code 39 = .ok (.istore_n 2, 1) := by decide +kernel
theorem d_17_19_40 : decode prog_17_method_19_code 40 = .ok (.goto (-22), 3) := by decide +kernel
theorem d_17_19_10 : decode prog_17_method_19_code 10 = .ok (.iload_n 2, 1) := by decide +kernel
theorem d_17_19_11 : decode prog_17_method_19_code 11 = .ok (.bipush 10, 2) := by decide +kernel
theorem d_17_19_13 : decode prog_17_method_19_code 13 = .ok (.imul, 1) := by decide +kernel
theorem d_17_19_14 : decode prog_17_method_19_code 14 = .ok (.istore_n 2, 1) := by decide +kernel
theorem d_17_19_15 : decode prog_17_method_19_code 15 = .ok (.goto (-13), 3) := by decide +kernel
def y_FR_number : MethodName := ⟨"NumberHouseModel$FloatRows", "number", "(I)V"⟩
def F_FR_number_c32 (K_F_FR_number_L2 : Int32 → (Int32 × Int32 × Int32 × Int32 × Int64 × Int32 × Int32 × Int64 × Int32 × Int64 × Int32 × (Nat → Int32))) (K_F_FR_number_L18 : Int32 → Int32 → Int32 → Int32 → Int32 → Int64 → Int32 → Int32 → Int64 → Int32 → Int64 → Int32 → (Nat → Int32) → (Int32 × Int32 × Int32 × Int32 × Int64 × Int32 × Int32 × Int64 × Int32 × Int64 × Int32 × (Nat → Int32))) (x2 : Int32) (t0_0 : Int32) (t0_1 : Int32) (t0_2 : Int32) (t0_3 : Int32) (t0_4 : Int64) (t0_5 : Int32) (t0_6 : Int32) (t0_7 : Int64) (t0_8 : Int32) (t0_9 : Int64) (t0_10 : Int32) (t1_0 : (Nat → Int32)) (lx18 : Int32) (lx31 : Int32) (lx32 : Int32) (lx33 : Int32) (lx34 : Int32) (lx35 : Int32) (lx36 : Int64) (lx37 : Int32) (lx38 : Int32) (lx39 : Int64) (lx40 : Int32) (lx41 : Int64) (lx42 : Int32) (lx43 : (Nat → Int32)) (p128 : (Int32 × Int32 × Int32 × Int32 × Int64 × Int32 × Int32 × Int64 × Int32 × Int64 × Int32 × (Nat → Int32))) : Int32 × Int32 × Int32 × Int32 × Int64 × Int32 × Int32 × Int64 × Int32 × Int64 × Int32 × (Nat → Int32) := K_F_FR_number_L18 (lx31 / 10 : Int32) (p128.1 : Int32) (p128.2.1 : Int32) (p128.2.2.1 : Int32) (p128.2.2.2.1 : Int32) (p128.2.2.2.2.1 : Int64) (p128.2.2.2.2.2.1 : Int32) (p128.2.2.2.2.2.2.1 : Int32) (p128.2.2.2.2.2.2.2.1 : Int64) (p128.2.2.2.2.2.2.2.2.1 : Int32) (p128.2.2.2.2.2.2.2.2.2.1 : Int64) (p128.2.2.2.2.2.2.2.2.2.2.1 : Int32) (p128.2.2.2.2.2.2.2.2.2.2.2 : (Nat → Int32))
def F_FR_number_L18 (K_F_FR_number_L2 : Int32 → (Int32 × Int32 × Int32 × Int32 × Int64 × Int32 × Int32 × Int64 × Int32 × Int64 × Int32 × (Nat → Int32))) (x2 : Int32) (t0_0 : Int32) (t0_1 : Int32) (t0_2 : Int32) (t0_3 : Int32) (t0_4 : Int64) (t0_5 : Int32) (t0_6 : Int32) (t0_7 : Int64) (t0_8 : Int32) (t0_9 : Int64) (t0_10 : Int32) (t1_0 : (Nat → Int32)) (lx18 : Int32) : Nat → Int32 → Int32 → Int32 → Int32 → Int32 → Int64 → Int32 → Int32 → Int64 → Int32 → Int64 → Int32 → (Nat → Int32) → (Int32 × Int32 × Int32 × Int32 × Int64 × Int32 × Int32 × Int64 × Int32 × Int64 × Int32 × (Nat → Int32))
  | 0, _, _, _, _, _, _, _, _, _, _, _, _, _ => default
  | fm + 1, lx31, lx32, lx33, lx34, lx35, lx36, lx37, lx38, lx39, lx40, lx41, lx42, lx43 => if lx31 ≤ (0 : Int32) then ((lx32, lx33, lx34, lx35, lx36, lx37, lx38, lx39, lx40, lx41, lx42, lx43)) else (F_FR_number_c32 K_F_FR_number_L2 (F_FR_number_L18 K_F_FR_number_L2 x2 t0_0 t0_1 t0_2 t0_3 t0_4 t0_5 t0_6 t0_7 t0_8 t0_9 t0_10 t1_0 lx18 fm) x2 t0_0 t0_1 t0_2 t0_3 t0_4 t0_5 t0_6 t0_7 t0_8 t0_9 t0_10 t1_0 lx18 lx31 lx32 lx33 lx34 lx35 lx36 lx37 lx38 lx39 lx40 lx41 lx42 lx43 ((F_FR_add (48 + ((x2 / lx31 : Int32) - (x2 / lx31 : Int32) / 10 * 10 : Int32) : Int32) lx32 lx33 lx34 lx35 lx36 lx37 lx38 lx39 lx40 lx41 lx42 lx43) : (Int32 × Int32 × Int32 × Int32 × Int64 × Int32 × Int32 × Int64 × Int32 × Int64 × Int32 × (Nat → Int32))))
def F_FR_number_L2 (x2 : Int32) (t0_0 : Int32) (t0_1 : Int32) (t0_2 : Int32) (t0_3 : Int32) (t0_4 : Int64) (t0_5 : Int32) (t0_6 : Int32) (t0_7 : Int64) (t0_8 : Int32) (t0_9 : Int64) (t0_10 : Int32) (t1_0 : (Nat → Int32)) : Nat → Int32 → (Int32 × Int32 × Int32 × Int32 × Int64 × Int32 × Int32 × Int64 × Int32 × Int64 × Int32 × (Nat → Int32))
  | 0, _ => default
  | fm + 1, lx18 => if (x2 / lx18 : Int32) ≤ (9 : Int32) then (F_FR_number_L18 (F_FR_number_L2 x2 t0_0 t0_1 t0_2 t0_3 t0_4 t0_5 t0_6 t0_7 t0_8 t0_9 t0_10 t1_0 fm) x2 t0_0 t0_1 t0_2 t0_3 t0_4 t0_5 t0_6 t0_7 t0_8 t0_9 t0_10 t1_0 lx18 ((lx18.toInt - ((-1))).toNat + 1) lx18 t0_0 t0_1 t0_2 t0_3 t0_4 t0_5 t0_6 t0_7 t0_8 t0_9 t0_10 t1_0) else (F_FR_number_L2 x2 t0_0 t0_1 t0_2 t0_3 t0_4 t0_5 t0_6 t0_7 t0_8 t0_9 t0_10 t1_0 fm (lx18 * 10 : Int32))
def F_FR_number (x2 : Int32) (t0_0 : Int32) (t0_1 : Int32) (t0_2 : Int32) (t0_3 : Int32) (t0_4 : Int64) (t0_5 : Int32) (t0_6 : Int32) (t0_7 : Int64) (t0_8 : Int32) (t0_9 : Int64) (t0_10 : Int32) (t1_0 : (Nat → Int32)) : Int32 × Int32 × Int32 × Int32 × Int64 × Int32 × Int32 × Int64 × Int32 × Int64 × Int32 × (Nat → Int32) := F_FR_number_L2 x2 t0_0 t0_1 t0_2 t0_3 t0_4 t0_5 t0_6 t0_7 t0_8 t0_9 t0_10 t1_0 1000000 1
def S_FR_number_c32 (K_S_FR_number_L2 : Int32 → Prop) (K_S_FR_number_L18 : Int32 → Int32 → Int32 → Int32 → Int32 → Int64 → Int32 → Int32 → Int64 → Int32 → Int64 → Int32 → (Nat → Int32) → Prop) (x2 : Int32) (t0_0 : Int32) (t0_1 : Int32) (t0_2 : Int32) (t0_3 : Int32) (t0_4 : Int64) (t0_5 : Int32) (t0_6 : Int32) (t0_7 : Int64) (t0_8 : Int32) (t0_9 : Int64) (t0_10 : Int32) (t1_0 : (Nat → Int32)) (lx18 : Int32) (lx31 : Int32) (lx32 : Int32) (lx33 : Int32) (lx34 : Int32) (lx35 : Int32) (lx36 : Int64) (lx37 : Int32) (lx38 : Int32) (lx39 : Int64) (lx40 : Int32) (lx41 : Int64) (lx42 : Int32) (lx43 : (Nat → Int32)) (p128 : (Int32 × Int32 × Int32 × Int32 × Int64 × Int32 × Int32 × Int64 × Int32 × Int64 × Int32 × (Nat → Int32))) : Prop := K_S_FR_number_L18 (lx31 / 10 : Int32) (p128.1 : Int32) (p128.2.1 : Int32) (p128.2.2.1 : Int32) (p128.2.2.2.1 : Int32) (p128.2.2.2.2.1 : Int64) (p128.2.2.2.2.2.1 : Int32) (p128.2.2.2.2.2.2.1 : Int32) (p128.2.2.2.2.2.2.2.1 : Int64) (p128.2.2.2.2.2.2.2.2.1 : Int32) (p128.2.2.2.2.2.2.2.2.2.1 : Int64) (p128.2.2.2.2.2.2.2.2.2.2.1 : Int32) (p128.2.2.2.2.2.2.2.2.2.2.2 : (Nat → Int32))
def S_FR_number_L18 (K_S_FR_number_L2 : Int32 → Prop) (x2 : Int32) (t0_0 : Int32) (t0_1 : Int32) (t0_2 : Int32) (t0_3 : Int32) (t0_4 : Int64) (t0_5 : Int32) (t0_6 : Int32) (t0_7 : Int64) (t0_8 : Int32) (t0_9 : Int64) (t0_10 : Int32) (t1_0 : (Nat → Int32)) (lx18 : Int32) : Nat → Int32 → Int32 → Int32 → Int32 → Int32 → Int64 → Int32 → Int32 → Int64 → Int32 → Int64 → Int32 → (Nat → Int32) → Prop
  | 0, _, _, _, _, _, _, _, _, _, _, _, _, _ => False
  | fm + 1, lx31, lx32, lx33, lx34, lx35, lx36, lx37, lx38, lx39, lx40, lx41, lx42, lx43 => if lx31 ≤ (0 : Int32) then (True) else ((True ∧ S_FR_add (48 + ((x2 / lx31 : Int32) - (x2 / lx31 : Int32) / 10 * 10 : Int32) : Int32) lx32 lx33 lx34 lx35 lx36 lx37 lx38 lx39 lx40 lx41 lx42 lx43) ∧ (S_FR_number_c32 K_S_FR_number_L2 (S_FR_number_L18 K_S_FR_number_L2 x2 t0_0 t0_1 t0_2 t0_3 t0_4 t0_5 t0_6 t0_7 t0_8 t0_9 t0_10 t1_0 lx18 fm) x2 t0_0 t0_1 t0_2 t0_3 t0_4 t0_5 t0_6 t0_7 t0_8 t0_9 t0_10 t1_0 lx18 lx31 lx32 lx33 lx34 lx35 lx36 lx37 lx38 lx39 lx40 lx41 lx42 lx43 ((F_FR_add (48 + ((x2 / lx31 : Int32) - (x2 / lx31 : Int32) / 10 * 10 : Int32) : Int32) lx32 lx33 lx34 lx35 lx36 lx37 lx38 lx39 lx40 lx41 lx42 lx43) : (Int32 × Int32 × Int32 × Int32 × Int64 × Int32 × Int32 × Int64 × Int32 × Int64 × Int32 × (Nat → Int32)))))
def S_FR_number_L2 (x2 : Int32) (t0_0 : Int32) (t0_1 : Int32) (t0_2 : Int32) (t0_3 : Int32) (t0_4 : Int64) (t0_5 : Int32) (t0_6 : Int32) (t0_7 : Int64) (t0_8 : Int32) (t0_9 : Int64) (t0_10 : Int32) (t1_0 : (Nat → Int32)) : Nat → Int32 → Prop
  | 0, _ => False
  | fm + 1, lx18 => (1 ≤ lx18.toInt) ∧ (if (x2 / lx18 : Int32) ≤ (9 : Int32) then (S_FR_number_L18 (S_FR_number_L2 x2 t0_0 t0_1 t0_2 t0_3 t0_4 t0_5 t0_6 t0_7 t0_8 t0_9 t0_10 t1_0 fm) x2 t0_0 t0_1 t0_2 t0_3 t0_4 t0_5 t0_6 t0_7 t0_8 t0_9 t0_10 t1_0 lx18 ((lx18.toInt - ((-1))).toNat + 1) lx18 t0_0 t0_1 t0_2 t0_3 t0_4 t0_5 t0_6 t0_7 t0_8 t0_9 t0_10 t1_0) else (S_FR_number_L2 x2 t0_0 t0_1 t0_2 t0_3 t0_4 t0_5 t0_6 t0_7 t0_8 t0_9 t0_10 t1_0 fm (lx18 * 10 : Int32)))
def S_FR_number (x2 : Int32) (t0_0 : Int32) (t0_1 : Int32) (t0_2 : Int32) (t0_3 : Int32) (t0_4 : Int64) (t0_5 : Int32) (t0_6 : Int32) (t0_7 : Int64) (t0_8 : Int32) (t0_9 : Int64) (t0_10 : Int32) (t1_0 : (Nat → Int32)) : Prop := S_FR_number_L2 x2 t0_0 t0_1 t0_2 t0_3 t0_4 t0_5 t0_6 t0_7 t0_8 t0_9 t0_10 t1_0 1000000 1
set_option maxRecDepth 100000 in
set_option maxHeartbeats 4000000 in
theorem X_FR_number (l : Launch) (D : va_G) (g : Nat → ClassId) (q : Nat → Nat) (ws : va_W) (x2 : Int32) (hI : q_I (msh g q) q ws) (t0_0 : Int32) (t0_1 : Int32) (t0_2 : Int32) (t0_3 : Int32) (t0_4 : Int64) (t0_5 : Int32) (t0_6 : Int32) (t0_7 : Int64) (t0_8 : Int32) (t0_9 : Int64) (t0_10 : Int32) (hT0 : ws[145]? = (some (q 145, .inr (15, [.int t0_0, .ref (q 146), .ref (q 147), .ref (q 148), .ref (q 149), .ref (q 150), .ref (q 151), .ref (q 152), .int t0_1, .int t0_2, .int t0_3, .long t0_4, .int t0_5, .int t0_6, .long t0_7, .int t0_8, .long t0_9, .int t0_10])) : Option (Nat × va_E))) (t1_0 : (Nat → Int32)) (hT1 : ws[152]? = (some (q 152, .inl (g 0, (1600 : Int32).toNatClampNeg, .inl t1_0)) : Option (Nat × va_E))) (hS : True ∧ S_FR_number x2 t0_0 t0_1 t0_2 t0_3 t0_4 t0_5 t0_6 t0_7 t0_8 t0_9 t0_10 t1_0) : q_mV l y_FR_number prog_17_method_19_code 3 2 0 0 D g [.ref (q 145), .int x2] ws (fun u => q_I (msh g q) q u ∧ q_un ws u [145, 152] ∧ ∃ (u0_0 : Int32) (u0_1 : Int32) (u0_2 : Int32) (u0_3 : Int32) (u0_4 : Int64) (u0_5 : Int32) (u0_6 : Int32) (u0_7 : Int64) (u0_8 : Int32) (u0_9 : Int64) (u0_10 : Int32) (u1_0 : (Nat → Int32)), u[145]? = (some (q 145, .inr (15, [.int u0_0, .ref (q 146), .ref (q 147), .ref (q 148), .ref (q 149), .ref (q 150), .ref (q 151), .ref (q 152), .int u0_1, .int u0_2, .int u0_3, .long u0_4, .int u0_5, .int u0_6, .long u0_7, .int u0_8, .long u0_9, .int u0_10])) : Option (Nat × va_E)) ∧ u[152]? = (some (q 152, .inl (g 0, (1600 : Int32).toNatClampNeg, .inl u1_0)) : Option (Nat × va_E)) ∧ (t0_0.toInt ≤ u0_0.toInt) ∧ (u0_0.toInt ≤ t0_0.toInt) ∧ (t0_1.toInt ≤ u0_1.toInt) ∧ (t0_2.toInt ≤ u0_2.toInt) ∧ (u0_2.toInt ≤ t0_2.toInt) ∧ (t0_3.toInt ≤ u0_3.toInt) ∧ (u0_3.toInt ≤ t0_3.toInt) ∧ (t0_4.toInt ≤ u0_4.toInt) ∧ (u0_4.toInt ≤ t0_4.toInt) ∧ (t0_5.toInt ≤ u0_5.toInt) ∧ (u0_5.toInt ≤ t0_5.toInt) ∧ (t0_6.toInt ≤ u0_6.toInt) ∧ (u0_6.toInt ≤ t0_6.toInt) ∧ (t0_7.toInt ≤ u0_7.toInt) ∧ (u0_7.toInt ≤ t0_7.toInt) ∧ (t0_8.toInt ≤ u0_8.toInt) ∧ (u0_8.toInt ≤ t0_8.toInt) ∧ (t0_9.toInt ≤ u0_9.toInt) ∧ (u0_9.toInt ≤ t0_9.toInt) ∧ (t0_10.toInt ≤ u0_10.toInt) ∧ (u0_10.toInt ≤ t0_10.toInt) ∧ (u0_0, u0_1, u0_2, u0_3, u0_4, u0_5, u0_6, u0_7, u0_8, u0_9, u0_10, u1_0) = (F_FR_number x2 t0_0 t0_1 t0_2 t0_3 t0_4 t0_5 t0_6 t0_7 t0_8 t0_9 t0_10 t1_0)) := by
  intro sz
  refine q_into (by decide) (Nat.le_of_ble_eq_true rfl) ?_
  intro p e s m below meth c ls hsz C0 V hl
  have hx := C0.1
  have hb := C0.2.1
  have btt0_2 := n_w145 hI hT0
  clear btt0_2
  have hF : q_un ws ws [145, 152] := q_u0
  have hl : lv_has ls 3 [(0, .ref (q 145)), (1, .int x2)] := hl
  refine lv_iconst (v := 1) hx hb d_17_19_0 (by decide) ?_
  refine lv_istore_n (lv' := [(2, .int 1), (0, .ref (q 145)), (1, .int x2)]) hx hb d_17_19_1 rfl hl (by decide) rfl (fun ls hl => ?_)
  refine q_loop (X := Nat × Int32) (fun z H locs ls _ => q_Wd D g (va_A ws sz) s ws H locs ∧ lv_has ls 3 [(2, .int z.2), (0, .ref (q 145)), (1, .int x2)] ∧ F_FR_number_L2 x2 t0_0 t0_1 t0_2 t0_3 t0_4 t0_5 t0_6 t0_7 t0_8 t0_9 t0_10 t1_0 z.1 z.2 = (F_FR_number x2 t0_0 t0_1 t0_2 t0_3 t0_4 t0_5 t0_6 t0_7 t0_8 t0_9 t0_10 t1_0) ∧ True ∧ S_FR_number_L2 x2 t0_0 t0_1 t0_2 t0_3 t0_4 t0_5 t0_6 t0_7 t0_8 t0_9 t0_10 t1_0 z.1 z.2) (fun z => z.1) ?_ ((1000000 : Nat), (1 : Int32)) _ _ _ ws ⟨V, q_lw hl (q_lw1 0 rfl (q_lw1 1 rfl (q_lw1 2 rfl q_lw0))), (show F_FR_number_L2 x2 t0_0 t0_1 t0_2 t0_3 t0_4 t0_5 t0_6 t0_7 t0_8 t0_9 t0_10 t1_0 1000000 1 = (F_FR_number x2 t0_0 t0_1 t0_2 t0_3 t0_4 t0_5 t0_6 t0_7 t0_8 t0_9 t0_10 t1_0) from (by rw [F_FR_number.eq_1])), (show True ∧ S_FR_number_L2 x2 t0_0 t0_1 t0_2 t0_3 t0_4 t0_5 t0_6 t0_7 t0_8 t0_9 t0_10 t1_0 1000000 1 from (by have h := hS; rw [S_FR_number.eq_1] at h; with_reducible exact h))⟩
  rintro ⟨fu22, lx18⟩ H locs ls _ ⟨V, hl, hR20, hS21⟩ ih19
  obtain ⟨fm24, rfl⟩ : ∃ m, fu22 = m + 1 := Nat.exists_eq_succ_of_ne_zero (fun e => by subst e; rw [S_FR_number_L2.eq_1] at hS21; exact hS21.2)
  replace hl : lv_has ls 3 [(2, .int lx18), (0, .ref (q 145)), (1, .int x2)] := hl
  refine lv_iload_n hx hb d_17_19_2 rfl (lv_at hl 2 rfl) ?_
  refine lv_iload_n hx hb d_17_19_3 rfl (lv_at hl 0 rfl) ?_
  have ob25 : q_F (1 ≤ lx18.toInt) := (by have h := hS21; rw [S_FR_number_L2.eq_2] at h; exact h.2.1)
  refine lv_idiv hx hb d_17_19_4 (s_nzI (by first | with_reducible exact q_fe ob25 | (have t1 : 1 ≤ lx18.toInt := ob25; omega))) ?_
  obtain ⟨a26, e27⟩ := q_nm (x2 / lx18 : Int32)
  refine q_ti (v := a26) e27 ?_
  refine lv_bipush (v := 9) hx hb d_17_19_5 (by decide) ?_
  refine lv_icmp_le (tgt := 18) hx hb d_17_19_7 (by decide) (fun c28 => ?_) (fun c28 => ?_)
  ·
    refine q_loop (X := Int32 × Int32 × Int32 × Int32 × Int32 × Int64 × Int32 × Int32 × Int64 × Int32 × Int64 × Int32 × (Nat → Int32)) (fun z H locs ls w68 => q_F (0 ≤ z.1.toInt) ∧ q_F (t0_0.toInt ≤ z.2.1.toInt) ∧ q_F (z.2.1.toInt ≤ t0_0.toInt) ∧ q_F (t0_1.toInt ≤ z.2.2.1.toInt) ∧ q_F (t0_2.toInt ≤ z.2.2.2.1.toInt) ∧ q_F (z.2.2.2.1.toInt ≤ t0_2.toInt) ∧ q_F (t0_3.toInt ≤ z.2.2.2.2.1.toInt) ∧ q_F (z.2.2.2.2.1.toInt ≤ t0_3.toInt) ∧ q_F (t0_4.toInt ≤ z.2.2.2.2.2.1.toInt) ∧ q_F (z.2.2.2.2.2.1.toInt ≤ t0_4.toInt) ∧ q_F (t0_5.toInt ≤ z.2.2.2.2.2.2.1.toInt) ∧ q_F (z.2.2.2.2.2.2.1.toInt ≤ t0_5.toInt) ∧ q_F (t0_6.toInt ≤ z.2.2.2.2.2.2.2.1.toInt) ∧ q_F (z.2.2.2.2.2.2.2.1.toInt ≤ t0_6.toInt) ∧ q_F (t0_7.toInt ≤ z.2.2.2.2.2.2.2.2.1.toInt) ∧ q_F (z.2.2.2.2.2.2.2.2.1.toInt ≤ t0_7.toInt) ∧ q_F (t0_8.toInt ≤ z.2.2.2.2.2.2.2.2.2.1.toInt) ∧ q_F (z.2.2.2.2.2.2.2.2.2.1.toInt ≤ t0_8.toInt) ∧ q_F (t0_9.toInt ≤ z.2.2.2.2.2.2.2.2.2.2.1.toInt) ∧ q_F (z.2.2.2.2.2.2.2.2.2.2.1.toInt ≤ t0_9.toInt) ∧ q_F (t0_10.toInt ≤ z.2.2.2.2.2.2.2.2.2.2.2.1.toInt) ∧ q_F (z.2.2.2.2.2.2.2.2.2.2.2.1.toInt ≤ t0_10.toInt) ∧ q_F (z.1.toInt + z.2.2.1.toInt ≤ lx18.toInt + t0_1.toInt) ∧ q_Wd D g (va_A ws sz) s w68 H locs ∧ lv_has ls 3 [(2, .int z.1), (0, .ref (q 145)), (1, .int x2)] ∧ q_I (msh g q) q w68 ∧ q_un ws w68 [145, 152] ∧ w68[145]? = (some (q 145, .inr (15, [.int z.2.1, .ref (q 146), .ref (q 147), .ref (q 148), .ref (q 149), .ref (q 150), .ref (q 151), .ref (q 152), .int z.2.2.1, .int z.2.2.2.1, .int z.2.2.2.2.1, .long z.2.2.2.2.2.1, .int z.2.2.2.2.2.2.1, .int z.2.2.2.2.2.2.2.1, .long z.2.2.2.2.2.2.2.2.1, .int z.2.2.2.2.2.2.2.2.2.1, .long z.2.2.2.2.2.2.2.2.2.2.1, .int z.2.2.2.2.2.2.2.2.2.2.2.1])) : Option (Nat × va_E)) ∧ w68[152]? = (some (q 152, .inl (g 0, (1600 : Int32).toNatClampNeg, .inl z.2.2.2.2.2.2.2.2.2.2.2.2)) : Option (Nat × va_E)) ∧ (∃ n, (z.1.toInt - ((-1))).toNat < n ∧ F_FR_number_L18 (F_FR_number_L2 x2 t0_0 t0_1 t0_2 t0_3 t0_4 t0_5 t0_6 t0_7 t0_8 t0_9 t0_10 t1_0 fm24) x2 t0_0 t0_1 t0_2 t0_3 t0_4 t0_5 t0_6 t0_7 t0_8 t0_9 t0_10 t1_0 lx18 n z.1 z.2.1 z.2.2.1 z.2.2.2.1 z.2.2.2.2.1 z.2.2.2.2.2.1 z.2.2.2.2.2.2.1 z.2.2.2.2.2.2.2.1 z.2.2.2.2.2.2.2.2.1 z.2.2.2.2.2.2.2.2.2.1 z.2.2.2.2.2.2.2.2.2.2.1 z.2.2.2.2.2.2.2.2.2.2.2.1 z.2.2.2.2.2.2.2.2.2.2.2.2 = (F_FR_number x2 t0_0 t0_1 t0_2 t0_3 t0_4 t0_5 t0_6 t0_7 t0_8 t0_9 t0_10 t1_0) ∧ True ∧ S_FR_number_L18 (S_FR_number_L2 x2 t0_0 t0_1 t0_2 t0_3 t0_4 t0_5 t0_6 t0_7 t0_8 t0_9 t0_10 t1_0 fm24) x2 t0_0 t0_1 t0_2 t0_3 t0_4 t0_5 t0_6 t0_7 t0_8 t0_9 t0_10 t1_0 lx18 n z.1 z.2.1 z.2.2.1 z.2.2.2.1 z.2.2.2.2.1 z.2.2.2.2.2.1 z.2.2.2.2.2.2.1 z.2.2.2.2.2.2.2.1 z.2.2.2.2.2.2.2.2.1 z.2.2.2.2.2.2.2.2.2.1 z.2.2.2.2.2.2.2.2.2.2.1 z.2.2.2.2.2.2.2.2.2.2.2.1 z.2.2.2.2.2.2.2.2.2.2.2.2)) (fun z => (z.1.toInt - ((-1))).toNat) ?_ ((lx18 : Int32), (t0_0 : Int32), (t0_1 : Int32), (t0_2 : Int32), (t0_3 : Int32), (t0_4 : Int64), (t0_5 : Int32), (t0_6 : Int32), (t0_7 : Int64), (t0_8 : Int32), (t0_9 : Int64), (t0_10 : Int32), (t1_0 : (Nat → Int32))) _ _ _ ws ⟨(show q_F (0 ≤ lx18.toInt) from (show 0 ≤ lx18.toInt from by have t1 : 1 ≤ lx18.toInt := ob25; omega)), (show q_F (t0_0.toInt ≤ t0_0.toInt) from (show t0_0.toInt ≤ t0_0.toInt from by omega)), (show q_F (t0_0.toInt ≤ t0_0.toInt) from (show t0_0.toInt ≤ t0_0.toInt from by omega)), (show q_F (t0_1.toInt ≤ t0_1.toInt) from (show t0_1.toInt ≤ t0_1.toInt from by omega)), (show q_F (t0_2.toInt ≤ t0_2.toInt) from (show t0_2.toInt ≤ t0_2.toInt from by omega)), (show q_F (t0_2.toInt ≤ t0_2.toInt) from (show t0_2.toInt ≤ t0_2.toInt from by omega)), (show q_F (t0_3.toInt ≤ t0_3.toInt) from (show t0_3.toInt ≤ t0_3.toInt from by omega)), (show q_F (t0_3.toInt ≤ t0_3.toInt) from (show t0_3.toInt ≤ t0_3.toInt from by omega)), (show q_F (t0_4.toInt ≤ t0_4.toInt) from (show t0_4.toInt ≤ t0_4.toInt from by omega)), (show q_F (t0_4.toInt ≤ t0_4.toInt) from (show t0_4.toInt ≤ t0_4.toInt from by omega)), (show q_F (t0_5.toInt ≤ t0_5.toInt) from (show t0_5.toInt ≤ t0_5.toInt from by omega)), (show q_F (t0_5.toInt ≤ t0_5.toInt) from (show t0_5.toInt ≤ t0_5.toInt from by omega)), (show q_F (t0_6.toInt ≤ t0_6.toInt) from (show t0_6.toInt ≤ t0_6.toInt from by omega)), (show q_F (t0_6.toInt ≤ t0_6.toInt) from (show t0_6.toInt ≤ t0_6.toInt from by omega)), (show q_F (t0_7.toInt ≤ t0_7.toInt) from (show t0_7.toInt ≤ t0_7.toInt from by omega)), (show q_F (t0_7.toInt ≤ t0_7.toInt) from (show t0_7.toInt ≤ t0_7.toInt from by omega)), (show q_F (t0_8.toInt ≤ t0_8.toInt) from (show t0_8.toInt ≤ t0_8.toInt from by omega)), (show q_F (t0_8.toInt ≤ t0_8.toInt) from (show t0_8.toInt ≤ t0_8.toInt from by omega)), (show q_F (t0_9.toInt ≤ t0_9.toInt) from (show t0_9.toInt ≤ t0_9.toInt from by omega)), (show q_F (t0_9.toInt ≤ t0_9.toInt) from (show t0_9.toInt ≤ t0_9.toInt from by omega)), (show q_F (t0_10.toInt ≤ t0_10.toInt) from (show t0_10.toInt ≤ t0_10.toInt from by omega)), (show q_F (t0_10.toInt ≤ t0_10.toInt) from (show t0_10.toInt ≤ t0_10.toInt from by omega)), (show q_F (lx18.toInt + t0_1.toInt ≤ lx18.toInt + t0_1.toInt) from (show lx18.toInt + t0_1.toInt ≤ lx18.toInt + t0_1.toInt from by omega)), V, q_lw hl (q_lw1 0 rfl (q_lw1 1 rfl (q_lw1 2 rfl q_lw0))), hI, hF, hT0, hT1, ⟨((lx18.toInt - ((-1))).toNat + 1), Nat.lt_succ_self _, (show F_FR_number_L18 (F_FR_number_L2 x2 t0_0 t0_1 t0_2 t0_3 t0_4 t0_5 t0_6 t0_7 t0_8 t0_9 t0_10 t1_0 fm24) x2 t0_0 t0_1 t0_2 t0_3 t0_4 t0_5 t0_6 t0_7 t0_8 t0_9 t0_10 t1_0 lx18 ((lx18.toInt - ((-1))).toNat + 1) lx18 t0_0 t0_1 t0_2 t0_3 t0_4 t0_5 t0_6 t0_7 t0_8 t0_9 t0_10 t1_0 = (F_FR_number x2 t0_0 t0_1 t0_2 t0_3 t0_4 t0_5 t0_6 t0_7 t0_8 t0_9 t0_10 t1_0) from Eq.trans (by have c28x := c28; rw [← e27] at c28x; rw [F_FR_number_L2.eq_2, if_pos c28x]) hR20), (show True ∧ S_FR_number_L18 (S_FR_number_L2 x2 t0_0 t0_1 t0_2 t0_3 t0_4 t0_5 t0_6 t0_7 t0_8 t0_9 t0_10 t1_0 fm24) x2 t0_0 t0_1 t0_2 t0_3 t0_4 t0_5 t0_6 t0_7 t0_8 t0_9 t0_10 t1_0 lx18 ((lx18.toInt - ((-1))).toNat + 1) lx18 t0_0 t0_1 t0_2 t0_3 t0_4 t0_5 t0_6 t0_7 t0_8 t0_9 t0_10 t1_0 from (by have h := hS21; rw [S_FR_number_L2.eq_2] at h; replace h := q_s2 h; have c28x := c28; rw [← e27] at c28x; rw [if_pos c28x] at h; with_reducible exact h))⟩⟩
    rintro ⟨lx31, lx32, lx33, lx34, lx35, lx36, lx37, lx38, lx39, lx40, lx41, lx42, lx43⟩ H locs ls w68 ⟨i44, i45, i46, i47, i48, i49, i50, i51, i52, i53, i54, i55, i56, i57, i58, i59, i60, i61, i62, i63, i64, i65, i66, V, hl, hI, hF, hO69, hO70, ⟨fu73, hf74, hR71, hS72⟩⟩ ih67
    obtain ⟨fm75, rfl⟩ : ∃ m, fu73 = m + 1 := ⟨fu73 - 1, by omega⟩
    replace i44 : q_F (0 ≤ lx31.toInt) := i44
    replace i45 : q_F (t0_0.toInt ≤ lx32.toInt) := i45
    replace i46 : q_F (lx32.toInt ≤ t0_0.toInt) := i46
    replace i47 : q_F (t0_1.toInt ≤ lx33.toInt) := i47
    replace i48 : q_F (t0_2.toInt ≤ lx34.toInt) := i48
    replace i49 : q_F (lx34.toInt ≤ t0_2.toInt) := i49
    replace i50 : q_F (t0_3.toInt ≤ lx35.toInt) := i50
    replace i51 : q_F (lx35.toInt ≤ t0_3.toInt) := i51
    replace i52 : q_F (t0_4.toInt ≤ lx36.toInt) := i52
    replace i53 : q_F (lx36.toInt ≤ t0_4.toInt) := i53
    replace i54 : q_F (t0_5.toInt ≤ lx37.toInt) := i54
    replace i55 : q_F (lx37.toInt ≤ t0_5.toInt) := i55
    replace i56 : q_F (t0_6.toInt ≤ lx38.toInt) := i56
    replace i57 : q_F (lx38.toInt ≤ t0_6.toInt) := i57
    replace i58 : q_F (t0_7.toInt ≤ lx39.toInt) := i58
    replace i59 : q_F (lx39.toInt ≤ t0_7.toInt) := i59
    replace i60 : q_F (t0_8.toInt ≤ lx40.toInt) := i60
    replace i61 : q_F (lx40.toInt ≤ t0_8.toInt) := i61
    replace i62 : q_F (t0_9.toInt ≤ lx41.toInt) := i62
    replace i63 : q_F (lx41.toInt ≤ t0_9.toInt) := i63
    replace i64 : q_F (t0_10.toInt ≤ lx42.toInt) := i64
    replace i65 : q_F (lx42.toInt ≤ t0_10.toInt) := i65
    replace i66 : q_F (lx31.toInt + lx33.toInt ≤ lx18.toInt + t0_1.toInt) := i66
    replace hl : lv_has ls 3 [(2, .int lx31), (0, .ref (q 145)), (1, .int x2)] := hl
    replace hO69 : w68[145]? = (some (q 145, .inr (15, [.int lx32, .ref (q 146), .ref (q 147), .ref (q 148), .ref (q 149), .ref (q 150), .ref (q 151), .ref (q 152), .int lx33, .int lx34, .int lx35, .long lx36, .int lx37, .int lx38, .long lx39, .int lx40, .long lx41, .int lx42])) : Option (Nat × va_E)) := hO69
    replace hO70 : w68[152]? = (some (q 152, .inl (g 0, (1600 : Int32).toNatClampNeg, .inl lx43)) : Option (Nat × va_E)) := hO70
    refine lv_iload_n hx hb d_17_19_18 rfl (lv_at hl 0 rfl) ?_
    refine lv_if_le (tgt := 43) hx hb d_17_19_19 (by decide) (fun c76 => ?_) (fun c76 => ?_)
    ·
      exact q_retv C0 V (⟨hI, hF, lx32, lx33, lx34, lx35, lx36, lx37, lx38, lx39, lx40, lx41, lx42, lx43, hO69, hO70, (show t0_0.toInt ≤ lx32.toInt from (by first | with_reducible exact q_fe i45 | (have t1 : t0_0.toInt ≤ lx32.toInt := i45; omega))), (show lx32.toInt ≤ t0_0.toInt from (by first | with_reducible exact q_fe i46 | (have t1 : lx32.toInt ≤ t0_0.toInt := i46; omega))), (show t0_1.toInt ≤ lx33.toInt from (by first | with_reducible exact q_fe i47 | (have t1 : t0_1.toInt ≤ lx33.toInt := i47; omega))), (show t0_2.toInt ≤ lx34.toInt from (by first | with_reducible exact q_fe i48 | (have t1 : t0_2.toInt ≤ lx34.toInt := i48; omega))), (show lx34.toInt ≤ t0_2.toInt from (by first | with_reducible exact q_fe i49 | (have t1 : lx34.toInt ≤ t0_2.toInt := i49; omega))), (show t0_3.toInt ≤ lx35.toInt from (by first | with_reducible exact q_fe i50 | (have t1 : t0_3.toInt ≤ lx35.toInt := i50; omega))), (show lx35.toInt ≤ t0_3.toInt from (by first | with_reducible exact q_fe i51 | (have t1 : lx35.toInt ≤ t0_3.toInt := i51; omega))), (show t0_4.toInt ≤ lx36.toInt from (by first | with_reducible exact q_fe i52 | (have t1 : t0_4.toInt ≤ lx36.toInt := i52; omega))), (show lx36.toInt ≤ t0_4.toInt from (by first | with_reducible exact q_fe i53 | (have t1 : lx36.toInt ≤ t0_4.toInt := i53; omega))), (show t0_5.toInt ≤ lx37.toInt from (by first | with_reducible exact q_fe i54 | (have t1 : t0_5.toInt ≤ lx37.toInt := i54; omega))), (show lx37.toInt ≤ t0_5.toInt from (by first | with_reducible exact q_fe i55 | (have t1 : lx37.toInt ≤ t0_5.toInt := i55; omega))), (show t0_6.toInt ≤ lx38.toInt from (by first | with_reducible exact q_fe i56 | (have t1 : t0_6.toInt ≤ lx38.toInt := i56; omega))), (show lx38.toInt ≤ t0_6.toInt from (by first | with_reducible exact q_fe i57 | (have t1 : lx38.toInt ≤ t0_6.toInt := i57; omega))), (show t0_7.toInt ≤ lx39.toInt from (by first | with_reducible exact q_fe i58 | (have t1 : t0_7.toInt ≤ lx39.toInt := i58; omega))), (show lx39.toInt ≤ t0_7.toInt from (by first | with_reducible exact q_fe i59 | (have t1 : lx39.toInt ≤ t0_7.toInt := i59; omega))), (show t0_8.toInt ≤ lx40.toInt from (by first | with_reducible exact q_fe i60 | (have t1 : t0_8.toInt ≤ lx40.toInt := i60; omega))), (show lx40.toInt ≤ t0_8.toInt from (by first | with_reducible exact q_fe i61 | (have t1 : lx40.toInt ≤ t0_8.toInt := i61; omega))), (show t0_9.toInt ≤ lx41.toInt from (by first | with_reducible exact q_fe i62 | (have t1 : t0_9.toInt ≤ lx41.toInt := i62; omega))), (show lx41.toInt ≤ t0_9.toInt from (by first | with_reducible exact q_fe i63 | (have t1 : lx41.toInt ≤ t0_9.toInt := i63; omega))), (show t0_10.toInt ≤ lx42.toInt from (by first | with_reducible exact q_fe i64 | (have t1 : t0_10.toInt ≤ lx42.toInt := i64; omega))), (show lx42.toInt ≤ t0_10.toInt from (by first | with_reducible exact q_fe i65 | (have t1 : lx42.toInt ≤ t0_10.toInt := i65; omega))), (show (lx32, lx33, lx34, lx35, lx36, lx37, lx38, lx39, lx40, lx41, lx42, lx43) = (F_FR_number x2 t0_0 t0_1 t0_2 t0_3 t0_4 t0_5 t0_6 t0_7 t0_8 t0_9 t0_10 t1_0) from Eq.trans (by rw [F_FR_number_L18.eq_2, if_pos c76]) hR71)⟩) d_17_19_43
    ·
      have b78 : q_F (0 < lx31.toInt) := (q_nleI c76)
      refine lv_aload_n hx hb d_17_19_22 rfl (lv_at hl 1 rfl) ?_
      refine lv_bipush (v := 48) hx hb d_17_19_23 (by decide) ?_
      refine lv_iload_n hx hb d_17_19_25 rfl (lv_at hl 2 rfl) ?_
      refine lv_iload_n hx hb d_17_19_26 rfl (lv_at hl 0 rfl) ?_
      refine lv_idiv hx hb d_17_19_27 (s_nzI (by first | with_reducible exact q_fe b78 | (have t1 : 0 < lx31.toInt := b78; omega))) ?_
      obtain ⟨a79, e80⟩ := q_nm (x2 / lx31 : Int32)
      refine q_ti (v := a79) e80 ?_
      refine lv_bipush (v := 10) hx hb d_17_19_28 (by decide) ?_
      refine lv_irem hx hb d_17_19_30 (by decide) ?_
      obtain ⟨a81, e82⟩ := q_nm (a79 - a79 / 10 * 10 : Int32)
      refine q_ti (v := a81) e82 ?_
      refine lv_iadd hx hb d_17_19_31 ?_
      obtain ⟨a83, e84⟩ := q_nm (48 + a81 : Int32)
      refine q_ti (v := a83) e84 ?_
      have ob85 : True ∧ S_FR_add a83 lx32 lx33 lx34 lx35 lx36 lx37 lx38 lx39 lx40 lx41 lx42 lx43 := (by rw [← e84, ← e82, ← e80]; have h := hS72; rw [S_FR_number_L18.eq_2] at h; rw [if_neg c76] at h; with_reducible exact h.2.1)
      refine q_gov V (q_runV (As := [.int a83]) (rest := []) (d := 1) (mc := 0) (ms := 0) (ci := 15) C0 V rfl LV_FR_110 (X_FR_add l D g q w68  a83 hI lx32 lx33 lx34 lx35 lx36 lx37 lx38 lx39 lx40 lx41 lx42 hO69 lx43 hO70 ob85 _) rfl rfl hO69 rfl hl.1 rfl (Nat.le_of_ble_eq_true rfl) ⟨by decide, by decide⟩ ⟨Nat.le_of_ble_eq_true rfl, Nat.le_of_ble_eq_true rfl⟩ d_17_19_32) (fun u86 H locs hp87 V => ?_)
      obtain ⟨hI, hZ9⟩ := hp87
      obtain ⟨hu127, hZ9⟩ := hZ9
      obtain ⟨y89, hZ9⟩ := hZ9
      obtain ⟨y90, hZ9⟩ := hZ9
      obtain ⟨y91, hZ9⟩ := hZ9
      obtain ⟨y92, hZ9⟩ := hZ9
      obtain ⟨y93, hZ9⟩ := hZ9
      obtain ⟨y94, hZ9⟩ := hZ9
      obtain ⟨y95, hZ9⟩ := hZ9
      obtain ⟨y96, hZ9⟩ := hZ9
      obtain ⟨y97, hZ9⟩ := hZ9
      obtain ⟨y98, hZ9⟩ := hZ9
      obtain ⟨y99, hZ9⟩ := hZ9
      obtain ⟨f100, hZ9⟩ := hZ9
      obtain ⟨hO88, hZ9⟩ := hZ9
      obtain ⟨hA101, hZ9⟩ := hZ9
      replace hZ9 := hZ9.2.2
      obtain ⟨b104, hZ9⟩ := hZ9
      obtain ⟨b105, hZ9⟩ := hZ9
      obtain ⟨b106, hZ9⟩ := hZ9
      obtain ⟨b107, hZ9⟩ := hZ9
      obtain ⟨b108, hZ9⟩ := hZ9
      obtain ⟨b109, hZ9⟩ := hZ9
      obtain ⟨b110, hZ9⟩ := hZ9
      obtain ⟨b111, hZ9⟩ := hZ9
      obtain ⟨b112, hZ9⟩ := hZ9
      obtain ⟨b113, hZ9⟩ := hZ9
      obtain ⟨b114, hZ9⟩ := hZ9
      obtain ⟨b115, hZ9⟩ := hZ9
      obtain ⟨b116, hZ9⟩ := hZ9
      obtain ⟨b117, hZ9⟩ := hZ9
      obtain ⟨b118, hZ9⟩ := hZ9
      obtain ⟨b119, hZ9⟩ := hZ9
      obtain ⟨b120, hZ9⟩ := hZ9
      obtain ⟨b121, hZ9⟩ := hZ9
      obtain ⟨b122, hZ9⟩ := hZ9
      obtain ⟨b123, hZ9⟩ := hZ9
      obtain ⟨b124, hZ9⟩ := hZ9
      obtain ⟨b125, hE126⟩ := hZ9
      replace hO88 : u86[145]? = (some (q 145, .inr (15, [.int y89, .ref (q 146), .ref (q 147), .ref (q 148), .ref (q 149), .ref (q 150), .ref (q 151), .ref (q 152), .int y90, .int y91, .int y92, .long y93, .int y94, .int y95, .long y96, .int y97, .long y98, .int y99])) : Option (Nat × va_E)) := hO88
      replace hA101 : u86[152]? = (some (q 152, .inl (g 0, (1600 : Int32).toNatClampNeg, .inl f100)) : Option (Nat × va_E)) := hA101
      obtain ⟨p128, e129⟩ : ∃ z, z = (F_FR_add a83 lx32 lx33 lx34 lx35 lx36 lx37 lx38 lx39 lx40 lx41 lx42 lx43) := ⟨_, rfl⟩
      have e130 : y89 = p128.1 := congrArg (fun z => z.1) (hE126.trans e129.symm)
      have e131 : y90 = p128.2.1 := congrArg (fun z => z.2.1) (hE126.trans e129.symm)
      have e132 : y91 = p128.2.2.1 := congrArg (fun z => z.2.2.1) (hE126.trans e129.symm)
      have e133 : y92 = p128.2.2.2.1 := congrArg (fun z => z.2.2.2.1) (hE126.trans e129.symm)
      have e134 : y93 = p128.2.2.2.2.1 := congrArg (fun z => z.2.2.2.2.1) (hE126.trans e129.symm)
      have e135 : y94 = p128.2.2.2.2.2.1 := congrArg (fun z => z.2.2.2.2.2.1) (hE126.trans e129.symm)
      have e136 : y95 = p128.2.2.2.2.2.2.1 := congrArg (fun z => z.2.2.2.2.2.2.1) (hE126.trans e129.symm)
      have e137 : y96 = p128.2.2.2.2.2.2.2.1 := congrArg (fun z => z.2.2.2.2.2.2.2.1) (hE126.trans e129.symm)
      have e138 : y97 = p128.2.2.2.2.2.2.2.2.1 := congrArg (fun z => z.2.2.2.2.2.2.2.2.1) (hE126.trans e129.symm)
      have e139 : y98 = p128.2.2.2.2.2.2.2.2.2.1 := congrArg (fun z => z.2.2.2.2.2.2.2.2.2.1) (hE126.trans e129.symm)
      have e140 : y99 = p128.2.2.2.2.2.2.2.2.2.2.1 := congrArg (fun z => z.2.2.2.2.2.2.2.2.2.2.1) (hE126.trans e129.symm)
      have e141 : f100 = p128.2.2.2.2.2.2.2.2.2.2.2 := congrArg (fun z => z.2.2.2.2.2.2.2.2.2.2.2) (hE126.trans e129.symm)
      replace b104 : q_F (lx32.toInt ≤ y89.toInt) := b104
      replace b105 : q_F (y89.toInt ≤ lx32.toInt) := b105
      replace b106 : q_F (lx33.toInt + 1 ≤ y90.toInt) := b106
      replace b107 : q_F (y90.toInt ≤ lx33.toInt + 1) := b107
      replace b108 : q_F (lx34.toInt ≤ y91.toInt) := b108
      replace b109 : q_F (y91.toInt ≤ lx34.toInt) := b109
      replace b110 : q_F (lx35.toInt ≤ y92.toInt) := b110
      replace b111 : q_F (y92.toInt ≤ lx35.toInt) := b111
      replace b112 : q_F (lx36.toInt ≤ y93.toInt) := b112
      replace b113 : q_F (y93.toInt ≤ lx36.toInt) := b113
      replace b114 : q_F (lx37.toInt ≤ y94.toInt) := b114
      replace b115 : q_F (y94.toInt ≤ lx37.toInt) := b115
      replace b116 : q_F (lx38.toInt ≤ y95.toInt) := b116
      replace b117 : q_F (y95.toInt ≤ lx38.toInt) := b117
      replace b118 : q_F (lx39.toInt ≤ y96.toInt) := b118
      replace b119 : q_F (y96.toInt ≤ lx39.toInt) := b119
      replace b120 : q_F (lx40.toInt ≤ y97.toInt) := b120
      replace b121 : q_F (y97.toInt ≤ lx40.toInt) := b121
      replace b122 : q_F (lx41.toInt ≤ y98.toInt) := b122
      replace b123 : q_F (y98.toInt ≤ lx41.toInt) := b123
      replace b124 : q_F (lx42.toInt ≤ y99.toInt) := b124
      replace b125 : q_F (y99.toInt ≤ lx42.toInt) := b125
      replace hF := q_uc hF hu127 (by simp)
      have hR142 := (show F_FR_number_c32 (F_FR_number_L2 x2 t0_0 t0_1 t0_2 t0_3 t0_4 t0_5 t0_6 t0_7 t0_8 t0_9 t0_10 t1_0 fm24) (F_FR_number_L18 (F_FR_number_L2 x2 t0_0 t0_1 t0_2 t0_3 t0_4 t0_5 t0_6 t0_7 t0_8 t0_9 t0_10 t1_0 fm24) x2 t0_0 t0_1 t0_2 t0_3 t0_4 t0_5 t0_6 t0_7 t0_8 t0_9 t0_10 t1_0 lx18 fm75) x2 t0_0 t0_1 t0_2 t0_3 t0_4 t0_5 t0_6 t0_7 t0_8 t0_9 t0_10 t1_0 lx18 lx31 lx32 lx33 lx34 lx35 lx36 lx37 lx38 lx39 lx40 lx41 lx42 lx43 p128 = (F_FR_number x2 t0_0 t0_1 t0_2 t0_3 t0_4 t0_5 t0_6 t0_7 t0_8 t0_9 t0_10 t1_0) from Eq.trans (by rw [e129, ← e84, ← e82, ← e80, F_FR_number_L18.eq_2, if_neg c76]) hR71)
      have hS143 := (show True ∧ S_FR_number_c32 (S_FR_number_L2 x2 t0_0 t0_1 t0_2 t0_3 t0_4 t0_5 t0_6 t0_7 t0_8 t0_9 t0_10 t1_0 fm24) (S_FR_number_L18 (S_FR_number_L2 x2 t0_0 t0_1 t0_2 t0_3 t0_4 t0_5 t0_6 t0_7 t0_8 t0_9 t0_10 t1_0 fm24) x2 t0_0 t0_1 t0_2 t0_3 t0_4 t0_5 t0_6 t0_7 t0_8 t0_9 t0_10 t1_0 lx18 fm75) x2 t0_0 t0_1 t0_2 t0_3 t0_4 t0_5 t0_6 t0_7 t0_8 t0_9 t0_10 t1_0 lx18 lx31 lx32 lx33 lx34 lx35 lx36 lx37 lx38 lx39 lx40 lx41 lx42 lx43 p128 from (by rw [e129, ← e84, ← e82, ← e80]; have h := hS72; rw [S_FR_number_L18.eq_2] at h; rw [if_neg c76] at h; replace h := q_s2 h; with_reducible exact h))
      refine lv_iload_n hx hb d_17_19_35 rfl (lv_at hl 0 rfl) ?_
      refine lv_bipush (v := 10) hx hb d_17_19_36 (by decide) ?_
      refine lv_idiv hx hb d_17_19_38 (by decide) ?_
      obtain ⟨a147, e148⟩ := q_nm (lx31 / 10 : Int32)
      refine q_ti (v := a147) e148 ?_
      have b149 : q_F (10 * a147.toInt ≤ lx31.toInt ∧ lx31.toInt ≤ 10 * a147.toInt + 9) := (by rw [← e148]; show 10 * (lx31 / 10 : Int32).toInt ≤ lx31.toInt ∧ lx31.toInt ≤ 10 * (lx31 / 10 : Int32).toInt + 9; exact (by have z := q_divI (y := 10) (rfl : lx31.toInt = _) (by decide : (10 : Int32).toInt = 10) (by first | with_reducible exact q_fe i44 | (have t1 : 0 ≤ lx31.toInt := i44; omega)) (by decide); omega))
      refine lv_istore_n (lv' := [(2, .int a147), (0, .ref (q 145)), (1, .int x2)]) hx hb d_17_19_39 rfl hl (by decide) rfl (fun ls hl => ?_)
      refine lv_goto (tgt := 18) hx hb d_17_19_40 (by decide) ?_
      exact ih67 ((a147 : Int32), (y89 : Int32), (y90 : Int32), (y91 : Int32), (y92 : Int32), (y93 : Int64), (y94 : Int32), (y95 : Int32), (y96 : Int64), (y97 : Int32), (y98 : Int64), (y99 : Int32), (f100 : (Nat → Int32))) _ _ _ _ (show (a147.toInt - ((-1))).toNat < (lx31.toInt - ((-1))).toNat from by have t1 : 0 < lx31.toInt := b78; have t2 : 10 * a147.toInt ≤ lx31.toInt ∧ lx31.toInt ≤ 10 * a147.toInt + 9 := b149; have t3 : 0 ≤ lx31.toInt := i44; omega) ⟨(show q_F (0 ≤ a147.toInt) from (show 0 ≤ a147.toInt from by have t1 : 0 ≤ lx31.toInt := i44; have t2 : 10 * a147.toInt ≤ lx31.toInt ∧ lx31.toInt ≤ 10 * a147.toInt + 9 := b149; omega)), (show q_F (t0_0.toInt ≤ y89.toInt) from (show t0_0.toInt ≤ y89.toInt from by have t1 : t0_0.toInt ≤ lx32.toInt := i45; have t2 : lx32.toInt ≤ y89.toInt := b104; omega)), (show q_F (y89.toInt ≤ t0_0.toInt) from (show y89.toInt ≤ t0_0.toInt from by have t1 : lx32.toInt ≤ t0_0.toInt := i46; have t2 : y89.toInt ≤ lx32.toInt := b105; omega)), (show q_F (t0_1.toInt ≤ y90.toInt) from (show t0_1.toInt ≤ y90.toInt from by have t1 : t0_1.toInt ≤ lx33.toInt := i47; have t2 : lx33.toInt + 1 ≤ y90.toInt := b106; omega)), (show q_F (t0_2.toInt ≤ y91.toInt) from (show t0_2.toInt ≤ y91.toInt from by have t1 : t0_2.toInt ≤ lx34.toInt := i48; have t2 : lx34.toInt ≤ y91.toInt := b108; omega)), (show q_F (y91.toInt ≤ t0_2.toInt) from (show y91.toInt ≤ t0_2.toInt from by have t1 : lx34.toInt ≤ t0_2.toInt := i49; have t2 : y91.toInt ≤ lx34.toInt := b109; omega)), (show q_F (t0_3.toInt ≤ y92.toInt) from (show t0_3.toInt ≤ y92.toInt from by have t1 : t0_3.toInt ≤ lx35.toInt := i50; have t2 : lx35.toInt ≤ y92.toInt := b110; omega)), (show q_F (y92.toInt ≤ t0_3.toInt) from (show y92.toInt ≤ t0_3.toInt from by have t1 : lx35.toInt ≤ t0_3.toInt := i51; have t2 : y92.toInt ≤ lx35.toInt := b111; omega)), (show q_F (t0_4.toInt ≤ y93.toInt) from (show t0_4.toInt ≤ y93.toInt from by have t1 : t0_4.toInt ≤ lx36.toInt := i52; have t2 : lx36.toInt ≤ y93.toInt := b112; omega)), (show q_F (y93.toInt ≤ t0_4.toInt) from (show y93.toInt ≤ t0_4.toInt from by have t1 : lx36.toInt ≤ t0_4.toInt := i53; have t2 : y93.toInt ≤ lx36.toInt := b113; omega)), (show q_F (t0_5.toInt ≤ y94.toInt) from (show t0_5.toInt ≤ y94.toInt from by have t1 : t0_5.toInt ≤ lx37.toInt := i54; have t2 : lx37.toInt ≤ y94.toInt := b114; omega)), (show q_F (y94.toInt ≤ t0_5.toInt) from (show y94.toInt ≤ t0_5.toInt from by have t1 : lx37.toInt ≤ t0_5.toInt := i55; have t2 : y94.toInt ≤ lx37.toInt := b115; omega)), (show q_F (t0_6.toInt ≤ y95.toInt) from (show t0_6.toInt ≤ y95.toInt from by have t1 : t0_6.toInt ≤ lx38.toInt := i56; have t2 : lx38.toInt ≤ y95.toInt := b116; omega)), (show q_F (y95.toInt ≤ t0_6.toInt) from (show y95.toInt ≤ t0_6.toInt from by have t1 : lx38.toInt ≤ t0_6.toInt := i57; have t2 : y95.toInt ≤ lx38.toInt := b117; omega)), (show q_F (t0_7.toInt ≤ y96.toInt) from (show t0_7.toInt ≤ y96.toInt from by have t1 : t0_7.toInt ≤ lx39.toInt := i58; have t2 : lx39.toInt ≤ y96.toInt := b118; omega)), (show q_F (y96.toInt ≤ t0_7.toInt) from (show y96.toInt ≤ t0_7.toInt from by have t1 : lx39.toInt ≤ t0_7.toInt := i59; have t2 : y96.toInt ≤ lx39.toInt := b119; omega)), (show q_F (t0_8.toInt ≤ y97.toInt) from (show t0_8.toInt ≤ y97.toInt from by have t1 : t0_8.toInt ≤ lx40.toInt := i60; have t2 : lx40.toInt ≤ y97.toInt := b120; omega)), (show q_F (y97.toInt ≤ t0_8.toInt) from (show y97.toInt ≤ t0_8.toInt from by have t1 : lx40.toInt ≤ t0_8.toInt := i61; have t2 : y97.toInt ≤ lx40.toInt := b121; omega)), (show q_F (t0_9.toInt ≤ y98.toInt) from (show t0_9.toInt ≤ y98.toInt from by have t1 : t0_9.toInt ≤ lx41.toInt := i62; have t2 : lx41.toInt ≤ y98.toInt := b122; omega)), (show q_F (y98.toInt ≤ t0_9.toInt) from (show y98.toInt ≤ t0_9.toInt from by have t1 : lx41.toInt ≤ t0_9.toInt := i63; have t2 : y98.toInt ≤ lx41.toInt := b123; omega)), (show q_F (t0_10.toInt ≤ y99.toInt) from (show t0_10.toInt ≤ y99.toInt from by have t1 : t0_10.toInt ≤ lx42.toInt := i64; have t2 : lx42.toInt ≤ y99.toInt := b124; omega)), (show q_F (y99.toInt ≤ t0_10.toInt) from (show y99.toInt ≤ t0_10.toInt from by have t1 : lx42.toInt ≤ t0_10.toInt := i65; have t2 : y99.toInt ≤ lx42.toInt := b125; omega)), (show q_F (a147.toInt + y90.toInt ≤ lx18.toInt + t0_1.toInt) from (show a147.toInt + y90.toInt ≤ lx18.toInt + t0_1.toInt from by have t1 : lx31.toInt + lx33.toInt ≤ lx18.toInt + t0_1.toInt := i66; have t2 : 0 < lx31.toInt := b78; have t3 : y90.toInt ≤ lx33.toInt + 1 := b107; have t4 : 10 * a147.toInt ≤ lx31.toInt ∧ lx31.toInt ≤ 10 * a147.toInt + 9 := b149; omega)), V, q_lw hl (q_lw1 0 rfl (q_lw1 1 rfl (q_lw1 2 rfl q_lw0))), hI, hF, hO88, hA101, ⟨fm75, Nat.lt_of_lt_of_le (show (a147.toInt - ((-1))).toNat < (lx31.toInt - ((-1))).toNat from by have t1 : 0 < lx31.toInt := b78; have t2 : 10 * a147.toInt ≤ lx31.toInt ∧ lx31.toInt ≤ 10 * a147.toInt + 9 := b149; have t3 : 0 ≤ lx31.toInt := i44; omega) (Nat.le_of_lt_succ hf74), (show F_FR_number_L18 (F_FR_number_L2 x2 t0_0 t0_1 t0_2 t0_3 t0_4 t0_5 t0_6 t0_7 t0_8 t0_9 t0_10 t1_0 fm24) x2 t0_0 t0_1 t0_2 t0_3 t0_4 t0_5 t0_6 t0_7 t0_8 t0_9 t0_10 t1_0 lx18 fm75 a147 y89 y90 y91 y92 y93 y94 y95 y96 y97 y98 y99 f100 = (F_FR_number x2 t0_0 t0_1 t0_2 t0_3 t0_4 t0_5 t0_6 t0_7 t0_8 t0_9 t0_10 t1_0) from Eq.trans (by rw [← e148, e141, e140, e139, e138, e137, e136, e135, e134, e133, e132, e131, e130, F_FR_number_c32.eq_1]) hR142), (show True ∧ S_FR_number_L18 (S_FR_number_L2 x2 t0_0 t0_1 t0_2 t0_3 t0_4 t0_5 t0_6 t0_7 t0_8 t0_9 t0_10 t1_0 fm24) x2 t0_0 t0_1 t0_2 t0_3 t0_4 t0_5 t0_6 t0_7 t0_8 t0_9 t0_10 t1_0 lx18 fm75 a147 y89 y90 y91 y92 y93 y94 y95 y96 y97 y98 y99 f100 from (by rw [← e148, e141, e140, e139, e138, e137, e136, e135, e134, e133, e132, e131, e130]; have h := hS143; rw [S_FR_number_c32.eq_1] at h; with_reducible exact h))⟩⟩
  ·
    refine lv_iload_n hx hb d_17_19_10 rfl (lv_at hl 0 rfl) ?_
    refine lv_bipush (v := 10) hx hb d_17_19_11 (by decide) ?_
    refine lv_imul hx hb d_17_19_13 ?_
    obtain ⟨a151, e152⟩ := q_nm (lx18 * 10 : Int32)
    refine q_ti (v := a151) e152 ?_
    refine lv_istore_n (lv' := [(2, .int a151), (0, .ref (q 145)), (1, .int x2)]) hx hb d_17_19_14 rfl hl (by decide) rfl (fun ls hl => ?_)
    refine lv_goto (tgt := 2) hx hb d_17_19_15 (by decide) ?_
    exact ih19 ((fm24 : Nat), (a151 : Int32)) _ _ _ ws (Nat.lt_succ_self _) ⟨V, q_lw hl (q_lw1 0 rfl (q_lw1 1 rfl (q_lw1 2 rfl q_lw0))), (show F_FR_number_L2 x2 t0_0 t0_1 t0_2 t0_3 t0_4 t0_5 t0_6 t0_7 t0_8 t0_9 t0_10 t1_0 fm24 a151 = (F_FR_number x2 t0_0 t0_1 t0_2 t0_3 t0_4 t0_5 t0_6 t0_7 t0_8 t0_9 t0_10 t1_0) from Eq.trans (by have c28x := c28; rw [← e27] at c28x; rw [← e152, F_FR_number_L2.eq_2, if_neg c28x]) hR20), (show True ∧ S_FR_number_L2 x2 t0_0 t0_1 t0_2 t0_3 t0_4 t0_5 t0_6 t0_7 t0_8 t0_9 t0_10 t1_0 fm24 a151 from (by rw [← e152]; have h := hS21; rw [S_FR_number_L2.eq_2] at h; replace h := q_s2 h; have c28x := c28; rw [← e27] at c28x; rw [if_neg c28x] at h; with_reducible exact h))⟩

