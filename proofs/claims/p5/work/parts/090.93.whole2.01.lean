theorem d_19_20_0 : decode prog_19_method_20_code 0 = .ok (.aload_n 0, 1) := by decide +kernel
theorem d_19_20_1 : decode prog_19_method_20_code 1 = .ok (.iload_n 1, 1) := by decide +kernel
theorem d_19_20_2 : decode prog_19_method_20_code 2 = .ok (.invokestatic 91, 3) := by decide +kernel
theorem d_19_20_13 : decode prog_19_method_20_code 13 = .ok (.putfield 53, 3) := by decide +kernel
theorem d_19_20_16 : decode prog_19_method_20_code 16 = .ok (.aload_n 0, 1) := by decide +kernel
theorem d_19_20_17 : decode prog_19_method_20_code 17 = .ok (.getfield 53, 3) := by decide +kernel
theorem d_19_20_20 : decode prog_19_method_20_code 20 = .ok (.ifCond .le 4, 3) := by decide +kernel
theorem d_19_20_24 : decode prog_19_method_20_code 24 = .ok (.aload_n 0, 1) := by decide +kernel
theorem d_19_20_25 : decode prog_19_method_20_code 25 = .ok (.getfield 20, 3) := by decide +kernel
theorem d_19_20_28 : decode prog_19_method_20_code 28 = .ok (.invokestatic 63, 3) := by decide +kernel
theorem d_19_20_31 : decode prog_19_method_20_code 31 = .ok (.aload_n 0, 1) := by decide +kernel
theorem d_19_20_32 : decode prog_19_method_20_code 32 = .ok (.lload_n 2, 1) := by decide +kernel
theorem d_19_20_33 : decode prog_19_method_20_code 33 = .ok (.lconst 0, 1) := by decide +kernel
theorem d_19_20_34 : decode prog_19_method_20_code 34 = .ok (.lcmp, 1) := by decide +kernel
theorem d_19_20_43 : decode prog_19_method_20_code 43 = .ok (.putfield 82, 3) := by decide +kernel
theorem d_19_20_46 : decode prog_19_method_20_code 46 = .ok (.aload_n 0, 1) := by decide +kernel
theorem d_19_20_47 : decode prog_19_method_20_code 47 = .ok (.getfield 82, 3) := by decide +kernel
theorem d_19_20_59 : decode prog_19_method_20_code 59 = .ok (.lstore 4, 2) := by decide +kernel
theorem d_19_20_61 : decode prog_19_method_20_code 61 = .ok (.iconst 0, 1) := by decide +kernel
theorem d_19_20_62 : decode prog_19_method_20_code 62 = .ok (.istore 6, 2) := by decide +kernel
theorem d_19_20_64 : decode prog_19_method_20_code 64 = .ok (.iload 6, 2) := by decide +kernel
theorem d_19_20_66 : decode prog_19_method_20_code 66 = .ok (.iconst 4, 1) := by decide +kernel
theorem d_19_20_67 : decode prog_19_method_20_code 67 = .ok (.if_icmp .ge 29, 3) := by decide +kernel
theorem d_19_20_96 : decode prog_19_method_20_code 96 = .ok (.aload_n 0, 1) := by decide +kernel
theorem d_19_20_97 : decode prog_19_method_20_code 97 = .ok (.iload_n 1, 1) := by decide +kernel
theorem d_19_20_98 : decode prog_19_method_20_code 98 = .ok (.invokevirtual 103, 3) := by decide +kernel
theorem d_19_20_101 : decode prog_19_method_20_code 101 = .ok (.return_, 1) := by decide +kernel
theorem d_19_20_70 : decode prog_19_method_20_code 70 = .ok (.aload_n 0, 1) := by decide +kernel
theorem d_19_20_71 : decode prog_19_method_20_code 71 = .ok (.getfield 20, 3) := by decide +kernel
theorem d_19_20_74 : decode prog_19_method_20_code 74 = .ok (.iload 6, 2) := by decide +kernel
theorem d_19_20_76 : decode prog_19_method_20_code 76 = .ok (.lload 4, 2) := by decide +kernel
theorem d_19_20_78 : decode prog_19_method_20_code 78 = .ok (.bipush 16, 2) := by decide +kernel
theorem d_19_20_80 : decode prog_19_method_20_code 80 = .ok (.iload 6, 2) := by decide +kernel
theorem d_19_20_82 : decode prog_19_method_20_code 82 = .ok (.imul, 1) := by decide +kernel
theorem d_19_20_83 : decode prog_19_method_20_code 83 = .ok (.lushr, 1) := by decide +kernel
theorem d_19_20_84 : decode prog_19_method_20_code 84 = .ok (.ldc2_w 57, 3) := by decide +kernel
theorem d_19_20_87 : decode prog_19_method_20_code 87 = .ok (.land, 1) := by decide +kernel
theorem d_19_20_88 : decode prog_19_method_20_code 88 = .ok (.l2i, 1) := by decide +kernel
theorem d_19_20_89 : decode prog_19_method_20_code 89 = .ok (.iastore, 1) := by decide +kernel
theorem d_19_20_90 : decode prog_19_method_20_code 90 = .ok (.iinc 6 1, 3) := by decide +kernel
theorem d_19_20_93 : decode prog_19_method_20_code 93 = .ok (.goto (-29), 3) := by decide +kernel
theorem d_19_20_50 : decode prog_19_method_20_code 50 = .ok (.ifCond .eq 8, 3) := by decide +kernel
theorem d_19_20_58 : decode prog_19_method_20_code 58 = .ok (.lload_n 2, 1) := by decide +kernel
theorem d_19_20_53 : decode prog_19_method_20_code 53 = .ok (.lload_n 2, 1) := by decide +kernel
theorem d_19_20_54 : decode prog_19_method_20_code 54 = .ok (.lneg, 1) := by decide +kernel
theorem d_19_20_55 : decode prog_19_method_20_code 55 = .ok (.goto 4, 3) := by decide +kernel
theorem d_19_20_35 : decode prog_19_method_20_code 35 = .ok (.ifCond .ge 7, 3) := by decide +kernel
theorem d_19_20_42 : decode prog_19_method_20_code 42 = .ok (.iconst 0, 1) := by decide +kernel
theorem d_19_20_38 : decode prog_19_method_20_code 38 = .ok (.iconst 1, 1) := by decide +kernel
theorem d_19_20_39 : decode prog_19_method_20_code 39 = .ok (.goto 4, 3) := by decide +kernel
theorem d_19_20_23 : decode prog_19_method_20_code 23 = .ok (.return_, 1) := by decide +kernel
theorem d_19_20_5 : decode prog_19_method_20_code 5 = .ok (.ifCond .eq 7, 3) := by decide +kernel
theorem d_19_20_12 : decode prog_19_method_20_code 12 = .ok (.iconst 0, 1) := by decide +kernel
theorem d_19_20_8 : decode prog_19_method_20_code 8 = .ok (.iconst 1, 1) := by decide +kernel
theorem d_19_20_9 : decode prog_19_method_20_code 9 = .ok (.goto 4, 3) := by decide +kernel
def y_WR_put : MethodName := ⟨"NumberHouseModel$WholeRows", "put", "(IJ)V"⟩
def F_WR_put_c98 (K_F_WR_put_L64 : Int32 → (Nat → Int32) → (Int32 × Int32 × Int32 × Int32 × Int32 × Int32 × Int32 × (Nat → Int32) × (Nat → Int32) × (Nat → Int32))) (x2 : Int32) (x3 : Int64) (t0_0 : Int32) (t0_1 : Int32) (t0_2 : Int32) (t0_3 : Int32) (t0_4 : Int32) (t0_5 : Int32) (t0_6 : Int32) (t1_0 : (Nat → Int32)) (t2_0 : (Nat → Int32)) (t3_0 : (Nat → Int32)) (lx30 : Int32) (f49 : (Nat → Int32)) (lx57 : Int32) (lx72 : Int64) (lx84 : Int32) (lx85 : (Nat → Int32)) (p130 : (Int32 × Int32 × Int32 × Int32 × Int32 × Int32 × Int32 × (Nat → Int32) × (Nat → Int32))) : Int32 × Int32 × Int32 × Int32 × Int32 × Int32 × Int32 × (Nat → Int32) × (Nat → Int32) × (Nat → Int32) := ((p130.1 : Int32), (p130.2.1 : Int32), (p130.2.2.1 : Int32), (p130.2.2.2.1 : Int32), (p130.2.2.2.2.1 : Int32), (p130.2.2.2.2.2.1 : Int32), (p130.2.2.2.2.2.2.1 : Int32), (p130.2.2.2.2.2.2.2.1 : (Nat → Int32)), (p130.2.2.2.2.2.2.2.2 : (Nat → Int32)), lx85)
def F_WR_put_L64 (x2 : Int32) (x3 : Int64) (t0_0 : Int32) (t0_1 : Int32) (t0_2 : Int32) (t0_3 : Int32) (t0_4 : Int32) (t0_5 : Int32) (t0_6 : Int32) (t1_0 : (Nat → Int32)) (t2_0 : (Nat → Int32)) (t3_0 : (Nat → Int32)) (lx30 : Int32) (f49 : (Nat → Int32)) (lx57 : Int32) (lx72 : Int64) : Nat → Int32 → (Nat → Int32) → (Int32 × Int32 × Int32 × Int32 × Int32 × Int32 × Int32 × (Nat → Int32) × (Nat → Int32) × (Nat → Int32))
  | 0, _, _ => default
  | fm + 1, lx84, lx85 => if (4 : Int32) ≤ lx84 then (F_WR_put_c98 (F_WR_put_L64 x2 x3 t0_0 t0_1 t0_2 t0_3 t0_4 t0_5 t0_6 t1_0 t2_0 t3_0 lx30 f49 lx57 lx72 fm) x2 x3 t0_0 t0_1 t0_2 t0_3 t0_4 t0_5 t0_6 t1_0 t2_0 t3_0 lx30 f49 lx57 lx72 lx84 lx85 ((F_WR_store x2 lx30 t0_1 t0_2 lx57 t0_4 t0_5 t0_6 t1_0 t2_0 lx85) : (Int32 × Int32 × Int32 × Int32 × Int32 × Int32 × Int32 × (Nat → Int32) × (Nat → Int32)))) else (F_WR_put_L64 x2 x3 t0_0 t0_1 t0_2 t0_3 t0_4 t0_5 t0_6 t1_0 t2_0 t3_0 lx30 f49 lx57 lx72 fm (lx84 + 1 : Int32) (upd lx85 lx84.toNatClampNeg ((((lx72.toUInt64 >>> ((16 * lx84 : Int32).toInt64.toUInt64 &&& Int64.toUInt64 63)).toInt64 : Int64) &&& 65535 : Int64).toInt32 : Int32) : (Nat → Int32)))
def F_WR_put_J59 (x2 : Int32) (x3 : Int64) (t0_0 : Int32) (t0_1 : Int32) (t0_2 : Int32) (t0_3 : Int32) (t0_4 : Int32) (t0_5 : Int32) (t0_6 : Int32) (t1_0 : (Nat → Int32)) (t2_0 : (Nat → Int32)) (t3_0 : (Nat → Int32)) (lx30 : Int32) (f49 : (Nat → Int32)) (lx57 : Int32) (lx72 : Int64) : Int32 × Int32 × Int32 × Int32 × Int32 × Int32 × Int32 × (Nat → Int32) × (Nat → Int32) × (Nat → Int32) := F_WR_put_L64 x2 x3 t0_0 t0_1 t0_2 t0_3 t0_4 t0_5 t0_6 t1_0 t2_0 t3_0 lx30 f49 lx57 lx72 ((4 - (0 : Int32).toInt).toNat + 1) 0 f49
def F_WR_put_J43 (x2 : Int32) (x3 : Int64) (t0_0 : Int32) (t0_1 : Int32) (t0_2 : Int32) (t0_3 : Int32) (t0_4 : Int32) (t0_5 : Int32) (t0_6 : Int32) (t1_0 : (Nat → Int32)) (t2_0 : (Nat → Int32)) (t3_0 : (Nat → Int32)) (lx30 : Int32) (f49 : (Nat → Int32)) (lx57 : Int32) : Int32 × Int32 × Int32 × Int32 × Int32 × Int32 × Int32 × (Nat → Int32) × (Nat → Int32) × (Nat → Int32) := if lx57 = (0 : Int32) then (F_WR_put_J59 x2 x3 t0_0 t0_1 t0_2 t0_3 t0_4 t0_5 t0_6 t1_0 t2_0 t3_0 lx30 f49 lx57 x3) else (F_WR_put_J59 x2 x3 t0_0 t0_1 t0_2 t0_3 t0_4 t0_5 t0_6 t1_0 t2_0 t3_0 lx30 f49 lx57 (-x3 : Int64))
def F_WR_put_J13 (x2 : Int32) (x3 : Int64) (t0_0 : Int32) (t0_1 : Int32) (t0_2 : Int32) (t0_3 : Int32) (t0_4 : Int32) (t0_5 : Int32) (t0_6 : Int32) (t1_0 : (Nat → Int32)) (t2_0 : (Nat → Int32)) (t3_0 : (Nat → Int32)) (lx30 : Int32) : Int32 × Int32 × Int32 × Int32 × Int32 × Int32 × Int32 × (Nat → Int32) × (Nat → Int32) × (Nat → Int32) := if lx30 ≤ (0 : Int32) then (if (0 : Int32) ≤ (lg_cmp x3 0 : Int32) then (F_WR_put_J43 x2 x3 t0_0 t0_1 t0_2 t0_3 t0_4 t0_5 t0_6 t1_0 t2_0 t3_0 lx30 ((F_WR_clear (264 : Int32) t3_0) : (Nat → Int32)) 0) else (F_WR_put_J43 x2 x3 t0_0 t0_1 t0_2 t0_3 t0_4 t0_5 t0_6 t1_0 t2_0 t3_0 lx30 ((F_WR_clear (264 : Int32) t3_0) : (Nat → Int32)) 1)) else ((lx30, t0_1, t0_2, t0_3, t0_4, t0_5, t0_6, t1_0, t2_0, t3_0))
def F_WR_put (x2 : Int32) (x3 : Int64) (t0_0 : Int32) (t0_1 : Int32) (t0_2 : Int32) (t0_3 : Int32) (t0_4 : Int32) (t0_5 : Int32) (t0_6 : Int32) (t1_0 : (Nat → Int32)) (t2_0 : (Nat → Int32)) (t3_0 : (Nat → Int32)) : Int32 × Int32 × Int32 × Int32 × Int32 × Int32 × Int32 × (Nat → Int32) × (Nat → Int32) × (Nat → Int32) := if ((F_WR_no x2) : Int32) = (0 : Int32) then (F_WR_put_J13 x2 x3 t0_0 t0_1 t0_2 t0_3 t0_4 t0_5 t0_6 t1_0 t2_0 t3_0 0) else (F_WR_put_J13 x2 x3 t0_0 t0_1 t0_2 t0_3 t0_4 t0_5 t0_6 t1_0 t2_0 t3_0 1)
def S_WR_put_c98 (K_S_WR_put_L64 : Int32 → (Nat → Int32) → Prop) (x2 : Int32) (x3 : Int64) (t0_0 : Int32) (t0_1 : Int32) (t0_2 : Int32) (t0_3 : Int32) (t0_4 : Int32) (t0_5 : Int32) (t0_6 : Int32) (t1_0 : (Nat → Int32)) (t2_0 : (Nat → Int32)) (t3_0 : (Nat → Int32)) (lx30 : Int32) (f49 : (Nat → Int32)) (lx57 : Int32) (lx72 : Int64) (lx84 : Int32) (lx85 : (Nat → Int32)) (p130 : (Int32 × Int32 × Int32 × Int32 × Int32 × Int32 × Int32 × (Nat → Int32) × (Nat → Int32))) : Prop := True
def S_WR_put_L64 (x2 : Int32) (x3 : Int64) (t0_0 : Int32) (t0_1 : Int32) (t0_2 : Int32) (t0_3 : Int32) (t0_4 : Int32) (t0_5 : Int32) (t0_6 : Int32) (t1_0 : (Nat → Int32)) (t2_0 : (Nat → Int32)) (t3_0 : (Nat → Int32)) (lx30 : Int32) (f49 : (Nat → Int32)) (lx57 : Int32) (lx72 : Int64) : Nat → Int32 → (Nat → Int32) → Prop
  | 0, _, _ => False
  | fm + 1, lx84, lx85 => if (4 : Int32) ≤ lx84 then ((True ∧ S_WR_store x2 lx30 t0_1 t0_2 lx57 t0_4 t0_5 t0_6 t1_0 t2_0 lx85) ∧ (S_WR_put_c98 (S_WR_put_L64 x2 x3 t0_0 t0_1 t0_2 t0_3 t0_4 t0_5 t0_6 t1_0 t2_0 t3_0 lx30 f49 lx57 lx72 fm) x2 x3 t0_0 t0_1 t0_2 t0_3 t0_4 t0_5 t0_6 t1_0 t2_0 t3_0 lx30 f49 lx57 lx72 lx84 lx85 ((F_WR_store x2 lx30 t0_1 t0_2 lx57 t0_4 t0_5 t0_6 t1_0 t2_0 lx85) : (Int32 × Int32 × Int32 × Int32 × Int32 × Int32 × Int32 × (Nat → Int32) × (Nat → Int32))))) else (S_WR_put_L64 x2 x3 t0_0 t0_1 t0_2 t0_3 t0_4 t0_5 t0_6 t1_0 t2_0 t3_0 lx30 f49 lx57 lx72 fm (lx84 + 1 : Int32) (upd lx85 lx84.toNatClampNeg ((((lx72.toUInt64 >>> ((16 * lx84 : Int32).toInt64.toUInt64 &&& Int64.toUInt64 63)).toInt64 : Int64) &&& 65535 : Int64).toInt32 : Int32) : (Nat → Int32)))
def S_WR_put_J59 (x2 : Int32) (x3 : Int64) (t0_0 : Int32) (t0_1 : Int32) (t0_2 : Int32) (t0_3 : Int32) (t0_4 : Int32) (t0_5 : Int32) (t0_6 : Int32) (t1_0 : (Nat → Int32)) (t2_0 : (Nat → Int32)) (t3_0 : (Nat → Int32)) (lx30 : Int32) (f49 : (Nat → Int32)) (lx57 : Int32) (lx72 : Int64) : Prop := S_WR_put_L64 x2 x3 t0_0 t0_1 t0_2 t0_3 t0_4 t0_5 t0_6 t1_0 t2_0 t3_0 lx30 f49 lx57 lx72 ((4 - (0 : Int32).toInt).toNat + 1) 0 f49
def S_WR_put_J43 (x2 : Int32) (x3 : Int64) (t0_0 : Int32) (t0_1 : Int32) (t0_2 : Int32) (t0_3 : Int32) (t0_4 : Int32) (t0_5 : Int32) (t0_6 : Int32) (t1_0 : (Nat → Int32)) (t2_0 : (Nat → Int32)) (t3_0 : (Nat → Int32)) (lx30 : Int32) (f49 : (Nat → Int32)) (lx57 : Int32) : Prop := if lx57 = (0 : Int32) then (S_WR_put_J59 x2 x3 t0_0 t0_1 t0_2 t0_3 t0_4 t0_5 t0_6 t1_0 t2_0 t3_0 lx30 f49 lx57 x3) else (S_WR_put_J59 x2 x3 t0_0 t0_1 t0_2 t0_3 t0_4 t0_5 t0_6 t1_0 t2_0 t3_0 lx30 f49 lx57 (-x3 : Int64))
def S_WR_put_J13 (x2 : Int32) (x3 : Int64) (t0_0 : Int32) (t0_1 : Int32) (t0_2 : Int32) (t0_3 : Int32) (t0_4 : Int32) (t0_5 : Int32) (t0_6 : Int32) (t1_0 : (Nat → Int32)) (t2_0 : (Nat → Int32)) (t3_0 : (Nat → Int32)) (lx30 : Int32) : Prop := if lx30 ≤ (0 : Int32) then (if (0 : Int32) ≤ (lg_cmp x3 0 : Int32) then (S_WR_put_J43 x2 x3 t0_0 t0_1 t0_2 t0_3 t0_4 t0_5 t0_6 t1_0 t2_0 t3_0 lx30 ((F_WR_clear (264 : Int32) t3_0) : (Nat → Int32)) 0) else (S_WR_put_J43 x2 x3 t0_0 t0_1 t0_2 t0_3 t0_4 t0_5 t0_6 t1_0 t2_0 t3_0 lx30 ((F_WR_clear (264 : Int32) t3_0) : (Nat → Int32)) 1)) else (True)
def S_WR_put (x2 : Int32) (x3 : Int64) (t0_0 : Int32) (t0_1 : Int32) (t0_2 : Int32) (t0_3 : Int32) (t0_4 : Int32) (t0_5 : Int32) (t0_6 : Int32) (t1_0 : (Nat → Int32)) (t2_0 : (Nat → Int32)) (t3_0 : (Nat → Int32)) : Prop := if ((F_WR_no x2) : Int32) = (0 : Int32) then (S_WR_put_J13 x2 x3 t0_0 t0_1 t0_2 t0_3 t0_4 t0_5 t0_6 t1_0 t2_0 t3_0 0) else (S_WR_put_J13 x2 x3 t0_0 t0_1 t0_2 t0_3 t0_4 t0_5 t0_6 t1_0 t2_0 t3_0 1)
set_option maxRecDepth 100000 in
set_option maxHeartbeats 4000000 in
theorem X_WR_put (l : Launch) (D : va_G) (g : Nat → ClassId) (q : Nat → Nat) (ws : va_W) (x2 : Int32) (x3 : Int64) (hI : q_I (msh g q) q ws) (t0_0 : Int32) (t0_1 : Int32) (t0_2 : Int32) (t0_3 : Int32) (t0_4 : Int32) (t0_5 : Int32) (t0_6 : Int32) (hT0 : ws[119]? = (some (q 119, .inr (13, [.int t0_0, .int t0_1, .ref (q 120), .int t0_2, .ref (q 121), .ref (q 122), .ref (q 123), .int t0_3, .ref (q 124), .ref (q 125), .ref (q 126), .ref (q 127), .ref (q 128), .ref (q 129), .ref (q 130), .ref (q 131), .int t0_4, .int t0_5, .ref (q 132), .ref (q 133), .int t0_6])) : Option (Nat × va_E))) (t1_0 : (Nat → Int32)) (hT1 : ws[121]? = (some (q 121, .inl (g 0, (1408 : Int32).toNatClampNeg, .inl t1_0)) : Option (Nat × va_E))) (t2_0 : (Nat → Int32)) (hT2 : ws[122]? = (some (q 122, .inl (g 3, 11, .inl t2_0)) : Option (Nat × va_E))) (t3_0 : (Nat → Int32)) (hT3 : ws[123]? = (some (q 123, .inl (g 0, (264 : Int32).toNatClampNeg, .inl t3_0)) : Option (Nat × va_E))) (hS : True ∧ S_WR_put x2 x3 t0_0 t0_1 t0_2 t0_3 t0_4 t0_5 t0_6 t1_0 t2_0 t3_0) : q_mV l y_WR_put prog_19_method_20_code 7 3 0 0 D g [.ref (q 119), .int x2, .long x3] ws (fun u => q_I (msh g q) q u ∧ q_un ws u [119, 121, 122, 123] ∧ ∃ (u0_0 : Int32) (u0_1 : Int32) (u0_2 : Int32) (u0_3 : Int32) (u0_4 : Int32) (u0_5 : Int32) (u0_6 : Int32) (u1_0 : (Nat → Int32)) (u2_0 : (Nat → Int32)) (u3_0 : (Nat → Int32)), u[119]? = (some (q 119, .inr (13, [.int u0_0, .int u0_1, .ref (q 120), .int u0_2, .ref (q 121), .ref (q 122), .ref (q 123), .int u0_3, .ref (q 124), .ref (q 125), .ref (q 126), .ref (q 127), .ref (q 128), .ref (q 129), .ref (q 130), .ref (q 131), .int u0_4, .int u0_5, .ref (q 132), .ref (q 133), .int u0_6])) : Option (Nat × va_E)) ∧ u[121]? = (some (q 121, .inl (g 0, (1408 : Int32).toNatClampNeg, .inl u1_0)) : Option (Nat × va_E)) ∧ u[122]? = (some (q 122, .inl (g 3, 11, .inl u2_0)) : Option (Nat × va_E)) ∧ u[123]? = (some (q 123, .inl (g 0, (264 : Int32).toNatClampNeg, .inl u3_0)) : Option (Nat × va_E)) ∧ (0 ≤ u0_3.toInt) ∧ (u0_3.toInt ≤ 1) ∧ (t0_1.toInt ≤ u0_1.toInt) ∧ (u0_1.toInt ≤ t0_1.toInt) ∧ (t0_2.toInt ≤ u0_2.toInt) ∧ (u0_2.toInt ≤ t0_2.toInt) ∧ (t0_4.toInt ≤ u0_4.toInt) ∧ (u0_4.toInt ≤ t0_4.toInt) ∧ (t0_5.toInt ≤ u0_5.toInt) ∧ (u0_5.toInt ≤ t0_5.toInt) ∧ (t0_6.toInt ≤ u0_6.toInt) ∧ (u0_6.toInt ≤ t0_6.toInt) ∧ (u0_0, u0_1, u0_2, u0_3, u0_4, u0_5, u0_6, u1_0, u2_0, u3_0) = (F_WR_put x2 x3 t0_0 t0_1 t0_2 t0_3 t0_4 t0_5 t0_6 t1_0 t2_0 t3_0)) := by
  intro sz
  refine q_into (by decide) (Nat.le_of_ble_eq_true rfl) ?_
  intro p e s m below meth c ls hsz C0 V hl
  have hx := C0.1
  have hb := C0.2.1
  obtain ⟨btt0_2, hZ9⟩ := n_w119 hI hT0
  obtain ⟨btt0_3, hZ9⟩ := hZ9
  obtain ⟨btt0_4, hZ9⟩ := hZ9
  obtain ⟨btt0_5, btt0_6⟩ := hZ9
  replace btt0_2 : q_F (0 ≤ t0_2.toInt ∧ t0_2.toInt ≤ 4100) := btt0_2
  replace btt0_3 : q_F (0 ≤ t0_3.toInt ∧ t0_3.toInt ≤ 1) := btt0_3
  replace btt0_4 : q_F (0 ≤ t0_4.toInt ∧ t0_4.toInt ≤ 1) := btt0_4
  replace btt0_5 : q_F (0 ≤ t0_5.toInt ∧ t0_5.toInt ≤ 1) := btt0_5
  replace btt0_6 : q_F (0 ≤ t0_6.toInt ∧ t0_6.toInt ≤ 2100) := btt0_6
  have hF : q_un ws ws [119, 121, 122, 123] := q_u0
  have hl : lv_has ls 7 [(0, .ref (q 119)), (1, .int x2), (2, .long x3)] := hl
  refine lv_aload_n hx hb d_19_20_0 rfl (lv_at hl 0 rfl) ?_
  refine lv_iload_n hx hb d_19_20_1 rfl (lv_at hl 1 rfl) ?_
  refine q_goi V (q_runS (As := [.int x2]) (rest := [.ref (q 119)]) (d := 1) (mc := 0) (ms := 0) C0 V rfl LS_WR_91 (X_WR_no l D g q ws  x2 hI   _) rfl hl.1 rfl (Nat.le_of_ble_eq_true rfl) ⟨by decide, by decide⟩ ⟨Nat.le_of_ble_eq_true rfl, Nat.le_of_ble_eq_true rfl⟩ d_19_20_2) (fun a25 u23 H locs hp24 V => ?_)
  obtain ⟨rfl, b26, b27, hE28⟩ := hp24
  have e29 : a25 = (F_WR_no x2) := hE28
  clear b26
  clear b27
  refine q_join (X := Int32) (fun z H locs ls _ => q_F (0 ≤ z.toInt) ∧ q_F (z.toInt ≤ 1) ∧ q_Wd D g (va_A ws sz) s ws H locs ∧ lv_has ls 7 [(0, .ref (q 119)), (1, .int x2), (2, .long x3)] ∧ F_WR_put_J13 x2 x3 t0_0 t0_1 t0_2 t0_3 t0_4 t0_5 t0_6 t1_0 t2_0 t3_0 z = (F_WR_put x2 x3 t0_0 t0_1 t0_2 t0_3 t0_4 t0_5 t0_6 t1_0 t2_0 t3_0) ∧ True ∧ S_WR_put_J13 x2 x3 t0_0 t0_1 t0_2 t0_3 t0_4 t0_5 t0_6 t1_0 t2_0 t3_0 z) (fun z => [.int z, .ref (q 119)]) 13 0 0 ?_ ?_
  ·
    rintro lx30 H locs ls _ hZ9
    obtain ⟨i36, hZ9⟩ := hZ9
    obtain ⟨i37, hZ9⟩ := hZ9
    obtain ⟨V, hZ9⟩ := hZ9
    obtain ⟨hl, hZ9⟩ := hZ9
    obtain ⟨hR38, hS39⟩ := hZ9
    replace i36 : q_F (0 ≤ lx30.toInt) := i36
    replace i37 : q_F (lx30.toInt ≤ 1) := i37
    replace hl : lv_has ls 7 [(0, .ref (q 119)), (1, .int x2), (2, .long x3)] := hl
    refine q_put (ci := 13) (j := 0) (v := .int lx30) (ty := .int) C0 V i_WR o_WR n_WR rfl rfl hT0 (by decide) w_1921 rfl rfl rfl rfl (Nat.le_of_ble_eq_true rfl) d_19_20_13 (fun H locs w43 hu44 hT0 V => ?_)
    replace hT0 : w43[119]? = (some (q 119, .inr (13, [.int lx30, .int t0_1, .ref (q 120), .int t0_2, .ref (q 121), .ref (q 122), .ref (q 123), .int t0_3, .ref (q 124), .ref (q 125), .ref (q 126), .ref (q 127), .ref (q 128), .ref (q 129), .ref (q 130), .ref (q 131), .int t0_4, .int t0_5, .ref (q 132), .ref (q 133), .int t0_6])) : Option (Nat × va_E)) := hT0
    replace hI := n_p119 hI hu44 hT0 (by first | with_reducible exact q_fe btt0_2 | exact ⟨(by have t1 : 0 ≤ t0_2.toInt ∧ t0_2.toInt ≤ 4100 := btt0_2; omega), (by have t1 : 0 ≤ t0_2.toInt ∧ t0_2.toInt ≤ 4100 := btt0_2; omega)⟩) (by first | with_reducible exact q_fe btt0_3 | exact ⟨(by have t1 : 0 ≤ t0_3.toInt ∧ t0_3.toInt ≤ 1 := btt0_3; omega), (by have t1 : 0 ≤ t0_3.toInt ∧ t0_3.toInt ≤ 1 := btt0_3; omega)⟩) (by first | with_reducible exact q_fe btt0_4 | exact ⟨(by have t1 : 0 ≤ t0_4.toInt ∧ t0_4.toInt ≤ 1 := btt0_4; omega), (by have t1 : 0 ≤ t0_4.toInt ∧ t0_4.toInt ≤ 1 := btt0_4; omega)⟩) (by first | with_reducible exact q_fe btt0_5 | exact ⟨(by have t1 : 0 ≤ t0_5.toInt ∧ t0_5.toInt ≤ 1 := btt0_5; omega), (by have t1 : 0 ≤ t0_5.toInt ∧ t0_5.toInt ≤ 1 := btt0_5; omega)⟩) (by first | with_reducible exact q_fe btt0_6 | exact ⟨(by have t1 : 0 ≤ t0_6.toInt ∧ t0_6.toInt ≤ 2100 := btt0_6; omega), (by have t1 : 0 ≤ t0_6.toInt ∧ t0_6.toInt ≤ 2100 := btt0_6; omega)⟩)
    replace hT1 := (hu44 _ (by decide)).trans hT1
    replace hT2 := (hu44 _ (by decide)).trans hT2
    replace hT3 := (hu44 _ (by decide)).trans hT3
    replace hF := q_us hF hu44 (by simp)
    refine lv_aload_n hx hb d_19_20_16 rfl (lv_at hl 0 rfl) ?_
    refine q_get (ci := 13) (j := 0) (v := .int lx30) C0 V i_WR rfl rfl hT0 (by decide) w_1921 rfl d_19_20_17 ?_
    refine lv_if_le (tgt := 24) hx hb d_19_20_20 (by decide) (fun c45 => ?_) (fun c45 => ?_)
    ·
      have b46 : q_F (lx30.toInt ≤ 0) := (q_leI c45)
      refine lv_aload_n hx hb d_19_20_24 rfl (lv_at hl 0 rfl) ?_
      refine q_get (ci := 13) (j := 6) (v := .ref (q 123)) C0 V i_WR rfl rfl hT0 (by decide) w_1930 rfl d_19_20_25 ?_
      refine q_gov V (q_runS (As := [.ref (q 123)]) (rest := []) (d := 1) (mc := 0) (ms := 0) C0 V rfl LS_WR_63 (X_WR_clear l D g q w43 123 264 (n_r123 g q)  hI t3_0 hT3  _) rfl hl.1 rfl (Nat.le_of_ble_eq_true rfl) ⟨by decide, by decide⟩ ⟨Nat.le_of_ble_eq_true rfl, Nat.le_of_ble_eq_true rfl⟩ d_19_20_28) (fun u47 H locs hp48 V => ?_)
      obtain ⟨hI, hu52, f49, hA50, hE51⟩ := hp48
      replace hA50 : u47[123]? = (some (q 123, .inl (g 0, (264 : Int32).toNatClampNeg, .inl f49)) : Option (Nat × va_E)) := hA50
      have e53 : f49 = (F_WR_clear (264 : Int32) t3_0) := hE51
      replace hT0 := (hu52 _ (by decide)).trans hT0
      replace hT1 := (hu52 _ (by decide)).trans hT1
      replace hT2 := (hu52 _ (by decide)).trans hT2
      replace hF := q_uc hF hu52 (by simp)
      refine lv_aload_n hx hb d_19_20_31 rfl (lv_at hl 0 rfl) ?_
      refine lv_lload_n hx hb d_19_20_32 rfl (lv_at hl 2 rfl) ?_
      refine lv_lconst (v := 0) hx hb d_19_20_33 (by decide) ?_
      refine W.lcmp hx hb d_19_20_34 ?_
      obtain ⟨a54, e55⟩ := q_nm (lg_cmp x3 0 : Int32)
      refine q_ti (v := a54) e55 ?_
      refine q_join (X := Int32) (fun z H locs ls _ => q_F (lx30.toInt ≤ z.toInt) ∧ q_F (z.toInt ≤ lx30.toInt + 1) ∧ q_Wd D g (va_A ws sz) s u47 H locs ∧ lv_has ls 7 [(0, .ref (q 119)), (1, .int x2), (2, .long x3)] ∧ F_WR_put_J43 x2 x3 t0_0 t0_1 t0_2 t0_3 t0_4 t0_5 t0_6 t1_0 t2_0 t3_0 lx30 f49 z = (F_WR_put x2 x3 t0_0 t0_1 t0_2 t0_3 t0_4 t0_5 t0_6 t1_0 t2_0 t3_0) ∧ True ∧ S_WR_put_J43 x2 x3 t0_0 t0_1 t0_2 t0_3 t0_4 t0_5 t0_6 t1_0 t2_0 t3_0 lx30 f49 z) (fun z => [.int z, .ref (q 119)]) 43 0 0 ?_ ?_
      ·
        rintro lx57 H locs ls _ hZ9
        obtain ⟨i63, hZ9⟩ := hZ9
        obtain ⟨i64, hZ9⟩ := hZ9
        obtain ⟨V, hZ9⟩ := hZ9
        obtain ⟨hl, hZ9⟩ := hZ9
        obtain ⟨hR65, hS66⟩ := hZ9
        replace i63 : q_F (lx30.toInt ≤ lx57.toInt) := i63
        replace i64 : q_F (lx57.toInt ≤ lx30.toInt + 1) := i64
        replace hl : lv_has ls 7 [(0, .ref (q 119)), (1, .int x2), (2, .long x3)] := hl
        refine q_put (ci := 13) (j := 7) (v := .int lx57) (ty := .boolean) C0 V i_WR o_WR n_WR rfl rfl hT0 (by decide) w_1931 rfl rfl (q_nz01 (q_Ile (x := 0) (y := lx57.toInt) (by decide) rfl (by have t1 : 0 ≤ lx30.toInt := i36; have t2 : lx30.toInt ≤ lx57.toInt := i63; omega)) (q_Ile (x := lx57.toInt) (y := 1) rfl (by decide) (by have t1 : lx30.toInt ≤ 0 := b46; have t2 : lx57.toInt ≤ lx30.toInt + 1 := i64; omega))) (q_fz01 (q_Ile (x := 0) (y := lx57.toInt) (by decide) rfl (by have t1 : 0 ≤ lx30.toInt := i36; have t2 : lx30.toInt ≤ lx57.toInt := i63; omega)) (q_Ile (x := lx57.toInt) (y := 1) rfl (by decide) (by have t1 : lx30.toInt ≤ 0 := b46; have t2 : lx57.toInt ≤ lx30.toInt + 1 := i64; omega))) (Nat.le_of_ble_eq_true rfl) d_19_20_43 (fun H locs w70 hu71 hT0 V => ?_)
        replace hT0 : w70[119]? = (some (q 119, .inr (13, [.int lx30, .int t0_1, .ref (q 120), .int t0_2, .ref (q 121), .ref (q 122), .ref (q 123), .int lx57, .ref (q 124), .ref (q 125), .ref (q 126), .ref (q 127), .ref (q 128), .ref (q 129), .ref (q 130), .ref (q 131), .int t0_4, .int t0_5, .ref (q 132), .ref (q 133), .int t0_6])) : Option (Nat × va_E)) := hT0
        replace hI := n_p119 hI hu71 hT0 (by first | with_reducible exact q_fe btt0_2 | exact ⟨(by have t1 : 0 ≤ t0_2.toInt ∧ t0_2.toInt ≤ 4100 := btt0_2; omega), (by have t1 : 0 ≤ t0_2.toInt ∧ t0_2.toInt ≤ 4100 := btt0_2; omega)⟩) ⟨(by have t1 : 0 ≤ lx30.toInt := i36; have t2 : lx30.toInt ≤ lx57.toInt := i63; omega), (by have t1 : lx30.toInt ≤ 0 := b46; have t2 : lx57.toInt ≤ lx30.toInt + 1 := i64; omega)⟩ (by first | with_reducible exact q_fe btt0_4 | exact ⟨(by have t1 : 0 ≤ t0_4.toInt ∧ t0_4.toInt ≤ 1 := btt0_4; omega), (by have t1 : 0 ≤ t0_4.toInt ∧ t0_4.toInt ≤ 1 := btt0_4; omega)⟩) (by first | with_reducible exact q_fe btt0_5 | exact ⟨(by have t1 : 0 ≤ t0_5.toInt ∧ t0_5.toInt ≤ 1 := btt0_5; omega), (by have t1 : 0 ≤ t0_5.toInt ∧ t0_5.toInt ≤ 1 := btt0_5; omega)⟩) (by first | with_reducible exact q_fe btt0_6 | exact ⟨(by have t1 : 0 ≤ t0_6.toInt ∧ t0_6.toInt ≤ 2100 := btt0_6; omega), (by have t1 : 0 ≤ t0_6.toInt ∧ t0_6.toInt ≤ 2100 := btt0_6; omega)⟩)
        replace hT1 := (hu71 _ (by decide)).trans hT1
        replace hT2 := (hu71 _ (by decide)).trans hT2
        replace hA50 := (hu71 _ (by decide)).trans hA50
        replace hF := q_us hF hu71 (by simp)
        refine lv_aload_n hx hb d_19_20_46 rfl (lv_at hl 0 rfl) ?_
        refine q_get (ci := 13) (j := 7) (v := .int lx57) C0 V i_WR rfl rfl hT0 (by decide) w_1931 rfl d_19_20_47 ?_
        refine q_join (X := Int64) (fun z H locs ls _ => q_Wd D g (va_A ws sz) s w70 H locs ∧ lv_has ls 7 [(0, .ref (q 119)), (1, .int x2)] ∧ F_WR_put_J59 x2 x3 t0_0 t0_1 t0_2 t0_3 t0_4 t0_5 t0_6 t1_0 t2_0 t3_0 lx30 f49 lx57 z = (F_WR_put x2 x3 t0_0 t0_1 t0_2 t0_3 t0_4 t0_5 t0_6 t1_0 t2_0 t3_0) ∧ True ∧ S_WR_put_J59 x2 x3 t0_0 t0_1 t0_2 t0_3 t0_4 t0_5 t0_6 t1_0 t2_0 t3_0 lx30 f49 lx57 z) (fun z => [.long z]) 59 0 0 ?_ ?_
        ·
          rintro lx72 H locs ls _ ⟨V, hl, hR78, hS79⟩
          replace hl : lv_has ls 7 [(0, .ref (q 119)), (1, .int x2)] := hl
          refine lv_lstore (lv' := [(4, .long lx72), (0, .ref (q 119)), (1, .int x2)]) hx hb d_19_20_59 hl (by decide) rfl (fun ls hl => ?_)
          refine lv_iconst (v := 0) hx hb d_19_20_61 (by decide) ?_
          refine lv_istore (lv' := [(6, .int 0), (4, .long lx72), (0, .ref (q 119)), (1, .int x2)]) hx hb d_19_20_62 hl (by decide) rfl (fun ls hl => ?_)
          refine q_loop (X := Int32 × (Nat → Int32)) (fun z H locs ls w89 => q_F (z.1.toInt ≤ 4) ∧ q_F (lx30.toInt ≤ z.1.toInt) ∧ q_Wd D g (va_A ws sz) s w89 H locs ∧ lv_has ls 7 [(6, .int z.1), (4, .long lx72), (0, .ref (q 119)), (1, .int x2)] ∧ q_I (msh g q) q w89 ∧ q_un ws w89 [119, 121, 122, 123] ∧ w89[119]? = (some (q 119, .inr (13, [.int lx30, .int t0_1, .ref (q 120), .int t0_2, .ref (q 121), .ref (q 122), .ref (q 123), .int lx57, .ref (q 124), .ref (q 125), .ref (q 126), .ref (q 127), .ref (q 128), .ref (q 129), .ref (q 130), .ref (q 131), .int t0_4, .int t0_5, .ref (q 132), .ref (q 133), .int t0_6])) : Option (Nat × va_E)) ∧ w89[121]? = (some (q 121, .inl (g 0, (1408 : Int32).toNatClampNeg, .inl t1_0)) : Option (Nat × va_E)) ∧ w89[122]? = (some (q 122, .inl (g 3, 11, .inl t2_0)) : Option (Nat × va_E)) ∧ w89[123]? = (some (q 123, .inl (g 0, (264 : Int32).toNatClampNeg, .inl z.2)) : Option (Nat × va_E)) ∧ (∃ n, (4 - z.1.toInt).toNat < n ∧ F_WR_put_L64 x2 x3 t0_0 t0_1 t0_2 t0_3 t0_4 t0_5 t0_6 t1_0 t2_0 t3_0 lx30 f49 lx57 lx72 n z.1 z.2 = (F_WR_put x2 x3 t0_0 t0_1 t0_2 t0_3 t0_4 t0_5 t0_6 t1_0 t2_0 t3_0) ∧ True ∧ S_WR_put_L64 x2 x3 t0_0 t0_1 t0_2 t0_3 t0_4 t0_5 t0_6 t1_0 t2_0 t3_0 lx30 f49 lx57 lx72 n z.1 z.2)) (fun z => (4 - z.1.toInt).toNat) ?_ ((0 : Int32), (f49 : (Nat → Int32))) _ _ _ w70 ⟨(show q_F (0 ≤ 4) from (show 0 ≤ 4 from by omega)), (show q_F (lx30.toInt ≤ 0) from (show lx30.toInt ≤ 0 from by have t1 : lx30.toInt ≤ 0 := b46; omega)), V, q_lw hl (q_lw1 0 rfl (q_lw1 1 rfl (q_lw1 2 rfl (q_lw1 3 rfl q_lw0)))), hI, hF, hT0, hT1, hT2, hA50, ⟨((4 - (0 : Int32).toInt).toNat + 1), Nat.lt_succ_self _, (show F_WR_put_L64 x2 x3 t0_0 t0_1 t0_2 t0_3 t0_4 t0_5 t0_6 t1_0 t2_0 t3_0 lx30 f49 lx57 lx72 ((4 - (0 : Int32).toInt).toNat + 1) 0 f49 = (F_WR_put x2 x3 t0_0 t0_1 t0_2 t0_3 t0_4 t0_5 t0_6 t1_0 t2_0 t3_0) from Eq.trans (by rw [F_WR_put_J59.eq_1]) hR78), (show True ∧ S_WR_put_L64 x2 x3 t0_0 t0_1 t0_2 t0_3 t0_4 t0_5 t0_6 t1_0 t2_0 t3_0 lx30 f49 lx57 lx72 ((4 - (0 : Int32).toInt).toNat + 1) 0 f49 from (by have h := hS79; rw [S_WR_put_J59.eq_1] at h; with_reducible exact h))⟩⟩
          rintro ⟨lx84, lx85⟩ H locs ls w89 ⟨i86, i87, V, hl, hI, hF, hO90, hO91, hO92, hO93, ⟨fu96, hf97, hR94, hS95⟩⟩ ih88
          obtain ⟨fm98, rfl⟩ : ∃ m, fu96 = m + 1 := ⟨fu96 - 1, by omega⟩
          replace i86 : q_F (lx84.toInt ≤ 4) := i86
          replace i87 : q_F (lx30.toInt ≤ lx84.toInt) := i87
          replace hl : lv_has ls 7 [(6, .int lx84), (4, .long lx72), (0, .ref (q 119)), (1, .int x2)] := hl
          replace hO90 : w89[119]? = (some (q 119, .inr (13, [.int lx30, .int t0_1, .ref (q 120), .int t0_2, .ref (q 121), .ref (q 122), .ref (q 123), .int lx57, .ref (q 124), .ref (q 125), .ref (q 126), .ref (q 127), .ref (q 128), .ref (q 129), .ref (q 130), .ref (q 131), .int t0_4, .int t0_5, .ref (q 132), .ref (q 133), .int t0_6])) : Option (Nat × va_E)) := hO90
          replace hO91 : w89[121]? = (some (q 121, .inl (g 0, (1408 : Int32).toNatClampNeg, .inl t1_0)) : Option (Nat × va_E)) := hO91
          replace hO92 : w89[122]? = (some (q 122, .inl (g 3, 11, .inl t2_0)) : Option (Nat × va_E)) := hO92
          replace hO93 : w89[123]? = (some (q 123, .inl (g 0, (264 : Int32).toNatClampNeg, .inl lx85)) : Option (Nat × va_E)) := hO93
          refine lv_iload hx hb d_19_20_64 (lv_at hl 0 rfl) ?_
          refine lv_iconst (v := 4) hx hb d_19_20_66 (by decide) ?_
          refine lv_icmp_ge (tgt := 96) hx hb d_19_20_67 (by decide) (fun c99 => ?_) (fun c99 => ?_)
          ·
            refine lv_aload_n hx hb d_19_20_96 rfl (lv_at hl 2 rfl) ?_
            refine lv_iload_n hx hb d_19_20_97 rfl (lv_at hl 3 rfl) ?_
            have ob101 : True ∧ S_WR_store x2 lx30 t0_1 t0_2 lx57 t0_4 t0_5 t0_6 t1_0 t2_0 lx85 := (by have h := hS95; rw [S_WR_put_L64.eq_2] at h; rw [if_pos c99] at h; with_reducible exact h.2.1)
            refine q_gov V (q_runV (As := [.int x2]) (rest := []) (d := 2) (mc := 0) (ms := 0) (ci := 13) C0 V rfl LV_WR_103 (X_WR_store l D g q w89  x2 hI lx30 t0_1 t0_2 lx57 t0_4 t0_5 t0_6 hO90 t1_0 hO91 t2_0 hO92 lx85 hO93 ob101 _) rfl rfl hO90 rfl hl.1 rfl (Nat.le_of_ble_eq_true rfl) ⟨by decide, by decide⟩ ⟨Nat.le_of_ble_eq_true rfl, Nat.le_of_ble_eq_true rfl⟩ d_19_20_98) (fun u102 H locs hp103 V => ?_)
            obtain ⟨hI, hZ9⟩ := hp103
            obtain ⟨hu129, hZ9⟩ := hZ9
            obtain ⟨y105, hZ9⟩ := hZ9
            obtain ⟨y106, hZ9⟩ := hZ9
            obtain ⟨y107, hZ9⟩ := hZ9
            obtain ⟨y108, hZ9⟩ := hZ9
            obtain ⟨y109, hZ9⟩ := hZ9
            obtain ⟨y110, hZ9⟩ := hZ9
            obtain ⟨y111, hZ9⟩ := hZ9
            obtain ⟨f112, hZ9⟩ := hZ9
            obtain ⟨f114, hZ9⟩ := hZ9
            obtain ⟨hO104, hZ9⟩ := hZ9
            obtain ⟨hA113, hZ9⟩ := hZ9
            obtain ⟨hA115, hZ9⟩ := hZ9
            obtain ⟨b116, hZ9⟩ := hZ9
            obtain ⟨b117, hZ9⟩ := hZ9
            obtain ⟨b118, hZ9⟩ := hZ9
            obtain ⟨b119, hZ9⟩ := hZ9
            obtain ⟨b120, hZ9⟩ := hZ9
            obtain ⟨b121, hZ9⟩ := hZ9
            obtain ⟨b122, hZ9⟩ := hZ9
            obtain ⟨b123, hZ9⟩ := hZ9
            obtain ⟨b124, hZ9⟩ := hZ9
            obtain ⟨b125, hZ9⟩ := hZ9
            obtain ⟨b126, hZ9⟩ := hZ9
            obtain ⟨b127, hE128⟩ := hZ9
            replace hO104 : u102[119]? = (some (q 119, .inr (13, [.int y105, .int y106, .ref (q 120), .int y107, .ref (q 121), .ref (q 122), .ref (q 123), .int y108, .ref (q 124), .ref (q 125), .ref (q 126), .ref (q 127), .ref (q 128), .ref (q 129), .ref (q 130), .ref (q 131), .int y109, .int y110, .ref (q 132), .ref (q 133), .int y111])) : Option (Nat × va_E)) := hO104
            replace hA113 : u102[121]? = (some (q 121, .inl (g 0, (1408 : Int32).toNatClampNeg, .inl f112)) : Option (Nat × va_E)) := hA113
            replace hA115 : u102[122]? = (some (q 122, .inl (g 3, 11, .inl f114)) : Option (Nat × va_E)) := hA115
            obtain ⟨p130, e131⟩ : ∃ z, z = (F_WR_store x2 lx30 t0_1 t0_2 lx57 t0_4 t0_5 t0_6 t1_0 t2_0 lx85) := ⟨_, rfl⟩
            have e132 : y105 = p130.1 := congrArg (fun z => z.1) (hE128.trans e131.symm)
            have e133 : y106 = p130.2.1 := congrArg (fun z => z.2.1) (hE128.trans e131.symm)
            have e134 : y107 = p130.2.2.1 := congrArg (fun z => z.2.2.1) (hE128.trans e131.symm)
            have e135 : y108 = p130.2.2.2.1 := congrArg (fun z => z.2.2.2.1) (hE128.trans e131.symm)
            have e136 : y109 = p130.2.2.2.2.1 := congrArg (fun z => z.2.2.2.2.1) (hE128.trans e131.symm)
            have e137 : y110 = p130.2.2.2.2.2.1 := congrArg (fun z => z.2.2.2.2.2.1) (hE128.trans e131.symm)
            have e138 : y111 = p130.2.2.2.2.2.2.1 := congrArg (fun z => z.2.2.2.2.2.2.1) (hE128.trans e131.symm)
            have e139 : f112 = p130.2.2.2.2.2.2.2.1 := congrArg (fun z => z.2.2.2.2.2.2.2.1) (hE128.trans e131.symm)
            have e140 : f114 = p130.2.2.2.2.2.2.2.2 := congrArg (fun z => z.2.2.2.2.2.2.2.2) (hE128.trans e131.symm)
            replace b116 : q_F (t0_1.toInt ≤ y106.toInt) := b116
            replace b117 : q_F (y106.toInt ≤ t0_1.toInt) := b117
            replace b118 : q_F (t0_2.toInt ≤ y107.toInt) := b118
            replace b119 : q_F (y107.toInt ≤ t0_2.toInt) := b119
            replace b120 : q_F (lx57.toInt ≤ y108.toInt) := b120
            replace b121 : q_F (y108.toInt ≤ lx57.toInt) := b121
            replace b122 : q_F (t0_4.toInt ≤ y109.toInt) := b122
            replace b123 : q_F (y109.toInt ≤ t0_4.toInt) := b123
            replace b124 : q_F (t0_5.toInt ≤ y110.toInt) := b124
            replace b125 : q_F (y110.toInt ≤ t0_5.toInt) := b125
            replace b126 : q_F (t0_6.toInt ≤ y111.toInt) := b126
            replace b127 : q_F (y111.toInt ≤ t0_6.toInt) := b127
            replace hO93 := (hu129 _ (by decide)).trans hO93
            replace hF := q_uc hF hu129 (by simp)
            have hR141 := (show F_WR_put_c98 (F_WR_put_L64 x2 x3 t0_0 t0_1 t0_2 t0_3 t0_4 t0_5 t0_6 t1_0 t2_0 t3_0 lx30 f49 lx57 lx72 fm98) x2 x3 t0_0 t0_1 t0_2 t0_3 t0_4 t0_5 t0_6 t1_0 t2_0 t3_0 lx30 f49 lx57 lx72 lx84 lx85 p130 = (F_WR_put x2 x3 t0_0 t0_1 t0_2 t0_3 t0_4 t0_5 t0_6 t1_0 t2_0 t3_0) from Eq.trans (by rw [e131, F_WR_put_L64.eq_2, if_pos c99]) hR94)
            have hS142 := (show True ∧ S_WR_put_c98 (S_WR_put_L64 x2 x3 t0_0 t0_1 t0_2 t0_3 t0_4 t0_5 t0_6 t1_0 t2_0 t3_0 lx30 f49 lx57 lx72 fm98) x2 x3 t0_0 t0_1 t0_2 t0_3 t0_4 t0_5 t0_6 t1_0 t2_0 t3_0 lx30 f49 lx57 lx72 lx84 lx85 p130 from (by rw [e131]; have h := hS95; rw [S_WR_put_L64.eq_2] at h; rw [if_pos c99] at h; replace h := q_s2 h; with_reducible exact h))
            exact q_retv C0 V (⟨hI, hF, y105, y106, y107, y108, y109, y110, y111, f112, f114, lx85, hO104, hA113, hA115, hO93, (show 0 ≤ y108.toInt from (by have t1 : 0 ≤ lx30.toInt := i36; have t2 : lx30.toInt ≤ lx57.toInt := i63; have t3 : lx57.toInt ≤ y108.toInt := b120; omega)), (show y108.toInt ≤ 1 from (by have t1 : lx30.toInt ≤ 0 := b46; have t2 : lx57.toInt ≤ lx30.toInt + 1 := i64; have t3 : y108.toInt ≤ lx57.toInt := b121; omega)), (show t0_1.toInt ≤ y106.toInt from (by first | with_reducible exact q_fe b116 | (have t1 : t0_1.toInt ≤ y106.toInt := b116; omega))), (show y106.toInt ≤ t0_1.toInt from (by first | with_reducible exact q_fe b117 | (have t1 : y106.toInt ≤ t0_1.toInt := b117; omega))), (show t0_2.toInt ≤ y107.toInt from (by first | with_reducible exact q_fe b118 | (have t1 : t0_2.toInt ≤ y107.toInt := b118; omega))), (show y107.toInt ≤ t0_2.toInt from (by first | with_reducible exact q_fe b119 | (have t1 : y107.toInt ≤ t0_2.toInt := b119; omega))), (show t0_4.toInt ≤ y109.toInt from (by first | with_reducible exact q_fe b122 | (have t1 : t0_4.toInt ≤ y109.toInt := b122; omega))), (show y109.toInt ≤ t0_4.toInt from (by first | with_reducible exact q_fe b123 | (have t1 : y109.toInt ≤ t0_4.toInt := b123; omega))), (show t0_5.toInt ≤ y110.toInt from (by first | with_reducible exact q_fe b124 | (have t1 : t0_5.toInt ≤ y110.toInt := b124; omega))), (show y110.toInt ≤ t0_5.toInt from (by first | with_reducible exact q_fe b125 | (have t1 : y110.toInt ≤ t0_5.toInt := b125; omega))), (show t0_6.toInt ≤ y111.toInt from (by first | with_reducible exact q_fe b126 | (have t1 : t0_6.toInt ≤ y111.toInt := b126; omega))), (show y111.toInt ≤ t0_6.toInt from (by first | with_reducible exact q_fe b127 | (have t1 : y111.toInt ≤ t0_6.toInt := b127; omega))), (show (y105, y106, y107, y108, y109, y110, y111, f112, f114, lx85) = (F_WR_put x2 x3 t0_0 t0_1 t0_2 t0_3 t0_4 t0_5 t0_6 t1_0 t2_0 t3_0) from Eq.trans (by rw [e140, e139, e138, e137, e136, e135, e134, e133, e132, F_WR_put_c98.eq_1]) hR141)⟩) d_19_20_101
          ·
            have b146 : q_F (lx84.toInt < 4) := (q_nleI c99)
            refine lv_aload_n hx hb d_19_20_70 rfl (lv_at hl 2 rfl) ?_
            refine q_get (ci := 13) (j := 6) (v := .ref (q 123)) C0 V i_WR rfl rfl hO90 (by decide) w_1930 rfl d_19_20_71 ?_
            refine lv_iload hx hb d_19_20_74 (lv_at hl 0 rfl) ?_
            refine lv_lload hx hb d_19_20_76 (lv_at hl 1 rfl) ?_
            refine lv_bipush (v := 16) hx hb d_19_20_78 (by decide) ?_
            refine lv_iload hx hb d_19_20_80 (lv_at hl 0 rfl) ?_
            refine lv_imul hx hb d_19_20_82 ?_
            obtain ⟨a147, e148⟩ := q_nm (16 * lx84 : Int32)
            refine q_ti (v := a147) e148 ?_
            have b149 : q_F (a147.toInt = 16 * lx84.toInt) := (by rw [← e148]; show (16 * lx84 : Int32).toInt = 16 * lx84.toInt; exact q_mulI (x := 16) (y := lx84.toInt) (by decide) rfl (by have t1 : 0 ≤ lx30.toInt := i36; have t2 : lx30.toInt ≤ lx84.toInt := i87; have t3 : lx84.toInt ≤ 4 := i86; omega) (by have t1 : 0 ≤ lx30.toInt := i36; have t2 : lx30.toInt ≤ lx84.toInt := i87; have t3 : lx84.toInt ≤ 4 := i86; omega))
            refine lv_lushr hx hb d_19_20_83 rfl ?_
            obtain ⟨j150, e151⟩ := q_nm ((lx72.toUInt64 >>> (a147.toInt64.toUInt64 &&& Int64.toUInt64 63)).toInt64 : Int64)
            refine q_tl (v := j150) e151 ?_
            refine q_ldc2 C0 rfl w_2384 d_19_20_84 ?_
            refine lv_land hx hb d_19_20_87 ?_
            obtain ⟨j152, e153⟩ := q_nm (j150 &&& 65535 : Int64)
            refine q_tl (v := j152) e153 ?_
            refine lv_l2i hx hb d_19_20_88 rfl ?_
            obtain ⟨a155, e156⟩ := q_nm (j152.toInt32 : Int32)
            refine q_ti (v := a155) e156 ?_
            refine q_iast C0 V hO93 (q_ix (x := lx84.toInt) rfl (by have t1 : 0 ≤ lx30.toInt := i36; have t2 : lx30.toInt ≤ lx84.toInt := i87; omega) (by have t1 : 0 ≤ lx30.toInt := i36; have t2 : lx30.toInt ≤ lx84.toInt := i87; have t3 : lx84.toInt ≤ 4 := i86; have e9 : (((264 : Int32).toNatClampNeg : Nat) : Int) = 264 := (by decide); omega)) d_19_20_89 (fun H locs w158 hu159 hO93 V => ?_)
            replace hI := n_ai' hI (n_r123 g q).1 hu159 hO93 (q_updB (fun _ => s_bnd) s_bnd)
            replace hO90 := (hu159 _ (by decide)).trans hO90
            replace hO91 := (hu159 _ (by decide)).trans hO91
            replace hO92 := (hu159 _ (by decide)).trans hO92
            replace hF := q_us hF hu159 (by simp)
            obtain ⟨f160, e161⟩ := q_nm (upd lx85 lx84.toNatClampNeg a155 : (Nat → Int32))
            rw [e161] at hO93
            obtain ⟨a162, e163⟩ := q_nm (lx84 + 1 : Int32)
            have b164 : q_F (a162.toInt = lx84.toInt + 1) := (by rw [← e163]; exact q_addI (y := 1) rfl (by decide) (by have t1 : a147.toInt = 16 * lx84.toInt := b149; have _ := q_lo32 (x := a147); have _ := q_hi32 (x := a147); have t2 : lx84.toInt ≤ 4 := i86; omega) (by have t1 : a147.toInt = 16 * lx84.toInt := b149; have _ := q_lo32 (x := a147); have _ := q_hi32 (x := a147); have t2 : lx84.toInt ≤ 4 := i86; omega))
            refine lv_iinc (v := a162) (lv' := [(6, .int a162), (4, .long lx72), (0, .ref (q 119)), (1, .int x2)]) hx hb d_19_20_90 hl (k := 0) rfl (e163) (by decide) rfl (fun ls hl => ?_)
            refine lv_goto (tgt := 64) hx hb d_19_20_93 (by decide) ?_
            exact ih88 ((a162 : Int32), (f160 : (Nat → Int32))) _ _ _ _ (show (4 - a162.toInt).toNat < (4 - lx84.toInt).toNat from by have t1 : a162.toInt = lx84.toInt + 1 := b164; have t2 : lx84.toInt ≤ 4 := i86; have t3 : lx84.toInt < 4 := b146; omega) ⟨(show q_F (a162.toInt ≤ 4) from (show a162.toInt ≤ 4 from by have t1 : lx84.toInt < 4 := b146; have t2 : a162.toInt = lx84.toInt + 1 := b164; omega)), (show q_F (lx30.toInt ≤ a162.toInt) from (show lx30.toInt ≤ a162.toInt from by have t1 : lx30.toInt ≤ lx84.toInt := i87; have t2 : a162.toInt = lx84.toInt + 1 := b164; omega)), V, q_lw hl (q_lw1 0 rfl (q_lw1 1 rfl (q_lw1 2 rfl (q_lw1 3 rfl q_lw0)))), hI, hF, hO90, hO91, hO92, hO93, ⟨fm98, Nat.lt_of_lt_of_le (show (4 - a162.toInt).toNat < (4 - lx84.toInt).toNat from by have t1 : a162.toInt = lx84.toInt + 1 := b164; have t2 : lx84.toInt ≤ 4 := i86; have t3 : lx84.toInt < 4 := b146; omega) (Nat.le_of_lt_succ hf97), (show F_WR_put_L64 x2 x3 t0_0 t0_1 t0_2 t0_3 t0_4 t0_5 t0_6 t1_0 t2_0 t3_0 lx30 f49 lx57 lx72 fm98 a162 f160 = (F_WR_put x2 x3 t0_0 t0_1 t0_2 t0_3 t0_4 t0_5 t0_6 t1_0 t2_0 t3_0) from Eq.trans (by rw [← e163, ← e161, ← e156, ← e153, ← e151, ← e148, F_WR_put_L64.eq_2, if_neg c99]) hR94), (show True ∧ S_WR_put_L64 x2 x3 t0_0 t0_1 t0_2 t0_3 t0_4 t0_5 t0_6 t1_0 t2_0 t3_0 lx30 f49 lx57 lx72 fm98 a162 f160 from (by rw [← e163, ← e161, ← e156, ← e153, ← e151, ← e148]; have h := hS95; rw [S_WR_put_L64.eq_2] at h; rw [if_neg c99] at h; with_reducible exact h))⟩⟩
        ·
          intro J77
          refine lv_if_eq (tgt := 58) hx hb d_19_20_50 (by decide) (fun c165 => ?_) (fun c165 => ?_)
          ·
            refine lv_lload_n hx hb d_19_20_58 rfl (lv_at hl 2 rfl) ?_
            exact J77 ((x3 : Int64)) _ _ _ w70 ⟨V, q_lw hl (q_lw1 0 rfl (q_lw1 1 rfl q_lw0)), (show F_WR_put_J59 x2 x3 t0_0 t0_1 t0_2 t0_3 t0_4 t0_5 t0_6 t1_0 t2_0 t3_0 lx30 f49 lx57 x3 = (F_WR_put x2 x3 t0_0 t0_1 t0_2 t0_3 t0_4 t0_5 t0_6 t1_0 t2_0 t3_0) from Eq.trans (by rw [F_WR_put_J43.eq_1, if_pos c165]) hR65), (show True ∧ S_WR_put_J59 x2 x3 t0_0 t0_1 t0_2 t0_3 t0_4 t0_5 t0_6 t1_0 t2_0 t3_0 lx30 f49 lx57 x3 from (by have h := hS66; rw [S_WR_put_J43.eq_1] at h; rw [if_pos c165] at h; with_reducible exact h))⟩
          ·
            refine lv_lload_n hx hb d_19_20_53 rfl (lv_at hl 2 rfl) ?_
            refine lv_lneg hx hb d_19_20_54 ?_
            obtain ⟨j168, e169⟩ := q_nm (-x3 : Int64)
            refine q_tl (v := j168) e169 ?_
            refine lv_goto (tgt := 59) hx hb d_19_20_55 (by decide) ?_
            exact J77 ((j168 : Int64)) _ _ _ w70 ⟨V, q_lw hl (q_lw1 0 rfl (q_lw1 1 rfl q_lw0)), (show F_WR_put_J59 x2 x3 t0_0 t0_1 t0_2 t0_3 t0_4 t0_5 t0_6 t1_0 t2_0 t3_0 lx30 f49 lx57 j168 = (F_WR_put x2 x3 t0_0 t0_1 t0_2 t0_3 t0_4 t0_5 t0_6 t1_0 t2_0 t3_0) from Eq.trans (by rw [← e169, F_WR_put_J43.eq_1, if_neg c165]) hR65), (show True ∧ S_WR_put_J59 x2 x3 t0_0 t0_1 t0_2 t0_3 t0_4 t0_5 t0_6 t1_0 t2_0 t3_0 lx30 f49 lx57 j168 from (by rw [← e169]; have h := hS66; rw [S_WR_put_J43.eq_1] at h; rw [if_neg c165] at h; with_reducible exact h))⟩
      ·
        intro J62
        refine lv_if_ge (tgt := 42) hx hb d_19_20_35 (by decide) (fun c170 => ?_) (fun c170 => ?_)
        ·
          refine lv_iconst (v := 0) hx hb d_19_20_42 (by decide) ?_
          exact J62 ((0 : Int32)) _ _ _ u47 ⟨(show q_F (lx30.toInt ≤ 0) from (show lx30.toInt ≤ 0 from by have t1 : lx30.toInt ≤ 0 := b46; omega)), (show q_F (0 ≤ lx30.toInt + 1) from (show 0 ≤ lx30.toInt + 1 from by have t1 : 0 ≤ lx30.toInt := i36; omega)), V, q_lw hl (q_lw1 0 rfl (q_lw1 1 rfl (q_lw1 2 rfl q_lw0))), (show F_WR_put_J43 x2 x3 t0_0 t0_1 t0_2 t0_3 t0_4 t0_5 t0_6 t1_0 t2_0 t3_0 lx30 f49 0 = (F_WR_put x2 x3 t0_0 t0_1 t0_2 t0_3 t0_4 t0_5 t0_6 t1_0 t2_0 t3_0) from Eq.trans (by have c170x := c170; rw [← e55] at c170x; rw [e53, F_WR_put_J13.eq_1, if_pos c45, if_pos c170x]) hR38), (show True ∧ S_WR_put_J43 x2 x3 t0_0 t0_1 t0_2 t0_3 t0_4 t0_5 t0_6 t1_0 t2_0 t3_0 lx30 f49 0 from (by rw [e53]; have h := hS39; rw [S_WR_put_J13.eq_1] at h; rw [if_pos c45] at h; have c170x := c170; rw [← e55] at c170x; rw [if_pos c170x] at h; with_reducible exact h))⟩
        ·
          refine lv_iconst (v := 1) hx hb d_19_20_38 (by decide) ?_
          refine lv_goto (tgt := 43) hx hb d_19_20_39 (by decide) ?_
          exact J62 ((1 : Int32)) _ _ _ u47 ⟨(show q_F (lx30.toInt ≤ 1) from (show lx30.toInt ≤ 1 from by have t1 : lx30.toInt ≤ 1 := i37; omega)), (show q_F (1 ≤ lx30.toInt + 1) from (show 1 ≤ lx30.toInt + 1 from by have t1 : 0 ≤ lx30.toInt := i36; omega)), V, q_lw hl (q_lw1 0 rfl (q_lw1 1 rfl (q_lw1 2 rfl q_lw0))), (show F_WR_put_J43 x2 x3 t0_0 t0_1 t0_2 t0_3 t0_4 t0_5 t0_6 t1_0 t2_0 t3_0 lx30 f49 1 = (F_WR_put x2 x3 t0_0 t0_1 t0_2 t0_3 t0_4 t0_5 t0_6 t1_0 t2_0 t3_0) from Eq.trans (by have c170x := c170; rw [← e55] at c170x; rw [e53, F_WR_put_J13.eq_1, if_pos c45, if_neg c170x]) hR38), (show True ∧ S_WR_put_J43 x2 x3 t0_0 t0_1 t0_2 t0_3 t0_4 t0_5 t0_6 t1_0 t2_0 t3_0 lx30 f49 1 from (by rw [e53]; have h := hS39; rw [S_WR_put_J13.eq_1] at h; rw [if_pos c45] at h; have c170x := c170; rw [← e55] at c170x; rw [if_neg c170x] at h; with_reducible exact h))⟩
    ·
      exact q_retv C0 V (⟨hI, hF, lx30, t0_1, t0_2, t0_3, t0_4, t0_5, t0_6, t1_0, t2_0, t3_0, hT0, hT1, hT2, hT3, (show 0 ≤ t0_3.toInt from (by first | with_reducible exact (q_fe btt0_3).2 | with_reducible exact (q_fe btt0_3).1 | (have t1 : 0 ≤ t0_3.toInt ∧ t0_3.toInt ≤ 1 := btt0_3; omega))), (show t0_3.toInt ≤ 1 from (by first | with_reducible exact (q_fe btt0_3).2 | with_reducible exact (q_fe btt0_3).1 | (have t1 : 0 ≤ t0_3.toInt ∧ t0_3.toInt ≤ 1 := btt0_3; omega))), (show t0_1.toInt ≤ t0_1.toInt from (by omega)), (show t0_1.toInt ≤ t0_1.toInt from (by omega)), (show t0_2.toInt ≤ t0_2.toInt from (by omega)), (show t0_2.toInt ≤ t0_2.toInt from (by omega)), (show t0_4.toInt ≤ t0_4.toInt from (by omega)), (show t0_4.toInt ≤ t0_4.toInt from (by omega)), (show t0_5.toInt ≤ t0_5.toInt from (by omega)), (show t0_5.toInt ≤ t0_5.toInt from (by omega)), (show t0_6.toInt ≤ t0_6.toInt from (by omega)), (show t0_6.toInt ≤ t0_6.toInt from (by omega)), (show (lx30, t0_1, t0_2, t0_3, t0_4, t0_5, t0_6, t1_0, t2_0, t3_0) = (F_WR_put x2 x3 t0_0 t0_1 t0_2 t0_3 t0_4 t0_5 t0_6 t1_0 t2_0 t3_0) from Eq.trans (by rw [F_WR_put_J13.eq_1, if_neg c45]) hR38)⟩) d_19_20_23
  ·
    intro J35
    refine lv_if_eq (tgt := 12) hx hb d_19_20_5 (by decide) (fun c174 => ?_) (fun c174 => ?_)
    ·
      refine lv_iconst (v := 0) hx hb d_19_20_12 (by decide) ?_
      exact J35 ((0 : Int32)) _ _ _ ws ⟨(show q_F (0 ≤ 0) from (show 0 ≤ 0 from by omega)), (show q_F (0 ≤ 1) from (show 0 ≤ 1 from by omega)), V, q_lw hl (q_lw1 0 rfl (q_lw1 1 rfl (q_lw1 2 rfl q_lw0))), (show F_WR_put_J13 x2 x3 t0_0 t0_1 t0_2 t0_3 t0_4 t0_5 t0_6 t1_0 t2_0 t3_0 0 = (F_WR_put x2 x3 t0_0 t0_1 t0_2 t0_3 t0_4 t0_5 t0_6 t1_0 t2_0 t3_0) from (by have c174x := c174; rw [e29] at c174x; rw [F_WR_put.eq_1, if_pos c174x])), (show True ∧ S_WR_put_J13 x2 x3 t0_0 t0_1 t0_2 t0_3 t0_4 t0_5 t0_6 t1_0 t2_0 t3_0 0 from (by have h := hS; rw [S_WR_put.eq_1] at h; have c174x := c174; rw [e29] at c174x; rw [if_pos c174x] at h; with_reducible exact h))⟩
    ·
      refine lv_iconst (v := 1) hx hb d_19_20_8 (by decide) ?_
      refine lv_goto (tgt := 13) hx hb d_19_20_9 (by decide) ?_
      exact J35 ((1 : Int32)) _ _ _ ws ⟨(show q_F (0 ≤ 1) from (show 0 ≤ 1 from by omega)), (show q_F (1 ≤ 1) from (show 1 ≤ 1 from by omega)), V, q_lw hl (q_lw1 0 rfl (q_lw1 1 rfl (q_lw1 2 rfl q_lw0))), (show F_WR_put_J13 x2 x3 t0_0 t0_1 t0_2 t0_3 t0_4 t0_5 t0_6 t1_0 t2_0 t3_0 1 = (F_WR_put x2 x3 t0_0 t0_1 t0_2 t0_3 t0_4 t0_5 t0_6 t1_0 t2_0 t3_0) from (by have c174x := c174; rw [e29] at c174x; rw [F_WR_put.eq_1, if_neg c174x])), (show True ∧ S_WR_put_J13 x2 x3 t0_0 t0_1 t0_2 t0_3 t0_4 t0_5 t0_6 t1_0 t2_0 t3_0 1 from (by have h := hS; rw [S_WR_put.eq_1] at h; have c174x := c174; rw [e29] at c174x; rw [if_neg c174x] at h; with_reducible exact h))⟩
theorem d_19_36_0 : decode prog_19_method_36_code 0 = .ok (.aload_n 0, 1) := by decide +kernel
theorem d_19_36_1 : decode prog_19_method_36_code 1 = .ok (.getfield 16, 3) := by decide +kernel
theorem d_19_36_4 : decode prog_19_method_36_code 4 = .ok (.iload_n 1, 1) := by decide +kernel
theorem d_19_36_5 : decode prog_19_method_36_code 5 = .ok (.baload, 1) := by decide +kernel
theorem d_19_36_6 : decode prog_19_method_36_code 6 = .ok (.ifCond .ne 27, 3) := by decide +kernel
theorem d_19_36_33 : decode prog_19_method_36_code 33 = .ok (.iconst 1, 1) := by decide +kernel
theorem d_19_36_34 : decode prog_19_method_36_code 34 = .ok (.istore_n 3, 1) := by decide +kernel
theorem d_19_36_35 : decode prog_19_method_36_code 35 = .ok (.iconst 0, 1) := by decide +kernel
theorem d_19_36_36 : decode prog_19_method_36_code 36 = .ok (.istore 4, 2) := by decide +kernel
theorem d_19_36_38 : decode prog_19_method_36_code 38 = .ok (.iload 4, 2) := by decide +kernel
theorem d_19_36_40 : decode prog_19_method_36_code 40 = .ok (.iload_n 2, 1) := by decide +kernel
theorem d_19_36_84 : decode prog_19_method_36_code 84 = .ok (.iload_n 2, 1) := by decide +kernel
theorem d_19_36_85 : decode prog_19_method_36_code 85 = .ok (.sipush 128, 3) := by decide +kernel
theorem d_19_36_107 : decode prog_19_method_36_code 107 = .ok (.istore 4, 2) := by decide +kernel
theorem d_19_36_109 : decode prog_19_method_36_code 109 = .ok (.iload_n 3, 1) := by decide +kernel
theorem d_19_36_110 : decode prog_19_method_36_code 110 = .ok (.ifCond .eq 10, 3) := by decide +kernel
theorem d_19_36_120 : decode prog_19_method_36_code 120 = .ok (.iload 4, 2) := by decide +kernel
theorem d_19_36_122 : decode prog_19_method_36_code 122 = .ok (.iconst (-1), 1) := by decide +kernel
theorem d_19_36_123 : decode prog_19_method_36_code 123 = .ok (.ixor, 1) := by decide +kernel
theorem d_19_36_124 : decode prog_19_method_36_code 124 = .ok (.ldc 147, 2) := by decide +kernel
set_option maxRecDepth 100000 in
theorem w_2559 : (Cond.constant "NumberHouseModel$WholeRows" (147 : Nat) (65535 : Int32)) ∈ q_tbl := q_of11 159 rfl (by decide +kernel)
theorem d_19_36_126 : decode prog_19_method_36_code 126 = .ok (.iand, 1) := by decide +kernel
theorem d_19_36_127 : decode prog_19_method_36_code 127 = .ok (.ireturn, 1) := by decide +kernel
theorem d_19_36_113 : decode prog_19_method_36_code 113 = .ok (.iload 4, 2) := by decide +kernel
theorem d_19_36_115 : decode prog_19_method_36_code 115 = .ok (.iconst 1, 1) := by decide +kernel
theorem d_19_36_116 : decode prog_19_method_36_code 116 = .ok (.isub, 1) := by decide +kernel
theorem d_19_36_117 : decode prog_19_method_36_code 117 = .ok (.goto 5, 3) := by decide +kernel
theorem d_19_36_88 : decode prog_19_method_36_code 88 = .ok (.if_icmp .ge 18, 3) := by decide +kernel
theorem d_19_36_106 : decode prog_19_method_36_code 106 = .ok (.iconst 0, 1) := by decide +kernel
theorem d_19_36_91 : decode prog_19_method_36_code 91 = .ok (.aload_n 0, 1) := by decide +kernel
theorem d_19_36_92 : decode prog_19_method_36_code 92 = .ok (.getfield 13, 3) := by decide +kernel
theorem d_19_36_95 : decode prog_19_method_36_code 95 = .ok (.sipush 128, 3) := by decide +kernel
theorem d_19_36_98 : decode prog_19_method_36_code 98 = .ok (.iload_n 1, 1) := by decide +kernel
theorem d_19_36_99 : decode prog_19_method_36_code 99 = .ok (.imul, 1) := by decide +kernel
theorem d_19_36_100 : decode prog_19_method_36_code 100 = .ok (.iload_n 2, 1) := by decide +kernel
theorem d_19_36_101 : decode prog_19_method_36_code 101 = .ok (.iadd, 1) := by decide +kernel
theorem d_19_36_102 : decode prog_19_method_36_code 102 = .ok (.iaload, 1) := by decide +kernel
theorem d_19_36_103 : decode prog_19_method_36_code 103 = .ok (.goto 4, 3) := by decide +kernel
theorem d_19_36_41 : decode prog_19_method_36_code 41 = .ok (.if_icmp .ge 43, 3) := by decide +kernel
theorem d_19_36_44 : decode prog_19_method_36_code 44 = .ok (.iload 4, 2) := by decide +kernel
theorem d_19_36_46 : decode prog_19_method_36_code 46 = .ok (.sipush 128, 3) := by decide +kernel
theorem d_19_36_49 : decode prog_19_method_36_code 49 = .ok (.if_icmp .ge 35, 3) := by decide +kernel
theorem d_19_36_52 : decode prog_19_method_36_code 52 = .ok (.iload_n 3, 1) := by decide +kernel
theorem d_19_36_53 : decode prog_19_method_36_code 53 = .ok (.ifCond .eq 23, 3) := by decide +kernel
theorem d_19_36_76 : decode prog_19_method_36_code 76 = .ok (.iconst 0, 1) := by decide +kernel
theorem d_19_36_77 : decode prog_19_method_36_code 77 = .ok (.istore_n 3, 1) := by decide +kernel
theorem d_19_36_78 : decode prog_19_method_36_code 78 = .ok (.iinc 4 1, 3) := by decide +kernel
theorem d_19_36_81 : decode prog_19_method_36_code 81 = .ok (.goto (-43), 3) := by decide +kernel
theorem d_19_36_56 : decode prog_19_method_36_code 56 = .ok (.aload_n 0, 1) := by decide +kernel
theorem d_19_36_57 : decode prog_19_method_36_code 57 = .ok (.getfield 13, 3) := by decide +kernel
theorem d_19_36_60 : decode prog_19_method_36_code 60 = .ok (.sipush 128, 3) := by decide +kernel
theorem d_19_36_63 : decode prog_19_method_36_code 63 = .ok (.iload_n 1, 1) := by decide +kernel
theorem d_19_36_64 : decode prog_19_method_36_code 64 = .ok (.imul, 1) := by decide +kernel
theorem d_19_36_65 : decode prog_19_method_36_code 65 = .ok (.iload 4, 2) := by decide +kernel
theorem d_19_36_67 : decode prog_19_method_36_code 67 = .ok (.iadd, 1) := by decide +kernel
theorem d_19_36_68 : decode prog_19_method_36_code 68 = .ok (.iaload, 1) := by decide +kernel
theorem d_19_36_69 : decode prog_19_method_36_code 69 = .ok (.ifCond .ne 7, 3) := by decide +kernel
theorem d_19_36_72 : decode prog_19_method_36_code 72 = .ok (.iconst 1, 1) := by decide +kernel
theorem d_19_36_73 : decode prog_19_method_36_code 73 = .ok (.goto 4, 3) := by decide +kernel
theorem d_19_36_9 : decode prog_19_method_36_code 9 = .ok (.iload_n 2, 1) := by decide +kernel
theorem d_19_36_10 : decode prog_19_method_36_code 10 = .ok (.sipush 128, 3) := by decide +kernel
theorem d_19_36_13 : decode prog_19_method_36_code 13 = .ok (.if_icmp .ge 18, 3) := by decide +kernel
theorem d_19_36_31 : decode prog_19_method_36_code 31 = .ok (.iconst 0, 1) := by decide +kernel
theorem d_19_36_32 : decode prog_19_method_36_code 32 = .ok (.ireturn, 1) := by decide +kernel
theorem d_19_36_16 : decode prog_19_method_36_code 16 = .ok (.aload_n 0, 1) := by decide +kernel
theorem d_19_36_17 : decode prog_19_method_36_code 17 = .ok (.getfield 13, 3) := by decide +kernel
theorem d_19_36_20 : decode prog_19_method_36_code 20 = .ok (.sipush 128, 3) := by decide +kernel
theorem d_19_36_23 : decode prog_19_method_36_code 23 = .ok (.iload_n 1, 1) := by decide +kernel
theorem d_19_36_24 : decode prog_19_method_36_code 24 = .ok (.imul, 1) := by decide +kernel
theorem d_19_36_25 : decode prog_19_method_36_code 25 = .ok (.iload_n 2, 1) := by decide +kernel
theorem d_19_36_26 : decode prog_19_method_36_code 26 = .ok (.iadd, 1) := by decide +kernel
theorem d_19_36_27 : decode prog_19_method_36_code 27 = .ok (.iaload, 1) := by decide +kernel
theorem d_19_36_28 : decode prog_19_method_36_code 28 = .ok (.goto 4, 3) := by decide +kernel
def y_WR_limb : MethodName := ⟨"NumberHouseModel$WholeRows", "limb", "(II)I"⟩
def F_WR_limb_J107 (K_F_WR_limb_L38 : Int32 → Int32 → Int32) (x2 : Int32) (x3 : Int32) (t0_0 : Int32) (t0_1 : Int32) (t0_2 : Int32) (t0_3 : Int32) (t0_4 : Int32) (t0_5 : Int32) (t0_6 : Int32) (t1_0 : (Nat → Int32)) (t2_0 : (Nat → Int32)) (lx28 : Int32) (lx29 : Int32) (lx49 : Int32) : Int32 := if lx29 = (0 : Int32) then (((lx49 ^^^ (-1) : Int32) &&& 65535 : Int32)) else ((((lx49 - 1 : Int32) ^^^ (-1) : Int32) &&& 65535 : Int32))
def F_WR_limb_J84 (K_F_WR_limb_L38 : Int32 → Int32 → Int32) (x2 : Int32) (x3 : Int32) (t0_0 : Int32) (t0_1 : Int32) (t0_2 : Int32) (t0_3 : Int32) (t0_4 : Int32) (t0_5 : Int32) (t0_6 : Int32) (t1_0 : (Nat → Int32)) (t2_0 : (Nat → Int32)) (lx28 : Int32) (lx29 : Int32) : Int32 := if (128 : Int32) ≤ x3 then (F_WR_limb_J107 K_F_WR_limb_L38 x2 x3 t0_0 t0_1 t0_2 t0_3 t0_4 t0_5 t0_6 t1_0 t2_0 lx28 lx29 0) else (F_WR_limb_J107 K_F_WR_limb_L38 x2 x3 t0_0 t0_1 t0_2 t0_3 t0_4 t0_5 t0_6 t1_0 t2_0 lx28 lx29 (t1_0 ((128 * x2 : Int32) + x3 : Int32).toNatClampNeg : Int32))
def F_WR_limb_L38 (x2 : Int32) (x3 : Int32) (t0_0 : Int32) (t0_1 : Int32) (t0_2 : Int32) (t0_3 : Int32) (t0_4 : Int32) (t0_5 : Int32) (t0_6 : Int32) (t1_0 : (Nat → Int32)) (t2_0 : (Nat → Int32)) : Nat → Int32 → Int32 → Int32
  | 0, _, _ => default
  | fm + 1, lx28, lx29 => if x3 ≤ lx28 then (F_WR_limb_J84 (F_WR_limb_L38 x2 x3 t0_0 t0_1 t0_2 t0_3 t0_4 t0_5 t0_6 t1_0 t2_0 fm) x2 x3 t0_0 t0_1 t0_2 t0_3 t0_4 t0_5 t0_6 t1_0 t2_0 lx28 lx29) else (if (128 : Int32) ≤ lx28 then (F_WR_limb_J84 (F_WR_limb_L38 x2 x3 t0_0 t0_1 t0_2 t0_3 t0_4 t0_5 t0_6 t1_0 t2_0 fm) x2 x3 t0_0 t0_1 t0_2 t0_3 t0_4 t0_5 t0_6 t1_0 t2_0 lx28 lx29) else (if lx29 = (0 : Int32) then (F_WR_limb_L38 x2 x3 t0_0 t0_1 t0_2 t0_3 t0_4 t0_5 t0_6 t1_0 t2_0 fm (lx28 + 1 : Int32) 0) else (if (t1_0 ((128 * x2 : Int32) + lx28 : Int32).toNatClampNeg : Int32) = (0 : Int32) then (F_WR_limb_L38 x2 x3 t0_0 t0_1 t0_2 t0_3 t0_4 t0_5 t0_6 t1_0 t2_0 fm (lx28 + 1 : Int32) 1) else (F_WR_limb_L38 x2 x3 t0_0 t0_1 t0_2 t0_3 t0_4 t0_5 t0_6 t1_0 t2_0 fm (lx28 + 1 : Int32) 0))))
def F_WR_limb (x2 : Int32) (x3 : Int32) (t0_0 : Int32) (t0_1 : Int32) (t0_2 : Int32) (t0_3 : Int32) (t0_4 : Int32) (t0_5 : Int32) (t0_6 : Int32) (t1_0 : (Nat → Int32)) (t2_0 : (Nat → Int32)) : Int32 := if (t2_0 x2.toNatClampNeg : Int32) = (0 : Int32) then (if (128 : Int32) ≤ x3 then ((0 : Int32)) else ((t1_0 ((128 * x2 : Int32) + x3 : Int32).toNatClampNeg : Int32))) else (F_WR_limb_L38 x2 x3 t0_0 t0_1 t0_2 t0_3 t0_4 t0_5 t0_6 t1_0 t2_0 ((128 - (0 : Int32).toInt).toNat + 1) 0 1)
def S_WR_limb_J107 (K_S_WR_limb_L38 : Int32 → Int32 → Prop) (x2 : Int32) (x3 : Int32) (t0_0 : Int32) (t0_1 : Int32) (t0_2 : Int32) (t0_3 : Int32) (t0_4 : Int32) (t0_5 : Int32) (t0_6 : Int32) (t1_0 : (Nat → Int32)) (t2_0 : (Nat → Int32)) (lx28 : Int32) (lx29 : Int32) (lx49 : Int32) : Prop := if lx29 = (0 : Int32) then (True) else (True)
def S_WR_limb_J84 (K_S_WR_limb_L38 : Int32 → Int32 → Prop) (x2 : Int32) (x3 : Int32) (t0_0 : Int32) (t0_1 : Int32) (t0_2 : Int32) (t0_3 : Int32) (t0_4 : Int32) (t0_5 : Int32) (t0_6 : Int32) (t1_0 : (Nat → Int32)) (t2_0 : (Nat → Int32)) (lx28 : Int32) (lx29 : Int32) : Prop := if (128 : Int32) ≤ x3 then (S_WR_limb_J107 K_S_WR_limb_L38 x2 x3 t0_0 t0_1 t0_2 t0_3 t0_4 t0_5 t0_6 t1_0 t2_0 lx28 lx29 0) else ((0 ≤ ((128 * x2 : Int32) + x3 : Int32).toInt) ∧ (S_WR_limb_J107 K_S_WR_limb_L38 x2 x3 t0_0 t0_1 t0_2 t0_3 t0_4 t0_5 t0_6 t1_0 t2_0 lx28 lx29 (t1_0 ((128 * x2 : Int32) + x3 : Int32).toNatClampNeg : Int32)))
def S_WR_limb_L38 (x2 : Int32) (x3 : Int32) (t0_0 : Int32) (t0_1 : Int32) (t0_2 : Int32) (t0_3 : Int32) (t0_4 : Int32) (t0_5 : Int32) (t0_6 : Int32) (t1_0 : (Nat → Int32)) (t2_0 : (Nat → Int32)) : Nat → Int32 → Int32 → Prop
  | 0, _, _ => False
  | fm + 1, lx28, lx29 => if x3 ≤ lx28 then (S_WR_limb_J84 (S_WR_limb_L38 x2 x3 t0_0 t0_1 t0_2 t0_3 t0_4 t0_5 t0_6 t1_0 t2_0 fm) x2 x3 t0_0 t0_1 t0_2 t0_3 t0_4 t0_5 t0_6 t1_0 t2_0 lx28 lx29) else (if (128 : Int32) ≤ lx28 then (S_WR_limb_J84 (S_WR_limb_L38 x2 x3 t0_0 t0_1 t0_2 t0_3 t0_4 t0_5 t0_6 t1_0 t2_0 fm) x2 x3 t0_0 t0_1 t0_2 t0_3 t0_4 t0_5 t0_6 t1_0 t2_0 lx28 lx29) else (if lx29 = (0 : Int32) then (S_WR_limb_L38 x2 x3 t0_0 t0_1 t0_2 t0_3 t0_4 t0_5 t0_6 t1_0 t2_0 fm (lx28 + 1 : Int32) 0) else (if (t1_0 ((128 * x2 : Int32) + lx28 : Int32).toNatClampNeg : Int32) = (0 : Int32) then (S_WR_limb_L38 x2 x3 t0_0 t0_1 t0_2 t0_3 t0_4 t0_5 t0_6 t1_0 t2_0 fm (lx28 + 1 : Int32) 1) else (S_WR_limb_L38 x2 x3 t0_0 t0_1 t0_2 t0_3 t0_4 t0_5 t0_6 t1_0 t2_0 fm (lx28 + 1 : Int32) 0))))
def S_WR_limb (x2 : Int32) (x3 : Int32) (t0_0 : Int32) (t0_1 : Int32) (t0_2 : Int32) (t0_3 : Int32) (t0_4 : Int32) (t0_5 : Int32) (t0_6 : Int32) (t1_0 : (Nat → Int32)) (t2_0 : (Nat → Int32)) : Prop := (0 ≤ x2.toInt) ∧ ((x2.toInt ≤ 10) ∧ (if (t2_0 x2.toNatClampNeg : Int32) = (0 : Int32) then (if (128 : Int32) ≤ x3 then (True) else ((0 ≤ ((128 * x2 : Int32) + x3 : Int32).toInt) ∧ (True))) else (S_WR_limb_L38 x2 x3 t0_0 t0_1 t0_2 t0_3 t0_4 t0_5 t0_6 t1_0 t2_0 ((128 - (0 : Int32).toInt).toNat + 1) 0 1)))
set_option maxRecDepth 100000 in
set_option maxHeartbeats 4000000 in
theorem X_WR_limb (l : Launch) (D : va_G) (g : Nat → ClassId) (q : Nat → Nat) (ws : va_W) (x2 : Int32) (x3 : Int32) (hI : q_I (msh g q) q ws) (t0_0 : Int32) (t0_1 : Int32) (t0_2 : Int32) (t0_3 : Int32) (t0_4 : Int32) (t0_5 : Int32) (t0_6 : Int32) (hT0 : ws[119]? = (some (q 119, .inr (13, [.int t0_0, .int t0_1, .ref (q 120), .int t0_2, .ref (q 121), .ref (q 122), .ref (q 123), .int t0_3, .ref (q 124), .ref (q 125), .ref (q 126), .ref (q 127), .ref (q 128), .ref (q 129), .ref (q 130), .ref (q 131), .int t0_4, .int t0_5, .ref (q 132), .ref (q 133), .int t0_6])) : Option (Nat × va_E))) (t1_0 : (Nat → Int32)) (hT1 : ws[121]? = (some (q 121, .inl (g 0, (1408 : Int32).toNatClampNeg, .inl t1_0)) : Option (Nat × va_E))) (t2_0 : (Nat → Int32)) (hT2 : ws[122]? = (some (q 122, .inl (g 3, 11, .inl t2_0)) : Option (Nat × va_E))) (hS : True ∧ S_WR_limb x2 x3 t0_0 t0_1 t0_2 t0_3 t0_4 t0_5 t0_6 t1_0 t2_0) : q_mI l y_WR_limb prog_19_method_36_code 5 (.int) 1 0 0 D g [.ref (q 119), .int x2, .int x3] ws (fun r u => ws = u ∧ r = (F_WR_limb x2 x3 t0_0 t0_1 t0_2 t0_3 t0_4 t0_5 t0_6 t1_0 t2_0)) := by
  intro sz
  refine q_into (by decide) (Nat.le_of_ble_eq_true rfl) ?_
  intro p e s m below meth c ls hsz C0 V hl
  have hx := C0.1
  have hb := C0.2.1
  have hZ9 := (n_w119 hI hT0).2.2.2
  obtain ⟨-, btt0_6⟩ := hZ9
  clear btt0_6
  have hl : lv_has ls 5 [(0, .ref (q 119)), (1, .int x2), (2, .int x3)] := hl
  refine lv_aload_n hx hb d_19_36_0 rfl (lv_at hl 0 rfl) ?_
  refine q_get (ci := 13) (j := 5) (v := .ref (q 122)) C0 V i_WR rfl rfl hT0 (by decide) w_1929 rfl d_19_36_1 ?_
  refine lv_iload_n hx hb d_19_36_4 rfl (lv_at hl 1 rfl) ?_
  have ob20 : q_F (0 ≤ x2.toInt) := (by have h := hS; rw [S_WR_limb.eq_1] at h; exact h.2.1)
  have ob21 : q_F (x2.toInt ≤ 10) := (by have h := hS; rw [S_WR_limb.eq_1] at h; replace h := q_s2 h; exact h.2.1)
  refine q_zald C0 V hT2 (q_ix (x := x2.toInt) rfl (by first | with_reducible exact q_fe ob20 | (have t1 : 0 ≤ x2.toInt := ob20; omega)) (by have t1 : 0 ≤ x2.toInt := ob20; have t2 : x2.toInt ≤ 10 := ob21; omega)) d_19_36_5 ?_
  obtain ⟨a22, e23⟩ := q_nm (t2_0 x2.toNatClampNeg : Int32)
  refine q_ti (v := a22) e23 ?_
  refine lv_if_ne (tgt := 33) hx hb d_19_36_6 (by decide) (fun c24 => ?_) (fun c24 => ?_)
  ·
    refine lv_iconst (v := 1) hx hb d_19_36_33 (by decide) ?_
    refine lv_istore_n (lv' := [(3, .int 1), (0, .ref (q 119)), (1, .int x2), (2, .int x3)]) hx hb d_19_36_34 rfl hl (by decide) rfl (fun ls hl => ?_)
    refine lv_iconst (v := 0) hx hb d_19_36_35 (by decide) ?_
    refine lv_istore (lv' := [(4, .int 0), (3, .int 1), (0, .ref (q 119)), (1, .int x2), (2, .int x3)]) hx hb d_19_36_36 hl (by decide) rfl (fun ls hl => ?_)
    refine q_loop (X := Int32 × Int32) (fun z H locs ls _ => q_F (z.1.toInt ≤ 128) ∧ q_F (z.2.toInt ≤ 1) ∧ q_F (0 ≤ z.2.toInt) ∧ q_F (1 ≤ z.1.toInt + z.2.toInt) ∧ q_Wd D g (va_A ws sz) s ws H locs ∧ lv_has ls 5 [(4, .int z.1), (3, .int z.2), (0, .ref (q 119)), (1, .int x2), (2, .int x3)] ∧ (∃ n, (128 - z.1.toInt).toNat < n ∧ F_WR_limb_L38 x2 x3 t0_0 t0_1 t0_2 t0_3 t0_4 t0_5 t0_6 t1_0 t2_0 n z.1 z.2 = (F_WR_limb x2 x3 t0_0 t0_1 t0_2 t0_3 t0_4 t0_5 t0_6 t1_0 t2_0) ∧ True ∧ S_WR_limb_L38 x2 x3 t0_0 t0_1 t0_2 t0_3 t0_4 t0_5 t0_6 t1_0 t2_0 n z.1 z.2)) (fun z => (128 - z.1.toInt).toNat) ?_ ((0 : Int32), (1 : Int32)) _ _ _ ws ⟨(show q_F (0 ≤ 128) from (show 0 ≤ 128 from by omega)), (show q_F (1 ≤ 1) from (show 1 ≤ 1 from by omega)), (show q_F (0 ≤ 1) from (show 0 ≤ 1 from by omega)), (show q_F (1 ≤ 0 + 1) from (show 1 ≤ 0 + 1 from by omega)), V, q_lw hl (q_lw1 0 rfl (q_lw1 1 rfl (q_lw1 2 rfl (q_lw1 3 rfl (q_lw1 4 rfl q_lw0))))), ⟨((128 - (0 : Int32).toInt).toNat + 1), Nat.lt_succ_self _, (show F_WR_limb_L38 x2 x3 t0_0 t0_1 t0_2 t0_3 t0_4 t0_5 t0_6 t1_0 t2_0 ((128 - (0 : Int32).toInt).toNat + 1) 0 1 = (F_WR_limb x2 x3 t0_0 t0_1 t0_2 t0_3 t0_4 t0_5 t0_6 t1_0 t2_0) from (by have c24x := c24; rw [← e23] at c24x; rw [F_WR_limb.eq_1, if_neg c24x])), (show True ∧ S_WR_limb_L38 x2 x3 t0_0 t0_1 t0_2 t0_3 t0_4 t0_5 t0_6 t1_0 t2_0 ((128 - (0 : Int32).toInt).toNat + 1) 0 1 from (by have h := hS; rw [S_WR_limb.eq_1] at h; replace h := q_s2 h; replace h := q_s2 h; have c24x := c24; rw [← e23] at c24x; rw [if_neg c24x] at h; with_reducible exact h))⟩⟩
    rintro ⟨lx28, lx29⟩ H locs ls _ ⟨i30, i31, i32, i33, V, hl, ⟨fu37, hf38, hR35, hS36⟩⟩ ih34
    obtain ⟨fm39, rfl⟩ : ∃ m, fu37 = m + 1 := ⟨fu37 - 1, by omega⟩
    replace i30 : q_F (lx28.toInt ≤ 128) := i30
    replace i31 : q_F (lx29.toInt ≤ 1) := i31
    clear i32
    replace i33 : q_F (1 ≤ lx28.toInt + lx29.toInt) := i33
    replace hl : lv_has ls 5 [(4, .int lx28), (3, .int lx29), (0, .ref (q 119)), (1, .int x2), (2, .int x3)] := hl
    refine lv_iload hx hb d_19_36_38 (lv_at hl 0 rfl) ?_
    refine lv_iload_n hx hb d_19_36_40 rfl (lv_at hl 4 rfl) ?_
    refine q_join (X := Unit) (fun z H locs ls _ => q_Wd D g (va_A ws sz) s ws H locs ∧ lv_has ls 5 [(3, .int lx29), (0, .ref (q 119)), (1, .int x2), (2, .int x3)] ∧ F_WR_limb_J84 (F_WR_limb_L38 x2 x3 t0_0 t0_1 t0_2 t0_3 t0_4 t0_5 t0_6 t1_0 t2_0 fm39) x2 x3 t0_0 t0_1 t0_2 t0_3 t0_4 t0_5 t0_6 t1_0 t2_0 lx28 lx29 = (F_WR_limb x2 x3 t0_0 t0_1 t0_2 t0_3 t0_4 t0_5 t0_6 t1_0 t2_0) ∧ True ∧ S_WR_limb_J84 (S_WR_limb_L38 x2 x3 t0_0 t0_1 t0_2 t0_3 t0_4 t0_5 t0_6 t1_0 t2_0 fm39) x2 x3 t0_0 t0_1 t0_2 t0_3 t0_4 t0_5 t0_6 t1_0 t2_0 lx28 lx29) (fun z => []) 84 0 0 ?_ ?_
    ·
      rintro _ H locs ls _ ⟨V, hl, hR44, hS45⟩
      replace hl : lv_has ls 5 [(3, .int lx29), (0, .ref (q 119)), (1, .int x2), (2, .int x3)] := hl
      refine lv_iload_n hx hb d_19_36_84 rfl (lv_at hl 3 rfl) ?_
      refine lv_sipush (v := 128) hx hb d_19_36_85 (by decide) ?_
      refine q_join (X := Int32) (fun z H locs ls _ => q_Wd D g (va_A ws sz) s ws H locs ∧ lv_has ls 5 [(3, .int lx29)] ∧ F_WR_limb_J107 (F_WR_limb_L38 x2 x3 t0_0 t0_1 t0_2 t0_3 t0_4 t0_5 t0_6 t1_0 t2_0 fm39) x2 x3 t0_0 t0_1 t0_2 t0_3 t0_4 t0_5 t0_6 t1_0 t2_0 lx28 lx29 z = (F_WR_limb x2 x3 t0_0 t0_1 t0_2 t0_3 t0_4 t0_5 t0_6 t1_0 t2_0) ∧ True ∧ S_WR_limb_J107 (S_WR_limb_L38 x2 x3 t0_0 t0_1 t0_2 t0_3 t0_4 t0_5 t0_6 t1_0 t2_0 fm39) x2 x3 t0_0 t0_1 t0_2 t0_3 t0_4 t0_5 t0_6 t1_0 t2_0 lx28 lx29 z) (fun z => [.int z]) 107 0 0 ?_ ?_
      ·
        rintro lx49 H locs ls _ ⟨V, hl, hR54, hS55⟩
        replace hl : lv_has ls 5 [(3, .int lx29)] := hl
        refine lv_istore (lv' := [(4, .int lx49), (3, .int lx29)]) hx hb d_19_36_107 hl (by decide) rfl (fun ls hl => ?_)
        refine lv_iload_n hx hb d_19_36_109 rfl (lv_at hl 1 rfl) ?_
        refine lv_if_eq (tgt := 120) hx hb d_19_36_110 (by decide) (fun c59 => ?_) (fun c59 => ?_)
        ·
          refine lv_iload hx hb d_19_36_120 (lv_at hl 0 rfl) ?_
          refine lv_iconst (v := (-1)) hx hb d_19_36_122 (by decide) ?_
          refine lv_ixor hx hb d_19_36_123 ?_
          obtain ⟨a61, e62⟩ := q_nm (lx49 ^^^ (-1) : Int32)
          refine q_ti (v := a61) e62 ?_
          refine q_ldc C0 rfl w_2559 d_19_36_124 ?_
          refine lv_iand hx hb d_19_36_126 ?_
          obtain ⟨a63, e64⟩ := q_nm (a61 &&& 65535 : Int32)
          refine q_ti (v := a63) e64 ?_
          exact q_reti C0 V (⟨rfl, (show a63 = (F_WR_limb x2 x3 t0_0 t0_1 t0_2 t0_3 t0_4 t0_5 t0_6 t1_0 t2_0) from Eq.trans (by rw [← e64, ← e62, F_WR_limb_J107.eq_1, if_pos c59]) hR54)⟩) d_19_36_127
        ·
          refine lv_iload hx hb d_19_36_113 (lv_at hl 0 rfl) ?_
          refine lv_iconst (v := 1) hx hb d_19_36_115 (by decide) ?_
          refine lv_isub hx hb d_19_36_116 ?_
          obtain ⟨a67, e68⟩ := q_nm (lx49 - 1 : Int32)
          refine q_ti (v := a67) e68 ?_
          refine lv_goto (tgt := 122) hx hb d_19_36_117 (by decide) ?_
          refine lv_iconst (v := (-1)) hx hb d_19_36_122 (by decide) ?_
          refine lv_ixor hx hb d_19_36_123 ?_
          obtain ⟨a69, e70⟩ := q_nm (a67 ^^^ (-1) : Int32)
          refine q_ti (v := a69) e70 ?_
          refine q_ldc C0 rfl w_2559 d_19_36_124 ?_
          refine lv_iand hx hb d_19_36_126 ?_
          obtain ⟨a71, e72⟩ := q_nm (a69 &&& 65535 : Int32)
          refine q_ti (v := a71) e72 ?_
          exact q_reti C0 V (⟨rfl, (show a71 = (F_WR_limb x2 x3 t0_0 t0_1 t0_2 t0_3 t0_4 t0_5 t0_6 t1_0 t2_0) from Eq.trans (by rw [← e72, ← e70, ← e68, F_WR_limb_J107.eq_1, if_neg c59]) hR54)⟩) d_19_36_127
      ·
        intro J53
        refine lv_icmp_ge (tgt := 106) hx hb d_19_36_88 (by decide) (fun c74 => ?_) (fun c74 => ?_)
        ·
          refine lv_iconst (v := 0) hx hb d_19_36_106 (by decide) ?_
          exact J53 ((0 : Int32)) _ _ _ ws ⟨V, q_lw hl (q_lw1 0 rfl q_lw0), (show F_WR_limb_J107 (F_WR_limb_L38 x2 x3 t0_0 t0_1 t0_2 t0_3 t0_4 t0_5 t0_6 t1_0 t2_0 fm39) x2 x3 t0_0 t0_1 t0_2 t0_3 t0_4 t0_5 t0_6 t1_0 t2_0 lx28 lx29 0 = (F_WR_limb x2 x3 t0_0 t0_1 t0_2 t0_3 t0_4 t0_5 t0_6 t1_0 t2_0) from Eq.trans (by rw [F_WR_limb_J84.eq_1, if_pos c74]) hR44), (show True ∧ S_WR_limb_J107 (S_WR_limb_L38 x2 x3 t0_0 t0_1 t0_2 t0_3 t0_4 t0_5 t0_6 t1_0 t2_0 fm39) x2 x3 t0_0 t0_1 t0_2 t0_3 t0_4 t0_5 t0_6 t1_0 t2_0 lx28 lx29 0 from (by have h := hS45; rw [S_WR_limb_J84.eq_1] at h; rw [if_pos c74] at h; with_reducible exact h))⟩
        ·
          have b76 : q_F (x3.toInt < 128) := (q_nleI c74)
          refine lv_aload_n hx hb d_19_36_91 rfl (lv_at hl 1 rfl) ?_
          refine q_get (ci := 13) (j := 4) (v := .ref (q 121)) C0 V i_WR rfl rfl hT0 (by decide) w_1928 rfl d_19_36_92 ?_
          refine lv_sipush (v := 128) hx hb d_19_36_95 (by decide) ?_
          refine lv_iload_n hx hb d_19_36_98 rfl (lv_at hl 2 rfl) ?_
          refine lv_imul hx hb d_19_36_99 ?_
          obtain ⟨a77, e78⟩ := q_nm (128 * x2 : Int32)
          refine q_ti (v := a77) e78 ?_
          have b79 : q_F (a77.toInt = 128 * x2.toInt) := (by rw [← e78]; show (128 * x2 : Int32).toInt = 128 * x2.toInt; exact q_mulI (x := 128) (y := x2.toInt) (by decide) rfl (by have t1 : 0 ≤ x2.toInt := ob20; have t2 : x2.toInt ≤ 10 := ob21; omega) (by have t1 : 0 ≤ x2.toInt := ob20; have t2 : x2.toInt ≤ 10 := ob21; omega))
          refine lv_iload_n hx hb d_19_36_100 rfl (lv_at hl 3 rfl) ?_
          refine lv_iadd hx hb d_19_36_101 ?_
          obtain ⟨a80, e81⟩ := q_nm (a77 + x3 : Int32)
          refine q_ti (v := a80) e81 ?_
          have b82 : q_F (a80.toInt = a77.toInt + x3.toInt) := (by rw [← e81]; show (a77 + x3 : Int32).toInt = a77.toInt + x3.toInt; exact q_addI (x := a77.toInt) (y := x3.toInt) rfl rfl (by have t1 : 0 ≤ x2.toInt := ob20; have t2 : a77.toInt = 128 * x2.toInt := b79; have _ := q_lo32 (x := x3); have _ := q_hi32 (x := x3); have t3 : x3.toInt < 128 := b76; have _ := q_lo32 (x := a77); have _ := q_hi32 (x := a77); have _ := q_lo32 (x := x2); have _ := q_hi32 (x := x2); omega) (by have t1 : 0 ≤ x2.toInt := ob20; have t2 : a77.toInt = 128 * x2.toInt := b79; have _ := q_lo32 (x := x3); have _ := q_hi32 (x := x3); have t3 : x3.toInt < 128 := b76; have _ := q_lo32 (x := a77); have _ := q_hi32 (x := a77); have _ := q_lo32 (x := x2); have _ := q_hi32 (x := x2); omega))
          have ob83 : q_F (0 ≤ a80.toInt) := (by rw [← e81, ← e78]; have h := hS45; rw [S_WR_limb_J84.eq_1] at h; rw [if_neg c74] at h; exact h.2.1)
          refine q_iald C0 V hT1 (q_ix (x := a80.toInt) rfl (by first | with_reducible exact q_fe ob83 | (have t1 : 0 ≤ a80.toInt := ob83; omega)) (by have t1 : 0 ≤ a80.toInt := ob83; have t2 : x2.toInt ≤ 10 := ob21; have t3 : x3.toInt < 128 := b76; have t4 : a77.toInt = 128 * x2.toInt := b79; have t5 : a80.toInt = a77.toInt + x3.toInt := b82; have e9 : (((1408 : Int32).toNatClampNeg : Nat) : Int) = 1408 := (by decide); omega)) d_19_36_102 ?_
          obtain ⟨a84, e85⟩ := q_nm (t1_0 a80.toNatClampNeg : Int32)
          refine q_ti (v := a84) e85 ?_
          refine lv_goto (tgt := 107) hx hb d_19_36_103 (by decide) ?_
          exact J53 ((a84 : Int32)) _ _ _ ws ⟨V, q_lw hl (q_lw1 0 rfl q_lw0), (show F_WR_limb_J107 (F_WR_limb_L38 x2 x3 t0_0 t0_1 t0_2 t0_3 t0_4 t0_5 t0_6 t1_0 t2_0 fm39) x2 x3 t0_0 t0_1 t0_2 t0_3 t0_4 t0_5 t0_6 t1_0 t2_0 lx28 lx29 a84 = (F_WR_limb x2 x3 t0_0 t0_1 t0_2 t0_3 t0_4 t0_5 t0_6 t1_0 t2_0) from Eq.trans (by rw [← e85, ← e81, ← e78, F_WR_limb_J84.eq_1, if_neg c74]) hR44), (show True ∧ S_WR_limb_J107 (S_WR_limb_L38 x2 x3 t0_0 t0_1 t0_2 t0_3 t0_4 t0_5 t0_6 t1_0 t2_0 fm39) x2 x3 t0_0 t0_1 t0_2 t0_3 t0_4 t0_5 t0_6 t1_0 t2_0 lx28 lx29 a84 from (by rw [← e85, ← e81, ← e78]; have h := hS45; rw [S_WR_limb_J84.eq_1] at h; rw [if_neg c74] at h; replace h := q_s2 h; with_reducible exact h))⟩
    ·
      intro J43
      refine lv_icmp_ge (tgt := 84) hx hb d_19_36_41 (by decide) (fun c86 => ?_) (fun c86 => ?_)
      ·
        exact J43 (()) _ _ _ ws ⟨V, q_lw hl (q_lw1 1 rfl (q_lw1 2 rfl (q_lw1 3 rfl (q_lw1 4 rfl q_lw0)))), (show F_WR_limb_J84 (F_WR_limb_L38 x2 x3 t0_0 t0_1 t0_2 t0_3 t0_4 t0_5 t0_6 t1_0 t2_0 fm39) x2 x3 t0_0 t0_1 t0_2 t0_3 t0_4 t0_5 t0_6 t1_0 t2_0 lx28 lx29 = (F_WR_limb x2 x3 t0_0 t0_1 t0_2 t0_3 t0_4 t0_5 t0_6 t1_0 t2_0) from Eq.trans (by rw [F_WR_limb_L38.eq_2, if_pos c86]) hR35), (show True ∧ S_WR_limb_J84 (S_WR_limb_L38 x2 x3 t0_0 t0_1 t0_2 t0_3 t0_4 t0_5 t0_6 t1_0 t2_0 fm39) x2 x3 t0_0 t0_1 t0_2 t0_3 t0_4 t0_5 t0_6 t1_0 t2_0 lx28 lx29 from (by have h := hS36; rw [S_WR_limb_L38.eq_2] at h; rw [if_pos c86] at h; with_reducible exact h))⟩
      ·
        refine lv_iload hx hb d_19_36_44 (lv_at hl 0 rfl) ?_
        refine lv_sipush (v := 128) hx hb d_19_36_46 (by decide) ?_
        refine lv_icmp_ge (tgt := 84) hx hb d_19_36_49 (by decide) (fun c89 => ?_) (fun c89 => ?_)
        ·
          exact J43 (()) _ _ _ ws ⟨V, q_lw hl (q_lw1 1 rfl (q_lw1 2 rfl (q_lw1 3 rfl (q_lw1 4 rfl q_lw0)))), (show F_WR_limb_J84 (F_WR_limb_L38 x2 x3 t0_0 t0_1 t0_2 t0_3 t0_4 t0_5 t0_6 t1_0 t2_0 fm39) x2 x3 t0_0 t0_1 t0_2 t0_3 t0_4 t0_5 t0_6 t1_0 t2_0 lx28 lx29 = (F_WR_limb x2 x3 t0_0 t0_1 t0_2 t0_3 t0_4 t0_5 t0_6 t1_0 t2_0) from Eq.trans (by rw [F_WR_limb_L38.eq_2, if_neg c86, if_pos c89]) hR35), (show True ∧ S_WR_limb_J84 (S_WR_limb_L38 x2 x3 t0_0 t0_1 t0_2 t0_3 t0_4 t0_5 t0_6 t1_0 t2_0 fm39) x2 x3 t0_0 t0_1 t0_2 t0_3 t0_4 t0_5 t0_6 t1_0 t2_0 lx28 lx29 from (by have h := hS36; rw [S_WR_limb_L38.eq_2] at h; rw [if_neg c86] at h; rw [if_pos c89] at h; with_reducible exact h))⟩
        ·
          have b91 : q_F (lx28.toInt < 128) := (q_nleI c89)
          refine lv_iload_n hx hb d_19_36_52 rfl (lv_at hl 1 rfl) ?_
          refine lv_if_eq (tgt := 76) hx hb d_19_36_53 (by decide) (fun c92 => ?_) (fun c92 => ?_)
          ·
            refine lv_iconst (v := 0) hx hb d_19_36_76 (by decide) ?_
            refine lv_istore_n (lv' := [(3, .int 0), (4, .int lx28), (0, .ref (q 119)), (1, .int x2), (2, .int x3)]) hx hb d_19_36_77 rfl hl (by decide) rfl (fun ls hl => ?_)
            obtain ⟨a94, e95⟩ := q_nm (lx28 + 1 : Int32)
            have b96 : q_F (a94.toInt = lx28.toInt + 1) := (by rw [← e95]; exact q_addI (y := 1) rfl (by decide) (by have _ := q_lo32 (x := lx28); have _ := q_hi32 (x := lx28); have t1 : lx28.toInt ≤ 128 := i30; omega) (by have _ := q_lo32 (x := lx28); have _ := q_hi32 (x := lx28); have t1 : lx28.toInt ≤ 128 := i30; omega))
            refine lv_iinc (v := a94) (lv' := [(4, .int a94), (3, .int 0), (0, .ref (q 119)), (1, .int x2), (2, .int x3)]) hx hb d_19_36_78 hl (k := 1) rfl (e95) (by decide) rfl (fun ls hl => ?_)
            refine lv_goto (tgt := 38) hx hb d_19_36_81 (by decide) ?_
            exact ih34 ((a94 : Int32), (0 : Int32)) _ _ _ ws (show (128 - a94.toInt).toNat < (128 - lx28.toInt).toNat from by have t1 : a94.toInt = lx28.toInt + 1 := b96; have t2 : lx28.toInt ≤ 128 := i30; have t3 : lx28.toInt < 128 := b91; omega) ⟨(show q_F (a94.toInt ≤ 128) from (show a94.toInt ≤ 128 from by have t1 : lx28.toInt < 128 := b91; have t2 : a94.toInt = lx28.toInt + 1 := b96; omega)), (show q_F (0 ≤ 1) from (show 0 ≤ 1 from by omega)), (show q_F (0 ≤ 0) from (show 0 ≤ 0 from by omega)), (show q_F (1 ≤ a94.toInt + 0) from (show 1 ≤ a94.toInt + 0 from by have t1 : lx29.toInt ≤ 1 := i31; have t2 : 1 ≤ lx28.toInt + lx29.toInt := i33; have t3 : a94.toInt = lx28.toInt + 1 := b96; omega)), V, q_lw hl (q_lw1 0 rfl (q_lw1 1 rfl (q_lw1 2 rfl (q_lw1 3 rfl (q_lw1 4 rfl q_lw0))))), ⟨fm39, Nat.lt_of_lt_of_le (show (128 - a94.toInt).toNat < (128 - lx28.toInt).toNat from by have t1 : a94.toInt = lx28.toInt + 1 := b96; have t2 : lx28.toInt ≤ 128 := i30; have t3 : lx28.toInt < 128 := b91; omega) (Nat.le_of_lt_succ hf38), (show F_WR_limb_L38 x2 x3 t0_0 t0_1 t0_2 t0_3 t0_4 t0_5 t0_6 t1_0 t2_0 fm39 a94 0 = (F_WR_limb x2 x3 t0_0 t0_1 t0_2 t0_3 t0_4 t0_5 t0_6 t1_0 t2_0) from Eq.trans (by rw [← e95, F_WR_limb_L38.eq_2, if_neg c86, if_neg c89, if_pos c92]) hR35), (show True ∧ S_WR_limb_L38 x2 x3 t0_0 t0_1 t0_2 t0_3 t0_4 t0_5 t0_6 t1_0 t2_0 fm39 a94 0 from (by rw [← e95]; have h := hS36; rw [S_WR_limb_L38.eq_2] at h; rw [if_neg c86] at h; rw [if_neg c89] at h; rw [if_pos c92] at h; with_reducible exact h))⟩⟩
          ·
            refine lv_aload_n hx hb d_19_36_56 rfl (lv_at hl 2 rfl) ?_
            refine q_get (ci := 13) (j := 4) (v := .ref (q 121)) C0 V i_WR rfl rfl hT0 (by decide) w_1928 rfl d_19_36_57 ?_
            refine lv_sipush (v := 128) hx hb d_19_36_60 (by decide) ?_
            refine lv_iload_n hx hb d_19_36_63 rfl (lv_at hl 3 rfl) ?_
            refine lv_imul hx hb d_19_36_64 ?_
            obtain ⟨a98, e99⟩ := q_nm (128 * x2 : Int32)
            refine q_ti (v := a98) e99 ?_
            have b100 : q_F (a98.toInt = 128 * x2.toInt) := (by rw [← e99]; show (128 * x2 : Int32).toInt = 128 * x2.toInt; exact q_mulI (x := 128) (y := x2.toInt) (by decide) rfl (by have t1 : 0 ≤ x2.toInt := ob20; have t2 : x2.toInt ≤ 10 := ob21; omega) (by have t1 : 0 ≤ x2.toInt := ob20; have t2 : x2.toInt ≤ 10 := ob21; omega))
            refine lv_iload hx hb d_19_36_65 (lv_at hl 0 rfl) ?_
            refine lv_iadd hx hb d_19_36_67 ?_
            obtain ⟨a101, e102⟩ := q_nm (a98 + lx28 : Int32)
            refine q_ti (v := a101) e102 ?_
            have b103 : q_F (a101.toInt = a98.toInt + lx28.toInt) := (by rw [← e102]; show (a98 + lx28 : Int32).toInt = a98.toInt + lx28.toInt; exact q_addI (x := a98.toInt) (y := lx28.toInt) rfl rfl (by have t1 : 0 ≤ x2.toInt := ob20; have t2 : lx29.toInt ≤ 1 := i31; have t3 : 1 ≤ lx28.toInt + lx29.toInt := i33; have t4 : a98.toInt = 128 * x2.toInt := b100; have t5 : lx28.toInt < 128 := b91; have _ := q_lo32 (x := a98); have _ := q_hi32 (x := a98); have _ := q_lo32 (x := x2); have _ := q_hi32 (x := x2); omega) (by have t1 : 0 ≤ x2.toInt := ob20; have t2 : lx29.toInt ≤ 1 := i31; have t3 : 1 ≤ lx28.toInt + lx29.toInt := i33; have t4 : a98.toInt = 128 * x2.toInt := b100; have t5 : lx28.toInt < 128 := b91; have _ := q_lo32 (x := a98); have _ := q_hi32 (x := a98); have _ := q_lo32 (x := x2); have _ := q_hi32 (x := x2); omega))
            refine q_iald C0 V hT1 (q_ix (x := a101.toInt) rfl (by have t1 : 0 ≤ x2.toInt := ob20; have t2 : lx29.toInt ≤ 1 := i31; have t3 : 1 ≤ lx28.toInt + lx29.toInt := i33; have t4 : a98.toInt = 128 * x2.toInt := b100; have t5 : a101.toInt = a98.toInt + lx28.toInt := b103; omega) (by have t1 : 0 ≤ x2.toInt := ob20; have t2 : lx29.toInt ≤ 1 := i31; have t3 : 1 ≤ lx28.toInt + lx29.toInt := i33; have t4 : a98.toInt = 128 * x2.toInt := b100; have t5 : a101.toInt = a98.toInt + lx28.toInt := b103; have t6 : x2.toInt ≤ 10 := ob21; have t7 : lx28.toInt < 128 := b91; have e9 : (((1408 : Int32).toNatClampNeg : Nat) : Int) = 1408 := (by decide); omega)) d_19_36_68 ?_
            obtain ⟨a104, e105⟩ := q_nm (t1_0 a101.toNatClampNeg : Int32)
            refine q_ti (v := a104) e105 ?_
            refine lv_if_ne (tgt := 76) hx hb d_19_36_69 (by decide) (fun c106 => ?_) (fun c106 => ?_)
            ·
              refine lv_iconst (v := 0) hx hb d_19_36_76 (by decide) ?_
              refine lv_istore_n (lv' := [(3, .int 0), (4, .int lx28), (0, .ref (q 119)), (1, .int x2), (2, .int x3)]) hx hb d_19_36_77 rfl hl (by decide) rfl (fun ls hl => ?_)
              obtain ⟨a108, e109⟩ := q_nm (lx28 + 1 : Int32)
              have b110 : q_F (a108.toInt = lx28.toInt + 1) := (by rw [← e109]; exact q_addI (y := 1) rfl (by decide) (by have _ := q_lo32 (x := lx28); have _ := q_hi32 (x := lx28); have t1 : lx28.toInt ≤ 128 := i30; omega) (by have _ := q_lo32 (x := lx28); have _ := q_hi32 (x := lx28); have t1 : lx28.toInt ≤ 128 := i30; omega))
              refine lv_iinc (v := a108) (lv' := [(4, .int a108), (3, .int 0), (0, .ref (q 119)), (1, .int x2), (2, .int x3)]) hx hb d_19_36_78 hl (k := 1) rfl (e109) (by decide) rfl (fun ls hl => ?_)
              refine lv_goto (tgt := 38) hx hb d_19_36_81 (by decide) ?_
              exact ih34 ((a108 : Int32), (0 : Int32)) _ _ _ ws (show (128 - a108.toInt).toNat < (128 - lx28.toInt).toNat from by have t1 : a108.toInt = lx28.toInt + 1 := b110; have t2 : lx28.toInt ≤ 128 := i30; have t3 : lx28.toInt < 128 := b91; omega) ⟨(show q_F (a108.toInt ≤ 128) from (show a108.toInt ≤ 128 from by have t1 : lx28.toInt < 128 := b91; have t2 : a108.toInt = lx28.toInt + 1 := b110; omega)), (show q_F (0 ≤ 1) from (show 0 ≤ 1 from by omega)), (show q_F (0 ≤ 0) from (show 0 ≤ 0 from by omega)), (show q_F (1 ≤ a108.toInt + 0) from (show 1 ≤ a108.toInt + 0 from by have t1 : lx29.toInt ≤ 1 := i31; have t2 : 1 ≤ lx28.toInt + lx29.toInt := i33; have t3 : a108.toInt = lx28.toInt + 1 := b110; omega)), V, q_lw hl (q_lw1 0 rfl (q_lw1 1 rfl (q_lw1 2 rfl (q_lw1 3 rfl (q_lw1 4 rfl q_lw0))))), ⟨fm39, Nat.lt_of_lt_of_le (show (128 - a108.toInt).toNat < (128 - lx28.toInt).toNat from by have t1 : a108.toInt = lx28.toInt + 1 := b110; have t2 : lx28.toInt ≤ 128 := i30; have t3 : lx28.toInt < 128 := b91; omega) (Nat.le_of_lt_succ hf38), (show F_WR_limb_L38 x2 x3 t0_0 t0_1 t0_2 t0_3 t0_4 t0_5 t0_6 t1_0 t2_0 fm39 a108 0 = (F_WR_limb x2 x3 t0_0 t0_1 t0_2 t0_3 t0_4 t0_5 t0_6 t1_0 t2_0) from Eq.trans (by have c106x := c106; rw [← e105, ← e102, ← e99] at c106x; rw [← e109, F_WR_limb_L38.eq_2, if_neg c86, if_neg c89, if_neg c92, if_neg c106x]) hR35), (show True ∧ S_WR_limb_L38 x2 x3 t0_0 t0_1 t0_2 t0_3 t0_4 t0_5 t0_6 t1_0 t2_0 fm39 a108 0 from (by rw [← e109]; have h := hS36; rw [S_WR_limb_L38.eq_2] at h; rw [if_neg c86] at h; rw [if_neg c89] at h; rw [if_neg c92] at h; have c106x := c106; rw [← e105, ← e102, ← e99] at c106x; rw [if_neg c106x] at h; with_reducible exact h))⟩⟩
            ·
              refine lv_iconst (v := 1) hx hb d_19_36_72 (by decide) ?_
              refine lv_goto (tgt := 77) hx hb d_19_36_73 (by decide) ?_
              refine lv_istore_n (lv' := [(3, .int 1), (4, .int lx28), (0, .ref (q 119)), (1, .int x2), (2, .int x3)]) hx hb d_19_36_77 rfl hl (by decide) rfl (fun ls hl => ?_)
              obtain ⟨a112, e113⟩ := q_nm (lx28 + 1 : Int32)
              have b114 : q_F (a112.toInt = lx28.toInt + 1) := (by rw [← e113]; exact q_addI (y := 1) rfl (by decide) (by have _ := q_lo32 (x := lx28); have _ := q_hi32 (x := lx28); have t1 : lx28.toInt ≤ 128 := i30; omega) (by have _ := q_lo32 (x := lx28); have _ := q_hi32 (x := lx28); have t1 : lx28.toInt ≤ 128 := i30; omega))
              refine lv_iinc (v := a112) (lv' := [(4, .int a112), (3, .int 1), (0, .ref (q 119)), (1, .int x2), (2, .int x3)]) hx hb d_19_36_78 hl (k := 1) rfl (e113) (by decide) rfl (fun ls hl => ?_)
              refine lv_goto (tgt := 38) hx hb d_19_36_81 (by decide) ?_
              exact ih34 ((a112 : Int32), (1 : Int32)) _ _ _ ws (show (128 - a112.toInt).toNat < (128 - lx28.toInt).toNat from by have t1 : a112.toInt = lx28.toInt + 1 := b114; have t2 : lx28.toInt ≤ 128 := i30; have t3 : lx28.toInt < 128 := b91; omega) ⟨(show q_F (a112.toInt ≤ 128) from (show a112.toInt ≤ 128 from by have t1 : lx28.toInt < 128 := b91; have t2 : a112.toInt = lx28.toInt + 1 := b114; omega)), (show q_F (1 ≤ 1) from (show 1 ≤ 1 from by omega)), (show q_F (0 ≤ 1) from (show 0 ≤ 1 from by omega)), (show q_F (1 ≤ a112.toInt + 1) from (show 1 ≤ a112.toInt + 1 from by have t1 : lx29.toInt ≤ 1 := i31; have t2 : 1 ≤ lx28.toInt + lx29.toInt := i33; have t3 : a112.toInt = lx28.toInt + 1 := b114; omega)), V, q_lw hl (q_lw1 0 rfl (q_lw1 1 rfl (q_lw1 2 rfl (q_lw1 3 rfl (q_lw1 4 rfl q_lw0))))), ⟨fm39, Nat.lt_of_lt_of_le (show (128 - a112.toInt).toNat < (128 - lx28.toInt).toNat from by have t1 : a112.toInt = lx28.toInt + 1 := b114; have t2 : lx28.toInt ≤ 128 := i30; have t3 : lx28.toInt < 128 := b91; omega) (Nat.le_of_lt_succ hf38), (show F_WR_limb_L38 x2 x3 t0_0 t0_1 t0_2 t0_3 t0_4 t0_5 t0_6 t1_0 t2_0 fm39 a112 1 = (F_WR_limb x2 x3 t0_0 t0_1 t0_2 t0_3 t0_4 t0_5 t0_6 t1_0 t2_0) from Eq.trans (by have c106x := c106; rw [← e105, ← e102, ← e99] at c106x; rw [← e113, F_WR_limb_L38.eq_2, if_neg c86, if_neg c89, if_neg c92, if_pos c106x]) hR35), (show True ∧ S_WR_limb_L38 x2 x3 t0_0 t0_1 t0_2 t0_3 t0_4 t0_5 t0_6 t1_0 t2_0 fm39 a112 1 from (by rw [← e113]; have h := hS36; rw [S_WR_limb_L38.eq_2] at h; rw [if_neg c86] at h; rw [if_neg c89] at h; rw [if_neg c92] at h; have c106x := c106; rw [← e105, ← e102, ← e99] at c106x; rw [if_pos c106x] at h; with_reducible exact h))⟩⟩
  ·
    refine lv_iload_n hx hb d_19_36_9 rfl (lv_at hl 2 rfl) ?_
    refine lv_sipush (v := 128) hx hb d_19_36_10 (by decide) ?_
    refine lv_icmp_ge (tgt := 31) hx hb d_19_36_13 (by decide) (fun c116 => ?_) (fun c116 => ?_)
    ·
      refine lv_iconst (v := 0) hx hb d_19_36_31 (by decide) ?_
      exact q_reti C0 V (⟨rfl, (show (0 : Int32) = (F_WR_limb x2 x3 t0_0 t0_1 t0_2 t0_3 t0_4 t0_5 t0_6 t1_0 t2_0) from (by have c24x := c24; rw [← e23] at c24x; rw [F_WR_limb.eq_1, if_pos c24x, if_pos c116]))⟩) d_19_36_32
    ·
      have b118 : q_F (x3.toInt < 128) := (q_nleI c116)
      refine lv_aload_n hx hb d_19_36_16 rfl (lv_at hl 0 rfl) ?_
      refine q_get (ci := 13) (j := 4) (v := .ref (q 121)) C0 V i_WR rfl rfl hT0 (by decide) w_1928 rfl d_19_36_17 ?_
      refine lv_sipush (v := 128) hx hb d_19_36_20 (by decide) ?_
      refine lv_iload_n hx hb d_19_36_23 rfl (lv_at hl 1 rfl) ?_
      refine lv_imul hx hb d_19_36_24 ?_
      obtain ⟨a119, e120⟩ := q_nm (128 * x2 : Int32)
      refine q_ti (v := a119) e120 ?_
      have b121 : q_F (a119.toInt = 128 * x2.toInt) := (by rw [← e120]; show (128 * x2 : Int32).toInt = 128 * x2.toInt; exact q_mulI (x := 128) (y := x2.toInt) (by decide) rfl (by have t1 : 0 ≤ x2.toInt := ob20; have t2 : x2.toInt ≤ 10 := ob21; omega) (by have t1 : 0 ≤ x2.toInt := ob20; have t2 : x2.toInt ≤ 10 := ob21; omega))
      refine lv_iload_n hx hb d_19_36_25 rfl (lv_at hl 2 rfl) ?_
      refine lv_iadd hx hb d_19_36_26 ?_
      obtain ⟨a122, e123⟩ := q_nm (a119 + x3 : Int32)
      refine q_ti (v := a122) e123 ?_
      have b124 : q_F (a122.toInt = a119.toInt + x3.toInt) := (by rw [← e123]; show (a119 + x3 : Int32).toInt = a119.toInt + x3.toInt; exact q_addI (x := a119.toInt) (y := x3.toInt) rfl rfl (by have t1 : 0 ≤ x2.toInt := ob20; have t2 : a119.toInt = 128 * x2.toInt := b121; have _ := q_lo32 (x := x3); have _ := q_hi32 (x := x3); have t3 : x3.toInt < 128 := b118; have _ := q_lo32 (x := a119); have _ := q_hi32 (x := a119); have _ := q_lo32 (x := x2); have _ := q_hi32 (x := x2); omega) (by have t1 : 0 ≤ x2.toInt := ob20; have t2 : a119.toInt = 128 * x2.toInt := b121; have _ := q_lo32 (x := x3); have _ := q_hi32 (x := x3); have t3 : x3.toInt < 128 := b118; have _ := q_lo32 (x := a119); have _ := q_hi32 (x := a119); have _ := q_lo32 (x := x2); have _ := q_hi32 (x := x2); omega))
      have ob125 : q_F (0 ≤ a122.toInt) := (by rw [← e123, ← e120]; have h := hS; rw [S_WR_limb.eq_1] at h; replace h := q_s2 h; replace h := q_s2 h; have c24x := c24; rw [← e23] at c24x; rw [if_pos c24x] at h; rw [if_neg c116] at h; exact h.2.1)
      refine q_iald C0 V hT1 (q_ix (x := a122.toInt) rfl (by first | with_reducible exact q_fe ob125 | (have t1 : 0 ≤ a122.toInt := ob125; omega)) (by have t1 : 0 ≤ a122.toInt := ob125; have t2 : x2.toInt ≤ 10 := ob21; have t3 : x3.toInt < 128 := b118; have t4 : a119.toInt = 128 * x2.toInt := b121; have t5 : a122.toInt = a119.toInt + x3.toInt := b124; have e9 : (((1408 : Int32).toNatClampNeg : Nat) : Int) = 1408 := (by decide); omega)) d_19_36_27 ?_
      obtain ⟨a126, e127⟩ := q_nm (t1_0 a122.toNatClampNeg : Int32)
      refine q_ti (v := a126) e127 ?_
      refine lv_goto (tgt := 32) hx hb d_19_36_28 (by decide) ?_
      exact q_reti C0 V (⟨rfl, (show a126 = (F_WR_limb x2 x3 t0_0 t0_1 t0_2 t0_3 t0_4 t0_5 t0_6 t1_0 t2_0) from (by have c24x := c24; rw [← e23] at c24x; rw [← e127, ← e123, ← e120, F_WR_limb.eq_1, if_pos c24x, if_neg c116]))⟩) d_19_36_32
theorem d_19_41_0 : decode prog_19_method_41_code 0 = .ok (.aload_n 0, 1) := by decide +kernel
theorem d_19_41_1 : decode prog_19_method_41_code 1 = .ok (.iload_n 1, 1) := by decide +kernel
theorem d_19_41_2 : decode prog_19_method_41_code 2 = .ok (.invokestatic 91, 3) := by decide +kernel
theorem d_19_41_22 : decode prog_19_method_41_code 22 = .ok (.putfield 53, 3) := by decide +kernel
theorem d_19_41_25 : decode prog_19_method_41_code 25 = .ok (.aload_n 0, 1) := by decide +kernel
theorem d_19_41_26 : decode prog_19_method_41_code 26 = .ok (.getfield 53, 3) := by decide +kernel
theorem d_19_41_29 : decode prog_19_method_41_code 29 = .ok (.ifCond .le 5, 3) := by decide +kernel
theorem d_19_41_34 : decode prog_19_method_41_code 34 = .ok (.iload_n 2, 1) := by decide +kernel
theorem d_19_41_35 : decode prog_19_method_41_code 35 = .ok (.ifCond .ne 44, 3) := by decide +kernel
theorem d_19_41_79 : decode prog_19_method_41_code 79 = .ok (.iload_n 2, 1) := by decide +kernel
theorem d_19_41_80 : decode prog_19_method_41_code 80 = .ok (.iconst 1, 1) := by decide +kernel
theorem d_19_41_81 : decode prog_19_method_41_code 81 = .ok (.if_icmp .ne 32, 3) := by decide +kernel
theorem d_19_41_113 : decode prog_19_method_41_code 113 = .ok (.aload_n 0, 1) := by decide +kernel
theorem d_19_41_114 : decode prog_19_method_41_code 114 = .ok (.getfield 16, 3) := by decide +kernel
theorem d_19_41_117 : decode prog_19_method_41_code 117 = .ok (.iload_n 1, 1) := by decide +kernel
theorem d_19_41_118 : decode prog_19_method_41_code 118 = .ok (.baload, 1) := by decide +kernel
theorem d_19_41_127 : decode prog_19_method_41_code 127 = .ok (.istore_n 3, 1) := by decide +kernel
theorem d_19_41_128 : decode prog_19_method_41_code 128 = .ok (.lconst 0, 1) := by decide +kernel
theorem d_19_41_129 : decode prog_19_method_41_code 129 = .ok (.lstore 4, 2) := by decide +kernel
theorem d_19_41_131 : decode prog_19_method_41_code 131 = .ok (.lconst 0, 1) := by decide +kernel
theorem d_19_41_132 : decode prog_19_method_41_code 132 = .ok (.lstore 6, 2) := by decide +kernel
theorem d_19_41_134 : decode prog_19_method_41_code 134 = .ok (.ldc2_w 153, 3) := by decide +kernel
set_option maxRecDepth 100000 in
theorem w_2564 : (Cond.constantLong "NumberHouseModel$WholeRows" (153 : Nat) (-1 : Int64)) ∈ q_tbl := q_of11 164 rfl (by decide +kernel)
theorem d_19_41_137 : decode prog_19_method_41_code 137 = .ok (.lstore 8, 2) := by decide +kernel
theorem d_19_41_139 : decode prog_19_method_41_code 139 = .ok (.sipush 2047, 3) := by decide +kernel
theorem d_19_41_142 : decode prog_19_method_41_code 142 = .ok (.istore 10, 2) := by decide +kernel
theorem d_19_41_144 : decode prog_19_method_41_code 144 = .ok (.iload 10, 2) := by decide +kernel
theorem d_19_41_146 : decode prog_19_method_41_code 146 = .ok (.ifCond .lt 87, 3) := by decide +kernel
theorem d_19_41_233 : decode prog_19_method_41_code 233 = .ok (.iload_n 2, 1) := by decide +kernel
theorem d_19_41_234 : decode prog_19_method_41_code 234 = .ok (.iconst 2, 1) := by decide +kernel
theorem d_19_41_235 : decode prog_19_method_41_code 235 = .ok (.if_icmp .ne 8, 3) := by decide +kernel
theorem d_19_41_243 : decode prog_19_method_41_code 243 = .ok (.iload_n 2, 1) := by decide +kernel
theorem d_19_41_244 : decode prog_19_method_41_code 244 = .ok (.iconst 3, 1) := by decide +kernel
theorem d_19_41_245 : decode prog_19_method_41_code 245 = .ok (.if_icmp .ne 8, 3) := by decide +kernel
theorem d_19_41_253 : decode prog_19_method_41_code 253 = .ok (.lload 8, 2) := by decide +kernel
theorem d_19_41_255 : decode prog_19_method_41_code 255 = .ok (.lreturn, 1) := by decide +kernel
theorem d_19_41_248 : decode prog_19_method_41_code 248 = .ok (.lload 6, 2) := by decide +kernel
theorem d_19_41_250 : decode prog_19_method_41_code 250 = .ok (.goto 5, 3) := by decide +kernel
theorem d_19_41_238 : decode prog_19_method_41_code 238 = .ok (.lload 4, 2) := by decide +kernel
theorem d_19_41_240 : decode prog_19_method_41_code 240 = .ok (.goto 15, 3) := by decide +kernel
theorem d_19_41_149 : decode prog_19_method_41_code 149 = .ok (.aload_n 0, 1) := by decide +kernel
theorem d_19_41_150 : decode prog_19_method_41_code 150 = .ok (.iload_n 1, 1) := by decide +kernel
theorem d_19_41_151 : decode prog_19_method_41_code 151 = .ok (.iload 10, 2) := by decide +kernel
theorem d_19_41_153 : decode prog_19_method_41_code 153 = .ok (.bipush 16, 2) := by decide +kernel
theorem d_19_41_155 : decode prog_19_method_41_code 155 = .ok (.idiv, 1) := by decide +kernel
theorem d_19_41_156 : decode prog_19_method_41_code 156 = .ok (.invokevirtual 148, 3) := by decide +kernel
set_option maxRecDepth 100000 in
theorem w_2558 : (Cond.code ({ cls := "NumberHouseModel$WholeRows", name := "limb", desc := "(II)I" } : MethodName) prog_19_method_36_code (5 : Nat) (some .int)) ∈ q_tbl := q_of11 158 rfl (by decide +kernel)
set_option maxRecDepth 100000 in
theorem w_2555 : (Cond.methodLink "NumberHouseModel$WholeRows" (148 : Nat) ({ cls := "NumberHouseModel$WholeRows", name := "limb", desc := "(II)I" } : MethodName)) ∈ q_tbl := q_of11 155 rfl (by decide +kernel)
set_option maxRecDepth 100000 in
theorem w_2557 : (Cond.instanceMethod ({ cls := "NumberHouseModel$WholeRows", name := "limb", desc := "(II)I" } : MethodName)) ∈ q_tbl := q_of11 157 rfl (by decide +kernel)
theorem ws_85 : Cond.selects "NumberHouseModel$WholeRows" (⟨"NumberHouseModel$WholeRows", "limb", "(II)I"⟩ : MethodName) (⟨"NumberHouseModel$WholeRows", "limb", "(II)I"⟩ : MethodName) ∈ q_tbl := q_ofs 85 (by decide +kernel) (by decide +kernel)
theorem LV_WR_148 : q_LV "NumberHouseModel$WholeRows" 148 y_WR_limb prog_19_method_36_code 5 (some .int) 2 := ⟨w_2558, w_15, w_2555, w_2557, ws_85, ⟨by decide, by decide, by decide +kernel⟩⟩
theorem d_19_41_159 : decode prog_19_method_41_code 159 = .ok (.iload 10, 2) := by decide +kernel
theorem d_19_41_161 : decode prog_19_method_41_code 161 = .ok (.bipush 16, 2) := by decide +kernel
theorem d_19_41_163 : decode prog_19_method_41_code 163 = .ok (.irem, 1) := by decide +kernel
theorem d_19_41_164 : decode prog_19_method_41_code 164 = .ok (.ishr, 1) := by decide +kernel
theorem d_19_41_165 : decode prog_19_method_41_code 165 = .ok (.iconst 1, 1) := by decide +kernel
theorem d_19_41_166 : decode prog_19_method_41_code 166 = .ok (.iand, 1) := by decide +kernel
theorem d_19_41_167 : decode prog_19_method_41_code 167 = .ok (.istore 11, 2) := by decide +kernel
theorem d_19_41_169 : decode prog_19_method_41_code 169 = .ok (.iload 11, 2) := by decide +kernel
theorem d_19_41_171 : decode prog_19_method_41_code 171 = .ok (.iload_n 3, 1) := by decide +kernel
theorem d_19_41_192 : decode prog_19_method_41_code 192 = .ok (.lstore 4, 2) := by decide +kernel
theorem d_19_41_194 : decode prog_19_method_41_code 194 = .ok (.iload 11, 2) := by decide +kernel
theorem d_19_41_196 : decode prog_19_method_41_code 196 = .ok (.iload_n 3, 1) := by decide +kernel
theorem d_19_41_209 : decode prog_19_method_41_code 209 = .ok (.lstore 6, 2) := by decide +kernel
theorem d_19_41_211 : decode prog_19_method_41_code 211 = .ok (.iload 11, 2) := by decide +kernel
theorem d_19_41_213 : decode prog_19_method_41_code 213 = .ok (.iconst 1, 1) := by decide +kernel
theorem d_19_41_214 : decode prog_19_method_41_code 214 = .ok (.if_icmp .ne 9, 3) := by decide +kernel
theorem d_19_41_223 : decode prog_19_method_41_code 223 = .ok (.lload 8, 2) := by decide +kernel
theorem d_19_41_225 : decode prog_19_method_41_code 225 = .ok (.lstore 8, 2) := by decide +kernel
theorem d_19_41_227 : decode prog_19_method_41_code 227 = .ok (.iinc 10 (-1), 3) := by decide +kernel
theorem d_19_41_230 : decode prog_19_method_41_code 230 = .ok (.goto (-86), 3) := by decide +kernel
theorem d_19_41_217 : decode prog_19_method_41_code 217 = .ok (.iload 10, 2) := by decide +kernel
theorem d_19_41_219 : decode prog_19_method_41_code 219 = .ok (.i2l, 1) := by decide +kernel
theorem d_19_41_220 : decode prog_19_method_41_code 220 = .ok (.goto 5, 3) := by decide +kernel
theorem d_19_41_197 : decode prog_19_method_41_code 197 = .ok (.if_icmp .eq 10, 3) := by decide +kernel
theorem d_19_41_207 : decode prog_19_method_41_code 207 = .ok (.lload 6, 2) := by decide +kernel
theorem d_19_41_200 : decode prog_19_method_41_code 200 = .ok (.lload 6, 2) := by decide +kernel
theorem d_19_41_202 : decode prog_19_method_41_code 202 = .ok (.lconst 1, 1) := by decide +kernel
theorem d_19_41_203 : decode prog_19_method_41_code 203 = .ok (.ladd, 1) := by decide +kernel
theorem d_19_41_204 : decode prog_19_method_41_code 204 = .ok (.goto 5, 3) := by decide +kernel
theorem d_19_41_190 : decode prog_19_method_41_code 190 = .ok (.lload 4, 2) := by decide +kernel
theorem d_19_41_172 : decode prog_19_method_41_code 172 = .ok (.if_icmp .eq 18, 3) := by decide +kernel
theorem d_19_41_175 : decode prog_19_method_41_code 175 = .ok (.lload 4, 2) := by decide +kernel
theorem d_19_41_177 : decode prog_19_method_41_code 177 = .ok (.lconst 0, 1) := by decide +kernel
theorem d_19_41_178 : decode prog_19_method_41_code 178 = .ok (.lcmp, 1) := by decide +kernel
theorem d_19_41_179 : decode prog_19_method_41_code 179 = .ok (.ifCond .ne 11, 3) := by decide +kernel
theorem d_19_41_182 : decode prog_19_method_41_code 182 = .ok (.iload 10, 2) := by decide +kernel
theorem d_19_41_184 : decode prog_19_method_41_code 184 = .ok (.iconst 1, 1) := by decide +kernel
theorem d_19_41_185 : decode prog_19_method_41_code 185 = .ok (.iadd, 1) := by decide +kernel
theorem d_19_41_186 : decode prog_19_method_41_code 186 = .ok (.i2l, 1) := by decide +kernel
theorem d_19_41_187 : decode prog_19_method_41_code 187 = .ok (.goto 5, 3) := by decide +kernel
theorem d_19_41_119 : decode prog_19_method_41_code 119 = .ok (.ifCond .eq 7, 3) := by decide +kernel
theorem d_19_41_126 : decode prog_19_method_41_code 126 = .ok (.iconst 0, 1) := by decide +kernel
theorem d_19_41_122 : decode prog_19_method_41_code 122 = .ok (.iconst 1, 1) := by decide +kernel
theorem d_19_41_123 : decode prog_19_method_41_code 123 = .ok (.goto 4, 3) := by decide +kernel
theorem d_19_41_84 : decode prog_19_method_41_code 84 = .ok (.aload_n 0, 1) := by decide +kernel
theorem d_19_41_85 : decode prog_19_method_41_code 85 = .ok (.iload_n 1, 1) := by decide +kernel
theorem d_19_41_86 : decode prog_19_method_41_code 86 = .ok (.invokevirtual 119, 3) := by decide +kernel
theorem d_19_41_89 : decode prog_19_method_41_code 89 = .ok (.ifCond .eq 7, 3) := by decide +kernel
theorem d_19_41_96 : decode prog_19_method_41_code 96 = .ok (.aload_n 0, 1) := by decide +kernel
theorem d_19_41_97 : decode prog_19_method_41_code 97 = .ok (.getfield 16, 3) := by decide +kernel
theorem d_19_41_100 : decode prog_19_method_41_code 100 = .ok (.iload_n 1, 1) := by decide +kernel
theorem d_19_41_101 : decode prog_19_method_41_code 101 = .ok (.baload, 1) := by decide +kernel
theorem d_19_41_102 : decode prog_19_method_41_code 102 = .ok (.ifCond .eq 9, 3) := by decide +kernel
theorem d_19_41_111 : decode prog_19_method_41_code 111 = .ok (.lconst 1, 1) := by decide +kernel
theorem d_19_41_112 : decode prog_19_method_41_code 112 = .ok (.lreturn, 1) := by decide +kernel
theorem d_19_41_105 : decode prog_19_method_41_code 105 = .ok (.ldc2_w 153, 3) := by decide +kernel
theorem d_19_41_108 : decode prog_19_method_41_code 108 = .ok (.goto 4, 3) := by decide +kernel
theorem d_19_41_92 : decode prog_19_method_41_code 92 = .ok (.lconst 0, 1) := by decide +kernel
theorem d_19_41_93 : decode prog_19_method_41_code 93 = .ok (.goto 19, 3) := by decide +kernel
theorem d_19_41_38 : decode prog_19_method_41_code 38 = .ok (.aload_n 0, 1) := by decide +kernel
theorem d_19_41_39 : decode prog_19_method_41_code 39 = .ok (.iload_n 1, 1) := by decide +kernel
theorem d_19_41_40 : decode prog_19_method_41_code 40 = .ok (.iconst 0, 1) := by decide +kernel
theorem d_19_41_41 : decode prog_19_method_41_code 41 = .ok (.invokevirtual 148, 3) := by decide +kernel
theorem d_19_41_44 : decode prog_19_method_41_code 44 = .ok (.i2l, 1) := by decide +kernel
theorem d_19_41_45 : decode prog_19_method_41_code 45 = .ok (.aload_n 0, 1) := by decide +kernel
theorem d_19_41_46 : decode prog_19_method_41_code 46 = .ok (.iload_n 1, 1) := by decide +kernel
theorem d_19_41_47 : decode prog_19_method_41_code 47 = .ok (.iconst 1, 1) := by decide +kernel
theorem d_19_41_48 : decode prog_19_method_41_code 48 = .ok (.invokevirtual 148, 3) := by decide +kernel
theorem d_19_41_51 : decode prog_19_method_41_code 51 = .ok (.i2l, 1) := by decide +kernel
theorem d_19_41_52 : decode prog_19_method_41_code 52 = .ok (.bipush 16, 2) := by decide +kernel
theorem d_19_41_54 : decode prog_19_method_41_code 54 = .ok (.lshl, 1) := by decide +kernel
theorem d_19_41_55 : decode prog_19_method_41_code 55 = .ok (.lor, 1) := by decide +kernel
theorem d_19_41_56 : decode prog_19_method_41_code 56 = .ok (.aload_n 0, 1) := by decide +kernel
theorem d_19_41_57 : decode prog_19_method_41_code 57 = .ok (.iload_n 1, 1) := by decide +kernel
theorem d_19_41_58 : decode prog_19_method_41_code 58 = .ok (.iconst 2, 1) := by decide +kernel
theorem d_19_41_59 : decode prog_19_method_41_code 59 = .ok (.invokevirtual 148, 3) := by decide +kernel
theorem d_19_41_62 : decode prog_19_method_41_code 62 = .ok (.i2l, 1) := by decide +kernel
theorem d_19_41_63 : decode prog_19_method_41_code 63 = .ok (.bipush 32, 2) := by decide +kernel
theorem d_19_41_65 : decode prog_19_method_41_code 65 = .ok (.lshl, 1) := by decide +kernel
theorem d_19_41_66 : decode prog_19_method_41_code 66 = .ok (.lor, 1) := by decide +kernel
theorem d_19_41_67 : decode prog_19_method_41_code 67 = .ok (.aload_n 0, 1) := by decide +kernel
theorem d_19_41_68 : decode prog_19_method_41_code 68 = .ok (.iload_n 1, 1) := by decide +kernel
theorem d_19_41_69 : decode prog_19_method_41_code 69 = .ok (.iconst 3, 1) := by decide +kernel
theorem d_19_41_70 : decode prog_19_method_41_code 70 = .ok (.invokevirtual 148, 3) := by decide +kernel
theorem d_19_41_73 : decode prog_19_method_41_code 73 = .ok (.i2l, 1) := by decide +kernel
theorem d_19_41_74 : decode prog_19_method_41_code 74 = .ok (.bipush 48, 2) := by decide +kernel
theorem d_19_41_76 : decode prog_19_method_41_code 76 = .ok (.lshl, 1) := by decide +kernel
theorem d_19_41_77 : decode prog_19_method_41_code 77 = .ok (.lor, 1) := by decide +kernel
theorem d_19_41_78 : decode prog_19_method_41_code 78 = .ok (.lreturn, 1) := by decide +kernel
theorem d_19_41_32 : decode prog_19_method_41_code 32 = .ok (.lconst 0, 1) := by decide +kernel
theorem d_19_41_33 : decode prog_19_method_41_code 33 = .ok (.lreturn, 1) := by decide +kernel
theorem d_19_41_17 : decode prog_19_method_41_code 17 = .ok (.iconst 1, 1) := by decide +kernel
theorem d_19_41_18 : decode prog_19_method_41_code 18 = .ok (.goto 4, 3) := by decide +kernel
theorem d_19_41_5 : decode prog_19_method_41_code 5 = .ok (.ifCond .ne 12, 3) := by decide +kernel
theorem d_19_41_8 : decode prog_19_method_41_code 8 = .ok (.iload_n 2, 1) := by decide +kernel
theorem d_19_41_9 : decode prog_19_method_41_code 9 = .ok (.ifCond .lt 8, 3) := by decide +kernel
theorem d_19_41_12 : decode prog_19_method_41_code 12 = .ok (.iload_n 2, 1) := by decide +kernel
theorem d_19_41_13 : decode prog_19_method_41_code 13 = .ok (.iconst 4, 1) := by decide +kernel
theorem d_19_41_14 : decode prog_19_method_41_code 14 = .ok (.if_icmp .le 7, 3) := by decide +kernel
theorem d_19_41_21 : decode prog_19_method_41_code 21 = .ok (.iconst 0, 1) := by decide +kernel
def y_WR_told : MethodName := ⟨"NumberHouseModel$WholeRows", "told", "(II)J"⟩
def F_WR_told_J209 (K_F_WR_told_L144 : Int32 → Int64 → Int64 → Int64 → (Int64 × Int32 × Int32 × Int32 × Int32 × Int32 × Int32 × Int32)) (x2 : Int32) (x3 : Int32) (t0_0 : Int32) (t0_1 : Int32) (t0_2 : Int32) (t0_3 : Int32) (t0_4 : Int32) (t0_5 : Int32) (t0_6 : Int32) (t1_0 : (Nat → Int32)) (t2_0 : (Nat → Int32)) (lx27 : Int32) (lx51 : Int32) (lx67 : Int32) (lx68 : Int64) (lx69 : Int64) (lx70 : Int64) (a107 : Int32) (lx110 : Int64) (lx123 : Int64) : Int64 × Int32 × Int32 × Int32 × Int32 × Int32 × Int32 × Int32 := if a107 = (1 : Int32) then (K_F_WR_told_L144 (lx67 + (-1) : Int32) (lx67.toInt64 : Int64) lx123 lx110) else (K_F_WR_told_L144 (lx67 + (-1) : Int32) lx68 lx123 lx110)
def F_WR_told_J192 (K_F_WR_told_L144 : Int32 → Int64 → Int64 → Int64 → (Int64 × Int32 × Int32 × Int32 × Int32 × Int32 × Int32 × Int32)) (x2 : Int32) (x3 : Int32) (t0_0 : Int32) (t0_1 : Int32) (t0_2 : Int32) (t0_3 : Int32) (t0_4 : Int32) (t0_5 : Int32) (t0_6 : Int32) (t1_0 : (Nat → Int32)) (t2_0 : (Nat → Int32)) (lx27 : Int32) (lx51 : Int32) (lx67 : Int32) (lx68 : Int64) (lx69 : Int64) (lx70 : Int64) (a107 : Int32) (lx110 : Int64) : Int64 × Int32 × Int32 × Int32 × Int32 × Int32 × Int32 × Int32 := if a107 = lx51 then (F_WR_told_J209 K_F_WR_told_L144 x2 x3 t0_0 t0_1 t0_2 t0_3 t0_4 t0_5 t0_6 t1_0 t2_0 lx27 lx51 lx67 lx68 lx69 lx70 a107 lx110 lx69) else (F_WR_told_J209 K_F_WR_told_L144 x2 x3 t0_0 t0_1 t0_2 t0_3 t0_4 t0_5 t0_6 t1_0 t2_0 lx27 lx51 lx67 lx68 lx69 lx70 a107 lx110 (lx69 + 1 : Int64))
def F_WR_told_J190 (K_F_WR_told_L144 : Int32 → Int64 → Int64 → Int64 → (Int64 × Int32 × Int32 × Int32 × Int32 × Int32 × Int32 × Int32)) (x2 : Int32) (x3 : Int32) (t0_0 : Int32) (t0_1 : Int32) (t0_2 : Int32) (t0_3 : Int32) (t0_4 : Int32) (t0_5 : Int32) (t0_6 : Int32) (t1_0 : (Nat → Int32)) (t2_0 : (Nat → Int32)) (lx27 : Int32) (lx51 : Int32) (lx67 : Int32) (lx68 : Int64) (lx69 : Int64) (lx70 : Int64) (a107 : Int32) : Int64 × Int32 × Int32 × Int32 × Int32 × Int32 × Int32 × Int32 := F_WR_told_J192 K_F_WR_told_L144 x2 x3 t0_0 t0_1 t0_2 t0_3 t0_4 t0_5 t0_6 t1_0 t2_0 lx27 lx51 lx67 lx68 lx69 lx70 a107 lx70
def F_WR_told_L144 (x2 : Int32) (x3 : Int32) (t0_0 : Int32) (t0_1 : Int32) (t0_2 : Int32) (t0_3 : Int32) (t0_4 : Int32) (t0_5 : Int32) (t0_6 : Int32) (t1_0 : (Nat → Int32)) (t2_0 : (Nat → Int32)) (lx27 : Int32) (lx51 : Int32) : Nat → Int32 → Int64 → Int64 → Int64 → (Int64 × Int32 × Int32 × Int32 × Int32 × Int32 × Int32 × Int32)
  | 0, _, _, _, _ => default
  | fm + 1, lx67, lx68, lx69, lx70 => if lx67 < (0 : Int32) then (if x3 = (2 : Int32) then ((lx70, lx27, t0_1, t0_2, t0_3, t0_4, t0_5, t0_6)) else (if x3 = (3 : Int32) then ((lx69, lx27, t0_1, t0_2, t0_3, t0_4, t0_5, t0_6)) else ((lx68, lx27, t0_1, t0_2, t0_3, t0_4, t0_5, t0_6)))) else (if ((((F_WR_limb x2 (lx67 / 16 : Int32) lx27 t0_1 t0_2 t0_3 t0_4 t0_5 t0_6 t1_0 t2_0) : Int32) >>> ((lx67 - lx67 / 16 * 16 : Int32) &&& 31) : Int32) &&& 1 : Int32) = lx51 then (F_WR_told_J190 (F_WR_told_L144 x2 x3 t0_0 t0_1 t0_2 t0_3 t0_4 t0_5 t0_6 t1_0 t2_0 lx27 lx51 fm) x2 x3 t0_0 t0_1 t0_2 t0_3 t0_4 t0_5 t0_6 t1_0 t2_0 lx27 lx51 lx67 lx68 lx69 lx70 ((((F_WR_limb x2 (lx67 / 16 : Int32) lx27 t0_1 t0_2 t0_3 t0_4 t0_5 t0_6 t1_0 t2_0) : Int32) >>> ((lx67 - lx67 / 16 * 16 : Int32) &&& 31) : Int32) &&& 1 : Int32)) else (if (lg_cmp lx70 0 : Int32) = (0 : Int32) then (F_WR_told_J192 (F_WR_told_L144 x2 x3 t0_0 t0_1 t0_2 t0_3 t0_4 t0_5 t0_6 t1_0 t2_0 lx27 lx51 fm) x2 x3 t0_0 t0_1 t0_2 t0_3 t0_4 t0_5 t0_6 t1_0 t2_0 lx27 lx51 lx67 lx68 lx69 lx70 ((((F_WR_limb x2 (lx67 / 16 : Int32) lx27 t0_1 t0_2 t0_3 t0_4 t0_5 t0_6 t1_0 t2_0) : Int32) >>> ((lx67 - lx67 / 16 * 16 : Int32) &&& 31) : Int32) &&& 1 : Int32) ((lx67 + 1 : Int32).toInt64 : Int64)) else (F_WR_told_J190 (F_WR_told_L144 x2 x3 t0_0 t0_1 t0_2 t0_3 t0_4 t0_5 t0_6 t1_0 t2_0 lx27 lx51 fm) x2 x3 t0_0 t0_1 t0_2 t0_3 t0_4 t0_5 t0_6 t1_0 t2_0 lx27 lx51 lx67 lx68 lx69 lx70 ((((F_WR_limb x2 (lx67 / 16 : Int32) lx27 t0_1 t0_2 t0_3 t0_4 t0_5 t0_6 t1_0 t2_0) : Int32) >>> ((lx67 - lx67 / 16 * 16 : Int32) &&& 31) : Int32) &&& 1 : Int32))))
def F_WR_told_J127 (x2 : Int32) (x3 : Int32) (t0_0 : Int32) (t0_1 : Int32) (t0_2 : Int32) (t0_3 : Int32) (t0_4 : Int32) (t0_5 : Int32) (t0_6 : Int32) (t1_0 : (Nat → Int32)) (t2_0 : (Nat → Int32)) (lx27 : Int32) (lx51 : Int32) : Int64 × Int32 × Int32 × Int32 × Int32 × Int32 × Int32 × Int32 := F_WR_told_L144 x2 x3 t0_0 t0_1 t0_2 t0_3 t0_4 t0_5 t0_6 t1_0 t2_0 lx27 lx51 (((2047 : Int32).toInt - ((-1))).toNat + 1) 2047 (-1) 0 0
def F_WR_told_J22 (x2 : Int32) (x3 : Int32) (t0_0 : Int32) (t0_1 : Int32) (t0_2 : Int32) (t0_3 : Int32) (t0_4 : Int32) (t0_5 : Int32) (t0_6 : Int32) (t1_0 : (Nat → Int32)) (t2_0 : (Nat → Int32)) (lx27 : Int32) : Int64 × Int32 × Int32 × Int32 × Int32 × Int32 × Int32 × Int32 := if lx27 ≤ (0 : Int32) then (if x3 = (0 : Int32) then ((((((((F_WR_limb x2 (0 : Int32) lx27 t0_1 t0_2 t0_3 t0_4 t0_5 t0_6 t1_0 t2_0) : Int32).toInt64 : Int64) ||| ((((F_WR_limb x2 (1 : Int32) lx27 t0_1 t0_2 t0_3 t0_4 t0_5 t0_6 t1_0 t2_0) : Int32).toInt64 : Int64) <<< ((16 : Int32).toInt64 &&& 63) : Int64) : Int64) ||| ((((F_WR_limb x2 (2 : Int32) lx27 t0_1 t0_2 t0_3 t0_4 t0_5 t0_6 t1_0 t2_0) : Int32).toInt64 : Int64) <<< ((32 : Int32).toInt64 &&& 63) : Int64) : Int64) ||| ((((F_WR_limb x2 (3 : Int32) lx27 t0_1 t0_2 t0_3 t0_4 t0_5 t0_6 t1_0 t2_0) : Int32).toInt64 : Int64) <<< ((48 : Int32).toInt64 &&& 63) : Int64) : Int64), lx27, t0_1, t0_2, t0_3, t0_4, t0_5, t0_6)) else (if x3 = (1 : Int32) then (if ((F_WR_isZero x2 lx27 t0_1 t0_2 t0_3 t0_4 t0_5 t0_6 t1_0) : Int32) = (0 : Int32) then (if (t2_0 x2.toNatClampNeg : Int32) = (0 : Int32) then (((1 : Int64), lx27, t0_1, t0_2, t0_3, t0_4, t0_5, t0_6)) else (((-1 : Int64), lx27, t0_1, t0_2, t0_3, t0_4, t0_5, t0_6))) else (((0 : Int64), lx27, t0_1, t0_2, t0_3, t0_4, t0_5, t0_6))) else (if (t2_0 x2.toNatClampNeg : Int32) = (0 : Int32) then (F_WR_told_J127 x2 x3 t0_0 t0_1 t0_2 t0_3 t0_4 t0_5 t0_6 t1_0 t2_0 lx27 0) else (F_WR_told_J127 x2 x3 t0_0 t0_1 t0_2 t0_3 t0_4 t0_5 t0_6 t1_0 t2_0 lx27 1)))) else (((0 : Int64), lx27, t0_1, t0_2, t0_3, t0_4, t0_5, t0_6))
def F_WR_told_J17 (x2 : Int32) (x3 : Int32) (t0_0 : Int32) (t0_1 : Int32) (t0_2 : Int32) (t0_3 : Int32) (t0_4 : Int32) (t0_5 : Int32) (t0_6 : Int32) (t1_0 : (Nat → Int32)) (t2_0 : (Nat → Int32)) : Int64 × Int32 × Int32 × Int32 × Int32 × Int32 × Int32 × Int32 := F_WR_told_J22 x2 x3 t0_0 t0_1 t0_2 t0_3 t0_4 t0_5 t0_6 t1_0 t2_0 1
def F_WR_told (x2 : Int32) (x3 : Int32) (t0_0 : Int32) (t0_1 : Int32) (t0_2 : Int32) (t0_3 : Int32) (t0_4 : Int32) (t0_5 : Int32) (t0_6 : Int32) (t1_0 : (Nat → Int32)) (t2_0 : (Nat → Int32)) : Int64 × Int32 × Int32 × Int32 × Int32 × Int32 × Int32 × Int32 := if ((F_WR_no x2) : Int32) = (0 : Int32) then (if x3 < (0 : Int32) then (F_WR_told_J17 x2 x3 t0_0 t0_1 t0_2 t0_3 t0_4 t0_5 t0_6 t1_0 t2_0) else (if x3 ≤ (4 : Int32) then (F_WR_told_J22 x2 x3 t0_0 t0_1 t0_2 t0_3 t0_4 t0_5 t0_6 t1_0 t2_0 0) else (F_WR_told_J17 x2 x3 t0_0 t0_1 t0_2 t0_3 t0_4 t0_5 t0_6 t1_0 t2_0))) else (F_WR_told_J17 x2 x3 t0_0 t0_1 t0_2 t0_3 t0_4 t0_5 t0_6 t1_0 t2_0)
def S_WR_told_J209 (K_S_WR_told_L144 : Int32 → Int64 → Int64 → Int64 → Prop) (x2 : Int32) (x3 : Int32) (t0_0 : Int32) (t0_1 : Int32) (t0_2 : Int32) (t0_3 : Int32) (t0_4 : Int32) (t0_5 : Int32) (t0_6 : Int32) (t1_0 : (Nat → Int32)) (t2_0 : (Nat → Int32)) (lx27 : Int32) (lx51 : Int32) (lx67 : Int32) (lx68 : Int64) (lx69 : Int64) (lx70 : Int64) (a107 : Int32) (lx110 : Int64) (lx123 : Int64) : Prop := if a107 = (1 : Int32) then (((lx67.toInt64 : Int64).toInt ≤ 2100) ∧ (K_S_WR_told_L144 (lx67 + (-1) : Int32) (lx67.toInt64 : Int64) lx123 lx110)) else (K_S_WR_told_L144 (lx67 + (-1) : Int32) lx68 lx123 lx110)
def S_WR_told_J192 (K_S_WR_told_L144 : Int32 → Int64 → Int64 → Int64 → Prop) (x2 : Int32) (x3 : Int32) (t0_0 : Int32) (t0_1 : Int32) (t0_2 : Int32) (t0_3 : Int32) (t0_4 : Int32) (t0_5 : Int32) (t0_6 : Int32) (t1_0 : (Nat → Int32)) (t2_0 : (Nat → Int32)) (lx27 : Int32) (lx51 : Int32) (lx67 : Int32) (lx68 : Int64) (lx69 : Int64) (lx70 : Int64) (a107 : Int32) (lx110 : Int64) : Prop := if a107 = lx51 then (S_WR_told_J209 K_S_WR_told_L144 x2 x3 t0_0 t0_1 t0_2 t0_3 t0_4 t0_5 t0_6 t1_0 t2_0 lx27 lx51 lx67 lx68 lx69 lx70 a107 lx110 lx69) else (S_WR_told_J209 K_S_WR_told_L144 x2 x3 t0_0 t0_1 t0_2 t0_3 t0_4 t0_5 t0_6 t1_0 t2_0 lx27 lx51 lx67 lx68 lx69 lx70 a107 lx110 (lx69 + 1 : Int64))
def S_WR_told_J190 (K_S_WR_told_L144 : Int32 → Int64 → Int64 → Int64 → Prop) (x2 : Int32) (x3 : Int32) (t0_0 : Int32) (t0_1 : Int32) (t0_2 : Int32) (t0_3 : Int32) (t0_4 : Int32) (t0_5 : Int32) (t0_6 : Int32) (t1_0 : (Nat → Int32)) (t2_0 : (Nat → Int32)) (lx27 : Int32) (lx51 : Int32) (lx67 : Int32) (lx68 : Int64) (lx69 : Int64) (lx70 : Int64) (a107 : Int32) : Prop := S_WR_told_J192 K_S_WR_told_L144 x2 x3 t0_0 t0_1 t0_2 t0_3 t0_4 t0_5 t0_6 t1_0 t2_0 lx27 lx51 lx67 lx68 lx69 lx70 a107 lx70
def S_WR_told_L144 (x2 : Int32) (x3 : Int32) (t0_0 : Int32) (t0_1 : Int32) (t0_2 : Int32) (t0_3 : Int32) (t0_4 : Int32) (t0_5 : Int32) (t0_6 : Int32) (t1_0 : (Nat → Int32)) (t2_0 : (Nat → Int32)) (lx27 : Int32) (lx51 : Int32) : Nat → Int32 → Int64 → Int64 → Int64 → Prop
  | 0, _, _, _, _ => False
  | fm + 1, lx67, lx68, lx69, lx70 => if lx67 < (0 : Int32) then (if x3 = (2 : Int32) then (True) else (if x3 = (3 : Int32) then (True) else (True))) else ((True ∧ S_WR_limb x2 (lx67 / 16 : Int32) lx27 t0_1 t0_2 t0_3 t0_4 t0_5 t0_6 t1_0 t2_0) ∧ (if ((((F_WR_limb x2 (lx67 / 16 : Int32) lx27 t0_1 t0_2 t0_3 t0_4 t0_5 t0_6 t1_0 t2_0) : Int32) >>> ((lx67 - lx67 / 16 * 16 : Int32) &&& 31) : Int32) &&& 1 : Int32) = lx51 then (S_WR_told_J190 (S_WR_told_L144 x2 x3 t0_0 t0_1 t0_2 t0_3 t0_4 t0_5 t0_6 t1_0 t2_0 lx27 lx51 fm) x2 x3 t0_0 t0_1 t0_2 t0_3 t0_4 t0_5 t0_6 t1_0 t2_0 lx27 lx51 lx67 lx68 lx69 lx70 ((((F_WR_limb x2 (lx67 / 16 : Int32) lx27 t0_1 t0_2 t0_3 t0_4 t0_5 t0_6 t1_0 t2_0) : Int32) >>> ((lx67 - lx67 / 16 * 16 : Int32) &&& 31) : Int32) &&& 1 : Int32)) else (if (lg_cmp lx70 0 : Int32) = (0 : Int32) then (S_WR_told_J192 (S_WR_told_L144 x2 x3 t0_0 t0_1 t0_2 t0_3 t0_4 t0_5 t0_6 t1_0 t2_0 lx27 lx51 fm) x2 x3 t0_0 t0_1 t0_2 t0_3 t0_4 t0_5 t0_6 t1_0 t2_0 lx27 lx51 lx67 lx68 lx69 lx70 ((((F_WR_limb x2 (lx67 / 16 : Int32) lx27 t0_1 t0_2 t0_3 t0_4 t0_5 t0_6 t1_0 t2_0) : Int32) >>> ((lx67 - lx67 / 16 * 16 : Int32) &&& 31) : Int32) &&& 1 : Int32) ((lx67 + 1 : Int32).toInt64 : Int64)) else (S_WR_told_J190 (S_WR_told_L144 x2 x3 t0_0 t0_1 t0_2 t0_3 t0_4 t0_5 t0_6 t1_0 t2_0 lx27 lx51 fm) x2 x3 t0_0 t0_1 t0_2 t0_3 t0_4 t0_5 t0_6 t1_0 t2_0 lx27 lx51 lx67 lx68 lx69 lx70 ((((F_WR_limb x2 (lx67 / 16 : Int32) lx27 t0_1 t0_2 t0_3 t0_4 t0_5 t0_6 t1_0 t2_0) : Int32) >>> ((lx67 - lx67 / 16 * 16 : Int32) &&& 31) : Int32) &&& 1 : Int32)))))
def S_WR_told_J127 (x2 : Int32) (x3 : Int32) (t0_0 : Int32) (t0_1 : Int32) (t0_2 : Int32) (t0_3 : Int32) (t0_4 : Int32) (t0_5 : Int32) (t0_6 : Int32) (t1_0 : (Nat → Int32)) (t2_0 : (Nat → Int32)) (lx27 : Int32) (lx51 : Int32) : Prop := S_WR_told_L144 x2 x3 t0_0 t0_1 t0_2 t0_3 t0_4 t0_5 t0_6 t1_0 t2_0 lx27 lx51 (((2047 : Int32).toInt - ((-1))).toNat + 1) 2047 (-1) 0 0
def S_WR_told_J22 (x2 : Int32) (x3 : Int32) (t0_0 : Int32) (t0_1 : Int32) (t0_2 : Int32) (t0_3 : Int32) (t0_4 : Int32) (t0_5 : Int32) (t0_6 : Int32) (t1_0 : (Nat → Int32)) (t2_0 : (Nat → Int32)) (lx27 : Int32) : Prop := if lx27 ≤ (0 : Int32) then (if x3 = (0 : Int32) then ((True ∧ S_WR_limb x2 (0 : Int32) lx27 t0_1 t0_2 t0_3 t0_4 t0_5 t0_6 t1_0 t2_0) ∧ ((True ∧ S_WR_limb x2 (1 : Int32) lx27 t0_1 t0_2 t0_3 t0_4 t0_5 t0_6 t1_0 t2_0) ∧ ((True ∧ S_WR_limb x2 (2 : Int32) lx27 t0_1 t0_2 t0_3 t0_4 t0_5 t0_6 t1_0 t2_0) ∧ ((True ∧ S_WR_limb x2 (3 : Int32) lx27 t0_1 t0_2 t0_3 t0_4 t0_5 t0_6 t1_0 t2_0) ∧ (True))))) else (if x3 = (1 : Int32) then ((True ∧ S_WR_isZero x2 lx27 t0_1 t0_2 t0_3 t0_4 t0_5 t0_6 t1_0) ∧ (if ((F_WR_isZero x2 lx27 t0_1 t0_2 t0_3 t0_4 t0_5 t0_6 t1_0) : Int32) = (0 : Int32) then ((0 ≤ x2.toInt) ∧ ((x2.toInt ≤ 10) ∧ (if (t2_0 x2.toNatClampNeg : Int32) = (0 : Int32) then (True) else (True)))) else (True))) else ((0 ≤ x2.toInt) ∧ ((x2.toInt ≤ 10) ∧ (if (t2_0 x2.toNatClampNeg : Int32) = (0 : Int32) then (S_WR_told_J127 x2 x3 t0_0 t0_1 t0_2 t0_3 t0_4 t0_5 t0_6 t1_0 t2_0 lx27 0) else (S_WR_told_J127 x2 x3 t0_0 t0_1 t0_2 t0_3 t0_4 t0_5 t0_6 t1_0 t2_0 lx27 1)))))) else (True)
def S_WR_told_J17 (x2 : Int32) (x3 : Int32) (t0_0 : Int32) (t0_1 : Int32) (t0_2 : Int32) (t0_3 : Int32) (t0_4 : Int32) (t0_5 : Int32) (t0_6 : Int32) (t1_0 : (Nat → Int32)) (t2_0 : (Nat → Int32)) : Prop := S_WR_told_J22 x2 x3 t0_0 t0_1 t0_2 t0_3 t0_4 t0_5 t0_6 t1_0 t2_0 1
def S_WR_told (x2 : Int32) (x3 : Int32) (t0_0 : Int32) (t0_1 : Int32) (t0_2 : Int32) (t0_3 : Int32) (t0_4 : Int32) (t0_5 : Int32) (t0_6 : Int32) (t1_0 : (Nat → Int32)) (t2_0 : (Nat → Int32)) : Prop := if ((F_WR_no x2) : Int32) = (0 : Int32) then (if x3 < (0 : Int32) then (S_WR_told_J17 x2 x3 t0_0 t0_1 t0_2 t0_3 t0_4 t0_5 t0_6 t1_0 t2_0) else (if x3 ≤ (4 : Int32) then (S_WR_told_J22 x2 x3 t0_0 t0_1 t0_2 t0_3 t0_4 t0_5 t0_6 t1_0 t2_0 0) else (S_WR_told_J17 x2 x3 t0_0 t0_1 t0_2 t0_3 t0_4 t0_5 t0_6 t1_0 t2_0))) else (S_WR_told_J17 x2 x3 t0_0 t0_1 t0_2 t0_3 t0_4 t0_5 t0_6 t1_0 t2_0)
set_option maxRecDepth 100000 in
set_option maxHeartbeats 4000000 in
theorem X_WR_told (l : Launch) (D : va_G) (g : Nat → ClassId) (q : Nat → Nat) (ws : va_W) (x2 : Int32) (x3 : Int32) (hI : q_I (msh g q) q ws) (t0_0 : Int32) (t0_1 : Int32) (t0_2 : Int32) (t0_3 : Int32) (t0_4 : Int32) (t0_5 : Int32) (t0_6 : Int32) (hT0 : ws[119]? = (some (q 119, .inr (13, [.int t0_0, .int t0_1, .ref (q 120), .int t0_2, .ref (q 121), .ref (q 122), .ref (q 123), .int t0_3, .ref (q 124), .ref (q 125), .ref (q 126), .ref (q 127), .ref (q 128), .ref (q 129), .ref (q 130), .ref (q 131), .int t0_4, .int t0_5, .ref (q 132), .ref (q 133), .int t0_6])) : Option (Nat × va_E))) (t1_0 : (Nat → Int32)) (hT1 : ws[121]? = (some (q 121, .inl (g 0, (1408 : Int32).toNatClampNeg, .inl t1_0)) : Option (Nat × va_E))) (t2_0 : (Nat → Int32)) (hT2 : ws[122]? = (some (q 122, .inl (g 3, 11, .inl t2_0)) : Option (Nat × va_E))) (hS : True ∧ S_WR_told x2 x3 t0_0 t0_1 t0_2 t0_3 t0_4 t0_5 t0_6 t1_0 t2_0) : q_mL l y_WR_told prog_19_method_41_code 12 2 0 0 D g [.ref (q 119), .int x2, .int x3] ws (fun r u => q_I (msh g q) q u ∧ q_un ws u [119] ∧ ∃ (u0_0 : Int32) (u0_1 : Int32) (u0_2 : Int32) (u0_3 : Int32) (u0_4 : Int32) (u0_5 : Int32) (u0_6 : Int32), u[119]? = (some (q 119, .inr (13, [.int u0_0, .int u0_1, .ref (q 120), .int u0_2, .ref (q 121), .ref (q 122), .ref (q 123), .int u0_3, .ref (q 124), .ref (q 125), .ref (q 126), .ref (q 127), .ref (q 128), .ref (q 129), .ref (q 130), .ref (q 131), .int u0_4, .int u0_5, .ref (q 132), .ref (q 133), .int u0_6])) : Option (Nat × va_E)) ∧ (0 ≤ u0_0.toInt) ∧ (u0_0.toInt ≤ 1) ∧ (t0_1.toInt ≤ u0_1.toInt) ∧ (u0_1.toInt ≤ t0_1.toInt) ∧ (t0_2.toInt ≤ u0_2.toInt) ∧ (u0_2.toInt ≤ t0_2.toInt) ∧ (t0_3.toInt ≤ u0_3.toInt) ∧ (u0_3.toInt ≤ t0_3.toInt) ∧ (t0_4.toInt ≤ u0_4.toInt) ∧ (u0_4.toInt ≤ t0_4.toInt) ∧ (t0_5.toInt ≤ u0_5.toInt) ∧ (u0_5.toInt ≤ t0_5.toInt) ∧ (t0_6.toInt ≤ u0_6.toInt) ∧ (u0_6.toInt ≤ t0_6.toInt) ∧ (r, u0_0, u0_1, u0_2, u0_3, u0_4, u0_5, u0_6) = (F_WR_told x2 x3 t0_0 t0_1 t0_2 t0_3 t0_4 t0_5 t0_6 t1_0 t2_0)) := by
  intro sz
  refine q_into (by decide) (Nat.le_of_ble_eq_true rfl) ?_
  intro p e s m below meth c ls hsz C0 V hl
  have hx := C0.1
  have hb := C0.2.1
  obtain ⟨btt0_2, hZ9⟩ := n_w119 hI hT0
  obtain ⟨btt0_3, hZ9⟩ := hZ9
  obtain ⟨btt0_4, hZ9⟩ := hZ9
  obtain ⟨btt0_5, btt0_6⟩ := hZ9
  replace btt0_2 : q_F (0 ≤ t0_2.toInt ∧ t0_2.toInt ≤ 4100) := btt0_2
  replace btt0_3 : q_F (0 ≤ t0_3.toInt ∧ t0_3.toInt ≤ 1) := btt0_3
  replace btt0_4 : q_F (0 ≤ t0_4.toInt ∧ t0_4.toInt ≤ 1) := btt0_4
  replace btt0_5 : q_F (0 ≤ t0_5.toInt ∧ t0_5.toInt ≤ 1) := btt0_5
  replace btt0_6 : q_F (0 ≤ t0_6.toInt ∧ t0_6.toInt ≤ 2100) := btt0_6
  have hF : q_un ws ws [119] := q_u0
  have hl : lv_has ls 12 [(0, .ref (q 119)), (1, .int x2), (2, .int x3)] := hl
  refine lv_aload_n hx hb d_19_41_0 rfl (lv_at hl 0 rfl) ?_
  refine lv_iload_n hx hb d_19_41_1 rfl (lv_at hl 1 rfl) ?_
  refine q_goi V (q_runS (As := [.int x2]) (rest := [.ref (q 119)]) (d := 1) (mc := 0) (ms := 0) C0 V rfl LS_WR_91 (X_WR_no l D g q ws  x2 hI   _) rfl hl.1 rfl (Nat.le_of_ble_eq_true rfl) ⟨by decide, by decide⟩ ⟨Nat.le_of_ble_eq_true rfl, Nat.le_of_ble_eq_true rfl⟩ d_19_41_2) (fun a22 u20 H locs hp21 V => ?_)
  obtain ⟨rfl, b23, b24, hE25⟩ := hp21
  have e26 : a22 = (F_WR_no x2) := hE25
  clear b23
  clear b24
  refine q_join (X := Int32) (fun z H locs ls _ => q_F (0 ≤ z.toInt) ∧ q_F (z.toInt ≤ 1) ∧ q_Wd D g (va_A ws sz) s ws H locs ∧ lv_has ls 12 [(0, .ref (q 119)), (1, .int x2), (2, .int x3)] ∧ F_WR_told_J22 x2 x3 t0_0 t0_1 t0_2 t0_3 t0_4 t0_5 t0_6 t1_0 t2_0 z = (F_WR_told x2 x3 t0_0 t0_1 t0_2 t0_3 t0_4 t0_5 t0_6 t1_0 t2_0) ∧ True ∧ S_WR_told_J22 x2 x3 t0_0 t0_1 t0_2 t0_3 t0_4 t0_5 t0_6 t1_0 t2_0 z) (fun z => [.int z, .ref (q 119)]) 22 0 0 ?_ ?_
  ·
    rintro lx27 H locs ls _ hZ9
    obtain ⟨i32, hZ9⟩ := hZ9
    obtain ⟨i33, hZ9⟩ := hZ9
    obtain ⟨V, hZ9⟩ := hZ9
    obtain ⟨hl, hZ9⟩ := hZ9
    obtain ⟨hR34, hS35⟩ := hZ9
    replace i32 : q_F (0 ≤ lx27.toInt) := i32
    replace i33 : q_F (lx27.toInt ≤ 1) := i33
    replace hl : lv_has ls 12 [(0, .ref (q 119)), (1, .int x2), (2, .int x3)] := hl
    refine q_put (ci := 13) (j := 0) (v := .int lx27) (ty := .int) C0 V i_WR o_WR n_WR rfl rfl hT0 (by decide) w_1921 rfl rfl rfl rfl (Nat.le_of_ble_eq_true rfl) d_19_41_22 (fun H locs w39 hu40 hT0 V => ?_)
    replace hT0 : w39[119]? = (some (q 119, .inr (13, [.int lx27, .int t0_1, .ref (q 120), .int t0_2, .ref (q 121), .ref (q 122), .ref (q 123), .int t0_3, .ref (q 124), .ref (q 125), .ref (q 126), .ref (q 127), .ref (q 128), .ref (q 129), .ref (q 130), .ref (q 131), .int t0_4, .int t0_5, .ref (q 132), .ref (q 133), .int t0_6])) : Option (Nat × va_E)) := hT0
    replace hI := n_p119 hI hu40 hT0 (by first | with_reducible exact q_fe btt0_2 | exact ⟨(by have t1 : 0 ≤ t0_2.toInt ∧ t0_2.toInt ≤ 4100 := btt0_2; omega), (by have t1 : 0 ≤ t0_2.toInt ∧ t0_2.toInt ≤ 4100 := btt0_2; omega)⟩) (by first | with_reducible exact q_fe btt0_3 | exact ⟨(by have t1 : 0 ≤ t0_3.toInt ∧ t0_3.toInt ≤ 1 := btt0_3; omega), (by have t1 : 0 ≤ t0_3.toInt ∧ t0_3.toInt ≤ 1 := btt0_3; omega)⟩) (by first | with_reducible exact q_fe btt0_4 | exact ⟨(by have t1 : 0 ≤ t0_4.toInt ∧ t0_4.toInt ≤ 1 := btt0_4; omega), (by have t1 : 0 ≤ t0_4.toInt ∧ t0_4.toInt ≤ 1 := btt0_4; omega)⟩) (by first | with_reducible exact q_fe btt0_5 | exact ⟨(by have t1 : 0 ≤ t0_5.toInt ∧ t0_5.toInt ≤ 1 := btt0_5; omega), (by have t1 : 0 ≤ t0_5.toInt ∧ t0_5.toInt ≤ 1 := btt0_5; omega)⟩) (by first | with_reducible exact q_fe btt0_6 | exact ⟨(by have t1 : 0 ≤ t0_6.toInt ∧ t0_6.toInt ≤ 2100 := btt0_6; omega), (by have t1 : 0 ≤ t0_6.toInt ∧ t0_6.toInt ≤ 2100 := btt0_6; omega)⟩)
    replace hT1 := (hu40 _ (by decide)).trans hT1
    replace hT2 := (hu40 _ (by decide)).trans hT2
    replace hF := q_us hF hu40 (by simp)
    refine lv_aload_n hx hb d_19_41_25 rfl (lv_at hl 0 rfl) ?_
    refine q_get (ci := 13) (j := 0) (v := .int lx27) C0 V i_WR rfl rfl hT0 (by decide) w_1921 rfl d_19_41_26 ?_
    refine lv_if_le (tgt := 34) hx hb d_19_41_29 (by decide) (fun c41 => ?_) (fun c41 => ?_)
    ·
      have b42 : q_F (lx27.toInt ≤ 0) := (q_leI c41)
      refine lv_iload_n hx hb d_19_41_34 rfl (lv_at hl 2 rfl) ?_
      refine lv_if_ne (tgt := 79) hx hb d_19_41_35 (by decide) (fun c43 => ?_) (fun c43 => ?_)
      ·
        refine lv_iload_n hx hb d_19_41_79 rfl (lv_at hl 2 rfl) ?_
        refine lv_iconst (v := 1) hx hb d_19_41_80 (by decide) ?_
        refine lv_icmp_ne (tgt := 113) hx hb d_19_41_81 (by decide) (fun c45 => ?_) (fun c45 => ?_)
        ·
          refine lv_aload_n hx hb d_19_41_113 rfl (lv_at hl 0 rfl) ?_
          refine q_get (ci := 13) (j := 5) (v := .ref (q 122)) C0 V i_WR rfl rfl hT0 (by decide) w_1929 rfl d_19_41_114 ?_
          refine lv_iload_n hx hb d_19_41_117 rfl (lv_at hl 1 rfl) ?_
          have ob47 : q_F (0 ≤ x2.toInt) := (by have h := hS35; rw [S_WR_told_J22.eq_1] at h; rw [if_pos c41] at h; rw [if_neg c43] at h; rw [if_neg c45] at h; exact h.2.1)
          have ob48 : q_F (x2.toInt ≤ 10) := (by have h := hS35; rw [S_WR_told_J22.eq_1] at h; rw [if_pos c41] at h; rw [if_neg c43] at h; rw [if_neg c45] at h; replace h := q_s2 h; exact h.2.1)
          refine q_zald C0 V hT2 (q_ix (x := x2.toInt) rfl (by first | with_reducible exact q_fe ob47 | (have t1 : 0 ≤ x2.toInt := ob47; omega)) (by have t1 : 0 ≤ x2.toInt := ob47; have t2 : x2.toInt ≤ 10 := ob48; omega)) d_19_41_118 ?_
          obtain ⟨a49, e50⟩ := q_nm (t2_0 x2.toNatClampNeg : Int32)
          refine q_ti (v := a49) e50 ?_
          refine q_join (X := Int32) (fun z H locs ls _ => q_F (lx27.toInt ≤ z.toInt) ∧ q_F (z.toInt ≤ lx27.toInt + 1) ∧ q_Wd D g (va_A ws sz) s w39 H locs ∧ lv_has ls 12 [(0, .ref (q 119)), (1, .int x2), (2, .int x3)] ∧ F_WR_told_J127 x2 x3 t0_0 t0_1 t0_2 t0_3 t0_4 t0_5 t0_6 t1_0 t2_0 lx27 z = (F_WR_told x2 x3 t0_0 t0_1 t0_2 t0_3 t0_4 t0_5 t0_6 t1_0 t2_0) ∧ True ∧ S_WR_told_J127 x2 x3 t0_0 t0_1 t0_2 t0_3 t0_4 t0_5 t0_6 t1_0 t2_0 lx27 z) (fun z => [.int z]) 127 0 0 ?_ ?_
          ·
            rintro lx51 H locs ls _ hZ9
            replace hZ9 := hZ9.2.2
            obtain ⟨V, hZ9⟩ := hZ9
            obtain ⟨hl, hZ9⟩ := hZ9
            obtain ⟨hR58, hS59⟩ := hZ9
            replace hl : lv_has ls 12 [(0, .ref (q 119)), (1, .int x2), (2, .int x3)] := hl
            refine lv_istore_n (lv' := [(3, .int lx51), (0, .ref (q 119)), (1, .int x2), (2, .int x3)]) hx hb d_19_41_127 rfl hl (by decide) rfl (fun ls hl => ?_)
            refine lv_lconst (v := 0) hx hb d_19_41_128 (by decide) ?_
            refine lv_lstore (lv' := [(4, .long 0), (3, .int lx51), (0, .ref (q 119)), (1, .int x2), (2, .int x3)]) hx hb d_19_41_129 hl (by decide) rfl (fun ls hl => ?_)
            refine lv_lconst (v := 0) hx hb d_19_41_131 (by decide) ?_
            refine lv_lstore (lv' := [(6, .long 0), (4, .long 0), (3, .int lx51), (0, .ref (q 119)), (1, .int x2), (2, .int x3)]) hx hb d_19_41_132 hl (by decide) rfl (fun ls hl => ?_)
            refine q_ldc2 C0 rfl w_2564 d_19_41_134 ?_
            refine lv_lstore (lv' := [(8, .long (-1)), (6, .long 0), (4, .long 0), (3, .int lx51), (0, .ref (q 119)), (1, .int x2), (2, .int x3)]) hx hb d_19_41_137 hl (by decide) rfl (fun ls hl => ?_)
            refine lv_sipush (v := 2047) hx hb d_19_41_139 (by decide) ?_
            refine lv_istore (lv' := [(10, .int 2047), (8, .long (-1)), (6, .long 0), (4, .long 0), (3, .int lx51), (0, .ref (q 119)), (1, .int x2), (2, .int x3)]) hx hb d_19_41_142 hl (by decide) rfl (fun ls hl => ?_)
            refine q_loop (X := Int32 × Int64 × Int64 × Int64) (fun z H locs ls _ => q_F (0 ≤ z.1.toInt + 1) ∧ q_F (z.2.1.toInt ≤ 2100) ∧ q_F (z.2.2.2.toInt ≤ 2100) ∧ q_F (lx27.toInt ≤ z.2.1.toInt + 1) ∧ q_F (lx27.toInt ≤ z.2.2.1.toInt) ∧ q_F (lx27.toInt ≤ z.2.2.2.toInt) ∧ q_F (z.1.toInt + z.2.2.1.toInt ≤ 2047) ∧ q_Wd D g (va_A ws sz) s w39 H locs ∧ lv_has ls 12 [(10, .int z.1), (8, .long z.2.1), (6, .long z.2.2.1), (4, .long z.2.2.2), (3, .int lx51), (0, .ref (q 119)), (1, .int x2), (2, .int x3)] ∧ (∃ n, (z.1.toInt - ((-1))).toNat < n ∧ F_WR_told_L144 x2 x3 t0_0 t0_1 t0_2 t0_3 t0_4 t0_5 t0_6 t1_0 t2_0 lx27 lx51 n z.1 z.2.1 z.2.2.1 z.2.2.2 = (F_WR_told x2 x3 t0_0 t0_1 t0_2 t0_3 t0_4 t0_5 t0_6 t1_0 t2_0) ∧ True ∧ S_WR_told_L144 x2 x3 t0_0 t0_1 t0_2 t0_3 t0_4 t0_5 t0_6 t1_0 t2_0 lx27 lx51 n z.1 z.2.1 z.2.2.1 z.2.2.2)) (fun z => (z.1.toInt - ((-1))).toNat) ?_ ((2047 : Int32), ((-1) : Int64), (0 : Int64), (0 : Int64)) _ _ _ w39 ⟨(show q_F (0 ≤ 2047 + 1) from (show 0 ≤ 2047 + 1 from by omega)), (show q_F ((-1) ≤ 2100) from (show (-1) ≤ 2100 from by omega)), (show q_F (0 ≤ 2100) from (show 0 ≤ 2100 from by omega)), (show q_F (lx27.toInt ≤ (-1) + 1) from (show lx27.toInt ≤ (-1) + 1 from by have t1 : lx27.toInt ≤ 0 := b42; omega)), (show q_F (lx27.toInt ≤ 0) from (show lx27.toInt ≤ 0 from by have t1 : lx27.toInt ≤ 0 := b42; omega)), (show q_F (lx27.toInt ≤ 0) from (show lx27.toInt ≤ 0 from by have t1 : lx27.toInt ≤ 0 := b42; omega)), (show q_F (2047 + 0 ≤ 2047) from (show 2047 + 0 ≤ 2047 from by omega)), V, q_lw hl (q_lw1 0 rfl (q_lw1 1 rfl (q_lw1 2 rfl (q_lw1 3 rfl (q_lw1 4 rfl (q_lw1 5 rfl (q_lw1 6 rfl (q_lw1 7 rfl q_lw0)))))))), ⟨(((2047 : Int32).toInt - ((-1))).toNat + 1), Nat.lt_succ_self _, (show F_WR_told_L144 x2 x3 t0_0 t0_1 t0_2 t0_3 t0_4 t0_5 t0_6 t1_0 t2_0 lx27 lx51 (((2047 : Int32).toInt - ((-1))).toNat + 1) 2047 (-1) 0 0 = (F_WR_told x2 x3 t0_0 t0_1 t0_2 t0_3 t0_4 t0_5 t0_6 t1_0 t2_0) from Eq.trans (by rw [F_WR_told_J127.eq_1]) hR58), (show True ∧ S_WR_told_L144 x2 x3 t0_0 t0_1 t0_2 t0_3 t0_4 t0_5 t0_6 t1_0 t2_0 lx27 lx51 (((2047 : Int32).toInt - ((-1))).toNat + 1) 2047 (-1) 0 0 from (by have h := hS59; rw [S_WR_told_J127.eq_1] at h; with_reducible exact h))⟩⟩
            rintro ⟨lx67, lx68, lx69, lx70⟩ H locs ls _ ⟨i71, i72, i73, i74, i75, i76, i77, V, hl, ⟨fu81, hf82, hR79, hS80⟩⟩ ih78
            obtain ⟨fm83, rfl⟩ : ∃ m, fu81 = m + 1 := ⟨fu81 - 1, by omega⟩
            replace i71 : q_F (0 ≤ lx67.toInt + 1) := i71
            replace i72 : q_F (lx68.toInt ≤ 2100) := i72
            replace i73 : q_F (lx70.toInt ≤ 2100) := i73
            replace i74 : q_F (lx27.toInt ≤ lx68.toInt + 1) := i74
            replace i75 : q_F (lx27.toInt ≤ lx69.toInt) := i75
            replace i76 : q_F (lx27.toInt ≤ lx70.toInt) := i76
            replace i77 : q_F (lx67.toInt + lx69.toInt ≤ 2047) := i77
            replace hl : lv_has ls 12 [(10, .int lx67), (8, .long lx68), (6, .long lx69), (4, .long lx70), (3, .int lx51), (0, .ref (q 119)), (1, .int x2), (2, .int x3)] := hl
            refine lv_iload hx hb d_19_41_144 (lv_at hl 0 rfl) ?_
            refine lv_if_lt (tgt := 233) hx hb d_19_41_146 (by decide) (fun c84 => ?_) (fun c84 => ?_)
            ·
              refine lv_iload_n hx hb d_19_41_233 rfl (lv_at hl 7 rfl) ?_
              refine lv_iconst (v := 2) hx hb d_19_41_234 (by decide) ?_
              refine lv_icmp_ne (tgt := 243) hx hb d_19_41_235 (by decide) (fun c86 => ?_) (fun c86 => ?_)
              ·
                refine lv_iload_n hx hb d_19_41_243 rfl (lv_at hl 7 rfl) ?_
                refine lv_iconst (v := 3) hx hb d_19_41_244 (by decide) ?_
                refine lv_icmp_ne (tgt := 253) hx hb d_19_41_245 (by decide) (fun c88 => ?_) (fun c88 => ?_)
                ·
                  refine lv_lload hx hb d_19_41_253 (lv_at hl 1 rfl) ?_
                  exact q_retl C0 V (⟨hI, hF, lx27, t0_1, t0_2, t0_3, t0_4, t0_5, t0_6, hT0, (show 0 ≤ lx27.toInt from (by first | with_reducible exact q_fe i32 | (have t1 : 0 ≤ lx27.toInt := i32; omega))), (show lx27.toInt ≤ 1 from (by first | with_reducible exact q_fe i33 | (have t1 : lx27.toInt ≤ 1 := i33; omega))), (show t0_1.toInt ≤ t0_1.toInt from (by omega)), (show t0_1.toInt ≤ t0_1.toInt from (by omega)), (show t0_2.toInt ≤ t0_2.toInt from (by omega)), (show t0_2.toInt ≤ t0_2.toInt from (by omega)), (show t0_3.toInt ≤ t0_3.toInt from (by omega)), (show t0_3.toInt ≤ t0_3.toInt from (by omega)), (show t0_4.toInt ≤ t0_4.toInt from (by omega)), (show t0_4.toInt ≤ t0_4.toInt from (by omega)), (show t0_5.toInt ≤ t0_5.toInt from (by omega)), (show t0_5.toInt ≤ t0_5.toInt from (by omega)), (show t0_6.toInt ≤ t0_6.toInt from (by omega)), (show t0_6.toInt ≤ t0_6.toInt from (by omega)), (show (lx68, lx27, t0_1, t0_2, t0_3, t0_4, t0_5, t0_6) = (F_WR_told x2 x3 t0_0 t0_1 t0_2 t0_3 t0_4 t0_5 t0_6 t1_0 t2_0) from Eq.trans (by rw [F_WR_told_L144.eq_2, if_pos c84, if_neg c86, if_neg c88]) hR79)⟩) d_19_41_255
                ·
                  refine lv_lload hx hb d_19_41_248 (lv_at hl 2 rfl) ?_
                  refine lv_goto (tgt := 255) hx hb d_19_41_250 (by decide) ?_
                  exact q_retl C0 V (⟨hI, hF, lx27, t0_1, t0_2, t0_3, t0_4, t0_5, t0_6, hT0, (show 0 ≤ lx27.toInt from (by first | with_reducible exact q_fe i32 | (have t1 : 0 ≤ lx27.toInt := i32; omega))), (show lx27.toInt ≤ 1 from (by first | with_reducible exact q_fe i33 | (have t1 : lx27.toInt ≤ 1 := i33; omega))), (show t0_1.toInt ≤ t0_1.toInt from (by omega)), (show t0_1.toInt ≤ t0_1.toInt from (by omega)), (show t0_2.toInt ≤ t0_2.toInt from (by omega)), (show t0_2.toInt ≤ t0_2.toInt from (by omega)), (show t0_3.toInt ≤ t0_3.toInt from (by omega)), (show t0_3.toInt ≤ t0_3.toInt from (by omega)), (show t0_4.toInt ≤ t0_4.toInt from (by omega)), (show t0_4.toInt ≤ t0_4.toInt from (by omega)), (show t0_5.toInt ≤ t0_5.toInt from (by omega)), (show t0_5.toInt ≤ t0_5.toInt from (by omega)), (show t0_6.toInt ≤ t0_6.toInt from (by omega)), (show t0_6.toInt ≤ t0_6.toInt from (by omega)), (show (lx69, lx27, t0_1, t0_2, t0_3, t0_4, t0_5, t0_6) = (F_WR_told x2 x3 t0_0 t0_1 t0_2 t0_3 t0_4 t0_5 t0_6 t1_0 t2_0) from Eq.trans (by rw [F_WR_told_L144.eq_2, if_pos c84, if_neg c86, if_pos c88]) hR79)⟩) d_19_41_255
              ·
                refine lv_lload hx hb d_19_41_238 (lv_at hl 3 rfl) ?_
                refine lv_goto (tgt := 255) hx hb d_19_41_240 (by decide) ?_
                exact q_retl C0 V (⟨hI, hF, lx27, t0_1, t0_2, t0_3, t0_4, t0_5, t0_6, hT0, (show 0 ≤ lx27.toInt from (by first | with_reducible exact q_fe i32 | (have t1 : 0 ≤ lx27.toInt := i32; omega))), (show lx27.toInt ≤ 1 from (by first | with_reducible exact q_fe i33 | (have t1 : lx27.toInt ≤ 1 := i33; omega))), (show t0_1.toInt ≤ t0_1.toInt from (by omega)), (show t0_1.toInt ≤ t0_1.toInt from (by omega)), (show t0_2.toInt ≤ t0_2.toInt from (by omega)), (show t0_2.toInt ≤ t0_2.toInt from (by omega)), (show t0_3.toInt ≤ t0_3.toInt from (by omega)), (show t0_3.toInt ≤ t0_3.toInt from (by omega)), (show t0_4.toInt ≤ t0_4.toInt from (by omega)), (show t0_4.toInt ≤ t0_4.toInt from (by omega)), (show t0_5.toInt ≤ t0_5.toInt from (by omega)), (show t0_5.toInt ≤ t0_5.toInt from (by omega)), (show t0_6.toInt ≤ t0_6.toInt from (by omega)), (show t0_6.toInt ≤ t0_6.toInt from (by omega)), (show (lx70, lx27, t0_1, t0_2, t0_3, t0_4, t0_5, t0_6) = (F_WR_told x2 x3 t0_0 t0_1 t0_2 t0_3 t0_4 t0_5 t0_6 t1_0 t2_0) from Eq.trans (by rw [F_WR_told_L144.eq_2, if_pos c84, if_pos c86]) hR79)⟩) d_19_41_255
            ·
              have b92 : q_F (0 ≤ lx67.toInt) := (q_nltI c84)
              refine lv_aload_n hx hb d_19_41_149 rfl (lv_at hl 5 rfl) ?_
              refine lv_iload_n hx hb d_19_41_150 rfl (lv_at hl 6 rfl) ?_
              refine lv_iload hx hb d_19_41_151 (lv_at hl 0 rfl) ?_
              refine lv_bipush (v := 16) hx hb d_19_41_153 (by decide) ?_
              refine lv_idiv hx hb d_19_41_155 (by decide) ?_
              obtain ⟨a93, e94⟩ := q_nm (lx67 / 16 : Int32)
              refine q_ti (v := a93) e94 ?_
              have ob96 : True ∧ S_WR_limb x2 a93 lx27 t0_1 t0_2 t0_3 t0_4 t0_5 t0_6 t1_0 t2_0 := (by rw [← e94]; have h := hS80; rw [S_WR_told_L144.eq_2] at h; rw [if_neg c84] at h; with_reducible exact h.2.1)
              refine q_goi V (q_runV (As := [.int x2, .int a93]) (rest := []) (d := 1) (mc := 0) (ms := 0) (ci := 13) C0 V rfl LV_WR_148 (X_WR_limb l D g q w39  x2 a93 hI lx27 t0_1 t0_2 t0_3 t0_4 t0_5 t0_6 hT0 t1_0 hT1 t2_0 hT2 ob96 _) rfl rfl hT0 rfl hl.1 rfl (Nat.le_of_ble_eq_true rfl) ⟨by decide, by decide⟩ ⟨Nat.le_of_ble_eq_true rfl, Nat.le_of_ble_eq_true rfl⟩ d_19_41_156) (fun a99 u97 H locs hp98 V => ?_)
              obtain ⟨rfl, hE100⟩ := hp98
              have e101 : a99 = (F_WR_limb x2 a93 lx27 t0_1 t0_2 t0_3 t0_4 t0_5 t0_6 t1_0 t2_0) := hE100
              refine lv_iload hx hb d_19_41_159 (lv_at hl 0 rfl) ?_
              refine lv_bipush (v := 16) hx hb d_19_41_161 (by decide) ?_
              refine lv_irem hx hb d_19_41_163 (by decide) ?_
              obtain ⟨a102, e103⟩ := q_nm (lx67 - lx67 / 16 * 16 : Int32)
              refine q_ti (v := a102) e103 ?_
              refine lv_ishr hx hb d_19_41_164 ?_
              obtain ⟨a105, e106⟩ := q_nm (a99 >>> (a102 &&& 31) : Int32)
              refine q_ti (v := a105) e106 ?_
              refine lv_iconst (v := 1) hx hb d_19_41_165 (by decide) ?_
              refine lv_iand hx hb d_19_41_166 ?_
              obtain ⟨a107, e108⟩ := q_nm (a105 &&& 1 : Int32)
              refine q_ti (v := a107) e108 ?_
              refine lv_istore (lv' := [(11, .int a107), (10, .int lx67), (8, .long lx68), (6, .long lx69), (4, .long lx70), (3, .int lx51), (0, .ref (q 119)), (1, .int x2), (2, .int x3)]) hx hb d_19_41_167 hl (by decide) rfl (fun ls hl => ?_)
              refine lv_iload hx hb d_19_41_169 (lv_at hl 0 rfl) ?_
              refine lv_iload_n hx hb d_19_41_171 rfl (lv_at hl 5 rfl) ?_
              refine q_join (X := Int64) (fun z H locs ls _ => q_F (lx70.toInt ≤ z.toInt) ∧ q_F (z.toInt ≤ lx70.toInt + 2048) ∧ q_F (z.toInt ≤ lx27.toInt + 2100) ∧ q_Wd D g (va_A ws sz) s w39 H locs ∧ lv_has ls 12 [(11, .int a107), (10, .int lx67), (8, .long lx68), (6, .long lx69), (3, .int lx51), (0, .ref (q 119)), (1, .int x2), (2, .int x3)] ∧ F_WR_told_J192 (F_WR_told_L144 x2 x3 t0_0 t0_1 t0_2 t0_3 t0_4 t0_5 t0_6 t1_0 t2_0 lx27 lx51 fm83) x2 x3 t0_0 t0_1 t0_2 t0_3 t0_4 t0_5 t0_6 t1_0 t2_0 lx27 lx51 lx67 lx68 lx69 lx70 a107 z = (F_WR_told x2 x3 t0_0 t0_1 t0_2 t0_3 t0_4 t0_5 t0_6 t1_0 t2_0) ∧ True ∧ S_WR_told_J192 (S_WR_told_L144 x2 x3 t0_0 t0_1 t0_2 t0_3 t0_4 t0_5 t0_6 t1_0 t2_0 lx27 lx51 fm83) x2 x3 t0_0 t0_1 t0_2 t0_3 t0_4 t0_5 t0_6 t1_0 t2_0 lx27 lx51 lx67 lx68 lx69 lx70 a107 z) (fun z => [.long z]) 192 0 0 ?_ ?_
              ·
                rintro lx110 H locs ls _ hZ9
                obtain ⟨i115, hZ9⟩ := hZ9
                replace hZ9 := hZ9.2
                obtain ⟨i117, hZ9⟩ := hZ9
                obtain ⟨V, hZ9⟩ := hZ9
                obtain ⟨hl, hZ9⟩ := hZ9
                obtain ⟨hR118, hS119⟩ := hZ9
                replace i115 : q_F (lx70.toInt ≤ lx110.toInt) := i115
                replace i117 : q_F (lx110.toInt ≤ lx27.toInt + 2100) := i117
                replace hl : lv_has ls 12 [(11, .int a107), (10, .int lx67), (8, .long lx68), (6, .long lx69), (3, .int lx51), (0, .ref (q 119)), (1, .int x2), (2, .int x3)] := hl
                refine lv_lstore (lv' := [(4, .long lx110), (11, .int a107), (10, .int lx67), (8, .long lx68), (6, .long lx69), (3, .int lx51), (0, .ref (q 119)), (1, .int x2), (2, .int x3)]) hx hb d_19_41_192 hl (by decide) rfl (fun ls hl => ?_)
                refine lv_iload hx hb d_19_41_194 (lv_at hl 1 rfl) ?_
                refine lv_iload_n hx hb d_19_41_196 rfl (lv_at hl 5 rfl) ?_
                refine q_join (X := Int64) (fun z H locs ls _ => q_F (lx69.toInt ≤ z.toInt) ∧ q_F (z.toInt ≤ lx69.toInt + 1) ∧ q_Wd D g (va_A ws sz) s w39 H locs ∧ lv_has ls 12 [(4, .long lx110), (11, .int a107), (10, .int lx67), (8, .long lx68), (3, .int lx51), (0, .ref (q 119)), (1, .int x2), (2, .int x3)] ∧ F_WR_told_J209 (F_WR_told_L144 x2 x3 t0_0 t0_1 t0_2 t0_3 t0_4 t0_5 t0_6 t1_0 t2_0 lx27 lx51 fm83) x2 x3 t0_0 t0_1 t0_2 t0_3 t0_4 t0_5 t0_6 t1_0 t2_0 lx27 lx51 lx67 lx68 lx69 lx70 a107 lx110 z = (F_WR_told x2 x3 t0_0 t0_1 t0_2 t0_3 t0_4 t0_5 t0_6 t1_0 t2_0) ∧ True ∧ S_WR_told_J209 (S_WR_told_L144 x2 x3 t0_0 t0_1 t0_2 t0_3 t0_4 t0_5 t0_6 t1_0 t2_0 lx27 lx51 fm83) x2 x3 t0_0 t0_1 t0_2 t0_3 t0_4 t0_5 t0_6 t1_0 t2_0 lx27 lx51 lx67 lx68 lx69 lx70 a107 lx110 z) (fun z => [.long z]) 209 0 0 ?_ ?_
                ·
                  rintro lx123 H locs ls _ hZ9
                  obtain ⟨i128, hZ9⟩ := hZ9
                  obtain ⟨i129, hZ9⟩ := hZ9
                  obtain ⟨V, hZ9⟩ := hZ9
                  obtain ⟨hl, hZ9⟩ := hZ9
                  obtain ⟨hR130, hS131⟩ := hZ9
                  replace i128 : q_F (lx69.toInt ≤ lx123.toInt) := i128
                  replace i129 : q_F (lx123.toInt ≤ lx69.toInt + 1) := i129
                  replace hl : lv_has ls 12 [(4, .long lx110), (11, .int a107), (10, .int lx67), (8, .long lx68), (3, .int lx51), (0, .ref (q 119)), (1, .int x2), (2, .int x3)] := hl
                  refine lv_lstore (lv' := [(6, .long lx123), (4, .long lx110), (11, .int a107), (10, .int lx67), (8, .long lx68), (3, .int lx51), (0, .ref (q 119)), (1, .int x2), (2, .int x3)]) hx hb d_19_41_209 hl (by decide) rfl (fun ls hl => ?_)
                  refine lv_iload hx hb d_19_41_211 (lv_at hl 2 rfl) ?_
                  refine lv_iconst (v := 1) hx hb d_19_41_213 (by decide) ?_
                  refine lv_icmp_ne (tgt := 223) hx hb d_19_41_214 (by decide) (fun c135 => ?_) (fun c135 => ?_)
                  ·
                    refine lv_lload hx hb d_19_41_223 (lv_at hl 4 rfl) ?_
                    refine lv_lstore (lv' := [(8, .long lx68), (6, .long lx123), (4, .long lx110), (11, .int a107), (10, .int lx67), (3, .int lx51), (0, .ref (q 119)), (1, .int x2), (2, .int x3)]) hx hb d_19_41_225 hl (by decide) rfl (fun ls hl => ?_)
                    obtain ⟨a137, e138⟩ := q_nm (lx67 + (-1) : Int32)
                    have b139 : q_F (a137.toInt = lx67.toInt + (-1)) := (by rw [← e138]; exact q_addI (y := (-1)) rfl (by decide) (by have t1 : 0 ≤ lx67.toInt + 1 := i71; have _ := q_lo32 (x := lx67); have _ := q_hi32 (x := lx67); omega) (by have t1 : 0 ≤ lx67.toInt + 1 := i71; have _ := q_lo32 (x := lx67); have _ := q_hi32 (x := lx67); omega))
                    refine lv_iinc (v := a137) (lv' := [(10, .int a137), (8, .long lx68), (6, .long lx123), (4, .long lx110), (11, .int a107), (3, .int lx51), (0, .ref (q 119)), (1, .int x2), (2, .int x3)]) hx hb d_19_41_227 hl (k := 4) rfl (e138) (by decide) rfl (fun ls hl => ?_)
                    refine lv_goto (tgt := 144) hx hb d_19_41_230 (by decide) ?_
                    exact ih78 ((a137 : Int32), (lx68 : Int64), (lx123 : Int64), (lx110 : Int64)) _ _ _ w39 (show (a137.toInt - ((-1))).toNat < (lx67.toInt - ((-1))).toNat from by have t1 : a137.toInt = lx67.toInt + (-1) := b139; have t2 : 0 ≤ lx67.toInt + 1 := i71; have t3 : 0 ≤ lx67.toInt := b92; omega) ⟨(show q_F (0 ≤ a137.toInt + 1) from (show 0 ≤ a137.toInt + 1 from by have t1 : 0 ≤ lx67.toInt := b92; have t2 : a137.toInt = lx67.toInt + (-1) := b139; omega)), (show q_F (lx68.toInt ≤ 2100) from (show lx68.toInt ≤ 2100 from by have t1 : lx68.toInt ≤ 2100 := i72; omega)), (show q_F (lx110.toInt ≤ 2100) from (show lx110.toInt ≤ 2100 from by have t1 : lx27.toInt ≤ 0 := b42; have t2 : lx110.toInt ≤ lx27.toInt + 2100 := i117; omega)), (show q_F (lx27.toInt ≤ lx68.toInt + 1) from (show lx27.toInt ≤ lx68.toInt + 1 from by have t1 : lx27.toInt ≤ lx68.toInt + 1 := i74; omega)), (show q_F (lx27.toInt ≤ lx123.toInt) from (show lx27.toInt ≤ lx123.toInt from by have t1 : lx27.toInt ≤ lx69.toInt := i75; have t2 : lx69.toInt ≤ lx123.toInt := i128; omega)), (show q_F (lx27.toInt ≤ lx110.toInt) from (show lx27.toInt ≤ lx110.toInt from by have t1 : lx27.toInt ≤ lx70.toInt := i76; have t2 : lx70.toInt ≤ lx110.toInt := i115; omega)), (show q_F (a137.toInt + lx123.toInt ≤ 2047) from (show a137.toInt + lx123.toInt ≤ 2047 from by have t1 : lx67.toInt + lx69.toInt ≤ 2047 := i77; have t2 : lx123.toInt ≤ lx69.toInt + 1 := i129; have t3 : a137.toInt = lx67.toInt + (-1) := b139; omega)), V, q_lw hl (q_lw1 0 rfl (q_lw1 1 rfl (q_lw1 2 rfl (q_lw1 3 rfl (q_lw1 5 rfl (q_lw1 6 rfl (q_lw1 7 rfl (q_lw1 8 rfl q_lw0)))))))), ⟨fm83, Nat.lt_of_lt_of_le (show (a137.toInt - ((-1))).toNat < (lx67.toInt - ((-1))).toNat from by have t1 : a137.toInt = lx67.toInt + (-1) := b139; have t2 : 0 ≤ lx67.toInt + 1 := i71; have t3 : 0 ≤ lx67.toInt := b92; omega) (Nat.le_of_lt_succ hf82), (show F_WR_told_L144 x2 x3 t0_0 t0_1 t0_2 t0_3 t0_4 t0_5 t0_6 t1_0 t2_0 lx27 lx51 fm83 a137 lx68 lx123 lx110 = (F_WR_told x2 x3 t0_0 t0_1 t0_2 t0_3 t0_4 t0_5 t0_6 t1_0 t2_0) from Eq.trans (by rw [← e138, F_WR_told_J209.eq_1, if_neg c135]) hR130), (show True ∧ S_WR_told_L144 x2 x3 t0_0 t0_1 t0_2 t0_3 t0_4 t0_5 t0_6 t1_0 t2_0 lx27 lx51 fm83 a137 lx68 lx123 lx110 from (by rw [← e138]; have h := hS131; rw [S_WR_told_J209.eq_1] at h; rw [if_neg c135] at h; with_reducible exact h))⟩⟩
                  ·
                    refine lv_iload hx hb d_19_41_217 (lv_at hl 3 rfl) ?_
                    refine lv_i2l hx hb d_19_41_219 rfl ?_
                    obtain ⟨j141, e142⟩ := q_nm (lx67.toInt64 : Int64)
                    refine q_tl (v := j141) e142 ?_
                    have b143 : q_F (j141.toInt = lx67.toInt) := (by rw [← e142]; show (lx67.toInt64 : Int64).toInt = lx67.toInt; exact q_i2l rfl)
                    refine lv_goto (tgt := 225) hx hb d_19_41_220 (by decide) ?_
                    refine lv_lstore (lv' := [(8, .long j141), (6, .long lx123), (4, .long lx110), (11, .int a107), (10, .int lx67), (3, .int lx51), (0, .ref (q 119)), (1, .int x2), (2, .int x3)]) hx hb d_19_41_225 hl (by decide) rfl (fun ls hl => ?_)
                    obtain ⟨a144, e145⟩ := q_nm (lx67 + (-1) : Int32)
                    have b146 : q_F (a144.toInt = lx67.toInt + (-1)) := (by rw [← e145]; exact q_addI (y := (-1)) rfl (by decide) (by have t1 : 0 ≤ lx67.toInt + 1 := i71; have _ := q_lo32 (x := lx67); have _ := q_hi32 (x := lx67); omega) (by have t1 : 0 ≤ lx67.toInt + 1 := i71; have _ := q_lo32 (x := lx67); have _ := q_hi32 (x := lx67); omega))
                    refine lv_iinc (v := a144) (lv' := [(10, .int a144), (8, .long j141), (6, .long lx123), (4, .long lx110), (11, .int a107), (3, .int lx51), (0, .ref (q 119)), (1, .int x2), (2, .int x3)]) hx hb d_19_41_227 hl (k := 4) rfl (e145) (by decide) rfl (fun ls hl => ?_)
                    refine lv_goto (tgt := 144) hx hb d_19_41_230 (by decide) ?_
                    have ob147 : q_F (j141.toInt ≤ 2100) := (by rw [← e142]; have h := hS131; rw [S_WR_told_J209.eq_1] at h; rw [if_pos c135] at h; exact h.2.1)
                    exact ih78 ((a144 : Int32), (j141 : Int64), (lx123 : Int64), (lx110 : Int64)) _ _ _ w39 (show (a144.toInt - ((-1))).toNat < (lx67.toInt - ((-1))).toNat from by have t1 : a144.toInt = lx67.toInt + (-1) := b146; have t2 : 0 ≤ lx67.toInt + 1 := i71; have t3 : 0 ≤ lx67.toInt := b92; omega) ⟨(show q_F (0 ≤ a144.toInt + 1) from (show 0 ≤ a144.toInt + 1 from by have t1 : 0 ≤ lx67.toInt := b92; have t2 : a144.toInt = lx67.toInt + (-1) := b146; omega)), (show q_F (j141.toInt ≤ 2100) from (show j141.toInt ≤ 2100 from by have t1 : j141.toInt ≤ 2100 := ob147; omega)), (show q_F (lx110.toInt ≤ 2100) from (show lx110.toInt ≤ 2100 from by have t1 : lx27.toInt ≤ 0 := b42; have t2 : lx110.toInt ≤ lx27.toInt + 2100 := i117; omega)), (show q_F (lx27.toInt ≤ j141.toInt + 1) from (show lx27.toInt ≤ j141.toInt + 1 from by have t1 : lx27.toInt ≤ 0 := b42; have t2 : 0 ≤ lx67.toInt + 1 := i71; have t3 : j141.toInt = lx67.toInt := b143; omega)), (show q_F (lx27.toInt ≤ lx123.toInt) from (show lx27.toInt ≤ lx123.toInt from by have t1 : lx27.toInt ≤ lx69.toInt := i75; have t2 : lx69.toInt ≤ lx123.toInt := i128; omega)), (show q_F (lx27.toInt ≤ lx110.toInt) from (show lx27.toInt ≤ lx110.toInt from by have t1 : lx27.toInt ≤ lx70.toInt := i76; have t2 : lx70.toInt ≤ lx110.toInt := i115; omega)), (show q_F (a144.toInt + lx123.toInt ≤ 2047) from (show a144.toInt + lx123.toInt ≤ 2047 from by have t1 : lx67.toInt + lx69.toInt ≤ 2047 := i77; have t2 : lx123.toInt ≤ lx69.toInt + 1 := i129; have t3 : a144.toInt = lx67.toInt + (-1) := b146; omega)), V, q_lw hl (q_lw1 0 rfl (q_lw1 1 rfl (q_lw1 2 rfl (q_lw1 3 rfl (q_lw1 5 rfl (q_lw1 6 rfl (q_lw1 7 rfl (q_lw1 8 rfl q_lw0)))))))), ⟨fm83, Nat.lt_of_lt_of_le (show (a144.toInt - ((-1))).toNat < (lx67.toInt - ((-1))).toNat from by have t1 : a144.toInt = lx67.toInt + (-1) := b146; have t2 : 0 ≤ lx67.toInt + 1 := i71; have t3 : 0 ≤ lx67.toInt := b92; omega) (Nat.le_of_lt_succ hf82), (show F_WR_told_L144 x2 x3 t0_0 t0_1 t0_2 t0_3 t0_4 t0_5 t0_6 t1_0 t2_0 lx27 lx51 fm83 a144 j141 lx123 lx110 = (F_WR_told x2 x3 t0_0 t0_1 t0_2 t0_3 t0_4 t0_5 t0_6 t1_0 t2_0) from Eq.trans (by rw [← e145, ← e142, F_WR_told_J209.eq_1, if_pos c135]) hR130), (show True ∧ S_WR_told_L144 x2 x3 t0_0 t0_1 t0_2 t0_3 t0_4 t0_5 t0_6 t1_0 t2_0 lx27 lx51 fm83 a144 j141 lx123 lx110 from (by rw [← e145, ← e142]; have h := hS131; rw [S_WR_told_J209.eq_1] at h; rw [if_pos c135] at h; replace h := q_s2 h; with_reducible exact h))⟩⟩
                ·
                  intro J127
                  refine lv_icmp_eq (tgt := 207) hx hb d_19_41_197 (by decide) (fun c148 => ?_) (fun c148 => ?_)
                  ·
                    refine lv_lload hx hb d_19_41_207 (lv_at hl 4 rfl) ?_
                    exact J127 ((lx69 : Int64)) _ _ _ w39 ⟨(show q_F (lx69.toInt ≤ lx69.toInt) from (show lx69.toInt ≤ lx69.toInt from by omega)), (show q_F (lx69.toInt ≤ lx69.toInt + 1) from (show lx69.toInt ≤ lx69.toInt + 1 from by omega)), V, q_lw hl (q_lw1 0 rfl (q_lw1 1 rfl (q_lw1 2 rfl (q_lw1 3 rfl (q_lw1 5 rfl (q_lw1 6 rfl (q_lw1 7 rfl (q_lw1 8 rfl q_lw0)))))))), (show F_WR_told_J209 (F_WR_told_L144 x2 x3 t0_0 t0_1 t0_2 t0_3 t0_4 t0_5 t0_6 t1_0 t2_0 lx27 lx51 fm83) x2 x3 t0_0 t0_1 t0_2 t0_3 t0_4 t0_5 t0_6 t1_0 t2_0 lx27 lx51 lx67 lx68 lx69 lx70 a107 lx110 lx69 = (F_WR_told x2 x3 t0_0 t0_1 t0_2 t0_3 t0_4 t0_5 t0_6 t1_0 t2_0) from Eq.trans (by rw [F_WR_told_J192.eq_1, if_pos c148]) hR118), (show True ∧ S_WR_told_J209 (S_WR_told_L144 x2 x3 t0_0 t0_1 t0_2 t0_3 t0_4 t0_5 t0_6 t1_0 t2_0 lx27 lx51 fm83) x2 x3 t0_0 t0_1 t0_2 t0_3 t0_4 t0_5 t0_6 t1_0 t2_0 lx27 lx51 lx67 lx68 lx69 lx70 a107 lx110 lx69 from (by have h := hS119; rw [S_WR_told_J192.eq_1] at h; rw [if_pos c148] at h; with_reducible exact h))⟩
                  ·
                    refine lv_lload hx hb d_19_41_200 (lv_at hl 4 rfl) ?_
                    refine lv_lconst (v := 1) hx hb d_19_41_202 (by decide) ?_
                    refine lv_ladd hx hb d_19_41_203 ?_
                    obtain ⟨j151, e152⟩ := q_nm (lx69 + 1 : Int64)
                    refine q_tl (v := j151) e152 ?_
                    have b153 : q_F (j151.toInt = lx69.toInt + 1) := (by rw [← e152]; show (lx69 + 1 : Int64).toInt = lx69.toInt + 1; exact q_addL (x := lx69.toInt) (y := 1) rfl (by decide) (by have t1 : lx27.toInt ≤ lx69.toInt := i75; have _ := q_lo32 (x := lx27); have _ := q_hi32 (x := lx27); have t2 : lx67.toInt + lx69.toInt ≤ 2047 := i77; have _ := q_lo32 (x := lx67); have _ := q_hi32 (x := lx67); omega) (by have t1 : lx27.toInt ≤ lx69.toInt := i75; have _ := q_lo32 (x := lx27); have _ := q_hi32 (x := lx27); have t2 : lx67.toInt + lx69.toInt ≤ 2047 := i77; have _ := q_lo32 (x := lx67); have _ := q_hi32 (x := lx67); omega))
                    refine lv_goto (tgt := 209) hx hb d_19_41_204 (by decide) ?_
                    exact J127 ((j151 : Int64)) _ _ _ w39 ⟨(show q_F (lx69.toInt ≤ j151.toInt) from (show lx69.toInt ≤ j151.toInt from by have t1 : j151.toInt = lx69.toInt + 1 := b153; omega)), (show q_F (j151.toInt ≤ lx69.toInt + 1) from (show j151.toInt ≤ lx69.toInt + 1 from by have t1 : j151.toInt = lx69.toInt + 1 := b153; omega)), V, q_lw hl (q_lw1 0 rfl (q_lw1 1 rfl (q_lw1 2 rfl (q_lw1 3 rfl (q_lw1 5 rfl (q_lw1 6 rfl (q_lw1 7 rfl (q_lw1 8 rfl q_lw0)))))))), (show F_WR_told_J209 (F_WR_told_L144 x2 x3 t0_0 t0_1 t0_2 t0_3 t0_4 t0_5 t0_6 t1_0 t2_0 lx27 lx51 fm83) x2 x3 t0_0 t0_1 t0_2 t0_3 t0_4 t0_5 t0_6 t1_0 t2_0 lx27 lx51 lx67 lx68 lx69 lx70 a107 lx110 j151 = (F_WR_told x2 x3 t0_0 t0_1 t0_2 t0_3 t0_4 t0_5 t0_6 t1_0 t2_0) from Eq.trans (by rw [← e152, F_WR_told_J192.eq_1, if_neg c148]) hR118), (show True ∧ S_WR_told_J209 (S_WR_told_L144 x2 x3 t0_0 t0_1 t0_2 t0_3 t0_4 t0_5 t0_6 t1_0 t2_0 lx27 lx51 fm83) x2 x3 t0_0 t0_1 t0_2 t0_3 t0_4 t0_5 t0_6 t1_0 t2_0 lx27 lx51 lx67 lx68 lx69 lx70 a107 lx110 j151 from (by rw [← e152]; have h := hS119; rw [S_WR_told_J192.eq_1] at h; rw [if_neg c148] at h; with_reducible exact h))⟩
              ·
                intro J114
                refine q_join (X := Unit) (fun z H locs ls _ => q_Wd D g (va_A ws sz) s w39 H locs ∧ lv_has ls 12 [(11, .int a107), (10, .int lx67), (8, .long lx68), (6, .long lx69), (4, .long lx70), (3, .int lx51), (0, .ref (q 119)), (1, .int x2), (2, .int x3)] ∧ F_WR_told_J190 (F_WR_told_L144 x2 x3 t0_0 t0_1 t0_2 t0_3 t0_4 t0_5 t0_6 t1_0 t2_0 lx27 lx51 fm83) x2 x3 t0_0 t0_1 t0_2 t0_3 t0_4 t0_5 t0_6 t1_0 t2_0 lx27 lx51 lx67 lx68 lx69 lx70 a107 = (F_WR_told x2 x3 t0_0 t0_1 t0_2 t0_3 t0_4 t0_5 t0_6 t1_0 t2_0) ∧ True ∧ S_WR_told_J190 (S_WR_told_L144 x2 x3 t0_0 t0_1 t0_2 t0_3 t0_4 t0_5 t0_6 t1_0 t2_0 lx27 lx51 fm83) x2 x3 t0_0 t0_1 t0_2 t0_3 t0_4 t0_5 t0_6 t1_0 t2_0 lx27 lx51 lx67 lx68 lx69 lx70 a107) (fun z => []) 190 0 0 ?_ ?_
                ·
                  rintro _ H locs ls _ ⟨V, hl, hR158, hS159⟩
                  replace hl : lv_has ls 12 [(11, .int a107), (10, .int lx67), (8, .long lx68), (6, .long lx69), (4, .long lx70), (3, .int lx51), (0, .ref (q 119)), (1, .int x2), (2, .int x3)] := hl
                  refine lv_lload hx hb d_19_41_190 (lv_at hl 4 rfl) ?_
                  exact J114 ((lx70 : Int64)) _ _ _ w39 ⟨(show q_F (lx70.toInt ≤ lx70.toInt) from (show lx70.toInt ≤ lx70.toInt from by omega)), (show q_F (lx70.toInt ≤ lx70.toInt + 2048) from (show lx70.toInt ≤ lx70.toInt + 2048 from by omega)), (show q_F (lx70.toInt ≤ lx27.toInt + 2100) from (show lx70.toInt ≤ lx27.toInt + 2100 from by have t1 : 0 ≤ lx27.toInt := i32; have t2 : lx70.toInt ≤ 2100 := i73; omega)), V, q_lw hl (q_lw1 0 rfl (q_lw1 1 rfl (q_lw1 2 rfl (q_lw1 3 rfl (q_lw1 5 rfl (q_lw1 6 rfl (q_lw1 7 rfl (q_lw1 8 rfl q_lw0)))))))), (show F_WR_told_J192 (F_WR_told_L144 x2 x3 t0_0 t0_1 t0_2 t0_3 t0_4 t0_5 t0_6 t1_0 t2_0 lx27 lx51 fm83) x2 x3 t0_0 t0_1 t0_2 t0_3 t0_4 t0_5 t0_6 t1_0 t2_0 lx27 lx51 lx67 lx68 lx69 lx70 a107 lx70 = (F_WR_told x2 x3 t0_0 t0_1 t0_2 t0_3 t0_4 t0_5 t0_6 t1_0 t2_0) from Eq.trans (by rw [F_WR_told_J190.eq_1]) hR158), (show True ∧ S_WR_told_J192 (S_WR_told_L144 x2 x3 t0_0 t0_1 t0_2 t0_3 t0_4 t0_5 t0_6 t1_0 t2_0 lx27 lx51 fm83) x2 x3 t0_0 t0_1 t0_2 t0_3 t0_4 t0_5 t0_6 t1_0 t2_0 lx27 lx51 lx67 lx68 lx69 lx70 a107 lx70 from (by have h := hS159; rw [S_WR_told_J190.eq_1] at h; with_reducible exact h))⟩
                ·
                  intro J157
                  refine lv_icmp_eq (tgt := 190) hx hb d_19_41_172 (by decide) (fun c163 => ?_) (fun c163 => ?_)
                  ·
                    exact J157 (()) _ _ _ w39 ⟨V, q_lw hl (q_lw1 0 rfl (q_lw1 1 rfl (q_lw1 2 rfl (q_lw1 3 rfl (q_lw1 4 rfl (q_lw1 5 rfl (q_lw1 6 rfl (q_lw1 7 rfl (q_lw1 8 rfl q_lw0))))))))), (show F_WR_told_J190 (F_WR_told_L144 x2 x3 t0_0 t0_1 t0_2 t0_3 t0_4 t0_5 t0_6 t1_0 t2_0 lx27 lx51 fm83) x2 x3 t0_0 t0_1 t0_2 t0_3 t0_4 t0_5 t0_6 t1_0 t2_0 lx27 lx51 lx67 lx68 lx69 lx70 a107 = (F_WR_told x2 x3 t0_0 t0_1 t0_2 t0_3 t0_4 t0_5 t0_6 t1_0 t2_0) from Eq.trans (by have c163x := c163; rw [← e108, ← e106, ← e103, e101, ← e94] at c163x; rw [← e108, ← e106, ← e103, e101, ← e94, F_WR_told_L144.eq_2, if_neg c84, if_pos c163x]) hR79), (show True ∧ S_WR_told_J190 (S_WR_told_L144 x2 x3 t0_0 t0_1 t0_2 t0_3 t0_4 t0_5 t0_6 t1_0 t2_0 lx27 lx51 fm83) x2 x3 t0_0 t0_1 t0_2 t0_3 t0_4 t0_5 t0_6 t1_0 t2_0 lx27 lx51 lx67 lx68 lx69 lx70 a107 from (by rw [← e108, ← e106, ← e103, e101, ← e94]; have h := hS80; rw [S_WR_told_L144.eq_2] at h; rw [if_neg c84] at h; replace h := q_s2 h; have c163x := c163; rw [← e108, ← e106, ← e103, e101, ← e94] at c163x; rw [if_pos c163x] at h; with_reducible exact h))⟩
                  ·
                    refine lv_lload hx hb d_19_41_175 (lv_at hl 4 rfl) ?_
                    refine lv_lconst (v := 0) hx hb d_19_41_177 (by decide) ?_
                    refine W.lcmp hx hb d_19_41_178 ?_
                    obtain ⟨a166, e167⟩ := q_nm (lg_cmp lx70 0 : Int32)
                    refine q_ti (v := a166) e167 ?_
                    have b168 : q_F (-1 ≤ a166.toInt ∧ a166.toInt ≤ 1 ∧ ((a166.toInt = -1 ∧ lx70.toInt < 0) ∨ (a166.toInt = 0 ∧ lx70.toInt = 0) ∨ (a166.toInt = 1 ∧ 0 < lx70.toInt))) := (by rw [← e167]; show -1 ≤ (lg_cmp lx70 0 : Int32).toInt ∧ (lg_cmp lx70 0 : Int32).toInt ≤ 1 ∧ (((lg_cmp lx70 0 : Int32).toInt = -1 ∧ lx70.toInt < 0) ∨ ((lg_cmp lx70 0 : Int32).toInt = 0 ∧ lx70.toInt = 0) ∨ ((lg_cmp lx70 0 : Int32).toInt = 1 ∧ 0 < lx70.toInt)); exact (by have y1 : (0 : Int64).toInt = 0 := rfl; have z := s_lcmp (a := lx70) (b := 0); omega))
                    refine lv_if_ne (tgt := 190) hx hb d_19_41_179 (by decide) (fun c169 => ?_) (fun c169 => ?_)
                    ·
                      exact J157 (()) _ _ _ w39 ⟨V, q_lw hl (q_lw1 0 rfl (q_lw1 1 rfl (q_lw1 2 rfl (q_lw1 3 rfl (q_lw1 4 rfl (q_lw1 5 rfl (q_lw1 6 rfl (q_lw1 7 rfl (q_lw1 8 rfl q_lw0))))))))), (show F_WR_told_J190 (F_WR_told_L144 x2 x3 t0_0 t0_1 t0_2 t0_3 t0_4 t0_5 t0_6 t1_0 t2_0 lx27 lx51 fm83) x2 x3 t0_0 t0_1 t0_2 t0_3 t0_4 t0_5 t0_6 t1_0 t2_0 lx27 lx51 lx67 lx68 lx69 lx70 a107 = (F_WR_told x2 x3 t0_0 t0_1 t0_2 t0_3 t0_4 t0_5 t0_6 t1_0 t2_0) from Eq.trans (by have c163x := c163; rw [← e108, ← e106, ← e103, e101, ← e94] at c163x; have c169x := c169; rw [← e167] at c169x; rw [← e108, ← e106, ← e103, e101, ← e94, F_WR_told_L144.eq_2, if_neg c84, if_neg c163x, if_neg c169x]) hR79), (show True ∧ S_WR_told_J190 (S_WR_told_L144 x2 x3 t0_0 t0_1 t0_2 t0_3 t0_4 t0_5 t0_6 t1_0 t2_0 lx27 lx51 fm83) x2 x3 t0_0 t0_1 t0_2 t0_3 t0_4 t0_5 t0_6 t1_0 t2_0 lx27 lx51 lx67 lx68 lx69 lx70 a107 from (by rw [← e108, ← e106, ← e103, e101, ← e94]; have h := hS80; rw [S_WR_told_L144.eq_2] at h; rw [if_neg c84] at h; replace h := q_s2 h; have c163x := c163; rw [← e108, ← e106, ← e103, e101, ← e94] at c163x; rw [if_neg c163x] at h; have c169x := c169; rw [← e167] at c169x; rw [if_neg c169x] at h; with_reducible exact h))⟩
                    ·
                      have b171 : q_F (a166.toInt = 0) := (q_eqI c169)
                      refine lv_iload hx hb d_19_41_182 (lv_at hl 1 rfl) ?_
                      refine lv_iconst (v := 1) hx hb d_19_41_184 (by decide) ?_
                      refine lv_iadd hx hb d_19_41_185 ?_
                      obtain ⟨a172, e173⟩ := q_nm (lx67 + 1 : Int32)
                      refine q_ti (v := a172) e173 ?_
                      have b174 : q_F (a172.toInt = lx67.toInt + 1) := (by rw [← e173]; show (lx67 + 1 : Int32).toInt = lx67.toInt + 1; exact q_addI (x := lx67.toInt) (y := 1) rfl (by decide) (by have t1 : 0 ≤ lx67.toInt + 1 := i71; have t2 : 0 ≤ lx27.toInt := i32; have t3 : lx27.toInt ≤ lx69.toInt := i75; have t4 : lx67.toInt + lx69.toInt ≤ 2047 := i77; omega) (by have t1 : 0 ≤ lx67.toInt + 1 := i71; have t2 : 0 ≤ lx27.toInt := i32; have t3 : lx27.toInt ≤ lx69.toInt := i75; have t4 : lx67.toInt + lx69.toInt ≤ 2047 := i77; omega))
                      refine lv_i2l hx hb d_19_41_186 rfl ?_
                      obtain ⟨j175, e176⟩ := q_nm (a172.toInt64 : Int64)
                      refine q_tl (v := j175) e176 ?_
                      have b177 : q_F (j175.toInt = a172.toInt) := (by rw [← e176]; show (a172.toInt64 : Int64).toInt = a172.toInt; exact q_i2l rfl)
                      refine lv_goto (tgt := 192) hx hb d_19_41_187 (by decide) ?_
                      exact J114 ((j175 : Int64)) _ _ _ w39 ⟨(show q_F (lx70.toInt ≤ j175.toInt) from (show lx70.toInt ≤ j175.toInt from by have t1 : 0 ≤ lx67.toInt + 1 := i71; have t2 : -1 ≤ a166.toInt ∧ a166.toInt ≤ 1 ∧ ((a166.toInt = -1 ∧ lx70.toInt < 0) ∨ (a166.toInt = 0 ∧ lx70.toInt = 0) ∨ (a166.toInt = 1 ∧ 0 < lx70.toInt)) := b168; have t3 : a166.toInt = 0 := b171; have t4 : a172.toInt = lx67.toInt + 1 := b174; have t5 : j175.toInt = a172.toInt := b177; omega)), (show q_F (j175.toInt ≤ lx70.toInt + 2048) from (show j175.toInt ≤ lx70.toInt + 2048 from by have t1 : 0 ≤ lx27.toInt := i32; have t2 : lx27.toInt ≤ lx69.toInt := i75; have t3 : lx27.toInt ≤ lx70.toInt := i76; have t4 : lx67.toInt + lx69.toInt ≤ 2047 := i77; have t5 : a172.toInt = lx67.toInt + 1 := b174; have t6 : j175.toInt = a172.toInt := b177; omega)), (show q_F (j175.toInt ≤ lx27.toInt + 2100) from (show j175.toInt ≤ lx27.toInt + 2100 from by have t1 : 0 ≤ lx27.toInt := i32; have t2 : lx27.toInt ≤ lx69.toInt := i75; have t3 : lx67.toInt + lx69.toInt ≤ 2047 := i77; have t4 : a172.toInt = lx67.toInt + 1 := b174; have t5 : j175.toInt = a172.toInt := b177; omega)), V, q_lw hl (q_lw1 0 rfl (q_lw1 1 rfl (q_lw1 2 rfl (q_lw1 3 rfl (q_lw1 5 rfl (q_lw1 6 rfl (q_lw1 7 rfl (q_lw1 8 rfl q_lw0)))))))), (show F_WR_told_J192 (F_WR_told_L144 x2 x3 t0_0 t0_1 t0_2 t0_3 t0_4 t0_5 t0_6 t1_0 t2_0 lx27 lx51 fm83) x2 x3 t0_0 t0_1 t0_2 t0_3 t0_4 t0_5 t0_6 t1_0 t2_0 lx27 lx51 lx67 lx68 lx69 lx70 a107 j175 = (F_WR_told x2 x3 t0_0 t0_1 t0_2 t0_3 t0_4 t0_5 t0_6 t1_0 t2_0) from Eq.trans (by have c163x := c163; rw [← e108, ← e106, ← e103, e101, ← e94] at c163x; have c169x := c169; rw [← e167] at c169x; rw [← e176, ← e173, ← e108, ← e106, ← e103, e101, ← e94, F_WR_told_L144.eq_2, if_neg c84, if_neg c163x, if_pos c169x]) hR79), (show True ∧ S_WR_told_J192 (S_WR_told_L144 x2 x3 t0_0 t0_1 t0_2 t0_3 t0_4 t0_5 t0_6 t1_0 t2_0 lx27 lx51 fm83) x2 x3 t0_0 t0_1 t0_2 t0_3 t0_4 t0_5 t0_6 t1_0 t2_0 lx27 lx51 lx67 lx68 lx69 lx70 a107 j175 from (by rw [← e176, ← e173, ← e108, ← e106, ← e103, e101, ← e94]; have h := hS80; rw [S_WR_told_L144.eq_2] at h; rw [if_neg c84] at h; replace h := q_s2 h; have c163x := c163; rw [← e108, ← e106, ← e103, e101, ← e94] at c163x; rw [if_neg c163x] at h; have c169x := c169; rw [← e167] at c169x; rw [if_pos c169x] at h; with_reducible exact h))⟩
          ·
            intro J55
            refine lv_if_eq (tgt := 126) hx hb d_19_41_119 (by decide) (fun c178 => ?_) (fun c178 => ?_)
            ·
              refine lv_iconst (v := 0) hx hb d_19_41_126 (by decide) ?_
              exact J55 ((0 : Int32)) _ _ _ w39 ⟨(show q_F (lx27.toInt ≤ 0) from (show lx27.toInt ≤ 0 from by have t1 : lx27.toInt ≤ 0 := b42; omega)), (show q_F (0 ≤ lx27.toInt + 1) from (show 0 ≤ lx27.toInt + 1 from by have t1 : 0 ≤ lx27.toInt := i32; omega)), V, q_lw hl (q_lw1 0 rfl (q_lw1 1 rfl (q_lw1 2 rfl q_lw0))), (show F_WR_told_J127 x2 x3 t0_0 t0_1 t0_2 t0_3 t0_4 t0_5 t0_6 t1_0 t2_0 lx27 0 = (F_WR_told x2 x3 t0_0 t0_1 t0_2 t0_3 t0_4 t0_5 t0_6 t1_0 t2_0) from Eq.trans (by have c178x := c178; rw [← e50] at c178x; rw [F_WR_told_J22.eq_1, if_pos c41, if_neg c43, if_neg c45, if_pos c178x]) hR34), (show True ∧ S_WR_told_J127 x2 x3 t0_0 t0_1 t0_2 t0_3 t0_4 t0_5 t0_6 t1_0 t2_0 lx27 0 from (by have h := hS35; rw [S_WR_told_J22.eq_1] at h; rw [if_pos c41] at h; rw [if_neg c43] at h; rw [if_neg c45] at h; replace h := q_s2 h; replace h := q_s2 h; have c178x := c178; rw [← e50] at c178x; rw [if_pos c178x] at h; with_reducible exact h))⟩
            ·
              refine lv_iconst (v := 1) hx hb d_19_41_122 (by decide) ?_
              refine lv_goto (tgt := 127) hx hb d_19_41_123 (by decide) ?_
              exact J55 ((1 : Int32)) _ _ _ w39 ⟨(show q_F (lx27.toInt ≤ 1) from (show lx27.toInt ≤ 1 from by have t1 : lx27.toInt ≤ 1 := i33; omega)), (show q_F (1 ≤ lx27.toInt + 1) from (show 1 ≤ lx27.toInt + 1 from by have t1 : 0 ≤ lx27.toInt := i32; omega)), V, q_lw hl (q_lw1 0 rfl (q_lw1 1 rfl (q_lw1 2 rfl q_lw0))), (show F_WR_told_J127 x2 x3 t0_0 t0_1 t0_2 t0_3 t0_4 t0_5 t0_6 t1_0 t2_0 lx27 1 = (F_WR_told x2 x3 t0_0 t0_1 t0_2 t0_3 t0_4 t0_5 t0_6 t1_0 t2_0) from Eq.trans (by have c178x := c178; rw [← e50] at c178x; rw [F_WR_told_J22.eq_1, if_pos c41, if_neg c43, if_neg c45, if_neg c178x]) hR34), (show True ∧ S_WR_told_J127 x2 x3 t0_0 t0_1 t0_2 t0_3 t0_4 t0_5 t0_6 t1_0 t2_0 lx27 1 from (by have h := hS35; rw [S_WR_told_J22.eq_1] at h; rw [if_pos c41] at h; rw [if_neg c43] at h; rw [if_neg c45] at h; replace h := q_s2 h; replace h := q_s2 h; have c178x := c178; rw [← e50] at c178x; rw [if_neg c178x] at h; with_reducible exact h))⟩
        ·
          refine lv_aload_n hx hb d_19_41_84 rfl (lv_at hl 0 rfl) ?_
          refine lv_iload_n hx hb d_19_41_85 rfl (lv_at hl 1 rfl) ?_
          have ob182 : True ∧ S_WR_isZero x2 lx27 t0_1 t0_2 t0_3 t0_4 t0_5 t0_6 t1_0 := (by have h := hS35; rw [S_WR_told_J22.eq_1] at h; rw [if_pos c41] at h; rw [if_neg c43] at h; rw [if_pos c45] at h; with_reducible exact h.2.1)
          refine q_goi V (q_runV (As := [.int x2]) (rest := []) (d := 1) (mc := 0) (ms := 0) (ci := 13) C0 V rfl LV_WR_119 (X_WR_isZero l D g q w39  x2 hI lx27 t0_1 t0_2 t0_3 t0_4 t0_5 t0_6 hT0 t1_0 hT1 ob182 _) rfl rfl hT0 rfl hl.1 rfl (Nat.le_of_ble_eq_true rfl) ⟨by decide, by decide⟩ ⟨Nat.le_of_ble_eq_true rfl, Nat.le_of_ble_eq_true rfl⟩ d_19_41_86) (fun a185 u183 H locs hp184 V => ?_)
          obtain ⟨rfl, b186, b187, hE188⟩ := hp184
          have e189 : a185 = (F_WR_isZero x2 lx27 t0_1 t0_2 t0_3 t0_4 t0_5 t0_6 t1_0) := hE188
          clear b186
          clear b187
          refine lv_if_eq (tgt := 96) hx hb d_19_41_89 (by decide) (fun c190 => ?_) (fun c190 => ?_)
          ·
            refine lv_aload_n hx hb d_19_41_96 rfl (lv_at hl 0 rfl) ?_
            refine q_get (ci := 13) (j := 5) (v := .ref (q 122)) C0 V i_WR rfl rfl hT0 (by decide) w_1929 rfl d_19_41_97 ?_
            refine lv_iload_n hx hb d_19_41_100 rfl (lv_at hl 1 rfl) ?_
            have ob192 : q_F (0 ≤ x2.toInt) := (by have h := hS35; rw [S_WR_told_J22.eq_1] at h; rw [if_pos c41] at h; rw [if_neg c43] at h; rw [if_pos c45] at h; replace h := q_s2 h; have c190x := c190; rw [e189] at c190x; rw [if_pos c190x] at h; exact h.2.1)
            have ob193 : q_F (x2.toInt ≤ 10) := (by have h := hS35; rw [S_WR_told_J22.eq_1] at h; rw [if_pos c41] at h; rw [if_neg c43] at h; rw [if_pos c45] at h; replace h := q_s2 h; have c190x := c190; rw [e189] at c190x; rw [if_pos c190x] at h; replace h := q_s2 h; exact h.2.1)
            refine q_zald C0 V hT2 (q_ix (x := x2.toInt) rfl (by first | with_reducible exact q_fe ob192 | (have t1 : 0 ≤ x2.toInt := ob192; omega)) (by have t1 : 0 ≤ x2.toInt := ob192; have t2 : x2.toInt ≤ 10 := ob193; omega)) d_19_41_101 ?_
            obtain ⟨a194, e195⟩ := q_nm (t2_0 x2.toNatClampNeg : Int32)
            refine q_ti (v := a194) e195 ?_
            refine lv_if_eq (tgt := 111) hx hb d_19_41_102 (by decide) (fun c196 => ?_) (fun c196 => ?_)
            ·
              refine lv_lconst (v := 1) hx hb d_19_41_111 (by decide) ?_
              exact q_retl C0 V (⟨hI, hF, lx27, t0_1, t0_2, t0_3, t0_4, t0_5, t0_6, hT0, (show 0 ≤ lx27.toInt from (by have z11 : (1 : Int64).toInt = 1 := rfl; have t1 : 0 ≤ lx27.toInt := i32; omega)), (show lx27.toInt ≤ 1 from (by have z11 : (1 : Int64).toInt = 1 := rfl; have t1 : lx27.toInt ≤ 1 := i33; omega)), (show t0_1.toInt ≤ t0_1.toInt from (by have z11 : (1 : Int64).toInt = 1 := rfl; omega)), (show t0_1.toInt ≤ t0_1.toInt from (by have z11 : (1 : Int64).toInt = 1 := rfl; omega)), (show t0_2.toInt ≤ t0_2.toInt from (by have z11 : (1 : Int64).toInt = 1 := rfl; omega)), (show t0_2.toInt ≤ t0_2.toInt from (by have z11 : (1 : Int64).toInt = 1 := rfl; omega)), (show t0_3.toInt ≤ t0_3.toInt from (by have z11 : (1 : Int64).toInt = 1 := rfl; omega)), (show t0_3.toInt ≤ t0_3.toInt from (by have z11 : (1 : Int64).toInt = 1 := rfl; omega)), (show t0_4.toInt ≤ t0_4.toInt from (by have z11 : (1 : Int64).toInt = 1 := rfl; omega)), (show t0_4.toInt ≤ t0_4.toInt from (by have z11 : (1 : Int64).toInt = 1 := rfl; omega)), (show t0_5.toInt ≤ t0_5.toInt from (by have z11 : (1 : Int64).toInt = 1 := rfl; omega)), (show t0_5.toInt ≤ t0_5.toInt from (by have z11 : (1 : Int64).toInt = 1 := rfl; omega)), (show t0_6.toInt ≤ t0_6.toInt from (by have z11 : (1 : Int64).toInt = 1 := rfl; omega)), (show t0_6.toInt ≤ t0_6.toInt from (by have z11 : (1 : Int64).toInt = 1 := rfl; omega)), (show ((1 : Int64), lx27, t0_1, t0_2, t0_3, t0_4, t0_5, t0_6) = (F_WR_told x2 x3 t0_0 t0_1 t0_2 t0_3 t0_4 t0_5 t0_6 t1_0 t2_0) from Eq.trans (by have c190x := c190; rw [e189] at c190x; have c196x := c196; rw [← e195] at c196x; rw [F_WR_told_J22.eq_1, if_pos c41, if_neg c43, if_pos c45, if_pos c190x, if_pos c196x]) hR34)⟩) d_19_41_112
            ·
              refine q_ldc2 C0 rfl w_2564 d_19_41_105 ?_
              refine lv_goto (tgt := 112) hx hb d_19_41_108 (by decide) ?_
              exact q_retl C0 V (⟨hI, hF, lx27, t0_1, t0_2, t0_3, t0_4, t0_5, t0_6, hT0, (show 0 ≤ lx27.toInt from (by have z11 : (-1 : Int64).toInt = -1 := rfl; have t1 : 0 ≤ lx27.toInt := i32; omega)), (show lx27.toInt ≤ 1 from (by have z11 : (-1 : Int64).toInt = -1 := rfl; have t1 : lx27.toInt ≤ 1 := i33; omega)), (show t0_1.toInt ≤ t0_1.toInt from (by have z11 : (-1 : Int64).toInt = -1 := rfl; omega)), (show t0_1.toInt ≤ t0_1.toInt from (by have z11 : (-1 : Int64).toInt = -1 := rfl; omega)), (show t0_2.toInt ≤ t0_2.toInt from (by have z11 : (-1 : Int64).toInt = -1 := rfl; omega)), (show t0_2.toInt ≤ t0_2.toInt from (by have z11 : (-1 : Int64).toInt = -1 := rfl; omega)), (show t0_3.toInt ≤ t0_3.toInt from (by have z11 : (-1 : Int64).toInt = -1 := rfl; omega)), (show t0_3.toInt ≤ t0_3.toInt from (by have z11 : (-1 : Int64).toInt = -1 := rfl; omega)), (show t0_4.toInt ≤ t0_4.toInt from (by have z11 : (-1 : Int64).toInt = -1 := rfl; omega)), (show t0_4.toInt ≤ t0_4.toInt from (by have z11 : (-1 : Int64).toInt = -1 := rfl; omega)), (show t0_5.toInt ≤ t0_5.toInt from (by have z11 : (-1 : Int64).toInt = -1 := rfl; omega)), (show t0_5.toInt ≤ t0_5.toInt from (by have z11 : (-1 : Int64).toInt = -1 := rfl; omega)), (show t0_6.toInt ≤ t0_6.toInt from (by have z11 : (-1 : Int64).toInt = -1 := rfl; omega)), (show t0_6.toInt ≤ t0_6.toInt from (by have z11 : (-1 : Int64).toInt = -1 := rfl; omega)), (show ((-1 : Int64), lx27, t0_1, t0_2, t0_3, t0_4, t0_5, t0_6) = (F_WR_told x2 x3 t0_0 t0_1 t0_2 t0_3 t0_4 t0_5 t0_6 t1_0 t2_0) from Eq.trans (by have c190x := c190; rw [e189] at c190x; have c196x := c196; rw [← e195] at c196x; rw [F_WR_told_J22.eq_1, if_pos c41, if_neg c43, if_pos c45, if_pos c190x, if_neg c196x]) hR34)⟩) d_19_41_112
          ·
            refine lv_lconst (v := 0) hx hb d_19_41_92 (by decide) ?_
            refine lv_goto (tgt := 112) hx hb d_19_41_93 (by decide) ?_
            exact q_retl C0 V (⟨hI, hF, lx27, t0_1, t0_2, t0_3, t0_4, t0_5, t0_6, hT0, (show 0 ≤ lx27.toInt from (by have z11 : (0 : Int64).toInt = 0 := rfl; have t1 : 0 ≤ lx27.toInt := i32; omega)), (show lx27.toInt ≤ 1 from (by have z11 : (0 : Int64).toInt = 0 := rfl; have t1 : lx27.toInt ≤ 1 := i33; omega)), (show t0_1.toInt ≤ t0_1.toInt from (by have z11 : (0 : Int64).toInt = 0 := rfl; omega)), (show t0_1.toInt ≤ t0_1.toInt from (by have z11 : (0 : Int64).toInt = 0 := rfl; omega)), (show t0_2.toInt ≤ t0_2.toInt from (by have z11 : (0 : Int64).toInt = 0 := rfl; omega)), (show t0_2.toInt ≤ t0_2.toInt from (by have z11 : (0 : Int64).toInt = 0 := rfl; omega)), (show t0_3.toInt ≤ t0_3.toInt from (by have z11 : (0 : Int64).toInt = 0 := rfl; omega)), (show t0_3.toInt ≤ t0_3.toInt from (by have z11 : (0 : Int64).toInt = 0 := rfl; omega)), (show t0_4.toInt ≤ t0_4.toInt from (by have z11 : (0 : Int64).toInt = 0 := rfl; omega)), (show t0_4.toInt ≤ t0_4.toInt from (by have z11 : (0 : Int64).toInt = 0 := rfl; omega)), (show t0_5.toInt ≤ t0_5.toInt from (by have z11 : (0 : Int64).toInt = 0 := rfl; omega)), (show t0_5.toInt ≤ t0_5.toInt from (by have z11 : (0 : Int64).toInt = 0 := rfl; omega)), (show t0_6.toInt ≤ t0_6.toInt from (by have z11 : (0 : Int64).toInt = 0 := rfl; omega)), (show t0_6.toInt ≤ t0_6.toInt from (by have z11 : (0 : Int64).toInt = 0 := rfl; omega)), (show ((0 : Int64), lx27, t0_1, t0_2, t0_3, t0_4, t0_5, t0_6) = (F_WR_told x2 x3 t0_0 t0_1 t0_2 t0_3 t0_4 t0_5 t0_6 t1_0 t2_0) from Eq.trans (by have c190x := c190; rw [e189] at c190x; rw [F_WR_told_J22.eq_1, if_pos c41, if_neg c43, if_pos c45, if_neg c190x]) hR34)⟩) d_19_41_112
      ·
        refine lv_aload_n hx hb d_19_41_38 rfl (lv_at hl 0 rfl) ?_
        refine lv_iload_n hx hb d_19_41_39 rfl (lv_at hl 1 rfl) ?_
        refine lv_iconst (v := 0) hx hb d_19_41_40 (by decide) ?_
        have ob201 : True ∧ S_WR_limb x2 (0 : Int32) lx27 t0_1 t0_2 t0_3 t0_4 t0_5 t0_6 t1_0 t2_0 := (by have h := hS35; rw [S_WR_told_J22.eq_1] at h; rw [if_pos c41] at h; rw [if_pos c43] at h; with_reducible exact h.2.1)
        refine q_goi V (q_runV (As := [.int x2, .int 0]) (rest := []) (d := 1) (mc := 0) (ms := 0) (ci := 13) C0 V rfl LV_WR_148 (X_WR_limb l D g q w39  x2 0 hI lx27 t0_1 t0_2 t0_3 t0_4 t0_5 t0_6 hT0 t1_0 hT1 t2_0 hT2 ob201 _) rfl rfl hT0 rfl hl.1 rfl (Nat.le_of_ble_eq_true rfl) ⟨by decide, by decide⟩ ⟨Nat.le_of_ble_eq_true rfl, Nat.le_of_ble_eq_true rfl⟩ d_19_41_41) (fun a204 u202 H locs hp203 V => ?_)
        obtain ⟨rfl, hE205⟩ := hp203
        have e206 : a204 = (F_WR_limb x2 (0 : Int32) lx27 t0_1 t0_2 t0_3 t0_4 t0_5 t0_6 t1_0 t2_0) := hE205
        refine lv_i2l hx hb d_19_41_44 rfl ?_
        obtain ⟨j207, e208⟩ := q_nm (a204.toInt64 : Int64)
        refine q_tl (v := j207) e208 ?_
        refine lv_aload_n hx hb d_19_41_45 rfl (lv_at hl 0 rfl) ?_
        refine lv_iload_n hx hb d_19_41_46 rfl (lv_at hl 1 rfl) ?_
        refine lv_iconst (v := 1) hx hb d_19_41_47 (by decide) ?_
        have ob210 : True ∧ S_WR_limb x2 (1 : Int32) lx27 t0_1 t0_2 t0_3 t0_4 t0_5 t0_6 t1_0 t2_0 := (by have h := hS35; rw [S_WR_told_J22.eq_1] at h; rw [if_pos c41] at h; rw [if_pos c43] at h; replace h := q_s2 h; with_reducible exact h.2.1)
        refine q_goi V (q_runV (As := [.int x2, .int 1]) (rest := [.long j207]) (d := 1) (mc := 0) (ms := 0) (ci := 13) C0 V rfl LV_WR_148 (X_WR_limb l D g q w39  x2 1 hI lx27 t0_1 t0_2 t0_3 t0_4 t0_5 t0_6 hT0 t1_0 hT1 t2_0 hT2 ob210 _) rfl rfl hT0 rfl hl.1 rfl (Nat.le_of_ble_eq_true rfl) ⟨by decide, by decide⟩ ⟨Nat.le_of_ble_eq_true rfl, Nat.le_of_ble_eq_true rfl⟩ d_19_41_48) (fun a213 u211 H locs hp212 V => ?_)
        obtain ⟨rfl, hE214⟩ := hp212
        have e215 : a213 = (F_WR_limb x2 (1 : Int32) lx27 t0_1 t0_2 t0_3 t0_4 t0_5 t0_6 t1_0 t2_0) := hE214
        refine lv_i2l hx hb d_19_41_51 rfl ?_
        obtain ⟨j216, e217⟩ := q_nm (a213.toInt64 : Int64)
        refine q_tl (v := j216) e217 ?_
        refine lv_bipush (v := 16) hx hb d_19_41_52 (by decide) ?_
        refine lv_lshl hx hb d_19_41_54 rfl ?_
        obtain ⟨j219, e220⟩ := q_nm (j216 <<< ((16 : Int32).toInt64 &&& 63) : Int64)
        refine q_tl (v := j219) e220 ?_
        refine lv_lor hx hb d_19_41_55 ?_
        obtain ⟨j221, e222⟩ := q_nm (j207 ||| j219 : Int64)
        refine q_tl (v := j221) e222 ?_
        refine lv_aload_n hx hb d_19_41_56 rfl (lv_at hl 0 rfl) ?_
        refine lv_iload_n hx hb d_19_41_57 rfl (lv_at hl 1 rfl) ?_
        refine lv_iconst (v := 2) hx hb d_19_41_58 (by decide) ?_
        have ob223 : True ∧ S_WR_limb x2 (2 : Int32) lx27 t0_1 t0_2 t0_3 t0_4 t0_5 t0_6 t1_0 t2_0 := (by have h := hS35; rw [S_WR_told_J22.eq_1] at h; rw [if_pos c41] at h; rw [if_pos c43] at h; replace h := q_s2 h; replace h := q_s2 h; with_reducible exact h.2.1)
        refine q_goi V (q_runV (As := [.int x2, .int 2]) (rest := [.long j221]) (d := 1) (mc := 0) (ms := 0) (ci := 13) C0 V rfl LV_WR_148 (X_WR_limb l D g q w39  x2 2 hI lx27 t0_1 t0_2 t0_3 t0_4 t0_5 t0_6 hT0 t1_0 hT1 t2_0 hT2 ob223 _) rfl rfl hT0 rfl hl.1 rfl (Nat.le_of_ble_eq_true rfl) ⟨by decide, by decide⟩ ⟨Nat.le_of_ble_eq_true rfl, Nat.le_of_ble_eq_true rfl⟩ d_19_41_59) (fun a226 u224 H locs hp225 V => ?_)
        obtain ⟨rfl, hE227⟩ := hp225
        have e228 : a226 = (F_WR_limb x2 (2 : Int32) lx27 t0_1 t0_2 t0_3 t0_4 t0_5 t0_6 t1_0 t2_0) := hE227
        refine lv_i2l hx hb d_19_41_62 rfl ?_
        obtain ⟨j229, e230⟩ := q_nm (a226.toInt64 : Int64)
        refine q_tl (v := j229) e230 ?_
        refine lv_bipush (v := 32) hx hb d_19_41_63 (by decide) ?_
        refine lv_lshl hx hb d_19_41_65 rfl ?_
        obtain ⟨j232, e233⟩ := q_nm (j229 <<< ((32 : Int32).toInt64 &&& 63) : Int64)
        refine q_tl (v := j232) e233 ?_
        refine lv_lor hx hb d_19_41_66 ?_
        obtain ⟨j234, e235⟩ := q_nm (j221 ||| j232 : Int64)
        refine q_tl (v := j234) e235 ?_
        refine lv_aload_n hx hb d_19_41_67 rfl (lv_at hl 0 rfl) ?_
        refine lv_iload_n hx hb d_19_41_68 rfl (lv_at hl 1 rfl) ?_
        refine lv_iconst (v := 3) hx hb d_19_41_69 (by decide) ?_
        have ob236 : True ∧ S_WR_limb x2 (3 : Int32) lx27 t0_1 t0_2 t0_3 t0_4 t0_5 t0_6 t1_0 t2_0 := (by have h := hS35; rw [S_WR_told_J22.eq_1] at h; rw [if_pos c41] at h; rw [if_pos c43] at h; replace h := q_s2 h; replace h := q_s2 h; replace h := q_s2 h; with_reducible exact h.2.1)
        refine q_goi V (q_runV (As := [.int x2, .int 3]) (rest := [.long j234]) (d := 1) (mc := 0) (ms := 0) (ci := 13) C0 V rfl LV_WR_148 (X_WR_limb l D g q w39  x2 3 hI lx27 t0_1 t0_2 t0_3 t0_4 t0_5 t0_6 hT0 t1_0 hT1 t2_0 hT2 ob236 _) rfl rfl hT0 rfl hl.1 rfl (Nat.le_of_ble_eq_true rfl) ⟨by decide, by decide⟩ ⟨Nat.le_of_ble_eq_true rfl, Nat.le_of_ble_eq_true rfl⟩ d_19_41_70) (fun a239 u237 H locs hp238 V => ?_)
        obtain ⟨rfl, hE240⟩ := hp238
        have e241 : a239 = (F_WR_limb x2 (3 : Int32) lx27 t0_1 t0_2 t0_3 t0_4 t0_5 t0_6 t1_0 t2_0) := hE240
        refine lv_i2l hx hb d_19_41_73 rfl ?_
        obtain ⟨j242, e243⟩ := q_nm (a239.toInt64 : Int64)
        refine q_tl (v := j242) e243 ?_
        refine lv_bipush (v := 48) hx hb d_19_41_74 (by decide) ?_
        refine lv_lshl hx hb d_19_41_76 rfl ?_
        obtain ⟨j245, e246⟩ := q_nm (j242 <<< ((48 : Int32).toInt64 &&& 63) : Int64)
        refine q_tl (v := j245) e246 ?_
        refine lv_lor hx hb d_19_41_77 ?_
        obtain ⟨j247, e248⟩ := q_nm (j234 ||| j245 : Int64)
        refine q_tl (v := j247) e248 ?_
        exact q_retl C0 V (⟨hI, hF, lx27, t0_1, t0_2, t0_3, t0_4, t0_5, t0_6, hT0, (show 0 ≤ lx27.toInt from (by first | with_reducible exact q_fe i32 | (have t1 : 0 ≤ lx27.toInt := i32; omega))), (show lx27.toInt ≤ 1 from (by first | with_reducible exact q_fe i33 | (have t1 : lx27.toInt ≤ 1 := i33; omega))), (show t0_1.toInt ≤ t0_1.toInt from (by omega)), (show t0_1.toInt ≤ t0_1.toInt from (by omega)), (show t0_2.toInt ≤ t0_2.toInt from (by omega)), (show t0_2.toInt ≤ t0_2.toInt from (by omega)), (show t0_3.toInt ≤ t0_3.toInt from (by omega)), (show t0_3.toInt ≤ t0_3.toInt from (by omega)), (show t0_4.toInt ≤ t0_4.toInt from (by omega)), (show t0_4.toInt ≤ t0_4.toInt from (by omega)), (show t0_5.toInt ≤ t0_5.toInt from (by omega)), (show t0_5.toInt ≤ t0_5.toInt from (by omega)), (show t0_6.toInt ≤ t0_6.toInt from (by omega)), (show t0_6.toInt ≤ t0_6.toInt from (by omega)), (show (j247, lx27, t0_1, t0_2, t0_3, t0_4, t0_5, t0_6) = (F_WR_told x2 x3 t0_0 t0_1 t0_2 t0_3 t0_4 t0_5 t0_6 t1_0 t2_0) from Eq.trans (by rw [← e248, ← e246, ← e243, e241, ← e235, ← e233, ← e230, e228, ← e222, ← e220, ← e217, e215, ← e208, e206, F_WR_told_J22.eq_1, if_pos c41, if_pos c43]) hR34)⟩) d_19_41_78
    ·
      refine lv_lconst (v := 0) hx hb d_19_41_32 (by decide) ?_
      exact q_retl C0 V (⟨hI, hF, lx27, t0_1, t0_2, t0_3, t0_4, t0_5, t0_6, hT0, (show 0 ≤ lx27.toInt from (by have z11 : (0 : Int64).toInt = 0 := rfl; have t1 : 0 ≤ lx27.toInt := i32; omega)), (show lx27.toInt ≤ 1 from (by have z11 : (0 : Int64).toInt = 0 := rfl; have t1 : lx27.toInt ≤ 1 := i33; omega)), (show t0_1.toInt ≤ t0_1.toInt from (by have z11 : (0 : Int64).toInt = 0 := rfl; omega)), (show t0_1.toInt ≤ t0_1.toInt from (by have z11 : (0 : Int64).toInt = 0 := rfl; omega)), (show t0_2.toInt ≤ t0_2.toInt from (by have z11 : (0 : Int64).toInt = 0 := rfl; omega)), (show t0_2.toInt ≤ t0_2.toInt from (by have z11 : (0 : Int64).toInt = 0 := rfl; omega)), (show t0_3.toInt ≤ t0_3.toInt from (by have z11 : (0 : Int64).toInt = 0 := rfl; omega)), (show t0_3.toInt ≤ t0_3.toInt from (by have z11 : (0 : Int64).toInt = 0 := rfl; omega)), (show t0_4.toInt ≤ t0_4.toInt from (by have z11 : (0 : Int64).toInt = 0 := rfl; omega)), (show t0_4.toInt ≤ t0_4.toInt from (by have z11 : (0 : Int64).toInt = 0 := rfl; omega)), (show t0_5.toInt ≤ t0_5.toInt from (by have z11 : (0 : Int64).toInt = 0 := rfl; omega)), (show t0_5.toInt ≤ t0_5.toInt from (by have z11 : (0 : Int64).toInt = 0 := rfl; omega)), (show t0_6.toInt ≤ t0_6.toInt from (by have z11 : (0 : Int64).toInt = 0 := rfl; omega)), (show t0_6.toInt ≤ t0_6.toInt from (by have z11 : (0 : Int64).toInt = 0 := rfl; omega)), (show ((0 : Int64), lx27, t0_1, t0_2, t0_3, t0_4, t0_5, t0_6) = (F_WR_told x2 x3 t0_0 t0_1 t0_2 t0_3 t0_4 t0_5 t0_6 t1_0 t2_0) from Eq.trans (by rw [F_WR_told_J22.eq_1, if_neg c41]) hR34)⟩) d_19_41_33
  ·
    intro J31
    refine q_join (X := Unit) (fun z H locs ls _ => q_Wd D g (va_A ws sz) s ws H locs ∧ lv_has ls 12 [(0, .ref (q 119)), (1, .int x2), (2, .int x3)] ∧ F_WR_told_J17 x2 x3 t0_0 t0_1 t0_2 t0_3 t0_4 t0_5 t0_6 t1_0 t2_0 = (F_WR_told x2 x3 t0_0 t0_1 t0_2 t0_3 t0_4 t0_5 t0_6 t1_0 t2_0) ∧ True ∧ S_WR_told_J17 x2 x3 t0_0 t0_1 t0_2 t0_3 t0_4 t0_5 t0_6 t1_0 t2_0) (fun z => [.ref (q 119)]) 17 0 0 ?_ ?_
    ·
      rintro _ H locs ls _ ⟨V, hl, hR254, hS255⟩
      replace hl : lv_has ls 12 [(0, .ref (q 119)), (1, .int x2), (2, .int x3)] := hl
      refine lv_iconst (v := 1) hx hb d_19_41_17 (by decide) ?_
      refine lv_goto (tgt := 22) hx hb d_19_41_18 (by decide) ?_
      exact J31 ((1 : Int32)) _ _ _ ws ⟨(show q_F (0 ≤ 1) from (show 0 ≤ 1 from by omega)), (show q_F (1 ≤ 1) from (show 1 ≤ 1 from by omega)), V, q_lw hl (q_lw1 0 rfl (q_lw1 1 rfl (q_lw1 2 rfl q_lw0))), (show F_WR_told_J22 x2 x3 t0_0 t0_1 t0_2 t0_3 t0_4 t0_5 t0_6 t1_0 t2_0 1 = (F_WR_told x2 x3 t0_0 t0_1 t0_2 t0_3 t0_4 t0_5 t0_6 t1_0 t2_0) from Eq.trans (by rw [F_WR_told_J17.eq_1]) hR254), (show True ∧ S_WR_told_J22 x2 x3 t0_0 t0_1 t0_2 t0_3 t0_4 t0_5 t0_6 t1_0 t2_0 1 from (by have h := hS255; rw [S_WR_told_J17.eq_1] at h; with_reducible exact h))⟩
    ·
      intro J253
      refine lv_if_ne (tgt := 17) hx hb d_19_41_5 (by decide) (fun c259 => ?_) (fun c259 => ?_)
      ·
        exact J253 (()) _ _ _ ws ⟨V, q_lw hl (q_lw1 0 rfl (q_lw1 1 rfl (q_lw1 2 rfl q_lw0))), (show F_WR_told_J17 x2 x3 t0_0 t0_1 t0_2 t0_3 t0_4 t0_5 t0_6 t1_0 t2_0 = (F_WR_told x2 x3 t0_0 t0_1 t0_2 t0_3 t0_4 t0_5 t0_6 t1_0 t2_0) from (by have c259x := c259; rw [e26] at c259x; rw [F_WR_told.eq_1, if_neg c259x])), (show True ∧ S_WR_told_J17 x2 x3 t0_0 t0_1 t0_2 t0_3 t0_4 t0_5 t0_6 t1_0 t2_0 from (by have h := hS; rw [S_WR_told.eq_1] at h; have c259x := c259; rw [e26] at c259x; rw [if_neg c259x] at h; with_reducible exact h))⟩
      ·
        refine lv_iload_n hx hb d_19_41_8 rfl (lv_at hl 2 rfl) ?_
        refine lv_if_lt (tgt := 17) hx hb d_19_41_9 (by decide) (fun c262 => ?_) (fun c262 => ?_)
        ·
          exact J253 (()) _ _ _ ws ⟨V, q_lw hl (q_lw1 0 rfl (q_lw1 1 rfl (q_lw1 2 rfl q_lw0))), (show F_WR_told_J17 x2 x3 t0_0 t0_1 t0_2 t0_3 t0_4 t0_5 t0_6 t1_0 t2_0 = (F_WR_told x2 x3 t0_0 t0_1 t0_2 t0_3 t0_4 t0_5 t0_6 t1_0 t2_0) from (by have c259x := c259; rw [e26] at c259x; rw [F_WR_told.eq_1, if_pos c259x, if_pos c262])), (show True ∧ S_WR_told_J17 x2 x3 t0_0 t0_1 t0_2 t0_3 t0_4 t0_5 t0_6 t1_0 t2_0 from (by have h := hS; rw [S_WR_told.eq_1] at h; have c259x := c259; rw [e26] at c259x; rw [if_pos c259x] at h; rw [if_pos c262] at h; with_reducible exact h))⟩
        ·
          refine lv_iload_n hx hb d_19_41_12 rfl (lv_at hl 2 rfl) ?_
          refine lv_iconst (v := 4) hx hb d_19_41_13 (by decide) ?_
          refine lv_icmp_le (tgt := 21) hx hb d_19_41_14 (by decide) (fun c265 => ?_) (fun c265 => ?_)
          ·
            refine lv_iconst (v := 0) hx hb d_19_41_21 (by decide) ?_
            exact J31 ((0 : Int32)) _ _ _ ws ⟨(show q_F (0 ≤ 0) from (show 0 ≤ 0 from by omega)), (show q_F (0 ≤ 1) from (show 0 ≤ 1 from by omega)), V, q_lw hl (q_lw1 0 rfl (q_lw1 1 rfl (q_lw1 2 rfl q_lw0))), (show F_WR_told_J22 x2 x3 t0_0 t0_1 t0_2 t0_3 t0_4 t0_5 t0_6 t1_0 t2_0 0 = (F_WR_told x2 x3 t0_0 t0_1 t0_2 t0_3 t0_4 t0_5 t0_6 t1_0 t2_0) from (by have c259x := c259; rw [e26] at c259x; rw [F_WR_told.eq_1, if_pos c259x, if_neg c262, if_pos c265])), (show True ∧ S_WR_told_J22 x2 x3 t0_0 t0_1 t0_2 t0_3 t0_4 t0_5 t0_6 t1_0 t2_0 0 from (by have h := hS; rw [S_WR_told.eq_1] at h; have c259x := c259; rw [e26] at c259x; rw [if_pos c259x] at h; rw [if_neg c262] at h; rw [if_pos c265] at h; with_reducible exact h))⟩
          ·
            exact J253 (()) _ _ _ ws ⟨V, q_lw hl (q_lw1 0 rfl (q_lw1 1 rfl (q_lw1 2 rfl q_lw0))), (show F_WR_told_J17 x2 x3 t0_0 t0_1 t0_2 t0_3 t0_4 t0_5 t0_6 t1_0 t2_0 = (F_WR_told x2 x3 t0_0 t0_1 t0_2 t0_3 t0_4 t0_5 t0_6 t1_0 t2_0) from (by have c259x := c259; rw [e26] at c259x; rw [F_WR_told.eq_1, if_pos c259x, if_neg c262, if_neg c265])), (show True ∧ S_WR_told_J17 x2 x3 t0_0 t0_1 t0_2 t0_3 t0_4 t0_5 t0_6 t1_0 t2_0 from (by have h := hS; rw [S_WR_told.eq_1] at h; have c259x := c259; rw [e26] at c259x; rw [if_pos c259x] at h; rw [if_neg c262] at h; rw [if_neg c265] at h; with_reducible exact h))⟩

