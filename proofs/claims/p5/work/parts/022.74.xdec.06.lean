def F_DW_divideToScale_a_c96 (R2 : Int32) (x4 : Int32) (x5 : Int32) (t0_0 : Int64) (t0_1 : Int32) (t1_0 : Int32) (t1_1 : Int32) (t2_0 : (Nat → Int32)) (t3_0 : Int32) (t3_1 : Int32) (t4_0 : (Nat → Int32)) (t5_0 : Int32) (t5_1 : Int32) (t6_0 : (Nat → Int32)) (t7_0 : Int32) (t7_1 : Int32) (t8_0 : Int32) (t8_1 : Int32) (t9_0 : (Nat → Int32)) (a49 : Int32) (p110 : (Int64 × Int32 × Int32 × Int32 × (Nat → Int32) × Int32 × Int32 × (Nat → Int32) × Int32 × Int32 × (Nat → Int32) × Int32 × Int32 × (Nat → Int32))) (y65 : Int64) (y66 : Int32) (y73 : Int32) (y74 : Int32) (f75 : (Nat → Int32)) (y83 : Int32) (y84 : Int32) (f85 : (Nat → Int32)) (p158 : (Int32 × Int32 × Int32 × (Nat → Int32) × Int32 × Int32 × (Nat → Int32))) : Int32 × Int64 × Int32 × Int32 × Int32 × (Nat → Int32) × Int32 × Int32 × (Nat → Int32) × Int32 × Int32 × (Nat → Int32) × Int32 × Int32 × (Nat → Int32) := ((p158.1 : Int32), y65, y66, (p158.2.1 : Int32), (p158.2.2.1 : Int32), (p158.2.2.2.1 : (Nat → Int32)), y73, y74, f75, (p158.2.2.2.2.1 : Int32), (p158.2.2.2.2.2.1 : Int32), (p158.2.2.2.2.2.2 : (Nat → Int32)), y83, y84, f85)
def F_DW_divideToScale_a_c68 (R2 : Int32) (x4 : Int32) (x5 : Int32) (t0_0 : Int64) (t0_1 : Int32) (t1_0 : Int32) (t1_1 : Int32) (t2_0 : (Nat → Int32)) (t3_0 : Int32) (t3_1 : Int32) (t4_0 : (Nat → Int32)) (t5_0 : Int32) (t5_1 : Int32) (t6_0 : (Nat → Int32)) (t7_0 : Int32) (t7_1 : Int32) (t8_0 : Int32) (t8_1 : Int32) (t9_0 : (Nat → Int32)) (a49 : Int32) (p110 : (Int64 × Int32 × Int32 × Int32 × (Nat → Int32) × Int32 × Int32 × (Nat → Int32) × Int32 × Int32 × (Nat → Int32) × Int32 × Int32 × (Nat → Int32))) : Int32 × Int64 × Int32 × Int32 × Int32 × (Nat → Int32) × Int32 × Int32 × (Nat → Int32) × Int32 × Int32 × (Nat → Int32) × Int32 × Int32 × (Nat → Int32) := F_DW_divideToScale_a_c96 R2 x4 x5 t0_0 t0_1 t1_0 t1_1 t2_0 t3_0 t3_1 t4_0 t5_0 t5_1 t6_0 t7_0 t7_1 t8_0 t8_1 t9_0 a49 p110 (p110.1 : Int64) (p110.2.1 : Int32) (p110.2.2.2.2.2.1 : Int32) (p110.2.2.2.2.2.2.1 : Int32) (p110.2.2.2.2.2.2.2.1 : (Nat → Int32)) (p110.2.2.2.2.2.2.2.2.2.2.2.1 : Int32) (p110.2.2.2.2.2.2.2.2.2.2.2.2.1 : Int32) (p110.2.2.2.2.2.2.2.2.2.2.2.2.2 : (Nat → Int32)) ((F_DW_roundLast (0 : Int32) x5 (p110.1 : Int64) (p110.2.1 : Int32) (p110.2.2.1 : Int32) (p110.2.2.2.1 : Int32) (p110.2.2.2.2.1 : (Nat → Int32)) (p110.2.2.2.2.2.2.2.2.1 : Int32) (p110.2.2.2.2.2.2.2.2.2.1 : Int32) (p110.2.2.2.2.2.2.2.2.2.2.1 : (Nat → Int32))) : (Int32 × Int32 × Int32 × (Nat → Int32) × Int32 × Int32 × (Nat → Int32)))
def F_DW_divideToScale_a_c36 (R2 : Int32) (x4 : Int32) (x5 : Int32) (t0_0 : Int64) (t0_1 : Int32) (t1_0 : Int32) (t1_1 : Int32) (t2_0 : (Nat → Int32)) (t3_0 : Int32) (t3_1 : Int32) (t4_0 : (Nat → Int32)) (t5_0 : Int32) (t5_1 : Int32) (t6_0 : (Nat → Int32)) (t7_0 : Int32) (t7_1 : Int32) (t8_0 : Int32) (t8_1 : Int32) (t9_0 : (Nat → Int32)) (a49 : Int32) (j42 : Int64) (p186 : (Int32 × Int32)) : Int32 × Int64 × Int32 × Int32 × Int32 × (Nat → Int32) × Int32 × Int32 × (Nat → Int32) × Int32 × Int32 × (Nat → Int32) × Int32 × Int32 × (Nat → Int32) := ((1 : Int32), j42, t0_1, (p186.1 : Int32), (p186.2 : Int32), t2_0, t3_0, t3_1, t4_0, t5_0, t5_1, t6_0, t8_0, t8_1, t9_0)
def F_DW_divideToScale_a (R2 : Int32) (x4 : Int32) (x5 : Int32) (t0_0 : Int64) (t0_1 : Int32) (t1_0 : Int32) (t1_1 : Int32) (t2_0 : (Nat → Int32)) (t3_0 : Int32) (t3_1 : Int32) (t4_0 : (Nat → Int32)) (t5_0 : Int32) (t5_1 : Int32) (t6_0 : (Nat → Int32)) (t7_0 : Int32) (t7_1 : Int32) (t8_0 : Int32) (t8_1 : Int32) (t9_0 : (Nat → Int32)) : Int32 × Int64 × Int32 × Int32 × Int32 × (Nat → Int32) × Int32 × Int32 × (Nat → Int32) × Int32 × Int32 × (Nat → Int32) × Int32 × Int32 × (Nat → Int32) := if t8_0 = (0 : Int32) then (F_DW_divideToScale_a_c36 R2 x4 x5 t0_0 t0_1 t1_0 t1_1 t2_0 t3_0 t3_1 t4_0 t5_0 t5_1 t6_0 t7_0 t7_1 t8_0 t8_1 t9_0 ((x4 + t7_0 : Int32) - t7_0 : Int32) (x4.toInt64 : Int64) ((F_Big_clear (220 : Int32) t1_0 t1_1) : (Int32 × Int32))) else (if ((t7_1 + ((x4 + t7_0 : Int32) - t7_0 : Int32) : Int32) - t7_1 : Int32) ≤ (1000 : Int32) then (F_DW_divideToScale_a_c68 R2 x4 x5 t0_0 t0_1 t1_0 t1_1 t2_0 t3_0 t3_1 t4_0 t5_0 t5_1 t6_0 t7_0 t7_1 t8_0 t8_1 t9_0 ((x4 + t7_0 : Int32) - t7_0 : Int32) ((F_DW_divideRaised_a R2 (((x4 + t7_0 : Int32) - t7_0 : Int32) + 1 : Int32) (x4.toInt64 : Int64) t0_1 t1_0 t1_1 t2_0 t3_0 t3_1 t4_0 t5_0 t5_1 t6_0 t7_0 t7_1 t8_0 t8_1 t9_0) : (Int64 × Int32 × Int32 × Int32 × (Nat → Int32) × Int32 × Int32 × (Nat → Int32) × Int32 × Int32 × (Nat → Int32) × Int32 × Int32 × (Nat → Int32)))) else (((0 : Int32), (x4.toInt64 : Int64), t0_1, t1_0, t1_1, t2_0, t3_0, t3_1, t4_0, t5_0, t5_1, t6_0, t8_0, t8_1, t9_0)))
def S_DW_divideToScale_a_c96 (R2 : Int32) (x4 : Int32) (x5 : Int32) (t0_0 : Int64) (t0_1 : Int32) (t1_0 : Int32) (t1_1 : Int32) (t2_0 : (Nat → Int32)) (t3_0 : Int32) (t3_1 : Int32) (t4_0 : (Nat → Int32)) (t5_0 : Int32) (t5_1 : Int32) (t6_0 : (Nat → Int32)) (t7_0 : Int32) (t7_1 : Int32) (t8_0 : Int32) (t8_1 : Int32) (t9_0 : (Nat → Int32)) (a49 : Int32) (p110 : (Int64 × Int32 × Int32 × Int32 × (Nat → Int32) × Int32 × Int32 × (Nat → Int32) × Int32 × Int32 × (Nat → Int32) × Int32 × Int32 × (Nat → Int32))) (y65 : Int64) (y66 : Int32) (y73 : Int32) (y74 : Int32) (f75 : (Nat → Int32)) (y83 : Int32) (y84 : Int32) (f85 : (Nat → Int32)) (p158 : (Int32 × Int32 × Int32 × (Nat → Int32) × Int32 × Int32 × (Nat → Int32))) : Prop := True
def S_DW_divideToScale_a_c68 (R2 : Int32) (x4 : Int32) (x5 : Int32) (t0_0 : Int64) (t0_1 : Int32) (t1_0 : Int32) (t1_1 : Int32) (t2_0 : (Nat → Int32)) (t3_0 : Int32) (t3_1 : Int32) (t4_0 : (Nat → Int32)) (t5_0 : Int32) (t5_1 : Int32) (t6_0 : (Nat → Int32)) (t7_0 : Int32) (t7_1 : Int32) (t8_0 : Int32) (t8_1 : Int32) (t9_0 : (Nat → Int32)) (a49 : Int32) (p110 : (Int64 × Int32 × Int32 × Int32 × (Nat → Int32) × Int32 × Int32 × (Nat → Int32) × Int32 × Int32 × (Nat → Int32) × Int32 × Int32 × (Nat → Int32))) : Prop := S_DW_divideToScale_a_c96 R2 x4 x5 t0_0 t0_1 t1_0 t1_1 t2_0 t3_0 t3_1 t4_0 t5_0 t5_1 t6_0 t7_0 t7_1 t8_0 t8_1 t9_0 a49 p110 (p110.1 : Int64) (p110.2.1 : Int32) (p110.2.2.2.2.2.1 : Int32) (p110.2.2.2.2.2.2.1 : Int32) (p110.2.2.2.2.2.2.2.1 : (Nat → Int32)) (p110.2.2.2.2.2.2.2.2.2.2.2.1 : Int32) (p110.2.2.2.2.2.2.2.2.2.2.2.2.1 : Int32) (p110.2.2.2.2.2.2.2.2.2.2.2.2.2 : (Nat → Int32)) ((F_DW_roundLast (0 : Int32) x5 (p110.1 : Int64) (p110.2.1 : Int32) (p110.2.2.1 : Int32) (p110.2.2.2.1 : Int32) (p110.2.2.2.2.1 : (Nat → Int32)) (p110.2.2.2.2.2.2.2.2.1 : Int32) (p110.2.2.2.2.2.2.2.2.2.1 : Int32) (p110.2.2.2.2.2.2.2.2.2.2.1 : (Nat → Int32))) : (Int32 × Int32 × Int32 × (Nat → Int32) × Int32 × Int32 × (Nat → Int32)))
def S_DW_divideToScale_a_c36 (R2 : Int32) (x4 : Int32) (x5 : Int32) (t0_0 : Int64) (t0_1 : Int32) (t1_0 : Int32) (t1_1 : Int32) (t2_0 : (Nat → Int32)) (t3_0 : Int32) (t3_1 : Int32) (t4_0 : (Nat → Int32)) (t5_0 : Int32) (t5_1 : Int32) (t6_0 : (Nat → Int32)) (t7_0 : Int32) (t7_1 : Int32) (t8_0 : Int32) (t8_1 : Int32) (t9_0 : (Nat → Int32)) (a49 : Int32) (j42 : Int64) (p186 : (Int32 × Int32)) : Prop := True
def S_DW_divideToScale_a (R2 : Int32) (x4 : Int32) (x5 : Int32) (t0_0 : Int64) (t0_1 : Int32) (t1_0 : Int32) (t1_1 : Int32) (t2_0 : (Nat → Int32)) (t3_0 : Int32) (t3_1 : Int32) (t4_0 : (Nat → Int32)) (t5_0 : Int32) (t5_1 : Int32) (t6_0 : (Nat → Int32)) (t7_0 : Int32) (t7_1 : Int32) (t8_0 : Int32) (t8_1 : Int32) (t9_0 : (Nat → Int32)) : Prop := if t8_0 = (0 : Int32) then (S_DW_divideToScale_a_c36 R2 x4 x5 t0_0 t0_1 t1_0 t1_1 t2_0 t3_0 t3_1 t4_0 t5_0 t5_1 t6_0 t7_0 t7_1 t8_0 t8_1 t9_0 ((x4 + t7_0 : Int32) - t7_0 : Int32) (x4.toInt64 : Int64) ((F_Big_clear (220 : Int32) t1_0 t1_1) : (Int32 × Int32))) else (if ((t7_1 + ((x4 + t7_0 : Int32) - t7_0 : Int32) : Int32) - t7_1 : Int32) ≤ (1000 : Int32) then ((True ∧ S_DW_divideRaised_a R2 (((x4 + t7_0 : Int32) - t7_0 : Int32) + 1 : Int32) (x4.toInt64 : Int64) t0_1 t1_0 t1_1 t2_0 t3_0 t3_1 t4_0 t5_0 t5_1 t6_0 t7_0 t7_1 t8_0 t8_1 t9_0) ∧ (S_DW_divideToScale_a_c68 R2 x4 x5 t0_0 t0_1 t1_0 t1_1 t2_0 t3_0 t3_1 t4_0 t5_0 t5_1 t6_0 t7_0 t7_1 t8_0 t8_1 t9_0 ((x4 + t7_0 : Int32) - t7_0 : Int32) ((F_DW_divideRaised_a R2 (((x4 + t7_0 : Int32) - t7_0 : Int32) + 1 : Int32) (x4.toInt64 : Int64) t0_1 t1_0 t1_1 t2_0 t3_0 t3_1 t4_0 t5_0 t5_1 t6_0 t7_0 t7_1 t8_0 t8_1 t9_0) : (Int64 × Int32 × Int32 × Int32 × (Nat → Int32) × Int32 × Int32 × (Nat → Int32) × Int32 × Int32 × (Nat → Int32) × Int32 × Int32 × (Nat → Int32))))) else (True))
set_option maxRecDepth 100000 in
set_option maxHeartbeats 4000000 in
theorem X_DW_divideToScale_a (l : Launch) (D : va_G) (g : Nat → ClassId) (q : Nat → Nat) (ws : va_W) (k2 : Nat) (R2 : Int32) (hB2 : q_isDec (nsh g q) g q k2 R2) (zk2 : (10 ≤ k2 ∧ k2 ≤ 31) ∨ 66 ≤ k2) (x4 : Int32) (x5 : Int32) (ne_k2_10 : k2 ≠ 10) (ne_k2_11 : k2 ≠ 11) (ne_k2_9 : k2 ≠ 9) (ne_k2_8 : k2 ≠ 8) (ne_k2_12 : k2 ≠ 12) (ne_k2_13 : k2 ≠ 13) (ne_k2_22 : k2 ≠ 22) (ne_k2_23 : k2 ≠ 23) (ne_k2_21 : k2 ≠ 21) (ne_k2_20 : k2 ≠ 20) (ne_k2_30 : k2 ≠ 30) (ne_k2_31 : k2 ≠ 31) (ne_k2_29 : k2 ≠ 29) (ne_k2_28 : k2 ≠ 28) (hI : q_I (nsh g q) q ws) (t0_0 : Int64) (t0_1 : Int32) (hT0 : ws[30]? = (some (q 30, .inr (5, [.ref (q 31), .long t0_0, .ref (q 9), .int t0_1])) : Option (Nat × va_E))) (t1_0 : Int32) (t1_1 : Int32) (hT1 : ws[10]? = (some (q 10, .inr (2, [.ref (q 11), .int t1_0, .int t1_1])) : Option (Nat × va_E))) (t2_0 : (Nat → Int32)) (hT2 : ws[11]? = (some (q 11, .inl (g 0, (220 : Int32).toNatClampNeg, .inl t2_0)) : Option (Nat × va_E))) (t3_0 : Int32) (t3_1 : Int32) (hT3 : ws[12]? = (some (q 12, .inr (2, [.ref (q 13), .int t3_0, .int t3_1])) : Option (Nat × va_E))) (t4_0 : (Nat → Int32)) (hT4 : ws[13]? = (some (q 13, .inl (g 0, (220 : Int32).toNatClampNeg, .inl t4_0)) : Option (Nat × va_E))) (t5_0 : Int32) (t5_1 : Int32) (hT5 : ws[22]? = (some (q 22, .inr (2, [.ref (q 23), .int t5_0, .int t5_1])) : Option (Nat × va_E))) (t6_0 : (Nat → Int32)) (hT6 : ws[23]? = (some (q 23, .inl (g 0, (220 : Int32).toNatClampNeg, .inl t6_0)) : Option (Nat × va_E))) (t7_0 : Int32) (t7_1 : Int32) (hT7 : ws[k2]? = (some (q k2, .inr (3, [.ref (q (k2 + 1)), .int t7_0, .int t7_1])) : Option (Nat × va_E))) (t8_0 : Int32) (t8_1 : Int32) (hT8 : ws[k2 + 1]? = (some (q (k2 + 1), .inr (2, [.ref (q (k2 + 2)), .int t8_0, .int t8_1])) : Option (Nat × va_E))) (t9_0 : (Nat → Int32)) (hT9 : ws[k2 + 2]? = (some (q (k2 + 2), .inl (g 0, R2.toNatClampNeg, .inl t9_0)) : Option (Nat × va_E))) (hS : True ∧ S_DW_divideToScale_a R2 x4 x5 t0_0 t0_1 t1_0 t1_1 t2_0 t3_0 t3_1 t4_0 t5_0 t5_1 t6_0 t7_0 t7_1 t8_0 t8_1 t9_0) : q_mI l y_DW_divideToScale prog_4_method_11_code 6 (.boolean) 6 0 0 D g [.ref (q 30), .ref (q k2), .ref (q k2), .int x4, .int x5] ws (fun r u => q_I (nsh g q) q u ∧ q_un ws u [10, 11, 12, 13, 22, 23, 30, k2 + 1, k2 + 2] ∧ ∃ (u0_0 : Int64) (u0_1 : Int32) (u1_0 : Int32) (u1_1 : Int32) (u2_0 : (Nat → Int32)) (u3_0 : Int32) (u3_1 : Int32) (u4_0 : (Nat → Int32)) (u5_0 : Int32) (u5_1 : Int32) (u6_0 : (Nat → Int32)) (u8_0 : Int32) (u8_1 : Int32) (u9_0 : (Nat → Int32)), u[30]? = (some (q 30, .inr (5, [.ref (q 31), .long u0_0, .ref (q 9), .int u0_1])) : Option (Nat × va_E)) ∧ u[10]? = (some (q 10, .inr (2, [.ref (q 11), .int u1_0, .int u1_1])) : Option (Nat × va_E)) ∧ u[11]? = (some (q 11, .inl (g 0, (220 : Int32).toNatClampNeg, .inl u2_0)) : Option (Nat × va_E)) ∧ u[12]? = (some (q 12, .inr (2, [.ref (q 13), .int u3_0, .int u3_1])) : Option (Nat × va_E)) ∧ u[13]? = (some (q 13, .inl (g 0, (220 : Int32).toNatClampNeg, .inl u4_0)) : Option (Nat × va_E)) ∧ u[22]? = (some (q 22, .inr (2, [.ref (q 23), .int u5_0, .int u5_1])) : Option (Nat × va_E)) ∧ u[23]? = (some (q 23, .inl (g 0, (220 : Int32).toNatClampNeg, .inl u6_0)) : Option (Nat × va_E)) ∧ u[k2 + 1]? = (some (q (k2 + 1), .inr (2, [.ref (q (k2 + 2)), .int u8_0, .int u8_1])) : Option (Nat × va_E)) ∧ u[k2 + 2]? = (some (q (k2 + 2), .inl (g 0, R2.toNatClampNeg, .inl u9_0)) : Option (Nat × va_E)) ∧ (0 ≤ r.toInt) ∧ (r.toInt ≤ 1) ∧ (0 ≤ u0_1.toInt) ∧ (u0_1.toInt ≤ 1) ∧ (0 ≤ u1_0.toInt) ∧ (u1_0.toInt ≤ 220) ∧ (0 ≤ u1_1.toInt) ∧ (u1_1.toInt ≤ 1) ∧ (0 ≤ u3_0.toInt) ∧ (u3_0.toInt ≤ 220) ∧ (0 ≤ u3_1.toInt) ∧ (0 ≤ u5_0.toInt) ∧ (u5_0.toInt ≤ 220) ∧ (0 ≤ u5_1.toInt) ∧ (u5_1.toInt ≤ 1) ∧ (0 ≤ u8_0.toInt) ∧ (0 ≤ u8_1.toInt) ∧ (x4.toInt ≤ u0_0.toInt) ∧ (u0_0.toInt ≤ x4.toInt) ∧ (u1_0.toInt ≤ t8_0.toInt + 219) ∧ (u1_1.toInt ≤ t8_0.toInt) ∧ (u3_1.toInt ≤ t3_1.toInt) ∧ (u8_0.toInt ≤ t8_0.toInt + 218) ∧ (u8_0.toInt ≤ R2.toInt) ∧ (u8_1.toInt ≤ t8_1.toInt) ∧ (r, u0_0, u0_1, u1_0, u1_1, u2_0, u3_0, u3_1, u4_0, u5_0, u5_1, u6_0, u8_0, u8_1, u9_0) = (F_DW_divideToScale_a R2 x4 x5 t0_0 t0_1 t1_0 t1_1 t2_0 t3_0 t3_1 t4_0 t5_0 t5_1 t6_0 t7_0 t7_1 t8_0 t8_1 t9_0)) := by
  intro sz
  refine q_into (by decide) (Nat.le_of_ble_eq_true rfl) ?_
  intro p e s m below meth c ls hsz C0 V hl
  have hx := C0.1
  have hb := C0.2.1
  have btt0_1 := n_w30 hI hT0
  replace btt0_1 : q_F (0 ≤ t0_1.toInt ∧ t0_1.toInt ≤ 1) := btt0_1
  obtain ⟨btt1_0, btt1_1⟩ := q_bigW hI (n_b10 g q) hT1
  replace btt1_0 : q_F (0 ≤ t1_0.toInt ∧ t1_0.toInt ≤ 220) := btt1_0
  replace btt1_1 : q_F (0 ≤ t1_1.toInt ∧ t1_1.toInt ≤ 1) := btt1_1
  obtain ⟨btt3_0, btt3_1⟩ := q_bigW hI (n_b12 g q) hT3
  replace btt3_0 : q_F (0 ≤ t3_0.toInt ∧ t3_0.toInt ≤ 220) := btt3_0
  replace btt3_1 : q_F (0 ≤ t3_1.toInt ∧ t3_1.toInt ≤ 1) := btt3_1
  obtain ⟨btt5_0, btt5_1⟩ := q_bigW hI (n_b22 g q) hT5
  replace btt5_0 : q_F (0 ≤ t5_0.toInt ∧ t5_0.toInt ≤ 220) := btt5_0
  replace btt5_1 : q_F (0 ≤ t5_1.toInt ∧ t5_1.toInt ≤ 1) := btt5_1
  have btt7_1 := (n_deW hI hB2 hT7).2
  clear btt7_1
  obtain ⟨btt8_0, btt8_1⟩ := q_bigW hI hB2.2 hT8
  replace btt8_0 : q_F (0 ≤ t8_0.toInt ∧ t8_0.toInt ≤ R2.toInt) := btt8_0
  replace btt8_1 : q_F (0 ≤ t8_1.toInt ∧ t8_1.toInt ≤ 1) := btt8_1
  have hF : q_un ws ws [10, 11, 12, 13, 22, 23, 30, k2 + 1, k2 + 2] := q_u0
  have hl : lv_has ls 6 [(0, .ref (q 30)), (1, .ref (q k2)), (2, .ref (q k2)), (3, .int x4), (4, .int x5)] := hl
  refine lv_aload_n hx hb d_4_11_0 rfl (lv_at hl 0 rfl) ?_
  refine lv_iload_n hx hb d_4_11_1 rfl (lv_at hl 3 rfl) ?_
  refine lv_i2l hx hb d_4_11_2 rfl ?_
  obtain ⟨j42, e43⟩ := q_nm (x4.toInt64 : Int64)
  refine q_tl (v := j42) e43 ?_
  have b44 : q_F (j42.toInt = x4.toInt) := (by rw [← e43]; show (x4.toInt64 : Int64).toInt = x4.toInt; exact q_i2l rfl)
  refine q_put (ci := 5) (j := 1) (v := .long j42) (ty := .long) C0 V i_DW o_DW n_DW rfl rfl hT0 (by decide) w_212 rfl rfl rfl rfl (Nat.le_of_ble_eq_true rfl) d_4_11_3 (fun H locs w45 hu46 hT0 V => ?_)
  replace hT0 : w45[30]? = (some (q 30, .inr (5, [.ref (q 31), .long j42, .ref (q 9), .int t0_1])) : Option (Nat × va_E)) := hT0
  replace hI := n_p30 hI hu46 hT0 (by first | with_reducible exact q_fe btt0_1 | exact ⟨(by have t1 : 0 ≤ t0_1.toInt ∧ t0_1.toInt ≤ 1 := btt0_1; omega), (by have t1 : 0 ≤ t0_1.toInt ∧ t0_1.toInt ≤ 1 := btt0_1; omega)⟩)
  replace hT1 := (hu46 _ (by decide)).trans hT1
  replace hT2 := (hu46 _ (by decide)).trans hT2
  replace hT3 := (hu46 _ (by decide)).trans hT3
  replace hT4 := (hu46 _ (by decide)).trans hT4
  replace hT5 := (hu46 _ (by decide)).trans hT5
  replace hT6 := (hu46 _ (by decide)).trans hT6
  replace hT7 := (hu46 _ (by have z := ne_k2_30; omega)).trans hT7
  replace hT8 := (hu46 _ (by have z := ne_k2_29; omega)).trans hT8
  replace hT9 := (hu46 _ (by have z := ne_k2_28; omega)).trans hT9
  replace hF := q_us hF hu46 (by simp)
  refine lv_iload_n hx hb d_4_11_6 rfl (lv_at hl 3 rfl) ?_
  refine lv_aload_n hx hb d_4_11_7 rfl (lv_at hl 2 rfl) ?_
  refine q_get (ci := 3) (j := 1) (v := .int t7_0) C0 V i_Dec rfl rfl hT7 (by decide) w_176 rfl d_4_11_8 ?_
  refine lv_iadd hx hb d_4_11_11 ?_
  obtain ⟨a47, e48⟩ := q_nm (x4 + t7_0 : Int32)
  refine q_ti (v := a47) e48 ?_
  refine lv_aload_n hx hb d_4_11_12 rfl (lv_at hl 1 rfl) ?_
  refine q_get (ci := 3) (j := 1) (v := .int t7_0) C0 V i_Dec rfl rfl hT7 (by decide) w_176 rfl d_4_11_13 ?_
  refine lv_isub hx hb d_4_11_16 ?_
  obtain ⟨a49, e50⟩ := q_nm (a47 - t7_0 : Int32)
  refine q_ti (v := a49) e50 ?_
  refine lv_istore (lv' := [(5, .int a49), (0, .ref (q 30)), (1, .ref (q k2)), (2, .ref (q k2)), (3, .int x4), (4, .int x5)]) hx hb d_4_11_17 hl (by decide) rfl (fun ls hl => ?_)
  refine lv_aload_n hx hb d_4_11_19 rfl (lv_at hl 2 rfl) ?_
  refine q_get (ci := 3) (j := 0) (v := .ref (q (k2 + 1))) C0 V i_Dec rfl rfl hT7 (by decide) w_171 rfl d_4_11_20 ?_
  refine q_get (ci := 2) (j := 1) (v := .int t8_0) C0 V i_Big rfl rfl hT8 (by decide) w_90 rfl d_4_11_23 ?_
  refine lv_if_ne (tgt := 41) hx hb d_4_11_26 (by decide) (fun c51 => ?_) (fun c51 => ?_)
  ·
    have b52 : q_F (t8_0.toInt ≠ 0) := (q_neI c51)
    refine lv_aload_n hx hb d_4_11_41 rfl (lv_at hl 2 rfl) ?_
    refine q_get (ci := 3) (j := 2) (v := .int t7_1) C0 V i_Dec rfl rfl hT7 (by decide) w_180 rfl d_4_11_42 ?_
    refine lv_iload hx hb d_4_11_45 (lv_at hl 0 rfl) ?_
    refine lv_iadd hx hb d_4_11_47 ?_
    obtain ⟨a53, e54⟩ := q_nm (t7_1 + a49 : Int32)
    refine q_ti (v := a53) e54 ?_
    refine lv_aload_n hx hb d_4_11_48 rfl (lv_at hl 3 rfl) ?_
    refine q_get (ci := 3) (j := 2) (v := .int t7_1) C0 V i_Dec rfl rfl hT7 (by decide) w_180 rfl d_4_11_49 ?_
    refine lv_isub hx hb d_4_11_52 ?_
    obtain ⟨a55, e56⟩ := q_nm (a53 - t7_1 : Int32)
    refine q_ti (v := a55) e56 ?_
    refine lv_sipush (v := 1000) hx hb d_4_11_53 (by decide) ?_
    refine lv_icmp_le (tgt := 61) hx hb d_4_11_56 (by decide) (fun c57 => ?_) (fun c57 => ?_)
    ·
      refine lv_aload_n hx hb d_4_11_61 rfl (lv_at hl 1 rfl) ?_
      refine lv_aload_n hx hb d_4_11_62 rfl (lv_at hl 2 rfl) ?_
      refine lv_aload_n hx hb d_4_11_63 rfl (lv_at hl 3 rfl) ?_
      refine lv_iload hx hb d_4_11_64 (lv_at hl 0 rfl) ?_
      refine lv_iconst (v := 1) hx hb d_4_11_66 (by decide) ?_
      refine lv_iadd hx hb d_4_11_67 ?_
      obtain ⟨a59, e60⟩ := q_nm (a49 + 1 : Int32)
      refine q_ti (v := a59) e60 ?_
      have ob61 : True ∧ S_DW_divideRaised_a R2 a59 j42 t0_1 t1_0 t1_1 t2_0 t3_0 t3_1 t4_0 t5_0 t5_1 t6_0 t7_0 t7_1 t8_0 t8_1 t9_0 := (by rw [← e60, ← e50, ← e48, ← e43]; have h := hS; rw [S_DW_divideToScale_a.eq_1] at h; rw [if_neg c51] at h; have c57x := c57; rw [← e56, ← e54, ← e50, ← e48] at c57x; rw [if_pos c57x] at h; with_reducible exact h.2.1)
      refine q_gov V (q_runV (As := [.ref (q k2), .ref (q k2), .int a59]) (rest := []) (d := 5) (mc := 0) (ms := 0) (ci := 5) C0 V rfl LV_DW_138 (X_DW_divideRaised_a l D g q w45 k2 R2 hB2 zk2 a59 (by have z := ne_k2_10; omega) (by have z := ne_k2_11; omega) (by have z := ne_k2_9; omega) (by have z := ne_k2_8; omega) (by have z := ne_k2_12; omega) (by have z := ne_k2_13; omega) (by have z := ne_k2_22; omega) (by have z := ne_k2_23; omega) (by have z := ne_k2_21; omega) (by have z := ne_k2_20; omega) (by have z := ne_k2_30; omega) (by have z := ne_k2_31; omega) (by have z := ne_k2_29; omega) (by have z := ne_k2_28; omega) hI j42 t0_1 hT0 t1_0 t1_1 hT1 t2_0 hT2 t3_0 t3_1 hT3 t4_0 hT4 t5_0 t5_1 hT5 t6_0 hT6 t7_0 t7_1 hT7 t8_0 t8_1 hT8 t9_0 hT9 ob61 _) rfl rfl hT0 rfl hl.1 rfl (Nat.le_of_ble_eq_true rfl) ⟨by decide, by decide⟩ ⟨Nat.le_of_ble_eq_true rfl, Nat.le_of_ble_eq_true rfl⟩ d_4_11_68) (fun u62 H locs hp63 V => ?_)
      obtain ⟨hI, hZ9⟩ := hp63
      obtain ⟨hu109, hZ9⟩ := hZ9
      obtain ⟨y65, hZ9⟩ := hZ9
      obtain ⟨y66, hZ9⟩ := hZ9
      obtain ⟨y68, hZ9⟩ := hZ9
      obtain ⟨y69, hZ9⟩ := hZ9
      obtain ⟨f70, hZ9⟩ := hZ9
      obtain ⟨y73, hZ9⟩ := hZ9
      obtain ⟨y74, hZ9⟩ := hZ9
      obtain ⟨f75, hZ9⟩ := hZ9
      obtain ⟨y78, hZ9⟩ := hZ9
      obtain ⟨y79, hZ9⟩ := hZ9
      obtain ⟨f80, hZ9⟩ := hZ9
      obtain ⟨y83, hZ9⟩ := hZ9
      obtain ⟨y84, hZ9⟩ := hZ9
      obtain ⟨f85, hZ9⟩ := hZ9
      obtain ⟨hO64, hZ9⟩ := hZ9
      obtain ⟨hO67, hZ9⟩ := hZ9
      obtain ⟨hA71, hZ9⟩ := hZ9
      obtain ⟨hO72, hZ9⟩ := hZ9
      obtain ⟨hA76, hZ9⟩ := hZ9
      obtain ⟨hO77, hZ9⟩ := hZ9
      obtain ⟨hA81, hZ9⟩ := hZ9
      obtain ⟨hO82, hZ9⟩ := hZ9
      obtain ⟨hA86, hZ9⟩ := hZ9
      obtain ⟨b87, hZ9⟩ := hZ9
      obtain ⟨b88, hZ9⟩ := hZ9
      obtain ⟨b89, hZ9⟩ := hZ9
      obtain ⟨b90, hZ9⟩ := hZ9
      replace hZ9 := hZ9.2.2
      obtain ⟨b93, hZ9⟩ := hZ9
      obtain ⟨b94, hZ9⟩ := hZ9
      obtain ⟨b95, hZ9⟩ := hZ9
      obtain ⟨b96, hZ9⟩ := hZ9
      obtain ⟨b97, hZ9⟩ := hZ9
      obtain ⟨b98, hZ9⟩ := hZ9
      obtain ⟨b99, hZ9⟩ := hZ9
      replace hZ9 := hZ9.2.2
      obtain ⟨b102, hZ9⟩ := hZ9
      replace hZ9 := hZ9.2.2.2
      obtain ⟨b106, hZ9⟩ := hZ9
      obtain ⟨b107, hE108⟩ := hZ9
      replace hO64 : u62[30]? = (some (q 30, .inr (5, [.ref (q 31), .long y65, .ref (q 9), .int y66])) : Option (Nat × va_E)) := hO64
      replace hO67 : u62[10]? = (some (q 10, .inr (2, [.ref (q 11), .int y68, .int y69])) : Option (Nat × va_E)) := hO67
      replace hA71 : u62[11]? = (some (q 11, .inl (g 0, (220 : Int32).toNatClampNeg, .inl f70)) : Option (Nat × va_E)) := hA71
      replace hO72 : u62[12]? = (some (q 12, .inr (2, [.ref (q 13), .int y73, .int y74])) : Option (Nat × va_E)) := hO72
      replace hA76 : u62[13]? = (some (q 13, .inl (g 0, (220 : Int32).toNatClampNeg, .inl f75)) : Option (Nat × va_E)) := hA76
      replace hO77 : u62[22]? = (some (q 22, .inr (2, [.ref (q 23), .int y78, .int y79])) : Option (Nat × va_E)) := hO77
      replace hA81 : u62[23]? = (some (q 23, .inl (g 0, (220 : Int32).toNatClampNeg, .inl f80)) : Option (Nat × va_E)) := hA81
      replace hO82 : u62[k2 + 1]? = (some (q (k2 + 1), .inr (2, [.ref (q (k2 + 2)), .int y83, .int y84])) : Option (Nat × va_E)) := hO82
      replace hA86 : u62[k2 + 2]? = (some (q (k2 + 2), .inl (g 0, R2.toNatClampNeg, .inl f85)) : Option (Nat × va_E)) := hA86
      obtain ⟨p110, e111⟩ : ∃ z, z = (F_DW_divideRaised_a R2 a59 j42 t0_1 t1_0 t1_1 t2_0 t3_0 t3_1 t4_0 t5_0 t5_1 t6_0 t7_0 t7_1 t8_0 t8_1 t9_0) := ⟨_, rfl⟩
      have e112 : y65 = p110.1 := congrArg (fun z => z.1) (hE108.trans e111.symm)
      have e113 : y66 = p110.2.1 := congrArg (fun z => z.2.1) (hE108.trans e111.symm)
      have e114 : y68 = p110.2.2.1 := congrArg (fun z => z.2.2.1) (hE108.trans e111.symm)
      have e115 : y69 = p110.2.2.2.1 := congrArg (fun z => z.2.2.2.1) (hE108.trans e111.symm)
      have e116 : f70 = p110.2.2.2.2.1 := congrArg (fun z => z.2.2.2.2.1) (hE108.trans e111.symm)
      have e117 : y73 = p110.2.2.2.2.2.1 := congrArg (fun z => z.2.2.2.2.2.1) (hE108.trans e111.symm)
      have e118 : y74 = p110.2.2.2.2.2.2.1 := congrArg (fun z => z.2.2.2.2.2.2.1) (hE108.trans e111.symm)
      have e119 : f75 = p110.2.2.2.2.2.2.2.1 := congrArg (fun z => z.2.2.2.2.2.2.2.1) (hE108.trans e111.symm)
      have e120 : y78 = p110.2.2.2.2.2.2.2.2.1 := congrArg (fun z => z.2.2.2.2.2.2.2.2.1) (hE108.trans e111.symm)
      have e121 : y79 = p110.2.2.2.2.2.2.2.2.2.1 := congrArg (fun z => z.2.2.2.2.2.2.2.2.2.1) (hE108.trans e111.symm)
      have e122 : f80 = p110.2.2.2.2.2.2.2.2.2.2.1 := congrArg (fun z => z.2.2.2.2.2.2.2.2.2.2.1) (hE108.trans e111.symm)
      have e123 : y83 = p110.2.2.2.2.2.2.2.2.2.2.2.1 := congrArg (fun z => z.2.2.2.2.2.2.2.2.2.2.2.1) (hE108.trans e111.symm)
      have e124 : y84 = p110.2.2.2.2.2.2.2.2.2.2.2.2.1 := congrArg (fun z => z.2.2.2.2.2.2.2.2.2.2.2.2.1) (hE108.trans e111.symm)
      have e125 : f85 = p110.2.2.2.2.2.2.2.2.2.2.2.2.2 := congrArg (fun z => z.2.2.2.2.2.2.2.2.2.2.2.2.2) (hE108.trans e111.symm)
      replace b87 : q_F (0 ≤ y74.toInt) := b87
      replace b88 : q_F (y74.toInt ≤ 0) := b88
      replace b89 : q_F (j42.toInt ≤ y65.toInt) := b89
      replace b90 : q_F (y65.toInt ≤ j42.toInt) := b90
      replace b93 : q_F (y83.toInt ≤ t8_0.toInt + 218) := b93
      replace b94 : q_F (y83.toInt ≤ R2.toInt) := b94
      replace b95 : q_F (y84.toInt ≤ t8_1.toInt) := b95
      replace b96 : q_F (y74.toInt ≤ y66.toInt) := b96
      replace b97 : q_F (y66.toInt ≤ y74.toInt + 1) := b97
      replace b98 : q_F (y68.toInt ≤ y73.toInt) := b98
      replace b99 : q_F (y74.toInt ≤ y68.toInt) := b99
      replace b102 : q_F (y73.toInt ≤ y74.toInt + 220) := b102
      replace b106 : q_F (y74.toInt ≤ y83.toInt) := b106
      replace b107 : q_F (y74.toInt ≤ y84.toInt) := b107
      replace hT7 := (hu109 _ (by have z0 := zk2; simp only [List.mem_cons, List.not_mem_nil, or_false, not_or]; omega)).trans hT7
      replace hF := q_uc hF hu109 (by first | exact (q_sk (q_mi 0 rfl) (q_sk (q_mi 1 rfl) (q_sk (q_mi 2 rfl) (q_sk (q_mi 3 rfl) (q_sk (q_mi 4 rfl) (q_sk (q_mi 5 rfl) (q_sk (q_mi 6 rfl) (q_sk (q_mi 7 rfl) (q_sk (q_mi 8 rfl) q_s0))))))))) | simp)
      have hR126 := (show F_DW_divideToScale_a_c68 R2 x4 x5 t0_0 t0_1 t1_0 t1_1 t2_0 t3_0 t3_1 t4_0 t5_0 t5_1 t6_0 t7_0 t7_1 t8_0 t8_1 t9_0 a49 p110 = (F_DW_divideToScale_a R2 x4 x5 t0_0 t0_1 t1_0 t1_1 t2_0 t3_0 t3_1 t4_0 t5_0 t5_1 t6_0 t7_0 t7_1 t8_0 t8_1 t9_0) from (by have c57x := c57; rw [← e56, ← e54, ← e50, ← e48] at c57x; rw [e111, ← e60, ← e50, ← e48, ← e43, F_DW_divideToScale_a.eq_1, if_neg c51, if_pos c57x]))
      have hS127 := (show True ∧ S_DW_divideToScale_a_c68 R2 x4 x5 t0_0 t0_1 t1_0 t1_1 t2_0 t3_0 t3_1 t4_0 t5_0 t5_1 t6_0 t7_0 t7_1 t8_0 t8_1 t9_0 a49 p110 from (by rw [e111, ← e60, ← e50, ← e48, ← e43]; have h := hS; rw [S_DW_divideToScale_a.eq_1] at h; rw [if_neg c51] at h; have c57x := c57; rw [← e56, ← e54, ← e50, ← e48] at c57x; rw [if_pos c57x] at h; replace h := q_s2 h; with_reducible exact h))
      refine lv_aload_n hx hb d_4_11_71 rfl (lv_at hl 1 rfl) ?_
      refine lv_aload_n hx hb d_4_11_72 rfl (lv_at hl 2 rfl) ?_
      refine q_get (ci := 3) (j := 0) (v := .ref (q (k2 + 1))) C0 V i_Dec rfl rfl hT7 (by decide) w_171 rfl d_4_11_73 ?_
      refine q_get (ci := 2) (j := 2) (v := .int y84) C0 V i_Big rfl rfl hO82 (by decide) w_97 rfl d_4_11_76 ?_
      refine lv_aload_n hx hb d_4_11_79 rfl (lv_at hl 3 rfl) ?_
      refine q_get (ci := 3) (j := 0) (v := .ref (q (k2 + 1))) C0 V i_Dec rfl rfl hT7 (by decide) w_171 rfl d_4_11_80 ?_
      refine q_get (ci := 2) (j := 2) (v := .int y84) C0 V i_Big rfl rfl hO82 (by decide) w_97 rfl d_4_11_83 ?_
      refine lv_icmp_eq (tgt := 93) hx hb d_4_11_86 (by decide) (fun c131 => ?_) (fun c131 => absurd (show y84.toInt ≠ y84.toInt from q_neI c131) (by omega))
      refine lv_iconst (v := 0) hx hb d_4_11_93 (by decide) ?_
      refine lv_iload hx hb d_4_11_94 (lv_at hl 5 rfl) ?_
      refine q_goi V (q_runV (As := [.int 0, .int x5]) (rest := []) (d := 4) (mc := 0) (ms := 0) (ci := 5) C0 V rfl LV_DW_142 (X_DW_roundLast l D g q u62  0 x5 hI y65 y66 hO64 y68 y69 hO67 f70 hA71 y78 y79 hO77 f80 hA81 ⟨(by have y0 : (0 : Int32).toInt = 0 := rfl; omega), (by have y0 : (0 : Int32).toInt = 0 := rfl; omega)⟩ _) rfl rfl hO64 rfl hl.1 rfl (Nat.le_of_ble_eq_true rfl) ⟨by decide, by decide⟩ ⟨Nat.le_of_ble_eq_true rfl, Nat.le_of_ble_eq_true rfl⟩ d_4_11_96) (fun a134 u132 H locs hp133 V => ?_)
      obtain ⟨hI, hZ9⟩ := hp133
      obtain ⟨hu157, hZ9⟩ := hZ9
      obtain ⟨y136, hZ9⟩ := hZ9
      obtain ⟨y137, hZ9⟩ := hZ9
      obtain ⟨f138, hZ9⟩ := hZ9
      obtain ⟨y141, hZ9⟩ := hZ9
      obtain ⟨y142, hZ9⟩ := hZ9
      obtain ⟨f143, hZ9⟩ := hZ9
      obtain ⟨hO135, hZ9⟩ := hZ9
      obtain ⟨hA139, hZ9⟩ := hZ9
      obtain ⟨hO140, hZ9⟩ := hZ9
      obtain ⟨hA144, hZ9⟩ := hZ9
      obtain ⟨b145, hZ9⟩ := hZ9
      obtain ⟨b146, hZ9⟩ := hZ9
      obtain ⟨b147, hZ9⟩ := hZ9
      obtain ⟨b148, hZ9⟩ := hZ9
      obtain ⟨b149, hZ9⟩ := hZ9
      obtain ⟨b150, hZ9⟩ := hZ9
      obtain ⟨b151, hZ9⟩ := hZ9
      obtain ⟨b152, hZ9⟩ := hZ9
      obtain ⟨b153, hZ9⟩ := hZ9
      replace hZ9 := hZ9.2
      obtain ⟨b155, hE156⟩ := hZ9
      replace hO135 : u132[10]? = (some (q 10, .inr (2, [.ref (q 11), .int y136, .int y137])) : Option (Nat × va_E)) := hO135
      replace hA139 : u132[11]? = (some (q 11, .inl (g 0, (220 : Int32).toNatClampNeg, .inl f138)) : Option (Nat × va_E)) := hA139
      replace hO140 : u132[22]? = (some (q 22, .inr (2, [.ref (q 23), .int y141, .int y142])) : Option (Nat × va_E)) := hO140
      replace hA144 : u132[23]? = (some (q 23, .inl (g 0, (220 : Int32).toNatClampNeg, .inl f143)) : Option (Nat × va_E)) := hA144
      obtain ⟨p158, e159⟩ : ∃ z, z = (F_DW_roundLast (0 : Int32) x5 y65 y66 y68 y69 f70 y78 y79 f80) := ⟨_, rfl⟩
      have e160 : a134 = p158.1 := congrArg (fun z => z.1) (hE156.trans e159.symm)
      have e161 : y136 = p158.2.1 := congrArg (fun z => z.2.1) (hE156.trans e159.symm)
      have e162 : y137 = p158.2.2.1 := congrArg (fun z => z.2.2.1) (hE156.trans e159.symm)
      have e163 : f138 = p158.2.2.2.1 := congrArg (fun z => z.2.2.2.1) (hE156.trans e159.symm)
      have e164 : y141 = p158.2.2.2.2.1 := congrArg (fun z => z.2.2.2.2.1) (hE156.trans e159.symm)
      have e165 : y142 = p158.2.2.2.2.2.1 := congrArg (fun z => z.2.2.2.2.2.1) (hE156.trans e159.symm)
      have e166 : f143 = p158.2.2.2.2.2.2 := congrArg (fun z => z.2.2.2.2.2.2) (hE156.trans e159.symm)
      replace b145 : q_F (0 ≤ a134.toInt) := b145
      replace b146 : q_F (a134.toInt ≤ 1) := b146
      replace b147 : q_F (y136.toInt ≤ 220) := b147
      replace b148 : q_F (0 ≤ y137.toInt) := b148
      replace b149 : q_F (y137.toInt ≤ 1) := b149
      replace b150 : q_F (0 ≤ y141.toInt) := b150
      replace b151 : q_F (y141.toInt ≤ 220) := b151
      replace b152 : q_F (0 ≤ y142.toInt) := b152
      replace b153 : q_F (y142.toInt ≤ 1) := b153
      replace b155 : q_F (y137.toInt ≤ y136.toInt) := b155
      replace hO64 := (hu157 _ (by decide)).trans hO64
      replace hO72 := (hu157 _ (by decide)).trans hO72
      replace hA76 := (hu157 _ (by decide)).trans hA76
      replace hO82 := (hu157 _ (by have z0 := zk2; simp only [List.mem_cons, List.not_mem_nil, or_false, not_or]; omega)).trans hO82
      replace hA86 := (hu157 _ (by have z0 := zk2; simp only [List.mem_cons, List.not_mem_nil, or_false, not_or]; omega)).trans hA86
      replace hF := q_uc hF hu157 (by first | exact (q_sk (q_mi 0 rfl) (q_sk (q_mi 1 rfl) (q_sk (q_mi 4 rfl) (q_sk (q_mi 5 rfl) q_s0)))) | simp)
      have hR167 := (show F_DW_divideToScale_a_c96 R2 x4 x5 t0_0 t0_1 t1_0 t1_1 t2_0 t3_0 t3_1 t4_0 t5_0 t5_1 t6_0 t7_0 t7_1 t8_0 t8_1 t9_0 a49 p110 y65 y66 y73 y74 f75 y83 y84 f85 p158 = (F_DW_divideToScale_a R2 x4 x5 t0_0 t0_1 t1_0 t1_1 t2_0 t3_0 t3_1 t4_0 t5_0 t5_1 t6_0 t7_0 t7_1 t8_0 t8_1 t9_0) from Eq.trans (by rw [e159, e125, e124, e123, e122, e121, e120, e119, e118, e117, e116, e115, e114, e113, e112, F_DW_divideToScale_a_c68.eq_1]) hR126)
      have hS168 := (show True ∧ S_DW_divideToScale_a_c96 R2 x4 x5 t0_0 t0_1 t1_0 t1_1 t2_0 t3_0 t3_1 t4_0 t5_0 t5_1 t6_0 t7_0 t7_1 t8_0 t8_1 t9_0 a49 p110 y65 y66 y73 y74 f75 y83 y84 f85 p158 from (by rw [e159, e125, e124, e123, e122, e121, e120, e119, e118, e117, e116, e115, e114, e113, e112]; have h := hS127; rw [S_DW_divideToScale_a_c68.eq_1] at h; with_reducible exact h))
      exact q_retz C0 V (q_nz01 (q_Ile (x := 0) (y := a134.toInt) (by decide) rfl (by first | with_reducible exact q_fe b145 | (have t1 : 0 ≤ a134.toInt := b145; omega))) (q_Ile (x := a134.toInt) (y := 1) rfl (by decide) (by first | with_reducible exact q_fe b146 | (have t1 : a134.toInt ≤ 1 := b146; omega)))) (⟨hI, hF, y65, y66, y136, y137, f138, y73, y74, f75, y141, y142, f143, y83, y84, f85, hO64, hO135, hA139, hO72, hA76, hO140, hA144, hO82, hA86, (show 0 ≤ a134.toInt from (by first | with_reducible exact q_fe b145 | (have t1 : 0 ≤ a134.toInt := b145; omega))), (show a134.toInt ≤ 1 from (by first | with_reducible exact q_fe b146 | (have t1 : a134.toInt ≤ 1 := b146; omega))), (show 0 ≤ y66.toInt from (by have t1 : 0 ≤ y74.toInt := b87; have t2 : y74.toInt ≤ y66.toInt := b96; omega)), (show y66.toInt ≤ 1 from (by have t1 : y74.toInt ≤ 0 := b88; have t2 : y66.toInt ≤ y74.toInt + 1 := b97; omega)), (show 0 ≤ y136.toInt from (by have t1 : 0 ≤ y137.toInt := b148; have t2 : y137.toInt ≤ y136.toInt := b155; omega)), (show y136.toInt ≤ 220 from (by first | with_reducible exact q_fe b147 | (have t1 : y136.toInt ≤ 220 := b147; omega))), (show 0 ≤ y137.toInt from (by first | with_reducible exact q_fe b148 | (have t1 : 0 ≤ y137.toInt := b148; omega))), (show y137.toInt ≤ 1 from (by first | with_reducible exact q_fe b149 | (have t1 : y137.toInt ≤ 1 := b149; omega))), (show 0 ≤ y73.toInt from (by have t1 : 0 ≤ y74.toInt := b87; have t2 : y68.toInt ≤ y73.toInt := b98; have t3 : y74.toInt ≤ y68.toInt := b99; omega)), (show y73.toInt ≤ 220 from (by have t1 : y74.toInt ≤ 0 := b88; have t2 : y73.toInt ≤ y74.toInt + 220 := b102; omega)), (show 0 ≤ y74.toInt from (by first | with_reducible exact q_fe b87 | (have t1 : 0 ≤ y74.toInt := b87; omega))), (show 0 ≤ y141.toInt from (by first | with_reducible exact q_fe b150 | (have t1 : 0 ≤ y141.toInt := b150; omega))), (show y141.toInt ≤ 220 from (by first | with_reducible exact q_fe b151 | (have t1 : y141.toInt ≤ 220 := b151; omega))), (show 0 ≤ y142.toInt from (by first | with_reducible exact q_fe b152 | (have t1 : 0 ≤ y142.toInt := b152; omega))), (show y142.toInt ≤ 1 from (by first | with_reducible exact q_fe b153 | (have t1 : y142.toInt ≤ 1 := b153; omega))), (show 0 ≤ y83.toInt from (by have t1 : 0 ≤ y74.toInt := b87; have t2 : y74.toInt ≤ y83.toInt := b106; omega)), (show 0 ≤ y84.toInt from (by have t1 : 0 ≤ y74.toInt := b87; have t2 : y74.toInt ≤ y84.toInt := b107; omega)), (show x4.toInt ≤ y65.toInt from (by have t1 : j42.toInt = x4.toInt := b44; have t2 : j42.toInt ≤ y65.toInt := b89; omega)), (show y65.toInt ≤ x4.toInt from (by have t1 : j42.toInt = x4.toInt := b44; have t2 : y65.toInt ≤ j42.toInt := b90; omega)), (show y136.toInt ≤ t8_0.toInt + 219 from (by have t1 : 0 ≤ t8_0.toInt ∧ t8_0.toInt ≤ R2.toInt := btt8_0; have t2 : t8_0.toInt ≠ 0 := b52; have t3 : y136.toInt ≤ 220 := b147; omega)), (show y137.toInt ≤ t8_0.toInt from (by have t1 : 0 ≤ t8_0.toInt ∧ t8_0.toInt ≤ R2.toInt := btt8_0; have t2 : t8_0.toInt ≠ 0 := b52; have t3 : y137.toInt ≤ 1 := b149; omega)), (show y74.toInt ≤ t3_1.toInt from (by have t1 : 0 ≤ t3_1.toInt ∧ t3_1.toInt ≤ 1 := btt3_1; have t2 : y74.toInt ≤ 0 := b88; omega)), (show y83.toInt ≤ t8_0.toInt + 218 from (by first | with_reducible exact q_fe b93 | (have t1 : y83.toInt ≤ t8_0.toInt + 218 := b93; omega))), (show y83.toInt ≤ R2.toInt from (by first | with_reducible exact q_fe b94 | (have t1 : y83.toInt ≤ R2.toInt := b94; omega))), (show y84.toInt ≤ t8_1.toInt from (by first | with_reducible exact q_fe b95 | (have t1 : y84.toInt ≤ t8_1.toInt := b95; omega))), (show (a134, y65, y66, y136, y137, f138, y73, y74, f75, y141, y142, f143, y83, y84, f85) = (F_DW_divideToScale_a R2 x4 x5 t0_0 t0_1 t1_0 t1_1 t2_0 t3_0 t3_1 t4_0 t5_0 t5_1 t6_0 t7_0 t7_1 t8_0 t8_1 t9_0) from Eq.trans (by rw [e166, e165, e164, e163, e162, e161, e160, F_DW_divideToScale_a_c96.eq_1]) hR167)⟩) d_4_11_99
    ·
      refine lv_iconst (v := 0) hx hb d_4_11_59 (by decide) ?_
      exact q_retz C0 V (by decide) (⟨hI, hF, j42, t0_1, t1_0, t1_1, t2_0, t3_0, t3_1, t4_0, t5_0, t5_1, t6_0, t8_0, t8_1, t9_0, hT0, hT1, hT2, hT3, hT4, hT5, hT6, hT8, hT9, (show 0 ≤ (0 : Int32).toInt from (by have z19 : (0 : Int32).toInt = 0 := rfl; omega)), (show (0 : Int32).toInt ≤ 1 from (by have z19 : (0 : Int32).toInt = 0 := rfl; omega)), (show 0 ≤ t0_1.toInt from (by have z19 : (0 : Int32).toInt = 0 := rfl; have t1 : 0 ≤ t0_1.toInt ∧ t0_1.toInt ≤ 1 := btt0_1; omega)), (show t0_1.toInt ≤ 1 from (by have z19 : (0 : Int32).toInt = 0 := rfl; have t1 : 0 ≤ t0_1.toInt ∧ t0_1.toInt ≤ 1 := btt0_1; omega)), (show 0 ≤ t1_0.toInt from (by have z19 : (0 : Int32).toInt = 0 := rfl; have t1 : 0 ≤ t1_0.toInt ∧ t1_0.toInt ≤ 220 := btt1_0; omega)), (show t1_0.toInt ≤ 220 from (by have z19 : (0 : Int32).toInt = 0 := rfl; have t1 : 0 ≤ t1_0.toInt ∧ t1_0.toInt ≤ 220 := btt1_0; omega)), (show 0 ≤ t1_1.toInt from (by have z19 : (0 : Int32).toInt = 0 := rfl; have t1 : 0 ≤ t1_1.toInt ∧ t1_1.toInt ≤ 1 := btt1_1; omega)), (show t1_1.toInt ≤ 1 from (by have z19 : (0 : Int32).toInt = 0 := rfl; have t1 : 0 ≤ t1_1.toInt ∧ t1_1.toInt ≤ 1 := btt1_1; omega)), (show 0 ≤ t3_0.toInt from (by have z19 : (0 : Int32).toInt = 0 := rfl; have t1 : 0 ≤ t3_0.toInt ∧ t3_0.toInt ≤ 220 := btt3_0; omega)), (show t3_0.toInt ≤ 220 from (by have z19 : (0 : Int32).toInt = 0 := rfl; have t1 : 0 ≤ t3_0.toInt ∧ t3_0.toInt ≤ 220 := btt3_0; omega)), (show 0 ≤ t3_1.toInt from (by have z19 : (0 : Int32).toInt = 0 := rfl; have t1 : 0 ≤ t3_1.toInt ∧ t3_1.toInt ≤ 1 := btt3_1; omega)), (show 0 ≤ t5_0.toInt from (by have z19 : (0 : Int32).toInt = 0 := rfl; have t1 : 0 ≤ t5_0.toInt ∧ t5_0.toInt ≤ 220 := btt5_0; omega)), (show t5_0.toInt ≤ 220 from (by have z19 : (0 : Int32).toInt = 0 := rfl; have t1 : 0 ≤ t5_0.toInt ∧ t5_0.toInt ≤ 220 := btt5_0; omega)), (show 0 ≤ t5_1.toInt from (by have z19 : (0 : Int32).toInt = 0 := rfl; have t1 : 0 ≤ t5_1.toInt ∧ t5_1.toInt ≤ 1 := btt5_1; omega)), (show t5_1.toInt ≤ 1 from (by have z19 : (0 : Int32).toInt = 0 := rfl; have t1 : 0 ≤ t5_1.toInt ∧ t5_1.toInt ≤ 1 := btt5_1; omega)), (show 0 ≤ t8_0.toInt from (by have z19 : (0 : Int32).toInt = 0 := rfl; have t1 : 0 ≤ t8_0.toInt ∧ t8_0.toInt ≤ R2.toInt := btt8_0; omega)), (show 0 ≤ t8_1.toInt from (by have z19 : (0 : Int32).toInt = 0 := rfl; have t1 : 0 ≤ t8_1.toInt ∧ t8_1.toInt ≤ 1 := btt8_1; omega)), (show x4.toInt ≤ j42.toInt from (by have z19 : (0 : Int32).toInt = 0 := rfl; have t1 : j42.toInt = x4.toInt := b44; omega)), (show j42.toInt ≤ x4.toInt from (by have z19 : (0 : Int32).toInt = 0 := rfl; have t1 : j42.toInt = x4.toInt := b44; omega)), (show t1_0.toInt ≤ t8_0.toInt + 219 from (by have z19 : (0 : Int32).toInt = 0 := rfl; have t1 : 0 ≤ t1_0.toInt ∧ t1_0.toInt ≤ 220 := btt1_0; have t2 : 0 ≤ t8_0.toInt ∧ t8_0.toInt ≤ R2.toInt := btt8_0; have t3 : t8_0.toInt ≠ 0 := b52; omega)), (show t1_1.toInt ≤ t8_0.toInt from (by have z19 : (0 : Int32).toInt = 0 := rfl; have t1 : 0 ≤ t1_1.toInt ∧ t1_1.toInt ≤ 1 := btt1_1; have t2 : 0 ≤ t8_0.toInt ∧ t8_0.toInt ≤ R2.toInt := btt8_0; have t3 : t8_0.toInt ≠ 0 := b52; omega)), (show t3_1.toInt ≤ t3_1.toInt from (by have z19 : (0 : Int32).toInt = 0 := rfl; omega)), (show t8_0.toInt ≤ t8_0.toInt + 218 from (by have z19 : (0 : Int32).toInt = 0 := rfl; omega)), (show t8_0.toInt ≤ R2.toInt from (by have z19 : (0 : Int32).toInt = 0 := rfl; have t1 : 0 ≤ t8_0.toInt ∧ t8_0.toInt ≤ R2.toInt := btt8_0; omega)), (show t8_1.toInt ≤ t8_1.toInt from (by have z19 : (0 : Int32).toInt = 0 := rfl; omega)), (show ((0 : Int32), j42, t0_1, t1_0, t1_1, t2_0, t3_0, t3_1, t4_0, t5_0, t5_1, t6_0, t8_0, t8_1, t9_0) = (F_DW_divideToScale_a R2 x4 x5 t0_0 t0_1 t1_0 t1_1 t2_0 t3_0 t3_1 t4_0 t5_0 t5_1 t6_0 t7_0 t7_1 t8_0 t8_1 t9_0) from (by have c57x := c57; rw [← e56, ← e54, ← e50, ← e48] at c57x; rw [← e43, F_DW_divideToScale_a.eq_1, if_neg c51, if_neg c57x]))⟩) d_4_11_60
  ·
    refine lv_aload_n hx hb d_4_11_29 rfl (lv_at hl 1 rfl) ?_
    refine q_get (ci := 5) (j := 2) (v := .ref (q 9)) C0 V i_DW rfl rfl hT0 (by decide) w_214 rfl d_4_11_30 ?_
    have hO174 := n_o9 hI
    refine q_get (ci := 4) (j := 0) (v := .ref (q 10)) C0 V i_Mil rfl rfl hO174 (by decide) w_111 rfl d_4_11_33 ?_
    refine q_gov V (q_runV (As := []) (rest := []) (d := 1) (mc := 0) (ms := 0) (ci := 2) C0 V rfl LV_DW_135 (X_Big_clear l D g q w45 10 220 (n_b10 g q) (by decide)  hI t1_0 t1_1 hT1  _) rfl rfl hT1 rfl hl.1 rfl (Nat.le_of_ble_eq_true rfl) ⟨by decide, by decide⟩ ⟨Nat.le_of_ble_eq_true rfl, Nat.le_of_ble_eq_true rfl⟩ d_4_11_36) (fun u175 H locs hp176 V => ?_)
    obtain ⟨hI, hZ9⟩ := hp176
    obtain ⟨hu185, hZ9⟩ := hZ9
    obtain ⟨y178, hZ9⟩ := hZ9
    obtain ⟨y179, hZ9⟩ := hZ9
    obtain ⟨hO177, hZ9⟩ := hZ9
    obtain ⟨b180, hZ9⟩ := hZ9
    obtain ⟨b181, hZ9⟩ := hZ9
    obtain ⟨b182, hZ9⟩ := hZ9
    obtain ⟨b183, hE184⟩ := hZ9
    replace hO177 : u175[10]? = (some (q 10, .inr (2, [.ref (q 11), .int y178, .int y179])) : Option (Nat × va_E)) := hO177
    obtain ⟨p186, e187⟩ : ∃ z, z = (F_Big_clear (220 : Int32) t1_0 t1_1) := ⟨_, rfl⟩
    have e188 : y178 = p186.1 := congrArg (fun z => z.1) (hE184.trans e187.symm)
    have e189 : y179 = p186.2 := congrArg (fun z => z.2) (hE184.trans e187.symm)
    replace b180 : q_F (0 ≤ y179.toInt) := b180
    replace b181 : q_F (y179.toInt ≤ 0) := b181
    replace b182 : q_F (y179.toInt ≤ y178.toInt) := b182
    replace b183 : q_F (y178.toInt ≤ y179.toInt) := b183
    replace hT0 := (hu185 _ (by decide)).trans hT0
    replace hT2 := (hu185 _ (by decide)).trans hT2
    replace hT3 := (hu185 _ (by decide)).trans hT3
    replace hT4 := (hu185 _ (by decide)).trans hT4
    replace hT5 := (hu185 _ (by decide)).trans hT5
    replace hT6 := (hu185 _ (by decide)).trans hT6
    replace hT8 := (hu185 _ (by have z0 := zk2; simp only [List.mem_cons, List.not_mem_nil, or_false, not_or]; omega)).trans hT8
    replace hT9 := (hu185 _ (by have z0 := zk2; simp only [List.mem_cons, List.not_mem_nil, or_false, not_or]; omega)).trans hT9
    replace hF := q_uc hF hu185 (by first | exact (q_sk (q_mi 0 rfl) q_s0) | simp)
    have hR190 := (show F_DW_divideToScale_a_c36 R2 x4 x5 t0_0 t0_1 t1_0 t1_1 t2_0 t3_0 t3_1 t4_0 t5_0 t5_1 t6_0 t7_0 t7_1 t8_0 t8_1 t9_0 a49 j42 p186 = (F_DW_divideToScale_a R2 x4 x5 t0_0 t0_1 t1_0 t1_1 t2_0 t3_0 t3_1 t4_0 t5_0 t5_1 t6_0 t7_0 t7_1 t8_0 t8_1 t9_0) from (by rw [e187, ← e50, ← e48, ← e43, F_DW_divideToScale_a.eq_1, if_pos c51]))
    have hS191 := (show True ∧ S_DW_divideToScale_a_c36 R2 x4 x5 t0_0 t0_1 t1_0 t1_1 t2_0 t3_0 t3_1 t4_0 t5_0 t5_1 t6_0 t7_0 t7_1 t8_0 t8_1 t9_0 a49 j42 p186 from (by rw [e187, ← e50, ← e48, ← e43]; have h := hS; rw [S_DW_divideToScale_a.eq_1] at h; rw [if_pos c51] at h; with_reducible exact h))
    refine lv_iconst (v := 1) hx hb d_4_11_39 (by decide) ?_
    exact q_retz C0 V (by decide) (⟨hI, hF, j42, t0_1, y178, y179, t2_0, t3_0, t3_1, t4_0, t5_0, t5_1, t6_0, t8_0, t8_1, t9_0, hT0, hO177, hT2, hT3, hT4, hT5, hT6, hT8, hT9, (show 0 ≤ (1 : Int32).toInt from (by have z19 : (1 : Int32).toInt = 1 := rfl; omega)), (show (1 : Int32).toInt ≤ 1 from (by have z19 : (1 : Int32).toInt = 1 := rfl; omega)), (show 0 ≤ t0_1.toInt from (by have z19 : (1 : Int32).toInt = 1 := rfl; have t1 : 0 ≤ t0_1.toInt ∧ t0_1.toInt ≤ 1 := btt0_1; omega)), (show t0_1.toInt ≤ 1 from (by have z19 : (1 : Int32).toInt = 1 := rfl; have t1 : 0 ≤ t0_1.toInt ∧ t0_1.toInt ≤ 1 := btt0_1; omega)), (show 0 ≤ y178.toInt from (by have z19 : (1 : Int32).toInt = 1 := rfl; have t1 : 0 ≤ y179.toInt := b180; have t2 : y179.toInt ≤ y178.toInt := b182; omega)), (show y178.toInt ≤ 220 from (by have z19 : (1 : Int32).toInt = 1 := rfl; have t1 : y179.toInt ≤ 0 := b181; have t2 : y178.toInt ≤ y179.toInt := b183; omega)), (show 0 ≤ y179.toInt from (by have z19 : (1 : Int32).toInt = 1 := rfl; have t1 : 0 ≤ y179.toInt := b180; omega)), (show y179.toInt ≤ 1 from (by have z19 : (1 : Int32).toInt = 1 := rfl; have t1 : y179.toInt ≤ 0 := b181; omega)), (show 0 ≤ t3_0.toInt from (by have z19 : (1 : Int32).toInt = 1 := rfl; have t1 : 0 ≤ t3_0.toInt ∧ t3_0.toInt ≤ 220 := btt3_0; omega)), (show t3_0.toInt ≤ 220 from (by have z19 : (1 : Int32).toInt = 1 := rfl; have t1 : 0 ≤ t3_0.toInt ∧ t3_0.toInt ≤ 220 := btt3_0; omega)), (show 0 ≤ t3_1.toInt from (by have z19 : (1 : Int32).toInt = 1 := rfl; have t1 : 0 ≤ t3_1.toInt ∧ t3_1.toInt ≤ 1 := btt3_1; omega)), (show 0 ≤ t5_0.toInt from (by have z19 : (1 : Int32).toInt = 1 := rfl; have t1 : 0 ≤ t5_0.toInt ∧ t5_0.toInt ≤ 220 := btt5_0; omega)), (show t5_0.toInt ≤ 220 from (by have z19 : (1 : Int32).toInt = 1 := rfl; have t1 : 0 ≤ t5_0.toInt ∧ t5_0.toInt ≤ 220 := btt5_0; omega)), (show 0 ≤ t5_1.toInt from (by have z19 : (1 : Int32).toInt = 1 := rfl; have t1 : 0 ≤ t5_1.toInt ∧ t5_1.toInt ≤ 1 := btt5_1; omega)), (show t5_1.toInt ≤ 1 from (by have z19 : (1 : Int32).toInt = 1 := rfl; have t1 : 0 ≤ t5_1.toInt ∧ t5_1.toInt ≤ 1 := btt5_1; omega)), (show 0 ≤ t8_0.toInt from (by have z19 : (1 : Int32).toInt = 1 := rfl; have t1 : 0 ≤ t8_0.toInt ∧ t8_0.toInt ≤ R2.toInt := btt8_0; omega)), (show 0 ≤ t8_1.toInt from (by have z19 : (1 : Int32).toInt = 1 := rfl; have t1 : 0 ≤ t8_1.toInt ∧ t8_1.toInt ≤ 1 := btt8_1; omega)), (show x4.toInt ≤ j42.toInt from (by have z19 : (1 : Int32).toInt = 1 := rfl; have t1 : j42.toInt = x4.toInt := b44; omega)), (show j42.toInt ≤ x4.toInt from (by have z19 : (1 : Int32).toInt = 1 := rfl; have t1 : j42.toInt = x4.toInt := b44; omega)), (show y178.toInt ≤ t8_0.toInt + 219 from (by have z19 : (1 : Int32).toInt = 1 := rfl; have t1 : 0 ≤ t8_0.toInt ∧ t8_0.toInt ≤ R2.toInt := btt8_0; have t2 : y179.toInt ≤ 0 := b181; have t3 : y178.toInt ≤ y179.toInt := b183; omega)), (show y179.toInt ≤ t8_0.toInt from (by have z19 : (1 : Int32).toInt = 1 := rfl; have t1 : 0 ≤ t8_0.toInt ∧ t8_0.toInt ≤ R2.toInt := btt8_0; have t2 : y179.toInt ≤ 0 := b181; omega)), (show t3_1.toInt ≤ t3_1.toInt from (by have z19 : (1 : Int32).toInt = 1 := rfl; omega)), (show t8_0.toInt ≤ t8_0.toInt + 218 from (by have z19 : (1 : Int32).toInt = 1 := rfl; omega)), (show t8_0.toInt ≤ R2.toInt from (by have z19 : (1 : Int32).toInt = 1 := rfl; have t1 : 0 ≤ t8_0.toInt ∧ t8_0.toInt ≤ R2.toInt := btt8_0; omega)), (show t8_1.toInt ≤ t8_1.toInt from (by have z19 : (1 : Int32).toInt = 1 := rfl; omega)), (show ((1 : Int32), j42, t0_1, y178, y179, t2_0, t3_0, t3_1, t4_0, t5_0, t5_1, t6_0, t8_0, t8_1, t9_0) = (F_DW_divideToScale_a R2 x4 x5 t0_0 t0_1 t1_0 t1_1 t2_0 t3_0 t3_1 t4_0 t5_0 t5_1 t6_0 t7_0 t7_1 t8_0 t8_1 t9_0) from Eq.trans (by rw [e189, e188, F_DW_divideToScale_a_c36.eq_1]) hR190)⟩) d_4_11_40
theorem d_4_12_0 : decode prog_4_method_12_code 0 = .ok (.aload_n 1, 1) := by decide +kernel
theorem d_4_12_1 : decode prog_4_method_12_code 1 = .ok (.getfield 48, 3) := by decide +kernel
theorem d_4_12_4 : decode prog_4_method_12_code 4 = .ok (.i2l, 1) := by decide +kernel
theorem d_4_12_5 : decode prog_4_method_12_code 5 = .ok (.aload_n 2, 1) := by decide +kernel
theorem d_4_12_6 : decode prog_4_method_12_code 6 = .ok (.getfield 48, 3) := by decide +kernel
theorem d_4_12_9 : decode prog_4_method_12_code 9 = .ok (.i2l, 1) := by decide +kernel
theorem d_4_12_10 : decode prog_4_method_12_code 10 = .ok (.lsub, 1) := by decide +kernel
theorem d_4_12_11 : decode prog_4_method_12_code 11 = .ok (.lstore 5, 2) := by decide +kernel
theorem d_4_12_13 : decode prog_4_method_12_code 13 = .ok (.aload_n 1, 1) := by decide +kernel
theorem d_4_12_14 : decode prog_4_method_12_code 14 = .ok (.getfield 24, 3) := by decide +kernel
theorem d_4_12_17 : decode prog_4_method_12_code 17 = .ok (.getfield 63, 3) := by decide +kernel
theorem d_4_12_20 : decode prog_4_method_12_code 20 = .ok (.ifCond .ne 21, 3) := by decide +kernel
theorem d_4_12_41 : decode prog_4_method_12_code 41 = .ok (.iload_n 3, 1) := by decide +kernel
theorem d_4_12_52 : decode prog_4_method_12_code 52 = .ok (.istore 7, 2) := by decide +kernel
theorem d_4_12_54 : decode prog_4_method_12_code 54 = .ok (.iload 7, 2) := by decide +kernel
theorem d_4_12_56 : decode prog_4_method_12_code 56 = .ok (.iconst 1, 1) := by decide +kernel
theorem d_4_12_57 : decode prog_4_method_12_code 57 = .ok (.iadd, 1) := by decide +kernel
theorem d_4_12_58 : decode prog_4_method_12_code 58 = .ok (.aload_n 1, 1) := by decide +kernel
theorem d_4_12_59 : decode prog_4_method_12_code 59 = .ok (.getfield 52, 3) := by decide +kernel
theorem d_4_12_62 : decode prog_4_method_12_code 62 = .ok (.isub, 1) := by decide +kernel
theorem d_4_12_63 : decode prog_4_method_12_code 63 = .ok (.aload_n 2, 1) := by decide +kernel
theorem d_4_12_64 : decode prog_4_method_12_code 64 = .ok (.getfield 52, 3) := by decide +kernel
theorem d_4_12_67 : decode prog_4_method_12_code 67 = .ok (.iadd, 1) := by decide +kernel
theorem d_4_12_68 : decode prog_4_method_12_code 68 = .ok (.istore 8, 2) := by decide +kernel
theorem d_4_12_70 : decode prog_4_method_12_code 70 = .ok (.aload_n 0, 1) := by decide +kernel
theorem d_4_12_71 : decode prog_4_method_12_code 71 = .ok (.aload_n 1, 1) := by decide +kernel
theorem d_4_12_72 : decode prog_4_method_12_code 72 = .ok (.aload_n 2, 1) := by decide +kernel
theorem d_4_12_73 : decode prog_4_method_12_code 73 = .ok (.iload 8, 2) := by decide +kernel
theorem d_4_12_75 : decode prog_4_method_12_code 75 = .ok (.invokevirtual 138, 3) := by decide +kernel
theorem d_4_12_78 : decode prog_4_method_12_code 78 = .ok (.aload_n 0, 1) := by decide +kernel
theorem d_4_12_79 : decode prog_4_method_12_code 79 = .ok (.lload 5, 2) := by decide +kernel
theorem d_4_12_81 : decode prog_4_method_12_code 81 = .ok (.iload 8, 2) := by decide +kernel
theorem d_4_12_83 : decode prog_4_method_12_code 83 = .ok (.i2l, 1) := by decide +kernel
theorem d_4_12_84 : decode prog_4_method_12_code 84 = .ok (.ladd, 1) := by decide +kernel
theorem d_4_12_85 : decode prog_4_method_12_code 85 = .ok (.lconst 1, 1) := by decide +kernel
theorem d_4_12_86 : decode prog_4_method_12_code 86 = .ok (.lsub, 1) := by decide +kernel
theorem d_4_12_87 : decode prog_4_method_12_code 87 = .ok (.putfield 56, 3) := by decide +kernel
theorem d_4_12_90 : decode prog_4_method_12_code 90 = .ok (.aload_n 0, 1) := by decide +kernel
theorem d_4_12_91 : decode prog_4_method_12_code 91 = .ok (.getfield 20, 3) := by decide +kernel
theorem d_4_12_94 : decode prog_4_method_12_code 94 = .ok (.aload_n 0, 1) := by decide +kernel
theorem d_4_12_95 : decode prog_4_method_12_code 95 = .ok (.getfield 20, 3) := by decide +kernel
theorem d_4_12_98 : decode prog_4_method_12_code 98 = .ok (.getfield 55, 3) := by decide +kernel
theorem d_4_12_101 : decode prog_4_method_12_code 101 = .ok (.invokevirtual 34, 3) := by decide +kernel
theorem d_4_12_104 : decode prog_4_method_12_code 104 = .ok (.iload 7, 2) := by decide +kernel
theorem d_4_12_106 : decode prog_4_method_12_code 106 = .ok (.iconst 1, 1) := by decide +kernel
theorem d_4_12_107 : decode prog_4_method_12_code 107 = .ok (.iadd, 1) := by decide +kernel
theorem d_4_12_141 : decode prog_4_method_12_code 141 = .ok (.aload_n 1, 1) := by decide +kernel
theorem d_4_12_142 : decode prog_4_method_12_code 142 = .ok (.getfield 24, 3) := by decide +kernel
theorem d_4_12_145 : decode prog_4_method_12_code 145 = .ok (.getfield 112, 3) := by decide +kernel
theorem d_4_12_148 : decode prog_4_method_12_code 148 = .ok (.aload_n 2, 1) := by decide +kernel
theorem d_4_12_149 : decode prog_4_method_12_code 149 = .ok (.getfield 24, 3) := by decide +kernel
theorem d_4_12_152 : decode prog_4_method_12_code 152 = .ok (.getfield 112, 3) := by decide +kernel
theorem d_4_12_163 : decode prog_4_method_12_code 163 = .ok (.istore 9, 2) := by decide +kernel
theorem d_4_12_165 : decode prog_4_method_12_code 165 = .ok (.aload_n 0, 1) := by decide +kernel
theorem d_4_12_166 : decode prog_4_method_12_code 166 = .ok (.iload 9, 2) := by decide +kernel
theorem d_4_12_168 : decode prog_4_method_12_code 168 = .ok (.iload 7, 2) := by decide +kernel
theorem d_4_12_170 : decode prog_4_method_12_code 170 = .ok (.lload 5, 2) := by decide +kernel
theorem d_4_12_172 : decode prog_4_method_12_code 172 = .ok (.iload_n 3, 1) := by decide +kernel
theorem d_4_12_173 : decode prog_4_method_12_code 173 = .ok (.ifCond .ne 8, 3) := by decide +kernel
theorem d_4_12_181 : decode prog_4_method_12_code 181 = .ok (.iload 4, 2) := by decide +kernel
theorem d_4_12_183 : decode prog_4_method_12_code 183 = .ok (.invokevirtual 153, 3) := by decide +kernel
set_option maxRecDepth 100000 in
theorem w_1472 : (Cond.code ({ cls := "NumberHouse$DecimalWork", name := "shorten", desc := "(ZIJI)Z" } : MethodName) prog_4_method_16_code (7 : Nat) (some .boolean)) ∈ q_tbl := q_of7 32 rfl (by decide +kernel)
set_option maxRecDepth 100000 in
theorem w_1469 : (Cond.methodLink "NumberHouse$DecimalWork" (153 : Nat) ({ cls := "NumberHouse$DecimalWork", name := "shorten", desc := "(ZIJI)Z" } : MethodName)) ∈ q_tbl := q_of7 29 rfl (by decide +kernel)
set_option maxRecDepth 100000 in
theorem w_1471 : (Cond.instanceMethod ({ cls := "NumberHouse$DecimalWork", name := "shorten", desc := "(ZIJI)Z" } : MethodName)) ∈ q_tbl := q_of7 31 rfl (by decide +kernel)
theorem ws_32 : Cond.selects "NumberHouse$DecimalWork" (⟨"NumberHouse$DecimalWork", "shorten", "(ZIJI)Z"⟩ : MethodName) (⟨"NumberHouse$DecimalWork", "shorten", "(ZIJI)Z"⟩ : MethodName) ∈ q_tbl := q_ofs 32 (by decide +kernel) (by decide +kernel)
theorem LV_DW_153 : q_LV "NumberHouse$DecimalWork" 153 y_DW_shorten prog_4_method_16_code 7 (some .boolean) 4 := ⟨w_1472, w_5, w_1469, w_1471, ws_32, ⟨by decide, by decide, by decide +kernel⟩⟩
theorem d_4_12_186 : decode prog_4_method_12_code 186 = .ok (.ireturn, 1) := by decide +kernel
theorem d_4_12_176 : decode prog_4_method_12_code 176 = .ok (.bipush 7, 2) := by decide +kernel
theorem d_4_12_178 : decode prog_4_method_12_code 178 = .ok (.goto 5, 3) := by decide +kernel
theorem d_4_12_155 : decode prog_4_method_12_code 155 = .ok (.if_icmp .eq 7, 3) := by decide +kernel
theorem d_4_12_162 : decode prog_4_method_12_code 162 = .ok (.iconst 0, 1) := by decide +kernel
theorem d_4_12_158 : decode prog_4_method_12_code 158 = .ok (.iconst 1, 1) := by decide +kernel
theorem d_4_12_159 : decode prog_4_method_12_code 159 = .ok (.goto 4, 3) := by decide +kernel
theorem d_4_12_108 : decode prog_4_method_12_code 108 = .ok (.if_icmp .le 33, 3) := by decide +kernel
theorem d_4_12_111 : decode prog_4_method_12_code 111 = .ok (.aload_n 0, 1) := by decide +kernel
theorem d_4_12_112 : decode prog_4_method_12_code 112 = .ok (.dup, 1) := by decide +kernel
theorem d_4_12_113 : decode prog_4_method_12_code 113 = .ok (.getfield 146, 3) := by decide +kernel
theorem d_4_12_116 : decode prog_4_method_12_code 116 = .ok (.aload_n 0, 1) := by decide +kernel
theorem d_4_12_117 : decode prog_4_method_12_code 117 = .ok (.getfield 20, 3) := by decide +kernel
theorem d_4_12_120 : decode prog_4_method_12_code 120 = .ok (.getfield 55, 3) := by decide +kernel
theorem d_4_12_123 : decode prog_4_method_12_code 123 = .ok (.iconst 1, 1) := by decide +kernel
theorem d_4_12_124 : decode prog_4_method_12_code 124 = .ok (.invokevirtual 149, 3) := by decide +kernel
theorem d_4_12_127 : decode prog_4_method_12_code 127 = .ok (.ior, 1) := by decide +kernel
theorem d_4_12_128 : decode prog_4_method_12_code 128 = .ok (.putfield 146, 3) := by decide +kernel
theorem d_4_12_131 : decode prog_4_method_12_code 131 = .ok (.aload_n 0, 1) := by decide +kernel
theorem d_4_12_132 : decode prog_4_method_12_code 132 = .ok (.dup, 1) := by decide +kernel
theorem d_4_12_133 : decode prog_4_method_12_code 133 = .ok (.getfield 56, 3) := by decide +kernel
theorem d_4_12_136 : decode prog_4_method_12_code 136 = .ok (.lconst 1, 1) := by decide +kernel
theorem d_4_12_137 : decode prog_4_method_12_code 137 = .ok (.lsub, 1) := by decide +kernel
theorem d_4_12_138 : decode prog_4_method_12_code 138 = .ok (.putfield 56, 3) := by decide +kernel
theorem d_4_12_42 : decode prog_4_method_12_code 42 = .ok (.ifCond .ne 9, 3) := by decide +kernel
theorem d_4_12_51 : decode prog_4_method_12_code 51 = .ok (.iload_n 3, 1) := by decide +kernel
theorem d_4_12_45 : decode prog_4_method_12_code 45 = .ok (.sipush 1000, 3) := by decide +kernel
theorem d_4_12_48 : decode prog_4_method_12_code 48 = .ok (.goto 4, 3) := by decide +kernel
theorem d_4_12_23 : decode prog_4_method_12_code 23 = .ok (.aload_n 0, 1) := by decide +kernel
theorem d_4_12_24 : decode prog_4_method_12_code 24 = .ok (.getfield 20, 3) := by decide +kernel
theorem d_4_12_27 : decode prog_4_method_12_code 27 = .ok (.getfield 55, 3) := by decide +kernel
theorem d_4_12_30 : decode prog_4_method_12_code 30 = .ok (.invokevirtual 135, 3) := by decide +kernel
theorem d_4_12_33 : decode prog_4_method_12_code 33 = .ok (.aload_n 0, 1) := by decide +kernel
theorem d_4_12_34 : decode prog_4_method_12_code 34 = .ok (.lload 5, 2) := by decide +kernel
theorem d_4_12_36 : decode prog_4_method_12_code 36 = .ok (.putfield 56, 3) := by decide +kernel
theorem d_4_12_39 : decode prog_4_method_12_code 39 = .ok (.iconst 1, 1) := by decide +kernel
theorem d_4_12_40 : decode prog_4_method_12_code 40 = .ok (.ireturn, 1) := by decide +kernel
def y_DW_divideToPrecision : MethodName := ⟨"NumberHouse$DecimalWork", "divideToPrecision", "(LNumberHouse$Dec;LNumberHouse$Dec;II)Z"⟩
def F_DW_divideToPrecision_c183 (R : Int32) (R2 : Int32) (x4 : Int32) (x5 : Int32) (t0_0 : Int64) (t0_1 : Int32) (t1_0 : Int32) (t1_1 : Int32) (t2_0 : (Nat → Int32)) (t3_0 : Int32) (t3_1 : Int32) (t4_0 : (Nat → Int32)) (t5_0 : Int32) (t5_1 : Int32) (t6_0 : (Nat → Int32)) (t7_0 : Int32) (t7_1 : Int32) (t8_0 : (Nat → Int32)) (t9_0 : Int32) (t9_1 : Int32) (t10_0 : Int32) (t10_1 : Int32) (t11_0 : (Nat → Int32)) (t12_0 : Int32) (t12_1 : Int32) (t13_0 : Int32) (t13_1 : Int32) (t14_0 : (Nat → Int32)) (j69 : Int64) (lx74 : Int32) (a102 : Int32) (p153 : (Int64 × Int32 × Int32 × Int32 × (Nat → Int32) × Int32 × Int32 × (Nat → Int32) × Int32 × Int32 × (Nat → Int32) × Int32 × Int32 × (Nat → Int32))) (j180 : Int64) (y109 : Int32) (y111 : Int32) (y112 : Int32) (f113 : (Nat → Int32)) (y116 : Int32) (y117 : Int32) (f118 : (Nat → Int32)) (y121 : Int32) (y122 : Int32) (f123 : (Nat → Int32)) (y126 : Int32) (y127 : Int32) (f128 : (Nat → Int32)) (p200 : (Int32 × Int32 × Int32 × (Nat → Int32))) (y190 : Int32) (y191 : Int32) (f192 : (Nat → Int32)) (lx213 : Int64) (lx214 : Int32) (lx215 : Int32) (lx216 : Int32) (lx217 : (Nat → Int32)) (lx246 : Int32) (p312 : (Int32 × Int64 × Int32 × Int32 × Int32 × (Nat → Int32) × Int32 × Int32 × (Nat → Int32) × Int32 × Int32 × (Nat → Int32))) : Int32 × Int64 × Int32 × Int32 × Int32 × (Nat → Int32) × Int32 × Int32 × (Nat → Int32) × Int32 × Int32 × (Nat → Int32) × Int32 × Int32 × (Nat → Int32) × Int32 × Int32 × (Nat → Int32) := ((p312.1 : Int32), (p312.2.1 : Int64), (p312.2.2.1 : Int32), (p312.2.2.2.1 : Int32), (p312.2.2.2.2.1 : Int32), (p312.2.2.2.2.2.1 : (Nat → Int32)), y116, y117, f118, (p312.2.2.2.2.2.2.1 : Int32), (p312.2.2.2.2.2.2.2.1 : Int32), (p312.2.2.2.2.2.2.2.2.1 : (Nat → Int32)), (p312.2.2.2.2.2.2.2.2.2.1 : Int32), (p312.2.2.2.2.2.2.2.2.2.2.1 : Int32), (p312.2.2.2.2.2.2.2.2.2.2.2 : (Nat → Int32)), y126, y127, f128)
def F_DW_divideToPrecision_c183_7 (R : Int32) (R2 : Int32) (x4 : Int32) (x5 : Int32) (t0_0 : Int64) (t0_1 : Int32) (t1_0 : Int32) (t1_1 : Int32) (t2_0 : (Nat → Int32)) (t3_0 : Int32) (t3_1 : Int32) (t4_0 : (Nat → Int32)) (t5_0 : Int32) (t5_1 : Int32) (t6_0 : (Nat → Int32)) (t7_0 : Int32) (t7_1 : Int32) (t8_0 : (Nat → Int32)) (t9_0 : Int32) (t9_1 : Int32) (t10_0 : Int32) (t10_1 : Int32) (t11_0 : (Nat → Int32)) (t12_0 : Int32) (t12_1 : Int32) (t13_0 : Int32) (t13_1 : Int32) (t14_0 : (Nat → Int32)) (j69 : Int64) (lx74 : Int32) (a102 : Int32) (p153 : (Int64 × Int32 × Int32 × Int32 × (Nat → Int32) × Int32 × Int32 × (Nat → Int32) × Int32 × Int32 × (Nat → Int32) × Int32 × Int32 × (Nat → Int32))) (j180 : Int64) (y109 : Int32) (y111 : Int32) (y112 : Int32) (f113 : (Nat → Int32)) (y116 : Int32) (y117 : Int32) (f118 : (Nat → Int32)) (y121 : Int32) (y122 : Int32) (f123 : (Nat → Int32)) (y126 : Int32) (y127 : Int32) (f128 : (Nat → Int32)) (p200 : (Int32 × Int32 × Int32 × (Nat → Int32))) (y190 : Int32) (y191 : Int32) (f192 : (Nat → Int32)) (lx213 : Int64) (lx214 : Int32) (lx215 : Int32) (lx216 : Int32) (lx217 : (Nat → Int32)) (lx246 : Int32) (p372 : (Int32 × Int64 × Int32 × Int32 × Int32 × (Nat → Int32) × Int32 × Int32 × (Nat → Int32) × Int32 × Int32 × (Nat → Int32))) : Int32 × Int64 × Int32 × Int32 × Int32 × (Nat → Int32) × Int32 × Int32 × (Nat → Int32) × Int32 × Int32 × (Nat → Int32) × Int32 × Int32 × (Nat → Int32) × Int32 × Int32 × (Nat → Int32) := ((p372.1 : Int32), (p372.2.1 : Int64), (p372.2.2.1 : Int32), (p372.2.2.2.1 : Int32), (p372.2.2.2.2.1 : Int32), (p372.2.2.2.2.2.1 : (Nat → Int32)), y116, y117, f118, (p372.2.2.2.2.2.2.1 : Int32), (p372.2.2.2.2.2.2.2.1 : Int32), (p372.2.2.2.2.2.2.2.2.1 : (Nat → Int32)), (p372.2.2.2.2.2.2.2.2.2.1 : Int32), (p372.2.2.2.2.2.2.2.2.2.2.1 : Int32), (p372.2.2.2.2.2.2.2.2.2.2.2 : (Nat → Int32)), y126, y127, f128)
def F_DW_divideToPrecision_J163 (R : Int32) (R2 : Int32) (x4 : Int32) (x5 : Int32) (t0_0 : Int64) (t0_1 : Int32) (t1_0 : Int32) (t1_1 : Int32) (t2_0 : (Nat → Int32)) (t3_0 : Int32) (t3_1 : Int32) (t4_0 : (Nat → Int32)) (t5_0 : Int32) (t5_1 : Int32) (t6_0 : (Nat → Int32)) (t7_0 : Int32) (t7_1 : Int32) (t8_0 : (Nat → Int32)) (t9_0 : Int32) (t9_1 : Int32) (t10_0 : Int32) (t10_1 : Int32) (t11_0 : (Nat → Int32)) (t12_0 : Int32) (t12_1 : Int32) (t13_0 : Int32) (t13_1 : Int32) (t14_0 : (Nat → Int32)) (j69 : Int64) (lx74 : Int32) (a102 : Int32) (p153 : (Int64 × Int32 × Int32 × Int32 × (Nat → Int32) × Int32 × Int32 × (Nat → Int32) × Int32 × Int32 × (Nat → Int32) × Int32 × Int32 × (Nat → Int32))) (j180 : Int64) (y109 : Int32) (y111 : Int32) (y112 : Int32) (f113 : (Nat → Int32)) (y116 : Int32) (y117 : Int32) (f118 : (Nat → Int32)) (y121 : Int32) (y122 : Int32) (f123 : (Nat → Int32)) (y126 : Int32) (y127 : Int32) (f128 : (Nat → Int32)) (p200 : (Int32 × Int32 × Int32 × (Nat → Int32))) (y190 : Int32) (y191 : Int32) (f192 : (Nat → Int32)) (lx213 : Int64) (lx214 : Int32) (lx215 : Int32) (lx216 : Int32) (lx217 : (Nat → Int32)) (lx246 : Int32) : Int32 × Int64 × Int32 × Int32 × Int32 × (Nat → Int32) × Int32 × Int32 × (Nat → Int32) × Int32 × Int32 × (Nat → Int32) × Int32 × Int32 × (Nat → Int32) × Int32 × Int32 × (Nat → Int32) := if x4 = (0 : Int32) then (F_DW_divideToPrecision_c183_7 R R2 x4 x5 t0_0 t0_1 t1_0 t1_1 t2_0 t3_0 t3_1 t4_0 t5_0 t5_1 t6_0 t7_0 t7_1 t8_0 t9_0 t9_1 t10_0 t10_1 t11_0 t12_0 t12_1 t13_0 t13_1 t14_0 j69 lx74 a102 p153 j180 y109 y111 y112 f113 y116 y117 f118 y121 y122 f123 y126 y127 f128 p200 y190 y191 f192 lx213 lx214 lx215 lx216 lx217 lx246 ((F_DW_shorten lx246 lx74 j69 (7 : Int32) lx213 lx214 lx215 lx216 lx217 y121 y122 f123 y190 y191 f192) : (Int32 × Int64 × Int32 × Int32 × Int32 × (Nat → Int32) × Int32 × Int32 × (Nat → Int32) × Int32 × Int32 × (Nat → Int32)))) else (F_DW_divideToPrecision_c183 R R2 x4 x5 t0_0 t0_1 t1_0 t1_1 t2_0 t3_0 t3_1 t4_0 t5_0 t5_1 t6_0 t7_0 t7_1 t8_0 t9_0 t9_1 t10_0 t10_1 t11_0 t12_0 t12_1 t13_0 t13_1 t14_0 j69 lx74 a102 p153 j180 y109 y111 y112 f113 y116 y117 f118 y121 y122 f123 y126 y127 f128 p200 y190 y191 f192 lx213 lx214 lx215 lx216 lx217 lx246 ((F_DW_shorten lx246 lx74 j69 x5 lx213 lx214 lx215 lx216 lx217 y121 y122 f123 y190 y191 f192) : (Int32 × Int64 × Int32 × Int32 × Int32 × (Nat → Int32) × Int32 × Int32 × (Nat → Int32) × Int32 × Int32 × (Nat → Int32))))
def F_DW_divideToPrecision_J141 (R : Int32) (R2 : Int32) (x4 : Int32) (x5 : Int32) (t0_0 : Int64) (t0_1 : Int32) (t1_0 : Int32) (t1_1 : Int32) (t2_0 : (Nat → Int32)) (t3_0 : Int32) (t3_1 : Int32) (t4_0 : (Nat → Int32)) (t5_0 : Int32) (t5_1 : Int32) (t6_0 : (Nat → Int32)) (t7_0 : Int32) (t7_1 : Int32) (t8_0 : (Nat → Int32)) (t9_0 : Int32) (t9_1 : Int32) (t10_0 : Int32) (t10_1 : Int32) (t11_0 : (Nat → Int32)) (t12_0 : Int32) (t12_1 : Int32) (t13_0 : Int32) (t13_1 : Int32) (t14_0 : (Nat → Int32)) (j69 : Int64) (lx74 : Int32) (a102 : Int32) (p153 : (Int64 × Int32 × Int32 × Int32 × (Nat → Int32) × Int32 × Int32 × (Nat → Int32) × Int32 × Int32 × (Nat → Int32) × Int32 × Int32 × (Nat → Int32))) (j180 : Int64) (y109 : Int32) (y111 : Int32) (y112 : Int32) (f113 : (Nat → Int32)) (y116 : Int32) (y117 : Int32) (f118 : (Nat → Int32)) (y121 : Int32) (y122 : Int32) (f123 : (Nat → Int32)) (y126 : Int32) (y127 : Int32) (f128 : (Nat → Int32)) (p200 : (Int32 × Int32 × Int32 × (Nat → Int32))) (y190 : Int32) (y191 : Int32) (f192 : (Nat → Int32)) (lx213 : Int64) (lx214 : Int32) (lx215 : Int32) (lx216 : Int32) (lx217 : (Nat → Int32)) : Int32 × Int64 × Int32 × Int32 × Int32 × (Nat → Int32) × Int32 × Int32 × (Nat → Int32) × Int32 × Int32 × (Nat → Int32) × Int32 × Int32 × (Nat → Int32) × Int32 × Int32 × (Nat → Int32) := if t10_1 = y127 then (F_DW_divideToPrecision_J163 R R2 x4 x5 t0_0 t0_1 t1_0 t1_1 t2_0 t3_0 t3_1 t4_0 t5_0 t5_1 t6_0 t7_0 t7_1 t8_0 t9_0 t9_1 t10_0 t10_1 t11_0 t12_0 t12_1 t13_0 t13_1 t14_0 j69 lx74 a102 p153 j180 y109 y111 y112 f113 y116 y117 f118 y121 y122 f123 y126 y127 f128 p200 y190 y191 f192 lx213 lx214 lx215 lx216 lx217 0) else (F_DW_divideToPrecision_J163 R R2 x4 x5 t0_0 t0_1 t1_0 t1_1 t2_0 t3_0 t3_1 t4_0 t5_0 t5_1 t6_0 t7_0 t7_1 t8_0 t9_0 t9_1 t10_0 t10_1 t11_0 t12_0 t12_1 t13_0 t13_1 t14_0 j69 lx74 a102 p153 j180 y109 y111 y112 f113 y116 y117 f118 y121 y122 f123 y126 y127 f128 p200 y190 y191 f192 lx213 lx214 lx215 lx216 lx217 1)
def F_DW_divideToPrecision_c124 (R : Int32) (R2 : Int32) (x4 : Int32) (x5 : Int32) (t0_0 : Int64) (t0_1 : Int32) (t1_0 : Int32) (t1_1 : Int32) (t2_0 : (Nat → Int32)) (t3_0 : Int32) (t3_1 : Int32) (t4_0 : (Nat → Int32)) (t5_0 : Int32) (t5_1 : Int32) (t6_0 : (Nat → Int32)) (t7_0 : Int32) (t7_1 : Int32) (t8_0 : (Nat → Int32)) (t9_0 : Int32) (t9_1 : Int32) (t10_0 : Int32) (t10_1 : Int32) (t11_0 : (Nat → Int32)) (t12_0 : Int32) (t12_1 : Int32) (t13_0 : Int32) (t13_1 : Int32) (t14_0 : (Nat → Int32)) (j69 : Int64) (lx74 : Int32) (a102 : Int32) (p153 : (Int64 × Int32 × Int32 × Int32 × (Nat → Int32) × Int32 × Int32 × (Nat → Int32) × Int32 × Int32 × (Nat → Int32) × Int32 × Int32 × (Nat → Int32))) (j180 : Int64) (y109 : Int32) (y111 : Int32) (y112 : Int32) (f113 : (Nat → Int32)) (y116 : Int32) (y117 : Int32) (f118 : (Nat → Int32)) (y121 : Int32) (y122 : Int32) (f123 : (Nat → Int32)) (y126 : Int32) (y127 : Int32) (f128 : (Nat → Int32)) (p200 : (Int32 × Int32 × Int32 × (Nat → Int32))) (y190 : Int32) (y191 : Int32) (f192 : (Nat → Int32)) (p414 : (Int32 × Int32 × Int32 × (Nat → Int32))) : Int32 × Int64 × Int32 × Int32 × Int32 × (Nat → Int32) × Int32 × Int32 × (Nat → Int32) × Int32 × Int32 × (Nat → Int32) × Int32 × Int32 × (Nat → Int32) × Int32 × Int32 × (Nat → Int32) := F_DW_divideToPrecision_J141 R R2 x4 x5 t0_0 t0_1 t1_0 t1_1 t2_0 t3_0 t3_1 t4_0 t5_0 t5_1 t6_0 t7_0 t7_1 t8_0 t9_0 t9_1 t10_0 t10_1 t11_0 t12_0 t12_1 t13_0 t13_1 t14_0 j69 lx74 a102 p153 j180 y109 y111 y112 f113 y116 y117 f118 y121 y122 f123 y126 y127 f128 p200 y190 y191 f192 (j180 - 1 : Int64) (y109 ||| (p414.1 : Int32) : Int32) (p414.2.1 : Int32) (p414.2.2.1 : Int32) (p414.2.2.2 : (Nat → Int32))
def F_DW_divideToPrecision_c101 (R : Int32) (R2 : Int32) (x4 : Int32) (x5 : Int32) (t0_0 : Int64) (t0_1 : Int32) (t1_0 : Int32) (t1_1 : Int32) (t2_0 : (Nat → Int32)) (t3_0 : Int32) (t3_1 : Int32) (t4_0 : (Nat → Int32)) (t5_0 : Int32) (t5_1 : Int32) (t6_0 : (Nat → Int32)) (t7_0 : Int32) (t7_1 : Int32) (t8_0 : (Nat → Int32)) (t9_0 : Int32) (t9_1 : Int32) (t10_0 : Int32) (t10_1 : Int32) (t11_0 : (Nat → Int32)) (t12_0 : Int32) (t12_1 : Int32) (t13_0 : Int32) (t13_1 : Int32) (t14_0 : (Nat → Int32)) (j69 : Int64) (lx74 : Int32) (a102 : Int32) (p153 : (Int64 × Int32 × Int32 × Int32 × (Nat → Int32) × Int32 × Int32 × (Nat → Int32) × Int32 × Int32 × (Nat → Int32) × Int32 × Int32 × (Nat → Int32))) (j180 : Int64) (y109 : Int32) (y111 : Int32) (y112 : Int32) (f113 : (Nat → Int32)) (y116 : Int32) (y117 : Int32) (f118 : (Nat → Int32)) (y121 : Int32) (y122 : Int32) (f123 : (Nat → Int32)) (y126 : Int32) (y127 : Int32) (f128 : (Nat → Int32)) (p200 : (Int32 × Int32 × Int32 × (Nat → Int32))) : Int32 × Int64 × Int32 × Int32 × Int32 × (Nat → Int32) × Int32 × Int32 × (Nat → Int32) × Int32 × Int32 × (Nat → Int32) × Int32 × Int32 × (Nat → Int32) × Int32 × Int32 × (Nat → Int32) := if (p200.1 : Int32) ≤ (lx74 + 1 : Int32) then (F_DW_divideToPrecision_J141 R R2 x4 x5 t0_0 t0_1 t1_0 t1_1 t2_0 t3_0 t3_1 t4_0 t5_0 t5_1 t6_0 t7_0 t7_1 t8_0 t9_0 t9_1 t10_0 t10_1 t11_0 t12_0 t12_1 t13_0 t13_1 t14_0 j69 lx74 a102 p153 j180 y109 y111 y112 f113 y116 y117 f118 y121 y122 f123 y126 y127 f128 p200 (p200.2.1 : Int32) (p200.2.2.1 : Int32) (p200.2.2.2 : (Nat → Int32)) j180 y109 y111 y112 f113) else (F_DW_divideToPrecision_c124 R R2 x4 x5 t0_0 t0_1 t1_0 t1_1 t2_0 t3_0 t3_1 t4_0 t5_0 t5_1 t6_0 t7_0 t7_1 t8_0 t9_0 t9_1 t10_0 t10_1 t11_0 t12_0 t12_1 t13_0 t13_1 t14_0 j69 lx74 a102 p153 j180 y109 y111 y112 f113 y116 y117 f118 y121 y122 f123 y126 y127 f128 p200 (p200.2.1 : Int32) (p200.2.2.1 : Int32) (p200.2.2.2 : (Nat → Int32)) ((F_Big_dropFigures (220 : Int32) (1 : Int32) y111 y112 f113) : (Int32 × Int32 × Int32 × (Nat → Int32))))
def F_DW_divideToPrecision_c75 (R : Int32) (R2 : Int32) (x4 : Int32) (x5 : Int32) (t0_0 : Int64) (t0_1 : Int32) (t1_0 : Int32) (t1_1 : Int32) (t2_0 : (Nat → Int32)) (t3_0 : Int32) (t3_1 : Int32) (t4_0 : (Nat → Int32)) (t5_0 : Int32) (t5_1 : Int32) (t6_0 : (Nat → Int32)) (t7_0 : Int32) (t7_1 : Int32) (t8_0 : (Nat → Int32)) (t9_0 : Int32) (t9_1 : Int32) (t10_0 : Int32) (t10_1 : Int32) (t11_0 : (Nat → Int32)) (t12_0 : Int32) (t12_1 : Int32) (t13_0 : Int32) (t13_1 : Int32) (t14_0 : (Nat → Int32)) (j69 : Int64) (lx74 : Int32) (a102 : Int32) (p153 : (Int64 × Int32 × Int32 × Int32 × (Nat → Int32) × Int32 × Int32 × (Nat → Int32) × Int32 × Int32 × (Nat → Int32) × Int32 × Int32 × (Nat → Int32))) : Int32 × Int64 × Int32 × Int32 × Int32 × (Nat → Int32) × Int32 × Int32 × (Nat → Int32) × Int32 × Int32 × (Nat → Int32) × Int32 × Int32 × (Nat → Int32) × Int32 × Int32 × (Nat → Int32) := F_DW_divideToPrecision_c101 R R2 x4 x5 t0_0 t0_1 t1_0 t1_1 t2_0 t3_0 t3_1 t4_0 t5_0 t5_1 t6_0 t7_0 t7_1 t8_0 t9_0 t9_1 t10_0 t10_1 t11_0 t12_0 t12_1 t13_0 t13_1 t14_0 j69 lx74 a102 p153 ((j69 + (a102.toInt64 : Int64) : Int64) - 1 : Int64) (p153.2.1 : Int32) (p153.2.2.1 : Int32) (p153.2.2.2.1 : Int32) (p153.2.2.2.2.1 : (Nat → Int32)) (p153.2.2.2.2.2.1 : Int32) (p153.2.2.2.2.2.2.1 : Int32) (p153.2.2.2.2.2.2.2.1 : (Nat → Int32)) (p153.2.2.2.2.2.2.2.2.1 : Int32) (p153.2.2.2.2.2.2.2.2.2.1 : Int32) (p153.2.2.2.2.2.2.2.2.2.2.1 : (Nat → Int32)) (p153.2.2.2.2.2.2.2.2.2.2.2.1 : Int32) (p153.2.2.2.2.2.2.2.2.2.2.2.2.1 : Int32) (p153.2.2.2.2.2.2.2.2.2.2.2.2.2 : (Nat → Int32)) ((F_Mil_countFigures (220 : Int32) t7_0 t7_1 t8_0 (p153.2.2.1 : Int32) (p153.2.2.2.1 : Int32) (p153.2.2.2.2.1 : (Nat → Int32))) : (Int32 × Int32 × Int32 × (Nat → Int32)))
def F_DW_divideToPrecision_J52 (R : Int32) (R2 : Int32) (x4 : Int32) (x5 : Int32) (t0_0 : Int64) (t0_1 : Int32) (t1_0 : Int32) (t1_1 : Int32) (t2_0 : (Nat → Int32)) (t3_0 : Int32) (t3_1 : Int32) (t4_0 : (Nat → Int32)) (t5_0 : Int32) (t5_1 : Int32) (t6_0 : (Nat → Int32)) (t7_0 : Int32) (t7_1 : Int32) (t8_0 : (Nat → Int32)) (t9_0 : Int32) (t9_1 : Int32) (t10_0 : Int32) (t10_1 : Int32) (t11_0 : (Nat → Int32)) (t12_0 : Int32) (t12_1 : Int32) (t13_0 : Int32) (t13_1 : Int32) (t14_0 : (Nat → Int32)) (j69 : Int64) (lx74 : Int32) : Int32 × Int64 × Int32 × Int32 × Int32 × (Nat → Int32) × Int32 × Int32 × (Nat → Int32) × Int32 × Int32 × (Nat → Int32) × Int32 × Int32 × (Nat → Int32) × Int32 × Int32 × (Nat → Int32) := F_DW_divideToPrecision_c75 R R2 x4 x5 t0_0 t0_1 t1_0 t1_1 t2_0 t3_0 t3_1 t4_0 t5_0 t5_1 t6_0 t7_0 t7_1 t8_0 t9_0 t9_1 t10_0 t10_1 t11_0 t12_0 t12_1 t13_0 t13_1 t14_0 j69 lx74 (((lx74 + 1 : Int32) - t9_1 : Int32) + t12_1 : Int32) ((F_DW_divideRaised R R2 (((lx74 + 1 : Int32) - t9_1 : Int32) + t12_1 : Int32) t0_0 t0_1 t1_0 t1_1 t2_0 t3_0 t3_1 t4_0 t5_0 t5_1 t6_0 t9_0 t9_1 t10_0 t10_1 t11_0 t12_0 t12_1 t13_0 t13_1 t14_0) : (Int64 × Int32 × Int32 × Int32 × (Nat → Int32) × Int32 × Int32 × (Nat → Int32) × Int32 × Int32 × (Nat → Int32) × Int32 × Int32 × (Nat → Int32)))
def F_DW_divideToPrecision_c30 (R : Int32) (R2 : Int32) (x4 : Int32) (x5 : Int32) (t0_0 : Int64) (t0_1 : Int32) (t1_0 : Int32) (t1_1 : Int32) (t2_0 : (Nat → Int32)) (t3_0 : Int32) (t3_1 : Int32) (t4_0 : (Nat → Int32)) (t5_0 : Int32) (t5_1 : Int32) (t6_0 : (Nat → Int32)) (t7_0 : Int32) (t7_1 : Int32) (t8_0 : (Nat → Int32)) (t9_0 : Int32) (t9_1 : Int32) (t10_0 : Int32) (t10_1 : Int32) (t11_0 : (Nat → Int32)) (t12_0 : Int32) (t12_1 : Int32) (t13_0 : Int32) (t13_1 : Int32) (t14_0 : (Nat → Int32)) (j69 : Int64) (p450 : (Int32 × Int32)) : Int32 × Int64 × Int32 × Int32 × Int32 × (Nat → Int32) × Int32 × Int32 × (Nat → Int32) × Int32 × Int32 × (Nat → Int32) × Int32 × Int32 × (Nat → Int32) × Int32 × Int32 × (Nat → Int32) := ((1 : Int32), j69, t0_1, (p450.1 : Int32), (p450.2 : Int32), t2_0, t3_0, t3_1, t4_0, t5_0, t5_1, t6_0, t7_0, t7_1, t8_0, t13_0, t13_1, t14_0)
def F_DW_divideToPrecision (R : Int32) (R2 : Int32) (x4 : Int32) (x5 : Int32) (t0_0 : Int64) (t0_1 : Int32) (t1_0 : Int32) (t1_1 : Int32) (t2_0 : (Nat → Int32)) (t3_0 : Int32) (t3_1 : Int32) (t4_0 : (Nat → Int32)) (t5_0 : Int32) (t5_1 : Int32) (t6_0 : (Nat → Int32)) (t7_0 : Int32) (t7_1 : Int32) (t8_0 : (Nat → Int32)) (t9_0 : Int32) (t9_1 : Int32) (t10_0 : Int32) (t10_1 : Int32) (t11_0 : (Nat → Int32)) (t12_0 : Int32) (t12_1 : Int32) (t13_0 : Int32) (t13_1 : Int32) (t14_0 : (Nat → Int32)) : Int32 × Int64 × Int32 × Int32 × Int32 × (Nat → Int32) × Int32 × Int32 × (Nat → Int32) × Int32 × Int32 × (Nat → Int32) × Int32 × Int32 × (Nat → Int32) × Int32 × Int32 × (Nat → Int32) := if t10_0 = (0 : Int32) then (F_DW_divideToPrecision_c30 R R2 x4 x5 t0_0 t0_1 t1_0 t1_1 t2_0 t3_0 t3_1 t4_0 t5_0 t5_1 t6_0 t7_0 t7_1 t8_0 t9_0 t9_1 t10_0 t10_1 t11_0 t12_0 t12_1 t13_0 t13_1 t14_0 ((t9_0.toInt64 : Int64) - (t12_0.toInt64 : Int64) : Int64) ((F_Big_clear (220 : Int32) t1_0 t1_1) : (Int32 × Int32))) else (if x4 = (0 : Int32) then (F_DW_divideToPrecision_J52 R R2 x4 x5 t0_0 t0_1 t1_0 t1_1 t2_0 t3_0 t3_1 t4_0 t5_0 t5_1 t6_0 t7_0 t7_1 t8_0 t9_0 t9_1 t10_0 t10_1 t11_0 t12_0 t12_1 t13_0 t13_1 t14_0 ((t9_0.toInt64 : Int64) - (t12_0.toInt64 : Int64) : Int64) 1000) else (F_DW_divideToPrecision_J52 R R2 x4 x5 t0_0 t0_1 t1_0 t1_1 t2_0 t3_0 t3_1 t4_0 t5_0 t5_1 t6_0 t7_0 t7_1 t8_0 t9_0 t9_1 t10_0 t10_1 t11_0 t12_0 t12_1 t13_0 t13_1 t14_0 ((t9_0.toInt64 : Int64) - (t12_0.toInt64 : Int64) : Int64) x4))
def S_DW_divideToPrecision_c183 (R : Int32) (R2 : Int32) (x4 : Int32) (x5 : Int32) (t0_0 : Int64) (t0_1 : Int32) (t1_0 : Int32) (t1_1 : Int32) (t2_0 : (Nat → Int32)) (t3_0 : Int32) (t3_1 : Int32) (t4_0 : (Nat → Int32)) (t5_0 : Int32) (t5_1 : Int32) (t6_0 : (Nat → Int32)) (t7_0 : Int32) (t7_1 : Int32) (t8_0 : (Nat → Int32)) (t9_0 : Int32) (t9_1 : Int32) (t10_0 : Int32) (t10_1 : Int32) (t11_0 : (Nat → Int32)) (t12_0 : Int32) (t12_1 : Int32) (t13_0 : Int32) (t13_1 : Int32) (t14_0 : (Nat → Int32)) (j69 : Int64) (lx74 : Int32) (a102 : Int32) (p153 : (Int64 × Int32 × Int32 × Int32 × (Nat → Int32) × Int32 × Int32 × (Nat → Int32) × Int32 × Int32 × (Nat → Int32) × Int32 × Int32 × (Nat → Int32))) (j180 : Int64) (y109 : Int32) (y111 : Int32) (y112 : Int32) (f113 : (Nat → Int32)) (y116 : Int32) (y117 : Int32) (f118 : (Nat → Int32)) (y121 : Int32) (y122 : Int32) (f123 : (Nat → Int32)) (y126 : Int32) (y127 : Int32) (f128 : (Nat → Int32)) (p200 : (Int32 × Int32 × Int32 × (Nat → Int32))) (y190 : Int32) (y191 : Int32) (f192 : (Nat → Int32)) (lx213 : Int64) (lx214 : Int32) (lx215 : Int32) (lx216 : Int32) (lx217 : (Nat → Int32)) (lx246 : Int32) (p312 : (Int32 × Int64 × Int32 × Int32 × Int32 × (Nat → Int32) × Int32 × Int32 × (Nat → Int32) × Int32 × Int32 × (Nat → Int32))) : Prop := True
def S_DW_divideToPrecision_c183_7 (R : Int32) (R2 : Int32) (x4 : Int32) (x5 : Int32) (t0_0 : Int64) (t0_1 : Int32) (t1_0 : Int32) (t1_1 : Int32) (t2_0 : (Nat → Int32)) (t3_0 : Int32) (t3_1 : Int32) (t4_0 : (Nat → Int32)) (t5_0 : Int32) (t5_1 : Int32) (t6_0 : (Nat → Int32)) (t7_0 : Int32) (t7_1 : Int32) (t8_0 : (Nat → Int32)) (t9_0 : Int32) (t9_1 : Int32) (t10_0 : Int32) (t10_1 : Int32) (t11_0 : (Nat → Int32)) (t12_0 : Int32) (t12_1 : Int32) (t13_0 : Int32) (t13_1 : Int32) (t14_0 : (Nat → Int32)) (j69 : Int64) (lx74 : Int32) (a102 : Int32) (p153 : (Int64 × Int32 × Int32 × Int32 × (Nat → Int32) × Int32 × Int32 × (Nat → Int32) × Int32 × Int32 × (Nat → Int32) × Int32 × Int32 × (Nat → Int32))) (j180 : Int64) (y109 : Int32) (y111 : Int32) (y112 : Int32) (f113 : (Nat → Int32)) (y116 : Int32) (y117 : Int32) (f118 : (Nat → Int32)) (y121 : Int32) (y122 : Int32) (f123 : (Nat → Int32)) (y126 : Int32) (y127 : Int32) (f128 : (Nat → Int32)) (p200 : (Int32 × Int32 × Int32 × (Nat → Int32))) (y190 : Int32) (y191 : Int32) (f192 : (Nat → Int32)) (lx213 : Int64) (lx214 : Int32) (lx215 : Int32) (lx216 : Int32) (lx217 : (Nat → Int32)) (lx246 : Int32) (p372 : (Int32 × Int64 × Int32 × Int32 × Int32 × (Nat → Int32) × Int32 × Int32 × (Nat → Int32) × Int32 × Int32 × (Nat → Int32))) : Prop := True
def S_DW_divideToPrecision_J163 (R : Int32) (R2 : Int32) (x4 : Int32) (x5 : Int32) (t0_0 : Int64) (t0_1 : Int32) (t1_0 : Int32) (t1_1 : Int32) (t2_0 : (Nat → Int32)) (t3_0 : Int32) (t3_1 : Int32) (t4_0 : (Nat → Int32)) (t5_0 : Int32) (t5_1 : Int32) (t6_0 : (Nat → Int32)) (t7_0 : Int32) (t7_1 : Int32) (t8_0 : (Nat → Int32)) (t9_0 : Int32) (t9_1 : Int32) (t10_0 : Int32) (t10_1 : Int32) (t11_0 : (Nat → Int32)) (t12_0 : Int32) (t12_1 : Int32) (t13_0 : Int32) (t13_1 : Int32) (t14_0 : (Nat → Int32)) (j69 : Int64) (lx74 : Int32) (a102 : Int32) (p153 : (Int64 × Int32 × Int32 × Int32 × (Nat → Int32) × Int32 × Int32 × (Nat → Int32) × Int32 × Int32 × (Nat → Int32) × Int32 × Int32 × (Nat → Int32))) (j180 : Int64) (y109 : Int32) (y111 : Int32) (y112 : Int32) (f113 : (Nat → Int32)) (y116 : Int32) (y117 : Int32) (f118 : (Nat → Int32)) (y121 : Int32) (y122 : Int32) (f123 : (Nat → Int32)) (y126 : Int32) (y127 : Int32) (f128 : (Nat → Int32)) (p200 : (Int32 × Int32 × Int32 × (Nat → Int32))) (y190 : Int32) (y191 : Int32) (f192 : (Nat → Int32)) (lx213 : Int64) (lx214 : Int32) (lx215 : Int32) (lx216 : Int32) (lx217 : (Nat → Int32)) (lx246 : Int32) : Prop := if x4 = (0 : Int32) then (S_DW_divideToPrecision_c183_7 R R2 x4 x5 t0_0 t0_1 t1_0 t1_1 t2_0 t3_0 t3_1 t4_0 t5_0 t5_1 t6_0 t7_0 t7_1 t8_0 t9_0 t9_1 t10_0 t10_1 t11_0 t12_0 t12_1 t13_0 t13_1 t14_0 j69 lx74 a102 p153 j180 y109 y111 y112 f113 y116 y117 f118 y121 y122 f123 y126 y127 f128 p200 y190 y191 f192 lx213 lx214 lx215 lx216 lx217 lx246 ((F_DW_shorten lx246 lx74 j69 (7 : Int32) lx213 lx214 lx215 lx216 lx217 y121 y122 f123 y190 y191 f192) : (Int32 × Int64 × Int32 × Int32 × Int32 × (Nat → Int32) × Int32 × Int32 × (Nat → Int32) × Int32 × Int32 × (Nat → Int32)))) else (S_DW_divideToPrecision_c183 R R2 x4 x5 t0_0 t0_1 t1_0 t1_1 t2_0 t3_0 t3_1 t4_0 t5_0 t5_1 t6_0 t7_0 t7_1 t8_0 t9_0 t9_1 t10_0 t10_1 t11_0 t12_0 t12_1 t13_0 t13_1 t14_0 j69 lx74 a102 p153 j180 y109 y111 y112 f113 y116 y117 f118 y121 y122 f123 y126 y127 f128 p200 y190 y191 f192 lx213 lx214 lx215 lx216 lx217 lx246 ((F_DW_shorten lx246 lx74 j69 x5 lx213 lx214 lx215 lx216 lx217 y121 y122 f123 y190 y191 f192) : (Int32 × Int64 × Int32 × Int32 × Int32 × (Nat → Int32) × Int32 × Int32 × (Nat → Int32) × Int32 × Int32 × (Nat → Int32))))
def S_DW_divideToPrecision_J141 (R : Int32) (R2 : Int32) (x4 : Int32) (x5 : Int32) (t0_0 : Int64) (t0_1 : Int32) (t1_0 : Int32) (t1_1 : Int32) (t2_0 : (Nat → Int32)) (t3_0 : Int32) (t3_1 : Int32) (t4_0 : (Nat → Int32)) (t5_0 : Int32) (t5_1 : Int32) (t6_0 : (Nat → Int32)) (t7_0 : Int32) (t7_1 : Int32) (t8_0 : (Nat → Int32)) (t9_0 : Int32) (t9_1 : Int32) (t10_0 : Int32) (t10_1 : Int32) (t11_0 : (Nat → Int32)) (t12_0 : Int32) (t12_1 : Int32) (t13_0 : Int32) (t13_1 : Int32) (t14_0 : (Nat → Int32)) (j69 : Int64) (lx74 : Int32) (a102 : Int32) (p153 : (Int64 × Int32 × Int32 × Int32 × (Nat → Int32) × Int32 × Int32 × (Nat → Int32) × Int32 × Int32 × (Nat → Int32) × Int32 × Int32 × (Nat → Int32))) (j180 : Int64) (y109 : Int32) (y111 : Int32) (y112 : Int32) (f113 : (Nat → Int32)) (y116 : Int32) (y117 : Int32) (f118 : (Nat → Int32)) (y121 : Int32) (y122 : Int32) (f123 : (Nat → Int32)) (y126 : Int32) (y127 : Int32) (f128 : (Nat → Int32)) (p200 : (Int32 × Int32 × Int32 × (Nat → Int32))) (y190 : Int32) (y191 : Int32) (f192 : (Nat → Int32)) (lx213 : Int64) (lx214 : Int32) (lx215 : Int32) (lx216 : Int32) (lx217 : (Nat → Int32)) : Prop := if t10_1 = y127 then (S_DW_divideToPrecision_J163 R R2 x4 x5 t0_0 t0_1 t1_0 t1_1 t2_0 t3_0 t3_1 t4_0 t5_0 t5_1 t6_0 t7_0 t7_1 t8_0 t9_0 t9_1 t10_0 t10_1 t11_0 t12_0 t12_1 t13_0 t13_1 t14_0 j69 lx74 a102 p153 j180 y109 y111 y112 f113 y116 y117 f118 y121 y122 f123 y126 y127 f128 p200 y190 y191 f192 lx213 lx214 lx215 lx216 lx217 0) else (S_DW_divideToPrecision_J163 R R2 x4 x5 t0_0 t0_1 t1_0 t1_1 t2_0 t3_0 t3_1 t4_0 t5_0 t5_1 t6_0 t7_0 t7_1 t8_0 t9_0 t9_1 t10_0 t10_1 t11_0 t12_0 t12_1 t13_0 t13_1 t14_0 j69 lx74 a102 p153 j180 y109 y111 y112 f113 y116 y117 f118 y121 y122 f123 y126 y127 f128 p200 y190 y191 f192 lx213 lx214 lx215 lx216 lx217 1)
def S_DW_divideToPrecision_c124 (R : Int32) (R2 : Int32) (x4 : Int32) (x5 : Int32) (t0_0 : Int64) (t0_1 : Int32) (t1_0 : Int32) (t1_1 : Int32) (t2_0 : (Nat → Int32)) (t3_0 : Int32) (t3_1 : Int32) (t4_0 : (Nat → Int32)) (t5_0 : Int32) (t5_1 : Int32) (t6_0 : (Nat → Int32)) (t7_0 : Int32) (t7_1 : Int32) (t8_0 : (Nat → Int32)) (t9_0 : Int32) (t9_1 : Int32) (t10_0 : Int32) (t10_1 : Int32) (t11_0 : (Nat → Int32)) (t12_0 : Int32) (t12_1 : Int32) (t13_0 : Int32) (t13_1 : Int32) (t14_0 : (Nat → Int32)) (j69 : Int64) (lx74 : Int32) (a102 : Int32) (p153 : (Int64 × Int32 × Int32 × Int32 × (Nat → Int32) × Int32 × Int32 × (Nat → Int32) × Int32 × Int32 × (Nat → Int32) × Int32 × Int32 × (Nat → Int32))) (j180 : Int64) (y109 : Int32) (y111 : Int32) (y112 : Int32) (f113 : (Nat → Int32)) (y116 : Int32) (y117 : Int32) (f118 : (Nat → Int32)) (y121 : Int32) (y122 : Int32) (f123 : (Nat → Int32)) (y126 : Int32) (y127 : Int32) (f128 : (Nat → Int32)) (p200 : (Int32 × Int32 × Int32 × (Nat → Int32))) (y190 : Int32) (y191 : Int32) (f192 : (Nat → Int32)) (p414 : (Int32 × Int32 × Int32 × (Nat → Int32))) : Prop := S_DW_divideToPrecision_J141 R R2 x4 x5 t0_0 t0_1 t1_0 t1_1 t2_0 t3_0 t3_1 t4_0 t5_0 t5_1 t6_0 t7_0 t7_1 t8_0 t9_0 t9_1 t10_0 t10_1 t11_0 t12_0 t12_1 t13_0 t13_1 t14_0 j69 lx74 a102 p153 j180 y109 y111 y112 f113 y116 y117 f118 y121 y122 f123 y126 y127 f128 p200 y190 y191 f192 (j180 - 1 : Int64) (y109 ||| (p414.1 : Int32) : Int32) (p414.2.1 : Int32) (p414.2.2.1 : Int32) (p414.2.2.2 : (Nat → Int32))
def S_DW_divideToPrecision_c101 (R : Int32) (R2 : Int32) (x4 : Int32) (x5 : Int32) (t0_0 : Int64) (t0_1 : Int32) (t1_0 : Int32) (t1_1 : Int32) (t2_0 : (Nat → Int32)) (t3_0 : Int32) (t3_1 : Int32) (t4_0 : (Nat → Int32)) (t5_0 : Int32) (t5_1 : Int32) (t6_0 : (Nat → Int32)) (t7_0 : Int32) (t7_1 : Int32) (t8_0 : (Nat → Int32)) (t9_0 : Int32) (t9_1 : Int32) (t10_0 : Int32) (t10_1 : Int32) (t11_0 : (Nat → Int32)) (t12_0 : Int32) (t12_1 : Int32) (t13_0 : Int32) (t13_1 : Int32) (t14_0 : (Nat → Int32)) (j69 : Int64) (lx74 : Int32) (a102 : Int32) (p153 : (Int64 × Int32 × Int32 × Int32 × (Nat → Int32) × Int32 × Int32 × (Nat → Int32) × Int32 × Int32 × (Nat → Int32) × Int32 × Int32 × (Nat → Int32))) (j180 : Int64) (y109 : Int32) (y111 : Int32) (y112 : Int32) (f113 : (Nat → Int32)) (y116 : Int32) (y117 : Int32) (f118 : (Nat → Int32)) (y121 : Int32) (y122 : Int32) (f123 : (Nat → Int32)) (y126 : Int32) (y127 : Int32) (f128 : (Nat → Int32)) (p200 : (Int32 × Int32 × Int32 × (Nat → Int32))) : Prop := if (p200.1 : Int32) ≤ (lx74 + 1 : Int32) then (S_DW_divideToPrecision_J141 R R2 x4 x5 t0_0 t0_1 t1_0 t1_1 t2_0 t3_0 t3_1 t4_0 t5_0 t5_1 t6_0 t7_0 t7_1 t8_0 t9_0 t9_1 t10_0 t10_1 t11_0 t12_0 t12_1 t13_0 t13_1 t14_0 j69 lx74 a102 p153 j180 y109 y111 y112 f113 y116 y117 f118 y121 y122 f123 y126 y127 f128 p200 (p200.2.1 : Int32) (p200.2.2.1 : Int32) (p200.2.2.2 : (Nat → Int32)) j180 y109 y111 y112 f113) else (S_DW_divideToPrecision_c124 R R2 x4 x5 t0_0 t0_1 t1_0 t1_1 t2_0 t3_0 t3_1 t4_0 t5_0 t5_1 t6_0 t7_0 t7_1 t8_0 t9_0 t9_1 t10_0 t10_1 t11_0 t12_0 t12_1 t13_0 t13_1 t14_0 j69 lx74 a102 p153 j180 y109 y111 y112 f113 y116 y117 f118 y121 y122 f123 y126 y127 f128 p200 (p200.2.1 : Int32) (p200.2.2.1 : Int32) (p200.2.2.2 : (Nat → Int32)) ((F_Big_dropFigures (220 : Int32) (1 : Int32) y111 y112 f113) : (Int32 × Int32 × Int32 × (Nat → Int32))))
def S_DW_divideToPrecision_c75 (R : Int32) (R2 : Int32) (x4 : Int32) (x5 : Int32) (t0_0 : Int64) (t0_1 : Int32) (t1_0 : Int32) (t1_1 : Int32) (t2_0 : (Nat → Int32)) (t3_0 : Int32) (t3_1 : Int32) (t4_0 : (Nat → Int32)) (t5_0 : Int32) (t5_1 : Int32) (t6_0 : (Nat → Int32)) (t7_0 : Int32) (t7_1 : Int32) (t8_0 : (Nat → Int32)) (t9_0 : Int32) (t9_1 : Int32) (t10_0 : Int32) (t10_1 : Int32) (t11_0 : (Nat → Int32)) (t12_0 : Int32) (t12_1 : Int32) (t13_0 : Int32) (t13_1 : Int32) (t14_0 : (Nat → Int32)) (j69 : Int64) (lx74 : Int32) (a102 : Int32) (p153 : (Int64 × Int32 × Int32 × Int32 × (Nat → Int32) × Int32 × Int32 × (Nat → Int32) × Int32 × Int32 × (Nat → Int32) × Int32 × Int32 × (Nat → Int32))) : Prop := S_DW_divideToPrecision_c101 R R2 x4 x5 t0_0 t0_1 t1_0 t1_1 t2_0 t3_0 t3_1 t4_0 t5_0 t5_1 t6_0 t7_0 t7_1 t8_0 t9_0 t9_1 t10_0 t10_1 t11_0 t12_0 t12_1 t13_0 t13_1 t14_0 j69 lx74 a102 p153 ((j69 + (a102.toInt64 : Int64) : Int64) - 1 : Int64) (p153.2.1 : Int32) (p153.2.2.1 : Int32) (p153.2.2.2.1 : Int32) (p153.2.2.2.2.1 : (Nat → Int32)) (p153.2.2.2.2.2.1 : Int32) (p153.2.2.2.2.2.2.1 : Int32) (p153.2.2.2.2.2.2.2.1 : (Nat → Int32)) (p153.2.2.2.2.2.2.2.2.1 : Int32) (p153.2.2.2.2.2.2.2.2.2.1 : Int32) (p153.2.2.2.2.2.2.2.2.2.2.1 : (Nat → Int32)) (p153.2.2.2.2.2.2.2.2.2.2.2.1 : Int32) (p153.2.2.2.2.2.2.2.2.2.2.2.2.1 : Int32) (p153.2.2.2.2.2.2.2.2.2.2.2.2.2 : (Nat → Int32)) ((F_Mil_countFigures (220 : Int32) t7_0 t7_1 t8_0 (p153.2.2.1 : Int32) (p153.2.2.2.1 : Int32) (p153.2.2.2.2.1 : (Nat → Int32))) : (Int32 × Int32 × Int32 × (Nat → Int32)))
def S_DW_divideToPrecision_J52 (R : Int32) (R2 : Int32) (x4 : Int32) (x5 : Int32) (t0_0 : Int64) (t0_1 : Int32) (t1_0 : Int32) (t1_1 : Int32) (t2_0 : (Nat → Int32)) (t3_0 : Int32) (t3_1 : Int32) (t4_0 : (Nat → Int32)) (t5_0 : Int32) (t5_1 : Int32) (t6_0 : (Nat → Int32)) (t7_0 : Int32) (t7_1 : Int32) (t8_0 : (Nat → Int32)) (t9_0 : Int32) (t9_1 : Int32) (t10_0 : Int32) (t10_1 : Int32) (t11_0 : (Nat → Int32)) (t12_0 : Int32) (t12_1 : Int32) (t13_0 : Int32) (t13_1 : Int32) (t14_0 : (Nat → Int32)) (j69 : Int64) (lx74 : Int32) : Prop := (True ∧ S_DW_divideRaised R R2 (((lx74 + 1 : Int32) - t9_1 : Int32) + t12_1 : Int32) t0_0 t0_1 t1_0 t1_1 t2_0 t3_0 t3_1 t4_0 t5_0 t5_1 t6_0 t9_0 t9_1 t10_0 t10_1 t11_0 t12_0 t12_1 t13_0 t13_1 t14_0) ∧ (S_DW_divideToPrecision_c75 R R2 x4 x5 t0_0 t0_1 t1_0 t1_1 t2_0 t3_0 t3_1 t4_0 t5_0 t5_1 t6_0 t7_0 t7_1 t8_0 t9_0 t9_1 t10_0 t10_1 t11_0 t12_0 t12_1 t13_0 t13_1 t14_0 j69 lx74 (((lx74 + 1 : Int32) - t9_1 : Int32) + t12_1 : Int32) ((F_DW_divideRaised R R2 (((lx74 + 1 : Int32) - t9_1 : Int32) + t12_1 : Int32) t0_0 t0_1 t1_0 t1_1 t2_0 t3_0 t3_1 t4_0 t5_0 t5_1 t6_0 t9_0 t9_1 t10_0 t10_1 t11_0 t12_0 t12_1 t13_0 t13_1 t14_0) : (Int64 × Int32 × Int32 × Int32 × (Nat → Int32) × Int32 × Int32 × (Nat → Int32) × Int32 × Int32 × (Nat → Int32) × Int32 × Int32 × (Nat → Int32))))
def S_DW_divideToPrecision_c30 (R : Int32) (R2 : Int32) (x4 : Int32) (x5 : Int32) (t0_0 : Int64) (t0_1 : Int32) (t1_0 : Int32) (t1_1 : Int32) (t2_0 : (Nat → Int32)) (t3_0 : Int32) (t3_1 : Int32) (t4_0 : (Nat → Int32)) (t5_0 : Int32) (t5_1 : Int32) (t6_0 : (Nat → Int32)) (t7_0 : Int32) (t7_1 : Int32) (t8_0 : (Nat → Int32)) (t9_0 : Int32) (t9_1 : Int32) (t10_0 : Int32) (t10_1 : Int32) (t11_0 : (Nat → Int32)) (t12_0 : Int32) (t12_1 : Int32) (t13_0 : Int32) (t13_1 : Int32) (t14_0 : (Nat → Int32)) (j69 : Int64) (p450 : (Int32 × Int32)) : Prop := True
def S_DW_divideToPrecision (R : Int32) (R2 : Int32) (x4 : Int32) (x5 : Int32) (t0_0 : Int64) (t0_1 : Int32) (t1_0 : Int32) (t1_1 : Int32) (t2_0 : (Nat → Int32)) (t3_0 : Int32) (t3_1 : Int32) (t4_0 : (Nat → Int32)) (t5_0 : Int32) (t5_1 : Int32) (t6_0 : (Nat → Int32)) (t7_0 : Int32) (t7_1 : Int32) (t8_0 : (Nat → Int32)) (t9_0 : Int32) (t9_1 : Int32) (t10_0 : Int32) (t10_1 : Int32) (t11_0 : (Nat → Int32)) (t12_0 : Int32) (t12_1 : Int32) (t13_0 : Int32) (t13_1 : Int32) (t14_0 : (Nat → Int32)) : Prop := if t10_0 = (0 : Int32) then (S_DW_divideToPrecision_c30 R R2 x4 x5 t0_0 t0_1 t1_0 t1_1 t2_0 t3_0 t3_1 t4_0 t5_0 t5_1 t6_0 t7_0 t7_1 t8_0 t9_0 t9_1 t10_0 t10_1 t11_0 t12_0 t12_1 t13_0 t13_1 t14_0 ((t9_0.toInt64 : Int64) - (t12_0.toInt64 : Int64) : Int64) ((F_Big_clear (220 : Int32) t1_0 t1_1) : (Int32 × Int32))) else (if x4 = (0 : Int32) then (S_DW_divideToPrecision_J52 R R2 x4 x5 t0_0 t0_1 t1_0 t1_1 t2_0 t3_0 t3_1 t4_0 t5_0 t5_1 t6_0 t7_0 t7_1 t8_0 t9_0 t9_1 t10_0 t10_1 t11_0 t12_0 t12_1 t13_0 t13_1 t14_0 ((t9_0.toInt64 : Int64) - (t12_0.toInt64 : Int64) : Int64) 1000) else (S_DW_divideToPrecision_J52 R R2 x4 x5 t0_0 t0_1 t1_0 t1_1 t2_0 t3_0 t3_1 t4_0 t5_0 t5_1 t6_0 t7_0 t7_1 t8_0 t9_0 t9_1 t10_0 t10_1 t11_0 t12_0 t12_1 t13_0 t13_1 t14_0 ((t9_0.toInt64 : Int64) - (t12_0.toInt64 : Int64) : Int64) x4))
set_option maxRecDepth 100000 in
set_option maxHeartbeats 4000000 in
theorem X_DW_divideToPrecision (l : Launch) (D : va_G) (g : Nat → ClassId) (q : Nat → Nat) (ws : va_W) (k2 : Nat) (R : Int32) (hB2 : q_isDec (nsh g q) g q k2 R) (zk2 : (10 ≤ k2 ∧ k2 ≤ 31) ∨ 66 ≤ k2) (k3 : Nat) (R2 : Int32) (hB3 : q_isDec (nsh g q) g q k3 R2) (zk3 : (10 ≤ k3 ∧ k3 ≤ 31) ∨ 66 ≤ k3) (x4 : Int32) (x5 : Int32) (ne_k2_10 : k2 ≠ 10) (ne_k2_11 : k2 ≠ 11) (ne_k2_9 : k2 ≠ 9) (ne_k2_8 : k2 ≠ 8) (ne_k2_12 : k2 ≠ 12) (ne_k2_13 : k2 ≠ 13) (ne_k2_22 : k2 ≠ 22) (ne_k2_23 : k2 ≠ 23) (ne_k2_21 : k2 ≠ 21) (ne_k2_20 : k2 ≠ 20) (ne_k2_19 : k2 ≠ 19) (ne_k2_18 : k2 ≠ 18) (ne_k2_30 : k2 ≠ 30) (ne_k2_31 : k2 ≠ 31) (ne_k2_29 : k2 ≠ 29) (ne_k2_28 : k2 ≠ 28) (ne_k3_10 : k3 ≠ 10) (ne_k3_11 : k3 ≠ 11) (ne_k3_9 : k3 ≠ 9) (ne_k3_8 : k3 ≠ 8) (ne_k3_12 : k3 ≠ 12) (ne_k3_13 : k3 ≠ 13) (ne_k3_22 : k3 ≠ 22) (ne_k3_23 : k3 ≠ 23) (ne_k3_21 : k3 ≠ 21) (ne_k3_20 : k3 ≠ 20) (ne_k3_19 : k3 ≠ 19) (ne_k3_18 : k3 ≠ 18) (ne_k3_30 : k3 ≠ 30) (ne_k3_31 : k3 ≠ 31) (ne_k3_29 : k3 ≠ 29) (ne_k3_28 : k3 ≠ 28) (ne_k2_k3 : k2 ≠ k3) (ne_k2_k3p1 : k2 ≠ k3 + 1) (ne_k2_k3p2 : k2 ≠ k3 + 2) (ne_k3_k2p1 : k3 ≠ k2 + 1) (ne_k3_k2p2 : k3 ≠ k2 + 2) (hI : q_I (nsh g q) q ws) (t0_0 : Int64) (t0_1 : Int32) (hT0 : ws[30]? = (some (q 30, .inr (5, [.ref (q 31), .long t0_0, .ref (q 9), .int t0_1])) : Option (Nat × va_E))) (t1_0 : Int32) (t1_1 : Int32) (hT1 : ws[10]? = (some (q 10, .inr (2, [.ref (q 11), .int t1_0, .int t1_1])) : Option (Nat × va_E))) (t2_0 : (Nat → Int32)) (hT2 : ws[11]? = (some (q 11, .inl (g 0, (220 : Int32).toNatClampNeg, .inl t2_0)) : Option (Nat × va_E))) (t3_0 : Int32) (t3_1 : Int32) (hT3 : ws[12]? = (some (q 12, .inr (2, [.ref (q 13), .int t3_0, .int t3_1])) : Option (Nat × va_E))) (t4_0 : (Nat → Int32)) (hT4 : ws[13]? = (some (q 13, .inl (g 0, (220 : Int32).toNatClampNeg, .inl t4_0)) : Option (Nat × va_E))) (t5_0 : Int32) (t5_1 : Int32) (hT5 : ws[22]? = (some (q 22, .inr (2, [.ref (q 23), .int t5_0, .int t5_1])) : Option (Nat × va_E))) (t6_0 : (Nat → Int32)) (hT6 : ws[23]? = (some (q 23, .inl (g 0, (220 : Int32).toNatClampNeg, .inl t6_0)) : Option (Nat × va_E))) (t7_0 : Int32) (t7_1 : Int32) (hT7 : ws[20]? = (some (q 20, .inr (2, [.ref (q 21), .int t7_0, .int t7_1])) : Option (Nat × va_E))) (t8_0 : (Nat → Int32)) (hT8 : ws[21]? = (some (q 21, .inl (g 0, (220 : Int32).toNatClampNeg, .inl t8_0)) : Option (Nat × va_E))) (t9_0 : Int32) (t9_1 : Int32) (hT9 : ws[k2]? = (some (q k2, .inr (3, [.ref (q (k2 + 1)), .int t9_0, .int t9_1])) : Option (Nat × va_E))) (t10_0 : Int32) (t10_1 : Int32) (hT10 : ws[k2 + 1]? = (some (q (k2 + 1), .inr (2, [.ref (q (k2 + 2)), .int t10_0, .int t10_1])) : Option (Nat × va_E))) (t11_0 : (Nat → Int32)) (hT11 : ws[k2 + 2]? = (some (q (k2 + 2), .inl (g 0, R.toNatClampNeg, .inl t11_0)) : Option (Nat × va_E))) (t12_0 : Int32) (t12_1 : Int32) (hT12 : ws[k3]? = (some (q k3, .inr (3, [.ref (q (k3 + 1)), .int t12_0, .int t12_1])) : Option (Nat × va_E))) (t13_0 : Int32) (t13_1 : Int32) (hT13 : ws[k3 + 1]? = (some (q (k3 + 1), .inr (2, [.ref (q (k3 + 2)), .int t13_0, .int t13_1])) : Option (Nat × va_E))) (t14_0 : (Nat → Int32)) (hT14 : ws[k3 + 2]? = (some (q (k3 + 2), .inl (g 0, R2.toNatClampNeg, .inl t14_0)) : Option (Nat × va_E))) (hS : True ∧ S_DW_divideToPrecision R R2 x4 x5 t0_0 t0_1 t1_0 t1_1 t2_0 t3_0 t3_1 t4_0 t5_0 t5_1 t6_0 t7_0 t7_1 t8_0 t9_0 t9_1 t10_0 t10_1 t11_0 t12_0 t12_1 t13_0 t13_1 t14_0) : q_mI l y_DW_divideToPrecision prog_4_method_12_code 10 (.boolean) 6 0 0 D g [.ref (q 30), .ref (q k2), .ref (q k3), .int x4, .int x5] ws (fun r u => q_I (nsh g q) q u ∧ q_un ws u [10, 11, 12, 13, 20, 21, 22, 23, 30, k3 + 1, k3 + 2] ∧ ∃ (u0_0 : Int64) (u0_1 : Int32) (u1_0 : Int32) (u1_1 : Int32) (u2_0 : (Nat → Int32)) (u3_0 : Int32) (u3_1 : Int32) (u4_0 : (Nat → Int32)) (u5_0 : Int32) (u5_1 : Int32) (u6_0 : (Nat → Int32)) (u7_0 : Int32) (u7_1 : Int32) (u8_0 : (Nat → Int32)) (u13_0 : Int32) (u13_1 : Int32) (u14_0 : (Nat → Int32)), u[30]? = (some (q 30, .inr (5, [.ref (q 31), .long u0_0, .ref (q 9), .int u0_1])) : Option (Nat × va_E)) ∧ u[10]? = (some (q 10, .inr (2, [.ref (q 11), .int u1_0, .int u1_1])) : Option (Nat × va_E)) ∧ u[11]? = (some (q 11, .inl (g 0, (220 : Int32).toNatClampNeg, .inl u2_0)) : Option (Nat × va_E)) ∧ u[12]? = (some (q 12, .inr (2, [.ref (q 13), .int u3_0, .int u3_1])) : Option (Nat × va_E)) ∧ u[13]? = (some (q 13, .inl (g 0, (220 : Int32).toNatClampNeg, .inl u4_0)) : Option (Nat × va_E)) ∧ u[22]? = (some (q 22, .inr (2, [.ref (q 23), .int u5_0, .int u5_1])) : Option (Nat × va_E)) ∧ u[23]? = (some (q 23, .inl (g 0, (220 : Int32).toNatClampNeg, .inl u6_0)) : Option (Nat × va_E)) ∧ u[20]? = (some (q 20, .inr (2, [.ref (q 21), .int u7_0, .int u7_1])) : Option (Nat × va_E)) ∧ u[21]? = (some (q 21, .inl (g 0, (220 : Int32).toNatClampNeg, .inl u8_0)) : Option (Nat × va_E)) ∧ u[k3 + 1]? = (some (q (k3 + 1), .inr (2, [.ref (q (k3 + 2)), .int u13_0, .int u13_1])) : Option (Nat × va_E)) ∧ u[k3 + 2]? = (some (q (k3 + 2), .inl (g 0, R2.toNatClampNeg, .inl u14_0)) : Option (Nat × va_E)) ∧ (0 ≤ r.toInt) ∧ (r.toInt ≤ 1) ∧ (0 ≤ u0_1.toInt) ∧ (u0_1.toInt ≤ 1) ∧ (0 ≤ u1_0.toInt) ∧ (u1_0.toInt ≤ 220) ∧ (0 ≤ u1_1.toInt) ∧ (u1_1.toInt ≤ 1) ∧ (0 ≤ u3_0.toInt) ∧ (u3_0.toInt ≤ 220) ∧ (0 ≤ u3_1.toInt) ∧ (u3_1.toInt ≤ 1) ∧ (0 ≤ u5_0.toInt) ∧ (u5_0.toInt ≤ 220) ∧ (0 ≤ u5_1.toInt) ∧ (u5_1.toInt ≤ 1) ∧ (0 ≤ u7_0.toInt) ∧ (u7_0.toInt ≤ 220) ∧ (0 ≤ u7_1.toInt) ∧ (u7_1.toInt ≤ 1) ∧ (0 ≤ u13_0.toInt) ∧ (u13_0.toInt ≤ 220) ∧ (0 ≤ u13_1.toInt) ∧ (u13_1.toInt ≤ 1) ∧ (u1_0.toInt ≤ t10_0.toInt + 219) ∧ (u1_1.toInt ≤ t10_0.toInt) ∧ (u3_1.toInt ≤ t3_1.toInt) ∧ (u13_0.toInt ≤ t13_0.toInt + 218) ∧ (u13_0.toInt ≤ R2.toInt) ∧ (u13_1.toInt ≤ t13_1.toInt) ∧ (u3_1.toInt ≤ r.toInt) ∧ (r, u0_0, u0_1, u1_0, u1_1, u2_0, u3_0, u3_1, u4_0, u5_0, u5_1, u6_0, u7_0, u7_1, u8_0, u13_0, u13_1, u14_0) = (F_DW_divideToPrecision R R2 x4 x5 t0_0 t0_1 t1_0 t1_1 t2_0 t3_0 t3_1 t4_0 t5_0 t5_1 t6_0 t7_0 t7_1 t8_0 t9_0 t9_1 t10_0 t10_1 t11_0 t12_0 t12_1 t13_0 t13_1 t14_0)) := by
  intro sz
  refine q_into (by decide) (Nat.le_of_ble_eq_true rfl) ?_
  intro p e s m below meth c ls hsz C0 V hl
  have hx := C0.1
  have hb := C0.2.1
  have hfk30 : q_F (0 ≤ R2.toInt ∧ R2.toInt ≤ 220) := hB3.2.2.2
  have btt0_1 := n_w30 hI hT0
  replace btt0_1 : q_F (0 ≤ t0_1.toInt ∧ t0_1.toInt ≤ 1) := btt0_1
  have btt1_1 := (q_bigW hI (n_b10 g q) hT1).2
  clear btt1_1
  obtain ⟨btt3_0, btt3_1⟩ := q_bigW hI (n_b12 g q) hT3
  replace btt3_0 : q_F (0 ≤ t3_0.toInt ∧ t3_0.toInt ≤ 220) := btt3_0
  replace btt3_1 : q_F (0 ≤ t3_1.toInt ∧ t3_1.toInt ≤ 1) := btt3_1
  obtain ⟨btt5_0, btt5_1⟩ := q_bigW hI (n_b22 g q) hT5
  replace btt5_0 : q_F (0 ≤ t5_0.toInt ∧ t5_0.toInt ≤ 220) := btt5_0
  replace btt5_1 : q_F (0 ≤ t5_1.toInt ∧ t5_1.toInt ≤ 1) := btt5_1
  obtain ⟨btt7_0, btt7_1⟩ := q_bigW hI (n_b20 g q) hT7
  replace btt7_0 : q_F (0 ≤ t7_0.toInt ∧ t7_0.toInt ≤ 220) := btt7_0
  replace btt7_1 : q_F (0 ≤ t7_1.toInt ∧ t7_1.toInt ≤ 1) := btt7_1
  have btt9_1 := (n_deW hI hB2 hT9).2
  clear btt9_1
  have btt10_0 := (q_bigW hI hB2.2 hT10).1
  replace btt10_0 : q_F (0 ≤ t10_0.toInt ∧ t10_0.toInt ≤ R.toInt) := btt10_0
  have btt12_1 := (n_deW hI hB3 hT12).2
  clear btt12_1
  obtain ⟨btt13_0, btt13_1⟩ := q_bigW hI hB3.2 hT13
  replace btt13_0 : q_F (0 ≤ t13_0.toInt ∧ t13_0.toInt ≤ R2.toInt) := btt13_0
  replace btt13_1 : q_F (0 ≤ t13_1.toInt ∧ t13_1.toInt ≤ 1) := btt13_1
  have hF : q_un ws ws [10, 11, 12, 13, 20, 21, 22, 23, 30, k3 + 1, k3 + 2] := q_u0
  have hl : lv_has ls 10 [(0, .ref (q 30)), (1, .ref (q k2)), (2, .ref (q k3)), (3, .int x4), (4, .int x5)] := hl
  refine lv_aload_n hx hb d_4_12_0 rfl (lv_at hl 1 rfl) ?_
  refine q_get (ci := 3) (j := 1) (v := .int t9_0) C0 V i_Dec rfl rfl hT9 (by decide) w_176 rfl d_4_12_1 ?_
  refine lv_i2l hx hb d_4_12_4 rfl ?_
  obtain ⟨j63, e64⟩ := q_nm (t9_0.toInt64 : Int64)
  refine q_tl (v := j63) e64 ?_
  refine lv_aload_n hx hb d_4_12_5 rfl (lv_at hl 2 rfl) ?_
  refine q_get (ci := 3) (j := 1) (v := .int t12_0) C0 V i_Dec rfl rfl hT12 (by decide) w_176 rfl d_4_12_6 ?_
  refine lv_i2l hx hb d_4_12_9 rfl ?_
  obtain ⟨j66, e67⟩ := q_nm (t12_0.toInt64 : Int64)
  refine q_tl (v := j66) e67 ?_
  refine lv_lsub hx hb d_4_12_10 ?_
  obtain ⟨j69, e70⟩ := q_nm (j63 - j66 : Int64)
  refine q_tl (v := j69) e70 ?_
  refine lv_lstore (lv' := [(5, .long j69), (0, .ref (q 30)), (1, .ref (q k2)), (2, .ref (q k3)), (3, .int x4), (4, .int x5)]) hx hb d_4_12_11 hl (by decide) rfl (fun ls hl => ?_)
  refine lv_aload_n hx hb d_4_12_13 rfl (lv_at hl 2 rfl) ?_
  refine q_get (ci := 3) (j := 0) (v := .ref (q (k2 + 1))) C0 V i_Dec rfl rfl hT9 (by decide) w_171 rfl d_4_12_14 ?_
  refine q_get (ci := 2) (j := 1) (v := .int t10_0) C0 V i_Big rfl rfl hT10 (by decide) w_90 rfl d_4_12_17 ?_
  refine lv_if_ne (tgt := 41) hx hb d_4_12_20 (by decide) (fun c72 => ?_) (fun c72 => ?_)
  ·
    have b73 : q_F (t10_0.toInt ≠ 0) := (q_neI c72)
    refine lv_iload_n hx hb d_4_12_41 rfl (lv_at hl 4 rfl) ?_
    refine q_join (X := Int32) (fun z H locs ls _ => q_F (x4.toInt ≤ z.toInt) ∧ q_F (z.toInt ≤ x4.toInt + 1000) ∧ q_Wd D g (va_A ws sz) s ws H locs ∧ lv_has ls 10 [(5, .long j69), (0, .ref (q 30)), (1, .ref (q k2)), (2, .ref (q k3)), (3, .int x4), (4, .int x5)] ∧ F_DW_divideToPrecision_J52 R R2 x4 x5 t0_0 t0_1 t1_0 t1_1 t2_0 t3_0 t3_1 t4_0 t5_0 t5_1 t6_0 t7_0 t7_1 t8_0 t9_0 t9_1 t10_0 t10_1 t11_0 t12_0 t12_1 t13_0 t13_1 t14_0 j69 z = (F_DW_divideToPrecision R R2 x4 x5 t0_0 t0_1 t1_0 t1_1 t2_0 t3_0 t3_1 t4_0 t5_0 t5_1 t6_0 t7_0 t7_1 t8_0 t9_0 t9_1 t10_0 t10_1 t11_0 t12_0 t12_1 t13_0 t13_1 t14_0) ∧ True ∧ S_DW_divideToPrecision_J52 R R2 x4 x5 t0_0 t0_1 t1_0 t1_1 t2_0 t3_0 t3_1 t4_0 t5_0 t5_1 t6_0 t7_0 t7_1 t8_0 t9_0 t9_1 t10_0 t10_1 t11_0 t12_0 t12_1 t13_0 t13_1 t14_0 j69 z) (fun z => [.int z]) 52 0 0 ?_ ?_
    ·
      rintro lx74 H locs ls _ hZ9
      replace hZ9 := hZ9.2.2
      obtain ⟨V, hZ9⟩ := hZ9
      obtain ⟨hl, hZ9⟩ := hZ9
      obtain ⟨hR93, hS94⟩ := hZ9
      replace hl : lv_has ls 10 [(5, .long j69), (0, .ref (q 30)), (1, .ref (q k2)), (2, .ref (q k3)), (3, .int x4), (4, .int x5)] := hl
      refine lv_istore (lv' := [(7, .int lx74), (5, .long j69), (0, .ref (q 30)), (1, .ref (q k2)), (2, .ref (q k3)), (3, .int x4), (4, .int x5)]) hx hb d_4_12_52 hl (by decide) rfl (fun ls hl => ?_)
      refine lv_iload hx hb d_4_12_54 (lv_at hl 0 rfl) ?_
      refine lv_iconst (v := 1) hx hb d_4_12_56 (by decide) ?_
      refine lv_iadd hx hb d_4_12_57 ?_
      obtain ⟨a98, e99⟩ := q_nm (lx74 + 1 : Int32)
      refine q_ti (v := a98) e99 ?_
      refine lv_aload_n hx hb d_4_12_58 rfl (lv_at hl 3 rfl) ?_
      refine q_get (ci := 3) (j := 2) (v := .int t9_1) C0 V i_Dec rfl rfl hT9 (by decide) w_180 rfl d_4_12_59 ?_
      refine lv_isub hx hb d_4_12_62 ?_
      obtain ⟨a100, e101⟩ := q_nm (a98 - t9_1 : Int32)
      refine q_ti (v := a100) e101 ?_
      refine lv_aload_n hx hb d_4_12_63 rfl (lv_at hl 4 rfl) ?_
      refine q_get (ci := 3) (j := 2) (v := .int t12_1) C0 V i_Dec rfl rfl hT12 (by decide) w_180 rfl d_4_12_64 ?_
      refine lv_iadd hx hb d_4_12_67 ?_
      obtain ⟨a102, e103⟩ := q_nm (a100 + t12_1 : Int32)
      refine q_ti (v := a102) e103 ?_
      refine lv_istore (lv' := [(8, .int a102), (7, .int lx74), (5, .long j69), (0, .ref (q 30)), (1, .ref (q k2)), (2, .ref (q k3)), (3, .int x4), (4, .int x5)]) hx hb d_4_12_68 hl (by decide) rfl (fun ls hl => ?_)
      refine lv_aload_n hx hb d_4_12_70 rfl (lv_at hl 3 rfl) ?_
      refine lv_aload_n hx hb d_4_12_71 rfl (lv_at hl 4 rfl) ?_
      refine lv_aload_n hx hb d_4_12_72 rfl (lv_at hl 5 rfl) ?_
      refine lv_iload hx hb d_4_12_73 (lv_at hl 0 rfl) ?_
      have ob104 : True ∧ S_DW_divideRaised R R2 a102 t0_0 t0_1 t1_0 t1_1 t2_0 t3_0 t3_1 t4_0 t5_0 t5_1 t6_0 t9_0 t9_1 t10_0 t10_1 t11_0 t12_0 t12_1 t13_0 t13_1 t14_0 := (by rw [← e103, ← e101, ← e99]; have h := hS94; rw [S_DW_divideToPrecision_J52.eq_1] at h; with_reducible exact h.2.1)
      refine q_gov V (q_runV (As := [.ref (q k2), .ref (q k3), .int a102]) (rest := []) (d := 5) (mc := 0) (ms := 0) (ci := 5) C0 V rfl LV_DW_138 (X_DW_divideRaised l D g q ws k2 R hB2 zk2 k3 R2 hB3 zk3 a102 (by have z := ne_k2_10; omega) (by have z := ne_k2_11; omega) (by have z := ne_k2_9; omega) (by have z := ne_k2_8; omega) (by have z := ne_k2_12; omega) (by have z := ne_k2_13; omega) (by have z := ne_k2_22; omega) (by have z := ne_k2_23; omega) (by have z := ne_k2_21; omega) (by have z := ne_k2_20; omega) (by have z := ne_k2_30; omega) (by have z := ne_k2_31; omega) (by have z := ne_k2_29; omega) (by have z := ne_k2_28; omega) (by have z := ne_k3_10; omega) (by have z := ne_k3_11; omega) (by have z := ne_k3_9; omega) (by have z := ne_k3_8; omega) (by have z := ne_k3_12; omega) (by have z := ne_k3_13; omega) (by have z := ne_k3_22; omega) (by have z := ne_k3_23; omega) (by have z := ne_k3_21; omega) (by have z := ne_k3_20; omega) (by have z := ne_k3_30; omega) (by have z := ne_k3_31; omega) (by have z := ne_k3_29; omega) (by have z := ne_k3_28; omega) (by have z := ne_k2_k3; omega) (by have z := ne_k2_k3p1; omega) (by have z := ne_k2_k3p2; omega) (by have z := ne_k3_k2p1; omega) (by have z := ne_k3_k2p2; omega) hI t0_0 t0_1 hT0 t1_0 t1_1 hT1 t2_0 hT2 t3_0 t3_1 hT3 t4_0 hT4 t5_0 t5_1 hT5 t6_0 hT6 t9_0 t9_1 hT9 t10_0 t10_1 hT10 t11_0 hT11 t12_0 t12_1 hT12 t13_0 t13_1 hT13 t14_0 hT14 ob104 _) rfl rfl hT0 rfl hl.1 rfl (Nat.le_of_ble_eq_true rfl) ⟨by decide, by decide⟩ ⟨Nat.le_of_ble_eq_true rfl, Nat.le_of_ble_eq_true rfl⟩ d_4_12_75) (fun u105 H locs hp106 V => ?_)
      obtain ⟨hI, hZ9⟩ := hp106
      obtain ⟨hu152, hZ9⟩ := hZ9
      obtain ⟨y108, hZ9⟩ := hZ9
      obtain ⟨y109, hZ9⟩ := hZ9
      obtain ⟨y111, hZ9⟩ := hZ9
      obtain ⟨y112, hZ9⟩ := hZ9
      obtain ⟨f113, hZ9⟩ := hZ9
      obtain ⟨y116, hZ9⟩ := hZ9
      obtain ⟨y117, hZ9⟩ := hZ9
      obtain ⟨f118, hZ9⟩ := hZ9
      obtain ⟨y121, hZ9⟩ := hZ9
      obtain ⟨y122, hZ9⟩ := hZ9
      obtain ⟨f123, hZ9⟩ := hZ9
      obtain ⟨y126, hZ9⟩ := hZ9
      obtain ⟨y127, hZ9⟩ := hZ9
      obtain ⟨f128, hZ9⟩ := hZ9
      obtain ⟨hO107, hZ9⟩ := hZ9
      obtain ⟨hO110, hZ9⟩ := hZ9
      obtain ⟨hA114, hZ9⟩ := hZ9
      obtain ⟨hO115, hZ9⟩ := hZ9
      obtain ⟨hA119, hZ9⟩ := hZ9
      obtain ⟨hO120, hZ9⟩ := hZ9
      obtain ⟨hA124, hZ9⟩ := hZ9
      obtain ⟨hO125, hZ9⟩ := hZ9
      obtain ⟨hA129, hZ9⟩ := hZ9
      obtain ⟨b130, hZ9⟩ := hZ9
      obtain ⟨b131, hZ9⟩ := hZ9
      replace hZ9 := hZ9.2.2.2.2
      obtain ⟨b136, hZ9⟩ := hZ9
      obtain ⟨b137, hZ9⟩ := hZ9
      obtain ⟨b138, hZ9⟩ := hZ9
      obtain ⟨b139, hZ9⟩ := hZ9
      obtain ⟨b140, hZ9⟩ := hZ9
      obtain ⟨b141, hZ9⟩ := hZ9
      obtain ⟨b142, hZ9⟩ := hZ9
      obtain ⟨b143, hZ9⟩ := hZ9
      obtain ⟨b144, hZ9⟩ := hZ9
      obtain ⟨b145, hZ9⟩ := hZ9
      replace hZ9 := hZ9.2.2.2
      obtain ⟨b149, hZ9⟩ := hZ9
      obtain ⟨b150, hE151⟩ := hZ9
      replace hO107 : u105[30]? = (some (q 30, .inr (5, [.ref (q 31), .long y108, .ref (q 9), .int y109])) : Option (Nat × va_E)) := hO107
      replace hO110 : u105[10]? = (some (q 10, .inr (2, [.ref (q 11), .int y111, .int y112])) : Option (Nat × va_E)) := hO110
      replace hA114 : u105[11]? = (some (q 11, .inl (g 0, (220 : Int32).toNatClampNeg, .inl f113)) : Option (Nat × va_E)) := hA114
      replace hO115 : u105[12]? = (some (q 12, .inr (2, [.ref (q 13), .int y116, .int y117])) : Option (Nat × va_E)) := hO115
      replace hA119 : u105[13]? = (some (q 13, .inl (g 0, (220 : Int32).toNatClampNeg, .inl f118)) : Option (Nat × va_E)) := hA119
      replace hO120 : u105[22]? = (some (q 22, .inr (2, [.ref (q 23), .int y121, .int y122])) : Option (Nat × va_E)) := hO120
      replace hA124 : u105[23]? = (some (q 23, .inl (g 0, (220 : Int32).toNatClampNeg, .inl f123)) : Option (Nat × va_E)) := hA124
      replace hO125 : u105[k3 + 1]? = (some (q (k3 + 1), .inr (2, [.ref (q (k3 + 2)), .int y126, .int y127])) : Option (Nat × va_E)) := hO125
      replace hA129 : u105[k3 + 2]? = (some (q (k3 + 2), .inl (g 0, R2.toNatClampNeg, .inl f128)) : Option (Nat × va_E)) := hA129
      obtain ⟨p153, e154⟩ : ∃ z, z = (F_DW_divideRaised R R2 a102 t0_0 t0_1 t1_0 t1_1 t2_0 t3_0 t3_1 t4_0 t5_0 t5_1 t6_0 t9_0 t9_1 t10_0 t10_1 t11_0 t12_0 t12_1 t13_0 t13_1 t14_0) := ⟨_, rfl⟩
      have e155 : y108 = p153.1 := congrArg (fun z => z.1) (hE151.trans e154.symm)
      have e156 : y109 = p153.2.1 := congrArg (fun z => z.2.1) (hE151.trans e154.symm)
      have e157 : y111 = p153.2.2.1 := congrArg (fun z => z.2.2.1) (hE151.trans e154.symm)
      have e158 : y112 = p153.2.2.2.1 := congrArg (fun z => z.2.2.2.1) (hE151.trans e154.symm)
      have e159 : f113 = p153.2.2.2.2.1 := congrArg (fun z => z.2.2.2.2.1) (hE151.trans e154.symm)
      have e160 : y116 = p153.2.2.2.2.2.1 := congrArg (fun z => z.2.2.2.2.2.1) (hE151.trans e154.symm)
      have e161 : y117 = p153.2.2.2.2.2.2.1 := congrArg (fun z => z.2.2.2.2.2.2.1) (hE151.trans e154.symm)
      have e162 : f118 = p153.2.2.2.2.2.2.2.1 := congrArg (fun z => z.2.2.2.2.2.2.2.1) (hE151.trans e154.symm)
      have e163 : y121 = p153.2.2.2.2.2.2.2.2.1 := congrArg (fun z => z.2.2.2.2.2.2.2.2.1) (hE151.trans e154.symm)
      have e164 : y122 = p153.2.2.2.2.2.2.2.2.2.1 := congrArg (fun z => z.2.2.2.2.2.2.2.2.2.1) (hE151.trans e154.symm)
      have e165 : f123 = p153.2.2.2.2.2.2.2.2.2.2.1 := congrArg (fun z => z.2.2.2.2.2.2.2.2.2.2.1) (hE151.trans e154.symm)
      have e166 : y126 = p153.2.2.2.2.2.2.2.2.2.2.2.1 := congrArg (fun z => z.2.2.2.2.2.2.2.2.2.2.2.1) (hE151.trans e154.symm)
      have e167 : y127 = p153.2.2.2.2.2.2.2.2.2.2.2.2.1 := congrArg (fun z => z.2.2.2.2.2.2.2.2.2.2.2.2.1) (hE151.trans e154.symm)
      have e168 : f128 = p153.2.2.2.2.2.2.2.2.2.2.2.2.2 := congrArg (fun z => z.2.2.2.2.2.2.2.2.2.2.2.2.2) (hE151.trans e154.symm)
      replace b130 : q_F (0 ≤ y117.toInt) := b130
      replace b131 : q_F (y117.toInt ≤ 0) := b131
      replace b136 : q_F (y126.toInt ≤ t13_0.toInt + 218) := b136
      replace b137 : q_F (y126.toInt ≤ R2.toInt) := b137
      replace b138 : q_F (y127.toInt ≤ t13_1.toInt) := b138
      replace b139 : q_F (y117.toInt ≤ y109.toInt) := b139
      replace b140 : q_F (y109.toInt ≤ y117.toInt + 1) := b140
      replace b141 : q_F (y111.toInt ≤ y116.toInt) := b141
      replace b142 : q_F (y117.toInt ≤ y111.toInt) := b142
      replace b143 : q_F (y117.toInt ≤ y112.toInt) := b143
      replace b144 : q_F (y112.toInt ≤ y117.toInt) := b144
      replace b145 : q_F (y116.toInt ≤ y117.toInt + 220) := b145
      replace b149 : q_F (y117.toInt ≤ y126.toInt) := b149
      replace b150 : q_F (y117.toInt ≤ y127.toInt) := b150
      replace hT7 := (hu152 _ (by have z0 := zk3; simp only [List.mem_cons, List.not_mem_nil, or_false, not_or]; omega)).trans hT7
      replace hT8 := (hu152 _ (by have z0 := zk3; simp only [List.mem_cons, List.not_mem_nil, or_false, not_or]; omega)).trans hT8
      replace hT9 := (hu152 _ (q_nc (by have z := ne_k2_10; omega) (q_nc (by have z := ne_k2_11; omega) (q_nc (by have z := ne_k2_12; omega) (q_nc (by have z := ne_k2_13; omega) (q_nc (by have z := ne_k2_22; omega) (q_nc (by have z := ne_k2_23; omega) (q_nc (by have z := ne_k2_30; omega) (q_nc (by have z := ne_k2_k3p1; omega) (q_nc (by have z := ne_k2_k3p2; omega) List.not_mem_nil)))))))))).trans hT9
      replace hT10 := (hu152 _ (q_nc (by have z := ne_k2_9; omega) (q_nc (by have z := ne_k2_10; omega) (q_nc (by have z := ne_k2_11; omega) (q_nc (by have z := ne_k2_12; omega) (q_nc (by have z := ne_k2_21; omega) (q_nc (by have z := ne_k2_22; omega) (q_nc (by have z := ne_k2_29; omega) (q_nc (by have z := ne_k2_k3; omega) (q_nc (by have z := ne_k2_k3p1; omega) List.not_mem_nil)))))))))).trans hT10
      replace hT11 := (hu152 _ (q_nc (by have z := ne_k2_8; omega) (q_nc (by have z := ne_k2_9; omega) (q_nc (by have z := ne_k2_10; omega) (q_nc (by have z := ne_k2_11; omega) (q_nc (by have z := ne_k2_20; omega) (q_nc (by have z := ne_k2_21; omega) (q_nc (by have z := ne_k2_28; omega) (q_nc (by have z := ne_k3_k2p1; omega) (q_nc (by have z := ne_k2_k3; omega) List.not_mem_nil)))))))))).trans hT11
      replace hT12 := (hu152 _ (by have z0 := zk3; simp only [List.mem_cons, List.not_mem_nil, or_false, not_or]; omega)).trans hT12
      replace hF := q_uc hF hu152 (by first | exact (q_sk (q_mi 0 rfl) (q_sk (q_mi 1 rfl) (q_sk (q_mi 2 rfl) (q_sk (q_mi 3 rfl) (q_sk (q_mi 6 rfl) (q_sk (q_mi 7 rfl) (q_sk (q_mi 8 rfl) (q_sk (q_mi 9 rfl) (q_sk (q_mi 10 rfl) q_s0))))))))) | simp)
      have hR169 := (show F_DW_divideToPrecision_c75 R R2 x4 x5 t0_0 t0_1 t1_0 t1_1 t2_0 t3_0 t3_1 t4_0 t5_0 t5_1 t6_0 t7_0 t7_1 t8_0 t9_0 t9_1 t10_0 t10_1 t11_0 t12_0 t12_1 t13_0 t13_1 t14_0 j69 lx74 a102 p153 = (F_DW_divideToPrecision R R2 x4 x5 t0_0 t0_1 t1_0 t1_1 t2_0 t3_0 t3_1 t4_0 t5_0 t5_1 t6_0 t7_0 t7_1 t8_0 t9_0 t9_1 t10_0 t10_1 t11_0 t12_0 t12_1 t13_0 t13_1 t14_0) from Eq.trans (by rw [e154, ← e103, ← e101, ← e99, F_DW_divideToPrecision_J52.eq_1]) hR93)
      have hS170 := (show True ∧ S_DW_divideToPrecision_c75 R R2 x4 x5 t0_0 t0_1 t1_0 t1_1 t2_0 t3_0 t3_1 t4_0 t5_0 t5_1 t6_0 t7_0 t7_1 t8_0 t9_0 t9_1 t10_0 t10_1 t11_0 t12_0 t12_1 t13_0 t13_1 t14_0 j69 lx74 a102 p153 from (by rw [e154, ← e103, ← e101, ← e99]; have h := hS94; rw [S_DW_divideToPrecision_J52.eq_1] at h; replace h := q_s2 h; with_reducible exact h))
      refine lv_aload_n hx hb d_4_12_78 rfl (lv_at hl 3 rfl) ?_
      refine lv_lload hx hb d_4_12_79 (lv_at hl 2 rfl) ?_
      refine lv_iload hx hb d_4_12_81 (lv_at hl 0 rfl) ?_
      refine lv_i2l hx hb d_4_12_83 rfl ?_
      obtain ⟨j174, e175⟩ := q_nm (a102.toInt64 : Int64)
      refine q_tl (v := j174) e175 ?_
      refine lv_ladd hx hb d_4_12_84 ?_
      obtain ⟨j177, e178⟩ := q_nm (j69 + j174 : Int64)
      refine q_tl (v := j177) e178 ?_
      refine lv_lconst (v := 1) hx hb d_4_12_85 (by decide) ?_
      refine lv_lsub hx hb d_4_12_86 ?_
      obtain ⟨j180, e181⟩ := q_nm (j177 - 1 : Int64)
      refine q_tl (v := j180) e181 ?_
      refine q_put (ci := 5) (j := 1) (v := .long j180) (ty := .long) C0 V i_DW o_DW n_DW rfl rfl hO107 (by decide) w_212 rfl rfl rfl rfl (Nat.le_of_ble_eq_true rfl) d_4_12_87 (fun H locs w183 hu184 hO107 V => ?_)
      replace hO107 : w183[30]? = (some (q 30, .inr (5, [.ref (q 31), .long j180, .ref (q 9), .int y109])) : Option (Nat × va_E)) := hO107
      replace hI := n_p30 hI hu184 hO107 ⟨(by have t1 : 0 ≤ y117.toInt := b130; have t2 : y117.toInt ≤ y109.toInt := b139; omega), (by have t1 : y117.toInt ≤ 0 := b131; have t2 : y109.toInt ≤ y117.toInt + 1 := b140; omega)⟩
      replace hO110 := (hu184 _ (by decide)).trans hO110
      replace hA114 := (hu184 _ (by decide)).trans hA114
      replace hO115 := (hu184 _ (by decide)).trans hO115
      replace hA119 := (hu184 _ (by decide)).trans hA119
      replace hO120 := (hu184 _ (by decide)).trans hO120
      replace hA124 := (hu184 _ (by decide)).trans hA124
      replace hT7 := (hu184 _ (by decide)).trans hT7
      replace hT8 := (hu184 _ (by decide)).trans hT8
      replace hT9 := (hu184 _ (by have z := ne_k2_30; omega)).trans hT9
      replace hT10 := (hu184 _ (by have z := ne_k2_29; omega)).trans hT10
      replace hT11 := (hu184 _ (by have z := ne_k2_28; omega)).trans hT11
      replace hT12 := (hu184 _ (by have z := ne_k3_30; omega)).trans hT12
      replace hO125 := (hu184 _ (by have z := ne_k3_29; omega)).trans hO125
      replace hA129 := (hu184 _ (by have z := ne_k3_28; omega)).trans hA129
      replace hF := q_us hF hu184 (by simp)
      refine lv_aload_n hx hb d_4_12_90 rfl (lv_at hl 3 rfl) ?_
      refine q_get (ci := 5) (j := 2) (v := .ref (q 9)) C0 V i_DW rfl rfl hO107 (by decide) w_214 rfl d_4_12_91 ?_
      refine lv_aload_n hx hb d_4_12_94 rfl (lv_at hl 3 rfl) ?_
      refine q_get (ci := 5) (j := 2) (v := .ref (q 9)) C0 V i_DW rfl rfl hO107 (by decide) w_214 rfl d_4_12_95 ?_
      have hO185 := n_o9 hI
      refine q_get (ci := 4) (j := 0) (v := .ref (q 10)) C0 V i_Mil rfl rfl hO185 (by decide) w_111 rfl d_4_12_98 ?_
      refine q_goi V (q_runV (As := [.ref (q 10)]) (rest := []) (d := 4) (mc := 0) (ms := 0) (ci := 4) C0 V rfl LV_DW_34 (X_Mil_countFigures l D g q w183 10 220 (n_b10 g q) (by decide)  (by decide) (by decide) (by decide) hI t7_0 t7_1 hT7 t8_0 hT8 y111 y112 hO110 f113 hA114  _) rfl rfl hO185 rfl hl.1 rfl (Nat.le_of_ble_eq_true rfl) ⟨by decide, by decide⟩ ⟨Nat.le_of_ble_eq_true rfl, Nat.le_of_ble_eq_true rfl⟩ d_4_12_101) (fun a188 u186 H locs hp187 V => ?_)
      obtain ⟨hI, hZ9⟩ := hp187
      obtain ⟨hu199, hZ9⟩ := hZ9
      obtain ⟨y190, hZ9⟩ := hZ9
      obtain ⟨y191, hZ9⟩ := hZ9
      obtain ⟨f192, hZ9⟩ := hZ9
      obtain ⟨hO189, hZ9⟩ := hZ9
      obtain ⟨hA193, hZ9⟩ := hZ9
      replace hZ9 := hZ9.2.2.2
      obtain ⟨-, hE198⟩ := hZ9
      replace hO189 : u186[20]? = (some (q 20, .inr (2, [.ref (q 21), .int y190, .int y191])) : Option (Nat × va_E)) := hO189
      replace hA193 : u186[21]? = (some (q 21, .inl (g 0, (220 : Int32).toNatClampNeg, .inl f192)) : Option (Nat × va_E)) := hA193
      obtain ⟨p200, e201⟩ : ∃ z, z = (F_Mil_countFigures (220 : Int32) t7_0 t7_1 t8_0 y111 y112 f113) := ⟨_, rfl⟩
      have e202 : a188 = p200.1 := congrArg (fun z => z.1) (hE198.trans e201.symm)
      have e203 : y190 = p200.2.1 := congrArg (fun z => z.2.1) (hE198.trans e201.symm)
      have e204 : y191 = p200.2.2.1 := congrArg (fun z => z.2.2.1) (hE198.trans e201.symm)
      have e205 : f192 = p200.2.2.2 := congrArg (fun z => z.2.2.2) (hE198.trans e201.symm)
      replace hO107 := (hu199 _ (by decide)).trans hO107
      replace hO110 := (hu199 _ (by decide)).trans hO110
      replace hA114 := (hu199 _ (by decide)).trans hA114
      replace hO115 := (hu199 _ (by decide)).trans hO115
      replace hA119 := (hu199 _ (by decide)).trans hA119
      replace hO120 := (hu199 _ (by decide)).trans hO120
      replace hA124 := (hu199 _ (by decide)).trans hA124
      replace hT9 := (hu199 _ (by have z0 := zk2; simp only [List.mem_cons, List.not_mem_nil, or_false, not_or]; omega)).trans hT9
      replace hT10 := (hu199 _ (by have z0 := zk2; simp only [List.mem_cons, List.not_mem_nil, or_false, not_or]; omega)).trans hT10
      replace hT11 := (hu199 _ (by have z0 := zk2; simp only [List.mem_cons, List.not_mem_nil, or_false, not_or]; omega)).trans hT11
      replace hT12 := (hu199 _ (by have z0 := zk3; simp only [List.mem_cons, List.not_mem_nil, or_false, not_or]; omega)).trans hT12
      replace hO125 := (hu199 _ (by have z0 := zk3; simp only [List.mem_cons, List.not_mem_nil, or_false, not_or]; omega)).trans hO125
      replace hA129 := (hu199 _ (by have z0 := zk3; simp only [List.mem_cons, List.not_mem_nil, or_false, not_or]; omega)).trans hA129
      replace hO185 := (hu199 _ (by decide)).trans hO185
      replace hF := q_uc hF hu199 (by first | exact (q_sk (q_mi 4 rfl) (q_sk (q_mi 5 rfl) q_s0)) | simp)
      have hR206 := (show F_DW_divideToPrecision_c101 R R2 x4 x5 t0_0 t0_1 t1_0 t1_1 t2_0 t3_0 t3_1 t4_0 t5_0 t5_1 t6_0 t7_0 t7_1 t8_0 t9_0 t9_1 t10_0 t10_1 t11_0 t12_0 t12_1 t13_0 t13_1 t14_0 j69 lx74 a102 p153 j180 y109 y111 y112 f113 y116 y117 f118 y121 y122 f123 y126 y127 f128 p200 = (F_DW_divideToPrecision R R2 x4 x5 t0_0 t0_1 t1_0 t1_1 t2_0 t3_0 t3_1 t4_0 t5_0 t5_1 t6_0 t7_0 t7_1 t8_0 t9_0 t9_1 t10_0 t10_1 t11_0 t12_0 t12_1 t13_0 t13_1 t14_0) from Eq.trans (by rw [e201, ← e181, ← e178, ← e175, e168, e167, e166, e165, e164, e163, e162, e161, e160, e159, e158, e157, e156, F_DW_divideToPrecision_c75.eq_1]) hR169)
      have hS207 := (show True ∧ S_DW_divideToPrecision_c101 R R2 x4 x5 t0_0 t0_1 t1_0 t1_1 t2_0 t3_0 t3_1 t4_0 t5_0 t5_1 t6_0 t7_0 t7_1 t8_0 t9_0 t9_1 t10_0 t10_1 t11_0 t12_0 t12_1 t13_0 t13_1 t14_0 j69 lx74 a102 p153 j180 y109 y111 y112 f113 y116 y117 f118 y121 y122 f123 y126 y127 f128 p200 from (by rw [e201, ← e181, ← e178, ← e175, e168, e167, e166, e165, e164, e163, e162, e161, e160, e159, e158, e157, e156]; have h := hS170; rw [S_DW_divideToPrecision_c75.eq_1] at h; with_reducible exact h))
      refine lv_iload hx hb d_4_12_104 (lv_at hl 1 rfl) ?_
      refine lv_iconst (v := 1) hx hb d_4_12_106 (by decide) ?_
      refine lv_iadd hx hb d_4_12_107 ?_
      obtain ⟨a211, e212⟩ := q_nm (lx74 + 1 : Int32)
      refine q_ti (v := a211) e212 ?_
      refine q_join (X := Int64 × Int32 × Int32 × Int32 × (Nat → Int32)) (fun z H locs ls w240 => q_F (z.2.2.1.toInt ≤ y111.toInt) ∧ q_F (z.2.2.2.1.toInt ≤ z.2.1.toInt) ∧ q_F (z.2.1.toInt ≤ z.2.2.2.1.toInt + 1) ∧ q_F (0 ≤ z.2.1.toInt + z.2.2.2.1.toInt) ∧ q_F (z.2.1.toInt + z.2.2.2.1.toInt ≤ 1) ∧ q_F (0 ≤ z.2.2.1.toInt + z.2.2.2.1.toInt) ∧ q_Wd D g (va_A ws sz) s w240 H locs ∧ lv_has ls 10 [(7, .int lx74), (5, .long j69), (0, .ref (q 30)), (1, .ref (q k2)), (2, .ref (q k3)), (3, .int x4), (4, .int x5)] ∧ q_I (nsh g q) q w240 ∧ q_un ws w240 [10, 11, 12, 13, 20, 21, 22, 23, 30, k3 + 1, k3 + 2] ∧ w240[30]? = (some (q 30, .inr (5, [.ref (q 31), .long z.1, .ref (q 9), .int z.2.1])) : Option (Nat × va_E)) ∧ w240[10]? = (some (q 10, .inr (2, [.ref (q 11), .int z.2.2.1, .int z.2.2.2.1])) : Option (Nat × va_E)) ∧ w240[11]? = (some (q 11, .inl (g 0, (220 : Int32).toNatClampNeg, .inl z.2.2.2.2)) : Option (Nat × va_E)) ∧ w240[12]? = (some (q 12, .inr (2, [.ref (q 13), .int y116, .int y117])) : Option (Nat × va_E)) ∧ w240[13]? = (some (q 13, .inl (g 0, (220 : Int32).toNatClampNeg, .inl f118)) : Option (Nat × va_E)) ∧ w240[22]? = (some (q 22, .inr (2, [.ref (q 23), .int y121, .int y122])) : Option (Nat × va_E)) ∧ w240[23]? = (some (q 23, .inl (g 0, (220 : Int32).toNatClampNeg, .inl f123)) : Option (Nat × va_E)) ∧ w240[20]? = (some (q 20, .inr (2, [.ref (q 21), .int y190, .int y191])) : Option (Nat × va_E)) ∧ w240[21]? = (some (q 21, .inl (g 0, (220 : Int32).toNatClampNeg, .inl f192)) : Option (Nat × va_E)) ∧ w240[k2]? = (some (q k2, .inr (3, [.ref (q (k2 + 1)), .int t9_0, .int t9_1])) : Option (Nat × va_E)) ∧ w240[k2 + 1]? = (some (q (k2 + 1), .inr (2, [.ref (q (k2 + 2)), .int t10_0, .int t10_1])) : Option (Nat × va_E)) ∧ w240[k2 + 2]? = (some (q (k2 + 2), .inl (g 0, R.toNatClampNeg, .inl t11_0)) : Option (Nat × va_E)) ∧ w240[k3]? = (some (q k3, .inr (3, [.ref (q (k3 + 1)), .int t12_0, .int t12_1])) : Option (Nat × va_E)) ∧ w240[k3 + 1]? = (some (q (k3 + 1), .inr (2, [.ref (q (k3 + 2)), .int y126, .int y127])) : Option (Nat × va_E)) ∧ w240[k3 + 2]? = (some (q (k3 + 2), .inl (g 0, R2.toNatClampNeg, .inl f128)) : Option (Nat × va_E)) ∧ F_DW_divideToPrecision_J141 R R2 x4 x5 t0_0 t0_1 t1_0 t1_1 t2_0 t3_0 t3_1 t4_0 t5_0 t5_1 t6_0 t7_0 t7_1 t8_0 t9_0 t9_1 t10_0 t10_1 t11_0 t12_0 t12_1 t13_0 t13_1 t14_0 j69 lx74 a102 p153 j180 y109 y111 y112 f113 y116 y117 f118 y121 y122 f123 y126 y127 f128 p200 y190 y191 f192 z.1 z.2.1 z.2.2.1 z.2.2.2.1 z.2.2.2.2 = (F_DW_divideToPrecision R R2 x4 x5 t0_0 t0_1 t1_0 t1_1 t2_0 t3_0 t3_1 t4_0 t5_0 t5_1 t6_0 t7_0 t7_1 t8_0 t9_0 t9_1 t10_0 t10_1 t11_0 t12_0 t12_1 t13_0 t13_1 t14_0) ∧ True ∧ S_DW_divideToPrecision_J141 R R2 x4 x5 t0_0 t0_1 t1_0 t1_1 t2_0 t3_0 t3_1 t4_0 t5_0 t5_1 t6_0 t7_0 t7_1 t8_0 t9_0 t9_1 t10_0 t10_1 t11_0 t12_0 t12_1 t13_0 t13_1 t14_0 j69 lx74 a102 p153 j180 y109 y111 y112 f113 y116 y117 f118 y121 y122 f123 y126 y127 f128 p200 y190 y191 f192 z.1 z.2.1 z.2.2.1 z.2.2.2.1 z.2.2.2.2) (fun z => []) 141 0 0 ?_ ?_
      ·
        rintro ⟨lx213, lx214, lx215, lx216, lx217⟩ H locs ls w240 ⟨i234, i235, i236, i237, i238, i239, V, hl, hI, hF, hO218, hO219, hA220, hO221, hA222, hO223, hA224, hO225, hA226, hO227, hO228, hA229, hO230, hO231, hA232, hR241, hS242⟩
        clear i234
        replace i235 : q_F (lx216.toInt ≤ lx214.toInt) := i235
        replace i236 : q_F (lx214.toInt ≤ lx216.toInt + 1) := i236
        replace i237 : q_F (0 ≤ lx214.toInt + lx216.toInt) := i237
        replace i238 : q_F (lx214.toInt + lx216.toInt ≤ 1) := i238
        clear i239
        replace hl : lv_has ls 10 [(7, .int lx74), (5, .long j69), (0, .ref (q 30)), (1, .ref (q k2)), (2, .ref (q k3)), (3, .int x4), (4, .int x5)] := hl
        replace hO218 : w240[30]? = (some (q 30, .inr (5, [.ref (q 31), .long lx213, .ref (q 9), .int lx214])) : Option (Nat × va_E)) := hO218
        replace hO219 : w240[10]? = (some (q 10, .inr (2, [.ref (q 11), .int lx215, .int lx216])) : Option (Nat × va_E)) := hO219
        replace hA220 : w240[11]? = (some (q 11, .inl (g 0, (220 : Int32).toNatClampNeg, .inl lx217)) : Option (Nat × va_E)) := hA220
        replace hO221 : w240[12]? = (some (q 12, .inr (2, [.ref (q 13), .int y116, .int y117])) : Option (Nat × va_E)) := hO221
        replace hA222 : w240[13]? = (some (q 13, .inl (g 0, (220 : Int32).toNatClampNeg, .inl f118)) : Option (Nat × va_E)) := hA222
        replace hO223 : w240[22]? = (some (q 22, .inr (2, [.ref (q 23), .int y121, .int y122])) : Option (Nat × va_E)) := hO223
        replace hA224 : w240[23]? = (some (q 23, .inl (g 0, (220 : Int32).toNatClampNeg, .inl f123)) : Option (Nat × va_E)) := hA224
        replace hO225 : w240[20]? = (some (q 20, .inr (2, [.ref (q 21), .int y190, .int y191])) : Option (Nat × va_E)) := hO225
        replace hA226 : w240[21]? = (some (q 21, .inl (g 0, (220 : Int32).toNatClampNeg, .inl f192)) : Option (Nat × va_E)) := hA226
        replace hO227 : w240[k2]? = (some (q k2, .inr (3, [.ref (q (k2 + 1)), .int t9_0, .int t9_1])) : Option (Nat × va_E)) := hO227
        replace hO228 : w240[k2 + 1]? = (some (q (k2 + 1), .inr (2, [.ref (q (k2 + 2)), .int t10_0, .int t10_1])) : Option (Nat × va_E)) := hO228
        replace hO230 : w240[k3]? = (some (q k3, .inr (3, [.ref (q (k3 + 1)), .int t12_0, .int t12_1])) : Option (Nat × va_E)) := hO230
        replace hO231 : w240[k3 + 1]? = (some (q (k3 + 1), .inr (2, [.ref (q (k3 + 2)), .int y126, .int y127])) : Option (Nat × va_E)) := hO231
        replace hA232 : w240[k3 + 2]? = (some (q (k3 + 2), .inl (g 0, R2.toNatClampNeg, .inl f128)) : Option (Nat × va_E)) := hA232
        refine lv_aload_n hx hb d_4_12_141 rfl (lv_at hl 3 rfl) ?_
        refine q_get (ci := 3) (j := 0) (v := .ref (q (k2 + 1))) C0 V i_Dec rfl rfl hO227 (by decide) w_171 rfl d_4_12_142 ?_
        refine q_get (ci := 2) (j := 2) (v := .int t10_1) C0 V i_Big rfl rfl hO228 (by decide) w_97 rfl d_4_12_145 ?_
        refine lv_aload_n hx hb d_4_12_148 rfl (lv_at hl 4 rfl) ?_
        refine q_get (ci := 3) (j := 0) (v := .ref (q (k3 + 1))) C0 V i_Dec rfl rfl hO230 (by decide) w_171 rfl d_4_12_149 ?_
        refine q_get (ci := 2) (j := 2) (v := .int y127) C0 V i_Big rfl rfl hO231 (by decide) w_97 rfl d_4_12_152 ?_
        refine q_join (X := Int32) (fun z H locs ls _ => q_F (y117.toInt ≤ z.toInt) ∧ q_F (z.toInt ≤ y117.toInt + 1) ∧ q_Wd D g (va_A ws sz) s w240 H locs ∧ lv_has ls 10 [(7, .int lx74), (5, .long j69), (0, .ref (q 30)), (3, .int x4), (4, .int x5)] ∧ F_DW_divideToPrecision_J163 R R2 x4 x5 t0_0 t0_1 t1_0 t1_1 t2_0 t3_0 t3_1 t4_0 t5_0 t5_1 t6_0 t7_0 t7_1 t8_0 t9_0 t9_1 t10_0 t10_1 t11_0 t12_0 t12_1 t13_0 t13_1 t14_0 j69 lx74 a102 p153 j180 y109 y111 y112 f113 y116 y117 f118 y121 y122 f123 y126 y127 f128 p200 y190 y191 f192 lx213 lx214 lx215 lx216 lx217 z = (F_DW_divideToPrecision R R2 x4 x5 t0_0 t0_1 t1_0 t1_1 t2_0 t3_0 t3_1 t4_0 t5_0 t5_1 t6_0 t7_0 t7_1 t8_0 t9_0 t9_1 t10_0 t10_1 t11_0 t12_0 t12_1 t13_0 t13_1 t14_0) ∧ True ∧ S_DW_divideToPrecision_J163 R R2 x4 x5 t0_0 t0_1 t1_0 t1_1 t2_0 t3_0 t3_1 t4_0 t5_0 t5_1 t6_0 t7_0 t7_1 t8_0 t9_0 t9_1 t10_0 t10_1 t11_0 t12_0 t12_1 t13_0 t13_1 t14_0 j69 lx74 a102 p153 j180 y109 y111 y112 f113 y116 y117 f118 y121 y122 f123 y126 y127 f128 p200 y190 y191 f192 lx213 lx214 lx215 lx216 lx217 z) (fun z => [.int z]) 163 0 0 ?_ ?_
        ·
          rintro lx246 H locs ls _ hZ9
          obtain ⟨i263, hZ9⟩ := hZ9
          obtain ⟨i264, hZ9⟩ := hZ9
          obtain ⟨V, hZ9⟩ := hZ9
          obtain ⟨hl, hZ9⟩ := hZ9
          obtain ⟨hR265, hS266⟩ := hZ9
          replace i263 : q_F (y117.toInt ≤ lx246.toInt) := i263
          replace i264 : q_F (lx246.toInt ≤ y117.toInt + 1) := i264
          replace hl : lv_has ls 10 [(7, .int lx74), (5, .long j69), (0, .ref (q 30)), (3, .int x4), (4, .int x5)] := hl
          refine lv_istore (lv' := [(9, .int lx246), (7, .int lx74), (5, .long j69), (0, .ref (q 30)), (3, .int x4), (4, .int x5)]) hx hb d_4_12_163 hl (by decide) rfl (fun ls hl => ?_)
          refine lv_aload_n hx hb d_4_12_165 rfl (lv_at hl 3 rfl) ?_
          refine lv_iload hx hb d_4_12_166 (lv_at hl 0 rfl) ?_
          refine lv_iload hx hb d_4_12_168 (lv_at hl 1 rfl) ?_
          refine lv_lload hx hb d_4_12_170 (lv_at hl 2 rfl) ?_
          refine lv_iload_n hx hb d_4_12_172 rfl (lv_at hl 4 rfl) ?_
          refine lv_if_ne (tgt := 181) hx hb d_4_12_173 (by decide) (fun c270 => ?_) (fun c270 => ?_)
          ·
            refine lv_iload hx hb d_4_12_181 (lv_at hl 5 rfl) ?_
            refine q_goi V (q_runV (As := [.int lx246, .int lx74, .long j69, .int x5]) (rest := []) (d := 5) (mc := 0) (ms := 0) (ci := 5) C0 V rfl LV_DW_153 (X_DW_shorten l D g q w240  lx246 lx74 j69 x5 hI lx213 lx214 hO218 lx215 lx216 hO219 lx217 hA220 y121 y122 hO223 f123 hA224 y190 y191 hO225 f192 hA226 ⟨(by have t1 : 0 ≤ y117.toInt := b130; have t2 : y117.toInt ≤ lx246.toInt := i263; omega), (by have t1 : y117.toInt ≤ 0 := b131; have t2 : lx246.toInt ≤ y117.toInt + 1 := i264; omega)⟩ _) rfl rfl hO218 rfl hl.1 rfl (Nat.le_of_ble_eq_true rfl) ⟨by decide, by decide⟩ ⟨Nat.le_of_ble_eq_true rfl, Nat.le_of_ble_eq_true rfl⟩ d_4_12_183) (fun a274 u272 H locs hp273 V => ?_)
            obtain ⟨hI, hZ9⟩ := hp273
            obtain ⟨hu311, hZ9⟩ := hZ9
            obtain ⟨y276, hZ9⟩ := hZ9
            obtain ⟨y277, hZ9⟩ := hZ9
            obtain ⟨y279, hZ9⟩ := hZ9
            obtain ⟨y280, hZ9⟩ := hZ9
            obtain ⟨f281, hZ9⟩ := hZ9
            obtain ⟨y284, hZ9⟩ := hZ9
            obtain ⟨y285, hZ9⟩ := hZ9
            obtain ⟨f286, hZ9⟩ := hZ9
            obtain ⟨y289, hZ9⟩ := hZ9
            obtain ⟨y290, hZ9⟩ := hZ9
            obtain ⟨f291, hZ9⟩ := hZ9
            obtain ⟨hO275, hZ9⟩ := hZ9
            obtain ⟨hO278, hZ9⟩ := hZ9
            obtain ⟨hA282, hZ9⟩ := hZ9
            obtain ⟨hO283, hZ9⟩ := hZ9
            obtain ⟨hA287, hZ9⟩ := hZ9
            obtain ⟨hO288, hZ9⟩ := hZ9
            obtain ⟨hA292, hZ9⟩ := hZ9
            obtain ⟨b293, hZ9⟩ := hZ9
            obtain ⟨b294, hZ9⟩ := hZ9
            obtain ⟨b295, hZ9⟩ := hZ9
            obtain ⟨b296, hZ9⟩ := hZ9
            obtain ⟨b297, hZ9⟩ := hZ9
            obtain ⟨b298, hZ9⟩ := hZ9
            obtain ⟨b299, hZ9⟩ := hZ9
            obtain ⟨b300, hZ9⟩ := hZ9
            obtain ⟨b301, hZ9⟩ := hZ9
            obtain ⟨b302, hZ9⟩ := hZ9
            obtain ⟨b303, hZ9⟩ := hZ9
            obtain ⟨b304, hZ9⟩ := hZ9
            obtain ⟨b305, hZ9⟩ := hZ9
            obtain ⟨b306, hZ9⟩ := hZ9
            obtain ⟨b307, hZ9⟩ := hZ9
            obtain ⟨b308, hZ9⟩ := hZ9
            obtain ⟨-, hE310⟩ := hZ9
            replace hO275 : u272[30]? = (some (q 30, .inr (5, [.ref (q 31), .long y276, .ref (q 9), .int y277])) : Option (Nat × va_E)) := hO275
            replace hO278 : u272[10]? = (some (q 10, .inr (2, [.ref (q 11), .int y279, .int y280])) : Option (Nat × va_E)) := hO278
            replace hA282 : u272[11]? = (some (q 11, .inl (g 0, (220 : Int32).toNatClampNeg, .inl f281)) : Option (Nat × va_E)) := hA282
            replace hO283 : u272[22]? = (some (q 22, .inr (2, [.ref (q 23), .int y284, .int y285])) : Option (Nat × va_E)) := hO283
            replace hA287 : u272[23]? = (some (q 23, .inl (g 0, (220 : Int32).toNatClampNeg, .inl f286)) : Option (Nat × va_E)) := hA287
            replace hO288 : u272[20]? = (some (q 20, .inr (2, [.ref (q 21), .int y289, .int y290])) : Option (Nat × va_E)) := hO288
            replace hA292 : u272[21]? = (some (q 21, .inl (g 0, (220 : Int32).toNatClampNeg, .inl f291)) : Option (Nat × va_E)) := hA292
            obtain ⟨p312, e313⟩ : ∃ z, z = (F_DW_shorten lx246 lx74 j69 x5 lx213 lx214 lx215 lx216 lx217 y121 y122 f123 y190 y191 f192) := ⟨_, rfl⟩
            have e314 : a274 = p312.1 := congrArg (fun z => z.1) (hE310.trans e313.symm)
            have e315 : y276 = p312.2.1 := congrArg (fun z => z.2.1) (hE310.trans e313.symm)
            have e316 : y277 = p312.2.2.1 := congrArg (fun z => z.2.2.1) (hE310.trans e313.symm)
            have e317 : y279 = p312.2.2.2.1 := congrArg (fun z => z.2.2.2.1) (hE310.trans e313.symm)
            have e318 : y280 = p312.2.2.2.2.1 := congrArg (fun z => z.2.2.2.2.1) (hE310.trans e313.symm)
            have e319 : f281 = p312.2.2.2.2.2.1 := congrArg (fun z => z.2.2.2.2.2.1) (hE310.trans e313.symm)
            have e320 : y284 = p312.2.2.2.2.2.2.1 := congrArg (fun z => z.2.2.2.2.2.2.1) (hE310.trans e313.symm)
            have e321 : y285 = p312.2.2.2.2.2.2.2.1 := congrArg (fun z => z.2.2.2.2.2.2.2.1) (hE310.trans e313.symm)
            have e322 : f286 = p312.2.2.2.2.2.2.2.2.1 := congrArg (fun z => z.2.2.2.2.2.2.2.2.1) (hE310.trans e313.symm)
            have e323 : y289 = p312.2.2.2.2.2.2.2.2.2.1 := congrArg (fun z => z.2.2.2.2.2.2.2.2.2.1) (hE310.trans e313.symm)
            have e324 : y290 = p312.2.2.2.2.2.2.2.2.2.2.1 := congrArg (fun z => z.2.2.2.2.2.2.2.2.2.2.1) (hE310.trans e313.symm)
            have e325 : f291 = p312.2.2.2.2.2.2.2.2.2.2.2 := congrArg (fun z => z.2.2.2.2.2.2.2.2.2.2.2) (hE310.trans e313.symm)
            replace b293 : q_F (0 ≤ a274.toInt) := b293
            replace b294 : q_F (a274.toInt ≤ 1) := b294
            replace b295 : q_F (0 ≤ y279.toInt) := b295
            replace b296 : q_F (y279.toInt ≤ 220) := b296
            replace b297 : q_F (0 ≤ y280.toInt) := b297
            replace b298 : q_F (y280.toInt ≤ 1) := b298
            replace b299 : q_F (0 ≤ y284.toInt) := b299
            replace b300 : q_F (y284.toInt ≤ 220) := b300
            replace b301 : q_F (0 ≤ y285.toInt) := b301
            replace b302 : q_F (y285.toInt ≤ 1) := b302
            replace b303 : q_F (0 ≤ y289.toInt) := b303
            replace b304 : q_F (y289.toInt ≤ 220) := b304
            replace b305 : q_F (0 ≤ y290.toInt) := b305
            replace b306 : q_F (y290.toInt ≤ 1) := b306
            replace b307 : q_F (lx214.toInt ≤ y277.toInt) := b307
            replace b308 : q_F (y277.toInt ≤ lx214.toInt) := b308
            replace hO221 := (hu311 _ (by decide)).trans hO221
            replace hA222 := (hu311 _ (by decide)).trans hA222
            replace hO231 := (hu311 _ (by have z0 := zk3; simp only [List.mem_cons, List.not_mem_nil, or_false, not_or]; omega)).trans hO231
            replace hA232 := (hu311 _ (by have z0 := zk3; simp only [List.mem_cons, List.not_mem_nil, or_false, not_or]; omega)).trans hA232
            replace hF := q_uc hF hu311 (by first | exact (q_sk (q_mi 0 rfl) (q_sk (q_mi 1 rfl) (q_sk (q_mi 4 rfl) (q_sk (q_mi 5 rfl) (q_sk (q_mi 6 rfl) (q_sk (q_mi 7 rfl) (q_sk (q_mi 8 rfl) q_s0))))))) | simp)
            have hR326 := (show F_DW_divideToPrecision_c183 R R2 x4 x5 t0_0 t0_1 t1_0 t1_1 t2_0 t3_0 t3_1 t4_0 t5_0 t5_1 t6_0 t7_0 t7_1 t8_0 t9_0 t9_1 t10_0 t10_1 t11_0 t12_0 t12_1 t13_0 t13_1 t14_0 j69 lx74 a102 p153 j180 y109 y111 y112 f113 y116 y117 f118 y121 y122 f123 y126 y127 f128 p200 y190 y191 f192 lx213 lx214 lx215 lx216 lx217 lx246 p312 = (F_DW_divideToPrecision R R2 x4 x5 t0_0 t0_1 t1_0 t1_1 t2_0 t3_0 t3_1 t4_0 t5_0 t5_1 t6_0 t7_0 t7_1 t8_0 t9_0 t9_1 t10_0 t10_1 t11_0 t12_0 t12_1 t13_0 t13_1 t14_0) from Eq.trans (by rw [e313, F_DW_divideToPrecision_J163.eq_1, if_neg c270]) hR265)
            have hS327 := (show True ∧ S_DW_divideToPrecision_c183 R R2 x4 x5 t0_0 t0_1 t1_0 t1_1 t2_0 t3_0 t3_1 t4_0 t5_0 t5_1 t6_0 t7_0 t7_1 t8_0 t9_0 t9_1 t10_0 t10_1 t11_0 t12_0 t12_1 t13_0 t13_1 t14_0 j69 lx74 a102 p153 j180 y109 y111 y112 f113 y116 y117 f118 y121 y122 f123 y126 y127 f128 p200 y190 y191 f192 lx213 lx214 lx215 lx216 lx217 lx246 p312 from (by rw [e313]; have h := hS266; rw [S_DW_divideToPrecision_J163.eq_1] at h; rw [if_neg c270] at h; with_reducible exact h))
            exact q_retz C0 V (q_nz01 (q_Ile (x := 0) (y := a274.toInt) (by decide) rfl (by first | with_reducible exact q_fe b293 | (have t1 : 0 ≤ a274.toInt := b293; omega))) (q_Ile (x := a274.toInt) (y := 1) rfl (by decide) (by first | with_reducible exact q_fe b294 | (have t1 : a274.toInt ≤ 1 := b294; omega)))) (⟨hI, hF, y276, y277, y279, y280, f281, y116, y117, f118, y284, y285, f286, y289, y290, f291, y126, y127, f128, hO275, hO278, hA282, hO221, hA222, hO283, hA287, hO288, hA292, hO231, hA232, (show 0 ≤ a274.toInt from (by first | with_reducible exact q_fe b293 | (have t1 : 0 ≤ a274.toInt := b293; omega))), (show a274.toInt ≤ 1 from (by first | with_reducible exact q_fe b294 | (have t1 : a274.toInt ≤ 1 := b294; omega))), (show 0 ≤ y277.toInt from (by have t1 : lx216.toInt ≤ lx214.toInt := i235; have t2 : 0 ≤ lx214.toInt + lx216.toInt := i237; have t3 : lx214.toInt ≤ y277.toInt := b307; omega)), (show y277.toInt ≤ 1 from (by have t1 : lx214.toInt ≤ lx216.toInt + 1 := i236; have t2 : lx214.toInt + lx216.toInt ≤ 1 := i238; have t3 : y277.toInt ≤ lx214.toInt := b308; omega)), (show 0 ≤ y279.toInt from (by first | with_reducible exact q_fe b295 | (have t1 : 0 ≤ y279.toInt := b295; omega))), (show y279.toInt ≤ 220 from (by first | with_reducible exact q_fe b296 | (have t1 : y279.toInt ≤ 220 := b296; omega))), (show 0 ≤ y280.toInt from (by first | with_reducible exact q_fe b297 | (have t1 : 0 ≤ y280.toInt := b297; omega))), (show y280.toInt ≤ 1 from (by first | with_reducible exact q_fe b298 | (have t1 : y280.toInt ≤ 1 := b298; omega))), (show 0 ≤ y116.toInt from (by have t1 : 0 ≤ y117.toInt := b130; have t2 : y111.toInt ≤ y116.toInt := b141; have t3 : y117.toInt ≤ y111.toInt := b142; omega)), (show y116.toInt ≤ 220 from (by have t1 : y117.toInt ≤ 0 := b131; have t2 : y116.toInt ≤ y117.toInt + 220 := b145; omega)), (show 0 ≤ y117.toInt from (by first | with_reducible exact q_fe b130 | (have t1 : 0 ≤ y117.toInt := b130; omega))), (show y117.toInt ≤ 1 from (by first | with_reducible exact q_fe b131 | (have t1 : y117.toInt ≤ 0 := b131; omega))), (show 0 ≤ y284.toInt from (by first | with_reducible exact q_fe b299 | (have t1 : 0 ≤ y284.toInt := b299; omega))), (show y284.toInt ≤ 220 from (by first | with_reducible exact q_fe b300 | (have t1 : y284.toInt ≤ 220 := b300; omega))), (show 0 ≤ y285.toInt from (by first | with_reducible exact q_fe b301 | (have t1 : 0 ≤ y285.toInt := b301; omega))), (show y285.toInt ≤ 1 from (by first | with_reducible exact q_fe b302 | (have t1 : y285.toInt ≤ 1 := b302; omega))), (show 0 ≤ y289.toInt from (by first | with_reducible exact q_fe b303 | (have t1 : 0 ≤ y289.toInt := b303; omega))), (show y289.toInt ≤ 220 from (by first | with_reducible exact q_fe b304 | (have t1 : y289.toInt ≤ 220 := b304; omega))), (show 0 ≤ y290.toInt from (by first | with_reducible exact q_fe b305 | (have t1 : 0 ≤ y290.toInt := b305; omega))), (show y290.toInt ≤ 1 from (by first | with_reducible exact q_fe b306 | (have t1 : y290.toInt ≤ 1 := b306; omega))), (show 0 ≤ y126.toInt from (by have t1 : 0 ≤ y117.toInt := b130; have t2 : y117.toInt ≤ y126.toInt := b149; omega)), (show y126.toInt ≤ 220 from (by have t1 : 0 ≤ R2.toInt ∧ R2.toInt ≤ 220 := hfk30; have t2 : y126.toInt ≤ R2.toInt := b137; omega)), (show 0 ≤ y127.toInt from (by have t1 : 0 ≤ y117.toInt := b130; have t2 : y117.toInt ≤ y127.toInt := b150; omega)), (show y127.toInt ≤ 1 from (by have t1 : 0 ≤ t13_1.toInt ∧ t13_1.toInt ≤ 1 := btt13_1; have t2 : y127.toInt ≤ t13_1.toInt := b138; omega)), (show y279.toInt ≤ t10_0.toInt + 219 from (by have t1 : 0 ≤ t10_0.toInt ∧ t10_0.toInt ≤ R.toInt := btt10_0; have t2 : t10_0.toInt ≠ 0 := b73; have t3 : y279.toInt ≤ 220 := b296; omega)), (show y280.toInt ≤ t10_0.toInt from (by have t1 : 0 ≤ t10_0.toInt ∧ t10_0.toInt ≤ R.toInt := btt10_0; have t2 : t10_0.toInt ≠ 0 := b73; have t3 : y280.toInt ≤ 1 := b298; omega)), (show y117.toInt ≤ t3_1.toInt from (by have t1 : 0 ≤ t3_1.toInt ∧ t3_1.toInt ≤ 1 := btt3_1; have t2 : y117.toInt ≤ 0 := b131; omega)), (show y126.toInt ≤ t13_0.toInt + 218 from (by first | with_reducible exact q_fe b136 | (have t1 : y126.toInt ≤ t13_0.toInt + 218 := b136; omega))), (show y126.toInt ≤ R2.toInt from (by first | with_reducible exact q_fe b137 | (have t1 : y126.toInt ≤ R2.toInt := b137; omega))), (show y127.toInt ≤ t13_1.toInt from (by first | with_reducible exact q_fe b138 | (have t1 : y127.toInt ≤ t13_1.toInt := b138; omega))), (show y117.toInt ≤ a274.toInt from (by have t1 : y117.toInt ≤ 0 := b131; have t2 : 0 ≤ a274.toInt := b293; omega)), (show (a274, y276, y277, y279, y280, f281, y116, y117, f118, y284, y285, f286, y289, y290, f291, y126, y127, f128) = (F_DW_divideToPrecision R R2 x4 x5 t0_0 t0_1 t1_0 t1_1 t2_0 t3_0 t3_1 t4_0 t5_0 t5_1 t6_0 t7_0 t7_1 t8_0 t9_0 t9_1 t10_0 t10_1 t11_0 t12_0 t12_1 t13_0 t13_1 t14_0) from Eq.trans (by rw [e325, e324, e323, e322, e321, e320, e319, e318, e317, e316, e315, e314, F_DW_divideToPrecision_c183.eq_1]) hR326)⟩) d_4_12_186
          ·
            refine lv_bipush (v := 7) hx hb d_4_12_176 (by decide) ?_
            refine lv_goto (tgt := 183) hx hb d_4_12_178 (by decide) ?_
            refine q_goi V (q_runV (As := [.int lx246, .int lx74, .long j69, .int 7]) (rest := []) (d := 5) (mc := 0) (ms := 0) (ci := 5) C0 V rfl LV_DW_153 (X_DW_shorten l D g q w240  lx246 lx74 j69 7 hI lx213 lx214 hO218 lx215 lx216 hO219 lx217 hA220 y121 y122 hO223 f123 hA224 y190 y191 hO225 f192 hA226 ⟨(by have y0 : (7 : Int32).toInt = 7 := rfl; have t1 : 0 ≤ y117.toInt := b130; have t2 : y117.toInt ≤ lx246.toInt := i263; omega), (by have y0 : (7 : Int32).toInt = 7 := rfl; have t1 : y117.toInt ≤ 0 := b131; have t2 : lx246.toInt ≤ y117.toInt + 1 := i264; omega)⟩ _) rfl rfl hO218 rfl hl.1 rfl (Nat.le_of_ble_eq_true rfl) ⟨by decide, by decide⟩ ⟨Nat.le_of_ble_eq_true rfl, Nat.le_of_ble_eq_true rfl⟩ d_4_12_183) (fun a334 u332 H locs hp333 V => ?_)
            obtain ⟨hI, hZ9⟩ := hp333
            obtain ⟨hu371, hZ9⟩ := hZ9
            obtain ⟨y336, hZ9⟩ := hZ9
            obtain ⟨y337, hZ9⟩ := hZ9
            obtain ⟨y339, hZ9⟩ := hZ9
            obtain ⟨y340, hZ9⟩ := hZ9
            obtain ⟨f341, hZ9⟩ := hZ9
            obtain ⟨y344, hZ9⟩ := hZ9
            obtain ⟨y345, hZ9⟩ := hZ9
            obtain ⟨f346, hZ9⟩ := hZ9
            obtain ⟨y349, hZ9⟩ := hZ9
            obtain ⟨y350, hZ9⟩ := hZ9
            obtain ⟨f351, hZ9⟩ := hZ9
            obtain ⟨hO335, hZ9⟩ := hZ9
            obtain ⟨hO338, hZ9⟩ := hZ9
            obtain ⟨hA342, hZ9⟩ := hZ9
            obtain ⟨hO343, hZ9⟩ := hZ9
            obtain ⟨hA347, hZ9⟩ := hZ9
            obtain ⟨hO348, hZ9⟩ := hZ9
            obtain ⟨hA352, hZ9⟩ := hZ9
            obtain ⟨b353, hZ9⟩ := hZ9
            obtain ⟨b354, hZ9⟩ := hZ9
            obtain ⟨b355, hZ9⟩ := hZ9
            obtain ⟨b356, hZ9⟩ := hZ9
            obtain ⟨b357, hZ9⟩ := hZ9
            obtain ⟨b358, hZ9⟩ := hZ9
            obtain ⟨b359, hZ9⟩ := hZ9
            obtain ⟨b360, hZ9⟩ := hZ9
            obtain ⟨b361, hZ9⟩ := hZ9
            obtain ⟨b362, hZ9⟩ := hZ9
            obtain ⟨b363, hZ9⟩ := hZ9
            obtain ⟨b364, hZ9⟩ := hZ9
            obtain ⟨b365, hZ9⟩ := hZ9
            obtain ⟨b366, hZ9⟩ := hZ9
            obtain ⟨b367, hZ9⟩ := hZ9
            obtain ⟨b368, hZ9⟩ := hZ9
            obtain ⟨-, hE370⟩ := hZ9
            replace hO335 : u332[30]? = (some (q 30, .inr (5, [.ref (q 31), .long y336, .ref (q 9), .int y337])) : Option (Nat × va_E)) := hO335
            replace hO338 : u332[10]? = (some (q 10, .inr (2, [.ref (q 11), .int y339, .int y340])) : Option (Nat × va_E)) := hO338
            replace hA342 : u332[11]? = (some (q 11, .inl (g 0, (220 : Int32).toNatClampNeg, .inl f341)) : Option (Nat × va_E)) := hA342
            replace hO343 : u332[22]? = (some (q 22, .inr (2, [.ref (q 23), .int y344, .int y345])) : Option (Nat × va_E)) := hO343
            replace hA347 : u332[23]? = (some (q 23, .inl (g 0, (220 : Int32).toNatClampNeg, .inl f346)) : Option (Nat × va_E)) := hA347
            replace hO348 : u332[20]? = (some (q 20, .inr (2, [.ref (q 21), .int y349, .int y350])) : Option (Nat × va_E)) := hO348
            replace hA352 : u332[21]? = (some (q 21, .inl (g 0, (220 : Int32).toNatClampNeg, .inl f351)) : Option (Nat × va_E)) := hA352
            obtain ⟨p372, e373⟩ : ∃ z, z = (F_DW_shorten lx246 lx74 j69 (7 : Int32) lx213 lx214 lx215 lx216 lx217 y121 y122 f123 y190 y191 f192) := ⟨_, rfl⟩
            have e374 : a334 = p372.1 := congrArg (fun z => z.1) (hE370.trans e373.symm)
            have e375 : y336 = p372.2.1 := congrArg (fun z => z.2.1) (hE370.trans e373.symm)
            have e376 : y337 = p372.2.2.1 := congrArg (fun z => z.2.2.1) (hE370.trans e373.symm)
            have e377 : y339 = p372.2.2.2.1 := congrArg (fun z => z.2.2.2.1) (hE370.trans e373.symm)
            have e378 : y340 = p372.2.2.2.2.1 := congrArg (fun z => z.2.2.2.2.1) (hE370.trans e373.symm)
            have e379 : f341 = p372.2.2.2.2.2.1 := congrArg (fun z => z.2.2.2.2.2.1) (hE370.trans e373.symm)
            have e380 : y344 = p372.2.2.2.2.2.2.1 := congrArg (fun z => z.2.2.2.2.2.2.1) (hE370.trans e373.symm)
            have e381 : y345 = p372.2.2.2.2.2.2.2.1 := congrArg (fun z => z.2.2.2.2.2.2.2.1) (hE370.trans e373.symm)
            have e382 : f346 = p372.2.2.2.2.2.2.2.2.1 := congrArg (fun z => z.2.2.2.2.2.2.2.2.1) (hE370.trans e373.symm)
            have e383 : y349 = p372.2.2.2.2.2.2.2.2.2.1 := congrArg (fun z => z.2.2.2.2.2.2.2.2.2.1) (hE370.trans e373.symm)
            have e384 : y350 = p372.2.2.2.2.2.2.2.2.2.2.1 := congrArg (fun z => z.2.2.2.2.2.2.2.2.2.2.1) (hE370.trans e373.symm)
            have e385 : f351 = p372.2.2.2.2.2.2.2.2.2.2.2 := congrArg (fun z => z.2.2.2.2.2.2.2.2.2.2.2) (hE370.trans e373.symm)
            replace b353 : q_F (0 ≤ a334.toInt) := b353
            replace b354 : q_F (a334.toInt ≤ 1) := b354
            replace b355 : q_F (0 ≤ y339.toInt) := b355
            replace b356 : q_F (y339.toInt ≤ 220) := b356
            replace b357 : q_F (0 ≤ y340.toInt) := b357
            replace b358 : q_F (y340.toInt ≤ 1) := b358
            replace b359 : q_F (0 ≤ y344.toInt) := b359
            replace b360 : q_F (y344.toInt ≤ 220) := b360
            replace b361 : q_F (0 ≤ y345.toInt) := b361
            replace b362 : q_F (y345.toInt ≤ 1) := b362
            replace b363 : q_F (0 ≤ y349.toInt) := b363
            replace b364 : q_F (y349.toInt ≤ 220) := b364
            replace b365 : q_F (0 ≤ y350.toInt) := b365
            replace b366 : q_F (y350.toInt ≤ 1) := b366
            replace b367 : q_F (lx214.toInt ≤ y337.toInt) := b367
            replace b368 : q_F (y337.toInt ≤ lx214.toInt) := b368
            replace hO221 := (hu371 _ (by decide)).trans hO221
            replace hA222 := (hu371 _ (by decide)).trans hA222
            replace hO231 := (hu371 _ (by have z0 := zk3; simp only [List.mem_cons, List.not_mem_nil, or_false, not_or]; omega)).trans hO231
            replace hA232 := (hu371 _ (by have z0 := zk3; simp only [List.mem_cons, List.not_mem_nil, or_false, not_or]; omega)).trans hA232
            replace hF := q_uc hF hu371 (by first | exact (q_sk (q_mi 0 rfl) (q_sk (q_mi 1 rfl) (q_sk (q_mi 4 rfl) (q_sk (q_mi 5 rfl) (q_sk (q_mi 6 rfl) (q_sk (q_mi 7 rfl) (q_sk (q_mi 8 rfl) q_s0))))))) | simp)
            have hR386 := (show F_DW_divideToPrecision_c183_7 R R2 x4 x5 t0_0 t0_1 t1_0 t1_1 t2_0 t3_0 t3_1 t4_0 t5_0 t5_1 t6_0 t7_0 t7_1 t8_0 t9_0 t9_1 t10_0 t10_1 t11_0 t12_0 t12_1 t13_0 t13_1 t14_0 j69 lx74 a102 p153 j180 y109 y111 y112 f113 y116 y117 f118 y121 y122 f123 y126 y127 f128 p200 y190 y191 f192 lx213 lx214 lx215 lx216 lx217 lx246 p372 = (F_DW_divideToPrecision R R2 x4 x5 t0_0 t0_1 t1_0 t1_1 t2_0 t3_0 t3_1 t4_0 t5_0 t5_1 t6_0 t7_0 t7_1 t8_0 t9_0 t9_1 t10_0 t10_1 t11_0 t12_0 t12_1 t13_0 t13_1 t14_0) from Eq.trans (by rw [e373, F_DW_divideToPrecision_J163.eq_1, if_pos c270]) hR265)
            have hS387 := (show True ∧ S_DW_divideToPrecision_c183_7 R R2 x4 x5 t0_0 t0_1 t1_0 t1_1 t2_0 t3_0 t3_1 t4_0 t5_0 t5_1 t6_0 t7_0 t7_1 t8_0 t9_0 t9_1 t10_0 t10_1 t11_0 t12_0 t12_1 t13_0 t13_1 t14_0 j69 lx74 a102 p153 j180 y109 y111 y112 f113 y116 y117 f118 y121 y122 f123 y126 y127 f128 p200 y190 y191 f192 lx213 lx214 lx215 lx216 lx217 lx246 p372 from (by rw [e373]; have h := hS266; rw [S_DW_divideToPrecision_J163.eq_1] at h; rw [if_pos c270] at h; with_reducible exact h))
            exact q_retz C0 V (q_nz01 (q_Ile (x := 0) (y := a334.toInt) (by decide) rfl (by first | with_reducible exact q_fe b353 | (have t1 : 0 ≤ a334.toInt := b353; omega))) (q_Ile (x := a334.toInt) (y := 1) rfl (by decide) (by first | with_reducible exact q_fe b354 | (have t1 : a334.toInt ≤ 1 := b354; omega)))) (⟨hI, hF, y336, y337, y339, y340, f341, y116, y117, f118, y344, y345, f346, y349, y350, f351, y126, y127, f128, hO335, hO338, hA342, hO221, hA222, hO343, hA347, hO348, hA352, hO231, hA232, (show 0 ≤ a334.toInt from (by first | with_reducible exact q_fe b353 | (have t1 : 0 ≤ a334.toInt := b353; omega))), (show a334.toInt ≤ 1 from (by first | with_reducible exact q_fe b354 | (have t1 : a334.toInt ≤ 1 := b354; omega))), (show 0 ≤ y337.toInt from (by have t1 : lx216.toInt ≤ lx214.toInt := i235; have t2 : 0 ≤ lx214.toInt + lx216.toInt := i237; have t3 : lx214.toInt ≤ y337.toInt := b367; omega)), (show y337.toInt ≤ 1 from (by have t1 : lx214.toInt ≤ lx216.toInt + 1 := i236; have t2 : lx214.toInt + lx216.toInt ≤ 1 := i238; have t3 : y337.toInt ≤ lx214.toInt := b368; omega)), (show 0 ≤ y339.toInt from (by first | with_reducible exact q_fe b355 | (have t1 : 0 ≤ y339.toInt := b355; omega))), (show y339.toInt ≤ 220 from (by first | with_reducible exact q_fe b356 | (have t1 : y339.toInt ≤ 220 := b356; omega))), (show 0 ≤ y340.toInt from (by first | with_reducible exact q_fe b357 | (have t1 : 0 ≤ y340.toInt := b357; omega))), (show y340.toInt ≤ 1 from (by first | with_reducible exact q_fe b358 | (have t1 : y340.toInt ≤ 1 := b358; omega))), (show 0 ≤ y116.toInt from (by have t1 : 0 ≤ y117.toInt := b130; have t2 : y111.toInt ≤ y116.toInt := b141; have t3 : y117.toInt ≤ y111.toInt := b142; omega)), (show y116.toInt ≤ 220 from (by have t1 : y117.toInt ≤ 0 := b131; have t2 : y116.toInt ≤ y117.toInt + 220 := b145; omega)), (show 0 ≤ y117.toInt from (by first | with_reducible exact q_fe b130 | (have t1 : 0 ≤ y117.toInt := b130; omega))), (show y117.toInt ≤ 1 from (by first | with_reducible exact q_fe b131 | (have t1 : y117.toInt ≤ 0 := b131; omega))), (show 0 ≤ y344.toInt from (by first | with_reducible exact q_fe b359 | (have t1 : 0 ≤ y344.toInt := b359; omega))), (show y344.toInt ≤ 220 from (by first | with_reducible exact q_fe b360 | (have t1 : y344.toInt ≤ 220 := b360; omega))), (show 0 ≤ y345.toInt from (by first | with_reducible exact q_fe b361 | (have t1 : 0 ≤ y345.toInt := b361; omega))), (show y345.toInt ≤ 1 from (by first | with_reducible exact q_fe b362 | (have t1 : y345.toInt ≤ 1 := b362; omega))), (show 0 ≤ y349.toInt from (by first | with_reducible exact q_fe b363 | (have t1 : 0 ≤ y349.toInt := b363; omega))), (show y349.toInt ≤ 220 from (by first | with_reducible exact q_fe b364 | (have t1 : y349.toInt ≤ 220 := b364; omega))), (show 0 ≤ y350.toInt from (by first | with_reducible exact q_fe b365 | (have t1 : 0 ≤ y350.toInt := b365; omega))), (show y350.toInt ≤ 1 from (by first | with_reducible exact q_fe b366 | (have t1 : y350.toInt ≤ 1 := b366; omega))), (show 0 ≤ y126.toInt from (by have t1 : 0 ≤ y117.toInt := b130; have t2 : y117.toInt ≤ y126.toInt := b149; omega)), (show y126.toInt ≤ 220 from (by have t1 : 0 ≤ R2.toInt ∧ R2.toInt ≤ 220 := hfk30; have t2 : y126.toInt ≤ R2.toInt := b137; omega)), (show 0 ≤ y127.toInt from (by have t1 : 0 ≤ y117.toInt := b130; have t2 : y117.toInt ≤ y127.toInt := b150; omega)), (show y127.toInt ≤ 1 from (by have t1 : 0 ≤ t13_1.toInt ∧ t13_1.toInt ≤ 1 := btt13_1; have t2 : y127.toInt ≤ t13_1.toInt := b138; omega)), (show y339.toInt ≤ t10_0.toInt + 219 from (by have t1 : 0 ≤ t10_0.toInt ∧ t10_0.toInt ≤ R.toInt := btt10_0; have t2 : t10_0.toInt ≠ 0 := b73; have t3 : y339.toInt ≤ 220 := b356; omega)), (show y340.toInt ≤ t10_0.toInt from (by have t1 : 0 ≤ t10_0.toInt ∧ t10_0.toInt ≤ R.toInt := btt10_0; have t2 : t10_0.toInt ≠ 0 := b73; have t3 : y340.toInt ≤ 1 := b358; omega)), (show y117.toInt ≤ t3_1.toInt from (by have t1 : 0 ≤ t3_1.toInt ∧ t3_1.toInt ≤ 1 := btt3_1; have t2 : y117.toInt ≤ 0 := b131; omega)), (show y126.toInt ≤ t13_0.toInt + 218 from (by first | with_reducible exact q_fe b136 | (have t1 : y126.toInt ≤ t13_0.toInt + 218 := b136; omega))), (show y126.toInt ≤ R2.toInt from (by first | with_reducible exact q_fe b137 | (have t1 : y126.toInt ≤ R2.toInt := b137; omega))), (show y127.toInt ≤ t13_1.toInt from (by first | with_reducible exact q_fe b138 | (have t1 : y127.toInt ≤ t13_1.toInt := b138; omega))), (show y117.toInt ≤ a334.toInt from (by have t1 : y117.toInt ≤ 0 := b131; have t2 : 0 ≤ a334.toInt := b353; omega)), (show (a334, y336, y337, y339, y340, f341, y116, y117, f118, y344, y345, f346, y349, y350, f351, y126, y127, f128) = (F_DW_divideToPrecision R R2 x4 x5 t0_0 t0_1 t1_0 t1_1 t2_0 t3_0 t3_1 t4_0 t5_0 t5_1 t6_0 t7_0 t7_1 t8_0 t9_0 t9_1 t10_0 t10_1 t11_0 t12_0 t12_1 t13_0 t13_1 t14_0) from Eq.trans (by rw [e385, e384, e383, e382, e381, e380, e379, e378, e377, e376, e375, e374, F_DW_divideToPrecision_c183_7.eq_1]) hR386)⟩) d_4_12_186
        ·
          intro J262
          refine lv_icmp_eq (tgt := 162) hx hb d_4_12_155 (by decide) (fun c391 => ?_) (fun c391 => ?_)
          ·
            refine lv_iconst (v := 0) hx hb d_4_12_162 (by decide) ?_
            exact J262 ((0 : Int32)) _ _ _ w240 ⟨(show q_F (y117.toInt ≤ 0) from (show y117.toInt ≤ 0 from by have t1 : y117.toInt ≤ 0 := b131; omega)), (show q_F (0 ≤ y117.toInt + 1) from (show 0 ≤ y117.toInt + 1 from by have t1 : 0 ≤ y117.toInt := b130; omega)), V, q_lw hl (q_lw1 0 rfl (q_lw1 1 rfl (q_lw1 2 rfl (q_lw1 5 rfl (q_lw1 6 rfl q_lw0))))), (show F_DW_divideToPrecision_J163 R R2 x4 x5 t0_0 t0_1 t1_0 t1_1 t2_0 t3_0 t3_1 t4_0 t5_0 t5_1 t6_0 t7_0 t7_1 t8_0 t9_0 t9_1 t10_0 t10_1 t11_0 t12_0 t12_1 t13_0 t13_1 t14_0 j69 lx74 a102 p153 j180 y109 y111 y112 f113 y116 y117 f118 y121 y122 f123 y126 y127 f128 p200 y190 y191 f192 lx213 lx214 lx215 lx216 lx217 0 = (F_DW_divideToPrecision R R2 x4 x5 t0_0 t0_1 t1_0 t1_1 t2_0 t3_0 t3_1 t4_0 t5_0 t5_1 t6_0 t7_0 t7_1 t8_0 t9_0 t9_1 t10_0 t10_1 t11_0 t12_0 t12_1 t13_0 t13_1 t14_0) from Eq.trans (by rw [F_DW_divideToPrecision_J141.eq_1, if_pos c391]) hR241), (show True ∧ S_DW_divideToPrecision_J163 R R2 x4 x5 t0_0 t0_1 t1_0 t1_1 t2_0 t3_0 t3_1 t4_0 t5_0 t5_1 t6_0 t7_0 t7_1 t8_0 t9_0 t9_1 t10_0 t10_1 t11_0 t12_0 t12_1 t13_0 t13_1 t14_0 j69 lx74 a102 p153 j180 y109 y111 y112 f113 y116 y117 f118 y121 y122 f123 y126 y127 f128 p200 y190 y191 f192 lx213 lx214 lx215 lx216 lx217 0 from (by have h := hS242; rw [S_DW_divideToPrecision_J141.eq_1] at h; rw [if_pos c391] at h; with_reducible exact h))⟩
          ·
            refine lv_iconst (v := 1) hx hb d_4_12_158 (by decide) ?_
            refine lv_goto (tgt := 163) hx hb d_4_12_159 (by decide) ?_
            exact J262 ((1 : Int32)) _ _ _ w240 ⟨(show q_F (y117.toInt ≤ 1) from (show y117.toInt ≤ 1 from by have t1 : y117.toInt ≤ 0 := b131; omega)), (show q_F (1 ≤ y117.toInt + 1) from (show 1 ≤ y117.toInt + 1 from by have t1 : 0 ≤ y117.toInt := b130; omega)), V, q_lw hl (q_lw1 0 rfl (q_lw1 1 rfl (q_lw1 2 rfl (q_lw1 5 rfl (q_lw1 6 rfl q_lw0))))), (show F_DW_divideToPrecision_J163 R R2 x4 x5 t0_0 t0_1 t1_0 t1_1 t2_0 t3_0 t3_1 t4_0 t5_0 t5_1 t6_0 t7_0 t7_1 t8_0 t9_0 t9_1 t10_0 t10_1 t11_0 t12_0 t12_1 t13_0 t13_1 t14_0 j69 lx74 a102 p153 j180 y109 y111 y112 f113 y116 y117 f118 y121 y122 f123 y126 y127 f128 p200 y190 y191 f192 lx213 lx214 lx215 lx216 lx217 1 = (F_DW_divideToPrecision R R2 x4 x5 t0_0 t0_1 t1_0 t1_1 t2_0 t3_0 t3_1 t4_0 t5_0 t5_1 t6_0 t7_0 t7_1 t8_0 t9_0 t9_1 t10_0 t10_1 t11_0 t12_0 t12_1 t13_0 t13_1 t14_0) from Eq.trans (by rw [F_DW_divideToPrecision_J141.eq_1, if_neg c391]) hR241), (show True ∧ S_DW_divideToPrecision_J163 R R2 x4 x5 t0_0 t0_1 t1_0 t1_1 t2_0 t3_0 t3_1 t4_0 t5_0 t5_1 t6_0 t7_0 t7_1 t8_0 t9_0 t9_1 t10_0 t10_1 t11_0 t12_0 t12_1 t13_0 t13_1 t14_0 j69 lx74 a102 p153 j180 y109 y111 y112 f113 y116 y117 f118 y121 y122 f123 y126 y127 f128 p200 y190 y191 f192 lx213 lx214 lx215 lx216 lx217 1 from (by have h := hS242; rw [S_DW_divideToPrecision_J141.eq_1] at h; rw [if_neg c391] at h; with_reducible exact h))⟩
      ·
        intro J233
        refine lv_icmp_le (tgt := 141) hx hb d_4_12_108 (by decide) (fun c394 => ?_) (fun c394 => ?_)
        ·
          exact J233 ((j180 : Int64), (y109 : Int32), (y111 : Int32), (y112 : Int32), (f113 : (Nat → Int32))) _ _ _ _ ⟨(show q_F (y111.toInt ≤ y111.toInt) from (show y111.toInt ≤ y111.toInt from by omega)), (show q_F (y112.toInt ≤ y109.toInt) from (show y112.toInt ≤ y109.toInt from by have t1 : y117.toInt ≤ y109.toInt := b139; have t2 : y112.toInt ≤ y117.toInt := b144; omega)), (show q_F (y109.toInt ≤ y112.toInt + 1) from (show y109.toInt ≤ y112.toInt + 1 from by have t1 : y109.toInt ≤ y117.toInt + 1 := b140; have t2 : y117.toInt ≤ y112.toInt := b143; omega)), (show q_F (0 ≤ y109.toInt + y112.toInt) from (show 0 ≤ y109.toInt + y112.toInt from by have t1 : 0 ≤ y117.toInt := b130; have t2 : y117.toInt ≤ y109.toInt := b139; have t3 : y117.toInt ≤ y112.toInt := b143; omega)), (show q_F (y109.toInt + y112.toInt ≤ 1) from (show y109.toInt + y112.toInt ≤ 1 from by have t1 : y117.toInt ≤ 0 := b131; have t2 : y109.toInt ≤ y117.toInt + 1 := b140; have t3 : y112.toInt ≤ y117.toInt := b144; omega)), (show q_F (0 ≤ y111.toInt + y112.toInt) from (show 0 ≤ y111.toInt + y112.toInt from by have t1 : 0 ≤ y117.toInt := b130; have t2 : y117.toInt ≤ y111.toInt := b142; have t3 : y117.toInt ≤ y112.toInt := b143; omega)), V, q_lw hl (q_lw1 1 rfl (q_lw1 2 rfl (q_lw1 3 rfl (q_lw1 4 rfl (q_lw1 5 rfl (q_lw1 6 rfl (q_lw1 7 rfl q_lw0))))))), hI, hF, hO107, hO110, hA114, hO115, hA119, hO120, hA124, hO189, hA193, hT9, hT10, hT11, hT12, hO125, hA129, (show F_DW_divideToPrecision_J141 R R2 x4 x5 t0_0 t0_1 t1_0 t1_1 t2_0 t3_0 t3_1 t4_0 t5_0 t5_1 t6_0 t7_0 t7_1 t8_0 t9_0 t9_1 t10_0 t10_1 t11_0 t12_0 t12_1 t13_0 t13_1 t14_0 j69 lx74 a102 p153 j180 y109 y111 y112 f113 y116 y117 f118 y121 y122 f123 y126 y127 f128 p200 y190 y191 f192 j180 y109 y111 y112 f113 = (F_DW_divideToPrecision R R2 x4 x5 t0_0 t0_1 t1_0 t1_1 t2_0 t3_0 t3_1 t4_0 t5_0 t5_1 t6_0 t7_0 t7_1 t8_0 t9_0 t9_1 t10_0 t10_1 t11_0 t12_0 t12_1 t13_0 t13_1 t14_0) from Eq.trans (by have c394x := c394; rw [← e212, e202] at c394x; rw [e205, e204, e203, F_DW_divideToPrecision_c101.eq_1, if_pos c394x]) hR206), (show True ∧ S_DW_divideToPrecision_J141 R R2 x4 x5 t0_0 t0_1 t1_0 t1_1 t2_0 t3_0 t3_1 t4_0 t5_0 t5_1 t6_0 t7_0 t7_1 t8_0 t9_0 t9_1 t10_0 t10_1 t11_0 t12_0 t12_1 t13_0 t13_1 t14_0 j69 lx74 a102 p153 j180 y109 y111 y112 f113 y116 y117 f118 y121 y122 f123 y126 y127 f128 p200 y190 y191 f192 j180 y109 y111 y112 f113 from (by rw [e205, e204, e203]; have h := hS207; rw [S_DW_divideToPrecision_c101.eq_1] at h; have c394x := c394; rw [← e212, e202] at c394x; rw [if_pos c394x] at h; with_reducible exact h))⟩
        ·
          refine lv_aload_n hx hb d_4_12_111 rfl (lv_at hl 3 rfl) ?_
          refine lv_dup hx hb d_4_12_112 rfl ?_
          refine q_get (ci := 5) (j := 3) (v := .int y109) C0 V i_DW rfl rfl hO107 (by decide) w_215 rfl d_4_12_113 ?_
          refine lv_aload_n hx hb d_4_12_116 rfl (lv_at hl 3 rfl) ?_
          refine q_get (ci := 5) (j := 2) (v := .ref (q 9)) C0 V i_DW rfl rfl hO107 (by decide) w_214 rfl d_4_12_117 ?_
          refine q_get (ci := 4) (j := 0) (v := .ref (q 10)) C0 V i_Mil rfl rfl hO185 (by decide) w_111 rfl d_4_12_120 ?_
          refine lv_iconst (v := 1) hx hb d_4_12_123 (by decide) ?_
          refine q_goi V (q_runV (As := [.int 1]) (rest := [.int y109, .ref (q 30)]) (d := 3) (mc := 0) (ms := 0) (ci := 2) C0 V rfl LV_DW_149 (X_Big_dropFigures l D g q u186 10 220 (n_b10 g q) (by decide) 1 hI y111 y112 hO110 f113 hA114  _) rfl rfl hO110 rfl hl.1 rfl (Nat.le_of_ble_eq_true rfl) ⟨by decide, by decide⟩ ⟨Nat.le_of_ble_eq_true rfl, Nat.le_of_ble_eq_true rfl⟩ d_4_12_124) (fun a399 u397 H locs hp398 V => ?_)
          obtain ⟨hI, hZ9⟩ := hp398
          obtain ⟨hu413, hZ9⟩ := hZ9
          obtain ⟨y401, hZ9⟩ := hZ9
          obtain ⟨y402, hZ9⟩ := hZ9
          obtain ⟨f403, hZ9⟩ := hZ9
          obtain ⟨hO400, hZ9⟩ := hZ9
          obtain ⟨hA404, hZ9⟩ := hZ9
          obtain ⟨b405, hZ9⟩ := hZ9
          obtain ⟨b406, hZ9⟩ := hZ9
          obtain ⟨b407, hZ9⟩ := hZ9
          obtain ⟨b408, hZ9⟩ := hZ9
          replace hZ9 := hZ9.2
          obtain ⟨b410, hZ9⟩ := hZ9
          obtain ⟨b411, hE412⟩ := hZ9
          replace hO400 : u397[10]? = (some (q 10, .inr (2, [.ref (q 11), .int y401, .int y402])) : Option (Nat × va_E)) := hO400
          replace hA404 : u397[11]? = (some (q 11, .inl (g 0, (220 : Int32).toNatClampNeg, .inl f403)) : Option (Nat × va_E)) := hA404
          obtain ⟨p414, e415⟩ : ∃ z, z = (F_Big_dropFigures (220 : Int32) (1 : Int32) y111 y112 f113) := ⟨_, rfl⟩
          have e416 : a399 = p414.1 := congrArg (fun z => z.1) (hE412.trans e415.symm)
          have e417 : y401 = p414.2.1 := congrArg (fun z => z.2.1) (hE412.trans e415.symm)
          have e418 : y402 = p414.2.2.1 := congrArg (fun z => z.2.2.1) (hE412.trans e415.symm)
          have e419 : f403 = p414.2.2.2 := congrArg (fun z => z.2.2.2) (hE412.trans e415.symm)
          replace b405 : q_F (0 ≤ a399.toInt) := b405
          replace b406 : q_F (a399.toInt ≤ 1) := b406
          replace b407 : q_F (0 ≤ y401.toInt) := b407
          replace b408 : q_F (0 ≤ y402.toInt) := b408
          replace b410 : q_F (y401.toInt ≤ y111.toInt) := b410
          replace b411 : q_F (y402.toInt ≤ y112.toInt) := b411
          replace hO107 := (hu413 _ (by decide)).trans hO107
          replace hO115 := (hu413 _ (by decide)).trans hO115
          replace hA119 := (hu413 _ (by decide)).trans hA119
          replace hO120 := (hu413 _ (by decide)).trans hO120
          replace hA124 := (hu413 _ (by decide)).trans hA124
          replace hO189 := (hu413 _ (by decide)).trans hO189
          replace hA193 := (hu413 _ (by decide)).trans hA193
          replace hT9 := (hu413 _ (by have z0 := zk2; simp only [List.mem_cons, List.not_mem_nil, or_false, not_or]; omega)).trans hT9
          replace hT10 := (hu413 _ (by have z0 := zk2; simp only [List.mem_cons, List.not_mem_nil, or_false, not_or]; omega)).trans hT10
          replace hT11 := (hu413 _ (by have z0 := zk2; simp only [List.mem_cons, List.not_mem_nil, or_false, not_or]; omega)).trans hT11
          replace hT12 := (hu413 _ (by have z0 := zk3; simp only [List.mem_cons, List.not_mem_nil, or_false, not_or]; omega)).trans hT12
          replace hO125 := (hu413 _ (by have z0 := zk3; simp only [List.mem_cons, List.not_mem_nil, or_false, not_or]; omega)).trans hO125
          replace hA129 := (hu413 _ (by have z0 := zk3; simp only [List.mem_cons, List.not_mem_nil, or_false, not_or]; omega)).trans hA129
          replace hF := q_uc hF hu413 (by first | exact (q_sk (q_mi 0 rfl) (q_sk (q_mi 1 rfl) q_s0)) | simp)
          have hR420 := (show F_DW_divideToPrecision_c124 R R2 x4 x5 t0_0 t0_1 t1_0 t1_1 t2_0 t3_0 t3_1 t4_0 t5_0 t5_1 t6_0 t7_0 t7_1 t8_0 t9_0 t9_1 t10_0 t10_1 t11_0 t12_0 t12_1 t13_0 t13_1 t14_0 j69 lx74 a102 p153 j180 y109 y111 y112 f113 y116 y117 f118 y121 y122 f123 y126 y127 f128 p200 y190 y191 f192 p414 = (F_DW_divideToPrecision R R2 x4 x5 t0_0 t0_1 t1_0 t1_1 t2_0 t3_0 t3_1 t4_0 t5_0 t5_1 t6_0 t7_0 t7_1 t8_0 t9_0 t9_1 t10_0 t10_1 t11_0 t12_0 t12_1 t13_0 t13_1 t14_0) from Eq.trans (by have c394x := c394; rw [← e212, e202] at c394x; rw [e415, e205, e204, e203, F_DW_divideToPrecision_c101.eq_1, if_neg c394x]) hR206)
          have hS421 := (show True ∧ S_DW_divideToPrecision_c124 R R2 x4 x5 t0_0 t0_1 t1_0 t1_1 t2_0 t3_0 t3_1 t4_0 t5_0 t5_1 t6_0 t7_0 t7_1 t8_0 t9_0 t9_1 t10_0 t10_1 t11_0 t12_0 t12_1 t13_0 t13_1 t14_0 j69 lx74 a102 p153 j180 y109 y111 y112 f113 y116 y117 f118 y121 y122 f123 y126 y127 f128 p200 y190 y191 f192 p414 from (by rw [e415, e205, e204, e203]; have h := hS207; rw [S_DW_divideToPrecision_c101.eq_1] at h; have c394x := c394; rw [← e212, e202] at c394x; rw [if_neg c394x] at h; with_reducible exact h))
          refine lv_ior hx hb d_4_12_127 ?_
          obtain ⟨a425, e426⟩ := q_nm (y109 ||| a399 : Int32)
          refine q_ti (v := a425) e426 ?_
          have b427 : q_F (0 ≤ a425.toInt ∧ a425.toInt ≤ 1) := (by rw [← e426]; show 0 ≤ (y109 ||| a399 : Int32).toInt ∧ (y109 ||| a399 : Int32).toInt ≤ 1; exact s_or' (x := y109) (y := a399) 1 (by decide) 1 (by decide) ⟨(by have t1 : 0 ≤ y117.toInt := b130; have t2 : y117.toInt ≤ y109.toInt := b139; have t3 : y117.toInt ≤ 0 := b131; have t4 : y109.toInt ≤ y117.toInt + 1 := b140; omega), (by have t1 : 0 ≤ y117.toInt := b130; have t2 : y117.toInt ≤ y109.toInt := b139; have t3 : y117.toInt ≤ 0 := b131; have t4 : y109.toInt ≤ y117.toInt + 1 := b140; omega)⟩ ⟨(by have t1 : 0 ≤ a399.toInt := b405; have t2 : a399.toInt ≤ 1 := b406; omega), (by have t1 : 0 ≤ a399.toInt := b405; have t2 : a399.toInt ≤ 1 := b406; omega)⟩)
          refine q_put (ci := 5) (j := 3) (v := .int a425) (ty := .boolean) C0 V i_DW o_DW n_DW rfl rfl hO107 (by decide) w_215 rfl rfl (q_nz01 (q_Ile (x := 0) (y := a425.toInt) (by decide) rfl (by first | with_reducible exact (q_fe b427).2 | with_reducible exact (q_fe b427).1 | (have t1 : 0 ≤ a425.toInt ∧ a425.toInt ≤ 1 := b427; omega))) (q_Ile (x := a425.toInt) (y := 1) rfl (by decide) (by first | with_reducible exact (q_fe b427).2 | with_reducible exact (q_fe b427).1 | (have t1 : 0 ≤ a425.toInt ∧ a425.toInt ≤ 1 := b427; omega)))) (q_fz01 (q_Ile (x := 0) (y := a425.toInt) (by decide) rfl (by first | with_reducible exact (q_fe b427).2 | with_reducible exact (q_fe b427).1 | (have t1 : 0 ≤ a425.toInt ∧ a425.toInt ≤ 1 := b427; omega))) (q_Ile (x := a425.toInt) (y := 1) rfl (by decide) (by first | with_reducible exact (q_fe b427).2 | with_reducible exact (q_fe b427).1 | (have t1 : 0 ≤ a425.toInt ∧ a425.toInt ≤ 1 := b427; omega)))) (Nat.le_of_ble_eq_true rfl) d_4_12_128 (fun H locs w428 hu429 hO107 V => ?_)
          replace hO107 : w428[30]? = (some (q 30, .inr (5, [.ref (q 31), .long j180, .ref (q 9), .int a425])) : Option (Nat × va_E)) := hO107
          replace hI := n_p30 hI hu429 hO107 (by first | with_reducible exact q_fe b427 | exact ⟨(by have t1 : 0 ≤ a425.toInt ∧ a425.toInt ≤ 1 := b427; omega), (by have t1 : 0 ≤ a425.toInt ∧ a425.toInt ≤ 1 := b427; omega)⟩)
          replace hO400 := (hu429 _ (by decide)).trans hO400
          replace hA404 := (hu429 _ (by decide)).trans hA404
          replace hO115 := (hu429 _ (by decide)).trans hO115
          replace hA119 := (hu429 _ (by decide)).trans hA119
          replace hO120 := (hu429 _ (by decide)).trans hO120
          replace hA124 := (hu429 _ (by decide)).trans hA124
          replace hO189 := (hu429 _ (by decide)).trans hO189
          replace hA193 := (hu429 _ (by decide)).trans hA193
          replace hT9 := (hu429 _ (by have z := ne_k2_30; omega)).trans hT9
          replace hT10 := (hu429 _ (by have z := ne_k2_29; omega)).trans hT10
          replace hT11 := (hu429 _ (by have z := ne_k2_28; omega)).trans hT11
          replace hT12 := (hu429 _ (by have z := ne_k3_30; omega)).trans hT12
          replace hO125 := (hu429 _ (by have z := ne_k3_29; omega)).trans hO125
          replace hA129 := (hu429 _ (by have z := ne_k3_28; omega)).trans hA129
          replace hF := q_us hF hu429 (by simp)
          refine lv_aload_n hx hb d_4_12_131 rfl (lv_at hl 3 rfl) ?_
          refine lv_dup hx hb d_4_12_132 rfl ?_
          refine q_get (ci := 5) (j := 1) (v := .long j180) C0 V i_DW rfl rfl hO107 (by decide) w_212 rfl d_4_12_133 ?_
          refine lv_lconst (v := 1) hx hb d_4_12_136 (by decide) ?_
          refine lv_lsub hx hb d_4_12_137 ?_
          obtain ⟨j430, e431⟩ := q_nm (j180 - 1 : Int64)
          refine q_tl (v := j430) e431 ?_
          refine q_put (ci := 5) (j := 1) (v := .long j430) (ty := .long) C0 V i_DW o_DW n_DW rfl rfl hO107 (by decide) w_212 rfl rfl rfl rfl (Nat.le_of_ble_eq_true rfl) d_4_12_138 (fun H locs w432 hu433 hO107 V => ?_)
          replace hO107 : w432[30]? = (some (q 30, .inr (5, [.ref (q 31), .long j430, .ref (q 9), .int a425])) : Option (Nat × va_E)) := hO107
          replace hI := n_p30 hI hu433 hO107 (by first | with_reducible exact q_fe b427 | exact ⟨(by have t1 : 0 ≤ a425.toInt ∧ a425.toInt ≤ 1 := b427; omega), (by have t1 : 0 ≤ a425.toInt ∧ a425.toInt ≤ 1 := b427; omega)⟩)
          replace hO400 := (hu433 _ (by decide)).trans hO400
          replace hA404 := (hu433 _ (by decide)).trans hA404
          replace hO115 := (hu433 _ (by decide)).trans hO115
          replace hA119 := (hu433 _ (by decide)).trans hA119
          replace hO120 := (hu433 _ (by decide)).trans hO120
          replace hA124 := (hu433 _ (by decide)).trans hA124
          replace hO189 := (hu433 _ (by decide)).trans hO189
          replace hA193 := (hu433 _ (by decide)).trans hA193
          replace hT9 := (hu433 _ (by have z := ne_k2_30; omega)).trans hT9
          replace hT10 := (hu433 _ (by have z := ne_k2_29; omega)).trans hT10
          replace hT11 := (hu433 _ (by have z := ne_k2_28; omega)).trans hT11
          replace hT12 := (hu433 _ (by have z := ne_k3_30; omega)).trans hT12
          replace hO125 := (hu433 _ (by have z := ne_k3_29; omega)).trans hO125
          replace hA129 := (hu433 _ (by have z := ne_k3_28; omega)).trans hA129
          replace hF := q_us hF hu433 (by simp)
          exact J233 ((j430 : Int64), (a425 : Int32), (y401 : Int32), (y402 : Int32), (f403 : (Nat → Int32))) _ _ _ _ ⟨(show q_F (y401.toInt ≤ y111.toInt) from (show y401.toInt ≤ y111.toInt from by have t1 : y401.toInt ≤ y111.toInt := b410; omega)), (show q_F (y402.toInt ≤ a425.toInt) from (show y402.toInt ≤ a425.toInt from by have t1 : y117.toInt ≤ 0 := b131; have t2 : y112.toInt ≤ y117.toInt := b144; have t3 : y402.toInt ≤ y112.toInt := b411; have t4 : 0 ≤ a425.toInt ∧ a425.toInt ≤ 1 := b427; omega)), (show q_F (a425.toInt ≤ y402.toInt + 1) from (show a425.toInt ≤ y402.toInt + 1 from by have t1 : 0 ≤ y402.toInt := b408; have t2 : 0 ≤ a425.toInt ∧ a425.toInt ≤ 1 := b427; omega)), (show q_F (0 ≤ a425.toInt + y402.toInt) from (show 0 ≤ a425.toInt + y402.toInt from by have t1 : 0 ≤ y402.toInt := b408; have t2 : 0 ≤ a425.toInt ∧ a425.toInt ≤ 1 := b427; omega)), (show q_F (a425.toInt + y402.toInt ≤ 1) from (show a425.toInt + y402.toInt ≤ 1 from by have t1 : y117.toInt ≤ 0 := b131; have t2 : y112.toInt ≤ y117.toInt := b144; have t3 : y402.toInt ≤ y112.toInt := b411; have t4 : 0 ≤ a425.toInt ∧ a425.toInt ≤ 1 := b427; omega)), (show q_F (0 ≤ y401.toInt + y402.toInt) from (show 0 ≤ y401.toInt + y402.toInt from by have t1 : 0 ≤ y401.toInt := b407; have t2 : 0 ≤ y402.toInt := b408; omega)), V, q_lw hl (q_lw1 1 rfl (q_lw1 2 rfl (q_lw1 3 rfl (q_lw1 4 rfl (q_lw1 5 rfl (q_lw1 6 rfl (q_lw1 7 rfl q_lw0))))))), hI, hF, hO107, hO400, hA404, hO115, hA119, hO120, hA124, hO189, hA193, hT9, hT10, hT11, hT12, hO125, hA129, (show F_DW_divideToPrecision_J141 R R2 x4 x5 t0_0 t0_1 t1_0 t1_1 t2_0 t3_0 t3_1 t4_0 t5_0 t5_1 t6_0 t7_0 t7_1 t8_0 t9_0 t9_1 t10_0 t10_1 t11_0 t12_0 t12_1 t13_0 t13_1 t14_0 j69 lx74 a102 p153 j180 y109 y111 y112 f113 y116 y117 f118 y121 y122 f123 y126 y127 f128 p200 y190 y191 f192 j430 a425 y401 y402 f403 = (F_DW_divideToPrecision R R2 x4 x5 t0_0 t0_1 t1_0 t1_1 t2_0 t3_0 t3_1 t4_0 t5_0 t5_1 t6_0 t7_0 t7_1 t8_0 t9_0 t9_1 t10_0 t10_1 t11_0 t12_0 t12_1 t13_0 t13_1 t14_0) from Eq.trans (by rw [← e431, ← e426, e419, e418, e417, e416, F_DW_divideToPrecision_c124.eq_1]) hR420), (show True ∧ S_DW_divideToPrecision_J141 R R2 x4 x5 t0_0 t0_1 t1_0 t1_1 t2_0 t3_0 t3_1 t4_0 t5_0 t5_1 t6_0 t7_0 t7_1 t8_0 t9_0 t9_1 t10_0 t10_1 t11_0 t12_0 t12_1 t13_0 t13_1 t14_0 j69 lx74 a102 p153 j180 y109 y111 y112 f113 y116 y117 f118 y121 y122 f123 y126 y127 f128 p200 y190 y191 f192 j430 a425 y401 y402 f403 from (by rw [← e431, ← e426, e419, e418, e417, e416]; have h := hS421; rw [S_DW_divideToPrecision_c124.eq_1] at h; with_reducible exact h))⟩
    ·
      intro J90
      refine lv_if_ne (tgt := 51) hx hb d_4_12_42 (by decide) (fun c434 => ?_) (fun c434 => ?_)
      ·
        refine lv_iload_n hx hb d_4_12_51 rfl (lv_at hl 4 rfl) ?_
        exact J90 ((x4 : Int32)) _ _ _ ws ⟨(show q_F (x4.toInt ≤ x4.toInt) from (show x4.toInt ≤ x4.toInt from by omega)), (show q_F (x4.toInt ≤ x4.toInt + 1000) from (show x4.toInt ≤ x4.toInt + 1000 from by omega)), V, q_lw hl (q_lw1 0 rfl (q_lw1 1 rfl (q_lw1 2 rfl (q_lw1 3 rfl (q_lw1 4 rfl (q_lw1 5 rfl q_lw0)))))), (show F_DW_divideToPrecision_J52 R R2 x4 x5 t0_0 t0_1 t1_0 t1_1 t2_0 t3_0 t3_1 t4_0 t5_0 t5_1 t6_0 t7_0 t7_1 t8_0 t9_0 t9_1 t10_0 t10_1 t11_0 t12_0 t12_1 t13_0 t13_1 t14_0 j69 x4 = (F_DW_divideToPrecision R R2 x4 x5 t0_0 t0_1 t1_0 t1_1 t2_0 t3_0 t3_1 t4_0 t5_0 t5_1 t6_0 t7_0 t7_1 t8_0 t9_0 t9_1 t10_0 t10_1 t11_0 t12_0 t12_1 t13_0 t13_1 t14_0) from (by rw [← e70, ← e67, ← e64, F_DW_divideToPrecision.eq_1, if_neg c72, if_neg c434])), (show True ∧ S_DW_divideToPrecision_J52 R R2 x4 x5 t0_0 t0_1 t1_0 t1_1 t2_0 t3_0 t3_1 t4_0 t5_0 t5_1 t6_0 t7_0 t7_1 t8_0 t9_0 t9_1 t10_0 t10_1 t11_0 t12_0 t12_1 t13_0 t13_1 t14_0 j69 x4 from (by rw [← e70, ← e67, ← e64]; have h := hS; rw [S_DW_divideToPrecision.eq_1] at h; rw [if_neg c72] at h; rw [if_neg c434] at h; with_reducible exact h))⟩
      ·
        have b436 : q_F (x4.toInt = 0) := (q_eqI c434)
        refine lv_sipush (v := 1000) hx hb d_4_12_45 (by decide) ?_
        refine lv_goto (tgt := 52) hx hb d_4_12_48 (by decide) ?_
        exact J90 ((1000 : Int32)) _ _ _ ws ⟨(show q_F (x4.toInt ≤ 1000) from (show x4.toInt ≤ 1000 from by have t1 : x4.toInt = 0 := b436; omega)), (show q_F (1000 ≤ x4.toInt + 1000) from (show 1000 ≤ x4.toInt + 1000 from by have t1 : x4.toInt = 0 := b436; omega)), V, q_lw hl (q_lw1 0 rfl (q_lw1 1 rfl (q_lw1 2 rfl (q_lw1 3 rfl (q_lw1 4 rfl (q_lw1 5 rfl q_lw0)))))), (show F_DW_divideToPrecision_J52 R R2 x4 x5 t0_0 t0_1 t1_0 t1_1 t2_0 t3_0 t3_1 t4_0 t5_0 t5_1 t6_0 t7_0 t7_1 t8_0 t9_0 t9_1 t10_0 t10_1 t11_0 t12_0 t12_1 t13_0 t13_1 t14_0 j69 1000 = (F_DW_divideToPrecision R R2 x4 x5 t0_0 t0_1 t1_0 t1_1 t2_0 t3_0 t3_1 t4_0 t5_0 t5_1 t6_0 t7_0 t7_1 t8_0 t9_0 t9_1 t10_0 t10_1 t11_0 t12_0 t12_1 t13_0 t13_1 t14_0) from (by rw [← e70, ← e67, ← e64, F_DW_divideToPrecision.eq_1, if_neg c72, if_pos c434])), (show True ∧ S_DW_divideToPrecision_J52 R R2 x4 x5 t0_0 t0_1 t1_0 t1_1 t2_0 t3_0 t3_1 t4_0 t5_0 t5_1 t6_0 t7_0 t7_1 t8_0 t9_0 t9_1 t10_0 t10_1 t11_0 t12_0 t12_1 t13_0 t13_1 t14_0 j69 1000 from (by rw [← e70, ← e67, ← e64]; have h := hS; rw [S_DW_divideToPrecision.eq_1] at h; rw [if_neg c72] at h; rw [if_pos c434] at h; with_reducible exact h))⟩
  ·
    refine lv_aload_n hx hb d_4_12_23 rfl (lv_at hl 1 rfl) ?_
    refine q_get (ci := 5) (j := 2) (v := .ref (q 9)) C0 V i_DW rfl rfl hT0 (by decide) w_214 rfl d_4_12_24 ?_
    have hO438 := n_o9 hI
    refine q_get (ci := 4) (j := 0) (v := .ref (q 10)) C0 V i_Mil rfl rfl hO438 (by decide) w_111 rfl d_4_12_27 ?_
    refine q_gov V (q_runV (As := []) (rest := []) (d := 1) (mc := 0) (ms := 0) (ci := 2) C0 V rfl LV_DW_135 (X_Big_clear l D g q ws 10 220 (n_b10 g q) (by decide)  hI t1_0 t1_1 hT1  _) rfl rfl hT1 rfl hl.1 rfl (Nat.le_of_ble_eq_true rfl) ⟨by decide, by decide⟩ ⟨Nat.le_of_ble_eq_true rfl, Nat.le_of_ble_eq_true rfl⟩ d_4_12_30) (fun u439 H locs hp440 V => ?_)
    obtain ⟨hI, hZ9⟩ := hp440
    obtain ⟨hu449, hZ9⟩ := hZ9
    obtain ⟨y442, hZ9⟩ := hZ9
    obtain ⟨y443, hZ9⟩ := hZ9
    obtain ⟨hO441, hZ9⟩ := hZ9
    obtain ⟨b444, hZ9⟩ := hZ9
    obtain ⟨b445, hZ9⟩ := hZ9
    obtain ⟨b446, hZ9⟩ := hZ9
    obtain ⟨b447, hE448⟩ := hZ9
    replace hO441 : u439[10]? = (some (q 10, .inr (2, [.ref (q 11), .int y442, .int y443])) : Option (Nat × va_E)) := hO441
    obtain ⟨p450, e451⟩ : ∃ z, z = (F_Big_clear (220 : Int32) t1_0 t1_1) := ⟨_, rfl⟩
    have e452 : y442 = p450.1 := congrArg (fun z => z.1) (hE448.trans e451.symm)
    have e453 : y443 = p450.2 := congrArg (fun z => z.2) (hE448.trans e451.symm)
    replace b444 : q_F (0 ≤ y443.toInt) := b444
    replace b445 : q_F (y443.toInt ≤ 0) := b445
    replace b446 : q_F (y443.toInt ≤ y442.toInt) := b446
    replace b447 : q_F (y442.toInt ≤ y443.toInt) := b447
    replace hT0 := (hu449 _ (by decide)).trans hT0
    replace hT2 := (hu449 _ (by decide)).trans hT2
    replace hT3 := (hu449 _ (by decide)).trans hT3
    replace hT4 := (hu449 _ (by decide)).trans hT4
    replace hT5 := (hu449 _ (by decide)).trans hT5
    replace hT6 := (hu449 _ (by decide)).trans hT6
    replace hT7 := (hu449 _ (by decide)).trans hT7
    replace hT8 := (hu449 _ (by decide)).trans hT8
    replace hT13 := (hu449 _ (by have z0 := zk3; simp only [List.mem_cons, List.not_mem_nil, or_false, not_or]; omega)).trans hT13
    replace hT14 := (hu449 _ (by have z0 := zk3; simp only [List.mem_cons, List.not_mem_nil, or_false, not_or]; omega)).trans hT14
    replace hF := q_uc hF hu449 (by first | exact (q_sk (q_mi 0 rfl) q_s0) | simp)
    have hR454 := (show F_DW_divideToPrecision_c30 R R2 x4 x5 t0_0 t0_1 t1_0 t1_1 t2_0 t3_0 t3_1 t4_0 t5_0 t5_1 t6_0 t7_0 t7_1 t8_0 t9_0 t9_1 t10_0 t10_1 t11_0 t12_0 t12_1 t13_0 t13_1 t14_0 j69 p450 = (F_DW_divideToPrecision R R2 x4 x5 t0_0 t0_1 t1_0 t1_1 t2_0 t3_0 t3_1 t4_0 t5_0 t5_1 t6_0 t7_0 t7_1 t8_0 t9_0 t9_1 t10_0 t10_1 t11_0 t12_0 t12_1 t13_0 t13_1 t14_0) from (by rw [e451, ← e70, ← e67, ← e64, F_DW_divideToPrecision.eq_1, if_pos c72]))
    have hS455 := (show True ∧ S_DW_divideToPrecision_c30 R R2 x4 x5 t0_0 t0_1 t1_0 t1_1 t2_0 t3_0 t3_1 t4_0 t5_0 t5_1 t6_0 t7_0 t7_1 t8_0 t9_0 t9_1 t10_0 t10_1 t11_0 t12_0 t12_1 t13_0 t13_1 t14_0 j69 p450 from (by rw [e451, ← e70, ← e67, ← e64]; have h := hS; rw [S_DW_divideToPrecision.eq_1] at h; rw [if_pos c72] at h; with_reducible exact h))
    refine lv_aload_n hx hb d_4_12_33 rfl (lv_at hl 1 rfl) ?_
    refine lv_lload hx hb d_4_12_34 (lv_at hl 0 rfl) ?_
    refine q_put (ci := 5) (j := 1) (v := .long j69) (ty := .long) C0 V i_DW o_DW n_DW rfl rfl hT0 (by decide) w_212 rfl rfl rfl rfl (Nat.le_of_ble_eq_true rfl) d_4_12_36 (fun H locs w459 hu460 hT0 V => ?_)
    replace hT0 : w459[30]? = (some (q 30, .inr (5, [.ref (q 31), .long j69, .ref (q 9), .int t0_1])) : Option (Nat × va_E)) := hT0
    replace hI := n_p30 hI hu460 hT0 (by first | with_reducible exact q_fe btt0_1 | exact ⟨(by have t1 : 0 ≤ t0_1.toInt ∧ t0_1.toInt ≤ 1 := btt0_1; omega), (by have t1 : 0 ≤ t0_1.toInt ∧ t0_1.toInt ≤ 1 := btt0_1; omega)⟩)
    replace hO441 := (hu460 _ (by decide)).trans hO441
    replace hT2 := (hu460 _ (by decide)).trans hT2
    replace hT3 := (hu460 _ (by decide)).trans hT3
    replace hT4 := (hu460 _ (by decide)).trans hT4
    replace hT5 := (hu460 _ (by decide)).trans hT5
    replace hT6 := (hu460 _ (by decide)).trans hT6
    replace hT7 := (hu460 _ (by decide)).trans hT7
    replace hT8 := (hu460 _ (by decide)).trans hT8
    replace hT13 := (hu460 _ (by have z := ne_k3_29; omega)).trans hT13
    replace hT14 := (hu460 _ (by have z := ne_k3_28; omega)).trans hT14
    replace hF := q_us hF hu460 (by simp)
    refine lv_iconst (v := 1) hx hb d_4_12_39 (by decide) ?_
    exact q_retz C0 V (by decide) (⟨hI, hF, j69, t0_1, y442, y443, t2_0, t3_0, t3_1, t4_0, t5_0, t5_1, t6_0, t7_0, t7_1, t8_0, t13_0, t13_1, t14_0, hT0, hO441, hT2, hT3, hT4, hT5, hT6, hT7, hT8, hT13, hT14, (show 0 ≤ (1 : Int32).toInt from (by have z28 : (1 : Int32).toInt = 1 := rfl; omega)), (show (1 : Int32).toInt ≤ 1 from (by have z28 : (1 : Int32).toInt = 1 := rfl; omega)), (show 0 ≤ t0_1.toInt from (by have z28 : (1 : Int32).toInt = 1 := rfl; have t1 : 0 ≤ t0_1.toInt ∧ t0_1.toInt ≤ 1 := btt0_1; omega)), (show t0_1.toInt ≤ 1 from (by have z28 : (1 : Int32).toInt = 1 := rfl; have t1 : 0 ≤ t0_1.toInt ∧ t0_1.toInt ≤ 1 := btt0_1; omega)), (show 0 ≤ y442.toInt from (by have z28 : (1 : Int32).toInt = 1 := rfl; have t1 : 0 ≤ y443.toInt := b444; have t2 : y443.toInt ≤ y442.toInt := b446; omega)), (show y442.toInt ≤ 220 from (by have z28 : (1 : Int32).toInt = 1 := rfl; have t1 : y443.toInt ≤ 0 := b445; have t2 : y442.toInt ≤ y443.toInt := b447; omega)), (show 0 ≤ y443.toInt from (by have z28 : (1 : Int32).toInt = 1 := rfl; have t1 : 0 ≤ y443.toInt := b444; omega)), (show y443.toInt ≤ 1 from (by have z28 : (1 : Int32).toInt = 1 := rfl; have t1 : y443.toInt ≤ 0 := b445; omega)), (show 0 ≤ t3_0.toInt from (by have z28 : (1 : Int32).toInt = 1 := rfl; have t1 : 0 ≤ t3_0.toInt ∧ t3_0.toInt ≤ 220 := btt3_0; omega)), (show t3_0.toInt ≤ 220 from (by have z28 : (1 : Int32).toInt = 1 := rfl; have t1 : 0 ≤ t3_0.toInt ∧ t3_0.toInt ≤ 220 := btt3_0; omega)), (show 0 ≤ t3_1.toInt from (by have z28 : (1 : Int32).toInt = 1 := rfl; have t1 : 0 ≤ t3_1.toInt ∧ t3_1.toInt ≤ 1 := btt3_1; omega)), (show t3_1.toInt ≤ 1 from (by have z28 : (1 : Int32).toInt = 1 := rfl; have t1 : 0 ≤ t3_1.toInt ∧ t3_1.toInt ≤ 1 := btt3_1; omega)), (show 0 ≤ t5_0.toInt from (by have z28 : (1 : Int32).toInt = 1 := rfl; have t1 : 0 ≤ t5_0.toInt ∧ t5_0.toInt ≤ 220 := btt5_0; omega)), (show t5_0.toInt ≤ 220 from (by have z28 : (1 : Int32).toInt = 1 := rfl; have t1 : 0 ≤ t5_0.toInt ∧ t5_0.toInt ≤ 220 := btt5_0; omega)), (show 0 ≤ t5_1.toInt from (by have z28 : (1 : Int32).toInt = 1 := rfl; have t1 : 0 ≤ t5_1.toInt ∧ t5_1.toInt ≤ 1 := btt5_1; omega)), (show t5_1.toInt ≤ 1 from (by have z28 : (1 : Int32).toInt = 1 := rfl; have t1 : 0 ≤ t5_1.toInt ∧ t5_1.toInt ≤ 1 := btt5_1; omega)), (show 0 ≤ t7_0.toInt from (by have z28 : (1 : Int32).toInt = 1 := rfl; have t1 : 0 ≤ t7_0.toInt ∧ t7_0.toInt ≤ 220 := btt7_0; omega)), (show t7_0.toInt ≤ 220 from (by have z28 : (1 : Int32).toInt = 1 := rfl; have t1 : 0 ≤ t7_0.toInt ∧ t7_0.toInt ≤ 220 := btt7_0; omega)), (show 0 ≤ t7_1.toInt from (by have z28 : (1 : Int32).toInt = 1 := rfl; have t1 : 0 ≤ t7_1.toInt ∧ t7_1.toInt ≤ 1 := btt7_1; omega)), (show t7_1.toInt ≤ 1 from (by have z28 : (1 : Int32).toInt = 1 := rfl; have t1 : 0 ≤ t7_1.toInt ∧ t7_1.toInt ≤ 1 := btt7_1; omega)), (show 0 ≤ t13_0.toInt from (by have z28 : (1 : Int32).toInt = 1 := rfl; have t1 : 0 ≤ t13_0.toInt ∧ t13_0.toInt ≤ R2.toInt := btt13_0; omega)), (show t13_0.toInt ≤ 220 from (by have z28 : (1 : Int32).toInt = 1 := rfl; have t1 : 0 ≤ R2.toInt ∧ R2.toInt ≤ 220 := hfk30; have t2 : 0 ≤ t13_0.toInt ∧ t13_0.toInt ≤ R2.toInt := btt13_0; omega)), (show 0 ≤ t13_1.toInt from (by have z28 : (1 : Int32).toInt = 1 := rfl; have t1 : 0 ≤ t13_1.toInt ∧ t13_1.toInt ≤ 1 := btt13_1; omega)), (show t13_1.toInt ≤ 1 from (by have z28 : (1 : Int32).toInt = 1 := rfl; have t1 : 0 ≤ t13_1.toInt ∧ t13_1.toInt ≤ 1 := btt13_1; omega)), (show y442.toInt ≤ t10_0.toInt + 219 from (by have z28 : (1 : Int32).toInt = 1 := rfl; have t1 : 0 ≤ t10_0.toInt ∧ t10_0.toInt ≤ R.toInt := btt10_0; have t2 : y443.toInt ≤ 0 := b445; have t3 : y442.toInt ≤ y443.toInt := b447; omega)), (show y443.toInt ≤ t10_0.toInt from (by have z28 : (1 : Int32).toInt = 1 := rfl; have t1 : 0 ≤ t10_0.toInt ∧ t10_0.toInt ≤ R.toInt := btt10_0; have t2 : y443.toInt ≤ 0 := b445; omega)), (show t3_1.toInt ≤ t3_1.toInt from (by have z28 : (1 : Int32).toInt = 1 := rfl; omega)), (show t13_0.toInt ≤ t13_0.toInt + 218 from (by have z28 : (1 : Int32).toInt = 1 := rfl; omega)), (show t13_0.toInt ≤ R2.toInt from (by have z28 : (1 : Int32).toInt = 1 := rfl; have t1 : 0 ≤ t13_0.toInt ∧ t13_0.toInt ≤ R2.toInt := btt13_0; omega)), (show t13_1.toInt ≤ t13_1.toInt from (by have z28 : (1 : Int32).toInt = 1 := rfl; omega)), (show t3_1.toInt ≤ (1 : Int32).toInt from (by have z28 : (1 : Int32).toInt = 1 := rfl; have t1 : 0 ≤ t3_1.toInt ∧ t3_1.toInt ≤ 1 := btt3_1; omega)), (show ((1 : Int32), j69, t0_1, y442, y443, t2_0, t3_0, t3_1, t4_0, t5_0, t5_1, t6_0, t7_0, t7_1, t8_0, t13_0, t13_1, t14_0) = (F_DW_divideToPrecision R R2 x4 x5 t0_0 t0_1 t1_0 t1_1 t2_0 t3_0 t3_1 t4_0 t5_0 t5_1 t6_0 t7_0 t7_1 t8_0 t9_0 t9_1 t10_0 t10_1 t11_0 t12_0 t12_1 t13_0 t13_1 t14_0) from Eq.trans (by rw [e453, e452, F_DW_divideToPrecision_c30.eq_1]) hR454)⟩) d_4_12_40

