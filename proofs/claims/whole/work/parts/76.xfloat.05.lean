def F_Rea_takeExponent_J117 (K_F_Rea_takeExponent_L61 : Int64 → Int32 → (Int32 × Int64 × Int64 × Int32 × Int32 × Int32 × Int32 × Int32 × Int32 × Int32 × Int64)) (x2 : Int32) (t0_0 : Int64) (t0_1 : Int64) (t0_2 : Int32) (t0_3 : Int32) (t0_4 : Int32) (t0_5 : Int32) (t0_6 : Int32) (t0_7 : Int32) (t0_8 : Int32) (t0_9 : Int64) (t1_0 : Int32) (t2_0 : (Nat → Int64)) (a19 : Int32) (lx31 : Int32) (lx51 : Int32) (lx63 : Int64) (lx64 : Int32) : Int32 × Int64 × Int64 × Int32 × Int32 × Int32 × Int32 × Int32 × Int32 × Int32 × Int64 := if lx64 ≤ lx51 then (((0 : Int32), t0_0, t0_1, lx64, t0_3, t0_4, t0_5, t0_6, t0_7, t0_8, ((lx31.toInt64 : Int64) * lx63 : Int64))) else (if x2 < (lx64 - lx51 : Int32) then (((0 : Int32), t0_0, t0_1, lx64, t0_3, t0_4, t0_5, t0_6, t0_7, t0_8, ((lx31.toInt64 : Int64) * lx63 : Int64))) else (((1 : Int32), t0_0, t0_1, lx64, t0_3, t0_4, t0_5, t0_6, t0_7, t0_8, ((lx31.toInt64 : Int64) * lx63 : Int64))))
def F_Rea_takeExponent_L61 (x2 : Int32) (t0_0 : Int64) (t0_1 : Int64) (t0_2 : Int32) (t0_3 : Int32) (t0_4 : Int32) (t0_5 : Int32) (t0_6 : Int32) (t0_7 : Int32) (t0_8 : Int32) (t0_9 : Int64) (t1_0 : Int32) (t2_0 : (Nat → Int64)) (a19 : Int32) (lx31 : Int32) (lx51 : Int32) : Nat → Int64 → Int32 → (Int32 × Int64 × Int64 × Int32 × Int32 × Int32 × Int32 × Int32 × Int32 × Int32 × Int64)
  | 0, _, _ => default
  | fm + 1, lx63, lx64 => if t0_3 ≤ lx64 then (F_Rea_takeExponent_J117 (F_Rea_takeExponent_L61 x2 t0_0 t0_1 t0_2 t0_3 t0_4 t0_5 t0_6 t0_7 t0_8 t0_9 t1_0 t2_0 a19 lx31 lx51 fm) x2 t0_0 t0_1 t0_2 t0_3 t0_4 t0_5 t0_6 t0_7 t0_8 t0_9 t1_0 t2_0 a19 lx31 lx51 lx63 lx64) else (if (10 : Int32) ≤ ((F_Rea_digitHere t0_0 t0_1 lx64 t0_3 t0_4 t0_5 t0_6 t0_7 t0_8 t0_9 t1_0 t2_0) : Int32) then (F_Rea_takeExponent_J117 (F_Rea_takeExponent_L61 x2 t0_0 t0_1 t0_2 t0_3 t0_4 t0_5 t0_6 t0_7 t0_8 t0_9 t1_0 t2_0 a19 lx31 lx51 fm) x2 t0_0 t0_1 t0_2 t0_3 t0_4 t0_5 t0_6 t0_7 t0_8 t0_9 t1_0 t2_0 a19 lx31 lx51 lx63 lx64) else (if (0 : Int32) ≤ (lg_cmp lx63 100000000000 : Int32) then (F_Rea_takeExponent_L61 x2 t0_0 t0_1 t0_2 t0_3 t0_4 t0_5 t0_6 t0_7 t0_8 t0_9 t1_0 t2_0 a19 lx31 lx51 fm lx63 (lx64 + 1 : Int32)) else (F_Rea_takeExponent_L61 x2 t0_0 t0_1 t0_2 t0_3 t0_4 t0_5 t0_6 t0_7 t0_8 t0_9 t1_0 t2_0 a19 lx31 lx51 fm ((lx63 * 10 : Int64) + (((F_Rea_digitHere t0_0 t0_1 lx64 t0_3 t0_4 t0_5 t0_6 t0_7 t0_8 t0_9 t1_0 t2_0) : Int32).toInt64 : Int64) : Int64) (lx64 + 1 : Int32))))
def F_Rea_takeExponent_J53 (x2 : Int32) (t0_0 : Int64) (t0_1 : Int64) (t0_2 : Int32) (t0_3 : Int32) (t0_4 : Int32) (t0_5 : Int32) (t0_6 : Int32) (t0_7 : Int32) (t0_8 : Int32) (t0_9 : Int64) (t1_0 : Int32) (t2_0 : (Nat → Int64)) (a19 : Int32) (lx31 : Int32) (lx51 : Int32) : Int32 × Int64 × Int64 × Int32 × Int32 × Int32 × Int32 × Int32 × Int32 × Int32 × Int64 := F_Rea_takeExponent_L61 x2 t0_0 t0_1 t0_2 t0_3 t0_4 t0_5 t0_6 t0_7 t0_8 t0_9 t1_0 t2_0 a19 lx31 lx51 ((t0_3.toInt - lx51.toInt).toNat + 1) 0 lx51
def F_Rea_takeExponent_J43 (x2 : Int32) (t0_0 : Int64) (t0_1 : Int64) (t0_2 : Int32) (t0_3 : Int32) (t0_4 : Int32) (t0_5 : Int32) (t0_6 : Int32) (t0_7 : Int32) (t0_8 : Int32) (t0_9 : Int64) (t1_0 : Int32) (t2_0 : (Nat → Int64)) (a19 : Int32) (lx31 : Int32) : Int32 × Int64 × Int64 × Int32 × Int32 × Int32 × Int32 × Int32 × Int32 × Int32 × Int64 := F_Rea_takeExponent_J53 x2 t0_0 t0_1 t0_2 t0_3 t0_4 t0_5 t0_6 t0_7 t0_8 t0_9 t1_0 t2_0 a19 lx31 (a19 + 1 : Int32)
def F_Rea_takeExponent_J24 (x2 : Int32) (t0_0 : Int64) (t0_1 : Int64) (t0_2 : Int32) (t0_3 : Int32) (t0_4 : Int32) (t0_5 : Int32) (t0_6 : Int32) (t0_7 : Int32) (t0_8 : Int32) (t0_9 : Int64) (t1_0 : Int32) (t2_0 : (Nat → Int64)) (a19 : Int32) (lx31 : Int32) : Int32 × Int64 × Int64 × Int32 × Int32 × Int32 × Int32 × Int32 × Int32 × Int32 × Int64 := if ((F_Rea_here t0_0 t0_1 a19 t0_3 t0_4 t0_5 t0_6 t0_7 t0_8 t0_9 t1_0 t2_0) : Int32) = (45 : Int32) then (F_Rea_takeExponent_J43 x2 t0_0 t0_1 t0_2 t0_3 t0_4 t0_5 t0_6 t0_7 t0_8 t0_9 t1_0 t2_0 a19 lx31) else (if ((F_Rea_here t0_0 t0_1 a19 t0_3 t0_4 t0_5 t0_6 t0_7 t0_8 t0_9 t1_0 t2_0) : Int32) = (43 : Int32) then (F_Rea_takeExponent_J43 x2 t0_0 t0_1 t0_2 t0_3 t0_4 t0_5 t0_6 t0_7 t0_8 t0_9 t1_0 t2_0 a19 lx31) else (F_Rea_takeExponent_J53 x2 t0_0 t0_1 t0_2 t0_3 t0_4 t0_5 t0_6 t0_7 t0_8 t0_9 t1_0 t2_0 a19 lx31 a19))
def F_Rea_takeExponent (x2 : Int32) (t0_0 : Int64) (t0_1 : Int64) (t0_2 : Int32) (t0_3 : Int32) (t0_4 : Int32) (t0_5 : Int32) (t0_6 : Int32) (t0_7 : Int32) (t0_8 : Int32) (t0_9 : Int64) (t1_0 : Int32) (t2_0 : (Nat → Int64)) : Int32 × Int64 × Int64 × Int32 × Int32 × Int32 × Int32 × Int32 × Int32 × Int32 × Int64 := if ((F_Rea_here t0_0 t0_1 (t0_2 + 1 : Int32) t0_3 t0_4 t0_5 t0_6 t0_7 t0_8 t0_9 t1_0 t2_0) : Int32) = (45 : Int32) then (F_Rea_takeExponent_J24 x2 t0_0 t0_1 t0_2 t0_3 t0_4 t0_5 t0_6 t0_7 t0_8 t0_9 t1_0 t2_0 (t0_2 + 1 : Int32) (-1)) else (F_Rea_takeExponent_J24 x2 t0_0 t0_1 t0_2 t0_3 t0_4 t0_5 t0_6 t0_7 t0_8 t0_9 t1_0 t2_0 (t0_2 + 1 : Int32) 1)
def S_Rea_takeExponent_J117 (K_S_Rea_takeExponent_L61 : Int64 → Int32 → Prop) (x2 : Int32) (t0_0 : Int64) (t0_1 : Int64) (t0_2 : Int32) (t0_3 : Int32) (t0_4 : Int32) (t0_5 : Int32) (t0_6 : Int32) (t0_7 : Int32) (t0_8 : Int32) (t0_9 : Int64) (t1_0 : Int32) (t2_0 : (Nat → Int64)) (a19 : Int32) (lx31 : Int32) (lx51 : Int32) (lx63 : Int64) (lx64 : Int32) : Prop := if lx64 ≤ lx51 then (True) else (if x2 < (lx64 - lx51 : Int32) then (True) else (True))
def S_Rea_takeExponent_L61 (x2 : Int32) (t0_0 : Int64) (t0_1 : Int64) (t0_2 : Int32) (t0_3 : Int32) (t0_4 : Int32) (t0_5 : Int32) (t0_6 : Int32) (t0_7 : Int32) (t0_8 : Int32) (t0_9 : Int64) (t1_0 : Int32) (t2_0 : (Nat → Int64)) (a19 : Int32) (lx31 : Int32) (lx51 : Int32) : Nat → Int64 → Int32 → Prop
  | 0, _, _ => False
  | fm + 1, lx63, lx64 => if t0_3 ≤ lx64 then (S_Rea_takeExponent_J117 (S_Rea_takeExponent_L61 x2 t0_0 t0_1 t0_2 t0_3 t0_4 t0_5 t0_6 t0_7 t0_8 t0_9 t1_0 t2_0 a19 lx31 lx51 fm) x2 t0_0 t0_1 t0_2 t0_3 t0_4 t0_5 t0_6 t0_7 t0_8 t0_9 t1_0 t2_0 a19 lx31 lx51 lx63 lx64) else ((True ∧ S_Rea_digitHere t0_0 t0_1 lx64 t0_3 t0_4 t0_5 t0_6 t0_7 t0_8 t0_9 t1_0 t2_0) ∧ (if (10 : Int32) ≤ ((F_Rea_digitHere t0_0 t0_1 lx64 t0_3 t0_4 t0_5 t0_6 t0_7 t0_8 t0_9 t1_0 t2_0) : Int32) then (S_Rea_takeExponent_J117 (S_Rea_takeExponent_L61 x2 t0_0 t0_1 t0_2 t0_3 t0_4 t0_5 t0_6 t0_7 t0_8 t0_9 t1_0 t2_0 a19 lx31 lx51 fm) x2 t0_0 t0_1 t0_2 t0_3 t0_4 t0_5 t0_6 t0_7 t0_8 t0_9 t1_0 t2_0 a19 lx31 lx51 lx63 lx64) else (if (0 : Int32) ≤ (lg_cmp lx63 100000000000 : Int32) then (S_Rea_takeExponent_L61 x2 t0_0 t0_1 t0_2 t0_3 t0_4 t0_5 t0_6 t0_7 t0_8 t0_9 t1_0 t2_0 a19 lx31 lx51 fm lx63 (lx64 + 1 : Int32)) else ((True ∧ S_Rea_digitHere t0_0 t0_1 lx64 t0_3 t0_4 t0_5 t0_6 t0_7 t0_8 t0_9 t1_0 t2_0) ∧ (S_Rea_takeExponent_L61 x2 t0_0 t0_1 t0_2 t0_3 t0_4 t0_5 t0_6 t0_7 t0_8 t0_9 t1_0 t2_0 a19 lx31 lx51 fm ((lx63 * 10 : Int64) + (((F_Rea_digitHere t0_0 t0_1 lx64 t0_3 t0_4 t0_5 t0_6 t0_7 t0_8 t0_9 t1_0 t2_0) : Int32).toInt64 : Int64) : Int64) (lx64 + 1 : Int32))))))
def S_Rea_takeExponent_J53 (x2 : Int32) (t0_0 : Int64) (t0_1 : Int64) (t0_2 : Int32) (t0_3 : Int32) (t0_4 : Int32) (t0_5 : Int32) (t0_6 : Int32) (t0_7 : Int32) (t0_8 : Int32) (t0_9 : Int64) (t1_0 : Int32) (t2_0 : (Nat → Int64)) (a19 : Int32) (lx31 : Int32) (lx51 : Int32) : Prop := S_Rea_takeExponent_L61 x2 t0_0 t0_1 t0_2 t0_3 t0_4 t0_5 t0_6 t0_7 t0_8 t0_9 t1_0 t2_0 a19 lx31 lx51 ((t0_3.toInt - lx51.toInt).toNat + 1) 0 lx51
def S_Rea_takeExponent_J43 (x2 : Int32) (t0_0 : Int64) (t0_1 : Int64) (t0_2 : Int32) (t0_3 : Int32) (t0_4 : Int32) (t0_5 : Int32) (t0_6 : Int32) (t0_7 : Int32) (t0_8 : Int32) (t0_9 : Int64) (t1_0 : Int32) (t2_0 : (Nat → Int64)) (a19 : Int32) (lx31 : Int32) : Prop := S_Rea_takeExponent_J53 x2 t0_0 t0_1 t0_2 t0_3 t0_4 t0_5 t0_6 t0_7 t0_8 t0_9 t1_0 t2_0 a19 lx31 (a19 + 1 : Int32)
def S_Rea_takeExponent_J24 (x2 : Int32) (t0_0 : Int64) (t0_1 : Int64) (t0_2 : Int32) (t0_3 : Int32) (t0_4 : Int32) (t0_5 : Int32) (t0_6 : Int32) (t0_7 : Int32) (t0_8 : Int32) (t0_9 : Int64) (t1_0 : Int32) (t2_0 : (Nat → Int64)) (a19 : Int32) (lx31 : Int32) : Prop := (True ∧ S_Rea_here t0_0 t0_1 a19 t0_3 t0_4 t0_5 t0_6 t0_7 t0_8 t0_9 t1_0 t2_0) ∧ (if ((F_Rea_here t0_0 t0_1 a19 t0_3 t0_4 t0_5 t0_6 t0_7 t0_8 t0_9 t1_0 t2_0) : Int32) = (45 : Int32) then (S_Rea_takeExponent_J43 x2 t0_0 t0_1 t0_2 t0_3 t0_4 t0_5 t0_6 t0_7 t0_8 t0_9 t1_0 t2_0 a19 lx31) else ((True ∧ S_Rea_here t0_0 t0_1 a19 t0_3 t0_4 t0_5 t0_6 t0_7 t0_8 t0_9 t1_0 t2_0) ∧ (if ((F_Rea_here t0_0 t0_1 a19 t0_3 t0_4 t0_5 t0_6 t0_7 t0_8 t0_9 t1_0 t2_0) : Int32) = (43 : Int32) then (S_Rea_takeExponent_J43 x2 t0_0 t0_1 t0_2 t0_3 t0_4 t0_5 t0_6 t0_7 t0_8 t0_9 t1_0 t2_0 a19 lx31) else (S_Rea_takeExponent_J53 x2 t0_0 t0_1 t0_2 t0_3 t0_4 t0_5 t0_6 t0_7 t0_8 t0_9 t1_0 t2_0 a19 lx31 a19))))
def S_Rea_takeExponent (x2 : Int32) (t0_0 : Int64) (t0_1 : Int64) (t0_2 : Int32) (t0_3 : Int32) (t0_4 : Int32) (t0_5 : Int32) (t0_6 : Int32) (t0_7 : Int32) (t0_8 : Int32) (t0_9 : Int64) (t1_0 : Int32) (t2_0 : (Nat → Int64)) : Prop := (True ∧ S_Rea_here t0_0 t0_1 (t0_2 + 1 : Int32) t0_3 t0_4 t0_5 t0_6 t0_7 t0_8 t0_9 t1_0 t2_0) ∧ (if ((F_Rea_here t0_0 t0_1 (t0_2 + 1 : Int32) t0_3 t0_4 t0_5 t0_6 t0_7 t0_8 t0_9 t1_0 t2_0) : Int32) = (45 : Int32) then (S_Rea_takeExponent_J24 x2 t0_0 t0_1 t0_2 t0_3 t0_4 t0_5 t0_6 t0_7 t0_8 t0_9 t1_0 t2_0 (t0_2 + 1 : Int32) (-1)) else (S_Rea_takeExponent_J24 x2 t0_0 t0_1 t0_2 t0_3 t0_4 t0_5 t0_6 t0_7 t0_8 t0_9 t1_0 t2_0 (t0_2 + 1 : Int32) 1))
set_option maxRecDepth 100000 in
set_option maxHeartbeats 4000000 in
theorem X_Rea_takeExponent (l : Launch) (D : va_G) (g : Nat → ClassId) (q : Nat → Nat) (ws : va_W) (x2 : Int32) (hI : q_I (nsh g q) q ws) (t0_0 : Int64) (t0_1 : Int64) (t0_2 : Int32) (t0_3 : Int32) (t0_4 : Int32) (t0_5 : Int32) (t0_6 : Int32) (t0_7 : Int32) (t0_8 : Int32) (t0_9 : Int64) (hT0 : ws[38]? = (some (q 38, .inr (8, [.long t0_0, .long t0_1, .ref (q 1), .ref (q 9), .int t0_2, .int t0_3, .int t0_4, .int t0_5, .int t0_6, .int t0_7, .int t0_8, .long t0_9])) : Option (Nat × va_E))) (t1_0 : Int32) (hT1 : ws[1]? = (some (q 1, .inr (1, [.ref (q 2), .int 4100, .int t1_0])) : Option (Nat × va_E))) (t2_0 : (Nat → Int64)) (hT2 : ws[2]? = (some (q 2, .inl (g 1, (513 : Int32).toNatClampNeg, .inr (.inl t2_0))) : Option (Nat × va_E))) (hS : True ∧ S_Rea_takeExponent x2 t0_0 t0_1 t0_2 t0_3 t0_4 t0_5 t0_6 t0_7 t0_8 t0_9 t1_0 t2_0) : q_mI l y_Rea_takeExponent prog_10_method_14_code 6 (.boolean) 4 0 0 D g [.ref (q 38), .int x2] ws (fun r u => q_I (nsh g q) q u ∧ q_un ws u [38] ∧ ∃ (u0_0 : Int64) (u0_1 : Int64) (u0_2 : Int32) (u0_3 : Int32) (u0_4 : Int32) (u0_5 : Int32) (u0_6 : Int32) (u0_7 : Int32) (u0_8 : Int32) (u0_9 : Int64), u[38]? = (some (q 38, .inr (8, [.long u0_0, .long u0_1, .ref (q 1), .ref (q 9), .int u0_2, .int u0_3, .int u0_4, .int u0_5, .int u0_6, .int u0_7, .int u0_8, .long u0_9])) : Option (Nat × va_E)) ∧ (0 ≤ r.toInt) ∧ (r.toInt ≤ 1) ∧ (t0_0.toInt ≤ u0_0.toInt) ∧ (u0_0.toInt ≤ t0_0.toInt) ∧ (t0_1.toInt ≤ u0_1.toInt) ∧ (u0_1.toInt ≤ t0_1.toInt) ∧ (t0_3.toInt ≤ u0_3.toInt) ∧ (u0_3.toInt ≤ t0_3.toInt) ∧ (t0_4.toInt ≤ u0_4.toInt) ∧ (u0_4.toInt ≤ t0_4.toInt) ∧ (t0_5.toInt ≤ u0_5.toInt) ∧ (u0_5.toInt ≤ t0_5.toInt) ∧ (t0_6.toInt ≤ u0_6.toInt) ∧ (u0_6.toInt ≤ t0_6.toInt) ∧ (t0_7.toInt ≤ u0_7.toInt) ∧ (u0_7.toInt ≤ t0_7.toInt) ∧ (t0_8.toInt ≤ u0_8.toInt) ∧ (u0_8.toInt ≤ t0_8.toInt) ∧ (r, u0_0, u0_1, u0_2, u0_3, u0_4, u0_5, u0_6, u0_7, u0_8, u0_9) = (F_Rea_takeExponent x2 t0_0 t0_1 t0_2 t0_3 t0_4 t0_5 t0_6 t0_7 t0_8 t0_9 t1_0 t2_0)) := by
  intro sz
  refine q_into (by decide) (Nat.le_of_ble_eq_true rfl) ?_
  intro p e s m below meth c ls hsz C0 V hl
  have hx := C0.1
  have hb := C0.2.1
  obtain ⟨yy0_0, yy0_1, yy0_2, yy0_3, yy0_4, yy0_5, yy0_6, yy0_7, yy0_8, yy0_9, hh0, btt0_4, btt0_8⟩ := n_o38 hI
  obtain ⟨rfl, rfl, rfl, rfl, rfl, rfl, rfl, rfl, rfl, rfl⟩ : t0_0 = yy0_0 ∧ t0_1 = yy0_1 ∧ t0_2 = yy0_2 ∧ t0_3 = yy0_3 ∧ t0_4 = yy0_4 ∧ t0_5 = yy0_5 ∧ t0_6 = yy0_6 ∧ t0_7 = yy0_7 ∧ t0_8 = yy0_8 ∧ t0_9 = yy0_9 := by have z := Option.some.inj (hT0.symm.trans hh0); simpa using z
  replace btt0_4 : q_F (0 ≤ t0_4.toInt ∧ t0_4.toInt ≤ 1) := btt0_4
  replace btt0_8 : q_F (0 ≤ t0_8.toInt ∧ t0_8.toInt ≤ 1) := btt0_8
  obtain ⟨yy1_0, hh1, btt1_0⟩ := n_shO hI (n_h1 g q)
  obtain ⟨rfl⟩ : t1_0 = yy1_0 := by have z := Option.some.inj (hT1.symm.trans hh1); simpa using z
  replace btt1_0 : q_F (0 ≤ t1_0.toInt ∧ t1_0.toInt ≤ 4100) := btt1_0
  have hF : q_un ws ws [38] := q_u0
  have hl : lv_has ls 6 [(0, .ref (q 38)), (1, .int x2)] := hl
  refine lv_aload_n hx hb d_10_14_0 rfl (lv_at hl 0 rfl) ?_
  refine lv_dup hx hb d_10_14_1 rfl ?_
  refine q_get (ci := 8) (j := 4) (v := .int t0_2) C0 V i_Rea rfl rfl hT0 (by decide) w_290 rfl d_10_14_2 ?_
  refine lv_iconst (v := 1) hx hb d_10_14_5 (by decide) ?_
  refine lv_iadd hx hb d_10_14_6 ?_
  obtain ⟨a19, e20⟩ := q_nm (t0_2 + 1 : Int32)
  refine q_ti (v := a19) e20 ?_
  refine q_put (ci := 8) (j := 4) (v := .int a19) (ty := .int) C0 V i_Rea o_Rea n_Rea rfl rfl hT0 (by decide) w_290 rfl rfl rfl rfl (Nat.le_of_ble_eq_true rfl) d_10_14_7 (fun H locs w21 hu22 hT0 V => ?_)
  replace hT0 : w21[38]? = (some (q 38, .inr (8, [.long t0_0, .long t0_1, .ref (q 1), .ref (q 9), .int a19, .int t0_3, .int t0_4, .int t0_5, .int t0_6, .int t0_7, .int t0_8, .long t0_9])) : Option (Nat × va_E)) := hT0
  replace hI := n_p38 hI hu22 hT0 ⟨(by have t1 : 0 ≤ t0_4.toInt ∧ t0_4.toInt ≤ 1 := btt0_4; omega), (by have t1 : 0 ≤ t0_4.toInt ∧ t0_4.toInt ≤ 1 := btt0_4; omega)⟩ ⟨(by have t1 : 0 ≤ t0_8.toInt ∧ t0_8.toInt ≤ 1 := btt0_8; omega), (by have t1 : 0 ≤ t0_8.toInt ∧ t0_8.toInt ≤ 1 := btt0_8; omega)⟩
  replace hT1 := (hu22 _ (by decide)).trans hT1
  replace hT2 := (hu22 _ (by decide)).trans hT2
  replace hF := q_us hF hu22 (by simp)
  refine lv_aload_n hx hb d_10_14_10 rfl (lv_at hl 0 rfl) ?_
  have ob23 : True ∧ S_Rea_here t0_0 t0_1 a19 t0_3 t0_4 t0_5 t0_6 t0_7 t0_8 t0_9 t1_0 t2_0 := (by rw [← e20]; have h := hS; rw [S_Rea_takeExponent.eq_1] at h; with_reducible exact h.2.1)
  refine q_goi V (q_runV (As := []) (rest := []) (d := 2) (mc := 0) (ms := 0) (ci := 8) C0 V rfl LV_Rea_70 (X_Rea_here l D g q w21   hI t0_0 t0_1 a19 t0_3 t0_4 t0_5 t0_6 t0_7 t0_8 t0_9 hT0 t1_0 hT1 t2_0 hT2 ob23 _) rfl rfl hT0 rfl hl.1 rfl (Nat.le_of_ble_eq_true rfl) ⟨by decide, by decide⟩ ⟨Nat.le_of_ble_eq_true rfl, Nat.le_of_ble_eq_true rfl⟩ d_10_14_11) (fun a26 u24 H locs hp25 V => ?_)
  obtain ⟨rfl, b27, b28, hE29⟩ := hp25
  have e30 : a26 = (F_Rea_here t0_0 t0_1 a19 t0_3 t0_4 t0_5 t0_6 t0_7 t0_8 t0_9 t1_0 t2_0) := hE29
  replace b27 : q_F (0 ≤ a26.toInt + 1) := b27
  replace b28 : q_F (a26.toInt ≤ 255) := b28
  refine lv_bipush (v := 45) hx hb d_10_14_14 (by decide) ?_
  refine q_join (X := Int32) (fun z H locs ls _ => q_F (0 ≤ z.toInt + 1) ∧ q_F (z.toInt ≤ 1) ∧ q_Wd D g (va_A ws sz) s w21 H locs ∧ lv_has ls 6 [(0, .ref (q 38)), (1, .int x2)] ∧ F_Rea_takeExponent_J24 x2 t0_0 t0_1 t0_2 t0_3 t0_4 t0_5 t0_6 t0_7 t0_8 t0_9 t1_0 t2_0 a19 z = (F_Rea_takeExponent x2 t0_0 t0_1 t0_2 t0_3 t0_4 t0_5 t0_6 t0_7 t0_8 t0_9 t1_0 t2_0) ∧ True ∧ S_Rea_takeExponent_J24 x2 t0_0 t0_1 t0_2 t0_3 t0_4 t0_5 t0_6 t0_7 t0_8 t0_9 t1_0 t2_0 a19 z) (fun z => [.int z]) 24 0 0 ?_ ?_
  ·
    rintro lx31 H locs ls _ ⟨i36, i37, V, hl, hR38, hS39⟩
    replace i36 : q_F (0 ≤ lx31.toInt + 1) := i36
    replace i37 : q_F (lx31.toInt ≤ 1) := i37
    replace hl : lv_has ls 6 [(0, .ref (q 38)), (1, .int x2)] := hl
    refine lv_istore_n (lv' := [(2, .int lx31), (0, .ref (q 38)), (1, .int x2)]) hx hb d_10_14_24 rfl hl (by decide) rfl (fun ls hl => ?_)
    refine lv_aload_n hx hb d_10_14_25 rfl (lv_at hl 1 rfl) ?_
    have ob43 : True ∧ S_Rea_here t0_0 t0_1 a19 t0_3 t0_4 t0_5 t0_6 t0_7 t0_8 t0_9 t1_0 t2_0 := (by have h := hS39; rw [S_Rea_takeExponent_J24.eq_1] at h; with_reducible exact h.2.1)
    refine q_goi V (q_runV (As := []) (rest := []) (d := 2) (mc := 0) (ms := 0) (ci := 8) C0 V rfl LV_Rea_70 (X_Rea_here l D g q w21   hI t0_0 t0_1 a19 t0_3 t0_4 t0_5 t0_6 t0_7 t0_8 t0_9 hT0 t1_0 hT1 t2_0 hT2 ob43 _) rfl rfl hT0 rfl hl.1 rfl (Nat.le_of_ble_eq_true rfl) ⟨by decide, by decide⟩ ⟨Nat.le_of_ble_eq_true rfl, Nat.le_of_ble_eq_true rfl⟩ d_10_14_26) (fun a46 u44 H locs hp45 V => ?_)
    obtain ⟨rfl, b47, b48, hE49⟩ := hp45
    have e50 : a46 = (F_Rea_here t0_0 t0_1 a19 t0_3 t0_4 t0_5 t0_6 t0_7 t0_8 t0_9 t1_0 t2_0) := hE49
    replace b47 : q_F (0 ≤ a46.toInt + 1) := b47
    replace b48 : q_F (a46.toInt ≤ 255) := b48
    refine lv_bipush (v := 45) hx hb d_10_14_29 (by decide) ?_
    refine q_join (X := Int32) (fun z H locs ls w56 => q_Wd D g (va_A ws sz) s w56 H locs ∧ lv_has ls 6 [(2, .int lx31), (0, .ref (q 38)), (1, .int x2)] ∧ q_I (nsh g q) q w56 ∧ q_un ws w56 [38] ∧ w56[38]? = (some (q 38, .inr (8, [.long t0_0, .long t0_1, .ref (q 1), .ref (q 9), .int z, .int t0_3, .int t0_4, .int t0_5, .int t0_6, .int t0_7, .int t0_8, .long t0_9])) : Option (Nat × va_E)) ∧ w56[1]? = (some (q 1, .inr (1, [.ref (q 2), .int 4100, .int t1_0])) : Option (Nat × va_E)) ∧ w56[2]? = (some (q 2, .inl (g 1, (513 : Int32).toNatClampNeg, .inr (.inl t2_0))) : Option (Nat × va_E)) ∧ F_Rea_takeExponent_J53 x2 t0_0 t0_1 t0_2 t0_3 t0_4 t0_5 t0_6 t0_7 t0_8 t0_9 t1_0 t2_0 a19 lx31 z = (F_Rea_takeExponent x2 t0_0 t0_1 t0_2 t0_3 t0_4 t0_5 t0_6 t0_7 t0_8 t0_9 t1_0 t2_0) ∧ True ∧ S_Rea_takeExponent_J53 x2 t0_0 t0_1 t0_2 t0_3 t0_4 t0_5 t0_6 t0_7 t0_8 t0_9 t1_0 t2_0 a19 lx31 z) (fun z => []) 53 0 0 ?_ ?_
    ·
      rintro lx51 H locs ls w56 ⟨V, hl, hI, hF, hO52, hO53, hA54, hR57, hS58⟩
      replace hl : lv_has ls 6 [(2, .int lx31), (0, .ref (q 38)), (1, .int x2)] := hl
      replace hO52 : w56[38]? = (some (q 38, .inr (8, [.long t0_0, .long t0_1, .ref (q 1), .ref (q 9), .int lx51, .int t0_3, .int t0_4, .int t0_5, .int t0_6, .int t0_7, .int t0_8, .long t0_9])) : Option (Nat × va_E)) := hO52
      replace hO53 : w56[1]? = (some (q 1, .inr (1, [.ref (q 2), .int 4100, .int t1_0])) : Option (Nat × va_E)) := hO53
      replace hA54 : w56[2]? = (some (q 2, .inl (g 1, (513 : Int32).toNatClampNeg, .inr (.inl t2_0))) : Option (Nat × va_E)) := hA54
      refine lv_aload_n hx hb d_10_14_53 rfl (lv_at hl 1 rfl) ?_
      refine q_get (ci := 8) (j := 4) (v := .int lx51) C0 V i_Rea rfl rfl hO52 (by decide) w_290 rfl d_10_14_54 ?_
      refine lv_istore_n (lv' := [(3, .int lx51), (2, .int lx31), (0, .ref (q 38)), (1, .int x2)]) hx hb d_10_14_57 rfl hl (by decide) rfl (fun ls hl => ?_)
      refine lv_lconst (v := 0) hx hb d_10_14_58 (by decide) ?_
      refine lv_lstore (lv' := [(4, .long 0), (3, .int lx51), (2, .int lx31), (0, .ref (q 38)), (1, .int x2)]) hx hb d_10_14_59 hl (by decide) rfl (fun ls hl => ?_)
      refine q_loop (X := Int64 × Int32) (fun z H locs ls w68 => q_F (0 ≤ z.1.toInt) ∧ q_F (lx51.toInt ≤ z.2.toInt) ∧ q_Wd D g (va_A ws sz) s w68 H locs ∧ lv_has ls 6 [(4, .long z.1), (3, .int lx51), (2, .int lx31), (0, .ref (q 38)), (1, .int x2)] ∧ q_I (nsh g q) q w68 ∧ q_un ws w68 [38] ∧ w68[38]? = (some (q 38, .inr (8, [.long t0_0, .long t0_1, .ref (q 1), .ref (q 9), .int z.2, .int t0_3, .int t0_4, .int t0_5, .int t0_6, .int t0_7, .int t0_8, .long t0_9])) : Option (Nat × va_E)) ∧ w68[1]? = (some (q 1, .inr (1, [.ref (q 2), .int 4100, .int t1_0])) : Option (Nat × va_E)) ∧ w68[2]? = (some (q 2, .inl (g 1, (513 : Int32).toNatClampNeg, .inr (.inl t2_0))) : Option (Nat × va_E)) ∧ (∃ n, (t0_3.toInt - z.2.toInt).toNat < n ∧ F_Rea_takeExponent_L61 x2 t0_0 t0_1 t0_2 t0_3 t0_4 t0_5 t0_6 t0_7 t0_8 t0_9 t1_0 t2_0 a19 lx31 lx51 n z.1 z.2 = (F_Rea_takeExponent x2 t0_0 t0_1 t0_2 t0_3 t0_4 t0_5 t0_6 t0_7 t0_8 t0_9 t1_0 t2_0) ∧ True ∧ S_Rea_takeExponent_L61 x2 t0_0 t0_1 t0_2 t0_3 t0_4 t0_5 t0_6 t0_7 t0_8 t0_9 t1_0 t2_0 a19 lx31 lx51 n z.1 z.2)) (fun z => (t0_3.toInt - z.2.toInt).toNat) ?_ ((0 : Int64), (lx51 : Int32)) _ _ _ w56 ⟨(show q_F (0 ≤ 0) from (show 0 ≤ 0 from by omega)), (show q_F (lx51.toInt ≤ lx51.toInt) from (show lx51.toInt ≤ lx51.toInt from by omega)), V, q_lw hl (q_lw1 0 rfl (q_lw1 1 rfl (q_lw1 2 rfl (q_lw1 3 rfl (q_lw1 4 rfl q_lw0))))), hI, hF, hO52, hO53, hA54, ⟨((t0_3.toInt - lx51.toInt).toNat + 1), Nat.lt_succ_self _, (show F_Rea_takeExponent_L61 x2 t0_0 t0_1 t0_2 t0_3 t0_4 t0_5 t0_6 t0_7 t0_8 t0_9 t1_0 t2_0 a19 lx31 lx51 ((t0_3.toInt - lx51.toInt).toNat + 1) 0 lx51 = (F_Rea_takeExponent x2 t0_0 t0_1 t0_2 t0_3 t0_4 t0_5 t0_6 t0_7 t0_8 t0_9 t1_0 t2_0) from Eq.trans (by rw [F_Rea_takeExponent_J53.eq_1]) hR57), (show True ∧ S_Rea_takeExponent_L61 x2 t0_0 t0_1 t0_2 t0_3 t0_4 t0_5 t0_6 t0_7 t0_8 t0_9 t1_0 t2_0 a19 lx31 lx51 ((t0_3.toInt - lx51.toInt).toNat + 1) 0 lx51 from (by have h := hS58; rw [S_Rea_takeExponent_J53.eq_1] at h; with_reducible exact h))⟩⟩
      rintro ⟨lx63, lx64⟩ H locs ls w68 ⟨i65, i66, V, hl, hI, hF, hO69, hO70, hO71, ⟨fu74, hf75, hR72, hS73⟩⟩ ih67
      obtain ⟨fm76, rfl⟩ : ∃ m, fu74 = m + 1 := ⟨fu74 - 1, by omega⟩
      replace i65 : q_F (0 ≤ lx63.toInt) := i65
      replace i66 : q_F (lx51.toInt ≤ lx64.toInt) := i66
      replace hl : lv_has ls 6 [(4, .long lx63), (3, .int lx51), (2, .int lx31), (0, .ref (q 38)), (1, .int x2)] := hl
      replace hO69 : w68[38]? = (some (q 38, .inr (8, [.long t0_0, .long t0_1, .ref (q 1), .ref (q 9), .int lx64, .int t0_3, .int t0_4, .int t0_5, .int t0_6, .int t0_7, .int t0_8, .long t0_9])) : Option (Nat × va_E)) := hO69
      replace hO70 : w68[1]? = (some (q 1, .inr (1, [.ref (q 2), .int 4100, .int t1_0])) : Option (Nat × va_E)) := hO70
      replace hO71 : w68[2]? = (some (q 2, .inl (g 1, (513 : Int32).toNatClampNeg, .inr (.inl t2_0))) : Option (Nat × va_E)) := hO71
      refine lv_aload_n hx hb d_10_14_61 rfl (lv_at hl 3 rfl) ?_
      refine q_get (ci := 8) (j := 4) (v := .int lx64) C0 V i_Rea rfl rfl hO69 (by decide) w_290 rfl d_10_14_62 ?_
      refine lv_aload_n hx hb d_10_14_65 rfl (lv_at hl 3 rfl) ?_
      refine q_get (ci := 8) (j := 5) (v := .int t0_3) C0 V i_Rea rfl rfl hO69 (by decide) w_291 rfl d_10_14_66 ?_
      refine q_join (X := Unit) (fun z H locs ls _ => q_Wd D g (va_A ws sz) s w68 H locs ∧ lv_has ls 6 [(4, .long lx63), (3, .int lx51), (2, .int lx31), (0, .ref (q 38)), (1, .int x2)] ∧ F_Rea_takeExponent_J117 (F_Rea_takeExponent_L61 x2 t0_0 t0_1 t0_2 t0_3 t0_4 t0_5 t0_6 t0_7 t0_8 t0_9 t1_0 t2_0 a19 lx31 lx51 fm76) x2 t0_0 t0_1 t0_2 t0_3 t0_4 t0_5 t0_6 t0_7 t0_8 t0_9 t1_0 t2_0 a19 lx31 lx51 lx63 lx64 = (F_Rea_takeExponent x2 t0_0 t0_1 t0_2 t0_3 t0_4 t0_5 t0_6 t0_7 t0_8 t0_9 t1_0 t2_0) ∧ True ∧ S_Rea_takeExponent_J117 (S_Rea_takeExponent_L61 x2 t0_0 t0_1 t0_2 t0_3 t0_4 t0_5 t0_6 t0_7 t0_8 t0_9 t1_0 t2_0 a19 lx31 lx51 fm76) x2 t0_0 t0_1 t0_2 t0_3 t0_4 t0_5 t0_6 t0_7 t0_8 t0_9 t1_0 t2_0 a19 lx31 lx51 lx63 lx64) (fun z => []) 117 0 0 ?_ ?_
      ·
        rintro _ H locs ls _ ⟨V, hl, hR81, hS82⟩
        replace hl : lv_has ls 6 [(4, .long lx63), (3, .int lx51), (2, .int lx31), (0, .ref (q 38)), (1, .int x2)] := hl
        refine lv_aload_n hx hb d_10_14_117 rfl (lv_at hl 3 rfl) ?_
        refine lv_iload_n hx hb d_10_14_118 rfl (lv_at hl 2 rfl) ?_
        refine lv_i2l hx hb d_10_14_119 rfl ?_
        obtain ⟨j86, e87⟩ := q_nm (lx31.toInt64 : Int64)
        refine q_tl (v := j86) e87 ?_
        have b88 : q_F (j86.toInt = lx31.toInt) := (by rw [← e87]; show (lx31.toInt64 : Int64).toInt = lx31.toInt; exact q_i2l rfl)
        refine lv_lload hx hb d_10_14_120 (lv_at hl 0 rfl) ?_
        refine lv_lmul hx hb d_10_14_122 ?_
        obtain ⟨j89, e90⟩ := q_nm (j86 * lx63 : Int64)
        refine q_tl (v := j89) e90 ?_
        refine q_put (ci := 8) (j := 11) (v := .long j89) (ty := .long) C0 V i_Rea o_Rea n_Rea rfl rfl hO69 (by decide) w_297 rfl rfl rfl rfl (Nat.le_of_ble_eq_true rfl) d_10_14_123 (fun H locs w91 hu92 hO69 V => ?_)
        replace hO69 : w91[38]? = (some (q 38, .inr (8, [.long t0_0, .long t0_1, .ref (q 1), .ref (q 9), .int lx64, .int t0_3, .int t0_4, .int t0_5, .int t0_6, .int t0_7, .int t0_8, .long j89])) : Option (Nat × va_E)) := hO69
        replace hI := n_p38 hI hu92 hO69 ⟨(by have t1 : 0 ≤ t0_4.toInt ∧ t0_4.toInt ≤ 1 := btt0_4; omega), (by have t1 : 0 ≤ t0_4.toInt ∧ t0_4.toInt ≤ 1 := btt0_4; omega)⟩ ⟨(by have t1 : 0 ≤ t0_8.toInt ∧ t0_8.toInt ≤ 1 := btt0_8; omega), (by have t1 : 0 ≤ t0_8.toInt ∧ t0_8.toInt ≤ 1 := btt0_8; omega)⟩
        replace hO70 := (hu92 _ (by decide)).trans hO70
        replace hO71 := (hu92 _ (by decide)).trans hO71
        replace hF := q_us hF hu92 (by simp)
        refine lv_aload_n hx hb d_10_14_126 rfl (lv_at hl 3 rfl) ?_
        refine q_get (ci := 8) (j := 4) (v := .int lx64) C0 V i_Rea rfl rfl hO69 (by decide) w_290 rfl d_10_14_127 ?_
        refine lv_iload_n hx hb d_10_14_130 rfl (lv_at hl 1 rfl) ?_
        refine lv_icmp_le (tgt := 148) hx hb d_10_14_131 (by decide) (fun c93 => ?_) (fun c93 => ?_)
        ·
          have b94 : q_F (lx64.toInt ≤ lx51.toInt) := (q_leI c93)
          refine lv_iconst (v := 0) hx hb d_10_14_148 (by decide) ?_
          exact q_retz C0 V (by decide) (⟨hI, hF, t0_0, t0_1, lx64, t0_3, t0_4, t0_5, t0_6, t0_7, t0_8, j89, hO69, (show 0 ≤ (0 : Int32).toInt from (by have z13 : (0 : Int32).toInt = 0 := rfl; omega)), (show (0 : Int32).toInt ≤ 1 from (by have z13 : (0 : Int32).toInt = 0 := rfl; omega)), (show t0_0.toInt ≤ t0_0.toInt from (by have z13 : (0 : Int32).toInt = 0 := rfl; omega)), (show t0_0.toInt ≤ t0_0.toInt from (by have z13 : (0 : Int32).toInt = 0 := rfl; omega)), (show t0_1.toInt ≤ t0_1.toInt from (by have z13 : (0 : Int32).toInt = 0 := rfl; omega)), (show t0_1.toInt ≤ t0_1.toInt from (by have z13 : (0 : Int32).toInt = 0 := rfl; omega)), (show t0_3.toInt ≤ t0_3.toInt from (by have z13 : (0 : Int32).toInt = 0 := rfl; omega)), (show t0_3.toInt ≤ t0_3.toInt from (by have z13 : (0 : Int32).toInt = 0 := rfl; omega)), (show t0_4.toInt ≤ t0_4.toInt from (by have z13 : (0 : Int32).toInt = 0 := rfl; omega)), (show t0_4.toInt ≤ t0_4.toInt from (by have z13 : (0 : Int32).toInt = 0 := rfl; omega)), (show t0_5.toInt ≤ t0_5.toInt from (by have z13 : (0 : Int32).toInt = 0 := rfl; omega)), (show t0_5.toInt ≤ t0_5.toInt from (by have z13 : (0 : Int32).toInt = 0 := rfl; omega)), (show t0_6.toInt ≤ t0_6.toInt from (by have z13 : (0 : Int32).toInt = 0 := rfl; omega)), (show t0_6.toInt ≤ t0_6.toInt from (by have z13 : (0 : Int32).toInt = 0 := rfl; omega)), (show t0_7.toInt ≤ t0_7.toInt from (by have z13 : (0 : Int32).toInt = 0 := rfl; omega)), (show t0_7.toInt ≤ t0_7.toInt from (by have z13 : (0 : Int32).toInt = 0 := rfl; omega)), (show t0_8.toInt ≤ t0_8.toInt from (by have z13 : (0 : Int32).toInt = 0 := rfl; omega)), (show t0_8.toInt ≤ t0_8.toInt from (by have z13 : (0 : Int32).toInt = 0 := rfl; omega)), (show ((0 : Int32), t0_0, t0_1, lx64, t0_3, t0_4, t0_5, t0_6, t0_7, t0_8, j89) = (F_Rea_takeExponent x2 t0_0 t0_1 t0_2 t0_3 t0_4 t0_5 t0_6 t0_7 t0_8 t0_9 t1_0 t2_0) from Eq.trans (by rw [← e90, ← e87, F_Rea_takeExponent_J117.eq_1, if_pos c93]) hR81)⟩) d_10_14_149
        ·
          have b95 : q_F (lx51.toInt < lx64.toInt) := (q_nleI c93)
          refine lv_aload_n hx hb d_10_14_134 rfl (lv_at hl 3 rfl) ?_
          refine q_get (ci := 8) (j := 4) (v := .int lx64) C0 V i_Rea rfl rfl hO69 (by decide) w_290 rfl d_10_14_135 ?_
          refine lv_iload_n hx hb d_10_14_138 rfl (lv_at hl 1 rfl) ?_
          refine lv_isub hx hb d_10_14_139 ?_
          obtain ⟨a96, e97⟩ := q_nm (lx64 - lx51 : Int32)
          refine q_ti (v := a96) e97 ?_
          refine lv_iload_n hx hb d_10_14_140 rfl (lv_at hl 4 rfl) ?_
          refine lv_icmp_gt (tgt := 148) hx hb d_10_14_141 (by decide) (fun c98 => ?_) (fun c98 => ?_)
          ·
            have b99 : q_F (x2.toInt < a96.toInt) := (q_ltI c98)
            refine lv_iconst (v := 0) hx hb d_10_14_148 (by decide) ?_
            exact q_retz C0 V (by decide) (⟨hI, hF, t0_0, t0_1, lx64, t0_3, t0_4, t0_5, t0_6, t0_7, t0_8, j89, hO69, (show 0 ≤ (0 : Int32).toInt from (by have z13 : (0 : Int32).toInt = 0 := rfl; omega)), (show (0 : Int32).toInt ≤ 1 from (by have z13 : (0 : Int32).toInt = 0 := rfl; omega)), (show t0_0.toInt ≤ t0_0.toInt from (by have z13 : (0 : Int32).toInt = 0 := rfl; omega)), (show t0_0.toInt ≤ t0_0.toInt from (by have z13 : (0 : Int32).toInt = 0 := rfl; omega)), (show t0_1.toInt ≤ t0_1.toInt from (by have z13 : (0 : Int32).toInt = 0 := rfl; omega)), (show t0_1.toInt ≤ t0_1.toInt from (by have z13 : (0 : Int32).toInt = 0 := rfl; omega)), (show t0_3.toInt ≤ t0_3.toInt from (by have z13 : (0 : Int32).toInt = 0 := rfl; omega)), (show t0_3.toInt ≤ t0_3.toInt from (by have z13 : (0 : Int32).toInt = 0 := rfl; omega)), (show t0_4.toInt ≤ t0_4.toInt from (by have z13 : (0 : Int32).toInt = 0 := rfl; omega)), (show t0_4.toInt ≤ t0_4.toInt from (by have z13 : (0 : Int32).toInt = 0 := rfl; omega)), (show t0_5.toInt ≤ t0_5.toInt from (by have z13 : (0 : Int32).toInt = 0 := rfl; omega)), (show t0_5.toInt ≤ t0_5.toInt from (by have z13 : (0 : Int32).toInt = 0 := rfl; omega)), (show t0_6.toInt ≤ t0_6.toInt from (by have z13 : (0 : Int32).toInt = 0 := rfl; omega)), (show t0_6.toInt ≤ t0_6.toInt from (by have z13 : (0 : Int32).toInt = 0 := rfl; omega)), (show t0_7.toInt ≤ t0_7.toInt from (by have z13 : (0 : Int32).toInt = 0 := rfl; omega)), (show t0_7.toInt ≤ t0_7.toInt from (by have z13 : (0 : Int32).toInt = 0 := rfl; omega)), (show t0_8.toInt ≤ t0_8.toInt from (by have z13 : (0 : Int32).toInt = 0 := rfl; omega)), (show t0_8.toInt ≤ t0_8.toInt from (by have z13 : (0 : Int32).toInt = 0 := rfl; omega)), (show ((0 : Int32), t0_0, t0_1, lx64, t0_3, t0_4, t0_5, t0_6, t0_7, t0_8, j89) = (F_Rea_takeExponent x2 t0_0 t0_1 t0_2 t0_3 t0_4 t0_5 t0_6 t0_7 t0_8 t0_9 t1_0 t2_0) from Eq.trans (by have c98x := c98; rw [← e97] at c98x; rw [← e90, ← e87, F_Rea_takeExponent_J117.eq_1, if_neg c93, if_pos c98x]) hR81)⟩) d_10_14_149
          ·
            have b100 : q_F (a96.toInt ≤ x2.toInt) := (q_nltI c98)
            refine lv_iconst (v := 1) hx hb d_10_14_144 (by decide) ?_
            refine lv_goto (tgt := 149) hx hb d_10_14_145 (by decide) ?_
            exact q_retz C0 V (by decide) (⟨hI, hF, t0_0, t0_1, lx64, t0_3, t0_4, t0_5, t0_6, t0_7, t0_8, j89, hO69, (show 0 ≤ (1 : Int32).toInt from (by have z13 : (1 : Int32).toInt = 1 := rfl; omega)), (show (1 : Int32).toInt ≤ 1 from (by have z13 : (1 : Int32).toInt = 1 := rfl; omega)), (show t0_0.toInt ≤ t0_0.toInt from (by have z13 : (1 : Int32).toInt = 1 := rfl; omega)), (show t0_0.toInt ≤ t0_0.toInt from (by have z13 : (1 : Int32).toInt = 1 := rfl; omega)), (show t0_1.toInt ≤ t0_1.toInt from (by have z13 : (1 : Int32).toInt = 1 := rfl; omega)), (show t0_1.toInt ≤ t0_1.toInt from (by have z13 : (1 : Int32).toInt = 1 := rfl; omega)), (show t0_3.toInt ≤ t0_3.toInt from (by have z13 : (1 : Int32).toInt = 1 := rfl; omega)), (show t0_3.toInt ≤ t0_3.toInt from (by have z13 : (1 : Int32).toInt = 1 := rfl; omega)), (show t0_4.toInt ≤ t0_4.toInt from (by have z13 : (1 : Int32).toInt = 1 := rfl; omega)), (show t0_4.toInt ≤ t0_4.toInt from (by have z13 : (1 : Int32).toInt = 1 := rfl; omega)), (show t0_5.toInt ≤ t0_5.toInt from (by have z13 : (1 : Int32).toInt = 1 := rfl; omega)), (show t0_5.toInt ≤ t0_5.toInt from (by have z13 : (1 : Int32).toInt = 1 := rfl; omega)), (show t0_6.toInt ≤ t0_6.toInt from (by have z13 : (1 : Int32).toInt = 1 := rfl; omega)), (show t0_6.toInt ≤ t0_6.toInt from (by have z13 : (1 : Int32).toInt = 1 := rfl; omega)), (show t0_7.toInt ≤ t0_7.toInt from (by have z13 : (1 : Int32).toInt = 1 := rfl; omega)), (show t0_7.toInt ≤ t0_7.toInt from (by have z13 : (1 : Int32).toInt = 1 := rfl; omega)), (show t0_8.toInt ≤ t0_8.toInt from (by have z13 : (1 : Int32).toInt = 1 := rfl; omega)), (show t0_8.toInt ≤ t0_8.toInt from (by have z13 : (1 : Int32).toInt = 1 := rfl; omega)), (show ((1 : Int32), t0_0, t0_1, lx64, t0_3, t0_4, t0_5, t0_6, t0_7, t0_8, j89) = (F_Rea_takeExponent x2 t0_0 t0_1 t0_2 t0_3 t0_4 t0_5 t0_6 t0_7 t0_8 t0_9 t1_0 t2_0) from Eq.trans (by have c98x := c98; rw [← e97] at c98x; rw [← e90, ← e87, F_Rea_takeExponent_J117.eq_1, if_neg c93, if_neg c98x]) hR81)⟩) d_10_14_149
      ·
        intro J80
        refine lv_icmp_ge (tgt := 117) hx hb d_10_14_69 (by decide) (fun c101 => ?_) (fun c101 => ?_)
        ·
          have b102 : q_F (t0_3.toInt ≤ lx64.toInt) := (q_leI c101)
          exact J80 (()) _ _ _ w68 ⟨V, q_lw hl (q_lw1 0 rfl (q_lw1 1 rfl (q_lw1 2 rfl (q_lw1 3 rfl (q_lw1 4 rfl q_lw0))))), (show F_Rea_takeExponent_J117 (F_Rea_takeExponent_L61 x2 t0_0 t0_1 t0_2 t0_3 t0_4 t0_5 t0_6 t0_7 t0_8 t0_9 t1_0 t2_0 a19 lx31 lx51 fm76) x2 t0_0 t0_1 t0_2 t0_3 t0_4 t0_5 t0_6 t0_7 t0_8 t0_9 t1_0 t2_0 a19 lx31 lx51 lx63 lx64 = (F_Rea_takeExponent x2 t0_0 t0_1 t0_2 t0_3 t0_4 t0_5 t0_6 t0_7 t0_8 t0_9 t1_0 t2_0) from Eq.trans (by rw [F_Rea_takeExponent_L61.eq_2, if_pos c101]) hR72), (show True ∧ S_Rea_takeExponent_J117 (S_Rea_takeExponent_L61 x2 t0_0 t0_1 t0_2 t0_3 t0_4 t0_5 t0_6 t0_7 t0_8 t0_9 t1_0 t2_0 a19 lx31 lx51 fm76) x2 t0_0 t0_1 t0_2 t0_3 t0_4 t0_5 t0_6 t0_7 t0_8 t0_9 t1_0 t2_0 a19 lx31 lx51 lx63 lx64 from (by have h := hS73; rw [S_Rea_takeExponent_L61.eq_2] at h; rw [if_pos c101] at h; with_reducible exact h))⟩
        ·
          have b103 : q_F (lx64.toInt < t0_3.toInt) := (q_nleI c101)
          refine lv_aload_n hx hb d_10_14_72 rfl (lv_at hl 3 rfl) ?_
          have ob104 : True ∧ S_Rea_digitHere t0_0 t0_1 lx64 t0_3 t0_4 t0_5 t0_6 t0_7 t0_8 t0_9 t1_0 t2_0 := (by have h := hS73; rw [S_Rea_takeExponent_L61.eq_2] at h; rw [if_neg c101] at h; with_reducible exact h.2.1)
          refine q_goi V (q_runV (As := []) (rest := []) (d := 3) (mc := 0) (ms := 0) (ci := 8) C0 V rfl LV_Rea_43 (X_Rea_digitHere l D g q w68   hI t0_0 t0_1 lx64 t0_3 t0_4 t0_5 t0_6 t0_7 t0_8 t0_9 hO69 t1_0 hO70 t2_0 hO71 ob104 _) rfl rfl hO69 rfl hl.1 rfl (Nat.le_of_ble_eq_true rfl) ⟨by decide, by decide⟩ ⟨Nat.le_of_ble_eq_true rfl, Nat.le_of_ble_eq_true rfl⟩ d_10_14_73) (fun a107 u105 H locs hp106 V => ?_)
          obtain ⟨rfl, b108, b109, hE110⟩ := hp106
          have e111 : a107 = (F_Rea_digitHere t0_0 t0_1 lx64 t0_3 t0_4 t0_5 t0_6 t0_7 t0_8 t0_9 t1_0 t2_0) := hE110
          replace b108 : q_F (0 ≤ a107.toInt) := b108
          replace b109 : q_F (a107.toInt ≤ 99) := b109
          refine lv_bipush (v := 10) hx hb d_10_14_76 (by decide) ?_
          refine lv_icmp_ge (tgt := 117) hx hb d_10_14_78 (by decide) (fun c112 => ?_) (fun c112 => ?_)
          ·
            have b113 : q_F (10 ≤ a107.toInt) := (q_leI c112)
            exact J80 (()) _ _ _ w68 ⟨V, q_lw hl (q_lw1 0 rfl (q_lw1 1 rfl (q_lw1 2 rfl (q_lw1 3 rfl (q_lw1 4 rfl q_lw0))))), (show F_Rea_takeExponent_J117 (F_Rea_takeExponent_L61 x2 t0_0 t0_1 t0_2 t0_3 t0_4 t0_5 t0_6 t0_7 t0_8 t0_9 t1_0 t2_0 a19 lx31 lx51 fm76) x2 t0_0 t0_1 t0_2 t0_3 t0_4 t0_5 t0_6 t0_7 t0_8 t0_9 t1_0 t2_0 a19 lx31 lx51 lx63 lx64 = (F_Rea_takeExponent x2 t0_0 t0_1 t0_2 t0_3 t0_4 t0_5 t0_6 t0_7 t0_8 t0_9 t1_0 t2_0) from Eq.trans (by have c112x := c112; rw [e111] at c112x; rw [F_Rea_takeExponent_L61.eq_2, if_neg c101, if_pos c112x]) hR72), (show True ∧ S_Rea_takeExponent_J117 (S_Rea_takeExponent_L61 x2 t0_0 t0_1 t0_2 t0_3 t0_4 t0_5 t0_6 t0_7 t0_8 t0_9 t1_0 t2_0 a19 lx31 lx51 fm76) x2 t0_0 t0_1 t0_2 t0_3 t0_4 t0_5 t0_6 t0_7 t0_8 t0_9 t1_0 t2_0 a19 lx31 lx51 lx63 lx64 from (by have h := hS73; rw [S_Rea_takeExponent_L61.eq_2] at h; rw [if_neg c101] at h; replace h := q_s2 h; have c112x := c112; rw [e111] at c112x; rw [if_pos c112x] at h; with_reducible exact h))⟩
          ·
            have b114 : q_F (a107.toInt < 10) := (q_nleI c112)
            refine lv_lload hx hb d_10_14_81 (lv_at hl 0 rfl) ?_
            refine q_ldc2 C0 rfl w_636 d_10_14_83 ?_
            refine W.lcmp hx hb d_10_14_86 ?_
            obtain ⟨a115, e116⟩ := q_nm (lg_cmp lx63 100000000000 : Int32)
            refine q_ti (v := a115) e116 ?_
            have b117 : q_F (-1 ≤ a115.toInt ∧ a115.toInt ≤ 1 ∧ ((a115.toInt = -1 ∧ lx63.toInt < 100000000000) ∨ (a115.toInt = 0 ∧ lx63.toInt = 100000000000) ∨ (a115.toInt = 1 ∧ 100000000000 < lx63.toInt))) := (by rw [← e116]; show -1 ≤ (lg_cmp lx63 100000000000 : Int32).toInt ∧ (lg_cmp lx63 100000000000 : Int32).toInt ≤ 1 ∧ (((lg_cmp lx63 100000000000 : Int32).toInt = -1 ∧ lx63.toInt < 100000000000) ∨ ((lg_cmp lx63 100000000000 : Int32).toInt = 0 ∧ lx63.toInt = 100000000000) ∨ ((lg_cmp lx63 100000000000 : Int32).toInt = 1 ∧ 100000000000 < lx63.toInt)); exact (by have y1 : (100000000000 : Int64).toInt = 100000000000 := rfl; have z := s_lcmp (a := lx63) (b := 100000000000); omega))
            refine lv_if_ge (tgt := 104) hx hb d_10_14_87 (by decide) (fun c118 => ?_) (fun c118 => ?_)
            ·
              have b119 : q_F (0 ≤ a115.toInt) := (q_leI c118)
              refine lv_aload_n hx hb d_10_14_104 rfl (lv_at hl 3 rfl) ?_
              refine lv_dup hx hb d_10_14_105 rfl ?_
              refine q_get (ci := 8) (j := 4) (v := .int lx64) C0 V i_Rea rfl rfl hO69 (by decide) w_290 rfl d_10_14_106 ?_
              refine lv_iconst (v := 1) hx hb d_10_14_109 (by decide) ?_
              refine lv_iadd hx hb d_10_14_110 ?_
              obtain ⟨a120, e121⟩ := q_nm (lx64 + 1 : Int32)
              refine q_ti (v := a120) e121 ?_
              have b122 : q_F (a120.toInt = lx64.toInt + 1) := (by rw [← e121]; show (lx64 + 1 : Int32).toInt = lx64.toInt + 1; exact q_addI (x := lx64.toInt) (y := 1) rfl (by decide) (by have t1 : lx51.toInt ≤ lx64.toInt := i66; have _ := q_lo32 (x := lx51); have _ := q_hi32 (x := lx51); have t2 : lx64.toInt < t0_3.toInt := b103; have _ := q_lo32 (x := t0_3); have _ := q_hi32 (x := t0_3); omega) (by have t1 : lx51.toInt ≤ lx64.toInt := i66; have _ := q_lo32 (x := lx51); have _ := q_hi32 (x := lx51); have t2 : lx64.toInt < t0_3.toInt := b103; have _ := q_lo32 (x := t0_3); have _ := q_hi32 (x := t0_3); omega))
              refine q_put (ci := 8) (j := 4) (v := .int a120) (ty := .int) C0 V i_Rea o_Rea n_Rea rfl rfl hO69 (by decide) w_290 rfl rfl rfl rfl (Nat.le_of_ble_eq_true rfl) d_10_14_111 (fun H locs w123 hu124 hO69 V => ?_)
              replace hO69 : w123[38]? = (some (q 38, .inr (8, [.long t0_0, .long t0_1, .ref (q 1), .ref (q 9), .int a120, .int t0_3, .int t0_4, .int t0_5, .int t0_6, .int t0_7, .int t0_8, .long t0_9])) : Option (Nat × va_E)) := hO69
              replace hI := n_p38 hI hu124 hO69 ⟨(by have t1 : 0 ≤ t0_4.toInt ∧ t0_4.toInt ≤ 1 := btt0_4; omega), (by have t1 : 0 ≤ t0_4.toInt ∧ t0_4.toInt ≤ 1 := btt0_4; omega)⟩ ⟨(by have t1 : 0 ≤ t0_8.toInt ∧ t0_8.toInt ≤ 1 := btt0_8; omega), (by have t1 : 0 ≤ t0_8.toInt ∧ t0_8.toInt ≤ 1 := btt0_8; omega)⟩
              replace hO70 := (hu124 _ (by decide)).trans hO70
              replace hO71 := (hu124 _ (by decide)).trans hO71
              replace hF := q_us hF hu124 (by simp)
              refine lv_goto (tgt := 61) hx hb d_10_14_114 (by decide) ?_
              exact ih67 ((lx63 : Int64), (a120 : Int32)) _ _ _ _ (show (t0_3.toInt - a120.toInt).toNat < (t0_3.toInt - lx64.toInt).toNat from by have t1 : a120.toInt = lx64.toInt + 1 := b122; have t2 : lx64.toInt < t0_3.toInt := b103; omega) ⟨(show q_F (0 ≤ lx63.toInt) from (show 0 ≤ lx63.toInt from by have t1 : 0 ≤ lx63.toInt := i65; omega)), (show q_F (lx51.toInt ≤ a120.toInt) from (show lx51.toInt ≤ a120.toInt from by have t1 : lx51.toInt ≤ lx64.toInt := i66; have t2 : a120.toInt = lx64.toInt + 1 := b122; omega)), V, q_lw hl (q_lw1 0 rfl (q_lw1 1 rfl (q_lw1 2 rfl (q_lw1 3 rfl (q_lw1 4 rfl q_lw0))))), hI, hF, hO69, hO70, hO71, ⟨fm76, Nat.lt_of_lt_of_le (show (t0_3.toInt - a120.toInt).toNat < (t0_3.toInt - lx64.toInt).toNat from by have t1 : a120.toInt = lx64.toInt + 1 := b122; have t2 : lx64.toInt < t0_3.toInt := b103; omega) (Nat.le_of_lt_succ hf75), (show F_Rea_takeExponent_L61 x2 t0_0 t0_1 t0_2 t0_3 t0_4 t0_5 t0_6 t0_7 t0_8 t0_9 t1_0 t2_0 a19 lx31 lx51 fm76 lx63 a120 = (F_Rea_takeExponent x2 t0_0 t0_1 t0_2 t0_3 t0_4 t0_5 t0_6 t0_7 t0_8 t0_9 t1_0 t2_0) from Eq.trans (by have c112x := c112; rw [e111] at c112x; have c118x := c118; rw [← e116] at c118x; rw [← e121, F_Rea_takeExponent_L61.eq_2, if_neg c101, if_neg c112x, if_pos c118x]) hR72), (show True ∧ S_Rea_takeExponent_L61 x2 t0_0 t0_1 t0_2 t0_3 t0_4 t0_5 t0_6 t0_7 t0_8 t0_9 t1_0 t2_0 a19 lx31 lx51 fm76 lx63 a120 from (by rw [← e121]; have h := hS73; rw [S_Rea_takeExponent_L61.eq_2] at h; rw [if_neg c101] at h; replace h := q_s2 h; have c112x := c112; rw [e111] at c112x; rw [if_neg c112x] at h; have c118x := c118; rw [← e116] at c118x; rw [if_pos c118x] at h; with_reducible exact h))⟩⟩
            ·
              have b125 : q_F (a115.toInt < 0) := (q_nleI c118)
              refine lv_lload hx hb d_10_14_90 (lv_at hl 0 rfl) ?_
              refine q_ldc2 C0 rfl w_637 d_10_14_92 ?_
              refine lv_lmul hx hb d_10_14_95 ?_
              obtain ⟨j126, e127⟩ := q_nm (lx63 * 10 : Int64)
              refine q_tl (v := j126) e127 ?_
              have b128 : q_F (j126.toInt = lx63.toInt * 10) := (by rw [← e127]; show (lx63 * 10 : Int64).toInt = lx63.toInt * 10; exact q_mulL (x := lx63.toInt) (y := 10) rfl (by decide) (by have t1 : 0 ≤ lx63.toInt := i65; have t2 : -1 ≤ a115.toInt ∧ a115.toInt ≤ 1 ∧ ((a115.toInt = -1 ∧ lx63.toInt < 100000000000) ∨ (a115.toInt = 0 ∧ lx63.toInt = 100000000000) ∨ (a115.toInt = 1 ∧ 100000000000 < lx63.toInt)) := b117; have t3 : a115.toInt < 0 := b125; omega) (by have t1 : 0 ≤ lx63.toInt := i65; have t2 : -1 ≤ a115.toInt ∧ a115.toInt ≤ 1 ∧ ((a115.toInt = -1 ∧ lx63.toInt < 100000000000) ∨ (a115.toInt = 0 ∧ lx63.toInt = 100000000000) ∨ (a115.toInt = 1 ∧ 100000000000 < lx63.toInt)) := b117; have t3 : a115.toInt < 0 := b125; omega))
              refine lv_aload_n hx hb d_10_14_96 rfl (lv_at hl 3 rfl) ?_
              have ob129 : True ∧ S_Rea_digitHere t0_0 t0_1 lx64 t0_3 t0_4 t0_5 t0_6 t0_7 t0_8 t0_9 t1_0 t2_0 := (by have h := hS73; rw [S_Rea_takeExponent_L61.eq_2] at h; rw [if_neg c101] at h; replace h := q_s2 h; have c112x := c112; rw [e111] at c112x; rw [if_neg c112x] at h; have c118x := c118; rw [← e116] at c118x; rw [if_neg c118x] at h; with_reducible exact h.2.1)
              refine q_goi V (q_runV (As := []) (rest := [.long j126]) (d := 3) (mc := 0) (ms := 0) (ci := 8) C0 V rfl LV_Rea_43 (X_Rea_digitHere l D g q w68   hI t0_0 t0_1 lx64 t0_3 t0_4 t0_5 t0_6 t0_7 t0_8 t0_9 hO69 t1_0 hO70 t2_0 hO71 ob129 _) rfl rfl hO69 rfl hl.1 rfl (Nat.le_of_ble_eq_true rfl) ⟨by decide, by decide⟩ ⟨Nat.le_of_ble_eq_true rfl, Nat.le_of_ble_eq_true rfl⟩ d_10_14_97) (fun a132 u130 H locs hp131 V => ?_)
              obtain ⟨rfl, b133, b134, hE135⟩ := hp131
              have e136 : a132 = (F_Rea_digitHere t0_0 t0_1 lx64 t0_3 t0_4 t0_5 t0_6 t0_7 t0_8 t0_9 t1_0 t2_0) := hE135
              replace b133 : q_F (0 ≤ a132.toInt) := b133
              replace b134 : q_F (a132.toInt ≤ 99) := b134
              refine lv_i2l hx hb d_10_14_100 rfl ?_
              obtain ⟨j137, e138⟩ := q_nm (a132.toInt64 : Int64)
              refine q_tl (v := j137) e138 ?_
              have b139 : q_F (j137.toInt = a132.toInt) := (by rw [← e138]; show (a132.toInt64 : Int64).toInt = a132.toInt; exact q_i2l rfl)
              refine lv_ladd hx hb d_10_14_101 ?_
              obtain ⟨j140, e141⟩ := q_nm (j126 + j137 : Int64)
              refine q_tl (v := j140) e141 ?_
              have b142 : q_F (j140.toInt = j126.toInt + j137.toInt) := (by rw [← e141]; show (j126 + j137 : Int64).toInt = j126.toInt + j137.toInt; exact q_addL (x := j126.toInt) (y := j137.toInt) rfl rfl (by have t1 : 0 ≤ lx63.toInt := i65; have t2 : j126.toInt = lx63.toInt * 10 := b128; have t3 : 0 ≤ a132.toInt := b133; have t4 : j137.toInt = a132.toInt := b139; have t5 : -1 ≤ a115.toInt ∧ a115.toInt ≤ 1 ∧ ((a115.toInt = -1 ∧ lx63.toInt < 100000000000) ∨ (a115.toInt = 0 ∧ lx63.toInt = 100000000000) ∨ (a115.toInt = 1 ∧ 100000000000 < lx63.toInt)) := b117; have t6 : a115.toInt < 0 := b125; have t7 : a132.toInt ≤ 99 := b134; omega) (by have t1 : 0 ≤ lx63.toInt := i65; have t2 : j126.toInt = lx63.toInt * 10 := b128; have t3 : 0 ≤ a132.toInt := b133; have t4 : j137.toInt = a132.toInt := b139; have t5 : -1 ≤ a115.toInt ∧ a115.toInt ≤ 1 ∧ ((a115.toInt = -1 ∧ lx63.toInt < 100000000000) ∨ (a115.toInt = 0 ∧ lx63.toInt = 100000000000) ∨ (a115.toInt = 1 ∧ 100000000000 < lx63.toInt)) := b117; have t6 : a115.toInt < 0 := b125; have t7 : a132.toInt ≤ 99 := b134; omega))
              refine lv_lstore (lv' := [(4, .long j140), (3, .int lx51), (2, .int lx31), (0, .ref (q 38)), (1, .int x2)]) hx hb d_10_14_102 hl (by decide) rfl (fun ls hl => ?_)
              refine lv_aload_n hx hb d_10_14_104 rfl (lv_at hl 3 rfl) ?_
              refine lv_dup hx hb d_10_14_105 rfl ?_
              refine q_get (ci := 8) (j := 4) (v := .int lx64) C0 V i_Rea rfl rfl hO69 (by decide) w_290 rfl d_10_14_106 ?_
              refine lv_iconst (v := 1) hx hb d_10_14_109 (by decide) ?_
              refine lv_iadd hx hb d_10_14_110 ?_
              obtain ⟨a143, e144⟩ := q_nm (lx64 + 1 : Int32)
              refine q_ti (v := a143) e144 ?_
              have b145 : q_F (a143.toInt = lx64.toInt + 1) := (by rw [← e144]; show (lx64 + 1 : Int32).toInt = lx64.toInt + 1; exact q_addI (x := lx64.toInt) (y := 1) rfl (by decide) (by have t1 : lx51.toInt ≤ lx64.toInt := i66; have _ := q_lo32 (x := lx51); have _ := q_hi32 (x := lx51); have t2 : lx64.toInt < t0_3.toInt := b103; have _ := q_lo32 (x := t0_3); have _ := q_hi32 (x := t0_3); omega) (by have t1 : lx51.toInt ≤ lx64.toInt := i66; have _ := q_lo32 (x := lx51); have _ := q_hi32 (x := lx51); have t2 : lx64.toInt < t0_3.toInt := b103; have _ := q_lo32 (x := t0_3); have _ := q_hi32 (x := t0_3); omega))
              refine q_put (ci := 8) (j := 4) (v := .int a143) (ty := .int) C0 V i_Rea o_Rea n_Rea rfl rfl hO69 (by decide) w_290 rfl rfl rfl rfl (Nat.le_of_ble_eq_true rfl) d_10_14_111 (fun H locs w146 hu147 hO69 V => ?_)
              replace hO69 : w146[38]? = (some (q 38, .inr (8, [.long t0_0, .long t0_1, .ref (q 1), .ref (q 9), .int a143, .int t0_3, .int t0_4, .int t0_5, .int t0_6, .int t0_7, .int t0_8, .long t0_9])) : Option (Nat × va_E)) := hO69
              replace hI := n_p38 hI hu147 hO69 ⟨(by have t1 : 0 ≤ t0_4.toInt ∧ t0_4.toInt ≤ 1 := btt0_4; omega), (by have t1 : 0 ≤ t0_4.toInt ∧ t0_4.toInt ≤ 1 := btt0_4; omega)⟩ ⟨(by have t1 : 0 ≤ t0_8.toInt ∧ t0_8.toInt ≤ 1 := btt0_8; omega), (by have t1 : 0 ≤ t0_8.toInt ∧ t0_8.toInt ≤ 1 := btt0_8; omega)⟩
              replace hO70 := (hu147 _ (by decide)).trans hO70
              replace hO71 := (hu147 _ (by decide)).trans hO71
              replace hF := q_us hF hu147 (by simp)
              refine lv_goto (tgt := 61) hx hb d_10_14_114 (by decide) ?_
              exact ih67 ((j140 : Int64), (a143 : Int32)) _ _ _ _ (show (t0_3.toInt - a143.toInt).toNat < (t0_3.toInt - lx64.toInt).toNat from by have t1 : a143.toInt = lx64.toInt + 1 := b145; have t2 : lx64.toInt < t0_3.toInt := b103; omega) ⟨(show q_F (0 ≤ j140.toInt) from (show 0 ≤ j140.toInt from by have t1 : 0 ≤ lx63.toInt := i65; have t2 : j126.toInt = lx63.toInt * 10 := b128; have t3 : 0 ≤ a132.toInt := b133; have t4 : j137.toInt = a132.toInt := b139; have t5 : j140.toInt = j126.toInt + j137.toInt := b142; omega)), (show q_F (lx51.toInt ≤ a143.toInt) from (show lx51.toInt ≤ a143.toInt from by have t1 : lx51.toInt ≤ lx64.toInt := i66; have t2 : a143.toInt = lx64.toInt + 1 := b145; omega)), V, q_lw hl (q_lw1 0 rfl (q_lw1 1 rfl (q_lw1 2 rfl (q_lw1 3 rfl (q_lw1 4 rfl q_lw0))))), hI, hF, hO69, hO70, hO71, ⟨fm76, Nat.lt_of_lt_of_le (show (t0_3.toInt - a143.toInt).toNat < (t0_3.toInt - lx64.toInt).toNat from by have t1 : a143.toInt = lx64.toInt + 1 := b145; have t2 : lx64.toInt < t0_3.toInt := b103; omega) (Nat.le_of_lt_succ hf75), (show F_Rea_takeExponent_L61 x2 t0_0 t0_1 t0_2 t0_3 t0_4 t0_5 t0_6 t0_7 t0_8 t0_9 t1_0 t2_0 a19 lx31 lx51 fm76 j140 a143 = (F_Rea_takeExponent x2 t0_0 t0_1 t0_2 t0_3 t0_4 t0_5 t0_6 t0_7 t0_8 t0_9 t1_0 t2_0) from Eq.trans (by have c112x := c112; rw [e111] at c112x; have c118x := c118; rw [← e116] at c118x; rw [← e144, ← e141, ← e138, e136, ← e127, F_Rea_takeExponent_L61.eq_2, if_neg c101, if_neg c112x, if_neg c118x]) hR72), (show True ∧ S_Rea_takeExponent_L61 x2 t0_0 t0_1 t0_2 t0_3 t0_4 t0_5 t0_6 t0_7 t0_8 t0_9 t1_0 t2_0 a19 lx31 lx51 fm76 j140 a143 from (by rw [← e144, ← e141, ← e138, e136, ← e127]; have h := hS73; rw [S_Rea_takeExponent_L61.eq_2] at h; rw [if_neg c101] at h; replace h := q_s2 h; have c112x := c112; rw [e111] at c112x; rw [if_neg c112x] at h; have c118x := c118; rw [← e116] at c118x; rw [if_neg c118x] at h; replace h := q_s2 h; with_reducible exact h))⟩⟩
    ·
      intro J55
      refine q_join (X := Unit) (fun z H locs ls _ => q_Wd D g (va_A ws sz) s w21 H locs ∧ lv_has ls 6 [(2, .int lx31), (0, .ref (q 38)), (1, .int x2)] ∧ F_Rea_takeExponent_J43 x2 t0_0 t0_1 t0_2 t0_3 t0_4 t0_5 t0_6 t0_7 t0_8 t0_9 t1_0 t2_0 a19 lx31 = (F_Rea_takeExponent x2 t0_0 t0_1 t0_2 t0_3 t0_4 t0_5 t0_6 t0_7 t0_8 t0_9 t1_0 t2_0) ∧ True ∧ S_Rea_takeExponent_J43 x2 t0_0 t0_1 t0_2 t0_3 t0_4 t0_5 t0_6 t0_7 t0_8 t0_9 t1_0 t2_0 a19 lx31) (fun z => []) 43 0 0 ?_ ?_
      ·
        rintro _ H locs ls _ ⟨V, hl, hR152, hS153⟩
        replace hl : lv_has ls 6 [(2, .int lx31), (0, .ref (q 38)), (1, .int x2)] := hl
        refine lv_aload_n hx hb d_10_14_43 rfl (lv_at hl 1 rfl) ?_
        refine lv_dup hx hb d_10_14_44 rfl ?_
        refine q_get (ci := 8) (j := 4) (v := .int a19) C0 V i_Rea rfl rfl hT0 (by decide) w_290 rfl d_10_14_45 ?_
        refine lv_iconst (v := 1) hx hb d_10_14_48 (by decide) ?_
        refine lv_iadd hx hb d_10_14_49 ?_
        obtain ⟨a157, e158⟩ := q_nm (a19 + 1 : Int32)
        refine q_ti (v := a157) e158 ?_
        refine q_put (ci := 8) (j := 4) (v := .int a157) (ty := .int) C0 V i_Rea o_Rea n_Rea rfl rfl hT0 (by decide) w_290 rfl rfl rfl rfl (Nat.le_of_ble_eq_true rfl) d_10_14_50 (fun H locs w159 hu160 hT0 V => ?_)
        replace hT0 : w159[38]? = (some (q 38, .inr (8, [.long t0_0, .long t0_1, .ref (q 1), .ref (q 9), .int a157, .int t0_3, .int t0_4, .int t0_5, .int t0_6, .int t0_7, .int t0_8, .long t0_9])) : Option (Nat × va_E)) := hT0
        replace hI := n_p38 hI hu160 hT0 ⟨(by have t1 : 0 ≤ t0_4.toInt ∧ t0_4.toInt ≤ 1 := btt0_4; omega), (by have t1 : 0 ≤ t0_4.toInt ∧ t0_4.toInt ≤ 1 := btt0_4; omega)⟩ ⟨(by have t1 : 0 ≤ t0_8.toInt ∧ t0_8.toInt ≤ 1 := btt0_8; omega), (by have t1 : 0 ≤ t0_8.toInt ∧ t0_8.toInt ≤ 1 := btt0_8; omega)⟩
        replace hT1 := (hu160 _ (by decide)).trans hT1
        replace hT2 := (hu160 _ (by decide)).trans hT2
        replace hF := q_us hF hu160 (by simp)
        exact J55 ((a157 : Int32)) _ _ _ _ ⟨V, q_lw hl (q_lw1 0 rfl (q_lw1 1 rfl (q_lw1 2 rfl q_lw0))), hI, hF, hT0, hT1, hT2, (show F_Rea_takeExponent_J53 x2 t0_0 t0_1 t0_2 t0_3 t0_4 t0_5 t0_6 t0_7 t0_8 t0_9 t1_0 t2_0 a19 lx31 a157 = (F_Rea_takeExponent x2 t0_0 t0_1 t0_2 t0_3 t0_4 t0_5 t0_6 t0_7 t0_8 t0_9 t1_0 t2_0) from Eq.trans (by rw [← e158, F_Rea_takeExponent_J43.eq_1]) hR152), (show True ∧ S_Rea_takeExponent_J53 x2 t0_0 t0_1 t0_2 t0_3 t0_4 t0_5 t0_6 t0_7 t0_8 t0_9 t1_0 t2_0 a19 lx31 a157 from (by rw [← e158]; have h := hS153; rw [S_Rea_takeExponent_J43.eq_1] at h; with_reducible exact h))⟩
      ·
        intro J151
        refine lv_icmp_eq (tgt := 43) hx hb d_10_14_31 (by decide) (fun c161 => ?_) (fun c161 => ?_)
        ·
          have b162 : q_F (a46.toInt = 45) := (q_eqI c161)
          exact J151 (()) _ _ _ w21 ⟨V, q_lw hl (q_lw1 0 rfl (q_lw1 1 rfl (q_lw1 2 rfl q_lw0))), (show F_Rea_takeExponent_J43 x2 t0_0 t0_1 t0_2 t0_3 t0_4 t0_5 t0_6 t0_7 t0_8 t0_9 t1_0 t2_0 a19 lx31 = (F_Rea_takeExponent x2 t0_0 t0_1 t0_2 t0_3 t0_4 t0_5 t0_6 t0_7 t0_8 t0_9 t1_0 t2_0) from Eq.trans (by have c161x := c161; rw [e50] at c161x; rw [F_Rea_takeExponent_J24.eq_1, if_pos c161x]) hR38), (show True ∧ S_Rea_takeExponent_J43 x2 t0_0 t0_1 t0_2 t0_3 t0_4 t0_5 t0_6 t0_7 t0_8 t0_9 t1_0 t2_0 a19 lx31 from (by have h := hS39; rw [S_Rea_takeExponent_J24.eq_1] at h; replace h := q_s2 h; have c161x := c161; rw [e50] at c161x; rw [if_pos c161x] at h; with_reducible exact h))⟩
        ·
          have b163 : q_F (a46.toInt ≠ 45) := (q_neI c161)
          refine lv_aload_n hx hb d_10_14_34 rfl (lv_at hl 1 rfl) ?_
          have ob164 : True ∧ S_Rea_here t0_0 t0_1 a19 t0_3 t0_4 t0_5 t0_6 t0_7 t0_8 t0_9 t1_0 t2_0 := (by have h := hS39; rw [S_Rea_takeExponent_J24.eq_1] at h; replace h := q_s2 h; have c161x := c161; rw [e50] at c161x; rw [if_neg c161x] at h; with_reducible exact h.2.1)
          refine q_goi V (q_runV (As := []) (rest := []) (d := 2) (mc := 0) (ms := 0) (ci := 8) C0 V rfl LV_Rea_70 (X_Rea_here l D g q w21   hI t0_0 t0_1 a19 t0_3 t0_4 t0_5 t0_6 t0_7 t0_8 t0_9 hT0 t1_0 hT1 t2_0 hT2 ob164 _) rfl rfl hT0 rfl hl.1 rfl (Nat.le_of_ble_eq_true rfl) ⟨by decide, by decide⟩ ⟨Nat.le_of_ble_eq_true rfl, Nat.le_of_ble_eq_true rfl⟩ d_10_14_35) (fun a167 u165 H locs hp166 V => ?_)
          obtain ⟨rfl, b168, b169, hE170⟩ := hp166
          have e171 : a167 = (F_Rea_here t0_0 t0_1 a19 t0_3 t0_4 t0_5 t0_6 t0_7 t0_8 t0_9 t1_0 t2_0) := hE170
          replace b168 : q_F (0 ≤ a167.toInt + 1) := b168
          replace b169 : q_F (a167.toInt ≤ 255) := b169
          refine lv_bipush (v := 43) hx hb d_10_14_38 (by decide) ?_
          refine lv_icmp_ne (tgt := 53) hx hb d_10_14_40 (by decide) (fun c172 => ?_) (fun c172 => ?_)
          ·
            have b173 : q_F (a167.toInt ≠ 43) := (q_neI c172)
            exact J55 ((a19 : Int32)) _ _ _ _ ⟨V, q_lw hl (q_lw1 0 rfl (q_lw1 1 rfl (q_lw1 2 rfl q_lw0))), hI, hF, hT0, hT1, hT2, (show F_Rea_takeExponent_J53 x2 t0_0 t0_1 t0_2 t0_3 t0_4 t0_5 t0_6 t0_7 t0_8 t0_9 t1_0 t2_0 a19 lx31 a19 = (F_Rea_takeExponent x2 t0_0 t0_1 t0_2 t0_3 t0_4 t0_5 t0_6 t0_7 t0_8 t0_9 t1_0 t2_0) from Eq.trans (by have c161x := c161; rw [e50] at c161x; have c172x := c172; rw [e171] at c172x; rw [F_Rea_takeExponent_J24.eq_1, if_neg c161x, if_neg c172x]) hR38), (show True ∧ S_Rea_takeExponent_J53 x2 t0_0 t0_1 t0_2 t0_3 t0_4 t0_5 t0_6 t0_7 t0_8 t0_9 t1_0 t2_0 a19 lx31 a19 from (by have h := hS39; rw [S_Rea_takeExponent_J24.eq_1] at h; replace h := q_s2 h; have c161x := c161; rw [e50] at c161x; rw [if_neg c161x] at h; replace h := q_s2 h; have c172x := c172; rw [e171] at c172x; rw [if_neg c172x] at h; with_reducible exact h))⟩
          ·
            have b174 : q_F (a167.toInt = 43) := (q_eqI c172)
            exact J151 (()) _ _ _ w21 ⟨V, q_lw hl (q_lw1 0 rfl (q_lw1 1 rfl (q_lw1 2 rfl q_lw0))), (show F_Rea_takeExponent_J43 x2 t0_0 t0_1 t0_2 t0_3 t0_4 t0_5 t0_6 t0_7 t0_8 t0_9 t1_0 t2_0 a19 lx31 = (F_Rea_takeExponent x2 t0_0 t0_1 t0_2 t0_3 t0_4 t0_5 t0_6 t0_7 t0_8 t0_9 t1_0 t2_0) from Eq.trans (by have c161x := c161; rw [e50] at c161x; have c172x := c172; rw [e171] at c172x; rw [F_Rea_takeExponent_J24.eq_1, if_neg c161x, if_pos c172x]) hR38), (show True ∧ S_Rea_takeExponent_J43 x2 t0_0 t0_1 t0_2 t0_3 t0_4 t0_5 t0_6 t0_7 t0_8 t0_9 t1_0 t2_0 a19 lx31 from (by have h := hS39; rw [S_Rea_takeExponent_J24.eq_1] at h; replace h := q_s2 h; have c161x := c161; rw [e50] at c161x; rw [if_neg c161x] at h; replace h := q_s2 h; have c172x := c172; rw [e171] at c172x; rw [if_pos c172x] at h; with_reducible exact h))⟩
  ·
    intro J35
    refine lv_icmp_ne (tgt := 23) hx hb d_10_14_16 (by decide) (fun c175 => ?_) (fun c175 => ?_)
    ·
      have b176 : q_F (a26.toInt ≠ 45) := (q_neI c175)
      refine lv_iconst (v := 1) hx hb d_10_14_23 (by decide) ?_
      exact J35 ((1 : Int32)) _ _ _ w21 ⟨(show q_F (0 ≤ 1 + 1) from (show 0 ≤ 1 + 1 from by omega)), (show q_F (1 ≤ 1) from (show 1 ≤ 1 from by omega)), V, q_lw hl (q_lw1 0 rfl (q_lw1 1 rfl q_lw0)), (show F_Rea_takeExponent_J24 x2 t0_0 t0_1 t0_2 t0_3 t0_4 t0_5 t0_6 t0_7 t0_8 t0_9 t1_0 t2_0 a19 1 = (F_Rea_takeExponent x2 t0_0 t0_1 t0_2 t0_3 t0_4 t0_5 t0_6 t0_7 t0_8 t0_9 t1_0 t2_0) from (by have c175x := c175; rw [e30, ← e20] at c175x; rw [← e20, F_Rea_takeExponent.eq_1, if_neg c175x])), (show True ∧ S_Rea_takeExponent_J24 x2 t0_0 t0_1 t0_2 t0_3 t0_4 t0_5 t0_6 t0_7 t0_8 t0_9 t1_0 t2_0 a19 1 from (by rw [← e20]; have h := hS; rw [S_Rea_takeExponent.eq_1] at h; replace h := q_s2 h; have c175x := c175; rw [e30, ← e20] at c175x; rw [if_neg c175x] at h; with_reducible exact h))⟩
    ·
      have b177 : q_F (a26.toInt = 45) := (q_eqI c175)
      refine lv_iconst (v := (-1)) hx hb d_10_14_19 (by decide) ?_
      refine lv_goto (tgt := 24) hx hb d_10_14_20 (by decide) ?_
      exact J35 (((-1) : Int32)) _ _ _ w21 ⟨(show q_F (0 ≤ (-1) + 1) from (show 0 ≤ (-1) + 1 from by omega)), (show q_F ((-1) ≤ 1) from (show (-1) ≤ 1 from by omega)), V, q_lw hl (q_lw1 0 rfl (q_lw1 1 rfl q_lw0)), (show F_Rea_takeExponent_J24 x2 t0_0 t0_1 t0_2 t0_3 t0_4 t0_5 t0_6 t0_7 t0_8 t0_9 t1_0 t2_0 a19 (-1) = (F_Rea_takeExponent x2 t0_0 t0_1 t0_2 t0_3 t0_4 t0_5 t0_6 t0_7 t0_8 t0_9 t1_0 t2_0) from (by have c175x := c175; rw [e30, ← e20] at c175x; rw [← e20, F_Rea_takeExponent.eq_1, if_pos c175x])), (show True ∧ S_Rea_takeExponent_J24 x2 t0_0 t0_1 t0_2 t0_3 t0_4 t0_5 t0_6 t0_7 t0_8 t0_9 t1_0 t2_0 a19 (-1) from (by rw [← e20]; have h := hS; rw [S_Rea_takeExponent.eq_1] at h; replace h := q_s2 h; have c175x := c175; rw [e30, ← e20] at c175x; rw [if_pos c175x] at h; with_reducible exact h))⟩
def F_Rea_saysRest_20_L20 (t0_0 : Int64) (t0_1 : Int64) (t0_2 : Int32) (t0_3 : Int32) (t0_4 : Int32) (t0_5 : Int32) (t0_6 : Int32) (t0_7 : Int32) (t0_8 : Int32) (t0_9 : Int64) (t1_0 : Int32) (t2_0 : (Nat → Int64)) : Nat → Int32 → Int32
  | 0, _ => default
  | fm + 1, lx31 => if (3 : Int32) ≤ lx31 then ((1 : Int32)) else (if ((F_She_at (4100 : Int32) (513 : Int32) (4100 : Int32) ((t0_2 + lx31 : Int32).toInt64 : Int64) t1_0 t2_0) : Int32) = ((F_jStr_charAt_20 lx31) : Int32) then (F_Rea_saysRest_20_L20 t0_0 t0_1 t0_2 t0_3 t0_4 t0_5 t0_6 t0_7 t0_8 t0_9 t1_0 t2_0 fm (lx31 + 1 : Int32)) else ((0 : Int32)))
def F_Rea_saysRest_20 (t0_0 : Int64) (t0_1 : Int64) (t0_2 : Int32) (t0_3 : Int32) (t0_4 : Int32) (t0_5 : Int32) (t0_6 : Int32) (t0_7 : Int32) (t0_8 : Int32) (t0_9 : Int64) (t1_0 : Int32) (t2_0 : (Nat → Int64)) : Int32 := if (t0_3 - t0_2 : Int32) = (3 : Int32) then (F_Rea_saysRest_20_L20 t0_0 t0_1 t0_2 t0_3 t0_4 t0_5 t0_6 t0_7 t0_8 t0_9 t1_0 t2_0 ((3 - (0 : Int32).toInt).toNat + 1) 0) else ((0 : Int32))
def S_Rea_saysRest_20_L20 (t0_0 : Int64) (t0_1 : Int64) (t0_2 : Int32) (t0_3 : Int32) (t0_4 : Int32) (t0_5 : Int32) (t0_6 : Int32) (t0_7 : Int32) (t0_8 : Int32) (t0_9 : Int64) (t1_0 : Int32) (t2_0 : (Nat → Int64)) : Nat → Int32 → Prop
  | 0, _ => False
  | fm + 1, lx31 => if (3 : Int32) ≤ lx31 then (True) else ((True ∧ S_She_at (4100 : Int32) (513 : Int32) (4100 : Int32) ((t0_2 + lx31 : Int32).toInt64 : Int64) t1_0 t2_0) ∧ (if ((F_She_at (4100 : Int32) (513 : Int32) (4100 : Int32) ((t0_2 + lx31 : Int32).toInt64 : Int64) t1_0 t2_0) : Int32) = ((F_jStr_charAt_20 lx31) : Int32) then (S_Rea_saysRest_20_L20 t0_0 t0_1 t0_2 t0_3 t0_4 t0_5 t0_6 t0_7 t0_8 t0_9 t1_0 t2_0 fm (lx31 + 1 : Int32)) else (True)))
def S_Rea_saysRest_20 (t0_0 : Int64) (t0_1 : Int64) (t0_2 : Int32) (t0_3 : Int32) (t0_4 : Int32) (t0_5 : Int32) (t0_6 : Int32) (t0_7 : Int32) (t0_8 : Int32) (t0_9 : Int64) (t1_0 : Int32) (t2_0 : (Nat → Int64)) : Prop := if (t0_3 - t0_2 : Int32) = (3 : Int32) then (S_Rea_saysRest_20_L20 t0_0 t0_1 t0_2 t0_3 t0_4 t0_5 t0_6 t0_7 t0_8 t0_9 t1_0 t2_0 ((3 - (0 : Int32).toInt).toNat + 1) 0) else (True)
set_option maxRecDepth 100000 in
set_option maxHeartbeats 4000000 in
theorem X_Rea_saysRest_20 (l : Launch) (D : va_G) (g : Nat → ClassId) (q : Nat → Nat) (ws : va_W) (hI : q_I (nsh g q) q ws) (t0_0 : Int64) (t0_1 : Int64) (t0_2 : Int32) (t0_3 : Int32) (t0_4 : Int32) (t0_5 : Int32) (t0_6 : Int32) (t0_7 : Int32) (t0_8 : Int32) (t0_9 : Int64) (hT0 : ws[38]? = (some (q 38, .inr (8, [.long t0_0, .long t0_1, .ref (q 1), .ref (q 9), .int t0_2, .int t0_3, .int t0_4, .int t0_5, .int t0_6, .int t0_7, .int t0_8, .long t0_9])) : Option (Nat × va_E))) (t1_0 : Int32) (hT1 : ws[1]? = (some (q 1, .inr (1, [.ref (q 2), .int 4100, .int t1_0])) : Option (Nat × va_E))) (t2_0 : (Nat → Int64)) (hT2 : ws[2]? = (some (q 2, .inl (g 1, (513 : Int32).toNatClampNeg, .inr (.inl t2_0))) : Option (Nat × va_E))) (hS : True ∧ S_Rea_saysRest_20 t0_0 t0_1 t0_2 t0_3 t0_4 t0_5 t0_6 t0_7 t0_8 t0_9 t1_0 t2_0) : q_mI l y_Rea_saysRest prog_10_method_15_code 3 (.boolean) 5 0 0 D g [.ref (q 38), .ref (g (8 + 2 * 20))] ws (fun r u => ws = u ∧ (0 ≤ r.toInt) ∧ (r.toInt ≤ 1) ∧ r = (F_Rea_saysRest_20 t0_0 t0_1 t0_2 t0_3 t0_4 t0_5 t0_6 t0_7 t0_8 t0_9 t1_0 t2_0)) := by
  intro sz
  refine q_into (by decide) (Nat.le_of_ble_eq_true rfl) ?_
  intro p e s m below meth c ls hsz C0 V hl
  have hx := C0.1
  have hb := C0.2.1
  obtain ⟨yy0_0, yy0_1, yy0_2, yy0_3, yy0_4, yy0_5, yy0_6, yy0_7, yy0_8, yy0_9, hh0, btt0_4, btt0_8⟩ := n_o38 hI
  obtain ⟨rfl, rfl, rfl, rfl, rfl, rfl, rfl, rfl, rfl, rfl⟩ : t0_0 = yy0_0 ∧ t0_1 = yy0_1 ∧ t0_2 = yy0_2 ∧ t0_3 = yy0_3 ∧ t0_4 = yy0_4 ∧ t0_5 = yy0_5 ∧ t0_6 = yy0_6 ∧ t0_7 = yy0_7 ∧ t0_8 = yy0_8 ∧ t0_9 = yy0_9 := by have z := Option.some.inj (hT0.symm.trans hh0); simpa using z
  replace btt0_4 : q_F (0 ≤ t0_4.toInt ∧ t0_4.toInt ≤ 1) := btt0_4
  replace btt0_8 : q_F (0 ≤ t0_8.toInt ∧ t0_8.toInt ≤ 1) := btt0_8
  obtain ⟨yy1_0, hh1, btt1_0⟩ := n_shO hI (n_h1 g q)
  obtain ⟨rfl⟩ : t1_0 = yy1_0 := by have z := Option.some.inj (hT1.symm.trans hh1); simpa using z
  replace btt1_0 : q_F (0 ≤ t1_0.toInt ∧ t1_0.toInt ≤ 4100) := btt1_0
  have hl : lv_has ls 3 [(0, .ref (q 38)), (1, .ref (g (8 + 2 * 20)))] := hl
  refine lv_aload_n hx hb d_10_15_0 rfl (lv_at hl 0 rfl) ?_
  refine q_get (ci := 8) (j := 5) (v := .int t0_3) C0 V i_Rea rfl rfl hT0 (by decide) w_291 rfl d_10_15_1 ?_
  refine lv_aload_n hx hb d_10_15_4 rfl (lv_at hl 0 rfl) ?_
  refine q_get (ci := 8) (j := 4) (v := .int t0_2) C0 V i_Rea rfl rfl hT0 (by decide) w_290 rfl d_10_15_5 ?_
  refine lv_isub hx hb d_10_15_8 ?_
  obtain ⟨a19, e20⟩ := q_nm (t0_3 - t0_2 : Int32)
  refine q_ti (v := a19) e20 ?_
  refine lv_aload_n hx hb d_10_15_9 rfl (lv_at hl 1 rfl) ?_
  refine q_goi V (q_runVs (As := []) (rest := [.int a19]) (d := 2) (mc := 0) (ms := 0) (i := 20) C0 V rfl LV_Rea_157 (X_jStr_length_20 l D g q ws   hI   _) rfl rfl rfl hl.1 rfl (Nat.le_of_ble_eq_true rfl) ⟨by decide, by decide⟩ ⟨Nat.le_of_ble_eq_true rfl, Nat.le_of_ble_eq_true rfl⟩ d_10_15_10) (fun a23 u21 H locs hp22 V => ?_)
  obtain ⟨rfl, b24, b25, hE26⟩ := hp22
  have e27 : a23 = (F_jStr_length_20) := hE26
  replace b24 : q_F (3 ≤ a23.toInt) := b24
  replace b25 : q_F (a23.toInt ≤ 3) := b25
  obtain rfl : a23 = (3 : Int32) := q_Ieq (x := a23.toInt) (y := 3) rfl (by decide) (by have t1 : 3 ≤ a23.toInt := b24; have t2 : a23.toInt ≤ 3 := b25; omega)
  refine lv_icmp_eq (tgt := 18) hx hb d_10_15_13 (by decide) (fun c28 => ?_) (fun c28 => ?_)
  ·
    have b29 : q_F (a19.toInt = 3) := (q_eqI c28)
    refine lv_iconst (v := 0) hx hb d_10_15_18 (by decide) ?_
    refine lv_istore_n (lv' := [(2, .int 0), (0, .ref (q 38)), (1, .ref (g (8 + 2 * 20)))]) hx hb d_10_15_19 rfl hl (by decide) rfl (fun ls hl => ?_)
    refine q_loop (X := Int32) (fun z H locs ls _ => q_F (0 ≤ z.toInt) ∧ q_F (z.toInt ≤ 3) ∧ q_Wd D g (va_A ws sz) s ws H locs ∧ lv_has ls 3 [(2, .int z), (0, .ref (q 38)), (1, .ref (g (8 + 2 * 20)))] ∧ (∃ n, (3 - z.toInt).toNat < n ∧ F_Rea_saysRest_20_L20 t0_0 t0_1 t0_2 t0_3 t0_4 t0_5 t0_6 t0_7 t0_8 t0_9 t1_0 t2_0 n z = (F_Rea_saysRest_20 t0_0 t0_1 t0_2 t0_3 t0_4 t0_5 t0_6 t0_7 t0_8 t0_9 t1_0 t2_0) ∧ True ∧ S_Rea_saysRest_20_L20 t0_0 t0_1 t0_2 t0_3 t0_4 t0_5 t0_6 t0_7 t0_8 t0_9 t1_0 t2_0 n z)) (fun z => (3 - z.toInt).toNat) ?_ ((0 : Int32)) _ _ _ ws ⟨(show q_F (0 ≤ 0) from (show 0 ≤ 0 from by omega)), (show q_F (0 ≤ 3) from (show 0 ≤ 3 from by omega)), V, q_lw hl (q_lw1 0 rfl (q_lw1 1 rfl (q_lw1 2 rfl q_lw0))), ⟨((3 - (0 : Int32).toInt).toNat + 1), Nat.lt_succ_self _, (show F_Rea_saysRest_20_L20 t0_0 t0_1 t0_2 t0_3 t0_4 t0_5 t0_6 t0_7 t0_8 t0_9 t1_0 t2_0 ((3 - (0 : Int32).toInt).toNat + 1) 0 = (F_Rea_saysRest_20 t0_0 t0_1 t0_2 t0_3 t0_4 t0_5 t0_6 t0_7 t0_8 t0_9 t1_0 t2_0) from (by have c28x := c28; rw [← e20] at c28x; rw [F_Rea_saysRest_20.eq_1, if_pos c28x])), (show True ∧ S_Rea_saysRest_20_L20 t0_0 t0_1 t0_2 t0_3 t0_4 t0_5 t0_6 t0_7 t0_8 t0_9 t1_0 t2_0 ((3 - (0 : Int32).toInt).toNat + 1) 0 from (by have h := hS; rw [S_Rea_saysRest_20.eq_1] at h; have c28x := c28; rw [← e20] at c28x; rw [if_pos c28x] at h; with_reducible exact h))⟩⟩
    rintro lx31 H locs ls _ ⟨i32, i33, V, hl, ⟨fu37, hf38, hR35, hS36⟩⟩ ih34
    obtain ⟨fm39, rfl⟩ : ∃ m, fu37 = m + 1 := ⟨fu37 - 1, by omega⟩
    replace i32 : q_F (0 ≤ lx31.toInt) := i32
    replace i33 : q_F (lx31.toInt ≤ 3) := i33
    replace hl : lv_has ls 3 [(2, .int lx31), (0, .ref (q 38)), (1, .ref (g (8 + 2 * 20)))] := hl
    refine lv_iload_n hx hb d_10_15_20 rfl (lv_at hl 0 rfl) ?_
    refine lv_aload_n hx hb d_10_15_21 rfl (lv_at hl 2 rfl) ?_
    refine q_goi V (q_runVs (As := []) (rest := [.int lx31]) (d := 2) (mc := 0) (ms := 0) (i := 20) C0 V rfl LV_Rea_157 (X_jStr_length_20 l D g q ws   hI   _) rfl rfl rfl hl.1 rfl (Nat.le_of_ble_eq_true rfl) ⟨by decide, by decide⟩ ⟨Nat.le_of_ble_eq_true rfl, Nat.le_of_ble_eq_true rfl⟩ d_10_15_22) (fun a42 u40 H locs hp41 V => ?_)
    obtain ⟨rfl, b43, b44, hE45⟩ := hp41
    have e46 : a42 = (F_jStr_length_20) := hE45
    replace b43 : q_F (3 ≤ a42.toInt) := b43
    replace b44 : q_F (a42.toInt ≤ 3) := b44
    obtain rfl : a42 = (3 : Int32) := q_Ieq (x := a42.toInt) (y := 3) rfl (by decide) (by have t1 : 3 ≤ a42.toInt := b43; have t2 : a42.toInt ≤ 3 := b44; omega)
    refine lv_icmp_ge (tgt := 58) hx hb d_10_15_25 (by decide) (fun c47 => ?_) (fun c47 => ?_)
    ·
      have b48 : q_F (3 ≤ lx31.toInt) := (q_leI c47)
      refine lv_iconst (v := 1) hx hb d_10_15_58 (by decide) ?_
      exact q_retz C0 V (by decide) (⟨rfl, (show 0 ≤ (1 : Int32).toInt from (by have z12 : (1 : Int32).toInt = 1 := rfl; omega)), (show (1 : Int32).toInt ≤ 1 from (by have z12 : (1 : Int32).toInt = 1 := rfl; omega)), (show (1 : Int32) = (F_Rea_saysRest_20 t0_0 t0_1 t0_2 t0_3 t0_4 t0_5 t0_6 t0_7 t0_8 t0_9 t1_0 t2_0) from Eq.trans (by rw [F_Rea_saysRest_20_L20.eq_2, if_pos c47]) hR35)⟩) d_10_15_59
    ·
      have b49 : q_F (lx31.toInt < 3) := (q_nleI c47)
      refine lv_aload_n hx hb d_10_15_28 rfl (lv_at hl 1 rfl) ?_
      refine q_get (ci := 8) (j := 2) (v := .ref (q 1)) C0 V i_Rea rfl rfl hT0 (by decide) w_288 rfl d_10_15_29 ?_
      refine lv_aload_n hx hb d_10_15_32 rfl (lv_at hl 1 rfl) ?_
      refine q_get (ci := 8) (j := 4) (v := .int t0_2) C0 V i_Rea rfl rfl hT0 (by decide) w_290 rfl d_10_15_33 ?_
      refine lv_iload_n hx hb d_10_15_36 rfl (lv_at hl 0 rfl) ?_
      refine lv_iadd hx hb d_10_15_37 ?_
      obtain ⟨a50, e51⟩ := q_nm (t0_2 + lx31 : Int32)
      refine q_ti (v := a50) e51 ?_
      refine lv_i2l hx hb d_10_15_38 rfl ?_
      obtain ⟨j52, e53⟩ := q_nm (a50.toInt64 : Int64)
      refine q_tl (v := j52) e53 ?_
      have b54 : q_F (j52.toInt = a50.toInt) := (by rw [← e53]; show (a50.toInt64 : Int64).toInt = a50.toInt; exact q_i2l rfl)
      have ob55 : True ∧ S_She_at (4100 : Int32) (513 : Int32) (4100 : Int32) j52 t1_0 t2_0 := (by rw [← e53, ← e51]; have h := hS36; rw [S_Rea_saysRest_20_L20.eq_2] at h; rw [if_neg c47] at h; with_reducible exact h.2.1)
      refine q_goi V (q_runV (As := [.long j52]) (rest := []) (d := 1) (mc := 0) (ms := 0) (ci := 1) C0 V rfl LV_Rea_139 (X_She_at l D g q ws 1 4100 513 4100 (n_h1 g q) j52 hI t1_0 hT1 t2_0 hT2 ob55 _) rfl rfl hT1 rfl hl.1 rfl (Nat.le_of_ble_eq_true rfl) ⟨by decide, by decide⟩ ⟨Nat.le_of_ble_eq_true rfl, Nat.le_of_ble_eq_true rfl⟩ d_10_15_39) (fun a58 u56 H locs hp57 V => ?_)
      obtain ⟨rfl, b59, b60, hE61⟩ := hp57
      have e62 : a58 = (F_She_at (4100 : Int32) (513 : Int32) (4100 : Int32) j52 t1_0 t2_0) := hE61
      replace b59 : q_F (0 ≤ a58.toInt) := b59
      replace b60 : q_F (a58.toInt ≤ 255) := b60
      refine lv_aload_n hx hb d_10_15_42 rfl (lv_at hl 2 rfl) ?_
      refine lv_iload_n hx hb d_10_15_43 rfl (lv_at hl 0 rfl) ?_
      refine q_goi V (q_runVs (As := [.int lx31]) (rest := [.int a58]) (d := 4) (mc := 0) (ms := 0) (i := 20) C0 V rfl LV_Rea_162 (X_jStr_charAt_20 l D g q ws  lx31 hI  (by have t1 : 0 ≤ lx31.toInt := i32; omega) (by have t1 : lx31.toInt < 3 := b49; omega) _) rfl rfl rfl hl.1 rfl (Nat.le_of_ble_eq_true rfl) ⟨by decide, by decide⟩ ⟨Nat.le_of_ble_eq_true rfl, Nat.le_of_ble_eq_true rfl⟩ d_10_15_44) (fun a65 u63 H locs hp64 V => ?_)
      obtain ⟨rfl, b66, b67, hE68⟩ := hp64
      have e69 : a65 = (F_jStr_charAt_20 lx31) := hE68
      replace b66 : q_F (0 ≤ a65.toInt) := b66
      replace b67 : q_F (a65.toInt ≤ 255) := b67
      refine lv_icmp_eq (tgt := 52) hx hb d_10_15_47 (by decide) (fun c70 => ?_) (fun c70 => ?_)
      ·
        have b71 : q_F (a58.toInt = a65.toInt) := (q_eqI c70)
        obtain ⟨a72, e73⟩ := q_nm (lx31 + 1 : Int32)
        have b74 : q_F (a72.toInt = lx31.toInt + 1) := (by rw [← e73]; exact q_addI (y := 1) rfl (by decide) (by have t1 : 0 ≤ lx31.toInt := i32; have t2 : lx31.toInt ≤ 3 := i33; omega) (by have t1 : 0 ≤ lx31.toInt := i32; have t2 : lx31.toInt ≤ 3 := i33; omega))
        refine lv_iinc (v := a72) (lv' := [(2, .int a72), (0, .ref (q 38)), (1, .ref (g (8 + 2 * 20)))]) hx hb d_10_15_52 hl (k := 0) rfl (e73) (by decide) rfl (fun ls hl => ?_)
        refine lv_goto (tgt := 20) hx hb d_10_15_55 (by decide) ?_
        exact ih34 ((a72 : Int32)) _ _ _ ws (show (3 - a72.toInt).toNat < (3 - lx31.toInt).toNat from by have t1 : a72.toInt = lx31.toInt + 1 := b74; have t2 : lx31.toInt ≤ 3 := i33; have t3 : lx31.toInt < 3 := b49; omega) ⟨(show q_F (0 ≤ a72.toInt) from (show 0 ≤ a72.toInt from by have t1 : 0 ≤ lx31.toInt := i32; have t2 : a72.toInt = lx31.toInt + 1 := b74; omega)), (show q_F (a72.toInt ≤ 3) from (show a72.toInt ≤ 3 from by have t1 : lx31.toInt < 3 := b49; have t2 : a72.toInt = lx31.toInt + 1 := b74; omega)), V, q_lw hl (q_lw1 0 rfl (q_lw1 1 rfl (q_lw1 2 rfl q_lw0))), ⟨fm39, Nat.lt_of_lt_of_le (show (3 - a72.toInt).toNat < (3 - lx31.toInt).toNat from by have t1 : a72.toInt = lx31.toInt + 1 := b74; have t2 : lx31.toInt ≤ 3 := i33; have t3 : lx31.toInt < 3 := b49; omega) (Nat.le_of_lt_succ hf38), (show F_Rea_saysRest_20_L20 t0_0 t0_1 t0_2 t0_3 t0_4 t0_5 t0_6 t0_7 t0_8 t0_9 t1_0 t2_0 fm39 a72 = (F_Rea_saysRest_20 t0_0 t0_1 t0_2 t0_3 t0_4 t0_5 t0_6 t0_7 t0_8 t0_9 t1_0 t2_0) from Eq.trans (by have c70x := c70; rw [e69, e62, ← e53, ← e51] at c70x; rw [← e73, F_Rea_saysRest_20_L20.eq_2, if_neg c47, if_pos c70x]) hR35), (show True ∧ S_Rea_saysRest_20_L20 t0_0 t0_1 t0_2 t0_3 t0_4 t0_5 t0_6 t0_7 t0_8 t0_9 t1_0 t2_0 fm39 a72 from (by rw [← e73]; have h := hS36; rw [S_Rea_saysRest_20_L20.eq_2] at h; rw [if_neg c47] at h; replace h := q_s2 h; have c70x := c70; rw [e69, e62, ← e53, ← e51] at c70x; rw [if_pos c70x] at h; with_reducible exact h))⟩⟩
      ·
        have b75 : q_F (a58.toInt ≠ a65.toInt) := (q_neI c70)
        refine lv_iconst (v := 0) hx hb d_10_15_50 (by decide) ?_
        exact q_retz C0 V (by decide) (⟨rfl, (show 0 ≤ (0 : Int32).toInt from (by have z12 : (0 : Int32).toInt = 0 := rfl; omega)), (show (0 : Int32).toInt ≤ 1 from (by have z12 : (0 : Int32).toInt = 0 := rfl; omega)), (show (0 : Int32) = (F_Rea_saysRest_20 t0_0 t0_1 t0_2 t0_3 t0_4 t0_5 t0_6 t0_7 t0_8 t0_9 t1_0 t2_0) from Eq.trans (by have c70x := c70; rw [e69, e62, ← e53, ← e51] at c70x; rw [F_Rea_saysRest_20_L20.eq_2, if_neg c47, if_neg c70x]) hR35)⟩) d_10_15_51
  ·
    have b76 : q_F (a19.toInt ≠ 3) := (q_neI c28)
    refine lv_iconst (v := 0) hx hb d_10_15_16 (by decide) ?_
    exact q_retz C0 V (by decide) (⟨rfl, (show 0 ≤ (0 : Int32).toInt from (by have z12 : (0 : Int32).toInt = 0 := rfl; omega)), (show (0 : Int32).toInt ≤ 1 from (by have z12 : (0 : Int32).toInt = 0 := rfl; omega)), (show (0 : Int32) = (F_Rea_saysRest_20 t0_0 t0_1 t0_2 t0_3 t0_4 t0_5 t0_6 t0_7 t0_8 t0_9 t1_0 t2_0) from (by have c28x := c28; rw [← e20] at c28x; rw [F_Rea_saysRest_20.eq_1, if_neg c28x]))⟩) d_10_15_17
def F_Rea_saysRest_21_L20 (t0_0 : Int64) (t0_1 : Int64) (t0_2 : Int32) (t0_3 : Int32) (t0_4 : Int32) (t0_5 : Int32) (t0_6 : Int32) (t0_7 : Int32) (t0_8 : Int32) (t0_9 : Int64) (t1_0 : Int32) (t2_0 : (Nat → Int64)) : Nat → Int32 → Int32
  | 0, _ => default
  | fm + 1, lx31 => if (8 : Int32) ≤ lx31 then ((1 : Int32)) else (if ((F_She_at (4100 : Int32) (513 : Int32) (4100 : Int32) ((t0_2 + lx31 : Int32).toInt64 : Int64) t1_0 t2_0) : Int32) = ((F_jStr_charAt_21 lx31) : Int32) then (F_Rea_saysRest_21_L20 t0_0 t0_1 t0_2 t0_3 t0_4 t0_5 t0_6 t0_7 t0_8 t0_9 t1_0 t2_0 fm (lx31 + 1 : Int32)) else ((0 : Int32)))
def F_Rea_saysRest_21 (t0_0 : Int64) (t0_1 : Int64) (t0_2 : Int32) (t0_3 : Int32) (t0_4 : Int32) (t0_5 : Int32) (t0_6 : Int32) (t0_7 : Int32) (t0_8 : Int32) (t0_9 : Int64) (t1_0 : Int32) (t2_0 : (Nat → Int64)) : Int32 := if (t0_3 - t0_2 : Int32) = (8 : Int32) then (F_Rea_saysRest_21_L20 t0_0 t0_1 t0_2 t0_3 t0_4 t0_5 t0_6 t0_7 t0_8 t0_9 t1_0 t2_0 ((8 - (0 : Int32).toInt).toNat + 1) 0) else ((0 : Int32))
def S_Rea_saysRest_21_L20 (t0_0 : Int64) (t0_1 : Int64) (t0_2 : Int32) (t0_3 : Int32) (t0_4 : Int32) (t0_5 : Int32) (t0_6 : Int32) (t0_7 : Int32) (t0_8 : Int32) (t0_9 : Int64) (t1_0 : Int32) (t2_0 : (Nat → Int64)) : Nat → Int32 → Prop
  | 0, _ => False
  | fm + 1, lx31 => if (8 : Int32) ≤ lx31 then (True) else ((True ∧ S_She_at (4100 : Int32) (513 : Int32) (4100 : Int32) ((t0_2 + lx31 : Int32).toInt64 : Int64) t1_0 t2_0) ∧ (if ((F_She_at (4100 : Int32) (513 : Int32) (4100 : Int32) ((t0_2 + lx31 : Int32).toInt64 : Int64) t1_0 t2_0) : Int32) = ((F_jStr_charAt_21 lx31) : Int32) then (S_Rea_saysRest_21_L20 t0_0 t0_1 t0_2 t0_3 t0_4 t0_5 t0_6 t0_7 t0_8 t0_9 t1_0 t2_0 fm (lx31 + 1 : Int32)) else (True)))
def S_Rea_saysRest_21 (t0_0 : Int64) (t0_1 : Int64) (t0_2 : Int32) (t0_3 : Int32) (t0_4 : Int32) (t0_5 : Int32) (t0_6 : Int32) (t0_7 : Int32) (t0_8 : Int32) (t0_9 : Int64) (t1_0 : Int32) (t2_0 : (Nat → Int64)) : Prop := if (t0_3 - t0_2 : Int32) = (8 : Int32) then (S_Rea_saysRest_21_L20 t0_0 t0_1 t0_2 t0_3 t0_4 t0_5 t0_6 t0_7 t0_8 t0_9 t1_0 t2_0 ((8 - (0 : Int32).toInt).toNat + 1) 0) else (True)
set_option maxRecDepth 100000 in
set_option maxHeartbeats 4000000 in
theorem X_Rea_saysRest_21 (l : Launch) (D : va_G) (g : Nat → ClassId) (q : Nat → Nat) (ws : va_W) (hI : q_I (nsh g q) q ws) (t0_0 : Int64) (t0_1 : Int64) (t0_2 : Int32) (t0_3 : Int32) (t0_4 : Int32) (t0_5 : Int32) (t0_6 : Int32) (t0_7 : Int32) (t0_8 : Int32) (t0_9 : Int64) (hT0 : ws[38]? = (some (q 38, .inr (8, [.long t0_0, .long t0_1, .ref (q 1), .ref (q 9), .int t0_2, .int t0_3, .int t0_4, .int t0_5, .int t0_6, .int t0_7, .int t0_8, .long t0_9])) : Option (Nat × va_E))) (t1_0 : Int32) (hT1 : ws[1]? = (some (q 1, .inr (1, [.ref (q 2), .int 4100, .int t1_0])) : Option (Nat × va_E))) (t2_0 : (Nat → Int64)) (hT2 : ws[2]? = (some (q 2, .inl (g 1, (513 : Int32).toNatClampNeg, .inr (.inl t2_0))) : Option (Nat × va_E))) (hS : True ∧ S_Rea_saysRest_21 t0_0 t0_1 t0_2 t0_3 t0_4 t0_5 t0_6 t0_7 t0_8 t0_9 t1_0 t2_0) : q_mI l y_Rea_saysRest prog_10_method_15_code 3 (.boolean) 5 0 0 D g [.ref (q 38), .ref (g (8 + 2 * 21))] ws (fun r u => ws = u ∧ (0 ≤ r.toInt) ∧ (r.toInt ≤ 1) ∧ r = (F_Rea_saysRest_21 t0_0 t0_1 t0_2 t0_3 t0_4 t0_5 t0_6 t0_7 t0_8 t0_9 t1_0 t2_0)) := by
  intro sz
  refine q_into (by decide) (Nat.le_of_ble_eq_true rfl) ?_
  intro p e s m below meth c ls hsz C0 V hl
  have hx := C0.1
  have hb := C0.2.1
  obtain ⟨yy0_0, yy0_1, yy0_2, yy0_3, yy0_4, yy0_5, yy0_6, yy0_7, yy0_8, yy0_9, hh0, btt0_4, btt0_8⟩ := n_o38 hI
  obtain ⟨rfl, rfl, rfl, rfl, rfl, rfl, rfl, rfl, rfl, rfl⟩ : t0_0 = yy0_0 ∧ t0_1 = yy0_1 ∧ t0_2 = yy0_2 ∧ t0_3 = yy0_3 ∧ t0_4 = yy0_4 ∧ t0_5 = yy0_5 ∧ t0_6 = yy0_6 ∧ t0_7 = yy0_7 ∧ t0_8 = yy0_8 ∧ t0_9 = yy0_9 := by have z := Option.some.inj (hT0.symm.trans hh0); simpa using z
  replace btt0_4 : q_F (0 ≤ t0_4.toInt ∧ t0_4.toInt ≤ 1) := btt0_4
  replace btt0_8 : q_F (0 ≤ t0_8.toInt ∧ t0_8.toInt ≤ 1) := btt0_8
  obtain ⟨yy1_0, hh1, btt1_0⟩ := n_shO hI (n_h1 g q)
  obtain ⟨rfl⟩ : t1_0 = yy1_0 := by have z := Option.some.inj (hT1.symm.trans hh1); simpa using z
  replace btt1_0 : q_F (0 ≤ t1_0.toInt ∧ t1_0.toInt ≤ 4100) := btt1_0
  have hl : lv_has ls 3 [(0, .ref (q 38)), (1, .ref (g (8 + 2 * 21)))] := hl
  refine lv_aload_n hx hb d_10_15_0 rfl (lv_at hl 0 rfl) ?_
  refine q_get (ci := 8) (j := 5) (v := .int t0_3) C0 V i_Rea rfl rfl hT0 (by decide) w_291 rfl d_10_15_1 ?_
  refine lv_aload_n hx hb d_10_15_4 rfl (lv_at hl 0 rfl) ?_
  refine q_get (ci := 8) (j := 4) (v := .int t0_2) C0 V i_Rea rfl rfl hT0 (by decide) w_290 rfl d_10_15_5 ?_
  refine lv_isub hx hb d_10_15_8 ?_
  obtain ⟨a19, e20⟩ := q_nm (t0_3 - t0_2 : Int32)
  refine q_ti (v := a19) e20 ?_
  refine lv_aload_n hx hb d_10_15_9 rfl (lv_at hl 1 rfl) ?_
  refine q_goi V (q_runVs (As := []) (rest := [.int a19]) (d := 2) (mc := 0) (ms := 0) (i := 21) C0 V rfl LV_Rea_157 (X_jStr_length_21 l D g q ws   hI   _) rfl rfl rfl hl.1 rfl (Nat.le_of_ble_eq_true rfl) ⟨by decide, by decide⟩ ⟨Nat.le_of_ble_eq_true rfl, Nat.le_of_ble_eq_true rfl⟩ d_10_15_10) (fun a23 u21 H locs hp22 V => ?_)
  obtain ⟨rfl, b24, b25, hE26⟩ := hp22
  have e27 : a23 = (F_jStr_length_21) := hE26
  replace b24 : q_F (8 ≤ a23.toInt) := b24
  replace b25 : q_F (a23.toInt ≤ 8) := b25
  obtain rfl : a23 = (8 : Int32) := q_Ieq (x := a23.toInt) (y := 8) rfl (by decide) (by have t1 : 8 ≤ a23.toInt := b24; have t2 : a23.toInt ≤ 8 := b25; omega)
  refine lv_icmp_eq (tgt := 18) hx hb d_10_15_13 (by decide) (fun c28 => ?_) (fun c28 => ?_)
  ·
    have b29 : q_F (a19.toInt = 8) := (q_eqI c28)
    refine lv_iconst (v := 0) hx hb d_10_15_18 (by decide) ?_
    refine lv_istore_n (lv' := [(2, .int 0), (0, .ref (q 38)), (1, .ref (g (8 + 2 * 21)))]) hx hb d_10_15_19 rfl hl (by decide) rfl (fun ls hl => ?_)
    refine q_loop (X := Int32) (fun z H locs ls _ => q_F (0 ≤ z.toInt) ∧ q_F (z.toInt ≤ 8) ∧ q_Wd D g (va_A ws sz) s ws H locs ∧ lv_has ls 3 [(2, .int z), (0, .ref (q 38)), (1, .ref (g (8 + 2 * 21)))] ∧ (∃ n, (8 - z.toInt).toNat < n ∧ F_Rea_saysRest_21_L20 t0_0 t0_1 t0_2 t0_3 t0_4 t0_5 t0_6 t0_7 t0_8 t0_9 t1_0 t2_0 n z = (F_Rea_saysRest_21 t0_0 t0_1 t0_2 t0_3 t0_4 t0_5 t0_6 t0_7 t0_8 t0_9 t1_0 t2_0) ∧ True ∧ S_Rea_saysRest_21_L20 t0_0 t0_1 t0_2 t0_3 t0_4 t0_5 t0_6 t0_7 t0_8 t0_9 t1_0 t2_0 n z)) (fun z => (8 - z.toInt).toNat) ?_ ((0 : Int32)) _ _ _ ws ⟨(show q_F (0 ≤ 0) from (show 0 ≤ 0 from by omega)), (show q_F (0 ≤ 8) from (show 0 ≤ 8 from by omega)), V, q_lw hl (q_lw1 0 rfl (q_lw1 1 rfl (q_lw1 2 rfl q_lw0))), ⟨((8 - (0 : Int32).toInt).toNat + 1), Nat.lt_succ_self _, (show F_Rea_saysRest_21_L20 t0_0 t0_1 t0_2 t0_3 t0_4 t0_5 t0_6 t0_7 t0_8 t0_9 t1_0 t2_0 ((8 - (0 : Int32).toInt).toNat + 1) 0 = (F_Rea_saysRest_21 t0_0 t0_1 t0_2 t0_3 t0_4 t0_5 t0_6 t0_7 t0_8 t0_9 t1_0 t2_0) from (by have c28x := c28; rw [← e20] at c28x; rw [F_Rea_saysRest_21.eq_1, if_pos c28x])), (show True ∧ S_Rea_saysRest_21_L20 t0_0 t0_1 t0_2 t0_3 t0_4 t0_5 t0_6 t0_7 t0_8 t0_9 t1_0 t2_0 ((8 - (0 : Int32).toInt).toNat + 1) 0 from (by have h := hS; rw [S_Rea_saysRest_21.eq_1] at h; have c28x := c28; rw [← e20] at c28x; rw [if_pos c28x] at h; with_reducible exact h))⟩⟩
    rintro lx31 H locs ls _ ⟨i32, i33, V, hl, ⟨fu37, hf38, hR35, hS36⟩⟩ ih34
    obtain ⟨fm39, rfl⟩ : ∃ m, fu37 = m + 1 := ⟨fu37 - 1, by omega⟩
    replace i32 : q_F (0 ≤ lx31.toInt) := i32
    replace i33 : q_F (lx31.toInt ≤ 8) := i33
    replace hl : lv_has ls 3 [(2, .int lx31), (0, .ref (q 38)), (1, .ref (g (8 + 2 * 21)))] := hl
    refine lv_iload_n hx hb d_10_15_20 rfl (lv_at hl 0 rfl) ?_
    refine lv_aload_n hx hb d_10_15_21 rfl (lv_at hl 2 rfl) ?_
    refine q_goi V (q_runVs (As := []) (rest := [.int lx31]) (d := 2) (mc := 0) (ms := 0) (i := 21) C0 V rfl LV_Rea_157 (X_jStr_length_21 l D g q ws   hI   _) rfl rfl rfl hl.1 rfl (Nat.le_of_ble_eq_true rfl) ⟨by decide, by decide⟩ ⟨Nat.le_of_ble_eq_true rfl, Nat.le_of_ble_eq_true rfl⟩ d_10_15_22) (fun a42 u40 H locs hp41 V => ?_)
    obtain ⟨rfl, b43, b44, hE45⟩ := hp41
    have e46 : a42 = (F_jStr_length_21) := hE45
    replace b43 : q_F (8 ≤ a42.toInt) := b43
    replace b44 : q_F (a42.toInt ≤ 8) := b44
    obtain rfl : a42 = (8 : Int32) := q_Ieq (x := a42.toInt) (y := 8) rfl (by decide) (by have t1 : 8 ≤ a42.toInt := b43; have t2 : a42.toInt ≤ 8 := b44; omega)
    refine lv_icmp_ge (tgt := 58) hx hb d_10_15_25 (by decide) (fun c47 => ?_) (fun c47 => ?_)
    ·
      have b48 : q_F (8 ≤ lx31.toInt) := (q_leI c47)
      refine lv_iconst (v := 1) hx hb d_10_15_58 (by decide) ?_
      exact q_retz C0 V (by decide) (⟨rfl, (show 0 ≤ (1 : Int32).toInt from (by have z12 : (1 : Int32).toInt = 1 := rfl; omega)), (show (1 : Int32).toInt ≤ 1 from (by have z12 : (1 : Int32).toInt = 1 := rfl; omega)), (show (1 : Int32) = (F_Rea_saysRest_21 t0_0 t0_1 t0_2 t0_3 t0_4 t0_5 t0_6 t0_7 t0_8 t0_9 t1_0 t2_0) from Eq.trans (by rw [F_Rea_saysRest_21_L20.eq_2, if_pos c47]) hR35)⟩) d_10_15_59
    ·
      have b49 : q_F (lx31.toInt < 8) := (q_nleI c47)
      refine lv_aload_n hx hb d_10_15_28 rfl (lv_at hl 1 rfl) ?_
      refine q_get (ci := 8) (j := 2) (v := .ref (q 1)) C0 V i_Rea rfl rfl hT0 (by decide) w_288 rfl d_10_15_29 ?_
      refine lv_aload_n hx hb d_10_15_32 rfl (lv_at hl 1 rfl) ?_
      refine q_get (ci := 8) (j := 4) (v := .int t0_2) C0 V i_Rea rfl rfl hT0 (by decide) w_290 rfl d_10_15_33 ?_
      refine lv_iload_n hx hb d_10_15_36 rfl (lv_at hl 0 rfl) ?_
      refine lv_iadd hx hb d_10_15_37 ?_
      obtain ⟨a50, e51⟩ := q_nm (t0_2 + lx31 : Int32)
      refine q_ti (v := a50) e51 ?_
      refine lv_i2l hx hb d_10_15_38 rfl ?_
      obtain ⟨j52, e53⟩ := q_nm (a50.toInt64 : Int64)
      refine q_tl (v := j52) e53 ?_
      have b54 : q_F (j52.toInt = a50.toInt) := (by rw [← e53]; show (a50.toInt64 : Int64).toInt = a50.toInt; exact q_i2l rfl)
      have ob55 : True ∧ S_She_at (4100 : Int32) (513 : Int32) (4100 : Int32) j52 t1_0 t2_0 := (by rw [← e53, ← e51]; have h := hS36; rw [S_Rea_saysRest_21_L20.eq_2] at h; rw [if_neg c47] at h; with_reducible exact h.2.1)
      refine q_goi V (q_runV (As := [.long j52]) (rest := []) (d := 1) (mc := 0) (ms := 0) (ci := 1) C0 V rfl LV_Rea_139 (X_She_at l D g q ws 1 4100 513 4100 (n_h1 g q) j52 hI t1_0 hT1 t2_0 hT2 ob55 _) rfl rfl hT1 rfl hl.1 rfl (Nat.le_of_ble_eq_true rfl) ⟨by decide, by decide⟩ ⟨Nat.le_of_ble_eq_true rfl, Nat.le_of_ble_eq_true rfl⟩ d_10_15_39) (fun a58 u56 H locs hp57 V => ?_)
      obtain ⟨rfl, b59, b60, hE61⟩ := hp57
      have e62 : a58 = (F_She_at (4100 : Int32) (513 : Int32) (4100 : Int32) j52 t1_0 t2_0) := hE61
      replace b59 : q_F (0 ≤ a58.toInt) := b59
      replace b60 : q_F (a58.toInt ≤ 255) := b60
      refine lv_aload_n hx hb d_10_15_42 rfl (lv_at hl 2 rfl) ?_
      refine lv_iload_n hx hb d_10_15_43 rfl (lv_at hl 0 rfl) ?_
      refine q_goi V (q_runVs (As := [.int lx31]) (rest := [.int a58]) (d := 4) (mc := 0) (ms := 0) (i := 21) C0 V rfl LV_Rea_162 (X_jStr_charAt_21 l D g q ws  lx31 hI  (by have t1 : 0 ≤ lx31.toInt := i32; omega) (by have t1 : lx31.toInt < 8 := b49; omega) _) rfl rfl rfl hl.1 rfl (Nat.le_of_ble_eq_true rfl) ⟨by decide, by decide⟩ ⟨Nat.le_of_ble_eq_true rfl, Nat.le_of_ble_eq_true rfl⟩ d_10_15_44) (fun a65 u63 H locs hp64 V => ?_)
      obtain ⟨rfl, b66, b67, hE68⟩ := hp64
      have e69 : a65 = (F_jStr_charAt_21 lx31) := hE68
      replace b66 : q_F (0 ≤ a65.toInt) := b66
      replace b67 : q_F (a65.toInt ≤ 255) := b67
      refine lv_icmp_eq (tgt := 52) hx hb d_10_15_47 (by decide) (fun c70 => ?_) (fun c70 => ?_)
      ·
        have b71 : q_F (a58.toInt = a65.toInt) := (q_eqI c70)
        obtain ⟨a72, e73⟩ := q_nm (lx31 + 1 : Int32)
        have b74 : q_F (a72.toInt = lx31.toInt + 1) := (by rw [← e73]; exact q_addI (y := 1) rfl (by decide) (by have t1 : 0 ≤ lx31.toInt := i32; have t2 : lx31.toInt ≤ 8 := i33; omega) (by have t1 : 0 ≤ lx31.toInt := i32; have t2 : lx31.toInt ≤ 8 := i33; omega))
        refine lv_iinc (v := a72) (lv' := [(2, .int a72), (0, .ref (q 38)), (1, .ref (g (8 + 2 * 21)))]) hx hb d_10_15_52 hl (k := 0) rfl (e73) (by decide) rfl (fun ls hl => ?_)
        refine lv_goto (tgt := 20) hx hb d_10_15_55 (by decide) ?_
        exact ih34 ((a72 : Int32)) _ _ _ ws (show (8 - a72.toInt).toNat < (8 - lx31.toInt).toNat from by have t1 : a72.toInt = lx31.toInt + 1 := b74; have t2 : lx31.toInt ≤ 8 := i33; have t3 : lx31.toInt < 8 := b49; omega) ⟨(show q_F (0 ≤ a72.toInt) from (show 0 ≤ a72.toInt from by have t1 : 0 ≤ lx31.toInt := i32; have t2 : a72.toInt = lx31.toInt + 1 := b74; omega)), (show q_F (a72.toInt ≤ 8) from (show a72.toInt ≤ 8 from by have t1 : lx31.toInt < 8 := b49; have t2 : a72.toInt = lx31.toInt + 1 := b74; omega)), V, q_lw hl (q_lw1 0 rfl (q_lw1 1 rfl (q_lw1 2 rfl q_lw0))), ⟨fm39, Nat.lt_of_lt_of_le (show (8 - a72.toInt).toNat < (8 - lx31.toInt).toNat from by have t1 : a72.toInt = lx31.toInt + 1 := b74; have t2 : lx31.toInt ≤ 8 := i33; have t3 : lx31.toInt < 8 := b49; omega) (Nat.le_of_lt_succ hf38), (show F_Rea_saysRest_21_L20 t0_0 t0_1 t0_2 t0_3 t0_4 t0_5 t0_6 t0_7 t0_8 t0_9 t1_0 t2_0 fm39 a72 = (F_Rea_saysRest_21 t0_0 t0_1 t0_2 t0_3 t0_4 t0_5 t0_6 t0_7 t0_8 t0_9 t1_0 t2_0) from Eq.trans (by have c70x := c70; rw [e69, e62, ← e53, ← e51] at c70x; rw [← e73, F_Rea_saysRest_21_L20.eq_2, if_neg c47, if_pos c70x]) hR35), (show True ∧ S_Rea_saysRest_21_L20 t0_0 t0_1 t0_2 t0_3 t0_4 t0_5 t0_6 t0_7 t0_8 t0_9 t1_0 t2_0 fm39 a72 from (by rw [← e73]; have h := hS36; rw [S_Rea_saysRest_21_L20.eq_2] at h; rw [if_neg c47] at h; replace h := q_s2 h; have c70x := c70; rw [e69, e62, ← e53, ← e51] at c70x; rw [if_pos c70x] at h; with_reducible exact h))⟩⟩
      ·
        have b75 : q_F (a58.toInt ≠ a65.toInt) := (q_neI c70)
        refine lv_iconst (v := 0) hx hb d_10_15_50 (by decide) ?_
        exact q_retz C0 V (by decide) (⟨rfl, (show 0 ≤ (0 : Int32).toInt from (by have z12 : (0 : Int32).toInt = 0 := rfl; omega)), (show (0 : Int32).toInt ≤ 1 from (by have z12 : (0 : Int32).toInt = 0 := rfl; omega)), (show (0 : Int32) = (F_Rea_saysRest_21 t0_0 t0_1 t0_2 t0_3 t0_4 t0_5 t0_6 t0_7 t0_8 t0_9 t1_0 t2_0) from Eq.trans (by have c70x := c70; rw [e69, e62, ← e53, ← e51] at c70x; rw [F_Rea_saysRest_21_L20.eq_2, if_neg c47, if_neg c70x]) hR35)⟩) d_10_15_51
  ·
    have b76 : q_F (a19.toInt ≠ 8) := (q_neI c28)
    refine lv_iconst (v := 0) hx hb d_10_15_16 (by decide) ?_
    exact q_retz C0 V (by decide) (⟨rfl, (show 0 ≤ (0 : Int32).toInt from (by have z12 : (0 : Int32).toInt = 0 := rfl; omega)), (show (0 : Int32).toInt ≤ 1 from (by have z12 : (0 : Int32).toInt = 0 := rfl; omega)), (show (0 : Int32) = (F_Rea_saysRest_21 t0_0 t0_1 t0_2 t0_3 t0_4 t0_5 t0_6 t0_7 t0_8 t0_9 t1_0 t2_0) from (by have c28x := c28; rw [← e20] at c28x; rw [F_Rea_saysRest_21.eq_1, if_neg c28x]))⟩) d_10_15_17
def F_Rea_saysRest_23_L20 (t0_0 : Int64) (t0_1 : Int64) (t0_2 : Int32) (t0_3 : Int32) (t0_4 : Int32) (t0_5 : Int32) (t0_6 : Int32) (t0_7 : Int32) (t0_8 : Int32) (t0_9 : Int64) (t1_0 : Int32) (t2_0 : (Nat → Int64)) : Nat → Int32 → Int32
  | 0, _ => default
  | fm + 1, lx31 => if (3 : Int32) ≤ lx31 then ((1 : Int32)) else (if ((F_She_at (4100 : Int32) (513 : Int32) (4100 : Int32) ((t0_2 + lx31 : Int32).toInt64 : Int64) t1_0 t2_0) : Int32) = ((F_jStr_charAt_23 lx31) : Int32) then (F_Rea_saysRest_23_L20 t0_0 t0_1 t0_2 t0_3 t0_4 t0_5 t0_6 t0_7 t0_8 t0_9 t1_0 t2_0 fm (lx31 + 1 : Int32)) else ((0 : Int32)))
def F_Rea_saysRest_23 (t0_0 : Int64) (t0_1 : Int64) (t0_2 : Int32) (t0_3 : Int32) (t0_4 : Int32) (t0_5 : Int32) (t0_6 : Int32) (t0_7 : Int32) (t0_8 : Int32) (t0_9 : Int64) (t1_0 : Int32) (t2_0 : (Nat → Int64)) : Int32 := if (t0_3 - t0_2 : Int32) = (3 : Int32) then (F_Rea_saysRest_23_L20 t0_0 t0_1 t0_2 t0_3 t0_4 t0_5 t0_6 t0_7 t0_8 t0_9 t1_0 t2_0 ((3 - (0 : Int32).toInt).toNat + 1) 0) else ((0 : Int32))
def S_Rea_saysRest_23_L20 (t0_0 : Int64) (t0_1 : Int64) (t0_2 : Int32) (t0_3 : Int32) (t0_4 : Int32) (t0_5 : Int32) (t0_6 : Int32) (t0_7 : Int32) (t0_8 : Int32) (t0_9 : Int64) (t1_0 : Int32) (t2_0 : (Nat → Int64)) : Nat → Int32 → Prop
  | 0, _ => False
  | fm + 1, lx31 => if (3 : Int32) ≤ lx31 then (True) else ((True ∧ S_She_at (4100 : Int32) (513 : Int32) (4100 : Int32) ((t0_2 + lx31 : Int32).toInt64 : Int64) t1_0 t2_0) ∧ (if ((F_She_at (4100 : Int32) (513 : Int32) (4100 : Int32) ((t0_2 + lx31 : Int32).toInt64 : Int64) t1_0 t2_0) : Int32) = ((F_jStr_charAt_23 lx31) : Int32) then (S_Rea_saysRest_23_L20 t0_0 t0_1 t0_2 t0_3 t0_4 t0_5 t0_6 t0_7 t0_8 t0_9 t1_0 t2_0 fm (lx31 + 1 : Int32)) else (True)))
def S_Rea_saysRest_23 (t0_0 : Int64) (t0_1 : Int64) (t0_2 : Int32) (t0_3 : Int32) (t0_4 : Int32) (t0_5 : Int32) (t0_6 : Int32) (t0_7 : Int32) (t0_8 : Int32) (t0_9 : Int64) (t1_0 : Int32) (t2_0 : (Nat → Int64)) : Prop := if (t0_3 - t0_2 : Int32) = (3 : Int32) then (S_Rea_saysRest_23_L20 t0_0 t0_1 t0_2 t0_3 t0_4 t0_5 t0_6 t0_7 t0_8 t0_9 t1_0 t2_0 ((3 - (0 : Int32).toInt).toNat + 1) 0) else (True)
set_option maxRecDepth 100000 in
set_option maxHeartbeats 4000000 in
theorem X_Rea_saysRest_23 (l : Launch) (D : va_G) (g : Nat → ClassId) (q : Nat → Nat) (ws : va_W) (hI : q_I (nsh g q) q ws) (t0_0 : Int64) (t0_1 : Int64) (t0_2 : Int32) (t0_3 : Int32) (t0_4 : Int32) (t0_5 : Int32) (t0_6 : Int32) (t0_7 : Int32) (t0_8 : Int32) (t0_9 : Int64) (hT0 : ws[38]? = (some (q 38, .inr (8, [.long t0_0, .long t0_1, .ref (q 1), .ref (q 9), .int t0_2, .int t0_3, .int t0_4, .int t0_5, .int t0_6, .int t0_7, .int t0_8, .long t0_9])) : Option (Nat × va_E))) (t1_0 : Int32) (hT1 : ws[1]? = (some (q 1, .inr (1, [.ref (q 2), .int 4100, .int t1_0])) : Option (Nat × va_E))) (t2_0 : (Nat → Int64)) (hT2 : ws[2]? = (some (q 2, .inl (g 1, (513 : Int32).toNatClampNeg, .inr (.inl t2_0))) : Option (Nat × va_E))) (hS : True ∧ S_Rea_saysRest_23 t0_0 t0_1 t0_2 t0_3 t0_4 t0_5 t0_6 t0_7 t0_8 t0_9 t1_0 t2_0) : q_mI l y_Rea_saysRest prog_10_method_15_code 3 (.boolean) 5 0 0 D g [.ref (q 38), .ref (g (8 + 2 * 23))] ws (fun r u => ws = u ∧ (0 ≤ r.toInt) ∧ (r.toInt ≤ 1) ∧ r = (F_Rea_saysRest_23 t0_0 t0_1 t0_2 t0_3 t0_4 t0_5 t0_6 t0_7 t0_8 t0_9 t1_0 t2_0)) := by
  intro sz
  refine q_into (by decide) (Nat.le_of_ble_eq_true rfl) ?_
  intro p e s m below meth c ls hsz C0 V hl
  have hx := C0.1
  have hb := C0.2.1
  obtain ⟨yy0_0, yy0_1, yy0_2, yy0_3, yy0_4, yy0_5, yy0_6, yy0_7, yy0_8, yy0_9, hh0, btt0_4, btt0_8⟩ := n_o38 hI
  obtain ⟨rfl, rfl, rfl, rfl, rfl, rfl, rfl, rfl, rfl, rfl⟩ : t0_0 = yy0_0 ∧ t0_1 = yy0_1 ∧ t0_2 = yy0_2 ∧ t0_3 = yy0_3 ∧ t0_4 = yy0_4 ∧ t0_5 = yy0_5 ∧ t0_6 = yy0_6 ∧ t0_7 = yy0_7 ∧ t0_8 = yy0_8 ∧ t0_9 = yy0_9 := by have z := Option.some.inj (hT0.symm.trans hh0); simpa using z
  replace btt0_4 : q_F (0 ≤ t0_4.toInt ∧ t0_4.toInt ≤ 1) := btt0_4
  replace btt0_8 : q_F (0 ≤ t0_8.toInt ∧ t0_8.toInt ≤ 1) := btt0_8
  obtain ⟨yy1_0, hh1, btt1_0⟩ := n_shO hI (n_h1 g q)
  obtain ⟨rfl⟩ : t1_0 = yy1_0 := by have z := Option.some.inj (hT1.symm.trans hh1); simpa using z
  replace btt1_0 : q_F (0 ≤ t1_0.toInt ∧ t1_0.toInt ≤ 4100) := btt1_0
  have hl : lv_has ls 3 [(0, .ref (q 38)), (1, .ref (g (8 + 2 * 23)))] := hl
  refine lv_aload_n hx hb d_10_15_0 rfl (lv_at hl 0 rfl) ?_
  refine q_get (ci := 8) (j := 5) (v := .int t0_3) C0 V i_Rea rfl rfl hT0 (by decide) w_291 rfl d_10_15_1 ?_
  refine lv_aload_n hx hb d_10_15_4 rfl (lv_at hl 0 rfl) ?_
  refine q_get (ci := 8) (j := 4) (v := .int t0_2) C0 V i_Rea rfl rfl hT0 (by decide) w_290 rfl d_10_15_5 ?_
  refine lv_isub hx hb d_10_15_8 ?_
  obtain ⟨a19, e20⟩ := q_nm (t0_3 - t0_2 : Int32)
  refine q_ti (v := a19) e20 ?_
  refine lv_aload_n hx hb d_10_15_9 rfl (lv_at hl 1 rfl) ?_
  refine q_goi V (q_runVs (As := []) (rest := [.int a19]) (d := 2) (mc := 0) (ms := 0) (i := 23) C0 V rfl LV_Rea_157 (X_jStr_length_23 l D g q ws   hI   _) rfl rfl rfl hl.1 rfl (Nat.le_of_ble_eq_true rfl) ⟨by decide, by decide⟩ ⟨Nat.le_of_ble_eq_true rfl, Nat.le_of_ble_eq_true rfl⟩ d_10_15_10) (fun a23 u21 H locs hp22 V => ?_)
  obtain ⟨rfl, b24, b25, hE26⟩ := hp22
  have e27 : a23 = (F_jStr_length_23) := hE26
  replace b24 : q_F (3 ≤ a23.toInt) := b24
  replace b25 : q_F (a23.toInt ≤ 3) := b25
  obtain rfl : a23 = (3 : Int32) := q_Ieq (x := a23.toInt) (y := 3) rfl (by decide) (by have t1 : 3 ≤ a23.toInt := b24; have t2 : a23.toInt ≤ 3 := b25; omega)
  refine lv_icmp_eq (tgt := 18) hx hb d_10_15_13 (by decide) (fun c28 => ?_) (fun c28 => ?_)
  ·
    have b29 : q_F (a19.toInt = 3) := (q_eqI c28)
    refine lv_iconst (v := 0) hx hb d_10_15_18 (by decide) ?_
    refine lv_istore_n (lv' := [(2, .int 0), (0, .ref (q 38)), (1, .ref (g (8 + 2 * 23)))]) hx hb d_10_15_19 rfl hl (by decide) rfl (fun ls hl => ?_)
    refine q_loop (X := Int32) (fun z H locs ls _ => q_F (0 ≤ z.toInt) ∧ q_F (z.toInt ≤ 3) ∧ q_Wd D g (va_A ws sz) s ws H locs ∧ lv_has ls 3 [(2, .int z), (0, .ref (q 38)), (1, .ref (g (8 + 2 * 23)))] ∧ (∃ n, (3 - z.toInt).toNat < n ∧ F_Rea_saysRest_23_L20 t0_0 t0_1 t0_2 t0_3 t0_4 t0_5 t0_6 t0_7 t0_8 t0_9 t1_0 t2_0 n z = (F_Rea_saysRest_23 t0_0 t0_1 t0_2 t0_3 t0_4 t0_5 t0_6 t0_7 t0_8 t0_9 t1_0 t2_0) ∧ True ∧ S_Rea_saysRest_23_L20 t0_0 t0_1 t0_2 t0_3 t0_4 t0_5 t0_6 t0_7 t0_8 t0_9 t1_0 t2_0 n z)) (fun z => (3 - z.toInt).toNat) ?_ ((0 : Int32)) _ _ _ ws ⟨(show q_F (0 ≤ 0) from (show 0 ≤ 0 from by omega)), (show q_F (0 ≤ 3) from (show 0 ≤ 3 from by omega)), V, q_lw hl (q_lw1 0 rfl (q_lw1 1 rfl (q_lw1 2 rfl q_lw0))), ⟨((3 - (0 : Int32).toInt).toNat + 1), Nat.lt_succ_self _, (show F_Rea_saysRest_23_L20 t0_0 t0_1 t0_2 t0_3 t0_4 t0_5 t0_6 t0_7 t0_8 t0_9 t1_0 t2_0 ((3 - (0 : Int32).toInt).toNat + 1) 0 = (F_Rea_saysRest_23 t0_0 t0_1 t0_2 t0_3 t0_4 t0_5 t0_6 t0_7 t0_8 t0_9 t1_0 t2_0) from (by have c28x := c28; rw [← e20] at c28x; rw [F_Rea_saysRest_23.eq_1, if_pos c28x])), (show True ∧ S_Rea_saysRest_23_L20 t0_0 t0_1 t0_2 t0_3 t0_4 t0_5 t0_6 t0_7 t0_8 t0_9 t1_0 t2_0 ((3 - (0 : Int32).toInt).toNat + 1) 0 from (by have h := hS; rw [S_Rea_saysRest_23.eq_1] at h; have c28x := c28; rw [← e20] at c28x; rw [if_pos c28x] at h; with_reducible exact h))⟩⟩
    rintro lx31 H locs ls _ ⟨i32, i33, V, hl, ⟨fu37, hf38, hR35, hS36⟩⟩ ih34
    obtain ⟨fm39, rfl⟩ : ∃ m, fu37 = m + 1 := ⟨fu37 - 1, by omega⟩
    replace i32 : q_F (0 ≤ lx31.toInt) := i32
    replace i33 : q_F (lx31.toInt ≤ 3) := i33
    replace hl : lv_has ls 3 [(2, .int lx31), (0, .ref (q 38)), (1, .ref (g (8 + 2 * 23)))] := hl
    refine lv_iload_n hx hb d_10_15_20 rfl (lv_at hl 0 rfl) ?_
    refine lv_aload_n hx hb d_10_15_21 rfl (lv_at hl 2 rfl) ?_
    refine q_goi V (q_runVs (As := []) (rest := [.int lx31]) (d := 2) (mc := 0) (ms := 0) (i := 23) C0 V rfl LV_Rea_157 (X_jStr_length_23 l D g q ws   hI   _) rfl rfl rfl hl.1 rfl (Nat.le_of_ble_eq_true rfl) ⟨by decide, by decide⟩ ⟨Nat.le_of_ble_eq_true rfl, Nat.le_of_ble_eq_true rfl⟩ d_10_15_22) (fun a42 u40 H locs hp41 V => ?_)
    obtain ⟨rfl, b43, b44, hE45⟩ := hp41
    have e46 : a42 = (F_jStr_length_23) := hE45
    replace b43 : q_F (3 ≤ a42.toInt) := b43
    replace b44 : q_F (a42.toInt ≤ 3) := b44
    obtain rfl : a42 = (3 : Int32) := q_Ieq (x := a42.toInt) (y := 3) rfl (by decide) (by have t1 : 3 ≤ a42.toInt := b43; have t2 : a42.toInt ≤ 3 := b44; omega)
    refine lv_icmp_ge (tgt := 58) hx hb d_10_15_25 (by decide) (fun c47 => ?_) (fun c47 => ?_)
    ·
      have b48 : q_F (3 ≤ lx31.toInt) := (q_leI c47)
      refine lv_iconst (v := 1) hx hb d_10_15_58 (by decide) ?_
      exact q_retz C0 V (by decide) (⟨rfl, (show 0 ≤ (1 : Int32).toInt from (by have z12 : (1 : Int32).toInt = 1 := rfl; omega)), (show (1 : Int32).toInt ≤ 1 from (by have z12 : (1 : Int32).toInt = 1 := rfl; omega)), (show (1 : Int32) = (F_Rea_saysRest_23 t0_0 t0_1 t0_2 t0_3 t0_4 t0_5 t0_6 t0_7 t0_8 t0_9 t1_0 t2_0) from Eq.trans (by rw [F_Rea_saysRest_23_L20.eq_2, if_pos c47]) hR35)⟩) d_10_15_59
    ·
      have b49 : q_F (lx31.toInt < 3) := (q_nleI c47)
      refine lv_aload_n hx hb d_10_15_28 rfl (lv_at hl 1 rfl) ?_
      refine q_get (ci := 8) (j := 2) (v := .ref (q 1)) C0 V i_Rea rfl rfl hT0 (by decide) w_288 rfl d_10_15_29 ?_
      refine lv_aload_n hx hb d_10_15_32 rfl (lv_at hl 1 rfl) ?_
      refine q_get (ci := 8) (j := 4) (v := .int t0_2) C0 V i_Rea rfl rfl hT0 (by decide) w_290 rfl d_10_15_33 ?_
      refine lv_iload_n hx hb d_10_15_36 rfl (lv_at hl 0 rfl) ?_
      refine lv_iadd hx hb d_10_15_37 ?_
      obtain ⟨a50, e51⟩ := q_nm (t0_2 + lx31 : Int32)
      refine q_ti (v := a50) e51 ?_
      refine lv_i2l hx hb d_10_15_38 rfl ?_
      obtain ⟨j52, e53⟩ := q_nm (a50.toInt64 : Int64)
      refine q_tl (v := j52) e53 ?_
      have b54 : q_F (j52.toInt = a50.toInt) := (by rw [← e53]; show (a50.toInt64 : Int64).toInt = a50.toInt; exact q_i2l rfl)
      have ob55 : True ∧ S_She_at (4100 : Int32) (513 : Int32) (4100 : Int32) j52 t1_0 t2_0 := (by rw [← e53, ← e51]; have h := hS36; rw [S_Rea_saysRest_23_L20.eq_2] at h; rw [if_neg c47] at h; with_reducible exact h.2.1)
      refine q_goi V (q_runV (As := [.long j52]) (rest := []) (d := 1) (mc := 0) (ms := 0) (ci := 1) C0 V rfl LV_Rea_139 (X_She_at l D g q ws 1 4100 513 4100 (n_h1 g q) j52 hI t1_0 hT1 t2_0 hT2 ob55 _) rfl rfl hT1 rfl hl.1 rfl (Nat.le_of_ble_eq_true rfl) ⟨by decide, by decide⟩ ⟨Nat.le_of_ble_eq_true rfl, Nat.le_of_ble_eq_true rfl⟩ d_10_15_39) (fun a58 u56 H locs hp57 V => ?_)
      obtain ⟨rfl, b59, b60, hE61⟩ := hp57
      have e62 : a58 = (F_She_at (4100 : Int32) (513 : Int32) (4100 : Int32) j52 t1_0 t2_0) := hE61
      replace b59 : q_F (0 ≤ a58.toInt) := b59
      replace b60 : q_F (a58.toInt ≤ 255) := b60
      refine lv_aload_n hx hb d_10_15_42 rfl (lv_at hl 2 rfl) ?_
      refine lv_iload_n hx hb d_10_15_43 rfl (lv_at hl 0 rfl) ?_
      refine q_goi V (q_runVs (As := [.int lx31]) (rest := [.int a58]) (d := 4) (mc := 0) (ms := 0) (i := 23) C0 V rfl LV_Rea_162 (X_jStr_charAt_23 l D g q ws  lx31 hI  (by have t1 : 0 ≤ lx31.toInt := i32; omega) (by have t1 : lx31.toInt < 3 := b49; omega) _) rfl rfl rfl hl.1 rfl (Nat.le_of_ble_eq_true rfl) ⟨by decide, by decide⟩ ⟨Nat.le_of_ble_eq_true rfl, Nat.le_of_ble_eq_true rfl⟩ d_10_15_44) (fun a65 u63 H locs hp64 V => ?_)
      obtain ⟨rfl, b66, b67, hE68⟩ := hp64
      have e69 : a65 = (F_jStr_charAt_23 lx31) := hE68
      replace b66 : q_F (0 ≤ a65.toInt) := b66
      replace b67 : q_F (a65.toInt ≤ 255) := b67
      refine lv_icmp_eq (tgt := 52) hx hb d_10_15_47 (by decide) (fun c70 => ?_) (fun c70 => ?_)
      ·
        have b71 : q_F (a58.toInt = a65.toInt) := (q_eqI c70)
        obtain ⟨a72, e73⟩ := q_nm (lx31 + 1 : Int32)
        have b74 : q_F (a72.toInt = lx31.toInt + 1) := (by rw [← e73]; exact q_addI (y := 1) rfl (by decide) (by have t1 : 0 ≤ lx31.toInt := i32; have t2 : lx31.toInt ≤ 3 := i33; omega) (by have t1 : 0 ≤ lx31.toInt := i32; have t2 : lx31.toInt ≤ 3 := i33; omega))
        refine lv_iinc (v := a72) (lv' := [(2, .int a72), (0, .ref (q 38)), (1, .ref (g (8 + 2 * 23)))]) hx hb d_10_15_52 hl (k := 0) rfl (e73) (by decide) rfl (fun ls hl => ?_)
        refine lv_goto (tgt := 20) hx hb d_10_15_55 (by decide) ?_
        exact ih34 ((a72 : Int32)) _ _ _ ws (show (3 - a72.toInt).toNat < (3 - lx31.toInt).toNat from by have t1 : a72.toInt = lx31.toInt + 1 := b74; have t2 : lx31.toInt ≤ 3 := i33; have t3 : lx31.toInt < 3 := b49; omega) ⟨(show q_F (0 ≤ a72.toInt) from (show 0 ≤ a72.toInt from by have t1 : 0 ≤ lx31.toInt := i32; have t2 : a72.toInt = lx31.toInt + 1 := b74; omega)), (show q_F (a72.toInt ≤ 3) from (show a72.toInt ≤ 3 from by have t1 : lx31.toInt < 3 := b49; have t2 : a72.toInt = lx31.toInt + 1 := b74; omega)), V, q_lw hl (q_lw1 0 rfl (q_lw1 1 rfl (q_lw1 2 rfl q_lw0))), ⟨fm39, Nat.lt_of_lt_of_le (show (3 - a72.toInt).toNat < (3 - lx31.toInt).toNat from by have t1 : a72.toInt = lx31.toInt + 1 := b74; have t2 : lx31.toInt ≤ 3 := i33; have t3 : lx31.toInt < 3 := b49; omega) (Nat.le_of_lt_succ hf38), (show F_Rea_saysRest_23_L20 t0_0 t0_1 t0_2 t0_3 t0_4 t0_5 t0_6 t0_7 t0_8 t0_9 t1_0 t2_0 fm39 a72 = (F_Rea_saysRest_23 t0_0 t0_1 t0_2 t0_3 t0_4 t0_5 t0_6 t0_7 t0_8 t0_9 t1_0 t2_0) from Eq.trans (by have c70x := c70; rw [e69, e62, ← e53, ← e51] at c70x; rw [← e73, F_Rea_saysRest_23_L20.eq_2, if_neg c47, if_pos c70x]) hR35), (show True ∧ S_Rea_saysRest_23_L20 t0_0 t0_1 t0_2 t0_3 t0_4 t0_5 t0_6 t0_7 t0_8 t0_9 t1_0 t2_0 fm39 a72 from (by rw [← e73]; have h := hS36; rw [S_Rea_saysRest_23_L20.eq_2] at h; rw [if_neg c47] at h; replace h := q_s2 h; have c70x := c70; rw [e69, e62, ← e53, ← e51] at c70x; rw [if_pos c70x] at h; with_reducible exact h))⟩⟩
      ·
        have b75 : q_F (a58.toInt ≠ a65.toInt) := (q_neI c70)
        refine lv_iconst (v := 0) hx hb d_10_15_50 (by decide) ?_
        exact q_retz C0 V (by decide) (⟨rfl, (show 0 ≤ (0 : Int32).toInt from (by have z12 : (0 : Int32).toInt = 0 := rfl; omega)), (show (0 : Int32).toInt ≤ 1 from (by have z12 : (0 : Int32).toInt = 0 := rfl; omega)), (show (0 : Int32) = (F_Rea_saysRest_23 t0_0 t0_1 t0_2 t0_3 t0_4 t0_5 t0_6 t0_7 t0_8 t0_9 t1_0 t2_0) from Eq.trans (by have c70x := c70; rw [e69, e62, ← e53, ← e51] at c70x; rw [F_Rea_saysRest_23_L20.eq_2, if_neg c47, if_neg c70x]) hR35)⟩) d_10_15_51
  ·
    have b76 : q_F (a19.toInt ≠ 3) := (q_neI c28)
    refine lv_iconst (v := 0) hx hb d_10_15_16 (by decide) ?_
    exact q_retz C0 V (by decide) (⟨rfl, (show 0 ≤ (0 : Int32).toInt from (by have z12 : (0 : Int32).toInt = 0 := rfl; omega)), (show (0 : Int32).toInt ≤ 1 from (by have z12 : (0 : Int32).toInt = 0 := rfl; omega)), (show (0 : Int32) = (F_Rea_saysRest_23 t0_0 t0_1 t0_2 t0_3 t0_4 t0_5 t0_6 t0_7 t0_8 t0_9 t1_0 t2_0) from (by have c28x := c28; rw [← e20] at c28x; rw [F_Rea_saysRest_23.eq_1, if_neg c28x]))⟩) d_10_15_17
def F_Rea_saysRest_24_L20 (t0_0 : Int64) (t0_1 : Int64) (t0_2 : Int32) (t0_3 : Int32) (t0_4 : Int32) (t0_5 : Int32) (t0_6 : Int32) (t0_7 : Int32) (t0_8 : Int32) (t0_9 : Int64) (t1_0 : Int32) (t2_0 : (Nat → Int64)) : Nat → Int32 → Int32
  | 0, _ => default
  | fm + 1, lx31 => if (8 : Int32) ≤ lx31 then ((1 : Int32)) else (if ((F_She_at (4100 : Int32) (513 : Int32) (4100 : Int32) ((t0_2 + lx31 : Int32).toInt64 : Int64) t1_0 t2_0) : Int32) = ((F_jStr_charAt_24 lx31) : Int32) then (F_Rea_saysRest_24_L20 t0_0 t0_1 t0_2 t0_3 t0_4 t0_5 t0_6 t0_7 t0_8 t0_9 t1_0 t2_0 fm (lx31 + 1 : Int32)) else ((0 : Int32)))
def F_Rea_saysRest_24 (t0_0 : Int64) (t0_1 : Int64) (t0_2 : Int32) (t0_3 : Int32) (t0_4 : Int32) (t0_5 : Int32) (t0_6 : Int32) (t0_7 : Int32) (t0_8 : Int32) (t0_9 : Int64) (t1_0 : Int32) (t2_0 : (Nat → Int64)) : Int32 := if (t0_3 - t0_2 : Int32) = (8 : Int32) then (F_Rea_saysRest_24_L20 t0_0 t0_1 t0_2 t0_3 t0_4 t0_5 t0_6 t0_7 t0_8 t0_9 t1_0 t2_0 ((8 - (0 : Int32).toInt).toNat + 1) 0) else ((0 : Int32))
def S_Rea_saysRest_24_L20 (t0_0 : Int64) (t0_1 : Int64) (t0_2 : Int32) (t0_3 : Int32) (t0_4 : Int32) (t0_5 : Int32) (t0_6 : Int32) (t0_7 : Int32) (t0_8 : Int32) (t0_9 : Int64) (t1_0 : Int32) (t2_0 : (Nat → Int64)) : Nat → Int32 → Prop
  | 0, _ => False
  | fm + 1, lx31 => if (8 : Int32) ≤ lx31 then (True) else ((True ∧ S_She_at (4100 : Int32) (513 : Int32) (4100 : Int32) ((t0_2 + lx31 : Int32).toInt64 : Int64) t1_0 t2_0) ∧ (if ((F_She_at (4100 : Int32) (513 : Int32) (4100 : Int32) ((t0_2 + lx31 : Int32).toInt64 : Int64) t1_0 t2_0) : Int32) = ((F_jStr_charAt_24 lx31) : Int32) then (S_Rea_saysRest_24_L20 t0_0 t0_1 t0_2 t0_3 t0_4 t0_5 t0_6 t0_7 t0_8 t0_9 t1_0 t2_0 fm (lx31 + 1 : Int32)) else (True)))
def S_Rea_saysRest_24 (t0_0 : Int64) (t0_1 : Int64) (t0_2 : Int32) (t0_3 : Int32) (t0_4 : Int32) (t0_5 : Int32) (t0_6 : Int32) (t0_7 : Int32) (t0_8 : Int32) (t0_9 : Int64) (t1_0 : Int32) (t2_0 : (Nat → Int64)) : Prop := if (t0_3 - t0_2 : Int32) = (8 : Int32) then (S_Rea_saysRest_24_L20 t0_0 t0_1 t0_2 t0_3 t0_4 t0_5 t0_6 t0_7 t0_8 t0_9 t1_0 t2_0 ((8 - (0 : Int32).toInt).toNat + 1) 0) else (True)
set_option maxRecDepth 100000 in
set_option maxHeartbeats 4000000 in
theorem X_Rea_saysRest_24 (l : Launch) (D : va_G) (g : Nat → ClassId) (q : Nat → Nat) (ws : va_W) (hI : q_I (nsh g q) q ws) (t0_0 : Int64) (t0_1 : Int64) (t0_2 : Int32) (t0_3 : Int32) (t0_4 : Int32) (t0_5 : Int32) (t0_6 : Int32) (t0_7 : Int32) (t0_8 : Int32) (t0_9 : Int64) (hT0 : ws[38]? = (some (q 38, .inr (8, [.long t0_0, .long t0_1, .ref (q 1), .ref (q 9), .int t0_2, .int t0_3, .int t0_4, .int t0_5, .int t0_6, .int t0_7, .int t0_8, .long t0_9])) : Option (Nat × va_E))) (t1_0 : Int32) (hT1 : ws[1]? = (some (q 1, .inr (1, [.ref (q 2), .int 4100, .int t1_0])) : Option (Nat × va_E))) (t2_0 : (Nat → Int64)) (hT2 : ws[2]? = (some (q 2, .inl (g 1, (513 : Int32).toNatClampNeg, .inr (.inl t2_0))) : Option (Nat × va_E))) (hS : True ∧ S_Rea_saysRest_24 t0_0 t0_1 t0_2 t0_3 t0_4 t0_5 t0_6 t0_7 t0_8 t0_9 t1_0 t2_0) : q_mI l y_Rea_saysRest prog_10_method_15_code 3 (.boolean) 5 0 0 D g [.ref (q 38), .ref (g (8 + 2 * 24))] ws (fun r u => ws = u ∧ (0 ≤ r.toInt) ∧ (r.toInt ≤ 1) ∧ r = (F_Rea_saysRest_24 t0_0 t0_1 t0_2 t0_3 t0_4 t0_5 t0_6 t0_7 t0_8 t0_9 t1_0 t2_0)) := by
  intro sz
  refine q_into (by decide) (Nat.le_of_ble_eq_true rfl) ?_
  intro p e s m below meth c ls hsz C0 V hl
  have hx := C0.1
  have hb := C0.2.1
  obtain ⟨yy0_0, yy0_1, yy0_2, yy0_3, yy0_4, yy0_5, yy0_6, yy0_7, yy0_8, yy0_9, hh0, btt0_4, btt0_8⟩ := n_o38 hI
  obtain ⟨rfl, rfl, rfl, rfl, rfl, rfl, rfl, rfl, rfl, rfl⟩ : t0_0 = yy0_0 ∧ t0_1 = yy0_1 ∧ t0_2 = yy0_2 ∧ t0_3 = yy0_3 ∧ t0_4 = yy0_4 ∧ t0_5 = yy0_5 ∧ t0_6 = yy0_6 ∧ t0_7 = yy0_7 ∧ t0_8 = yy0_8 ∧ t0_9 = yy0_9 := by have z := Option.some.inj (hT0.symm.trans hh0); simpa using z
  replace btt0_4 : q_F (0 ≤ t0_4.toInt ∧ t0_4.toInt ≤ 1) := btt0_4
  replace btt0_8 : q_F (0 ≤ t0_8.toInt ∧ t0_8.toInt ≤ 1) := btt0_8
  obtain ⟨yy1_0, hh1, btt1_0⟩ := n_shO hI (n_h1 g q)
  obtain ⟨rfl⟩ : t1_0 = yy1_0 := by have z := Option.some.inj (hT1.symm.trans hh1); simpa using z
  replace btt1_0 : q_F (0 ≤ t1_0.toInt ∧ t1_0.toInt ≤ 4100) := btt1_0
  have hl : lv_has ls 3 [(0, .ref (q 38)), (1, .ref (g (8 + 2 * 24)))] := hl
  refine lv_aload_n hx hb d_10_15_0 rfl (lv_at hl 0 rfl) ?_
  refine q_get (ci := 8) (j := 5) (v := .int t0_3) C0 V i_Rea rfl rfl hT0 (by decide) w_291 rfl d_10_15_1 ?_
  refine lv_aload_n hx hb d_10_15_4 rfl (lv_at hl 0 rfl) ?_
  refine q_get (ci := 8) (j := 4) (v := .int t0_2) C0 V i_Rea rfl rfl hT0 (by decide) w_290 rfl d_10_15_5 ?_
  refine lv_isub hx hb d_10_15_8 ?_
  obtain ⟨a19, e20⟩ := q_nm (t0_3 - t0_2 : Int32)
  refine q_ti (v := a19) e20 ?_
  refine lv_aload_n hx hb d_10_15_9 rfl (lv_at hl 1 rfl) ?_
  refine q_goi V (q_runVs (As := []) (rest := [.int a19]) (d := 2) (mc := 0) (ms := 0) (i := 24) C0 V rfl LV_Rea_157 (X_jStr_length_24 l D g q ws   hI   _) rfl rfl rfl hl.1 rfl (Nat.le_of_ble_eq_true rfl) ⟨by decide, by decide⟩ ⟨Nat.le_of_ble_eq_true rfl, Nat.le_of_ble_eq_true rfl⟩ d_10_15_10) (fun a23 u21 H locs hp22 V => ?_)
  obtain ⟨rfl, b24, b25, hE26⟩ := hp22
  have e27 : a23 = (F_jStr_length_24) := hE26
  replace b24 : q_F (8 ≤ a23.toInt) := b24
  replace b25 : q_F (a23.toInt ≤ 8) := b25
  obtain rfl : a23 = (8 : Int32) := q_Ieq (x := a23.toInt) (y := 8) rfl (by decide) (by have t1 : 8 ≤ a23.toInt := b24; have t2 : a23.toInt ≤ 8 := b25; omega)
  refine lv_icmp_eq (tgt := 18) hx hb d_10_15_13 (by decide) (fun c28 => ?_) (fun c28 => ?_)
  ·
    have b29 : q_F (a19.toInt = 8) := (q_eqI c28)
    refine lv_iconst (v := 0) hx hb d_10_15_18 (by decide) ?_
    refine lv_istore_n (lv' := [(2, .int 0), (0, .ref (q 38)), (1, .ref (g (8 + 2 * 24)))]) hx hb d_10_15_19 rfl hl (by decide) rfl (fun ls hl => ?_)
    refine q_loop (X := Int32) (fun z H locs ls _ => q_F (0 ≤ z.toInt) ∧ q_F (z.toInt ≤ 8) ∧ q_Wd D g (va_A ws sz) s ws H locs ∧ lv_has ls 3 [(2, .int z), (0, .ref (q 38)), (1, .ref (g (8 + 2 * 24)))] ∧ (∃ n, (8 - z.toInt).toNat < n ∧ F_Rea_saysRest_24_L20 t0_0 t0_1 t0_2 t0_3 t0_4 t0_5 t0_6 t0_7 t0_8 t0_9 t1_0 t2_0 n z = (F_Rea_saysRest_24 t0_0 t0_1 t0_2 t0_3 t0_4 t0_5 t0_6 t0_7 t0_8 t0_9 t1_0 t2_0) ∧ True ∧ S_Rea_saysRest_24_L20 t0_0 t0_1 t0_2 t0_3 t0_4 t0_5 t0_6 t0_7 t0_8 t0_9 t1_0 t2_0 n z)) (fun z => (8 - z.toInt).toNat) ?_ ((0 : Int32)) _ _ _ ws ⟨(show q_F (0 ≤ 0) from (show 0 ≤ 0 from by omega)), (show q_F (0 ≤ 8) from (show 0 ≤ 8 from by omega)), V, q_lw hl (q_lw1 0 rfl (q_lw1 1 rfl (q_lw1 2 rfl q_lw0))), ⟨((8 - (0 : Int32).toInt).toNat + 1), Nat.lt_succ_self _, (show F_Rea_saysRest_24_L20 t0_0 t0_1 t0_2 t0_3 t0_4 t0_5 t0_6 t0_7 t0_8 t0_9 t1_0 t2_0 ((8 - (0 : Int32).toInt).toNat + 1) 0 = (F_Rea_saysRest_24 t0_0 t0_1 t0_2 t0_3 t0_4 t0_5 t0_6 t0_7 t0_8 t0_9 t1_0 t2_0) from (by have c28x := c28; rw [← e20] at c28x; rw [F_Rea_saysRest_24.eq_1, if_pos c28x])), (show True ∧ S_Rea_saysRest_24_L20 t0_0 t0_1 t0_2 t0_3 t0_4 t0_5 t0_6 t0_7 t0_8 t0_9 t1_0 t2_0 ((8 - (0 : Int32).toInt).toNat + 1) 0 from (by have h := hS; rw [S_Rea_saysRest_24.eq_1] at h; have c28x := c28; rw [← e20] at c28x; rw [if_pos c28x] at h; with_reducible exact h))⟩⟩
    rintro lx31 H locs ls _ ⟨i32, i33, V, hl, ⟨fu37, hf38, hR35, hS36⟩⟩ ih34
    obtain ⟨fm39, rfl⟩ : ∃ m, fu37 = m + 1 := ⟨fu37 - 1, by omega⟩
    replace i32 : q_F (0 ≤ lx31.toInt) := i32
    replace i33 : q_F (lx31.toInt ≤ 8) := i33
    replace hl : lv_has ls 3 [(2, .int lx31), (0, .ref (q 38)), (1, .ref (g (8 + 2 * 24)))] := hl
    refine lv_iload_n hx hb d_10_15_20 rfl (lv_at hl 0 rfl) ?_
    refine lv_aload_n hx hb d_10_15_21 rfl (lv_at hl 2 rfl) ?_
    refine q_goi V (q_runVs (As := []) (rest := [.int lx31]) (d := 2) (mc := 0) (ms := 0) (i := 24) C0 V rfl LV_Rea_157 (X_jStr_length_24 l D g q ws   hI   _) rfl rfl rfl hl.1 rfl (Nat.le_of_ble_eq_true rfl) ⟨by decide, by decide⟩ ⟨Nat.le_of_ble_eq_true rfl, Nat.le_of_ble_eq_true rfl⟩ d_10_15_22) (fun a42 u40 H locs hp41 V => ?_)
    obtain ⟨rfl, b43, b44, hE45⟩ := hp41
    have e46 : a42 = (F_jStr_length_24) := hE45
    replace b43 : q_F (8 ≤ a42.toInt) := b43
    replace b44 : q_F (a42.toInt ≤ 8) := b44
    obtain rfl : a42 = (8 : Int32) := q_Ieq (x := a42.toInt) (y := 8) rfl (by decide) (by have t1 : 8 ≤ a42.toInt := b43; have t2 : a42.toInt ≤ 8 := b44; omega)
    refine lv_icmp_ge (tgt := 58) hx hb d_10_15_25 (by decide) (fun c47 => ?_) (fun c47 => ?_)
    ·
      have b48 : q_F (8 ≤ lx31.toInt) := (q_leI c47)
      refine lv_iconst (v := 1) hx hb d_10_15_58 (by decide) ?_
      exact q_retz C0 V (by decide) (⟨rfl, (show 0 ≤ (1 : Int32).toInt from (by have z12 : (1 : Int32).toInt = 1 := rfl; omega)), (show (1 : Int32).toInt ≤ 1 from (by have z12 : (1 : Int32).toInt = 1 := rfl; omega)), (show (1 : Int32) = (F_Rea_saysRest_24 t0_0 t0_1 t0_2 t0_3 t0_4 t0_5 t0_6 t0_7 t0_8 t0_9 t1_0 t2_0) from Eq.trans (by rw [F_Rea_saysRest_24_L20.eq_2, if_pos c47]) hR35)⟩) d_10_15_59
    ·
      have b49 : q_F (lx31.toInt < 8) := (q_nleI c47)
      refine lv_aload_n hx hb d_10_15_28 rfl (lv_at hl 1 rfl) ?_
      refine q_get (ci := 8) (j := 2) (v := .ref (q 1)) C0 V i_Rea rfl rfl hT0 (by decide) w_288 rfl d_10_15_29 ?_
      refine lv_aload_n hx hb d_10_15_32 rfl (lv_at hl 1 rfl) ?_
      refine q_get (ci := 8) (j := 4) (v := .int t0_2) C0 V i_Rea rfl rfl hT0 (by decide) w_290 rfl d_10_15_33 ?_
      refine lv_iload_n hx hb d_10_15_36 rfl (lv_at hl 0 rfl) ?_
      refine lv_iadd hx hb d_10_15_37 ?_
      obtain ⟨a50, e51⟩ := q_nm (t0_2 + lx31 : Int32)
      refine q_ti (v := a50) e51 ?_
      refine lv_i2l hx hb d_10_15_38 rfl ?_
      obtain ⟨j52, e53⟩ := q_nm (a50.toInt64 : Int64)
      refine q_tl (v := j52) e53 ?_
      have b54 : q_F (j52.toInt = a50.toInt) := (by rw [← e53]; show (a50.toInt64 : Int64).toInt = a50.toInt; exact q_i2l rfl)
      have ob55 : True ∧ S_She_at (4100 : Int32) (513 : Int32) (4100 : Int32) j52 t1_0 t2_0 := (by rw [← e53, ← e51]; have h := hS36; rw [S_Rea_saysRest_24_L20.eq_2] at h; rw [if_neg c47] at h; with_reducible exact h.2.1)
      refine q_goi V (q_runV (As := [.long j52]) (rest := []) (d := 1) (mc := 0) (ms := 0) (ci := 1) C0 V rfl LV_Rea_139 (X_She_at l D g q ws 1 4100 513 4100 (n_h1 g q) j52 hI t1_0 hT1 t2_0 hT2 ob55 _) rfl rfl hT1 rfl hl.1 rfl (Nat.le_of_ble_eq_true rfl) ⟨by decide, by decide⟩ ⟨Nat.le_of_ble_eq_true rfl, Nat.le_of_ble_eq_true rfl⟩ d_10_15_39) (fun a58 u56 H locs hp57 V => ?_)
      obtain ⟨rfl, b59, b60, hE61⟩ := hp57
      have e62 : a58 = (F_She_at (4100 : Int32) (513 : Int32) (4100 : Int32) j52 t1_0 t2_0) := hE61
      replace b59 : q_F (0 ≤ a58.toInt) := b59
      replace b60 : q_F (a58.toInt ≤ 255) := b60
      refine lv_aload_n hx hb d_10_15_42 rfl (lv_at hl 2 rfl) ?_
      refine lv_iload_n hx hb d_10_15_43 rfl (lv_at hl 0 rfl) ?_
      refine q_goi V (q_runVs (As := [.int lx31]) (rest := [.int a58]) (d := 4) (mc := 0) (ms := 0) (i := 24) C0 V rfl LV_Rea_162 (X_jStr_charAt_24 l D g q ws  lx31 hI  (by have t1 : 0 ≤ lx31.toInt := i32; omega) (by have t1 : lx31.toInt < 8 := b49; omega) _) rfl rfl rfl hl.1 rfl (Nat.le_of_ble_eq_true rfl) ⟨by decide, by decide⟩ ⟨Nat.le_of_ble_eq_true rfl, Nat.le_of_ble_eq_true rfl⟩ d_10_15_44) (fun a65 u63 H locs hp64 V => ?_)
      obtain ⟨rfl, b66, b67, hE68⟩ := hp64
      have e69 : a65 = (F_jStr_charAt_24 lx31) := hE68
      replace b66 : q_F (0 ≤ a65.toInt) := b66
      replace b67 : q_F (a65.toInt ≤ 255) := b67
      refine lv_icmp_eq (tgt := 52) hx hb d_10_15_47 (by decide) (fun c70 => ?_) (fun c70 => ?_)
      ·
        have b71 : q_F (a58.toInt = a65.toInt) := (q_eqI c70)
        obtain ⟨a72, e73⟩ := q_nm (lx31 + 1 : Int32)
        have b74 : q_F (a72.toInt = lx31.toInt + 1) := (by rw [← e73]; exact q_addI (y := 1) rfl (by decide) (by have t1 : 0 ≤ lx31.toInt := i32; have t2 : lx31.toInt ≤ 8 := i33; omega) (by have t1 : 0 ≤ lx31.toInt := i32; have t2 : lx31.toInt ≤ 8 := i33; omega))
        refine lv_iinc (v := a72) (lv' := [(2, .int a72), (0, .ref (q 38)), (1, .ref (g (8 + 2 * 24)))]) hx hb d_10_15_52 hl (k := 0) rfl (e73) (by decide) rfl (fun ls hl => ?_)
        refine lv_goto (tgt := 20) hx hb d_10_15_55 (by decide) ?_
        exact ih34 ((a72 : Int32)) _ _ _ ws (show (8 - a72.toInt).toNat < (8 - lx31.toInt).toNat from by have t1 : a72.toInt = lx31.toInt + 1 := b74; have t2 : lx31.toInt ≤ 8 := i33; have t3 : lx31.toInt < 8 := b49; omega) ⟨(show q_F (0 ≤ a72.toInt) from (show 0 ≤ a72.toInt from by have t1 : 0 ≤ lx31.toInt := i32; have t2 : a72.toInt = lx31.toInt + 1 := b74; omega)), (show q_F (a72.toInt ≤ 8) from (show a72.toInt ≤ 8 from by have t1 : lx31.toInt < 8 := b49; have t2 : a72.toInt = lx31.toInt + 1 := b74; omega)), V, q_lw hl (q_lw1 0 rfl (q_lw1 1 rfl (q_lw1 2 rfl q_lw0))), ⟨fm39, Nat.lt_of_lt_of_le (show (8 - a72.toInt).toNat < (8 - lx31.toInt).toNat from by have t1 : a72.toInt = lx31.toInt + 1 := b74; have t2 : lx31.toInt ≤ 8 := i33; have t3 : lx31.toInt < 8 := b49; omega) (Nat.le_of_lt_succ hf38), (show F_Rea_saysRest_24_L20 t0_0 t0_1 t0_2 t0_3 t0_4 t0_5 t0_6 t0_7 t0_8 t0_9 t1_0 t2_0 fm39 a72 = (F_Rea_saysRest_24 t0_0 t0_1 t0_2 t0_3 t0_4 t0_5 t0_6 t0_7 t0_8 t0_9 t1_0 t2_0) from Eq.trans (by have c70x := c70; rw [e69, e62, ← e53, ← e51] at c70x; rw [← e73, F_Rea_saysRest_24_L20.eq_2, if_neg c47, if_pos c70x]) hR35), (show True ∧ S_Rea_saysRest_24_L20 t0_0 t0_1 t0_2 t0_3 t0_4 t0_5 t0_6 t0_7 t0_8 t0_9 t1_0 t2_0 fm39 a72 from (by rw [← e73]; have h := hS36; rw [S_Rea_saysRest_24_L20.eq_2] at h; rw [if_neg c47] at h; replace h := q_s2 h; have c70x := c70; rw [e69, e62, ← e53, ← e51] at c70x; rw [if_pos c70x] at h; with_reducible exact h))⟩⟩
      ·
        have b75 : q_F (a58.toInt ≠ a65.toInt) := (q_neI c70)
        refine lv_iconst (v := 0) hx hb d_10_15_50 (by decide) ?_
        exact q_retz C0 V (by decide) (⟨rfl, (show 0 ≤ (0 : Int32).toInt from (by have z12 : (0 : Int32).toInt = 0 := rfl; omega)), (show (0 : Int32).toInt ≤ 1 from (by have z12 : (0 : Int32).toInt = 0 := rfl; omega)), (show (0 : Int32) = (F_Rea_saysRest_24 t0_0 t0_1 t0_2 t0_3 t0_4 t0_5 t0_6 t0_7 t0_8 t0_9 t1_0 t2_0) from Eq.trans (by have c70x := c70; rw [e69, e62, ← e53, ← e51] at c70x; rw [F_Rea_saysRest_24_L20.eq_2, if_neg c47, if_neg c70x]) hR35)⟩) d_10_15_51
  ·
    have b76 : q_F (a19.toInt ≠ 8) := (q_neI c28)
    refine lv_iconst (v := 0) hx hb d_10_15_16 (by decide) ?_
    exact q_retz C0 V (by decide) (⟨rfl, (show 0 ≤ (0 : Int32).toInt from (by have z12 : (0 : Int32).toInt = 0 := rfl; omega)), (show (0 : Int32).toInt ≤ 1 from (by have z12 : (0 : Int32).toInt = 0 := rfl; omega)), (show (0 : Int32) = (F_Rea_saysRest_24 t0_0 t0_1 t0_2 t0_3 t0_4 t0_5 t0_6 t0_7 t0_8 t0_9 t1_0 t2_0) from (by have c28x := c28; rw [← e20] at c28x; rw [F_Rea_saysRest_24.eq_1, if_neg c28x]))⟩) d_10_15_17
