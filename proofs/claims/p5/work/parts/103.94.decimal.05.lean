theorem d_15_6_0 : decode prog_15_method_6_code 0 = .ok (.aload_n 0, 1) := by decide +kernel
theorem d_15_6_1 : decode prog_15_method_6_code 1 = .ok (.aload_n 0, 1) := by decide +kernel
theorem d_15_6_2 : decode prog_15_method_6_code 2 = .ok (.getfield 16, 3) := by decide +kernel
theorem d_15_6_5 : decode prog_15_method_6_code 5 = .ok (.iload_n 1, 1) := by decide +kernel
theorem d_15_6_6 : decode prog_15_method_6_code 6 = .ok (.iaload, 1) := by decide +kernel
theorem d_15_6_7 : decode prog_15_method_6_code 7 = .ok (.putfield 45, 3) := by decide +kernel
theorem d_15_6_10 : decode prog_15_method_6_code 10 = .ok (.iconst 0, 1) := by decide +kernel
theorem d_15_6_11 : decode prog_15_method_6_code 11 = .ok (.istore_n 2, 1) := by decide +kernel
theorem d_15_6_12 : decode prog_15_method_6_code 12 = .ok (.iload_n 2, 1) := by decide +kernel
theorem d_15_6_13 : decode prog_15_method_6_code 13 = .ok (.aload_n 0, 1) := by decide +kernel
theorem d_15_6_14 : decode prog_15_method_6_code 14 = .ok (.getfield 45, 3) := by decide +kernel
theorem d_15_6_17 : decode prog_15_method_6_code 17 = .ok (.if_icmp .ge 27, 3) := by decide +kernel
theorem d_15_6_44 : decode prog_15_method_6_code 44 = .ok (.aload_n 0, 1) := by decide +kernel
theorem d_15_6_45 : decode prog_15_method_6_code 45 = .ok (.aload_n 0, 1) := by decide +kernel
theorem d_15_6_46 : decode prog_15_method_6_code 46 = .ok (.getfield 23, 3) := by decide +kernel
theorem d_15_6_49 : decode prog_15_method_6_code 49 = .ok (.iload_n 1, 1) := by decide +kernel
theorem d_15_6_50 : decode prog_15_method_6_code 50 = .ok (.iaload, 1) := by decide +kernel
theorem d_15_6_51 : decode prog_15_method_6_code 51 = .ok (.i2l, 1) := by decide +kernel
theorem d_15_6_52 : decode prog_15_method_6_code 52 = .ok (.putfield 48, 3) := by decide +kernel
theorem d_15_6_55 : decode prog_15_method_6_code 55 = .ok (.aload_n 0, 1) := by decide +kernel
theorem d_15_6_56 : decode prog_15_method_6_code 56 = .ok (.iconst 0, 1) := by decide +kernel
theorem d_15_6_57 : decode prog_15_method_6_code 57 = .ok (.putfield 52, 3) := by decide +kernel
theorem d_15_6_60 : decode prog_15_method_6_code 60 = .ok (.aload_n 0, 1) := by decide +kernel
theorem d_15_6_61 : decode prog_15_method_6_code 61 = .ok (.aload_n 0, 1) := by decide +kernel
theorem d_15_6_62 : decode prog_15_method_6_code 62 = .ok (.getfield 19, 3) := by decide +kernel
theorem d_15_6_65 : decode prog_15_method_6_code 65 = .ok (.iload_n 1, 1) := by decide +kernel
theorem d_15_6_66 : decode prog_15_method_6_code 66 = .ok (.baload, 1) := by decide +kernel
theorem d_15_6_67 : decode prog_15_method_6_code 67 = .ok (.putfield 56, 3) := by decide +kernel
theorem d_15_6_70 : decode prog_15_method_6_code 70 = .ok (.return_, 1) := by decide +kernel
theorem d_15_6_20 : decode prog_15_method_6_code 20 = .ok (.aload_n 0, 1) := by decide +kernel
theorem d_15_6_21 : decode prog_15_method_6_code 21 = .ok (.getfield 26, 3) := by decide +kernel
theorem d_15_6_24 : decode prog_15_method_6_code 24 = .ok (.iload_n 2, 1) := by decide +kernel
theorem d_15_6_25 : decode prog_15_method_6_code 25 = .ok (.aload_n 0, 1) := by decide +kernel
theorem d_15_6_26 : decode prog_15_method_6_code 26 = .ok (.getfield 13, 3) := by decide +kernel
theorem d_15_6_29 : decode prog_15_method_6_code 29 = .ok (.sipush 1000, 3) := by decide +kernel
theorem d_15_6_32 : decode prog_15_method_6_code 32 = .ok (.iload_n 1, 1) := by decide +kernel
theorem d_15_6_33 : decode prog_15_method_6_code 33 = .ok (.imul, 1) := by decide +kernel
theorem d_15_6_34 : decode prog_15_method_6_code 34 = .ok (.iload_n 2, 1) := by decide +kernel
theorem d_15_6_35 : decode prog_15_method_6_code 35 = .ok (.iadd, 1) := by decide +kernel
theorem d_15_6_36 : decode prog_15_method_6_code 36 = .ok (.iaload, 1) := by decide +kernel
theorem d_15_6_37 : decode prog_15_method_6_code 37 = .ok (.iastore, 1) := by decide +kernel
theorem d_15_6_38 : decode prog_15_method_6_code 38 = .ok (.iinc 2 1, 3) := by decide +kernel
theorem d_15_6_41 : decode prog_15_method_6_code 41 = .ok (.goto (-29), 3) := by decide +kernel
def y_DR_load : MethodName := ⟨"NumberHouseModel$DecimalRows", "load", "(I)V"⟩
def F_DR_load_L12 (x2 : Int32) (t0_0 : Int32) (t0_1 : Int32) (t0_2 : Int32) (t0_3 : Int64) (t0_4 : Int32) (t0_5 : Int32) (t0_6 : Int32) (t0_7 : Int32) (t0_8 : Int32) (t0_9 : Int32) (t0_10 : Int32) (t1_0 : (Nat → Int32)) (t2_0 : (Nat → Int32)) (t3_0 : (Nat → Int32)) (t4_0 : (Nat → Int32)) (t5_0 : (Nat → Int32)) (a34 : Int32) : Nat → Int32 → (Nat → Int32) → (Int32 × Int32 × Int32 × Int64 × Int32 × Int32 × Int32 × Int32 × Int32 × Int32 × Int32 × (Nat → Int32))
  | 0, _, _ => default
  | fm + 1, lx39, lx40 => if a34 ≤ lx39 then ((t0_0, t0_1, a34, ((t4_0 x2.toNatClampNeg : Int32).toInt64 : Int64), (0 : Int32), (t3_0 x2.toNatClampNeg : Int32), t0_6, t0_7, t0_8, t0_9, t0_10, lx40)) else (F_DR_load_L12 x2 t0_0 t0_1 t0_2 t0_3 t0_4 t0_5 t0_6 t0_7 t0_8 t0_9 t0_10 t1_0 t2_0 t3_0 t4_0 t5_0 a34 fm (lx39 + 1 : Int32) (upd lx40 lx39.toNatClampNeg (t1_0 ((1000 * x2 : Int32) + lx39 : Int32).toNatClampNeg : Int32) : (Nat → Int32)))
def F_DR_load (x2 : Int32) (t0_0 : Int32) (t0_1 : Int32) (t0_2 : Int32) (t0_3 : Int64) (t0_4 : Int32) (t0_5 : Int32) (t0_6 : Int32) (t0_7 : Int32) (t0_8 : Int32) (t0_9 : Int32) (t0_10 : Int32) (t1_0 : (Nat → Int32)) (t2_0 : (Nat → Int32)) (t3_0 : (Nat → Int32)) (t4_0 : (Nat → Int32)) (t5_0 : (Nat → Int32)) : Int32 × Int32 × Int32 × Int64 × Int32 × Int32 × Int32 × Int32 × Int32 × Int32 × Int32 × (Nat → Int32) := F_DR_load_L12 x2 t0_0 t0_1 t0_2 t0_3 t0_4 t0_5 t0_6 t0_7 t0_8 t0_9 t0_10 t1_0 t2_0 t3_0 t4_0 t5_0 (t2_0 x2.toNatClampNeg : Int32) ((12200 - (0 : Int32).toInt).toNat + 1) 0 t5_0
def S_DR_load_L12 (x2 : Int32) (t0_0 : Int32) (t0_1 : Int32) (t0_2 : Int32) (t0_3 : Int64) (t0_4 : Int32) (t0_5 : Int32) (t0_6 : Int32) (t0_7 : Int32) (t0_8 : Int32) (t0_9 : Int32) (t0_10 : Int32) (t1_0 : (Nat → Int32)) (t2_0 : (Nat → Int32)) (t3_0 : (Nat → Int32)) (t4_0 : (Nat → Int32)) (t5_0 : (Nat → Int32)) (a34 : Int32) : Nat → Int32 → (Nat → Int32) → Prop
  | 0, _, _ => False
  | fm + 1, lx39, lx40 => if a34 ≤ lx39 then ((0 ≤ (t3_0 x2.toNatClampNeg : Int32).toInt) ∧ (((t3_0 x2.toNatClampNeg : Int32).toInt ≤ 1) ∧ (True))) else ((((1000 * x2 : Int32) + lx39 : Int32).toInt ≤ 9999) ∧ ((lx39.toInt ≤ 4399) ∧ (S_DR_load_L12 x2 t0_0 t0_1 t0_2 t0_3 t0_4 t0_5 t0_6 t0_7 t0_8 t0_9 t0_10 t1_0 t2_0 t3_0 t4_0 t5_0 a34 fm (lx39 + 1 : Int32) (upd lx40 lx39.toNatClampNeg (t1_0 ((1000 * x2 : Int32) + lx39 : Int32).toNatClampNeg : Int32) : (Nat → Int32)))))
def S_DR_load (x2 : Int32) (t0_0 : Int32) (t0_1 : Int32) (t0_2 : Int32) (t0_3 : Int64) (t0_4 : Int32) (t0_5 : Int32) (t0_6 : Int32) (t0_7 : Int32) (t0_8 : Int32) (t0_9 : Int32) (t0_10 : Int32) (t1_0 : (Nat → Int32)) (t2_0 : (Nat → Int32)) (t3_0 : (Nat → Int32)) (t4_0 : (Nat → Int32)) (t5_0 : (Nat → Int32)) : Prop := (0 ≤ x2.toInt) ∧ ((x2.toInt ≤ 9) ∧ (S_DR_load_L12 x2 t0_0 t0_1 t0_2 t0_3 t0_4 t0_5 t0_6 t0_7 t0_8 t0_9 t0_10 t1_0 t2_0 t3_0 t4_0 t5_0 (t2_0 x2.toNatClampNeg : Int32) ((12200 - (0 : Int32).toInt).toNat + 1) 0 t5_0))
set_option maxRecDepth 100000 in
set_option maxHeartbeats 4000000 in
theorem X_DR_load (l : Launch) (D : va_G) (g : Nat → ClassId) (q : Nat → Nat) (ws : va_W) (x2 : Int32) (hI : q_I (msh g q) q ws) (t0_0 : Int32) (t0_1 : Int32) (t0_2 : Int32) (t0_3 : Int64) (t0_4 : Int32) (t0_5 : Int32) (t0_6 : Int32) (t0_7 : Int32) (t0_8 : Int32) (t0_9 : Int32) (t0_10 : Int32) (hT0 : ws[134]? = (some (q 134, .inr (14, [.int t0_0, .ref (q 135), .int t0_1, .ref (q 136), .ref (q 137), .ref (q 138), .ref (q 139), .ref (q 140), .int t0_2, .long t0_3, .int t0_4, .int t0_5, .ref (q 141), .int t0_6, .ref (q 142), .int t0_7, .ref (q 143), .int t0_8, .ref (q 144), .int t0_9, .int t0_10])) : Option (Nat × va_E))) (t1_0 : (Nat → Int32)) (hT1 : ws[136]? = (some (q 136, .inl (g 0, (10000 : Int32).toNatClampNeg, .inl t1_0)) : Option (Nat × va_E))) (t2_0 : (Nat → Int32)) (hT2 : ws[137]? = (some (q 137, .inl (g 0, (10 : Int32).toNatClampNeg, .inl t2_0)) : Option (Nat × va_E))) (t3_0 : (Nat → Int32)) (hT3 : ws[138]? = (some (q 138, .inl (g 3, 10, .inl t3_0)) : Option (Nat × va_E))) (t4_0 : (Nat → Int32)) (hT4 : ws[139]? = (some (q 139, .inl (g 0, (10 : Int32).toNatClampNeg, .inl t4_0)) : Option (Nat × va_E))) (t5_0 : (Nat → Int32)) (hT5 : ws[140]? = (some (q 140, .inl (g 0, (4400 : Int32).toNatClampNeg, .inl t5_0)) : Option (Nat × va_E))) (hS : True ∧ S_DR_load x2 t0_0 t0_1 t0_2 t0_3 t0_4 t0_5 t0_6 t0_7 t0_8 t0_9 t0_10 t1_0 t2_0 t3_0 t4_0 t5_0) : q_mV l y_DR_load prog_15_method_6_code 3 1 0 0 D g [.ref (q 134), .int x2] ws (fun u => q_I (msh g q) q u ∧ q_un ws u [134, 140] ∧ ∃ (u0_0 : Int32) (u0_1 : Int32) (u0_2 : Int32) (u0_3 : Int64) (u0_4 : Int32) (u0_5 : Int32) (u0_6 : Int32) (u0_7 : Int32) (u0_8 : Int32) (u0_9 : Int32) (u0_10 : Int32) (u5_0 : (Nat → Int32)), u[134]? = (some (q 134, .inr (14, [.int u0_0, .ref (q 135), .int u0_1, .ref (q 136), .ref (q 137), .ref (q 138), .ref (q 139), .ref (q 140), .int u0_2, .long u0_3, .int u0_4, .int u0_5, .ref (q 141), .int u0_6, .ref (q 142), .int u0_7, .ref (q 143), .int u0_8, .ref (q 144), .int u0_9, .int u0_10])) : Option (Nat × va_E)) ∧ u[140]? = (some (q 140, .inl (g 0, (4400 : Int32).toNatClampNeg, .inl u5_0)) : Option (Nat × va_E)) ∧ (0 ≤ u0_3.toInt + 2147483648) ∧ (u0_3.toInt ≤ 2147483647) ∧ (0 ≤ u0_4.toInt) ∧ (u0_4.toInt ≤ 0) ∧ (t0_0.toInt ≤ u0_0.toInt) ∧ (u0_0.toInt ≤ t0_0.toInt) ∧ (t0_1.toInt ≤ u0_1.toInt) ∧ (u0_1.toInt ≤ t0_1.toInt) ∧ (x2.toInt ≤ u0_4.toInt + 9) ∧ (u0_4.toInt ≤ x2.toInt) ∧ (t0_6.toInt ≤ u0_6.toInt) ∧ (u0_6.toInt ≤ t0_6.toInt) ∧ (t0_7.toInt ≤ u0_7.toInt) ∧ (u0_7.toInt ≤ t0_7.toInt) ∧ (t0_8.toInt ≤ u0_8.toInt) ∧ (u0_8.toInt ≤ t0_8.toInt) ∧ (t0_9.toInt ≤ u0_9.toInt) ∧ (u0_9.toInt ≤ t0_9.toInt) ∧ (t0_10.toInt ≤ u0_10.toInt) ∧ (u0_10.toInt ≤ t0_10.toInt) ∧ (u0_2.toInt ≤ u0_4.toInt + 12200) ∧ (u0_5.toInt ≤ u0_4.toInt + 1) ∧ (u0_4.toInt ≤ u0_5.toInt) ∧ (u0_0, u0_1, u0_2, u0_3, u0_4, u0_5, u0_6, u0_7, u0_8, u0_9, u0_10, u5_0) = (F_DR_load x2 t0_0 t0_1 t0_2 t0_3 t0_4 t0_5 t0_6 t0_7 t0_8 t0_9 t0_10 t1_0 t2_0 t3_0 t4_0 t5_0)) := by
  intro sz
  refine q_into (by decide) (Nat.le_of_ble_eq_true rfl) ?_
  intro p e s m below meth c ls hsz C0 V hl
  have hx := C0.1
  have hb := C0.2.1
  obtain ⟨btt0_1, hZ9⟩ := n_w134 hI hT0
  obtain ⟨btt0_4, hZ9⟩ := hZ9
  obtain ⟨btt0_5, btt0_9⟩ := hZ9
  replace btt0_1 : q_F (0 ≤ t0_1.toInt ∧ t0_1.toInt ≤ 4100) := btt0_1
  replace btt0_4 : q_F (0 ≤ t0_4.toInt ∧ t0_4.toInt ≤ 1) := btt0_4
  replace btt0_5 : q_F (0 ≤ t0_5.toInt ∧ t0_5.toInt ≤ 1) := btt0_5
  replace btt0_9 : q_F (0 ≤ t0_9.toInt ∧ t0_9.toInt ≤ 12200) := btt0_9
  have hF : q_un ws ws [134, 140] := q_u0
  have hl : lv_has ls 3 [(0, .ref (q 134)), (1, .int x2)] := hl
  refine lv_aload_n hx hb d_15_6_0 rfl (lv_at hl 0 rfl) ?_
  refine lv_aload_n hx hb d_15_6_1 rfl (lv_at hl 0 rfl) ?_
  refine q_get (ci := 14) (j := 4) (v := .ref (q 137)) C0 V i_DR rfl rfl hT0 (by decide) w_2004 rfl d_15_6_2 ?_
  refine lv_iload_n hx hb d_15_6_5 rfl (lv_at hl 1 rfl) ?_
  have ob32 : q_F (0 ≤ x2.toInt) := (by have h := hS; rw [S_DR_load.eq_1] at h; exact h.2.1)
  have ob33 : q_F (x2.toInt ≤ 9) := (by have h := hS; rw [S_DR_load.eq_1] at h; replace h := q_s2 h; exact h.2.1)
  refine q_iald C0 V hT2 (q_ix (x := x2.toInt) rfl (by first | with_reducible exact q_fe ob32 | (have t1 : 0 ≤ x2.toInt := ob32; omega)) (by have t1 : 0 ≤ x2.toInt := ob32; have t2 : x2.toInt ≤ 9 := ob33; have e9 : (((10 : Int32).toNatClampNeg : Nat) : Int) = 10 := (by decide); omega)) d_15_6_6 ?_
  obtain ⟨a34, e35⟩ := q_nm (t2_0 x2.toNatClampNeg : Int32)
  refine q_ti (v := a34) e35 ?_
  refine q_put (ci := 14) (j := 8) (v := .int a34) (ty := .int) C0 V i_DR o_DR n_DR rfl rfl hT0 (by decide) w_2011 rfl rfl rfl rfl (Nat.le_of_ble_eq_true rfl) d_15_6_7 (fun H locs w36 hu37 hT0 V => ?_)
  replace hT0 : w36[134]? = (some (q 134, .inr (14, [.int t0_0, .ref (q 135), .int t0_1, .ref (q 136), .ref (q 137), .ref (q 138), .ref (q 139), .ref (q 140), .int a34, .long t0_3, .int t0_4, .int t0_5, .ref (q 141), .int t0_6, .ref (q 142), .int t0_7, .ref (q 143), .int t0_8, .ref (q 144), .int t0_9, .int t0_10])) : Option (Nat × va_E)) := hT0
  replace hI := n_p134 hI hu37 hT0 (by first | with_reducible exact q_fe btt0_1 | exact ⟨(by have t1 : 0 ≤ t0_1.toInt ∧ t0_1.toInt ≤ 4100 := btt0_1; omega), (by have t1 : 0 ≤ t0_1.toInt ∧ t0_1.toInt ≤ 4100 := btt0_1; omega)⟩) (by first | with_reducible exact q_fe btt0_4 | exact ⟨(by have t1 : 0 ≤ t0_4.toInt ∧ t0_4.toInt ≤ 1 := btt0_4; omega), (by have t1 : 0 ≤ t0_4.toInt ∧ t0_4.toInt ≤ 1 := btt0_4; omega)⟩) (by first | with_reducible exact q_fe btt0_5 | exact ⟨(by have t1 : 0 ≤ t0_5.toInt ∧ t0_5.toInt ≤ 1 := btt0_5; omega), (by have t1 : 0 ≤ t0_5.toInt ∧ t0_5.toInt ≤ 1 := btt0_5; omega)⟩) (by first | with_reducible exact q_fe btt0_9 | exact ⟨(by have t1 : 0 ≤ t0_9.toInt ∧ t0_9.toInt ≤ 12200 := btt0_9; omega), (by have t1 : 0 ≤ t0_9.toInt ∧ t0_9.toInt ≤ 12200 := btt0_9; omega)⟩)
  replace hT1 := (hu37 _ (by decide)).trans hT1
  replace hT2 := (hu37 _ (by decide)).trans hT2
  replace hT3 := (hu37 _ (by decide)).trans hT3
  replace hT4 := (hu37 _ (by decide)).trans hT4
  replace hT5 := (hu37 _ (by decide)).trans hT5
  replace hF := q_us hF hu37 (by simp)
  refine lv_iconst (v := 0) hx hb d_15_6_10 (by decide) ?_
  refine lv_istore_n (lv' := [(2, .int 0), (0, .ref (q 134)), (1, .int x2)]) hx hb d_15_6_11 rfl hl (by decide) rfl (fun ls hl => ?_)
  refine q_loop (X := Int32 × (Nat → Int32)) (fun z H locs ls w44 => q_F (0 ≤ z.1.toInt) ∧ q_F (z.1.toInt ≤ 12200) ∧ q_Wd D g (va_A ws sz) s w44 H locs ∧ lv_has ls 3 [(2, .int z.1), (0, .ref (q 134)), (1, .int x2)] ∧ q_I (msh g q) q w44 ∧ q_un ws w44 [134, 140] ∧ w44[134]? = (some (q 134, .inr (14, [.int t0_0, .ref (q 135), .int t0_1, .ref (q 136), .ref (q 137), .ref (q 138), .ref (q 139), .ref (q 140), .int a34, .long t0_3, .int t0_4, .int t0_5, .ref (q 141), .int t0_6, .ref (q 142), .int t0_7, .ref (q 143), .int t0_8, .ref (q 144), .int t0_9, .int t0_10])) : Option (Nat × va_E)) ∧ w44[136]? = (some (q 136, .inl (g 0, (10000 : Int32).toNatClampNeg, .inl t1_0)) : Option (Nat × va_E)) ∧ w44[137]? = (some (q 137, .inl (g 0, (10 : Int32).toNatClampNeg, .inl t2_0)) : Option (Nat × va_E)) ∧ w44[138]? = (some (q 138, .inl (g 3, 10, .inl t3_0)) : Option (Nat × va_E)) ∧ w44[139]? = (some (q 139, .inl (g 0, (10 : Int32).toNatClampNeg, .inl t4_0)) : Option (Nat × va_E)) ∧ w44[140]? = (some (q 140, .inl (g 0, (4400 : Int32).toNatClampNeg, .inl z.2)) : Option (Nat × va_E)) ∧ (∃ n, (12200 - z.1.toInt).toNat < n ∧ F_DR_load_L12 x2 t0_0 t0_1 t0_2 t0_3 t0_4 t0_5 t0_6 t0_7 t0_8 t0_9 t0_10 t1_0 t2_0 t3_0 t4_0 t5_0 a34 n z.1 z.2 = (F_DR_load x2 t0_0 t0_1 t0_2 t0_3 t0_4 t0_5 t0_6 t0_7 t0_8 t0_9 t0_10 t1_0 t2_0 t3_0 t4_0 t5_0) ∧ True ∧ S_DR_load_L12 x2 t0_0 t0_1 t0_2 t0_3 t0_4 t0_5 t0_6 t0_7 t0_8 t0_9 t0_10 t1_0 t2_0 t3_0 t4_0 t5_0 a34 n z.1 z.2)) (fun z => (12200 - z.1.toInt).toNat) ?_ ((0 : Int32), (t5_0 : (Nat → Int32))) _ _ _ w36 ⟨(show q_F (0 ≤ 0) from (show 0 ≤ 0 from by omega)), (show q_F (0 ≤ 12200) from (show 0 ≤ 12200 from by omega)), V, q_lw hl (q_lw1 0 rfl (q_lw1 1 rfl (q_lw1 2 rfl q_lw0))), hI, hF, hT0, hT1, hT2, hT3, hT4, hT5, ⟨((12200 - (0 : Int32).toInt).toNat + 1), Nat.lt_succ_self _, (show F_DR_load_L12 x2 t0_0 t0_1 t0_2 t0_3 t0_4 t0_5 t0_6 t0_7 t0_8 t0_9 t0_10 t1_0 t2_0 t3_0 t4_0 t5_0 a34 ((12200 - (0 : Int32).toInt).toNat + 1) 0 t5_0 = (F_DR_load x2 t0_0 t0_1 t0_2 t0_3 t0_4 t0_5 t0_6 t0_7 t0_8 t0_9 t0_10 t1_0 t2_0 t3_0 t4_0 t5_0) from (by rw [← e35, F_DR_load.eq_1])), (show True ∧ S_DR_load_L12 x2 t0_0 t0_1 t0_2 t0_3 t0_4 t0_5 t0_6 t0_7 t0_8 t0_9 t0_10 t1_0 t2_0 t3_0 t4_0 t5_0 a34 ((12200 - (0 : Int32).toInt).toNat + 1) 0 t5_0 from (by rw [← e35]; have h := hS; rw [S_DR_load.eq_1] at h; replace h := q_s2 h; replace h := q_s2 h; with_reducible exact h))⟩⟩
  rintro ⟨lx39, lx40⟩ H locs ls w44 ⟨i41, i42, V, hl, hI, hF, hO45, hO46, hO47, hO48, hO49, hO50, ⟨fu53, hf54, hR51, hS52⟩⟩ ih43
  obtain ⟨fm55, rfl⟩ : ∃ m, fu53 = m + 1 := ⟨fu53 - 1, by omega⟩
  replace i41 : q_F (0 ≤ lx39.toInt) := i41
  replace i42 : q_F (lx39.toInt ≤ 12200) := i42
  replace hl : lv_has ls 3 [(2, .int lx39), (0, .ref (q 134)), (1, .int x2)] := hl
  replace hO45 : w44[134]? = (some (q 134, .inr (14, [.int t0_0, .ref (q 135), .int t0_1, .ref (q 136), .ref (q 137), .ref (q 138), .ref (q 139), .ref (q 140), .int a34, .long t0_3, .int t0_4, .int t0_5, .ref (q 141), .int t0_6, .ref (q 142), .int t0_7, .ref (q 143), .int t0_8, .ref (q 144), .int t0_9, .int t0_10])) : Option (Nat × va_E)) := hO45
  replace hO46 : w44[136]? = (some (q 136, .inl (g 0, (10000 : Int32).toNatClampNeg, .inl t1_0)) : Option (Nat × va_E)) := hO46
  replace hO47 : w44[137]? = (some (q 137, .inl (g 0, (10 : Int32).toNatClampNeg, .inl t2_0)) : Option (Nat × va_E)) := hO47
  replace hO48 : w44[138]? = (some (q 138, .inl (g 3, 10, .inl t3_0)) : Option (Nat × va_E)) := hO48
  replace hO49 : w44[139]? = (some (q 139, .inl (g 0, (10 : Int32).toNatClampNeg, .inl t4_0)) : Option (Nat × va_E)) := hO49
  replace hO50 : w44[140]? = (some (q 140, .inl (g 0, (4400 : Int32).toNatClampNeg, .inl lx40)) : Option (Nat × va_E)) := hO50
  refine lv_iload_n hx hb d_15_6_12 rfl (lv_at hl 0 rfl) ?_
  refine lv_aload_n hx hb d_15_6_13 rfl (lv_at hl 1 rfl) ?_
  refine q_get (ci := 14) (j := 8) (v := .int a34) C0 V i_DR rfl rfl hO45 (by decide) w_2011 rfl d_15_6_14 ?_
  refine lv_icmp_ge (tgt := 44) hx hb d_15_6_17 (by decide) (fun c56 => ?_) (fun c56 => ?_)
  ·
    have b57 : q_F (a34.toInt ≤ lx39.toInt) := (q_leI c56)
    refine lv_aload_n hx hb d_15_6_44 rfl (lv_at hl 1 rfl) ?_
    refine lv_aload_n hx hb d_15_6_45 rfl (lv_at hl 1 rfl) ?_
    refine q_get (ci := 14) (j := 6) (v := .ref (q 139)) C0 V i_DR rfl rfl hO45 (by decide) w_2008 rfl d_15_6_46 ?_
    refine lv_iload_n hx hb d_15_6_49 rfl (lv_at hl 2 rfl) ?_
    refine q_iald C0 V hO49 (q_ix (x := x2.toInt) rfl (by first | with_reducible exact q_fe ob32 | (have t1 : 0 ≤ x2.toInt := ob32; omega)) (by have t1 : 0 ≤ x2.toInt := ob32; have t2 : x2.toInt ≤ 9 := ob33; have e9 : (((10 : Int32).toNatClampNeg : Nat) : Int) = 10 := (by decide); omega)) d_15_6_50 ?_
    obtain ⟨a58, e59⟩ := q_nm (t4_0 x2.toNatClampNeg : Int32)
    refine q_ti (v := a58) e59 ?_
    refine lv_i2l hx hb d_15_6_51 rfl ?_
    obtain ⟨j60, e61⟩ := q_nm (a58.toInt64 : Int64)
    refine q_tl (v := j60) e61 ?_
    have b62 : q_F (j60.toInt = a58.toInt) := (by rw [← e61]; show (a58.toInt64 : Int64).toInt = a58.toInt; exact q_i2l rfl)
    refine q_put (ci := 14) (j := 9) (v := .long j60) (ty := .long) C0 V i_DR o_DR n_DR rfl rfl hO45 (by decide) w_2012 rfl rfl rfl rfl (Nat.le_of_ble_eq_true rfl) d_15_6_52 (fun H locs w63 hu64 hO45 V => ?_)
    replace hO45 : w63[134]? = (some (q 134, .inr (14, [.int t0_0, .ref (q 135), .int t0_1, .ref (q 136), .ref (q 137), .ref (q 138), .ref (q 139), .ref (q 140), .int a34, .long j60, .int t0_4, .int t0_5, .ref (q 141), .int t0_6, .ref (q 142), .int t0_7, .ref (q 143), .int t0_8, .ref (q 144), .int t0_9, .int t0_10])) : Option (Nat × va_E)) := hO45
    replace hI := n_p134 hI hu64 hO45 (by first | with_reducible exact q_fe btt0_1 | exact ⟨(by have t1 : 0 ≤ t0_1.toInt ∧ t0_1.toInt ≤ 4100 := btt0_1; omega), (by have t1 : 0 ≤ t0_1.toInt ∧ t0_1.toInt ≤ 4100 := btt0_1; omega)⟩) (by first | with_reducible exact q_fe btt0_4 | exact ⟨(by have t1 : 0 ≤ t0_4.toInt ∧ t0_4.toInt ≤ 1 := btt0_4; omega), (by have t1 : 0 ≤ t0_4.toInt ∧ t0_4.toInt ≤ 1 := btt0_4; omega)⟩) (by first | with_reducible exact q_fe btt0_5 | exact ⟨(by have t1 : 0 ≤ t0_5.toInt ∧ t0_5.toInt ≤ 1 := btt0_5; omega), (by have t1 : 0 ≤ t0_5.toInt ∧ t0_5.toInt ≤ 1 := btt0_5; omega)⟩) (by first | with_reducible exact q_fe btt0_9 | exact ⟨(by have t1 : 0 ≤ t0_9.toInt ∧ t0_9.toInt ≤ 12200 := btt0_9; omega), (by have t1 : 0 ≤ t0_9.toInt ∧ t0_9.toInt ≤ 12200 := btt0_9; omega)⟩)
    replace hO48 := (hu64 _ (by decide)).trans hO48
    replace hO50 := (hu64 _ (by decide)).trans hO50
    replace hF := q_us hF hu64 (by simp)
    refine lv_aload_n hx hb d_15_6_55 rfl (lv_at hl 1 rfl) ?_
    refine lv_iconst (v := 0) hx hb d_15_6_56 (by decide) ?_
    refine q_put (ci := 14) (j := 10) (v := .int 0) (ty := .boolean) C0 V i_DR o_DR n_DR rfl rfl hO45 (by decide) w_2013 rfl rfl rfl rfl (Nat.le_of_ble_eq_true rfl) d_15_6_57 (fun H locs w65 hu66 hO45 V => ?_)
    replace hO45 : w65[134]? = (some (q 134, .inr (14, [.int t0_0, .ref (q 135), .int t0_1, .ref (q 136), .ref (q 137), .ref (q 138), .ref (q 139), .ref (q 140), .int a34, .long j60, .int 0, .int t0_5, .ref (q 141), .int t0_6, .ref (q 142), .int t0_7, .ref (q 143), .int t0_8, .ref (q 144), .int t0_9, .int t0_10])) : Option (Nat × va_E)) := hO45
    replace hI := n_p134 hI hu66 hO45 (by first | with_reducible exact q_fe btt0_1 | exact ⟨(by have t1 : 0 ≤ t0_1.toInt ∧ t0_1.toInt ≤ 4100 := btt0_1; omega), (by have t1 : 0 ≤ t0_1.toInt ∧ t0_1.toInt ≤ 4100 := btt0_1; omega)⟩) ⟨(by have z9 : (0 : Int32).toInt = 0 := rfl; omega), (by have z9 : (0 : Int32).toInt = 0 := rfl; omega)⟩ (by first | with_reducible exact q_fe btt0_5 | exact ⟨(by have t1 : 0 ≤ t0_5.toInt ∧ t0_5.toInt ≤ 1 := btt0_5; omega), (by have t1 : 0 ≤ t0_5.toInt ∧ t0_5.toInt ≤ 1 := btt0_5; omega)⟩) (by first | with_reducible exact q_fe btt0_9 | exact ⟨(by have t1 : 0 ≤ t0_9.toInt ∧ t0_9.toInt ≤ 12200 := btt0_9; omega), (by have t1 : 0 ≤ t0_9.toInt ∧ t0_9.toInt ≤ 12200 := btt0_9; omega)⟩)
    replace hO48 := (hu66 _ (by decide)).trans hO48
    replace hO50 := (hu66 _ (by decide)).trans hO50
    replace hF := q_us hF hu66 (by simp)
    refine lv_aload_n hx hb d_15_6_60 rfl (lv_at hl 1 rfl) ?_
    refine lv_aload_n hx hb d_15_6_61 rfl (lv_at hl 1 rfl) ?_
    refine q_get (ci := 14) (j := 5) (v := .ref (q 138)) C0 V i_DR rfl rfl hO45 (by decide) w_2006 rfl d_15_6_62 ?_
    refine lv_iload_n hx hb d_15_6_65 rfl (lv_at hl 2 rfl) ?_
    refine q_zald C0 V hO48 (q_ix (x := x2.toInt) rfl (by first | with_reducible exact q_fe ob32 | (have t1 : 0 ≤ x2.toInt := ob32; omega)) (by have t1 : 0 ≤ x2.toInt := ob32; have t2 : x2.toInt ≤ 9 := ob33; omega)) d_15_6_66 ?_
    obtain ⟨a67, e68⟩ := q_nm (t3_0 x2.toNatClampNeg : Int32)
    refine q_ti (v := a67) e68 ?_
    have ob71 : q_F (0 ≤ a67.toInt) := (by rw [← e68]; have h := hS52; rw [S_DR_load_L12.eq_2] at h; rw [if_pos c56] at h; exact h.2.1)
    have ob72 : q_F (a67.toInt ≤ 1) := (by rw [← e68]; have h := hS52; rw [S_DR_load_L12.eq_2] at h; rw [if_pos c56] at h; replace h := q_s2 h; exact h.2.1)
    refine q_put (ci := 14) (j := 11) (v := .int a67) (ty := .boolean) C0 V i_DR o_DR n_DR rfl rfl hO45 (by decide) w_2014 rfl rfl (q_nz01 (q_Ile (x := 0) (y := a67.toInt) (by decide) rfl (by first | with_reducible exact q_fe ob71 | (have t1 : 0 ≤ a67.toInt := ob71; omega))) (q_Ile (x := a67.toInt) (y := 1) rfl (by decide) (by first | with_reducible exact q_fe ob72 | (have t1 : a67.toInt ≤ 1 := ob72; omega)))) (q_fz01 (q_Ile (x := 0) (y := a67.toInt) (by decide) rfl (by first | with_reducible exact q_fe ob71 | (have t1 : 0 ≤ a67.toInt := ob71; omega))) (q_Ile (x := a67.toInt) (y := 1) rfl (by decide) (by first | with_reducible exact q_fe ob72 | (have t1 : a67.toInt ≤ 1 := ob72; omega)))) (Nat.le_of_ble_eq_true rfl) d_15_6_67 (fun H locs w69 hu70 hO45 V => ?_)
    replace hO45 : w69[134]? = (some (q 134, .inr (14, [.int t0_0, .ref (q 135), .int t0_1, .ref (q 136), .ref (q 137), .ref (q 138), .ref (q 139), .ref (q 140), .int a34, .long j60, .int 0, .int a67, .ref (q 141), .int t0_6, .ref (q 142), .int t0_7, .ref (q 143), .int t0_8, .ref (q 144), .int t0_9, .int t0_10])) : Option (Nat × va_E)) := hO45
    replace hI := n_p134 hI hu70 hO45 (by first | with_reducible exact q_fe btt0_1 | exact ⟨(by have t1 : 0 ≤ t0_1.toInt ∧ t0_1.toInt ≤ 4100 := btt0_1; omega), (by have t1 : 0 ≤ t0_1.toInt ∧ t0_1.toInt ≤ 4100 := btt0_1; omega)⟩) ⟨(by have z9 : (0 : Int32).toInt = 0 := rfl; omega), (by have z9 : (0 : Int32).toInt = 0 := rfl; omega)⟩ ⟨(by first | with_reducible exact q_fe ob71 | (have t1 : 0 ≤ a67.toInt := ob71; omega)), (by first | with_reducible exact q_fe ob72 | (have t1 : a67.toInt ≤ 1 := ob72; omega))⟩ (by first | with_reducible exact q_fe btt0_9 | exact ⟨(by have t1 : 0 ≤ t0_9.toInt ∧ t0_9.toInt ≤ 12200 := btt0_9; omega), (by have t1 : 0 ≤ t0_9.toInt ∧ t0_9.toInt ≤ 12200 := btt0_9; omega)⟩)
    replace hO50 := (hu70 _ (by decide)).trans hO50
    replace hF := q_us hF hu70 (by simp)
    exact q_retv C0 V (⟨hI, hF, t0_0, t0_1, a34, j60, 0, a67, t0_6, t0_7, t0_8, t0_9, t0_10, lx40, hO45, hO50, (show 0 ≤ j60.toInt + 2147483648 from (by have z21 : (0 : Int32).toInt = 0 := rfl; have t1 : j60.toInt = a58.toInt := b62; have _ := q_lo32 (x := a58); have _ := q_hi32 (x := a58); omega)), (show j60.toInt ≤ 2147483647 from (by have z21 : (0 : Int32).toInt = 0 := rfl; have t1 : j60.toInt = a58.toInt := b62; have _ := q_lo32 (x := a58); have _ := q_hi32 (x := a58); omega)), (show 0 ≤ (0 : Int32).toInt from (by have z21 : (0 : Int32).toInt = 0 := rfl; omega)), (show (0 : Int32).toInt ≤ 0 from (by have z21 : (0 : Int32).toInt = 0 := rfl; omega)), (show t0_0.toInt ≤ t0_0.toInt from (by have z21 : (0 : Int32).toInt = 0 := rfl; omega)), (show t0_0.toInt ≤ t0_0.toInt from (by have z21 : (0 : Int32).toInt = 0 := rfl; omega)), (show t0_1.toInt ≤ t0_1.toInt from (by have z21 : (0 : Int32).toInt = 0 := rfl; omega)), (show t0_1.toInt ≤ t0_1.toInt from (by have z21 : (0 : Int32).toInt = 0 := rfl; omega)), (show x2.toInt ≤ (0 : Int32).toInt + 9 from (by have z21 : (0 : Int32).toInt = 0 := rfl; have t1 : x2.toInt ≤ 9 := ob33; omega)), (show (0 : Int32).toInt ≤ x2.toInt from (by have z21 : (0 : Int32).toInt = 0 := rfl; have t1 : 0 ≤ x2.toInt := ob32; omega)), (show t0_6.toInt ≤ t0_6.toInt from (by have z21 : (0 : Int32).toInt = 0 := rfl; omega)), (show t0_6.toInt ≤ t0_6.toInt from (by have z21 : (0 : Int32).toInt = 0 := rfl; omega)), (show t0_7.toInt ≤ t0_7.toInt from (by have z21 : (0 : Int32).toInt = 0 := rfl; omega)), (show t0_7.toInt ≤ t0_7.toInt from (by have z21 : (0 : Int32).toInt = 0 := rfl; omega)), (show t0_8.toInt ≤ t0_8.toInt from (by have z21 : (0 : Int32).toInt = 0 := rfl; omega)), (show t0_8.toInt ≤ t0_8.toInt from (by have z21 : (0 : Int32).toInt = 0 := rfl; omega)), (show t0_9.toInt ≤ t0_9.toInt from (by have z21 : (0 : Int32).toInt = 0 := rfl; omega)), (show t0_9.toInt ≤ t0_9.toInt from (by have z21 : (0 : Int32).toInt = 0 := rfl; omega)), (show t0_10.toInt ≤ t0_10.toInt from (by have z21 : (0 : Int32).toInt = 0 := rfl; omega)), (show t0_10.toInt ≤ t0_10.toInt from (by have z21 : (0 : Int32).toInt = 0 := rfl; omega)), (show a34.toInt ≤ (0 : Int32).toInt + 12200 from (by have z21 : (0 : Int32).toInt = 0 := rfl; have t1 : lx39.toInt ≤ 12200 := i42; have t2 : a34.toInt ≤ lx39.toInt := b57; omega)), (show a67.toInt ≤ (0 : Int32).toInt + 1 from (by have z21 : (0 : Int32).toInt = 0 := rfl; have t1 : a67.toInt ≤ 1 := ob72; omega)), (show (0 : Int32).toInt ≤ a67.toInt from (by have z21 : (0 : Int32).toInt = 0 := rfl; have t1 : 0 ≤ a67.toInt := ob71; omega)), (show (t0_0, t0_1, a34, j60, (0 : Int32), a67, t0_6, t0_7, t0_8, t0_9, t0_10, lx40) = (F_DR_load x2 t0_0 t0_1 t0_2 t0_3 t0_4 t0_5 t0_6 t0_7 t0_8 t0_9 t0_10 t1_0 t2_0 t3_0 t4_0 t5_0) from Eq.trans (by rw [← e68, ← e61, ← e59, F_DR_load_L12.eq_2, if_pos c56]) hR51)⟩) d_15_6_70
  ·
    refine lv_aload_n hx hb d_15_6_20 rfl (lv_at hl 1 rfl) ?_
    refine q_get (ci := 14) (j := 7) (v := .ref (q 140)) C0 V i_DR rfl rfl hO45 (by decide) w_2010 rfl d_15_6_21 ?_
    refine lv_iload_n hx hb d_15_6_24 rfl (lv_at hl 0 rfl) ?_
    refine lv_aload_n hx hb d_15_6_25 rfl (lv_at hl 1 rfl) ?_
    refine q_get (ci := 14) (j := 3) (v := .ref (q 136)) C0 V i_DR rfl rfl hO45 (by decide) w_2002 rfl d_15_6_26 ?_
    refine lv_sipush (v := 1000) hx hb d_15_6_29 (by decide) ?_
    refine lv_iload_n hx hb d_15_6_32 rfl (lv_at hl 2 rfl) ?_
    refine lv_imul hx hb d_15_6_33 ?_
    obtain ⟨a74, e75⟩ := q_nm (1000 * x2 : Int32)
    refine q_ti (v := a74) e75 ?_
    have b76 : q_F (a74.toInt = 1000 * x2.toInt) := (by rw [← e75]; show (1000 * x2 : Int32).toInt = 1000 * x2.toInt; exact q_mulI (x := 1000) (y := x2.toInt) (by decide) rfl (by have t1 : 0 ≤ x2.toInt := ob32; have t2 : x2.toInt ≤ 9 := ob33; omega) (by have t1 : 0 ≤ x2.toInt := ob32; have t2 : x2.toInt ≤ 9 := ob33; omega))
    refine lv_iload_n hx hb d_15_6_34 rfl (lv_at hl 0 rfl) ?_
    refine lv_iadd hx hb d_15_6_35 ?_
    obtain ⟨a77, e78⟩ := q_nm (a74 + lx39 : Int32)
    refine q_ti (v := a77) e78 ?_
    have b79 : q_F (a77.toInt = a74.toInt + lx39.toInt) := (by rw [← e78]; show (a74 + lx39 : Int32).toInt = a74.toInt + lx39.toInt; exact q_addI (x := a74.toInt) (y := lx39.toInt) rfl rfl (by have t1 : 0 ≤ lx39.toInt := i41; have _ := q_lo32 (x := a74); have _ := q_hi32 (x := a74); have t2 : x2.toInt ≤ 9 := ob33; have t3 : lx39.toInt ≤ 12200 := i42; have t4 : a74.toInt = 1000 * x2.toInt := b76; omega) (by have t1 : 0 ≤ lx39.toInt := i41; have _ := q_lo32 (x := a74); have _ := q_hi32 (x := a74); have t2 : x2.toInt ≤ 9 := ob33; have t3 : lx39.toInt ≤ 12200 := i42; have t4 : a74.toInt = 1000 * x2.toInt := b76; omega))
    have ob80 : q_F (a77.toInt ≤ 9999) := (by rw [← e78, ← e75]; have h := hS52; rw [S_DR_load_L12.eq_2] at h; rw [if_neg c56] at h; exact h.2.1)
    refine q_iald C0 V hO46 (q_ix (x := a77.toInt) rfl (by have t1 : 0 ≤ x2.toInt := ob32; have t2 : 0 ≤ lx39.toInt := i41; have t3 : a74.toInt = 1000 * x2.toInt := b76; have t4 : a77.toInt = a74.toInt + lx39.toInt := b79; omega) (by have t1 : 0 ≤ x2.toInt := ob32; have t2 : 0 ≤ lx39.toInt := i41; have t3 : a74.toInt = 1000 * x2.toInt := b76; have t4 : a77.toInt = a74.toInt + lx39.toInt := b79; have t5 : a77.toInt ≤ 9999 := ob80; have e9 : (((10000 : Int32).toNatClampNeg : Nat) : Int) = 10000 := (by decide); omega)) d_15_6_36 ?_
    obtain ⟨a81, e82⟩ := q_nm (t1_0 a77.toNatClampNeg : Int32)
    refine q_ti (v := a81) e82 ?_
    have ob83 : q_F (lx39.toInt ≤ 4399) := (by have h := hS52; rw [S_DR_load_L12.eq_2] at h; rw [if_neg c56] at h; replace h := q_s2 h; exact h.2.1)
    refine q_iast C0 V hO50 (q_ix (x := lx39.toInt) rfl (by first | with_reducible exact q_fe i41 | (have t1 : 0 ≤ lx39.toInt := i41; omega)) (by have t1 : 0 ≤ lx39.toInt := i41; have t2 : lx39.toInt ≤ 4399 := ob83; have e9 : (((4400 : Int32).toNatClampNeg : Nat) : Int) = 4400 := (by decide); omega)) d_15_6_37 (fun H locs w84 hu85 hO50 V => ?_)
    replace hI := n_ai' hI (n_r140 g q).1 hu85 hO50 (q_updB (fun _ => s_bnd) s_bnd)
    replace hO45 := (hu85 _ (by decide)).trans hO45
    replace hO46 := (hu85 _ (by decide)).trans hO46
    replace hO47 := (hu85 _ (by decide)).trans hO47
    replace hO48 := (hu85 _ (by decide)).trans hO48
    replace hO49 := (hu85 _ (by decide)).trans hO49
    replace hF := q_us hF hu85 (by simp)
    obtain ⟨f86, e87⟩ := q_nm (upd lx40 lx39.toNatClampNeg a81 : (Nat → Int32))
    rw [e87] at hO50
    obtain ⟨a88, e89⟩ := q_nm (lx39 + 1 : Int32)
    have b90 : q_F (a88.toInt = lx39.toInt + 1) := (by rw [← e89]; exact q_addI (y := 1) rfl (by decide) (by have t1 : 0 ≤ lx39.toInt := i41; have t2 : lx39.toInt ≤ 12200 := i42; omega) (by have t1 : 0 ≤ lx39.toInt := i41; have t2 : lx39.toInt ≤ 12200 := i42; omega))
    refine lv_iinc (v := a88) (lv' := [(2, .int a88), (0, .ref (q 134)), (1, .int x2)]) hx hb d_15_6_38 hl (k := 0) rfl (e89) (by decide) rfl (fun ls hl => ?_)
    refine lv_goto (tgt := 12) hx hb d_15_6_41 (by decide) ?_
    exact ih43 ((a88 : Int32), (f86 : (Nat → Int32))) _ _ _ _ (show (12200 - a88.toInt).toNat < (12200 - lx39.toInt).toNat from by have t1 : a88.toInt = lx39.toInt + 1 := b90; have t2 : lx39.toInt ≤ 12200 := i42; have t3 : lx39.toInt ≤ 4399 := ob83; omega) ⟨(show q_F (0 ≤ a88.toInt) from (show 0 ≤ a88.toInt from by have t1 : 0 ≤ lx39.toInt := i41; have t2 : a88.toInt = lx39.toInt + 1 := b90; omega)), (show q_F (a88.toInt ≤ 12200) from (show a88.toInt ≤ 12200 from by have t1 : lx39.toInt ≤ 4399 := ob83; have t2 : a88.toInt = lx39.toInt + 1 := b90; omega)), V, q_lw hl (q_lw1 0 rfl (q_lw1 1 rfl (q_lw1 2 rfl q_lw0))), hI, hF, hO45, hO46, hO47, hO48, hO49, hO50, ⟨fm55, Nat.lt_of_lt_of_le (show (12200 - a88.toInt).toNat < (12200 - lx39.toInt).toNat from by have t1 : a88.toInt = lx39.toInt + 1 := b90; have t2 : lx39.toInt ≤ 12200 := i42; have t3 : lx39.toInt ≤ 4399 := ob83; omega) (Nat.le_of_lt_succ hf54), (show F_DR_load_L12 x2 t0_0 t0_1 t0_2 t0_3 t0_4 t0_5 t0_6 t0_7 t0_8 t0_9 t0_10 t1_0 t2_0 t3_0 t4_0 t5_0 a34 fm55 a88 f86 = (F_DR_load x2 t0_0 t0_1 t0_2 t0_3 t0_4 t0_5 t0_6 t0_7 t0_8 t0_9 t0_10 t1_0 t2_0 t3_0 t4_0 t5_0) from Eq.trans (by rw [← e89, ← e87, ← e82, ← e78, ← e75, F_DR_load_L12.eq_2, if_neg c56]) hR51), (show True ∧ S_DR_load_L12 x2 t0_0 t0_1 t0_2 t0_3 t0_4 t0_5 t0_6 t0_7 t0_8 t0_9 t0_10 t1_0 t2_0 t3_0 t4_0 t5_0 a34 fm55 a88 f86 from (by rw [← e89, ← e87, ← e82, ← e78, ← e75]; have h := hS52; rw [S_DR_load_L12.eq_2] at h; rw [if_neg c56] at h; replace h := q_s2 h; replace h := q_s2 h; with_reducible exact h))⟩⟩
theorem d_15_27_0 : decode prog_15_method_27_code 0 = .ok (.aload_n 0, 1) := by decide +kernel
theorem d_15_27_1 : decode prog_15_method_27_code 1 = .ok (.getfield 45, 3) := by decide +kernel
theorem d_15_27_4 : decode prog_15_method_27_code 4 = .ok (.aload_n 0, 1) := by decide +kernel
theorem d_15_27_5 : decode prog_15_method_27_code 5 = .ok (.getfield 16, 3) := by decide +kernel
theorem d_15_27_8 : decode prog_15_method_27_code 8 = .ok (.iload_n 1, 1) := by decide +kernel
theorem d_15_27_9 : decode prog_15_method_27_code 9 = .ok (.iaload, 1) := by decide +kernel
theorem d_15_27_10 : decode prog_15_method_27_code 10 = .ok (.iadd, 1) := by decide +kernel
theorem d_15_27_11 : decode prog_15_method_27_code 11 = .ok (.istore_n 2, 1) := by decide +kernel
theorem d_15_27_12 : decode prog_15_method_27_code 12 = .ok (.iconst 0, 1) := by decide +kernel
theorem d_15_27_13 : decode prog_15_method_27_code 13 = .ok (.istore_n 3, 1) := by decide +kernel
theorem d_15_27_14 : decode prog_15_method_27_code 14 = .ok (.iload_n 3, 1) := by decide +kernel
theorem d_15_27_15 : decode prog_15_method_27_code 15 = .ok (.iload_n 2, 1) := by decide +kernel
theorem d_15_27_16 : decode prog_15_method_27_code 16 = .ok (.if_icmp .ge 16, 3) := by decide +kernel
theorem d_15_27_32 : decode prog_15_method_27_code 32 = .ok (.aload_n 0, 1) := by decide +kernel
theorem d_15_27_33 : decode prog_15_method_27_code 33 = .ok (.getfield 45, 3) := by decide +kernel
theorem d_15_27_36 : decode prog_15_method_27_code 36 = .ok (.iconst 1, 1) := by decide +kernel
theorem d_15_27_37 : decode prog_15_method_27_code 37 = .ok (.isub, 1) := by decide +kernel
theorem d_15_27_38 : decode prog_15_method_27_code 38 = .ok (.istore_n 3, 1) := by decide +kernel
theorem d_15_27_39 : decode prog_15_method_27_code 39 = .ok (.iload_n 3, 1) := by decide +kernel
theorem d_15_27_40 : decode prog_15_method_27_code 40 = .ok (.ifCond .lt 108, 3) := by decide +kernel
theorem d_15_27_148 : decode prog_15_method_27_code 148 = .ok (.aload_n 0, 1) := by decide +kernel
theorem d_15_27_149 : decode prog_15_method_27_code 149 = .ok (.iload_n 2, 1) := by decide +kernel
theorem d_15_27_150 : decode prog_15_method_27_code 150 = .ok (.putfield 45, 3) := by decide +kernel
theorem d_15_27_153 : decode prog_15_method_27_code 153 = .ok (.iconst 0, 1) := by decide +kernel
theorem d_15_27_154 : decode prog_15_method_27_code 154 = .ok (.istore_n 3, 1) := by decide +kernel
theorem d_15_27_155 : decode prog_15_method_27_code 155 = .ok (.iload_n 3, 1) := by decide +kernel
theorem d_15_27_156 : decode prog_15_method_27_code 156 = .ok (.iload_n 2, 1) := by decide +kernel
theorem d_15_27_157 : decode prog_15_method_27_code 157 = .ok (.if_icmp .ge 21, 3) := by decide +kernel
theorem d_15_27_178 : decode prog_15_method_27_code 178 = .ok (.aload_n 0, 1) := by decide +kernel
theorem d_15_27_179 : decode prog_15_method_27_code 179 = .ok (.getfield 56, 3) := by decide +kernel
theorem d_15_27_182 : decode prog_15_method_27_code 182 = .ok (.istore_n 3, 1) := by decide +kernel
theorem d_15_27_183 : decode prog_15_method_27_code 183 = .ok (.aload_n 0, 1) := by decide +kernel
theorem d_15_27_184 : decode prog_15_method_27_code 184 = .ok (.iload_n 3, 1) := by decide +kernel
theorem d_15_27_185 : decode prog_15_method_27_code 185 = .ok (.aload_n 0, 1) := by decide +kernel
theorem d_15_27_186 : decode prog_15_method_27_code 186 = .ok (.getfield 19, 3) := by decide +kernel
theorem d_15_27_189 : decode prog_15_method_27_code 189 = .ok (.iload_n 1, 1) := by decide +kernel
theorem d_15_27_190 : decode prog_15_method_27_code 190 = .ok (.baload, 1) := by decide +kernel
theorem d_15_27_199 : decode prog_15_method_27_code 199 = .ok (.putfield 56, 3) := by decide +kernel
theorem d_15_27_202 : decode prog_15_method_27_code 202 = .ok (.aload_n 0, 1) := by decide +kernel
theorem d_15_27_203 : decode prog_15_method_27_code 203 = .ok (.aload_n 0, 1) := by decide +kernel
theorem d_15_27_204 : decode prog_15_method_27_code 204 = .ok (.getfield 48, 3) := by decide +kernel
theorem d_15_27_207 : decode prog_15_method_27_code 207 = .ok (.aload_n 0, 1) := by decide +kernel
theorem d_15_27_208 : decode prog_15_method_27_code 208 = .ok (.getfield 23, 3) := by decide +kernel
theorem d_15_27_211 : decode prog_15_method_27_code 211 = .ok (.iload_n 1, 1) := by decide +kernel
theorem d_15_27_212 : decode prog_15_method_27_code 212 = .ok (.iaload, 1) := by decide +kernel
theorem d_15_27_213 : decode prog_15_method_27_code 213 = .ok (.i2l, 1) := by decide +kernel
theorem d_15_27_214 : decode prog_15_method_27_code 214 = .ok (.ladd, 1) := by decide +kernel
theorem d_15_27_215 : decode prog_15_method_27_code 215 = .ok (.putfield 48, 3) := by decide +kernel
theorem d_15_27_218 : decode prog_15_method_27_code 218 = .ok (.aload_n 0, 1) := by decide +kernel
theorem d_15_27_219 : decode prog_15_method_27_code 219 = .ok (.invokevirtual 59, 3) := by decide +kernel
theorem d_15_27_222 : decode prog_15_method_27_code 222 = .ok (.aload_n 0, 1) := by decide +kernel
theorem d_15_27_223 : decode prog_15_method_27_code 223 = .ok (.getfield 45, 3) := by decide +kernel
theorem d_15_27_226 : decode prog_15_method_27_code 226 = .ok (.sipush 1000, 3) := by decide +kernel
theorem d_15_27_229 : decode prog_15_method_27_code 229 = .ok (.if_icmp .gt 7, 3) := by decide +kernel
theorem d_15_27_236 : decode prog_15_method_27_code 236 = .ok (.iconst 0, 1) := by decide +kernel
theorem d_15_27_237 : decode prog_15_method_27_code 237 = .ok (.ireturn, 1) := by decide +kernel
theorem d_15_27_232 : decode prog_15_method_27_code 232 = .ok (.iconst 1, 1) := by decide +kernel
theorem d_15_27_233 : decode prog_15_method_27_code 233 = .ok (.goto 4, 3) := by decide +kernel
theorem d_15_27_191 : decode prog_15_method_27_code 191 = .ok (.if_icmp .eq 7, 3) := by decide +kernel
theorem d_15_27_198 : decode prog_15_method_27_code 198 = .ok (.iconst 0, 1) := by decide +kernel
theorem d_15_27_194 : decode prog_15_method_27_code 194 = .ok (.iconst 1, 1) := by decide +kernel
theorem d_15_27_195 : decode prog_15_method_27_code 195 = .ok (.goto 4, 3) := by decide +kernel
theorem d_15_27_160 : decode prog_15_method_27_code 160 = .ok (.aload_n 0, 1) := by decide +kernel
theorem d_15_27_161 : decode prog_15_method_27_code 161 = .ok (.getfield 26, 3) := by decide +kernel
theorem d_15_27_164 : decode prog_15_method_27_code 164 = .ok (.iload_n 3, 1) := by decide +kernel
theorem d_15_27_165 : decode prog_15_method_27_code 165 = .ok (.aload_n 0, 1) := by decide +kernel
theorem d_15_27_166 : decode prog_15_method_27_code 166 = .ok (.getfield 29, 3) := by decide +kernel
theorem d_15_27_169 : decode prog_15_method_27_code 169 = .ok (.iload_n 3, 1) := by decide +kernel
theorem d_15_27_170 : decode prog_15_method_27_code 170 = .ok (.iaload, 1) := by decide +kernel
theorem d_15_27_171 : decode prog_15_method_27_code 171 = .ok (.iastore, 1) := by decide +kernel
theorem d_15_27_172 : decode prog_15_method_27_code 172 = .ok (.iinc 3 1, 3) := by decide +kernel
theorem d_15_27_175 : decode prog_15_method_27_code 175 = .ok (.goto (-20), 3) := by decide +kernel
theorem d_15_27_43 : decode prog_15_method_27_code 43 = .ok (.iconst 0, 1) := by decide +kernel
theorem d_15_27_44 : decode prog_15_method_27_code 44 = .ok (.istore 4, 2) := by decide +kernel
theorem d_15_27_46 : decode prog_15_method_27_code 46 = .ok (.aload_n 0, 1) := by decide +kernel
theorem d_15_27_47 : decode prog_15_method_27_code 47 = .ok (.getfield 16, 3) := by decide +kernel
theorem d_15_27_50 : decode prog_15_method_27_code 50 = .ok (.iload_n 1, 1) := by decide +kernel
theorem d_15_27_51 : decode prog_15_method_27_code 51 = .ok (.iaload, 1) := by decide +kernel
theorem d_15_27_52 : decode prog_15_method_27_code 52 = .ok (.iconst 1, 1) := by decide +kernel
theorem d_15_27_53 : decode prog_15_method_27_code 53 = .ok (.isub, 1) := by decide +kernel
theorem d_15_27_54 : decode prog_15_method_27_code 54 = .ok (.istore 5, 2) := by decide +kernel
theorem d_15_27_56 : decode prog_15_method_27_code 56 = .ok (.iload 5, 2) := by decide +kernel
theorem d_15_27_58 : decode prog_15_method_27_code 58 = .ok (.ifCond .lt 69, 3) := by decide +kernel
theorem d_15_27_127 : decode prog_15_method_27_code 127 = .ok (.aload_n 0, 1) := by decide +kernel
theorem d_15_27_128 : decode prog_15_method_27_code 128 = .ok (.getfield 29, 3) := by decide +kernel
theorem d_15_27_131 : decode prog_15_method_27_code 131 = .ok (.iload_n 3, 1) := by decide +kernel
theorem d_15_27_132 : decode prog_15_method_27_code 132 = .ok (.aload_n 0, 1) := by decide +kernel
theorem d_15_27_133 : decode prog_15_method_27_code 133 = .ok (.getfield 29, 3) := by decide +kernel
theorem d_15_27_136 : decode prog_15_method_27_code 136 = .ok (.iload_n 3, 1) := by decide +kernel
theorem d_15_27_137 : decode prog_15_method_27_code 137 = .ok (.iaload, 1) := by decide +kernel
theorem d_15_27_138 : decode prog_15_method_27_code 138 = .ok (.iload 4, 2) := by decide +kernel
theorem d_15_27_140 : decode prog_15_method_27_code 140 = .ok (.iadd, 1) := by decide +kernel
theorem d_15_27_141 : decode prog_15_method_27_code 141 = .ok (.iastore, 1) := by decide +kernel
theorem d_15_27_142 : decode prog_15_method_27_code 142 = .ok (.iinc 3 (-1), 3) := by decide +kernel
theorem d_15_27_145 : decode prog_15_method_27_code 145 = .ok (.goto (-106), 3) := by decide +kernel
theorem d_15_27_61 : decode prog_15_method_27_code 61 = .ok (.aload_n 0, 1) := by decide +kernel
theorem d_15_27_62 : decode prog_15_method_27_code 62 = .ok (.getfield 29, 3) := by decide +kernel
theorem d_15_27_65 : decode prog_15_method_27_code 65 = .ok (.iload_n 3, 1) := by decide +kernel
theorem d_15_27_66 : decode prog_15_method_27_code 66 = .ok (.iload 5, 2) := by decide +kernel
theorem d_15_27_68 : decode prog_15_method_27_code 68 = .ok (.iadd, 1) := by decide +kernel
theorem d_15_27_69 : decode prog_15_method_27_code 69 = .ok (.iconst 1, 1) := by decide +kernel
theorem d_15_27_70 : decode prog_15_method_27_code 70 = .ok (.iadd, 1) := by decide +kernel
theorem d_15_27_71 : decode prog_15_method_27_code 71 = .ok (.iaload, 1) := by decide +kernel
theorem d_15_27_72 : decode prog_15_method_27_code 72 = .ok (.aload_n 0, 1) := by decide +kernel
theorem d_15_27_73 : decode prog_15_method_27_code 73 = .ok (.getfield 26, 3) := by decide +kernel
theorem d_15_27_76 : decode prog_15_method_27_code 76 = .ok (.iload_n 3, 1) := by decide +kernel
theorem d_15_27_77 : decode prog_15_method_27_code 77 = .ok (.iaload, 1) := by decide +kernel
theorem d_15_27_78 : decode prog_15_method_27_code 78 = .ok (.aload_n 0, 1) := by decide +kernel
theorem d_15_27_79 : decode prog_15_method_27_code 79 = .ok (.getfield 13, 3) := by decide +kernel
theorem d_15_27_82 : decode prog_15_method_27_code 82 = .ok (.sipush 1000, 3) := by decide +kernel
theorem d_15_27_85 : decode prog_15_method_27_code 85 = .ok (.iload_n 1, 1) := by decide +kernel
theorem d_15_27_86 : decode prog_15_method_27_code 86 = .ok (.imul, 1) := by decide +kernel
theorem d_15_27_87 : decode prog_15_method_27_code 87 = .ok (.iload 5, 2) := by decide +kernel
theorem d_15_27_89 : decode prog_15_method_27_code 89 = .ok (.iadd, 1) := by decide +kernel
theorem d_15_27_90 : decode prog_15_method_27_code 90 = .ok (.iaload, 1) := by decide +kernel
theorem d_15_27_91 : decode prog_15_method_27_code 91 = .ok (.imul, 1) := by decide +kernel
theorem d_15_27_92 : decode prog_15_method_27_code 92 = .ok (.iadd, 1) := by decide +kernel
theorem d_15_27_93 : decode prog_15_method_27_code 93 = .ok (.iload 4, 2) := by decide +kernel
theorem d_15_27_95 : decode prog_15_method_27_code 95 = .ok (.iadd, 1) := by decide +kernel
theorem d_15_27_96 : decode prog_15_method_27_code 96 = .ok (.istore 6, 2) := by decide +kernel
theorem d_15_27_98 : decode prog_15_method_27_code 98 = .ok (.aload_n 0, 1) := by decide +kernel
theorem d_15_27_99 : decode prog_15_method_27_code 99 = .ok (.getfield 29, 3) := by decide +kernel
theorem d_15_27_102 : decode prog_15_method_27_code 102 = .ok (.iload_n 3, 1) := by decide +kernel
theorem d_15_27_103 : decode prog_15_method_27_code 103 = .ok (.iload 5, 2) := by decide +kernel
theorem d_15_27_105 : decode prog_15_method_27_code 105 = .ok (.iadd, 1) := by decide +kernel
theorem d_15_27_106 : decode prog_15_method_27_code 106 = .ok (.iconst 1, 1) := by decide +kernel
theorem d_15_27_107 : decode prog_15_method_27_code 107 = .ok (.iadd, 1) := by decide +kernel
theorem d_15_27_108 : decode prog_15_method_27_code 108 = .ok (.iload 6, 2) := by decide +kernel
theorem d_15_27_110 : decode prog_15_method_27_code 110 = .ok (.bipush 10, 2) := by decide +kernel
theorem d_15_27_112 : decode prog_15_method_27_code 112 = .ok (.irem, 1) := by decide +kernel
theorem d_15_27_113 : decode prog_15_method_27_code 113 = .ok (.iastore, 1) := by decide +kernel
theorem d_15_27_114 : decode prog_15_method_27_code 114 = .ok (.iload 6, 2) := by decide +kernel
theorem d_15_27_116 : decode prog_15_method_27_code 116 = .ok (.bipush 10, 2) := by decide +kernel
theorem d_15_27_118 : decode prog_15_method_27_code 118 = .ok (.idiv, 1) := by decide +kernel
theorem d_15_27_119 : decode prog_15_method_27_code 119 = .ok (.istore 4, 2) := by decide +kernel
theorem d_15_27_121 : decode prog_15_method_27_code 121 = .ok (.iinc 5 (-1), 3) := by decide +kernel
theorem d_15_27_124 : decode prog_15_method_27_code 124 = .ok (.goto (-68), 3) := by decide +kernel
theorem d_15_27_19 : decode prog_15_method_27_code 19 = .ok (.aload_n 0, 1) := by decide +kernel
theorem d_15_27_20 : decode prog_15_method_27_code 20 = .ok (.getfield 29, 3) := by decide +kernel
theorem d_15_27_23 : decode prog_15_method_27_code 23 = .ok (.iload_n 3, 1) := by decide +kernel
theorem d_15_27_24 : decode prog_15_method_27_code 24 = .ok (.iconst 0, 1) := by decide +kernel
theorem d_15_27_25 : decode prog_15_method_27_code 25 = .ok (.iastore, 1) := by decide +kernel
theorem d_15_27_26 : decode prog_15_method_27_code 26 = .ok (.iinc 3 1, 3) := by decide +kernel
theorem d_15_27_29 : decode prog_15_method_27_code 29 = .ok (.goto (-15), 3) := by decide +kernel
def y_DR_times : MethodName := ⟨"NumberHouseModel$DecimalRows", "times", "(I)Z"⟩
def F_DR_times_c219 (K_F_DR_times_L14 : Int32 → (Nat → Int32) → (Int32 × Int32 × Int32 × Int32 × Int64 × Int32 × Int32 × Int32 × Int32 × Int32 × Int32 × Int32 × (Nat → Int32) × (Nat → Int32))) (K_F_DR_times_L39 : Int32 → (Nat → Int32) → (Int32 × Int32 × Int32 × Int32 × Int64 × Int32 × Int32 × Int32 × Int32 × Int32 × Int32 × Int32 × (Nat → Int32) × (Nat → Int32))) (K_F_DR_times_L155 : Int32 → (Nat → Int32) → (Int32 × Int32 × Int32 × Int32 × Int64 × Int32 × Int32 × Int32 × Int32 × Int32 × Int32 × Int32 × (Nat → Int32) × (Nat → Int32))) (x2 : Int32) (t0_0 : Int32) (t0_1 : Int32) (t0_2 : Int32) (t0_3 : Int64) (t0_4 : Int32) (t0_5 : Int32) (t0_6 : Int32) (t0_7 : Int32) (t0_8 : Int32) (t0_9 : Int32) (t0_10 : Int32) (t1_0 : (Nat → Int32)) (t2_0 : (Nat → Int32)) (t3_0 : (Nat → Int32)) (t4_0 : (Nat → Int32)) (t5_0 : (Nat → Int32)) (t6_0 : (Nat → Int32)) (a39 : Int32) (lx42 : Int32) (lx43 : (Nat → Int32)) (lx65 : Int32) (lx66 : (Nat → Int32)) (lx87 : Int32) (lx88 : (Nat → Int32)) (lx109 : Int32) (p179 : (Int32 × Int32 × Int32 × Int64 × Int32 × Int32 × Int32 × Int32 × Int32 × Int32 × Int32 × (Nat → Int32))) : Int32 × Int32 × Int32 × Int32 × Int64 × Int32 × Int32 × Int32 × Int32 × Int32 × Int32 × Int32 × (Nat → Int32) × (Nat → Int32) := if (1000 : Int32) < (p179.2.2.1 : Int32) then (((0 : Int32), (p179.1 : Int32), (p179.2.1 : Int32), (p179.2.2.1 : Int32), (p179.2.2.2.1 : Int64), (p179.2.2.2.2.1 : Int32), (p179.2.2.2.2.2.1 : Int32), (p179.2.2.2.2.2.2.1 : Int32), (p179.2.2.2.2.2.2.2.1 : Int32), (p179.2.2.2.2.2.2.2.2.1 : Int32), (p179.2.2.2.2.2.2.2.2.2.1 : Int32), (p179.2.2.2.2.2.2.2.2.2.2.1 : Int32), (p179.2.2.2.2.2.2.2.2.2.2.2 : (Nat → Int32)), lx66)) else (((1 : Int32), (p179.1 : Int32), (p179.2.1 : Int32), (p179.2.2.1 : Int32), (p179.2.2.2.1 : Int64), (p179.2.2.2.2.1 : Int32), (p179.2.2.2.2.2.1 : Int32), (p179.2.2.2.2.2.2.1 : Int32), (p179.2.2.2.2.2.2.2.1 : Int32), (p179.2.2.2.2.2.2.2.2.1 : Int32), (p179.2.2.2.2.2.2.2.2.2.1 : Int32), (p179.2.2.2.2.2.2.2.2.2.2.1 : Int32), (p179.2.2.2.2.2.2.2.2.2.2.2 : (Nat → Int32)), lx66))
def F_DR_times_J199 (K_F_DR_times_L14 : Int32 → (Nat → Int32) → (Int32 × Int32 × Int32 × Int32 × Int64 × Int32 × Int32 × Int32 × Int32 × Int32 × Int32 × Int32 × (Nat → Int32) × (Nat → Int32))) (K_F_DR_times_L39 : Int32 → (Nat → Int32) → (Int32 × Int32 × Int32 × Int32 × Int64 × Int32 × Int32 × Int32 × Int32 × Int32 × Int32 × Int32 × (Nat → Int32) × (Nat → Int32))) (K_F_DR_times_L155 : Int32 → (Nat → Int32) → (Int32 × Int32 × Int32 × Int32 × Int64 × Int32 × Int32 × Int32 × Int32 × Int32 × Int32 × Int32 × (Nat → Int32) × (Nat → Int32))) (x2 : Int32) (t0_0 : Int32) (t0_1 : Int32) (t0_2 : Int32) (t0_3 : Int64) (t0_4 : Int32) (t0_5 : Int32) (t0_6 : Int32) (t0_7 : Int32) (t0_8 : Int32) (t0_9 : Int32) (t0_10 : Int32) (t1_0 : (Nat → Int32)) (t2_0 : (Nat → Int32)) (t3_0 : (Nat → Int32)) (t4_0 : (Nat → Int32)) (t5_0 : (Nat → Int32)) (t6_0 : (Nat → Int32)) (a39 : Int32) (lx42 : Int32) (lx43 : (Nat → Int32)) (lx65 : Int32) (lx66 : (Nat → Int32)) (lx87 : Int32) (lx88 : (Nat → Int32)) (lx109 : Int32) : Int32 × Int32 × Int32 × Int32 × Int64 × Int32 × Int32 × Int32 × Int32 × Int32 × Int32 × Int32 × (Nat → Int32) × (Nat → Int32) := F_DR_times_c219 K_F_DR_times_L14 K_F_DR_times_L39 K_F_DR_times_L155 x2 t0_0 t0_1 t0_2 t0_3 t0_4 t0_5 t0_6 t0_7 t0_8 t0_9 t0_10 t1_0 t2_0 t3_0 t4_0 t5_0 t6_0 a39 lx42 lx43 lx65 lx66 lx87 lx88 lx109 ((F_DR_trim t0_0 t0_1 a39 (t0_3 + ((t4_0 x2.toNatClampNeg : Int32).toInt64 : Int64) : Int64) t0_4 lx109 t0_6 t0_7 t0_8 t0_9 t0_10 lx88) : (Int32 × Int32 × Int32 × Int64 × Int32 × Int32 × Int32 × Int32 × Int32 × Int32 × Int32 × (Nat → Int32)))
def F_DR_times_L155 (K_F_DR_times_L14 : Int32 → (Nat → Int32) → (Int32 × Int32 × Int32 × Int32 × Int64 × Int32 × Int32 × Int32 × Int32 × Int32 × Int32 × Int32 × (Nat → Int32) × (Nat → Int32))) (K_F_DR_times_L39 : Int32 → (Nat → Int32) → (Int32 × Int32 × Int32 × Int32 × Int64 × Int32 × Int32 × Int32 × Int32 × Int32 × Int32 × Int32 × (Nat → Int32) × (Nat → Int32))) (x2 : Int32) (t0_0 : Int32) (t0_1 : Int32) (t0_2 : Int32) (t0_3 : Int64) (t0_4 : Int32) (t0_5 : Int32) (t0_6 : Int32) (t0_7 : Int32) (t0_8 : Int32) (t0_9 : Int32) (t0_10 : Int32) (t1_0 : (Nat → Int32)) (t2_0 : (Nat → Int32)) (t3_0 : (Nat → Int32)) (t4_0 : (Nat → Int32)) (t5_0 : (Nat → Int32)) (t6_0 : (Nat → Int32)) (a39 : Int32) (lx42 : Int32) (lx43 : (Nat → Int32)) (lx65 : Int32) (lx66 : (Nat → Int32)) : Nat → Int32 → (Nat → Int32) → (Int32 × Int32 × Int32 × Int32 × Int64 × Int32 × Int32 × Int32 × Int32 × Int32 × Int32 × Int32 × (Nat → Int32) × (Nat → Int32))
  | 0, _, _ => default
  | fm + 1, lx87, lx88 => if a39 ≤ lx87 then (if t0_5 = (t3_0 x2.toNatClampNeg : Int32) then (F_DR_times_J199 K_F_DR_times_L14 K_F_DR_times_L39 (F_DR_times_L155 K_F_DR_times_L14 K_F_DR_times_L39 x2 t0_0 t0_1 t0_2 t0_3 t0_4 t0_5 t0_6 t0_7 t0_8 t0_9 t0_10 t1_0 t2_0 t3_0 t4_0 t5_0 t6_0 a39 lx42 lx43 lx65 lx66 fm) x2 t0_0 t0_1 t0_2 t0_3 t0_4 t0_5 t0_6 t0_7 t0_8 t0_9 t0_10 t1_0 t2_0 t3_0 t4_0 t5_0 t6_0 a39 lx42 lx43 lx65 lx66 lx87 lx88 0) else (F_DR_times_J199 K_F_DR_times_L14 K_F_DR_times_L39 (F_DR_times_L155 K_F_DR_times_L14 K_F_DR_times_L39 x2 t0_0 t0_1 t0_2 t0_3 t0_4 t0_5 t0_6 t0_7 t0_8 t0_9 t0_10 t1_0 t2_0 t3_0 t4_0 t5_0 t6_0 a39 lx42 lx43 lx65 lx66 fm) x2 t0_0 t0_1 t0_2 t0_3 t0_4 t0_5 t0_6 t0_7 t0_8 t0_9 t0_10 t1_0 t2_0 t3_0 t4_0 t5_0 t6_0 a39 lx42 lx43 lx65 lx66 lx87 lx88 1)) else (F_DR_times_L155 K_F_DR_times_L14 K_F_DR_times_L39 x2 t0_0 t0_1 t0_2 t0_3 t0_4 t0_5 t0_6 t0_7 t0_8 t0_9 t0_10 t1_0 t2_0 t3_0 t4_0 t5_0 t6_0 a39 lx42 lx43 lx65 lx66 fm (lx87 + 1 : Int32) (upd lx88 lx87.toNatClampNeg (lx66 lx87.toNatClampNeg : Int32) : (Nat → Int32)))
def F_DR_times_L56 (K_F_DR_times_L14 : Int32 → (Nat → Int32) → (Int32 × Int32 × Int32 × Int32 × Int64 × Int32 × Int32 × Int32 × Int32 × Int32 × Int32 × Int32 × (Nat → Int32) × (Nat → Int32))) (K_F_DR_times_L39 : Int32 → (Nat → Int32) → (Int32 × Int32 × Int32 × Int32 × Int64 × Int32 × Int32 × Int32 × Int32 × Int32 × Int32 × Int32 × (Nat → Int32) × (Nat → Int32))) (x2 : Int32) (t0_0 : Int32) (t0_1 : Int32) (t0_2 : Int32) (t0_3 : Int64) (t0_4 : Int32) (t0_5 : Int32) (t0_6 : Int32) (t0_7 : Int32) (t0_8 : Int32) (t0_9 : Int32) (t0_10 : Int32) (t1_0 : (Nat → Int32)) (t2_0 : (Nat → Int32)) (t3_0 : (Nat → Int32)) (t4_0 : (Nat → Int32)) (t5_0 : (Nat → Int32)) (t6_0 : (Nat → Int32)) (a39 : Int32) (lx42 : Int32) (lx43 : (Nat → Int32)) (lx65 : Int32) (lx66 : (Nat → Int32)) : Nat → Int32 → Int32 → (Nat → Int32) → (Int32 × Int32 × Int32 × Int32 × Int64 × Int32 × Int32 × Int32 × Int32 × Int32 × Int32 × Int32 × (Nat → Int32) × (Nat → Int32))
  | 0, _, _, _ => default
  | fm + 1, lx222, lx223, lx224 => if lx222 < (0 : Int32) then (K_F_DR_times_L39 (lx65 + (-1) : Int32) (upd lx224 lx65.toNatClampNeg ((lx224 lx65.toNatClampNeg : Int32) + lx223 : Int32) : (Nat → Int32))) else (F_DR_times_L56 K_F_DR_times_L14 K_F_DR_times_L39 x2 t0_0 t0_1 t0_2 t0_3 t0_4 t0_5 t0_6 t0_7 t0_8 t0_9 t0_10 t1_0 t2_0 t3_0 t4_0 t5_0 t6_0 a39 lx42 lx43 lx65 lx66 fm (lx222 + (-1) : Int32) ((((lx224 ((lx65 + lx222 : Int32) + 1 : Int32).toNatClampNeg : Int32) + ((t5_0 lx65.toNatClampNeg : Int32) * (t1_0 ((1000 * x2 : Int32) + lx222 : Int32).toNatClampNeg : Int32) : Int32) : Int32) + lx223 : Int32) / 10 : Int32) (upd lx224 ((lx65 + lx222 : Int32) + 1 : Int32).toNatClampNeg ((((lx224 ((lx65 + lx222 : Int32) + 1 : Int32).toNatClampNeg : Int32) + ((t5_0 lx65.toNatClampNeg : Int32) * (t1_0 ((1000 * x2 : Int32) + lx222 : Int32).toNatClampNeg : Int32) : Int32) : Int32) + lx223 : Int32) - (((lx224 ((lx65 + lx222 : Int32) + 1 : Int32).toNatClampNeg : Int32) + ((t5_0 lx65.toNatClampNeg : Int32) * (t1_0 ((1000 * x2 : Int32) + lx222 : Int32).toNatClampNeg : Int32) : Int32) : Int32) + lx223 : Int32) / 10 * 10 : Int32) : (Nat → Int32)))
def F_DR_times_L39 (K_F_DR_times_L14 : Int32 → (Nat → Int32) → (Int32 × Int32 × Int32 × Int32 × Int64 × Int32 × Int32 × Int32 × Int32 × Int32 × Int32 × Int32 × (Nat → Int32) × (Nat → Int32))) (x2 : Int32) (t0_0 : Int32) (t0_1 : Int32) (t0_2 : Int32) (t0_3 : Int64) (t0_4 : Int32) (t0_5 : Int32) (t0_6 : Int32) (t0_7 : Int32) (t0_8 : Int32) (t0_9 : Int32) (t0_10 : Int32) (t1_0 : (Nat → Int32)) (t2_0 : (Nat → Int32)) (t3_0 : (Nat → Int32)) (t4_0 : (Nat → Int32)) (t5_0 : (Nat → Int32)) (t6_0 : (Nat → Int32)) (a39 : Int32) (lx42 : Int32) (lx43 : (Nat → Int32)) : Nat → Int32 → (Nat → Int32) → (Int32 × Int32 × Int32 × Int32 × Int64 × Int32 × Int32 × Int32 × Int32 × Int32 × Int32 × Int32 × (Nat → Int32) × (Nat → Int32))
  | 0, _, _ => default
  | fm + 1, lx65, lx66 => if lx65 < (0 : Int32) then (F_DR_times_L155 K_F_DR_times_L14 (F_DR_times_L39 K_F_DR_times_L14 x2 t0_0 t0_1 t0_2 t0_3 t0_4 t0_5 t0_6 t0_7 t0_8 t0_9 t0_10 t1_0 t2_0 t3_0 t4_0 t5_0 t6_0 a39 lx42 lx43 fm) x2 t0_0 t0_1 t0_2 t0_3 t0_4 t0_5 t0_6 t0_7 t0_8 t0_9 t0_10 t1_0 t2_0 t3_0 t4_0 t5_0 t6_0 a39 lx42 lx43 lx65 lx66 ((12200 - (0 : Int32).toInt).toNat + 1) 0 t5_0) else (F_DR_times_L56 K_F_DR_times_L14 (F_DR_times_L39 K_F_DR_times_L14 x2 t0_0 t0_1 t0_2 t0_3 t0_4 t0_5 t0_6 t0_7 t0_8 t0_9 t0_10 t1_0 t2_0 t3_0 t4_0 t5_0 t6_0 a39 lx42 lx43 fm) x2 t0_0 t0_1 t0_2 t0_3 t0_4 t0_5 t0_6 t0_7 t0_8 t0_9 t0_10 t1_0 t2_0 t3_0 t4_0 t5_0 t6_0 a39 lx42 lx43 lx65 lx66 ((((t2_0 x2.toNatClampNeg : Int32) - 1 : Int32).toInt - ((-1))).toNat + 1) ((t2_0 x2.toNatClampNeg : Int32) - 1 : Int32) 0 lx66)
def F_DR_times_L14 (x2 : Int32) (t0_0 : Int32) (t0_1 : Int32) (t0_2 : Int32) (t0_3 : Int64) (t0_4 : Int32) (t0_5 : Int32) (t0_6 : Int32) (t0_7 : Int32) (t0_8 : Int32) (t0_9 : Int32) (t0_10 : Int32) (t1_0 : (Nat → Int32)) (t2_0 : (Nat → Int32)) (t3_0 : (Nat → Int32)) (t4_0 : (Nat → Int32)) (t5_0 : (Nat → Int32)) (t6_0 : (Nat → Int32)) (a39 : Int32) : Nat → Int32 → (Nat → Int32) → (Int32 × Int32 × Int32 × Int32 × Int64 × Int32 × Int32 × Int32 × Int32 × Int32 × Int32 × Int32 × (Nat → Int32) × (Nat → Int32))
  | 0, _, _ => default
  | fm + 1, lx42, lx43 => if a39 ≤ lx42 then (F_DR_times_L39 (F_DR_times_L14 x2 t0_0 t0_1 t0_2 t0_3 t0_4 t0_5 t0_6 t0_7 t0_8 t0_9 t0_10 t1_0 t2_0 t3_0 t4_0 t5_0 t6_0 a39 fm) x2 t0_0 t0_1 t0_2 t0_3 t0_4 t0_5 t0_6 t0_7 t0_8 t0_9 t0_10 t1_0 t2_0 t3_0 t4_0 t5_0 t6_0 a39 lx42 lx43 (((t0_2 - 1 : Int32).toInt - ((-1))).toNat + 1) (t0_2 - 1 : Int32) lx43) else (F_DR_times_L14 x2 t0_0 t0_1 t0_2 t0_3 t0_4 t0_5 t0_6 t0_7 t0_8 t0_9 t0_10 t1_0 t2_0 t3_0 t4_0 t5_0 t6_0 a39 fm (lx42 + 1 : Int32) (upd lx43 lx42.toNatClampNeg 0 : (Nat → Int32)))
def F_DR_times (x2 : Int32) (t0_0 : Int32) (t0_1 : Int32) (t0_2 : Int32) (t0_3 : Int64) (t0_4 : Int32) (t0_5 : Int32) (t0_6 : Int32) (t0_7 : Int32) (t0_8 : Int32) (t0_9 : Int32) (t0_10 : Int32) (t1_0 : (Nat → Int32)) (t2_0 : (Nat → Int32)) (t3_0 : (Nat → Int32)) (t4_0 : (Nat → Int32)) (t5_0 : (Nat → Int32)) (t6_0 : (Nat → Int32)) : Int32 × Int32 × Int32 × Int32 × Int64 × Int32 × Int32 × Int32 × Int32 × Int32 × Int32 × Int32 × (Nat → Int32) × (Nat → Int32) := F_DR_times_L14 x2 t0_0 t0_1 t0_2 t0_3 t0_4 t0_5 t0_6 t0_7 t0_8 t0_9 t0_10 t1_0 t2_0 t3_0 t4_0 t5_0 t6_0 (t0_2 + (t2_0 x2.toNatClampNeg : Int32) : Int32) ((12200 - (0 : Int32).toInt).toNat + 1) 0 t6_0
def S_DR_times_c219 (K_S_DR_times_L14 : Int32 → (Nat → Int32) → Prop) (K_S_DR_times_L39 : Int32 → (Nat → Int32) → Prop) (K_S_DR_times_L155 : Int32 → (Nat → Int32) → Prop) (x2 : Int32) (t0_0 : Int32) (t0_1 : Int32) (t0_2 : Int32) (t0_3 : Int64) (t0_4 : Int32) (t0_5 : Int32) (t0_6 : Int32) (t0_7 : Int32) (t0_8 : Int32) (t0_9 : Int32) (t0_10 : Int32) (t1_0 : (Nat → Int32)) (t2_0 : (Nat → Int32)) (t3_0 : (Nat → Int32)) (t4_0 : (Nat → Int32)) (t5_0 : (Nat → Int32)) (t6_0 : (Nat → Int32)) (a39 : Int32) (lx42 : Int32) (lx43 : (Nat → Int32)) (lx65 : Int32) (lx66 : (Nat → Int32)) (lx87 : Int32) (lx88 : (Nat → Int32)) (lx109 : Int32) (p179 : (Int32 × Int32 × Int32 × Int64 × Int32 × Int32 × Int32 × Int32 × Int32 × Int32 × Int32 × (Nat → Int32))) : Prop := if (1000 : Int32) < (p179.2.2.1 : Int32) then (True) else (True)
def S_DR_times_J199 (K_S_DR_times_L14 : Int32 → (Nat → Int32) → Prop) (K_S_DR_times_L39 : Int32 → (Nat → Int32) → Prop) (K_S_DR_times_L155 : Int32 → (Nat → Int32) → Prop) (x2 : Int32) (t0_0 : Int32) (t0_1 : Int32) (t0_2 : Int32) (t0_3 : Int64) (t0_4 : Int32) (t0_5 : Int32) (t0_6 : Int32) (t0_7 : Int32) (t0_8 : Int32) (t0_9 : Int32) (t0_10 : Int32) (t1_0 : (Nat → Int32)) (t2_0 : (Nat → Int32)) (t3_0 : (Nat → Int32)) (t4_0 : (Nat → Int32)) (t5_0 : (Nat → Int32)) (t6_0 : (Nat → Int32)) (a39 : Int32) (lx42 : Int32) (lx43 : (Nat → Int32)) (lx65 : Int32) (lx66 : (Nat → Int32)) (lx87 : Int32) (lx88 : (Nat → Int32)) (lx109 : Int32) : Prop := (True ∧ S_DR_trim t0_0 t0_1 a39 (t0_3 + ((t4_0 x2.toNatClampNeg : Int32).toInt64 : Int64) : Int64) t0_4 lx109 t0_6 t0_7 t0_8 t0_9 t0_10 lx88) ∧ (S_DR_times_c219 K_S_DR_times_L14 K_S_DR_times_L39 K_S_DR_times_L155 x2 t0_0 t0_1 t0_2 t0_3 t0_4 t0_5 t0_6 t0_7 t0_8 t0_9 t0_10 t1_0 t2_0 t3_0 t4_0 t5_0 t6_0 a39 lx42 lx43 lx65 lx66 lx87 lx88 lx109 ((F_DR_trim t0_0 t0_1 a39 (t0_3 + ((t4_0 x2.toNatClampNeg : Int32).toInt64 : Int64) : Int64) t0_4 lx109 t0_6 t0_7 t0_8 t0_9 t0_10 lx88) : (Int32 × Int32 × Int32 × Int64 × Int32 × Int32 × Int32 × Int32 × Int32 × Int32 × Int32 × (Nat → Int32))))
def S_DR_times_L155 (K_S_DR_times_L14 : Int32 → (Nat → Int32) → Prop) (K_S_DR_times_L39 : Int32 → (Nat → Int32) → Prop) (x2 : Int32) (t0_0 : Int32) (t0_1 : Int32) (t0_2 : Int32) (t0_3 : Int64) (t0_4 : Int32) (t0_5 : Int32) (t0_6 : Int32) (t0_7 : Int32) (t0_8 : Int32) (t0_9 : Int32) (t0_10 : Int32) (t1_0 : (Nat → Int32)) (t2_0 : (Nat → Int32)) (t3_0 : (Nat → Int32)) (t4_0 : (Nat → Int32)) (t5_0 : (Nat → Int32)) (t6_0 : (Nat → Int32)) (a39 : Int32) (lx42 : Int32) (lx43 : (Nat → Int32)) (lx65 : Int32) (lx66 : (Nat → Int32)) : Nat → Int32 → (Nat → Int32) → Prop
  | 0, _, _ => False
  | fm + 1, lx87, lx88 => if a39 ≤ lx87 then (if t0_5 = (t3_0 x2.toNatClampNeg : Int32) then (S_DR_times_J199 K_S_DR_times_L14 K_S_DR_times_L39 (S_DR_times_L155 K_S_DR_times_L14 K_S_DR_times_L39 x2 t0_0 t0_1 t0_2 t0_3 t0_4 t0_5 t0_6 t0_7 t0_8 t0_9 t0_10 t1_0 t2_0 t3_0 t4_0 t5_0 t6_0 a39 lx42 lx43 lx65 lx66 fm) x2 t0_0 t0_1 t0_2 t0_3 t0_4 t0_5 t0_6 t0_7 t0_8 t0_9 t0_10 t1_0 t2_0 t3_0 t4_0 t5_0 t6_0 a39 lx42 lx43 lx65 lx66 lx87 lx88 0) else (S_DR_times_J199 K_S_DR_times_L14 K_S_DR_times_L39 (S_DR_times_L155 K_S_DR_times_L14 K_S_DR_times_L39 x2 t0_0 t0_1 t0_2 t0_3 t0_4 t0_5 t0_6 t0_7 t0_8 t0_9 t0_10 t1_0 t2_0 t3_0 t4_0 t5_0 t6_0 a39 lx42 lx43 lx65 lx66 fm) x2 t0_0 t0_1 t0_2 t0_3 t0_4 t0_5 t0_6 t0_7 t0_8 t0_9 t0_10 t1_0 t2_0 t3_0 t4_0 t5_0 t6_0 a39 lx42 lx43 lx65 lx66 lx87 lx88 1)) else ((lx87.toInt ≤ 4399) ∧ (S_DR_times_L155 K_S_DR_times_L14 K_S_DR_times_L39 x2 t0_0 t0_1 t0_2 t0_3 t0_4 t0_5 t0_6 t0_7 t0_8 t0_9 t0_10 t1_0 t2_0 t3_0 t4_0 t5_0 t6_0 a39 lx42 lx43 lx65 lx66 fm (lx87 + 1 : Int32) (upd lx88 lx87.toNatClampNeg (lx66 lx87.toNatClampNeg : Int32) : (Nat → Int32))))
def S_DR_times_L56 (K_S_DR_times_L14 : Int32 → (Nat → Int32) → Prop) (K_S_DR_times_L39 : Int32 → (Nat → Int32) → Prop) (x2 : Int32) (t0_0 : Int32) (t0_1 : Int32) (t0_2 : Int32) (t0_3 : Int64) (t0_4 : Int32) (t0_5 : Int32) (t0_6 : Int32) (t0_7 : Int32) (t0_8 : Int32) (t0_9 : Int32) (t0_10 : Int32) (t1_0 : (Nat → Int32)) (t2_0 : (Nat → Int32)) (t3_0 : (Nat → Int32)) (t4_0 : (Nat → Int32)) (t5_0 : (Nat → Int32)) (t6_0 : (Nat → Int32)) (a39 : Int32) (lx42 : Int32) (lx43 : (Nat → Int32)) (lx65 : Int32) (lx66 : (Nat → Int32)) : Nat → Int32 → Int32 → (Nat → Int32) → Prop
  | 0, _, _, _ => False
  | fm + 1, lx222, lx223, lx224 => if lx222 < (0 : Int32) then ((lx65.toInt ≤ 4399) ∧ (K_S_DR_times_L39 (lx65 + (-1) : Int32) (upd lx224 lx65.toNatClampNeg ((lx224 lx65.toNatClampNeg : Int32) + lx223 : Int32) : (Nat → Int32)))) else ((0 ≤ ((lx65 + lx222 : Int32) + 1 : Int32).toInt) ∧ ((((lx65 + lx222 : Int32) + 1 : Int32).toInt ≤ 4399) ∧ ((lx65.toInt ≤ 4399) ∧ ((0 ≤ ((1000 * x2 : Int32) + lx222 : Int32).toInt) ∧ ((((1000 * x2 : Int32) + lx222 : Int32).toInt ≤ 9999) ∧ ((0 ≤ ((lx65 + lx222 : Int32) + 1 : Int32).toInt) ∧ ((((lx65 + lx222 : Int32) + 1 : Int32).toInt ≤ 4399) ∧ (S_DR_times_L56 K_S_DR_times_L14 K_S_DR_times_L39 x2 t0_0 t0_1 t0_2 t0_3 t0_4 t0_5 t0_6 t0_7 t0_8 t0_9 t0_10 t1_0 t2_0 t3_0 t4_0 t5_0 t6_0 a39 lx42 lx43 lx65 lx66 fm (lx222 + (-1) : Int32) ((((lx224 ((lx65 + lx222 : Int32) + 1 : Int32).toNatClampNeg : Int32) + ((t5_0 lx65.toNatClampNeg : Int32) * (t1_0 ((1000 * x2 : Int32) + lx222 : Int32).toNatClampNeg : Int32) : Int32) : Int32) + lx223 : Int32) / 10 : Int32) (upd lx224 ((lx65 + lx222 : Int32) + 1 : Int32).toNatClampNeg ((((lx224 ((lx65 + lx222 : Int32) + 1 : Int32).toNatClampNeg : Int32) + ((t5_0 lx65.toNatClampNeg : Int32) * (t1_0 ((1000 * x2 : Int32) + lx222 : Int32).toNatClampNeg : Int32) : Int32) : Int32) + lx223 : Int32) - (((lx224 ((lx65 + lx222 : Int32) + 1 : Int32).toNatClampNeg : Int32) + ((t5_0 lx65.toNatClampNeg : Int32) * (t1_0 ((1000 * x2 : Int32) + lx222 : Int32).toNatClampNeg : Int32) : Int32) : Int32) + lx223 : Int32) / 10 * 10 : Int32) : (Nat → Int32))))))))))
def S_DR_times_L39 (K_S_DR_times_L14 : Int32 → (Nat → Int32) → Prop) (x2 : Int32) (t0_0 : Int32) (t0_1 : Int32) (t0_2 : Int32) (t0_3 : Int64) (t0_4 : Int32) (t0_5 : Int32) (t0_6 : Int32) (t0_7 : Int32) (t0_8 : Int32) (t0_9 : Int32) (t0_10 : Int32) (t1_0 : (Nat → Int32)) (t2_0 : (Nat → Int32)) (t3_0 : (Nat → Int32)) (t4_0 : (Nat → Int32)) (t5_0 : (Nat → Int32)) (t6_0 : (Nat → Int32)) (a39 : Int32) (lx42 : Int32) (lx43 : (Nat → Int32)) : Nat → Int32 → (Nat → Int32) → Prop
  | 0, _, _ => False
  | fm + 1, lx65, lx66 => if lx65 < (0 : Int32) then (S_DR_times_L155 K_S_DR_times_L14 (S_DR_times_L39 K_S_DR_times_L14 x2 t0_0 t0_1 t0_2 t0_3 t0_4 t0_5 t0_6 t0_7 t0_8 t0_9 t0_10 t1_0 t2_0 t3_0 t4_0 t5_0 t6_0 a39 lx42 lx43 fm) x2 t0_0 t0_1 t0_2 t0_3 t0_4 t0_5 t0_6 t0_7 t0_8 t0_9 t0_10 t1_0 t2_0 t3_0 t4_0 t5_0 t6_0 a39 lx42 lx43 lx65 lx66 ((12200 - (0 : Int32).toInt).toNat + 1) 0 t5_0) else (S_DR_times_L56 K_S_DR_times_L14 (S_DR_times_L39 K_S_DR_times_L14 x2 t0_0 t0_1 t0_2 t0_3 t0_4 t0_5 t0_6 t0_7 t0_8 t0_9 t0_10 t1_0 t2_0 t3_0 t4_0 t5_0 t6_0 a39 lx42 lx43 fm) x2 t0_0 t0_1 t0_2 t0_3 t0_4 t0_5 t0_6 t0_7 t0_8 t0_9 t0_10 t1_0 t2_0 t3_0 t4_0 t5_0 t6_0 a39 lx42 lx43 lx65 lx66 ((((t2_0 x2.toNatClampNeg : Int32) - 1 : Int32).toInt - ((-1))).toNat + 1) ((t2_0 x2.toNatClampNeg : Int32) - 1 : Int32) 0 lx66)
def S_DR_times_L14 (x2 : Int32) (t0_0 : Int32) (t0_1 : Int32) (t0_2 : Int32) (t0_3 : Int64) (t0_4 : Int32) (t0_5 : Int32) (t0_6 : Int32) (t0_7 : Int32) (t0_8 : Int32) (t0_9 : Int32) (t0_10 : Int32) (t1_0 : (Nat → Int32)) (t2_0 : (Nat → Int32)) (t3_0 : (Nat → Int32)) (t4_0 : (Nat → Int32)) (t5_0 : (Nat → Int32)) (t6_0 : (Nat → Int32)) (a39 : Int32) : Nat → Int32 → (Nat → Int32) → Prop
  | 0, _, _ => False
  | fm + 1, lx42, lx43 => if a39 ≤ lx42 then (S_DR_times_L39 (S_DR_times_L14 x2 t0_0 t0_1 t0_2 t0_3 t0_4 t0_5 t0_6 t0_7 t0_8 t0_9 t0_10 t1_0 t2_0 t3_0 t4_0 t5_0 t6_0 a39 fm) x2 t0_0 t0_1 t0_2 t0_3 t0_4 t0_5 t0_6 t0_7 t0_8 t0_9 t0_10 t1_0 t2_0 t3_0 t4_0 t5_0 t6_0 a39 lx42 lx43 (((t0_2 - 1 : Int32).toInt - ((-1))).toNat + 1) (t0_2 - 1 : Int32) lx43) else ((lx42.toInt ≤ 4399) ∧ (S_DR_times_L14 x2 t0_0 t0_1 t0_2 t0_3 t0_4 t0_5 t0_6 t0_7 t0_8 t0_9 t0_10 t1_0 t2_0 t3_0 t4_0 t5_0 t6_0 a39 fm (lx42 + 1 : Int32) (upd lx43 lx42.toNatClampNeg 0 : (Nat → Int32))))
def S_DR_times (x2 : Int32) (t0_0 : Int32) (t0_1 : Int32) (t0_2 : Int32) (t0_3 : Int64) (t0_4 : Int32) (t0_5 : Int32) (t0_6 : Int32) (t0_7 : Int32) (t0_8 : Int32) (t0_9 : Int32) (t0_10 : Int32) (t1_0 : (Nat → Int32)) (t2_0 : (Nat → Int32)) (t3_0 : (Nat → Int32)) (t4_0 : (Nat → Int32)) (t5_0 : (Nat → Int32)) (t6_0 : (Nat → Int32)) : Prop := (0 ≤ x2.toInt) ∧ ((x2.toInt ≤ 9) ∧ (S_DR_times_L14 x2 t0_0 t0_1 t0_2 t0_3 t0_4 t0_5 t0_6 t0_7 t0_8 t0_9 t0_10 t1_0 t2_0 t3_0 t4_0 t5_0 t6_0 (t0_2 + (t2_0 x2.toNatClampNeg : Int32) : Int32) ((12200 - (0 : Int32).toInt).toNat + 1) 0 t6_0))
set_option maxRecDepth 100000 in
set_option maxHeartbeats 4000000 in
theorem X_DR_times (l : Launch) (D : va_G) (g : Nat → ClassId) (q : Nat → Nat) (ws : va_W) (x2 : Int32) (hI : q_I (msh g q) q ws) (t0_0 : Int32) (t0_1 : Int32) (t0_2 : Int32) (t0_3 : Int64) (t0_4 : Int32) (t0_5 : Int32) (t0_6 : Int32) (t0_7 : Int32) (t0_8 : Int32) (t0_9 : Int32) (t0_10 : Int32) (hT0 : ws[134]? = (some (q 134, .inr (14, [.int t0_0, .ref (q 135), .int t0_1, .ref (q 136), .ref (q 137), .ref (q 138), .ref (q 139), .ref (q 140), .int t0_2, .long t0_3, .int t0_4, .int t0_5, .ref (q 141), .int t0_6, .ref (q 142), .int t0_7, .ref (q 143), .int t0_8, .ref (q 144), .int t0_9, .int t0_10])) : Option (Nat × va_E))) (t1_0 : (Nat → Int32)) (hT1 : ws[136]? = (some (q 136, .inl (g 0, (10000 : Int32).toNatClampNeg, .inl t1_0)) : Option (Nat × va_E))) (t2_0 : (Nat → Int32)) (hT2 : ws[137]? = (some (q 137, .inl (g 0, (10 : Int32).toNatClampNeg, .inl t2_0)) : Option (Nat × va_E))) (t3_0 : (Nat → Int32)) (hT3 : ws[138]? = (some (q 138, .inl (g 3, 10, .inl t3_0)) : Option (Nat × va_E))) (t4_0 : (Nat → Int32)) (hT4 : ws[139]? = (some (q 139, .inl (g 0, (10 : Int32).toNatClampNeg, .inl t4_0)) : Option (Nat × va_E))) (t5_0 : (Nat → Int32)) (hT5 : ws[140]? = (some (q 140, .inl (g 0, (4400 : Int32).toNatClampNeg, .inl t5_0)) : Option (Nat × va_E))) (t6_0 : (Nat → Int32)) (hT6 : ws[141]? = (some (q 141, .inl (g 0, (4400 : Int32).toNatClampNeg, .inl t6_0)) : Option (Nat × va_E))) (hS : True ∧ S_DR_times x2 t0_0 t0_1 t0_2 t0_3 t0_4 t0_5 t0_6 t0_7 t0_8 t0_9 t0_10 t1_0 t2_0 t3_0 t4_0 t5_0 t6_0) : q_mI l y_DR_times prog_15_method_27_code 7 (.boolean) 2 0 0 D g [.ref (q 134), .int x2] ws (fun r u => q_I (msh g q) q u ∧ q_un ws u [134, 140, 141] ∧ ∃ (u0_0 : Int32) (u0_1 : Int32) (u0_2 : Int32) (u0_3 : Int64) (u0_4 : Int32) (u0_5 : Int32) (u0_6 : Int32) (u0_7 : Int32) (u0_8 : Int32) (u0_9 : Int32) (u0_10 : Int32) (u5_0 : (Nat → Int32)) (u6_0 : (Nat → Int32)), u[134]? = (some (q 134, .inr (14, [.int u0_0, .ref (q 135), .int u0_1, .ref (q 136), .ref (q 137), .ref (q 138), .ref (q 139), .ref (q 140), .int u0_2, .long u0_3, .int u0_4, .int u0_5, .ref (q 141), .int u0_6, .ref (q 142), .int u0_7, .ref (q 143), .int u0_8, .ref (q 144), .int u0_9, .int u0_10])) : Option (Nat × va_E)) ∧ u[140]? = (some (q 140, .inl (g 0, (4400 : Int32).toNatClampNeg, .inl u5_0)) : Option (Nat × va_E)) ∧ u[141]? = (some (q 141, .inl (g 0, (4400 : Int32).toNatClampNeg, .inl u6_0)) : Option (Nat × va_E)) ∧ (0 ≤ r.toInt) ∧ (r.toInt ≤ 1) ∧ (0 ≤ u0_5.toInt) ∧ (u0_5.toInt ≤ 1) ∧ (x2.toInt ≤ r.toInt + 9) ∧ (r.toInt ≤ x2.toInt + 1) ∧ (t0_0.toInt ≤ u0_0.toInt) ∧ (u0_0.toInt ≤ t0_0.toInt) ∧ (x2.toInt ≤ u0_1.toInt + 9) ∧ (u0_1.toInt ≤ x2.toInt + 4100) ∧ (t0_1.toInt ≤ u0_1.toInt) ∧ (u0_1.toInt ≤ t0_1.toInt) ∧ (x2.toInt ≤ u0_4.toInt + 9) ∧ (u0_4.toInt ≤ x2.toInt + 1) ∧ (t0_4.toInt ≤ u0_4.toInt) ∧ (u0_4.toInt ≤ t0_4.toInt) ∧ (x2.toInt ≤ u0_5.toInt + 9) ∧ (u0_5.toInt ≤ x2.toInt + 1) ∧ (t0_6.toInt ≤ u0_6.toInt) ∧ (u0_6.toInt ≤ t0_6.toInt) ∧ (t0_7.toInt ≤ u0_7.toInt) ∧ (u0_7.toInt ≤ t0_7.toInt) ∧ (t0_8.toInt ≤ u0_8.toInt) ∧ (u0_8.toInt ≤ t0_8.toInt) ∧ (x2.toInt ≤ u0_9.toInt + 9) ∧ (u0_9.toInt ≤ x2.toInt + 12200) ∧ (t0_9.toInt ≤ u0_9.toInt) ∧ (u0_9.toInt ≤ t0_9.toInt) ∧ (t0_10.toInt ≤ u0_10.toInt) ∧ (u0_10.toInt ≤ t0_10.toInt) ∧ (r, u0_0, u0_1, u0_2, u0_3, u0_4, u0_5, u0_6, u0_7, u0_8, u0_9, u0_10, u5_0, u6_0) = (F_DR_times x2 t0_0 t0_1 t0_2 t0_3 t0_4 t0_5 t0_6 t0_7 t0_8 t0_9 t0_10 t1_0 t2_0 t3_0 t4_0 t5_0 t6_0)) := by
  intro sz
  refine q_into (by decide) (Nat.le_of_ble_eq_true rfl) ?_
  intro p e s m below meth c ls hsz C0 V hl
  have hx := C0.1
  have hb := C0.2.1
  obtain ⟨btt0_1, hZ9⟩ := n_w134 hI hT0
  obtain ⟨btt0_4, hZ9⟩ := hZ9
  obtain ⟨btt0_5, btt0_9⟩ := hZ9
  replace btt0_1 : q_F (0 ≤ t0_1.toInt ∧ t0_1.toInt ≤ 4100) := btt0_1
  replace btt0_4 : q_F (0 ≤ t0_4.toInt ∧ t0_4.toInt ≤ 1) := btt0_4
  replace btt0_5 : q_F (0 ≤ t0_5.toInt ∧ t0_5.toInt ≤ 1) := btt0_5
  replace btt0_9 : q_F (0 ≤ t0_9.toInt ∧ t0_9.toInt ≤ 12200) := btt0_9
  have hF : q_un ws ws [134, 140, 141] := q_u0
  have hl : lv_has ls 7 [(0, .ref (q 134)), (1, .int x2)] := hl
  refine lv_aload_n hx hb d_15_27_0 rfl (lv_at hl 0 rfl) ?_
  refine q_get (ci := 14) (j := 8) (v := .int t0_2) C0 V i_DR rfl rfl hT0 (by decide) w_2011 rfl d_15_27_1 ?_
  refine lv_aload_n hx hb d_15_27_4 rfl (lv_at hl 0 rfl) ?_
  refine q_get (ci := 14) (j := 4) (v := .ref (q 137)) C0 V i_DR rfl rfl hT0 (by decide) w_2004 rfl d_15_27_5 ?_
  refine lv_iload_n hx hb d_15_27_8 rfl (lv_at hl 1 rfl) ?_
  have ob35 : q_F (0 ≤ x2.toInt) := (by have h := hS; rw [S_DR_times.eq_1] at h; exact h.2.1)
  have ob36 : q_F (x2.toInt ≤ 9) := (by have h := hS; rw [S_DR_times.eq_1] at h; replace h := q_s2 h; exact h.2.1)
  refine q_iald C0 V hT2 (q_ix (x := x2.toInt) rfl (by first | with_reducible exact q_fe ob35 | (have t1 : 0 ≤ x2.toInt := ob35; omega)) (by have t1 : 0 ≤ x2.toInt := ob35; have t2 : x2.toInt ≤ 9 := ob36; have e9 : (((10 : Int32).toNatClampNeg : Nat) : Int) = 10 := (by decide); omega)) d_15_27_9 ?_
  obtain ⟨a37, e38⟩ := q_nm (t2_0 x2.toNatClampNeg : Int32)
  refine q_ti (v := a37) e38 ?_
  refine lv_iadd hx hb d_15_27_10 ?_
  obtain ⟨a39, e40⟩ := q_nm (t0_2 + a37 : Int32)
  refine q_ti (v := a39) e40 ?_
  refine lv_istore_n (lv' := [(2, .int a39), (0, .ref (q 134)), (1, .int x2)]) hx hb d_15_27_11 rfl hl (by decide) rfl (fun ls hl => ?_)
  refine lv_iconst (v := 0) hx hb d_15_27_12 (by decide) ?_
  refine lv_istore_n (lv' := [(3, .int 0), (2, .int a39), (0, .ref (q 134)), (1, .int x2)]) hx hb d_15_27_13 rfl hl (by decide) rfl (fun ls hl => ?_)
  refine q_loop (X := Int32 × (Nat → Int32)) (fun z H locs ls w47 => q_F (0 ≤ z.1.toInt) ∧ q_F (z.1.toInt ≤ 12200) ∧ q_Wd D g (va_A ws sz) s w47 H locs ∧ lv_has ls 7 [(3, .int z.1), (2, .int a39), (0, .ref (q 134)), (1, .int x2)] ∧ q_I (msh g q) q w47 ∧ q_un ws w47 [134, 140, 141] ∧ w47[134]? = (some (q 134, .inr (14, [.int t0_0, .ref (q 135), .int t0_1, .ref (q 136), .ref (q 137), .ref (q 138), .ref (q 139), .ref (q 140), .int t0_2, .long t0_3, .int t0_4, .int t0_5, .ref (q 141), .int t0_6, .ref (q 142), .int t0_7, .ref (q 143), .int t0_8, .ref (q 144), .int t0_9, .int t0_10])) : Option (Nat × va_E)) ∧ w47[136]? = (some (q 136, .inl (g 0, (10000 : Int32).toNatClampNeg, .inl t1_0)) : Option (Nat × va_E)) ∧ w47[137]? = (some (q 137, .inl (g 0, (10 : Int32).toNatClampNeg, .inl t2_0)) : Option (Nat × va_E)) ∧ w47[138]? = (some (q 138, .inl (g 3, 10, .inl t3_0)) : Option (Nat × va_E)) ∧ w47[139]? = (some (q 139, .inl (g 0, (10 : Int32).toNatClampNeg, .inl t4_0)) : Option (Nat × va_E)) ∧ w47[140]? = (some (q 140, .inl (g 0, (4400 : Int32).toNatClampNeg, .inl t5_0)) : Option (Nat × va_E)) ∧ w47[141]? = (some (q 141, .inl (g 0, (4400 : Int32).toNatClampNeg, .inl z.2)) : Option (Nat × va_E)) ∧ (∃ n, (12200 - z.1.toInt).toNat < n ∧ F_DR_times_L14 x2 t0_0 t0_1 t0_2 t0_3 t0_4 t0_5 t0_6 t0_7 t0_8 t0_9 t0_10 t1_0 t2_0 t3_0 t4_0 t5_0 t6_0 a39 n z.1 z.2 = (F_DR_times x2 t0_0 t0_1 t0_2 t0_3 t0_4 t0_5 t0_6 t0_7 t0_8 t0_9 t0_10 t1_0 t2_0 t3_0 t4_0 t5_0 t6_0) ∧ True ∧ S_DR_times_L14 x2 t0_0 t0_1 t0_2 t0_3 t0_4 t0_5 t0_6 t0_7 t0_8 t0_9 t0_10 t1_0 t2_0 t3_0 t4_0 t5_0 t6_0 a39 n z.1 z.2)) (fun z => (12200 - z.1.toInt).toNat) ?_ ((0 : Int32), (t6_0 : (Nat → Int32))) _ _ _ ws ⟨(show q_F (0 ≤ 0) from (show 0 ≤ 0 from by omega)), (show q_F (0 ≤ 12200) from (show 0 ≤ 12200 from by omega)), V, q_lw hl (q_lw1 0 rfl (q_lw1 1 rfl (q_lw1 2 rfl (q_lw1 3 rfl q_lw0)))), hI, hF, hT0, hT1, hT2, hT3, hT4, hT5, hT6, ⟨((12200 - (0 : Int32).toInt).toNat + 1), Nat.lt_succ_self _, (show F_DR_times_L14 x2 t0_0 t0_1 t0_2 t0_3 t0_4 t0_5 t0_6 t0_7 t0_8 t0_9 t0_10 t1_0 t2_0 t3_0 t4_0 t5_0 t6_0 a39 ((12200 - (0 : Int32).toInt).toNat + 1) 0 t6_0 = (F_DR_times x2 t0_0 t0_1 t0_2 t0_3 t0_4 t0_5 t0_6 t0_7 t0_8 t0_9 t0_10 t1_0 t2_0 t3_0 t4_0 t5_0 t6_0) from (by rw [← e40, ← e38, F_DR_times.eq_1])), (show True ∧ S_DR_times_L14 x2 t0_0 t0_1 t0_2 t0_3 t0_4 t0_5 t0_6 t0_7 t0_8 t0_9 t0_10 t1_0 t2_0 t3_0 t4_0 t5_0 t6_0 a39 ((12200 - (0 : Int32).toInt).toNat + 1) 0 t6_0 from (by rw [← e40, ← e38]; have h := hS; rw [S_DR_times.eq_1] at h; replace h := q_s2 h; replace h := q_s2 h; with_reducible exact h))⟩⟩
  rintro ⟨lx42, lx43⟩ H locs ls w47 ⟨i44, i45, V, hl, hI, hF, hO48, hO49, hO50, hO51, hO52, hO53, hO54, ⟨fu57, hf58, hR55, hS56⟩⟩ ih46
  obtain ⟨fm59, rfl⟩ : ∃ m, fu57 = m + 1 := ⟨fu57 - 1, by omega⟩
  replace i44 : q_F (0 ≤ lx42.toInt) := i44
  replace i45 : q_F (lx42.toInt ≤ 12200) := i45
  replace hl : lv_has ls 7 [(3, .int lx42), (2, .int a39), (0, .ref (q 134)), (1, .int x2)] := hl
  replace hO48 : w47[134]? = (some (q 134, .inr (14, [.int t0_0, .ref (q 135), .int t0_1, .ref (q 136), .ref (q 137), .ref (q 138), .ref (q 139), .ref (q 140), .int t0_2, .long t0_3, .int t0_4, .int t0_5, .ref (q 141), .int t0_6, .ref (q 142), .int t0_7, .ref (q 143), .int t0_8, .ref (q 144), .int t0_9, .int t0_10])) : Option (Nat × va_E)) := hO48
  replace hO49 : w47[136]? = (some (q 136, .inl (g 0, (10000 : Int32).toNatClampNeg, .inl t1_0)) : Option (Nat × va_E)) := hO49
  replace hO50 : w47[137]? = (some (q 137, .inl (g 0, (10 : Int32).toNatClampNeg, .inl t2_0)) : Option (Nat × va_E)) := hO50
  replace hO51 : w47[138]? = (some (q 138, .inl (g 3, 10, .inl t3_0)) : Option (Nat × va_E)) := hO51
  replace hO52 : w47[139]? = (some (q 139, .inl (g 0, (10 : Int32).toNatClampNeg, .inl t4_0)) : Option (Nat × va_E)) := hO52
  replace hO53 : w47[140]? = (some (q 140, .inl (g 0, (4400 : Int32).toNatClampNeg, .inl t5_0)) : Option (Nat × va_E)) := hO53
  replace hO54 : w47[141]? = (some (q 141, .inl (g 0, (4400 : Int32).toNatClampNeg, .inl lx43)) : Option (Nat × va_E)) := hO54
  refine lv_iload_n hx hb d_15_27_14 rfl (lv_at hl 0 rfl) ?_
  refine lv_iload_n hx hb d_15_27_15 rfl (lv_at hl 1 rfl) ?_
  refine lv_icmp_ge (tgt := 32) hx hb d_15_27_16 (by decide) (fun c60 => ?_) (fun c60 => ?_)
  ·
    refine lv_aload_n hx hb d_15_27_32 rfl (lv_at hl 2 rfl) ?_
    refine q_get (ci := 14) (j := 8) (v := .int t0_2) C0 V i_DR rfl rfl hO48 (by decide) w_2011 rfl d_15_27_33 ?_
    refine lv_iconst (v := 1) hx hb d_15_27_36 (by decide) ?_
    refine lv_isub hx hb d_15_27_37 ?_
    obtain ⟨a62, e63⟩ := q_nm (t0_2 - 1 : Int32)
    refine q_ti (v := a62) e63 ?_
    refine lv_istore_n (lv' := [(3, .int a62), (2, .int a39), (0, .ref (q 134)), (1, .int x2)]) hx hb d_15_27_38 rfl hl (by decide) rfl (fun ls hl => ?_)
    refine q_loop (X := Int32 × (Nat → Int32)) (fun z H locs ls w69 => q_F (z.1.toInt ≤ a62.toInt) ∧ q_Wd D g (va_A ws sz) s w69 H locs ∧ lv_has ls 7 [(3, .int z.1), (2, .int a39), (0, .ref (q 134)), (1, .int x2)] ∧ q_I (msh g q) q w69 ∧ q_un ws w69 [134, 140, 141] ∧ w69[134]? = (some (q 134, .inr (14, [.int t0_0, .ref (q 135), .int t0_1, .ref (q 136), .ref (q 137), .ref (q 138), .ref (q 139), .ref (q 140), .int t0_2, .long t0_3, .int t0_4, .int t0_5, .ref (q 141), .int t0_6, .ref (q 142), .int t0_7, .ref (q 143), .int t0_8, .ref (q 144), .int t0_9, .int t0_10])) : Option (Nat × va_E)) ∧ w69[136]? = (some (q 136, .inl (g 0, (10000 : Int32).toNatClampNeg, .inl t1_0)) : Option (Nat × va_E)) ∧ w69[137]? = (some (q 137, .inl (g 0, (10 : Int32).toNatClampNeg, .inl t2_0)) : Option (Nat × va_E)) ∧ w69[138]? = (some (q 138, .inl (g 3, 10, .inl t3_0)) : Option (Nat × va_E)) ∧ w69[139]? = (some (q 139, .inl (g 0, (10 : Int32).toNatClampNeg, .inl t4_0)) : Option (Nat × va_E)) ∧ w69[140]? = (some (q 140, .inl (g 0, (4400 : Int32).toNatClampNeg, .inl t5_0)) : Option (Nat × va_E)) ∧ w69[141]? = (some (q 141, .inl (g 0, (4400 : Int32).toNatClampNeg, .inl z.2)) : Option (Nat × va_E)) ∧ (∃ n, (z.1.toInt - ((-1))).toNat < n ∧ F_DR_times_L39 (F_DR_times_L14 x2 t0_0 t0_1 t0_2 t0_3 t0_4 t0_5 t0_6 t0_7 t0_8 t0_9 t0_10 t1_0 t2_0 t3_0 t4_0 t5_0 t6_0 a39 fm59) x2 t0_0 t0_1 t0_2 t0_3 t0_4 t0_5 t0_6 t0_7 t0_8 t0_9 t0_10 t1_0 t2_0 t3_0 t4_0 t5_0 t6_0 a39 lx42 lx43 n z.1 z.2 = (F_DR_times x2 t0_0 t0_1 t0_2 t0_3 t0_4 t0_5 t0_6 t0_7 t0_8 t0_9 t0_10 t1_0 t2_0 t3_0 t4_0 t5_0 t6_0) ∧ True ∧ S_DR_times_L39 (S_DR_times_L14 x2 t0_0 t0_1 t0_2 t0_3 t0_4 t0_5 t0_6 t0_7 t0_8 t0_9 t0_10 t1_0 t2_0 t3_0 t4_0 t5_0 t6_0 a39 fm59) x2 t0_0 t0_1 t0_2 t0_3 t0_4 t0_5 t0_6 t0_7 t0_8 t0_9 t0_10 t1_0 t2_0 t3_0 t4_0 t5_0 t6_0 a39 lx42 lx43 n z.1 z.2)) (fun z => (z.1.toInt - ((-1))).toNat) ?_ ((a62 : Int32), (lx43 : (Nat → Int32))) _ _ _ w47 ⟨(show q_F (a62.toInt ≤ a62.toInt) from (show a62.toInt ≤ a62.toInt from by omega)), V, q_lw hl (q_lw1 0 rfl (q_lw1 1 rfl (q_lw1 2 rfl (q_lw1 3 rfl q_lw0)))), hI, hF, hO48, hO49, hO50, hO51, hO52, hO53, hO54, ⟨((a62.toInt - ((-1))).toNat + 1), Nat.lt_succ_self _, (show F_DR_times_L39 (F_DR_times_L14 x2 t0_0 t0_1 t0_2 t0_3 t0_4 t0_5 t0_6 t0_7 t0_8 t0_9 t0_10 t1_0 t2_0 t3_0 t4_0 t5_0 t6_0 a39 fm59) x2 t0_0 t0_1 t0_2 t0_3 t0_4 t0_5 t0_6 t0_7 t0_8 t0_9 t0_10 t1_0 t2_0 t3_0 t4_0 t5_0 t6_0 a39 lx42 lx43 ((a62.toInt - ((-1))).toNat + 1) a62 lx43 = (F_DR_times x2 t0_0 t0_1 t0_2 t0_3 t0_4 t0_5 t0_6 t0_7 t0_8 t0_9 t0_10 t1_0 t2_0 t3_0 t4_0 t5_0 t6_0) from Eq.trans (by rw [← e63, F_DR_times_L14.eq_2, if_pos c60]) hR55), (show True ∧ S_DR_times_L39 (S_DR_times_L14 x2 t0_0 t0_1 t0_2 t0_3 t0_4 t0_5 t0_6 t0_7 t0_8 t0_9 t0_10 t1_0 t2_0 t3_0 t4_0 t5_0 t6_0 a39 fm59) x2 t0_0 t0_1 t0_2 t0_3 t0_4 t0_5 t0_6 t0_7 t0_8 t0_9 t0_10 t1_0 t2_0 t3_0 t4_0 t5_0 t6_0 a39 lx42 lx43 ((a62.toInt - ((-1))).toNat + 1) a62 lx43 from (by rw [← e63]; have h := hS56; rw [S_DR_times_L14.eq_2] at h; rw [if_pos c60] at h; with_reducible exact h))⟩⟩
    rintro ⟨lx65, lx66⟩ H locs ls w69 ⟨i67, V, hl, hI, hF, hO70, hO71, hO72, hO73, hO74, hO75, hO76, ⟨fu79, hf80, hR77, hS78⟩⟩ ih68
    obtain ⟨fm81, rfl⟩ : ∃ m, fu79 = m + 1 := ⟨fu79 - 1, by omega⟩
    replace i67 : q_F (lx65.toInt ≤ a62.toInt) := i67
    replace hl : lv_has ls 7 [(3, .int lx65), (2, .int a39), (0, .ref (q 134)), (1, .int x2)] := hl
    replace hO70 : w69[134]? = (some (q 134, .inr (14, [.int t0_0, .ref (q 135), .int t0_1, .ref (q 136), .ref (q 137), .ref (q 138), .ref (q 139), .ref (q 140), .int t0_2, .long t0_3, .int t0_4, .int t0_5, .ref (q 141), .int t0_6, .ref (q 142), .int t0_7, .ref (q 143), .int t0_8, .ref (q 144), .int t0_9, .int t0_10])) : Option (Nat × va_E)) := hO70
    replace hO71 : w69[136]? = (some (q 136, .inl (g 0, (10000 : Int32).toNatClampNeg, .inl t1_0)) : Option (Nat × va_E)) := hO71
    replace hO72 : w69[137]? = (some (q 137, .inl (g 0, (10 : Int32).toNatClampNeg, .inl t2_0)) : Option (Nat × va_E)) := hO72
    replace hO73 : w69[138]? = (some (q 138, .inl (g 3, 10, .inl t3_0)) : Option (Nat × va_E)) := hO73
    replace hO74 : w69[139]? = (some (q 139, .inl (g 0, (10 : Int32).toNatClampNeg, .inl t4_0)) : Option (Nat × va_E)) := hO74
    replace hO75 : w69[140]? = (some (q 140, .inl (g 0, (4400 : Int32).toNatClampNeg, .inl t5_0)) : Option (Nat × va_E)) := hO75
    replace hO76 : w69[141]? = (some (q 141, .inl (g 0, (4400 : Int32).toNatClampNeg, .inl lx66)) : Option (Nat × va_E)) := hO76
    refine lv_iload_n hx hb d_15_27_39 rfl (lv_at hl 0 rfl) ?_
    refine lv_if_lt (tgt := 148) hx hb d_15_27_40 (by decide) (fun c82 => ?_) (fun c82 => ?_)
    ·
      refine lv_aload_n hx hb d_15_27_148 rfl (lv_at hl 2 rfl) ?_
      refine lv_iload_n hx hb d_15_27_149 rfl (lv_at hl 1 rfl) ?_
      refine q_put (ci := 14) (j := 8) (v := .int a39) (ty := .int) C0 V i_DR o_DR n_DR rfl rfl hO70 (by decide) w_2011 rfl rfl rfl rfl (Nat.le_of_ble_eq_true rfl) d_15_27_150 (fun H locs w84 hu85 hO70 V => ?_)
      replace hO70 : w84[134]? = (some (q 134, .inr (14, [.int t0_0, .ref (q 135), .int t0_1, .ref (q 136), .ref (q 137), .ref (q 138), .ref (q 139), .ref (q 140), .int a39, .long t0_3, .int t0_4, .int t0_5, .ref (q 141), .int t0_6, .ref (q 142), .int t0_7, .ref (q 143), .int t0_8, .ref (q 144), .int t0_9, .int t0_10])) : Option (Nat × va_E)) := hO70
      replace hI := n_p134 hI hu85 hO70 (by first | with_reducible exact q_fe btt0_1 | exact ⟨(by have t1 : 0 ≤ t0_1.toInt ∧ t0_1.toInt ≤ 4100 := btt0_1; omega), (by have t1 : 0 ≤ t0_1.toInt ∧ t0_1.toInt ≤ 4100 := btt0_1; omega)⟩) (by first | with_reducible exact q_fe btt0_4 | exact ⟨(by have t1 : 0 ≤ t0_4.toInt ∧ t0_4.toInt ≤ 1 := btt0_4; omega), (by have t1 : 0 ≤ t0_4.toInt ∧ t0_4.toInt ≤ 1 := btt0_4; omega)⟩) (by first | with_reducible exact q_fe btt0_5 | exact ⟨(by have t1 : 0 ≤ t0_5.toInt ∧ t0_5.toInt ≤ 1 := btt0_5; omega), (by have t1 : 0 ≤ t0_5.toInt ∧ t0_5.toInt ≤ 1 := btt0_5; omega)⟩) (by first | with_reducible exact q_fe btt0_9 | exact ⟨(by have t1 : 0 ≤ t0_9.toInt ∧ t0_9.toInt ≤ 12200 := btt0_9; omega), (by have t1 : 0 ≤ t0_9.toInt ∧ t0_9.toInt ≤ 12200 := btt0_9; omega)⟩)
      replace hO71 := (hu85 _ (by decide)).trans hO71
      replace hO72 := (hu85 _ (by decide)).trans hO72
      replace hO73 := (hu85 _ (by decide)).trans hO73
      replace hO74 := (hu85 _ (by decide)).trans hO74
      replace hO75 := (hu85 _ (by decide)).trans hO75
      replace hO76 := (hu85 _ (by decide)).trans hO76
      replace hF := q_us hF hu85 (by simp)
      refine lv_iconst (v := 0) hx hb d_15_27_153 (by decide) ?_
      refine lv_istore_n (lv' := [(3, .int 0), (2, .int a39), (0, .ref (q 134)), (1, .int x2)]) hx hb d_15_27_154 rfl hl (by decide) rfl (fun ls hl => ?_)
      refine q_loop (X := Int32 × (Nat → Int32)) (fun z H locs ls w92 => q_F (0 ≤ z.1.toInt) ∧ q_F (z.1.toInt ≤ 12200) ∧ q_Wd D g (va_A ws sz) s w92 H locs ∧ lv_has ls 7 [(3, .int z.1), (2, .int a39), (0, .ref (q 134)), (1, .int x2)] ∧ q_I (msh g q) q w92 ∧ q_un ws w92 [134, 140, 141] ∧ w92[134]? = (some (q 134, .inr (14, [.int t0_0, .ref (q 135), .int t0_1, .ref (q 136), .ref (q 137), .ref (q 138), .ref (q 139), .ref (q 140), .int a39, .long t0_3, .int t0_4, .int t0_5, .ref (q 141), .int t0_6, .ref (q 142), .int t0_7, .ref (q 143), .int t0_8, .ref (q 144), .int t0_9, .int t0_10])) : Option (Nat × va_E)) ∧ w92[136]? = (some (q 136, .inl (g 0, (10000 : Int32).toNatClampNeg, .inl t1_0)) : Option (Nat × va_E)) ∧ w92[137]? = (some (q 137, .inl (g 0, (10 : Int32).toNatClampNeg, .inl t2_0)) : Option (Nat × va_E)) ∧ w92[138]? = (some (q 138, .inl (g 3, 10, .inl t3_0)) : Option (Nat × va_E)) ∧ w92[139]? = (some (q 139, .inl (g 0, (10 : Int32).toNatClampNeg, .inl t4_0)) : Option (Nat × va_E)) ∧ w92[140]? = (some (q 140, .inl (g 0, (4400 : Int32).toNatClampNeg, .inl z.2)) : Option (Nat × va_E)) ∧ w92[141]? = (some (q 141, .inl (g 0, (4400 : Int32).toNatClampNeg, .inl lx66)) : Option (Nat × va_E)) ∧ (∃ n, (12200 - z.1.toInt).toNat < n ∧ F_DR_times_L155 (F_DR_times_L14 x2 t0_0 t0_1 t0_2 t0_3 t0_4 t0_5 t0_6 t0_7 t0_8 t0_9 t0_10 t1_0 t2_0 t3_0 t4_0 t5_0 t6_0 a39 fm59) (F_DR_times_L39 (F_DR_times_L14 x2 t0_0 t0_1 t0_2 t0_3 t0_4 t0_5 t0_6 t0_7 t0_8 t0_9 t0_10 t1_0 t2_0 t3_0 t4_0 t5_0 t6_0 a39 fm59) x2 t0_0 t0_1 t0_2 t0_3 t0_4 t0_5 t0_6 t0_7 t0_8 t0_9 t0_10 t1_0 t2_0 t3_0 t4_0 t5_0 t6_0 a39 lx42 lx43 fm81) x2 t0_0 t0_1 t0_2 t0_3 t0_4 t0_5 t0_6 t0_7 t0_8 t0_9 t0_10 t1_0 t2_0 t3_0 t4_0 t5_0 t6_0 a39 lx42 lx43 lx65 lx66 n z.1 z.2 = (F_DR_times x2 t0_0 t0_1 t0_2 t0_3 t0_4 t0_5 t0_6 t0_7 t0_8 t0_9 t0_10 t1_0 t2_0 t3_0 t4_0 t5_0 t6_0) ∧ True ∧ S_DR_times_L155 (S_DR_times_L14 x2 t0_0 t0_1 t0_2 t0_3 t0_4 t0_5 t0_6 t0_7 t0_8 t0_9 t0_10 t1_0 t2_0 t3_0 t4_0 t5_0 t6_0 a39 fm59) (S_DR_times_L39 (S_DR_times_L14 x2 t0_0 t0_1 t0_2 t0_3 t0_4 t0_5 t0_6 t0_7 t0_8 t0_9 t0_10 t1_0 t2_0 t3_0 t4_0 t5_0 t6_0 a39 fm59) x2 t0_0 t0_1 t0_2 t0_3 t0_4 t0_5 t0_6 t0_7 t0_8 t0_9 t0_10 t1_0 t2_0 t3_0 t4_0 t5_0 t6_0 a39 lx42 lx43 fm81) x2 t0_0 t0_1 t0_2 t0_3 t0_4 t0_5 t0_6 t0_7 t0_8 t0_9 t0_10 t1_0 t2_0 t3_0 t4_0 t5_0 t6_0 a39 lx42 lx43 lx65 lx66 n z.1 z.2)) (fun z => (12200 - z.1.toInt).toNat) ?_ ((0 : Int32), (t5_0 : (Nat → Int32))) _ _ _ w84 ⟨(show q_F (0 ≤ 0) from (show 0 ≤ 0 from by omega)), (show q_F (0 ≤ 12200) from (show 0 ≤ 12200 from by omega)), V, q_lw hl (q_lw1 0 rfl (q_lw1 1 rfl (q_lw1 2 rfl (q_lw1 3 rfl q_lw0)))), hI, hF, hO70, hO71, hO72, hO73, hO74, hO75, hO76, ⟨((12200 - (0 : Int32).toInt).toNat + 1), Nat.lt_succ_self _, (show F_DR_times_L155 (F_DR_times_L14 x2 t0_0 t0_1 t0_2 t0_3 t0_4 t0_5 t0_6 t0_7 t0_8 t0_9 t0_10 t1_0 t2_0 t3_0 t4_0 t5_0 t6_0 a39 fm59) (F_DR_times_L39 (F_DR_times_L14 x2 t0_0 t0_1 t0_2 t0_3 t0_4 t0_5 t0_6 t0_7 t0_8 t0_9 t0_10 t1_0 t2_0 t3_0 t4_0 t5_0 t6_0 a39 fm59) x2 t0_0 t0_1 t0_2 t0_3 t0_4 t0_5 t0_6 t0_7 t0_8 t0_9 t0_10 t1_0 t2_0 t3_0 t4_0 t5_0 t6_0 a39 lx42 lx43 fm81) x2 t0_0 t0_1 t0_2 t0_3 t0_4 t0_5 t0_6 t0_7 t0_8 t0_9 t0_10 t1_0 t2_0 t3_0 t4_0 t5_0 t6_0 a39 lx42 lx43 lx65 lx66 ((12200 - (0 : Int32).toInt).toNat + 1) 0 t5_0 = (F_DR_times x2 t0_0 t0_1 t0_2 t0_3 t0_4 t0_5 t0_6 t0_7 t0_8 t0_9 t0_10 t1_0 t2_0 t3_0 t4_0 t5_0 t6_0) from Eq.trans (by rw [F_DR_times_L39.eq_2, if_pos c82]) hR77), (show True ∧ S_DR_times_L155 (S_DR_times_L14 x2 t0_0 t0_1 t0_2 t0_3 t0_4 t0_5 t0_6 t0_7 t0_8 t0_9 t0_10 t1_0 t2_0 t3_0 t4_0 t5_0 t6_0 a39 fm59) (S_DR_times_L39 (S_DR_times_L14 x2 t0_0 t0_1 t0_2 t0_3 t0_4 t0_5 t0_6 t0_7 t0_8 t0_9 t0_10 t1_0 t2_0 t3_0 t4_0 t5_0 t6_0 a39 fm59) x2 t0_0 t0_1 t0_2 t0_3 t0_4 t0_5 t0_6 t0_7 t0_8 t0_9 t0_10 t1_0 t2_0 t3_0 t4_0 t5_0 t6_0 a39 lx42 lx43 fm81) x2 t0_0 t0_1 t0_2 t0_3 t0_4 t0_5 t0_6 t0_7 t0_8 t0_9 t0_10 t1_0 t2_0 t3_0 t4_0 t5_0 t6_0 a39 lx42 lx43 lx65 lx66 ((12200 - (0 : Int32).toInt).toNat + 1) 0 t5_0 from (by have h := hS78; rw [S_DR_times_L39.eq_2] at h; rw [if_pos c82] at h; with_reducible exact h))⟩⟩
      rintro ⟨lx87, lx88⟩ H locs ls w92 ⟨i89, i90, V, hl, hI, hF, hO93, hO94, hO95, hO96, hO97, hO98, hO99, ⟨fu102, hf103, hR100, hS101⟩⟩ ih91
      obtain ⟨fm104, rfl⟩ : ∃ m, fu102 = m + 1 := ⟨fu102 - 1, by omega⟩
      replace i89 : q_F (0 ≤ lx87.toInt) := i89
      replace i90 : q_F (lx87.toInt ≤ 12200) := i90
      replace hl : lv_has ls 7 [(3, .int lx87), (2, .int a39), (0, .ref (q 134)), (1, .int x2)] := hl
      replace hO93 : w92[134]? = (some (q 134, .inr (14, [.int t0_0, .ref (q 135), .int t0_1, .ref (q 136), .ref (q 137), .ref (q 138), .ref (q 139), .ref (q 140), .int a39, .long t0_3, .int t0_4, .int t0_5, .ref (q 141), .int t0_6, .ref (q 142), .int t0_7, .ref (q 143), .int t0_8, .ref (q 144), .int t0_9, .int t0_10])) : Option (Nat × va_E)) := hO93
      replace hO94 : w92[136]? = (some (q 136, .inl (g 0, (10000 : Int32).toNatClampNeg, .inl t1_0)) : Option (Nat × va_E)) := hO94
      replace hO95 : w92[137]? = (some (q 137, .inl (g 0, (10 : Int32).toNatClampNeg, .inl t2_0)) : Option (Nat × va_E)) := hO95
      replace hO96 : w92[138]? = (some (q 138, .inl (g 3, 10, .inl t3_0)) : Option (Nat × va_E)) := hO96
      replace hO97 : w92[139]? = (some (q 139, .inl (g 0, (10 : Int32).toNatClampNeg, .inl t4_0)) : Option (Nat × va_E)) := hO97
      replace hO98 : w92[140]? = (some (q 140, .inl (g 0, (4400 : Int32).toNatClampNeg, .inl lx88)) : Option (Nat × va_E)) := hO98
      replace hO99 : w92[141]? = (some (q 141, .inl (g 0, (4400 : Int32).toNatClampNeg, .inl lx66)) : Option (Nat × va_E)) := hO99
      refine lv_iload_n hx hb d_15_27_155 rfl (lv_at hl 0 rfl) ?_
      refine lv_iload_n hx hb d_15_27_156 rfl (lv_at hl 1 rfl) ?_
      refine lv_icmp_ge (tgt := 178) hx hb d_15_27_157 (by decide) (fun c105 => ?_) (fun c105 => ?_)
      ·
        refine lv_aload_n hx hb d_15_27_178 rfl (lv_at hl 2 rfl) ?_
        refine q_get (ci := 14) (j := 11) (v := .int t0_5) C0 V i_DR rfl rfl hO93 (by decide) w_2014 rfl d_15_27_179 ?_
        refine lv_istore_n (lv' := [(3, .int t0_5), (2, .int a39), (0, .ref (q 134)), (1, .int x2)]) hx hb d_15_27_182 rfl hl (by decide) rfl (fun ls hl => ?_)
        refine lv_aload_n hx hb d_15_27_183 rfl (lv_at hl 2 rfl) ?_
        refine lv_iload_n hx hb d_15_27_184 rfl (lv_at hl 0 rfl) ?_
        refine lv_aload_n hx hb d_15_27_185 rfl (lv_at hl 2 rfl) ?_
        refine q_get (ci := 14) (j := 5) (v := .ref (q 138)) C0 V i_DR rfl rfl hO93 (by decide) w_2006 rfl d_15_27_186 ?_
        refine lv_iload_n hx hb d_15_27_189 rfl (lv_at hl 3 rfl) ?_
        refine q_zald C0 V hO96 (q_ix (x := x2.toInt) rfl (by first | with_reducible exact q_fe ob35 | (have t1 : 0 ≤ x2.toInt := ob35; omega)) (by have t1 : 0 ≤ x2.toInt := ob35; have t2 : x2.toInt ≤ 9 := ob36; omega)) d_15_27_190 ?_
        obtain ⟨a107, e108⟩ := q_nm (t3_0 x2.toNatClampNeg : Int32)
        refine q_ti (v := a107) e108 ?_
        refine q_join (X := Int32) (fun z H locs ls _ => q_F (0 ≤ z.toInt) ∧ q_F (z.toInt ≤ 1) ∧ q_Wd D g (va_A ws sz) s w92 H locs ∧ lv_has ls 7 [(0, .ref (q 134)), (1, .int x2)] ∧ F_DR_times_J199 (F_DR_times_L14 x2 t0_0 t0_1 t0_2 t0_3 t0_4 t0_5 t0_6 t0_7 t0_8 t0_9 t0_10 t1_0 t2_0 t3_0 t4_0 t5_0 t6_0 a39 fm59) (F_DR_times_L39 (F_DR_times_L14 x2 t0_0 t0_1 t0_2 t0_3 t0_4 t0_5 t0_6 t0_7 t0_8 t0_9 t0_10 t1_0 t2_0 t3_0 t4_0 t5_0 t6_0 a39 fm59) x2 t0_0 t0_1 t0_2 t0_3 t0_4 t0_5 t0_6 t0_7 t0_8 t0_9 t0_10 t1_0 t2_0 t3_0 t4_0 t5_0 t6_0 a39 lx42 lx43 fm81) (F_DR_times_L155 (F_DR_times_L14 x2 t0_0 t0_1 t0_2 t0_3 t0_4 t0_5 t0_6 t0_7 t0_8 t0_9 t0_10 t1_0 t2_0 t3_0 t4_0 t5_0 t6_0 a39 fm59) (F_DR_times_L39 (F_DR_times_L14 x2 t0_0 t0_1 t0_2 t0_3 t0_4 t0_5 t0_6 t0_7 t0_8 t0_9 t0_10 t1_0 t2_0 t3_0 t4_0 t5_0 t6_0 a39 fm59) x2 t0_0 t0_1 t0_2 t0_3 t0_4 t0_5 t0_6 t0_7 t0_8 t0_9 t0_10 t1_0 t2_0 t3_0 t4_0 t5_0 t6_0 a39 lx42 lx43 fm81) x2 t0_0 t0_1 t0_2 t0_3 t0_4 t0_5 t0_6 t0_7 t0_8 t0_9 t0_10 t1_0 t2_0 t3_0 t4_0 t5_0 t6_0 a39 lx42 lx43 lx65 lx66 fm104) x2 t0_0 t0_1 t0_2 t0_3 t0_4 t0_5 t0_6 t0_7 t0_8 t0_9 t0_10 t1_0 t2_0 t3_0 t4_0 t5_0 t6_0 a39 lx42 lx43 lx65 lx66 lx87 lx88 z = (F_DR_times x2 t0_0 t0_1 t0_2 t0_3 t0_4 t0_5 t0_6 t0_7 t0_8 t0_9 t0_10 t1_0 t2_0 t3_0 t4_0 t5_0 t6_0) ∧ True ∧ S_DR_times_J199 (S_DR_times_L14 x2 t0_0 t0_1 t0_2 t0_3 t0_4 t0_5 t0_6 t0_7 t0_8 t0_9 t0_10 t1_0 t2_0 t3_0 t4_0 t5_0 t6_0 a39 fm59) (S_DR_times_L39 (S_DR_times_L14 x2 t0_0 t0_1 t0_2 t0_3 t0_4 t0_5 t0_6 t0_7 t0_8 t0_9 t0_10 t1_0 t2_0 t3_0 t4_0 t5_0 t6_0 a39 fm59) x2 t0_0 t0_1 t0_2 t0_3 t0_4 t0_5 t0_6 t0_7 t0_8 t0_9 t0_10 t1_0 t2_0 t3_0 t4_0 t5_0 t6_0 a39 lx42 lx43 fm81) (S_DR_times_L155 (S_DR_times_L14 x2 t0_0 t0_1 t0_2 t0_3 t0_4 t0_5 t0_6 t0_7 t0_8 t0_9 t0_10 t1_0 t2_0 t3_0 t4_0 t5_0 t6_0 a39 fm59) (S_DR_times_L39 (S_DR_times_L14 x2 t0_0 t0_1 t0_2 t0_3 t0_4 t0_5 t0_6 t0_7 t0_8 t0_9 t0_10 t1_0 t2_0 t3_0 t4_0 t5_0 t6_0 a39 fm59) x2 t0_0 t0_1 t0_2 t0_3 t0_4 t0_5 t0_6 t0_7 t0_8 t0_9 t0_10 t1_0 t2_0 t3_0 t4_0 t5_0 t6_0 a39 lx42 lx43 fm81) x2 t0_0 t0_1 t0_2 t0_3 t0_4 t0_5 t0_6 t0_7 t0_8 t0_9 t0_10 t1_0 t2_0 t3_0 t4_0 t5_0 t6_0 a39 lx42 lx43 lx65 lx66 fm104) x2 t0_0 t0_1 t0_2 t0_3 t0_4 t0_5 t0_6 t0_7 t0_8 t0_9 t0_10 t1_0 t2_0 t3_0 t4_0 t5_0 t6_0 a39 lx42 lx43 lx65 lx66 lx87 lx88 z) (fun z => [.int z, .ref (q 134)]) 199 0 0 ?_ ?_
        ·
          rintro lx109 H locs ls _ hZ9
          obtain ⟨i118, hZ9⟩ := hZ9
          obtain ⟨i119, hZ9⟩ := hZ9
          obtain ⟨V, hZ9⟩ := hZ9
          obtain ⟨hl, hZ9⟩ := hZ9
          obtain ⟨hR120, hS121⟩ := hZ9
          replace i118 : q_F (0 ≤ lx109.toInt) := i118
          replace i119 : q_F (lx109.toInt ≤ 1) := i119
          replace hl : lv_has ls 7 [(0, .ref (q 134)), (1, .int x2)] := hl
          refine q_put (ci := 14) (j := 11) (v := .int lx109) (ty := .boolean) C0 V i_DR o_DR n_DR rfl rfl hO93 (by decide) w_2014 rfl rfl (q_nz01 (q_Ile (x := 0) (y := lx109.toInt) (by decide) rfl (by first | with_reducible exact q_fe i118 | (have t1 : 0 ≤ lx109.toInt := i118; omega))) (q_Ile (x := lx109.toInt) (y := 1) rfl (by decide) (by first | with_reducible exact q_fe i119 | (have t1 : lx109.toInt ≤ 1 := i119; omega)))) (q_fz01 (q_Ile (x := 0) (y := lx109.toInt) (by decide) rfl (by first | with_reducible exact q_fe i118 | (have t1 : 0 ≤ lx109.toInt := i118; omega))) (q_Ile (x := lx109.toInt) (y := 1) rfl (by decide) (by first | with_reducible exact q_fe i119 | (have t1 : lx109.toInt ≤ 1 := i119; omega)))) (Nat.le_of_ble_eq_true rfl) d_15_27_199 (fun H locs w125 hu126 hO93 V => ?_)
          replace hO93 : w125[134]? = (some (q 134, .inr (14, [.int t0_0, .ref (q 135), .int t0_1, .ref (q 136), .ref (q 137), .ref (q 138), .ref (q 139), .ref (q 140), .int a39, .long t0_3, .int t0_4, .int lx109, .ref (q 141), .int t0_6, .ref (q 142), .int t0_7, .ref (q 143), .int t0_8, .ref (q 144), .int t0_9, .int t0_10])) : Option (Nat × va_E)) := hO93
          replace hI := n_p134 hI hu126 hO93 (by first | with_reducible exact q_fe btt0_1 | exact ⟨(by have t1 : 0 ≤ t0_1.toInt ∧ t0_1.toInt ≤ 4100 := btt0_1; omega), (by have t1 : 0 ≤ t0_1.toInt ∧ t0_1.toInt ≤ 4100 := btt0_1; omega)⟩) (by first | with_reducible exact q_fe btt0_4 | exact ⟨(by have t1 : 0 ≤ t0_4.toInt ∧ t0_4.toInt ≤ 1 := btt0_4; omega), (by have t1 : 0 ≤ t0_4.toInt ∧ t0_4.toInt ≤ 1 := btt0_4; omega)⟩) ⟨(by first | with_reducible exact q_fe i118 | (have t1 : 0 ≤ lx109.toInt := i118; omega)), (by first | with_reducible exact q_fe i119 | (have t1 : lx109.toInt ≤ 1 := i119; omega))⟩ (by first | with_reducible exact q_fe btt0_9 | exact ⟨(by have t1 : 0 ≤ t0_9.toInt ∧ t0_9.toInt ≤ 12200 := btt0_9; omega), (by have t1 : 0 ≤ t0_9.toInt ∧ t0_9.toInt ≤ 12200 := btt0_9; omega)⟩)
          replace hO97 := (hu126 _ (by decide)).trans hO97
          replace hO98 := (hu126 _ (by decide)).trans hO98
          replace hO99 := (hu126 _ (by decide)).trans hO99
          replace hF := q_us hF hu126 (by simp)
          refine lv_aload_n hx hb d_15_27_202 rfl (lv_at hl 0 rfl) ?_
          refine lv_aload_n hx hb d_15_27_203 rfl (lv_at hl 0 rfl) ?_
          refine q_get (ci := 14) (j := 9) (v := .long t0_3) C0 V i_DR rfl rfl hO93 (by decide) w_2012 rfl d_15_27_204 ?_
          refine lv_aload_n hx hb d_15_27_207 rfl (lv_at hl 0 rfl) ?_
          refine q_get (ci := 14) (j := 6) (v := .ref (q 139)) C0 V i_DR rfl rfl hO93 (by decide) w_2008 rfl d_15_27_208 ?_
          refine lv_iload_n hx hb d_15_27_211 rfl (lv_at hl 1 rfl) ?_
          refine q_iald C0 V hO97 (q_ix (x := x2.toInt) rfl (by first | with_reducible exact q_fe ob35 | (have t1 : 0 ≤ x2.toInt := ob35; omega)) (by have t1 : 0 ≤ x2.toInt := ob35; have t2 : x2.toInt ≤ 9 := ob36; have e9 : (((10 : Int32).toNatClampNeg : Nat) : Int) = 10 := (by decide); omega)) d_15_27_212 ?_
          obtain ⟨a127, e128⟩ := q_nm (t4_0 x2.toNatClampNeg : Int32)
          refine q_ti (v := a127) e128 ?_
          refine lv_i2l hx hb d_15_27_213 rfl ?_
          obtain ⟨j129, e130⟩ := q_nm (a127.toInt64 : Int64)
          refine q_tl (v := j129) e130 ?_
          refine lv_ladd hx hb d_15_27_214 ?_
          obtain ⟨j132, e133⟩ := q_nm (t0_3 + j129 : Int64)
          refine q_tl (v := j132) e133 ?_
          refine q_put (ci := 14) (j := 9) (v := .long j132) (ty := .long) C0 V i_DR o_DR n_DR rfl rfl hO93 (by decide) w_2012 rfl rfl rfl rfl (Nat.le_of_ble_eq_true rfl) d_15_27_215 (fun H locs w134 hu135 hO93 V => ?_)
          replace hO93 : w134[134]? = (some (q 134, .inr (14, [.int t0_0, .ref (q 135), .int t0_1, .ref (q 136), .ref (q 137), .ref (q 138), .ref (q 139), .ref (q 140), .int a39, .long j132, .int t0_4, .int lx109, .ref (q 141), .int t0_6, .ref (q 142), .int t0_7, .ref (q 143), .int t0_8, .ref (q 144), .int t0_9, .int t0_10])) : Option (Nat × va_E)) := hO93
          replace hI := n_p134 hI hu135 hO93 (by first | with_reducible exact q_fe btt0_1 | exact ⟨(by have t1 : 0 ≤ t0_1.toInt ∧ t0_1.toInt ≤ 4100 := btt0_1; omega), (by have t1 : 0 ≤ t0_1.toInt ∧ t0_1.toInt ≤ 4100 := btt0_1; omega)⟩) (by first | with_reducible exact q_fe btt0_4 | exact ⟨(by have t1 : 0 ≤ t0_4.toInt ∧ t0_4.toInt ≤ 1 := btt0_4; omega), (by have t1 : 0 ≤ t0_4.toInt ∧ t0_4.toInt ≤ 1 := btt0_4; omega)⟩) ⟨(by first | with_reducible exact q_fe i118 | (have t1 : 0 ≤ lx109.toInt := i118; omega)), (by first | with_reducible exact q_fe i119 | (have t1 : lx109.toInt ≤ 1 := i119; omega))⟩ (by first | with_reducible exact q_fe btt0_9 | exact ⟨(by have t1 : 0 ≤ t0_9.toInt ∧ t0_9.toInt ≤ 12200 := btt0_9; omega), (by have t1 : 0 ≤ t0_9.toInt ∧ t0_9.toInt ≤ 12200 := btt0_9; omega)⟩)
          replace hO98 := (hu135 _ (by decide)).trans hO98
          replace hO99 := (hu135 _ (by decide)).trans hO99
          replace hF := q_us hF hu135 (by simp)
          refine lv_aload_n hx hb d_15_27_218 rfl (lv_at hl 0 rfl) ?_
          have ob136 : True ∧ S_DR_trim t0_0 t0_1 a39 j132 t0_4 lx109 t0_6 t0_7 t0_8 t0_9 t0_10 lx88 := (by rw [← e133, ← e130, ← e128]; have h := hS121; rw [S_DR_times_J199.eq_1] at h; with_reducible exact h.2.1)
          refine q_gov V (q_runV (As := []) (rest := []) (d := 1) (mc := 0) (ms := 0) (ci := 14) C0 V rfl LV_DR_59 (X_DR_trim l D g q w134   hI t0_0 t0_1 a39 j132 t0_4 lx109 t0_6 t0_7 t0_8 t0_9 t0_10 hO93 lx88 hO98 ob136 _) rfl rfl hO93 rfl hl.1 rfl (Nat.le_of_ble_eq_true rfl) ⟨by decide, by decide⟩ ⟨Nat.le_of_ble_eq_true rfl, Nat.le_of_ble_eq_true rfl⟩ d_15_27_219) (fun u137 H locs hp138 V => ?_)
          obtain ⟨hI, hZ9⟩ := hp138
          obtain ⟨hu178, hZ9⟩ := hZ9
          obtain ⟨y140, hZ9⟩ := hZ9
          obtain ⟨y141, hZ9⟩ := hZ9
          obtain ⟨y142, hZ9⟩ := hZ9
          obtain ⟨y143, hZ9⟩ := hZ9
          obtain ⟨y144, hZ9⟩ := hZ9
          obtain ⟨y145, hZ9⟩ := hZ9
          obtain ⟨y146, hZ9⟩ := hZ9
          obtain ⟨y147, hZ9⟩ := hZ9
          obtain ⟨y148, hZ9⟩ := hZ9
          obtain ⟨y149, hZ9⟩ := hZ9
          obtain ⟨y150, hZ9⟩ := hZ9
          obtain ⟨f151, hZ9⟩ := hZ9
          obtain ⟨hO139, hZ9⟩ := hZ9
          obtain ⟨hA152, hZ9⟩ := hZ9
          obtain ⟨b153, hZ9⟩ := hZ9
          obtain ⟨b154, hZ9⟩ := hZ9
          obtain ⟨b155, hZ9⟩ := hZ9
          obtain ⟨b156, hZ9⟩ := hZ9
          obtain ⟨b157, hZ9⟩ := hZ9
          replace hZ9 := hZ9.2.2.2.2
          obtain ⟨b162, hZ9⟩ := hZ9
          obtain ⟨b163, hZ9⟩ := hZ9
          replace hZ9 := hZ9.2
          obtain ⟨b165, hZ9⟩ := hZ9
          obtain ⟨b166, hZ9⟩ := hZ9
          obtain ⟨b167, hZ9⟩ := hZ9
          obtain ⟨b168, hZ9⟩ := hZ9
          obtain ⟨b169, hZ9⟩ := hZ9
          obtain ⟨b170, hZ9⟩ := hZ9
          obtain ⟨b171, hZ9⟩ := hZ9
          replace hZ9 := hZ9.2
          obtain ⟨b173, hZ9⟩ := hZ9
          obtain ⟨b174, hZ9⟩ := hZ9
          obtain ⟨b175, hZ9⟩ := hZ9
          obtain ⟨b176, hE177⟩ := hZ9
          replace hO139 : u137[134]? = (some (q 134, .inr (14, [.int y140, .ref (q 135), .int y141, .ref (q 136), .ref (q 137), .ref (q 138), .ref (q 139), .ref (q 140), .int y142, .long y143, .int y144, .int y145, .ref (q 141), .int y146, .ref (q 142), .int y147, .ref (q 143), .int y148, .ref (q 144), .int y149, .int y150])) : Option (Nat × va_E)) := hO139
          replace hA152 : u137[140]? = (some (q 140, .inl (g 0, (4400 : Int32).toNatClampNeg, .inl f151)) : Option (Nat × va_E)) := hA152
          obtain ⟨p179, e180⟩ : ∃ z, z = (F_DR_trim t0_0 t0_1 a39 j132 t0_4 lx109 t0_6 t0_7 t0_8 t0_9 t0_10 lx88) := ⟨_, rfl⟩
          have e181 : y140 = p179.1 := congrArg (fun z => z.1) (hE177.trans e180.symm)
          have e182 : y141 = p179.2.1 := congrArg (fun z => z.2.1) (hE177.trans e180.symm)
          have e183 : y142 = p179.2.2.1 := congrArg (fun z => z.2.2.1) (hE177.trans e180.symm)
          have e184 : y143 = p179.2.2.2.1 := congrArg (fun z => z.2.2.2.1) (hE177.trans e180.symm)
          have e185 : y144 = p179.2.2.2.2.1 := congrArg (fun z => z.2.2.2.2.1) (hE177.trans e180.symm)
          have e186 : y145 = p179.2.2.2.2.2.1 := congrArg (fun z => z.2.2.2.2.2.1) (hE177.trans e180.symm)
          have e187 : y146 = p179.2.2.2.2.2.2.1 := congrArg (fun z => z.2.2.2.2.2.2.1) (hE177.trans e180.symm)
          have e188 : y147 = p179.2.2.2.2.2.2.2.1 := congrArg (fun z => z.2.2.2.2.2.2.2.1) (hE177.trans e180.symm)
          have e189 : y148 = p179.2.2.2.2.2.2.2.2.1 := congrArg (fun z => z.2.2.2.2.2.2.2.2.1) (hE177.trans e180.symm)
          have e190 : y149 = p179.2.2.2.2.2.2.2.2.2.1 := congrArg (fun z => z.2.2.2.2.2.2.2.2.2.1) (hE177.trans e180.symm)
          have e191 : y150 = p179.2.2.2.2.2.2.2.2.2.2.1 := congrArg (fun z => z.2.2.2.2.2.2.2.2.2.2.1) (hE177.trans e180.symm)
          have e192 : f151 = p179.2.2.2.2.2.2.2.2.2.2.2 := congrArg (fun z => z.2.2.2.2.2.2.2.2.2.2.2) (hE177.trans e180.symm)
          replace b153 : q_F (0 ≤ y145.toInt) := b153
          replace b154 : q_F (t0_0.toInt ≤ y140.toInt) := b154
          replace b155 : q_F (y140.toInt ≤ t0_0.toInt) := b155
          replace b156 : q_F (t0_1.toInt ≤ y141.toInt) := b156
          replace b157 : q_F (y141.toInt ≤ t0_1.toInt) := b157
          replace b162 : q_F (t0_4.toInt ≤ y144.toInt) := b162
          replace b163 : q_F (y144.toInt ≤ t0_4.toInt) := b163
          replace b165 : q_F (y145.toInt ≤ lx109.toInt) := b165
          replace b166 : q_F (t0_6.toInt ≤ y146.toInt) := b166
          replace b167 : q_F (y146.toInt ≤ t0_6.toInt) := b167
          replace b168 : q_F (t0_7.toInt ≤ y147.toInt) := b168
          replace b169 : q_F (y147.toInt ≤ t0_7.toInt) := b169
          replace b170 : q_F (t0_8.toInt ≤ y148.toInt) := b170
          replace b171 : q_F (y148.toInt ≤ t0_8.toInt) := b171
          replace b173 : q_F (t0_9.toInt ≤ y149.toInt) := b173
          replace b174 : q_F (y149.toInt ≤ t0_9.toInt) := b174
          replace b175 : q_F (t0_10.toInt ≤ y150.toInt) := b175
          replace b176 : q_F (y150.toInt ≤ t0_10.toInt) := b176
          replace hO99 := (hu178 _ (by decide)).trans hO99
          replace hF := q_uc hF hu178 (by simp)
          have hR193 := (show F_DR_times_c219 (F_DR_times_L14 x2 t0_0 t0_1 t0_2 t0_3 t0_4 t0_5 t0_6 t0_7 t0_8 t0_9 t0_10 t1_0 t2_0 t3_0 t4_0 t5_0 t6_0 a39 fm59) (F_DR_times_L39 (F_DR_times_L14 x2 t0_0 t0_1 t0_2 t0_3 t0_4 t0_5 t0_6 t0_7 t0_8 t0_9 t0_10 t1_0 t2_0 t3_0 t4_0 t5_0 t6_0 a39 fm59) x2 t0_0 t0_1 t0_2 t0_3 t0_4 t0_5 t0_6 t0_7 t0_8 t0_9 t0_10 t1_0 t2_0 t3_0 t4_0 t5_0 t6_0 a39 lx42 lx43 fm81) (F_DR_times_L155 (F_DR_times_L14 x2 t0_0 t0_1 t0_2 t0_3 t0_4 t0_5 t0_6 t0_7 t0_8 t0_9 t0_10 t1_0 t2_0 t3_0 t4_0 t5_0 t6_0 a39 fm59) (F_DR_times_L39 (F_DR_times_L14 x2 t0_0 t0_1 t0_2 t0_3 t0_4 t0_5 t0_6 t0_7 t0_8 t0_9 t0_10 t1_0 t2_0 t3_0 t4_0 t5_0 t6_0 a39 fm59) x2 t0_0 t0_1 t0_2 t0_3 t0_4 t0_5 t0_6 t0_7 t0_8 t0_9 t0_10 t1_0 t2_0 t3_0 t4_0 t5_0 t6_0 a39 lx42 lx43 fm81) x2 t0_0 t0_1 t0_2 t0_3 t0_4 t0_5 t0_6 t0_7 t0_8 t0_9 t0_10 t1_0 t2_0 t3_0 t4_0 t5_0 t6_0 a39 lx42 lx43 lx65 lx66 fm104) x2 t0_0 t0_1 t0_2 t0_3 t0_4 t0_5 t0_6 t0_7 t0_8 t0_9 t0_10 t1_0 t2_0 t3_0 t4_0 t5_0 t6_0 a39 lx42 lx43 lx65 lx66 lx87 lx88 lx109 p179 = (F_DR_times x2 t0_0 t0_1 t0_2 t0_3 t0_4 t0_5 t0_6 t0_7 t0_8 t0_9 t0_10 t1_0 t2_0 t3_0 t4_0 t5_0 t6_0) from Eq.trans (by rw [e180, ← e133, ← e130, ← e128, F_DR_times_J199.eq_1]) hR120)
          have hS194 := (show True ∧ S_DR_times_c219 (S_DR_times_L14 x2 t0_0 t0_1 t0_2 t0_3 t0_4 t0_5 t0_6 t0_7 t0_8 t0_9 t0_10 t1_0 t2_0 t3_0 t4_0 t5_0 t6_0 a39 fm59) (S_DR_times_L39 (S_DR_times_L14 x2 t0_0 t0_1 t0_2 t0_3 t0_4 t0_5 t0_6 t0_7 t0_8 t0_9 t0_10 t1_0 t2_0 t3_0 t4_0 t5_0 t6_0 a39 fm59) x2 t0_0 t0_1 t0_2 t0_3 t0_4 t0_5 t0_6 t0_7 t0_8 t0_9 t0_10 t1_0 t2_0 t3_0 t4_0 t5_0 t6_0 a39 lx42 lx43 fm81) (S_DR_times_L155 (S_DR_times_L14 x2 t0_0 t0_1 t0_2 t0_3 t0_4 t0_5 t0_6 t0_7 t0_8 t0_9 t0_10 t1_0 t2_0 t3_0 t4_0 t5_0 t6_0 a39 fm59) (S_DR_times_L39 (S_DR_times_L14 x2 t0_0 t0_1 t0_2 t0_3 t0_4 t0_5 t0_6 t0_7 t0_8 t0_9 t0_10 t1_0 t2_0 t3_0 t4_0 t5_0 t6_0 a39 fm59) x2 t0_0 t0_1 t0_2 t0_3 t0_4 t0_5 t0_6 t0_7 t0_8 t0_9 t0_10 t1_0 t2_0 t3_0 t4_0 t5_0 t6_0 a39 lx42 lx43 fm81) x2 t0_0 t0_1 t0_2 t0_3 t0_4 t0_5 t0_6 t0_7 t0_8 t0_9 t0_10 t1_0 t2_0 t3_0 t4_0 t5_0 t6_0 a39 lx42 lx43 lx65 lx66 fm104) x2 t0_0 t0_1 t0_2 t0_3 t0_4 t0_5 t0_6 t0_7 t0_8 t0_9 t0_10 t1_0 t2_0 t3_0 t4_0 t5_0 t6_0 a39 lx42 lx43 lx65 lx66 lx87 lx88 lx109 p179 from (by rw [e180, ← e133, ← e130, ← e128]; have h := hS121; rw [S_DR_times_J199.eq_1] at h; replace h := q_s2 h; with_reducible exact h))
          refine lv_aload_n hx hb d_15_27_222 rfl (lv_at hl 0 rfl) ?_
          refine q_get (ci := 14) (j := 8) (v := .int y142) C0 V i_DR rfl rfl hO139 (by decide) w_2011 rfl d_15_27_223 ?_
          refine lv_sipush (v := 1000) hx hb d_15_27_226 (by decide) ?_
          refine lv_icmp_gt (tgt := 236) hx hb d_15_27_229 (by decide) (fun c198 => ?_) (fun c198 => ?_)
          ·
            refine lv_iconst (v := 0) hx hb d_15_27_236 (by decide) ?_
            exact q_retz C0 V (by decide) (⟨hI, hF, y140, y141, y142, y143, y144, y145, y146, y147, y148, y149, y150, f151, lx66, hO139, hA152, hO99, (show 0 ≤ (0 : Int32).toInt from (by have z18 : (0 : Int32).toInt = 0 := rfl; omega)), (show (0 : Int32).toInt ≤ 1 from (by have z18 : (0 : Int32).toInt = 0 := rfl; omega)), (show 0 ≤ y145.toInt from (by have z18 : (0 : Int32).toInt = 0 := rfl; have t1 : 0 ≤ y145.toInt := b153; omega)), (show y145.toInt ≤ 1 from (by have z18 : (0 : Int32).toInt = 0 := rfl; have t1 : lx109.toInt ≤ 1 := i119; have t2 : y145.toInt ≤ lx109.toInt := b165; omega)), (show x2.toInt ≤ (0 : Int32).toInt + 9 from (by have z18 : (0 : Int32).toInt = 0 := rfl; have t1 : x2.toInt ≤ 9 := ob36; omega)), (show (0 : Int32).toInt ≤ x2.toInt + 1 from (by have z18 : (0 : Int32).toInt = 0 := rfl; have t1 : 0 ≤ x2.toInt := ob35; omega)), (show t0_0.toInt ≤ y140.toInt from (by have z18 : (0 : Int32).toInt = 0 := rfl; have t1 : t0_0.toInt ≤ y140.toInt := b154; omega)), (show y140.toInt ≤ t0_0.toInt from (by have z18 : (0 : Int32).toInt = 0 := rfl; have t1 : y140.toInt ≤ t0_0.toInt := b155; omega)), (show x2.toInt ≤ y141.toInt + 9 from (by have z18 : (0 : Int32).toInt = 0 := rfl; have t1 : 0 ≤ t0_1.toInt ∧ t0_1.toInt ≤ 4100 := btt0_1; have t2 : x2.toInt ≤ 9 := ob36; have t3 : t0_1.toInt ≤ y141.toInt := b156; omega)), (show y141.toInt ≤ x2.toInt + 4100 from (by have z18 : (0 : Int32).toInt = 0 := rfl; have t1 : 0 ≤ t0_1.toInt ∧ t0_1.toInt ≤ 4100 := btt0_1; have t2 : 0 ≤ x2.toInt := ob35; have t3 : y141.toInt ≤ t0_1.toInt := b157; omega)), (show t0_1.toInt ≤ y141.toInt from (by have z18 : (0 : Int32).toInt = 0 := rfl; have t1 : t0_1.toInt ≤ y141.toInt := b156; omega)), (show y141.toInt ≤ t0_1.toInt from (by have z18 : (0 : Int32).toInt = 0 := rfl; have t1 : y141.toInt ≤ t0_1.toInt := b157; omega)), (show x2.toInt ≤ y144.toInt + 9 from (by have z18 : (0 : Int32).toInt = 0 := rfl; have t1 : 0 ≤ t0_4.toInt ∧ t0_4.toInt ≤ 1 := btt0_4; have t2 : x2.toInt ≤ 9 := ob36; have t3 : t0_4.toInt ≤ y144.toInt := b162; omega)), (show y144.toInt ≤ x2.toInt + 1 from (by have z18 : (0 : Int32).toInt = 0 := rfl; have t1 : 0 ≤ t0_4.toInt ∧ t0_4.toInt ≤ 1 := btt0_4; have t2 : 0 ≤ x2.toInt := ob35; have t3 : y144.toInt ≤ t0_4.toInt := b163; omega)), (show t0_4.toInt ≤ y144.toInt from (by have z18 : (0 : Int32).toInt = 0 := rfl; have t1 : t0_4.toInt ≤ y144.toInt := b162; omega)), (show y144.toInt ≤ t0_4.toInt from (by have z18 : (0 : Int32).toInt = 0 := rfl; have t1 : y144.toInt ≤ t0_4.toInt := b163; omega)), (show x2.toInt ≤ y145.toInt + 9 from (by have z18 : (0 : Int32).toInt = 0 := rfl; have t1 : x2.toInt ≤ 9 := ob36; have t2 : 0 ≤ y145.toInt := b153; omega)), (show y145.toInt ≤ x2.toInt + 1 from (by have z18 : (0 : Int32).toInt = 0 := rfl; have t1 : 0 ≤ x2.toInt := ob35; have t2 : lx109.toInt ≤ 1 := i119; have t3 : y145.toInt ≤ lx109.toInt := b165; omega)), (show t0_6.toInt ≤ y146.toInt from (by have z18 : (0 : Int32).toInt = 0 := rfl; have t1 : t0_6.toInt ≤ y146.toInt := b166; omega)), (show y146.toInt ≤ t0_6.toInt from (by have z18 : (0 : Int32).toInt = 0 := rfl; have t1 : y146.toInt ≤ t0_6.toInt := b167; omega)), (show t0_7.toInt ≤ y147.toInt from (by have z18 : (0 : Int32).toInt = 0 := rfl; have t1 : t0_7.toInt ≤ y147.toInt := b168; omega)), (show y147.toInt ≤ t0_7.toInt from (by have z18 : (0 : Int32).toInt = 0 := rfl; have t1 : y147.toInt ≤ t0_7.toInt := b169; omega)), (show t0_8.toInt ≤ y148.toInt from (by have z18 : (0 : Int32).toInt = 0 := rfl; have t1 : t0_8.toInt ≤ y148.toInt := b170; omega)), (show y148.toInt ≤ t0_8.toInt from (by have z18 : (0 : Int32).toInt = 0 := rfl; have t1 : y148.toInt ≤ t0_8.toInt := b171; omega)), (show x2.toInt ≤ y149.toInt + 9 from (by have z18 : (0 : Int32).toInt = 0 := rfl; have t1 : 0 ≤ t0_9.toInt ∧ t0_9.toInt ≤ 12200 := btt0_9; have t2 : x2.toInt ≤ 9 := ob36; have t3 : t0_9.toInt ≤ y149.toInt := b173; omega)), (show y149.toInt ≤ x2.toInt + 12200 from (by have z18 : (0 : Int32).toInt = 0 := rfl; have t1 : 0 ≤ t0_9.toInt ∧ t0_9.toInt ≤ 12200 := btt0_9; have t2 : 0 ≤ x2.toInt := ob35; have t3 : y149.toInt ≤ t0_9.toInt := b174; omega)), (show t0_9.toInt ≤ y149.toInt from (by have z18 : (0 : Int32).toInt = 0 := rfl; have t1 : t0_9.toInt ≤ y149.toInt := b173; omega)), (show y149.toInt ≤ t0_9.toInt from (by have z18 : (0 : Int32).toInt = 0 := rfl; have t1 : y149.toInt ≤ t0_9.toInt := b174; omega)), (show t0_10.toInt ≤ y150.toInt from (by have z18 : (0 : Int32).toInt = 0 := rfl; have t1 : t0_10.toInt ≤ y150.toInt := b175; omega)), (show y150.toInt ≤ t0_10.toInt from (by have z18 : (0 : Int32).toInt = 0 := rfl; have t1 : y150.toInt ≤ t0_10.toInt := b176; omega)), (show ((0 : Int32), y140, y141, y142, y143, y144, y145, y146, y147, y148, y149, y150, f151, lx66) = (F_DR_times x2 t0_0 t0_1 t0_2 t0_3 t0_4 t0_5 t0_6 t0_7 t0_8 t0_9 t0_10 t1_0 t2_0 t3_0 t4_0 t5_0 t6_0) from Eq.trans (by have c198x := c198; rw [e183] at c198x; rw [e192, e191, e190, e189, e188, e187, e186, e185, e184, e183, e182, e181, F_DR_times_c219.eq_1, if_pos c198x]) hR193)⟩) d_15_27_237
          ·
            refine lv_iconst (v := 1) hx hb d_15_27_232 (by decide) ?_
            refine lv_goto (tgt := 237) hx hb d_15_27_233 (by decide) ?_
            exact q_retz C0 V (by decide) (⟨hI, hF, y140, y141, y142, y143, y144, y145, y146, y147, y148, y149, y150, f151, lx66, hO139, hA152, hO99, (show 0 ≤ (1 : Int32).toInt from (by have z18 : (1 : Int32).toInt = 1 := rfl; omega)), (show (1 : Int32).toInt ≤ 1 from (by have z18 : (1 : Int32).toInt = 1 := rfl; omega)), (show 0 ≤ y145.toInt from (by have z18 : (1 : Int32).toInt = 1 := rfl; have t1 : 0 ≤ y145.toInt := b153; omega)), (show y145.toInt ≤ 1 from (by have z18 : (1 : Int32).toInt = 1 := rfl; have t1 : lx109.toInt ≤ 1 := i119; have t2 : y145.toInt ≤ lx109.toInt := b165; omega)), (show x2.toInt ≤ (1 : Int32).toInt + 9 from (by have z18 : (1 : Int32).toInt = 1 := rfl; have t1 : x2.toInt ≤ 9 := ob36; omega)), (show (1 : Int32).toInt ≤ x2.toInt + 1 from (by have z18 : (1 : Int32).toInt = 1 := rfl; have t1 : 0 ≤ x2.toInt := ob35; omega)), (show t0_0.toInt ≤ y140.toInt from (by have z18 : (1 : Int32).toInt = 1 := rfl; have t1 : t0_0.toInt ≤ y140.toInt := b154; omega)), (show y140.toInt ≤ t0_0.toInt from (by have z18 : (1 : Int32).toInt = 1 := rfl; have t1 : y140.toInt ≤ t0_0.toInt := b155; omega)), (show x2.toInt ≤ y141.toInt + 9 from (by have z18 : (1 : Int32).toInt = 1 := rfl; have t1 : 0 ≤ t0_1.toInt ∧ t0_1.toInt ≤ 4100 := btt0_1; have t2 : x2.toInt ≤ 9 := ob36; have t3 : t0_1.toInt ≤ y141.toInt := b156; omega)), (show y141.toInt ≤ x2.toInt + 4100 from (by have z18 : (1 : Int32).toInt = 1 := rfl; have t1 : 0 ≤ t0_1.toInt ∧ t0_1.toInt ≤ 4100 := btt0_1; have t2 : 0 ≤ x2.toInt := ob35; have t3 : y141.toInt ≤ t0_1.toInt := b157; omega)), (show t0_1.toInt ≤ y141.toInt from (by have z18 : (1 : Int32).toInt = 1 := rfl; have t1 : t0_1.toInt ≤ y141.toInt := b156; omega)), (show y141.toInt ≤ t0_1.toInt from (by have z18 : (1 : Int32).toInt = 1 := rfl; have t1 : y141.toInt ≤ t0_1.toInt := b157; omega)), (show x2.toInt ≤ y144.toInt + 9 from (by have z18 : (1 : Int32).toInt = 1 := rfl; have t1 : 0 ≤ t0_4.toInt ∧ t0_4.toInt ≤ 1 := btt0_4; have t2 : x2.toInt ≤ 9 := ob36; have t3 : t0_4.toInt ≤ y144.toInt := b162; omega)), (show y144.toInt ≤ x2.toInt + 1 from (by have z18 : (1 : Int32).toInt = 1 := rfl; have t1 : 0 ≤ t0_4.toInt ∧ t0_4.toInt ≤ 1 := btt0_4; have t2 : 0 ≤ x2.toInt := ob35; have t3 : y144.toInt ≤ t0_4.toInt := b163; omega)), (show t0_4.toInt ≤ y144.toInt from (by have z18 : (1 : Int32).toInt = 1 := rfl; have t1 : t0_4.toInt ≤ y144.toInt := b162; omega)), (show y144.toInt ≤ t0_4.toInt from (by have z18 : (1 : Int32).toInt = 1 := rfl; have t1 : y144.toInt ≤ t0_4.toInt := b163; omega)), (show x2.toInt ≤ y145.toInt + 9 from (by have z18 : (1 : Int32).toInt = 1 := rfl; have t1 : x2.toInt ≤ 9 := ob36; have t2 : 0 ≤ y145.toInt := b153; omega)), (show y145.toInt ≤ x2.toInt + 1 from (by have z18 : (1 : Int32).toInt = 1 := rfl; have t1 : 0 ≤ x2.toInt := ob35; have t2 : lx109.toInt ≤ 1 := i119; have t3 : y145.toInt ≤ lx109.toInt := b165; omega)), (show t0_6.toInt ≤ y146.toInt from (by have z18 : (1 : Int32).toInt = 1 := rfl; have t1 : t0_6.toInt ≤ y146.toInt := b166; omega)), (show y146.toInt ≤ t0_6.toInt from (by have z18 : (1 : Int32).toInt = 1 := rfl; have t1 : y146.toInt ≤ t0_6.toInt := b167; omega)), (show t0_7.toInt ≤ y147.toInt from (by have z18 : (1 : Int32).toInt = 1 := rfl; have t1 : t0_7.toInt ≤ y147.toInt := b168; omega)), (show y147.toInt ≤ t0_7.toInt from (by have z18 : (1 : Int32).toInt = 1 := rfl; have t1 : y147.toInt ≤ t0_7.toInt := b169; omega)), (show t0_8.toInt ≤ y148.toInt from (by have z18 : (1 : Int32).toInt = 1 := rfl; have t1 : t0_8.toInt ≤ y148.toInt := b170; omega)), (show y148.toInt ≤ t0_8.toInt from (by have z18 : (1 : Int32).toInt = 1 := rfl; have t1 : y148.toInt ≤ t0_8.toInt := b171; omega)), (show x2.toInt ≤ y149.toInt + 9 from (by have z18 : (1 : Int32).toInt = 1 := rfl; have t1 : 0 ≤ t0_9.toInt ∧ t0_9.toInt ≤ 12200 := btt0_9; have t2 : x2.toInt ≤ 9 := ob36; have t3 : t0_9.toInt ≤ y149.toInt := b173; omega)), (show y149.toInt ≤ x2.toInt + 12200 from (by have z18 : (1 : Int32).toInt = 1 := rfl; have t1 : 0 ≤ t0_9.toInt ∧ t0_9.toInt ≤ 12200 := btt0_9; have t2 : 0 ≤ x2.toInt := ob35; have t3 : y149.toInt ≤ t0_9.toInt := b174; omega)), (show t0_9.toInt ≤ y149.toInt from (by have z18 : (1 : Int32).toInt = 1 := rfl; have t1 : t0_9.toInt ≤ y149.toInt := b173; omega)), (show y149.toInt ≤ t0_9.toInt from (by have z18 : (1 : Int32).toInt = 1 := rfl; have t1 : y149.toInt ≤ t0_9.toInt := b174; omega)), (show t0_10.toInt ≤ y150.toInt from (by have z18 : (1 : Int32).toInt = 1 := rfl; have t1 : t0_10.toInt ≤ y150.toInt := b175; omega)), (show y150.toInt ≤ t0_10.toInt from (by have z18 : (1 : Int32).toInt = 1 := rfl; have t1 : y150.toInt ≤ t0_10.toInt := b176; omega)), (show ((1 : Int32), y140, y141, y142, y143, y144, y145, y146, y147, y148, y149, y150, f151, lx66) = (F_DR_times x2 t0_0 t0_1 t0_2 t0_3 t0_4 t0_5 t0_6 t0_7 t0_8 t0_9 t0_10 t1_0 t2_0 t3_0 t4_0 t5_0 t6_0) from Eq.trans (by have c198x := c198; rw [e183] at c198x; rw [e192, e191, e190, e189, e188, e187, e186, e185, e184, e183, e182, e181, F_DR_times_c219.eq_1, if_neg c198x]) hR193)⟩) d_15_27_237
        ·
          intro J117
          refine lv_icmp_eq (tgt := 198) hx hb d_15_27_191 (by decide) (fun c201 => ?_) (fun c201 => ?_)
          ·
            refine lv_iconst (v := 0) hx hb d_15_27_198 (by decide) ?_
            exact J117 ((0 : Int32)) _ _ _ w92 ⟨(show q_F (0 ≤ 0) from (show 0 ≤ 0 from by omega)), (show q_F (0 ≤ 1) from (show 0 ≤ 1 from by omega)), V, q_lw hl (q_lw1 2 rfl (q_lw1 3 rfl q_lw0)), (show F_DR_times_J199 (F_DR_times_L14 x2 t0_0 t0_1 t0_2 t0_3 t0_4 t0_5 t0_6 t0_7 t0_8 t0_9 t0_10 t1_0 t2_0 t3_0 t4_0 t5_0 t6_0 a39 fm59) (F_DR_times_L39 (F_DR_times_L14 x2 t0_0 t0_1 t0_2 t0_3 t0_4 t0_5 t0_6 t0_7 t0_8 t0_9 t0_10 t1_0 t2_0 t3_0 t4_0 t5_0 t6_0 a39 fm59) x2 t0_0 t0_1 t0_2 t0_3 t0_4 t0_5 t0_6 t0_7 t0_8 t0_9 t0_10 t1_0 t2_0 t3_0 t4_0 t5_0 t6_0 a39 lx42 lx43 fm81) (F_DR_times_L155 (F_DR_times_L14 x2 t0_0 t0_1 t0_2 t0_3 t0_4 t0_5 t0_6 t0_7 t0_8 t0_9 t0_10 t1_0 t2_0 t3_0 t4_0 t5_0 t6_0 a39 fm59) (F_DR_times_L39 (F_DR_times_L14 x2 t0_0 t0_1 t0_2 t0_3 t0_4 t0_5 t0_6 t0_7 t0_8 t0_9 t0_10 t1_0 t2_0 t3_0 t4_0 t5_0 t6_0 a39 fm59) x2 t0_0 t0_1 t0_2 t0_3 t0_4 t0_5 t0_6 t0_7 t0_8 t0_9 t0_10 t1_0 t2_0 t3_0 t4_0 t5_0 t6_0 a39 lx42 lx43 fm81) x2 t0_0 t0_1 t0_2 t0_3 t0_4 t0_5 t0_6 t0_7 t0_8 t0_9 t0_10 t1_0 t2_0 t3_0 t4_0 t5_0 t6_0 a39 lx42 lx43 lx65 lx66 fm104) x2 t0_0 t0_1 t0_2 t0_3 t0_4 t0_5 t0_6 t0_7 t0_8 t0_9 t0_10 t1_0 t2_0 t3_0 t4_0 t5_0 t6_0 a39 lx42 lx43 lx65 lx66 lx87 lx88 0 = (F_DR_times x2 t0_0 t0_1 t0_2 t0_3 t0_4 t0_5 t0_6 t0_7 t0_8 t0_9 t0_10 t1_0 t2_0 t3_0 t4_0 t5_0 t6_0) from Eq.trans (by have c201x := c201; rw [← e108] at c201x; rw [F_DR_times_L155.eq_2, if_pos c105, if_pos c201x]) hR100), (show True ∧ S_DR_times_J199 (S_DR_times_L14 x2 t0_0 t0_1 t0_2 t0_3 t0_4 t0_5 t0_6 t0_7 t0_8 t0_9 t0_10 t1_0 t2_0 t3_0 t4_0 t5_0 t6_0 a39 fm59) (S_DR_times_L39 (S_DR_times_L14 x2 t0_0 t0_1 t0_2 t0_3 t0_4 t0_5 t0_6 t0_7 t0_8 t0_9 t0_10 t1_0 t2_0 t3_0 t4_0 t5_0 t6_0 a39 fm59) x2 t0_0 t0_1 t0_2 t0_3 t0_4 t0_5 t0_6 t0_7 t0_8 t0_9 t0_10 t1_0 t2_0 t3_0 t4_0 t5_0 t6_0 a39 lx42 lx43 fm81) (S_DR_times_L155 (S_DR_times_L14 x2 t0_0 t0_1 t0_2 t0_3 t0_4 t0_5 t0_6 t0_7 t0_8 t0_9 t0_10 t1_0 t2_0 t3_0 t4_0 t5_0 t6_0 a39 fm59) (S_DR_times_L39 (S_DR_times_L14 x2 t0_0 t0_1 t0_2 t0_3 t0_4 t0_5 t0_6 t0_7 t0_8 t0_9 t0_10 t1_0 t2_0 t3_0 t4_0 t5_0 t6_0 a39 fm59) x2 t0_0 t0_1 t0_2 t0_3 t0_4 t0_5 t0_6 t0_7 t0_8 t0_9 t0_10 t1_0 t2_0 t3_0 t4_0 t5_0 t6_0 a39 lx42 lx43 fm81) x2 t0_0 t0_1 t0_2 t0_3 t0_4 t0_5 t0_6 t0_7 t0_8 t0_9 t0_10 t1_0 t2_0 t3_0 t4_0 t5_0 t6_0 a39 lx42 lx43 lx65 lx66 fm104) x2 t0_0 t0_1 t0_2 t0_3 t0_4 t0_5 t0_6 t0_7 t0_8 t0_9 t0_10 t1_0 t2_0 t3_0 t4_0 t5_0 t6_0 a39 lx42 lx43 lx65 lx66 lx87 lx88 0 from (by have h := hS101; rw [S_DR_times_L155.eq_2] at h; rw [if_pos c105] at h; have c201x := c201; rw [← e108] at c201x; rw [if_pos c201x] at h; with_reducible exact h))⟩
          ·
            refine lv_iconst (v := 1) hx hb d_15_27_194 (by decide) ?_
            refine lv_goto (tgt := 199) hx hb d_15_27_195 (by decide) ?_
            exact J117 ((1 : Int32)) _ _ _ w92 ⟨(show q_F (0 ≤ 1) from (show 0 ≤ 1 from by omega)), (show q_F (1 ≤ 1) from (show 1 ≤ 1 from by omega)), V, q_lw hl (q_lw1 2 rfl (q_lw1 3 rfl q_lw0)), (show F_DR_times_J199 (F_DR_times_L14 x2 t0_0 t0_1 t0_2 t0_3 t0_4 t0_5 t0_6 t0_7 t0_8 t0_9 t0_10 t1_0 t2_0 t3_0 t4_0 t5_0 t6_0 a39 fm59) (F_DR_times_L39 (F_DR_times_L14 x2 t0_0 t0_1 t0_2 t0_3 t0_4 t0_5 t0_6 t0_7 t0_8 t0_9 t0_10 t1_0 t2_0 t3_0 t4_0 t5_0 t6_0 a39 fm59) x2 t0_0 t0_1 t0_2 t0_3 t0_4 t0_5 t0_6 t0_7 t0_8 t0_9 t0_10 t1_0 t2_0 t3_0 t4_0 t5_0 t6_0 a39 lx42 lx43 fm81) (F_DR_times_L155 (F_DR_times_L14 x2 t0_0 t0_1 t0_2 t0_3 t0_4 t0_5 t0_6 t0_7 t0_8 t0_9 t0_10 t1_0 t2_0 t3_0 t4_0 t5_0 t6_0 a39 fm59) (F_DR_times_L39 (F_DR_times_L14 x2 t0_0 t0_1 t0_2 t0_3 t0_4 t0_5 t0_6 t0_7 t0_8 t0_9 t0_10 t1_0 t2_0 t3_0 t4_0 t5_0 t6_0 a39 fm59) x2 t0_0 t0_1 t0_2 t0_3 t0_4 t0_5 t0_6 t0_7 t0_8 t0_9 t0_10 t1_0 t2_0 t3_0 t4_0 t5_0 t6_0 a39 lx42 lx43 fm81) x2 t0_0 t0_1 t0_2 t0_3 t0_4 t0_5 t0_6 t0_7 t0_8 t0_9 t0_10 t1_0 t2_0 t3_0 t4_0 t5_0 t6_0 a39 lx42 lx43 lx65 lx66 fm104) x2 t0_0 t0_1 t0_2 t0_3 t0_4 t0_5 t0_6 t0_7 t0_8 t0_9 t0_10 t1_0 t2_0 t3_0 t4_0 t5_0 t6_0 a39 lx42 lx43 lx65 lx66 lx87 lx88 1 = (F_DR_times x2 t0_0 t0_1 t0_2 t0_3 t0_4 t0_5 t0_6 t0_7 t0_8 t0_9 t0_10 t1_0 t2_0 t3_0 t4_0 t5_0 t6_0) from Eq.trans (by have c201x := c201; rw [← e108] at c201x; rw [F_DR_times_L155.eq_2, if_pos c105, if_neg c201x]) hR100), (show True ∧ S_DR_times_J199 (S_DR_times_L14 x2 t0_0 t0_1 t0_2 t0_3 t0_4 t0_5 t0_6 t0_7 t0_8 t0_9 t0_10 t1_0 t2_0 t3_0 t4_0 t5_0 t6_0 a39 fm59) (S_DR_times_L39 (S_DR_times_L14 x2 t0_0 t0_1 t0_2 t0_3 t0_4 t0_5 t0_6 t0_7 t0_8 t0_9 t0_10 t1_0 t2_0 t3_0 t4_0 t5_0 t6_0 a39 fm59) x2 t0_0 t0_1 t0_2 t0_3 t0_4 t0_5 t0_6 t0_7 t0_8 t0_9 t0_10 t1_0 t2_0 t3_0 t4_0 t5_0 t6_0 a39 lx42 lx43 fm81) (S_DR_times_L155 (S_DR_times_L14 x2 t0_0 t0_1 t0_2 t0_3 t0_4 t0_5 t0_6 t0_7 t0_8 t0_9 t0_10 t1_0 t2_0 t3_0 t4_0 t5_0 t6_0 a39 fm59) (S_DR_times_L39 (S_DR_times_L14 x2 t0_0 t0_1 t0_2 t0_3 t0_4 t0_5 t0_6 t0_7 t0_8 t0_9 t0_10 t1_0 t2_0 t3_0 t4_0 t5_0 t6_0 a39 fm59) x2 t0_0 t0_1 t0_2 t0_3 t0_4 t0_5 t0_6 t0_7 t0_8 t0_9 t0_10 t1_0 t2_0 t3_0 t4_0 t5_0 t6_0 a39 lx42 lx43 fm81) x2 t0_0 t0_1 t0_2 t0_3 t0_4 t0_5 t0_6 t0_7 t0_8 t0_9 t0_10 t1_0 t2_0 t3_0 t4_0 t5_0 t6_0 a39 lx42 lx43 lx65 lx66 fm104) x2 t0_0 t0_1 t0_2 t0_3 t0_4 t0_5 t0_6 t0_7 t0_8 t0_9 t0_10 t1_0 t2_0 t3_0 t4_0 t5_0 t6_0 a39 lx42 lx43 lx65 lx66 lx87 lx88 1 from (by have h := hS101; rw [S_DR_times_L155.eq_2] at h; rw [if_pos c105] at h; have c201x := c201; rw [← e108] at c201x; rw [if_neg c201x] at h; with_reducible exact h))⟩
      ·
        refine lv_aload_n hx hb d_15_27_160 rfl (lv_at hl 2 rfl) ?_
        refine q_get (ci := 14) (j := 7) (v := .ref (q 140)) C0 V i_DR rfl rfl hO93 (by decide) w_2010 rfl d_15_27_161 ?_
        refine lv_iload_n hx hb d_15_27_164 rfl (lv_at hl 0 rfl) ?_
        refine lv_aload_n hx hb d_15_27_165 rfl (lv_at hl 2 rfl) ?_
        refine q_get (ci := 14) (j := 12) (v := .ref (q 141)) C0 V i_DR rfl rfl hO93 (by decide) w_2015 rfl d_15_27_166 ?_
        refine lv_iload_n hx hb d_15_27_169 rfl (lv_at hl 0 rfl) ?_
        have ob205 : q_F (lx87.toInt ≤ 4399) := (by have h := hS101; rw [S_DR_times_L155.eq_2] at h; rw [if_neg c105] at h; exact h.2.1)
        refine q_iald C0 V hO99 (q_ix (x := lx87.toInt) rfl (by first | with_reducible exact q_fe i89 | (have t1 : 0 ≤ lx87.toInt := i89; omega)) (by have t1 : 0 ≤ lx87.toInt := i89; have t2 : lx87.toInt ≤ 4399 := ob205; have e9 : (((4400 : Int32).toNatClampNeg : Nat) : Int) = 4400 := (by decide); omega)) d_15_27_170 ?_
        obtain ⟨a206, e207⟩ := q_nm (lx66 lx87.toNatClampNeg : Int32)
        refine q_ti (v := a206) e207 ?_
        refine q_iast C0 V hO98 (q_ix (x := lx87.toInt) rfl (by first | with_reducible exact q_fe i89 | (have t1 : 0 ≤ lx87.toInt := i89; omega)) (by have t1 : 0 ≤ lx87.toInt := i89; have t2 : lx87.toInt ≤ 4399 := ob205; have e9 : (((4400 : Int32).toNatClampNeg : Nat) : Int) = 4400 := (by decide); omega)) d_15_27_171 (fun H locs w208 hu209 hO98 V => ?_)
        replace hI := n_ai' hI (n_r140 g q).1 hu209 hO98 (q_updB (fun _ => s_bnd) s_bnd)
        replace hO93 := (hu209 _ (by decide)).trans hO93
        replace hO94 := (hu209 _ (by decide)).trans hO94
        replace hO95 := (hu209 _ (by decide)).trans hO95
        replace hO96 := (hu209 _ (by decide)).trans hO96
        replace hO97 := (hu209 _ (by decide)).trans hO97
        replace hO99 := (hu209 _ (by decide)).trans hO99
        replace hF := q_us hF hu209 (by simp)
        obtain ⟨f210, e211⟩ := q_nm (upd lx88 lx87.toNatClampNeg a206 : (Nat → Int32))
        rw [e211] at hO98
        obtain ⟨a212, e213⟩ := q_nm (lx87 + 1 : Int32)
        have b214 : q_F (a212.toInt = lx87.toInt + 1) := (by rw [← e213]; exact q_addI (y := 1) rfl (by decide) (by have t1 : 0 ≤ lx87.toInt := i89; have t2 : lx87.toInt ≤ 12200 := i90; omega) (by have t1 : 0 ≤ lx87.toInt := i89; have t2 : lx87.toInt ≤ 12200 := i90; omega))
        refine lv_iinc (v := a212) (lv' := [(3, .int a212), (2, .int a39), (0, .ref (q 134)), (1, .int x2)]) hx hb d_15_27_172 hl (k := 0) rfl (e213) (by decide) rfl (fun ls hl => ?_)
        refine lv_goto (tgt := 155) hx hb d_15_27_175 (by decide) ?_
        exact ih91 ((a212 : Int32), (f210 : (Nat → Int32))) _ _ _ _ (show (12200 - a212.toInt).toNat < (12200 - lx87.toInt).toNat from by have t1 : a212.toInt = lx87.toInt + 1 := b214; have t2 : lx87.toInt ≤ 12200 := i90; have t3 : lx87.toInt ≤ 4399 := ob205; omega) ⟨(show q_F (0 ≤ a212.toInt) from (show 0 ≤ a212.toInt from by have t1 : 0 ≤ lx87.toInt := i89; have t2 : a212.toInt = lx87.toInt + 1 := b214; omega)), (show q_F (a212.toInt ≤ 12200) from (show a212.toInt ≤ 12200 from by have t1 : lx87.toInt ≤ 4399 := ob205; have t2 : a212.toInt = lx87.toInt + 1 := b214; omega)), V, q_lw hl (q_lw1 0 rfl (q_lw1 1 rfl (q_lw1 2 rfl (q_lw1 3 rfl q_lw0)))), hI, hF, hO93, hO94, hO95, hO96, hO97, hO98, hO99, ⟨fm104, Nat.lt_of_lt_of_le (show (12200 - a212.toInt).toNat < (12200 - lx87.toInt).toNat from by have t1 : a212.toInt = lx87.toInt + 1 := b214; have t2 : lx87.toInt ≤ 12200 := i90; have t3 : lx87.toInt ≤ 4399 := ob205; omega) (Nat.le_of_lt_succ hf103), (show F_DR_times_L155 (F_DR_times_L14 x2 t0_0 t0_1 t0_2 t0_3 t0_4 t0_5 t0_6 t0_7 t0_8 t0_9 t0_10 t1_0 t2_0 t3_0 t4_0 t5_0 t6_0 a39 fm59) (F_DR_times_L39 (F_DR_times_L14 x2 t0_0 t0_1 t0_2 t0_3 t0_4 t0_5 t0_6 t0_7 t0_8 t0_9 t0_10 t1_0 t2_0 t3_0 t4_0 t5_0 t6_0 a39 fm59) x2 t0_0 t0_1 t0_2 t0_3 t0_4 t0_5 t0_6 t0_7 t0_8 t0_9 t0_10 t1_0 t2_0 t3_0 t4_0 t5_0 t6_0 a39 lx42 lx43 fm81) x2 t0_0 t0_1 t0_2 t0_3 t0_4 t0_5 t0_6 t0_7 t0_8 t0_9 t0_10 t1_0 t2_0 t3_0 t4_0 t5_0 t6_0 a39 lx42 lx43 lx65 lx66 fm104 a212 f210 = (F_DR_times x2 t0_0 t0_1 t0_2 t0_3 t0_4 t0_5 t0_6 t0_7 t0_8 t0_9 t0_10 t1_0 t2_0 t3_0 t4_0 t5_0 t6_0) from Eq.trans (by rw [← e213, ← e211, ← e207, F_DR_times_L155.eq_2, if_neg c105]) hR100), (show True ∧ S_DR_times_L155 (S_DR_times_L14 x2 t0_0 t0_1 t0_2 t0_3 t0_4 t0_5 t0_6 t0_7 t0_8 t0_9 t0_10 t1_0 t2_0 t3_0 t4_0 t5_0 t6_0 a39 fm59) (S_DR_times_L39 (S_DR_times_L14 x2 t0_0 t0_1 t0_2 t0_3 t0_4 t0_5 t0_6 t0_7 t0_8 t0_9 t0_10 t1_0 t2_0 t3_0 t4_0 t5_0 t6_0 a39 fm59) x2 t0_0 t0_1 t0_2 t0_3 t0_4 t0_5 t0_6 t0_7 t0_8 t0_9 t0_10 t1_0 t2_0 t3_0 t4_0 t5_0 t6_0 a39 lx42 lx43 fm81) x2 t0_0 t0_1 t0_2 t0_3 t0_4 t0_5 t0_6 t0_7 t0_8 t0_9 t0_10 t1_0 t2_0 t3_0 t4_0 t5_0 t6_0 a39 lx42 lx43 lx65 lx66 fm104 a212 f210 from (by rw [← e213, ← e211, ← e207]; have h := hS101; rw [S_DR_times_L155.eq_2] at h; rw [if_neg c105] at h; replace h := q_s2 h; with_reducible exact h))⟩⟩
    ·
      have b215 : q_F (0 ≤ lx65.toInt) := (q_nltI c82)
      refine lv_iconst (v := 0) hx hb d_15_27_43 (by decide) ?_
      refine lv_istore (lv' := [(4, .int 0), (3, .int lx65), (2, .int a39), (0, .ref (q 134)), (1, .int x2)]) hx hb d_15_27_44 hl (by decide) rfl (fun ls hl => ?_)
      refine lv_aload_n hx hb d_15_27_46 rfl (lv_at hl 3 rfl) ?_
      refine q_get (ci := 14) (j := 4) (v := .ref (q 137)) C0 V i_DR rfl rfl hO70 (by decide) w_2004 rfl d_15_27_47 ?_
      refine lv_iload_n hx hb d_15_27_50 rfl (lv_at hl 4 rfl) ?_
      refine q_iald C0 V hO72 (q_ix (x := x2.toInt) rfl (by first | with_reducible exact q_fe ob35 | (have t1 : 0 ≤ x2.toInt := ob35; omega)) (by have t1 : 0 ≤ x2.toInt := ob35; have t2 : x2.toInt ≤ 9 := ob36; have e9 : (((10 : Int32).toNatClampNeg : Nat) : Int) = 10 := (by decide); omega)) d_15_27_51 ?_
      obtain ⟨a216, e217⟩ := q_nm (t2_0 x2.toNatClampNeg : Int32)
      refine q_ti (v := a216) e217 ?_
      refine lv_iconst (v := 1) hx hb d_15_27_52 (by decide) ?_
      refine lv_isub hx hb d_15_27_53 ?_
      obtain ⟨a218, e219⟩ := q_nm (a216 - 1 : Int32)
      refine q_ti (v := a218) e219 ?_
      refine lv_istore (lv' := [(5, .int a218), (4, .int 0), (3, .int lx65), (2, .int a39), (0, .ref (q 134)), (1, .int x2)]) hx hb d_15_27_54 hl (by decide) rfl (fun ls hl => ?_)
      refine q_loop (X := Int32 × Int32 × (Nat → Int32)) (fun z H locs ls w227 => q_F (z.1.toInt ≤ a218.toInt) ∧ q_Wd D g (va_A ws sz) s w227 H locs ∧ lv_has ls 7 [(5, .int z.1), (4, .int z.2.1), (3, .int lx65), (2, .int a39), (0, .ref (q 134)), (1, .int x2)] ∧ q_I (msh g q) q w227 ∧ q_un ws w227 [134, 140, 141] ∧ w227[134]? = (some (q 134, .inr (14, [.int t0_0, .ref (q 135), .int t0_1, .ref (q 136), .ref (q 137), .ref (q 138), .ref (q 139), .ref (q 140), .int t0_2, .long t0_3, .int t0_4, .int t0_5, .ref (q 141), .int t0_6, .ref (q 142), .int t0_7, .ref (q 143), .int t0_8, .ref (q 144), .int t0_9, .int t0_10])) : Option (Nat × va_E)) ∧ w227[136]? = (some (q 136, .inl (g 0, (10000 : Int32).toNatClampNeg, .inl t1_0)) : Option (Nat × va_E)) ∧ w227[137]? = (some (q 137, .inl (g 0, (10 : Int32).toNatClampNeg, .inl t2_0)) : Option (Nat × va_E)) ∧ w227[138]? = (some (q 138, .inl (g 3, 10, .inl t3_0)) : Option (Nat × va_E)) ∧ w227[139]? = (some (q 139, .inl (g 0, (10 : Int32).toNatClampNeg, .inl t4_0)) : Option (Nat × va_E)) ∧ w227[140]? = (some (q 140, .inl (g 0, (4400 : Int32).toNatClampNeg, .inl t5_0)) : Option (Nat × va_E)) ∧ w227[141]? = (some (q 141, .inl (g 0, (4400 : Int32).toNatClampNeg, .inl z.2.2)) : Option (Nat × va_E)) ∧ (∃ n, (z.1.toInt - ((-1))).toNat < n ∧ F_DR_times_L56 (F_DR_times_L14 x2 t0_0 t0_1 t0_2 t0_3 t0_4 t0_5 t0_6 t0_7 t0_8 t0_9 t0_10 t1_0 t2_0 t3_0 t4_0 t5_0 t6_0 a39 fm59) (F_DR_times_L39 (F_DR_times_L14 x2 t0_0 t0_1 t0_2 t0_3 t0_4 t0_5 t0_6 t0_7 t0_8 t0_9 t0_10 t1_0 t2_0 t3_0 t4_0 t5_0 t6_0 a39 fm59) x2 t0_0 t0_1 t0_2 t0_3 t0_4 t0_5 t0_6 t0_7 t0_8 t0_9 t0_10 t1_0 t2_0 t3_0 t4_0 t5_0 t6_0 a39 lx42 lx43 fm81) x2 t0_0 t0_1 t0_2 t0_3 t0_4 t0_5 t0_6 t0_7 t0_8 t0_9 t0_10 t1_0 t2_0 t3_0 t4_0 t5_0 t6_0 a39 lx42 lx43 lx65 lx66 n z.1 z.2.1 z.2.2 = (F_DR_times x2 t0_0 t0_1 t0_2 t0_3 t0_4 t0_5 t0_6 t0_7 t0_8 t0_9 t0_10 t1_0 t2_0 t3_0 t4_0 t5_0 t6_0) ∧ True ∧ S_DR_times_L56 (S_DR_times_L14 x2 t0_0 t0_1 t0_2 t0_3 t0_4 t0_5 t0_6 t0_7 t0_8 t0_9 t0_10 t1_0 t2_0 t3_0 t4_0 t5_0 t6_0 a39 fm59) (S_DR_times_L39 (S_DR_times_L14 x2 t0_0 t0_1 t0_2 t0_3 t0_4 t0_5 t0_6 t0_7 t0_8 t0_9 t0_10 t1_0 t2_0 t3_0 t4_0 t5_0 t6_0 a39 fm59) x2 t0_0 t0_1 t0_2 t0_3 t0_4 t0_5 t0_6 t0_7 t0_8 t0_9 t0_10 t1_0 t2_0 t3_0 t4_0 t5_0 t6_0 a39 lx42 lx43 fm81) x2 t0_0 t0_1 t0_2 t0_3 t0_4 t0_5 t0_6 t0_7 t0_8 t0_9 t0_10 t1_0 t2_0 t3_0 t4_0 t5_0 t6_0 a39 lx42 lx43 lx65 lx66 n z.1 z.2.1 z.2.2)) (fun z => (z.1.toInt - ((-1))).toNat) ?_ ((a218 : Int32), (0 : Int32), (lx66 : (Nat → Int32))) _ _ _ w69 ⟨(show q_F (a218.toInt ≤ a218.toInt) from (show a218.toInt ≤ a218.toInt from by omega)), V, q_lw hl (q_lw1 0 rfl (q_lw1 1 rfl (q_lw1 2 rfl (q_lw1 3 rfl (q_lw1 4 rfl (q_lw1 5 rfl q_lw0)))))), hI, hF, hO70, hO71, hO72, hO73, hO74, hO75, hO76, ⟨((a218.toInt - ((-1))).toNat + 1), Nat.lt_succ_self _, (show F_DR_times_L56 (F_DR_times_L14 x2 t0_0 t0_1 t0_2 t0_3 t0_4 t0_5 t0_6 t0_7 t0_8 t0_9 t0_10 t1_0 t2_0 t3_0 t4_0 t5_0 t6_0 a39 fm59) (F_DR_times_L39 (F_DR_times_L14 x2 t0_0 t0_1 t0_2 t0_3 t0_4 t0_5 t0_6 t0_7 t0_8 t0_9 t0_10 t1_0 t2_0 t3_0 t4_0 t5_0 t6_0 a39 fm59) x2 t0_0 t0_1 t0_2 t0_3 t0_4 t0_5 t0_6 t0_7 t0_8 t0_9 t0_10 t1_0 t2_0 t3_0 t4_0 t5_0 t6_0 a39 lx42 lx43 fm81) x2 t0_0 t0_1 t0_2 t0_3 t0_4 t0_5 t0_6 t0_7 t0_8 t0_9 t0_10 t1_0 t2_0 t3_0 t4_0 t5_0 t6_0 a39 lx42 lx43 lx65 lx66 ((a218.toInt - ((-1))).toNat + 1) a218 0 lx66 = (F_DR_times x2 t0_0 t0_1 t0_2 t0_3 t0_4 t0_5 t0_6 t0_7 t0_8 t0_9 t0_10 t1_0 t2_0 t3_0 t4_0 t5_0 t6_0) from Eq.trans (by rw [← e219, ← e217, F_DR_times_L39.eq_2, if_neg c82]) hR77), (show True ∧ S_DR_times_L56 (S_DR_times_L14 x2 t0_0 t0_1 t0_2 t0_3 t0_4 t0_5 t0_6 t0_7 t0_8 t0_9 t0_10 t1_0 t2_0 t3_0 t4_0 t5_0 t6_0 a39 fm59) (S_DR_times_L39 (S_DR_times_L14 x2 t0_0 t0_1 t0_2 t0_3 t0_4 t0_5 t0_6 t0_7 t0_8 t0_9 t0_10 t1_0 t2_0 t3_0 t4_0 t5_0 t6_0 a39 fm59) x2 t0_0 t0_1 t0_2 t0_3 t0_4 t0_5 t0_6 t0_7 t0_8 t0_9 t0_10 t1_0 t2_0 t3_0 t4_0 t5_0 t6_0 a39 lx42 lx43 fm81) x2 t0_0 t0_1 t0_2 t0_3 t0_4 t0_5 t0_6 t0_7 t0_8 t0_9 t0_10 t1_0 t2_0 t3_0 t4_0 t5_0 t6_0 a39 lx42 lx43 lx65 lx66 ((a218.toInt - ((-1))).toNat + 1) a218 0 lx66 from (by rw [← e219, ← e217]; have h := hS78; rw [S_DR_times_L39.eq_2] at h; rw [if_neg c82] at h; with_reducible exact h))⟩⟩
      rintro ⟨lx222, lx223, lx224⟩ H locs ls w227 ⟨i225, V, hl, hI, hF, hO228, hO229, hO230, hO231, hO232, hO233, hO234, ⟨fu237, hf238, hR235, hS236⟩⟩ ih226
      obtain ⟨fm239, rfl⟩ : ∃ m, fu237 = m + 1 := ⟨fu237 - 1, by omega⟩
      replace i225 : q_F (lx222.toInt ≤ a218.toInt) := i225
      replace hl : lv_has ls 7 [(5, .int lx222), (4, .int lx223), (3, .int lx65), (2, .int a39), (0, .ref (q 134)), (1, .int x2)] := hl
      replace hO228 : w227[134]? = (some (q 134, .inr (14, [.int t0_0, .ref (q 135), .int t0_1, .ref (q 136), .ref (q 137), .ref (q 138), .ref (q 139), .ref (q 140), .int t0_2, .long t0_3, .int t0_4, .int t0_5, .ref (q 141), .int t0_6, .ref (q 142), .int t0_7, .ref (q 143), .int t0_8, .ref (q 144), .int t0_9, .int t0_10])) : Option (Nat × va_E)) := hO228
      replace hO229 : w227[136]? = (some (q 136, .inl (g 0, (10000 : Int32).toNatClampNeg, .inl t1_0)) : Option (Nat × va_E)) := hO229
      replace hO230 : w227[137]? = (some (q 137, .inl (g 0, (10 : Int32).toNatClampNeg, .inl t2_0)) : Option (Nat × va_E)) := hO230
      replace hO231 : w227[138]? = (some (q 138, .inl (g 3, 10, .inl t3_0)) : Option (Nat × va_E)) := hO231
      replace hO232 : w227[139]? = (some (q 139, .inl (g 0, (10 : Int32).toNatClampNeg, .inl t4_0)) : Option (Nat × va_E)) := hO232
      replace hO233 : w227[140]? = (some (q 140, .inl (g 0, (4400 : Int32).toNatClampNeg, .inl t5_0)) : Option (Nat × va_E)) := hO233
      replace hO234 : w227[141]? = (some (q 141, .inl (g 0, (4400 : Int32).toNatClampNeg, .inl lx224)) : Option (Nat × va_E)) := hO234
      refine lv_iload hx hb d_15_27_56 (lv_at hl 0 rfl) ?_
      refine lv_if_lt (tgt := 127) hx hb d_15_27_58 (by decide) (fun c240 => ?_) (fun c240 => ?_)
      ·
        refine lv_aload_n hx hb d_15_27_127 rfl (lv_at hl 4 rfl) ?_
        refine q_get (ci := 14) (j := 12) (v := .ref (q 141)) C0 V i_DR rfl rfl hO228 (by decide) w_2015 rfl d_15_27_128 ?_
        refine lv_iload_n hx hb d_15_27_131 rfl (lv_at hl 2 rfl) ?_
        refine lv_aload_n hx hb d_15_27_132 rfl (lv_at hl 4 rfl) ?_
        refine q_get (ci := 14) (j := 12) (v := .ref (q 141)) C0 V i_DR rfl rfl hO228 (by decide) w_2015 rfl d_15_27_133 ?_
        refine lv_iload_n hx hb d_15_27_136 rfl (lv_at hl 2 rfl) ?_
        have ob242 : q_F (lx65.toInt ≤ 4399) := (by have h := hS236; rw [S_DR_times_L56.eq_2] at h; rw [if_pos c240] at h; exact h.2.1)
        refine q_iald C0 V hO234 (q_ix (x := lx65.toInt) rfl (by first | with_reducible exact q_fe b215 | (have t1 : 0 ≤ lx65.toInt := b215; omega)) (by have t1 : 0 ≤ lx65.toInt := b215; have t2 : lx65.toInt ≤ 4399 := ob242; have e9 : (((4400 : Int32).toNatClampNeg : Nat) : Int) = 4400 := (by decide); omega)) d_15_27_137 ?_
        obtain ⟨a243, e244⟩ := q_nm (lx224 lx65.toNatClampNeg : Int32)
        refine q_ti (v := a243) e244 ?_
        refine lv_iload hx hb d_15_27_138 (lv_at hl 1 rfl) ?_
        refine lv_iadd hx hb d_15_27_140 ?_
        obtain ⟨a245, e246⟩ := q_nm (a243 + lx223 : Int32)
        refine q_ti (v := a245) e246 ?_
        refine q_iast C0 V hO234 (q_ix (x := lx65.toInt) rfl (by first | with_reducible exact q_fe b215 | (have t1 : 0 ≤ lx65.toInt := b215; omega)) (by have t1 : 0 ≤ lx65.toInt := b215; have t2 : lx65.toInt ≤ 4399 := ob242; have e9 : (((4400 : Int32).toNatClampNeg : Nat) : Int) = 4400 := (by decide); omega)) d_15_27_141 (fun H locs w247 hu248 hO234 V => ?_)
        replace hI := n_ai' hI (n_r141 g q).1 hu248 hO234 (q_updB (fun _ => s_bnd) s_bnd)
        replace hO228 := (hu248 _ (by decide)).trans hO228
        replace hO229 := (hu248 _ (by decide)).trans hO229
        replace hO230 := (hu248 _ (by decide)).trans hO230
        replace hO231 := (hu248 _ (by decide)).trans hO231
        replace hO232 := (hu248 _ (by decide)).trans hO232
        replace hO233 := (hu248 _ (by decide)).trans hO233
        replace hF := q_us hF hu248 (by simp)
        obtain ⟨f249, e250⟩ := q_nm (upd lx224 lx65.toNatClampNeg a245 : (Nat → Int32))
        rw [e250] at hO234
        obtain ⟨a251, e252⟩ := q_nm (lx65 + (-1) : Int32)
        have b253 : q_F (a251.toInt = lx65.toInt + (-1)) := (by rw [← e252]; exact q_addI (y := (-1)) rfl (by decide) (by have t1 : 0 ≤ lx65.toInt := b215; have t2 : lx65.toInt ≤ 4399 := ob242; omega) (by have t1 : 0 ≤ lx65.toInt := b215; have t2 : lx65.toInt ≤ 4399 := ob242; omega))
        refine lv_iinc (v := a251) (lv' := [(3, .int a251), (5, .int lx222), (4, .int lx223), (2, .int a39), (0, .ref (q 134)), (1, .int x2)]) hx hb d_15_27_142 hl (k := 2) rfl (e252) (by decide) rfl (fun ls hl => ?_)
        refine lv_goto (tgt := 39) hx hb d_15_27_145 (by decide) ?_
        exact ih68 ((a251 : Int32), (f249 : (Nat → Int32))) _ _ _ _ (show (a251.toInt - ((-1))).toNat < (lx65.toInt - ((-1))).toNat from by have t1 : a251.toInt = lx65.toInt + (-1) := b253; have t2 : 0 ≤ lx65.toInt := b215; omega) ⟨(show q_F (a251.toInt ≤ a62.toInt) from (show a251.toInt ≤ a62.toInt from by have t1 : lx65.toInt ≤ a62.toInt := i67; have t2 : a251.toInt = lx65.toInt + (-1) := b253; omega)), V, q_lw hl (q_lw1 0 rfl (q_lw1 3 rfl (q_lw1 4 rfl (q_lw1 5 rfl q_lw0)))), hI, hF, hO228, hO229, hO230, hO231, hO232, hO233, hO234, ⟨fm81, Nat.lt_of_lt_of_le (show (a251.toInt - ((-1))).toNat < (lx65.toInt - ((-1))).toNat from by have t1 : a251.toInt = lx65.toInt + (-1) := b253; have t2 : 0 ≤ lx65.toInt := b215; omega) (Nat.le_of_lt_succ hf80), (show F_DR_times_L39 (F_DR_times_L14 x2 t0_0 t0_1 t0_2 t0_3 t0_4 t0_5 t0_6 t0_7 t0_8 t0_9 t0_10 t1_0 t2_0 t3_0 t4_0 t5_0 t6_0 a39 fm59) x2 t0_0 t0_1 t0_2 t0_3 t0_4 t0_5 t0_6 t0_7 t0_8 t0_9 t0_10 t1_0 t2_0 t3_0 t4_0 t5_0 t6_0 a39 lx42 lx43 fm81 a251 f249 = (F_DR_times x2 t0_0 t0_1 t0_2 t0_3 t0_4 t0_5 t0_6 t0_7 t0_8 t0_9 t0_10 t1_0 t2_0 t3_0 t4_0 t5_0 t6_0) from Eq.trans (by rw [← e252, ← e250, ← e246, ← e244, F_DR_times_L56.eq_2, if_pos c240]) hR235), (show True ∧ S_DR_times_L39 (S_DR_times_L14 x2 t0_0 t0_1 t0_2 t0_3 t0_4 t0_5 t0_6 t0_7 t0_8 t0_9 t0_10 t1_0 t2_0 t3_0 t4_0 t5_0 t6_0 a39 fm59) x2 t0_0 t0_1 t0_2 t0_3 t0_4 t0_5 t0_6 t0_7 t0_8 t0_9 t0_10 t1_0 t2_0 t3_0 t4_0 t5_0 t6_0 a39 lx42 lx43 fm81 a251 f249 from (by rw [← e252, ← e250, ← e246, ← e244]; have h := hS236; rw [S_DR_times_L56.eq_2] at h; rw [if_pos c240] at h; replace h := q_s2 h; with_reducible exact h))⟩⟩
      ·
        have b254 : q_F (0 ≤ lx222.toInt) := (q_nltI c240)
        refine lv_aload_n hx hb d_15_27_61 rfl (lv_at hl 4 rfl) ?_
        refine q_get (ci := 14) (j := 12) (v := .ref (q 141)) C0 V i_DR rfl rfl hO228 (by decide) w_2015 rfl d_15_27_62 ?_
        refine lv_iload_n hx hb d_15_27_65 rfl (lv_at hl 2 rfl) ?_
        refine lv_iload hx hb d_15_27_66 (lv_at hl 0 rfl) ?_
        refine lv_iadd hx hb d_15_27_68 ?_
        obtain ⟨a255, e256⟩ := q_nm (lx65 + lx222 : Int32)
        refine q_ti (v := a255) e256 ?_
        refine lv_iconst (v := 1) hx hb d_15_27_69 (by decide) ?_
        refine lv_iadd hx hb d_15_27_70 ?_
        obtain ⟨a257, e258⟩ := q_nm (a255 + 1 : Int32)
        refine q_ti (v := a257) e258 ?_
        have ob259 : q_F (0 ≤ a257.toInt) := (by rw [← e258, ← e256]; have h := hS236; rw [S_DR_times_L56.eq_2] at h; rw [if_neg c240] at h; exact h.2.1)
        have ob260 : q_F (a257.toInt ≤ 4399) := (by rw [← e258, ← e256]; have h := hS236; rw [S_DR_times_L56.eq_2] at h; rw [if_neg c240] at h; replace h := q_s2 h; exact h.2.1)
        refine q_iald C0 V hO234 (q_ix (x := a257.toInt) rfl (by first | with_reducible exact q_fe ob259 | (have t1 : 0 ≤ a257.toInt := ob259; omega)) (by have t1 : 0 ≤ a257.toInt := ob259; have t2 : a257.toInt ≤ 4399 := ob260; have e9 : (((4400 : Int32).toNatClampNeg : Nat) : Int) = 4400 := (by decide); omega)) d_15_27_71 ?_
        obtain ⟨a261, e262⟩ := q_nm (lx224 a257.toNatClampNeg : Int32)
        refine q_ti (v := a261) e262 ?_
        refine lv_aload_n hx hb d_15_27_72 rfl (lv_at hl 4 rfl) ?_
        refine q_get (ci := 14) (j := 7) (v := .ref (q 140)) C0 V i_DR rfl rfl hO228 (by decide) w_2010 rfl d_15_27_73 ?_
        refine lv_iload_n hx hb d_15_27_76 rfl (lv_at hl 2 rfl) ?_
        have ob263 : q_F (lx65.toInt ≤ 4399) := (by have h := hS236; rw [S_DR_times_L56.eq_2] at h; rw [if_neg c240] at h; replace h := q_s2 h; replace h := q_s2 h; exact h.2.1)
        refine q_iald C0 V hO233 (q_ix (x := lx65.toInt) rfl (by first | with_reducible exact q_fe b215 | (have t1 : 0 ≤ lx65.toInt := b215; omega)) (by have t1 : 0 ≤ lx65.toInt := b215; have t2 : lx65.toInt ≤ 4399 := ob263; have e9 : (((4400 : Int32).toNatClampNeg : Nat) : Int) = 4400 := (by decide); omega)) d_15_27_77 ?_
        obtain ⟨a264, e265⟩ := q_nm (t5_0 lx65.toNatClampNeg : Int32)
        refine q_ti (v := a264) e265 ?_
        refine lv_aload_n hx hb d_15_27_78 rfl (lv_at hl 4 rfl) ?_
        refine q_get (ci := 14) (j := 3) (v := .ref (q 136)) C0 V i_DR rfl rfl hO228 (by decide) w_2002 rfl d_15_27_79 ?_
        refine lv_sipush (v := 1000) hx hb d_15_27_82 (by decide) ?_
        refine lv_iload_n hx hb d_15_27_85 rfl (lv_at hl 5 rfl) ?_
        refine lv_imul hx hb d_15_27_86 ?_
        obtain ⟨a266, e267⟩ := q_nm (1000 * x2 : Int32)
        refine q_ti (v := a266) e267 ?_
        refine lv_iload hx hb d_15_27_87 (lv_at hl 0 rfl) ?_
        refine lv_iadd hx hb d_15_27_89 ?_
        obtain ⟨a269, e270⟩ := q_nm (a266 + lx222 : Int32)
        refine q_ti (v := a269) e270 ?_
        have ob271 : q_F (0 ≤ a269.toInt) := (by rw [← e270, ← e267]; have h := hS236; rw [S_DR_times_L56.eq_2] at h; rw [if_neg c240] at h; replace h := q_s2 h; replace h := q_s2 h; replace h := q_s2 h; exact h.2.1)
        have ob272 : q_F (a269.toInt ≤ 9999) := (by rw [← e270, ← e267]; have h := hS236; rw [S_DR_times_L56.eq_2] at h; rw [if_neg c240] at h; replace h := q_s2 h; replace h := q_s2 h; replace h := q_s2 h; replace h := q_s2 h; exact h.2.1)
        refine q_iald C0 V hO229 (q_ix (x := a269.toInt) rfl (by first | with_reducible exact q_fe ob271 | (have t1 : 0 ≤ a269.toInt := ob271; omega)) (by have t1 : 0 ≤ a269.toInt := ob271; have t2 : a269.toInt ≤ 9999 := ob272; have e9 : (((10000 : Int32).toNatClampNeg : Nat) : Int) = 10000 := (by decide); omega)) d_15_27_90 ?_
        obtain ⟨a273, e274⟩ := q_nm (t1_0 a269.toNatClampNeg : Int32)
        refine q_ti (v := a273) e274 ?_
        refine lv_imul hx hb d_15_27_91 ?_
        obtain ⟨a275, e276⟩ := q_nm (a264 * a273 : Int32)
        refine q_ti (v := a275) e276 ?_
        refine lv_iadd hx hb d_15_27_92 ?_
        obtain ⟨a277, e278⟩ := q_nm (a261 + a275 : Int32)
        refine q_ti (v := a277) e278 ?_
        refine lv_iload hx hb d_15_27_93 (lv_at hl 1 rfl) ?_
        refine lv_iadd hx hb d_15_27_95 ?_
        obtain ⟨a279, e280⟩ := q_nm (a277 + lx223 : Int32)
        refine q_ti (v := a279) e280 ?_
        refine lv_istore (lv' := [(6, .int a279), (5, .int lx222), (4, .int lx223), (3, .int lx65), (2, .int a39), (0, .ref (q 134)), (1, .int x2)]) hx hb d_15_27_96 hl (by decide) rfl (fun ls hl => ?_)
        refine lv_aload_n hx hb d_15_27_98 rfl (lv_at hl 5 rfl) ?_
        refine q_get (ci := 14) (j := 12) (v := .ref (q 141)) C0 V i_DR rfl rfl hO228 (by decide) w_2015 rfl d_15_27_99 ?_
        refine lv_iload_n hx hb d_15_27_102 rfl (lv_at hl 3 rfl) ?_
        refine lv_iload hx hb d_15_27_103 (lv_at hl 1 rfl) ?_
        refine lv_iadd hx hb d_15_27_105 ?_
        obtain ⟨a281, e282⟩ := q_nm (lx65 + lx222 : Int32)
        refine q_ti (v := a281) e282 ?_
        refine lv_iconst (v := 1) hx hb d_15_27_106 (by decide) ?_
        refine lv_iadd hx hb d_15_27_107 ?_
        obtain ⟨a283, e284⟩ := q_nm (a281 + 1 : Int32)
        refine q_ti (v := a283) e284 ?_
        refine lv_iload hx hb d_15_27_108 (lv_at hl 0 rfl) ?_
        refine lv_bipush (v := 10) hx hb d_15_27_110 (by decide) ?_
        refine lv_irem hx hb d_15_27_112 (by decide) ?_
        obtain ⟨a285, e286⟩ := q_nm (a279 - a279 / 10 * 10 : Int32)
        refine q_ti (v := a285) e286 ?_
        have ob287 : q_F (0 ≤ a283.toInt) := (by rw [← e284, ← e282]; have h := hS236; rw [S_DR_times_L56.eq_2] at h; rw [if_neg c240] at h; replace h := q_s2 h; replace h := q_s2 h; replace h := q_s2 h; replace h := q_s2 h; replace h := q_s2 h; exact h.2.1)
        have ob288 : q_F (a283.toInt ≤ 4399) := (by rw [← e284, ← e282]; have h := hS236; rw [S_DR_times_L56.eq_2] at h; rw [if_neg c240] at h; replace h := q_s2 h; replace h := q_s2 h; replace h := q_s2 h; replace h := q_s2 h; replace h := q_s2 h; replace h := q_s2 h; exact h.2.1)
        refine q_iast C0 V hO234 (q_ix (x := a283.toInt) rfl (by first | with_reducible exact q_fe ob287 | (have t1 : 0 ≤ a283.toInt := ob287; omega)) (by have t1 : 0 ≤ a283.toInt := ob287; have t2 : a283.toInt ≤ 4399 := ob288; have e9 : (((4400 : Int32).toNatClampNeg : Nat) : Int) = 4400 := (by decide); omega)) d_15_27_113 (fun H locs w289 hu290 hO234 V => ?_)
        replace hI := n_ai' hI (n_r141 g q).1 hu290 hO234 (q_updB (fun _ => s_bnd) s_bnd)
        replace hO228 := (hu290 _ (by decide)).trans hO228
        replace hO229 := (hu290 _ (by decide)).trans hO229
        replace hO230 := (hu290 _ (by decide)).trans hO230
        replace hO231 := (hu290 _ (by decide)).trans hO231
        replace hO232 := (hu290 _ (by decide)).trans hO232
        replace hO233 := (hu290 _ (by decide)).trans hO233
        replace hF := q_us hF hu290 (by simp)
        obtain ⟨f291, e292⟩ := q_nm (upd lx224 a283.toNatClampNeg a285 : (Nat → Int32))
        rw [e292] at hO234
        refine lv_iload hx hb d_15_27_114 (lv_at hl 0 rfl) ?_
        refine lv_bipush (v := 10) hx hb d_15_27_116 (by decide) ?_
        refine lv_idiv hx hb d_15_27_118 (by decide) ?_
        obtain ⟨a293, e294⟩ := q_nm (a279 / 10 : Int32)
        refine q_ti (v := a293) e294 ?_
        refine lv_istore (lv' := [(4, .int a293), (6, .int a279), (5, .int lx222), (3, .int lx65), (2, .int a39), (0, .ref (q 134)), (1, .int x2)]) hx hb d_15_27_119 hl (by decide) rfl (fun ls hl => ?_)
        obtain ⟨a296, e297⟩ := q_nm (lx222 + (-1) : Int32)
        have b298 : q_F (a296.toInt = lx222.toInt + (-1)) := (by rw [← e297]; exact q_addI (y := (-1)) rfl (by decide) (by have t1 : 0 ≤ lx222.toInt := b254; have t2 : lx222.toInt ≤ a218.toInt := i225; have _ := q_lo32 (x := a218); have _ := q_hi32 (x := a218); omega) (by have t1 : 0 ≤ lx222.toInt := b254; have t2 : lx222.toInt ≤ a218.toInt := i225; have _ := q_lo32 (x := a218); have _ := q_hi32 (x := a218); omega))
        refine lv_iinc (v := a296) (lv' := [(5, .int a296), (4, .int a293), (6, .int a279), (3, .int lx65), (2, .int a39), (0, .ref (q 134)), (1, .int x2)]) hx hb d_15_27_121 hl (k := 2) rfl (e297) (by decide) rfl (fun ls hl => ?_)
        refine lv_goto (tgt := 56) hx hb d_15_27_124 (by decide) ?_
        exact ih226 ((a296 : Int32), (a293 : Int32), (f291 : (Nat → Int32))) _ _ _ _ (show (a296.toInt - ((-1))).toNat < (lx222.toInt - ((-1))).toNat from by have t1 : a296.toInt = lx222.toInt + (-1) := b298; have t2 : 0 ≤ lx222.toInt := b254; omega) ⟨(show q_F (a296.toInt ≤ a218.toInt) from (show a296.toInt ≤ a218.toInt from by have t1 : lx222.toInt ≤ a218.toInt := i225; have t2 : a296.toInt = lx222.toInt + (-1) := b298; omega)), V, q_lw hl (q_lw1 0 rfl (q_lw1 1 rfl (q_lw1 3 rfl (q_lw1 4 rfl (q_lw1 5 rfl (q_lw1 6 rfl q_lw0)))))), hI, hF, hO228, hO229, hO230, hO231, hO232, hO233, hO234, ⟨fm239, Nat.lt_of_lt_of_le (show (a296.toInt - ((-1))).toNat < (lx222.toInt - ((-1))).toNat from by have t1 : a296.toInt = lx222.toInt + (-1) := b298; have t2 : 0 ≤ lx222.toInt := b254; omega) (Nat.le_of_lt_succ hf238), (show F_DR_times_L56 (F_DR_times_L14 x2 t0_0 t0_1 t0_2 t0_3 t0_4 t0_5 t0_6 t0_7 t0_8 t0_9 t0_10 t1_0 t2_0 t3_0 t4_0 t5_0 t6_0 a39 fm59) (F_DR_times_L39 (F_DR_times_L14 x2 t0_0 t0_1 t0_2 t0_3 t0_4 t0_5 t0_6 t0_7 t0_8 t0_9 t0_10 t1_0 t2_0 t3_0 t4_0 t5_0 t6_0 a39 fm59) x2 t0_0 t0_1 t0_2 t0_3 t0_4 t0_5 t0_6 t0_7 t0_8 t0_9 t0_10 t1_0 t2_0 t3_0 t4_0 t5_0 t6_0 a39 lx42 lx43 fm81) x2 t0_0 t0_1 t0_2 t0_3 t0_4 t0_5 t0_6 t0_7 t0_8 t0_9 t0_10 t1_0 t2_0 t3_0 t4_0 t5_0 t6_0 a39 lx42 lx43 lx65 lx66 fm239 a296 a293 f291 = (F_DR_times x2 t0_0 t0_1 t0_2 t0_3 t0_4 t0_5 t0_6 t0_7 t0_8 t0_9 t0_10 t1_0 t2_0 t3_0 t4_0 t5_0 t6_0) from Eq.trans (by rw [← e297, ← e294, ← e292, ← e286, ← e284, ← e282, ← e280, ← e278, ← e276, ← e274, ← e270, ← e267, ← e265, ← e262, ← e258, ← e256, F_DR_times_L56.eq_2, if_neg c240]) hR235), (show True ∧ S_DR_times_L56 (S_DR_times_L14 x2 t0_0 t0_1 t0_2 t0_3 t0_4 t0_5 t0_6 t0_7 t0_8 t0_9 t0_10 t1_0 t2_0 t3_0 t4_0 t5_0 t6_0 a39 fm59) (S_DR_times_L39 (S_DR_times_L14 x2 t0_0 t0_1 t0_2 t0_3 t0_4 t0_5 t0_6 t0_7 t0_8 t0_9 t0_10 t1_0 t2_0 t3_0 t4_0 t5_0 t6_0 a39 fm59) x2 t0_0 t0_1 t0_2 t0_3 t0_4 t0_5 t0_6 t0_7 t0_8 t0_9 t0_10 t1_0 t2_0 t3_0 t4_0 t5_0 t6_0 a39 lx42 lx43 fm81) x2 t0_0 t0_1 t0_2 t0_3 t0_4 t0_5 t0_6 t0_7 t0_8 t0_9 t0_10 t1_0 t2_0 t3_0 t4_0 t5_0 t6_0 a39 lx42 lx43 lx65 lx66 fm239 a296 a293 f291 from (by rw [← e297, ← e294, ← e292, ← e286, ← e284, ← e282, ← e280, ← e278, ← e276, ← e274, ← e270, ← e267, ← e265, ← e262, ← e258, ← e256]; have h := hS236; rw [S_DR_times_L56.eq_2] at h; rw [if_neg c240] at h; replace h := q_s2 h; replace h := q_s2 h; replace h := q_s2 h; replace h := q_s2 h; replace h := q_s2 h; replace h := q_s2 h; replace h := q_s2 h; with_reducible exact h))⟩⟩
  ·
    refine lv_aload_n hx hb d_15_27_19 rfl (lv_at hl 2 rfl) ?_
    refine q_get (ci := 14) (j := 12) (v := .ref (q 141)) C0 V i_DR rfl rfl hO48 (by decide) w_2015 rfl d_15_27_20 ?_
    refine lv_iload_n hx hb d_15_27_23 rfl (lv_at hl 0 rfl) ?_
    refine lv_iconst (v := 0) hx hb d_15_27_24 (by decide) ?_
    have ob300 : q_F (lx42.toInt ≤ 4399) := (by have h := hS56; rw [S_DR_times_L14.eq_2] at h; rw [if_neg c60] at h; exact h.2.1)
    refine q_iast C0 V hO54 (q_ix (x := lx42.toInt) rfl (by first | with_reducible exact q_fe i44 | (have t1 : 0 ≤ lx42.toInt := i44; omega)) (by have t1 : 0 ≤ lx42.toInt := i44; have t2 : lx42.toInt ≤ 4399 := ob300; have e9 : (((4400 : Int32).toNatClampNeg : Nat) : Int) = 4400 := (by decide); omega)) d_15_27_25 (fun H locs w301 hu302 hO54 V => ?_)
    replace hI := n_ai' hI (n_r141 g q).1 hu302 hO54 (q_updB (fun _ => s_bnd) s_bnd)
    replace hO48 := (hu302 _ (by decide)).trans hO48
    replace hO49 := (hu302 _ (by decide)).trans hO49
    replace hO50 := (hu302 _ (by decide)).trans hO50
    replace hO51 := (hu302 _ (by decide)).trans hO51
    replace hO52 := (hu302 _ (by decide)).trans hO52
    replace hO53 := (hu302 _ (by decide)).trans hO53
    replace hF := q_us hF hu302 (by simp)
    obtain ⟨f303, e304⟩ := q_nm (upd lx43 lx42.toNatClampNeg 0 : (Nat → Int32))
    rw [e304] at hO54
    obtain ⟨a305, e306⟩ := q_nm (lx42 + 1 : Int32)
    have b307 : q_F (a305.toInt = lx42.toInt + 1) := (by rw [← e306]; exact q_addI (y := 1) rfl (by decide) (by have t1 : 0 ≤ lx42.toInt := i44; have t2 : lx42.toInt ≤ 12200 := i45; omega) (by have t1 : 0 ≤ lx42.toInt := i44; have t2 : lx42.toInt ≤ 12200 := i45; omega))
    refine lv_iinc (v := a305) (lv' := [(3, .int a305), (2, .int a39), (0, .ref (q 134)), (1, .int x2)]) hx hb d_15_27_26 hl (k := 0) rfl (e306) (by decide) rfl (fun ls hl => ?_)
    refine lv_goto (tgt := 14) hx hb d_15_27_29 (by decide) ?_
    exact ih46 ((a305 : Int32), (f303 : (Nat → Int32))) _ _ _ _ (show (12200 - a305.toInt).toNat < (12200 - lx42.toInt).toNat from by have t1 : a305.toInt = lx42.toInt + 1 := b307; have t2 : lx42.toInt ≤ 12200 := i45; have t3 : lx42.toInt ≤ 4399 := ob300; omega) ⟨(show q_F (0 ≤ a305.toInt) from (show 0 ≤ a305.toInt from by have t1 : 0 ≤ lx42.toInt := i44; have t2 : a305.toInt = lx42.toInt + 1 := b307; omega)), (show q_F (a305.toInt ≤ 12200) from (show a305.toInt ≤ 12200 from by have t1 : lx42.toInt ≤ 4399 := ob300; have t2 : a305.toInt = lx42.toInt + 1 := b307; omega)), V, q_lw hl (q_lw1 0 rfl (q_lw1 1 rfl (q_lw1 2 rfl (q_lw1 3 rfl q_lw0)))), hI, hF, hO48, hO49, hO50, hO51, hO52, hO53, hO54, ⟨fm59, Nat.lt_of_lt_of_le (show (12200 - a305.toInt).toNat < (12200 - lx42.toInt).toNat from by have t1 : a305.toInt = lx42.toInt + 1 := b307; have t2 : lx42.toInt ≤ 12200 := i45; have t3 : lx42.toInt ≤ 4399 := ob300; omega) (Nat.le_of_lt_succ hf58), (show F_DR_times_L14 x2 t0_0 t0_1 t0_2 t0_3 t0_4 t0_5 t0_6 t0_7 t0_8 t0_9 t0_10 t1_0 t2_0 t3_0 t4_0 t5_0 t6_0 a39 fm59 a305 f303 = (F_DR_times x2 t0_0 t0_1 t0_2 t0_3 t0_4 t0_5 t0_6 t0_7 t0_8 t0_9 t0_10 t1_0 t2_0 t3_0 t4_0 t5_0 t6_0) from Eq.trans (by rw [← e306, ← e304, F_DR_times_L14.eq_2, if_neg c60]) hR55), (show True ∧ S_DR_times_L14 x2 t0_0 t0_1 t0_2 t0_3 t0_4 t0_5 t0_6 t0_7 t0_8 t0_9 t0_10 t1_0 t2_0 t3_0 t4_0 t5_0 t6_0 a39 fm59 a305 f303 from (by rw [← e306, ← e304]; have h := hS56; rw [S_DR_times_L14.eq_2] at h; rw [if_neg c60] at h; replace h := q_s2 h; with_reducible exact h))⟩⟩

