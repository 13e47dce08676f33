theorem d_15_30_0 : decode prog_15_method_30_code 0 = .ok (.aload_n 0, 1) := by decide +kernel
theorem d_15_30_1 : decode prog_15_method_30_code 1 = .ok (.aload_n 0, 1) := by decide +kernel
theorem d_15_30_2 : decode prog_15_method_30_code 2 = .ok (.getfield 16, 3) := by decide +kernel
theorem d_15_30_5 : decode prog_15_method_30_code 5 = .ok (.iload_n 1, 1) := by decide +kernel
theorem d_15_30_6 : decode prog_15_method_30_code 6 = .ok (.iaload, 1) := by decide +kernel
theorem d_15_30_7 : decode prog_15_method_30_code 7 = .ok (.iload_n 2, 1) := by decide +kernel
theorem d_15_30_8 : decode prog_15_method_30_code 8 = .ok (.iadd, 1) := by decide +kernel
theorem d_15_30_9 : decode prog_15_method_30_code 9 = .ok (.putfield 138, 3) := by decide +kernel
set_option maxRecDepth 100000 in
theorem w_2018 : (Cond.fieldLink "NumberHouseModel$DecimalRows" (138 : Nat) "NumberHouseModel$DecimalRows" "underSize" "I") ∈ q_tbl := q_of9 98 rfl (by decide +kernel)
theorem d_15_30_12 : decode prog_15_method_30_code 12 = .ok (.iconst 0, 1) := by decide +kernel
theorem d_15_30_13 : decode prog_15_method_30_code 13 = .ok (.istore_n 3, 1) := by decide +kernel
theorem d_15_30_14 : decode prog_15_method_30_code 14 = .ok (.iload_n 3, 1) := by decide +kernel
theorem d_15_30_15 : decode prog_15_method_30_code 15 = .ok (.aload_n 0, 1) := by decide +kernel
theorem d_15_30_16 : decode prog_15_method_30_code 16 = .ok (.getfield 138, 3) := by decide +kernel
theorem d_15_30_19 : decode prog_15_method_30_code 19 = .ok (.if_icmp .ge 41, 3) := by decide +kernel
theorem d_15_30_60 : decode prog_15_method_30_code 60 = .ok (.return_, 1) := by decide +kernel
theorem d_15_30_22 : decode prog_15_method_30_code 22 = .ok (.aload_n 0, 1) := by decide +kernel
theorem d_15_30_23 : decode prog_15_method_30_code 23 = .ok (.getfield 32, 3) := by decide +kernel
theorem d_15_30_26 : decode prog_15_method_30_code 26 = .ok (.iload_n 3, 1) := by decide +kernel
theorem d_15_30_27 : decode prog_15_method_30_code 27 = .ok (.iload_n 3, 1) := by decide +kernel
theorem d_15_30_28 : decode prog_15_method_30_code 28 = .ok (.aload_n 0, 1) := by decide +kernel
theorem d_15_30_29 : decode prog_15_method_30_code 29 = .ok (.getfield 16, 3) := by decide +kernel
theorem d_15_30_32 : decode prog_15_method_30_code 32 = .ok (.iload_n 1, 1) := by decide +kernel
theorem d_15_30_33 : decode prog_15_method_30_code 33 = .ok (.iaload, 1) := by decide +kernel
theorem d_15_30_34 : decode prog_15_method_30_code 34 = .ok (.if_icmp .ge 18, 3) := by decide +kernel
theorem d_15_30_52 : decode prog_15_method_30_code 52 = .ok (.iconst 0, 1) := by decide +kernel
theorem d_15_30_53 : decode prog_15_method_30_code 53 = .ok (.iastore, 1) := by decide +kernel
theorem d_15_30_54 : decode prog_15_method_30_code 54 = .ok (.iinc 3 1, 3) := by decide +kernel
theorem d_15_30_57 : decode prog_15_method_30_code 57 = .ok (.goto (-43), 3) := by decide +kernel
theorem d_15_30_37 : decode prog_15_method_30_code 37 = .ok (.aload_n 0, 1) := by decide +kernel
theorem d_15_30_38 : decode prog_15_method_30_code 38 = .ok (.getfield 13, 3) := by decide +kernel
theorem d_15_30_41 : decode prog_15_method_30_code 41 = .ok (.sipush 1000, 3) := by decide +kernel
theorem d_15_30_44 : decode prog_15_method_30_code 44 = .ok (.iload_n 1, 1) := by decide +kernel
theorem d_15_30_45 : decode prog_15_method_30_code 45 = .ok (.imul, 1) := by decide +kernel
theorem d_15_30_46 : decode prog_15_method_30_code 46 = .ok (.iload_n 3, 1) := by decide +kernel
theorem d_15_30_47 : decode prog_15_method_30_code 47 = .ok (.iadd, 1) := by decide +kernel
theorem d_15_30_48 : decode prog_15_method_30_code 48 = .ok (.iaload, 1) := by decide +kernel
theorem d_15_30_49 : decode prog_15_method_30_code 49 = .ok (.goto 4, 3) := by decide +kernel
def y_DR_loadUnder : MethodName := ⟨"NumberHouseModel$DecimalRows", "loadUnder", "(II)V"⟩
def F_DR_loadUnder_L14 (x2 : Int32) (x3 : Int32) (t0_0 : Int32) (t0_1 : Int32) (t0_2 : Int32) (t0_3 : Int64) (t0_4 : Int32) (t0_5 : Int32) (t0_6 : Int32) (t0_7 : Int32) (t0_8 : Int32) (t0_9 : Int32) (t0_10 : Int32) (t1_0 : (Nat → Int32)) (t2_0 : (Nat → Int32)) (t3_0 : (Nat → Int32)) (a30 : Int32) : Nat → Int32 → (Nat → Int32) → (Int32 × Int32 × Int32 × Int64 × Int32 × Int32 × Int32 × Int32 × Int32 × Int32 × Int32 × (Nat → Int32))
  | 0, _, _ => default
  | fm + 1, lx35, lx36 => if a30 ≤ lx35 then ((t0_0, t0_1, t0_2, t0_3, t0_4, t0_5, t0_6, a30, t0_8, t0_9, t0_10, lx36)) else (if (t2_0 x2.toNatClampNeg : Int32) ≤ lx35 then (F_DR_loadUnder_L14 x2 x3 t0_0 t0_1 t0_2 t0_3 t0_4 t0_5 t0_6 t0_7 t0_8 t0_9 t0_10 t1_0 t2_0 t3_0 a30 fm (lx35 + 1 : Int32) (upd lx36 lx35.toNatClampNeg 0 : (Nat → Int32))) else (F_DR_loadUnder_L14 x2 x3 t0_0 t0_1 t0_2 t0_3 t0_4 t0_5 t0_6 t0_7 t0_8 t0_9 t0_10 t1_0 t2_0 t3_0 a30 fm (lx35 + 1 : Int32) (upd lx36 lx35.toNatClampNeg (t1_0 ((1000 * x2 : Int32) + lx35 : Int32).toNatClampNeg : Int32) : (Nat → Int32))))
def F_DR_loadUnder (x2 : Int32) (x3 : Int32) (t0_0 : Int32) (t0_1 : Int32) (t0_2 : Int32) (t0_3 : Int64) (t0_4 : Int32) (t0_5 : Int32) (t0_6 : Int32) (t0_7 : Int32) (t0_8 : Int32) (t0_9 : Int32) (t0_10 : Int32) (t1_0 : (Nat → Int32)) (t2_0 : (Nat → Int32)) (t3_0 : (Nat → Int32)) : Int32 × Int32 × Int32 × Int64 × Int32 × Int32 × Int32 × Int32 × Int32 × Int32 × Int32 × (Nat → Int32) := F_DR_loadUnder_L14 x2 x3 t0_0 t0_1 t0_2 t0_3 t0_4 t0_5 t0_6 t0_7 t0_8 t0_9 t0_10 t1_0 t2_0 t3_0 ((t2_0 x2.toNatClampNeg : Int32) + x3 : Int32) ((4100 - (0 : Int32).toInt).toNat + 1) 0 t3_0
def S_DR_loadUnder_L14 (x2 : Int32) (x3 : Int32) (t0_0 : Int32) (t0_1 : Int32) (t0_2 : Int32) (t0_3 : Int64) (t0_4 : Int32) (t0_5 : Int32) (t0_6 : Int32) (t0_7 : Int32) (t0_8 : Int32) (t0_9 : Int32) (t0_10 : Int32) (t1_0 : (Nat → Int32)) (t2_0 : (Nat → Int32)) (t3_0 : (Nat → Int32)) (a30 : Int32) : Nat → Int32 → (Nat → Int32) → Prop
  | 0, _, _ => False
  | fm + 1, lx35, lx36 => if a30 ≤ lx35 then (True) else (if (t2_0 x2.toNatClampNeg : Int32) ≤ lx35 then ((lx35.toInt ≤ 2199) ∧ (S_DR_loadUnder_L14 x2 x3 t0_0 t0_1 t0_2 t0_3 t0_4 t0_5 t0_6 t0_7 t0_8 t0_9 t0_10 t1_0 t2_0 t3_0 a30 fm (lx35 + 1 : Int32) (upd lx36 lx35.toNatClampNeg 0 : (Nat → Int32)))) else ((((1000 * x2 : Int32) + lx35 : Int32).toInt ≤ 9999) ∧ ((lx35.toInt ≤ 2199) ∧ (S_DR_loadUnder_L14 x2 x3 t0_0 t0_1 t0_2 t0_3 t0_4 t0_5 t0_6 t0_7 t0_8 t0_9 t0_10 t1_0 t2_0 t3_0 a30 fm (lx35 + 1 : Int32) (upd lx36 lx35.toNatClampNeg (t1_0 ((1000 * x2 : Int32) + lx35 : Int32).toNatClampNeg : Int32) : (Nat → Int32))))))
def S_DR_loadUnder (x2 : Int32) (x3 : Int32) (t0_0 : Int32) (t0_1 : Int32) (t0_2 : Int32) (t0_3 : Int64) (t0_4 : Int32) (t0_5 : Int32) (t0_6 : Int32) (t0_7 : Int32) (t0_8 : Int32) (t0_9 : Int32) (t0_10 : Int32) (t1_0 : (Nat → Int32)) (t2_0 : (Nat → Int32)) (t3_0 : (Nat → Int32)) : Prop := (0 ≤ x2.toInt) ∧ ((x2.toInt ≤ 9) ∧ (S_DR_loadUnder_L14 x2 x3 t0_0 t0_1 t0_2 t0_3 t0_4 t0_5 t0_6 t0_7 t0_8 t0_9 t0_10 t1_0 t2_0 t3_0 ((t2_0 x2.toNatClampNeg : Int32) + x3 : Int32) ((4100 - (0 : Int32).toInt).toNat + 1) 0 t3_0))
set_option maxRecDepth 100000 in
set_option maxHeartbeats 4000000 in
theorem X_DR_loadUnder (l : Launch) (D : va_G) (g : Nat → ClassId) (q : Nat → Nat) (ws : va_W) (x2 : Int32) (x3 : Int32) (hI : q_I (msh g q) q ws) (t0_0 : Int32) (t0_1 : Int32) (t0_2 : Int32) (t0_3 : Int64) (t0_4 : Int32) (t0_5 : Int32) (t0_6 : Int32) (t0_7 : Int32) (t0_8 : Int32) (t0_9 : Int32) (t0_10 : Int32) (hT0 : ws[134]? = (some (q 134, .inr (14, [.int t0_0, .ref (q 135), .int t0_1, .ref (q 136), .ref (q 137), .ref (q 138), .ref (q 139), .ref (q 140), .int t0_2, .long t0_3, .int t0_4, .int t0_5, .ref (q 141), .int t0_6, .ref (q 142), .int t0_7, .ref (q 143), .int t0_8, .ref (q 144), .int t0_9, .int t0_10])) : Option (Nat × va_E))) (t1_0 : (Nat → Int32)) (hT1 : ws[136]? = (some (q 136, .inl (g 0, (10000 : Int32).toNatClampNeg, .inl t1_0)) : Option (Nat × va_E))) (t2_0 : (Nat → Int32)) (hT2 : ws[137]? = (some (q 137, .inl (g 0, (10 : Int32).toNatClampNeg, .inl t2_0)) : Option (Nat × va_E))) (t3_0 : (Nat → Int32)) (hT3 : ws[142]? = (some (q 142, .inl (g 0, (2200 : Int32).toNatClampNeg, .inl t3_0)) : Option (Nat × va_E))) (hS : True ∧ S_DR_loadUnder x2 x3 t0_0 t0_1 t0_2 t0_3 t0_4 t0_5 t0_6 t0_7 t0_8 t0_9 t0_10 t1_0 t2_0 t3_0) : q_mV l y_DR_loadUnder prog_15_method_30_code 4 1 0 0 D g [.ref (q 134), .int x2, .int x3] ws (fun u => q_I (msh g q) q u ∧ q_un ws u [134, 142] ∧ ∃ (u0_0 : Int32) (u0_1 : Int32) (u0_2 : Int32) (u0_3 : Int64) (u0_4 : Int32) (u0_5 : Int32) (u0_6 : Int32) (u0_7 : Int32) (u0_8 : Int32) (u0_9 : Int32) (u0_10 : Int32) (u3_0 : (Nat → Int32)), u[134]? = (some (q 134, .inr (14, [.int u0_0, .ref (q 135), .int u0_1, .ref (q 136), .ref (q 137), .ref (q 138), .ref (q 139), .ref (q 140), .int u0_2, .long u0_3, .int u0_4, .int u0_5, .ref (q 141), .int u0_6, .ref (q 142), .int u0_7, .ref (q 143), .int u0_8, .ref (q 144), .int u0_9, .int u0_10])) : Option (Nat × va_E)) ∧ u[142]? = (some (q 142, .inl (g 0, (2200 : Int32).toNatClampNeg, .inl u3_0)) : Option (Nat × va_E)) ∧ (u0_7.toInt ≤ 4100) ∧ (t0_0.toInt ≤ u0_0.toInt) ∧ (u0_0.toInt ≤ t0_0.toInt) ∧ (x2.toInt ≤ u0_1.toInt + 9) ∧ (u0_1.toInt ≤ x2.toInt + 4100) ∧ (t0_1.toInt ≤ u0_1.toInt) ∧ (u0_1.toInt ≤ t0_1.toInt) ∧ (t0_2.toInt ≤ u0_2.toInt) ∧ (u0_2.toInt ≤ t0_2.toInt) ∧ (t0_3.toInt ≤ u0_3.toInt) ∧ (u0_3.toInt ≤ t0_3.toInt) ∧ (x2.toInt ≤ u0_4.toInt + 9) ∧ (u0_4.toInt ≤ x2.toInt + 1) ∧ (t0_4.toInt ≤ u0_4.toInt) ∧ (u0_4.toInt ≤ t0_4.toInt) ∧ (x2.toInt ≤ u0_5.toInt + 9) ∧ (u0_5.toInt ≤ x2.toInt + 1) ∧ (t0_5.toInt ≤ u0_5.toInt) ∧ (u0_5.toInt ≤ t0_5.toInt) ∧ (t0_6.toInt ≤ u0_6.toInt) ∧ (u0_6.toInt ≤ t0_6.toInt) ∧ (u0_7.toInt ≤ x2.toInt + 4100) ∧ (t0_8.toInt ≤ u0_8.toInt) ∧ (u0_8.toInt ≤ t0_8.toInt) ∧ (x2.toInt ≤ u0_9.toInt + 9) ∧ (u0_9.toInt ≤ x2.toInt + 12200) ∧ (t0_9.toInt ≤ u0_9.toInt) ∧ (u0_9.toInt ≤ t0_9.toInt) ∧ (t0_10.toInt ≤ u0_10.toInt) ∧ (u0_10.toInt ≤ t0_10.toInt) ∧ (u0_0, u0_1, u0_2, u0_3, u0_4, u0_5, u0_6, u0_7, u0_8, u0_9, u0_10, u3_0) = (F_DR_loadUnder x2 x3 t0_0 t0_1 t0_2 t0_3 t0_4 t0_5 t0_6 t0_7 t0_8 t0_9 t0_10 t1_0 t2_0 t3_0)) := by
  intro sz
  refine q_into (by decide) (Nat.le_of_ble_eq_true rfl) ?_
  intro p e s m below meth c ls hsz C0 V hl
  have hx := C0.1
  have hb := C0.2.1
  obtain ⟨btt0_1, hZ9⟩ := n_w134 hI hT0
  obtain ⟨btt0_4, hZ9⟩ := hZ9
  obtain ⟨btt0_5, btt0_9⟩ := hZ9
  replace btt0_1 : q_F (0 ≤ t0_1.toInt ∧ t0_1.toInt ≤ 4100) := btt0_1
  replace btt0_4 : q_F (0 ≤ t0_4.toInt ∧ t0_4.toInt ≤ 1) := btt0_4
  replace btt0_5 : q_F (0 ≤ t0_5.toInt ∧ t0_5.toInt ≤ 1) := btt0_5
  replace btt0_9 : q_F (0 ≤ t0_9.toInt ∧ t0_9.toInt ≤ 12200) := btt0_9
  have hF : q_un ws ws [134, 142] := q_u0
  have hl : lv_has ls 4 [(0, .ref (q 134)), (1, .int x2), (2, .int x3)] := hl
  refine lv_aload_n hx hb d_15_30_0 rfl (lv_at hl 0 rfl) ?_
  refine lv_aload_n hx hb d_15_30_1 rfl (lv_at hl 0 rfl) ?_
  refine q_get (ci := 14) (j := 4) (v := .ref (q 137)) C0 V i_DR rfl rfl hT0 (by decide) w_2004 rfl d_15_30_2 ?_
  refine lv_iload_n hx hb d_15_30_5 rfl (lv_at hl 1 rfl) ?_
  have ob26 : q_F (0 ≤ x2.toInt) := (by have h := hS; rw [S_DR_loadUnder.eq_1] at h; exact h.2.1)
  have ob27 : q_F (x2.toInt ≤ 9) := (by have h := hS; rw [S_DR_loadUnder.eq_1] at h; replace h := q_s2 h; exact h.2.1)
  refine q_iald C0 V hT2 (q_ix (x := x2.toInt) rfl (by first | with_reducible exact q_fe ob26 | (have t1 : 0 ≤ x2.toInt := ob26; omega)) (by have t1 : 0 ≤ x2.toInt := ob26; have t2 : x2.toInt ≤ 9 := ob27; have e9 : (((10 : Int32).toNatClampNeg : Nat) : Int) = 10 := (by decide); omega)) d_15_30_6 ?_
  obtain ⟨a28, e29⟩ := q_nm (t2_0 x2.toNatClampNeg : Int32)
  refine q_ti (v := a28) e29 ?_
  refine lv_iload_n hx hb d_15_30_7 rfl (lv_at hl 2 rfl) ?_
  refine lv_iadd hx hb d_15_30_8 ?_
  obtain ⟨a30, e31⟩ := q_nm (a28 + x3 : Int32)
  refine q_ti (v := a30) e31 ?_
  refine q_put (ci := 14) (j := 15) (v := .int a30) (ty := .int) C0 V i_DR o_DR n_DR rfl rfl hT0 (by decide) w_2018 rfl rfl rfl rfl (Nat.le_of_ble_eq_true rfl) d_15_30_9 (fun H locs w32 hu33 hT0 V => ?_)
  replace hT0 : w32[134]? = (some (q 134, .inr (14, [.int t0_0, .ref (q 135), .int t0_1, .ref (q 136), .ref (q 137), .ref (q 138), .ref (q 139), .ref (q 140), .int t0_2, .long t0_3, .int t0_4, .int t0_5, .ref (q 141), .int t0_6, .ref (q 142), .int a30, .ref (q 143), .int t0_8, .ref (q 144), .int t0_9, .int t0_10])) : Option (Nat × va_E)) := hT0
  replace hI := n_p134 hI hu33 hT0 (by first | with_reducible exact q_fe btt0_1 | exact ⟨(by have t1 : 0 ≤ t0_1.toInt ∧ t0_1.toInt ≤ 4100 := btt0_1; omega), (by have t1 : 0 ≤ t0_1.toInt ∧ t0_1.toInt ≤ 4100 := btt0_1; omega)⟩) (by first | with_reducible exact q_fe btt0_4 | exact ⟨(by have t1 : 0 ≤ t0_4.toInt ∧ t0_4.toInt ≤ 1 := btt0_4; omega), (by have t1 : 0 ≤ t0_4.toInt ∧ t0_4.toInt ≤ 1 := btt0_4; omega)⟩) (by first | with_reducible exact q_fe btt0_5 | exact ⟨(by have t1 : 0 ≤ t0_5.toInt ∧ t0_5.toInt ≤ 1 := btt0_5; omega), (by have t1 : 0 ≤ t0_5.toInt ∧ t0_5.toInt ≤ 1 := btt0_5; omega)⟩) (by first | with_reducible exact q_fe btt0_9 | exact ⟨(by have t1 : 0 ≤ t0_9.toInt ∧ t0_9.toInt ≤ 12200 := btt0_9; omega), (by have t1 : 0 ≤ t0_9.toInt ∧ t0_9.toInt ≤ 12200 := btt0_9; omega)⟩)
  replace hT1 := (hu33 _ (by decide)).trans hT1
  replace hT2 := (hu33 _ (by decide)).trans hT2
  replace hT3 := (hu33 _ (by decide)).trans hT3
  replace hF := q_us hF hu33 (by simp)
  refine lv_iconst (v := 0) hx hb d_15_30_12 (by decide) ?_
  refine lv_istore_n (lv' := [(3, .int 0), (0, .ref (q 134)), (1, .int x2), (2, .int x3)]) hx hb d_15_30_13 rfl hl (by decide) rfl (fun ls hl => ?_)
  refine q_loop (X := Int32 × (Nat → Int32)) (fun z H locs ls w40 => q_F (0 ≤ z.1.toInt) ∧ q_F (z.1.toInt ≤ 4100) ∧ q_Wd D g (va_A ws sz) s w40 H locs ∧ lv_has ls 4 [(3, .int z.1), (0, .ref (q 134)), (1, .int x2)] ∧ q_I (msh g q) q w40 ∧ q_un ws w40 [134, 142] ∧ w40[134]? = (some (q 134, .inr (14, [.int t0_0, .ref (q 135), .int t0_1, .ref (q 136), .ref (q 137), .ref (q 138), .ref (q 139), .ref (q 140), .int t0_2, .long t0_3, .int t0_4, .int t0_5, .ref (q 141), .int t0_6, .ref (q 142), .int a30, .ref (q 143), .int t0_8, .ref (q 144), .int t0_9, .int t0_10])) : Option (Nat × va_E)) ∧ w40[136]? = (some (q 136, .inl (g 0, (10000 : Int32).toNatClampNeg, .inl t1_0)) : Option (Nat × va_E)) ∧ w40[137]? = (some (q 137, .inl (g 0, (10 : Int32).toNatClampNeg, .inl t2_0)) : Option (Nat × va_E)) ∧ w40[142]? = (some (q 142, .inl (g 0, (2200 : Int32).toNatClampNeg, .inl z.2)) : Option (Nat × va_E)) ∧ (∃ n, (4100 - z.1.toInt).toNat < n ∧ F_DR_loadUnder_L14 x2 x3 t0_0 t0_1 t0_2 t0_3 t0_4 t0_5 t0_6 t0_7 t0_8 t0_9 t0_10 t1_0 t2_0 t3_0 a30 n z.1 z.2 = (F_DR_loadUnder x2 x3 t0_0 t0_1 t0_2 t0_3 t0_4 t0_5 t0_6 t0_7 t0_8 t0_9 t0_10 t1_0 t2_0 t3_0) ∧ True ∧ S_DR_loadUnder_L14 x2 x3 t0_0 t0_1 t0_2 t0_3 t0_4 t0_5 t0_6 t0_7 t0_8 t0_9 t0_10 t1_0 t2_0 t3_0 a30 n z.1 z.2)) (fun z => (4100 - z.1.toInt).toNat) ?_ ((0 : Int32), (t3_0 : (Nat → Int32))) _ _ _ w32 ⟨(show q_F (0 ≤ 0) from (show 0 ≤ 0 from by omega)), (show q_F (0 ≤ 4100) from (show 0 ≤ 4100 from by omega)), V, q_lw hl (q_lw1 0 rfl (q_lw1 1 rfl (q_lw1 2 rfl q_lw0))), hI, hF, hT0, hT1, hT2, hT3, ⟨((4100 - (0 : Int32).toInt).toNat + 1), Nat.lt_succ_self _, (show F_DR_loadUnder_L14 x2 x3 t0_0 t0_1 t0_2 t0_3 t0_4 t0_5 t0_6 t0_7 t0_8 t0_9 t0_10 t1_0 t2_0 t3_0 a30 ((4100 - (0 : Int32).toInt).toNat + 1) 0 t3_0 = (F_DR_loadUnder x2 x3 t0_0 t0_1 t0_2 t0_3 t0_4 t0_5 t0_6 t0_7 t0_8 t0_9 t0_10 t1_0 t2_0 t3_0) from (by rw [← e31, ← e29, F_DR_loadUnder.eq_1])), (show True ∧ S_DR_loadUnder_L14 x2 x3 t0_0 t0_1 t0_2 t0_3 t0_4 t0_5 t0_6 t0_7 t0_8 t0_9 t0_10 t1_0 t2_0 t3_0 a30 ((4100 - (0 : Int32).toInt).toNat + 1) 0 t3_0 from (by rw [← e31, ← e29]; have h := hS; rw [S_DR_loadUnder.eq_1] at h; replace h := q_s2 h; replace h := q_s2 h; with_reducible exact h))⟩⟩
  rintro ⟨lx35, lx36⟩ H locs ls w40 ⟨i37, i38, V, hl, hI, hF, hO41, hO42, hO43, hO44, ⟨fu47, hf48, hR45, hS46⟩⟩ ih39
  obtain ⟨fm49, rfl⟩ : ∃ m, fu47 = m + 1 := ⟨fu47 - 1, by omega⟩
  replace i37 : q_F (0 ≤ lx35.toInt) := i37
  replace i38 : q_F (lx35.toInt ≤ 4100) := i38
  replace hl : lv_has ls 4 [(3, .int lx35), (0, .ref (q 134)), (1, .int x2)] := hl
  replace hO41 : w40[134]? = (some (q 134, .inr (14, [.int t0_0, .ref (q 135), .int t0_1, .ref (q 136), .ref (q 137), .ref (q 138), .ref (q 139), .ref (q 140), .int t0_2, .long t0_3, .int t0_4, .int t0_5, .ref (q 141), .int t0_6, .ref (q 142), .int a30, .ref (q 143), .int t0_8, .ref (q 144), .int t0_9, .int t0_10])) : Option (Nat × va_E)) := hO41
  replace hO42 : w40[136]? = (some (q 136, .inl (g 0, (10000 : Int32).toNatClampNeg, .inl t1_0)) : Option (Nat × va_E)) := hO42
  replace hO43 : w40[137]? = (some (q 137, .inl (g 0, (10 : Int32).toNatClampNeg, .inl t2_0)) : Option (Nat × va_E)) := hO43
  replace hO44 : w40[142]? = (some (q 142, .inl (g 0, (2200 : Int32).toNatClampNeg, .inl lx36)) : Option (Nat × va_E)) := hO44
  refine lv_iload_n hx hb d_15_30_14 rfl (lv_at hl 0 rfl) ?_
  refine lv_aload_n hx hb d_15_30_15 rfl (lv_at hl 1 rfl) ?_
  refine q_get (ci := 14) (j := 15) (v := .int a30) C0 V i_DR rfl rfl hO41 (by decide) w_2018 rfl d_15_30_16 ?_
  refine lv_icmp_ge (tgt := 60) hx hb d_15_30_19 (by decide) (fun c50 => ?_) (fun c50 => ?_)
  ·
    have b51 : q_F (a30.toInt ≤ lx35.toInt) := (q_leI c50)
    exact q_retv C0 V (⟨hI, hF, t0_0, t0_1, t0_2, t0_3, t0_4, t0_5, t0_6, a30, t0_8, t0_9, t0_10, lx36, hO41, hO44, (show a30.toInt ≤ 4100 from (by have t1 : lx35.toInt ≤ 4100 := i38; have t2 : a30.toInt ≤ lx35.toInt := b51; omega)), (show t0_0.toInt ≤ t0_0.toInt from (by omega)), (show t0_0.toInt ≤ t0_0.toInt from (by omega)), (show x2.toInt ≤ t0_1.toInt + 9 from (by have t1 : 0 ≤ t0_1.toInt ∧ t0_1.toInt ≤ 4100 := btt0_1; have t2 : x2.toInt ≤ 9 := ob27; omega)), (show t0_1.toInt ≤ x2.toInt + 4100 from (by have t1 : 0 ≤ t0_1.toInt ∧ t0_1.toInt ≤ 4100 := btt0_1; have t2 : 0 ≤ x2.toInt := ob26; omega)), (show t0_1.toInt ≤ t0_1.toInt from (by omega)), (show t0_1.toInt ≤ t0_1.toInt from (by omega)), (show t0_2.toInt ≤ t0_2.toInt from (by omega)), (show t0_2.toInt ≤ t0_2.toInt from (by omega)), (show t0_3.toInt ≤ t0_3.toInt from (by omega)), (show t0_3.toInt ≤ t0_3.toInt from (by omega)), (show x2.toInt ≤ t0_4.toInt + 9 from (by have t1 : 0 ≤ t0_4.toInt ∧ t0_4.toInt ≤ 1 := btt0_4; have t2 : x2.toInt ≤ 9 := ob27; omega)), (show t0_4.toInt ≤ x2.toInt + 1 from (by have t1 : 0 ≤ t0_4.toInt ∧ t0_4.toInt ≤ 1 := btt0_4; have t2 : 0 ≤ x2.toInt := ob26; omega)), (show t0_4.toInt ≤ t0_4.toInt from (by omega)), (show t0_4.toInt ≤ t0_4.toInt from (by omega)), (show x2.toInt ≤ t0_5.toInt + 9 from (by have t1 : 0 ≤ t0_5.toInt ∧ t0_5.toInt ≤ 1 := btt0_5; have t2 : x2.toInt ≤ 9 := ob27; omega)), (show t0_5.toInt ≤ x2.toInt + 1 from (by have t1 : 0 ≤ t0_5.toInt ∧ t0_5.toInt ≤ 1 := btt0_5; have t2 : 0 ≤ x2.toInt := ob26; omega)), (show t0_5.toInt ≤ t0_5.toInt from (by omega)), (show t0_5.toInt ≤ t0_5.toInt from (by omega)), (show t0_6.toInt ≤ t0_6.toInt from (by omega)), (show t0_6.toInt ≤ t0_6.toInt from (by omega)), (show a30.toInt ≤ x2.toInt + 4100 from (by have t1 : 0 ≤ x2.toInt := ob26; have t2 : lx35.toInt ≤ 4100 := i38; have t3 : a30.toInt ≤ lx35.toInt := b51; omega)), (show t0_8.toInt ≤ t0_8.toInt from (by omega)), (show t0_8.toInt ≤ t0_8.toInt from (by omega)), (show x2.toInt ≤ t0_9.toInt + 9 from (by have t1 : 0 ≤ t0_9.toInt ∧ t0_9.toInt ≤ 12200 := btt0_9; have t2 : x2.toInt ≤ 9 := ob27; omega)), (show t0_9.toInt ≤ x2.toInt + 12200 from (by have t1 : 0 ≤ t0_9.toInt ∧ t0_9.toInt ≤ 12200 := btt0_9; have t2 : 0 ≤ x2.toInt := ob26; omega)), (show t0_9.toInt ≤ t0_9.toInt from (by omega)), (show t0_9.toInt ≤ t0_9.toInt from (by omega)), (show t0_10.toInt ≤ t0_10.toInt from (by omega)), (show t0_10.toInt ≤ t0_10.toInt from (by omega)), (show (t0_0, t0_1, t0_2, t0_3, t0_4, t0_5, t0_6, a30, t0_8, t0_9, t0_10, lx36) = (F_DR_loadUnder x2 x3 t0_0 t0_1 t0_2 t0_3 t0_4 t0_5 t0_6 t0_7 t0_8 t0_9 t0_10 t1_0 t2_0 t3_0) from Eq.trans (by rw [F_DR_loadUnder_L14.eq_2, if_pos c50]) hR45)⟩) d_15_30_60
  ·
    refine lv_aload_n hx hb d_15_30_22 rfl (lv_at hl 1 rfl) ?_
    refine q_get (ci := 14) (j := 14) (v := .ref (q 142)) C0 V i_DR rfl rfl hO41 (by decide) w_2017 rfl d_15_30_23 ?_
    refine lv_iload_n hx hb d_15_30_26 rfl (lv_at hl 0 rfl) ?_
    refine lv_iload_n hx hb d_15_30_27 rfl (lv_at hl 0 rfl) ?_
    refine lv_aload_n hx hb d_15_30_28 rfl (lv_at hl 1 rfl) ?_
    refine q_get (ci := 14) (j := 4) (v := .ref (q 137)) C0 V i_DR rfl rfl hO41 (by decide) w_2004 rfl d_15_30_29 ?_
    refine lv_iload_n hx hb d_15_30_32 rfl (lv_at hl 2 rfl) ?_
    refine q_iald C0 V hO43 (q_ix (x := x2.toInt) rfl (by first | with_reducible exact q_fe ob26 | (have t1 : 0 ≤ x2.toInt := ob26; omega)) (by have t1 : 0 ≤ x2.toInt := ob26; have t2 : x2.toInt ≤ 9 := ob27; have e9 : (((10 : Int32).toNatClampNeg : Nat) : Int) = 10 := (by decide); omega)) d_15_30_33 ?_
    obtain ⟨a53, e54⟩ := q_nm (t2_0 x2.toNatClampNeg : Int32)
    refine q_ti (v := a53) e54 ?_
    refine lv_icmp_ge (tgt := 52) hx hb d_15_30_34 (by decide) (fun c55 => ?_) (fun c55 => ?_)
    ·
      refine lv_iconst (v := 0) hx hb d_15_30_52 (by decide) ?_
      have ob57 : q_F (lx35.toInt ≤ 2199) := (by have h := hS46; rw [S_DR_loadUnder_L14.eq_2] at h; rw [if_neg c50] at h; have c55x := c55; rw [← e54] at c55x; rw [if_pos c55x] at h; exact h.2.1)
      refine q_iast C0 V hO44 (q_ix (x := lx35.toInt) rfl (by first | with_reducible exact q_fe i37 | (have t1 : 0 ≤ lx35.toInt := i37; omega)) (by have t1 : 0 ≤ lx35.toInt := i37; have t2 : lx35.toInt ≤ 2199 := ob57; have e9 : (((2200 : Int32).toNatClampNeg : Nat) : Int) = 2200 := (by decide); omega)) d_15_30_53 (fun H locs w58 hu59 hO44 V => ?_)
      replace hI := n_ai' hI (n_r142 g q).1 hu59 hO44 (q_updB (fun _ => s_bnd) s_bnd)
      replace hO41 := (hu59 _ (by decide)).trans hO41
      replace hO42 := (hu59 _ (by decide)).trans hO42
      replace hO43 := (hu59 _ (by decide)).trans hO43
      replace hF := q_us hF hu59 (by simp)
      obtain ⟨f60, e61⟩ := q_nm (upd lx36 lx35.toNatClampNeg 0 : (Nat → Int32))
      rw [e61] at hO44
      obtain ⟨a62, e63⟩ := q_nm (lx35 + 1 : Int32)
      have b64 : q_F (a62.toInt = lx35.toInt + 1) := (by rw [← e63]; exact q_addI (y := 1) rfl (by decide) (by have t1 : 0 ≤ lx35.toInt := i37; have t2 : lx35.toInt ≤ 4100 := i38; omega) (by have t1 : 0 ≤ lx35.toInt := i37; have t2 : lx35.toInt ≤ 4100 := i38; omega))
      refine lv_iinc (v := a62) (lv' := [(3, .int a62), (0, .ref (q 134)), (1, .int x2)]) hx hb d_15_30_54 hl (k := 0) rfl (e63) (by decide) rfl (fun ls hl => ?_)
      refine lv_goto (tgt := 14) hx hb d_15_30_57 (by decide) ?_
      exact ih39 ((a62 : Int32), (f60 : (Nat → Int32))) _ _ _ _ (show (4100 - a62.toInt).toNat < (4100 - lx35.toInt).toNat from by have t1 : a62.toInt = lx35.toInt + 1 := b64; have t2 : lx35.toInt ≤ 4100 := i38; have t3 : lx35.toInt ≤ 2199 := ob57; omega) ⟨(show q_F (0 ≤ a62.toInt) from (show 0 ≤ a62.toInt from by have t1 : 0 ≤ lx35.toInt := i37; have t2 : a62.toInt = lx35.toInt + 1 := b64; omega)), (show q_F (a62.toInt ≤ 4100) from (show a62.toInt ≤ 4100 from by have t1 : lx35.toInt ≤ 2199 := ob57; have t2 : a62.toInt = lx35.toInt + 1 := b64; omega)), V, q_lw hl (q_lw1 0 rfl (q_lw1 1 rfl (q_lw1 2 rfl q_lw0))), hI, hF, hO41, hO42, hO43, hO44, ⟨fm49, Nat.lt_of_lt_of_le (show (4100 - a62.toInt).toNat < (4100 - lx35.toInt).toNat from by have t1 : a62.toInt = lx35.toInt + 1 := b64; have t2 : lx35.toInt ≤ 4100 := i38; have t3 : lx35.toInt ≤ 2199 := ob57; omega) (Nat.le_of_lt_succ hf48), (show F_DR_loadUnder_L14 x2 x3 t0_0 t0_1 t0_2 t0_3 t0_4 t0_5 t0_6 t0_7 t0_8 t0_9 t0_10 t1_0 t2_0 t3_0 a30 fm49 a62 f60 = (F_DR_loadUnder x2 x3 t0_0 t0_1 t0_2 t0_3 t0_4 t0_5 t0_6 t0_7 t0_8 t0_9 t0_10 t1_0 t2_0 t3_0) from Eq.trans (by have c55x := c55; rw [← e54] at c55x; rw [← e63, ← e61, F_DR_loadUnder_L14.eq_2, if_neg c50, if_pos c55x]) hR45), (show True ∧ S_DR_loadUnder_L14 x2 x3 t0_0 t0_1 t0_2 t0_3 t0_4 t0_5 t0_6 t0_7 t0_8 t0_9 t0_10 t1_0 t2_0 t3_0 a30 fm49 a62 f60 from (by rw [← e63, ← e61]; have h := hS46; rw [S_DR_loadUnder_L14.eq_2] at h; rw [if_neg c50] at h; have c55x := c55; rw [← e54] at c55x; rw [if_pos c55x] at h; replace h := q_s2 h; with_reducible exact h))⟩⟩
    ·
      refine lv_aload_n hx hb d_15_30_37 rfl (lv_at hl 1 rfl) ?_
      refine q_get (ci := 14) (j := 3) (v := .ref (q 136)) C0 V i_DR rfl rfl hO41 (by decide) w_2002 rfl d_15_30_38 ?_
      refine lv_sipush (v := 1000) hx hb d_15_30_41 (by decide) ?_
      refine lv_iload_n hx hb d_15_30_44 rfl (lv_at hl 2 rfl) ?_
      refine lv_imul hx hb d_15_30_45 ?_
      obtain ⟨a66, e67⟩ := q_nm (1000 * x2 : Int32)
      refine q_ti (v := a66) e67 ?_
      have b68 : q_F (a66.toInt = 1000 * x2.toInt) := (by rw [← e67]; show (1000 * x2 : Int32).toInt = 1000 * x2.toInt; exact q_mulI (x := 1000) (y := x2.toInt) (by decide) rfl (by have t1 : 0 ≤ x2.toInt := ob26; have t2 : x2.toInt ≤ 9 := ob27; omega) (by have t1 : 0 ≤ x2.toInt := ob26; have t2 : x2.toInt ≤ 9 := ob27; omega))
      refine lv_iload_n hx hb d_15_30_46 rfl (lv_at hl 0 rfl) ?_
      refine lv_iadd hx hb d_15_30_47 ?_
      obtain ⟨a69, e70⟩ := q_nm (a66 + lx35 : Int32)
      refine q_ti (v := a69) e70 ?_
      have b71 : q_F (a69.toInt = a66.toInt + lx35.toInt) := (by rw [← e70]; show (a66 + lx35 : Int32).toInt = a66.toInt + lx35.toInt; exact q_addI (x := a66.toInt) (y := lx35.toInt) rfl rfl (by have t1 : 0 ≤ lx35.toInt := i37; have _ := q_lo32 (x := a66); have _ := q_hi32 (x := a66); have t2 : x2.toInt ≤ 9 := ob27; have t3 : lx35.toInt ≤ 4100 := i38; have t4 : a66.toInt = 1000 * x2.toInt := b68; omega) (by have t1 : 0 ≤ lx35.toInt := i37; have _ := q_lo32 (x := a66); have _ := q_hi32 (x := a66); have t2 : x2.toInt ≤ 9 := ob27; have t3 : lx35.toInt ≤ 4100 := i38; have t4 : a66.toInt = 1000 * x2.toInt := b68; omega))
      have ob72 : q_F (a69.toInt ≤ 9999) := (by rw [← e70, ← e67]; have h := hS46; rw [S_DR_loadUnder_L14.eq_2] at h; rw [if_neg c50] at h; have c55x := c55; rw [← e54] at c55x; rw [if_neg c55x] at h; exact h.2.1)
      refine q_iald C0 V hO42 (q_ix (x := a69.toInt) rfl (by have t1 : 0 ≤ x2.toInt := ob26; have t2 : 0 ≤ lx35.toInt := i37; have t3 : a66.toInt = 1000 * x2.toInt := b68; have t4 : a69.toInt = a66.toInt + lx35.toInt := b71; omega) (by have t1 : 0 ≤ x2.toInt := ob26; have t2 : 0 ≤ lx35.toInt := i37; have t3 : a66.toInt = 1000 * x2.toInt := b68; have t4 : a69.toInt = a66.toInt + lx35.toInt := b71; have t5 : a69.toInt ≤ 9999 := ob72; have e9 : (((10000 : Int32).toNatClampNeg : Nat) : Int) = 10000 := (by decide); omega)) d_15_30_48 ?_
      obtain ⟨a73, e74⟩ := q_nm (t1_0 a69.toNatClampNeg : Int32)
      refine q_ti (v := a73) e74 ?_
      refine lv_goto (tgt := 53) hx hb d_15_30_49 (by decide) ?_
      have ob75 : q_F (lx35.toInt ≤ 2199) := (by have h := hS46; rw [S_DR_loadUnder_L14.eq_2] at h; rw [if_neg c50] at h; have c55x := c55; rw [← e54] at c55x; rw [if_neg c55x] at h; replace h := q_s2 h; exact h.2.1)
      refine q_iast C0 V hO44 (q_ix (x := lx35.toInt) rfl (by first | with_reducible exact q_fe i37 | (have t1 : 0 ≤ lx35.toInt := i37; omega)) (by have t1 : 0 ≤ lx35.toInt := i37; have t2 : lx35.toInt ≤ 2199 := ob75; have e9 : (((2200 : Int32).toNatClampNeg : Nat) : Int) = 2200 := (by decide); omega)) d_15_30_53 (fun H locs w76 hu77 hO44 V => ?_)
      replace hI := n_ai' hI (n_r142 g q).1 hu77 hO44 (q_updB (fun _ => s_bnd) s_bnd)
      replace hO41 := (hu77 _ (by decide)).trans hO41
      replace hO42 := (hu77 _ (by decide)).trans hO42
      replace hO43 := (hu77 _ (by decide)).trans hO43
      replace hF := q_us hF hu77 (by simp)
      obtain ⟨f78, e79⟩ := q_nm (upd lx36 lx35.toNatClampNeg a73 : (Nat → Int32))
      rw [e79] at hO44
      obtain ⟨a80, e81⟩ := q_nm (lx35 + 1 : Int32)
      have b82 : q_F (a80.toInt = lx35.toInt + 1) := (by rw [← e81]; exact q_addI (y := 1) rfl (by decide) (by have t1 : 0 ≤ lx35.toInt := i37; have t2 : lx35.toInt ≤ 4100 := i38; omega) (by have t1 : 0 ≤ lx35.toInt := i37; have t2 : lx35.toInt ≤ 4100 := i38; omega))
      refine lv_iinc (v := a80) (lv' := [(3, .int a80), (0, .ref (q 134)), (1, .int x2)]) hx hb d_15_30_54 hl (k := 0) rfl (e81) (by decide) rfl (fun ls hl => ?_)
      refine lv_goto (tgt := 14) hx hb d_15_30_57 (by decide) ?_
      exact ih39 ((a80 : Int32), (f78 : (Nat → Int32))) _ _ _ _ (show (4100 - a80.toInt).toNat < (4100 - lx35.toInt).toNat from by have t1 : a80.toInt = lx35.toInt + 1 := b82; have t2 : lx35.toInt ≤ 4100 := i38; have t3 : lx35.toInt ≤ 2199 := ob75; omega) ⟨(show q_F (0 ≤ a80.toInt) from (show 0 ≤ a80.toInt from by have t1 : 0 ≤ lx35.toInt := i37; have t2 : a80.toInt = lx35.toInt + 1 := b82; omega)), (show q_F (a80.toInt ≤ 4100) from (show a80.toInt ≤ 4100 from by have t1 : lx35.toInt ≤ 2199 := ob75; have t2 : a80.toInt = lx35.toInt + 1 := b82; omega)), V, q_lw hl (q_lw1 0 rfl (q_lw1 1 rfl (q_lw1 2 rfl q_lw0))), hI, hF, hO41, hO42, hO43, hO44, ⟨fm49, Nat.lt_of_lt_of_le (show (4100 - a80.toInt).toNat < (4100 - lx35.toInt).toNat from by have t1 : a80.toInt = lx35.toInt + 1 := b82; have t2 : lx35.toInt ≤ 4100 := i38; have t3 : lx35.toInt ≤ 2199 := ob75; omega) (Nat.le_of_lt_succ hf48), (show F_DR_loadUnder_L14 x2 x3 t0_0 t0_1 t0_2 t0_3 t0_4 t0_5 t0_6 t0_7 t0_8 t0_9 t0_10 t1_0 t2_0 t3_0 a30 fm49 a80 f78 = (F_DR_loadUnder x2 x3 t0_0 t0_1 t0_2 t0_3 t0_4 t0_5 t0_6 t0_7 t0_8 t0_9 t0_10 t1_0 t2_0 t3_0) from Eq.trans (by have c55x := c55; rw [← e54] at c55x; rw [← e81, ← e79, ← e74, ← e70, ← e67, F_DR_loadUnder_L14.eq_2, if_neg c50, if_neg c55x]) hR45), (show True ∧ S_DR_loadUnder_L14 x2 x3 t0_0 t0_1 t0_2 t0_3 t0_4 t0_5 t0_6 t0_7 t0_8 t0_9 t0_10 t1_0 t2_0 t3_0 a30 fm49 a80 f78 from (by rw [← e81, ← e79, ← e74, ← e70, ← e67]; have h := hS46; rw [S_DR_loadUnder_L14.eq_2] at h; rw [if_neg c50] at h; have c55x := c55; rw [← e54] at c55x; rw [if_neg c55x] at h; replace h := q_s2 h; replace h := q_s2 h; with_reducible exact h))⟩⟩
theorem d_15_35_0 : decode prog_15_method_35_code 0 = .ok (.iconst 0, 1) := by decide +kernel
theorem d_15_35_1 : decode prog_15_method_35_code 1 = .ok (.istore_n 1, 1) := by decide +kernel
theorem d_15_35_2 : decode prog_15_method_35_code 2 = .ok (.iload_n 1, 1) := by decide +kernel
theorem d_15_35_3 : decode prog_15_method_35_code 3 = .ok (.aload_n 0, 1) := by decide +kernel
theorem d_15_35_4 : decode prog_15_method_35_code 4 = .ok (.getfield 138, 3) := by decide +kernel
theorem d_15_35_7 : decode prog_15_method_35_code 7 = .ok (.if_icmp .gt 16, 3) := by decide +kernel
theorem d_15_35_23 : decode prog_15_method_35_code 23 = .ok (.aload_n 0, 1) := by decide +kernel
theorem d_15_35_24 : decode prog_15_method_35_code 24 = .ok (.iconst 0, 1) := by decide +kernel
theorem d_15_35_25 : decode prog_15_method_35_code 25 = .ok (.putfield 45, 3) := by decide +kernel
theorem d_15_35_28 : decode prog_15_method_35_code 28 = .ok (.return_, 1) := by decide +kernel
theorem d_15_35_10 : decode prog_15_method_35_code 10 = .ok (.aload_n 0, 1) := by decide +kernel
theorem d_15_35_11 : decode prog_15_method_35_code 11 = .ok (.getfield 35, 3) := by decide +kernel
theorem d_15_35_14 : decode prog_15_method_35_code 14 = .ok (.iload_n 1, 1) := by decide +kernel
theorem d_15_35_15 : decode prog_15_method_35_code 15 = .ok (.iconst 0, 1) := by decide +kernel
theorem d_15_35_16 : decode prog_15_method_35_code 16 = .ok (.iastore, 1) := by decide +kernel
theorem d_15_35_17 : decode prog_15_method_35_code 17 = .ok (.iinc 1 1, 3) := by decide +kernel
theorem d_15_35_20 : decode prog_15_method_35_code 20 = .ok (.goto (-18), 3) := by decide +kernel
def y_DR_beginQuotient : MethodName := ⟨"NumberHouseModel$DecimalRows", "beginQuotient", "()V"⟩
def F_DR_beginQuotient_L2 (t0_0 : Int32) (t0_1 : Int32) (t0_2 : Int32) (t0_3 : Int64) (t0_4 : Int32) (t0_5 : Int32) (t0_6 : Int32) (t0_7 : Int32) (t0_8 : Int32) (t0_9 : Int32) (t0_10 : Int32) (t1_0 : (Nat → Int32)) : Nat → Int32 → (Nat → Int32) → (Int32 × Int32 × Int32 × Int64 × Int32 × Int32 × Int32 × Int32 × Int32 × Int32 × Int32 × (Nat → Int32))
  | 0, _, _ => default
  | fm + 1, lx21, lx22 => if t0_7 < lx21 then ((t0_0, t0_1, (0 : Int32), t0_3, t0_4, t0_5, t0_6, t0_7, t0_8, t0_9, t0_10, lx22)) else (F_DR_beginQuotient_L2 t0_0 t0_1 t0_2 t0_3 t0_4 t0_5 t0_6 t0_7 t0_8 t0_9 t0_10 t1_0 fm (lx21 + 1 : Int32) (upd lx22 lx21.toNatClampNeg 0 : (Nat → Int32)))
def F_DR_beginQuotient (t0_0 : Int32) (t0_1 : Int32) (t0_2 : Int32) (t0_3 : Int64) (t0_4 : Int32) (t0_5 : Int32) (t0_6 : Int32) (t0_7 : Int32) (t0_8 : Int32) (t0_9 : Int32) (t0_10 : Int32) (t1_0 : (Nat → Int32)) : Int32 × Int32 × Int32 × Int64 × Int32 × Int32 × Int32 × Int32 × Int32 × Int32 × Int32 × (Nat → Int32) := F_DR_beginQuotient_L2 t0_0 t0_1 t0_2 t0_3 t0_4 t0_5 t0_6 t0_7 t0_8 t0_9 t0_10 t1_0 ((4100 - (0 : Int32).toInt).toNat + 1) 0 t1_0
def S_DR_beginQuotient_L2 (t0_0 : Int32) (t0_1 : Int32) (t0_2 : Int32) (t0_3 : Int64) (t0_4 : Int32) (t0_5 : Int32) (t0_6 : Int32) (t0_7 : Int32) (t0_8 : Int32) (t0_9 : Int32) (t0_10 : Int32) (t1_0 : (Nat → Int32)) : Nat → Int32 → (Nat → Int32) → Prop
  | 0, _, _ => False
  | fm + 1, lx21, lx22 => if t0_7 < lx21 then (True) else ((lx21.toInt ≤ 2201) ∧ (S_DR_beginQuotient_L2 t0_0 t0_1 t0_2 t0_3 t0_4 t0_5 t0_6 t0_7 t0_8 t0_9 t0_10 t1_0 fm (lx21 + 1 : Int32) (upd lx22 lx21.toNatClampNeg 0 : (Nat → Int32))))
def S_DR_beginQuotient (t0_0 : Int32) (t0_1 : Int32) (t0_2 : Int32) (t0_3 : Int64) (t0_4 : Int32) (t0_5 : Int32) (t0_6 : Int32) (t0_7 : Int32) (t0_8 : Int32) (t0_9 : Int32) (t0_10 : Int32) (t1_0 : (Nat → Int32)) : Prop := S_DR_beginQuotient_L2 t0_0 t0_1 t0_2 t0_3 t0_4 t0_5 t0_6 t0_7 t0_8 t0_9 t0_10 t1_0 ((4100 - (0 : Int32).toInt).toNat + 1) 0 t1_0
set_option maxRecDepth 100000 in
set_option maxHeartbeats 4000000 in
theorem X_DR_beginQuotient (l : Launch) (D : va_G) (g : Nat → ClassId) (q : Nat → Nat) (ws : va_W) (hI : q_I (msh g q) q ws) (t0_0 : Int32) (t0_1 : Int32) (t0_2 : Int32) (t0_3 : Int64) (t0_4 : Int32) (t0_5 : Int32) (t0_6 : Int32) (t0_7 : Int32) (t0_8 : Int32) (t0_9 : Int32) (t0_10 : Int32) (hT0 : ws[134]? = (some (q 134, .inr (14, [.int t0_0, .ref (q 135), .int t0_1, .ref (q 136), .ref (q 137), .ref (q 138), .ref (q 139), .ref (q 140), .int t0_2, .long t0_3, .int t0_4, .int t0_5, .ref (q 141), .int t0_6, .ref (q 142), .int t0_7, .ref (q 143), .int t0_8, .ref (q 144), .int t0_9, .int t0_10])) : Option (Nat × va_E))) (t1_0 : (Nat → Int32)) (hT1 : ws[143]? = (some (q 143, .inl (g 0, (2202 : Int32).toNatClampNeg, .inl t1_0)) : Option (Nat × va_E))) (hS : True ∧ S_DR_beginQuotient t0_0 t0_1 t0_2 t0_3 t0_4 t0_5 t0_6 t0_7 t0_8 t0_9 t0_10 t1_0) : q_mV l y_DR_beginQuotient prog_15_method_35_code 2 1 0 0 D g [.ref (q 134)] ws (fun u => q_I (msh g q) q u ∧ q_un ws u [134, 143] ∧ ∃ (u0_0 : Int32) (u0_1 : Int32) (u0_2 : Int32) (u0_3 : Int64) (u0_4 : Int32) (u0_5 : Int32) (u0_6 : Int32) (u0_7 : Int32) (u0_8 : Int32) (u0_9 : Int32) (u0_10 : Int32) (u1_0 : (Nat → Int32)), u[134]? = (some (q 134, .inr (14, [.int u0_0, .ref (q 135), .int u0_1, .ref (q 136), .ref (q 137), .ref (q 138), .ref (q 139), .ref (q 140), .int u0_2, .long u0_3, .int u0_4, .int u0_5, .ref (q 141), .int u0_6, .ref (q 142), .int u0_7, .ref (q 143), .int u0_8, .ref (q 144), .int u0_9, .int u0_10])) : Option (Nat × va_E)) ∧ u[143]? = (some (q 143, .inl (g 0, (2202 : Int32).toNatClampNeg, .inl u1_0)) : Option (Nat × va_E)) ∧ (0 ≤ u0_2.toInt) ∧ (u0_2.toInt ≤ 0) ∧ (t0_0.toInt ≤ u0_0.toInt) ∧ (u0_0.toInt ≤ t0_0.toInt) ∧ (t0_1.toInt ≤ u0_1.toInt) ∧ (u0_1.toInt ≤ t0_1.toInt) ∧ (t0_3.toInt ≤ u0_3.toInt) ∧ (u0_3.toInt ≤ t0_3.toInt) ∧ (t0_4.toInt ≤ u0_4.toInt) ∧ (u0_4.toInt ≤ t0_4.toInt) ∧ (t0_5.toInt ≤ u0_5.toInt) ∧ (u0_5.toInt ≤ t0_5.toInt) ∧ (t0_6.toInt ≤ u0_6.toInt) ∧ (u0_6.toInt ≤ t0_6.toInt) ∧ (t0_7.toInt ≤ u0_7.toInt) ∧ (u0_7.toInt ≤ t0_7.toInt) ∧ (t0_8.toInt ≤ u0_8.toInt) ∧ (u0_8.toInt ≤ t0_8.toInt) ∧ (t0_9.toInt ≤ u0_9.toInt) ∧ (u0_9.toInt ≤ t0_9.toInt) ∧ (t0_10.toInt ≤ u0_10.toInt) ∧ (u0_10.toInt ≤ t0_10.toInt) ∧ (u0_7.toInt ≤ u0_2.toInt + 4099) ∧ (u0_0, u0_1, u0_2, u0_3, u0_4, u0_5, u0_6, u0_7, u0_8, u0_9, u0_10, u1_0) = (F_DR_beginQuotient t0_0 t0_1 t0_2 t0_3 t0_4 t0_5 t0_6 t0_7 t0_8 t0_9 t0_10 t1_0)) := by
  intro sz
  refine q_into (by decide) (Nat.le_of_ble_eq_true rfl) ?_
  intro p e s m below meth c ls hsz C0 V hl
  have hx := C0.1
  have hb := C0.2.1
  obtain ⟨btt0_1, hZ9⟩ := n_w134 hI hT0
  obtain ⟨btt0_4, hZ9⟩ := hZ9
  obtain ⟨btt0_5, btt0_9⟩ := hZ9
  replace btt0_1 : q_F (0 ≤ t0_1.toInt ∧ t0_1.toInt ≤ 4100) := btt0_1
  replace btt0_4 : q_F (0 ≤ t0_4.toInt ∧ t0_4.toInt ≤ 1) := btt0_4
  replace btt0_5 : q_F (0 ≤ t0_5.toInt ∧ t0_5.toInt ≤ 1) := btt0_5
  replace btt0_9 : q_F (0 ≤ t0_9.toInt ∧ t0_9.toInt ≤ 12200) := btt0_9
  have hF : q_un ws ws [134, 143] := q_u0
  have hl : lv_has ls 2 [(0, .ref (q 134))] := hl
  refine lv_iconst (v := 0) hx hb d_15_35_0 (by decide) ?_
  refine lv_istore_n (lv' := [(1, .int 0), (0, .ref (q 134))]) hx hb d_15_35_1 rfl hl (by decide) rfl (fun ls hl => ?_)
  refine q_loop (X := Int32 × (Nat → Int32)) (fun z H locs ls w26 => q_F (0 ≤ z.1.toInt) ∧ q_F (z.1.toInt ≤ 4100) ∧ q_Wd D g (va_A ws sz) s w26 H locs ∧ lv_has ls 2 [(1, .int z.1), (0, .ref (q 134))] ∧ q_I (msh g q) q w26 ∧ q_un ws w26 [134, 143] ∧ w26[134]? = (some (q 134, .inr (14, [.int t0_0, .ref (q 135), .int t0_1, .ref (q 136), .ref (q 137), .ref (q 138), .ref (q 139), .ref (q 140), .int t0_2, .long t0_3, .int t0_4, .int t0_5, .ref (q 141), .int t0_6, .ref (q 142), .int t0_7, .ref (q 143), .int t0_8, .ref (q 144), .int t0_9, .int t0_10])) : Option (Nat × va_E)) ∧ w26[143]? = (some (q 143, .inl (g 0, (2202 : Int32).toNatClampNeg, .inl z.2)) : Option (Nat × va_E)) ∧ (∃ n, (4100 - z.1.toInt).toNat < n ∧ F_DR_beginQuotient_L2 t0_0 t0_1 t0_2 t0_3 t0_4 t0_5 t0_6 t0_7 t0_8 t0_9 t0_10 t1_0 n z.1 z.2 = (F_DR_beginQuotient t0_0 t0_1 t0_2 t0_3 t0_4 t0_5 t0_6 t0_7 t0_8 t0_9 t0_10 t1_0) ∧ True ∧ S_DR_beginQuotient_L2 t0_0 t0_1 t0_2 t0_3 t0_4 t0_5 t0_6 t0_7 t0_8 t0_9 t0_10 t1_0 n z.1 z.2)) (fun z => (4100 - z.1.toInt).toNat) ?_ ((0 : Int32), (t1_0 : (Nat → Int32))) _ _ _ ws ⟨(show q_F (0 ≤ 0) from (show 0 ≤ 0 from by omega)), (show q_F (0 ≤ 4100) from (show 0 ≤ 4100 from by omega)), V, q_lw hl (q_lw1 0 rfl (q_lw1 1 rfl q_lw0)), hI, hF, hT0, hT1, ⟨((4100 - (0 : Int32).toInt).toNat + 1), Nat.lt_succ_self _, (show F_DR_beginQuotient_L2 t0_0 t0_1 t0_2 t0_3 t0_4 t0_5 t0_6 t0_7 t0_8 t0_9 t0_10 t1_0 ((4100 - (0 : Int32).toInt).toNat + 1) 0 t1_0 = (F_DR_beginQuotient t0_0 t0_1 t0_2 t0_3 t0_4 t0_5 t0_6 t0_7 t0_8 t0_9 t0_10 t1_0) from (by rw [F_DR_beginQuotient.eq_1])), (show True ∧ S_DR_beginQuotient_L2 t0_0 t0_1 t0_2 t0_3 t0_4 t0_5 t0_6 t0_7 t0_8 t0_9 t0_10 t1_0 ((4100 - (0 : Int32).toInt).toNat + 1) 0 t1_0 from (by have h := hS; rw [S_DR_beginQuotient.eq_1] at h; with_reducible exact h))⟩⟩
  rintro ⟨lx21, lx22⟩ H locs ls w26 ⟨i23, i24, V, hl, hI, hF, hO27, hO28, ⟨fu31, hf32, hR29, hS30⟩⟩ ih25
  obtain ⟨fm33, rfl⟩ : ∃ m, fu31 = m + 1 := ⟨fu31 - 1, by omega⟩
  replace i23 : q_F (0 ≤ lx21.toInt) := i23
  replace i24 : q_F (lx21.toInt ≤ 4100) := i24
  replace hl : lv_has ls 2 [(1, .int lx21), (0, .ref (q 134))] := hl
  replace hO27 : w26[134]? = (some (q 134, .inr (14, [.int t0_0, .ref (q 135), .int t0_1, .ref (q 136), .ref (q 137), .ref (q 138), .ref (q 139), .ref (q 140), .int t0_2, .long t0_3, .int t0_4, .int t0_5, .ref (q 141), .int t0_6, .ref (q 142), .int t0_7, .ref (q 143), .int t0_8, .ref (q 144), .int t0_9, .int t0_10])) : Option (Nat × va_E)) := hO27
  replace hO28 : w26[143]? = (some (q 143, .inl (g 0, (2202 : Int32).toNatClampNeg, .inl lx22)) : Option (Nat × va_E)) := hO28
  refine lv_iload_n hx hb d_15_35_2 rfl (lv_at hl 0 rfl) ?_
  refine lv_aload_n hx hb d_15_35_3 rfl (lv_at hl 1 rfl) ?_
  refine q_get (ci := 14) (j := 15) (v := .int t0_7) C0 V i_DR rfl rfl hO27 (by decide) w_2018 rfl d_15_35_4 ?_
  refine lv_icmp_gt (tgt := 23) hx hb d_15_35_7 (by decide) (fun c34 => ?_) (fun c34 => ?_)
  ·
    have b35 : q_F (t0_7.toInt < lx21.toInt) := (q_ltI c34)
    refine lv_aload_n hx hb d_15_35_23 rfl (lv_at hl 1 rfl) ?_
    refine lv_iconst (v := 0) hx hb d_15_35_24 (by decide) ?_
    refine q_put (ci := 14) (j := 8) (v := .int 0) (ty := .int) C0 V i_DR o_DR n_DR rfl rfl hO27 (by decide) w_2011 rfl rfl rfl rfl (Nat.le_of_ble_eq_true rfl) d_15_35_25 (fun H locs w36 hu37 hO27 V => ?_)
    replace hO27 : w36[134]? = (some (q 134, .inr (14, [.int t0_0, .ref (q 135), .int t0_1, .ref (q 136), .ref (q 137), .ref (q 138), .ref (q 139), .ref (q 140), .int 0, .long t0_3, .int t0_4, .int t0_5, .ref (q 141), .int t0_6, .ref (q 142), .int t0_7, .ref (q 143), .int t0_8, .ref (q 144), .int t0_9, .int t0_10])) : Option (Nat × va_E)) := hO27
    replace hI := n_p134 hI hu37 hO27 (by first | with_reducible exact q_fe btt0_1 | exact ⟨(by have t1 : 0 ≤ t0_1.toInt ∧ t0_1.toInt ≤ 4100 := btt0_1; omega), (by have t1 : 0 ≤ t0_1.toInt ∧ t0_1.toInt ≤ 4100 := btt0_1; omega)⟩) (by first | with_reducible exact q_fe btt0_4 | exact ⟨(by have t1 : 0 ≤ t0_4.toInt ∧ t0_4.toInt ≤ 1 := btt0_4; omega), (by have t1 : 0 ≤ t0_4.toInt ∧ t0_4.toInt ≤ 1 := btt0_4; omega)⟩) (by first | with_reducible exact q_fe btt0_5 | exact ⟨(by have t1 : 0 ≤ t0_5.toInt ∧ t0_5.toInt ≤ 1 := btt0_5; omega), (by have t1 : 0 ≤ t0_5.toInt ∧ t0_5.toInt ≤ 1 := btt0_5; omega)⟩) (by first | with_reducible exact q_fe btt0_9 | exact ⟨(by have t1 : 0 ≤ t0_9.toInt ∧ t0_9.toInt ≤ 12200 := btt0_9; omega), (by have t1 : 0 ≤ t0_9.toInt ∧ t0_9.toInt ≤ 12200 := btt0_9; omega)⟩)
    replace hO28 := (hu37 _ (by decide)).trans hO28
    replace hF := q_us hF hu37 (by simp)
    exact q_retv C0 V (⟨hI, hF, t0_0, t0_1, 0, t0_3, t0_4, t0_5, t0_6, t0_7, t0_8, t0_9, t0_10, lx22, hO27, hO28, (show 0 ≤ (0 : Int32).toInt from (by have z14 : (0 : Int32).toInt = 0 := rfl; omega)), (show (0 : Int32).toInt ≤ 0 from (by have z14 : (0 : Int32).toInt = 0 := rfl; omega)), (show t0_0.toInt ≤ t0_0.toInt from (by have z14 : (0 : Int32).toInt = 0 := rfl; omega)), (show t0_0.toInt ≤ t0_0.toInt from (by have z14 : (0 : Int32).toInt = 0 := rfl; omega)), (show t0_1.toInt ≤ t0_1.toInt from (by have z14 : (0 : Int32).toInt = 0 := rfl; omega)), (show t0_1.toInt ≤ t0_1.toInt from (by have z14 : (0 : Int32).toInt = 0 := rfl; omega)), (show t0_3.toInt ≤ t0_3.toInt from (by have z14 : (0 : Int32).toInt = 0 := rfl; omega)), (show t0_3.toInt ≤ t0_3.toInt from (by have z14 : (0 : Int32).toInt = 0 := rfl; omega)), (show t0_4.toInt ≤ t0_4.toInt from (by have z14 : (0 : Int32).toInt = 0 := rfl; omega)), (show t0_4.toInt ≤ t0_4.toInt from (by have z14 : (0 : Int32).toInt = 0 := rfl; omega)), (show t0_5.toInt ≤ t0_5.toInt from (by have z14 : (0 : Int32).toInt = 0 := rfl; omega)), (show t0_5.toInt ≤ t0_5.toInt from (by have z14 : (0 : Int32).toInt = 0 := rfl; omega)), (show t0_6.toInt ≤ t0_6.toInt from (by have z14 : (0 : Int32).toInt = 0 := rfl; omega)), (show t0_6.toInt ≤ t0_6.toInt from (by have z14 : (0 : Int32).toInt = 0 := rfl; omega)), (show t0_7.toInt ≤ t0_7.toInt from (by have z14 : (0 : Int32).toInt = 0 := rfl; omega)), (show t0_7.toInt ≤ t0_7.toInt from (by have z14 : (0 : Int32).toInt = 0 := rfl; omega)), (show t0_8.toInt ≤ t0_8.toInt from (by have z14 : (0 : Int32).toInt = 0 := rfl; omega)), (show t0_8.toInt ≤ t0_8.toInt from (by have z14 : (0 : Int32).toInt = 0 := rfl; omega)), (show t0_9.toInt ≤ t0_9.toInt from (by have z14 : (0 : Int32).toInt = 0 := rfl; omega)), (show t0_9.toInt ≤ t0_9.toInt from (by have z14 : (0 : Int32).toInt = 0 := rfl; omega)), (show t0_10.toInt ≤ t0_10.toInt from (by have z14 : (0 : Int32).toInt = 0 := rfl; omega)), (show t0_10.toInt ≤ t0_10.toInt from (by have z14 : (0 : Int32).toInt = 0 := rfl; omega)), (show t0_7.toInt ≤ (0 : Int32).toInt + 4099 from (by have z14 : (0 : Int32).toInt = 0 := rfl; have t1 : lx21.toInt ≤ 4100 := i24; have t2 : t0_7.toInt < lx21.toInt := b35; omega)), (show (t0_0, t0_1, (0 : Int32), t0_3, t0_4, t0_5, t0_6, t0_7, t0_8, t0_9, t0_10, lx22) = (F_DR_beginQuotient t0_0 t0_1 t0_2 t0_3 t0_4 t0_5 t0_6 t0_7 t0_8 t0_9 t0_10 t1_0) from Eq.trans (by rw [F_DR_beginQuotient_L2.eq_2, if_pos c34]) hR29)⟩) d_15_35_28
  ·
    refine lv_aload_n hx hb d_15_35_10 rfl (lv_at hl 1 rfl) ?_
    refine q_get (ci := 14) (j := 16) (v := .ref (q 143)) C0 V i_DR rfl rfl hO27 (by decide) w_2019 rfl d_15_35_11 ?_
    refine lv_iload_n hx hb d_15_35_14 rfl (lv_at hl 0 rfl) ?_
    refine lv_iconst (v := 0) hx hb d_15_35_15 (by decide) ?_
    have ob39 : q_F (lx21.toInt ≤ 2201) := (by have h := hS30; rw [S_DR_beginQuotient_L2.eq_2] at h; rw [if_neg c34] at h; exact h.2.1)
    refine q_iast C0 V hO28 (q_ix (x := lx21.toInt) rfl (by first | with_reducible exact q_fe i23 | (have t1 : 0 ≤ lx21.toInt := i23; omega)) (by have t1 : 0 ≤ lx21.toInt := i23; have t2 : lx21.toInt ≤ 2201 := ob39; have e9 : (((2202 : Int32).toNatClampNeg : Nat) : Int) = 2202 := (by decide); omega)) d_15_35_16 (fun H locs w40 hu41 hO28 V => ?_)
    replace hI := n_ai' hI (n_r143 g q).1 hu41 hO28 (q_updB (fun _ => s_bnd) s_bnd)
    replace hO27 := (hu41 _ (by decide)).trans hO27
    replace hF := q_us hF hu41 (by simp)
    obtain ⟨f42, e43⟩ := q_nm (upd lx22 lx21.toNatClampNeg 0 : (Nat → Int32))
    rw [e43] at hO28
    obtain ⟨a44, e45⟩ := q_nm (lx21 + 1 : Int32)
    have b46 : q_F (a44.toInt = lx21.toInt + 1) := (by rw [← e45]; exact q_addI (y := 1) rfl (by decide) (by have t1 : 0 ≤ lx21.toInt := i23; have t2 : lx21.toInt ≤ 4100 := i24; omega) (by have t1 : 0 ≤ lx21.toInt := i23; have t2 : lx21.toInt ≤ 4100 := i24; omega))
    refine lv_iinc (v := a44) (lv' := [(1, .int a44), (0, .ref (q 134))]) hx hb d_15_35_17 hl (k := 0) rfl (e45) (by decide) rfl (fun ls hl => ?_)
    refine lv_goto (tgt := 2) hx hb d_15_35_20 (by decide) ?_
    exact ih25 ((a44 : Int32), (f42 : (Nat → Int32))) _ _ _ _ (show (4100 - a44.toInt).toNat < (4100 - lx21.toInt).toNat from by have t1 : a44.toInt = lx21.toInt + 1 := b46; have t2 : lx21.toInt ≤ 4100 := i24; have t3 : lx21.toInt ≤ 2201 := ob39; omega) ⟨(show q_F (0 ≤ a44.toInt) from (show 0 ≤ a44.toInt from by have t1 : 0 ≤ lx21.toInt := i23; have t2 : a44.toInt = lx21.toInt + 1 := b46; omega)), (show q_F (a44.toInt ≤ 4100) from (show a44.toInt ≤ 4100 from by have t1 : lx21.toInt ≤ 2201 := ob39; have t2 : a44.toInt = lx21.toInt + 1 := b46; omega)), V, q_lw hl (q_lw1 0 rfl (q_lw1 1 rfl q_lw0)), hI, hF, hO27, hO28, ⟨fm33, Nat.lt_of_lt_of_le (show (4100 - a44.toInt).toNat < (4100 - lx21.toInt).toNat from by have t1 : a44.toInt = lx21.toInt + 1 := b46; have t2 : lx21.toInt ≤ 4100 := i24; have t3 : lx21.toInt ≤ 2201 := ob39; omega) (Nat.le_of_lt_succ hf32), (show F_DR_beginQuotient_L2 t0_0 t0_1 t0_2 t0_3 t0_4 t0_5 t0_6 t0_7 t0_8 t0_9 t0_10 t1_0 fm33 a44 f42 = (F_DR_beginQuotient t0_0 t0_1 t0_2 t0_3 t0_4 t0_5 t0_6 t0_7 t0_8 t0_9 t0_10 t1_0) from Eq.trans (by rw [← e45, ← e43, F_DR_beginQuotient_L2.eq_2, if_neg c34]) hR29), (show True ∧ S_DR_beginQuotient_L2 t0_0 t0_1 t0_2 t0_3 t0_4 t0_5 t0_6 t0_7 t0_8 t0_9 t0_10 t1_0 fm33 a44 f42 from (by rw [← e45, ← e43]; have h := hS30; rw [S_DR_beginQuotient_L2.eq_2] at h; rw [if_neg c34] at h; replace h := q_s2 h; with_reducible exact h))⟩⟩
theorem d_15_31_0 : decode prog_15_method_31_code 0 = .ok (.aload_n 0, 1) := by decide +kernel
theorem d_15_31_1 : decode prog_15_method_31_code 1 = .ok (.getfield 35, 3) := by decide +kernel
theorem d_15_31_4 : decode prog_15_method_31_code 4 = .ok (.iconst 0, 1) := by decide +kernel
theorem d_15_31_5 : decode prog_15_method_31_code 5 = .ok (.iaload, 1) := by decide +kernel
theorem d_15_31_6 : decode prog_15_method_31_code 6 = .ok (.ifCond .eq 5, 3) := by decide +kernel
theorem d_15_31_11 : decode prog_15_method_31_code 11 = .ok (.iconst 0, 1) := by decide +kernel
theorem d_15_31_12 : decode prog_15_method_31_code 12 = .ok (.istore_n 1, 1) := by decide +kernel
theorem d_15_31_13 : decode prog_15_method_31_code 13 = .ok (.iload_n 1, 1) := by decide +kernel
theorem d_15_31_14 : decode prog_15_method_31_code 14 = .ok (.aload_n 0, 1) := by decide +kernel
theorem d_15_31_15 : decode prog_15_method_31_code 15 = .ok (.getfield 138, 3) := by decide +kernel
theorem d_15_31_18 : decode prog_15_method_31_code 18 = .ok (.if_icmp .ge 49, 3) := by decide +kernel
theorem d_15_31_67 : decode prog_15_method_31_code 67 = .ok (.iconst 1, 1) := by decide +kernel
theorem d_15_31_68 : decode prog_15_method_31_code 68 = .ok (.ireturn, 1) := by decide +kernel
theorem d_15_31_21 : decode prog_15_method_31_code 21 = .ok (.aload_n 0, 1) := by decide +kernel
theorem d_15_31_22 : decode prog_15_method_31_code 22 = .ok (.getfield 35, 3) := by decide +kernel
theorem d_15_31_25 : decode prog_15_method_31_code 25 = .ok (.iload_n 1, 1) := by decide +kernel
theorem d_15_31_26 : decode prog_15_method_31_code 26 = .ok (.iconst 1, 1) := by decide +kernel
theorem d_15_31_27 : decode prog_15_method_31_code 27 = .ok (.iadd, 1) := by decide +kernel
theorem d_15_31_28 : decode prog_15_method_31_code 28 = .ok (.iaload, 1) := by decide +kernel
theorem d_15_31_29 : decode prog_15_method_31_code 29 = .ok (.aload_n 0, 1) := by decide +kernel
theorem d_15_31_30 : decode prog_15_method_31_code 30 = .ok (.getfield 32, 3) := by decide +kernel
theorem d_15_31_33 : decode prog_15_method_31_code 33 = .ok (.iload_n 1, 1) := by decide +kernel
theorem d_15_31_34 : decode prog_15_method_31_code 34 = .ok (.iaload, 1) := by decide +kernel
theorem d_15_31_35 : decode prog_15_method_31_code 35 = .ok (.if_icmp .eq 26, 3) := by decide +kernel
theorem d_15_31_61 : decode prog_15_method_31_code 61 = .ok (.iinc 1 1, 3) := by decide +kernel
theorem d_15_31_64 : decode prog_15_method_31_code 64 = .ok (.goto (-51), 3) := by decide +kernel
theorem d_15_31_38 : decode prog_15_method_31_code 38 = .ok (.aload_n 0, 1) := by decide +kernel
theorem d_15_31_39 : decode prog_15_method_31_code 39 = .ok (.getfield 35, 3) := by decide +kernel
theorem d_15_31_42 : decode prog_15_method_31_code 42 = .ok (.iload_n 1, 1) := by decide +kernel
theorem d_15_31_43 : decode prog_15_method_31_code 43 = .ok (.iconst 1, 1) := by decide +kernel
theorem d_15_31_44 : decode prog_15_method_31_code 44 = .ok (.iadd, 1) := by decide +kernel
theorem d_15_31_45 : decode prog_15_method_31_code 45 = .ok (.iaload, 1) := by decide +kernel
theorem d_15_31_46 : decode prog_15_method_31_code 46 = .ok (.aload_n 0, 1) := by decide +kernel
theorem d_15_31_47 : decode prog_15_method_31_code 47 = .ok (.getfield 32, 3) := by decide +kernel
theorem d_15_31_50 : decode prog_15_method_31_code 50 = .ok (.iload_n 1, 1) := by decide +kernel
theorem d_15_31_51 : decode prog_15_method_31_code 51 = .ok (.iaload, 1) := by decide +kernel
theorem d_15_31_52 : decode prog_15_method_31_code 52 = .ok (.if_icmp .le 7, 3) := by decide +kernel
theorem d_15_31_59 : decode prog_15_method_31_code 59 = .ok (.iconst 0, 1) := by decide +kernel
theorem d_15_31_60 : decode prog_15_method_31_code 60 = .ok (.ireturn, 1) := by decide +kernel
theorem d_15_31_55 : decode prog_15_method_31_code 55 = .ok (.iconst 1, 1) := by decide +kernel
theorem d_15_31_56 : decode prog_15_method_31_code 56 = .ok (.goto 4, 3) := by decide +kernel
theorem d_15_31_9 : decode prog_15_method_31_code 9 = .ok (.iconst 1, 1) := by decide +kernel
theorem d_15_31_10 : decode prog_15_method_31_code 10 = .ok (.ireturn, 1) := by decide +kernel
def y_DR_reaches : MethodName := ⟨"NumberHouseModel$DecimalRows", "reaches", "()Z"⟩
def F_DR_reaches_L13 (t0_0 : Int32) (t0_1 : Int32) (t0_2 : Int32) (t0_3 : Int64) (t0_4 : Int32) (t0_5 : Int32) (t0_6 : Int32) (t0_7 : Int32) (t0_8 : Int32) (t0_9 : Int32) (t0_10 : Int32) (t1_0 : (Nat → Int32)) (t2_0 : (Nat → Int32)) : Nat → Int32 → Int32
  | 0, _ => default
  | fm + 1, lx28 => if t0_7 ≤ lx28 then ((1 : Int32)) else (if (t2_0 (lx28 + 1 : Int32).toNatClampNeg : Int32) = (t1_0 lx28.toNatClampNeg : Int32) then (F_DR_reaches_L13 t0_0 t0_1 t0_2 t0_3 t0_4 t0_5 t0_6 t0_7 t0_8 t0_9 t0_10 t1_0 t2_0 fm (lx28 + 1 : Int32)) else (if (t2_0 (lx28 + 1 : Int32).toNatClampNeg : Int32) ≤ (t1_0 lx28.toNatClampNeg : Int32) then ((0 : Int32)) else ((1 : Int32))))
def F_DR_reaches (t0_0 : Int32) (t0_1 : Int32) (t0_2 : Int32) (t0_3 : Int64) (t0_4 : Int32) (t0_5 : Int32) (t0_6 : Int32) (t0_7 : Int32) (t0_8 : Int32) (t0_9 : Int32) (t0_10 : Int32) (t1_0 : (Nat → Int32)) (t2_0 : (Nat → Int32)) : Int32 := if (t2_0 (0 : Int32).toNatClampNeg : Int32) = (0 : Int32) then (F_DR_reaches_L13 t0_0 t0_1 t0_2 t0_3 t0_4 t0_5 t0_6 t0_7 t0_8 t0_9 t0_10 t1_0 t2_0 ((4100 - (0 : Int32).toInt).toNat + 1) 0) else ((1 : Int32))
def S_DR_reaches_L13 (t0_0 : Int32) (t0_1 : Int32) (t0_2 : Int32) (t0_3 : Int64) (t0_4 : Int32) (t0_5 : Int32) (t0_6 : Int32) (t0_7 : Int32) (t0_8 : Int32) (t0_9 : Int32) (t0_10 : Int32) (t1_0 : (Nat → Int32)) (t2_0 : (Nat → Int32)) : Nat → Int32 → Prop
  | 0, _ => False
  | fm + 1, lx28 => if t0_7 ≤ lx28 then (True) else (((lx28 + 1 : Int32).toInt ≤ 2201) ∧ ((lx28.toInt ≤ 2199) ∧ (if (t2_0 (lx28 + 1 : Int32).toNatClampNeg : Int32) = (t1_0 lx28.toNatClampNeg : Int32) then (S_DR_reaches_L13 t0_0 t0_1 t0_2 t0_3 t0_4 t0_5 t0_6 t0_7 t0_8 t0_9 t0_10 t1_0 t2_0 fm (lx28 + 1 : Int32)) else (if (t2_0 (lx28 + 1 : Int32).toNatClampNeg : Int32) ≤ (t1_0 lx28.toNatClampNeg : Int32) then (True) else (True)))))
def S_DR_reaches (t0_0 : Int32) (t0_1 : Int32) (t0_2 : Int32) (t0_3 : Int64) (t0_4 : Int32) (t0_5 : Int32) (t0_6 : Int32) (t0_7 : Int32) (t0_8 : Int32) (t0_9 : Int32) (t0_10 : Int32) (t1_0 : (Nat → Int32)) (t2_0 : (Nat → Int32)) : Prop := if (t2_0 (0 : Int32).toNatClampNeg : Int32) = (0 : Int32) then (S_DR_reaches_L13 t0_0 t0_1 t0_2 t0_3 t0_4 t0_5 t0_6 t0_7 t0_8 t0_9 t0_10 t1_0 t2_0 ((4100 - (0 : Int32).toInt).toNat + 1) 0) else (True)
set_option maxRecDepth 100000 in
set_option maxHeartbeats 4000000 in
theorem X_DR_reaches (l : Launch) (D : va_G) (g : Nat → ClassId) (q : Nat → Nat) (ws : va_W) (hI : q_I (msh g q) q ws) (t0_0 : Int32) (t0_1 : Int32) (t0_2 : Int32) (t0_3 : Int64) (t0_4 : Int32) (t0_5 : Int32) (t0_6 : Int32) (t0_7 : Int32) (t0_8 : Int32) (t0_9 : Int32) (t0_10 : Int32) (hT0 : ws[134]? = (some (q 134, .inr (14, [.int t0_0, .ref (q 135), .int t0_1, .ref (q 136), .ref (q 137), .ref (q 138), .ref (q 139), .ref (q 140), .int t0_2, .long t0_3, .int t0_4, .int t0_5, .ref (q 141), .int t0_6, .ref (q 142), .int t0_7, .ref (q 143), .int t0_8, .ref (q 144), .int t0_9, .int t0_10])) : Option (Nat × va_E))) (t1_0 : (Nat → Int32)) (hT1 : ws[142]? = (some (q 142, .inl (g 0, (2200 : Int32).toNatClampNeg, .inl t1_0)) : Option (Nat × va_E))) (t2_0 : (Nat → Int32)) (hT2 : ws[143]? = (some (q 143, .inl (g 0, (2202 : Int32).toNatClampNeg, .inl t2_0)) : Option (Nat × va_E))) (hS : True ∧ S_DR_reaches t0_0 t0_1 t0_2 t0_3 t0_4 t0_5 t0_6 t0_7 t0_8 t0_9 t0_10 t1_0 t2_0) : q_mI l y_DR_reaches prog_15_method_31_code 2 (.boolean) 1 0 0 D g [.ref (q 134)] ws (fun r u => ws = u ∧ (0 ≤ r.toInt) ∧ (r.toInt ≤ 1) ∧ r = (F_DR_reaches t0_0 t0_1 t0_2 t0_3 t0_4 t0_5 t0_6 t0_7 t0_8 t0_9 t0_10 t1_0 t2_0)) := by
  intro sz
  refine q_into (by decide) (Nat.le_of_ble_eq_true rfl) ?_
  intro p e s m below meth c ls hsz C0 V hl
  have hx := C0.1
  have hb := C0.2.1
  have hZ9 := (n_w134 hI hT0).2.2
  obtain ⟨-, btt0_9⟩ := hZ9
  clear btt0_9
  have hl : lv_has ls 2 [(0, .ref (q 134))] := hl
  refine lv_aload_n hx hb d_15_31_0 rfl (lv_at hl 0 rfl) ?_
  refine q_get (ci := 14) (j := 16) (v := .ref (q 143)) C0 V i_DR rfl rfl hT0 (by decide) w_2019 rfl d_15_31_1 ?_
  refine lv_iconst (v := 0) hx hb d_15_31_4 (by decide) ?_
  refine q_iald C0 V hT2 (q_ix (x := 0) (by decide) (by omega) (by have e9 : (((2202 : Int32).toNatClampNeg : Nat) : Int) = 2202 := (by decide); omega)) d_15_31_5 ?_
  obtain ⟨a23, e24⟩ := q_nm (t2_0 (0 : Int32).toNatClampNeg : Int32)
  refine q_ti (v := a23) e24 ?_
  refine lv_if_eq (tgt := 11) hx hb d_15_31_6 (by decide) (fun c25 => ?_) (fun c25 => ?_)
  ·
    refine lv_iconst (v := 0) hx hb d_15_31_11 (by decide) ?_
    refine lv_istore_n (lv' := [(1, .int 0), (0, .ref (q 134))]) hx hb d_15_31_12 rfl hl (by decide) rfl (fun ls hl => ?_)
    refine q_loop (X := Int32) (fun z H locs ls _ => q_F (0 ≤ z.toInt) ∧ q_F (z.toInt ≤ 4100) ∧ q_Wd D g (va_A ws sz) s ws H locs ∧ lv_has ls 2 [(1, .int z), (0, .ref (q 134))] ∧ (∃ n, (4100 - z.toInt).toNat < n ∧ F_DR_reaches_L13 t0_0 t0_1 t0_2 t0_3 t0_4 t0_5 t0_6 t0_7 t0_8 t0_9 t0_10 t1_0 t2_0 n z = (F_DR_reaches t0_0 t0_1 t0_2 t0_3 t0_4 t0_5 t0_6 t0_7 t0_8 t0_9 t0_10 t1_0 t2_0) ∧ True ∧ S_DR_reaches_L13 t0_0 t0_1 t0_2 t0_3 t0_4 t0_5 t0_6 t0_7 t0_8 t0_9 t0_10 t1_0 t2_0 n z)) (fun z => (4100 - z.toInt).toNat) ?_ ((0 : Int32)) _ _ _ ws ⟨(show q_F (0 ≤ 0) from (show 0 ≤ 0 from by omega)), (show q_F (0 ≤ 4100) from (show 0 ≤ 4100 from by omega)), V, q_lw hl (q_lw1 0 rfl (q_lw1 1 rfl q_lw0)), ⟨((4100 - (0 : Int32).toInt).toNat + 1), Nat.lt_succ_self _, (show F_DR_reaches_L13 t0_0 t0_1 t0_2 t0_3 t0_4 t0_5 t0_6 t0_7 t0_8 t0_9 t0_10 t1_0 t2_0 ((4100 - (0 : Int32).toInt).toNat + 1) 0 = (F_DR_reaches t0_0 t0_1 t0_2 t0_3 t0_4 t0_5 t0_6 t0_7 t0_8 t0_9 t0_10 t1_0 t2_0) from (by have c25x := c25; rw [← e24] at c25x; rw [F_DR_reaches.eq_1, if_pos c25x])), (show True ∧ S_DR_reaches_L13 t0_0 t0_1 t0_2 t0_3 t0_4 t0_5 t0_6 t0_7 t0_8 t0_9 t0_10 t1_0 t2_0 ((4100 - (0 : Int32).toInt).toNat + 1) 0 from (by have h := hS; rw [S_DR_reaches.eq_1] at h; have c25x := c25; rw [← e24] at c25x; rw [if_pos c25x] at h; with_reducible exact h))⟩⟩
    rintro lx28 H locs ls _ ⟨i29, i30, V, hl, ⟨fu34, hf35, hR32, hS33⟩⟩ ih31
    obtain ⟨fm36, rfl⟩ : ∃ m, fu34 = m + 1 := ⟨fu34 - 1, by omega⟩
    replace i29 : q_F (0 ≤ lx28.toInt) := i29
    replace i30 : q_F (lx28.toInt ≤ 4100) := i30
    replace hl : lv_has ls 2 [(1, .int lx28), (0, .ref (q 134))] := hl
    refine lv_iload_n hx hb d_15_31_13 rfl (lv_at hl 0 rfl) ?_
    refine lv_aload_n hx hb d_15_31_14 rfl (lv_at hl 1 rfl) ?_
    refine q_get (ci := 14) (j := 15) (v := .int t0_7) C0 V i_DR rfl rfl hT0 (by decide) w_2018 rfl d_15_31_15 ?_
    refine lv_icmp_ge (tgt := 67) hx hb d_15_31_18 (by decide) (fun c37 => ?_) (fun c37 => ?_)
    ·
      refine lv_iconst (v := 1) hx hb d_15_31_67 (by decide) ?_
      exact q_retz C0 V (by decide) (⟨rfl, (show 0 ≤ (1 : Int32).toInt from (by have z13 : (1 : Int32).toInt = 1 := rfl; omega)), (show (1 : Int32).toInt ≤ 1 from (by have z13 : (1 : Int32).toInt = 1 := rfl; omega)), (show (1 : Int32) = (F_DR_reaches t0_0 t0_1 t0_2 t0_3 t0_4 t0_5 t0_6 t0_7 t0_8 t0_9 t0_10 t1_0 t2_0) from Eq.trans (by rw [F_DR_reaches_L13.eq_2, if_pos c37]) hR32)⟩) d_15_31_68
    ·
      refine lv_aload_n hx hb d_15_31_21 rfl (lv_at hl 1 rfl) ?_
      refine q_get (ci := 14) (j := 16) (v := .ref (q 143)) C0 V i_DR rfl rfl hT0 (by decide) w_2019 rfl d_15_31_22 ?_
      refine lv_iload_n hx hb d_15_31_25 rfl (lv_at hl 0 rfl) ?_
      refine lv_iconst (v := 1) hx hb d_15_31_26 (by decide) ?_
      refine lv_iadd hx hb d_15_31_27 ?_
      obtain ⟨a40, e41⟩ := q_nm (lx28 + 1 : Int32)
      refine q_ti (v := a40) e41 ?_
      have b42 : q_F (a40.toInt = lx28.toInt + 1) := (by rw [← e41]; show (lx28 + 1 : Int32).toInt = lx28.toInt + 1; exact q_addI (x := lx28.toInt) (y := 1) rfl (by decide) (by have t1 : 0 ≤ lx28.toInt := i29; have t2 : lx28.toInt ≤ 4100 := i30; omega) (by have t1 : 0 ≤ lx28.toInt := i29; have t2 : lx28.toInt ≤ 4100 := i30; omega))
      have ob43 : q_F (a40.toInt ≤ 2201) := (by rw [← e41]; have h := hS33; rw [S_DR_reaches_L13.eq_2] at h; rw [if_neg c37] at h; exact h.2.1)
      refine q_iald C0 V hT2 (q_ix (x := a40.toInt) rfl (by have t1 : 0 ≤ lx28.toInt := i29; have t2 : a40.toInt = lx28.toInt + 1 := b42; omega) (by have t1 : 0 ≤ lx28.toInt := i29; have t2 : a40.toInt = lx28.toInt + 1 := b42; have t3 : a40.toInt ≤ 2201 := ob43; have e9 : (((2202 : Int32).toNatClampNeg : Nat) : Int) = 2202 := (by decide); omega)) d_15_31_28 ?_
      obtain ⟨a44, e45⟩ := q_nm (t2_0 a40.toNatClampNeg : Int32)
      refine q_ti (v := a44) e45 ?_
      refine lv_aload_n hx hb d_15_31_29 rfl (lv_at hl 1 rfl) ?_
      refine q_get (ci := 14) (j := 14) (v := .ref (q 142)) C0 V i_DR rfl rfl hT0 (by decide) w_2017 rfl d_15_31_30 ?_
      refine lv_iload_n hx hb d_15_31_33 rfl (lv_at hl 0 rfl) ?_
      have ob46 : q_F (lx28.toInt ≤ 2199) := (by have h := hS33; rw [S_DR_reaches_L13.eq_2] at h; rw [if_neg c37] at h; replace h := q_s2 h; exact h.2.1)
      refine q_iald C0 V hT1 (q_ix (x := lx28.toInt) rfl (by first | with_reducible exact q_fe i29 | (have t1 : 0 ≤ lx28.toInt := i29; omega)) (by have t1 : 0 ≤ lx28.toInt := i29; have t2 : lx28.toInt ≤ 2199 := ob46; have e9 : (((2200 : Int32).toNatClampNeg : Nat) : Int) = 2200 := (by decide); omega)) d_15_31_34 ?_
      obtain ⟨a47, e48⟩ := q_nm (t1_0 lx28.toNatClampNeg : Int32)
      refine q_ti (v := a47) e48 ?_
      refine lv_icmp_eq (tgt := 61) hx hb d_15_31_35 (by decide) (fun c49 => ?_) (fun c49 => ?_)
      ·
        obtain ⟨a51, e52⟩ := q_nm (lx28 + 1 : Int32)
        have b53 : q_F (a51.toInt = lx28.toInt + 1) := (by rw [← e52]; exact q_addI (y := 1) rfl (by decide) (by have t1 : 0 ≤ lx28.toInt := i29; have t2 : lx28.toInt ≤ 4100 := i30; omega) (by have t1 : 0 ≤ lx28.toInt := i29; have t2 : lx28.toInt ≤ 4100 := i30; omega))
        refine lv_iinc (v := a51) (lv' := [(1, .int a51), (0, .ref (q 134))]) hx hb d_15_31_61 hl (k := 0) rfl (e52) (by decide) rfl (fun ls hl => ?_)
        refine lv_goto (tgt := 13) hx hb d_15_31_64 (by decide) ?_
        exact ih31 ((a51 : Int32)) _ _ _ ws (show (4100 - a51.toInt).toNat < (4100 - lx28.toInt).toNat from by have t1 : a51.toInt = lx28.toInt + 1 := b53; have t2 : lx28.toInt ≤ 4100 := i30; have t3 : lx28.toInt ≤ 2199 := ob46; omega) ⟨(show q_F (0 ≤ a51.toInt) from (show 0 ≤ a51.toInt from by have t1 : 0 ≤ lx28.toInt := i29; have t2 : a51.toInt = lx28.toInt + 1 := b53; omega)), (show q_F (a51.toInt ≤ 4100) from (show a51.toInt ≤ 4100 from by have t1 : lx28.toInt ≤ 2199 := ob46; have t2 : a51.toInt = lx28.toInt + 1 := b53; omega)), V, q_lw hl (q_lw1 0 rfl (q_lw1 1 rfl q_lw0)), ⟨fm36, Nat.lt_of_lt_of_le (show (4100 - a51.toInt).toNat < (4100 - lx28.toInt).toNat from by have t1 : a51.toInt = lx28.toInt + 1 := b53; have t2 : lx28.toInt ≤ 4100 := i30; have t3 : lx28.toInt ≤ 2199 := ob46; omega) (Nat.le_of_lt_succ hf35), (show F_DR_reaches_L13 t0_0 t0_1 t0_2 t0_3 t0_4 t0_5 t0_6 t0_7 t0_8 t0_9 t0_10 t1_0 t2_0 fm36 a51 = (F_DR_reaches t0_0 t0_1 t0_2 t0_3 t0_4 t0_5 t0_6 t0_7 t0_8 t0_9 t0_10 t1_0 t2_0) from Eq.trans (by have c49x := c49; rw [← e48, ← e45, ← e41] at c49x; rw [← e52, F_DR_reaches_L13.eq_2, if_neg c37, if_pos c49x]) hR32), (show True ∧ S_DR_reaches_L13 t0_0 t0_1 t0_2 t0_3 t0_4 t0_5 t0_6 t0_7 t0_8 t0_9 t0_10 t1_0 t2_0 fm36 a51 from (by rw [← e52]; have h := hS33; rw [S_DR_reaches_L13.eq_2] at h; rw [if_neg c37] at h; replace h := q_s2 h; replace h := q_s2 h; have c49x := c49; rw [← e48, ← e45, ← e41] at c49x; rw [if_pos c49x] at h; with_reducible exact h))⟩⟩
      ·
        refine lv_aload_n hx hb d_15_31_38 rfl (lv_at hl 1 rfl) ?_
        refine q_get (ci := 14) (j := 16) (v := .ref (q 143)) C0 V i_DR rfl rfl hT0 (by decide) w_2019 rfl d_15_31_39 ?_
        refine lv_iload_n hx hb d_15_31_42 rfl (lv_at hl 0 rfl) ?_
        refine lv_iconst (v := 1) hx hb d_15_31_43 (by decide) ?_
        refine lv_iadd hx hb d_15_31_44 ?_
        obtain ⟨a55, e56⟩ := q_nm (lx28 + 1 : Int32)
        refine q_ti (v := a55) e56 ?_
        have b57 : q_F (a55.toInt = lx28.toInt + 1) := (by rw [← e56]; show (lx28 + 1 : Int32).toInt = lx28.toInt + 1; exact q_addI (x := lx28.toInt) (y := 1) rfl (by decide) (by have t1 : 0 ≤ lx28.toInt := i29; have t2 : lx28.toInt ≤ 4100 := i30; omega) (by have t1 : 0 ≤ lx28.toInt := i29; have t2 : lx28.toInt ≤ 4100 := i30; omega))
        refine q_iald C0 V hT2 (q_ix (x := a55.toInt) rfl (by have t1 : 0 ≤ lx28.toInt := i29; have t2 : a55.toInt = lx28.toInt + 1 := b57; omega) (by have t1 : 0 ≤ lx28.toInt := i29; have t2 : a55.toInt = lx28.toInt + 1 := b57; have t3 : lx28.toInt ≤ 2199 := ob46; have e9 : (((2202 : Int32).toNatClampNeg : Nat) : Int) = 2202 := (by decide); omega)) d_15_31_45 ?_
        obtain ⟨a58, e59⟩ := q_nm (t2_0 a55.toNatClampNeg : Int32)
        refine q_ti (v := a58) e59 ?_
        refine lv_aload_n hx hb d_15_31_46 rfl (lv_at hl 1 rfl) ?_
        refine q_get (ci := 14) (j := 14) (v := .ref (q 142)) C0 V i_DR rfl rfl hT0 (by decide) w_2017 rfl d_15_31_47 ?_
        refine lv_iload_n hx hb d_15_31_50 rfl (lv_at hl 0 rfl) ?_
        refine q_iald C0 V hT1 (q_ix (x := lx28.toInt) rfl (by first | with_reducible exact q_fe i29 | (have t1 : 0 ≤ lx28.toInt := i29; omega)) (by have t1 : 0 ≤ lx28.toInt := i29; have t2 : lx28.toInt ≤ 2199 := ob46; have e9 : (((2200 : Int32).toNatClampNeg : Nat) : Int) = 2200 := (by decide); omega)) d_15_31_51 ?_
        obtain ⟨a60, e61⟩ := q_nm (t1_0 lx28.toNatClampNeg : Int32)
        refine q_ti (v := a60) e61 ?_
        refine lv_icmp_le (tgt := 59) hx hb d_15_31_52 (by decide) (fun c62 => ?_) (fun c62 => ?_)
        ·
          refine lv_iconst (v := 0) hx hb d_15_31_59 (by decide) ?_
          exact q_retz C0 V (by decide) (⟨rfl, (show 0 ≤ (0 : Int32).toInt from (by have z13 : (0 : Int32).toInt = 0 := rfl; omega)), (show (0 : Int32).toInt ≤ 1 from (by have z13 : (0 : Int32).toInt = 0 := rfl; omega)), (show (0 : Int32) = (F_DR_reaches t0_0 t0_1 t0_2 t0_3 t0_4 t0_5 t0_6 t0_7 t0_8 t0_9 t0_10 t1_0 t2_0) from Eq.trans (by have c49x := c49; rw [← e48, ← e45, ← e41] at c49x; have c62x := c62; rw [← e61, ← e59, ← e56] at c62x; rw [F_DR_reaches_L13.eq_2, if_neg c37, if_neg c49x, if_pos c62x]) hR32)⟩) d_15_31_60
        ·
          refine lv_iconst (v := 1) hx hb d_15_31_55 (by decide) ?_
          refine lv_goto (tgt := 60) hx hb d_15_31_56 (by decide) ?_
          exact q_retz C0 V (by decide) (⟨rfl, (show 0 ≤ (1 : Int32).toInt from (by have z13 : (1 : Int32).toInt = 1 := rfl; omega)), (show (1 : Int32).toInt ≤ 1 from (by have z13 : (1 : Int32).toInt = 1 := rfl; omega)), (show (1 : Int32) = (F_DR_reaches t0_0 t0_1 t0_2 t0_3 t0_4 t0_5 t0_6 t0_7 t0_8 t0_9 t0_10 t1_0 t2_0) from Eq.trans (by have c49x := c49; rw [← e48, ← e45, ← e41] at c49x; have c62x := c62; rw [← e61, ← e59, ← e56] at c62x; rw [F_DR_reaches_L13.eq_2, if_neg c37, if_neg c49x, if_neg c62x]) hR32)⟩) d_15_31_60
  ·
    refine lv_iconst (v := 1) hx hb d_15_31_9 (by decide) ?_
    exact q_retz C0 V (by decide) (⟨rfl, (show 0 ≤ (1 : Int32).toInt from (by have z13 : (1 : Int32).toInt = 1 := rfl; omega)), (show (1 : Int32).toInt ≤ 1 from (by have z13 : (1 : Int32).toInt = 1 := rfl; omega)), (show (1 : Int32) = (F_DR_reaches t0_0 t0_1 t0_2 t0_3 t0_4 t0_5 t0_6 t0_7 t0_8 t0_9 t0_10 t1_0 t2_0) from (by have c25x := c25; rw [← e24] at c25x; rw [F_DR_reaches.eq_1, if_neg c25x]))⟩) d_15_31_10
theorem d_15_32_0 : decode prog_15_method_32_code 0 = .ok (.iconst 0, 1) := by decide +kernel
theorem d_15_32_1 : decode prog_15_method_32_code 1 = .ok (.istore_n 1, 1) := by decide +kernel
theorem d_15_32_2 : decode prog_15_method_32_code 2 = .ok (.aload_n 0, 1) := by decide +kernel
theorem d_15_32_3 : decode prog_15_method_32_code 3 = .ok (.getfield 138, 3) := by decide +kernel
theorem d_15_32_6 : decode prog_15_method_32_code 6 = .ok (.iconst 1, 1) := by decide +kernel
theorem d_15_32_7 : decode prog_15_method_32_code 7 = .ok (.isub, 1) := by decide +kernel
theorem d_15_32_8 : decode prog_15_method_32_code 8 = .ok (.istore_n 2, 1) := by decide +kernel
theorem d_15_32_9 : decode prog_15_method_32_code 9 = .ok (.iload_n 2, 1) := by decide +kernel
theorem d_15_32_10 : decode prog_15_method_32_code 10 = .ok (.ifCond .lt 57, 3) := by decide +kernel
theorem d_15_32_67 : decode prog_15_method_32_code 67 = .ok (.aload_n 0, 1) := by decide +kernel
theorem d_15_32_68 : decode prog_15_method_32_code 68 = .ok (.getfield 35, 3) := by decide +kernel
theorem d_15_32_71 : decode prog_15_method_32_code 71 = .ok (.iconst 0, 1) := by decide +kernel
theorem d_15_32_72 : decode prog_15_method_32_code 72 = .ok (.aload_n 0, 1) := by decide +kernel
theorem d_15_32_73 : decode prog_15_method_32_code 73 = .ok (.getfield 35, 3) := by decide +kernel
theorem d_15_32_76 : decode prog_15_method_32_code 76 = .ok (.iconst 0, 1) := by decide +kernel
theorem d_15_32_77 : decode prog_15_method_32_code 77 = .ok (.iaload, 1) := by decide +kernel
theorem d_15_32_78 : decode prog_15_method_32_code 78 = .ok (.iload_n 1, 1) := by decide +kernel
theorem d_15_32_79 : decode prog_15_method_32_code 79 = .ok (.iadd, 1) := by decide +kernel
theorem d_15_32_80 : decode prog_15_method_32_code 80 = .ok (.iastore, 1) := by decide +kernel
theorem d_15_32_81 : decode prog_15_method_32_code 81 = .ok (.return_, 1) := by decide +kernel
theorem d_15_32_13 : decode prog_15_method_32_code 13 = .ok (.aload_n 0, 1) := by decide +kernel
theorem d_15_32_14 : decode prog_15_method_32_code 14 = .ok (.getfield 35, 3) := by decide +kernel
theorem d_15_32_17 : decode prog_15_method_32_code 17 = .ok (.iload_n 2, 1) := by decide +kernel
theorem d_15_32_18 : decode prog_15_method_32_code 18 = .ok (.iconst 1, 1) := by decide +kernel
theorem d_15_32_19 : decode prog_15_method_32_code 19 = .ok (.iadd, 1) := by decide +kernel
theorem d_15_32_20 : decode prog_15_method_32_code 20 = .ok (.iaload, 1) := by decide +kernel
theorem d_15_32_21 : decode prog_15_method_32_code 21 = .ok (.aload_n 0, 1) := by decide +kernel
theorem d_15_32_22 : decode prog_15_method_32_code 22 = .ok (.getfield 32, 3) := by decide +kernel
theorem d_15_32_25 : decode prog_15_method_32_code 25 = .ok (.iload_n 2, 1) := by decide +kernel
theorem d_15_32_26 : decode prog_15_method_32_code 26 = .ok (.iaload, 1) := by decide +kernel
theorem d_15_32_27 : decode prog_15_method_32_code 27 = .ok (.isub, 1) := by decide +kernel
theorem d_15_32_28 : decode prog_15_method_32_code 28 = .ok (.iload_n 1, 1) := by decide +kernel
theorem d_15_32_29 : decode prog_15_method_32_code 29 = .ok (.iadd, 1) := by decide +kernel
theorem d_15_32_30 : decode prog_15_method_32_code 30 = .ok (.istore_n 3, 1) := by decide +kernel
theorem d_15_32_31 : decode prog_15_method_32_code 31 = .ok (.aload_n 0, 1) := by decide +kernel
theorem d_15_32_32 : decode prog_15_method_32_code 32 = .ok (.getfield 35, 3) := by decide +kernel
theorem d_15_32_35 : decode prog_15_method_32_code 35 = .ok (.iload_n 2, 1) := by decide +kernel
theorem d_15_32_36 : decode prog_15_method_32_code 36 = .ok (.iconst 1, 1) := by decide +kernel
theorem d_15_32_37 : decode prog_15_method_32_code 37 = .ok (.iadd, 1) := by decide +kernel
theorem d_15_32_38 : decode prog_15_method_32_code 38 = .ok (.iload_n 3, 1) := by decide +kernel
theorem d_15_32_39 : decode prog_15_method_32_code 39 = .ok (.ifCond .ge 10, 3) := by decide +kernel
theorem d_15_32_49 : decode prog_15_method_32_code 49 = .ok (.iload_n 3, 1) := by decide +kernel
theorem d_15_32_50 : decode prog_15_method_32_code 50 = .ok (.iastore, 1) := by decide +kernel
theorem d_15_32_51 : decode prog_15_method_32_code 51 = .ok (.iload_n 3, 1) := by decide +kernel
theorem d_15_32_52 : decode prog_15_method_32_code 52 = .ok (.ifCond .ge 7, 3) := by decide +kernel
theorem d_15_32_59 : decode prog_15_method_32_code 59 = .ok (.iconst 0, 1) := by decide +kernel
theorem d_15_32_60 : decode prog_15_method_32_code 60 = .ok (.istore_n 1, 1) := by decide +kernel
theorem d_15_32_61 : decode prog_15_method_32_code 61 = .ok (.iinc 2 (-1), 3) := by decide +kernel
theorem d_15_32_64 : decode prog_15_method_32_code 64 = .ok (.goto (-55), 3) := by decide +kernel
theorem d_15_32_42 : decode prog_15_method_32_code 42 = .ok (.iload_n 3, 1) := by decide +kernel
theorem d_15_32_43 : decode prog_15_method_32_code 43 = .ok (.bipush 10, 2) := by decide +kernel
theorem d_15_32_45 : decode prog_15_method_32_code 45 = .ok (.iadd, 1) := by decide +kernel
theorem d_15_32_46 : decode prog_15_method_32_code 46 = .ok (.goto 4, 3) := by decide +kernel
theorem d_15_32_55 : decode prog_15_method_32_code 55 = .ok (.iconst (-1), 1) := by decide +kernel
theorem d_15_32_56 : decode prog_15_method_32_code 56 = .ok (.goto 4, 3) := by decide +kernel
def y_DR_takeAway : MethodName := ⟨"NumberHouseModel$DecimalRows", "takeAway", "()V"⟩
def F_DR_takeAway_L9 (t0_0 : Int32) (t0_1 : Int32) (t0_2 : Int32) (t0_3 : Int64) (t0_4 : Int32) (t0_5 : Int32) (t0_6 : Int32) (t0_7 : Int32) (t0_8 : Int32) (t0_9 : Int32) (t0_10 : Int32) (t1_0 : (Nat → Int32)) (t2_0 : (Nat → Int32)) : Nat → Int32 → Int32 → (Nat → Int32) → (Nat → Int32)
  | 0, _, _, _ => default
  | fm + 1, lx27, lx28, lx29 => if lx27 < (0 : Int32) then ((upd lx29 (0 : Int32).toNatClampNeg ((lx29 (0 : Int32).toNatClampNeg : Int32) + lx28 : Int32) : (Nat → Int32))) else (if (0 : Int32) ≤ (((lx29 (lx27 + 1 : Int32).toNatClampNeg : Int32) - (t1_0 lx27.toNatClampNeg : Int32) : Int32) + lx28 : Int32) then (F_DR_takeAway_L9 t0_0 t0_1 t0_2 t0_3 t0_4 t0_5 t0_6 t0_7 t0_8 t0_9 t0_10 t1_0 t2_0 fm (lx27 + (-1) : Int32) 0 (upd lx29 (lx27 + 1 : Int32).toNatClampNeg (((lx29 (lx27 + 1 : Int32).toNatClampNeg : Int32) - (t1_0 lx27.toNatClampNeg : Int32) : Int32) + lx28 : Int32) : (Nat → Int32))) else (F_DR_takeAway_L9 t0_0 t0_1 t0_2 t0_3 t0_4 t0_5 t0_6 t0_7 t0_8 t0_9 t0_10 t1_0 t2_0 fm (lx27 + (-1) : Int32) (-1) (upd lx29 (lx27 + 1 : Int32).toNatClampNeg ((((lx29 (lx27 + 1 : Int32).toNatClampNeg : Int32) - (t1_0 lx27.toNatClampNeg : Int32) : Int32) + lx28 : Int32) + 10 : Int32) : (Nat → Int32))))
def F_DR_takeAway (t0_0 : Int32) (t0_1 : Int32) (t0_2 : Int32) (t0_3 : Int64) (t0_4 : Int32) (t0_5 : Int32) (t0_6 : Int32) (t0_7 : Int32) (t0_8 : Int32) (t0_9 : Int32) (t0_10 : Int32) (t1_0 : (Nat → Int32)) (t2_0 : (Nat → Int32)) : (Nat → Int32) := F_DR_takeAway_L9 t0_0 t0_1 t0_2 t0_3 t0_4 t0_5 t0_6 t0_7 t0_8 t0_9 t0_10 t1_0 t2_0 (((t0_7 - 1 : Int32).toInt - ((-1))).toNat + 1) (t0_7 - 1 : Int32) 0 t2_0
def S_DR_takeAway_L9 (t0_0 : Int32) (t0_1 : Int32) (t0_2 : Int32) (t0_3 : Int64) (t0_4 : Int32) (t0_5 : Int32) (t0_6 : Int32) (t0_7 : Int32) (t0_8 : Int32) (t0_9 : Int32) (t0_10 : Int32) (t1_0 : (Nat → Int32)) (t2_0 : (Nat → Int32)) : Nat → Int32 → Int32 → (Nat → Int32) → Prop
  | 0, _, _, _ => False
  | fm + 1, lx27, lx28, lx29 => if lx27 < (0 : Int32) then (True) else ((0 ≤ (lx27 + 1 : Int32).toInt) ∧ (((lx27 + 1 : Int32).toInt ≤ 2201) ∧ ((lx27.toInt ≤ 2199) ∧ (if (0 : Int32) ≤ (((lx29 (lx27 + 1 : Int32).toNatClampNeg : Int32) - (t1_0 lx27.toNatClampNeg : Int32) : Int32) + lx28 : Int32) then (S_DR_takeAway_L9 t0_0 t0_1 t0_2 t0_3 t0_4 t0_5 t0_6 t0_7 t0_8 t0_9 t0_10 t1_0 t2_0 fm (lx27 + (-1) : Int32) 0 (upd lx29 (lx27 + 1 : Int32).toNatClampNeg (((lx29 (lx27 + 1 : Int32).toNatClampNeg : Int32) - (t1_0 lx27.toNatClampNeg : Int32) : Int32) + lx28 : Int32) : (Nat → Int32))) else (S_DR_takeAway_L9 t0_0 t0_1 t0_2 t0_3 t0_4 t0_5 t0_6 t0_7 t0_8 t0_9 t0_10 t1_0 t2_0 fm (lx27 + (-1) : Int32) (-1) (upd lx29 (lx27 + 1 : Int32).toNatClampNeg ((((lx29 (lx27 + 1 : Int32).toNatClampNeg : Int32) - (t1_0 lx27.toNatClampNeg : Int32) : Int32) + lx28 : Int32) + 10 : Int32) : (Nat → Int32)))))))
def S_DR_takeAway (t0_0 : Int32) (t0_1 : Int32) (t0_2 : Int32) (t0_3 : Int64) (t0_4 : Int32) (t0_5 : Int32) (t0_6 : Int32) (t0_7 : Int32) (t0_8 : Int32) (t0_9 : Int32) (t0_10 : Int32) (t1_0 : (Nat → Int32)) (t2_0 : (Nat → Int32)) : Prop := S_DR_takeAway_L9 t0_0 t0_1 t0_2 t0_3 t0_4 t0_5 t0_6 t0_7 t0_8 t0_9 t0_10 t1_0 t2_0 (((t0_7 - 1 : Int32).toInt - ((-1))).toNat + 1) (t0_7 - 1 : Int32) 0 t2_0
set_option maxRecDepth 100000 in
set_option maxHeartbeats 4000000 in
theorem X_DR_takeAway (l : Launch) (D : va_G) (g : Nat → ClassId) (q : Nat → Nat) (ws : va_W) (hI : q_I (msh g q) q ws) (t0_0 : Int32) (t0_1 : Int32) (t0_2 : Int32) (t0_3 : Int64) (t0_4 : Int32) (t0_5 : Int32) (t0_6 : Int32) (t0_7 : Int32) (t0_8 : Int32) (t0_9 : Int32) (t0_10 : Int32) (hT0 : ws[134]? = (some (q 134, .inr (14, [.int t0_0, .ref (q 135), .int t0_1, .ref (q 136), .ref (q 137), .ref (q 138), .ref (q 139), .ref (q 140), .int t0_2, .long t0_3, .int t0_4, .int t0_5, .ref (q 141), .int t0_6, .ref (q 142), .int t0_7, .ref (q 143), .int t0_8, .ref (q 144), .int t0_9, .int t0_10])) : Option (Nat × va_E))) (t1_0 : (Nat → Int32)) (hT1 : ws[142]? = (some (q 142, .inl (g 0, (2200 : Int32).toNatClampNeg, .inl t1_0)) : Option (Nat × va_E))) (t2_0 : (Nat → Int32)) (hT2 : ws[143]? = (some (q 143, .inl (g 0, (2202 : Int32).toNatClampNeg, .inl t2_0)) : Option (Nat × va_E))) (hS : True ∧ S_DR_takeAway t0_0 t0_1 t0_2 t0_3 t0_4 t0_5 t0_6 t0_7 t0_8 t0_9 t0_10 t1_0 t2_0) : q_mV l y_DR_takeAway prog_15_method_32_code 4 1 0 0 D g [.ref (q 134)] ws (fun u => q_I (msh g q) q u ∧ q_un ws u [143] ∧ ∃ (u2_0 : (Nat → Int32)), u[143]? = (some (q 143, .inl (g 0, (2202 : Int32).toNatClampNeg, .inl u2_0)) : Option (Nat × va_E)) ∧ u2_0 = (F_DR_takeAway t0_0 t0_1 t0_2 t0_3 t0_4 t0_5 t0_6 t0_7 t0_8 t0_9 t0_10 t1_0 t2_0)) := by
  intro sz
  refine q_into (by decide) (Nat.le_of_ble_eq_true rfl) ?_
  intro p e s m below meth c ls hsz C0 V hl
  have hx := C0.1
  have hb := C0.2.1
  have hZ9 := (n_w134 hI hT0).2.2
  obtain ⟨-, btt0_9⟩ := hZ9
  clear btt0_9
  have hF : q_un ws ws [143] := q_u0
  have hl : lv_has ls 4 [(0, .ref (q 134))] := hl
  refine lv_iconst (v := 0) hx hb d_15_32_0 (by decide) ?_
  refine lv_istore_n (lv' := [(1, .int 0), (0, .ref (q 134))]) hx hb d_15_32_1 rfl hl (by decide) rfl (fun ls hl => ?_)
  refine lv_aload_n hx hb d_15_32_2 rfl (lv_at hl 1 rfl) ?_
  refine q_get (ci := 14) (j := 15) (v := .int t0_7) C0 V i_DR rfl rfl hT0 (by decide) w_2018 rfl d_15_32_3 ?_
  refine lv_iconst (v := 1) hx hb d_15_32_6 (by decide) ?_
  refine lv_isub hx hb d_15_32_7 ?_
  obtain ⟨a23, e24⟩ := q_nm (t0_7 - 1 : Int32)
  refine q_ti (v := a23) e24 ?_
  refine lv_istore_n (lv' := [(2, .int a23), (1, .int 0), (0, .ref (q 134))]) hx hb d_15_32_8 rfl hl (by decide) rfl (fun ls hl => ?_)
  refine q_loop (X := Int32 × Int32 × (Nat → Int32)) (fun z H locs ls w34 => q_F (z.2.1.toInt ≤ 0) ∧ q_F (0 ≤ z.2.1.toInt + 1) ∧ q_F (z.1.toInt ≤ z.2.1.toInt + a23.toInt) ∧ q_Wd D g (va_A ws sz) s w34 H locs ∧ lv_has ls 4 [(2, .int z.1), (1, .int z.2.1), (0, .ref (q 134))] ∧ q_I (msh g q) q w34 ∧ q_un ws w34 [143] ∧ w34[134]? = (some (q 134, .inr (14, [.int t0_0, .ref (q 135), .int t0_1, .ref (q 136), .ref (q 137), .ref (q 138), .ref (q 139), .ref (q 140), .int t0_2, .long t0_3, .int t0_4, .int t0_5, .ref (q 141), .int t0_6, .ref (q 142), .int t0_7, .ref (q 143), .int t0_8, .ref (q 144), .int t0_9, .int t0_10])) : Option (Nat × va_E)) ∧ w34[142]? = (some (q 142, .inl (g 0, (2200 : Int32).toNatClampNeg, .inl t1_0)) : Option (Nat × va_E)) ∧ w34[143]? = (some (q 143, .inl (g 0, (2202 : Int32).toNatClampNeg, .inl z.2.2)) : Option (Nat × va_E)) ∧ (∃ n, (z.1.toInt - ((-1))).toNat < n ∧ F_DR_takeAway_L9 t0_0 t0_1 t0_2 t0_3 t0_4 t0_5 t0_6 t0_7 t0_8 t0_9 t0_10 t1_0 t2_0 n z.1 z.2.1 z.2.2 = (F_DR_takeAway t0_0 t0_1 t0_2 t0_3 t0_4 t0_5 t0_6 t0_7 t0_8 t0_9 t0_10 t1_0 t2_0) ∧ True ∧ S_DR_takeAway_L9 t0_0 t0_1 t0_2 t0_3 t0_4 t0_5 t0_6 t0_7 t0_8 t0_9 t0_10 t1_0 t2_0 n z.1 z.2.1 z.2.2)) (fun z => (z.1.toInt - ((-1))).toNat) ?_ ((a23 : Int32), (0 : Int32), (t2_0 : (Nat → Int32))) _ _ _ ws ⟨(show q_F (0 ≤ 0) from (show 0 ≤ 0 from by omega)), (show q_F (0 ≤ 0 + 1) from (show 0 ≤ 0 + 1 from by omega)), (show q_F (a23.toInt ≤ 0 + a23.toInt) from (show a23.toInt ≤ 0 + a23.toInt from by omega)), V, q_lw hl (q_lw1 0 rfl (q_lw1 1 rfl (q_lw1 2 rfl q_lw0))), hI, hF, hT0, hT1, hT2, ⟨((a23.toInt - ((-1))).toNat + 1), Nat.lt_succ_self _, (show F_DR_takeAway_L9 t0_0 t0_1 t0_2 t0_3 t0_4 t0_5 t0_6 t0_7 t0_8 t0_9 t0_10 t1_0 t2_0 ((a23.toInt - ((-1))).toNat + 1) a23 0 t2_0 = (F_DR_takeAway t0_0 t0_1 t0_2 t0_3 t0_4 t0_5 t0_6 t0_7 t0_8 t0_9 t0_10 t1_0 t2_0) from (by rw [← e24, F_DR_takeAway.eq_1])), (show True ∧ S_DR_takeAway_L9 t0_0 t0_1 t0_2 t0_3 t0_4 t0_5 t0_6 t0_7 t0_8 t0_9 t0_10 t1_0 t2_0 ((a23.toInt - ((-1))).toNat + 1) a23 0 t2_0 from (by rw [← e24]; have h := hS; rw [S_DR_takeAway.eq_1] at h; with_reducible exact h))⟩⟩
  rintro ⟨lx27, lx28, lx29⟩ H locs ls w34 ⟨i30, i31, i32, V, hl, hI, hF, hO35, hO36, hO37, ⟨fu40, hf41, hR38, hS39⟩⟩ ih33
  obtain ⟨fm42, rfl⟩ : ∃ m, fu40 = m + 1 := ⟨fu40 - 1, by omega⟩
  replace i30 : q_F (lx28.toInt ≤ 0) := i30
  clear i31
  replace i32 : q_F (lx27.toInt ≤ lx28.toInt + a23.toInt) := i32
  replace hl : lv_has ls 4 [(2, .int lx27), (1, .int lx28), (0, .ref (q 134))] := hl
  replace hO35 : w34[134]? = (some (q 134, .inr (14, [.int t0_0, .ref (q 135), .int t0_1, .ref (q 136), .ref (q 137), .ref (q 138), .ref (q 139), .ref (q 140), .int t0_2, .long t0_3, .int t0_4, .int t0_5, .ref (q 141), .int t0_6, .ref (q 142), .int t0_7, .ref (q 143), .int t0_8, .ref (q 144), .int t0_9, .int t0_10])) : Option (Nat × va_E)) := hO35
  replace hO36 : w34[142]? = (some (q 142, .inl (g 0, (2200 : Int32).toNatClampNeg, .inl t1_0)) : Option (Nat × va_E)) := hO36
  replace hO37 : w34[143]? = (some (q 143, .inl (g 0, (2202 : Int32).toNatClampNeg, .inl lx29)) : Option (Nat × va_E)) := hO37
  refine lv_iload_n hx hb d_15_32_9 rfl (lv_at hl 0 rfl) ?_
  refine lv_if_lt (tgt := 67) hx hb d_15_32_10 (by decide) (fun c43 => ?_) (fun c43 => ?_)
  ·
    refine lv_aload_n hx hb d_15_32_67 rfl (lv_at hl 2 rfl) ?_
    refine q_get (ci := 14) (j := 16) (v := .ref (q 143)) C0 V i_DR rfl rfl hO35 (by decide) w_2019 rfl d_15_32_68 ?_
    refine lv_iconst (v := 0) hx hb d_15_32_71 (by decide) ?_
    refine lv_aload_n hx hb d_15_32_72 rfl (lv_at hl 2 rfl) ?_
    refine q_get (ci := 14) (j := 16) (v := .ref (q 143)) C0 V i_DR rfl rfl hO35 (by decide) w_2019 rfl d_15_32_73 ?_
    refine lv_iconst (v := 0) hx hb d_15_32_76 (by decide) ?_
    refine q_iald C0 V hO37 (q_ix (x := 0) (by decide) (by omega) (by have e9 : (((2202 : Int32).toNatClampNeg : Nat) : Int) = 2202 := (by decide); omega)) d_15_32_77 ?_
    obtain ⟨a45, e46⟩ := q_nm (lx29 (0 : Int32).toNatClampNeg : Int32)
    refine q_ti (v := a45) e46 ?_
    refine lv_iload_n hx hb d_15_32_78 rfl (lv_at hl 1 rfl) ?_
    refine lv_iadd hx hb d_15_32_79 ?_
    obtain ⟨a47, e48⟩ := q_nm (a45 + lx28 : Int32)
    refine q_ti (v := a47) e48 ?_
    refine q_iast C0 V hO37 (q_ix (x := 0) (by decide) (by omega) (by have e9 : (((2202 : Int32).toNatClampNeg : Nat) : Int) = 2202 := (by decide); omega)) d_15_32_80 (fun H locs w49 hu50 hO37 V => ?_)
    replace hI := n_ai' hI (n_r143 g q).1 hu50 hO37 (q_updB (fun _ => s_bnd) s_bnd)
    replace hF := q_us hF hu50 (by simp)
    obtain ⟨f51, e52⟩ := q_nm (upd lx29 (0 : Int32).toNatClampNeg a47 : (Nat → Int32))
    rw [e52] at hO37
    exact q_retv C0 V (⟨hI, hF, f51, hO37, (show f51 = (F_DR_takeAway t0_0 t0_1 t0_2 t0_3 t0_4 t0_5 t0_6 t0_7 t0_8 t0_9 t0_10 t1_0 t2_0) from Eq.trans (by rw [← e52, ← e48, ← e46, F_DR_takeAway_L9.eq_2, if_pos c43]) hR38)⟩) d_15_32_81
  ·
    have b53 : q_F (0 ≤ lx27.toInt) := (q_nltI c43)
    refine lv_aload_n hx hb d_15_32_13 rfl (lv_at hl 2 rfl) ?_
    refine q_get (ci := 14) (j := 16) (v := .ref (q 143)) C0 V i_DR rfl rfl hO35 (by decide) w_2019 rfl d_15_32_14 ?_
    refine lv_iload_n hx hb d_15_32_17 rfl (lv_at hl 0 rfl) ?_
    refine lv_iconst (v := 1) hx hb d_15_32_18 (by decide) ?_
    refine lv_iadd hx hb d_15_32_19 ?_
    obtain ⟨a54, e55⟩ := q_nm (lx27 + 1 : Int32)
    refine q_ti (v := a54) e55 ?_
    have ob56 : q_F (0 ≤ a54.toInt) := (by rw [← e55]; have h := hS39; rw [S_DR_takeAway_L9.eq_2] at h; rw [if_neg c43] at h; exact h.2.1)
    have ob57 : q_F (a54.toInt ≤ 2201) := (by rw [← e55]; have h := hS39; rw [S_DR_takeAway_L9.eq_2] at h; rw [if_neg c43] at h; replace h := q_s2 h; exact h.2.1)
    refine q_iald C0 V hO37 (q_ix (x := a54.toInt) rfl (by first | with_reducible exact q_fe ob56 | (have t1 : 0 ≤ a54.toInt := ob56; omega)) (by have t1 : 0 ≤ a54.toInt := ob56; have t2 : a54.toInt ≤ 2201 := ob57; have e9 : (((2202 : Int32).toNatClampNeg : Nat) : Int) = 2202 := (by decide); omega)) d_15_32_20 ?_
    obtain ⟨a58, e59⟩ := q_nm (lx29 a54.toNatClampNeg : Int32)
    refine q_ti (v := a58) e59 ?_
    refine lv_aload_n hx hb d_15_32_21 rfl (lv_at hl 2 rfl) ?_
    refine q_get (ci := 14) (j := 14) (v := .ref (q 142)) C0 V i_DR rfl rfl hO35 (by decide) w_2017 rfl d_15_32_22 ?_
    refine lv_iload_n hx hb d_15_32_25 rfl (lv_at hl 0 rfl) ?_
    have ob60 : q_F (lx27.toInt ≤ 2199) := (by have h := hS39; rw [S_DR_takeAway_L9.eq_2] at h; rw [if_neg c43] at h; replace h := q_s2 h; replace h := q_s2 h; exact h.2.1)
    refine q_iald C0 V hO36 (q_ix (x := lx27.toInt) rfl (by first | with_reducible exact q_fe b53 | (have t1 : 0 ≤ lx27.toInt := b53; omega)) (by have t1 : 0 ≤ lx27.toInt := b53; have t2 : lx27.toInt ≤ 2199 := ob60; have e9 : (((2200 : Int32).toNatClampNeg : Nat) : Int) = 2200 := (by decide); omega)) d_15_32_26 ?_
    obtain ⟨a61, e62⟩ := q_nm (t1_0 lx27.toNatClampNeg : Int32)
    refine q_ti (v := a61) e62 ?_
    refine lv_isub hx hb d_15_32_27 ?_
    obtain ⟨a63, e64⟩ := q_nm (a58 - a61 : Int32)
    refine q_ti (v := a63) e64 ?_
    refine lv_iload_n hx hb d_15_32_28 rfl (lv_at hl 1 rfl) ?_
    refine lv_iadd hx hb d_15_32_29 ?_
    obtain ⟨a65, e66⟩ := q_nm (a63 + lx28 : Int32)
    refine q_ti (v := a65) e66 ?_
    refine lv_istore_n (lv' := [(3, .int a65), (2, .int lx27), (1, .int lx28), (0, .ref (q 134))]) hx hb d_15_32_30 rfl hl (by decide) rfl (fun ls hl => ?_)
    refine lv_aload_n hx hb d_15_32_31 rfl (lv_at hl 3 rfl) ?_
    refine q_get (ci := 14) (j := 16) (v := .ref (q 143)) C0 V i_DR rfl rfl hO35 (by decide) w_2019 rfl d_15_32_32 ?_
    refine lv_iload_n hx hb d_15_32_35 rfl (lv_at hl 1 rfl) ?_
    refine lv_iconst (v := 1) hx hb d_15_32_36 (by decide) ?_
    refine lv_iadd hx hb d_15_32_37 ?_
    obtain ⟨a67, e68⟩ := q_nm (lx27 + 1 : Int32)
    refine q_ti (v := a67) e68 ?_
    have b69 : q_F (a67.toInt = lx27.toInt + 1) := (by rw [← e68]; show (lx27 + 1 : Int32).toInt = lx27.toInt + 1; exact q_addI (x := lx27.toInt) (y := 1) rfl (by decide) (by have t1 : 0 ≤ lx27.toInt := b53; have t2 : lx27.toInt ≤ 2199 := ob60; omega) (by have t1 : 0 ≤ lx27.toInt := b53; have t2 : lx27.toInt ≤ 2199 := ob60; omega))
    refine lv_iload_n hx hb d_15_32_38 rfl (lv_at hl 0 rfl) ?_
    refine lv_if_ge (tgt := 49) hx hb d_15_32_39 (by decide) (fun c70 => ?_) (fun c70 => ?_)
    ·
      have b71 : q_F (0 ≤ a65.toInt) := (q_leI c70)
      refine lv_iload_n hx hb d_15_32_49 rfl (lv_at hl 0 rfl) ?_
      refine q_iast C0 V hO37 (q_ix (x := a67.toInt) rfl (by have t1 : 0 ≤ lx27.toInt := b53; have t2 : a67.toInt = lx27.toInt + 1 := b69; omega) (by have t1 : 0 ≤ lx27.toInt := b53; have t2 : a67.toInt = lx27.toInt + 1 := b69; have t3 : lx27.toInt ≤ 2199 := ob60; have e9 : (((2202 : Int32).toNatClampNeg : Nat) : Int) = 2202 := (by decide); omega)) d_15_32_50 (fun H locs w72 hu73 hO37 V => ?_)
      replace hI := n_ai' hI (n_r143 g q).1 hu73 hO37 (q_updB (fun _ => s_bnd) s_bnd)
      replace hO35 := (hu73 _ (by decide)).trans hO35
      replace hO36 := (hu73 _ (by decide)).trans hO36
      replace hF := q_us hF hu73 (by simp)
      obtain ⟨f74, e75⟩ := q_nm (upd lx29 a67.toNatClampNeg a65 : (Nat → Int32))
      rw [e75] at hO37
      refine lv_iload_n hx hb d_15_32_51 rfl (lv_at hl 0 rfl) ?_
      refine lv_if_ge (tgt := 59) hx hb d_15_32_52 (by decide) (fun c76 => ?_) (fun c76 => absurd (show a65.toInt < 0 from q_nleI c76) (by first | with_reducible exact q_fe b71 | (have t1 : 0 ≤ a65.toInt := b71; omega)))
      refine lv_iconst (v := 0) hx hb d_15_32_59 (by decide) ?_
      refine lv_istore_n (lv' := [(1, .int 0), (3, .int a65), (2, .int lx27), (0, .ref (q 134))]) hx hb d_15_32_60 rfl hl (by decide) rfl (fun ls hl => ?_)
      obtain ⟨a77, e78⟩ := q_nm (lx27 + (-1) : Int32)
      have b79 : q_F (a77.toInt = lx27.toInt + (-1)) := (by rw [← e78]; exact q_addI (y := (-1)) rfl (by decide) (by have t1 : 0 ≤ lx27.toInt := b53; have t2 : lx27.toInt ≤ 2199 := ob60; omega) (by have t1 : 0 ≤ lx27.toInt := b53; have t2 : lx27.toInt ≤ 2199 := ob60; omega))
      refine lv_iinc (v := a77) (lv' := [(2, .int a77), (1, .int 0), (3, .int a65), (0, .ref (q 134))]) hx hb d_15_32_61 hl (k := 2) rfl (e78) (by decide) rfl (fun ls hl => ?_)
      refine lv_goto (tgt := 9) hx hb d_15_32_64 (by decide) ?_
      exact ih33 ((a77 : Int32), (0 : Int32), (f74 : (Nat → Int32))) _ _ _ _ (show (a77.toInt - ((-1))).toNat < (lx27.toInt - ((-1))).toNat from by have t1 : a77.toInt = lx27.toInt + (-1) := b79; have t2 : 0 ≤ lx27.toInt := b53; omega) ⟨(show q_F (0 ≤ 0) from (show 0 ≤ 0 from by omega)), (show q_F (0 ≤ 0 + 1) from (show 0 ≤ 0 + 1 from by omega)), (show q_F (a77.toInt ≤ 0 + a23.toInt) from (show a77.toInt ≤ 0 + a23.toInt from by have t1 : lx28.toInt ≤ 0 := i30; have t2 : lx27.toInt ≤ lx28.toInt + a23.toInt := i32; have t3 : a77.toInt = lx27.toInt + (-1) := b79; omega)), V, q_lw hl (q_lw1 0 rfl (q_lw1 1 rfl (q_lw1 3 rfl q_lw0))), hI, hF, hO35, hO36, hO37, ⟨fm42, Nat.lt_of_lt_of_le (show (a77.toInt - ((-1))).toNat < (lx27.toInt - ((-1))).toNat from by have t1 : a77.toInt = lx27.toInt + (-1) := b79; have t2 : 0 ≤ lx27.toInt := b53; omega) (Nat.le_of_lt_succ hf41), (show F_DR_takeAway_L9 t0_0 t0_1 t0_2 t0_3 t0_4 t0_5 t0_6 t0_7 t0_8 t0_9 t0_10 t1_0 t2_0 fm42 a77 0 f74 = (F_DR_takeAway t0_0 t0_1 t0_2 t0_3 t0_4 t0_5 t0_6 t0_7 t0_8 t0_9 t0_10 t1_0 t2_0) from Eq.trans (by have c70x := c70; rw [← e66, ← e64, ← e62, ← e59, ← e55] at c70x; rw [← e78, ← e75, ← e68, ← e66, ← e64, ← e62, ← e59, ← e55, F_DR_takeAway_L9.eq_2, if_neg c43, if_pos c70x]) hR38), (show True ∧ S_DR_takeAway_L9 t0_0 t0_1 t0_2 t0_3 t0_4 t0_5 t0_6 t0_7 t0_8 t0_9 t0_10 t1_0 t2_0 fm42 a77 0 f74 from (by rw [← e78, ← e75, ← e68, ← e66, ← e64, ← e62, ← e59, ← e55]; have h := hS39; rw [S_DR_takeAway_L9.eq_2] at h; rw [if_neg c43] at h; replace h := q_s2 h; replace h := q_s2 h; replace h := q_s2 h; have c70x := c70; rw [← e66, ← e64, ← e62, ← e59, ← e55] at c70x; rw [if_pos c70x] at h; with_reducible exact h))⟩⟩
    ·
      have b80 : q_F (a65.toInt < 0) := (q_nleI c70)
      refine lv_iload_n hx hb d_15_32_42 rfl (lv_at hl 0 rfl) ?_
      refine lv_bipush (v := 10) hx hb d_15_32_43 (by decide) ?_
      refine lv_iadd hx hb d_15_32_45 ?_
      obtain ⟨a81, e82⟩ := q_nm (a65 + 10 : Int32)
      refine q_ti (v := a81) e82 ?_
      refine lv_goto (tgt := 50) hx hb d_15_32_46 (by decide) ?_
      refine q_iast C0 V hO37 (q_ix (x := a67.toInt) rfl (by have t1 : 0 ≤ lx27.toInt := b53; have t2 : a67.toInt = lx27.toInt + 1 := b69; omega) (by have t1 : 0 ≤ lx27.toInt := b53; have t2 : a67.toInt = lx27.toInt + 1 := b69; have t3 : lx27.toInt ≤ 2199 := ob60; have e9 : (((2202 : Int32).toNatClampNeg : Nat) : Int) = 2202 := (by decide); omega)) d_15_32_50 (fun H locs w84 hu85 hO37 V => ?_)
      replace hI := n_ai' hI (n_r143 g q).1 hu85 hO37 (q_updB (fun _ => s_bnd) s_bnd)
      replace hO35 := (hu85 _ (by decide)).trans hO35
      replace hO36 := (hu85 _ (by decide)).trans hO36
      replace hF := q_us hF hu85 (by simp)
      obtain ⟨f86, e87⟩ := q_nm (upd lx29 a67.toNatClampNeg a81 : (Nat → Int32))
      rw [e87] at hO37
      refine lv_iload_n hx hb d_15_32_51 rfl (lv_at hl 0 rfl) ?_
      refine lv_if_ge (tgt := 59) hx hb d_15_32_52 (by decide) (fun c88 => absurd (show 0 ≤ a65.toInt from q_leI c88) (by first | with_reducible exact q_fe b80 | (have t1 : a65.toInt < 0 := b80; omega))) (fun c88 => ?_)
      refine lv_iconst (v := (-1)) hx hb d_15_32_55 (by decide) ?_
      refine lv_goto (tgt := 60) hx hb d_15_32_56 (by decide) ?_
      refine lv_istore_n (lv' := [(1, .int (-1)), (3, .int a65), (2, .int lx27), (0, .ref (q 134))]) hx hb d_15_32_60 rfl hl (by decide) rfl (fun ls hl => ?_)
      obtain ⟨a89, e90⟩ := q_nm (lx27 + (-1) : Int32)
      have b91 : q_F (a89.toInt = lx27.toInt + (-1)) := (by rw [← e90]; exact q_addI (y := (-1)) rfl (by decide) (by have t1 : 0 ≤ lx27.toInt := b53; have t2 : lx27.toInt ≤ 2199 := ob60; omega) (by have t1 : 0 ≤ lx27.toInt := b53; have t2 : lx27.toInt ≤ 2199 := ob60; omega))
      refine lv_iinc (v := a89) (lv' := [(2, .int a89), (1, .int (-1)), (3, .int a65), (0, .ref (q 134))]) hx hb d_15_32_61 hl (k := 2) rfl (e90) (by decide) rfl (fun ls hl => ?_)
      refine lv_goto (tgt := 9) hx hb d_15_32_64 (by decide) ?_
      exact ih33 ((a89 : Int32), ((-1) : Int32), (f86 : (Nat → Int32))) _ _ _ _ (show (a89.toInt - ((-1))).toNat < (lx27.toInt - ((-1))).toNat from by have t1 : a89.toInt = lx27.toInt + (-1) := b91; have t2 : 0 ≤ lx27.toInt := b53; omega) ⟨(show q_F ((-1) ≤ 0) from (show (-1) ≤ 0 from by omega)), (show q_F (0 ≤ (-1) + 1) from (show 0 ≤ (-1) + 1 from by omega)), (show q_F (a89.toInt ≤ (-1) + a23.toInt) from (show a89.toInt ≤ (-1) + a23.toInt from by have t1 : lx28.toInt ≤ 0 := i30; have t2 : lx27.toInt ≤ lx28.toInt + a23.toInt := i32; have t3 : a89.toInt = lx27.toInt + (-1) := b91; omega)), V, q_lw hl (q_lw1 0 rfl (q_lw1 1 rfl (q_lw1 3 rfl q_lw0))), hI, hF, hO35, hO36, hO37, ⟨fm42, Nat.lt_of_lt_of_le (show (a89.toInt - ((-1))).toNat < (lx27.toInt - ((-1))).toNat from by have t1 : a89.toInt = lx27.toInt + (-1) := b91; have t2 : 0 ≤ lx27.toInt := b53; omega) (Nat.le_of_lt_succ hf41), (show F_DR_takeAway_L9 t0_0 t0_1 t0_2 t0_3 t0_4 t0_5 t0_6 t0_7 t0_8 t0_9 t0_10 t1_0 t2_0 fm42 a89 (-1) f86 = (F_DR_takeAway t0_0 t0_1 t0_2 t0_3 t0_4 t0_5 t0_6 t0_7 t0_8 t0_9 t0_10 t1_0 t2_0) from Eq.trans (by have c70x := c70; rw [← e66, ← e64, ← e62, ← e59, ← e55] at c70x; rw [← e90, ← e87, ← e82, ← e68, ← e66, ← e64, ← e62, ← e59, ← e55, F_DR_takeAway_L9.eq_2, if_neg c43, if_neg c70x]) hR38), (show True ∧ S_DR_takeAway_L9 t0_0 t0_1 t0_2 t0_3 t0_4 t0_5 t0_6 t0_7 t0_8 t0_9 t0_10 t1_0 t2_0 fm42 a89 (-1) f86 from (by rw [← e90, ← e87, ← e82, ← e68, ← e66, ← e64, ← e62, ← e59, ← e55]; have h := hS39; rw [S_DR_takeAway_L9.eq_2] at h; rw [if_neg c43] at h; replace h := q_s2 h; replace h := q_s2 h; replace h := q_s2 h; have c70x := c70; rw [← e66, ← e64, ← e62, ← e59, ← e55] at c70x; rw [if_neg c70x] at h; with_reducible exact h))⟩⟩
theorem d_15_33_0 : decode prog_15_method_33_code 0 = .ok (.iconst 0, 1) := by decide +kernel
theorem d_15_33_1 : decode prog_15_method_33_code 1 = .ok (.istore_n 2, 1) := by decide +kernel
theorem d_15_33_2 : decode prog_15_method_33_code 2 = .ok (.iload_n 2, 1) := by decide +kernel
theorem d_15_33_3 : decode prog_15_method_33_code 3 = .ok (.aload_n 0, 1) := by decide +kernel
theorem d_15_33_4 : decode prog_15_method_33_code 4 = .ok (.getfield 138, 3) := by decide +kernel
theorem d_15_33_7 : decode prog_15_method_33_code 7 = .ok (.if_icmp .ge 23, 3) := by decide +kernel
theorem d_15_33_30 : decode prog_15_method_33_code 30 = .ok (.aload_n 0, 1) := by decide +kernel
theorem d_15_33_31 : decode prog_15_method_33_code 31 = .ok (.getfield 35, 3) := by decide +kernel
theorem d_15_33_34 : decode prog_15_method_33_code 34 = .ok (.aload_n 0, 1) := by decide +kernel
theorem d_15_33_35 : decode prog_15_method_33_code 35 = .ok (.getfield 138, 3) := by decide +kernel
theorem d_15_33_38 : decode prog_15_method_33_code 38 = .ok (.iload_n 1, 1) := by decide +kernel
theorem d_15_33_39 : decode prog_15_method_33_code 39 = .ok (.iastore, 1) := by decide +kernel
theorem d_15_33_40 : decode prog_15_method_33_code 40 = .ok (.iconst 0, 1) := by decide +kernel
theorem d_15_33_41 : decode prog_15_method_33_code 41 = .ok (.istore_n 2, 1) := by decide +kernel
theorem d_15_33_42 : decode prog_15_method_33_code 42 = .ok (.aload_n 0, 1) := by decide +kernel
theorem d_15_33_43 : decode prog_15_method_33_code 43 = .ok (.invokevirtual 141, 3) := by decide +kernel
set_option maxRecDepth 100000 in
theorem w_2839 : (Cond.code ({ cls := "NumberHouseModel$DecimalRows", name := "reaches", desc := "()Z" } : MethodName) prog_15_method_31_code (2 : Nat) (some .boolean)) ∈ q_tbl := q_of12 199 rfl (by decide +kernel)
set_option maxRecDepth 100000 in
theorem w_2836 : (Cond.methodLink "NumberHouseModel$DecimalRows" (141 : Nat) ({ cls := "NumberHouseModel$DecimalRows", name := "reaches", desc := "()Z" } : MethodName)) ∈ q_tbl := q_of12 196 rfl (by decide +kernel)
set_option maxRecDepth 100000 in
theorem w_2838 : (Cond.instanceMethod ({ cls := "NumberHouseModel$DecimalRows", name := "reaches", desc := "()Z" } : MethodName)) ∈ q_tbl := q_of12 198 rfl (by decide +kernel)
theorem ws_121 : Cond.selects "NumberHouseModel$DecimalRows" (⟨"NumberHouseModel$DecimalRows", "reaches", "()Z"⟩ : MethodName) (⟨"NumberHouseModel$DecimalRows", "reaches", "()Z"⟩ : MethodName) ∈ q_tbl := q_ofs 121 (by decide +kernel) (by decide +kernel)
theorem LV_DR_141 : q_LV "NumberHouseModel$DecimalRows" 141 y_DR_reaches prog_15_method_31_code 2 (some .boolean) 0 := ⟨w_2839, w_16, w_2836, w_2838, ws_121, ⟨by decide, by decide, by decide +kernel⟩⟩
theorem d_15_33_46 : decode prog_15_method_33_code 46 = .ok (.ifCond .eq 13, 3) := by decide +kernel
theorem d_15_33_59 : decode prog_15_method_33_code 59 = .ok (.iload_n 2, 1) := by decide +kernel
theorem d_15_33_60 : decode prog_15_method_33_code 60 = .ok (.ireturn, 1) := by decide +kernel
theorem d_15_33_49 : decode prog_15_method_33_code 49 = .ok (.aload_n 0, 1) := by decide +kernel
theorem d_15_33_50 : decode prog_15_method_33_code 50 = .ok (.invokevirtual 144, 3) := by decide +kernel
set_option maxRecDepth 100000 in
theorem w_2843 : (Cond.code ({ cls := "NumberHouseModel$DecimalRows", name := "takeAway", desc := "()V" } : MethodName) prog_15_method_32_code (4 : Nat) (none : Option ClassFile.FieldType)) ∈ q_tbl := q_of12 203 rfl (by decide +kernel)
set_option maxRecDepth 100000 in
theorem w_2840 : (Cond.methodLink "NumberHouseModel$DecimalRows" (144 : Nat) ({ cls := "NumberHouseModel$DecimalRows", name := "takeAway", desc := "()V" } : MethodName)) ∈ q_tbl := q_of12 200 rfl (by decide +kernel)
set_option maxRecDepth 100000 in
theorem w_2842 : (Cond.instanceMethod ({ cls := "NumberHouseModel$DecimalRows", name := "takeAway", desc := "()V" } : MethodName)) ∈ q_tbl := q_of12 202 rfl (by decide +kernel)
theorem ws_122 : Cond.selects "NumberHouseModel$DecimalRows" (⟨"NumberHouseModel$DecimalRows", "takeAway", "()V"⟩ : MethodName) (⟨"NumberHouseModel$DecimalRows", "takeAway", "()V"⟩ : MethodName) ∈ q_tbl := q_ofs 122 (by decide +kernel) (by decide +kernel)
theorem LV_DR_144 : q_LV "NumberHouseModel$DecimalRows" 144 y_DR_takeAway prog_15_method_32_code 4 none 0 := ⟨w_2843, w_16, w_2840, w_2842, ws_122, ⟨by decide, by decide, by decide +kernel⟩⟩
theorem d_15_33_53 : decode prog_15_method_33_code 53 = .ok (.iinc 2 1, 3) := by decide +kernel
theorem d_15_33_56 : decode prog_15_method_33_code 56 = .ok (.goto (-14), 3) := by decide +kernel
theorem d_15_33_10 : decode prog_15_method_33_code 10 = .ok (.aload_n 0, 1) := by decide +kernel
theorem d_15_33_11 : decode prog_15_method_33_code 11 = .ok (.getfield 35, 3) := by decide +kernel
theorem d_15_33_14 : decode prog_15_method_33_code 14 = .ok (.iload_n 2, 1) := by decide +kernel
theorem d_15_33_15 : decode prog_15_method_33_code 15 = .ok (.aload_n 0, 1) := by decide +kernel
theorem d_15_33_16 : decode prog_15_method_33_code 16 = .ok (.getfield 35, 3) := by decide +kernel
theorem d_15_33_19 : decode prog_15_method_33_code 19 = .ok (.iload_n 2, 1) := by decide +kernel
theorem d_15_33_20 : decode prog_15_method_33_code 20 = .ok (.iconst 1, 1) := by decide +kernel
theorem d_15_33_21 : decode prog_15_method_33_code 21 = .ok (.iadd, 1) := by decide +kernel
theorem d_15_33_22 : decode prog_15_method_33_code 22 = .ok (.iaload, 1) := by decide +kernel
theorem d_15_33_23 : decode prog_15_method_33_code 23 = .ok (.iastore, 1) := by decide +kernel
theorem d_15_33_24 : decode prog_15_method_33_code 24 = .ok (.iinc 2 1, 3) := by decide +kernel
theorem d_15_33_27 : decode prog_15_method_33_code 27 = .ok (.goto (-25), 3) := by decide +kernel
def y_DR_nextFigure : MethodName := ⟨"NumberHouseModel$DecimalRows", "nextFigure", "(I)I"⟩
def F_DR_nextFigure_L42 (K_F_DR_nextFigure_L2 : Int32 → (Nat → Int32) → (Int32 × (Nat → Int32))) (x2 : Int32) (t0_0 : Int32) (t0_1 : Int32) (t0_2 : Int32) (t0_3 : Int64) (t0_4 : Int32) (t0_5 : Int32) (t0_6 : Int32) (t0_7 : Int32) (t0_8 : Int32) (t0_9 : Int32) (t0_10 : Int32) (t1_0 : (Nat → Int32)) (t2_0 : (Nat → Int32)) (lx24 : Int32) (lx25 : (Nat → Int32)) : Nat → Int32 → (Nat → Int32) → (Int32 × (Nat → Int32))
  | 0, _, _ => default
  | fm + 1, lx47, lx48 => if ((F_DR_reaches t0_0 t0_1 t0_2 t0_3 t0_4 t0_5 t0_6 t0_7 t0_8 t0_9 t0_10 t1_0 lx48) : Int32) = (0 : Int32) then ((lx47, lx48)) else (F_DR_nextFigure_L42 K_F_DR_nextFigure_L2 x2 t0_0 t0_1 t0_2 t0_3 t0_4 t0_5 t0_6 t0_7 t0_8 t0_9 t0_10 t1_0 t2_0 lx24 lx25 fm (lx47 + 1 : Int32) ((F_DR_takeAway t0_0 t0_1 t0_2 t0_3 t0_4 t0_5 t0_6 t0_7 t0_8 t0_9 t0_10 t1_0 lx48) : (Nat → Int32)))
def F_DR_nextFigure_L2 (x2 : Int32) (t0_0 : Int32) (t0_1 : Int32) (t0_2 : Int32) (t0_3 : Int64) (t0_4 : Int32) (t0_5 : Int32) (t0_6 : Int32) (t0_7 : Int32) (t0_8 : Int32) (t0_9 : Int32) (t0_10 : Int32) (t1_0 : (Nat → Int32)) (t2_0 : (Nat → Int32)) : Nat → Int32 → (Nat → Int32) → (Int32 × (Nat → Int32))
  | 0, _, _ => default
  | fm + 1, lx24, lx25 => if t0_7 ≤ lx24 then (F_DR_nextFigure_L42 (F_DR_nextFigure_L2 x2 t0_0 t0_1 t0_2 t0_3 t0_4 t0_5 t0_6 t0_7 t0_8 t0_9 t0_10 t1_0 t2_0 fm) x2 t0_0 t0_1 t0_2 t0_3 t0_4 t0_5 t0_6 t0_7 t0_8 t0_9 t0_10 t1_0 t2_0 lx24 lx25 1000000 0 (upd lx25 t0_7.toNatClampNeg x2 : (Nat → Int32))) else (F_DR_nextFigure_L2 x2 t0_0 t0_1 t0_2 t0_3 t0_4 t0_5 t0_6 t0_7 t0_8 t0_9 t0_10 t1_0 t2_0 fm (lx24 + 1 : Int32) (upd lx25 lx24.toNatClampNeg (lx25 (lx24 + 1 : Int32).toNatClampNeg : Int32) : (Nat → Int32)))
def F_DR_nextFigure (x2 : Int32) (t0_0 : Int32) (t0_1 : Int32) (t0_2 : Int32) (t0_3 : Int64) (t0_4 : Int32) (t0_5 : Int32) (t0_6 : Int32) (t0_7 : Int32) (t0_8 : Int32) (t0_9 : Int32) (t0_10 : Int32) (t1_0 : (Nat → Int32)) (t2_0 : (Nat → Int32)) : Int32 × (Nat → Int32) := F_DR_nextFigure_L2 x2 t0_0 t0_1 t0_2 t0_3 t0_4 t0_5 t0_6 t0_7 t0_8 t0_9 t0_10 t1_0 t2_0 ((4100 - (0 : Int32).toInt).toNat + 1) 0 t2_0
def S_DR_nextFigure_L42 (K_S_DR_nextFigure_L2 : Int32 → (Nat → Int32) → Prop) (x2 : Int32) (t0_0 : Int32) (t0_1 : Int32) (t0_2 : Int32) (t0_3 : Int64) (t0_4 : Int32) (t0_5 : Int32) (t0_6 : Int32) (t0_7 : Int32) (t0_8 : Int32) (t0_9 : Int32) (t0_10 : Int32) (t1_0 : (Nat → Int32)) (t2_0 : (Nat → Int32)) (lx24 : Int32) (lx25 : (Nat → Int32)) : Nat → Int32 → (Nat → Int32) → Prop
  | 0, _, _ => False
  | fm + 1, lx47, lx48 => (True ∧ S_DR_reaches t0_0 t0_1 t0_2 t0_3 t0_4 t0_5 t0_6 t0_7 t0_8 t0_9 t0_10 t1_0 lx48) ∧ (if ((F_DR_reaches t0_0 t0_1 t0_2 t0_3 t0_4 t0_5 t0_6 t0_7 t0_8 t0_9 t0_10 t1_0 lx48) : Int32) = (0 : Int32) then (True) else ((True ∧ S_DR_takeAway t0_0 t0_1 t0_2 t0_3 t0_4 t0_5 t0_6 t0_7 t0_8 t0_9 t0_10 t1_0 lx48) ∧ (S_DR_nextFigure_L42 K_S_DR_nextFigure_L2 x2 t0_0 t0_1 t0_2 t0_3 t0_4 t0_5 t0_6 t0_7 t0_8 t0_9 t0_10 t1_0 t2_0 lx24 lx25 fm (lx47 + 1 : Int32) ((F_DR_takeAway t0_0 t0_1 t0_2 t0_3 t0_4 t0_5 t0_6 t0_7 t0_8 t0_9 t0_10 t1_0 lx48) : (Nat → Int32)))))
def S_DR_nextFigure_L2 (x2 : Int32) (t0_0 : Int32) (t0_1 : Int32) (t0_2 : Int32) (t0_3 : Int64) (t0_4 : Int32) (t0_5 : Int32) (t0_6 : Int32) (t0_7 : Int32) (t0_8 : Int32) (t0_9 : Int32) (t0_10 : Int32) (t1_0 : (Nat → Int32)) (t2_0 : (Nat → Int32)) : Nat → Int32 → (Nat → Int32) → Prop
  | 0, _, _ => False
  | fm + 1, lx24, lx25 => if t0_7 ≤ lx24 then ((0 ≤ t0_7.toInt) ∧ ((t0_7.toInt ≤ 2201) ∧ (S_DR_nextFigure_L42 (S_DR_nextFigure_L2 x2 t0_0 t0_1 t0_2 t0_3 t0_4 t0_5 t0_6 t0_7 t0_8 t0_9 t0_10 t1_0 t2_0 fm) x2 t0_0 t0_1 t0_2 t0_3 t0_4 t0_5 t0_6 t0_7 t0_8 t0_9 t0_10 t1_0 t2_0 lx24 lx25 1000000 0 (upd lx25 t0_7.toNatClampNeg x2 : (Nat → Int32))))) else (((lx24 + 1 : Int32).toInt ≤ 2201) ∧ (S_DR_nextFigure_L2 x2 t0_0 t0_1 t0_2 t0_3 t0_4 t0_5 t0_6 t0_7 t0_8 t0_9 t0_10 t1_0 t2_0 fm (lx24 + 1 : Int32) (upd lx25 lx24.toNatClampNeg (lx25 (lx24 + 1 : Int32).toNatClampNeg : Int32) : (Nat → Int32))))
def S_DR_nextFigure (x2 : Int32) (t0_0 : Int32) (t0_1 : Int32) (t0_2 : Int32) (t0_3 : Int64) (t0_4 : Int32) (t0_5 : Int32) (t0_6 : Int32) (t0_7 : Int32) (t0_8 : Int32) (t0_9 : Int32) (t0_10 : Int32) (t1_0 : (Nat → Int32)) (t2_0 : (Nat → Int32)) : Prop := S_DR_nextFigure_L2 x2 t0_0 t0_1 t0_2 t0_3 t0_4 t0_5 t0_6 t0_7 t0_8 t0_9 t0_10 t1_0 t2_0 ((4100 - (0 : Int32).toInt).toNat + 1) 0 t2_0
set_option maxRecDepth 100000 in
set_option maxHeartbeats 4000000 in
theorem X_DR_nextFigure (l : Launch) (D : va_G) (g : Nat → ClassId) (q : Nat → Nat) (ws : va_W) (x2 : Int32) (hI : q_I (msh g q) q ws) (t0_0 : Int32) (t0_1 : Int32) (t0_2 : Int32) (t0_3 : Int64) (t0_4 : Int32) (t0_5 : Int32) (t0_6 : Int32) (t0_7 : Int32) (t0_8 : Int32) (t0_9 : Int32) (t0_10 : Int32) (hT0 : ws[134]? = (some (q 134, .inr (14, [.int t0_0, .ref (q 135), .int t0_1, .ref (q 136), .ref (q 137), .ref (q 138), .ref (q 139), .ref (q 140), .int t0_2, .long t0_3, .int t0_4, .int t0_5, .ref (q 141), .int t0_6, .ref (q 142), .int t0_7, .ref (q 143), .int t0_8, .ref (q 144), .int t0_9, .int t0_10])) : Option (Nat × va_E))) (t1_0 : (Nat → Int32)) (hT1 : ws[142]? = (some (q 142, .inl (g 0, (2200 : Int32).toNatClampNeg, .inl t1_0)) : Option (Nat × va_E))) (t2_0 : (Nat → Int32)) (hT2 : ws[143]? = (some (q 143, .inl (g 0, (2202 : Int32).toNatClampNeg, .inl t2_0)) : Option (Nat × va_E))) (hS : True ∧ S_DR_nextFigure x2 t0_0 t0_1 t0_2 t0_3 t0_4 t0_5 t0_6 t0_7 t0_8 t0_9 t0_10 t1_0 t2_0) : q_mI l y_DR_nextFigure prog_15_method_33_code 3 (.int) 2 0 0 D g [.ref (q 134), .int x2] ws (fun r u => q_I (msh g q) q u ∧ q_un ws u [143] ∧ ∃ (u2_0 : (Nat → Int32)), u[143]? = (some (q 143, .inl (g 0, (2202 : Int32).toNatClampNeg, .inl u2_0)) : Option (Nat × va_E)) ∧ (r, u2_0) = (F_DR_nextFigure x2 t0_0 t0_1 t0_2 t0_3 t0_4 t0_5 t0_6 t0_7 t0_8 t0_9 t0_10 t1_0 t2_0)) := by
  intro sz
  refine q_into (by decide) (Nat.le_of_ble_eq_true rfl) ?_
  intro p e s m below meth c ls hsz C0 V hl
  have hx := C0.1
  have hb := C0.2.1
  have hZ9 := (n_w134 hI hT0).2.2
  obtain ⟨-, btt0_9⟩ := hZ9
  clear btt0_9
  have hF : q_un ws ws [143] := q_u0
  have hl : lv_has ls 3 [(0, .ref (q 134)), (1, .int x2)] := hl
  refine lv_iconst (v := 0) hx hb d_15_33_0 (by decide) ?_
  refine lv_istore_n (lv' := [(2, .int 0), (0, .ref (q 134)), (1, .int x2)]) hx hb d_15_33_1 rfl hl (by decide) rfl (fun ls hl => ?_)
  refine q_loop (X := Int32 × (Nat → Int32)) (fun z H locs ls w29 => q_F (0 ≤ z.1.toInt) ∧ q_F (z.1.toInt ≤ 4100) ∧ q_Wd D g (va_A ws sz) s w29 H locs ∧ lv_has ls 3 [(2, .int z.1), (0, .ref (q 134)), (1, .int x2)] ∧ q_I (msh g q) q w29 ∧ q_un ws w29 [143] ∧ w29[134]? = (some (q 134, .inr (14, [.int t0_0, .ref (q 135), .int t0_1, .ref (q 136), .ref (q 137), .ref (q 138), .ref (q 139), .ref (q 140), .int t0_2, .long t0_3, .int t0_4, .int t0_5, .ref (q 141), .int t0_6, .ref (q 142), .int t0_7, .ref (q 143), .int t0_8, .ref (q 144), .int t0_9, .int t0_10])) : Option (Nat × va_E)) ∧ w29[142]? = (some (q 142, .inl (g 0, (2200 : Int32).toNatClampNeg, .inl t1_0)) : Option (Nat × va_E)) ∧ w29[143]? = (some (q 143, .inl (g 0, (2202 : Int32).toNatClampNeg, .inl z.2)) : Option (Nat × va_E)) ∧ (∃ n, (4100 - z.1.toInt).toNat < n ∧ F_DR_nextFigure_L2 x2 t0_0 t0_1 t0_2 t0_3 t0_4 t0_5 t0_6 t0_7 t0_8 t0_9 t0_10 t1_0 t2_0 n z.1 z.2 = (F_DR_nextFigure x2 t0_0 t0_1 t0_2 t0_3 t0_4 t0_5 t0_6 t0_7 t0_8 t0_9 t0_10 t1_0 t2_0) ∧ True ∧ S_DR_nextFigure_L2 x2 t0_0 t0_1 t0_2 t0_3 t0_4 t0_5 t0_6 t0_7 t0_8 t0_9 t0_10 t1_0 t2_0 n z.1 z.2)) (fun z => (4100 - z.1.toInt).toNat) ?_ ((0 : Int32), (t2_0 : (Nat → Int32))) _ _ _ ws ⟨(show q_F (0 ≤ 0) from (show 0 ≤ 0 from by omega)), (show q_F (0 ≤ 4100) from (show 0 ≤ 4100 from by omega)), V, q_lw hl (q_lw1 0 rfl (q_lw1 1 rfl (q_lw1 2 rfl q_lw0))), hI, hF, hT0, hT1, hT2, ⟨((4100 - (0 : Int32).toInt).toNat + 1), Nat.lt_succ_self _, (show F_DR_nextFigure_L2 x2 t0_0 t0_1 t0_2 t0_3 t0_4 t0_5 t0_6 t0_7 t0_8 t0_9 t0_10 t1_0 t2_0 ((4100 - (0 : Int32).toInt).toNat + 1) 0 t2_0 = (F_DR_nextFigure x2 t0_0 t0_1 t0_2 t0_3 t0_4 t0_5 t0_6 t0_7 t0_8 t0_9 t0_10 t1_0 t2_0) from (by rw [F_DR_nextFigure.eq_1])), (show True ∧ S_DR_nextFigure_L2 x2 t0_0 t0_1 t0_2 t0_3 t0_4 t0_5 t0_6 t0_7 t0_8 t0_9 t0_10 t1_0 t2_0 ((4100 - (0 : Int32).toInt).toNat + 1) 0 t2_0 from (by have h := hS; rw [S_DR_nextFigure.eq_1] at h; with_reducible exact h))⟩⟩
  rintro ⟨lx24, lx25⟩ H locs ls w29 ⟨i26, i27, V, hl, hI, hF, hO30, hO31, hO32, ⟨fu35, hf36, hR33, hS34⟩⟩ ih28
  obtain ⟨fm37, rfl⟩ : ∃ m, fu35 = m + 1 := ⟨fu35 - 1, by omega⟩
  replace i26 : q_F (0 ≤ lx24.toInt) := i26
  replace i27 : q_F (lx24.toInt ≤ 4100) := i27
  replace hl : lv_has ls 3 [(2, .int lx24), (0, .ref (q 134)), (1, .int x2)] := hl
  replace hO30 : w29[134]? = (some (q 134, .inr (14, [.int t0_0, .ref (q 135), .int t0_1, .ref (q 136), .ref (q 137), .ref (q 138), .ref (q 139), .ref (q 140), .int t0_2, .long t0_3, .int t0_4, .int t0_5, .ref (q 141), .int t0_6, .ref (q 142), .int t0_7, .ref (q 143), .int t0_8, .ref (q 144), .int t0_9, .int t0_10])) : Option (Nat × va_E)) := hO30
  replace hO31 : w29[142]? = (some (q 142, .inl (g 0, (2200 : Int32).toNatClampNeg, .inl t1_0)) : Option (Nat × va_E)) := hO31
  replace hO32 : w29[143]? = (some (q 143, .inl (g 0, (2202 : Int32).toNatClampNeg, .inl lx25)) : Option (Nat × va_E)) := hO32
  refine lv_iload_n hx hb d_15_33_2 rfl (lv_at hl 0 rfl) ?_
  refine lv_aload_n hx hb d_15_33_3 rfl (lv_at hl 1 rfl) ?_
  refine q_get (ci := 14) (j := 15) (v := .int t0_7) C0 V i_DR rfl rfl hO30 (by decide) w_2018 rfl d_15_33_4 ?_
  refine lv_icmp_ge (tgt := 30) hx hb d_15_33_7 (by decide) (fun c38 => ?_) (fun c38 => ?_)
  ·
    refine lv_aload_n hx hb d_15_33_30 rfl (lv_at hl 1 rfl) ?_
    refine q_get (ci := 14) (j := 16) (v := .ref (q 143)) C0 V i_DR rfl rfl hO30 (by decide) w_2019 rfl d_15_33_31 ?_
    refine lv_aload_n hx hb d_15_33_34 rfl (lv_at hl 1 rfl) ?_
    refine q_get (ci := 14) (j := 15) (v := .int t0_7) C0 V i_DR rfl rfl hO30 (by decide) w_2018 rfl d_15_33_35 ?_
    refine lv_iload_n hx hb d_15_33_38 rfl (lv_at hl 2 rfl) ?_
    have ob40 : q_F (0 ≤ t0_7.toInt) := (by have h := hS34; rw [S_DR_nextFigure_L2.eq_2] at h; rw [if_pos c38] at h; exact h.2.1)
    have ob41 : q_F (t0_7.toInt ≤ 2201) := (by have h := hS34; rw [S_DR_nextFigure_L2.eq_2] at h; rw [if_pos c38] at h; replace h := q_s2 h; exact h.2.1)
    refine q_iast C0 V hO32 (q_ix (x := t0_7.toInt) rfl (by first | with_reducible exact q_fe ob40 | (have t1 : 0 ≤ t0_7.toInt := ob40; omega)) (by have t1 : 0 ≤ t0_7.toInt := ob40; have t2 : t0_7.toInt ≤ 2201 := ob41; have e9 : (((2202 : Int32).toNatClampNeg : Nat) : Int) = 2202 := (by decide); omega)) d_15_33_39 (fun H locs w42 hu43 hO32 V => ?_)
    replace hI := n_ai' hI (n_r143 g q).1 hu43 hO32 (q_updB (fun _ => s_bnd) s_bnd)
    replace hO30 := (hu43 _ (by decide)).trans hO30
    replace hO31 := (hu43 _ (by decide)).trans hO31
    replace hF := q_us hF hu43 (by simp)
    obtain ⟨f44, e45⟩ := q_nm (upd lx25 t0_7.toNatClampNeg x2 : (Nat → Int32))
    rw [e45] at hO32
    refine lv_iconst (v := 0) hx hb d_15_33_40 (by decide) ?_
    refine lv_istore_n (lv' := [(2, .int 0), (0, .ref (q 134)), (1, .int x2)]) hx hb d_15_33_41 rfl hl (by decide) rfl (fun ls hl => ?_)
    refine q_loop (X := Nat × Int32 × (Nat → Int32)) (fun z H locs ls w50 => q_Wd D g (va_A ws sz) s w50 H locs ∧ lv_has ls 3 [(2, .int z.2.1), (0, .ref (q 134))] ∧ q_I (msh g q) q w50 ∧ q_un ws w50 [143] ∧ w50[134]? = (some (q 134, .inr (14, [.int t0_0, .ref (q 135), .int t0_1, .ref (q 136), .ref (q 137), .ref (q 138), .ref (q 139), .ref (q 140), .int t0_2, .long t0_3, .int t0_4, .int t0_5, .ref (q 141), .int t0_6, .ref (q 142), .int t0_7, .ref (q 143), .int t0_8, .ref (q 144), .int t0_9, .int t0_10])) : Option (Nat × va_E)) ∧ w50[142]? = (some (q 142, .inl (g 0, (2200 : Int32).toNatClampNeg, .inl t1_0)) : Option (Nat × va_E)) ∧ w50[143]? = (some (q 143, .inl (g 0, (2202 : Int32).toNatClampNeg, .inl z.2.2)) : Option (Nat × va_E)) ∧ F_DR_nextFigure_L42 (F_DR_nextFigure_L2 x2 t0_0 t0_1 t0_2 t0_3 t0_4 t0_5 t0_6 t0_7 t0_8 t0_9 t0_10 t1_0 t2_0 fm37) x2 t0_0 t0_1 t0_2 t0_3 t0_4 t0_5 t0_6 t0_7 t0_8 t0_9 t0_10 t1_0 t2_0 lx24 lx25 z.1 z.2.1 z.2.2 = (F_DR_nextFigure x2 t0_0 t0_1 t0_2 t0_3 t0_4 t0_5 t0_6 t0_7 t0_8 t0_9 t0_10 t1_0 t2_0) ∧ True ∧ S_DR_nextFigure_L42 (S_DR_nextFigure_L2 x2 t0_0 t0_1 t0_2 t0_3 t0_4 t0_5 t0_6 t0_7 t0_8 t0_9 t0_10 t1_0 t2_0 fm37) x2 t0_0 t0_1 t0_2 t0_3 t0_4 t0_5 t0_6 t0_7 t0_8 t0_9 t0_10 t1_0 t2_0 lx24 lx25 z.1 z.2.1 z.2.2) (fun z => z.1) ?_ ((1000000 : Nat), (0 : Int32), (f44 : (Nat → Int32))) _ _ _ w42 ⟨V, q_lw hl (q_lw1 0 rfl (q_lw1 1 rfl q_lw0)), hI, hF, hO30, hO31, hO32, (show F_DR_nextFigure_L42 (F_DR_nextFigure_L2 x2 t0_0 t0_1 t0_2 t0_3 t0_4 t0_5 t0_6 t0_7 t0_8 t0_9 t0_10 t1_0 t2_0 fm37) x2 t0_0 t0_1 t0_2 t0_3 t0_4 t0_5 t0_6 t0_7 t0_8 t0_9 t0_10 t1_0 t2_0 lx24 lx25 1000000 0 f44 = (F_DR_nextFigure x2 t0_0 t0_1 t0_2 t0_3 t0_4 t0_5 t0_6 t0_7 t0_8 t0_9 t0_10 t1_0 t2_0) from Eq.trans (by rw [← e45, F_DR_nextFigure_L2.eq_2, if_pos c38]) hR33), (show True ∧ S_DR_nextFigure_L42 (S_DR_nextFigure_L2 x2 t0_0 t0_1 t0_2 t0_3 t0_4 t0_5 t0_6 t0_7 t0_8 t0_9 t0_10 t1_0 t2_0 fm37) x2 t0_0 t0_1 t0_2 t0_3 t0_4 t0_5 t0_6 t0_7 t0_8 t0_9 t0_10 t1_0 t2_0 lx24 lx25 1000000 0 f44 from (by rw [← e45]; have h := hS34; rw [S_DR_nextFigure_L2.eq_2] at h; rw [if_pos c38] at h; replace h := q_s2 h; replace h := q_s2 h; with_reducible exact h))⟩
    rintro ⟨fu56, lx47, lx48⟩ H locs ls w50 ⟨V, hl, hI, hF, hO51, hO52, hO53, hR54, hS55⟩ ih49
    obtain ⟨fm58, rfl⟩ : ∃ m, fu56 = m + 1 := Nat.exists_eq_succ_of_ne_zero (fun e => by subst e; rw [S_DR_nextFigure_L42.eq_1] at hS55; exact hS55.2)
    replace hl : lv_has ls 3 [(2, .int lx47), (0, .ref (q 134))] := hl
    replace hO51 : w50[134]? = (some (q 134, .inr (14, [.int t0_0, .ref (q 135), .int t0_1, .ref (q 136), .ref (q 137), .ref (q 138), .ref (q 139), .ref (q 140), .int t0_2, .long t0_3, .int t0_4, .int t0_5, .ref (q 141), .int t0_6, .ref (q 142), .int t0_7, .ref (q 143), .int t0_8, .ref (q 144), .int t0_9, .int t0_10])) : Option (Nat × va_E)) := hO51
    replace hO52 : w50[142]? = (some (q 142, .inl (g 0, (2200 : Int32).toNatClampNeg, .inl t1_0)) : Option (Nat × va_E)) := hO52
    replace hO53 : w50[143]? = (some (q 143, .inl (g 0, (2202 : Int32).toNatClampNeg, .inl lx48)) : Option (Nat × va_E)) := hO53
    refine lv_aload_n hx hb d_15_33_42 rfl (lv_at hl 1 rfl) ?_
    have ob59 : True ∧ S_DR_reaches t0_0 t0_1 t0_2 t0_3 t0_4 t0_5 t0_6 t0_7 t0_8 t0_9 t0_10 t1_0 lx48 := (by have h := hS55; rw [S_DR_nextFigure_L42.eq_2] at h; with_reducible exact h.2.1)
    refine q_goi V (q_runV (As := []) (rest := []) (d := 1) (mc := 0) (ms := 0) (ci := 14) C0 V rfl LV_DR_141 (X_DR_reaches l D g q w50   hI t0_0 t0_1 t0_2 t0_3 t0_4 t0_5 t0_6 t0_7 t0_8 t0_9 t0_10 hO51 t1_0 hO52 lx48 hO53 ob59 _) rfl rfl hO51 rfl hl.1 rfl (Nat.le_of_ble_eq_true rfl) ⟨by decide, by decide⟩ ⟨Nat.le_of_ble_eq_true rfl, Nat.le_of_ble_eq_true rfl⟩ d_15_33_43) (fun a62 u60 H locs hp61 V => ?_)
    obtain ⟨rfl, b63, b64, hE65⟩ := hp61
    have e66 : a62 = (F_DR_reaches t0_0 t0_1 t0_2 t0_3 t0_4 t0_5 t0_6 t0_7 t0_8 t0_9 t0_10 t1_0 lx48) := hE65
    clear b63
    clear b64
    refine lv_if_eq (tgt := 59) hx hb d_15_33_46 (by decide) (fun c67 => ?_) (fun c67 => ?_)
    ·
      refine lv_iload_n hx hb d_15_33_59 rfl (lv_at hl 0 rfl) ?_
      exact q_reti C0 V (⟨hI, hF, lx48, hO53, (show (lx47, lx48) = (F_DR_nextFigure x2 t0_0 t0_1 t0_2 t0_3 t0_4 t0_5 t0_6 t0_7 t0_8 t0_9 t0_10 t1_0 t2_0) from Eq.trans (by have c67x := c67; rw [e66] at c67x; rw [F_DR_nextFigure_L42.eq_2, if_pos c67x]) hR54)⟩) d_15_33_60
    ·
      refine lv_aload_n hx hb d_15_33_49 rfl (lv_at hl 1 rfl) ?_
      have ob70 : True ∧ S_DR_takeAway t0_0 t0_1 t0_2 t0_3 t0_4 t0_5 t0_6 t0_7 t0_8 t0_9 t0_10 t1_0 lx48 := (by have h := hS55; rw [S_DR_nextFigure_L42.eq_2] at h; replace h := q_s2 h; have c67x := c67; rw [e66] at c67x; rw [if_neg c67x] at h; with_reducible exact h.2.1)
      refine q_gov V (q_runV (As := []) (rest := []) (d := 1) (mc := 0) (ms := 0) (ci := 14) C0 V rfl LV_DR_144 (X_DR_takeAway l D g q w50   hI t0_0 t0_1 t0_2 t0_3 t0_4 t0_5 t0_6 t0_7 t0_8 t0_9 t0_10 hO51 t1_0 hO52 lx48 hO53 ob70 _) rfl rfl hO51 rfl hl.1 rfl (Nat.le_of_ble_eq_true rfl) ⟨by decide, by decide⟩ ⟨Nat.le_of_ble_eq_true rfl, Nat.le_of_ble_eq_true rfl⟩ d_15_33_50) (fun u71 H locs hp72 V => ?_)
      obtain ⟨hI, hu76, f73, hA74, hE75⟩ := hp72
      replace hA74 : u71[143]? = (some (q 143, .inl (g 0, (2202 : Int32).toNatClampNeg, .inl f73)) : Option (Nat × va_E)) := hA74
      have e77 : f73 = (F_DR_takeAway t0_0 t0_1 t0_2 t0_3 t0_4 t0_5 t0_6 t0_7 t0_8 t0_9 t0_10 t1_0 lx48) := hE75
      replace hO51 := (hu76 _ (by decide)).trans hO51
      replace hO52 := (hu76 _ (by decide)).trans hO52
      replace hF := q_uc hF hu76 (by simp)
      obtain ⟨a78, e79⟩ := q_nm (lx47 + 1 : Int32)
      refine lv_iinc (v := a78) (lv' := [(2, .int a78), (0, .ref (q 134))]) hx hb d_15_33_53 hl (k := 0) rfl (e79) (by decide) rfl (fun ls hl => ?_)
      refine lv_goto (tgt := 42) hx hb d_15_33_56 (by decide) ?_
      exact ih49 ((fm58 : Nat), (a78 : Int32), (f73 : (Nat → Int32))) _ _ _ _ (Nat.lt_succ_self _) ⟨V, q_lw hl (q_lw1 0 rfl (q_lw1 1 rfl q_lw0)), hI, hF, hO51, hO52, hA74, (show F_DR_nextFigure_L42 (F_DR_nextFigure_L2 x2 t0_0 t0_1 t0_2 t0_3 t0_4 t0_5 t0_6 t0_7 t0_8 t0_9 t0_10 t1_0 t2_0 fm37) x2 t0_0 t0_1 t0_2 t0_3 t0_4 t0_5 t0_6 t0_7 t0_8 t0_9 t0_10 t1_0 t2_0 lx24 lx25 fm58 a78 f73 = (F_DR_nextFigure x2 t0_0 t0_1 t0_2 t0_3 t0_4 t0_5 t0_6 t0_7 t0_8 t0_9 t0_10 t1_0 t2_0) from Eq.trans (by have c67x := c67; rw [e66] at c67x; rw [← e79, e77, F_DR_nextFigure_L42.eq_2, if_neg c67x]) hR54), (show True ∧ S_DR_nextFigure_L42 (S_DR_nextFigure_L2 x2 t0_0 t0_1 t0_2 t0_3 t0_4 t0_5 t0_6 t0_7 t0_8 t0_9 t0_10 t1_0 t2_0 fm37) x2 t0_0 t0_1 t0_2 t0_3 t0_4 t0_5 t0_6 t0_7 t0_8 t0_9 t0_10 t1_0 t2_0 lx24 lx25 fm58 a78 f73 from (by rw [← e79, e77]; have h := hS55; rw [S_DR_nextFigure_L42.eq_2] at h; replace h := q_s2 h; have c67x := c67; rw [e66] at c67x; rw [if_neg c67x] at h; replace h := q_s2 h; with_reducible exact h))⟩
  ·
    refine lv_aload_n hx hb d_15_33_10 rfl (lv_at hl 1 rfl) ?_
    refine q_get (ci := 14) (j := 16) (v := .ref (q 143)) C0 V i_DR rfl rfl hO30 (by decide) w_2019 rfl d_15_33_11 ?_
    refine lv_iload_n hx hb d_15_33_14 rfl (lv_at hl 0 rfl) ?_
    refine lv_aload_n hx hb d_15_33_15 rfl (lv_at hl 1 rfl) ?_
    refine q_get (ci := 14) (j := 16) (v := .ref (q 143)) C0 V i_DR rfl rfl hO30 (by decide) w_2019 rfl d_15_33_16 ?_
    refine lv_iload_n hx hb d_15_33_19 rfl (lv_at hl 0 rfl) ?_
    refine lv_iconst (v := 1) hx hb d_15_33_20 (by decide) ?_
    refine lv_iadd hx hb d_15_33_21 ?_
    obtain ⟨a81, e82⟩ := q_nm (lx24 + 1 : Int32)
    refine q_ti (v := a81) e82 ?_
    have b83 : q_F (a81.toInt = lx24.toInt + 1) := (by rw [← e82]; show (lx24 + 1 : Int32).toInt = lx24.toInt + 1; exact q_addI (x := lx24.toInt) (y := 1) rfl (by decide) (by have t1 : 0 ≤ lx24.toInt := i26; have t2 : lx24.toInt ≤ 4100 := i27; omega) (by have t1 : 0 ≤ lx24.toInt := i26; have t2 : lx24.toInt ≤ 4100 := i27; omega))
    have ob84 : q_F (a81.toInt ≤ 2201) := (by rw [← e82]; have h := hS34; rw [S_DR_nextFigure_L2.eq_2] at h; rw [if_neg c38] at h; exact h.2.1)
    refine q_iald C0 V hO32 (q_ix (x := a81.toInt) rfl (by have t1 : 0 ≤ lx24.toInt := i26; have t2 : a81.toInt = lx24.toInt + 1 := b83; omega) (by have t1 : 0 ≤ lx24.toInt := i26; have t2 : a81.toInt = lx24.toInt + 1 := b83; have t3 : a81.toInt ≤ 2201 := ob84; have e9 : (((2202 : Int32).toNatClampNeg : Nat) : Int) = 2202 := (by decide); omega)) d_15_33_22 ?_
    obtain ⟨a85, e86⟩ := q_nm (lx25 a81.toNatClampNeg : Int32)
    refine q_ti (v := a85) e86 ?_
    refine q_iast C0 V hO32 (q_ix (x := lx24.toInt) rfl (by first | with_reducible exact q_fe i26 | (have t1 : 0 ≤ lx24.toInt := i26; omega)) (by have t1 : 0 ≤ lx24.toInt := i26; have t2 : a81.toInt = lx24.toInt + 1 := b83; have t3 : a81.toInt ≤ 2201 := ob84; have e9 : (((2202 : Int32).toNatClampNeg : Nat) : Int) = 2202 := (by decide); omega)) d_15_33_23 (fun H locs w87 hu88 hO32 V => ?_)
    replace hI := n_ai' hI (n_r143 g q).1 hu88 hO32 (q_updB (fun _ => s_bnd) s_bnd)
    replace hO30 := (hu88 _ (by decide)).trans hO30
    replace hO31 := (hu88 _ (by decide)).trans hO31
    replace hF := q_us hF hu88 (by simp)
    obtain ⟨f89, e90⟩ := q_nm (upd lx25 lx24.toNatClampNeg a85 : (Nat → Int32))
    rw [e90] at hO32
    obtain ⟨a91, e92⟩ := q_nm (lx24 + 1 : Int32)
    have b93 : q_F (a91.toInt = lx24.toInt + 1) := (by rw [← e92]; exact q_addI (y := 1) rfl (by decide) (by have t1 : 0 ≤ lx24.toInt := i26; have t2 : lx24.toInt ≤ 4100 := i27; omega) (by have t1 : 0 ≤ lx24.toInt := i26; have t2 : lx24.toInt ≤ 4100 := i27; omega))
    refine lv_iinc (v := a91) (lv' := [(2, .int a91), (0, .ref (q 134)), (1, .int x2)]) hx hb d_15_33_24 hl (k := 0) rfl (e92) (by decide) rfl (fun ls hl => ?_)
    refine lv_goto (tgt := 2) hx hb d_15_33_27 (by decide) ?_
    exact ih28 ((a91 : Int32), (f89 : (Nat → Int32))) _ _ _ _ (show (4100 - a91.toInt).toNat < (4100 - lx24.toInt).toNat from by have t1 : a91.toInt = lx24.toInt + 1 := b93; have t2 : lx24.toInt ≤ 4100 := i27; have t3 : a81.toInt = lx24.toInt + 1 := b83; have t4 : a81.toInt ≤ 2201 := ob84; omega) ⟨(show q_F (0 ≤ a91.toInt) from (show 0 ≤ a91.toInt from by have t1 : 0 ≤ lx24.toInt := i26; have t2 : a91.toInt = lx24.toInt + 1 := b93; omega)), (show q_F (a91.toInt ≤ 4100) from (show a91.toInt ≤ 4100 from by have t1 : a81.toInt = lx24.toInt + 1 := b83; have t2 : a81.toInt ≤ 2201 := ob84; have t3 : a91.toInt = lx24.toInt + 1 := b93; omega)), V, q_lw hl (q_lw1 0 rfl (q_lw1 1 rfl (q_lw1 2 rfl q_lw0))), hI, hF, hO30, hO31, hO32, ⟨fm37, Nat.lt_of_lt_of_le (show (4100 - a91.toInt).toNat < (4100 - lx24.toInt).toNat from by have t1 : a91.toInt = lx24.toInt + 1 := b93; have t2 : lx24.toInt ≤ 4100 := i27; have t3 : a81.toInt = lx24.toInt + 1 := b83; have t4 : a81.toInt ≤ 2201 := ob84; omega) (Nat.le_of_lt_succ hf36), (show F_DR_nextFigure_L2 x2 t0_0 t0_1 t0_2 t0_3 t0_4 t0_5 t0_6 t0_7 t0_8 t0_9 t0_10 t1_0 t2_0 fm37 a91 f89 = (F_DR_nextFigure x2 t0_0 t0_1 t0_2 t0_3 t0_4 t0_5 t0_6 t0_7 t0_8 t0_9 t0_10 t1_0 t2_0) from Eq.trans (by rw [← e92, ← e90, ← e86, ← e82, F_DR_nextFigure_L2.eq_2, if_neg c38]) hR33), (show True ∧ S_DR_nextFigure_L2 x2 t0_0 t0_1 t0_2 t0_3 t0_4 t0_5 t0_6 t0_7 t0_8 t0_9 t0_10 t1_0 t2_0 fm37 a91 f89 from (by rw [← e92, ← e90, ← e86, ← e82]; have h := hS34; rw [S_DR_nextFigure_L2.eq_2] at h; rw [if_neg c38] at h; replace h := q_s2 h; with_reducible exact h))⟩⟩

