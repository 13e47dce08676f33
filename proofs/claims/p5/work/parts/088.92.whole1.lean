/-! WholeRows, exactly -/
theorem d_19_15_0 : decode prog_19_method_15_code 0 = .ok (.aload_n 0, 1) := by decide +kernel
theorem d_19_15_1 : decode prog_19_method_15_code 1 = .ok (.getfield 20, 3) := by decide +kernel
theorem d_19_15_4 : decode prog_19_method_15_code 4 = .ok (.invokestatic 59, 3) := by decide +kernel
theorem d_19_15_7 : decode prog_19_method_15_code 7 = .ok (.sipush 128, 3) := by decide +kernel
theorem d_19_15_10 : decode prog_19_method_15_code 10 = .ok (.if_icmp .le 12, 3) := by decide +kernel
theorem d_19_15_22 : decode prog_19_method_15_code 22 = .ok (.iconst 0, 1) := by decide +kernel
theorem d_19_15_23 : decode prog_19_method_15_code 23 = .ok (.istore_n 2, 1) := by decide +kernel
theorem d_19_15_24 : decode prog_19_method_15_code 24 = .ok (.iconst 0, 1) := by decide +kernel
theorem d_19_15_25 : decode prog_19_method_15_code 25 = .ok (.istore_n 3, 1) := by decide +kernel
theorem d_19_15_26 : decode prog_19_method_15_code 26 = .ok (.iload_n 3, 1) := by decide +kernel
theorem d_19_15_27 : decode prog_19_method_15_code 27 = .ok (.sipush 128, 3) := by decide +kernel
theorem d_19_15_30 : decode prog_19_method_15_code 30 = .ok (.if_icmp .ge 46, 3) := by decide +kernel
theorem d_19_15_76 : decode prog_19_method_15_code 76 = .ok (.aload_n 0, 1) := by decide +kernel
theorem d_19_15_77 : decode prog_19_method_15_code 77 = .ok (.getfield 16, 3) := by decide +kernel
theorem d_19_15_80 : decode prog_19_method_15_code 80 = .ok (.iload_n 1, 1) := by decide +kernel
theorem d_19_15_81 : decode prog_19_method_15_code 81 = .ok (.aload_n 0, 1) := by decide +kernel
theorem d_19_15_82 : decode prog_19_method_15_code 82 = .ok (.getfield 82, 3) := by decide +kernel
set_option maxRecDepth 100000 in
theorem w_1931 : (Cond.fieldLink "NumberHouseModel$WholeRows" (82 : Nat) "NumberHouseModel$WholeRows" "below" "Z") ∈ q_tbl := q_of9 11 rfl (by decide +kernel)
theorem d_19_15_85 : decode prog_19_method_15_code 85 = .ok (.ifCond .eq 11, 3) := by decide +kernel
theorem d_19_15_96 : decode prog_19_method_15_code 96 = .ok (.iconst 0, 1) := by decide +kernel
theorem d_19_15_97 : decode prog_19_method_15_code 97 = .ok (.bastore, 1) := by decide +kernel
theorem d_19_15_98 : decode prog_19_method_15_code 98 = .ok (.return_, 1) := by decide +kernel
theorem d_19_15_88 : decode prog_19_method_15_code 88 = .ok (.iload_n 2, 1) := by decide +kernel
theorem d_19_15_89 : decode prog_19_method_15_code 89 = .ok (.ifCond .eq 7, 3) := by decide +kernel
theorem d_19_15_92 : decode prog_19_method_15_code 92 = .ok (.iconst 1, 1) := by decide +kernel
theorem d_19_15_93 : decode prog_19_method_15_code 93 = .ok (.goto 4, 3) := by decide +kernel
theorem d_19_15_33 : decode prog_19_method_15_code 33 = .ok (.aload_n 0, 1) := by decide +kernel
theorem d_19_15_34 : decode prog_19_method_15_code 34 = .ok (.getfield 13, 3) := by decide +kernel
theorem d_19_15_37 : decode prog_19_method_15_code 37 = .ok (.sipush 128, 3) := by decide +kernel
theorem d_19_15_40 : decode prog_19_method_15_code 40 = .ok (.iload_n 1, 1) := by decide +kernel
theorem d_19_15_41 : decode prog_19_method_15_code 41 = .ok (.imul, 1) := by decide +kernel
theorem d_19_15_42 : decode prog_19_method_15_code 42 = .ok (.iload_n 3, 1) := by decide +kernel
theorem d_19_15_43 : decode prog_19_method_15_code 43 = .ok (.iadd, 1) := by decide +kernel
theorem d_19_15_44 : decode prog_19_method_15_code 44 = .ok (.aload_n 0, 1) := by decide +kernel
theorem d_19_15_45 : decode prog_19_method_15_code 45 = .ok (.getfield 20, 3) := by decide +kernel
theorem d_19_15_48 : decode prog_19_method_15_code 48 = .ok (.iload_n 3, 1) := by decide +kernel
theorem d_19_15_49 : decode prog_19_method_15_code 49 = .ok (.iaload, 1) := by decide +kernel
theorem d_19_15_50 : decode prog_19_method_15_code 50 = .ok (.iastore, 1) := by decide +kernel
theorem d_19_15_51 : decode prog_19_method_15_code 51 = .ok (.iload_n 2, 1) := by decide +kernel
theorem d_19_15_52 : decode prog_19_method_15_code 52 = .ok (.ifCond .ne 12, 3) := by decide +kernel
theorem d_19_15_64 : decode prog_19_method_15_code 64 = .ok (.iconst 1, 1) := by decide +kernel
theorem d_19_15_65 : decode prog_19_method_15_code 65 = .ok (.goto 4, 3) := by decide +kernel
theorem d_19_15_69 : decode prog_19_method_15_code 69 = .ok (.istore_n 2, 1) := by decide +kernel
theorem d_19_15_70 : decode prog_19_method_15_code 70 = .ok (.iinc 3 1, 3) := by decide +kernel
theorem d_19_15_73 : decode prog_19_method_15_code 73 = .ok (.goto (-47), 3) := by decide +kernel
theorem d_19_15_55 : decode prog_19_method_15_code 55 = .ok (.aload_n 0, 1) := by decide +kernel
theorem d_19_15_56 : decode prog_19_method_15_code 56 = .ok (.getfield 20, 3) := by decide +kernel
theorem d_19_15_59 : decode prog_19_method_15_code 59 = .ok (.iload_n 3, 1) := by decide +kernel
theorem d_19_15_60 : decode prog_19_method_15_code 60 = .ok (.iaload, 1) := by decide +kernel
theorem d_19_15_61 : decode prog_19_method_15_code 61 = .ok (.ifCond .eq 7, 3) := by decide +kernel
theorem d_19_15_68 : decode prog_19_method_15_code 68 = .ok (.iconst 0, 1) := by decide +kernel
theorem d_19_15_13 : decode prog_19_method_15_code 13 = .ok (.aload_n 0, 1) := by decide +kernel
theorem d_19_15_14 : decode prog_19_method_15_code 14 = .ok (.aload_n 0, 1) := by decide +kernel
theorem d_19_15_15 : decode prog_19_method_15_code 15 = .ok (.getfield 79, 3) := by decide +kernel
set_option maxRecDepth 100000 in
theorem w_1923 : (Cond.fieldLink "NumberHouseModel$WholeRows" (79 : Nat) "NumberHouseModel$WholeRows" "fault" "I") ∈ q_tbl := q_of9 3 rfl (by decide +kernel)
theorem d_19_15_18 : decode prog_19_method_15_code 18 = .ok (.putfield 53, 3) := by decide +kernel
set_option maxRecDepth 100000 in
theorem w_1921 : (Cond.fieldLink "NumberHouseModel$WholeRows" (53 : Nat) "NumberHouseModel$WholeRows" "thrown" "I") ∈ q_tbl := q_of9 1 rfl (by decide +kernel)
theorem d_19_15_21 : decode prog_19_method_15_code 21 = .ok (.return_, 1) := by decide +kernel
def y_WR_store : MethodName := ⟨"NumberHouseModel$WholeRows", "store", "(I)V"⟩
def F_WR_store_L26 (x2 : Int32) (t0_0 : Int32) (t0_1 : Int32) (t0_2 : Int32) (t0_3 : Int32) (t0_4 : Int32) (t0_5 : Int32) (t0_6 : Int32) (t1_0 : (Nat → Int32)) (t2_0 : (Nat → Int32)) (t3_0 : (Nat → Int32)) : Nat → Int32 → Int32 → (Nat → Int32) → (Int32 × Int32 × Int32 × Int32 × Int32 × Int32 × Int32 × (Nat → Int32) × (Nat → Int32))
  | 0, _, _, _ => default
  | fm + 1, lx34, lx35, lx36 => if (128 : Int32) ≤ lx34 then (if t0_3 = (0 : Int32) then ((t0_0, t0_1, t0_2, t0_3, t0_4, t0_5, t0_6, lx36, (upd t2_0 x2.toNatClampNeg (vp_nar .boolean 0) : (Nat → Int32)))) else (if lx35 = (0 : Int32) then ((t0_0, t0_1, t0_2, t0_3, t0_4, t0_5, t0_6, lx36, (upd t2_0 x2.toNatClampNeg (vp_nar .boolean 0) : (Nat → Int32)))) else ((t0_0, t0_1, t0_2, t0_3, t0_4, t0_5, t0_6, lx36, (upd t2_0 x2.toNatClampNeg (vp_nar .boolean 1) : (Nat → Int32)))))) else (if lx35 = (0 : Int32) then (if (t3_0 lx34.toNatClampNeg : Int32) = (0 : Int32) then (F_WR_store_L26 x2 t0_0 t0_1 t0_2 t0_3 t0_4 t0_5 t0_6 t1_0 t2_0 t3_0 fm (lx34 + 1 : Int32) 0 (upd lx36 ((128 * x2 : Int32) + lx34 : Int32).toNatClampNeg (t3_0 lx34.toNatClampNeg : Int32) : (Nat → Int32))) else (F_WR_store_L26 x2 t0_0 t0_1 t0_2 t0_3 t0_4 t0_5 t0_6 t1_0 t2_0 t3_0 fm (lx34 + 1 : Int32) 1 (upd lx36 ((128 * x2 : Int32) + lx34 : Int32).toNatClampNeg (t3_0 lx34.toNatClampNeg : Int32) : (Nat → Int32)))) else (F_WR_store_L26 x2 t0_0 t0_1 t0_2 t0_3 t0_4 t0_5 t0_6 t1_0 t2_0 t3_0 fm (lx34 + 1 : Int32) 1 (upd lx36 ((128 * x2 : Int32) + lx34 : Int32).toNatClampNeg (t3_0 lx34.toNatClampNeg : Int32) : (Nat → Int32))))
def F_WR_store (x2 : Int32) (t0_0 : Int32) (t0_1 : Int32) (t0_2 : Int32) (t0_3 : Int32) (t0_4 : Int32) (t0_5 : Int32) (t0_6 : Int32) (t1_0 : (Nat → Int32)) (t2_0 : (Nat → Int32)) (t3_0 : (Nat → Int32)) : Int32 × Int32 × Int32 × Int32 × Int32 × Int32 × Int32 × (Nat → Int32) × (Nat → Int32) := if ((F_WR_size (264 : Int32) t3_0) : Int32) ≤ (128 : Int32) then (F_WR_store_L26 x2 t0_0 t0_1 t0_2 t0_3 t0_4 t0_5 t0_6 t1_0 t2_0 t3_0 ((128 - (0 : Int32).toInt).toNat + 1) 0 0 t1_0) else ((t0_1, t0_1, t0_2, t0_3, t0_4, t0_5, t0_6, t1_0, t2_0))
def S_WR_store_L26 (x2 : Int32) (t0_0 : Int32) (t0_1 : Int32) (t0_2 : Int32) (t0_3 : Int32) (t0_4 : Int32) (t0_5 : Int32) (t0_6 : Int32) (t1_0 : (Nat → Int32)) (t2_0 : (Nat → Int32)) (t3_0 : (Nat → Int32)) : Nat → Int32 → Int32 → (Nat → Int32) → Prop
  | 0, _, _, _ => False
  | fm + 1, lx34, lx35, lx36 => if (128 : Int32) ≤ lx34 then (if t0_3 = (0 : Int32) then ((0 ≤ x2.toInt) ∧ ((x2.toInt ≤ 10) ∧ (True))) else (if lx35 = (0 : Int32) then ((0 ≤ x2.toInt) ∧ ((x2.toInt ≤ 10) ∧ (True))) else ((0 ≤ x2.toInt) ∧ ((x2.toInt ≤ 10) ∧ (True))))) else ((0 ≤ ((128 * x2 : Int32) + lx34 : Int32).toInt) ∧ ((((128 * x2 : Int32) + lx34 : Int32).toInt ≤ 1407) ∧ (if lx35 = (0 : Int32) then (if (t3_0 lx34.toNatClampNeg : Int32) = (0 : Int32) then (S_WR_store_L26 x2 t0_0 t0_1 t0_2 t0_3 t0_4 t0_5 t0_6 t1_0 t2_0 t3_0 fm (lx34 + 1 : Int32) 0 (upd lx36 ((128 * x2 : Int32) + lx34 : Int32).toNatClampNeg (t3_0 lx34.toNatClampNeg : Int32) : (Nat → Int32))) else (S_WR_store_L26 x2 t0_0 t0_1 t0_2 t0_3 t0_4 t0_5 t0_6 t1_0 t2_0 t3_0 fm (lx34 + 1 : Int32) 1 (upd lx36 ((128 * x2 : Int32) + lx34 : Int32).toNatClampNeg (t3_0 lx34.toNatClampNeg : Int32) : (Nat → Int32)))) else (S_WR_store_L26 x2 t0_0 t0_1 t0_2 t0_3 t0_4 t0_5 t0_6 t1_0 t2_0 t3_0 fm (lx34 + 1 : Int32) 1 (upd lx36 ((128 * x2 : Int32) + lx34 : Int32).toNatClampNeg (t3_0 lx34.toNatClampNeg : Int32) : (Nat → Int32))))))
def S_WR_store (x2 : Int32) (t0_0 : Int32) (t0_1 : Int32) (t0_2 : Int32) (t0_3 : Int32) (t0_4 : Int32) (t0_5 : Int32) (t0_6 : Int32) (t1_0 : (Nat → Int32)) (t2_0 : (Nat → Int32)) (t3_0 : (Nat → Int32)) : Prop := if ((F_WR_size (264 : Int32) t3_0) : Int32) ≤ (128 : Int32) then (S_WR_store_L26 x2 t0_0 t0_1 t0_2 t0_3 t0_4 t0_5 t0_6 t1_0 t2_0 t3_0 ((128 - (0 : Int32).toInt).toNat + 1) 0 0 t1_0) else (True)
set_option maxRecDepth 100000 in
set_option maxHeartbeats 4000000 in
theorem X_WR_store (l : Launch) (D : va_G) (g : Nat → ClassId) (q : Nat → Nat) (ws : va_W) (x2 : Int32) (hI : q_I (msh g q) q ws) (t0_0 : Int32) (t0_1 : Int32) (t0_2 : Int32) (t0_3 : Int32) (t0_4 : Int32) (t0_5 : Int32) (t0_6 : Int32) (hT0 : ws[119]? = (some (q 119, .inr (13, [.int t0_0, .int t0_1, .ref (q 120), .int t0_2, .ref (q 121), .ref (q 122), .ref (q 123), .int t0_3, .ref (q 124), .ref (q 125), .ref (q 126), .ref (q 127), .ref (q 128), .ref (q 129), .ref (q 130), .ref (q 131), .int t0_4, .int t0_5, .ref (q 132), .ref (q 133), .int t0_6])) : Option (Nat × va_E))) (t1_0 : (Nat → Int32)) (hT1 : ws[121]? = (some (q 121, .inl (g 0, (1408 : Int32).toNatClampNeg, .inl t1_0)) : Option (Nat × va_E))) (t2_0 : (Nat → Int32)) (hT2 : ws[122]? = (some (q 122, .inl (g 3, 11, .inl t2_0)) : Option (Nat × va_E))) (t3_0 : (Nat → Int32)) (hT3 : ws[123]? = (some (q 123, .inl (g 0, (264 : Int32).toNatClampNeg, .inl t3_0)) : Option (Nat × va_E))) (hS : True ∧ S_WR_store x2 t0_0 t0_1 t0_2 t0_3 t0_4 t0_5 t0_6 t1_0 t2_0 t3_0) : q_mV l y_WR_store prog_19_method_15_code 4 2 0 0 D g [.ref (q 119), .int x2] ws (fun u => q_I (msh g q) q u ∧ q_un ws u [119, 121, 122] ∧ ∃ (u0_0 : Int32) (u0_1 : Int32) (u0_2 : Int32) (u0_3 : Int32) (u0_4 : Int32) (u0_5 : Int32) (u0_6 : Int32) (u1_0 : (Nat → Int32)) (u2_0 : (Nat → Int32)), u[119]? = (some (q 119, .inr (13, [.int u0_0, .int u0_1, .ref (q 120), .int u0_2, .ref (q 121), .ref (q 122), .ref (q 123), .int u0_3, .ref (q 124), .ref (q 125), .ref (q 126), .ref (q 127), .ref (q 128), .ref (q 129), .ref (q 130), .ref (q 131), .int u0_4, .int u0_5, .ref (q 132), .ref (q 133), .int u0_6])) : Option (Nat × va_E)) ∧ u[121]? = (some (q 121, .inl (g 0, (1408 : Int32).toNatClampNeg, .inl u1_0)) : Option (Nat × va_E)) ∧ u[122]? = (some (q 122, .inl (g 3, 11, .inl u2_0)) : Option (Nat × va_E)) ∧ (t0_1.toInt ≤ u0_1.toInt) ∧ (u0_1.toInt ≤ t0_1.toInt) ∧ (t0_2.toInt ≤ u0_2.toInt) ∧ (u0_2.toInt ≤ t0_2.toInt) ∧ (t0_3.toInt ≤ u0_3.toInt) ∧ (u0_3.toInt ≤ t0_3.toInt) ∧ (t0_4.toInt ≤ u0_4.toInt) ∧ (u0_4.toInt ≤ t0_4.toInt) ∧ (t0_5.toInt ≤ u0_5.toInt) ∧ (u0_5.toInt ≤ t0_5.toInt) ∧ (t0_6.toInt ≤ u0_6.toInt) ∧ (u0_6.toInt ≤ t0_6.toInt) ∧ (u0_0, u0_1, u0_2, u0_3, u0_4, u0_5, u0_6, u1_0, u2_0) = (F_WR_store x2 t0_0 t0_1 t0_2 t0_3 t0_4 t0_5 t0_6 t1_0 t2_0 t3_0)) := by
  intro sz
  refine q_into (by decide) (Nat.le_of_ble_eq_true rfl) ?_
  intro p e s m below meth c ls hsz C0 V hl
  have hx := C0.1
  have hb := C0.2.1
  obtain ⟨btt0_2, hZ9⟩ := n_w119 hI hT0
  obtain ⟨btt0_3, hZ9⟩ := hZ9
  obtain ⟨btt0_4, hZ9⟩ := hZ9
  obtain ⟨btt0_5, btt0_6⟩ := hZ9
  replace btt0_2 : q_F (0 ≤ t0_2.toInt ∧ t0_2.toInt ≤ 4100) := btt0_2
  replace btt0_3 : q_F (0 ≤ t0_3.toInt ∧ t0_3.toInt ≤ 1) := btt0_3
  replace btt0_4 : q_F (0 ≤ t0_4.toInt ∧ t0_4.toInt ≤ 1) := btt0_4
  replace btt0_5 : q_F (0 ≤ t0_5.toInt ∧ t0_5.toInt ≤ 1) := btt0_5
  replace btt0_6 : q_F (0 ≤ t0_6.toInt ∧ t0_6.toInt ≤ 2100) := btt0_6
  have hF : q_un ws ws [119, 121, 122] := q_u0
  have hl : lv_has ls 4 [(0, .ref (q 119)), (1, .int x2)] := hl
  refine lv_aload_n hx hb d_19_15_0 rfl (lv_at hl 0 rfl) ?_
  refine q_get (ci := 13) (j := 6) (v := .ref (q 123)) C0 V i_WR rfl rfl hT0 (by decide) w_1930 rfl d_19_15_1 ?_
  refine q_goi V (q_runS (As := [.ref (q 123)]) (rest := []) (d := 1) (mc := 0) (ms := 0) C0 V rfl LS_WR_59 (X_WR_size l D g q ws 123 264 (n_r123 g q)  hI t3_0 hT3  _) rfl hl.1 rfl (Nat.le_of_ble_eq_true rfl) ⟨by decide, by decide⟩ ⟨Nat.le_of_ble_eq_true rfl, Nat.le_of_ble_eq_true rfl⟩ d_19_15_4) (fun a25 u23 H locs hp24 V => ?_)
  obtain ⟨rfl, b26, b27, hE28⟩ := hp24
  have e29 : a25 = (F_WR_size (264 : Int32) t3_0) := hE28
  clear b26
  clear b27
  refine lv_sipush (v := 128) hx hb d_19_15_7 (by decide) ?_
  refine lv_icmp_le (tgt := 22) hx hb d_19_15_10 (by decide) (fun c30 => ?_) (fun c30 => ?_)
  ·
    refine lv_iconst (v := 0) hx hb d_19_15_22 (by decide) ?_
    refine lv_istore_n (lv' := [(2, .int 0), (0, .ref (q 119)), (1, .int x2)]) hx hb d_19_15_23 rfl hl (by decide) rfl (fun ls hl => ?_)
    refine lv_iconst (v := 0) hx hb d_19_15_24 (by decide) ?_
    refine lv_istore_n (lv' := [(3, .int 0), (2, .int 0), (0, .ref (q 119)), (1, .int x2)]) hx hb d_19_15_25 rfl hl (by decide) rfl (fun ls hl => ?_)
    refine q_loop (X := Int32 × Int32 × (Nat → Int32)) (fun z H locs ls w42 => q_F (z.1.toInt ≤ 128) ∧ q_F (0 ≤ z.2.1.toInt) ∧ q_F (z.2.1.toInt ≤ 1) ∧ q_F (z.2.1.toInt ≤ z.1.toInt) ∧ q_Wd D g (va_A ws sz) s w42 H locs ∧ lv_has ls 4 [(3, .int z.1), (2, .int z.2.1), (0, .ref (q 119)), (1, .int x2)] ∧ q_I (msh g q) q w42 ∧ q_un ws w42 [119, 121, 122] ∧ w42[119]? = (some (q 119, .inr (13, [.int t0_0, .int t0_1, .ref (q 120), .int t0_2, .ref (q 121), .ref (q 122), .ref (q 123), .int t0_3, .ref (q 124), .ref (q 125), .ref (q 126), .ref (q 127), .ref (q 128), .ref (q 129), .ref (q 130), .ref (q 131), .int t0_4, .int t0_5, .ref (q 132), .ref (q 133), .int t0_6])) : Option (Nat × va_E)) ∧ w42[121]? = (some (q 121, .inl (g 0, (1408 : Int32).toNatClampNeg, .inl z.2.2)) : Option (Nat × va_E)) ∧ w42[122]? = (some (q 122, .inl (g 3, 11, .inl t2_0)) : Option (Nat × va_E)) ∧ w42[123]? = (some (q 123, .inl (g 0, (264 : Int32).toNatClampNeg, .inl t3_0)) : Option (Nat × va_E)) ∧ (∃ n, (128 - z.1.toInt).toNat < n ∧ F_WR_store_L26 x2 t0_0 t0_1 t0_2 t0_3 t0_4 t0_5 t0_6 t1_0 t2_0 t3_0 n z.1 z.2.1 z.2.2 = (F_WR_store x2 t0_0 t0_1 t0_2 t0_3 t0_4 t0_5 t0_6 t1_0 t2_0 t3_0) ∧ True ∧ S_WR_store_L26 x2 t0_0 t0_1 t0_2 t0_3 t0_4 t0_5 t0_6 t1_0 t2_0 t3_0 n z.1 z.2.1 z.2.2)) (fun z => (128 - z.1.toInt).toNat) ?_ ((0 : Int32), (0 : Int32), (t1_0 : (Nat → Int32))) _ _ _ ws ⟨(show q_F (0 ≤ 128) from (show 0 ≤ 128 from by omega)), (show q_F (0 ≤ 0) from (show 0 ≤ 0 from by omega)), (show q_F (0 ≤ 1) from (show 0 ≤ 1 from by omega)), (show q_F (0 ≤ 0) from (show 0 ≤ 0 from by omega)), V, q_lw hl (q_lw1 0 rfl (q_lw1 1 rfl (q_lw1 2 rfl (q_lw1 3 rfl q_lw0)))), hI, hF, hT0, hT1, hT2, hT3, ⟨((128 - (0 : Int32).toInt).toNat + 1), Nat.lt_succ_self _, (show F_WR_store_L26 x2 t0_0 t0_1 t0_2 t0_3 t0_4 t0_5 t0_6 t1_0 t2_0 t3_0 ((128 - (0 : Int32).toInt).toNat + 1) 0 0 t1_0 = (F_WR_store x2 t0_0 t0_1 t0_2 t0_3 t0_4 t0_5 t0_6 t1_0 t2_0 t3_0) from (by have c30x := c30; rw [e29] at c30x; rw [F_WR_store.eq_1, if_pos c30x])), (show True ∧ S_WR_store_L26 x2 t0_0 t0_1 t0_2 t0_3 t0_4 t0_5 t0_6 t1_0 t2_0 t3_0 ((128 - (0 : Int32).toInt).toNat + 1) 0 0 t1_0 from (by have h := hS; rw [S_WR_store.eq_1] at h; have c30x := c30; rw [e29] at c30x; rw [if_pos c30x] at h; with_reducible exact h))⟩⟩
    rintro ⟨lx34, lx35, lx36⟩ H locs ls w42 ⟨i37, i38, i39, i40, V, hl, hI, hF, hO43, hO44, hO45, hO46, ⟨fu49, hf50, hR47, hS48⟩⟩ ih41
    obtain ⟨fm51, rfl⟩ : ∃ m, fu49 = m + 1 := ⟨fu49 - 1, by omega⟩
    replace i37 : q_F (lx34.toInt ≤ 128) := i37
    replace i38 : q_F (0 ≤ lx35.toInt) := i38
    clear i39
    replace i40 : q_F (lx35.toInt ≤ lx34.toInt) := i40
    replace hl : lv_has ls 4 [(3, .int lx34), (2, .int lx35), (0, .ref (q 119)), (1, .int x2)] := hl
    replace hO43 : w42[119]? = (some (q 119, .inr (13, [.int t0_0, .int t0_1, .ref (q 120), .int t0_2, .ref (q 121), .ref (q 122), .ref (q 123), .int t0_3, .ref (q 124), .ref (q 125), .ref (q 126), .ref (q 127), .ref (q 128), .ref (q 129), .ref (q 130), .ref (q 131), .int t0_4, .int t0_5, .ref (q 132), .ref (q 133), .int t0_6])) : Option (Nat × va_E)) := hO43
    replace hO44 : w42[121]? = (some (q 121, .inl (g 0, (1408 : Int32).toNatClampNeg, .inl lx36)) : Option (Nat × va_E)) := hO44
    replace hO45 : w42[122]? = (some (q 122, .inl (g 3, 11, .inl t2_0)) : Option (Nat × va_E)) := hO45
    replace hO46 : w42[123]? = (some (q 123, .inl (g 0, (264 : Int32).toNatClampNeg, .inl t3_0)) : Option (Nat × va_E)) := hO46
    refine lv_iload_n hx hb d_19_15_26 rfl (lv_at hl 0 rfl) ?_
    refine lv_sipush (v := 128) hx hb d_19_15_27 (by decide) ?_
    refine lv_icmp_ge (tgt := 76) hx hb d_19_15_30 (by decide) (fun c52 => ?_) (fun c52 => ?_)
    ·
      refine lv_aload_n hx hb d_19_15_76 rfl (lv_at hl 2 rfl) ?_
      refine q_get (ci := 13) (j := 5) (v := .ref (q 122)) C0 V i_WR rfl rfl hO43 (by decide) w_1929 rfl d_19_15_77 ?_
      refine lv_iload_n hx hb d_19_15_80 rfl (lv_at hl 3 rfl) ?_
      refine lv_aload_n hx hb d_19_15_81 rfl (lv_at hl 2 rfl) ?_
      refine q_get (ci := 13) (j := 7) (v := .int t0_3) C0 V i_WR rfl rfl hO43 (by decide) w_1931 rfl d_19_15_82 ?_
      refine lv_if_eq (tgt := 96) hx hb d_19_15_85 (by decide) (fun c54 => ?_) (fun c54 => ?_)
      ·
        refine lv_iconst (v := 0) hx hb d_19_15_96 (by decide) ?_
        have ob56 : q_F (0 ≤ x2.toInt) := (by have h := hS48; rw [S_WR_store_L26.eq_2] at h; rw [if_pos c52] at h; rw [if_pos c54] at h; exact h.2.1)
        have ob57 : q_F (x2.toInt ≤ 10) := (by have h := hS48; rw [S_WR_store_L26.eq_2] at h; rw [if_pos c52] at h; rw [if_pos c54] at h; replace h := q_s2 h; exact h.2.1)
        refine q_zast C0 V hO45 (q_ix (x := x2.toInt) rfl (by first | with_reducible exact q_fe ob56 | (have t1 : 0 ≤ x2.toInt := ob56; omega)) (by have t1 : 0 ≤ x2.toInt := ob56; have t2 : x2.toInt ≤ 10 := ob57; omega)) d_19_15_97 (fun H locs w58 hu59 hO45 V => ?_)
        replace hI := n_ai' hI (n_s122 g q) hu59 hO45 (q_updB (fun _ => s_bnd) s_bnd)
        replace hO43 := (hu59 _ (by decide)).trans hO43
        replace hO44 := (hu59 _ (by decide)).trans hO44
        replace hF := q_us hF hu59 (by simp)
        obtain ⟨f60, e61⟩ := q_nm (upd t2_0 x2.toNatClampNeg (vp_nar .boolean 0) : (Nat → Int32))
        rw [e61] at hO45
        exact q_retv C0 V (⟨hI, hF, t0_0, t0_1, t0_2, t0_3, t0_4, t0_5, t0_6, lx36, f60, hO43, hO44, hO45, (show t0_1.toInt ≤ t0_1.toInt from (by omega)), (show t0_1.toInt ≤ t0_1.toInt from (by omega)), (show t0_2.toInt ≤ t0_2.toInt from (by omega)), (show t0_2.toInt ≤ t0_2.toInt from (by omega)), (show t0_3.toInt ≤ t0_3.toInt from (by omega)), (show t0_3.toInt ≤ t0_3.toInt from (by omega)), (show t0_4.toInt ≤ t0_4.toInt from (by omega)), (show t0_4.toInt ≤ t0_4.toInt from (by omega)), (show t0_5.toInt ≤ t0_5.toInt from (by omega)), (show t0_5.toInt ≤ t0_5.toInt from (by omega)), (show t0_6.toInt ≤ t0_6.toInt from (by omega)), (show t0_6.toInt ≤ t0_6.toInt from (by omega)), (show (t0_0, t0_1, t0_2, t0_3, t0_4, t0_5, t0_6, lx36, f60) = (F_WR_store x2 t0_0 t0_1 t0_2 t0_3 t0_4 t0_5 t0_6 t1_0 t2_0 t3_0) from Eq.trans (by rw [← e61, F_WR_store_L26.eq_2, if_pos c52, if_pos c54]) hR47)⟩) d_19_15_98
      ·
        refine lv_iload_n hx hb d_19_15_88 rfl (lv_at hl 1 rfl) ?_
        refine lv_if_eq (tgt := 96) hx hb d_19_15_89 (by decide) (fun c63 => ?_) (fun c63 => ?_)
        ·
          refine lv_iconst (v := 0) hx hb d_19_15_96 (by decide) ?_
          have ob65 : q_F (0 ≤ x2.toInt) := (by have h := hS48; rw [S_WR_store_L26.eq_2] at h; rw [if_pos c52] at h; rw [if_neg c54] at h; rw [if_pos c63] at h; exact h.2.1)
          have ob66 : q_F (x2.toInt ≤ 10) := (by have h := hS48; rw [S_WR_store_L26.eq_2] at h; rw [if_pos c52] at h; rw [if_neg c54] at h; rw [if_pos c63] at h; replace h := q_s2 h; exact h.2.1)
          refine q_zast C0 V hO45 (q_ix (x := x2.toInt) rfl (by first | with_reducible exact q_fe ob65 | (have t1 : 0 ≤ x2.toInt := ob65; omega)) (by have t1 : 0 ≤ x2.toInt := ob65; have t2 : x2.toInt ≤ 10 := ob66; omega)) d_19_15_97 (fun H locs w67 hu68 hO45 V => ?_)
          replace hI := n_ai' hI (n_s122 g q) hu68 hO45 (q_updB (fun _ => s_bnd) s_bnd)
          replace hO43 := (hu68 _ (by decide)).trans hO43
          replace hO44 := (hu68 _ (by decide)).trans hO44
          replace hF := q_us hF hu68 (by simp)
          obtain ⟨f69, e70⟩ := q_nm (upd t2_0 x2.toNatClampNeg (vp_nar .boolean 0) : (Nat → Int32))
          rw [e70] at hO45
          exact q_retv C0 V (⟨hI, hF, t0_0, t0_1, t0_2, t0_3, t0_4, t0_5, t0_6, lx36, f69, hO43, hO44, hO45, (show t0_1.toInt ≤ t0_1.toInt from (by omega)), (show t0_1.toInt ≤ t0_1.toInt from (by omega)), (show t0_2.toInt ≤ t0_2.toInt from (by omega)), (show t0_2.toInt ≤ t0_2.toInt from (by omega)), (show t0_3.toInt ≤ t0_3.toInt from (by omega)), (show t0_3.toInt ≤ t0_3.toInt from (by omega)), (show t0_4.toInt ≤ t0_4.toInt from (by omega)), (show t0_4.toInt ≤ t0_4.toInt from (by omega)), (show t0_5.toInt ≤ t0_5.toInt from (by omega)), (show t0_5.toInt ≤ t0_5.toInt from (by omega)), (show t0_6.toInt ≤ t0_6.toInt from (by omega)), (show t0_6.toInt ≤ t0_6.toInt from (by omega)), (show (t0_0, t0_1, t0_2, t0_3, t0_4, t0_5, t0_6, lx36, f69) = (F_WR_store x2 t0_0 t0_1 t0_2 t0_3 t0_4 t0_5 t0_6 t1_0 t2_0 t3_0) from Eq.trans (by rw [← e70, F_WR_store_L26.eq_2, if_pos c52, if_neg c54, if_pos c63]) hR47)⟩) d_19_15_98
        ·
          refine lv_iconst (v := 1) hx hb d_19_15_92 (by decide) ?_
          refine lv_goto (tgt := 97) hx hb d_19_15_93 (by decide) ?_
          have ob72 : q_F (0 ≤ x2.toInt) := (by have h := hS48; rw [S_WR_store_L26.eq_2] at h; rw [if_pos c52] at h; rw [if_neg c54] at h; rw [if_neg c63] at h; exact h.2.1)
          have ob73 : q_F (x2.toInt ≤ 10) := (by have h := hS48; rw [S_WR_store_L26.eq_2] at h; rw [if_pos c52] at h; rw [if_neg c54] at h; rw [if_neg c63] at h; replace h := q_s2 h; exact h.2.1)
          refine q_zast C0 V hO45 (q_ix (x := x2.toInt) rfl (by first | with_reducible exact q_fe ob72 | (have t1 : 0 ≤ x2.toInt := ob72; omega)) (by have t1 : 0 ≤ x2.toInt := ob72; have t2 : x2.toInt ≤ 10 := ob73; omega)) d_19_15_97 (fun H locs w74 hu75 hO45 V => ?_)
          replace hI := n_ai' hI (n_s122 g q) hu75 hO45 (q_updB (fun _ => s_bnd) s_bnd)
          replace hO43 := (hu75 _ (by decide)).trans hO43
          replace hO44 := (hu75 _ (by decide)).trans hO44
          replace hF := q_us hF hu75 (by simp)
          obtain ⟨f76, e77⟩ := q_nm (upd t2_0 x2.toNatClampNeg (vp_nar .boolean 1) : (Nat → Int32))
          rw [e77] at hO45
          exact q_retv C0 V (⟨hI, hF, t0_0, t0_1, t0_2, t0_3, t0_4, t0_5, t0_6, lx36, f76, hO43, hO44, hO45, (show t0_1.toInt ≤ t0_1.toInt from (by omega)), (show t0_1.toInt ≤ t0_1.toInt from (by omega)), (show t0_2.toInt ≤ t0_2.toInt from (by omega)), (show t0_2.toInt ≤ t0_2.toInt from (by omega)), (show t0_3.toInt ≤ t0_3.toInt from (by omega)), (show t0_3.toInt ≤ t0_3.toInt from (by omega)), (show t0_4.toInt ≤ t0_4.toInt from (by omega)), (show t0_4.toInt ≤ t0_4.toInt from (by omega)), (show t0_5.toInt ≤ t0_5.toInt from (by omega)), (show t0_5.toInt ≤ t0_5.toInt from (by omega)), (show t0_6.toInt ≤ t0_6.toInt from (by omega)), (show t0_6.toInt ≤ t0_6.toInt from (by omega)), (show (t0_0, t0_1, t0_2, t0_3, t0_4, t0_5, t0_6, lx36, f76) = (F_WR_store x2 t0_0 t0_1 t0_2 t0_3 t0_4 t0_5 t0_6 t1_0 t2_0 t3_0) from Eq.trans (by rw [← e77, F_WR_store_L26.eq_2, if_pos c52, if_neg c54, if_neg c63]) hR47)⟩) d_19_15_98
    ·
      have b78 : q_F (lx34.toInt < 128) := (q_nleI c52)
      refine lv_aload_n hx hb d_19_15_33 rfl (lv_at hl 2 rfl) ?_
      refine q_get (ci := 13) (j := 4) (v := .ref (q 121)) C0 V i_WR rfl rfl hO43 (by decide) w_1928 rfl d_19_15_34 ?_
      refine lv_sipush (v := 128) hx hb d_19_15_37 (by decide) ?_
      refine lv_iload_n hx hb d_19_15_40 rfl (lv_at hl 3 rfl) ?_
      refine lv_imul hx hb d_19_15_41 ?_
      obtain ⟨a79, e80⟩ := q_nm (128 * x2 : Int32)
      refine q_ti (v := a79) e80 ?_
      refine lv_iload_n hx hb d_19_15_42 rfl (lv_at hl 0 rfl) ?_
      refine lv_iadd hx hb d_19_15_43 ?_
      obtain ⟨a81, e82⟩ := q_nm (a79 + lx34 : Int32)
      refine q_ti (v := a81) e82 ?_
      refine lv_aload_n hx hb d_19_15_44 rfl (lv_at hl 2 rfl) ?_
      refine q_get (ci := 13) (j := 6) (v := .ref (q 123)) C0 V i_WR rfl rfl hO43 (by decide) w_1930 rfl d_19_15_45 ?_
      refine lv_iload_n hx hb d_19_15_48 rfl (lv_at hl 0 rfl) ?_
      refine q_iald C0 V hO46 (q_ix (x := lx34.toInt) rfl (by have t1 : 0 ≤ lx35.toInt := i38; have t2 : lx35.toInt ≤ lx34.toInt := i40; omega) (by have t1 : 0 ≤ lx35.toInt := i38; have t2 : lx35.toInt ≤ lx34.toInt := i40; have t3 : lx34.toInt ≤ 128 := i37; have e9 : (((264 : Int32).toNatClampNeg : Nat) : Int) = 264 := (by decide); omega)) d_19_15_49 ?_
      obtain ⟨a83, e84⟩ := q_nm (t3_0 lx34.toNatClampNeg : Int32)
      refine q_ti (v := a83) e84 ?_
      have ob85 : q_F (0 ≤ a81.toInt) := (by rw [← e82, ← e80]; have h := hS48; rw [S_WR_store_L26.eq_2] at h; rw [if_neg c52] at h; exact h.2.1)
      have ob86 : q_F (a81.toInt ≤ 1407) := (by rw [← e82, ← e80]; have h := hS48; rw [S_WR_store_L26.eq_2] at h; rw [if_neg c52] at h; replace h := q_s2 h; exact h.2.1)
      refine q_iast C0 V hO44 (q_ix (x := a81.toInt) rfl (by first | with_reducible exact q_fe ob85 | (have t1 : 0 ≤ a81.toInt := ob85; omega)) (by have t1 : 0 ≤ a81.toInt := ob85; have t2 : a81.toInt ≤ 1407 := ob86; have e9 : (((1408 : Int32).toNatClampNeg : Nat) : Int) = 1408 := (by decide); omega)) d_19_15_50 (fun H locs w87 hu88 hO44 V => ?_)
      replace hI := n_ai' hI (n_r121 g q).1 hu88 hO44 (q_updB (fun _ => s_bnd) s_bnd)
      replace hO43 := (hu88 _ (by decide)).trans hO43
      replace hO45 := (hu88 _ (by decide)).trans hO45
      replace hO46 := (hu88 _ (by decide)).trans hO46
      replace hF := q_us hF hu88 (by simp)
      obtain ⟨f89, e90⟩ := q_nm (upd lx36 a81.toNatClampNeg a83 : (Nat → Int32))
      rw [e90] at hO44
      refine lv_iload_n hx hb d_19_15_51 rfl (lv_at hl 1 rfl) ?_
      refine lv_if_ne (tgt := 64) hx hb d_19_15_52 (by decide) (fun c91 => ?_) (fun c91 => ?_)
      ·
        refine lv_iconst (v := 1) hx hb d_19_15_64 (by decide) ?_
        refine lv_goto (tgt := 69) hx hb d_19_15_65 (by decide) ?_
        refine lv_istore_n (lv' := [(2, .int 1), (3, .int lx34), (0, .ref (q 119)), (1, .int x2)]) hx hb d_19_15_69 rfl hl (by decide) rfl (fun ls hl => ?_)
        obtain ⟨a93, e94⟩ := q_nm (lx34 + 1 : Int32)
        have b95 : q_F (a93.toInt = lx34.toInt + 1) := (by rw [← e94]; exact q_addI (y := 1) rfl (by decide) (by have _ := q_lo32 (x := lx34); have _ := q_hi32 (x := lx34); have t1 : lx34.toInt ≤ 128 := i37; omega) (by have _ := q_lo32 (x := lx34); have _ := q_hi32 (x := lx34); have t1 : lx34.toInt ≤ 128 := i37; omega))
        refine lv_iinc (v := a93) (lv' := [(3, .int a93), (2, .int 1), (0, .ref (q 119)), (1, .int x2)]) hx hb d_19_15_70 hl (k := 1) rfl (e94) (by decide) rfl (fun ls hl => ?_)
        refine lv_goto (tgt := 26) hx hb d_19_15_73 (by decide) ?_
        exact ih41 ((a93 : Int32), (1 : Int32), (f89 : (Nat → Int32))) _ _ _ _ (show (128 - a93.toInt).toNat < (128 - lx34.toInt).toNat from by have t1 : a93.toInt = lx34.toInt + 1 := b95; have t2 : lx34.toInt ≤ 128 := i37; have t3 : lx34.toInt < 128 := b78; omega) ⟨(show q_F (a93.toInt ≤ 128) from (show a93.toInt ≤ 128 from by have t1 : lx34.toInt < 128 := b78; have t2 : a93.toInt = lx34.toInt + 1 := b95; omega)), (show q_F (0 ≤ 1) from (show 0 ≤ 1 from by omega)), (show q_F (1 ≤ 1) from (show 1 ≤ 1 from by omega)), (show q_F (1 ≤ a93.toInt) from (show 1 ≤ a93.toInt from by have t1 : 0 ≤ lx35.toInt := i38; have t2 : lx35.toInt ≤ lx34.toInt := i40; have t3 : a93.toInt = lx34.toInt + 1 := b95; omega)), V, q_lw hl (q_lw1 0 rfl (q_lw1 1 rfl (q_lw1 2 rfl (q_lw1 3 rfl q_lw0)))), hI, hF, hO43, hO44, hO45, hO46, ⟨fm51, Nat.lt_of_lt_of_le (show (128 - a93.toInt).toNat < (128 - lx34.toInt).toNat from by have t1 : a93.toInt = lx34.toInt + 1 := b95; have t2 : lx34.toInt ≤ 128 := i37; have t3 : lx34.toInt < 128 := b78; omega) (Nat.le_of_lt_succ hf50), (show F_WR_store_L26 x2 t0_0 t0_1 t0_2 t0_3 t0_4 t0_5 t0_6 t1_0 t2_0 t3_0 fm51 a93 1 f89 = (F_WR_store x2 t0_0 t0_1 t0_2 t0_3 t0_4 t0_5 t0_6 t1_0 t2_0 t3_0) from Eq.trans (by rw [← e94, ← e90, ← e84, ← e82, ← e80, F_WR_store_L26.eq_2, if_neg c52, if_neg c91]) hR47), (show True ∧ S_WR_store_L26 x2 t0_0 t0_1 t0_2 t0_3 t0_4 t0_5 t0_6 t1_0 t2_0 t3_0 fm51 a93 1 f89 from (by rw [← e94, ← e90, ← e84, ← e82, ← e80]; have h := hS48; rw [S_WR_store_L26.eq_2] at h; rw [if_neg c52] at h; replace h := q_s2 h; replace h := q_s2 h; rw [if_neg c91] at h; with_reducible exact h))⟩⟩
      ·
        refine lv_aload_n hx hb d_19_15_55 rfl (lv_at hl 2 rfl) ?_
        refine q_get (ci := 13) (j := 6) (v := .ref (q 123)) C0 V i_WR rfl rfl hO43 (by decide) w_1930 rfl d_19_15_56 ?_
        refine lv_iload_n hx hb d_19_15_59 rfl (lv_at hl 0 rfl) ?_
        refine q_iald C0 V hO46 (q_ix (x := lx34.toInt) rfl (by have t1 : 0 ≤ lx35.toInt := i38; have t2 : lx35.toInt ≤ lx34.toInt := i40; omega) (by have t1 : 0 ≤ lx35.toInt := i38; have t2 : lx35.toInt ≤ lx34.toInt := i40; have t3 : lx34.toInt ≤ 128 := i37; have e9 : (((264 : Int32).toNatClampNeg : Nat) : Int) = 264 := (by decide); omega)) d_19_15_60 ?_
        obtain ⟨a97, e98⟩ := q_nm (t3_0 lx34.toNatClampNeg : Int32)
        refine q_ti (v := a97) e98 ?_
        refine lv_if_eq (tgt := 68) hx hb d_19_15_61 (by decide) (fun c99 => ?_) (fun c99 => ?_)
        ·
          refine lv_iconst (v := 0) hx hb d_19_15_68 (by decide) ?_
          refine lv_istore_n (lv' := [(2, .int 0), (3, .int lx34), (0, .ref (q 119)), (1, .int x2)]) hx hb d_19_15_69 rfl hl (by decide) rfl (fun ls hl => ?_)
          obtain ⟨a101, e102⟩ := q_nm (lx34 + 1 : Int32)
          have b103 : q_F (a101.toInt = lx34.toInt + 1) := (by rw [← e102]; exact q_addI (y := 1) rfl (by decide) (by have _ := q_lo32 (x := lx34); have _ := q_hi32 (x := lx34); have t1 : lx34.toInt ≤ 128 := i37; omega) (by have _ := q_lo32 (x := lx34); have _ := q_hi32 (x := lx34); have t1 : lx34.toInt ≤ 128 := i37; omega))
          refine lv_iinc (v := a101) (lv' := [(3, .int a101), (2, .int 0), (0, .ref (q 119)), (1, .int x2)]) hx hb d_19_15_70 hl (k := 1) rfl (e102) (by decide) rfl (fun ls hl => ?_)
          refine lv_goto (tgt := 26) hx hb d_19_15_73 (by decide) ?_
          exact ih41 ((a101 : Int32), (0 : Int32), (f89 : (Nat → Int32))) _ _ _ _ (show (128 - a101.toInt).toNat < (128 - lx34.toInt).toNat from by have t1 : a101.toInt = lx34.toInt + 1 := b103; have t2 : lx34.toInt ≤ 128 := i37; have t3 : lx34.toInt < 128 := b78; omega) ⟨(show q_F (a101.toInt ≤ 128) from (show a101.toInt ≤ 128 from by have t1 : lx34.toInt < 128 := b78; have t2 : a101.toInt = lx34.toInt + 1 := b103; omega)), (show q_F (0 ≤ 0) from (show 0 ≤ 0 from by omega)), (show q_F (0 ≤ 1) from (show 0 ≤ 1 from by omega)), (show q_F (0 ≤ a101.toInt) from (show 0 ≤ a101.toInt from by have t1 : 0 ≤ lx35.toInt := i38; have t2 : lx35.toInt ≤ lx34.toInt := i40; have t3 : a101.toInt = lx34.toInt + 1 := b103; omega)), V, q_lw hl (q_lw1 0 rfl (q_lw1 1 rfl (q_lw1 2 rfl (q_lw1 3 rfl q_lw0)))), hI, hF, hO43, hO44, hO45, hO46, ⟨fm51, Nat.lt_of_lt_of_le (show (128 - a101.toInt).toNat < (128 - lx34.toInt).toNat from by have t1 : a101.toInt = lx34.toInt + 1 := b103; have t2 : lx34.toInt ≤ 128 := i37; have t3 : lx34.toInt < 128 := b78; omega) (Nat.le_of_lt_succ hf50), (show F_WR_store_L26 x2 t0_0 t0_1 t0_2 t0_3 t0_4 t0_5 t0_6 t1_0 t2_0 t3_0 fm51 a101 0 f89 = (F_WR_store x2 t0_0 t0_1 t0_2 t0_3 t0_4 t0_5 t0_6 t1_0 t2_0 t3_0) from Eq.trans (by have c99x := c99; rw [← e98] at c99x; rw [← e102, ← e90, ← e84, ← e82, ← e80, F_WR_store_L26.eq_2, if_neg c52, if_pos c91, if_pos c99x]) hR47), (show True ∧ S_WR_store_L26 x2 t0_0 t0_1 t0_2 t0_3 t0_4 t0_5 t0_6 t1_0 t2_0 t3_0 fm51 a101 0 f89 from (by rw [← e102, ← e90, ← e84, ← e82, ← e80]; have h := hS48; rw [S_WR_store_L26.eq_2] at h; rw [if_neg c52] at h; replace h := q_s2 h; replace h := q_s2 h; rw [if_pos c91] at h; have c99x := c99; rw [← e98] at c99x; rw [if_pos c99x] at h; with_reducible exact h))⟩⟩
        ·
          refine lv_iconst (v := 1) hx hb d_19_15_64 (by decide) ?_
          refine lv_goto (tgt := 69) hx hb d_19_15_65 (by decide) ?_
          refine lv_istore_n (lv' := [(2, .int 1), (3, .int lx34), (0, .ref (q 119)), (1, .int x2)]) hx hb d_19_15_69 rfl hl (by decide) rfl (fun ls hl => ?_)
          obtain ⟨a105, e106⟩ := q_nm (lx34 + 1 : Int32)
          have b107 : q_F (a105.toInt = lx34.toInt + 1) := (by rw [← e106]; exact q_addI (y := 1) rfl (by decide) (by have _ := q_lo32 (x := lx34); have _ := q_hi32 (x := lx34); have t1 : lx34.toInt ≤ 128 := i37; omega) (by have _ := q_lo32 (x := lx34); have _ := q_hi32 (x := lx34); have t1 : lx34.toInt ≤ 128 := i37; omega))
          refine lv_iinc (v := a105) (lv' := [(3, .int a105), (2, .int 1), (0, .ref (q 119)), (1, .int x2)]) hx hb d_19_15_70 hl (k := 1) rfl (e106) (by decide) rfl (fun ls hl => ?_)
          refine lv_goto (tgt := 26) hx hb d_19_15_73 (by decide) ?_
          exact ih41 ((a105 : Int32), (1 : Int32), (f89 : (Nat → Int32))) _ _ _ _ (show (128 - a105.toInt).toNat < (128 - lx34.toInt).toNat from by have t1 : a105.toInt = lx34.toInt + 1 := b107; have t2 : lx34.toInt ≤ 128 := i37; have t3 : lx34.toInt < 128 := b78; omega) ⟨(show q_F (a105.toInt ≤ 128) from (show a105.toInt ≤ 128 from by have t1 : lx34.toInt < 128 := b78; have t2 : a105.toInt = lx34.toInt + 1 := b107; omega)), (show q_F (0 ≤ 1) from (show 0 ≤ 1 from by omega)), (show q_F (1 ≤ 1) from (show 1 ≤ 1 from by omega)), (show q_F (1 ≤ a105.toInt) from (show 1 ≤ a105.toInt from by have t1 : 0 ≤ lx35.toInt := i38; have t2 : lx35.toInt ≤ lx34.toInt := i40; have t3 : a105.toInt = lx34.toInt + 1 := b107; omega)), V, q_lw hl (q_lw1 0 rfl (q_lw1 1 rfl (q_lw1 2 rfl (q_lw1 3 rfl q_lw0)))), hI, hF, hO43, hO44, hO45, hO46, ⟨fm51, Nat.lt_of_lt_of_le (show (128 - a105.toInt).toNat < (128 - lx34.toInt).toNat from by have t1 : a105.toInt = lx34.toInt + 1 := b107; have t2 : lx34.toInt ≤ 128 := i37; have t3 : lx34.toInt < 128 := b78; omega) (Nat.le_of_lt_succ hf50), (show F_WR_store_L26 x2 t0_0 t0_1 t0_2 t0_3 t0_4 t0_5 t0_6 t1_0 t2_0 t3_0 fm51 a105 1 f89 = (F_WR_store x2 t0_0 t0_1 t0_2 t0_3 t0_4 t0_5 t0_6 t1_0 t2_0 t3_0) from Eq.trans (by have c99x := c99; rw [← e98] at c99x; rw [← e106, ← e90, ← e84, ← e82, ← e80, F_WR_store_L26.eq_2, if_neg c52, if_pos c91, if_neg c99x]) hR47), (show True ∧ S_WR_store_L26 x2 t0_0 t0_1 t0_2 t0_3 t0_4 t0_5 t0_6 t1_0 t2_0 t3_0 fm51 a105 1 f89 from (by rw [← e106, ← e90, ← e84, ← e82, ← e80]; have h := hS48; rw [S_WR_store_L26.eq_2] at h; rw [if_neg c52] at h; replace h := q_s2 h; replace h := q_s2 h; rw [if_pos c91] at h; have c99x := c99; rw [← e98] at c99x; rw [if_neg c99x] at h; with_reducible exact h))⟩⟩
  ·
    refine lv_aload_n hx hb d_19_15_13 rfl (lv_at hl 0 rfl) ?_
    refine lv_aload_n hx hb d_19_15_14 rfl (lv_at hl 0 rfl) ?_
    refine q_get (ci := 13) (j := 1) (v := .int t0_1) C0 V i_WR rfl rfl hT0 (by decide) w_1923 rfl d_19_15_15 ?_
    refine q_put (ci := 13) (j := 0) (v := .int t0_1) (ty := .int) C0 V i_WR o_WR n_WR rfl rfl hT0 (by decide) w_1921 rfl rfl rfl rfl (Nat.le_of_ble_eq_true rfl) d_19_15_18 (fun H locs w109 hu110 hT0 V => ?_)
    replace hT0 : w109[119]? = (some (q 119, .inr (13, [.int t0_1, .int t0_1, .ref (q 120), .int t0_2, .ref (q 121), .ref (q 122), .ref (q 123), .int t0_3, .ref (q 124), .ref (q 125), .ref (q 126), .ref (q 127), .ref (q 128), .ref (q 129), .ref (q 130), .ref (q 131), .int t0_4, .int t0_5, .ref (q 132), .ref (q 133), .int t0_6])) : Option (Nat × va_E)) := hT0
    replace hI := n_p119 hI hu110 hT0 (by first | with_reducible exact q_fe btt0_2 | exact ⟨(by have t1 : 0 ≤ t0_2.toInt ∧ t0_2.toInt ≤ 4100 := btt0_2; omega), (by have t1 : 0 ≤ t0_2.toInt ∧ t0_2.toInt ≤ 4100 := btt0_2; omega)⟩) (by first | with_reducible exact q_fe btt0_3 | exact ⟨(by have t1 : 0 ≤ t0_3.toInt ∧ t0_3.toInt ≤ 1 := btt0_3; omega), (by have t1 : 0 ≤ t0_3.toInt ∧ t0_3.toInt ≤ 1 := btt0_3; omega)⟩) (by first | with_reducible exact q_fe btt0_4 | exact ⟨(by have t1 : 0 ≤ t0_4.toInt ∧ t0_4.toInt ≤ 1 := btt0_4; omega), (by have t1 : 0 ≤ t0_4.toInt ∧ t0_4.toInt ≤ 1 := btt0_4; omega)⟩) (by first | with_reducible exact q_fe btt0_5 | exact ⟨(by have t1 : 0 ≤ t0_5.toInt ∧ t0_5.toInt ≤ 1 := btt0_5; omega), (by have t1 : 0 ≤ t0_5.toInt ∧ t0_5.toInt ≤ 1 := btt0_5; omega)⟩) (by first | with_reducible exact q_fe btt0_6 | exact ⟨(by have t1 : 0 ≤ t0_6.toInt ∧ t0_6.toInt ≤ 2100 := btt0_6; omega), (by have t1 : 0 ≤ t0_6.toInt ∧ t0_6.toInt ≤ 2100 := btt0_6; omega)⟩)
    replace hT1 := (hu110 _ (by decide)).trans hT1
    replace hT2 := (hu110 _ (by decide)).trans hT2
    replace hF := q_us hF hu110 (by simp)
    exact q_retv C0 V (⟨hI, hF, t0_1, t0_1, t0_2, t0_3, t0_4, t0_5, t0_6, t1_0, t2_0, hT0, hT1, hT2, (show t0_1.toInt ≤ t0_1.toInt from (by omega)), (show t0_1.toInt ≤ t0_1.toInt from (by omega)), (show t0_2.toInt ≤ t0_2.toInt from (by omega)), (show t0_2.toInt ≤ t0_2.toInt from (by omega)), (show t0_3.toInt ≤ t0_3.toInt from (by omega)), (show t0_3.toInt ≤ t0_3.toInt from (by omega)), (show t0_4.toInt ≤ t0_4.toInt from (by omega)), (show t0_4.toInt ≤ t0_4.toInt from (by omega)), (show t0_5.toInt ≤ t0_5.toInt from (by omega)), (show t0_5.toInt ≤ t0_5.toInt from (by omega)), (show t0_6.toInt ≤ t0_6.toInt from (by omega)), (show t0_6.toInt ≤ t0_6.toInt from (by omega)), (show (t0_1, t0_1, t0_2, t0_3, t0_4, t0_5, t0_6, t1_0, t2_0) = (F_WR_store x2 t0_0 t0_1 t0_2 t0_3 t0_4 t0_5 t0_6 t1_0 t2_0 t3_0) from (by have c30x := c30; rw [e29] at c30x; rw [F_WR_store.eq_1, if_neg c30x]))⟩) d_19_15_21
theorem d_19_8_0 : decode prog_19_method_8_code 0 = .ok (.iconst 1, 1) := by decide +kernel
theorem d_19_8_1 : decode prog_19_method_8_code 1 = .ok (.istore_n 2, 1) := by decide +kernel
theorem d_19_8_2 : decode prog_19_method_8_code 2 = .ok (.iconst 0, 1) := by decide +kernel
theorem d_19_8_3 : decode prog_19_method_8_code 3 = .ok (.istore_n 3, 1) := by decide +kernel
theorem d_19_8_4 : decode prog_19_method_8_code 4 = .ok (.iload_n 3, 1) := by decide +kernel
theorem d_19_8_5 : decode prog_19_method_8_code 5 = .ok (.sipush 128, 3) := by decide +kernel
theorem d_19_8_8 : decode prog_19_method_8_code 8 = .ok (.if_icmp .ge 34, 3) := by decide +kernel
theorem d_19_8_42 : decode prog_19_method_8_code 42 = .ok (.iload_n 2, 1) := by decide +kernel
theorem d_19_8_43 : decode prog_19_method_8_code 43 = .ok (.ireturn, 1) := by decide +kernel
theorem d_19_8_11 : decode prog_19_method_8_code 11 = .ok (.iload_n 2, 1) := by decide +kernel
theorem d_19_8_12 : decode prog_19_method_8_code 12 = .ok (.ifCond .eq 22, 3) := by decide +kernel
theorem d_19_8_34 : decode prog_19_method_8_code 34 = .ok (.iconst 0, 1) := by decide +kernel
theorem d_19_8_35 : decode prog_19_method_8_code 35 = .ok (.istore_n 2, 1) := by decide +kernel
theorem d_19_8_36 : decode prog_19_method_8_code 36 = .ok (.iinc 3 1, 3) := by decide +kernel
theorem d_19_8_39 : decode prog_19_method_8_code 39 = .ok (.goto (-35), 3) := by decide +kernel
theorem d_19_8_15 : decode prog_19_method_8_code 15 = .ok (.aload_n 0, 1) := by decide +kernel
theorem d_19_8_16 : decode prog_19_method_8_code 16 = .ok (.getfield 13, 3) := by decide +kernel
theorem d_19_8_19 : decode prog_19_method_8_code 19 = .ok (.sipush 128, 3) := by decide +kernel
theorem d_19_8_22 : decode prog_19_method_8_code 22 = .ok (.iload_n 1, 1) := by decide +kernel
theorem d_19_8_23 : decode prog_19_method_8_code 23 = .ok (.imul, 1) := by decide +kernel
theorem d_19_8_24 : decode prog_19_method_8_code 24 = .ok (.iload_n 3, 1) := by decide +kernel
theorem d_19_8_25 : decode prog_19_method_8_code 25 = .ok (.iadd, 1) := by decide +kernel
theorem d_19_8_26 : decode prog_19_method_8_code 26 = .ok (.iaload, 1) := by decide +kernel
theorem d_19_8_27 : decode prog_19_method_8_code 27 = .ok (.ifCond .ne 7, 3) := by decide +kernel
theorem d_19_8_30 : decode prog_19_method_8_code 30 = .ok (.iconst 1, 1) := by decide +kernel
theorem d_19_8_31 : decode prog_19_method_8_code 31 = .ok (.goto 4, 3) := by decide +kernel
def y_WR_isZero : MethodName := ⟨"NumberHouseModel$WholeRows", "isZero", "(I)Z"⟩
def F_WR_isZero_L4 (x2 : Int32) (t0_0 : Int32) (t0_1 : Int32) (t0_2 : Int32) (t0_3 : Int32) (t0_4 : Int32) (t0_5 : Int32) (t0_6 : Int32) (t1_0 : (Nat → Int32)) : Nat → Int32 → Int32 → Int32
  | 0, _, _ => default
  | fm + 1, lx19, lx20 => if (128 : Int32) ≤ lx19 then (lx20) else (if lx20 = (0 : Int32) then (F_WR_isZero_L4 x2 t0_0 t0_1 t0_2 t0_3 t0_4 t0_5 t0_6 t1_0 fm (lx19 + 1 : Int32) 0) else (if (t1_0 ((128 * x2 : Int32) + lx19 : Int32).toNatClampNeg : Int32) = (0 : Int32) then (F_WR_isZero_L4 x2 t0_0 t0_1 t0_2 t0_3 t0_4 t0_5 t0_6 t1_0 fm (lx19 + 1 : Int32) 1) else (F_WR_isZero_L4 x2 t0_0 t0_1 t0_2 t0_3 t0_4 t0_5 t0_6 t1_0 fm (lx19 + 1 : Int32) 0)))
def F_WR_isZero (x2 : Int32) (t0_0 : Int32) (t0_1 : Int32) (t0_2 : Int32) (t0_3 : Int32) (t0_4 : Int32) (t0_5 : Int32) (t0_6 : Int32) (t1_0 : (Nat → Int32)) : Int32 := F_WR_isZero_L4 x2 t0_0 t0_1 t0_2 t0_3 t0_4 t0_5 t0_6 t1_0 ((128 - (0 : Int32).toInt).toNat + 1) 0 1
def S_WR_isZero_L4 (x2 : Int32) (t0_0 : Int32) (t0_1 : Int32) (t0_2 : Int32) (t0_3 : Int32) (t0_4 : Int32) (t0_5 : Int32) (t0_6 : Int32) (t1_0 : (Nat → Int32)) : Nat → Int32 → Int32 → Prop
  | 0, _, _ => False
  | fm + 1, lx19, lx20 => if (128 : Int32) ≤ lx19 then (True) else (if lx20 = (0 : Int32) then (S_WR_isZero_L4 x2 t0_0 t0_1 t0_2 t0_3 t0_4 t0_5 t0_6 t1_0 fm (lx19 + 1 : Int32) 0) else ((0 ≤ ((128 * x2 : Int32) + lx19 : Int32).toInt) ∧ ((((128 * x2 : Int32) + lx19 : Int32).toInt ≤ 1407) ∧ (if (t1_0 ((128 * x2 : Int32) + lx19 : Int32).toNatClampNeg : Int32) = (0 : Int32) then (S_WR_isZero_L4 x2 t0_0 t0_1 t0_2 t0_3 t0_4 t0_5 t0_6 t1_0 fm (lx19 + 1 : Int32) 1) else (S_WR_isZero_L4 x2 t0_0 t0_1 t0_2 t0_3 t0_4 t0_5 t0_6 t1_0 fm (lx19 + 1 : Int32) 0)))))
def S_WR_isZero (x2 : Int32) (t0_0 : Int32) (t0_1 : Int32) (t0_2 : Int32) (t0_3 : Int32) (t0_4 : Int32) (t0_5 : Int32) (t0_6 : Int32) (t1_0 : (Nat → Int32)) : Prop := S_WR_isZero_L4 x2 t0_0 t0_1 t0_2 t0_3 t0_4 t0_5 t0_6 t1_0 ((128 - (0 : Int32).toInt).toNat + 1) 0 1
set_option maxRecDepth 100000 in
set_option maxHeartbeats 4000000 in
theorem X_WR_isZero (l : Launch) (D : va_G) (g : Nat → ClassId) (q : Nat → Nat) (ws : va_W) (x2 : Int32) (hI : q_I (msh g q) q ws) (t0_0 : Int32) (t0_1 : Int32) (t0_2 : Int32) (t0_3 : Int32) (t0_4 : Int32) (t0_5 : Int32) (t0_6 : Int32) (hT0 : ws[119]? = (some (q 119, .inr (13, [.int t0_0, .int t0_1, .ref (q 120), .int t0_2, .ref (q 121), .ref (q 122), .ref (q 123), .int t0_3, .ref (q 124), .ref (q 125), .ref (q 126), .ref (q 127), .ref (q 128), .ref (q 129), .ref (q 130), .ref (q 131), .int t0_4, .int t0_5, .ref (q 132), .ref (q 133), .int t0_6])) : Option (Nat × va_E))) (t1_0 : (Nat → Int32)) (hT1 : ws[121]? = (some (q 121, .inl (g 0, (1408 : Int32).toNatClampNeg, .inl t1_0)) : Option (Nat × va_E))) (hS : True ∧ S_WR_isZero x2 t0_0 t0_1 t0_2 t0_3 t0_4 t0_5 t0_6 t1_0) : q_mI l y_WR_isZero prog_19_method_8_code 4 (.boolean) 1 0 0 D g [.ref (q 119), .int x2] ws (fun r u => ws = u ∧ (0 ≤ r.toInt) ∧ (r.toInt ≤ 1) ∧ r = (F_WR_isZero x2 t0_0 t0_1 t0_2 t0_3 t0_4 t0_5 t0_6 t1_0)) := by
  intro sz
  refine q_into (by decide) (Nat.le_of_ble_eq_true rfl) ?_
  intro p e s m below meth c ls hsz C0 V hl
  have hx := C0.1
  have hb := C0.2.1
  have hZ9 := (n_w119 hI hT0).2.2.2
  obtain ⟨-, btt0_6⟩ := hZ9
  clear btt0_6
  have hl : lv_has ls 4 [(0, .ref (q 119)), (1, .int x2)] := hl
  refine lv_iconst (v := 1) hx hb d_19_8_0 (by decide) ?_
  refine lv_istore_n (lv' := [(2, .int 1), (0, .ref (q 119)), (1, .int x2)]) hx hb d_19_8_1 rfl hl (by decide) rfl (fun ls hl => ?_)
  refine lv_iconst (v := 0) hx hb d_19_8_2 (by decide) ?_
  refine lv_istore_n (lv' := [(3, .int 0), (2, .int 1), (0, .ref (q 119)), (1, .int x2)]) hx hb d_19_8_3 rfl hl (by decide) rfl (fun ls hl => ?_)
  refine q_loop (X := Int32 × Int32) (fun z H locs ls _ => q_F (z.1.toInt ≤ 128) ∧ q_F (z.2.toInt ≤ 1) ∧ q_F (0 ≤ z.2.toInt) ∧ q_F (1 ≤ z.1.toInt + z.2.toInt) ∧ q_Wd D g (va_A ws sz) s ws H locs ∧ lv_has ls 4 [(3, .int z.1), (2, .int z.2), (0, .ref (q 119)), (1, .int x2)] ∧ (∃ n, (128 - z.1.toInt).toNat < n ∧ F_WR_isZero_L4 x2 t0_0 t0_1 t0_2 t0_3 t0_4 t0_5 t0_6 t1_0 n z.1 z.2 = (F_WR_isZero x2 t0_0 t0_1 t0_2 t0_3 t0_4 t0_5 t0_6 t1_0) ∧ True ∧ S_WR_isZero_L4 x2 t0_0 t0_1 t0_2 t0_3 t0_4 t0_5 t0_6 t1_0 n z.1 z.2)) (fun z => (128 - z.1.toInt).toNat) ?_ ((0 : Int32), (1 : Int32)) _ _ _ ws ⟨(show q_F (0 ≤ 128) from (show 0 ≤ 128 from by omega)), (show q_F (1 ≤ 1) from (show 1 ≤ 1 from by omega)), (show q_F (0 ≤ 1) from (show 0 ≤ 1 from by omega)), (show q_F (1 ≤ 0 + 1) from (show 1 ≤ 0 + 1 from by omega)), V, q_lw hl (q_lw1 0 rfl (q_lw1 1 rfl (q_lw1 2 rfl (q_lw1 3 rfl q_lw0)))), ⟨((128 - (0 : Int32).toInt).toNat + 1), Nat.lt_succ_self _, (show F_WR_isZero_L4 x2 t0_0 t0_1 t0_2 t0_3 t0_4 t0_5 t0_6 t1_0 ((128 - (0 : Int32).toInt).toNat + 1) 0 1 = (F_WR_isZero x2 t0_0 t0_1 t0_2 t0_3 t0_4 t0_5 t0_6 t1_0) from (by rw [F_WR_isZero.eq_1])), (show True ∧ S_WR_isZero_L4 x2 t0_0 t0_1 t0_2 t0_3 t0_4 t0_5 t0_6 t1_0 ((128 - (0 : Int32).toInt).toNat + 1) 0 1 from (by have h := hS; rw [S_WR_isZero.eq_1] at h; with_reducible exact h))⟩⟩
  rintro ⟨lx19, lx20⟩ H locs ls _ ⟨i21, i22, i23, i24, V, hl, ⟨fu28, hf29, hR26, hS27⟩⟩ ih25
  obtain ⟨fm30, rfl⟩ : ∃ m, fu28 = m + 1 := ⟨fu28 - 1, by omega⟩
  replace i21 : q_F (lx19.toInt ≤ 128) := i21
  replace i22 : q_F (lx20.toInt ≤ 1) := i22
  replace i23 : q_F (0 ≤ lx20.toInt) := i23
  replace i24 : q_F (1 ≤ lx19.toInt + lx20.toInt) := i24
  replace hl : lv_has ls 4 [(3, .int lx19), (2, .int lx20), (0, .ref (q 119)), (1, .int x2)] := hl
  refine lv_iload_n hx hb d_19_8_4 rfl (lv_at hl 0 rfl) ?_
  refine lv_sipush (v := 128) hx hb d_19_8_5 (by decide) ?_
  refine lv_icmp_ge (tgt := 42) hx hb d_19_8_8 (by decide) (fun c31 => ?_) (fun c31 => ?_)
  ·
    refine lv_iload_n hx hb d_19_8_42 rfl (lv_at hl 1 rfl) ?_
    exact q_retz C0 V (q_nz01 (q_Ile (x := 0) (y := lx20.toInt) (by decide) rfl (by first | with_reducible exact q_fe i23 | (have t1 : 0 ≤ lx20.toInt := i23; omega))) (q_Ile (x := lx20.toInt) (y := 1) rfl (by decide) (by first | with_reducible exact q_fe i22 | (have t1 : lx20.toInt ≤ 1 := i22; omega)))) (⟨rfl, (show 0 ≤ lx20.toInt from (by first | with_reducible exact q_fe i23 | (have t1 : 0 ≤ lx20.toInt := i23; omega))), (show lx20.toInt ≤ 1 from (by first | with_reducible exact q_fe i22 | (have t1 : lx20.toInt ≤ 1 := i22; omega))), (show lx20 = (F_WR_isZero x2 t0_0 t0_1 t0_2 t0_3 t0_4 t0_5 t0_6 t1_0) from Eq.trans (by rw [F_WR_isZero_L4.eq_2, if_pos c31]) hR26)⟩) d_19_8_43
  ·
    have b33 : q_F (lx19.toInt < 128) := (q_nleI c31)
    refine lv_iload_n hx hb d_19_8_11 rfl (lv_at hl 1 rfl) ?_
    refine lv_if_eq (tgt := 34) hx hb d_19_8_12 (by decide) (fun c34 => ?_) (fun c34 => ?_)
    ·
      refine lv_iconst (v := 0) hx hb d_19_8_34 (by decide) ?_
      refine lv_istore_n (lv' := [(2, .int 0), (3, .int lx19), (0, .ref (q 119)), (1, .int x2)]) hx hb d_19_8_35 rfl hl (by decide) rfl (fun ls hl => ?_)
      obtain ⟨a36, e37⟩ := q_nm (lx19 + 1 : Int32)
      have b38 : q_F (a36.toInt = lx19.toInt + 1) := (by rw [← e37]; exact q_addI (y := 1) rfl (by decide) (by have _ := q_lo32 (x := lx19); have _ := q_hi32 (x := lx19); have t1 : lx19.toInt ≤ 128 := i21; omega) (by have _ := q_lo32 (x := lx19); have _ := q_hi32 (x := lx19); have t1 : lx19.toInt ≤ 128 := i21; omega))
      refine lv_iinc (v := a36) (lv' := [(3, .int a36), (2, .int 0), (0, .ref (q 119)), (1, .int x2)]) hx hb d_19_8_36 hl (k := 1) rfl (e37) (by decide) rfl (fun ls hl => ?_)
      refine lv_goto (tgt := 4) hx hb d_19_8_39 (by decide) ?_
      exact ih25 ((a36 : Int32), (0 : Int32)) _ _ _ ws (show (128 - a36.toInt).toNat < (128 - lx19.toInt).toNat from by have t1 : a36.toInt = lx19.toInt + 1 := b38; have t2 : lx19.toInt ≤ 128 := i21; have t3 : lx19.toInt < 128 := b33; omega) ⟨(show q_F (a36.toInt ≤ 128) from (show a36.toInt ≤ 128 from by have t1 : lx19.toInt < 128 := b33; have t2 : a36.toInt = lx19.toInt + 1 := b38; omega)), (show q_F (0 ≤ 1) from (show 0 ≤ 1 from by omega)), (show q_F (0 ≤ 0) from (show 0 ≤ 0 from by omega)), (show q_F (1 ≤ a36.toInt + 0) from (show 1 ≤ a36.toInt + 0 from by have t1 : lx20.toInt ≤ 1 := i22; have t2 : 1 ≤ lx19.toInt + lx20.toInt := i24; have t3 : a36.toInt = lx19.toInt + 1 := b38; omega)), V, q_lw hl (q_lw1 0 rfl (q_lw1 1 rfl (q_lw1 2 rfl (q_lw1 3 rfl q_lw0)))), ⟨fm30, Nat.lt_of_lt_of_le (show (128 - a36.toInt).toNat < (128 - lx19.toInt).toNat from by have t1 : a36.toInt = lx19.toInt + 1 := b38; have t2 : lx19.toInt ≤ 128 := i21; have t3 : lx19.toInt < 128 := b33; omega) (Nat.le_of_lt_succ hf29), (show F_WR_isZero_L4 x2 t0_0 t0_1 t0_2 t0_3 t0_4 t0_5 t0_6 t1_0 fm30 a36 0 = (F_WR_isZero x2 t0_0 t0_1 t0_2 t0_3 t0_4 t0_5 t0_6 t1_0) from Eq.trans (by rw [← e37, F_WR_isZero_L4.eq_2, if_neg c31, if_pos c34]) hR26), (show True ∧ S_WR_isZero_L4 x2 t0_0 t0_1 t0_2 t0_3 t0_4 t0_5 t0_6 t1_0 fm30 a36 0 from (by rw [← e37]; have h := hS27; rw [S_WR_isZero_L4.eq_2] at h; rw [if_neg c31] at h; rw [if_pos c34] at h; with_reducible exact h))⟩⟩
    ·
      refine lv_aload_n hx hb d_19_8_15 rfl (lv_at hl 2 rfl) ?_
      refine q_get (ci := 13) (j := 4) (v := .ref (q 121)) C0 V i_WR rfl rfl hT0 (by decide) w_1928 rfl d_19_8_16 ?_
      refine lv_sipush (v := 128) hx hb d_19_8_19 (by decide) ?_
      refine lv_iload_n hx hb d_19_8_22 rfl (lv_at hl 3 rfl) ?_
      refine lv_imul hx hb d_19_8_23 ?_
      obtain ⟨a40, e41⟩ := q_nm (128 * x2 : Int32)
      refine q_ti (v := a40) e41 ?_
      refine lv_iload_n hx hb d_19_8_24 rfl (lv_at hl 0 rfl) ?_
      refine lv_iadd hx hb d_19_8_25 ?_
      obtain ⟨a42, e43⟩ := q_nm (a40 + lx19 : Int32)
      refine q_ti (v := a42) e43 ?_
      have ob44 : q_F (0 ≤ a42.toInt) := (by rw [← e43, ← e41]; have h := hS27; rw [S_WR_isZero_L4.eq_2] at h; rw [if_neg c31] at h; rw [if_neg c34] at h; exact h.2.1)
      have ob45 : q_F (a42.toInt ≤ 1407) := (by rw [← e43, ← e41]; have h := hS27; rw [S_WR_isZero_L4.eq_2] at h; rw [if_neg c31] at h; rw [if_neg c34] at h; replace h := q_s2 h; exact h.2.1)
      refine q_iald C0 V hT1 (q_ix (x := a42.toInt) rfl (by first | with_reducible exact q_fe ob44 | (have t1 : 0 ≤ a42.toInt := ob44; omega)) (by have t1 : 0 ≤ a42.toInt := ob44; have t2 : a42.toInt ≤ 1407 := ob45; have e9 : (((1408 : Int32).toNatClampNeg : Nat) : Int) = 1408 := (by decide); omega)) d_19_8_26 ?_
      obtain ⟨a46, e47⟩ := q_nm (t1_0 a42.toNatClampNeg : Int32)
      refine q_ti (v := a46) e47 ?_
      refine lv_if_ne (tgt := 34) hx hb d_19_8_27 (by decide) (fun c48 => ?_) (fun c48 => ?_)
      ·
        refine lv_iconst (v := 0) hx hb d_19_8_34 (by decide) ?_
        refine lv_istore_n (lv' := [(2, .int 0), (3, .int lx19), (0, .ref (q 119)), (1, .int x2)]) hx hb d_19_8_35 rfl hl (by decide) rfl (fun ls hl => ?_)
        obtain ⟨a50, e51⟩ := q_nm (lx19 + 1 : Int32)
        have b52 : q_F (a50.toInt = lx19.toInt + 1) := (by rw [← e51]; exact q_addI (y := 1) rfl (by decide) (by have _ := q_lo32 (x := lx19); have _ := q_hi32 (x := lx19); have t1 : lx19.toInt ≤ 128 := i21; omega) (by have _ := q_lo32 (x := lx19); have _ := q_hi32 (x := lx19); have t1 : lx19.toInt ≤ 128 := i21; omega))
        refine lv_iinc (v := a50) (lv' := [(3, .int a50), (2, .int 0), (0, .ref (q 119)), (1, .int x2)]) hx hb d_19_8_36 hl (k := 1) rfl (e51) (by decide) rfl (fun ls hl => ?_)
        refine lv_goto (tgt := 4) hx hb d_19_8_39 (by decide) ?_
        exact ih25 ((a50 : Int32), (0 : Int32)) _ _ _ ws (show (128 - a50.toInt).toNat < (128 - lx19.toInt).toNat from by have t1 : a50.toInt = lx19.toInt + 1 := b52; have t2 : lx19.toInt ≤ 128 := i21; have t3 : lx19.toInt < 128 := b33; omega) ⟨(show q_F (a50.toInt ≤ 128) from (show a50.toInt ≤ 128 from by have t1 : lx19.toInt < 128 := b33; have t2 : a50.toInt = lx19.toInt + 1 := b52; omega)), (show q_F (0 ≤ 1) from (show 0 ≤ 1 from by omega)), (show q_F (0 ≤ 0) from (show 0 ≤ 0 from by omega)), (show q_F (1 ≤ a50.toInt + 0) from (show 1 ≤ a50.toInt + 0 from by have t1 : lx20.toInt ≤ 1 := i22; have t2 : 1 ≤ lx19.toInt + lx20.toInt := i24; have t3 : a50.toInt = lx19.toInt + 1 := b52; omega)), V, q_lw hl (q_lw1 0 rfl (q_lw1 1 rfl (q_lw1 2 rfl (q_lw1 3 rfl q_lw0)))), ⟨fm30, Nat.lt_of_lt_of_le (show (128 - a50.toInt).toNat < (128 - lx19.toInt).toNat from by have t1 : a50.toInt = lx19.toInt + 1 := b52; have t2 : lx19.toInt ≤ 128 := i21; have t3 : lx19.toInt < 128 := b33; omega) (Nat.le_of_lt_succ hf29), (show F_WR_isZero_L4 x2 t0_0 t0_1 t0_2 t0_3 t0_4 t0_5 t0_6 t1_0 fm30 a50 0 = (F_WR_isZero x2 t0_0 t0_1 t0_2 t0_3 t0_4 t0_5 t0_6 t1_0) from Eq.trans (by have c48x := c48; rw [← e47, ← e43, ← e41] at c48x; rw [← e51, F_WR_isZero_L4.eq_2, if_neg c31, if_neg c34, if_neg c48x]) hR26), (show True ∧ S_WR_isZero_L4 x2 t0_0 t0_1 t0_2 t0_3 t0_4 t0_5 t0_6 t1_0 fm30 a50 0 from (by rw [← e51]; have h := hS27; rw [S_WR_isZero_L4.eq_2] at h; rw [if_neg c31] at h; rw [if_neg c34] at h; replace h := q_s2 h; replace h := q_s2 h; have c48x := c48; rw [← e47, ← e43, ← e41] at c48x; rw [if_neg c48x] at h; with_reducible exact h))⟩⟩
      ·
        refine lv_iconst (v := 1) hx hb d_19_8_30 (by decide) ?_
        refine lv_goto (tgt := 35) hx hb d_19_8_31 (by decide) ?_
        refine lv_istore_n (lv' := [(2, .int 1), (3, .int lx19), (0, .ref (q 119)), (1, .int x2)]) hx hb d_19_8_35 rfl hl (by decide) rfl (fun ls hl => ?_)
        obtain ⟨a54, e55⟩ := q_nm (lx19 + 1 : Int32)
        have b56 : q_F (a54.toInt = lx19.toInt + 1) := (by rw [← e55]; exact q_addI (y := 1) rfl (by decide) (by have _ := q_lo32 (x := lx19); have _ := q_hi32 (x := lx19); have t1 : lx19.toInt ≤ 128 := i21; omega) (by have _ := q_lo32 (x := lx19); have _ := q_hi32 (x := lx19); have t1 : lx19.toInt ≤ 128 := i21; omega))
        refine lv_iinc (v := a54) (lv' := [(3, .int a54), (2, .int 1), (0, .ref (q 119)), (1, .int x2)]) hx hb d_19_8_36 hl (k := 1) rfl (e55) (by decide) rfl (fun ls hl => ?_)
        refine lv_goto (tgt := 4) hx hb d_19_8_39 (by decide) ?_
        exact ih25 ((a54 : Int32), (1 : Int32)) _ _ _ ws (show (128 - a54.toInt).toNat < (128 - lx19.toInt).toNat from by have t1 : a54.toInt = lx19.toInt + 1 := b56; have t2 : lx19.toInt ≤ 128 := i21; have t3 : lx19.toInt < 128 := b33; omega) ⟨(show q_F (a54.toInt ≤ 128) from (show a54.toInt ≤ 128 from by have t1 : lx19.toInt < 128 := b33; have t2 : a54.toInt = lx19.toInt + 1 := b56; omega)), (show q_F (1 ≤ 1) from (show 1 ≤ 1 from by omega)), (show q_F (0 ≤ 1) from (show 0 ≤ 1 from by omega)), (show q_F (1 ≤ a54.toInt + 1) from (show 1 ≤ a54.toInt + 1 from by have t1 : lx20.toInt ≤ 1 := i22; have t2 : 1 ≤ lx19.toInt + lx20.toInt := i24; have t3 : a54.toInt = lx19.toInt + 1 := b56; omega)), V, q_lw hl (q_lw1 0 rfl (q_lw1 1 rfl (q_lw1 2 rfl (q_lw1 3 rfl q_lw0)))), ⟨fm30, Nat.lt_of_lt_of_le (show (128 - a54.toInt).toNat < (128 - lx19.toInt).toNat from by have t1 : a54.toInt = lx19.toInt + 1 := b56; have t2 : lx19.toInt ≤ 128 := i21; have t3 : lx19.toInt < 128 := b33; omega) (Nat.le_of_lt_succ hf29), (show F_WR_isZero_L4 x2 t0_0 t0_1 t0_2 t0_3 t0_4 t0_5 t0_6 t1_0 fm30 a54 1 = (F_WR_isZero x2 t0_0 t0_1 t0_2 t0_3 t0_4 t0_5 t0_6 t1_0) from Eq.trans (by have c48x := c48; rw [← e47, ← e43, ← e41] at c48x; rw [← e55, F_WR_isZero_L4.eq_2, if_neg c31, if_neg c34, if_pos c48x]) hR26), (show True ∧ S_WR_isZero_L4 x2 t0_0 t0_1 t0_2 t0_3 t0_4 t0_5 t0_6 t1_0 fm30 a54 1 from (by rw [← e55]; have h := hS27; rw [S_WR_isZero_L4.eq_2] at h; rw [if_neg c31] at h; rw [if_neg c34] at h; replace h := q_s2 h; replace h := q_s2 h; have c48x := c48; rw [← e47, ← e43, ← e41] at c48x; rw [if_pos c48x] at h; with_reducible exact h))⟩⟩
theorem d_19_6_0 : decode prog_19_method_6_code 0 = .ok (.iconst 0, 1) := by decide +kernel
theorem d_19_6_1 : decode prog_19_method_6_code 1 = .ok (.istore_n 3, 1) := by decide +kernel
theorem d_19_6_2 : decode prog_19_method_6_code 2 = .ok (.iload_n 3, 1) := by decide +kernel
theorem d_19_6_3 : decode prog_19_method_6_code 3 = .ok (.aload_n 2, 1) := by decide +kernel
theorem d_19_6_4 : decode prog_19_method_6_code 4 = .ok (.arraylength, 1) := by decide +kernel
theorem d_19_6_5 : decode prog_19_method_6_code 5 = .ok (.if_icmp .ge 35, 3) := by decide +kernel
theorem d_19_6_40 : decode prog_19_method_6_code 40 = .ok (.return_, 1) := by decide +kernel
theorem d_19_6_8 : decode prog_19_method_6_code 8 = .ok (.aload_n 2, 1) := by decide +kernel
theorem d_19_6_9 : decode prog_19_method_6_code 9 = .ok (.iload_n 3, 1) := by decide +kernel
theorem d_19_6_10 : decode prog_19_method_6_code 10 = .ok (.iload_n 3, 1) := by decide +kernel
theorem d_19_6_11 : decode prog_19_method_6_code 11 = .ok (.sipush 128, 3) := by decide +kernel
theorem d_19_6_14 : decode prog_19_method_6_code 14 = .ok (.if_icmp .ge 18, 3) := by decide +kernel
theorem d_19_6_32 : decode prog_19_method_6_code 32 = .ok (.iconst 0, 1) := by decide +kernel
theorem d_19_6_33 : decode prog_19_method_6_code 33 = .ok (.iastore, 1) := by decide +kernel
theorem d_19_6_34 : decode prog_19_method_6_code 34 = .ok (.iinc 3 1, 3) := by decide +kernel
theorem d_19_6_37 : decode prog_19_method_6_code 37 = .ok (.goto (-35), 3) := by decide +kernel
theorem d_19_6_17 : decode prog_19_method_6_code 17 = .ok (.aload_n 0, 1) := by decide +kernel
theorem d_19_6_18 : decode prog_19_method_6_code 18 = .ok (.getfield 13, 3) := by decide +kernel
theorem d_19_6_21 : decode prog_19_method_6_code 21 = .ok (.sipush 128, 3) := by decide +kernel
theorem d_19_6_24 : decode prog_19_method_6_code 24 = .ok (.iload_n 1, 1) := by decide +kernel
theorem d_19_6_25 : decode prog_19_method_6_code 25 = .ok (.imul, 1) := by decide +kernel
theorem d_19_6_26 : decode prog_19_method_6_code 26 = .ok (.iload_n 3, 1) := by decide +kernel
theorem d_19_6_27 : decode prog_19_method_6_code 27 = .ok (.iadd, 1) := by decide +kernel
theorem d_19_6_28 : decode prog_19_method_6_code 28 = .ok (.iaload, 1) := by decide +kernel
theorem d_19_6_29 : decode prog_19_method_6_code 29 = .ok (.goto 4, 3) := by decide +kernel
def y_WR_take : MethodName := ⟨"NumberHouseModel$WholeRows", "take", "(I[I)V"⟩
def F_WR_take_L2 (x2 : Int32) (N3 : Int32) (t0_0 : Int32) (t0_1 : Int32) (t0_2 : Int32) (t0_3 : Int32) (t0_4 : Int32) (t0_5 : Int32) (t0_6 : Int32) (t1_0 : (Nat → Int32)) (t2_0 : (Nat → Int32)) : Nat → Int32 → (Nat → Int32) → (Nat → Int32)
  | 0, _, _ => default
  | fm + 1, lx21, lx22 => if N3 ≤ lx21 then (lx22) else (if (128 : Int32) ≤ lx21 then (F_WR_take_L2 x2 N3 t0_0 t0_1 t0_2 t0_3 t0_4 t0_5 t0_6 t1_0 t2_0 fm (lx21 + 1 : Int32) (upd lx22 lx21.toNatClampNeg 0 : (Nat → Int32))) else (F_WR_take_L2 x2 N3 t0_0 t0_1 t0_2 t0_3 t0_4 t0_5 t0_6 t1_0 t2_0 fm (lx21 + 1 : Int32) (upd lx22 lx21.toNatClampNeg (t1_0 ((128 * x2 : Int32) + lx21 : Int32).toNatClampNeg : Int32) : (Nat → Int32))))
def F_WR_take (x2 : Int32) (N3 : Int32) (t0_0 : Int32) (t0_1 : Int32) (t0_2 : Int32) (t0_3 : Int32) (t0_4 : Int32) (t0_5 : Int32) (t0_6 : Int32) (t1_0 : (Nat → Int32)) (t2_0 : (Nat → Int32)) : (Nat → Int32) := F_WR_take_L2 x2 N3 t0_0 t0_1 t0_2 t0_3 t0_4 t0_5 t0_6 t1_0 t2_0 ((20200 - (0 : Int32).toInt).toNat + 1) 0 t2_0
def S_WR_take_L2 (x2 : Int32) (N3 : Int32) (t0_0 : Int32) (t0_1 : Int32) (t0_2 : Int32) (t0_3 : Int32) (t0_4 : Int32) (t0_5 : Int32) (t0_6 : Int32) (t1_0 : (Nat → Int32)) (t2_0 : (Nat → Int32)) : Nat → Int32 → (Nat → Int32) → Prop
  | 0, _, _ => False
  | fm + 1, lx21, lx22 => if N3 ≤ lx21 then (True) else (if (128 : Int32) ≤ lx21 then (S_WR_take_L2 x2 N3 t0_0 t0_1 t0_2 t0_3 t0_4 t0_5 t0_6 t1_0 t2_0 fm (lx21 + 1 : Int32) (upd lx22 lx21.toNatClampNeg 0 : (Nat → Int32))) else ((0 ≤ ((128 * x2 : Int32) + lx21 : Int32).toInt) ∧ ((((128 * x2 : Int32) + lx21 : Int32).toInt ≤ 1407) ∧ (S_WR_take_L2 x2 N3 t0_0 t0_1 t0_2 t0_3 t0_4 t0_5 t0_6 t1_0 t2_0 fm (lx21 + 1 : Int32) (upd lx22 lx21.toNatClampNeg (t1_0 ((128 * x2 : Int32) + lx21 : Int32).toNatClampNeg : Int32) : (Nat → Int32))))))
def S_WR_take (x2 : Int32) (N3 : Int32) (t0_0 : Int32) (t0_1 : Int32) (t0_2 : Int32) (t0_3 : Int32) (t0_4 : Int32) (t0_5 : Int32) (t0_6 : Int32) (t1_0 : (Nat → Int32)) (t2_0 : (Nat → Int32)) : Prop := S_WR_take_L2 x2 N3 t0_0 t0_1 t0_2 t0_3 t0_4 t0_5 t0_6 t1_0 t2_0 ((20200 - (0 : Int32).toInt).toNat + 1) 0 t2_0
set_option maxRecDepth 100000 in
set_option maxHeartbeats 4000000 in
theorem X_WR_take (l : Launch) (D : va_G) (g : Nat → ClassId) (q : Nat → Nat) (ws : va_W) (k3 : Nat) (N3 : Int32) (hB3 : q_isRow (msh g q) g k3 N3) (x2 : Int32) (ne_k3_121 : k3 ≠ 121) (hI : q_I (msh g q) q ws) (t0_0 : Int32) (t0_1 : Int32) (t0_2 : Int32) (t0_3 : Int32) (t0_4 : Int32) (t0_5 : Int32) (t0_6 : Int32) (hT0 : ws[119]? = (some (q 119, .inr (13, [.int t0_0, .int t0_1, .ref (q 120), .int t0_2, .ref (q 121), .ref (q 122), .ref (q 123), .int t0_3, .ref (q 124), .ref (q 125), .ref (q 126), .ref (q 127), .ref (q 128), .ref (q 129), .ref (q 130), .ref (q 131), .int t0_4, .int t0_5, .ref (q 132), .ref (q 133), .int t0_6])) : Option (Nat × va_E))) (t1_0 : (Nat → Int32)) (hT1 : ws[121]? = (some (q 121, .inl (g 0, (1408 : Int32).toNatClampNeg, .inl t1_0)) : Option (Nat × va_E))) (t2_0 : (Nat → Int32)) (hT2 : ws[k3]? = (some (q k3, .inl (g 0, N3.toNatClampNeg, .inl t2_0)) : Option (Nat × va_E))) (hS : True ∧ S_WR_take x2 N3 t0_0 t0_1 t0_2 t0_3 t0_4 t0_5 t0_6 t1_0 t2_0) : q_mV l y_WR_take prog_19_method_6_code 4 1 0 0 D g [.ref (q 119), .int x2, .ref (q k3)] ws (fun u => q_I (msh g q) q u ∧ q_un ws u [k3] ∧ ∃ (u2_0 : (Nat → Int32)), u[k3]? = (some (q k3, .inl (g 0, N3.toNatClampNeg, .inl u2_0)) : Option (Nat × va_E)) ∧ u2_0 = (F_WR_take x2 N3 t0_0 t0_1 t0_2 t0_3 t0_4 t0_5 t0_6 t1_0 t2_0)) := by
  intro sz
  refine q_into (by decide) (Nat.le_of_ble_eq_true rfl) ?_
  intro p e s m below meth c ls hsz C0 V hl
  have hx := C0.1
  have hb := C0.2.1
  have hfk30 : q_F (0 ≤ N3.toInt ∧ N3.toInt ≤ 20200) := hB3.2
  have hZ9 := (n_w119 hI hT0).2.2.2
  obtain ⟨-, btt0_6⟩ := hZ9
  clear btt0_6
  have hF : q_un ws ws [k3] := q_u0
  have hl : lv_has ls 4 [(0, .ref (q 119)), (1, .int x2), (2, .ref (q k3))] := hl
  refine lv_iconst (v := 0) hx hb d_19_6_0 (by decide) ?_
  refine lv_istore_n (lv' := [(3, .int 0), (0, .ref (q 119)), (1, .int x2), (2, .ref (q k3))]) hx hb d_19_6_1 rfl hl (by decide) rfl (fun ls hl => ?_)
  refine q_loop (X := Int32 × (Nat → Int32)) (fun z H locs ls w26 => q_F (0 ≤ z.1.toInt) ∧ q_F (z.1.toInt ≤ N3.toInt) ∧ q_Wd D g (va_A ws sz) s w26 H locs ∧ lv_has ls 4 [(3, .int z.1), (0, .ref (q 119)), (1, .int x2), (2, .ref (q k3))] ∧ q_I (msh g q) q w26 ∧ q_un ws w26 [k3] ∧ w26[119]? = (some (q 119, .inr (13, [.int t0_0, .int t0_1, .ref (q 120), .int t0_2, .ref (q 121), .ref (q 122), .ref (q 123), .int t0_3, .ref (q 124), .ref (q 125), .ref (q 126), .ref (q 127), .ref (q 128), .ref (q 129), .ref (q 130), .ref (q 131), .int t0_4, .int t0_5, .ref (q 132), .ref (q 133), .int t0_6])) : Option (Nat × va_E)) ∧ w26[121]? = (some (q 121, .inl (g 0, (1408 : Int32).toNatClampNeg, .inl t1_0)) : Option (Nat × va_E)) ∧ w26[k3]? = (some (q k3, .inl (g 0, N3.toNatClampNeg, .inl z.2)) : Option (Nat × va_E)) ∧ (∃ n, (20200 - z.1.toInt).toNat < n ∧ F_WR_take_L2 x2 N3 t0_0 t0_1 t0_2 t0_3 t0_4 t0_5 t0_6 t1_0 t2_0 n z.1 z.2 = (F_WR_take x2 N3 t0_0 t0_1 t0_2 t0_3 t0_4 t0_5 t0_6 t1_0 t2_0) ∧ True ∧ S_WR_take_L2 x2 N3 t0_0 t0_1 t0_2 t0_3 t0_4 t0_5 t0_6 t1_0 t2_0 n z.1 z.2)) (fun z => (20200 - z.1.toInt).toNat) ?_ ((0 : Int32), (t2_0 : (Nat → Int32))) _ _ _ ws ⟨(show q_F (0 ≤ 0) from (show 0 ≤ 0 from by omega)), (show q_F (0 ≤ N3.toInt) from (show 0 ≤ N3.toInt from by have t1 : 0 ≤ N3.toInt ∧ N3.toInt ≤ 20200 := hfk30; omega)), V, q_lw hl (q_lw1 0 rfl (q_lw1 1 rfl (q_lw1 2 rfl (q_lw1 3 rfl q_lw0)))), hI, hF, hT0, hT1, hT2, ⟨((20200 - (0 : Int32).toInt).toNat + 1), Nat.lt_succ_self _, (show F_WR_take_L2 x2 N3 t0_0 t0_1 t0_2 t0_3 t0_4 t0_5 t0_6 t1_0 t2_0 ((20200 - (0 : Int32).toInt).toNat + 1) 0 t2_0 = (F_WR_take x2 N3 t0_0 t0_1 t0_2 t0_3 t0_4 t0_5 t0_6 t1_0 t2_0) from (by rw [F_WR_take.eq_1])), (show True ∧ S_WR_take_L2 x2 N3 t0_0 t0_1 t0_2 t0_3 t0_4 t0_5 t0_6 t1_0 t2_0 ((20200 - (0 : Int32).toInt).toNat + 1) 0 t2_0 from (by have h := hS; rw [S_WR_take.eq_1] at h; with_reducible exact h))⟩⟩
  rintro ⟨lx21, lx22⟩ H locs ls w26 ⟨i23, i24, V, hl, hI, hF, hO27, hO28, hO29, ⟨fu32, hf33, hR30, hS31⟩⟩ ih25
  obtain ⟨fm34, rfl⟩ : ∃ m, fu32 = m + 1 := ⟨fu32 - 1, by omega⟩
  replace i23 : q_F (0 ≤ lx21.toInt) := i23
  replace i24 : q_F (lx21.toInt ≤ N3.toInt) := i24
  replace hl : lv_has ls 4 [(3, .int lx21), (0, .ref (q 119)), (1, .int x2), (2, .ref (q k3))] := hl
  replace hO27 : w26[119]? = (some (q 119, .inr (13, [.int t0_0, .int t0_1, .ref (q 120), .int t0_2, .ref (q 121), .ref (q 122), .ref (q 123), .int t0_3, .ref (q 124), .ref (q 125), .ref (q 126), .ref (q 127), .ref (q 128), .ref (q 129), .ref (q 130), .ref (q 131), .int t0_4, .int t0_5, .ref (q 132), .ref (q 133), .int t0_6])) : Option (Nat × va_E)) := hO27
  replace hO28 : w26[121]? = (some (q 121, .inl (g 0, (1408 : Int32).toNatClampNeg, .inl t1_0)) : Option (Nat × va_E)) := hO28
  replace hO29 : w26[k3]? = (some (q k3, .inl (g 0, N3.toNatClampNeg, .inl lx22)) : Option (Nat × va_E)) := hO29
  refine lv_iload_n hx hb d_19_6_2 rfl (lv_at hl 0 rfl) ?_
  refine lv_aload_n hx hb d_19_6_3 rfl (lv_at hl 3 rfl) ?_
  refine q_alen (t := 0) (v := N3) C0 V hO29 rfl (s_len (by first | with_reducible exact (q_fe hfk30).2 | with_reducible exact (q_fe hfk30).1 | (have t1 : 0 ≤ N3.toInt ∧ N3.toInt ≤ 20200 := hfk30; omega))) d_19_6_4 ?_
  refine lv_icmp_ge (tgt := 40) hx hb d_19_6_5 (by decide) (fun c35 => ?_) (fun c35 => ?_)
  ·
    exact q_retv C0 V (⟨hI, hF, lx22, hO29, (show lx22 = (F_WR_take x2 N3 t0_0 t0_1 t0_2 t0_3 t0_4 t0_5 t0_6 t1_0 t2_0) from Eq.trans (by rw [F_WR_take_L2.eq_2, if_pos c35]) hR30)⟩) d_19_6_40
  ·
    have b37 : q_F (lx21.toInt < N3.toInt) := (q_nleI c35)
    refine lv_aload_n hx hb d_19_6_8 rfl (lv_at hl 3 rfl) ?_
    refine lv_iload_n hx hb d_19_6_9 rfl (lv_at hl 0 rfl) ?_
    refine lv_iload_n hx hb d_19_6_10 rfl (lv_at hl 0 rfl) ?_
    refine lv_sipush (v := 128) hx hb d_19_6_11 (by decide) ?_
    refine lv_icmp_ge (tgt := 32) hx hb d_19_6_14 (by decide) (fun c38 => ?_) (fun c38 => ?_)
    ·
      refine lv_iconst (v := 0) hx hb d_19_6_32 (by decide) ?_
      have ne42 := q_df hO29 hO27
      refine q_iast C0 V hO29 (q_ix (x := lx21.toInt) rfl (by first | with_reducible exact q_fe i23 | (have t1 : 0 ≤ lx21.toInt := i23; omega)) (by have t1 : 0 ≤ lx21.toInt := i23; have t2 : lx21.toInt < N3.toInt := b37; have e9 := q_clI (i := N3) rfl (by first | with_reducible exact (q_fe hfk30).2 | with_reducible exact (q_fe hfk30).1 | (have t1 : 0 ≤ N3.toInt ∧ N3.toInt ≤ 20200 := hfk30; omega)); omega)) d_19_6_33 (fun H locs w40 hu41 hO29 V => ?_)
      replace hI := n_ai' hI hB3.1 hu41 hO29 (q_updB (fun _ => s_bnd) s_bnd)
      replace hO27 := (hu41 _ (Ne.symm ne42)).trans hO27
      replace hO28 := (hu41 _ (by have z := ne_k3_121; omega)).trans hO28
      replace hF := q_us hF hu41 (by simp)
      obtain ⟨f43, e44⟩ := q_nm (upd lx22 lx21.toNatClampNeg 0 : (Nat → Int32))
      rw [e44] at hO29
      obtain ⟨a45, e46⟩ := q_nm (lx21 + 1 : Int32)
      have b47 : q_F (a45.toInt = lx21.toInt + 1) := (by rw [← e46]; exact q_addI (y := 1) rfl (by decide) (by have t1 : 0 ≤ lx21.toInt := i23; have t2 : lx21.toInt < N3.toInt := b37; have _ := q_lo32 (x := N3); have _ := q_hi32 (x := N3); omega) (by have t1 : 0 ≤ lx21.toInt := i23; have t2 : lx21.toInt < N3.toInt := b37; have _ := q_lo32 (x := N3); have _ := q_hi32 (x := N3); omega))
      refine lv_iinc (v := a45) (lv' := [(3, .int a45), (0, .ref (q 119)), (1, .int x2), (2, .ref (q k3))]) hx hb d_19_6_34 hl (k := 0) rfl (e46) (by decide) rfl (fun ls hl => ?_)
      refine lv_goto (tgt := 2) hx hb d_19_6_37 (by decide) ?_
      exact ih25 ((a45 : Int32), (f43 : (Nat → Int32))) _ _ _ _ (show (20200 - a45.toInt).toNat < (20200 - lx21.toInt).toNat from by have t1 : a45.toInt = lx21.toInt + 1 := b47; have t2 : 0 ≤ N3.toInt ∧ N3.toInt ≤ 20200 := hfk30; have t3 : lx21.toInt ≤ N3.toInt := i24; have t4 : lx21.toInt < N3.toInt := b37; omega) ⟨(show q_F (0 ≤ a45.toInt) from (show 0 ≤ a45.toInt from by have t1 : 0 ≤ lx21.toInt := i23; have t2 : a45.toInt = lx21.toInt + 1 := b47; omega)), (show q_F (a45.toInt ≤ N3.toInt) from (show a45.toInt ≤ N3.toInt from by have t1 : lx21.toInt < N3.toInt := b37; have t2 : a45.toInt = lx21.toInt + 1 := b47; omega)), V, q_lw hl (q_lw1 0 rfl (q_lw1 1 rfl (q_lw1 2 rfl (q_lw1 3 rfl q_lw0)))), hI, hF, hO27, hO28, hO29, ⟨fm34, Nat.lt_of_lt_of_le (show (20200 - a45.toInt).toNat < (20200 - lx21.toInt).toNat from by have t1 : a45.toInt = lx21.toInt + 1 := b47; have t2 : 0 ≤ N3.toInt ∧ N3.toInt ≤ 20200 := hfk30; have t3 : lx21.toInt ≤ N3.toInt := i24; have t4 : lx21.toInt < N3.toInt := b37; omega) (Nat.le_of_lt_succ hf33), (show F_WR_take_L2 x2 N3 t0_0 t0_1 t0_2 t0_3 t0_4 t0_5 t0_6 t1_0 t2_0 fm34 a45 f43 = (F_WR_take x2 N3 t0_0 t0_1 t0_2 t0_3 t0_4 t0_5 t0_6 t1_0 t2_0) from Eq.trans (by rw [← e46, ← e44, F_WR_take_L2.eq_2, if_neg c35, if_pos c38]) hR30), (show True ∧ S_WR_take_L2 x2 N3 t0_0 t0_1 t0_2 t0_3 t0_4 t0_5 t0_6 t1_0 t2_0 fm34 a45 f43 from (by rw [← e46, ← e44]; have h := hS31; rw [S_WR_take_L2.eq_2] at h; rw [if_neg c35] at h; rw [if_pos c38] at h; with_reducible exact h))⟩⟩
    ·
      have b48 : q_F (lx21.toInt < 128) := (q_nleI c38)
      refine lv_aload_n hx hb d_19_6_17 rfl (lv_at hl 1 rfl) ?_
      refine q_get (ci := 13) (j := 4) (v := .ref (q 121)) C0 V i_WR rfl rfl hO27 (by decide) w_1928 rfl d_19_6_18 ?_
      refine lv_sipush (v := 128) hx hb d_19_6_21 (by decide) ?_
      refine lv_iload_n hx hb d_19_6_24 rfl (lv_at hl 2 rfl) ?_
      refine lv_imul hx hb d_19_6_25 ?_
      obtain ⟨a49, e50⟩ := q_nm (128 * x2 : Int32)
      refine q_ti (v := a49) e50 ?_
      refine lv_iload_n hx hb d_19_6_26 rfl (lv_at hl 0 rfl) ?_
      refine lv_iadd hx hb d_19_6_27 ?_
      obtain ⟨a51, e52⟩ := q_nm (a49 + lx21 : Int32)
      refine q_ti (v := a51) e52 ?_
      have ob53 : q_F (0 ≤ a51.toInt) := (by rw [← e52, ← e50]; have h := hS31; rw [S_WR_take_L2.eq_2] at h; rw [if_neg c35] at h; rw [if_neg c38] at h; exact h.2.1)
      have ob54 : q_F (a51.toInt ≤ 1407) := (by rw [← e52, ← e50]; have h := hS31; rw [S_WR_take_L2.eq_2] at h; rw [if_neg c35] at h; rw [if_neg c38] at h; replace h := q_s2 h; exact h.2.1)
      refine q_iald C0 V hO28 (q_ix (x := a51.toInt) rfl (by first | with_reducible exact q_fe ob53 | (have t1 : 0 ≤ a51.toInt := ob53; omega)) (by have t1 : 0 ≤ a51.toInt := ob53; have t2 : a51.toInt ≤ 1407 := ob54; have e9 : (((1408 : Int32).toNatClampNeg : Nat) : Int) = 1408 := (by decide); omega)) d_19_6_28 ?_
      obtain ⟨a55, e56⟩ := q_nm (t1_0 a51.toNatClampNeg : Int32)
      refine q_ti (v := a55) e56 ?_
      refine lv_goto (tgt := 33) hx hb d_19_6_29 (by decide) ?_
      have ne59 := q_df hO29 hO27
      refine q_iast C0 V hO29 (q_ix (x := lx21.toInt) rfl (by first | with_reducible exact q_fe i23 | (have t1 : 0 ≤ lx21.toInt := i23; omega)) (by have t1 : 0 ≤ lx21.toInt := i23; have t2 : lx21.toInt < N3.toInt := b37; have e9 := q_clI (i := N3) rfl (by first | with_reducible exact (q_fe hfk30).2 | with_reducible exact (q_fe hfk30).1 | (have t1 : 0 ≤ N3.toInt ∧ N3.toInt ≤ 20200 := hfk30; omega)); omega)) d_19_6_33 (fun H locs w57 hu58 hO29 V => ?_)
      replace hI := n_ai' hI hB3.1 hu58 hO29 (q_updB (fun _ => s_bnd) s_bnd)
      replace hO27 := (hu58 _ (Ne.symm ne59)).trans hO27
      replace hO28 := (hu58 _ (by have z := ne_k3_121; omega)).trans hO28
      replace hF := q_us hF hu58 (by simp)
      obtain ⟨f60, e61⟩ := q_nm (upd lx22 lx21.toNatClampNeg a55 : (Nat → Int32))
      rw [e61] at hO29
      obtain ⟨a62, e63⟩ := q_nm (lx21 + 1 : Int32)
      have b64 : q_F (a62.toInt = lx21.toInt + 1) := (by rw [← e63]; exact q_addI (y := 1) rfl (by decide) (by have t1 : 0 ≤ lx21.toInt := i23; have t2 : lx21.toInt < 128 := b48; omega) (by have t1 : 0 ≤ lx21.toInt := i23; have t2 : lx21.toInt < 128 := b48; omega))
      refine lv_iinc (v := a62) (lv' := [(3, .int a62), (0, .ref (q 119)), (1, .int x2), (2, .ref (q k3))]) hx hb d_19_6_34 hl (k := 0) rfl (e63) (by decide) rfl (fun ls hl => ?_)
      refine lv_goto (tgt := 2) hx hb d_19_6_37 (by decide) ?_
      exact ih25 ((a62 : Int32), (f60 : (Nat → Int32))) _ _ _ _ (show (20200 - a62.toInt).toNat < (20200 - lx21.toInt).toNat from by have t1 : a62.toInt = lx21.toInt + 1 := b64; have t2 : lx21.toInt < 128 := b48; omega) ⟨(show q_F (0 ≤ a62.toInt) from (show 0 ≤ a62.toInt from by have t1 : 0 ≤ lx21.toInt := i23; have t2 : a62.toInt = lx21.toInt + 1 := b64; omega)), (show q_F (a62.toInt ≤ N3.toInt) from (show a62.toInt ≤ N3.toInt from by have t1 : lx21.toInt < N3.toInt := b37; have t2 : a62.toInt = lx21.toInt + 1 := b64; omega)), V, q_lw hl (q_lw1 0 rfl (q_lw1 1 rfl (q_lw1 2 rfl (q_lw1 3 rfl q_lw0)))), hI, hF, hO27, hO28, hO29, ⟨fm34, Nat.lt_of_lt_of_le (show (20200 - a62.toInt).toNat < (20200 - lx21.toInt).toNat from by have t1 : a62.toInt = lx21.toInt + 1 := b64; have t2 : lx21.toInt < 128 := b48; omega) (Nat.le_of_lt_succ hf33), (show F_WR_take_L2 x2 N3 t0_0 t0_1 t0_2 t0_3 t0_4 t0_5 t0_6 t1_0 t2_0 fm34 a62 f60 = (F_WR_take x2 N3 t0_0 t0_1 t0_2 t0_3 t0_4 t0_5 t0_6 t1_0 t2_0) from Eq.trans (by rw [← e63, ← e61, ← e56, ← e52, ← e50, F_WR_take_L2.eq_2, if_neg c35, if_neg c38]) hR30), (show True ∧ S_WR_take_L2 x2 N3 t0_0 t0_1 t0_2 t0_3 t0_4 t0_5 t0_6 t1_0 t2_0 fm34 a62 f60 from (by rw [← e63, ← e61, ← e56, ← e52, ← e50]; have h := hS31; rw [S_WR_take_L2.eq_2] at h; rw [if_neg c35] at h; rw [if_neg c38] at h; replace h := q_s2 h; replace h := q_s2 h; with_reducible exact h))⟩⟩
theorem d_19_13_0 : decode prog_19_method_13_code 0 = .ok (.aload_n 0, 1) := by decide +kernel
theorem d_19_13_1 : decode prog_19_method_13_code 1 = .ok (.getfield 26, 3) := by decide +kernel
theorem d_19_13_4 : decode prog_19_method_13_code 4 = .ok (.invokestatic 63, 3) := by decide +kernel
set_option maxRecDepth 100000 in
theorem w_2377 : (Cond.code ({ cls := "NumberHouseModel$WholeRows", name := "clear", desc := "([I)V" } : MethodName) prog_19_method_4_code (2 : Nat) (none : Option ClassFile.FieldType)) ∈ q_tbl := q_of10 217 rfl (by decide +kernel)
set_option maxRecDepth 100000 in
theorem w_2375 : (Cond.methodLink "NumberHouseModel$WholeRows" (63 : Nat) ({ cls := "NumberHouseModel$WholeRows", name := "clear", desc := "([I)V" } : MethodName)) ∈ q_tbl := q_of10 215 rfl (by decide +kernel)
set_option maxRecDepth 100000 in
theorem w_2376 : (Cond.static ({ cls := "NumberHouseModel$WholeRows", name := "clear", desc := "([I)V" } : MethodName)) ∈ q_tbl := q_of10 216 rfl (by decide +kernel)
theorem LS_WR_63 : q_LS "NumberHouseModel$WholeRows" 63 y_WR_clear prog_19_method_4_code 2 none 1 := ⟨w_2377, w_15, w_2375, w_2376, ⟨by decide, by decide, by decide +kernel⟩⟩
theorem d_19_13_7 : decode prog_19_method_13_code 7 = .ok (.aload_n 1, 1) := by decide +kernel
theorem d_19_13_8 : decode prog_19_method_13_code 8 = .ok (.invokestatic 59, 3) := by decide +kernel
theorem d_19_13_11 : decode prog_19_method_13_code 11 = .ok (.istore 4, 2) := by decide +kernel
theorem d_19_13_13 : decode prog_19_method_13_code 13 = .ok (.aload_n 2, 1) := by decide +kernel
theorem d_19_13_14 : decode prog_19_method_13_code 14 = .ok (.invokestatic 59, 3) := by decide +kernel
theorem d_19_13_17 : decode prog_19_method_13_code 17 = .ok (.istore 5, 2) := by decide +kernel
theorem d_19_13_19 : decode prog_19_method_13_code 19 = .ok (.iconst 0, 1) := by decide +kernel
theorem d_19_13_20 : decode prog_19_method_13_code 20 = .ok (.istore 6, 2) := by decide +kernel
theorem d_19_13_22 : decode prog_19_method_13_code 22 = .ok (.iload 6, 2) := by decide +kernel
theorem d_19_13_24 : decode prog_19_method_13_code 24 = .ok (.iload 4, 2) := by decide +kernel
theorem d_19_13_26 : decode prog_19_method_13_code 26 = .ok (.if_icmp .ge 98, 3) := by decide +kernel
theorem d_19_13_124 : decode prog_19_method_13_code 124 = .ok (.aload_n 0, 1) := by decide +kernel
theorem d_19_13_125 : decode prog_19_method_13_code 125 = .ok (.getfield 26, 3) := by decide +kernel
theorem d_19_13_128 : decode prog_19_method_13_code 128 = .ok (.aload_n 3, 1) := by decide +kernel
theorem d_19_13_129 : decode prog_19_method_13_code 129 = .ok (.invokestatic 67, 3) := by decide +kernel
set_option maxRecDepth 100000 in
theorem w_2692 : (Cond.code ({ cls := "NumberHouseModel$WholeRows", name := "copy", desc := "([I[I)V" } : MethodName) prog_19_method_5_code (3 : Nat) (none : Option ClassFile.FieldType)) ∈ q_tbl := q_of12 52 rfl (by decide +kernel)
set_option maxRecDepth 100000 in
theorem w_2690 : (Cond.methodLink "NumberHouseModel$WholeRows" (67 : Nat) ({ cls := "NumberHouseModel$WholeRows", name := "copy", desc := "([I[I)V" } : MethodName)) ∈ q_tbl := q_of12 50 rfl (by decide +kernel)
set_option maxRecDepth 100000 in
theorem w_2691 : (Cond.static ({ cls := "NumberHouseModel$WholeRows", name := "copy", desc := "([I[I)V" } : MethodName)) ∈ q_tbl := q_of12 51 rfl (by decide +kernel)
theorem LS_WR_67 : q_LS "NumberHouseModel$WholeRows" 67 y_WR_copy prog_19_method_5_code 3 none 2 := ⟨w_2692, w_15, w_2690, w_2691, ⟨by decide, by decide, by decide +kernel⟩⟩
theorem d_19_13_132 : decode prog_19_method_13_code 132 = .ok (.return_, 1) := by decide +kernel
theorem d_19_13_29 : decode prog_19_method_13_code 29 = .ok (.lconst 0, 1) := by decide +kernel
theorem d_19_13_30 : decode prog_19_method_13_code 30 = .ok (.lstore 7, 2) := by decide +kernel
theorem d_19_13_32 : decode prog_19_method_13_code 32 = .ok (.iconst 0, 1) := by decide +kernel
theorem d_19_13_33 : decode prog_19_method_13_code 33 = .ok (.istore 9, 2) := by decide +kernel
theorem d_19_13_35 : decode prog_19_method_13_code 35 = .ok (.iload 9, 2) := by decide +kernel
theorem d_19_13_37 : decode prog_19_method_13_code 37 = .ok (.iload 5, 2) := by decide +kernel
theorem d_19_13_49 : decode prog_19_method_13_code 49 = .ok (.lload 7, 2) := by decide +kernel
theorem d_19_13_51 : decode prog_19_method_13_code 51 = .ok (.aload_n 0, 1) := by decide +kernel
theorem d_19_13_52 : decode prog_19_method_13_code 52 = .ok (.getfield 26, 3) := by decide +kernel
theorem d_19_13_55 : decode prog_19_method_13_code 55 = .ok (.iload 6, 2) := by decide +kernel
theorem d_19_13_57 : decode prog_19_method_13_code 57 = .ok (.iload 9, 2) := by decide +kernel
theorem d_19_13_59 : decode prog_19_method_13_code 59 = .ok (.iadd, 1) := by decide +kernel
theorem d_19_13_60 : decode prog_19_method_13_code 60 = .ok (.iaload, 1) := by decide +kernel
theorem d_19_13_61 : decode prog_19_method_13_code 61 = .ok (.i2l, 1) := by decide +kernel
theorem d_19_13_62 : decode prog_19_method_13_code 62 = .ok (.ladd, 1) := by decide +kernel
theorem d_19_13_63 : decode prog_19_method_13_code 63 = .ok (.iload 9, 2) := by decide +kernel
theorem d_19_13_65 : decode prog_19_method_13_code 65 = .ok (.iload 5, 2) := by decide +kernel
theorem d_19_13_85 : decode prog_19_method_13_code 85 = .ok (.ladd, 1) := by decide +kernel
theorem d_19_13_86 : decode prog_19_method_13_code 86 = .ok (.lstore 7, 2) := by decide +kernel
theorem d_19_13_88 : decode prog_19_method_13_code 88 = .ok (.aload_n 0, 1) := by decide +kernel
theorem d_19_13_89 : decode prog_19_method_13_code 89 = .ok (.getfield 26, 3) := by decide +kernel
theorem d_19_13_92 : decode prog_19_method_13_code 92 = .ok (.iload 6, 2) := by decide +kernel
theorem d_19_13_94 : decode prog_19_method_13_code 94 = .ok (.iload 9, 2) := by decide +kernel
theorem d_19_13_96 : decode prog_19_method_13_code 96 = .ok (.iadd, 1) := by decide +kernel
theorem d_19_13_97 : decode prog_19_method_13_code 97 = .ok (.lload 7, 2) := by decide +kernel
theorem d_19_13_99 : decode prog_19_method_13_code 99 = .ok (.ldc2_w 57, 3) := by decide +kernel
theorem d_19_13_102 : decode prog_19_method_13_code 102 = .ok (.land, 1) := by decide +kernel
theorem d_19_13_103 : decode prog_19_method_13_code 103 = .ok (.l2i, 1) := by decide +kernel
theorem d_19_13_104 : decode prog_19_method_13_code 104 = .ok (.iastore, 1) := by decide +kernel
theorem d_19_13_105 : decode prog_19_method_13_code 105 = .ok (.lload 7, 2) := by decide +kernel
theorem d_19_13_107 : decode prog_19_method_13_code 107 = .ok (.bipush 16, 2) := by decide +kernel
theorem d_19_13_109 : decode prog_19_method_13_code 109 = .ok (.lshr, 1) := by decide +kernel
theorem d_19_13_110 : decode prog_19_method_13_code 110 = .ok (.lstore 7, 2) := by decide +kernel
theorem d_19_13_112 : decode prog_19_method_13_code 112 = .ok (.iinc 9 1, 3) := by decide +kernel
theorem d_19_13_115 : decode prog_19_method_13_code 115 = .ok (.goto (-80), 3) := by decide +kernel
theorem d_19_13_67 : decode prog_19_method_13_code 67 = .ok (.if_icmp .ge 17, 3) := by decide +kernel
theorem d_19_13_84 : decode prog_19_method_13_code 84 = .ok (.lconst 0, 1) := by decide +kernel
theorem d_19_13_70 : decode prog_19_method_13_code 70 = .ok (.aload_n 1, 1) := by decide +kernel
theorem d_19_13_71 : decode prog_19_method_13_code 71 = .ok (.iload 6, 2) := by decide +kernel
theorem d_19_13_73 : decode prog_19_method_13_code 73 = .ok (.iaload, 1) := by decide +kernel
theorem d_19_13_74 : decode prog_19_method_13_code 74 = .ok (.i2l, 1) := by decide +kernel
theorem d_19_13_75 : decode prog_19_method_13_code 75 = .ok (.aload_n 2, 1) := by decide +kernel
theorem d_19_13_76 : decode prog_19_method_13_code 76 = .ok (.iload 9, 2) := by decide +kernel
theorem d_19_13_78 : decode prog_19_method_13_code 78 = .ok (.iaload, 1) := by decide +kernel
theorem d_19_13_79 : decode prog_19_method_13_code 79 = .ok (.i2l, 1) := by decide +kernel
theorem d_19_13_80 : decode prog_19_method_13_code 80 = .ok (.lmul, 1) := by decide +kernel
theorem d_19_13_81 : decode prog_19_method_13_code 81 = .ok (.goto 4, 3) := by decide +kernel
theorem d_19_13_39 : decode prog_19_method_13_code 39 = .ok (.if_icmp .lt 10, 3) := by decide +kernel
theorem d_19_13_42 : decode prog_19_method_13_code 42 = .ok (.lload 7, 2) := by decide +kernel
theorem d_19_13_44 : decode prog_19_method_13_code 44 = .ok (.lconst 0, 1) := by decide +kernel
theorem d_19_13_45 : decode prog_19_method_13_code 45 = .ok (.lcmp, 1) := by decide +kernel
theorem d_19_13_46 : decode prog_19_method_13_code 46 = .ok (.ifCond .eq 72, 3) := by decide +kernel
theorem d_19_13_118 : decode prog_19_method_13_code 118 = .ok (.iinc 6 1, 3) := by decide +kernel
theorem d_19_13_121 : decode prog_19_method_13_code 121 = .ok (.goto (-99), 3) := by decide +kernel
def y_WR_multiplyRows : MethodName := ⟨"NumberHouseModel$WholeRows", "multiplyRows", "([I[I[I)V"⟩
def F_WR_multiplyRows_J85 (K_F_WR_multiplyRows_L22 : Int32 → (Nat → Int32) → ((Nat → Int32) × (Nat → Int32))) (K_F_WR_multiplyRows_L35 : Int32 → Int64 → (Nat → Int32) → ((Nat → Int32) × (Nat → Int32))) (N2 : Int32) (N3 : Int32) (N4 : Int32) (t0_0 : Int32) (t0_1 : Int32) (t0_2 : Int32) (t0_3 : Int32) (t0_4 : Int32) (t0_5 : Int32) (t0_6 : Int32) (t1_0 : (Nat → Int32)) (t2_0 : (Nat → Int32)) (t3_0 : (Nat → Int32)) (t4_0 : (Nat → Int32)) (a42 : Int32) (a35 : Int32) (lx48 : Int32) (lx49 : (Nat → Int32)) (lx77 : Int32) (lx78 : Int64) (lx79 : (Nat → Int32)) (j114 : Int64) (lx116 : Int64) : (Nat → Int32) × (Nat → Int32) := K_F_WR_multiplyRows_L35 (lx77 + 1 : Int32) ((j114 + lx116 : Int64) >>> ((16 : Int32).toInt64 &&& 63) : Int64) (upd lx79 (lx48 + lx77 : Int32).toNatClampNeg (((j114 + lx116 : Int64) &&& 65535 : Int64).toInt32 : Int32) : (Nat → Int32))
def F_WR_multiplyRows_J49 (K_F_WR_multiplyRows_L22 : Int32 → (Nat → Int32) → ((Nat → Int32) × (Nat → Int32))) (K_F_WR_multiplyRows_L35 : Int32 → Int64 → (Nat → Int32) → ((Nat → Int32) × (Nat → Int32))) (N2 : Int32) (N3 : Int32) (N4 : Int32) (t0_0 : Int32) (t0_1 : Int32) (t0_2 : Int32) (t0_3 : Int32) (t0_4 : Int32) (t0_5 : Int32) (t0_6 : Int32) (t1_0 : (Nat → Int32)) (t2_0 : (Nat → Int32)) (t3_0 : (Nat → Int32)) (t4_0 : (Nat → Int32)) (a42 : Int32) (a35 : Int32) (lx48 : Int32) (lx49 : (Nat → Int32)) (lx77 : Int32) (lx78 : Int64) (lx79 : (Nat → Int32)) : (Nat → Int32) × (Nat → Int32) := if a42 ≤ lx77 then (F_WR_multiplyRows_J85 K_F_WR_multiplyRows_L22 K_F_WR_multiplyRows_L35 N2 N3 N4 t0_0 t0_1 t0_2 t0_3 t0_4 t0_5 t0_6 t1_0 t2_0 t3_0 t4_0 a42 a35 lx48 lx49 lx77 lx78 lx79 (lx78 + ((lx79 (lx48 + lx77 : Int32).toNatClampNeg : Int32).toInt64 : Int64) : Int64) 0) else (F_WR_multiplyRows_J85 K_F_WR_multiplyRows_L22 K_F_WR_multiplyRows_L35 N2 N3 N4 t0_0 t0_1 t0_2 t0_3 t0_4 t0_5 t0_6 t1_0 t2_0 t3_0 t4_0 a42 a35 lx48 lx49 lx77 lx78 lx79 (lx78 + ((lx79 (lx48 + lx77 : Int32).toNatClampNeg : Int32).toInt64 : Int64) : Int64) (((t2_0 lx48.toNatClampNeg : Int32).toInt64 : Int64) * ((t3_0 lx77.toNatClampNeg : Int32).toInt64 : Int64) : Int64))
def F_WR_multiplyRows_L35 (K_F_WR_multiplyRows_L22 : Int32 → (Nat → Int32) → ((Nat → Int32) × (Nat → Int32))) (N2 : Int32) (N3 : Int32) (N4 : Int32) (t0_0 : Int32) (t0_1 : Int32) (t0_2 : Int32) (t0_3 : Int32) (t0_4 : Int32) (t0_5 : Int32) (t0_6 : Int32) (t1_0 : (Nat → Int32)) (t2_0 : (Nat → Int32)) (t3_0 : (Nat → Int32)) (t4_0 : (Nat → Int32)) (a42 : Int32) (a35 : Int32) (lx48 : Int32) (lx49 : (Nat → Int32)) : Nat → Int32 → Int64 → (Nat → Int32) → ((Nat → Int32) × (Nat → Int32))
  | 0, _, _, _ => default
  | fm + 1, lx77, lx78, lx79 => if lx77 < a42 then (F_WR_multiplyRows_J49 K_F_WR_multiplyRows_L22 (F_WR_multiplyRows_L35 K_F_WR_multiplyRows_L22 N2 N3 N4 t0_0 t0_1 t0_2 t0_3 t0_4 t0_5 t0_6 t1_0 t2_0 t3_0 t4_0 a42 a35 lx48 lx49 fm) N2 N3 N4 t0_0 t0_1 t0_2 t0_3 t0_4 t0_5 t0_6 t1_0 t2_0 t3_0 t4_0 a42 a35 lx48 lx49 lx77 lx78 lx79) else (if (lg_cmp lx78 0 : Int32) = (0 : Int32) then (K_F_WR_multiplyRows_L22 (lx48 + 1 : Int32) lx79) else (F_WR_multiplyRows_J49 K_F_WR_multiplyRows_L22 (F_WR_multiplyRows_L35 K_F_WR_multiplyRows_L22 N2 N3 N4 t0_0 t0_1 t0_2 t0_3 t0_4 t0_5 t0_6 t1_0 t2_0 t3_0 t4_0 a42 a35 lx48 lx49 fm) N2 N3 N4 t0_0 t0_1 t0_2 t0_3 t0_4 t0_5 t0_6 t1_0 t2_0 t3_0 t4_0 a42 a35 lx48 lx49 lx77 lx78 lx79))
def F_WR_multiplyRows_L22 (N2 : Int32) (N3 : Int32) (N4 : Int32) (t0_0 : Int32) (t0_1 : Int32) (t0_2 : Int32) (t0_3 : Int32) (t0_4 : Int32) (t0_5 : Int32) (t0_6 : Int32) (t1_0 : (Nat → Int32)) (t2_0 : (Nat → Int32)) (t3_0 : (Nat → Int32)) (t4_0 : (Nat → Int32)) (a42 : Int32) (a35 : Int32) : Nat → Int32 → (Nat → Int32) → ((Nat → Int32) × (Nat → Int32))
  | 0, _, _ => default
  | fm + 1, lx48, lx49 => if a35 ≤ lx48 then ((lx49, ((F_WR_copy (528 : Int32) N4 lx49 t4_0) : (Nat → Int32)))) else (F_WR_multiplyRows_L35 (F_WR_multiplyRows_L22 N2 N3 N4 t0_0 t0_1 t0_2 t0_3 t0_4 t0_5 t0_6 t1_0 t2_0 t3_0 t4_0 a42 a35 fm) N2 N3 N4 t0_0 t0_1 t0_2 t0_3 t0_4 t0_5 t0_6 t1_0 t2_0 t3_0 t4_0 a42 a35 lx48 lx49 ((2100 - (0 : Int32).toInt).toNat + 1) 0 0 lx49)
def F_WR_multiplyRows (N2 : Int32) (N3 : Int32) (N4 : Int32) (t0_0 : Int32) (t0_1 : Int32) (t0_2 : Int32) (t0_3 : Int32) (t0_4 : Int32) (t0_5 : Int32) (t0_6 : Int32) (t1_0 : (Nat → Int32)) (t2_0 : (Nat → Int32)) (t3_0 : (Nat → Int32)) (t4_0 : (Nat → Int32)) : (Nat → Int32) × (Nat → Int32) := F_WR_multiplyRows_L22 N2 N3 N4 t0_0 t0_1 t0_2 t0_3 t0_4 t0_5 t0_6 t1_0 t2_0 t3_0 t4_0 ((F_WR_size N3 t3_0) : Int32) ((F_WR_size N2 t2_0) : Int32) ((20200 - (0 : Int32).toInt).toNat + 1) 0 ((F_WR_clear (528 : Int32) t1_0) : (Nat → Int32))
def S_WR_multiplyRows_J85 (K_S_WR_multiplyRows_L22 : Int32 → (Nat → Int32) → Prop) (K_S_WR_multiplyRows_L35 : Int32 → Int64 → (Nat → Int32) → Prop) (N2 : Int32) (N3 : Int32) (N4 : Int32) (t0_0 : Int32) (t0_1 : Int32) (t0_2 : Int32) (t0_3 : Int32) (t0_4 : Int32) (t0_5 : Int32) (t0_6 : Int32) (t1_0 : (Nat → Int32)) (t2_0 : (Nat → Int32)) (t3_0 : (Nat → Int32)) (t4_0 : (Nat → Int32)) (a42 : Int32) (a35 : Int32) (lx48 : Int32) (lx49 : (Nat → Int32)) (lx77 : Int32) (lx78 : Int64) (lx79 : (Nat → Int32)) (j114 : Int64) (lx116 : Int64) : Prop := K_S_WR_multiplyRows_L35 (lx77 + 1 : Int32) ((j114 + lx116 : Int64) >>> ((16 : Int32).toInt64 &&& 63) : Int64) (upd lx79 (lx48 + lx77 : Int32).toNatClampNeg (((j114 + lx116 : Int64) &&& 65535 : Int64).toInt32 : Int32) : (Nat → Int32))
def S_WR_multiplyRows_J49 (K_S_WR_multiplyRows_L22 : Int32 → (Nat → Int32) → Prop) (K_S_WR_multiplyRows_L35 : Int32 → Int64 → (Nat → Int32) → Prop) (N2 : Int32) (N3 : Int32) (N4 : Int32) (t0_0 : Int32) (t0_1 : Int32) (t0_2 : Int32) (t0_3 : Int32) (t0_4 : Int32) (t0_5 : Int32) (t0_6 : Int32) (t1_0 : (Nat → Int32)) (t2_0 : (Nat → Int32)) (t3_0 : (Nat → Int32)) (t4_0 : (Nat → Int32)) (a42 : Int32) (a35 : Int32) (lx48 : Int32) (lx49 : (Nat → Int32)) (lx77 : Int32) (lx78 : Int64) (lx79 : (Nat → Int32)) : Prop := ((lx48 + lx77 : Int32).toInt ≤ 527) ∧ (if a42 ≤ lx77 then (S_WR_multiplyRows_J85 K_S_WR_multiplyRows_L22 K_S_WR_multiplyRows_L35 N2 N3 N4 t0_0 t0_1 t0_2 t0_3 t0_4 t0_5 t0_6 t1_0 t2_0 t3_0 t4_0 a42 a35 lx48 lx49 lx77 lx78 lx79 (lx78 + ((lx79 (lx48 + lx77 : Int32).toNatClampNeg : Int32).toInt64 : Int64) : Int64) 0) else (S_WR_multiplyRows_J85 K_S_WR_multiplyRows_L22 K_S_WR_multiplyRows_L35 N2 N3 N4 t0_0 t0_1 t0_2 t0_3 t0_4 t0_5 t0_6 t1_0 t2_0 t3_0 t4_0 a42 a35 lx48 lx49 lx77 lx78 lx79 (lx78 + ((lx79 (lx48 + lx77 : Int32).toNatClampNeg : Int32).toInt64 : Int64) : Int64) (((t2_0 lx48.toNatClampNeg : Int32).toInt64 : Int64) * ((t3_0 lx77.toNatClampNeg : Int32).toInt64 : Int64) : Int64)))
def S_WR_multiplyRows_L35 (K_S_WR_multiplyRows_L22 : Int32 → (Nat → Int32) → Prop) (N2 : Int32) (N3 : Int32) (N4 : Int32) (t0_0 : Int32) (t0_1 : Int32) (t0_2 : Int32) (t0_3 : Int32) (t0_4 : Int32) (t0_5 : Int32) (t0_6 : Int32) (t1_0 : (Nat → Int32)) (t2_0 : (Nat → Int32)) (t3_0 : (Nat → Int32)) (t4_0 : (Nat → Int32)) (a42 : Int32) (a35 : Int32) (lx48 : Int32) (lx49 : (Nat → Int32)) : Nat → Int32 → Int64 → (Nat → Int32) → Prop
  | 0, _, _, _ => False
  | fm + 1, lx77, lx78, lx79 => if lx77 < a42 then (S_WR_multiplyRows_J49 K_S_WR_multiplyRows_L22 (S_WR_multiplyRows_L35 K_S_WR_multiplyRows_L22 N2 N3 N4 t0_0 t0_1 t0_2 t0_3 t0_4 t0_5 t0_6 t1_0 t2_0 t3_0 t4_0 a42 a35 lx48 lx49 fm) N2 N3 N4 t0_0 t0_1 t0_2 t0_3 t0_4 t0_5 t0_6 t1_0 t2_0 t3_0 t4_0 a42 a35 lx48 lx49 lx77 lx78 lx79) else (if (lg_cmp lx78 0 : Int32) = (0 : Int32) then (K_S_WR_multiplyRows_L22 (lx48 + 1 : Int32) lx79) else (S_WR_multiplyRows_J49 K_S_WR_multiplyRows_L22 (S_WR_multiplyRows_L35 K_S_WR_multiplyRows_L22 N2 N3 N4 t0_0 t0_1 t0_2 t0_3 t0_4 t0_5 t0_6 t1_0 t2_0 t3_0 t4_0 a42 a35 lx48 lx49 fm) N2 N3 N4 t0_0 t0_1 t0_2 t0_3 t0_4 t0_5 t0_6 t1_0 t2_0 t3_0 t4_0 a42 a35 lx48 lx49 lx77 lx78 lx79))
def S_WR_multiplyRows_L22 (N2 : Int32) (N3 : Int32) (N4 : Int32) (t0_0 : Int32) (t0_1 : Int32) (t0_2 : Int32) (t0_3 : Int32) (t0_4 : Int32) (t0_5 : Int32) (t0_6 : Int32) (t1_0 : (Nat → Int32)) (t2_0 : (Nat → Int32)) (t3_0 : (Nat → Int32)) (t4_0 : (Nat → Int32)) (a42 : Int32) (a35 : Int32) : Nat → Int32 → (Nat → Int32) → Prop
  | 0, _, _ => False
  | fm + 1, lx48, lx49 => if a35 ≤ lx48 then (True) else (S_WR_multiplyRows_L35 (S_WR_multiplyRows_L22 N2 N3 N4 t0_0 t0_1 t0_2 t0_3 t0_4 t0_5 t0_6 t1_0 t2_0 t3_0 t4_0 a42 a35 fm) N2 N3 N4 t0_0 t0_1 t0_2 t0_3 t0_4 t0_5 t0_6 t1_0 t2_0 t3_0 t4_0 a42 a35 lx48 lx49 ((2100 - (0 : Int32).toInt).toNat + 1) 0 0 lx49)
def S_WR_multiplyRows (N2 : Int32) (N3 : Int32) (N4 : Int32) (t0_0 : Int32) (t0_1 : Int32) (t0_2 : Int32) (t0_3 : Int32) (t0_4 : Int32) (t0_5 : Int32) (t0_6 : Int32) (t1_0 : (Nat → Int32)) (t2_0 : (Nat → Int32)) (t3_0 : (Nat → Int32)) (t4_0 : (Nat → Int32)) : Prop := S_WR_multiplyRows_L22 N2 N3 N4 t0_0 t0_1 t0_2 t0_3 t0_4 t0_5 t0_6 t1_0 t2_0 t3_0 t4_0 ((F_WR_size N3 t3_0) : Int32) ((F_WR_size N2 t2_0) : Int32) ((20200 - (0 : Int32).toInt).toNat + 1) 0 ((F_WR_clear (528 : Int32) t1_0) : (Nat → Int32))
set_option maxRecDepth 100000 in
set_option maxHeartbeats 4000000 in
theorem X_WR_multiplyRows (l : Launch) (D : va_G) (g : Nat → ClassId) (q : Nat → Nat) (ws : va_W) (k2 : Nat) (N2 : Int32) (hB2 : q_isRow (msh g q) g k2 N2) (k3 : Nat) (N3 : Int32) (hB3 : q_isRow (msh g q) g k3 N3) (k4 : Nat) (N4 : Int32) (hB4 : q_isRow (msh g q) g k4 N4) (ne_k2_125 : k2 ≠ 125) (ne_k3_125 : k3 ≠ 125) (ne_k4_125 : k4 ≠ 125) (ne_k2_k3 : k2 ≠ k3) (ne_k2_k4 : k2 ≠ k4) (ne_k3_k4 : k3 ≠ k4) (hI : q_I (msh g q) q ws) (t0_0 : Int32) (t0_1 : Int32) (t0_2 : Int32) (t0_3 : Int32) (t0_4 : Int32) (t0_5 : Int32) (t0_6 : Int32) (hT0 : ws[119]? = (some (q 119, .inr (13, [.int t0_0, .int t0_1, .ref (q 120), .int t0_2, .ref (q 121), .ref (q 122), .ref (q 123), .int t0_3, .ref (q 124), .ref (q 125), .ref (q 126), .ref (q 127), .ref (q 128), .ref (q 129), .ref (q 130), .ref (q 131), .int t0_4, .int t0_5, .ref (q 132), .ref (q 133), .int t0_6])) : Option (Nat × va_E))) (t1_0 : (Nat → Int32)) (hT1 : ws[125]? = (some (q 125, .inl (g 0, (528 : Int32).toNatClampNeg, .inl t1_0)) : Option (Nat × va_E))) (t2_0 : (Nat → Int32)) (hT2 : ws[k2]? = (some (q k2, .inl (g 0, N2.toNatClampNeg, .inl t2_0)) : Option (Nat × va_E))) (t3_0 : (Nat → Int32)) (hT3 : ws[k3]? = (some (q k3, .inl (g 0, N3.toNatClampNeg, .inl t3_0)) : Option (Nat × va_E))) (t4_0 : (Nat → Int32)) (hT4 : ws[k4]? = (some (q k4, .inl (g 0, N4.toNatClampNeg, .inl t4_0)) : Option (Nat × va_E))) (hS : True ∧ S_WR_multiplyRows N2 N3 N4 t0_0 t0_1 t0_2 t0_3 t0_4 t0_5 t0_6 t1_0 t2_0 t3_0 t4_0) : q_mV l y_WR_multiplyRows prog_19_method_13_code 10 2 0 0 D g [.ref (q 119), .ref (q k2), .ref (q k3), .ref (q k4)] ws (fun u => q_I (msh g q) q u ∧ q_un ws u [125, k4] ∧ ∃ (u1_0 : (Nat → Int32)) (u4_0 : (Nat → Int32)), u[125]? = (some (q 125, .inl (g 0, (528 : Int32).toNatClampNeg, .inl u1_0)) : Option (Nat × va_E)) ∧ u[k4]? = (some (q k4, .inl (g 0, N4.toNatClampNeg, .inl u4_0)) : Option (Nat × va_E)) ∧ (u1_0, u4_0) = (F_WR_multiplyRows N2 N3 N4 t0_0 t0_1 t0_2 t0_3 t0_4 t0_5 t0_6 t1_0 t2_0 t3_0 t4_0)) := by
  intro sz
  refine q_into (by decide) (Nat.le_of_ble_eq_true rfl) ?_
  intro p e s m below meth c ls hsz C0 V hl
  have hx := C0.1
  have hb := C0.2.1
  have hfk20 : q_F (0 ≤ N2.toInt ∧ N2.toInt ≤ 20200) := hB2.2
  have hfk30 : q_F (0 ≤ N3.toInt ∧ N3.toInt ≤ 20200) := hB3.2
  have hZ9 := (n_w119 hI hT0).2.2.2
  obtain ⟨-, btt0_6⟩ := hZ9
  clear btt0_6
  have hF : q_un ws ws [125, k4] := q_u0
  have hl : lv_has ls 10 [(0, .ref (q 119)), (1, .ref (q k2)), (2, .ref (q k3)), (3, .ref (q k4))] := hl
  refine lv_aload_n hx hb d_19_13_0 rfl (lv_at hl 0 rfl) ?_
  refine q_get (ci := 13) (j := 9) (v := .ref (q 125)) C0 V i_WR rfl rfl hT0 (by decide) w_1933 rfl d_19_13_1 ?_
  refine q_gov V (q_runS (As := [.ref (q 125)]) (rest := []) (d := 1) (mc := 0) (ms := 0) C0 V rfl LS_WR_63 (X_WR_clear l D g q ws 125 528 (n_r125 g q)  hI t1_0 hT1  _) rfl hl.1 rfl (Nat.le_of_ble_eq_true rfl) ⟨by decide, by decide⟩ ⟨Nat.le_of_ble_eq_true rfl, Nat.le_of_ble_eq_true rfl⟩ d_19_13_4) (fun u26 H locs hp27 V => ?_)
  obtain ⟨hI, hu31, f28, hA29, hE30⟩ := hp27
  replace hA29 : u26[125]? = (some (q 125, .inl (g 0, (528 : Int32).toNatClampNeg, .inl f28)) : Option (Nat × va_E)) := hA29
  have e32 : f28 = (F_WR_clear (528 : Int32) t1_0) := hE30
  replace hT0 := (hu31 _ (by decide)).trans hT0
  replace hT2 := (hu31 _ (by simp only [List.mem_cons, List.not_mem_nil, or_false, not_or]; omega)).trans hT2
  replace hT3 := (hu31 _ (by simp only [List.mem_cons, List.not_mem_nil, or_false, not_or]; omega)).trans hT3
  replace hT4 := (hu31 _ (by simp only [List.mem_cons, List.not_mem_nil, or_false, not_or]; omega)).trans hT4
  replace hF := q_uc hF hu31 (by simp)
  refine lv_aload_n hx hb d_19_13_7 rfl (lv_at hl 1 rfl) ?_
  refine q_goi V (q_runS (As := [.ref (q k2)]) (rest := []) (d := 1) (mc := 0) (ms := 0) C0 V rfl LS_WR_59 (X_WR_size l D g q u26 k2 N2 hB2  hI t2_0 hT2  _) rfl hl.1 rfl (Nat.le_of_ble_eq_true rfl) ⟨by decide, by decide⟩ ⟨Nat.le_of_ble_eq_true rfl, Nat.le_of_ble_eq_true rfl⟩ d_19_13_8) (fun a35 u33 H locs hp34 V => ?_)
  obtain ⟨rfl, b36, b37, hE38⟩ := hp34
  have e39 : a35 = (F_WR_size N2 t2_0) := hE38
  replace b36 : q_F (0 ≤ a35.toInt) := b36
  replace b37 : q_F (a35.toInt ≤ N2.toInt) := b37
  refine lv_istore (lv' := [(4, .int a35), (0, .ref (q 119)), (1, .ref (q k2)), (2, .ref (q k3)), (3, .ref (q k4))]) hx hb d_19_13_11 hl (by decide) rfl (fun ls hl => ?_)
  refine lv_aload_n hx hb d_19_13_13 rfl (lv_at hl 3 rfl) ?_
  refine q_goi V (q_runS (As := [.ref (q k3)]) (rest := []) (d := 1) (mc := 0) (ms := 0) C0 V rfl LS_WR_59 (X_WR_size l D g q u26 k3 N3 hB3  hI t3_0 hT3  _) rfl hl.1 rfl (Nat.le_of_ble_eq_true rfl) ⟨by decide, by decide⟩ ⟨Nat.le_of_ble_eq_true rfl, Nat.le_of_ble_eq_true rfl⟩ d_19_13_14) (fun a42 u40 H locs hp41 V => ?_)
  obtain ⟨rfl, b43, b44, hE45⟩ := hp41
  have e46 : a42 = (F_WR_size N3 t3_0) := hE45
  clear b43
  replace b44 : q_F (a42.toInt ≤ N3.toInt) := b44
  refine lv_istore (lv' := [(5, .int a42), (4, .int a35), (0, .ref (q 119)), (1, .ref (q k2)), (2, .ref (q k3)), (3, .ref (q k4))]) hx hb d_19_13_17 hl (by decide) rfl (fun ls hl => ?_)
  refine lv_iconst (v := 0) hx hb d_19_13_19 (by decide) ?_
  refine lv_istore (lv' := [(6, .int 0), (5, .int a42), (4, .int a35), (0, .ref (q 119)), (1, .ref (q k2)), (2, .ref (q k3)), (3, .ref (q k4))]) hx hb d_19_13_20 hl (by decide) rfl (fun ls hl => ?_)
  refine q_loop (X := Int32 × (Nat → Int32)) (fun z H locs ls w53 => q_F (0 ≤ z.1.toInt) ∧ q_F (z.1.toInt ≤ a35.toInt) ∧ q_Wd D g (va_A ws sz) s w53 H locs ∧ lv_has ls 10 [(6, .int z.1), (5, .int a42), (4, .int a35), (0, .ref (q 119)), (1, .ref (q k2)), (2, .ref (q k3)), (3, .ref (q k4))] ∧ q_I (msh g q) q w53 ∧ q_un ws w53 [125, k4] ∧ w53[119]? = (some (q 119, .inr (13, [.int t0_0, .int t0_1, .ref (q 120), .int t0_2, .ref (q 121), .ref (q 122), .ref (q 123), .int t0_3, .ref (q 124), .ref (q 125), .ref (q 126), .ref (q 127), .ref (q 128), .ref (q 129), .ref (q 130), .ref (q 131), .int t0_4, .int t0_5, .ref (q 132), .ref (q 133), .int t0_6])) : Option (Nat × va_E)) ∧ w53[125]? = (some (q 125, .inl (g 0, (528 : Int32).toNatClampNeg, .inl z.2)) : Option (Nat × va_E)) ∧ w53[k2]? = (some (q k2, .inl (g 0, N2.toNatClampNeg, .inl t2_0)) : Option (Nat × va_E)) ∧ w53[k3]? = (some (q k3, .inl (g 0, N3.toNatClampNeg, .inl t3_0)) : Option (Nat × va_E)) ∧ w53[k4]? = (some (q k4, .inl (g 0, N4.toNatClampNeg, .inl t4_0)) : Option (Nat × va_E)) ∧ (∃ n, (20200 - z.1.toInt).toNat < n ∧ F_WR_multiplyRows_L22 N2 N3 N4 t0_0 t0_1 t0_2 t0_3 t0_4 t0_5 t0_6 t1_0 t2_0 t3_0 t4_0 a42 a35 n z.1 z.2 = (F_WR_multiplyRows N2 N3 N4 t0_0 t0_1 t0_2 t0_3 t0_4 t0_5 t0_6 t1_0 t2_0 t3_0 t4_0) ∧ True ∧ S_WR_multiplyRows_L22 N2 N3 N4 t0_0 t0_1 t0_2 t0_3 t0_4 t0_5 t0_6 t1_0 t2_0 t3_0 t4_0 a42 a35 n z.1 z.2)) (fun z => (20200 - z.1.toInt).toNat) ?_ ((0 : Int32), (f28 : (Nat → Int32))) _ _ _ u26 ⟨(show q_F (0 ≤ 0) from (show 0 ≤ 0 from by omega)), (show q_F (0 ≤ a35.toInt) from (show 0 ≤ a35.toInt from by have t1 : 0 ≤ a35.toInt := b36; omega)), V, q_lw hl (q_lw1 0 rfl (q_lw1 1 rfl (q_lw1 2 rfl (q_lw1 3 rfl (q_lw1 4 rfl (q_lw1 5 rfl (q_lw1 6 rfl q_lw0))))))), hI, hF, hT0, hA29, hT2, hT3, hT4, ⟨((20200 - (0 : Int32).toInt).toNat + 1), Nat.lt_succ_self _, (show F_WR_multiplyRows_L22 N2 N3 N4 t0_0 t0_1 t0_2 t0_3 t0_4 t0_5 t0_6 t1_0 t2_0 t3_0 t4_0 a42 a35 ((20200 - (0 : Int32).toInt).toNat + 1) 0 f28 = (F_WR_multiplyRows N2 N3 N4 t0_0 t0_1 t0_2 t0_3 t0_4 t0_5 t0_6 t1_0 t2_0 t3_0 t4_0) from (by rw [e46, e39, e32, F_WR_multiplyRows.eq_1])), (show True ∧ S_WR_multiplyRows_L22 N2 N3 N4 t0_0 t0_1 t0_2 t0_3 t0_4 t0_5 t0_6 t1_0 t2_0 t3_0 t4_0 a42 a35 ((20200 - (0 : Int32).toInt).toNat + 1) 0 f28 from (by rw [e46, e39, e32]; have h := hS; rw [S_WR_multiplyRows.eq_1] at h; with_reducible exact h))⟩⟩
  rintro ⟨lx48, lx49⟩ H locs ls w53 ⟨i50, i51, V, hl, hI, hF, hO54, hO55, hO56, hO57, hO58, ⟨fu61, hf62, hR59, hS60⟩⟩ ih52
  obtain ⟨fm63, rfl⟩ : ∃ m, fu61 = m + 1 := ⟨fu61 - 1, by omega⟩
  replace i50 : q_F (0 ≤ lx48.toInt) := i50
  replace i51 : q_F (lx48.toInt ≤ a35.toInt) := i51
  replace hl : lv_has ls 10 [(6, .int lx48), (5, .int a42), (4, .int a35), (0, .ref (q 119)), (1, .ref (q k2)), (2, .ref (q k3)), (3, .ref (q k4))] := hl
  replace hO54 : w53[119]? = (some (q 119, .inr (13, [.int t0_0, .int t0_1, .ref (q 120), .int t0_2, .ref (q 121), .ref (q 122), .ref (q 123), .int t0_3, .ref (q 124), .ref (q 125), .ref (q 126), .ref (q 127), .ref (q 128), .ref (q 129), .ref (q 130), .ref (q 131), .int t0_4, .int t0_5, .ref (q 132), .ref (q 133), .int t0_6])) : Option (Nat × va_E)) := hO54
  replace hO55 : w53[125]? = (some (q 125, .inl (g 0, (528 : Int32).toNatClampNeg, .inl lx49)) : Option (Nat × va_E)) := hO55
  replace hO56 : w53[k2]? = (some (q k2, .inl (g 0, N2.toNatClampNeg, .inl t2_0)) : Option (Nat × va_E)) := hO56
  replace hO57 : w53[k3]? = (some (q k3, .inl (g 0, N3.toNatClampNeg, .inl t3_0)) : Option (Nat × va_E)) := hO57
  replace hO58 : w53[k4]? = (some (q k4, .inl (g 0, N4.toNatClampNeg, .inl t4_0)) : Option (Nat × va_E)) := hO58
  refine lv_iload hx hb d_19_13_22 (lv_at hl 0 rfl) ?_
  refine lv_iload hx hb d_19_13_24 (lv_at hl 2 rfl) ?_
  refine lv_icmp_ge (tgt := 124) hx hb d_19_13_26 (by decide) (fun c64 => ?_) (fun c64 => ?_)
  ·
    refine lv_aload_n hx hb d_19_13_124 rfl (lv_at hl 3 rfl) ?_
    refine q_get (ci := 13) (j := 9) (v := .ref (q 125)) C0 V i_WR rfl rfl hO54 (by decide) w_1933 rfl d_19_13_125 ?_
    refine lv_aload_n hx hb d_19_13_128 rfl (lv_at hl 6 rfl) ?_
    have ne66 := q_df hO58 hO54
    refine q_gov V (q_runS (As := [.ref (q 125), .ref (q k4)]) (rest := []) (d := 1) (mc := 0) (ms := 0) C0 V rfl LS_WR_67 (X_WR_copy l D g q w53 125 528 (n_r125 g q) k4 N4 hB4  (by have z := ne_k4_125; omega) hI lx49 hO55 t4_0 hO58  _) rfl hl.1 rfl (Nat.le_of_ble_eq_true rfl) ⟨by decide, by decide⟩ ⟨Nat.le_of_ble_eq_true rfl, Nat.le_of_ble_eq_true rfl⟩ d_19_13_129) (fun u67 H locs hp68 V => ?_)
    obtain ⟨hI, hu72, f69, hA70, hE71⟩ := hp68
    replace hA70 : u67[k4]? = (some (q k4, .inl (g 0, N4.toNatClampNeg, .inl f69)) : Option (Nat × va_E)) := hA70
    have e73 : f69 = (F_WR_copy (528 : Int32) N4 lx49 t4_0) := hE71
    replace hO55 := (hu72 _ (by simp only [List.mem_cons, List.not_mem_nil, or_false, not_or]; omega)).trans hO55
    replace hF := q_uc hF hu72 (by simp)
    exact q_retv C0 V (⟨hI, hF, lx49, f69, hO55, hA70, (show (lx49, f69) = (F_WR_multiplyRows N2 N3 N4 t0_0 t0_1 t0_2 t0_3 t0_4 t0_5 t0_6 t1_0 t2_0 t3_0 t4_0) from Eq.trans (by rw [e73, F_WR_multiplyRows_L22.eq_2, if_pos c64]) hR59)⟩) d_19_13_132
  ·
    have b74 : q_F (lx48.toInt < a35.toInt) := (q_nleI c64)
    refine lv_lconst (v := 0) hx hb d_19_13_29 (by decide) ?_
    refine lv_lstore (lv' := [(7, .long 0), (6, .int lx48), (5, .int a42), (4, .int a35), (0, .ref (q 119)), (1, .ref (q k2)), (2, .ref (q k3)), (3, .ref (q k4))]) hx hb d_19_13_30 hl (by decide) rfl (fun ls hl => ?_)
    refine lv_iconst (v := 0) hx hb d_19_13_32 (by decide) ?_
    refine lv_istore (lv' := [(9, .int 0), (7, .long 0), (6, .int lx48), (5, .int a42), (4, .int a35), (0, .ref (q 119)), (1, .ref (q k2)), (2, .ref (q k3)), (3, .ref (q k4))]) hx hb d_19_13_33 hl (by decide) rfl (fun ls hl => ?_)
    refine q_loop (X := Int32 × Int64 × (Nat → Int32)) (fun z H locs ls w83 => q_F (0 ≤ z.1.toInt) ∧ q_F (z.1.toInt ≤ 2100) ∧ q_Wd D g (va_A ws sz) s w83 H locs ∧ lv_has ls 10 [(9, .int z.1), (7, .long z.2.1), (6, .int lx48), (5, .int a42), (4, .int a35), (0, .ref (q 119)), (1, .ref (q k2)), (2, .ref (q k3)), (3, .ref (q k4))] ∧ q_I (msh g q) q w83 ∧ q_un ws w83 [125, k4] ∧ w83[119]? = (some (q 119, .inr (13, [.int t0_0, .int t0_1, .ref (q 120), .int t0_2, .ref (q 121), .ref (q 122), .ref (q 123), .int t0_3, .ref (q 124), .ref (q 125), .ref (q 126), .ref (q 127), .ref (q 128), .ref (q 129), .ref (q 130), .ref (q 131), .int t0_4, .int t0_5, .ref (q 132), .ref (q 133), .int t0_6])) : Option (Nat × va_E)) ∧ w83[125]? = (some (q 125, .inl (g 0, (528 : Int32).toNatClampNeg, .inl z.2.2)) : Option (Nat × va_E)) ∧ w83[k2]? = (some (q k2, .inl (g 0, N2.toNatClampNeg, .inl t2_0)) : Option (Nat × va_E)) ∧ w83[k3]? = (some (q k3, .inl (g 0, N3.toNatClampNeg, .inl t3_0)) : Option (Nat × va_E)) ∧ w83[k4]? = (some (q k4, .inl (g 0, N4.toNatClampNeg, .inl t4_0)) : Option (Nat × va_E)) ∧ (∃ n, (2100 - z.1.toInt).toNat < n ∧ F_WR_multiplyRows_L35 (F_WR_multiplyRows_L22 N2 N3 N4 t0_0 t0_1 t0_2 t0_3 t0_4 t0_5 t0_6 t1_0 t2_0 t3_0 t4_0 a42 a35 fm63) N2 N3 N4 t0_0 t0_1 t0_2 t0_3 t0_4 t0_5 t0_6 t1_0 t2_0 t3_0 t4_0 a42 a35 lx48 lx49 n z.1 z.2.1 z.2.2 = (F_WR_multiplyRows N2 N3 N4 t0_0 t0_1 t0_2 t0_3 t0_4 t0_5 t0_6 t1_0 t2_0 t3_0 t4_0) ∧ True ∧ S_WR_multiplyRows_L35 (S_WR_multiplyRows_L22 N2 N3 N4 t0_0 t0_1 t0_2 t0_3 t0_4 t0_5 t0_6 t1_0 t2_0 t3_0 t4_0 a42 a35 fm63) N2 N3 N4 t0_0 t0_1 t0_2 t0_3 t0_4 t0_5 t0_6 t1_0 t2_0 t3_0 t4_0 a42 a35 lx48 lx49 n z.1 z.2.1 z.2.2)) (fun z => (2100 - z.1.toInt).toNat) ?_ ((0 : Int32), (0 : Int64), (lx49 : (Nat → Int32))) _ _ _ w53 ⟨(show q_F (0 ≤ 0) from (show 0 ≤ 0 from by omega)), (show q_F (0 ≤ 2100) from (show 0 ≤ 2100 from by omega)), V, q_lw hl (q_lw1 0 rfl (q_lw1 1 rfl (q_lw1 2 rfl (q_lw1 3 rfl (q_lw1 4 rfl (q_lw1 5 rfl (q_lw1 6 rfl (q_lw1 7 rfl (q_lw1 8 rfl q_lw0))))))))), hI, hF, hO54, hO55, hO56, hO57, hO58, ⟨((2100 - (0 : Int32).toInt).toNat + 1), Nat.lt_succ_self _, (show F_WR_multiplyRows_L35 (F_WR_multiplyRows_L22 N2 N3 N4 t0_0 t0_1 t0_2 t0_3 t0_4 t0_5 t0_6 t1_0 t2_0 t3_0 t4_0 a42 a35 fm63) N2 N3 N4 t0_0 t0_1 t0_2 t0_3 t0_4 t0_5 t0_6 t1_0 t2_0 t3_0 t4_0 a42 a35 lx48 lx49 ((2100 - (0 : Int32).toInt).toNat + 1) 0 0 lx49 = (F_WR_multiplyRows N2 N3 N4 t0_0 t0_1 t0_2 t0_3 t0_4 t0_5 t0_6 t1_0 t2_0 t3_0 t4_0) from Eq.trans (by rw [F_WR_multiplyRows_L22.eq_2, if_neg c64]) hR59), (show True ∧ S_WR_multiplyRows_L35 (S_WR_multiplyRows_L22 N2 N3 N4 t0_0 t0_1 t0_2 t0_3 t0_4 t0_5 t0_6 t1_0 t2_0 t3_0 t4_0 a42 a35 fm63) N2 N3 N4 t0_0 t0_1 t0_2 t0_3 t0_4 t0_5 t0_6 t1_0 t2_0 t3_0 t4_0 a42 a35 lx48 lx49 ((2100 - (0 : Int32).toInt).toNat + 1) 0 0 lx49 from (by have h := hS60; rw [S_WR_multiplyRows_L22.eq_2] at h; rw [if_neg c64] at h; with_reducible exact h))⟩⟩
    rintro ⟨lx77, lx78, lx79⟩ H locs ls w83 ⟨i80, i81, V, hl, hI, hF, hO84, hO85, hO86, hO87, hO88, ⟨fu91, hf92, hR89, hS90⟩⟩ ih82
    obtain ⟨fm93, rfl⟩ : ∃ m, fu91 = m + 1 := ⟨fu91 - 1, by omega⟩
    replace i80 : q_F (0 ≤ lx77.toInt) := i80
    replace i81 : q_F (lx77.toInt ≤ 2100) := i81
    replace hl : lv_has ls 10 [(9, .int lx77), (7, .long lx78), (6, .int lx48), (5, .int a42), (4, .int a35), (0, .ref (q 119)), (1, .ref (q k2)), (2, .ref (q k3)), (3, .ref (q k4))] := hl
    replace hO84 : w83[119]? = (some (q 119, .inr (13, [.int t0_0, .int t0_1, .ref (q 120), .int t0_2, .ref (q 121), .ref (q 122), .ref (q 123), .int t0_3, .ref (q 124), .ref (q 125), .ref (q 126), .ref (q 127), .ref (q 128), .ref (q 129), .ref (q 130), .ref (q 131), .int t0_4, .int t0_5, .ref (q 132), .ref (q 133), .int t0_6])) : Option (Nat × va_E)) := hO84
    replace hO85 : w83[125]? = (some (q 125, .inl (g 0, (528 : Int32).toNatClampNeg, .inl lx79)) : Option (Nat × va_E)) := hO85
    replace hO86 : w83[k2]? = (some (q k2, .inl (g 0, N2.toNatClampNeg, .inl t2_0)) : Option (Nat × va_E)) := hO86
    replace hO87 : w83[k3]? = (some (q k3, .inl (g 0, N3.toNatClampNeg, .inl t3_0)) : Option (Nat × va_E)) := hO87
    replace hO88 : w83[k4]? = (some (q k4, .inl (g 0, N4.toNatClampNeg, .inl t4_0)) : Option (Nat × va_E)) := hO88
    refine lv_iload hx hb d_19_13_35 (lv_at hl 0 rfl) ?_
    refine lv_iload hx hb d_19_13_37 (lv_at hl 3 rfl) ?_
    refine q_join (X := Unit) (fun z H locs ls _ => q_Wd D g (va_A ws sz) s w83 H locs ∧ lv_has ls 10 [(9, .int lx77), (7, .long lx78), (6, .int lx48), (5, .int a42), (4, .int a35), (0, .ref (q 119)), (1, .ref (q k2)), (2, .ref (q k3)), (3, .ref (q k4))] ∧ F_WR_multiplyRows_J49 (F_WR_multiplyRows_L22 N2 N3 N4 t0_0 t0_1 t0_2 t0_3 t0_4 t0_5 t0_6 t1_0 t2_0 t3_0 t4_0 a42 a35 fm63) (F_WR_multiplyRows_L35 (F_WR_multiplyRows_L22 N2 N3 N4 t0_0 t0_1 t0_2 t0_3 t0_4 t0_5 t0_6 t1_0 t2_0 t3_0 t4_0 a42 a35 fm63) N2 N3 N4 t0_0 t0_1 t0_2 t0_3 t0_4 t0_5 t0_6 t1_0 t2_0 t3_0 t4_0 a42 a35 lx48 lx49 fm93) N2 N3 N4 t0_0 t0_1 t0_2 t0_3 t0_4 t0_5 t0_6 t1_0 t2_0 t3_0 t4_0 a42 a35 lx48 lx49 lx77 lx78 lx79 = (F_WR_multiplyRows N2 N3 N4 t0_0 t0_1 t0_2 t0_3 t0_4 t0_5 t0_6 t1_0 t2_0 t3_0 t4_0) ∧ True ∧ S_WR_multiplyRows_J49 (S_WR_multiplyRows_L22 N2 N3 N4 t0_0 t0_1 t0_2 t0_3 t0_4 t0_5 t0_6 t1_0 t2_0 t3_0 t4_0 a42 a35 fm63) (S_WR_multiplyRows_L35 (S_WR_multiplyRows_L22 N2 N3 N4 t0_0 t0_1 t0_2 t0_3 t0_4 t0_5 t0_6 t1_0 t2_0 t3_0 t4_0 a42 a35 fm63) N2 N3 N4 t0_0 t0_1 t0_2 t0_3 t0_4 t0_5 t0_6 t1_0 t2_0 t3_0 t4_0 a42 a35 lx48 lx49 fm93) N2 N3 N4 t0_0 t0_1 t0_2 t0_3 t0_4 t0_5 t0_6 t1_0 t2_0 t3_0 t4_0 a42 a35 lx48 lx49 lx77 lx78 lx79) (fun z => []) 49 0 0 ?_ ?_
    ·
      rintro _ H locs ls _ ⟨V, hl, hR100, hS101⟩
      replace hl : lv_has ls 10 [(9, .int lx77), (7, .long lx78), (6, .int lx48), (5, .int a42), (4, .int a35), (0, .ref (q 119)), (1, .ref (q k2)), (2, .ref (q k3)), (3, .ref (q k4))] := hl
      refine lv_lload hx hb d_19_13_49 (lv_at hl 1 rfl) ?_
      refine lv_aload_n hx hb d_19_13_51 rfl (lv_at hl 5 rfl) ?_
      refine q_get (ci := 13) (j := 9) (v := .ref (q 125)) C0 V i_WR rfl rfl hO84 (by decide) w_1933 rfl d_19_13_52 ?_
      refine lv_iload hx hb d_19_13_55 (lv_at hl 2 rfl) ?_
      refine lv_iload hx hb d_19_13_57 (lv_at hl 0 rfl) ?_
      refine lv_iadd hx hb d_19_13_59 ?_
      obtain ⟨a105, e106⟩ := q_nm (lx48 + lx77 : Int32)
      refine q_ti (v := a105) e106 ?_
      have b107 : q_F (a105.toInt = lx48.toInt + lx77.toInt) := (by rw [← e106]; show (lx48 + lx77 : Int32).toInt = lx48.toInt + lx77.toInt; exact q_addI (x := lx48.toInt) (y := lx77.toInt) rfl rfl (by have t1 : 0 ≤ lx48.toInt := i50; have t2 : 0 ≤ lx77.toInt := i80; have t3 : 0 ≤ N2.toInt ∧ N2.toInt ≤ 20200 := hfk20; have t4 : a35.toInt ≤ N2.toInt := b37; have t5 : lx48.toInt ≤ a35.toInt := i51; have t6 : lx77.toInt ≤ 2100 := i81; omega) (by have t1 : 0 ≤ lx48.toInt := i50; have t2 : 0 ≤ lx77.toInt := i80; have t3 : 0 ≤ N2.toInt ∧ N2.toInt ≤ 20200 := hfk20; have t4 : a35.toInt ≤ N2.toInt := b37; have t5 : lx48.toInt ≤ a35.toInt := i51; have t6 : lx77.toInt ≤ 2100 := i81; omega))
      have ob108 : q_F (a105.toInt ≤ 527) := (by rw [← e106]; have h := hS101; rw [S_WR_multiplyRows_J49.eq_1] at h; exact h.2.1)
      refine q_iald C0 V hO85 (q_ix (x := a105.toInt) rfl (by have t1 : 0 ≤ lx48.toInt := i50; have t2 : 0 ≤ lx77.toInt := i80; have t3 : a105.toInt = lx48.toInt + lx77.toInt := b107; omega) (by have t1 : 0 ≤ lx48.toInt := i50; have t2 : 0 ≤ lx77.toInt := i80; have t3 : a105.toInt = lx48.toInt + lx77.toInt := b107; have t4 : a105.toInt ≤ 527 := ob108; have e9 : (((528 : Int32).toNatClampNeg : Nat) : Int) = 528 := (by decide); omega)) d_19_13_60 ?_
      obtain ⟨a109, e110⟩ := q_nm (lx79 a105.toNatClampNeg : Int32)
      refine q_ti (v := a109) e110 ?_
      refine lv_i2l hx hb d_19_13_61 rfl ?_
      obtain ⟨j111, e112⟩ := q_nm (a109.toInt64 : Int64)
      refine q_tl (v := j111) e112 ?_
      refine lv_ladd hx hb d_19_13_62 ?_
      obtain ⟨j114, e115⟩ := q_nm (lx78 + j111 : Int64)
      refine q_tl (v := j114) e115 ?_
      refine lv_iload hx hb d_19_13_63 (lv_at hl 0 rfl) ?_
      refine lv_iload hx hb d_19_13_65 (lv_at hl 3 rfl) ?_
      refine q_join (X := Int64) (fun z H locs ls _ => q_Wd D g (va_A ws sz) s w83 H locs ∧ lv_has ls 10 [(9, .int lx77), (6, .int lx48), (5, .int a42), (4, .int a35), (0, .ref (q 119)), (1, .ref (q k2)), (2, .ref (q k3)), (3, .ref (q k4))] ∧ F_WR_multiplyRows_J85 (F_WR_multiplyRows_L22 N2 N3 N4 t0_0 t0_1 t0_2 t0_3 t0_4 t0_5 t0_6 t1_0 t2_0 t3_0 t4_0 a42 a35 fm63) (F_WR_multiplyRows_L35 (F_WR_multiplyRows_L22 N2 N3 N4 t0_0 t0_1 t0_2 t0_3 t0_4 t0_5 t0_6 t1_0 t2_0 t3_0 t4_0 a42 a35 fm63) N2 N3 N4 t0_0 t0_1 t0_2 t0_3 t0_4 t0_5 t0_6 t1_0 t2_0 t3_0 t4_0 a42 a35 lx48 lx49 fm93) N2 N3 N4 t0_0 t0_1 t0_2 t0_3 t0_4 t0_5 t0_6 t1_0 t2_0 t3_0 t4_0 a42 a35 lx48 lx49 lx77 lx78 lx79 j114 z = (F_WR_multiplyRows N2 N3 N4 t0_0 t0_1 t0_2 t0_3 t0_4 t0_5 t0_6 t1_0 t2_0 t3_0 t4_0) ∧ True ∧ S_WR_multiplyRows_J85 (S_WR_multiplyRows_L22 N2 N3 N4 t0_0 t0_1 t0_2 t0_3 t0_4 t0_5 t0_6 t1_0 t2_0 t3_0 t4_0 a42 a35 fm63) (S_WR_multiplyRows_L35 (S_WR_multiplyRows_L22 N2 N3 N4 t0_0 t0_1 t0_2 t0_3 t0_4 t0_5 t0_6 t1_0 t2_0 t3_0 t4_0 a42 a35 fm63) N2 N3 N4 t0_0 t0_1 t0_2 t0_3 t0_4 t0_5 t0_6 t1_0 t2_0 t3_0 t4_0 a42 a35 lx48 lx49 fm93) N2 N3 N4 t0_0 t0_1 t0_2 t0_3 t0_4 t0_5 t0_6 t1_0 t2_0 t3_0 t4_0 a42 a35 lx48 lx49 lx77 lx78 lx79 j114 z) (fun z => [.long z, .long j114]) 85 0 0 ?_ ?_
      ·
        rintro lx116 H locs ls _ ⟨V, hl, hR123, hS124⟩
        replace hl : lv_has ls 10 [(9, .int lx77), (6, .int lx48), (5, .int a42), (4, .int a35), (0, .ref (q 119)), (1, .ref (q k2)), (2, .ref (q k3)), (3, .ref (q k4))] := hl
        refine lv_ladd hx hb d_19_13_85 ?_
        obtain ⟨j128, e129⟩ := q_nm (j114 + lx116 : Int64)
        refine q_tl (v := j128) e129 ?_
        refine lv_lstore (lv' := [(7, .long j128), (9, .int lx77), (6, .int lx48), (5, .int a42), (4, .int a35), (0, .ref (q 119)), (1, .ref (q k2)), (2, .ref (q k3)), (3, .ref (q k4))]) hx hb d_19_13_86 hl (by decide) rfl (fun ls hl => ?_)
        refine lv_aload_n hx hb d_19_13_88 rfl (lv_at hl 5 rfl) ?_
        refine q_get (ci := 13) (j := 9) (v := .ref (q 125)) C0 V i_WR rfl rfl hO84 (by decide) w_1933 rfl d_19_13_89 ?_
        refine lv_iload hx hb d_19_13_92 (lv_at hl 2 rfl) ?_
        refine lv_iload hx hb d_19_13_94 (lv_at hl 1 rfl) ?_
        refine lv_iadd hx hb d_19_13_96 ?_
        obtain ⟨a130, e131⟩ := q_nm (lx48 + lx77 : Int32)
        refine q_ti (v := a130) e131 ?_
        have b132 : q_F (a130.toInt = lx48.toInt + lx77.toInt) := (by rw [← e131]; show (lx48 + lx77 : Int32).toInt = lx48.toInt + lx77.toInt; exact q_addI (x := lx48.toInt) (y := lx77.toInt) rfl rfl (by have t1 : 0 ≤ lx48.toInt := i50; have t2 : 0 ≤ lx77.toInt := i80; have t3 : a105.toInt = lx48.toInt + lx77.toInt := b107; have _ := q_lo32 (x := a105); have _ := q_hi32 (x := a105); omega) (by have t1 : 0 ≤ lx48.toInt := i50; have t2 : 0 ≤ lx77.toInt := i80; have t3 : a105.toInt = lx48.toInt + lx77.toInt := b107; have _ := q_lo32 (x := a105); have _ := q_hi32 (x := a105); omega))
        refine lv_lload hx hb d_19_13_97 (lv_at hl 0 rfl) ?_
        refine q_ldc2 C0 rfl w_2384 d_19_13_99 ?_
        refine lv_land hx hb d_19_13_102 ?_
        obtain ⟨j133, e134⟩ := q_nm (j128 &&& 65535 : Int64)
        refine q_tl (v := j133) e134 ?_
        refine lv_l2i hx hb d_19_13_103 rfl ?_
        obtain ⟨a136, e137⟩ := q_nm (j133.toInt32 : Int32)
        refine q_ti (v := a136) e137 ?_
        refine q_iast C0 V hO85 (q_ix (x := a130.toInt) rfl (by have t1 : 0 ≤ lx48.toInt := i50; have t2 : 0 ≤ lx77.toInt := i80; have t3 : a130.toInt = lx48.toInt + lx77.toInt := b132; omega) (by have t1 : 0 ≤ lx48.toInt := i50; have t2 : 0 ≤ lx77.toInt := i80; have t3 : a130.toInt = lx48.toInt + lx77.toInt := b132; have t4 : a105.toInt = lx48.toInt + lx77.toInt := b107; have t5 : a105.toInt ≤ 527 := ob108; have e9 : (((528 : Int32).toNatClampNeg : Nat) : Int) = 528 := (by decide); omega)) d_19_13_104 (fun H locs w139 hu140 hO85 V => ?_)
        replace hI := n_ai' hI (n_r125 g q).1 hu140 hO85 (q_updB (fun _ => s_bnd) s_bnd)
        replace hO84 := (hu140 _ (by decide)).trans hO84
        replace hO86 := (hu140 _ (by have z := ne_k2_125; omega)).trans hO86
        replace hO87 := (hu140 _ (by have z := ne_k3_125; omega)).trans hO87
        replace hO88 := (hu140 _ (by have z := ne_k4_125; omega)).trans hO88
        replace hF := q_us hF hu140 (by simp)
        obtain ⟨f141, e142⟩ := q_nm (upd lx79 a130.toNatClampNeg a136 : (Nat → Int32))
        rw [e142] at hO85
        refine lv_lload hx hb d_19_13_105 (lv_at hl 0 rfl) ?_
        refine lv_bipush (v := 16) hx hb d_19_13_107 (by decide) ?_
        refine lv_lshr hx hb d_19_13_109 rfl ?_
        obtain ⟨j143, e144⟩ := q_nm (j128 >>> ((16 : Int32).toInt64 &&& 63) : Int64)
        refine q_tl (v := j143) e144 ?_
        refine lv_lstore (lv' := [(7, .long j143), (9, .int lx77), (6, .int lx48), (5, .int a42), (4, .int a35), (0, .ref (q 119)), (1, .ref (q k2)), (2, .ref (q k3)), (3, .ref (q k4))]) hx hb d_19_13_110 hl (by decide) rfl (fun ls hl => ?_)
        obtain ⟨a145, e146⟩ := q_nm (lx77 + 1 : Int32)
        have b147 : q_F (a145.toInt = lx77.toInt + 1) := (by rw [← e146]; exact q_addI (y := 1) rfl (by decide) (by have t1 : 0 ≤ lx77.toInt := i80; have t2 : lx77.toInt ≤ 2100 := i81; omega) (by have t1 : 0 ≤ lx77.toInt := i80; have t2 : lx77.toInt ≤ 2100 := i81; omega))
        refine lv_iinc (v := a145) (lv' := [(9, .int a145), (7, .long j143), (6, .int lx48), (5, .int a42), (4, .int a35), (0, .ref (q 119)), (1, .ref (q k2)), (2, .ref (q k3)), (3, .ref (q k4))]) hx hb d_19_13_112 hl (k := 1) rfl (e146) (by decide) rfl (fun ls hl => ?_)
        refine lv_goto (tgt := 35) hx hb d_19_13_115 (by decide) ?_
        exact ih82 ((a145 : Int32), (j143 : Int64), (f141 : (Nat → Int32))) _ _ _ _ (show (2100 - a145.toInt).toNat < (2100 - lx77.toInt).toNat from by have t1 : a145.toInt = lx77.toInt + 1 := b147; have t2 : lx77.toInt ≤ 2100 := i81; have t3 : 0 ≤ lx48.toInt := i50; have t4 : a105.toInt = lx48.toInt + lx77.toInt := b107; have t5 : a105.toInt ≤ 527 := ob108; omega) ⟨(show q_F (0 ≤ a145.toInt) from (show 0 ≤ a145.toInt from by have t1 : 0 ≤ lx77.toInt := i80; have t2 : a145.toInt = lx77.toInt + 1 := b147; omega)), (show q_F (a145.toInt ≤ 2100) from (show a145.toInt ≤ 2100 from by have t1 : 0 ≤ lx48.toInt := i50; have t2 : a105.toInt = lx48.toInt + lx77.toInt := b107; have t3 : a105.toInt ≤ 527 := ob108; have t4 : a145.toInt = lx77.toInt + 1 := b147; omega)), V, q_lw hl (q_lw1 0 rfl (q_lw1 1 rfl (q_lw1 2 rfl (q_lw1 3 rfl (q_lw1 4 rfl (q_lw1 5 rfl (q_lw1 6 rfl (q_lw1 7 rfl (q_lw1 8 rfl q_lw0))))))))), hI, hF, hO84, hO85, hO86, hO87, hO88, ⟨fm93, Nat.lt_of_lt_of_le (show (2100 - a145.toInt).toNat < (2100 - lx77.toInt).toNat from by have t1 : a145.toInt = lx77.toInt + 1 := b147; have t2 : lx77.toInt ≤ 2100 := i81; have t3 : 0 ≤ lx48.toInt := i50; have t4 : a105.toInt = lx48.toInt + lx77.toInt := b107; have t5 : a105.toInt ≤ 527 := ob108; omega) (Nat.le_of_lt_succ hf92), (show F_WR_multiplyRows_L35 (F_WR_multiplyRows_L22 N2 N3 N4 t0_0 t0_1 t0_2 t0_3 t0_4 t0_5 t0_6 t1_0 t2_0 t3_0 t4_0 a42 a35 fm63) N2 N3 N4 t0_0 t0_1 t0_2 t0_3 t0_4 t0_5 t0_6 t1_0 t2_0 t3_0 t4_0 a42 a35 lx48 lx49 fm93 a145 j143 f141 = (F_WR_multiplyRows N2 N3 N4 t0_0 t0_1 t0_2 t0_3 t0_4 t0_5 t0_6 t1_0 t2_0 t3_0 t4_0) from Eq.trans (by rw [← e146, ← e144, ← e142, ← e137, ← e134, ← e131, ← e129, F_WR_multiplyRows_J85.eq_1]) hR123), (show True ∧ S_WR_multiplyRows_L35 (S_WR_multiplyRows_L22 N2 N3 N4 t0_0 t0_1 t0_2 t0_3 t0_4 t0_5 t0_6 t1_0 t2_0 t3_0 t4_0 a42 a35 fm63) N2 N3 N4 t0_0 t0_1 t0_2 t0_3 t0_4 t0_5 t0_6 t1_0 t2_0 t3_0 t4_0 a42 a35 lx48 lx49 fm93 a145 j143 f141 from (by rw [← e146, ← e144, ← e142, ← e137, ← e134, ← e131, ← e129]; have h := hS124; rw [S_WR_multiplyRows_J85.eq_1] at h; with_reducible exact h))⟩⟩
      ·
        intro J122
        refine lv_icmp_ge (tgt := 84) hx hb d_19_13_67 (by decide) (fun c148 => ?_) (fun c148 => ?_)
        ·
          refine lv_lconst (v := 0) hx hb d_19_13_84 (by decide) ?_
          exact J122 ((0 : Int64)) _ _ _ w83 ⟨V, q_lw hl (q_lw1 0 rfl (q_lw1 2 rfl (q_lw1 3 rfl (q_lw1 4 rfl (q_lw1 5 rfl (q_lw1 6 rfl (q_lw1 7 rfl (q_lw1 8 rfl q_lw0)))))))), (show F_WR_multiplyRows_J85 (F_WR_multiplyRows_L22 N2 N3 N4 t0_0 t0_1 t0_2 t0_3 t0_4 t0_5 t0_6 t1_0 t2_0 t3_0 t4_0 a42 a35 fm63) (F_WR_multiplyRows_L35 (F_WR_multiplyRows_L22 N2 N3 N4 t0_0 t0_1 t0_2 t0_3 t0_4 t0_5 t0_6 t1_0 t2_0 t3_0 t4_0 a42 a35 fm63) N2 N3 N4 t0_0 t0_1 t0_2 t0_3 t0_4 t0_5 t0_6 t1_0 t2_0 t3_0 t4_0 a42 a35 lx48 lx49 fm93) N2 N3 N4 t0_0 t0_1 t0_2 t0_3 t0_4 t0_5 t0_6 t1_0 t2_0 t3_0 t4_0 a42 a35 lx48 lx49 lx77 lx78 lx79 j114 0 = (F_WR_multiplyRows N2 N3 N4 t0_0 t0_1 t0_2 t0_3 t0_4 t0_5 t0_6 t1_0 t2_0 t3_0 t4_0) from Eq.trans (by rw [← e115, ← e112, ← e110, ← e106, F_WR_multiplyRows_J49.eq_1, if_pos c148]) hR100), (show True ∧ S_WR_multiplyRows_J85 (S_WR_multiplyRows_L22 N2 N3 N4 t0_0 t0_1 t0_2 t0_3 t0_4 t0_5 t0_6 t1_0 t2_0 t3_0 t4_0 a42 a35 fm63) (S_WR_multiplyRows_L35 (S_WR_multiplyRows_L22 N2 N3 N4 t0_0 t0_1 t0_2 t0_3 t0_4 t0_5 t0_6 t1_0 t2_0 t3_0 t4_0 a42 a35 fm63) N2 N3 N4 t0_0 t0_1 t0_2 t0_3 t0_4 t0_5 t0_6 t1_0 t2_0 t3_0 t4_0 a42 a35 lx48 lx49 fm93) N2 N3 N4 t0_0 t0_1 t0_2 t0_3 t0_4 t0_5 t0_6 t1_0 t2_0 t3_0 t4_0 a42 a35 lx48 lx49 lx77 lx78 lx79 j114 0 from (by rw [← e115, ← e112, ← e110, ← e106]; have h := hS101; rw [S_WR_multiplyRows_J49.eq_1] at h; replace h := q_s2 h; rw [if_pos c148] at h; with_reducible exact h))⟩
        ·
          have b150 : q_F (lx77.toInt < a42.toInt) := (q_nleI c148)
          refine lv_aload_n hx hb d_19_13_70 rfl (lv_at hl 6 rfl) ?_
          refine lv_iload hx hb d_19_13_71 (lv_at hl 2 rfl) ?_
          refine q_iald C0 V hO86 (q_ix (x := lx48.toInt) rfl (by first | with_reducible exact q_fe i50 | (have t1 : 0 ≤ lx48.toInt := i50; omega)) (by have t1 : 0 ≤ lx48.toInt := i50; have t2 : a35.toInt ≤ N2.toInt := b37; have t3 : lx48.toInt < a35.toInt := b74; have e9 := q_clI (i := N2) rfl (by first | with_reducible exact (q_fe hfk20).2 | with_reducible exact (q_fe hfk20).1 | (have t1 : 0 ≤ N2.toInt ∧ N2.toInt ≤ 20200 := hfk20; omega)); omega)) d_19_13_73 ?_
          obtain ⟨a151, e152⟩ := q_nm (t2_0 lx48.toNatClampNeg : Int32)
          refine q_ti (v := a151) e152 ?_
          refine lv_i2l hx hb d_19_13_74 rfl ?_
          obtain ⟨j153, e154⟩ := q_nm (a151.toInt64 : Int64)
          refine q_tl (v := j153) e154 ?_
          refine lv_aload_n hx hb d_19_13_75 rfl (lv_at hl 7 rfl) ?_
          refine lv_iload hx hb d_19_13_76 (lv_at hl 0 rfl) ?_
          refine q_iald C0 V hO87 (q_ix (x := lx77.toInt) rfl (by first | with_reducible exact q_fe i80 | (have t1 : 0 ≤ lx77.toInt := i80; omega)) (by have t1 : 0 ≤ lx77.toInt := i80; have t2 : a42.toInt ≤ N3.toInt := b44; have t3 : lx77.toInt < a42.toInt := b150; have e9 := q_clI (i := N3) rfl (by first | with_reducible exact (q_fe hfk30).2 | with_reducible exact (q_fe hfk30).1 | (have t1 : 0 ≤ N3.toInt ∧ N3.toInt ≤ 20200 := hfk30; omega)); omega)) d_19_13_78 ?_
          obtain ⟨a156, e157⟩ := q_nm (t3_0 lx77.toNatClampNeg : Int32)
          refine q_ti (v := a156) e157 ?_
          refine lv_i2l hx hb d_19_13_79 rfl ?_
          obtain ⟨j158, e159⟩ := q_nm (a156.toInt64 : Int64)
          refine q_tl (v := j158) e159 ?_
          refine lv_lmul hx hb d_19_13_80 ?_
          obtain ⟨j161, e162⟩ := q_nm (j153 * j158 : Int64)
          refine q_tl (v := j161) e162 ?_
          refine lv_goto (tgt := 85) hx hb d_19_13_81 (by decide) ?_
          exact J122 ((j161 : Int64)) _ _ _ w83 ⟨V, q_lw hl (q_lw1 0 rfl (q_lw1 2 rfl (q_lw1 3 rfl (q_lw1 4 rfl (q_lw1 5 rfl (q_lw1 6 rfl (q_lw1 7 rfl (q_lw1 8 rfl q_lw0)))))))), (show F_WR_multiplyRows_J85 (F_WR_multiplyRows_L22 N2 N3 N4 t0_0 t0_1 t0_2 t0_3 t0_4 t0_5 t0_6 t1_0 t2_0 t3_0 t4_0 a42 a35 fm63) (F_WR_multiplyRows_L35 (F_WR_multiplyRows_L22 N2 N3 N4 t0_0 t0_1 t0_2 t0_3 t0_4 t0_5 t0_6 t1_0 t2_0 t3_0 t4_0 a42 a35 fm63) N2 N3 N4 t0_0 t0_1 t0_2 t0_3 t0_4 t0_5 t0_6 t1_0 t2_0 t3_0 t4_0 a42 a35 lx48 lx49 fm93) N2 N3 N4 t0_0 t0_1 t0_2 t0_3 t0_4 t0_5 t0_6 t1_0 t2_0 t3_0 t4_0 a42 a35 lx48 lx49 lx77 lx78 lx79 j114 j161 = (F_WR_multiplyRows N2 N3 N4 t0_0 t0_1 t0_2 t0_3 t0_4 t0_5 t0_6 t1_0 t2_0 t3_0 t4_0) from Eq.trans (by rw [← e162, ← e159, ← e157, ← e154, ← e152, ← e115, ← e112, ← e110, ← e106, F_WR_multiplyRows_J49.eq_1, if_neg c148]) hR100), (show True ∧ S_WR_multiplyRows_J85 (S_WR_multiplyRows_L22 N2 N3 N4 t0_0 t0_1 t0_2 t0_3 t0_4 t0_5 t0_6 t1_0 t2_0 t3_0 t4_0 a42 a35 fm63) (S_WR_multiplyRows_L35 (S_WR_multiplyRows_L22 N2 N3 N4 t0_0 t0_1 t0_2 t0_3 t0_4 t0_5 t0_6 t1_0 t2_0 t3_0 t4_0 a42 a35 fm63) N2 N3 N4 t0_0 t0_1 t0_2 t0_3 t0_4 t0_5 t0_6 t1_0 t2_0 t3_0 t4_0 a42 a35 lx48 lx49 fm93) N2 N3 N4 t0_0 t0_1 t0_2 t0_3 t0_4 t0_5 t0_6 t1_0 t2_0 t3_0 t4_0 a42 a35 lx48 lx49 lx77 lx78 lx79 j114 j161 from (by rw [← e162, ← e159, ← e157, ← e154, ← e152, ← e115, ← e112, ← e110, ← e106]; have h := hS101; rw [S_WR_multiplyRows_J49.eq_1] at h; replace h := q_s2 h; rw [if_neg c148] at h; with_reducible exact h))⟩
    ·
      intro J99
      refine lv_icmp_lt (tgt := 49) hx hb d_19_13_39 (by decide) (fun c163 => ?_) (fun c163 => ?_)
      ·
        exact J99 (()) _ _ _ w83 ⟨V, q_lw hl (q_lw1 0 rfl (q_lw1 1 rfl (q_lw1 2 rfl (q_lw1 3 rfl (q_lw1 4 rfl (q_lw1 5 rfl (q_lw1 6 rfl (q_lw1 7 rfl (q_lw1 8 rfl q_lw0))))))))), (show F_WR_multiplyRows_J49 (F_WR_multiplyRows_L22 N2 N3 N4 t0_0 t0_1 t0_2 t0_3 t0_4 t0_5 t0_6 t1_0 t2_0 t3_0 t4_0 a42 a35 fm63) (F_WR_multiplyRows_L35 (F_WR_multiplyRows_L22 N2 N3 N4 t0_0 t0_1 t0_2 t0_3 t0_4 t0_5 t0_6 t1_0 t2_0 t3_0 t4_0 a42 a35 fm63) N2 N3 N4 t0_0 t0_1 t0_2 t0_3 t0_4 t0_5 t0_6 t1_0 t2_0 t3_0 t4_0 a42 a35 lx48 lx49 fm93) N2 N3 N4 t0_0 t0_1 t0_2 t0_3 t0_4 t0_5 t0_6 t1_0 t2_0 t3_0 t4_0 a42 a35 lx48 lx49 lx77 lx78 lx79 = (F_WR_multiplyRows N2 N3 N4 t0_0 t0_1 t0_2 t0_3 t0_4 t0_5 t0_6 t1_0 t2_0 t3_0 t4_0) from Eq.trans (by rw [F_WR_multiplyRows_L35.eq_2, if_pos c163]) hR89), (show True ∧ S_WR_multiplyRows_J49 (S_WR_multiplyRows_L22 N2 N3 N4 t0_0 t0_1 t0_2 t0_3 t0_4 t0_5 t0_6 t1_0 t2_0 t3_0 t4_0 a42 a35 fm63) (S_WR_multiplyRows_L35 (S_WR_multiplyRows_L22 N2 N3 N4 t0_0 t0_1 t0_2 t0_3 t0_4 t0_5 t0_6 t1_0 t2_0 t3_0 t4_0 a42 a35 fm63) N2 N3 N4 t0_0 t0_1 t0_2 t0_3 t0_4 t0_5 t0_6 t1_0 t2_0 t3_0 t4_0 a42 a35 lx48 lx49 fm93) N2 N3 N4 t0_0 t0_1 t0_2 t0_3 t0_4 t0_5 t0_6 t1_0 t2_0 t3_0 t4_0 a42 a35 lx48 lx49 lx77 lx78 lx79 from (by have h := hS90; rw [S_WR_multiplyRows_L35.eq_2] at h; rw [if_pos c163] at h; with_reducible exact h))⟩
      ·
        refine lv_lload hx hb d_19_13_42 (lv_at hl 1 rfl) ?_
        refine lv_lconst (v := 0) hx hb d_19_13_44 (by decide) ?_
        refine W.lcmp hx hb d_19_13_45 ?_
        obtain ⟨a166, e167⟩ := q_nm (lg_cmp lx78 0 : Int32)
        refine q_ti (v := a166) e167 ?_
        refine lv_if_eq (tgt := 118) hx hb d_19_13_46 (by decide) (fun c169 => ?_) (fun c169 => ?_)
        ·
          obtain ⟨a171, e172⟩ := q_nm (lx48 + 1 : Int32)
          have b173 : q_F (a171.toInt = lx48.toInt + 1) := (by rw [← e172]; exact q_addI (y := 1) rfl (by decide) (by have t1 : 0 ≤ lx48.toInt := i50; have t2 : lx48.toInt < a35.toInt := b74; have _ := q_lo32 (x := a35); have _ := q_hi32 (x := a35); omega) (by have t1 : 0 ≤ lx48.toInt := i50; have t2 : lx48.toInt < a35.toInt := b74; have _ := q_lo32 (x := a35); have _ := q_hi32 (x := a35); omega))
          refine lv_iinc (v := a171) (lv' := [(6, .int a171), (9, .int lx77), (7, .long lx78), (5, .int a42), (4, .int a35), (0, .ref (q 119)), (1, .ref (q k2)), (2, .ref (q k3)), (3, .ref (q k4))]) hx hb d_19_13_118 hl (k := 2) rfl (e172) (by decide) rfl (fun ls hl => ?_)
          refine lv_goto (tgt := 22) hx hb d_19_13_121 (by decide) ?_
          exact ih52 ((a171 : Int32), (lx79 : (Nat → Int32))) _ _ _ _ (show (20200 - a171.toInt).toNat < (20200 - lx48.toInt).toNat from by have t1 : a171.toInt = lx48.toInt + 1 := b173; have t2 : 0 ≤ N2.toInt ∧ N2.toInt ≤ 20200 := hfk20; have t3 : a35.toInt ≤ N2.toInt := b37; have t4 : lx48.toInt ≤ a35.toInt := i51; have t5 : lx48.toInt < a35.toInt := b74; omega) ⟨(show q_F (0 ≤ a171.toInt) from (show 0 ≤ a171.toInt from by have t1 : 0 ≤ lx48.toInt := i50; have t2 : a171.toInt = lx48.toInt + 1 := b173; omega)), (show q_F (a171.toInt ≤ a35.toInt) from (show a171.toInt ≤ a35.toInt from by have t1 : lx48.toInt < a35.toInt := b74; have t2 : a171.toInt = lx48.toInt + 1 := b173; omega)), V, q_lw hl (q_lw1 0 rfl (q_lw1 3 rfl (q_lw1 4 rfl (q_lw1 5 rfl (q_lw1 6 rfl (q_lw1 7 rfl (q_lw1 8 rfl q_lw0))))))), hI, hF, hO84, hO85, hO86, hO87, hO88, ⟨fm63, Nat.lt_of_lt_of_le (show (20200 - a171.toInt).toNat < (20200 - lx48.toInt).toNat from by have t1 : a171.toInt = lx48.toInt + 1 := b173; have t2 : 0 ≤ N2.toInt ∧ N2.toInt ≤ 20200 := hfk20; have t3 : a35.toInt ≤ N2.toInt := b37; have t4 : lx48.toInt ≤ a35.toInt := i51; have t5 : lx48.toInt < a35.toInt := b74; omega) (Nat.le_of_lt_succ hf62), (show F_WR_multiplyRows_L22 N2 N3 N4 t0_0 t0_1 t0_2 t0_3 t0_4 t0_5 t0_6 t1_0 t2_0 t3_0 t4_0 a42 a35 fm63 a171 lx79 = (F_WR_multiplyRows N2 N3 N4 t0_0 t0_1 t0_2 t0_3 t0_4 t0_5 t0_6 t1_0 t2_0 t3_0 t4_0) from Eq.trans (by have c169x := c169; rw [← e167] at c169x; rw [← e172, F_WR_multiplyRows_L35.eq_2, if_neg c163, if_pos c169x]) hR89), (show True ∧ S_WR_multiplyRows_L22 N2 N3 N4 t0_0 t0_1 t0_2 t0_3 t0_4 t0_5 t0_6 t1_0 t2_0 t3_0 t4_0 a42 a35 fm63 a171 lx79 from (by rw [← e172]; have h := hS90; rw [S_WR_multiplyRows_L35.eq_2] at h; rw [if_neg c163] at h; have c169x := c169; rw [← e167] at c169x; rw [if_pos c169x] at h; with_reducible exact h))⟩⟩
        ·
          exact J99 (()) _ _ _ w83 ⟨V, q_lw hl (q_lw1 0 rfl (q_lw1 1 rfl (q_lw1 2 rfl (q_lw1 3 rfl (q_lw1 4 rfl (q_lw1 5 rfl (q_lw1 6 rfl (q_lw1 7 rfl (q_lw1 8 rfl q_lw0))))))))), (show F_WR_multiplyRows_J49 (F_WR_multiplyRows_L22 N2 N3 N4 t0_0 t0_1 t0_2 t0_3 t0_4 t0_5 t0_6 t1_0 t2_0 t3_0 t4_0 a42 a35 fm63) (F_WR_multiplyRows_L35 (F_WR_multiplyRows_L22 N2 N3 N4 t0_0 t0_1 t0_2 t0_3 t0_4 t0_5 t0_6 t1_0 t2_0 t3_0 t4_0 a42 a35 fm63) N2 N3 N4 t0_0 t0_1 t0_2 t0_3 t0_4 t0_5 t0_6 t1_0 t2_0 t3_0 t4_0 a42 a35 lx48 lx49 fm93) N2 N3 N4 t0_0 t0_1 t0_2 t0_3 t0_4 t0_5 t0_6 t1_0 t2_0 t3_0 t4_0 a42 a35 lx48 lx49 lx77 lx78 lx79 = (F_WR_multiplyRows N2 N3 N4 t0_0 t0_1 t0_2 t0_3 t0_4 t0_5 t0_6 t1_0 t2_0 t3_0 t4_0) from Eq.trans (by have c169x := c169; rw [← e167] at c169x; rw [F_WR_multiplyRows_L35.eq_2, if_neg c163, if_neg c169x]) hR89), (show True ∧ S_WR_multiplyRows_J49 (S_WR_multiplyRows_L22 N2 N3 N4 t0_0 t0_1 t0_2 t0_3 t0_4 t0_5 t0_6 t1_0 t2_0 t3_0 t4_0 a42 a35 fm63) (S_WR_multiplyRows_L35 (S_WR_multiplyRows_L22 N2 N3 N4 t0_0 t0_1 t0_2 t0_3 t0_4 t0_5 t0_6 t1_0 t2_0 t3_0 t4_0 a42 a35 fm63) N2 N3 N4 t0_0 t0_1 t0_2 t0_3 t0_4 t0_5 t0_6 t1_0 t2_0 t3_0 t4_0 a42 a35 lx48 lx49 fm93) N2 N3 N4 t0_0 t0_1 t0_2 t0_3 t0_4 t0_5 t0_6 t1_0 t2_0 t3_0 t4_0 a42 a35 lx48 lx49 lx77 lx78 lx79 from (by have h := hS90; rw [S_WR_multiplyRows_L35.eq_2] at h; rw [if_neg c163] at h; have c169x := c169; rw [← e167] at c169x; rw [if_neg c169x] at h; with_reducible exact h))⟩
theorem d_19_14_0 : decode prog_19_method_14_code 0 = .ok (.aload_n 1, 1) := by decide +kernel
theorem d_19_14_1 : decode prog_19_method_14_code 1 = .ok (.invokestatic 59, 3) := by decide +kernel
theorem d_19_14_4 : decode prog_19_method_14_code 4 = .ok (.istore_n 3, 1) := by decide +kernel
theorem d_19_14_5 : decode prog_19_method_14_code 5 = .ok (.aload_n 2, 1) := by decide +kernel
theorem d_19_14_6 : decode prog_19_method_14_code 6 = .ok (.invokestatic 59, 3) := by decide +kernel
theorem d_19_14_9 : decode prog_19_method_14_code 9 = .ok (.istore 4, 2) := by decide +kernel
theorem d_19_14_11 : decode prog_19_method_14_code 11 = .ok (.aload_n 0, 1) := by decide +kernel
theorem d_19_14_12 : decode prog_19_method_14_code 12 = .ok (.getfield 32, 3) := by decide +kernel
theorem d_19_14_15 : decode prog_19_method_14_code 15 = .ok (.invokestatic 63, 3) := by decide +kernel
theorem d_19_14_18 : decode prog_19_method_14_code 18 = .ok (.aload_n 0, 1) := by decide +kernel
theorem d_19_14_19 : decode prog_19_method_14_code 19 = .ok (.getfield 29, 3) := by decide +kernel
theorem d_19_14_22 : decode prog_19_method_14_code 22 = .ok (.invokestatic 63, 3) := by decide +kernel
theorem d_19_14_25 : decode prog_19_method_14_code 25 = .ok (.iload_n 3, 1) := by decide +kernel
theorem d_19_14_26 : decode prog_19_method_14_code 26 = .ok (.iload 4, 2) := by decide +kernel
theorem d_19_14_41 : decode prog_19_method_14_code 41 = .ok (.istore 5, 2) := by decide +kernel
theorem d_19_14_43 : decode prog_19_method_14_code 43 = .ok (.iload 5, 2) := by decide +kernel
theorem d_19_14_45 : decode prog_19_method_14_code 45 = .ok (.istore 6, 2) := by decide +kernel
theorem d_19_14_47 : decode prog_19_method_14_code 47 = .ok (.iload 6, 2) := by decide +kernel
theorem d_19_14_49 : decode prog_19_method_14_code 49 = .ok (.iload_n 3, 1) := by decide +kernel
theorem d_19_14_50 : decode prog_19_method_14_code 50 = .ok (.if_icmp .ge 23, 3) := by decide +kernel
theorem d_19_14_73 : decode prog_19_method_14_code 73 = .ok (.iload 5, 2) := by decide +kernel
theorem d_19_14_75 : decode prog_19_method_14_code 75 = .ok (.iconst 1, 1) := by decide +kernel
theorem d_19_14_76 : decode prog_19_method_14_code 76 = .ok (.isub, 1) := by decide +kernel
theorem d_19_14_77 : decode prog_19_method_14_code 77 = .ok (.istore 6, 2) := by decide +kernel
theorem d_19_14_79 : decode prog_19_method_14_code 79 = .ok (.iload 6, 2) := by decide +kernel
theorem d_19_14_81 : decode prog_19_method_14_code 81 = .ok (.ifCond .lt 197, 3) := by decide +kernel
theorem d_19_14_278 : decode prog_19_method_14_code 278 = .ok (.return_, 1) := by decide +kernel
theorem d_19_14_84 : decode prog_19_method_14_code 84 = .ok (.iload 4, 2) := by decide +kernel
theorem d_19_14_86 : decode prog_19_method_14_code 86 = .ok (.istore 7, 2) := by decide +kernel
theorem d_19_14_88 : decode prog_19_method_14_code 88 = .ok (.iload 7, 2) := by decide +kernel
theorem d_19_14_90 : decode prog_19_method_14_code 90 = .ok (.ifCond .le 25, 3) := by decide +kernel
theorem d_19_14_115 : decode prog_19_method_14_code 115 = .ok (.aload_n 0, 1) := by decide +kernel
theorem d_19_14_116 : decode prog_19_method_14_code 116 = .ok (.getfield 29, 3) := by decide +kernel
theorem d_19_14_119 : decode prog_19_method_14_code 119 = .ok (.iconst 0, 1) := by decide +kernel
theorem d_19_14_120 : decode prog_19_method_14_code 120 = .ok (.aload_n 1, 1) := by decide +kernel
theorem d_19_14_121 : decode prog_19_method_14_code 121 = .ok (.iload 6, 2) := by decide +kernel
theorem d_19_14_123 : decode prog_19_method_14_code 123 = .ok (.iaload, 1) := by decide +kernel
theorem d_19_14_124 : decode prog_19_method_14_code 124 = .ok (.iastore, 1) := by decide +kernel
theorem d_19_14_125 : decode prog_19_method_14_code 125 = .ok (.aload_n 2, 1) := by decide +kernel
theorem d_19_14_126 : decode prog_19_method_14_code 126 = .ok (.iload 4, 2) := by decide +kernel
theorem d_19_14_128 : decode prog_19_method_14_code 128 = .ok (.iconst 1, 1) := by decide +kernel
theorem d_19_14_129 : decode prog_19_method_14_code 129 = .ok (.isub, 1) := by decide +kernel
theorem d_19_14_130 : decode prog_19_method_14_code 130 = .ok (.iaload, 1) := by decide +kernel
theorem d_19_14_131 : decode prog_19_method_14_code 131 = .ok (.i2l, 1) := by decide +kernel
theorem d_19_14_132 : decode prog_19_method_14_code 132 = .ok (.bipush 16, 2) := by decide +kernel
theorem d_19_14_134 : decode prog_19_method_14_code 134 = .ok (.lshl, 1) := by decide +kernel
theorem d_19_14_135 : decode prog_19_method_14_code 135 = .ok (.iload 4, 2) := by decide +kernel
theorem d_19_14_137 : decode prog_19_method_14_code 137 = .ok (.iconst 1, 1) := by decide +kernel
theorem d_19_14_151 : decode prog_19_method_14_code 151 = .ok (.i2l, 1) := by decide +kernel
theorem d_19_14_152 : decode prog_19_method_14_code 152 = .ok (.lor, 1) := by decide +kernel
theorem d_19_14_153 : decode prog_19_method_14_code 153 = .ok (.lstore 7, 2) := by decide +kernel
theorem d_19_14_155 : decode prog_19_method_14_code 155 = .ok (.aload_n 0, 1) := by decide +kernel
theorem d_19_14_156 : decode prog_19_method_14_code 156 = .ok (.getfield 29, 3) := by decide +kernel
theorem d_19_14_159 : decode prog_19_method_14_code 159 = .ok (.aload_n 2, 1) := by decide +kernel
theorem d_19_14_160 : decode prog_19_method_14_code 160 = .ok (.invokestatic 71, 3) := by decide +kernel
set_option maxRecDepth 100000 in
theorem w_2658 : (Cond.code ({ cls := "NumberHouseModel$WholeRows", name := "compareRows", desc := "([I[I)I" } : MethodName) prog_19_method_9_code (3 : Nat) (some .int)) ∈ q_tbl := q_of12 18 rfl (by decide +kernel)
set_option maxRecDepth 100000 in
theorem w_2656 : (Cond.methodLink "NumberHouseModel$WholeRows" (71 : Nat) ({ cls := "NumberHouseModel$WholeRows", name := "compareRows", desc := "([I[I)I" } : MethodName)) ∈ q_tbl := q_of12 16 rfl (by decide +kernel)
set_option maxRecDepth 100000 in
theorem w_2657 : (Cond.static ({ cls := "NumberHouseModel$WholeRows", name := "compareRows", desc := "([I[I)I" } : MethodName)) ∈ q_tbl := q_of12 17 rfl (by decide +kernel)
theorem LS_WR_71 : q_LS "NumberHouseModel$WholeRows" 71 y_WR_compareRows prog_19_method_9_code 3 (some .int) 2 := ⟨w_2658, w_15, w_2656, w_2657, ⟨by decide, by decide, by decide +kernel⟩⟩
theorem d_19_14_163 : decode prog_19_method_14_code 163 = .ok (.ifCond .lt 109, 3) := by decide +kernel
theorem d_19_14_272 : decode prog_19_method_14_code 272 = .ok (.iinc 6 (-1), 3) := by decide +kernel
theorem d_19_14_275 : decode prog_19_method_14_code 275 = .ok (.goto (-196), 3) := by decide +kernel
theorem d_19_14_166 : decode prog_19_method_14_code 166 = .ok (.aload_n 0, 1) := by decide +kernel
theorem d_19_14_167 : decode prog_19_method_14_code 167 = .ok (.getfield 29, 3) := by decide +kernel
theorem d_19_14_170 : decode prog_19_method_14_code 170 = .ok (.iload 4, 2) := by decide +kernel
theorem d_19_14_172 : decode prog_19_method_14_code 172 = .ok (.iaload, 1) := by decide +kernel
theorem d_19_14_173 : decode prog_19_method_14_code 173 = .ok (.i2l, 1) := by decide +kernel
theorem d_19_14_174 : decode prog_19_method_14_code 174 = .ok (.bipush 16, 2) := by decide +kernel
theorem d_19_14_176 : decode prog_19_method_14_code 176 = .ok (.lshl, 1) := by decide +kernel
theorem d_19_14_177 : decode prog_19_method_14_code 177 = .ok (.aload_n 0, 1) := by decide +kernel
theorem d_19_14_178 : decode prog_19_method_14_code 178 = .ok (.getfield 29, 3) := by decide +kernel
theorem d_19_14_181 : decode prog_19_method_14_code 181 = .ok (.iload 4, 2) := by decide +kernel
theorem d_19_14_183 : decode prog_19_method_14_code 183 = .ok (.iconst 1, 1) := by decide +kernel
theorem d_19_14_184 : decode prog_19_method_14_code 184 = .ok (.isub, 1) := by decide +kernel
theorem d_19_14_185 : decode prog_19_method_14_code 185 = .ok (.iaload, 1) := by decide +kernel
theorem d_19_14_186 : decode prog_19_method_14_code 186 = .ok (.i2l, 1) := by decide +kernel
theorem d_19_14_187 : decode prog_19_method_14_code 187 = .ok (.lor, 1) := by decide +kernel
theorem d_19_14_188 : decode prog_19_method_14_code 188 = .ok (.bipush 16, 2) := by decide +kernel
theorem d_19_14_190 : decode prog_19_method_14_code 190 = .ok (.lshl, 1) := by decide +kernel
theorem d_19_14_191 : decode prog_19_method_14_code 191 = .ok (.iload 4, 2) := by decide +kernel
theorem d_19_14_193 : decode prog_19_method_14_code 193 = .ok (.iconst 1, 1) := by decide +kernel
theorem d_19_14_210 : decode prog_19_method_14_code 210 = .ok (.i2l, 1) := by decide +kernel
theorem d_19_14_211 : decode prog_19_method_14_code 211 = .ok (.lor, 1) := by decide +kernel
theorem d_19_14_212 : decode prog_19_method_14_code 212 = .ok (.lstore 9, 2) := by decide +kernel
theorem d_19_14_214 : decode prog_19_method_14_code 214 = .ok (.lload 9, 2) := by decide +kernel
theorem d_19_14_216 : decode prog_19_method_14_code 216 = .ok (.lload 7, 2) := by decide +kernel
theorem d_19_14_218 : decode prog_19_method_14_code 218 = .ok (.lconst 1, 1) := by decide +kernel
theorem d_19_14_219 : decode prog_19_method_14_code 219 = .ok (.ladd, 1) := by decide +kernel
theorem d_19_14_220 : decode prog_19_method_14_code 220 = .ok (.ldiv, 1) := by decide +kernel
theorem d_19_14_221 : decode prog_19_method_14_code 221 = .ok (.lstore 11, 2) := by decide +kernel
theorem d_19_14_223 : decode prog_19_method_14_code 223 = .ok (.lload 11, 2) := by decide +kernel
theorem d_19_14_225 : decode prog_19_method_14_code 225 = .ok (.lconst 1, 1) := by decide +kernel
theorem d_19_14_226 : decode prog_19_method_14_code 226 = .ok (.lcmp, 1) := by decide +kernel
theorem d_19_14_236 : decode prog_19_method_14_code 236 = .ok (.lstore 11, 2) := by decide +kernel
theorem d_19_14_238 : decode prog_19_method_14_code 238 = .ok (.aload_n 0, 1) := by decide +kernel
theorem d_19_14_239 : decode prog_19_method_14_code 239 = .ok (.getfield 29, 3) := by decide +kernel
theorem d_19_14_242 : decode prog_19_method_14_code 242 = .ok (.aload_n 2, 1) := by decide +kernel
theorem d_19_14_243 : decode prog_19_method_14_code 243 = .ok (.iload 4, 2) := by decide +kernel
theorem d_19_14_245 : decode prog_19_method_14_code 245 = .ok (.lload 11, 2) := by decide +kernel
theorem d_19_14_247 : decode prog_19_method_14_code 247 = .ok (.iconst 1, 1) := by decide +kernel
theorem d_19_14_248 : decode prog_19_method_14_code 248 = .ok (.invokestatic 75, 3) := by decide +kernel
set_option maxRecDepth 100000 in
theorem w_2695 : (Cond.code ({ cls := "NumberHouseModel$WholeRows", name := "join", desc := "([I[IIJZ)V" } : MethodName) prog_19_method_10_code (11 : Nat) (none : Option ClassFile.FieldType)) ∈ q_tbl := q_of12 55 rfl (by decide +kernel)
set_option maxRecDepth 100000 in
theorem w_2693 : (Cond.methodLink "NumberHouseModel$WholeRows" (75 : Nat) ({ cls := "NumberHouseModel$WholeRows", name := "join", desc := "([I[IIJZ)V" } : MethodName)) ∈ q_tbl := q_of12 53 rfl (by decide +kernel)
set_option maxRecDepth 100000 in
theorem w_2694 : (Cond.static ({ cls := "NumberHouseModel$WholeRows", name := "join", desc := "([I[IIJZ)V" } : MethodName)) ∈ q_tbl := q_of12 54 rfl (by decide +kernel)
theorem LS_WR_75 : q_LS "NumberHouseModel$WholeRows" 75 y_WR_join prog_19_method_10_code 11 none 5 := ⟨w_2695, w_15, w_2693, w_2694, ⟨by decide, by decide, by decide +kernel⟩⟩
theorem d_19_14_251 : decode prog_19_method_14_code 251 = .ok (.aload_n 0, 1) := by decide +kernel
theorem d_19_14_252 : decode prog_19_method_14_code 252 = .ok (.getfield 32, 3) := by decide +kernel
theorem d_19_14_255 : decode prog_19_method_14_code 255 = .ok (.iload 6, 2) := by decide +kernel
theorem d_19_14_257 : decode prog_19_method_14_code 257 = .ok (.aload_n 0, 1) := by decide +kernel
theorem d_19_14_258 : decode prog_19_method_14_code 258 = .ok (.getfield 32, 3) := by decide +kernel
theorem d_19_14_261 : decode prog_19_method_14_code 261 = .ok (.iload 6, 2) := by decide +kernel
theorem d_19_14_263 : decode prog_19_method_14_code 263 = .ok (.iaload, 1) := by decide +kernel
theorem d_19_14_264 : decode prog_19_method_14_code 264 = .ok (.lload 11, 2) := by decide +kernel
theorem d_19_14_266 : decode prog_19_method_14_code 266 = .ok (.l2i, 1) := by decide +kernel
theorem d_19_14_267 : decode prog_19_method_14_code 267 = .ok (.iadd, 1) := by decide +kernel
theorem d_19_14_268 : decode prog_19_method_14_code 268 = .ok (.iastore, 1) := by decide +kernel
theorem d_19_14_269 : decode prog_19_method_14_code 269 = .ok (.goto (-114), 3) := by decide +kernel
theorem d_19_14_227 : decode prog_19_method_14_code 227 = .ok (.ifCond .ge 7, 3) := by decide +kernel
theorem d_19_14_234 : decode prog_19_method_14_code 234 = .ok (.lload 11, 2) := by decide +kernel
theorem d_19_14_230 : decode prog_19_method_14_code 230 = .ok (.lconst 1, 1) := by decide +kernel
theorem d_19_14_231 : decode prog_19_method_14_code 231 = .ok (.goto 5, 3) := by decide +kernel
theorem d_19_14_194 : decode prog_19_method_14_code 194 = .ok (.if_icmp .le 15, 3) := by decide +kernel
theorem d_19_14_209 : decode prog_19_method_14_code 209 = .ok (.iconst 0, 1) := by decide +kernel
theorem d_19_14_197 : decode prog_19_method_14_code 197 = .ok (.aload_n 0, 1) := by decide +kernel
theorem d_19_14_198 : decode prog_19_method_14_code 198 = .ok (.getfield 29, 3) := by decide +kernel
theorem d_19_14_201 : decode prog_19_method_14_code 201 = .ok (.iload 4, 2) := by decide +kernel
theorem d_19_14_203 : decode prog_19_method_14_code 203 = .ok (.iconst 2, 1) := by decide +kernel
theorem d_19_14_204 : decode prog_19_method_14_code 204 = .ok (.isub, 1) := by decide +kernel
theorem d_19_14_205 : decode prog_19_method_14_code 205 = .ok (.iaload, 1) := by decide +kernel
theorem d_19_14_206 : decode prog_19_method_14_code 206 = .ok (.goto 4, 3) := by decide +kernel
theorem d_19_14_138 : decode prog_19_method_14_code 138 = .ok (.if_icmp .le 12, 3) := by decide +kernel
theorem d_19_14_150 : decode prog_19_method_14_code 150 = .ok (.iconst 0, 1) := by decide +kernel
theorem d_19_14_141 : decode prog_19_method_14_code 141 = .ok (.aload_n 2, 1) := by decide +kernel
theorem d_19_14_142 : decode prog_19_method_14_code 142 = .ok (.iload 4, 2) := by decide +kernel
theorem d_19_14_144 : decode prog_19_method_14_code 144 = .ok (.iconst 2, 1) := by decide +kernel
theorem d_19_14_145 : decode prog_19_method_14_code 145 = .ok (.isub, 1) := by decide +kernel
theorem d_19_14_146 : decode prog_19_method_14_code 146 = .ok (.iaload, 1) := by decide +kernel
theorem d_19_14_147 : decode prog_19_method_14_code 147 = .ok (.goto 4, 3) := by decide +kernel
theorem d_19_14_93 : decode prog_19_method_14_code 93 = .ok (.aload_n 0, 1) := by decide +kernel
theorem d_19_14_94 : decode prog_19_method_14_code 94 = .ok (.getfield 29, 3) := by decide +kernel
theorem d_19_14_97 : decode prog_19_method_14_code 97 = .ok (.iload 7, 2) := by decide +kernel
theorem d_19_14_99 : decode prog_19_method_14_code 99 = .ok (.aload_n 0, 1) := by decide +kernel
theorem d_19_14_100 : decode prog_19_method_14_code 100 = .ok (.getfield 29, 3) := by decide +kernel
theorem d_19_14_103 : decode prog_19_method_14_code 103 = .ok (.iload 7, 2) := by decide +kernel
theorem d_19_14_105 : decode prog_19_method_14_code 105 = .ok (.iconst 1, 1) := by decide +kernel
theorem d_19_14_106 : decode prog_19_method_14_code 106 = .ok (.isub, 1) := by decide +kernel
theorem d_19_14_107 : decode prog_19_method_14_code 107 = .ok (.iaload, 1) := by decide +kernel
theorem d_19_14_108 : decode prog_19_method_14_code 108 = .ok (.iastore, 1) := by decide +kernel
theorem d_19_14_109 : decode prog_19_method_14_code 109 = .ok (.iinc 7 (-1), 3) := by decide +kernel
theorem d_19_14_112 : decode prog_19_method_14_code 112 = .ok (.goto (-24), 3) := by decide +kernel
theorem d_19_14_53 : decode prog_19_method_14_code 53 = .ok (.aload_n 0, 1) := by decide +kernel
theorem d_19_14_54 : decode prog_19_method_14_code 54 = .ok (.getfield 29, 3) := by decide +kernel
theorem d_19_14_57 : decode prog_19_method_14_code 57 = .ok (.iload 6, 2) := by decide +kernel
theorem d_19_14_59 : decode prog_19_method_14_code 59 = .ok (.iload 5, 2) := by decide +kernel
theorem d_19_14_61 : decode prog_19_method_14_code 61 = .ok (.isub, 1) := by decide +kernel
theorem d_19_14_62 : decode prog_19_method_14_code 62 = .ok (.aload_n 1, 1) := by decide +kernel
theorem d_19_14_63 : decode prog_19_method_14_code 63 = .ok (.iload 6, 2) := by decide +kernel
theorem d_19_14_65 : decode prog_19_method_14_code 65 = .ok (.iaload, 1) := by decide +kernel
theorem d_19_14_66 : decode prog_19_method_14_code 66 = .ok (.iastore, 1) := by decide +kernel
theorem d_19_14_67 : decode prog_19_method_14_code 67 = .ok (.iinc 6 1, 3) := by decide +kernel
theorem d_19_14_70 : decode prog_19_method_14_code 70 = .ok (.goto (-23), 3) := by decide +kernel
theorem d_19_14_28 : decode prog_19_method_14_code 28 = .ok (.if_icmp .ge 7, 3) := by decide +kernel
theorem d_19_14_35 : decode prog_19_method_14_code 35 = .ok (.iload_n 3, 1) := by decide +kernel
theorem d_19_14_36 : decode prog_19_method_14_code 36 = .ok (.iload 4, 2) := by decide +kernel
theorem d_19_14_38 : decode prog_19_method_14_code 38 = .ok (.isub, 1) := by decide +kernel
theorem d_19_14_39 : decode prog_19_method_14_code 39 = .ok (.iconst 1, 1) := by decide +kernel
theorem d_19_14_40 : decode prog_19_method_14_code 40 = .ok (.iadd, 1) := by decide +kernel
theorem d_19_14_31 : decode prog_19_method_14_code 31 = .ok (.iconst 0, 1) := by decide +kernel
theorem d_19_14_32 : decode prog_19_method_14_code 32 = .ok (.goto 9, 3) := by decide +kernel
def y_WR_divideRows : MethodName := ⟨"NumberHouseModel$WholeRows", "divideRows", "([I[I)V"⟩
def F_WR_divideRows_J236 (K_F_WR_divideRows_L47 : Int32 → (Nat → Int32) → ((Nat → Int32) × (Nat → Int32))) (K_F_WR_divideRows_L79 : Int32 → (Nat → Int32) → (Nat → Int32) → ((Nat → Int32) × (Nat → Int32))) (K_F_WR_divideRows_L88 : Int32 → (Nat → Int32) → ((Nat → Int32) × (Nat → Int32))) (K_F_WR_divideRows_L155 : (Nat → Int32) → (Nat → Int32) → ((Nat → Int32) × (Nat → Int32))) (N2 : Int32) (N3 : Int32) (t0_0 : Int32) (t0_1 : Int32) (t0_2 : Int32) (t0_3 : Int32) (t0_4 : Int32) (t0_5 : Int32) (t0_6 : Int32) (t1_0 : (Nat → Int32)) (t2_0 : (Nat → Int32)) (t3_0 : (Nat → Int32)) (t4_0 : (Nat → Int32)) (a35 : Int32) (a28 : Int32) (f49 : (Nat → Int32)) (f42 : (Nat → Int32)) (lx54 : Int32) (lx70 : Int32) (lx71 : (Nat → Int32)) (lx92 : Int32) (lx93 : (Nat → Int32)) (lx94 : (Nat → Int32)) (lx113 : Int32) (lx114 : (Nat → Int32)) (j147 : Int64) (f136 : (Nat → Int32)) (lx149 : Int32) (j164 : Int64) (lx166 : (Nat → Int32)) (lx167 : (Nat → Int32)) (j214 : Int64) (lx216 : Int32) (lx241 : Int64) : (Nat → Int32) × (Nat → Int32) := K_F_WR_divideRows_L155 ((F_WR_join (264 : Int32) N3 a35 lx241 (1 : Int32) lx166 t4_0) : (Nat → Int32)) (upd lx167 lx92.toNatClampNeg ((lx167 lx92.toNatClampNeg : Int32) + (lx241.toInt32 : Int32) : Int32) : (Nat → Int32))
def F_WR_divideRows_J210 (K_F_WR_divideRows_L47 : Int32 → (Nat → Int32) → ((Nat → Int32) × (Nat → Int32))) (K_F_WR_divideRows_L79 : Int32 → (Nat → Int32) → (Nat → Int32) → ((Nat → Int32) × (Nat → Int32))) (K_F_WR_divideRows_L88 : Int32 → (Nat → Int32) → ((Nat → Int32) × (Nat → Int32))) (K_F_WR_divideRows_L155 : (Nat → Int32) → (Nat → Int32) → ((Nat → Int32) × (Nat → Int32))) (N2 : Int32) (N3 : Int32) (t0_0 : Int32) (t0_1 : Int32) (t0_2 : Int32) (t0_3 : Int32) (t0_4 : Int32) (t0_5 : Int32) (t0_6 : Int32) (t1_0 : (Nat → Int32)) (t2_0 : (Nat → Int32)) (t3_0 : (Nat → Int32)) (t4_0 : (Nat → Int32)) (a35 : Int32) (a28 : Int32) (f49 : (Nat → Int32)) (f42 : (Nat → Int32)) (lx54 : Int32) (lx70 : Int32) (lx71 : (Nat → Int32)) (lx92 : Int32) (lx93 : (Nat → Int32)) (lx94 : (Nat → Int32)) (lx113 : Int32) (lx114 : (Nat → Int32)) (j147 : Int64) (f136 : (Nat → Int32)) (lx149 : Int32) (j164 : Int64) (lx166 : (Nat → Int32)) (lx167 : (Nat → Int32)) (j214 : Int64) (lx216 : Int32) : (Nat → Int32) × (Nat → Int32) := if (0 : Int32) ≤ (lg_cmp ((j214 ||| (lx216.toInt64 : Int64) : Int64) / (j164 + 1 : Int64) : Int64) 1 : Int32) then (F_WR_divideRows_J236 K_F_WR_divideRows_L47 K_F_WR_divideRows_L79 K_F_WR_divideRows_L88 K_F_WR_divideRows_L155 N2 N3 t0_0 t0_1 t0_2 t0_3 t0_4 t0_5 t0_6 t1_0 t2_0 t3_0 t4_0 a35 a28 f49 f42 lx54 lx70 lx71 lx92 lx93 lx94 lx113 lx114 j147 f136 lx149 j164 lx166 lx167 j214 lx216 ((j214 ||| (lx216.toInt64 : Int64) : Int64) / (j164 + 1 : Int64) : Int64)) else (F_WR_divideRows_J236 K_F_WR_divideRows_L47 K_F_WR_divideRows_L79 K_F_WR_divideRows_L88 K_F_WR_divideRows_L155 N2 N3 t0_0 t0_1 t0_2 t0_3 t0_4 t0_5 t0_6 t1_0 t2_0 t3_0 t4_0 a35 a28 f49 f42 lx54 lx70 lx71 lx92 lx93 lx94 lx113 lx114 j147 f136 lx149 j164 lx166 lx167 j214 lx216 1)
def F_WR_divideRows_L155 (K_F_WR_divideRows_L47 : Int32 → (Nat → Int32) → ((Nat → Int32) × (Nat → Int32))) (K_F_WR_divideRows_L79 : Int32 → (Nat → Int32) → (Nat → Int32) → ((Nat → Int32) × (Nat → Int32))) (K_F_WR_divideRows_L88 : Int32 → (Nat → Int32) → ((Nat → Int32) × (Nat → Int32))) (N2 : Int32) (N3 : Int32) (t0_0 : Int32) (t0_1 : Int32) (t0_2 : Int32) (t0_3 : Int32) (t0_4 : Int32) (t0_5 : Int32) (t0_6 : Int32) (t1_0 : (Nat → Int32)) (t2_0 : (Nat → Int32)) (t3_0 : (Nat → Int32)) (t4_0 : (Nat → Int32)) (a35 : Int32) (a28 : Int32) (f49 : (Nat → Int32)) (f42 : (Nat → Int32)) (lx54 : Int32) (lx70 : Int32) (lx71 : (Nat → Int32)) (lx92 : Int32) (lx93 : (Nat → Int32)) (lx94 : (Nat → Int32)) (lx113 : Int32) (lx114 : (Nat → Int32)) (j147 : Int64) (f136 : (Nat → Int32)) (lx149 : Int32) (j164 : Int64) : Nat → (Nat → Int32) → (Nat → Int32) → ((Nat → Int32) × (Nat → Int32))
  | 0, _, _ => default
  | fm + 1, lx166, lx167 => if ((F_WR_compareRows (264 : Int32) N3 lx166 t4_0) : Int32) < (0 : Int32) then (K_F_WR_divideRows_L79 (lx92 + (-1) : Int32) lx166 lx167) else (if a35 ≤ (1 : Int32) then (F_WR_divideRows_J210 K_F_WR_divideRows_L47 K_F_WR_divideRows_L79 K_F_WR_divideRows_L88 (F_WR_divideRows_L155 K_F_WR_divideRows_L47 K_F_WR_divideRows_L79 K_F_WR_divideRows_L88 N2 N3 t0_0 t0_1 t0_2 t0_3 t0_4 t0_5 t0_6 t1_0 t2_0 t3_0 t4_0 a35 a28 f49 f42 lx54 lx70 lx71 lx92 lx93 lx94 lx113 lx114 j147 f136 lx149 j164 fm) N2 N3 t0_0 t0_1 t0_2 t0_3 t0_4 t0_5 t0_6 t1_0 t2_0 t3_0 t4_0 a35 a28 f49 f42 lx54 lx70 lx71 lx92 lx93 lx94 lx113 lx114 j147 f136 lx149 j164 lx166 lx167 (((((lx166 a35.toNatClampNeg : Int32).toInt64 : Int64) <<< ((16 : Int32).toInt64 &&& 63) : Int64) ||| ((lx166 (a35 - 1 : Int32).toNatClampNeg : Int32).toInt64 : Int64) : Int64) <<< ((16 : Int32).toInt64 &&& 63) : Int64) 0) else (F_WR_divideRows_J210 K_F_WR_divideRows_L47 K_F_WR_divideRows_L79 K_F_WR_divideRows_L88 (F_WR_divideRows_L155 K_F_WR_divideRows_L47 K_F_WR_divideRows_L79 K_F_WR_divideRows_L88 N2 N3 t0_0 t0_1 t0_2 t0_3 t0_4 t0_5 t0_6 t1_0 t2_0 t3_0 t4_0 a35 a28 f49 f42 lx54 lx70 lx71 lx92 lx93 lx94 lx113 lx114 j147 f136 lx149 j164 fm) N2 N3 t0_0 t0_1 t0_2 t0_3 t0_4 t0_5 t0_6 t1_0 t2_0 t3_0 t4_0 a35 a28 f49 f42 lx54 lx70 lx71 lx92 lx93 lx94 lx113 lx114 j147 f136 lx149 j164 lx166 lx167 (((((lx166 a35.toNatClampNeg : Int32).toInt64 : Int64) <<< ((16 : Int32).toInt64 &&& 63) : Int64) ||| ((lx166 (a35 - 1 : Int32).toNatClampNeg : Int32).toInt64 : Int64) : Int64) <<< ((16 : Int32).toInt64 &&& 63) : Int64) (lx166 (a35 - 2 : Int32).toNatClampNeg : Int32)))
def F_WR_divideRows_J151 (K_F_WR_divideRows_L47 : Int32 → (Nat → Int32) → ((Nat → Int32) × (Nat → Int32))) (K_F_WR_divideRows_L79 : Int32 → (Nat → Int32) → (Nat → Int32) → ((Nat → Int32) × (Nat → Int32))) (K_F_WR_divideRows_L88 : Int32 → (Nat → Int32) → ((Nat → Int32) × (Nat → Int32))) (N2 : Int32) (N3 : Int32) (t0_0 : Int32) (t0_1 : Int32) (t0_2 : Int32) (t0_3 : Int32) (t0_4 : Int32) (t0_5 : Int32) (t0_6 : Int32) (t1_0 : (Nat → Int32)) (t2_0 : (Nat → Int32)) (t3_0 : (Nat → Int32)) (t4_0 : (Nat → Int32)) (a35 : Int32) (a28 : Int32) (f49 : (Nat → Int32)) (f42 : (Nat → Int32)) (lx54 : Int32) (lx70 : Int32) (lx71 : (Nat → Int32)) (lx92 : Int32) (lx93 : (Nat → Int32)) (lx94 : (Nat → Int32)) (lx113 : Int32) (lx114 : (Nat → Int32)) (j147 : Int64) (f136 : (Nat → Int32)) (lx149 : Int32) : (Nat → Int32) × (Nat → Int32) := F_WR_divideRows_L155 K_F_WR_divideRows_L47 K_F_WR_divideRows_L79 K_F_WR_divideRows_L88 N2 N3 t0_0 t0_1 t0_2 t0_3 t0_4 t0_5 t0_6 t1_0 t2_0 t3_0 t4_0 a35 a28 f49 f42 lx54 lx70 lx71 lx92 lx93 lx94 lx113 lx114 j147 f136 lx149 (j147 ||| (lx149.toInt64 : Int64) : Int64) 1000000 f136 lx94
def F_WR_divideRows_L88 (K_F_WR_divideRows_L47 : Int32 → (Nat → Int32) → ((Nat → Int32) × (Nat → Int32))) (K_F_WR_divideRows_L79 : Int32 → (Nat → Int32) → (Nat → Int32) → ((Nat → Int32) × (Nat → Int32))) (N2 : Int32) (N3 : Int32) (t0_0 : Int32) (t0_1 : Int32) (t0_2 : Int32) (t0_3 : Int32) (t0_4 : Int32) (t0_5 : Int32) (t0_6 : Int32) (t1_0 : (Nat → Int32)) (t2_0 : (Nat → Int32)) (t3_0 : (Nat → Int32)) (t4_0 : (Nat → Int32)) (a35 : Int32) (a28 : Int32) (f49 : (Nat → Int32)) (f42 : (Nat → Int32)) (lx54 : Int32) (lx70 : Int32) (lx71 : (Nat → Int32)) (lx92 : Int32) (lx93 : (Nat → Int32)) (lx94 : (Nat → Int32)) : Nat → Int32 → (Nat → Int32) → ((Nat → Int32) × (Nat → Int32))
  | 0, _, _ => default
  | fm + 1, lx113, lx114 => if lx113 ≤ (0 : Int32) then (if a35 ≤ (1 : Int32) then (F_WR_divideRows_J151 K_F_WR_divideRows_L47 K_F_WR_divideRows_L79 (F_WR_divideRows_L88 K_F_WR_divideRows_L47 K_F_WR_divideRows_L79 N2 N3 t0_0 t0_1 t0_2 t0_3 t0_4 t0_5 t0_6 t1_0 t2_0 t3_0 t4_0 a35 a28 f49 f42 lx54 lx70 lx71 lx92 lx93 lx94 fm) N2 N3 t0_0 t0_1 t0_2 t0_3 t0_4 t0_5 t0_6 t1_0 t2_0 t3_0 t4_0 a35 a28 f49 f42 lx54 lx70 lx71 lx92 lx93 lx94 lx113 lx114 (((t4_0 (a35 - 1 : Int32).toNatClampNeg : Int32).toInt64 : Int64) <<< ((16 : Int32).toInt64 &&& 63) : Int64) (upd lx114 (0 : Int32).toNatClampNeg (t3_0 lx92.toNatClampNeg : Int32) : (Nat → Int32)) 0) else (F_WR_divideRows_J151 K_F_WR_divideRows_L47 K_F_WR_divideRows_L79 (F_WR_divideRows_L88 K_F_WR_divideRows_L47 K_F_WR_divideRows_L79 N2 N3 t0_0 t0_1 t0_2 t0_3 t0_4 t0_5 t0_6 t1_0 t2_0 t3_0 t4_0 a35 a28 f49 f42 lx54 lx70 lx71 lx92 lx93 lx94 fm) N2 N3 t0_0 t0_1 t0_2 t0_3 t0_4 t0_5 t0_6 t1_0 t2_0 t3_0 t4_0 a35 a28 f49 f42 lx54 lx70 lx71 lx92 lx93 lx94 lx113 lx114 (((t4_0 (a35 - 1 : Int32).toNatClampNeg : Int32).toInt64 : Int64) <<< ((16 : Int32).toInt64 &&& 63) : Int64) (upd lx114 (0 : Int32).toNatClampNeg (t3_0 lx92.toNatClampNeg : Int32) : (Nat → Int32)) (t4_0 (a35 - 2 : Int32).toNatClampNeg : Int32))) else (F_WR_divideRows_L88 K_F_WR_divideRows_L47 K_F_WR_divideRows_L79 N2 N3 t0_0 t0_1 t0_2 t0_3 t0_4 t0_5 t0_6 t1_0 t2_0 t3_0 t4_0 a35 a28 f49 f42 lx54 lx70 lx71 lx92 lx93 lx94 fm (lx113 + (-1) : Int32) (upd lx114 lx113.toNatClampNeg (lx114 (lx113 - 1 : Int32).toNatClampNeg : Int32) : (Nat → Int32)))
def F_WR_divideRows_L79 (K_F_WR_divideRows_L47 : Int32 → (Nat → Int32) → ((Nat → Int32) × (Nat → Int32))) (N2 : Int32) (N3 : Int32) (t0_0 : Int32) (t0_1 : Int32) (t0_2 : Int32) (t0_3 : Int32) (t0_4 : Int32) (t0_5 : Int32) (t0_6 : Int32) (t1_0 : (Nat → Int32)) (t2_0 : (Nat → Int32)) (t3_0 : (Nat → Int32)) (t4_0 : (Nat → Int32)) (a35 : Int32) (a28 : Int32) (f49 : (Nat → Int32)) (f42 : (Nat → Int32)) (lx54 : Int32) (lx70 : Int32) (lx71 : (Nat → Int32)) : Nat → Int32 → (Nat → Int32) → (Nat → Int32) → ((Nat → Int32) × (Nat → Int32))
  | 0, _, _, _ => default
  | fm + 1, lx92, lx93, lx94 => if lx92 < (0 : Int32) then ((lx93, lx94)) else (F_WR_divideRows_L88 K_F_WR_divideRows_L47 (F_WR_divideRows_L79 K_F_WR_divideRows_L47 N2 N3 t0_0 t0_1 t0_2 t0_3 t0_4 t0_5 t0_6 t1_0 t2_0 t3_0 t4_0 a35 a28 f49 f42 lx54 lx70 lx71 fm) N2 N3 t0_0 t0_1 t0_2 t0_3 t0_4 t0_5 t0_6 t1_0 t2_0 t3_0 t4_0 a35 a28 f49 f42 lx54 lx70 lx71 lx92 lx93 lx94 ((a35.toInt - ((-1))).toNat + 1) a35 lx93)
def F_WR_divideRows_L47 (N2 : Int32) (N3 : Int32) (t0_0 : Int32) (t0_1 : Int32) (t0_2 : Int32) (t0_3 : Int32) (t0_4 : Int32) (t0_5 : Int32) (t0_6 : Int32) (t1_0 : (Nat → Int32)) (t2_0 : (Nat → Int32)) (t3_0 : (Nat → Int32)) (t4_0 : (Nat → Int32)) (a35 : Int32) (a28 : Int32) (f49 : (Nat → Int32)) (f42 : (Nat → Int32)) (lx54 : Int32) : Nat → Int32 → (Nat → Int32) → ((Nat → Int32) × (Nat → Int32))
  | 0, _, _ => default
  | fm + 1, lx70, lx71 => if a28 ≤ lx70 then (F_WR_divideRows_L79 (F_WR_divideRows_L47 N2 N3 t0_0 t0_1 t0_2 t0_3 t0_4 t0_5 t0_6 t1_0 t2_0 t3_0 t4_0 a35 a28 f49 f42 lx54 fm) N2 N3 t0_0 t0_1 t0_2 t0_3 t0_4 t0_5 t0_6 t1_0 t2_0 t3_0 t4_0 a35 a28 f49 f42 lx54 lx70 lx71 (((lx54 - 1 : Int32).toInt - ((-1))).toNat + 1) (lx54 - 1 : Int32) lx71 f42) else (F_WR_divideRows_L47 N2 N3 t0_0 t0_1 t0_2 t0_3 t0_4 t0_5 t0_6 t1_0 t2_0 t3_0 t4_0 a35 a28 f49 f42 lx54 fm (lx70 + 1 : Int32) (upd lx71 (lx70 - lx54 : Int32).toNatClampNeg (t3_0 lx70.toNatClampNeg : Int32) : (Nat → Int32)))
def F_WR_divideRows_J41 (N2 : Int32) (N3 : Int32) (t0_0 : Int32) (t0_1 : Int32) (t0_2 : Int32) (t0_3 : Int32) (t0_4 : Int32) (t0_5 : Int32) (t0_6 : Int32) (t1_0 : (Nat → Int32)) (t2_0 : (Nat → Int32)) (t3_0 : (Nat → Int32)) (t4_0 : (Nat → Int32)) (a35 : Int32) (a28 : Int32) (f49 : (Nat → Int32)) (f42 : (Nat → Int32)) (lx54 : Int32) : (Nat → Int32) × (Nat → Int32) := F_WR_divideRows_L47 N2 N3 t0_0 t0_1 t0_2 t0_3 t0_4 t0_5 t0_6 t1_0 t2_0 t3_0 t4_0 a35 a28 f49 f42 lx54 ((20200 - lx54.toInt).toNat + 1) lx54 f49
def F_WR_divideRows (N2 : Int32) (N3 : Int32) (t0_0 : Int32) (t0_1 : Int32) (t0_2 : Int32) (t0_3 : Int32) (t0_4 : Int32) (t0_5 : Int32) (t0_6 : Int32) (t1_0 : (Nat → Int32)) (t2_0 : (Nat → Int32)) (t3_0 : (Nat → Int32)) (t4_0 : (Nat → Int32)) : (Nat → Int32) × (Nat → Int32) := if ((F_WR_size N3 t4_0) : Int32) ≤ ((F_WR_size N2 t3_0) : Int32) then (F_WR_divideRows_J41 N2 N3 t0_0 t0_1 t0_2 t0_3 t0_4 t0_5 t0_6 t1_0 t2_0 t3_0 t4_0 ((F_WR_size N3 t4_0) : Int32) ((F_WR_size N2 t3_0) : Int32) ((F_WR_clear (264 : Int32) t1_0) : (Nat → Int32)) ((F_WR_clear (264 : Int32) t2_0) : (Nat → Int32)) ((((F_WR_size N2 t3_0) : Int32) - ((F_WR_size N3 t4_0) : Int32) : Int32) + 1 : Int32)) else (F_WR_divideRows_J41 N2 N3 t0_0 t0_1 t0_2 t0_3 t0_4 t0_5 t0_6 t1_0 t2_0 t3_0 t4_0 ((F_WR_size N3 t4_0) : Int32) ((F_WR_size N2 t3_0) : Int32) ((F_WR_clear (264 : Int32) t1_0) : (Nat → Int32)) ((F_WR_clear (264 : Int32) t2_0) : (Nat → Int32)) 0)
def S_WR_divideRows_J236 (K_S_WR_divideRows_L47 : Int32 → (Nat → Int32) → Prop) (K_S_WR_divideRows_L79 : Int32 → (Nat → Int32) → (Nat → Int32) → Prop) (K_S_WR_divideRows_L88 : Int32 → (Nat → Int32) → Prop) (K_S_WR_divideRows_L155 : (Nat → Int32) → (Nat → Int32) → Prop) (N2 : Int32) (N3 : Int32) (t0_0 : Int32) (t0_1 : Int32) (t0_2 : Int32) (t0_3 : Int32) (t0_4 : Int32) (t0_5 : Int32) (t0_6 : Int32) (t1_0 : (Nat → Int32)) (t2_0 : (Nat → Int32)) (t3_0 : (Nat → Int32)) (t4_0 : (Nat → Int32)) (a35 : Int32) (a28 : Int32) (f49 : (Nat → Int32)) (f42 : (Nat → Int32)) (lx54 : Int32) (lx70 : Int32) (lx71 : (Nat → Int32)) (lx92 : Int32) (lx93 : (Nat → Int32)) (lx94 : (Nat → Int32)) (lx113 : Int32) (lx114 : (Nat → Int32)) (j147 : Int64) (f136 : (Nat → Int32)) (lx149 : Int32) (j164 : Int64) (lx166 : (Nat → Int32)) (lx167 : (Nat → Int32)) (j214 : Int64) (lx216 : Int32) (lx241 : Int64) : Prop := (True ∧ S_WR_join (264 : Int32) N3 a35 lx241 (1 : Int32) lx166 t4_0) ∧ ((lx92.toInt ≤ 263) ∧ (K_S_WR_divideRows_L155 ((F_WR_join (264 : Int32) N3 a35 lx241 (1 : Int32) lx166 t4_0) : (Nat → Int32)) (upd lx167 lx92.toNatClampNeg ((lx167 lx92.toNatClampNeg : Int32) + (lx241.toInt32 : Int32) : Int32) : (Nat → Int32))))
def S_WR_divideRows_J210 (K_S_WR_divideRows_L47 : Int32 → (Nat → Int32) → Prop) (K_S_WR_divideRows_L79 : Int32 → (Nat → Int32) → (Nat → Int32) → Prop) (K_S_WR_divideRows_L88 : Int32 → (Nat → Int32) → Prop) (K_S_WR_divideRows_L155 : (Nat → Int32) → (Nat → Int32) → Prop) (N2 : Int32) (N3 : Int32) (t0_0 : Int32) (t0_1 : Int32) (t0_2 : Int32) (t0_3 : Int32) (t0_4 : Int32) (t0_5 : Int32) (t0_6 : Int32) (t1_0 : (Nat → Int32)) (t2_0 : (Nat → Int32)) (t3_0 : (Nat → Int32)) (t4_0 : (Nat → Int32)) (a35 : Int32) (a28 : Int32) (f49 : (Nat → Int32)) (f42 : (Nat → Int32)) (lx54 : Int32) (lx70 : Int32) (lx71 : (Nat → Int32)) (lx92 : Int32) (lx93 : (Nat → Int32)) (lx94 : (Nat → Int32)) (lx113 : Int32) (lx114 : (Nat → Int32)) (j147 : Int64) (f136 : (Nat → Int32)) (lx149 : Int32) (j164 : Int64) (lx166 : (Nat → Int32)) (lx167 : (Nat → Int32)) (j214 : Int64) (lx216 : Int32) : Prop := (1 ≤ (j164 + 1 : Int64).toInt) ∧ (if (0 : Int32) ≤ (lg_cmp ((j214 ||| (lx216.toInt64 : Int64) : Int64) / (j164 + 1 : Int64) : Int64) 1 : Int32) then (S_WR_divideRows_J236 K_S_WR_divideRows_L47 K_S_WR_divideRows_L79 K_S_WR_divideRows_L88 K_S_WR_divideRows_L155 N2 N3 t0_0 t0_1 t0_2 t0_3 t0_4 t0_5 t0_6 t1_0 t2_0 t3_0 t4_0 a35 a28 f49 f42 lx54 lx70 lx71 lx92 lx93 lx94 lx113 lx114 j147 f136 lx149 j164 lx166 lx167 j214 lx216 ((j214 ||| (lx216.toInt64 : Int64) : Int64) / (j164 + 1 : Int64) : Int64)) else (S_WR_divideRows_J236 K_S_WR_divideRows_L47 K_S_WR_divideRows_L79 K_S_WR_divideRows_L88 K_S_WR_divideRows_L155 N2 N3 t0_0 t0_1 t0_2 t0_3 t0_4 t0_5 t0_6 t1_0 t2_0 t3_0 t4_0 a35 a28 f49 f42 lx54 lx70 lx71 lx92 lx93 lx94 lx113 lx114 j147 f136 lx149 j164 lx166 lx167 j214 lx216 1))
def S_WR_divideRows_L155 (K_S_WR_divideRows_L47 : Int32 → (Nat → Int32) → Prop) (K_S_WR_divideRows_L79 : Int32 → (Nat → Int32) → (Nat → Int32) → Prop) (K_S_WR_divideRows_L88 : Int32 → (Nat → Int32) → Prop) (N2 : Int32) (N3 : Int32) (t0_0 : Int32) (t0_1 : Int32) (t0_2 : Int32) (t0_3 : Int32) (t0_4 : Int32) (t0_5 : Int32) (t0_6 : Int32) (t1_0 : (Nat → Int32)) (t2_0 : (Nat → Int32)) (t3_0 : (Nat → Int32)) (t4_0 : (Nat → Int32)) (a35 : Int32) (a28 : Int32) (f49 : (Nat → Int32)) (f42 : (Nat → Int32)) (lx54 : Int32) (lx70 : Int32) (lx71 : (Nat → Int32)) (lx92 : Int32) (lx93 : (Nat → Int32)) (lx94 : (Nat → Int32)) (lx113 : Int32) (lx114 : (Nat → Int32)) (j147 : Int64) (f136 : (Nat → Int32)) (lx149 : Int32) (j164 : Int64) : Nat → (Nat → Int32) → (Nat → Int32) → Prop
  | 0, _, _ => False
  | fm + 1, lx166, lx167 => (True ∧ S_WR_compareRows (264 : Int32) N3 lx166 t4_0) ∧ (if ((F_WR_compareRows (264 : Int32) N3 lx166 t4_0) : Int32) < (0 : Int32) then (K_S_WR_divideRows_L79 (lx92 + (-1) : Int32) lx166 lx167) else ((a35.toInt ≤ 263) ∧ (if a35 ≤ (1 : Int32) then (S_WR_divideRows_J210 K_S_WR_divideRows_L47 K_S_WR_divideRows_L79 K_S_WR_divideRows_L88 (S_WR_divideRows_L155 K_S_WR_divideRows_L47 K_S_WR_divideRows_L79 K_S_WR_divideRows_L88 N2 N3 t0_0 t0_1 t0_2 t0_3 t0_4 t0_5 t0_6 t1_0 t2_0 t3_0 t4_0 a35 a28 f49 f42 lx54 lx70 lx71 lx92 lx93 lx94 lx113 lx114 j147 f136 lx149 j164 fm) N2 N3 t0_0 t0_1 t0_2 t0_3 t0_4 t0_5 t0_6 t1_0 t2_0 t3_0 t4_0 a35 a28 f49 f42 lx54 lx70 lx71 lx92 lx93 lx94 lx113 lx114 j147 f136 lx149 j164 lx166 lx167 (((((lx166 a35.toNatClampNeg : Int32).toInt64 : Int64) <<< ((16 : Int32).toInt64 &&& 63) : Int64) ||| ((lx166 (a35 - 1 : Int32).toNatClampNeg : Int32).toInt64 : Int64) : Int64) <<< ((16 : Int32).toInt64 &&& 63) : Int64) 0) else (S_WR_divideRows_J210 K_S_WR_divideRows_L47 K_S_WR_divideRows_L79 K_S_WR_divideRows_L88 (S_WR_divideRows_L155 K_S_WR_divideRows_L47 K_S_WR_divideRows_L79 K_S_WR_divideRows_L88 N2 N3 t0_0 t0_1 t0_2 t0_3 t0_4 t0_5 t0_6 t1_0 t2_0 t3_0 t4_0 a35 a28 f49 f42 lx54 lx70 lx71 lx92 lx93 lx94 lx113 lx114 j147 f136 lx149 j164 fm) N2 N3 t0_0 t0_1 t0_2 t0_3 t0_4 t0_5 t0_6 t1_0 t2_0 t3_0 t4_0 a35 a28 f49 f42 lx54 lx70 lx71 lx92 lx93 lx94 lx113 lx114 j147 f136 lx149 j164 lx166 lx167 (((((lx166 a35.toNatClampNeg : Int32).toInt64 : Int64) <<< ((16 : Int32).toInt64 &&& 63) : Int64) ||| ((lx166 (a35 - 1 : Int32).toNatClampNeg : Int32).toInt64 : Int64) : Int64) <<< ((16 : Int32).toInt64 &&& 63) : Int64) (lx166 (a35 - 2 : Int32).toNatClampNeg : Int32)))))
def S_WR_divideRows_J151 (K_S_WR_divideRows_L47 : Int32 → (Nat → Int32) → Prop) (K_S_WR_divideRows_L79 : Int32 → (Nat → Int32) → (Nat → Int32) → Prop) (K_S_WR_divideRows_L88 : Int32 → (Nat → Int32) → Prop) (N2 : Int32) (N3 : Int32) (t0_0 : Int32) (t0_1 : Int32) (t0_2 : Int32) (t0_3 : Int32) (t0_4 : Int32) (t0_5 : Int32) (t0_6 : Int32) (t1_0 : (Nat → Int32)) (t2_0 : (Nat → Int32)) (t3_0 : (Nat → Int32)) (t4_0 : (Nat → Int32)) (a35 : Int32) (a28 : Int32) (f49 : (Nat → Int32)) (f42 : (Nat → Int32)) (lx54 : Int32) (lx70 : Int32) (lx71 : (Nat → Int32)) (lx92 : Int32) (lx93 : (Nat → Int32)) (lx94 : (Nat → Int32)) (lx113 : Int32) (lx114 : (Nat → Int32)) (j147 : Int64) (f136 : (Nat → Int32)) (lx149 : Int32) : Prop := S_WR_divideRows_L155 K_S_WR_divideRows_L47 K_S_WR_divideRows_L79 K_S_WR_divideRows_L88 N2 N3 t0_0 t0_1 t0_2 t0_3 t0_4 t0_5 t0_6 t1_0 t2_0 t3_0 t4_0 a35 a28 f49 f42 lx54 lx70 lx71 lx92 lx93 lx94 lx113 lx114 j147 f136 lx149 (j147 ||| (lx149.toInt64 : Int64) : Int64) 1000000 f136 lx94
def S_WR_divideRows_L88 (K_S_WR_divideRows_L47 : Int32 → (Nat → Int32) → Prop) (K_S_WR_divideRows_L79 : Int32 → (Nat → Int32) → (Nat → Int32) → Prop) (N2 : Int32) (N3 : Int32) (t0_0 : Int32) (t0_1 : Int32) (t0_2 : Int32) (t0_3 : Int32) (t0_4 : Int32) (t0_5 : Int32) (t0_6 : Int32) (t1_0 : (Nat → Int32)) (t2_0 : (Nat → Int32)) (t3_0 : (Nat → Int32)) (t4_0 : (Nat → Int32)) (a35 : Int32) (a28 : Int32) (f49 : (Nat → Int32)) (f42 : (Nat → Int32)) (lx54 : Int32) (lx70 : Int32) (lx71 : (Nat → Int32)) (lx92 : Int32) (lx93 : (Nat → Int32)) (lx94 : (Nat → Int32)) : Nat → Int32 → (Nat → Int32) → Prop
  | 0, _, _ => False
  | fm + 1, lx113, lx114 => if lx113 ≤ (0 : Int32) then ((lx92.toInt + 1 ≤ N2.toInt) ∧ ((0 ≤ (a35 - 1 : Int32).toInt) ∧ (if a35 ≤ (1 : Int32) then (S_WR_divideRows_J151 K_S_WR_divideRows_L47 K_S_WR_divideRows_L79 (S_WR_divideRows_L88 K_S_WR_divideRows_L47 K_S_WR_divideRows_L79 N2 N3 t0_0 t0_1 t0_2 t0_3 t0_4 t0_5 t0_6 t1_0 t2_0 t3_0 t4_0 a35 a28 f49 f42 lx54 lx70 lx71 lx92 lx93 lx94 fm) N2 N3 t0_0 t0_1 t0_2 t0_3 t0_4 t0_5 t0_6 t1_0 t2_0 t3_0 t4_0 a35 a28 f49 f42 lx54 lx70 lx71 lx92 lx93 lx94 lx113 lx114 (((t4_0 (a35 - 1 : Int32).toNatClampNeg : Int32).toInt64 : Int64) <<< ((16 : Int32).toInt64 &&& 63) : Int64) (upd lx114 (0 : Int32).toNatClampNeg (t3_0 lx92.toNatClampNeg : Int32) : (Nat → Int32)) 0) else (S_WR_divideRows_J151 K_S_WR_divideRows_L47 K_S_WR_divideRows_L79 (S_WR_divideRows_L88 K_S_WR_divideRows_L47 K_S_WR_divideRows_L79 N2 N3 t0_0 t0_1 t0_2 t0_3 t0_4 t0_5 t0_6 t1_0 t2_0 t3_0 t4_0 a35 a28 f49 f42 lx54 lx70 lx71 lx92 lx93 lx94 fm) N2 N3 t0_0 t0_1 t0_2 t0_3 t0_4 t0_5 t0_6 t1_0 t2_0 t3_0 t4_0 a35 a28 f49 f42 lx54 lx70 lx71 lx92 lx93 lx94 lx113 lx114 (((t4_0 (a35 - 1 : Int32).toNatClampNeg : Int32).toInt64 : Int64) <<< ((16 : Int32).toInt64 &&& 63) : Int64) (upd lx114 (0 : Int32).toNatClampNeg (t3_0 lx92.toNatClampNeg : Int32) : (Nat → Int32)) (t4_0 (a35 - 2 : Int32).toNatClampNeg : Int32))))) else (((lx113 - 1 : Int32).toInt ≤ 263) ∧ ((lx113.toInt ≤ 263) ∧ (S_WR_divideRows_L88 K_S_WR_divideRows_L47 K_S_WR_divideRows_L79 N2 N3 t0_0 t0_1 t0_2 t0_3 t0_4 t0_5 t0_6 t1_0 t2_0 t3_0 t4_0 a35 a28 f49 f42 lx54 lx70 lx71 lx92 lx93 lx94 fm (lx113 + (-1) : Int32) (upd lx114 lx113.toNatClampNeg (lx114 (lx113 - 1 : Int32).toNatClampNeg : Int32) : (Nat → Int32)))))
def S_WR_divideRows_L79 (K_S_WR_divideRows_L47 : Int32 → (Nat → Int32) → Prop) (N2 : Int32) (N3 : Int32) (t0_0 : Int32) (t0_1 : Int32) (t0_2 : Int32) (t0_3 : Int32) (t0_4 : Int32) (t0_5 : Int32) (t0_6 : Int32) (t1_0 : (Nat → Int32)) (t2_0 : (Nat → Int32)) (t3_0 : (Nat → Int32)) (t4_0 : (Nat → Int32)) (a35 : Int32) (a28 : Int32) (f49 : (Nat → Int32)) (f42 : (Nat → Int32)) (lx54 : Int32) (lx70 : Int32) (lx71 : (Nat → Int32)) : Nat → Int32 → (Nat → Int32) → (Nat → Int32) → Prop
  | 0, _, _, _ => False
  | fm + 1, lx92, lx93, lx94 => if lx92 < (0 : Int32) then (True) else (S_WR_divideRows_L88 K_S_WR_divideRows_L47 (S_WR_divideRows_L79 K_S_WR_divideRows_L47 N2 N3 t0_0 t0_1 t0_2 t0_3 t0_4 t0_5 t0_6 t1_0 t2_0 t3_0 t4_0 a35 a28 f49 f42 lx54 lx70 lx71 fm) N2 N3 t0_0 t0_1 t0_2 t0_3 t0_4 t0_5 t0_6 t1_0 t2_0 t3_0 t4_0 a35 a28 f49 f42 lx54 lx70 lx71 lx92 lx93 lx94 ((a35.toInt - ((-1))).toNat + 1) a35 lx93)
def S_WR_divideRows_L47 (N2 : Int32) (N3 : Int32) (t0_0 : Int32) (t0_1 : Int32) (t0_2 : Int32) (t0_3 : Int32) (t0_4 : Int32) (t0_5 : Int32) (t0_6 : Int32) (t1_0 : (Nat → Int32)) (t2_0 : (Nat → Int32)) (t3_0 : (Nat → Int32)) (t4_0 : (Nat → Int32)) (a35 : Int32) (a28 : Int32) (f49 : (Nat → Int32)) (f42 : (Nat → Int32)) (lx54 : Int32) : Nat → Int32 → (Nat → Int32) → Prop
  | 0, _, _ => False
  | fm + 1, lx70, lx71 => if a28 ≤ lx70 then (S_WR_divideRows_L79 (S_WR_divideRows_L47 N2 N3 t0_0 t0_1 t0_2 t0_3 t0_4 t0_5 t0_6 t1_0 t2_0 t3_0 t4_0 a35 a28 f49 f42 lx54 fm) N2 N3 t0_0 t0_1 t0_2 t0_3 t0_4 t0_5 t0_6 t1_0 t2_0 t3_0 t4_0 a35 a28 f49 f42 lx54 lx70 lx71 (((lx54 - 1 : Int32).toInt - ((-1))).toNat + 1) (lx54 - 1 : Int32) lx71 f42) else (((lx70 - lx54 : Int32).toInt ≤ 263) ∧ (S_WR_divideRows_L47 N2 N3 t0_0 t0_1 t0_2 t0_3 t0_4 t0_5 t0_6 t1_0 t2_0 t3_0 t4_0 a35 a28 f49 f42 lx54 fm (lx70 + 1 : Int32) (upd lx71 (lx70 - lx54 : Int32).toNatClampNeg (t3_0 lx70.toNatClampNeg : Int32) : (Nat → Int32))))
def S_WR_divideRows_J41 (N2 : Int32) (N3 : Int32) (t0_0 : Int32) (t0_1 : Int32) (t0_2 : Int32) (t0_3 : Int32) (t0_4 : Int32) (t0_5 : Int32) (t0_6 : Int32) (t1_0 : (Nat → Int32)) (t2_0 : (Nat → Int32)) (t3_0 : (Nat → Int32)) (t4_0 : (Nat → Int32)) (a35 : Int32) (a28 : Int32) (f49 : (Nat → Int32)) (f42 : (Nat → Int32)) (lx54 : Int32) : Prop := S_WR_divideRows_L47 N2 N3 t0_0 t0_1 t0_2 t0_3 t0_4 t0_5 t0_6 t1_0 t2_0 t3_0 t4_0 a35 a28 f49 f42 lx54 ((20200 - lx54.toInt).toNat + 1) lx54 f49
def S_WR_divideRows (N2 : Int32) (N3 : Int32) (t0_0 : Int32) (t0_1 : Int32) (t0_2 : Int32) (t0_3 : Int32) (t0_4 : Int32) (t0_5 : Int32) (t0_6 : Int32) (t1_0 : (Nat → Int32)) (t2_0 : (Nat → Int32)) (t3_0 : (Nat → Int32)) (t4_0 : (Nat → Int32)) : Prop := if ((F_WR_size N3 t4_0) : Int32) ≤ ((F_WR_size N2 t3_0) : Int32) then (S_WR_divideRows_J41 N2 N3 t0_0 t0_1 t0_2 t0_3 t0_4 t0_5 t0_6 t1_0 t2_0 t3_0 t4_0 ((F_WR_size N3 t4_0) : Int32) ((F_WR_size N2 t3_0) : Int32) ((F_WR_clear (264 : Int32) t1_0) : (Nat → Int32)) ((F_WR_clear (264 : Int32) t2_0) : (Nat → Int32)) ((((F_WR_size N2 t3_0) : Int32) - ((F_WR_size N3 t4_0) : Int32) : Int32) + 1 : Int32)) else (S_WR_divideRows_J41 N2 N3 t0_0 t0_1 t0_2 t0_3 t0_4 t0_5 t0_6 t1_0 t2_0 t3_0 t4_0 ((F_WR_size N3 t4_0) : Int32) ((F_WR_size N2 t3_0) : Int32) ((F_WR_clear (264 : Int32) t1_0) : (Nat → Int32)) ((F_WR_clear (264 : Int32) t2_0) : (Nat → Int32)) 0)
set_option maxRecDepth 100000 in
set_option maxHeartbeats 4000000 in
theorem X_WR_divideRows (l : Launch) (D : va_G) (g : Nat → ClassId) (q : Nat → Nat) (ws : va_W) (k2 : Nat) (N2 : Int32) (hB2 : q_isRow (msh g q) g k2 N2) (k3 : Nat) (N3 : Int32) (hB3 : q_isRow (msh g q) g k3 N3) (ne_k2_126 : k2 ≠ 126) (ne_k2_127 : k2 ≠ 127) (ne_k3_126 : k3 ≠ 126) (ne_k3_127 : k3 ≠ 127) (ne_k2_k3 : k2 ≠ k3) (hI : q_I (msh g q) q ws) (t0_0 : Int32) (t0_1 : Int32) (t0_2 : Int32) (t0_3 : Int32) (t0_4 : Int32) (t0_5 : Int32) (t0_6 : Int32) (hT0 : ws[119]? = (some (q 119, .inr (13, [.int t0_0, .int t0_1, .ref (q 120), .int t0_2, .ref (q 121), .ref (q 122), .ref (q 123), .int t0_3, .ref (q 124), .ref (q 125), .ref (q 126), .ref (q 127), .ref (q 128), .ref (q 129), .ref (q 130), .ref (q 131), .int t0_4, .int t0_5, .ref (q 132), .ref (q 133), .int t0_6])) : Option (Nat × va_E))) (t1_0 : (Nat → Int32)) (hT1 : ws[126]? = (some (q 126, .inl (g 0, (264 : Int32).toNatClampNeg, .inl t1_0)) : Option (Nat × va_E))) (t2_0 : (Nat → Int32)) (hT2 : ws[127]? = (some (q 127, .inl (g 0, (264 : Int32).toNatClampNeg, .inl t2_0)) : Option (Nat × va_E))) (t3_0 : (Nat → Int32)) (hT3 : ws[k2]? = (some (q k2, .inl (g 0, N2.toNatClampNeg, .inl t3_0)) : Option (Nat × va_E))) (t4_0 : (Nat → Int32)) (hT4 : ws[k3]? = (some (q k3, .inl (g 0, N3.toNatClampNeg, .inl t4_0)) : Option (Nat × va_E))) (hS : True ∧ S_WR_divideRows N2 N3 t0_0 t0_1 t0_2 t0_3 t0_4 t0_5 t0_6 t1_0 t2_0 t3_0 t4_0) : q_mV l y_WR_divideRows prog_19_method_14_code 13 2 0 0 D g [.ref (q 119), .ref (q k2), .ref (q k3)] ws (fun u => q_I (msh g q) q u ∧ q_un ws u [126, 127] ∧ ∃ (u1_0 : (Nat → Int32)) (u2_0 : (Nat → Int32)), u[126]? = (some (q 126, .inl (g 0, (264 : Int32).toNatClampNeg, .inl u1_0)) : Option (Nat × va_E)) ∧ u[127]? = (some (q 127, .inl (g 0, (264 : Int32).toNatClampNeg, .inl u2_0)) : Option (Nat × va_E)) ∧ (u1_0, u2_0) = (F_WR_divideRows N2 N3 t0_0 t0_1 t0_2 t0_3 t0_4 t0_5 t0_6 t1_0 t2_0 t3_0 t4_0)) := by
  intro sz
  refine q_into (by decide) (Nat.le_of_ble_eq_true rfl) ?_
  intro p e s m below meth c ls hsz C0 V hl
  have hx := C0.1
  have hb := C0.2.1
  have hfk20 : q_F (0 ≤ N2.toInt ∧ N2.toInt ≤ 20200) := hB2.2
  have hfk30 : q_F (0 ≤ N3.toInt ∧ N3.toInt ≤ 20200) := hB3.2
  have hZ9 := (n_w119 hI hT0).2.2.2
  obtain ⟨-, btt0_6⟩ := hZ9
  clear btt0_6
  have hF : q_un ws ws [126, 127] := q_u0
  have hl : lv_has ls 13 [(0, .ref (q 119)), (1, .ref (q k2)), (2, .ref (q k3))] := hl
  refine lv_aload_n hx hb d_19_14_0 rfl (lv_at hl 1 rfl) ?_
  refine q_goi V (q_runS (As := [.ref (q k2)]) (rest := []) (d := 1) (mc := 0) (ms := 0) C0 V rfl LS_WR_59 (X_WR_size l D g q ws k2 N2 hB2  hI t3_0 hT3  _) rfl hl.1 rfl (Nat.le_of_ble_eq_true rfl) ⟨by decide, by decide⟩ ⟨Nat.le_of_ble_eq_true rfl, Nat.le_of_ble_eq_true rfl⟩ d_19_14_1) (fun a28 u26 H locs hp27 V => ?_)
  obtain ⟨rfl, b29, b30, hE31⟩ := hp27
  have e32 : a28 = (F_WR_size N2 t3_0) := hE31
  replace b29 : q_F (0 ≤ a28.toInt) := b29
  replace b30 : q_F (a28.toInt ≤ N2.toInt) := b30
  refine lv_istore_n (lv' := [(3, .int a28), (0, .ref (q 119)), (1, .ref (q k2)), (2, .ref (q k3))]) hx hb d_19_14_4 rfl hl (by decide) rfl (fun ls hl => ?_)
  refine lv_aload_n hx hb d_19_14_5 rfl (lv_at hl 3 rfl) ?_
  refine q_goi V (q_runS (As := [.ref (q k3)]) (rest := []) (d := 1) (mc := 0) (ms := 0) C0 V rfl LS_WR_59 (X_WR_size l D g q ws k3 N3 hB3  hI t4_0 hT4  _) rfl hl.1 rfl (Nat.le_of_ble_eq_true rfl) ⟨by decide, by decide⟩ ⟨Nat.le_of_ble_eq_true rfl, Nat.le_of_ble_eq_true rfl⟩ d_19_14_6) (fun a35 u33 H locs hp34 V => ?_)
  obtain ⟨rfl, b36, b37, hE38⟩ := hp34
  have e39 : a35 = (F_WR_size N3 t4_0) := hE38
  replace b36 : q_F (0 ≤ a35.toInt) := b36
  replace b37 : q_F (a35.toInt ≤ N3.toInt) := b37
  refine lv_istore (lv' := [(4, .int a35), (3, .int a28), (0, .ref (q 119)), (1, .ref (q k2)), (2, .ref (q k3))]) hx hb d_19_14_9 hl (by decide) rfl (fun ls hl => ?_)
  refine lv_aload_n hx hb d_19_14_11 rfl (lv_at hl 2 rfl) ?_
  refine q_get (ci := 13) (j := 11) (v := .ref (q 127)) C0 V i_WR rfl rfl hT0 (by decide) w_1935 rfl d_19_14_12 ?_
  refine q_gov V (q_runS (As := [.ref (q 127)]) (rest := []) (d := 1) (mc := 0) (ms := 0) C0 V rfl LS_WR_63 (X_WR_clear l D g q ws 127 264 (n_r127 g q)  hI t2_0 hT2  _) rfl hl.1 rfl (Nat.le_of_ble_eq_true rfl) ⟨by decide, by decide⟩ ⟨Nat.le_of_ble_eq_true rfl, Nat.le_of_ble_eq_true rfl⟩ d_19_14_15) (fun u40 H locs hp41 V => ?_)
  obtain ⟨hI, hu45, f42, hA43, hE44⟩ := hp41
  replace hA43 : u40[127]? = (some (q 127, .inl (g 0, (264 : Int32).toNatClampNeg, .inl f42)) : Option (Nat × va_E)) := hA43
  have e46 : f42 = (F_WR_clear (264 : Int32) t2_0) := hE44
  replace hT0 := (hu45 _ (by decide)).trans hT0
  replace hT1 := (hu45 _ (by decide)).trans hT1
  replace hT3 := (hu45 _ (by simp only [List.mem_cons, List.not_mem_nil, or_false, not_or]; omega)).trans hT3
  replace hT4 := (hu45 _ (by simp only [List.mem_cons, List.not_mem_nil, or_false, not_or]; omega)).trans hT4
  replace hF := q_uc hF hu45 (by simp)
  refine lv_aload_n hx hb d_19_14_18 rfl (lv_at hl 2 rfl) ?_
  refine q_get (ci := 13) (j := 10) (v := .ref (q 126)) C0 V i_WR rfl rfl hT0 (by decide) w_1934 rfl d_19_14_19 ?_
  refine q_gov V (q_runS (As := [.ref (q 126)]) (rest := []) (d := 1) (mc := 0) (ms := 0) C0 V rfl LS_WR_63 (X_WR_clear l D g q u40 126 264 (n_r126 g q)  hI t1_0 hT1  _) rfl hl.1 rfl (Nat.le_of_ble_eq_true rfl) ⟨by decide, by decide⟩ ⟨Nat.le_of_ble_eq_true rfl, Nat.le_of_ble_eq_true rfl⟩ d_19_14_22) (fun u47 H locs hp48 V => ?_)
  obtain ⟨hI, hu52, f49, hA50, hE51⟩ := hp48
  replace hA50 : u47[126]? = (some (q 126, .inl (g 0, (264 : Int32).toNatClampNeg, .inl f49)) : Option (Nat × va_E)) := hA50
  have e53 : f49 = (F_WR_clear (264 : Int32) t1_0) := hE51
  replace hT0 := (hu52 _ (by decide)).trans hT0
  replace hA43 := (hu52 _ (by decide)).trans hA43
  replace hT3 := (hu52 _ (by simp only [List.mem_cons, List.not_mem_nil, or_false, not_or]; omega)).trans hT3
  replace hT4 := (hu52 _ (by simp only [List.mem_cons, List.not_mem_nil, or_false, not_or]; omega)).trans hT4
  replace hF := q_uc hF hu52 (by simp)
  refine lv_iload_n hx hb d_19_14_25 rfl (lv_at hl 1 rfl) ?_
  refine lv_iload hx hb d_19_14_26 (lv_at hl 0 rfl) ?_
  refine q_join (X := Int32) (fun z H locs ls _ => q_F (0 ≤ z.toInt) ∧ q_F (a28.toInt ≤ z.toInt + 20199) ∧ q_F (z.toInt ≤ a28.toInt + 1) ∧ q_Wd D g (va_A ws sz) s u47 H locs ∧ lv_has ls 13 [(4, .int a35), (3, .int a28), (0, .ref (q 119)), (1, .ref (q k2)), (2, .ref (q k3))] ∧ F_WR_divideRows_J41 N2 N3 t0_0 t0_1 t0_2 t0_3 t0_4 t0_5 t0_6 t1_0 t2_0 t3_0 t4_0 a35 a28 f49 f42 z = (F_WR_divideRows N2 N3 t0_0 t0_1 t0_2 t0_3 t0_4 t0_5 t0_6 t1_0 t2_0 t3_0 t4_0) ∧ True ∧ S_WR_divideRows_J41 N2 N3 t0_0 t0_1 t0_2 t0_3 t0_4 t0_5 t0_6 t1_0 t2_0 t3_0 t4_0 a35 a28 f49 f42 z) (fun z => [.int z]) 41 0 0 ?_ ?_
  ·
    rintro lx54 H locs ls _ hZ9
    obtain ⟨i61, hZ9⟩ := hZ9
    obtain ⟨i62, hZ9⟩ := hZ9
    obtain ⟨i63, hZ9⟩ := hZ9
    obtain ⟨V, hZ9⟩ := hZ9
    obtain ⟨hl, hZ9⟩ := hZ9
    obtain ⟨hR64, hS65⟩ := hZ9
    replace i61 : q_F (0 ≤ lx54.toInt) := i61
    replace i62 : q_F (a28.toInt ≤ lx54.toInt + 20199) := i62
    replace i63 : q_F (lx54.toInt ≤ a28.toInt + 1) := i63
    replace hl : lv_has ls 13 [(4, .int a35), (3, .int a28), (0, .ref (q 119)), (1, .ref (q k2)), (2, .ref (q k3))] := hl
    refine lv_istore (lv' := [(5, .int lx54), (4, .int a35), (3, .int a28), (0, .ref (q 119)), (1, .ref (q k2)), (2, .ref (q k3))]) hx hb d_19_14_41 hl (by decide) rfl (fun ls hl => ?_)
    refine lv_iload hx hb d_19_14_43 (lv_at hl 0 rfl) ?_
    refine lv_istore (lv' := [(6, .int lx54), (5, .int lx54), (4, .int a35), (3, .int a28), (0, .ref (q 119)), (1, .ref (q k2)), (2, .ref (q k3))]) hx hb d_19_14_45 hl (by decide) rfl (fun ls hl => ?_)
    refine q_loop (X := Int32 × (Nat → Int32)) (fun z H locs ls w75 => q_F (lx54.toInt ≤ z.1.toInt) ∧ q_F (z.1.toInt ≤ a28.toInt + 1) ∧ q_Wd D g (va_A ws sz) s w75 H locs ∧ lv_has ls 13 [(6, .int z.1), (5, .int lx54), (4, .int a35), (3, .int a28), (0, .ref (q 119)), (1, .ref (q k2)), (2, .ref (q k3))] ∧ q_I (msh g q) q w75 ∧ q_un ws w75 [126, 127] ∧ w75[119]? = (some (q 119, .inr (13, [.int t0_0, .int t0_1, .ref (q 120), .int t0_2, .ref (q 121), .ref (q 122), .ref (q 123), .int t0_3, .ref (q 124), .ref (q 125), .ref (q 126), .ref (q 127), .ref (q 128), .ref (q 129), .ref (q 130), .ref (q 131), .int t0_4, .int t0_5, .ref (q 132), .ref (q 133), .int t0_6])) : Option (Nat × va_E)) ∧ w75[126]? = (some (q 126, .inl (g 0, (264 : Int32).toNatClampNeg, .inl z.2)) : Option (Nat × va_E)) ∧ w75[127]? = (some (q 127, .inl (g 0, (264 : Int32).toNatClampNeg, .inl f42)) : Option (Nat × va_E)) ∧ w75[k2]? = (some (q k2, .inl (g 0, N2.toNatClampNeg, .inl t3_0)) : Option (Nat × va_E)) ∧ w75[k3]? = (some (q k3, .inl (g 0, N3.toNatClampNeg, .inl t4_0)) : Option (Nat × va_E)) ∧ (∃ n, (20200 - z.1.toInt).toNat < n ∧ F_WR_divideRows_L47 N2 N3 t0_0 t0_1 t0_2 t0_3 t0_4 t0_5 t0_6 t1_0 t2_0 t3_0 t4_0 a35 a28 f49 f42 lx54 n z.1 z.2 = (F_WR_divideRows N2 N3 t0_0 t0_1 t0_2 t0_3 t0_4 t0_5 t0_6 t1_0 t2_0 t3_0 t4_0) ∧ True ∧ S_WR_divideRows_L47 N2 N3 t0_0 t0_1 t0_2 t0_3 t0_4 t0_5 t0_6 t1_0 t2_0 t3_0 t4_0 a35 a28 f49 f42 lx54 n z.1 z.2)) (fun z => (20200 - z.1.toInt).toNat) ?_ ((lx54 : Int32), (f49 : (Nat → Int32))) _ _ _ u47 ⟨(show q_F (lx54.toInt ≤ lx54.toInt) from (show lx54.toInt ≤ lx54.toInt from by omega)), (show q_F (lx54.toInt ≤ a28.toInt + 1) from (show lx54.toInt ≤ a28.toInt + 1 from by have t1 : lx54.toInt ≤ a28.toInt + 1 := i63; omega)), V, q_lw hl (q_lw1 0 rfl (q_lw1 1 rfl (q_lw1 2 rfl (q_lw1 3 rfl (q_lw1 4 rfl (q_lw1 5 rfl (q_lw1 6 rfl q_lw0))))))), hI, hF, hT0, hA50, hA43, hT3, hT4, ⟨((20200 - lx54.toInt).toNat + 1), Nat.lt_succ_self _, (show F_WR_divideRows_L47 N2 N3 t0_0 t0_1 t0_2 t0_3 t0_4 t0_5 t0_6 t1_0 t2_0 t3_0 t4_0 a35 a28 f49 f42 lx54 ((20200 - lx54.toInt).toNat + 1) lx54 f49 = (F_WR_divideRows N2 N3 t0_0 t0_1 t0_2 t0_3 t0_4 t0_5 t0_6 t1_0 t2_0 t3_0 t4_0) from Eq.trans (by rw [F_WR_divideRows_J41.eq_1]) hR64), (show True ∧ S_WR_divideRows_L47 N2 N3 t0_0 t0_1 t0_2 t0_3 t0_4 t0_5 t0_6 t1_0 t2_0 t3_0 t4_0 a35 a28 f49 f42 lx54 ((20200 - lx54.toInt).toNat + 1) lx54 f49 from (by have h := hS65; rw [S_WR_divideRows_J41.eq_1] at h; with_reducible exact h))⟩⟩
    rintro ⟨lx70, lx71⟩ H locs ls w75 ⟨i72, i73, V, hl, hI, hF, hO76, hO77, hO78, hO79, hO80, ⟨fu83, hf84, hR81, hS82⟩⟩ ih74
    obtain ⟨fm85, rfl⟩ : ∃ m, fu83 = m + 1 := ⟨fu83 - 1, by omega⟩
    replace i72 : q_F (lx54.toInt ≤ lx70.toInt) := i72
    replace i73 : q_F (lx70.toInt ≤ a28.toInt + 1) := i73
    replace hl : lv_has ls 13 [(6, .int lx70), (5, .int lx54), (4, .int a35), (3, .int a28), (0, .ref (q 119)), (1, .ref (q k2)), (2, .ref (q k3))] := hl
    replace hO76 : w75[119]? = (some (q 119, .inr (13, [.int t0_0, .int t0_1, .ref (q 120), .int t0_2, .ref (q 121), .ref (q 122), .ref (q 123), .int t0_3, .ref (q 124), .ref (q 125), .ref (q 126), .ref (q 127), .ref (q 128), .ref (q 129), .ref (q 130), .ref (q 131), .int t0_4, .int t0_5, .ref (q 132), .ref (q 133), .int t0_6])) : Option (Nat × va_E)) := hO76
    replace hO77 : w75[126]? = (some (q 126, .inl (g 0, (264 : Int32).toNatClampNeg, .inl lx71)) : Option (Nat × va_E)) := hO77
    replace hO78 : w75[127]? = (some (q 127, .inl (g 0, (264 : Int32).toNatClampNeg, .inl f42)) : Option (Nat × va_E)) := hO78
    replace hO79 : w75[k2]? = (some (q k2, .inl (g 0, N2.toNatClampNeg, .inl t3_0)) : Option (Nat × va_E)) := hO79
    replace hO80 : w75[k3]? = (some (q k3, .inl (g 0, N3.toNatClampNeg, .inl t4_0)) : Option (Nat × va_E)) := hO80
    refine lv_iload hx hb d_19_14_47 (lv_at hl 0 rfl) ?_
    refine lv_iload_n hx hb d_19_14_49 rfl (lv_at hl 3 rfl) ?_
    refine lv_icmp_ge (tgt := 73) hx hb d_19_14_50 (by decide) (fun c86 => ?_) (fun c86 => ?_)
    ·
      refine lv_iload hx hb d_19_14_73 (lv_at hl 1 rfl) ?_
      refine lv_iconst (v := 1) hx hb d_19_14_75 (by decide) ?_
      refine lv_isub hx hb d_19_14_76 ?_
      obtain ⟨a88, e89⟩ := q_nm (lx54 - 1 : Int32)
      refine q_ti (v := a88) e89 ?_
      have b90 : q_F (a88.toInt = lx54.toInt - 1) := (by rw [← e89]; show (lx54 - 1 : Int32).toInt = lx54.toInt - 1; exact q_subI (x := lx54.toInt) (y := 1) rfl (by decide) (by have t1 : 0 ≤ lx54.toInt := i61; have t2 : lx54.toInt ≤ a28.toInt + 1 := i63; have _ := q_lo32 (x := a28); have _ := q_hi32 (x := a28); omega) (by have t1 : 0 ≤ lx54.toInt := i61; have t2 : lx54.toInt ≤ a28.toInt + 1 := i63; have _ := q_lo32 (x := a28); have _ := q_hi32 (x := a28); omega))
      refine lv_istore (lv' := [(6, .int a88), (5, .int lx54), (4, .int a35), (3, .int a28), (0, .ref (q 119)), (1, .ref (q k2)), (2, .ref (q k3))]) hx hb d_19_14_77 hl (by decide) rfl (fun ls hl => ?_)
      refine q_loop (X := Int32 × (Nat → Int32) × (Nat → Int32)) (fun z H locs ls w98 => q_F (0 ≤ z.1.toInt + 1) ∧ q_F (z.1.toInt ≤ a88.toInt) ∧ q_Wd D g (va_A ws sz) s w98 H locs ∧ lv_has ls 13 [(6, .int z.1), (4, .int a35), (0, .ref (q 119)), (1, .ref (q k2)), (2, .ref (q k3))] ∧ q_I (msh g q) q w98 ∧ q_un ws w98 [126, 127] ∧ w98[119]? = (some (q 119, .inr (13, [.int t0_0, .int t0_1, .ref (q 120), .int t0_2, .ref (q 121), .ref (q 122), .ref (q 123), .int t0_3, .ref (q 124), .ref (q 125), .ref (q 126), .ref (q 127), .ref (q 128), .ref (q 129), .ref (q 130), .ref (q 131), .int t0_4, .int t0_5, .ref (q 132), .ref (q 133), .int t0_6])) : Option (Nat × va_E)) ∧ w98[126]? = (some (q 126, .inl (g 0, (264 : Int32).toNatClampNeg, .inl z.2.1)) : Option (Nat × va_E)) ∧ w98[127]? = (some (q 127, .inl (g 0, (264 : Int32).toNatClampNeg, .inl z.2.2)) : Option (Nat × va_E)) ∧ w98[k2]? = (some (q k2, .inl (g 0, N2.toNatClampNeg, .inl t3_0)) : Option (Nat × va_E)) ∧ w98[k3]? = (some (q k3, .inl (g 0, N3.toNatClampNeg, .inl t4_0)) : Option (Nat × va_E)) ∧ (∃ n, (z.1.toInt - ((-1))).toNat < n ∧ F_WR_divideRows_L79 (F_WR_divideRows_L47 N2 N3 t0_0 t0_1 t0_2 t0_3 t0_4 t0_5 t0_6 t1_0 t2_0 t3_0 t4_0 a35 a28 f49 f42 lx54 fm85) N2 N3 t0_0 t0_1 t0_2 t0_3 t0_4 t0_5 t0_6 t1_0 t2_0 t3_0 t4_0 a35 a28 f49 f42 lx54 lx70 lx71 n z.1 z.2.1 z.2.2 = (F_WR_divideRows N2 N3 t0_0 t0_1 t0_2 t0_3 t0_4 t0_5 t0_6 t1_0 t2_0 t3_0 t4_0) ∧ True ∧ S_WR_divideRows_L79 (S_WR_divideRows_L47 N2 N3 t0_0 t0_1 t0_2 t0_3 t0_4 t0_5 t0_6 t1_0 t2_0 t3_0 t4_0 a35 a28 f49 f42 lx54 fm85) N2 N3 t0_0 t0_1 t0_2 t0_3 t0_4 t0_5 t0_6 t1_0 t2_0 t3_0 t4_0 a35 a28 f49 f42 lx54 lx70 lx71 n z.1 z.2.1 z.2.2)) (fun z => (z.1.toInt - ((-1))).toNat) ?_ ((a88 : Int32), (lx71 : (Nat → Int32)), (f42 : (Nat → Int32))) _ _ _ w75 ⟨(show q_F (0 ≤ a88.toInt + 1) from (show 0 ≤ a88.toInt + 1 from by have t1 : 0 ≤ lx54.toInt := i61; have t2 : a88.toInt = lx54.toInt - 1 := b90; omega)), (show q_F (a88.toInt ≤ a88.toInt) from (show a88.toInt ≤ a88.toInt from by omega)), V, q_lw hl (q_lw1 0 rfl (q_lw1 2 rfl (q_lw1 4 rfl (q_lw1 5 rfl (q_lw1 6 rfl q_lw0))))), hI, hF, hO76, hO77, hO78, hO79, hO80, ⟨((a88.toInt - ((-1))).toNat + 1), Nat.lt_succ_self _, (show F_WR_divideRows_L79 (F_WR_divideRows_L47 N2 N3 t0_0 t0_1 t0_2 t0_3 t0_4 t0_5 t0_6 t1_0 t2_0 t3_0 t4_0 a35 a28 f49 f42 lx54 fm85) N2 N3 t0_0 t0_1 t0_2 t0_3 t0_4 t0_5 t0_6 t1_0 t2_0 t3_0 t4_0 a35 a28 f49 f42 lx54 lx70 lx71 ((a88.toInt - ((-1))).toNat + 1) a88 lx71 f42 = (F_WR_divideRows N2 N3 t0_0 t0_1 t0_2 t0_3 t0_4 t0_5 t0_6 t1_0 t2_0 t3_0 t4_0) from Eq.trans (by rw [← e89, F_WR_divideRows_L47.eq_2, if_pos c86]) hR81), (show True ∧ S_WR_divideRows_L79 (S_WR_divideRows_L47 N2 N3 t0_0 t0_1 t0_2 t0_3 t0_4 t0_5 t0_6 t1_0 t2_0 t3_0 t4_0 a35 a28 f49 f42 lx54 fm85) N2 N3 t0_0 t0_1 t0_2 t0_3 t0_4 t0_5 t0_6 t1_0 t2_0 t3_0 t4_0 a35 a28 f49 f42 lx54 lx70 lx71 ((a88.toInt - ((-1))).toNat + 1) a88 lx71 f42 from (by rw [← e89]; have h := hS82; rw [S_WR_divideRows_L47.eq_2] at h; rw [if_pos c86] at h; with_reducible exact h))⟩⟩
      rintro ⟨lx92, lx93, lx94⟩ H locs ls w98 ⟨i95, i96, V, hl, hI, hF, hO99, hO100, hO101, hO102, hO103, ⟨fu106, hf107, hR104, hS105⟩⟩ ih97
      obtain ⟨fm108, rfl⟩ : ∃ m, fu106 = m + 1 := ⟨fu106 - 1, by omega⟩
      replace i95 : q_F (0 ≤ lx92.toInt + 1) := i95
      replace i96 : q_F (lx92.toInt ≤ a88.toInt) := i96
      replace hl : lv_has ls 13 [(6, .int lx92), (4, .int a35), (0, .ref (q 119)), (1, .ref (q k2)), (2, .ref (q k3))] := hl
      replace hO99 : w98[119]? = (some (q 119, .inr (13, [.int t0_0, .int t0_1, .ref (q 120), .int t0_2, .ref (q 121), .ref (q 122), .ref (q 123), .int t0_3, .ref (q 124), .ref (q 125), .ref (q 126), .ref (q 127), .ref (q 128), .ref (q 129), .ref (q 130), .ref (q 131), .int t0_4, .int t0_5, .ref (q 132), .ref (q 133), .int t0_6])) : Option (Nat × va_E)) := hO99
      replace hO100 : w98[126]? = (some (q 126, .inl (g 0, (264 : Int32).toNatClampNeg, .inl lx93)) : Option (Nat × va_E)) := hO100
      replace hO101 : w98[127]? = (some (q 127, .inl (g 0, (264 : Int32).toNatClampNeg, .inl lx94)) : Option (Nat × va_E)) := hO101
      replace hO102 : w98[k2]? = (some (q k2, .inl (g 0, N2.toNatClampNeg, .inl t3_0)) : Option (Nat × va_E)) := hO102
      replace hO103 : w98[k3]? = (some (q k3, .inl (g 0, N3.toNatClampNeg, .inl t4_0)) : Option (Nat × va_E)) := hO103
      refine lv_iload hx hb d_19_14_79 (lv_at hl 0 rfl) ?_
      refine lv_if_lt (tgt := 278) hx hb d_19_14_81 (by decide) (fun c109 => ?_) (fun c109 => ?_)
      ·
        exact q_retv C0 V (⟨hI, hF, lx93, lx94, hO100, hO101, (show (lx93, lx94) = (F_WR_divideRows N2 N3 t0_0 t0_1 t0_2 t0_3 t0_4 t0_5 t0_6 t1_0 t2_0 t3_0 t4_0) from Eq.trans (by rw [F_WR_divideRows_L79.eq_2, if_pos c109]) hR104)⟩) d_19_14_278
      ·
        have b111 : q_F (0 ≤ lx92.toInt) := (q_nltI c109)
        refine lv_iload hx hb d_19_14_84 (lv_at hl 1 rfl) ?_
        refine lv_istore (lv' := [(7, .int a35), (6, .int lx92), (4, .int a35), (0, .ref (q 119)), (1, .ref (q k2)), (2, .ref (q k3))]) hx hb d_19_14_86 hl (by decide) rfl (fun ls hl => ?_)
        refine q_loop (X := Int32 × (Nat → Int32)) (fun z H locs ls w118 => q_F (0 ≤ z.1.toInt) ∧ q_F (z.1.toInt ≤ a35.toInt) ∧ q_Wd D g (va_A ws sz) s w118 H locs ∧ lv_has ls 13 [(7, .int z.1), (6, .int lx92), (4, .int a35), (0, .ref (q 119)), (1, .ref (q k2)), (2, .ref (q k3))] ∧ q_I (msh g q) q w118 ∧ q_un ws w118 [126, 127] ∧ w118[119]? = (some (q 119, .inr (13, [.int t0_0, .int t0_1, .ref (q 120), .int t0_2, .ref (q 121), .ref (q 122), .ref (q 123), .int t0_3, .ref (q 124), .ref (q 125), .ref (q 126), .ref (q 127), .ref (q 128), .ref (q 129), .ref (q 130), .ref (q 131), .int t0_4, .int t0_5, .ref (q 132), .ref (q 133), .int t0_6])) : Option (Nat × va_E)) ∧ w118[126]? = (some (q 126, .inl (g 0, (264 : Int32).toNatClampNeg, .inl z.2)) : Option (Nat × va_E)) ∧ w118[127]? = (some (q 127, .inl (g 0, (264 : Int32).toNatClampNeg, .inl lx94)) : Option (Nat × va_E)) ∧ w118[k2]? = (some (q k2, .inl (g 0, N2.toNatClampNeg, .inl t3_0)) : Option (Nat × va_E)) ∧ w118[k3]? = (some (q k3, .inl (g 0, N3.toNatClampNeg, .inl t4_0)) : Option (Nat × va_E)) ∧ (∃ n, (z.1.toInt - ((-1))).toNat < n ∧ F_WR_divideRows_L88 (F_WR_divideRows_L47 N2 N3 t0_0 t0_1 t0_2 t0_3 t0_4 t0_5 t0_6 t1_0 t2_0 t3_0 t4_0 a35 a28 f49 f42 lx54 fm85) (F_WR_divideRows_L79 (F_WR_divideRows_L47 N2 N3 t0_0 t0_1 t0_2 t0_3 t0_4 t0_5 t0_6 t1_0 t2_0 t3_0 t4_0 a35 a28 f49 f42 lx54 fm85) N2 N3 t0_0 t0_1 t0_2 t0_3 t0_4 t0_5 t0_6 t1_0 t2_0 t3_0 t4_0 a35 a28 f49 f42 lx54 lx70 lx71 fm108) N2 N3 t0_0 t0_1 t0_2 t0_3 t0_4 t0_5 t0_6 t1_0 t2_0 t3_0 t4_0 a35 a28 f49 f42 lx54 lx70 lx71 lx92 lx93 lx94 n z.1 z.2 = (F_WR_divideRows N2 N3 t0_0 t0_1 t0_2 t0_3 t0_4 t0_5 t0_6 t1_0 t2_0 t3_0 t4_0) ∧ True ∧ S_WR_divideRows_L88 (S_WR_divideRows_L47 N2 N3 t0_0 t0_1 t0_2 t0_3 t0_4 t0_5 t0_6 t1_0 t2_0 t3_0 t4_0 a35 a28 f49 f42 lx54 fm85) (S_WR_divideRows_L79 (S_WR_divideRows_L47 N2 N3 t0_0 t0_1 t0_2 t0_3 t0_4 t0_5 t0_6 t1_0 t2_0 t3_0 t4_0 a35 a28 f49 f42 lx54 fm85) N2 N3 t0_0 t0_1 t0_2 t0_3 t0_4 t0_5 t0_6 t1_0 t2_0 t3_0 t4_0 a35 a28 f49 f42 lx54 lx70 lx71 fm108) N2 N3 t0_0 t0_1 t0_2 t0_3 t0_4 t0_5 t0_6 t1_0 t2_0 t3_0 t4_0 a35 a28 f49 f42 lx54 lx70 lx71 lx92 lx93 lx94 n z.1 z.2)) (fun z => (z.1.toInt - ((-1))).toNat) ?_ ((a35 : Int32), (lx93 : (Nat → Int32))) _ _ _ w98 ⟨(show q_F (0 ≤ a35.toInt) from (show 0 ≤ a35.toInt from by have t1 : 0 ≤ a35.toInt := b36; omega)), (show q_F (a35.toInt ≤ a35.toInt) from (show a35.toInt ≤ a35.toInt from by omega)), V, q_lw hl (q_lw1 0 rfl (q_lw1 1 rfl (q_lw1 2 rfl (q_lw1 3 rfl (q_lw1 4 rfl (q_lw1 5 rfl q_lw0)))))), hI, hF, hO99, hO100, hO101, hO102, hO103, ⟨((a35.toInt - ((-1))).toNat + 1), Nat.lt_succ_self _, (show F_WR_divideRows_L88 (F_WR_divideRows_L47 N2 N3 t0_0 t0_1 t0_2 t0_3 t0_4 t0_5 t0_6 t1_0 t2_0 t3_0 t4_0 a35 a28 f49 f42 lx54 fm85) (F_WR_divideRows_L79 (F_WR_divideRows_L47 N2 N3 t0_0 t0_1 t0_2 t0_3 t0_4 t0_5 t0_6 t1_0 t2_0 t3_0 t4_0 a35 a28 f49 f42 lx54 fm85) N2 N3 t0_0 t0_1 t0_2 t0_3 t0_4 t0_5 t0_6 t1_0 t2_0 t3_0 t4_0 a35 a28 f49 f42 lx54 lx70 lx71 fm108) N2 N3 t0_0 t0_1 t0_2 t0_3 t0_4 t0_5 t0_6 t1_0 t2_0 t3_0 t4_0 a35 a28 f49 f42 lx54 lx70 lx71 lx92 lx93 lx94 ((a35.toInt - ((-1))).toNat + 1) a35 lx93 = (F_WR_divideRows N2 N3 t0_0 t0_1 t0_2 t0_3 t0_4 t0_5 t0_6 t1_0 t2_0 t3_0 t4_0) from Eq.trans (by rw [F_WR_divideRows_L79.eq_2, if_neg c109]) hR104), (show True ∧ S_WR_divideRows_L88 (S_WR_divideRows_L47 N2 N3 t0_0 t0_1 t0_2 t0_3 t0_4 t0_5 t0_6 t1_0 t2_0 t3_0 t4_0 a35 a28 f49 f42 lx54 fm85) (S_WR_divideRows_L79 (S_WR_divideRows_L47 N2 N3 t0_0 t0_1 t0_2 t0_3 t0_4 t0_5 t0_6 t1_0 t2_0 t3_0 t4_0 a35 a28 f49 f42 lx54 fm85) N2 N3 t0_0 t0_1 t0_2 t0_3 t0_4 t0_5 t0_6 t1_0 t2_0 t3_0 t4_0 a35 a28 f49 f42 lx54 lx70 lx71 fm108) N2 N3 t0_0 t0_1 t0_2 t0_3 t0_4 t0_5 t0_6 t1_0 t2_0 t3_0 t4_0 a35 a28 f49 f42 lx54 lx70 lx71 lx92 lx93 lx94 ((a35.toInt - ((-1))).toNat + 1) a35 lx93 from (by have h := hS105; rw [S_WR_divideRows_L79.eq_2] at h; rw [if_neg c109] at h; with_reducible exact h))⟩⟩
        rintro ⟨lx113, lx114⟩ H locs ls w118 ⟨i115, i116, V, hl, hI, hF, hO119, hO120, hO121, hO122, hO123, ⟨fu126, hf127, hR124, hS125⟩⟩ ih117
        obtain ⟨fm128, rfl⟩ : ∃ m, fu126 = m + 1 := ⟨fu126 - 1, by omega⟩
        replace i115 : q_F (0 ≤ lx113.toInt) := i115
        replace i116 : q_F (lx113.toInt ≤ a35.toInt) := i116
        replace hl : lv_has ls 13 [(7, .int lx113), (6, .int lx92), (4, .int a35), (0, .ref (q 119)), (1, .ref (q k2)), (2, .ref (q k3))] := hl
        replace hO119 : w118[119]? = (some (q 119, .inr (13, [.int t0_0, .int t0_1, .ref (q 120), .int t0_2, .ref (q 121), .ref (q 122), .ref (q 123), .int t0_3, .ref (q 124), .ref (q 125), .ref (q 126), .ref (q 127), .ref (q 128), .ref (q 129), .ref (q 130), .ref (q 131), .int t0_4, .int t0_5, .ref (q 132), .ref (q 133), .int t0_6])) : Option (Nat × va_E)) := hO119
        replace hO120 : w118[126]? = (some (q 126, .inl (g 0, (264 : Int32).toNatClampNeg, .inl lx114)) : Option (Nat × va_E)) := hO120
        replace hO121 : w118[127]? = (some (q 127, .inl (g 0, (264 : Int32).toNatClampNeg, .inl lx94)) : Option (Nat × va_E)) := hO121
        replace hO122 : w118[k2]? = (some (q k2, .inl (g 0, N2.toNatClampNeg, .inl t3_0)) : Option (Nat × va_E)) := hO122
        replace hO123 : w118[k3]? = (some (q k3, .inl (g 0, N3.toNatClampNeg, .inl t4_0)) : Option (Nat × va_E)) := hO123
        refine lv_iload hx hb d_19_14_88 (lv_at hl 0 rfl) ?_
        refine lv_if_le (tgt := 115) hx hb d_19_14_90 (by decide) (fun c129 => ?_) (fun c129 => ?_)
        ·
          refine lv_aload_n hx hb d_19_14_115 rfl (lv_at hl 3 rfl) ?_
          refine q_get (ci := 13) (j := 10) (v := .ref (q 126)) C0 V i_WR rfl rfl hO119 (by decide) w_1934 rfl d_19_14_116 ?_
          refine lv_iconst (v := 0) hx hb d_19_14_119 (by decide) ?_
          refine lv_aload_n hx hb d_19_14_120 rfl (lv_at hl 4 rfl) ?_
          refine lv_iload hx hb d_19_14_121 (lv_at hl 1 rfl) ?_
          have ob131 : q_F (lx92.toInt + 1 ≤ N2.toInt) := (by have h := hS125; rw [S_WR_divideRows_L88.eq_2] at h; rw [if_pos c129] at h; exact h.2.1)
          refine q_iald C0 V hO122 (q_ix (x := lx92.toInt) rfl (by first | with_reducible exact q_fe b111 | (have t1 : 0 ≤ lx92.toInt := b111; omega)) (by have t1 : 0 ≤ lx92.toInt := b111; have t2 : lx92.toInt + 1 ≤ N2.toInt := ob131; have e9 := q_clI (i := N2) rfl (by first | with_reducible exact (q_fe hfk20).2 | with_reducible exact (q_fe hfk20).1 | (have t1 : 0 ≤ N2.toInt ∧ N2.toInt ≤ 20200 := hfk20; omega)); omega)) d_19_14_123 ?_
          obtain ⟨a132, e133⟩ := q_nm (t3_0 lx92.toNatClampNeg : Int32)
          refine q_ti (v := a132) e133 ?_
          refine q_iast C0 V hO120 (q_ix (x := 0) (by decide) (by omega) (by have e9 : (((264 : Int32).toNatClampNeg : Nat) : Int) = 264 := (by decide); omega)) d_19_14_124 (fun H locs w134 hu135 hO120 V => ?_)
          replace hI := n_ai' hI (n_r126 g q).1 hu135 hO120 (q_updB (fun _ => s_bnd) s_bnd)
          replace hO119 := (hu135 _ (by decide)).trans hO119
          replace hO121 := (hu135 _ (by decide)).trans hO121
          replace hO122 := (hu135 _ (by have z := ne_k2_126; omega)).trans hO122
          replace hO123 := (hu135 _ (by have z := ne_k3_126; omega)).trans hO123
          replace hF := q_us hF hu135 (by simp)
          obtain ⟨f136, e137⟩ := q_nm (upd lx114 (0 : Int32).toNatClampNeg a132 : (Nat → Int32))
          rw [e137] at hO120
          refine lv_aload_n hx hb d_19_14_125 rfl (lv_at hl 5 rfl) ?_
          refine lv_iload hx hb d_19_14_126 (lv_at hl 2 rfl) ?_
          refine lv_iconst (v := 1) hx hb d_19_14_128 (by decide) ?_
          refine lv_isub hx hb d_19_14_129 ?_
          obtain ⟨a138, e139⟩ := q_nm (a35 - 1 : Int32)
          refine q_ti (v := a138) e139 ?_
          have b140 : q_F (a138.toInt = a35.toInt - 1) := (by rw [← e139]; show (a35 - 1 : Int32).toInt = a35.toInt - 1; exact q_subI (x := a35.toInt) (y := 1) rfl (by decide) (by have t1 : 0 ≤ a35.toInt := b36; have t2 : a35.toInt ≤ N3.toInt := b37; have _ := q_lo32 (x := N3); have _ := q_hi32 (x := N3); omega) (by have t1 : 0 ≤ a35.toInt := b36; have t2 : a35.toInt ≤ N3.toInt := b37; have _ := q_lo32 (x := N3); have _ := q_hi32 (x := N3); omega))
          have ob141 : q_F (0 ≤ a138.toInt) := (by rw [← e139]; have h := hS125; rw [S_WR_divideRows_L88.eq_2] at h; rw [if_pos c129] at h; replace h := q_s2 h; exact h.2.1)
          refine q_iald C0 V hO123 (q_ix (x := a138.toInt) rfl (by first | with_reducible exact q_fe ob141 | (have t1 : 0 ≤ a138.toInt := ob141; omega)) (by have t1 : 0 ≤ a138.toInt := ob141; have t2 : a35.toInt ≤ N3.toInt := b37; have t3 : a138.toInt = a35.toInt - 1 := b140; have e9 := q_clI (i := N3) rfl (by first | with_reducible exact (q_fe hfk30).2 | with_reducible exact (q_fe hfk30).1 | (have t1 : 0 ≤ N3.toInt ∧ N3.toInt ≤ 20200 := hfk30; omega)); omega)) d_19_14_130 ?_
          obtain ⟨a142, e143⟩ := q_nm (t4_0 a138.toNatClampNeg : Int32)
          refine q_ti (v := a142) e143 ?_
          refine lv_i2l hx hb d_19_14_131 rfl ?_
          obtain ⟨j144, e145⟩ := q_nm (a142.toInt64 : Int64)
          refine q_tl (v := j144) e145 ?_
          refine lv_bipush (v := 16) hx hb d_19_14_132 (by decide) ?_
          refine lv_lshl hx hb d_19_14_134 rfl ?_
          obtain ⟨j147, e148⟩ := q_nm (j144 <<< ((16 : Int32).toInt64 &&& 63) : Int64)
          refine q_tl (v := j147) e148 ?_
          refine lv_iload hx hb d_19_14_135 (lv_at hl 2 rfl) ?_
          refine lv_iconst (v := 1) hx hb d_19_14_137 (by decide) ?_
          refine q_join (X := Int32) (fun z H locs ls _ => q_Wd D g (va_A ws sz) s w134 H locs ∧ lv_has ls 13 [(6, .int lx92), (4, .int a35), (0, .ref (q 119)), (1, .ref (q k2)), (2, .ref (q k3))] ∧ F_WR_divideRows_J151 (F_WR_divideRows_L47 N2 N3 t0_0 t0_1 t0_2 t0_3 t0_4 t0_5 t0_6 t1_0 t2_0 t3_0 t4_0 a35 a28 f49 f42 lx54 fm85) (F_WR_divideRows_L79 (F_WR_divideRows_L47 N2 N3 t0_0 t0_1 t0_2 t0_3 t0_4 t0_5 t0_6 t1_0 t2_0 t3_0 t4_0 a35 a28 f49 f42 lx54 fm85) N2 N3 t0_0 t0_1 t0_2 t0_3 t0_4 t0_5 t0_6 t1_0 t2_0 t3_0 t4_0 a35 a28 f49 f42 lx54 lx70 lx71 fm108) (F_WR_divideRows_L88 (F_WR_divideRows_L47 N2 N3 t0_0 t0_1 t0_2 t0_3 t0_4 t0_5 t0_6 t1_0 t2_0 t3_0 t4_0 a35 a28 f49 f42 lx54 fm85) (F_WR_divideRows_L79 (F_WR_divideRows_L47 N2 N3 t0_0 t0_1 t0_2 t0_3 t0_4 t0_5 t0_6 t1_0 t2_0 t3_0 t4_0 a35 a28 f49 f42 lx54 fm85) N2 N3 t0_0 t0_1 t0_2 t0_3 t0_4 t0_5 t0_6 t1_0 t2_0 t3_0 t4_0 a35 a28 f49 f42 lx54 lx70 lx71 fm108) N2 N3 t0_0 t0_1 t0_2 t0_3 t0_4 t0_5 t0_6 t1_0 t2_0 t3_0 t4_0 a35 a28 f49 f42 lx54 lx70 lx71 lx92 lx93 lx94 fm128) N2 N3 t0_0 t0_1 t0_2 t0_3 t0_4 t0_5 t0_6 t1_0 t2_0 t3_0 t4_0 a35 a28 f49 f42 lx54 lx70 lx71 lx92 lx93 lx94 lx113 lx114 j147 f136 z = (F_WR_divideRows N2 N3 t0_0 t0_1 t0_2 t0_3 t0_4 t0_5 t0_6 t1_0 t2_0 t3_0 t4_0) ∧ True ∧ S_WR_divideRows_J151 (S_WR_divideRows_L47 N2 N3 t0_0 t0_1 t0_2 t0_3 t0_4 t0_5 t0_6 t1_0 t2_0 t3_0 t4_0 a35 a28 f49 f42 lx54 fm85) (S_WR_divideRows_L79 (S_WR_divideRows_L47 N2 N3 t0_0 t0_1 t0_2 t0_3 t0_4 t0_5 t0_6 t1_0 t2_0 t3_0 t4_0 a35 a28 f49 f42 lx54 fm85) N2 N3 t0_0 t0_1 t0_2 t0_3 t0_4 t0_5 t0_6 t1_0 t2_0 t3_0 t4_0 a35 a28 f49 f42 lx54 lx70 lx71 fm108) (S_WR_divideRows_L88 (S_WR_divideRows_L47 N2 N3 t0_0 t0_1 t0_2 t0_3 t0_4 t0_5 t0_6 t1_0 t2_0 t3_0 t4_0 a35 a28 f49 f42 lx54 fm85) (S_WR_divideRows_L79 (S_WR_divideRows_L47 N2 N3 t0_0 t0_1 t0_2 t0_3 t0_4 t0_5 t0_6 t1_0 t2_0 t3_0 t4_0 a35 a28 f49 f42 lx54 fm85) N2 N3 t0_0 t0_1 t0_2 t0_3 t0_4 t0_5 t0_6 t1_0 t2_0 t3_0 t4_0 a35 a28 f49 f42 lx54 lx70 lx71 fm108) N2 N3 t0_0 t0_1 t0_2 t0_3 t0_4 t0_5 t0_6 t1_0 t2_0 t3_0 t4_0 a35 a28 f49 f42 lx54 lx70 lx71 lx92 lx93 lx94 fm128) N2 N3 t0_0 t0_1 t0_2 t0_3 t0_4 t0_5 t0_6 t1_0 t2_0 t3_0 t4_0 a35 a28 f49 f42 lx54 lx70 lx71 lx92 lx93 lx94 lx113 lx114 j147 f136 z) (fun z => [.int z, .long j147]) 151 0 0 ?_ ?_
          ·
            rintro lx149 H locs ls _ ⟨V, hl, hR156, hS157⟩
            replace hl : lv_has ls 13 [(6, .int lx92), (4, .int a35), (0, .ref (q 119)), (1, .ref (q k2)), (2, .ref (q k3))] := hl
            refine lv_i2l hx hb d_19_14_151 rfl ?_
            obtain ⟨j161, e162⟩ := q_nm (lx149.toInt64 : Int64)
            refine q_tl (v := j161) e162 ?_
            refine lv_lor hx hb d_19_14_152 ?_
            obtain ⟨j164, e165⟩ := q_nm (j147 ||| j161 : Int64)
            refine q_tl (v := j164) e165 ?_
            refine lv_lstore (lv' := [(7, .long j164), (6, .int lx92), (4, .int a35), (0, .ref (q 119)), (1, .ref (q k2)), (2, .ref (q k3))]) hx hb d_19_14_153 hl (by decide) rfl (fun ls hl => ?_)
            refine q_loop (X := Nat × (Nat → Int32) × (Nat → Int32)) (fun z H locs ls w169 => q_Wd D g (va_A ws sz) s w169 H locs ∧ lv_has ls 13 [(7, .long j164), (6, .int lx92), (4, .int a35), (0, .ref (q 119)), (1, .ref (q k2)), (2, .ref (q k3))] ∧ q_I (msh g q) q w169 ∧ q_un ws w169 [126, 127] ∧ w169[119]? = (some (q 119, .inr (13, [.int t0_0, .int t0_1, .ref (q 120), .int t0_2, .ref (q 121), .ref (q 122), .ref (q 123), .int t0_3, .ref (q 124), .ref (q 125), .ref (q 126), .ref (q 127), .ref (q 128), .ref (q 129), .ref (q 130), .ref (q 131), .int t0_4, .int t0_5, .ref (q 132), .ref (q 133), .int t0_6])) : Option (Nat × va_E)) ∧ w169[126]? = (some (q 126, .inl (g 0, (264 : Int32).toNatClampNeg, .inl z.2.1)) : Option (Nat × va_E)) ∧ w169[127]? = (some (q 127, .inl (g 0, (264 : Int32).toNatClampNeg, .inl z.2.2)) : Option (Nat × va_E)) ∧ w169[k2]? = (some (q k2, .inl (g 0, N2.toNatClampNeg, .inl t3_0)) : Option (Nat × va_E)) ∧ w169[k3]? = (some (q k3, .inl (g 0, N3.toNatClampNeg, .inl t4_0)) : Option (Nat × va_E)) ∧ F_WR_divideRows_L155 (F_WR_divideRows_L47 N2 N3 t0_0 t0_1 t0_2 t0_3 t0_4 t0_5 t0_6 t1_0 t2_0 t3_0 t4_0 a35 a28 f49 f42 lx54 fm85) (F_WR_divideRows_L79 (F_WR_divideRows_L47 N2 N3 t0_0 t0_1 t0_2 t0_3 t0_4 t0_5 t0_6 t1_0 t2_0 t3_0 t4_0 a35 a28 f49 f42 lx54 fm85) N2 N3 t0_0 t0_1 t0_2 t0_3 t0_4 t0_5 t0_6 t1_0 t2_0 t3_0 t4_0 a35 a28 f49 f42 lx54 lx70 lx71 fm108) (F_WR_divideRows_L88 (F_WR_divideRows_L47 N2 N3 t0_0 t0_1 t0_2 t0_3 t0_4 t0_5 t0_6 t1_0 t2_0 t3_0 t4_0 a35 a28 f49 f42 lx54 fm85) (F_WR_divideRows_L79 (F_WR_divideRows_L47 N2 N3 t0_0 t0_1 t0_2 t0_3 t0_4 t0_5 t0_6 t1_0 t2_0 t3_0 t4_0 a35 a28 f49 f42 lx54 fm85) N2 N3 t0_0 t0_1 t0_2 t0_3 t0_4 t0_5 t0_6 t1_0 t2_0 t3_0 t4_0 a35 a28 f49 f42 lx54 lx70 lx71 fm108) N2 N3 t0_0 t0_1 t0_2 t0_3 t0_4 t0_5 t0_6 t1_0 t2_0 t3_0 t4_0 a35 a28 f49 f42 lx54 lx70 lx71 lx92 lx93 lx94 fm128) N2 N3 t0_0 t0_1 t0_2 t0_3 t0_4 t0_5 t0_6 t1_0 t2_0 t3_0 t4_0 a35 a28 f49 f42 lx54 lx70 lx71 lx92 lx93 lx94 lx113 lx114 j147 f136 lx149 j164 z.1 z.2.1 z.2.2 = (F_WR_divideRows N2 N3 t0_0 t0_1 t0_2 t0_3 t0_4 t0_5 t0_6 t1_0 t2_0 t3_0 t4_0) ∧ True ∧ S_WR_divideRows_L155 (S_WR_divideRows_L47 N2 N3 t0_0 t0_1 t0_2 t0_3 t0_4 t0_5 t0_6 t1_0 t2_0 t3_0 t4_0 a35 a28 f49 f42 lx54 fm85) (S_WR_divideRows_L79 (S_WR_divideRows_L47 N2 N3 t0_0 t0_1 t0_2 t0_3 t0_4 t0_5 t0_6 t1_0 t2_0 t3_0 t4_0 a35 a28 f49 f42 lx54 fm85) N2 N3 t0_0 t0_1 t0_2 t0_3 t0_4 t0_5 t0_6 t1_0 t2_0 t3_0 t4_0 a35 a28 f49 f42 lx54 lx70 lx71 fm108) (S_WR_divideRows_L88 (S_WR_divideRows_L47 N2 N3 t0_0 t0_1 t0_2 t0_3 t0_4 t0_5 t0_6 t1_0 t2_0 t3_0 t4_0 a35 a28 f49 f42 lx54 fm85) (S_WR_divideRows_L79 (S_WR_divideRows_L47 N2 N3 t0_0 t0_1 t0_2 t0_3 t0_4 t0_5 t0_6 t1_0 t2_0 t3_0 t4_0 a35 a28 f49 f42 lx54 fm85) N2 N3 t0_0 t0_1 t0_2 t0_3 t0_4 t0_5 t0_6 t1_0 t2_0 t3_0 t4_0 a35 a28 f49 f42 lx54 lx70 lx71 fm108) N2 N3 t0_0 t0_1 t0_2 t0_3 t0_4 t0_5 t0_6 t1_0 t2_0 t3_0 t4_0 a35 a28 f49 f42 lx54 lx70 lx71 lx92 lx93 lx94 fm128) N2 N3 t0_0 t0_1 t0_2 t0_3 t0_4 t0_5 t0_6 t1_0 t2_0 t3_0 t4_0 a35 a28 f49 f42 lx54 lx70 lx71 lx92 lx93 lx94 lx113 lx114 j147 f136 lx149 j164 z.1 z.2.1 z.2.2) (fun z => z.1) ?_ ((1000000 : Nat), (f136 : (Nat → Int32)), (lx94 : (Nat → Int32))) _ _ _ w134 ⟨V, q_lw hl (q_lw1 0 rfl (q_lw1 1 rfl (q_lw1 2 rfl (q_lw1 3 rfl (q_lw1 4 rfl (q_lw1 5 rfl q_lw0)))))), hI, hF, hO119, hO120, hO121, hO122, hO123, (show F_WR_divideRows_L155 (F_WR_divideRows_L47 N2 N3 t0_0 t0_1 t0_2 t0_3 t0_4 t0_5 t0_6 t1_0 t2_0 t3_0 t4_0 a35 a28 f49 f42 lx54 fm85) (F_WR_divideRows_L79 (F_WR_divideRows_L47 N2 N3 t0_0 t0_1 t0_2 t0_3 t0_4 t0_5 t0_6 t1_0 t2_0 t3_0 t4_0 a35 a28 f49 f42 lx54 fm85) N2 N3 t0_0 t0_1 t0_2 t0_3 t0_4 t0_5 t0_6 t1_0 t2_0 t3_0 t4_0 a35 a28 f49 f42 lx54 lx70 lx71 fm108) (F_WR_divideRows_L88 (F_WR_divideRows_L47 N2 N3 t0_0 t0_1 t0_2 t0_3 t0_4 t0_5 t0_6 t1_0 t2_0 t3_0 t4_0 a35 a28 f49 f42 lx54 fm85) (F_WR_divideRows_L79 (F_WR_divideRows_L47 N2 N3 t0_0 t0_1 t0_2 t0_3 t0_4 t0_5 t0_6 t1_0 t2_0 t3_0 t4_0 a35 a28 f49 f42 lx54 fm85) N2 N3 t0_0 t0_1 t0_2 t0_3 t0_4 t0_5 t0_6 t1_0 t2_0 t3_0 t4_0 a35 a28 f49 f42 lx54 lx70 lx71 fm108) N2 N3 t0_0 t0_1 t0_2 t0_3 t0_4 t0_5 t0_6 t1_0 t2_0 t3_0 t4_0 a35 a28 f49 f42 lx54 lx70 lx71 lx92 lx93 lx94 fm128) N2 N3 t0_0 t0_1 t0_2 t0_3 t0_4 t0_5 t0_6 t1_0 t2_0 t3_0 t4_0 a35 a28 f49 f42 lx54 lx70 lx71 lx92 lx93 lx94 lx113 lx114 j147 f136 lx149 j164 1000000 f136 lx94 = (F_WR_divideRows N2 N3 t0_0 t0_1 t0_2 t0_3 t0_4 t0_5 t0_6 t1_0 t2_0 t3_0 t4_0) from Eq.trans (by rw [← e165, ← e162, F_WR_divideRows_J151.eq_1]) hR156), (show True ∧ S_WR_divideRows_L155 (S_WR_divideRows_L47 N2 N3 t0_0 t0_1 t0_2 t0_3 t0_4 t0_5 t0_6 t1_0 t2_0 t3_0 t4_0 a35 a28 f49 f42 lx54 fm85) (S_WR_divideRows_L79 (S_WR_divideRows_L47 N2 N3 t0_0 t0_1 t0_2 t0_3 t0_4 t0_5 t0_6 t1_0 t2_0 t3_0 t4_0 a35 a28 f49 f42 lx54 fm85) N2 N3 t0_0 t0_1 t0_2 t0_3 t0_4 t0_5 t0_6 t1_0 t2_0 t3_0 t4_0 a35 a28 f49 f42 lx54 lx70 lx71 fm108) (S_WR_divideRows_L88 (S_WR_divideRows_L47 N2 N3 t0_0 t0_1 t0_2 t0_3 t0_4 t0_5 t0_6 t1_0 t2_0 t3_0 t4_0 a35 a28 f49 f42 lx54 fm85) (S_WR_divideRows_L79 (S_WR_divideRows_L47 N2 N3 t0_0 t0_1 t0_2 t0_3 t0_4 t0_5 t0_6 t1_0 t2_0 t3_0 t4_0 a35 a28 f49 f42 lx54 fm85) N2 N3 t0_0 t0_1 t0_2 t0_3 t0_4 t0_5 t0_6 t1_0 t2_0 t3_0 t4_0 a35 a28 f49 f42 lx54 lx70 lx71 fm108) N2 N3 t0_0 t0_1 t0_2 t0_3 t0_4 t0_5 t0_6 t1_0 t2_0 t3_0 t4_0 a35 a28 f49 f42 lx54 lx70 lx71 lx92 lx93 lx94 fm128) N2 N3 t0_0 t0_1 t0_2 t0_3 t0_4 t0_5 t0_6 t1_0 t2_0 t3_0 t4_0 a35 a28 f49 f42 lx54 lx70 lx71 lx92 lx93 lx94 lx113 lx114 j147 f136 lx149 j164 1000000 f136 lx94 from (by rw [← e165, ← e162]; have h := hS157; rw [S_WR_divideRows_J151.eq_1] at h; with_reducible exact h))⟩
            rintro ⟨fu177, lx166, lx167⟩ H locs ls w169 ⟨V, hl, hI, hF, hO170, hO171, hO172, hO173, hO174, hR175, hS176⟩ ih168
            obtain ⟨fm179, rfl⟩ : ∃ m, fu177 = m + 1 := Nat.exists_eq_succ_of_ne_zero (fun e => by subst e; rw [S_WR_divideRows_L155.eq_1] at hS176; exact hS176.2)
            replace hl : lv_has ls 13 [(7, .long j164), (6, .int lx92), (4, .int a35), (0, .ref (q 119)), (1, .ref (q k2)), (2, .ref (q k3))] := hl
            replace hO170 : w169[119]? = (some (q 119, .inr (13, [.int t0_0, .int t0_1, .ref (q 120), .int t0_2, .ref (q 121), .ref (q 122), .ref (q 123), .int t0_3, .ref (q 124), .ref (q 125), .ref (q 126), .ref (q 127), .ref (q 128), .ref (q 129), .ref (q 130), .ref (q 131), .int t0_4, .int t0_5, .ref (q 132), .ref (q 133), .int t0_6])) : Option (Nat × va_E)) := hO170
            replace hO171 : w169[126]? = (some (q 126, .inl (g 0, (264 : Int32).toNatClampNeg, .inl lx166)) : Option (Nat × va_E)) := hO171
            replace hO172 : w169[127]? = (some (q 127, .inl (g 0, (264 : Int32).toNatClampNeg, .inl lx167)) : Option (Nat × va_E)) := hO172
            replace hO173 : w169[k2]? = (some (q k2, .inl (g 0, N2.toNatClampNeg, .inl t3_0)) : Option (Nat × va_E)) := hO173
            replace hO174 : w169[k3]? = (some (q k3, .inl (g 0, N3.toNatClampNeg, .inl t4_0)) : Option (Nat × va_E)) := hO174
            refine lv_aload_n hx hb d_19_14_155 rfl (lv_at hl 3 rfl) ?_
            refine q_get (ci := 13) (j := 10) (v := .ref (q 126)) C0 V i_WR rfl rfl hO170 (by decide) w_1934 rfl d_19_14_156 ?_
            refine lv_aload_n hx hb d_19_14_159 rfl (lv_at hl 5 rfl) ?_
            have ob180 : True ∧ S_WR_compareRows (264 : Int32) N3 lx166 t4_0 := (by have h := hS176; rw [S_WR_divideRows_L155.eq_2] at h; with_reducible exact h.2.1)
            refine q_goi V (q_runS (As := [.ref (q 126), .ref (q k3)]) (rest := []) (d := 1) (mc := 0) (ms := 0) C0 V rfl LS_WR_71 (X_WR_compareRows l D g q w169 126 264 (n_r126 g q) k3 N3 hB3  hI lx166 hO171 t4_0 hO174 ob180 _) rfl hl.1 rfl (Nat.le_of_ble_eq_true rfl) ⟨by decide, by decide⟩ ⟨Nat.le_of_ble_eq_true rfl, Nat.le_of_ble_eq_true rfl⟩ d_19_14_160) (fun a183 u181 H locs hp182 V => ?_)
            obtain ⟨rfl, hZ9⟩ := hp182
            replace hZ9 := hZ9.2.2.2
            obtain ⟨-, hE188⟩ := hZ9
            have e189 : a183 = (F_WR_compareRows (264 : Int32) N3 lx166 t4_0) := hE188
            refine lv_if_lt (tgt := 272) hx hb d_19_14_163 (by decide) (fun c190 => ?_) (fun c190 => ?_)
            ·
              obtain ⟨a192, e193⟩ := q_nm (lx92 + (-1) : Int32)
              have b194 : q_F (a192.toInt = lx92.toInt + (-1)) := (by rw [← e193]; exact q_addI (y := (-1)) rfl (by decide) (by have t1 : 0 ≤ lx92.toInt + 1 := i95; have t2 : lx92.toInt + 1 ≤ N2.toInt := ob131; have _ := q_lo32 (x := N2); have _ := q_hi32 (x := N2); omega) (by have t1 : 0 ≤ lx92.toInt + 1 := i95; have t2 : lx92.toInt + 1 ≤ N2.toInt := ob131; have _ := q_lo32 (x := N2); have _ := q_hi32 (x := N2); omega))
              refine lv_iinc (v := a192) (lv' := [(6, .int a192), (7, .long j164), (4, .int a35), (0, .ref (q 119)), (1, .ref (q k2)), (2, .ref (q k3))]) hx hb d_19_14_272 hl (k := 1) rfl (e193) (by decide) rfl (fun ls hl => ?_)
              refine lv_goto (tgt := 79) hx hb d_19_14_275 (by decide) ?_
              exact ih97 ((a192 : Int32), (lx166 : (Nat → Int32)), (lx167 : (Nat → Int32))) _ _ _ _ (show (a192.toInt - ((-1))).toNat < (lx92.toInt - ((-1))).toNat from by have t1 : a192.toInt = lx92.toInt + (-1) := b194; have t2 : 0 ≤ lx92.toInt + 1 := i95; have t3 : 0 ≤ lx92.toInt := b111; omega) ⟨(show q_F (0 ≤ a192.toInt + 1) from (show 0 ≤ a192.toInt + 1 from by have t1 : 0 ≤ lx92.toInt := b111; have t2 : a192.toInt = lx92.toInt + (-1) := b194; omega)), (show q_F (a192.toInt ≤ a88.toInt) from (show a192.toInt ≤ a88.toInt from by have t1 : lx92.toInt ≤ a88.toInt := i96; have t2 : a192.toInt = lx92.toInt + (-1) := b194; omega)), V, q_lw hl (q_lw1 0 rfl (q_lw1 2 rfl (q_lw1 3 rfl (q_lw1 4 rfl (q_lw1 5 rfl q_lw0))))), hI, hF, hO170, hO171, hO172, hO173, hO174, ⟨fm108, Nat.lt_of_lt_of_le (show (a192.toInt - ((-1))).toNat < (lx92.toInt - ((-1))).toNat from by have t1 : a192.toInt = lx92.toInt + (-1) := b194; have t2 : 0 ≤ lx92.toInt + 1 := i95; have t3 : 0 ≤ lx92.toInt := b111; omega) (Nat.le_of_lt_succ hf107), (show F_WR_divideRows_L79 (F_WR_divideRows_L47 N2 N3 t0_0 t0_1 t0_2 t0_3 t0_4 t0_5 t0_6 t1_0 t2_0 t3_0 t4_0 a35 a28 f49 f42 lx54 fm85) N2 N3 t0_0 t0_1 t0_2 t0_3 t0_4 t0_5 t0_6 t1_0 t2_0 t3_0 t4_0 a35 a28 f49 f42 lx54 lx70 lx71 fm108 a192 lx166 lx167 = (F_WR_divideRows N2 N3 t0_0 t0_1 t0_2 t0_3 t0_4 t0_5 t0_6 t1_0 t2_0 t3_0 t4_0) from Eq.trans (by have c190x := c190; rw [e189] at c190x; rw [← e193, F_WR_divideRows_L155.eq_2, if_pos c190x]) hR175), (show True ∧ S_WR_divideRows_L79 (S_WR_divideRows_L47 N2 N3 t0_0 t0_1 t0_2 t0_3 t0_4 t0_5 t0_6 t1_0 t2_0 t3_0 t4_0 a35 a28 f49 f42 lx54 fm85) N2 N3 t0_0 t0_1 t0_2 t0_3 t0_4 t0_5 t0_6 t1_0 t2_0 t3_0 t4_0 a35 a28 f49 f42 lx54 lx70 lx71 fm108 a192 lx166 lx167 from (by rw [← e193]; have h := hS176; rw [S_WR_divideRows_L155.eq_2] at h; replace h := q_s2 h; have c190x := c190; rw [e189] at c190x; rw [if_pos c190x] at h; with_reducible exact h))⟩⟩
            ·
              refine lv_aload_n hx hb d_19_14_166 rfl (lv_at hl 3 rfl) ?_
              refine q_get (ci := 13) (j := 10) (v := .ref (q 126)) C0 V i_WR rfl rfl hO170 (by decide) w_1934 rfl d_19_14_167 ?_
              refine lv_iload hx hb d_19_14_170 (lv_at hl 2 rfl) ?_
              have ob196 : q_F (a35.toInt ≤ 263) := (by have h := hS176; rw [S_WR_divideRows_L155.eq_2] at h; replace h := q_s2 h; have c190x := c190; rw [e189] at c190x; rw [if_neg c190x] at h; exact h.2.1)
              refine q_iald C0 V hO171 (q_ix (x := a35.toInt) rfl (by first | with_reducible exact q_fe b36 | (have t1 : 0 ≤ a35.toInt := b36; omega)) (by have t1 : 0 ≤ a35.toInt := b36; have t2 : a35.toInt ≤ 263 := ob196; have e9 : (((264 : Int32).toNatClampNeg : Nat) : Int) = 264 := (by decide); omega)) d_19_14_172 ?_
              obtain ⟨a197, e198⟩ := q_nm (lx166 a35.toNatClampNeg : Int32)
              refine q_ti (v := a197) e198 ?_
              refine lv_i2l hx hb d_19_14_173 rfl ?_
              obtain ⟨j199, e200⟩ := q_nm (a197.toInt64 : Int64)
              refine q_tl (v := j199) e200 ?_
              refine lv_bipush (v := 16) hx hb d_19_14_174 (by decide) ?_
              refine lv_lshl hx hb d_19_14_176 rfl ?_
              obtain ⟨j202, e203⟩ := q_nm (j199 <<< ((16 : Int32).toInt64 &&& 63) : Int64)
              refine q_tl (v := j202) e203 ?_
              refine lv_aload_n hx hb d_19_14_177 rfl (lv_at hl 3 rfl) ?_
              refine q_get (ci := 13) (j := 10) (v := .ref (q 126)) C0 V i_WR rfl rfl hO170 (by decide) w_1934 rfl d_19_14_178 ?_
              refine lv_iload hx hb d_19_14_181 (lv_at hl 2 rfl) ?_
              refine lv_iconst (v := 1) hx hb d_19_14_183 (by decide) ?_
              refine lv_isub hx hb d_19_14_184 ?_
              obtain ⟨a204, e205⟩ := q_nm (a35 - 1 : Int32)
              refine q_ti (v := a204) e205 ?_
              have b206 : q_F (a204.toInt = a35.toInt - 1) := (by rw [← e205]; show (a35 - 1 : Int32).toInt = a35.toInt - 1; exact q_subI (x := a35.toInt) (y := 1) rfl (by decide) (by have t1 : 0 ≤ a35.toInt := b36; have t2 : a35.toInt ≤ 263 := ob196; omega) (by have t1 : 0 ≤ a35.toInt := b36; have t2 : a35.toInt ≤ 263 := ob196; omega))
              refine q_iald C0 V hO171 (q_ix (x := a204.toInt) rfl (by have t1 : a138.toInt = a35.toInt - 1 := b140; have t2 : 0 ≤ a138.toInt := ob141; have t3 : a204.toInt = a35.toInt - 1 := b206; omega) (by have t1 : a138.toInt = a35.toInt - 1 := b140; have t2 : 0 ≤ a138.toInt := ob141; have t3 : a204.toInt = a35.toInt - 1 := b206; have t4 : a35.toInt ≤ 263 := ob196; have e9 : (((264 : Int32).toNatClampNeg : Nat) : Int) = 264 := (by decide); omega)) d_19_14_185 ?_
              obtain ⟨a207, e208⟩ := q_nm (lx166 a204.toNatClampNeg : Int32)
              refine q_ti (v := a207) e208 ?_
              refine lv_i2l hx hb d_19_14_186 rfl ?_
              obtain ⟨j209, e210⟩ := q_nm (a207.toInt64 : Int64)
              refine q_tl (v := j209) e210 ?_
              refine lv_lor hx hb d_19_14_187 ?_
              obtain ⟨j212, e213⟩ := q_nm (j202 ||| j209 : Int64)
              refine q_tl (v := j212) e213 ?_
              refine lv_bipush (v := 16) hx hb d_19_14_188 (by decide) ?_
              refine lv_lshl hx hb d_19_14_190 rfl ?_
              obtain ⟨j214, e215⟩ := q_nm (j212 <<< ((16 : Int32).toInt64 &&& 63) : Int64)
              refine q_tl (v := j214) e215 ?_
              refine lv_iload hx hb d_19_14_191 (lv_at hl 2 rfl) ?_
              refine lv_iconst (v := 1) hx hb d_19_14_193 (by decide) ?_
              refine q_join (X := Int32) (fun z H locs ls _ => q_Wd D g (va_A ws sz) s w169 H locs ∧ lv_has ls 13 [(7, .long j164), (6, .int lx92), (4, .int a35), (0, .ref (q 119)), (1, .ref (q k2)), (2, .ref (q k3))] ∧ F_WR_divideRows_J210 (F_WR_divideRows_L47 N2 N3 t0_0 t0_1 t0_2 t0_3 t0_4 t0_5 t0_6 t1_0 t2_0 t3_0 t4_0 a35 a28 f49 f42 lx54 fm85) (F_WR_divideRows_L79 (F_WR_divideRows_L47 N2 N3 t0_0 t0_1 t0_2 t0_3 t0_4 t0_5 t0_6 t1_0 t2_0 t3_0 t4_0 a35 a28 f49 f42 lx54 fm85) N2 N3 t0_0 t0_1 t0_2 t0_3 t0_4 t0_5 t0_6 t1_0 t2_0 t3_0 t4_0 a35 a28 f49 f42 lx54 lx70 lx71 fm108) (F_WR_divideRows_L88 (F_WR_divideRows_L47 N2 N3 t0_0 t0_1 t0_2 t0_3 t0_4 t0_5 t0_6 t1_0 t2_0 t3_0 t4_0 a35 a28 f49 f42 lx54 fm85) (F_WR_divideRows_L79 (F_WR_divideRows_L47 N2 N3 t0_0 t0_1 t0_2 t0_3 t0_4 t0_5 t0_6 t1_0 t2_0 t3_0 t4_0 a35 a28 f49 f42 lx54 fm85) N2 N3 t0_0 t0_1 t0_2 t0_3 t0_4 t0_5 t0_6 t1_0 t2_0 t3_0 t4_0 a35 a28 f49 f42 lx54 lx70 lx71 fm108) N2 N3 t0_0 t0_1 t0_2 t0_3 t0_4 t0_5 t0_6 t1_0 t2_0 t3_0 t4_0 a35 a28 f49 f42 lx54 lx70 lx71 lx92 lx93 lx94 fm128) (F_WR_divideRows_L155 (F_WR_divideRows_L47 N2 N3 t0_0 t0_1 t0_2 t0_3 t0_4 t0_5 t0_6 t1_0 t2_0 t3_0 t4_0 a35 a28 f49 f42 lx54 fm85) (F_WR_divideRows_L79 (F_WR_divideRows_L47 N2 N3 t0_0 t0_1 t0_2 t0_3 t0_4 t0_5 t0_6 t1_0 t2_0 t3_0 t4_0 a35 a28 f49 f42 lx54 fm85) N2 N3 t0_0 t0_1 t0_2 t0_3 t0_4 t0_5 t0_6 t1_0 t2_0 t3_0 t4_0 a35 a28 f49 f42 lx54 lx70 lx71 fm108) (F_WR_divideRows_L88 (F_WR_divideRows_L47 N2 N3 t0_0 t0_1 t0_2 t0_3 t0_4 t0_5 t0_6 t1_0 t2_0 t3_0 t4_0 a35 a28 f49 f42 lx54 fm85) (F_WR_divideRows_L79 (F_WR_divideRows_L47 N2 N3 t0_0 t0_1 t0_2 t0_3 t0_4 t0_5 t0_6 t1_0 t2_0 t3_0 t4_0 a35 a28 f49 f42 lx54 fm85) N2 N3 t0_0 t0_1 t0_2 t0_3 t0_4 t0_5 t0_6 t1_0 t2_0 t3_0 t4_0 a35 a28 f49 f42 lx54 lx70 lx71 fm108) N2 N3 t0_0 t0_1 t0_2 t0_3 t0_4 t0_5 t0_6 t1_0 t2_0 t3_0 t4_0 a35 a28 f49 f42 lx54 lx70 lx71 lx92 lx93 lx94 fm128) N2 N3 t0_0 t0_1 t0_2 t0_3 t0_4 t0_5 t0_6 t1_0 t2_0 t3_0 t4_0 a35 a28 f49 f42 lx54 lx70 lx71 lx92 lx93 lx94 lx113 lx114 j147 f136 lx149 j164 fm179) N2 N3 t0_0 t0_1 t0_2 t0_3 t0_4 t0_5 t0_6 t1_0 t2_0 t3_0 t4_0 a35 a28 f49 f42 lx54 lx70 lx71 lx92 lx93 lx94 lx113 lx114 j147 f136 lx149 j164 lx166 lx167 j214 z = (F_WR_divideRows N2 N3 t0_0 t0_1 t0_2 t0_3 t0_4 t0_5 t0_6 t1_0 t2_0 t3_0 t4_0) ∧ True ∧ S_WR_divideRows_J210 (S_WR_divideRows_L47 N2 N3 t0_0 t0_1 t0_2 t0_3 t0_4 t0_5 t0_6 t1_0 t2_0 t3_0 t4_0 a35 a28 f49 f42 lx54 fm85) (S_WR_divideRows_L79 (S_WR_divideRows_L47 N2 N3 t0_0 t0_1 t0_2 t0_3 t0_4 t0_5 t0_6 t1_0 t2_0 t3_0 t4_0 a35 a28 f49 f42 lx54 fm85) N2 N3 t0_0 t0_1 t0_2 t0_3 t0_4 t0_5 t0_6 t1_0 t2_0 t3_0 t4_0 a35 a28 f49 f42 lx54 lx70 lx71 fm108) (S_WR_divideRows_L88 (S_WR_divideRows_L47 N2 N3 t0_0 t0_1 t0_2 t0_3 t0_4 t0_5 t0_6 t1_0 t2_0 t3_0 t4_0 a35 a28 f49 f42 lx54 fm85) (S_WR_divideRows_L79 (S_WR_divideRows_L47 N2 N3 t0_0 t0_1 t0_2 t0_3 t0_4 t0_5 t0_6 t1_0 t2_0 t3_0 t4_0 a35 a28 f49 f42 lx54 fm85) N2 N3 t0_0 t0_1 t0_2 t0_3 t0_4 t0_5 t0_6 t1_0 t2_0 t3_0 t4_0 a35 a28 f49 f42 lx54 lx70 lx71 fm108) N2 N3 t0_0 t0_1 t0_2 t0_3 t0_4 t0_5 t0_6 t1_0 t2_0 t3_0 t4_0 a35 a28 f49 f42 lx54 lx70 lx71 lx92 lx93 lx94 fm128) (S_WR_divideRows_L155 (S_WR_divideRows_L47 N2 N3 t0_0 t0_1 t0_2 t0_3 t0_4 t0_5 t0_6 t1_0 t2_0 t3_0 t4_0 a35 a28 f49 f42 lx54 fm85) (S_WR_divideRows_L79 (S_WR_divideRows_L47 N2 N3 t0_0 t0_1 t0_2 t0_3 t0_4 t0_5 t0_6 t1_0 t2_0 t3_0 t4_0 a35 a28 f49 f42 lx54 fm85) N2 N3 t0_0 t0_1 t0_2 t0_3 t0_4 t0_5 t0_6 t1_0 t2_0 t3_0 t4_0 a35 a28 f49 f42 lx54 lx70 lx71 fm108) (S_WR_divideRows_L88 (S_WR_divideRows_L47 N2 N3 t0_0 t0_1 t0_2 t0_3 t0_4 t0_5 t0_6 t1_0 t2_0 t3_0 t4_0 a35 a28 f49 f42 lx54 fm85) (S_WR_divideRows_L79 (S_WR_divideRows_L47 N2 N3 t0_0 t0_1 t0_2 t0_3 t0_4 t0_5 t0_6 t1_0 t2_0 t3_0 t4_0 a35 a28 f49 f42 lx54 fm85) N2 N3 t0_0 t0_1 t0_2 t0_3 t0_4 t0_5 t0_6 t1_0 t2_0 t3_0 t4_0 a35 a28 f49 f42 lx54 lx70 lx71 fm108) N2 N3 t0_0 t0_1 t0_2 t0_3 t0_4 t0_5 t0_6 t1_0 t2_0 t3_0 t4_0 a35 a28 f49 f42 lx54 lx70 lx71 lx92 lx93 lx94 fm128) N2 N3 t0_0 t0_1 t0_2 t0_3 t0_4 t0_5 t0_6 t1_0 t2_0 t3_0 t4_0 a35 a28 f49 f42 lx54 lx70 lx71 lx92 lx93 lx94 lx113 lx114 j147 f136 lx149 j164 fm179) N2 N3 t0_0 t0_1 t0_2 t0_3 t0_4 t0_5 t0_6 t1_0 t2_0 t3_0 t4_0 a35 a28 f49 f42 lx54 lx70 lx71 lx92 lx93 lx94 lx113 lx114 j147 f136 lx149 j164 lx166 lx167 j214 z) (fun z => [.int z, .long j214]) 210 0 0 ?_ ?_
              ·
                rintro lx216 H locs ls _ ⟨V, hl, hR223, hS224⟩
                replace hl : lv_has ls 13 [(7, .long j164), (6, .int lx92), (4, .int a35), (0, .ref (q 119)), (1, .ref (q k2)), (2, .ref (q k3))] := hl
                refine lv_i2l hx hb d_19_14_210 rfl ?_
                obtain ⟨j228, e229⟩ := q_nm (lx216.toInt64 : Int64)
                refine q_tl (v := j228) e229 ?_
                refine lv_lor hx hb d_19_14_211 ?_
                obtain ⟨j231, e232⟩ := q_nm (j214 ||| j228 : Int64)
                refine q_tl (v := j231) e232 ?_
                refine lv_lstore (lv' := [(9, .long j231), (7, .long j164), (6, .int lx92), (4, .int a35), (0, .ref (q 119)), (1, .ref (q k2)), (2, .ref (q k3))]) hx hb d_19_14_212 hl (by decide) rfl (fun ls hl => ?_)
                refine lv_lload hx hb d_19_14_214 (lv_at hl 0 rfl) ?_
                refine lv_lload hx hb d_19_14_216 (lv_at hl 1 rfl) ?_
                refine lv_lconst (v := 1) hx hb d_19_14_218 (by decide) ?_
                refine lv_ladd hx hb d_19_14_219 ?_
                obtain ⟨j233, e234⟩ := q_nm (j164 + 1 : Int64)
                refine q_tl (v := j233) e234 ?_
                have ob235 : q_F (1 ≤ j233.toInt) := (by rw [← e234]; have h := hS224; rw [S_WR_divideRows_J210.eq_1] at h; exact h.2.1)
                refine lv_ldiv hx hb d_19_14_220 (s_nzL (by first | with_reducible exact q_fe ob235 | (have t1 : 1 ≤ j233.toInt := ob235; omega))) ?_
                obtain ⟨j236, e237⟩ := q_nm (j231 / j233 : Int64)
                refine q_tl (v := j236) e237 ?_
                refine lv_lstore (lv' := [(11, .long j236), (9, .long j231), (7, .long j164), (6, .int lx92), (4, .int a35), (0, .ref (q 119)), (1, .ref (q k2)), (2, .ref (q k3))]) hx hb d_19_14_221 hl (by decide) rfl (fun ls hl => ?_)
                refine lv_lload hx hb d_19_14_223 (lv_at hl 0 rfl) ?_
                refine lv_lconst (v := 1) hx hb d_19_14_225 (by decide) ?_
                refine W.lcmp hx hb d_19_14_226 ?_
                obtain ⟨a238, e239⟩ := q_nm (lg_cmp j236 1 : Int32)
                refine q_ti (v := a238) e239 ?_
                have b240 : q_F (-1 ≤ a238.toInt ∧ a238.toInt ≤ 1 ∧ ((a238.toInt = -1 ∧ j236.toInt < 1) ∨ (a238.toInt = 0 ∧ j236.toInt = 1) ∨ (a238.toInt = 1 ∧ 1 < j236.toInt))) := (by rw [← e239]; show -1 ≤ (lg_cmp j236 1 : Int32).toInt ∧ (lg_cmp j236 1 : Int32).toInt ≤ 1 ∧ (((lg_cmp j236 1 : Int32).toInt = -1 ∧ j236.toInt < 1) ∨ ((lg_cmp j236 1 : Int32).toInt = 0 ∧ j236.toInt = 1) ∨ ((lg_cmp j236 1 : Int32).toInt = 1 ∧ 1 < j236.toInt)); exact (by have y1 : (1 : Int64).toInt = 1 := rfl; have z := s_lcmp (a := j236) (b := 1); omega))
                refine q_join (X := Int64) (fun z H locs ls _ => q_F (1 ≤ z.toInt) ∧ q_F (j236.toInt ≤ z.toInt) ∧ q_Wd D g (va_A ws sz) s w169 H locs ∧ lv_has ls 13 [(7, .long j164), (6, .int lx92), (4, .int a35), (0, .ref (q 119)), (1, .ref (q k2)), (2, .ref (q k3))] ∧ F_WR_divideRows_J236 (F_WR_divideRows_L47 N2 N3 t0_0 t0_1 t0_2 t0_3 t0_4 t0_5 t0_6 t1_0 t2_0 t3_0 t4_0 a35 a28 f49 f42 lx54 fm85) (F_WR_divideRows_L79 (F_WR_divideRows_L47 N2 N3 t0_0 t0_1 t0_2 t0_3 t0_4 t0_5 t0_6 t1_0 t2_0 t3_0 t4_0 a35 a28 f49 f42 lx54 fm85) N2 N3 t0_0 t0_1 t0_2 t0_3 t0_4 t0_5 t0_6 t1_0 t2_0 t3_0 t4_0 a35 a28 f49 f42 lx54 lx70 lx71 fm108) (F_WR_divideRows_L88 (F_WR_divideRows_L47 N2 N3 t0_0 t0_1 t0_2 t0_3 t0_4 t0_5 t0_6 t1_0 t2_0 t3_0 t4_0 a35 a28 f49 f42 lx54 fm85) (F_WR_divideRows_L79 (F_WR_divideRows_L47 N2 N3 t0_0 t0_1 t0_2 t0_3 t0_4 t0_5 t0_6 t1_0 t2_0 t3_0 t4_0 a35 a28 f49 f42 lx54 fm85) N2 N3 t0_0 t0_1 t0_2 t0_3 t0_4 t0_5 t0_6 t1_0 t2_0 t3_0 t4_0 a35 a28 f49 f42 lx54 lx70 lx71 fm108) N2 N3 t0_0 t0_1 t0_2 t0_3 t0_4 t0_5 t0_6 t1_0 t2_0 t3_0 t4_0 a35 a28 f49 f42 lx54 lx70 lx71 lx92 lx93 lx94 fm128) (F_WR_divideRows_L155 (F_WR_divideRows_L47 N2 N3 t0_0 t0_1 t0_2 t0_3 t0_4 t0_5 t0_6 t1_0 t2_0 t3_0 t4_0 a35 a28 f49 f42 lx54 fm85) (F_WR_divideRows_L79 (F_WR_divideRows_L47 N2 N3 t0_0 t0_1 t0_2 t0_3 t0_4 t0_5 t0_6 t1_0 t2_0 t3_0 t4_0 a35 a28 f49 f42 lx54 fm85) N2 N3 t0_0 t0_1 t0_2 t0_3 t0_4 t0_5 t0_6 t1_0 t2_0 t3_0 t4_0 a35 a28 f49 f42 lx54 lx70 lx71 fm108) (F_WR_divideRows_L88 (F_WR_divideRows_L47 N2 N3 t0_0 t0_1 t0_2 t0_3 t0_4 t0_5 t0_6 t1_0 t2_0 t3_0 t4_0 a35 a28 f49 f42 lx54 fm85) (F_WR_divideRows_L79 (F_WR_divideRows_L47 N2 N3 t0_0 t0_1 t0_2 t0_3 t0_4 t0_5 t0_6 t1_0 t2_0 t3_0 t4_0 a35 a28 f49 f42 lx54 fm85) N2 N3 t0_0 t0_1 t0_2 t0_3 t0_4 t0_5 t0_6 t1_0 t2_0 t3_0 t4_0 a35 a28 f49 f42 lx54 lx70 lx71 fm108) N2 N3 t0_0 t0_1 t0_2 t0_3 t0_4 t0_5 t0_6 t1_0 t2_0 t3_0 t4_0 a35 a28 f49 f42 lx54 lx70 lx71 lx92 lx93 lx94 fm128) N2 N3 t0_0 t0_1 t0_2 t0_3 t0_4 t0_5 t0_6 t1_0 t2_0 t3_0 t4_0 a35 a28 f49 f42 lx54 lx70 lx71 lx92 lx93 lx94 lx113 lx114 j147 f136 lx149 j164 fm179) N2 N3 t0_0 t0_1 t0_2 t0_3 t0_4 t0_5 t0_6 t1_0 t2_0 t3_0 t4_0 a35 a28 f49 f42 lx54 lx70 lx71 lx92 lx93 lx94 lx113 lx114 j147 f136 lx149 j164 lx166 lx167 j214 lx216 z = (F_WR_divideRows N2 N3 t0_0 t0_1 t0_2 t0_3 t0_4 t0_5 t0_6 t1_0 t2_0 t3_0 t4_0) ∧ True ∧ S_WR_divideRows_J236 (S_WR_divideRows_L47 N2 N3 t0_0 t0_1 t0_2 t0_3 t0_4 t0_5 t0_6 t1_0 t2_0 t3_0 t4_0 a35 a28 f49 f42 lx54 fm85) (S_WR_divideRows_L79 (S_WR_divideRows_L47 N2 N3 t0_0 t0_1 t0_2 t0_3 t0_4 t0_5 t0_6 t1_0 t2_0 t3_0 t4_0 a35 a28 f49 f42 lx54 fm85) N2 N3 t0_0 t0_1 t0_2 t0_3 t0_4 t0_5 t0_6 t1_0 t2_0 t3_0 t4_0 a35 a28 f49 f42 lx54 lx70 lx71 fm108) (S_WR_divideRows_L88 (S_WR_divideRows_L47 N2 N3 t0_0 t0_1 t0_2 t0_3 t0_4 t0_5 t0_6 t1_0 t2_0 t3_0 t4_0 a35 a28 f49 f42 lx54 fm85) (S_WR_divideRows_L79 (S_WR_divideRows_L47 N2 N3 t0_0 t0_1 t0_2 t0_3 t0_4 t0_5 t0_6 t1_0 t2_0 t3_0 t4_0 a35 a28 f49 f42 lx54 fm85) N2 N3 t0_0 t0_1 t0_2 t0_3 t0_4 t0_5 t0_6 t1_0 t2_0 t3_0 t4_0 a35 a28 f49 f42 lx54 lx70 lx71 fm108) N2 N3 t0_0 t0_1 t0_2 t0_3 t0_4 t0_5 t0_6 t1_0 t2_0 t3_0 t4_0 a35 a28 f49 f42 lx54 lx70 lx71 lx92 lx93 lx94 fm128) (S_WR_divideRows_L155 (S_WR_divideRows_L47 N2 N3 t0_0 t0_1 t0_2 t0_3 t0_4 t0_5 t0_6 t1_0 t2_0 t3_0 t4_0 a35 a28 f49 f42 lx54 fm85) (S_WR_divideRows_L79 (S_WR_divideRows_L47 N2 N3 t0_0 t0_1 t0_2 t0_3 t0_4 t0_5 t0_6 t1_0 t2_0 t3_0 t4_0 a35 a28 f49 f42 lx54 fm85) N2 N3 t0_0 t0_1 t0_2 t0_3 t0_4 t0_5 t0_6 t1_0 t2_0 t3_0 t4_0 a35 a28 f49 f42 lx54 lx70 lx71 fm108) (S_WR_divideRows_L88 (S_WR_divideRows_L47 N2 N3 t0_0 t0_1 t0_2 t0_3 t0_4 t0_5 t0_6 t1_0 t2_0 t3_0 t4_0 a35 a28 f49 f42 lx54 fm85) (S_WR_divideRows_L79 (S_WR_divideRows_L47 N2 N3 t0_0 t0_1 t0_2 t0_3 t0_4 t0_5 t0_6 t1_0 t2_0 t3_0 t4_0 a35 a28 f49 f42 lx54 fm85) N2 N3 t0_0 t0_1 t0_2 t0_3 t0_4 t0_5 t0_6 t1_0 t2_0 t3_0 t4_0 a35 a28 f49 f42 lx54 lx70 lx71 fm108) N2 N3 t0_0 t0_1 t0_2 t0_3 t0_4 t0_5 t0_6 t1_0 t2_0 t3_0 t4_0 a35 a28 f49 f42 lx54 lx70 lx71 lx92 lx93 lx94 fm128) N2 N3 t0_0 t0_1 t0_2 t0_3 t0_4 t0_5 t0_6 t1_0 t2_0 t3_0 t4_0 a35 a28 f49 f42 lx54 lx70 lx71 lx92 lx93 lx94 lx113 lx114 j147 f136 lx149 j164 fm179) N2 N3 t0_0 t0_1 t0_2 t0_3 t0_4 t0_5 t0_6 t1_0 t2_0 t3_0 t4_0 a35 a28 f49 f42 lx54 lx70 lx71 lx92 lx93 lx94 lx113 lx114 j147 f136 lx149 j164 lx166 lx167 j214 lx216 z) (fun z => [.long z]) 236 0 0 ?_ ?_
                ·
                  rintro lx241 H locs ls _ hZ9
                  replace hZ9 := hZ9.2.2
                  obtain ⟨V, hZ9⟩ := hZ9
                  obtain ⟨hl, hZ9⟩ := hZ9
                  obtain ⟨hR250, hS251⟩ := hZ9
                  replace hl : lv_has ls 13 [(7, .long j164), (6, .int lx92), (4, .int a35), (0, .ref (q 119)), (1, .ref (q k2)), (2, .ref (q k3))] := hl
                  refine lv_lstore (lv' := [(11, .long lx241), (7, .long j164), (6, .int lx92), (4, .int a35), (0, .ref (q 119)), (1, .ref (q k2)), (2, .ref (q k3))]) hx hb d_19_14_236 hl (by decide) rfl (fun ls hl => ?_)
                  refine lv_aload_n hx hb d_19_14_238 rfl (lv_at hl 4 rfl) ?_
                  refine q_get (ci := 13) (j := 10) (v := .ref (q 126)) C0 V i_WR rfl rfl hO170 (by decide) w_1934 rfl d_19_14_239 ?_
                  refine lv_aload_n hx hb d_19_14_242 rfl (lv_at hl 6 rfl) ?_
                  refine lv_iload hx hb d_19_14_243 (lv_at hl 3 rfl) ?_
                  refine lv_lload hx hb d_19_14_245 (lv_at hl 0 rfl) ?_
                  refine lv_iconst (v := 1) hx hb d_19_14_247 (by decide) ?_
                  have ob255 : True ∧ S_WR_join (264 : Int32) N3 a35 lx241 (1 : Int32) lx166 t4_0 := (by have h := hS251; rw [S_WR_divideRows_J236.eq_1] at h; with_reducible exact h.2.1)
                  refine q_gov V (q_runS (As := [.ref (q 126), .ref (q k3), .int a35, .long lx241, .int 1]) (rest := []) (d := 1) (mc := 0) (ms := 0) C0 V rfl LS_WR_75 (X_WR_join l D g q w169 126 264 (n_r126 g q) k3 N3 hB3 a35 lx241 1 (by have z := ne_k3_126; omega) hI lx166 hO171 t4_0 hO174 ⟨(by have y0 : (264 : Int32).toInt = 264 := rfl; have y1 : (1 : Int32).toInt = 1 := rfl; omega), (by have y0 : (264 : Int32).toInt = 264 := rfl; have y1 : (1 : Int32).toInt = 1 := rfl; omega)⟩ ob255 _) rfl hl.1 rfl (Nat.le_of_ble_eq_true rfl) ⟨by decide, by decide⟩ ⟨Nat.le_of_ble_eq_true rfl, Nat.le_of_ble_eq_true rfl⟩ d_19_14_248) (fun u256 H locs hp257 V => ?_)
                  obtain ⟨hI, hu261, f258, hA259, hE260⟩ := hp257
                  replace hA259 : u256[126]? = (some (q 126, .inl (g 0, (264 : Int32).toNatClampNeg, .inl f258)) : Option (Nat × va_E)) := hA259
                  have e262 : f258 = (F_WR_join (264 : Int32) N3 a35 lx241 (1 : Int32) lx166 t4_0) := hE260
                  replace hO170 := (hu261 _ (by decide)).trans hO170
                  replace hO172 := (hu261 _ (by decide)).trans hO172
                  replace hO173 := (hu261 _ (by simp only [List.mem_cons, List.not_mem_nil, or_false, not_or]; omega)).trans hO173
                  replace hO174 := (hu261 _ (by simp only [List.mem_cons, List.not_mem_nil, or_false, not_or]; omega)).trans hO174
                  replace hF := q_uc hF hu261 (by simp)
                  refine lv_aload_n hx hb d_19_14_251 rfl (lv_at hl 4 rfl) ?_
                  refine q_get (ci := 13) (j := 11) (v := .ref (q 127)) C0 V i_WR rfl rfl hO170 (by decide) w_1935 rfl d_19_14_252 ?_
                  refine lv_iload hx hb d_19_14_255 (lv_at hl 2 rfl) ?_
                  refine lv_aload_n hx hb d_19_14_257 rfl (lv_at hl 4 rfl) ?_
                  refine q_get (ci := 13) (j := 11) (v := .ref (q 127)) C0 V i_WR rfl rfl hO170 (by decide) w_1935 rfl d_19_14_258 ?_
                  refine lv_iload hx hb d_19_14_261 (lv_at hl 2 rfl) ?_
                  have ob263 : q_F (lx92.toInt ≤ 263) := (by have h := hS251; rw [S_WR_divideRows_J236.eq_1] at h; replace h := q_s2 h; exact h.2.1)
                  refine q_iald C0 V hO172 (q_ix (x := lx92.toInt) rfl (by first | with_reducible exact q_fe b111 | (have t1 : 0 ≤ lx92.toInt := b111; omega)) (by have t1 : 0 ≤ lx92.toInt := b111; have t2 : lx92.toInt ≤ 263 := ob263; have e9 : (((264 : Int32).toNatClampNeg : Nat) : Int) = 264 := (by decide); omega)) d_19_14_263 ?_
                  obtain ⟨a264, e265⟩ := q_nm (lx167 lx92.toNatClampNeg : Int32)
                  refine q_ti (v := a264) e265 ?_
                  refine lv_lload hx hb d_19_14_264 (lv_at hl 0 rfl) ?_
                  refine lv_l2i hx hb d_19_14_266 rfl ?_
                  obtain ⟨a266, e267⟩ := q_nm (lx241.toInt32 : Int32)
                  refine q_ti (v := a266) e267 ?_
                  refine lv_iadd hx hb d_19_14_267 ?_
                  obtain ⟨a268, e269⟩ := q_nm (a264 + a266 : Int32)
                  refine q_ti (v := a268) e269 ?_
                  refine q_iast C0 V hO172 (q_ix (x := lx92.toInt) rfl (by first | with_reducible exact q_fe b111 | (have t1 : 0 ≤ lx92.toInt := b111; omega)) (by have t1 : 0 ≤ lx92.toInt := b111; have t2 : lx92.toInt ≤ 263 := ob263; have e9 : (((264 : Int32).toNatClampNeg : Nat) : Int) = 264 := (by decide); omega)) d_19_14_268 (fun H locs w270 hu271 hO172 V => ?_)
                  replace hI := n_ai' hI (n_r127 g q).1 hu271 hO172 (q_updB (fun _ => s_bnd) s_bnd)
                  replace hO170 := (hu271 _ (by decide)).trans hO170
                  replace hA259 := (hu271 _ (by decide)).trans hA259
                  replace hO173 := (hu271 _ (by have z := ne_k2_127; omega)).trans hO173
                  replace hO174 := (hu271 _ (by have z := ne_k3_127; omega)).trans hO174
                  replace hF := q_us hF hu271 (by simp)
                  obtain ⟨f272, e273⟩ := q_nm (upd lx167 lx92.toNatClampNeg a268 : (Nat → Int32))
                  rw [e273] at hO172
                  refine lv_goto (tgt := 155) hx hb d_19_14_269 (by decide) ?_
                  exact ih168 ((fm179 : Nat), (f258 : (Nat → Int32)), (f272 : (Nat → Int32))) _ _ _ _ (Nat.lt_succ_self _) ⟨V, q_lw hl (q_lw1 1 rfl (q_lw1 2 rfl (q_lw1 3 rfl (q_lw1 4 rfl (q_lw1 5 rfl (q_lw1 6 rfl q_lw0)))))), hI, hF, hO170, hA259, hO172, hO173, hO174, (show F_WR_divideRows_L155 (F_WR_divideRows_L47 N2 N3 t0_0 t0_1 t0_2 t0_3 t0_4 t0_5 t0_6 t1_0 t2_0 t3_0 t4_0 a35 a28 f49 f42 lx54 fm85) (F_WR_divideRows_L79 (F_WR_divideRows_L47 N2 N3 t0_0 t0_1 t0_2 t0_3 t0_4 t0_5 t0_6 t1_0 t2_0 t3_0 t4_0 a35 a28 f49 f42 lx54 fm85) N2 N3 t0_0 t0_1 t0_2 t0_3 t0_4 t0_5 t0_6 t1_0 t2_0 t3_0 t4_0 a35 a28 f49 f42 lx54 lx70 lx71 fm108) (F_WR_divideRows_L88 (F_WR_divideRows_L47 N2 N3 t0_0 t0_1 t0_2 t0_3 t0_4 t0_5 t0_6 t1_0 t2_0 t3_0 t4_0 a35 a28 f49 f42 lx54 fm85) (F_WR_divideRows_L79 (F_WR_divideRows_L47 N2 N3 t0_0 t0_1 t0_2 t0_3 t0_4 t0_5 t0_6 t1_0 t2_0 t3_0 t4_0 a35 a28 f49 f42 lx54 fm85) N2 N3 t0_0 t0_1 t0_2 t0_3 t0_4 t0_5 t0_6 t1_0 t2_0 t3_0 t4_0 a35 a28 f49 f42 lx54 lx70 lx71 fm108) N2 N3 t0_0 t0_1 t0_2 t0_3 t0_4 t0_5 t0_6 t1_0 t2_0 t3_0 t4_0 a35 a28 f49 f42 lx54 lx70 lx71 lx92 lx93 lx94 fm128) N2 N3 t0_0 t0_1 t0_2 t0_3 t0_4 t0_5 t0_6 t1_0 t2_0 t3_0 t4_0 a35 a28 f49 f42 lx54 lx70 lx71 lx92 lx93 lx94 lx113 lx114 j147 f136 lx149 j164 fm179 f258 f272 = (F_WR_divideRows N2 N3 t0_0 t0_1 t0_2 t0_3 t0_4 t0_5 t0_6 t1_0 t2_0 t3_0 t4_0) from Eq.trans (by rw [← e273, ← e269, ← e267, ← e265, e262, F_WR_divideRows_J236.eq_1]) hR250), (show True ∧ S_WR_divideRows_L155 (S_WR_divideRows_L47 N2 N3 t0_0 t0_1 t0_2 t0_3 t0_4 t0_5 t0_6 t1_0 t2_0 t3_0 t4_0 a35 a28 f49 f42 lx54 fm85) (S_WR_divideRows_L79 (S_WR_divideRows_L47 N2 N3 t0_0 t0_1 t0_2 t0_3 t0_4 t0_5 t0_6 t1_0 t2_0 t3_0 t4_0 a35 a28 f49 f42 lx54 fm85) N2 N3 t0_0 t0_1 t0_2 t0_3 t0_4 t0_5 t0_6 t1_0 t2_0 t3_0 t4_0 a35 a28 f49 f42 lx54 lx70 lx71 fm108) (S_WR_divideRows_L88 (S_WR_divideRows_L47 N2 N3 t0_0 t0_1 t0_2 t0_3 t0_4 t0_5 t0_6 t1_0 t2_0 t3_0 t4_0 a35 a28 f49 f42 lx54 fm85) (S_WR_divideRows_L79 (S_WR_divideRows_L47 N2 N3 t0_0 t0_1 t0_2 t0_3 t0_4 t0_5 t0_6 t1_0 t2_0 t3_0 t4_0 a35 a28 f49 f42 lx54 fm85) N2 N3 t0_0 t0_1 t0_2 t0_3 t0_4 t0_5 t0_6 t1_0 t2_0 t3_0 t4_0 a35 a28 f49 f42 lx54 lx70 lx71 fm108) N2 N3 t0_0 t0_1 t0_2 t0_3 t0_4 t0_5 t0_6 t1_0 t2_0 t3_0 t4_0 a35 a28 f49 f42 lx54 lx70 lx71 lx92 lx93 lx94 fm128) N2 N3 t0_0 t0_1 t0_2 t0_3 t0_4 t0_5 t0_6 t1_0 t2_0 t3_0 t4_0 a35 a28 f49 f42 lx54 lx70 lx71 lx92 lx93 lx94 lx113 lx114 j147 f136 lx149 j164 fm179 f258 f272 from (by rw [← e273, ← e269, ← e267, ← e265, e262]; have h := hS251; rw [S_WR_divideRows_J236.eq_1] at h; replace h := q_s2 h; replace h := q_s2 h; with_reducible exact h))⟩
                ·
                  intro J247
                  refine lv_if_ge (tgt := 234) hx hb d_19_14_227 (by decide) (fun c274 => ?_) (fun c274 => ?_)
                  ·
                    have b275 : q_F (0 ≤ a238.toInt) := (q_leI c274)
                    refine lv_lload hx hb d_19_14_234 (lv_at hl 0 rfl) ?_
                    exact J247 ((j236 : Int64)) _ _ _ w169 ⟨(show q_F (1 ≤ j236.toInt) from (show 1 ≤ j236.toInt from by have t1 : -1 ≤ a238.toInt ∧ a238.toInt ≤ 1 ∧ ((a238.toInt = -1 ∧ j236.toInt < 1) ∨ (a238.toInt = 0 ∧ j236.toInt = 1) ∨ (a238.toInt = 1 ∧ 1 < j236.toInt)) := b240; have t2 : 0 ≤ a238.toInt := b275; omega)), (show q_F (j236.toInt ≤ j236.toInt) from (show j236.toInt ≤ j236.toInt from by omega)), V, q_lw hl (q_lw1 2 rfl (q_lw1 3 rfl (q_lw1 4 rfl (q_lw1 5 rfl (q_lw1 6 rfl (q_lw1 7 rfl q_lw0)))))), (show F_WR_divideRows_J236 (F_WR_divideRows_L47 N2 N3 t0_0 t0_1 t0_2 t0_3 t0_4 t0_5 t0_6 t1_0 t2_0 t3_0 t4_0 a35 a28 f49 f42 lx54 fm85) (F_WR_divideRows_L79 (F_WR_divideRows_L47 N2 N3 t0_0 t0_1 t0_2 t0_3 t0_4 t0_5 t0_6 t1_0 t2_0 t3_0 t4_0 a35 a28 f49 f42 lx54 fm85) N2 N3 t0_0 t0_1 t0_2 t0_3 t0_4 t0_5 t0_6 t1_0 t2_0 t3_0 t4_0 a35 a28 f49 f42 lx54 lx70 lx71 fm108) (F_WR_divideRows_L88 (F_WR_divideRows_L47 N2 N3 t0_0 t0_1 t0_2 t0_3 t0_4 t0_5 t0_6 t1_0 t2_0 t3_0 t4_0 a35 a28 f49 f42 lx54 fm85) (F_WR_divideRows_L79 (F_WR_divideRows_L47 N2 N3 t0_0 t0_1 t0_2 t0_3 t0_4 t0_5 t0_6 t1_0 t2_0 t3_0 t4_0 a35 a28 f49 f42 lx54 fm85) N2 N3 t0_0 t0_1 t0_2 t0_3 t0_4 t0_5 t0_6 t1_0 t2_0 t3_0 t4_0 a35 a28 f49 f42 lx54 lx70 lx71 fm108) N2 N3 t0_0 t0_1 t0_2 t0_3 t0_4 t0_5 t0_6 t1_0 t2_0 t3_0 t4_0 a35 a28 f49 f42 lx54 lx70 lx71 lx92 lx93 lx94 fm128) (F_WR_divideRows_L155 (F_WR_divideRows_L47 N2 N3 t0_0 t0_1 t0_2 t0_3 t0_4 t0_5 t0_6 t1_0 t2_0 t3_0 t4_0 a35 a28 f49 f42 lx54 fm85) (F_WR_divideRows_L79 (F_WR_divideRows_L47 N2 N3 t0_0 t0_1 t0_2 t0_3 t0_4 t0_5 t0_6 t1_0 t2_0 t3_0 t4_0 a35 a28 f49 f42 lx54 fm85) N2 N3 t0_0 t0_1 t0_2 t0_3 t0_4 t0_5 t0_6 t1_0 t2_0 t3_0 t4_0 a35 a28 f49 f42 lx54 lx70 lx71 fm108) (F_WR_divideRows_L88 (F_WR_divideRows_L47 N2 N3 t0_0 t0_1 t0_2 t0_3 t0_4 t0_5 t0_6 t1_0 t2_0 t3_0 t4_0 a35 a28 f49 f42 lx54 fm85) (F_WR_divideRows_L79 (F_WR_divideRows_L47 N2 N3 t0_0 t0_1 t0_2 t0_3 t0_4 t0_5 t0_6 t1_0 t2_0 t3_0 t4_0 a35 a28 f49 f42 lx54 fm85) N2 N3 t0_0 t0_1 t0_2 t0_3 t0_4 t0_5 t0_6 t1_0 t2_0 t3_0 t4_0 a35 a28 f49 f42 lx54 lx70 lx71 fm108) N2 N3 t0_0 t0_1 t0_2 t0_3 t0_4 t0_5 t0_6 t1_0 t2_0 t3_0 t4_0 a35 a28 f49 f42 lx54 lx70 lx71 lx92 lx93 lx94 fm128) N2 N3 t0_0 t0_1 t0_2 t0_3 t0_4 t0_5 t0_6 t1_0 t2_0 t3_0 t4_0 a35 a28 f49 f42 lx54 lx70 lx71 lx92 lx93 lx94 lx113 lx114 j147 f136 lx149 j164 fm179) N2 N3 t0_0 t0_1 t0_2 t0_3 t0_4 t0_5 t0_6 t1_0 t2_0 t3_0 t4_0 a35 a28 f49 f42 lx54 lx70 lx71 lx92 lx93 lx94 lx113 lx114 j147 f136 lx149 j164 lx166 lx167 j214 lx216 j236 = (F_WR_divideRows N2 N3 t0_0 t0_1 t0_2 t0_3 t0_4 t0_5 t0_6 t1_0 t2_0 t3_0 t4_0) from Eq.trans (by have c274x := c274; rw [← e239, ← e237, ← e234, ← e232, ← e229] at c274x; rw [← e237, ← e234, ← e232, ← e229, F_WR_divideRows_J210.eq_1, if_pos c274x]) hR223), (show True ∧ S_WR_divideRows_J236 (S_WR_divideRows_L47 N2 N3 t0_0 t0_1 t0_2 t0_3 t0_4 t0_5 t0_6 t1_0 t2_0 t3_0 t4_0 a35 a28 f49 f42 lx54 fm85) (S_WR_divideRows_L79 (S_WR_divideRows_L47 N2 N3 t0_0 t0_1 t0_2 t0_3 t0_4 t0_5 t0_6 t1_0 t2_0 t3_0 t4_0 a35 a28 f49 f42 lx54 fm85) N2 N3 t0_0 t0_1 t0_2 t0_3 t0_4 t0_5 t0_6 t1_0 t2_0 t3_0 t4_0 a35 a28 f49 f42 lx54 lx70 lx71 fm108) (S_WR_divideRows_L88 (S_WR_divideRows_L47 N2 N3 t0_0 t0_1 t0_2 t0_3 t0_4 t0_5 t0_6 t1_0 t2_0 t3_0 t4_0 a35 a28 f49 f42 lx54 fm85) (S_WR_divideRows_L79 (S_WR_divideRows_L47 N2 N3 t0_0 t0_1 t0_2 t0_3 t0_4 t0_5 t0_6 t1_0 t2_0 t3_0 t4_0 a35 a28 f49 f42 lx54 fm85) N2 N3 t0_0 t0_1 t0_2 t0_3 t0_4 t0_5 t0_6 t1_0 t2_0 t3_0 t4_0 a35 a28 f49 f42 lx54 lx70 lx71 fm108) N2 N3 t0_0 t0_1 t0_2 t0_3 t0_4 t0_5 t0_6 t1_0 t2_0 t3_0 t4_0 a35 a28 f49 f42 lx54 lx70 lx71 lx92 lx93 lx94 fm128) (S_WR_divideRows_L155 (S_WR_divideRows_L47 N2 N3 t0_0 t0_1 t0_2 t0_3 t0_4 t0_5 t0_6 t1_0 t2_0 t3_0 t4_0 a35 a28 f49 f42 lx54 fm85) (S_WR_divideRows_L79 (S_WR_divideRows_L47 N2 N3 t0_0 t0_1 t0_2 t0_3 t0_4 t0_5 t0_6 t1_0 t2_0 t3_0 t4_0 a35 a28 f49 f42 lx54 fm85) N2 N3 t0_0 t0_1 t0_2 t0_3 t0_4 t0_5 t0_6 t1_0 t2_0 t3_0 t4_0 a35 a28 f49 f42 lx54 lx70 lx71 fm108) (S_WR_divideRows_L88 (S_WR_divideRows_L47 N2 N3 t0_0 t0_1 t0_2 t0_3 t0_4 t0_5 t0_6 t1_0 t2_0 t3_0 t4_0 a35 a28 f49 f42 lx54 fm85) (S_WR_divideRows_L79 (S_WR_divideRows_L47 N2 N3 t0_0 t0_1 t0_2 t0_3 t0_4 t0_5 t0_6 t1_0 t2_0 t3_0 t4_0 a35 a28 f49 f42 lx54 fm85) N2 N3 t0_0 t0_1 t0_2 t0_3 t0_4 t0_5 t0_6 t1_0 t2_0 t3_0 t4_0 a35 a28 f49 f42 lx54 lx70 lx71 fm108) N2 N3 t0_0 t0_1 t0_2 t0_3 t0_4 t0_5 t0_6 t1_0 t2_0 t3_0 t4_0 a35 a28 f49 f42 lx54 lx70 lx71 lx92 lx93 lx94 fm128) N2 N3 t0_0 t0_1 t0_2 t0_3 t0_4 t0_5 t0_6 t1_0 t2_0 t3_0 t4_0 a35 a28 f49 f42 lx54 lx70 lx71 lx92 lx93 lx94 lx113 lx114 j147 f136 lx149 j164 fm179) N2 N3 t0_0 t0_1 t0_2 t0_3 t0_4 t0_5 t0_6 t1_0 t2_0 t3_0 t4_0 a35 a28 f49 f42 lx54 lx70 lx71 lx92 lx93 lx94 lx113 lx114 j147 f136 lx149 j164 lx166 lx167 j214 lx216 j236 from (by rw [← e237, ← e234, ← e232, ← e229]; have h := hS224; rw [S_WR_divideRows_J210.eq_1] at h; replace h := q_s2 h; have c274x := c274; rw [← e239, ← e237, ← e234, ← e232, ← e229] at c274x; rw [if_pos c274x] at h; with_reducible exact h))⟩
                  ·
                    have b276 : q_F (a238.toInt < 0) := (q_nleI c274)
                    refine lv_lconst (v := 1) hx hb d_19_14_230 (by decide) ?_
                    refine lv_goto (tgt := 236) hx hb d_19_14_231 (by decide) ?_
                    exact J247 ((1 : Int64)) _ _ _ w169 ⟨(show q_F (1 ≤ 1) from (show 1 ≤ 1 from by omega)), (show q_F (j236.toInt ≤ 1) from (show j236.toInt ≤ 1 from by have t1 : -1 ≤ a238.toInt ∧ a238.toInt ≤ 1 ∧ ((a238.toInt = -1 ∧ j236.toInt < 1) ∨ (a238.toInt = 0 ∧ j236.toInt = 1) ∨ (a238.toInt = 1 ∧ 1 < j236.toInt)) := b240; have t2 : a238.toInt < 0 := b276; omega)), V, q_lw hl (q_lw1 2 rfl (q_lw1 3 rfl (q_lw1 4 rfl (q_lw1 5 rfl (q_lw1 6 rfl (q_lw1 7 rfl q_lw0)))))), (show F_WR_divideRows_J236 (F_WR_divideRows_L47 N2 N3 t0_0 t0_1 t0_2 t0_3 t0_4 t0_5 t0_6 t1_0 t2_0 t3_0 t4_0 a35 a28 f49 f42 lx54 fm85) (F_WR_divideRows_L79 (F_WR_divideRows_L47 N2 N3 t0_0 t0_1 t0_2 t0_3 t0_4 t0_5 t0_6 t1_0 t2_0 t3_0 t4_0 a35 a28 f49 f42 lx54 fm85) N2 N3 t0_0 t0_1 t0_2 t0_3 t0_4 t0_5 t0_6 t1_0 t2_0 t3_0 t4_0 a35 a28 f49 f42 lx54 lx70 lx71 fm108) (F_WR_divideRows_L88 (F_WR_divideRows_L47 N2 N3 t0_0 t0_1 t0_2 t0_3 t0_4 t0_5 t0_6 t1_0 t2_0 t3_0 t4_0 a35 a28 f49 f42 lx54 fm85) (F_WR_divideRows_L79 (F_WR_divideRows_L47 N2 N3 t0_0 t0_1 t0_2 t0_3 t0_4 t0_5 t0_6 t1_0 t2_0 t3_0 t4_0 a35 a28 f49 f42 lx54 fm85) N2 N3 t0_0 t0_1 t0_2 t0_3 t0_4 t0_5 t0_6 t1_0 t2_0 t3_0 t4_0 a35 a28 f49 f42 lx54 lx70 lx71 fm108) N2 N3 t0_0 t0_1 t0_2 t0_3 t0_4 t0_5 t0_6 t1_0 t2_0 t3_0 t4_0 a35 a28 f49 f42 lx54 lx70 lx71 lx92 lx93 lx94 fm128) (F_WR_divideRows_L155 (F_WR_divideRows_L47 N2 N3 t0_0 t0_1 t0_2 t0_3 t0_4 t0_5 t0_6 t1_0 t2_0 t3_0 t4_0 a35 a28 f49 f42 lx54 fm85) (F_WR_divideRows_L79 (F_WR_divideRows_L47 N2 N3 t0_0 t0_1 t0_2 t0_3 t0_4 t0_5 t0_6 t1_0 t2_0 t3_0 t4_0 a35 a28 f49 f42 lx54 fm85) N2 N3 t0_0 t0_1 t0_2 t0_3 t0_4 t0_5 t0_6 t1_0 t2_0 t3_0 t4_0 a35 a28 f49 f42 lx54 lx70 lx71 fm108) (F_WR_divideRows_L88 (F_WR_divideRows_L47 N2 N3 t0_0 t0_1 t0_2 t0_3 t0_4 t0_5 t0_6 t1_0 t2_0 t3_0 t4_0 a35 a28 f49 f42 lx54 fm85) (F_WR_divideRows_L79 (F_WR_divideRows_L47 N2 N3 t0_0 t0_1 t0_2 t0_3 t0_4 t0_5 t0_6 t1_0 t2_0 t3_0 t4_0 a35 a28 f49 f42 lx54 fm85) N2 N3 t0_0 t0_1 t0_2 t0_3 t0_4 t0_5 t0_6 t1_0 t2_0 t3_0 t4_0 a35 a28 f49 f42 lx54 lx70 lx71 fm108) N2 N3 t0_0 t0_1 t0_2 t0_3 t0_4 t0_5 t0_6 t1_0 t2_0 t3_0 t4_0 a35 a28 f49 f42 lx54 lx70 lx71 lx92 lx93 lx94 fm128) N2 N3 t0_0 t0_1 t0_2 t0_3 t0_4 t0_5 t0_6 t1_0 t2_0 t3_0 t4_0 a35 a28 f49 f42 lx54 lx70 lx71 lx92 lx93 lx94 lx113 lx114 j147 f136 lx149 j164 fm179) N2 N3 t0_0 t0_1 t0_2 t0_3 t0_4 t0_5 t0_6 t1_0 t2_0 t3_0 t4_0 a35 a28 f49 f42 lx54 lx70 lx71 lx92 lx93 lx94 lx113 lx114 j147 f136 lx149 j164 lx166 lx167 j214 lx216 1 = (F_WR_divideRows N2 N3 t0_0 t0_1 t0_2 t0_3 t0_4 t0_5 t0_6 t1_0 t2_0 t3_0 t4_0) from Eq.trans (by have c274x := c274; rw [← e239, ← e237, ← e234, ← e232, ← e229] at c274x; rw [F_WR_divideRows_J210.eq_1, if_neg c274x]) hR223), (show True ∧ S_WR_divideRows_J236 (S_WR_divideRows_L47 N2 N3 t0_0 t0_1 t0_2 t0_3 t0_4 t0_5 t0_6 t1_0 t2_0 t3_0 t4_0 a35 a28 f49 f42 lx54 fm85) (S_WR_divideRows_L79 (S_WR_divideRows_L47 N2 N3 t0_0 t0_1 t0_2 t0_3 t0_4 t0_5 t0_6 t1_0 t2_0 t3_0 t4_0 a35 a28 f49 f42 lx54 fm85) N2 N3 t0_0 t0_1 t0_2 t0_3 t0_4 t0_5 t0_6 t1_0 t2_0 t3_0 t4_0 a35 a28 f49 f42 lx54 lx70 lx71 fm108) (S_WR_divideRows_L88 (S_WR_divideRows_L47 N2 N3 t0_0 t0_1 t0_2 t0_3 t0_4 t0_5 t0_6 t1_0 t2_0 t3_0 t4_0 a35 a28 f49 f42 lx54 fm85) (S_WR_divideRows_L79 (S_WR_divideRows_L47 N2 N3 t0_0 t0_1 t0_2 t0_3 t0_4 t0_5 t0_6 t1_0 t2_0 t3_0 t4_0 a35 a28 f49 f42 lx54 fm85) N2 N3 t0_0 t0_1 t0_2 t0_3 t0_4 t0_5 t0_6 t1_0 t2_0 t3_0 t4_0 a35 a28 f49 f42 lx54 lx70 lx71 fm108) N2 N3 t0_0 t0_1 t0_2 t0_3 t0_4 t0_5 t0_6 t1_0 t2_0 t3_0 t4_0 a35 a28 f49 f42 lx54 lx70 lx71 lx92 lx93 lx94 fm128) (S_WR_divideRows_L155 (S_WR_divideRows_L47 N2 N3 t0_0 t0_1 t0_2 t0_3 t0_4 t0_5 t0_6 t1_0 t2_0 t3_0 t4_0 a35 a28 f49 f42 lx54 fm85) (S_WR_divideRows_L79 (S_WR_divideRows_L47 N2 N3 t0_0 t0_1 t0_2 t0_3 t0_4 t0_5 t0_6 t1_0 t2_0 t3_0 t4_0 a35 a28 f49 f42 lx54 fm85) N2 N3 t0_0 t0_1 t0_2 t0_3 t0_4 t0_5 t0_6 t1_0 t2_0 t3_0 t4_0 a35 a28 f49 f42 lx54 lx70 lx71 fm108) (S_WR_divideRows_L88 (S_WR_divideRows_L47 N2 N3 t0_0 t0_1 t0_2 t0_3 t0_4 t0_5 t0_6 t1_0 t2_0 t3_0 t4_0 a35 a28 f49 f42 lx54 fm85) (S_WR_divideRows_L79 (S_WR_divideRows_L47 N2 N3 t0_0 t0_1 t0_2 t0_3 t0_4 t0_5 t0_6 t1_0 t2_0 t3_0 t4_0 a35 a28 f49 f42 lx54 fm85) N2 N3 t0_0 t0_1 t0_2 t0_3 t0_4 t0_5 t0_6 t1_0 t2_0 t3_0 t4_0 a35 a28 f49 f42 lx54 lx70 lx71 fm108) N2 N3 t0_0 t0_1 t0_2 t0_3 t0_4 t0_5 t0_6 t1_0 t2_0 t3_0 t4_0 a35 a28 f49 f42 lx54 lx70 lx71 lx92 lx93 lx94 fm128) N2 N3 t0_0 t0_1 t0_2 t0_3 t0_4 t0_5 t0_6 t1_0 t2_0 t3_0 t4_0 a35 a28 f49 f42 lx54 lx70 lx71 lx92 lx93 lx94 lx113 lx114 j147 f136 lx149 j164 fm179) N2 N3 t0_0 t0_1 t0_2 t0_3 t0_4 t0_5 t0_6 t1_0 t2_0 t3_0 t4_0 a35 a28 f49 f42 lx54 lx70 lx71 lx92 lx93 lx94 lx113 lx114 j147 f136 lx149 j164 lx166 lx167 j214 lx216 1 from (by have h := hS224; rw [S_WR_divideRows_J210.eq_1] at h; replace h := q_s2 h; have c274x := c274; rw [← e239, ← e237, ← e234, ← e232, ← e229] at c274x; rw [if_neg c274x] at h; with_reducible exact h))⟩
              ·
                intro J222
                refine lv_icmp_le (tgt := 209) hx hb d_19_14_194 (by decide) (fun c277 => ?_) (fun c277 => ?_)
                ·
                  refine lv_iconst (v := 0) hx hb d_19_14_209 (by decide) ?_
                  exact J222 ((0 : Int32)) _ _ _ w169 ⟨V, q_lw hl (q_lw1 0 rfl (q_lw1 1 rfl (q_lw1 2 rfl (q_lw1 3 rfl (q_lw1 4 rfl (q_lw1 5 rfl q_lw0)))))), (show F_WR_divideRows_J210 (F_WR_divideRows_L47 N2 N3 t0_0 t0_1 t0_2 t0_3 t0_4 t0_5 t0_6 t1_0 t2_0 t3_0 t4_0 a35 a28 f49 f42 lx54 fm85) (F_WR_divideRows_L79 (F_WR_divideRows_L47 N2 N3 t0_0 t0_1 t0_2 t0_3 t0_4 t0_5 t0_6 t1_0 t2_0 t3_0 t4_0 a35 a28 f49 f42 lx54 fm85) N2 N3 t0_0 t0_1 t0_2 t0_3 t0_4 t0_5 t0_6 t1_0 t2_0 t3_0 t4_0 a35 a28 f49 f42 lx54 lx70 lx71 fm108) (F_WR_divideRows_L88 (F_WR_divideRows_L47 N2 N3 t0_0 t0_1 t0_2 t0_3 t0_4 t0_5 t0_6 t1_0 t2_0 t3_0 t4_0 a35 a28 f49 f42 lx54 fm85) (F_WR_divideRows_L79 (F_WR_divideRows_L47 N2 N3 t0_0 t0_1 t0_2 t0_3 t0_4 t0_5 t0_6 t1_0 t2_0 t3_0 t4_0 a35 a28 f49 f42 lx54 fm85) N2 N3 t0_0 t0_1 t0_2 t0_3 t0_4 t0_5 t0_6 t1_0 t2_0 t3_0 t4_0 a35 a28 f49 f42 lx54 lx70 lx71 fm108) N2 N3 t0_0 t0_1 t0_2 t0_3 t0_4 t0_5 t0_6 t1_0 t2_0 t3_0 t4_0 a35 a28 f49 f42 lx54 lx70 lx71 lx92 lx93 lx94 fm128) (F_WR_divideRows_L155 (F_WR_divideRows_L47 N2 N3 t0_0 t0_1 t0_2 t0_3 t0_4 t0_5 t0_6 t1_0 t2_0 t3_0 t4_0 a35 a28 f49 f42 lx54 fm85) (F_WR_divideRows_L79 (F_WR_divideRows_L47 N2 N3 t0_0 t0_1 t0_2 t0_3 t0_4 t0_5 t0_6 t1_0 t2_0 t3_0 t4_0 a35 a28 f49 f42 lx54 fm85) N2 N3 t0_0 t0_1 t0_2 t0_3 t0_4 t0_5 t0_6 t1_0 t2_0 t3_0 t4_0 a35 a28 f49 f42 lx54 lx70 lx71 fm108) (F_WR_divideRows_L88 (F_WR_divideRows_L47 N2 N3 t0_0 t0_1 t0_2 t0_3 t0_4 t0_5 t0_6 t1_0 t2_0 t3_0 t4_0 a35 a28 f49 f42 lx54 fm85) (F_WR_divideRows_L79 (F_WR_divideRows_L47 N2 N3 t0_0 t0_1 t0_2 t0_3 t0_4 t0_5 t0_6 t1_0 t2_0 t3_0 t4_0 a35 a28 f49 f42 lx54 fm85) N2 N3 t0_0 t0_1 t0_2 t0_3 t0_4 t0_5 t0_6 t1_0 t2_0 t3_0 t4_0 a35 a28 f49 f42 lx54 lx70 lx71 fm108) N2 N3 t0_0 t0_1 t0_2 t0_3 t0_4 t0_5 t0_6 t1_0 t2_0 t3_0 t4_0 a35 a28 f49 f42 lx54 lx70 lx71 lx92 lx93 lx94 fm128) N2 N3 t0_0 t0_1 t0_2 t0_3 t0_4 t0_5 t0_6 t1_0 t2_0 t3_0 t4_0 a35 a28 f49 f42 lx54 lx70 lx71 lx92 lx93 lx94 lx113 lx114 j147 f136 lx149 j164 fm179) N2 N3 t0_0 t0_1 t0_2 t0_3 t0_4 t0_5 t0_6 t1_0 t2_0 t3_0 t4_0 a35 a28 f49 f42 lx54 lx70 lx71 lx92 lx93 lx94 lx113 lx114 j147 f136 lx149 j164 lx166 lx167 j214 0 = (F_WR_divideRows N2 N3 t0_0 t0_1 t0_2 t0_3 t0_4 t0_5 t0_6 t1_0 t2_0 t3_0 t4_0) from Eq.trans (by have c190x := c190; rw [e189] at c190x; rw [← e215, ← e213, ← e210, ← e208, ← e205, ← e203, ← e200, ← e198, F_WR_divideRows_L155.eq_2, if_neg c190x, if_pos c277]) hR175), (show True ∧ S_WR_divideRows_J210 (S_WR_divideRows_L47 N2 N3 t0_0 t0_1 t0_2 t0_3 t0_4 t0_5 t0_6 t1_0 t2_0 t3_0 t4_0 a35 a28 f49 f42 lx54 fm85) (S_WR_divideRows_L79 (S_WR_divideRows_L47 N2 N3 t0_0 t0_1 t0_2 t0_3 t0_4 t0_5 t0_6 t1_0 t2_0 t3_0 t4_0 a35 a28 f49 f42 lx54 fm85) N2 N3 t0_0 t0_1 t0_2 t0_3 t0_4 t0_5 t0_6 t1_0 t2_0 t3_0 t4_0 a35 a28 f49 f42 lx54 lx70 lx71 fm108) (S_WR_divideRows_L88 (S_WR_divideRows_L47 N2 N3 t0_0 t0_1 t0_2 t0_3 t0_4 t0_5 t0_6 t1_0 t2_0 t3_0 t4_0 a35 a28 f49 f42 lx54 fm85) (S_WR_divideRows_L79 (S_WR_divideRows_L47 N2 N3 t0_0 t0_1 t0_2 t0_3 t0_4 t0_5 t0_6 t1_0 t2_0 t3_0 t4_0 a35 a28 f49 f42 lx54 fm85) N2 N3 t0_0 t0_1 t0_2 t0_3 t0_4 t0_5 t0_6 t1_0 t2_0 t3_0 t4_0 a35 a28 f49 f42 lx54 lx70 lx71 fm108) N2 N3 t0_0 t0_1 t0_2 t0_3 t0_4 t0_5 t0_6 t1_0 t2_0 t3_0 t4_0 a35 a28 f49 f42 lx54 lx70 lx71 lx92 lx93 lx94 fm128) (S_WR_divideRows_L155 (S_WR_divideRows_L47 N2 N3 t0_0 t0_1 t0_2 t0_3 t0_4 t0_5 t0_6 t1_0 t2_0 t3_0 t4_0 a35 a28 f49 f42 lx54 fm85) (S_WR_divideRows_L79 (S_WR_divideRows_L47 N2 N3 t0_0 t0_1 t0_2 t0_3 t0_4 t0_5 t0_6 t1_0 t2_0 t3_0 t4_0 a35 a28 f49 f42 lx54 fm85) N2 N3 t0_0 t0_1 t0_2 t0_3 t0_4 t0_5 t0_6 t1_0 t2_0 t3_0 t4_0 a35 a28 f49 f42 lx54 lx70 lx71 fm108) (S_WR_divideRows_L88 (S_WR_divideRows_L47 N2 N3 t0_0 t0_1 t0_2 t0_3 t0_4 t0_5 t0_6 t1_0 t2_0 t3_0 t4_0 a35 a28 f49 f42 lx54 fm85) (S_WR_divideRows_L79 (S_WR_divideRows_L47 N2 N3 t0_0 t0_1 t0_2 t0_3 t0_4 t0_5 t0_6 t1_0 t2_0 t3_0 t4_0 a35 a28 f49 f42 lx54 fm85) N2 N3 t0_0 t0_1 t0_2 t0_3 t0_4 t0_5 t0_6 t1_0 t2_0 t3_0 t4_0 a35 a28 f49 f42 lx54 lx70 lx71 fm108) N2 N3 t0_0 t0_1 t0_2 t0_3 t0_4 t0_5 t0_6 t1_0 t2_0 t3_0 t4_0 a35 a28 f49 f42 lx54 lx70 lx71 lx92 lx93 lx94 fm128) N2 N3 t0_0 t0_1 t0_2 t0_3 t0_4 t0_5 t0_6 t1_0 t2_0 t3_0 t4_0 a35 a28 f49 f42 lx54 lx70 lx71 lx92 lx93 lx94 lx113 lx114 j147 f136 lx149 j164 fm179) N2 N3 t0_0 t0_1 t0_2 t0_3 t0_4 t0_5 t0_6 t1_0 t2_0 t3_0 t4_0 a35 a28 f49 f42 lx54 lx70 lx71 lx92 lx93 lx94 lx113 lx114 j147 f136 lx149 j164 lx166 lx167 j214 0 from (by rw [← e215, ← e213, ← e210, ← e208, ← e205, ← e203, ← e200, ← e198]; have h := hS176; rw [S_WR_divideRows_L155.eq_2] at h; replace h := q_s2 h; have c190x := c190; rw [e189] at c190x; rw [if_neg c190x] at h; replace h := q_s2 h; rw [if_pos c277] at h; with_reducible exact h))⟩
                ·
                  have b279 : q_F (1 < a35.toInt) := (q_nleI c277)
                  refine lv_aload_n hx hb d_19_14_197 rfl (lv_at hl 3 rfl) ?_
                  refine q_get (ci := 13) (j := 10) (v := .ref (q 126)) C0 V i_WR rfl rfl hO170 (by decide) w_1934 rfl d_19_14_198 ?_
                  refine lv_iload hx hb d_19_14_201 (lv_at hl 2 rfl) ?_
                  refine lv_iconst (v := 2) hx hb d_19_14_203 (by decide) ?_
                  refine lv_isub hx hb d_19_14_204 ?_
                  obtain ⟨a280, e281⟩ := q_nm (a35 - 2 : Int32)
                  refine q_ti (v := a280) e281 ?_
                  have b282 : q_F (a280.toInt = a35.toInt - 2) := (by rw [← e281]; show (a35 - 2 : Int32).toInt = a35.toInt - 2; exact q_subI (x := a35.toInt) (y := 2) rfl (by decide) (by have t1 : 0 ≤ a35.toInt := b36; have t2 : a35.toInt ≤ 263 := ob196; omega) (by have t1 : 0 ≤ a35.toInt := b36; have t2 : a35.toInt ≤ 263 := ob196; omega))
                  refine q_iald C0 V hO171 (q_ix (x := a280.toInt) rfl (by have t1 : 1 < a35.toInt := b279; have t2 : a280.toInt = a35.toInt - 2 := b282; omega) (by have t1 : 1 < a35.toInt := b279; have t2 : a280.toInt = a35.toInt - 2 := b282; have t3 : a35.toInt ≤ 263 := ob196; have e9 : (((264 : Int32).toNatClampNeg : Nat) : Int) = 264 := (by decide); omega)) d_19_14_205 ?_
                  obtain ⟨a283, e284⟩ := q_nm (lx166 a280.toNatClampNeg : Int32)
                  refine q_ti (v := a283) e284 ?_
                  refine lv_goto (tgt := 210) hx hb d_19_14_206 (by decide) ?_
                  exact J222 ((a283 : Int32)) _ _ _ w169 ⟨V, q_lw hl (q_lw1 0 rfl (q_lw1 1 rfl (q_lw1 2 rfl (q_lw1 3 rfl (q_lw1 4 rfl (q_lw1 5 rfl q_lw0)))))), (show F_WR_divideRows_J210 (F_WR_divideRows_L47 N2 N3 t0_0 t0_1 t0_2 t0_3 t0_4 t0_5 t0_6 t1_0 t2_0 t3_0 t4_0 a35 a28 f49 f42 lx54 fm85) (F_WR_divideRows_L79 (F_WR_divideRows_L47 N2 N3 t0_0 t0_1 t0_2 t0_3 t0_4 t0_5 t0_6 t1_0 t2_0 t3_0 t4_0 a35 a28 f49 f42 lx54 fm85) N2 N3 t0_0 t0_1 t0_2 t0_3 t0_4 t0_5 t0_6 t1_0 t2_0 t3_0 t4_0 a35 a28 f49 f42 lx54 lx70 lx71 fm108) (F_WR_divideRows_L88 (F_WR_divideRows_L47 N2 N3 t0_0 t0_1 t0_2 t0_3 t0_4 t0_5 t0_6 t1_0 t2_0 t3_0 t4_0 a35 a28 f49 f42 lx54 fm85) (F_WR_divideRows_L79 (F_WR_divideRows_L47 N2 N3 t0_0 t0_1 t0_2 t0_3 t0_4 t0_5 t0_6 t1_0 t2_0 t3_0 t4_0 a35 a28 f49 f42 lx54 fm85) N2 N3 t0_0 t0_1 t0_2 t0_3 t0_4 t0_5 t0_6 t1_0 t2_0 t3_0 t4_0 a35 a28 f49 f42 lx54 lx70 lx71 fm108) N2 N3 t0_0 t0_1 t0_2 t0_3 t0_4 t0_5 t0_6 t1_0 t2_0 t3_0 t4_0 a35 a28 f49 f42 lx54 lx70 lx71 lx92 lx93 lx94 fm128) (F_WR_divideRows_L155 (F_WR_divideRows_L47 N2 N3 t0_0 t0_1 t0_2 t0_3 t0_4 t0_5 t0_6 t1_0 t2_0 t3_0 t4_0 a35 a28 f49 f42 lx54 fm85) (F_WR_divideRows_L79 (F_WR_divideRows_L47 N2 N3 t0_0 t0_1 t0_2 t0_3 t0_4 t0_5 t0_6 t1_0 t2_0 t3_0 t4_0 a35 a28 f49 f42 lx54 fm85) N2 N3 t0_0 t0_1 t0_2 t0_3 t0_4 t0_5 t0_6 t1_0 t2_0 t3_0 t4_0 a35 a28 f49 f42 lx54 lx70 lx71 fm108) (F_WR_divideRows_L88 (F_WR_divideRows_L47 N2 N3 t0_0 t0_1 t0_2 t0_3 t0_4 t0_5 t0_6 t1_0 t2_0 t3_0 t4_0 a35 a28 f49 f42 lx54 fm85) (F_WR_divideRows_L79 (F_WR_divideRows_L47 N2 N3 t0_0 t0_1 t0_2 t0_3 t0_4 t0_5 t0_6 t1_0 t2_0 t3_0 t4_0 a35 a28 f49 f42 lx54 fm85) N2 N3 t0_0 t0_1 t0_2 t0_3 t0_4 t0_5 t0_6 t1_0 t2_0 t3_0 t4_0 a35 a28 f49 f42 lx54 lx70 lx71 fm108) N2 N3 t0_0 t0_1 t0_2 t0_3 t0_4 t0_5 t0_6 t1_0 t2_0 t3_0 t4_0 a35 a28 f49 f42 lx54 lx70 lx71 lx92 lx93 lx94 fm128) N2 N3 t0_0 t0_1 t0_2 t0_3 t0_4 t0_5 t0_6 t1_0 t2_0 t3_0 t4_0 a35 a28 f49 f42 lx54 lx70 lx71 lx92 lx93 lx94 lx113 lx114 j147 f136 lx149 j164 fm179) N2 N3 t0_0 t0_1 t0_2 t0_3 t0_4 t0_5 t0_6 t1_0 t2_0 t3_0 t4_0 a35 a28 f49 f42 lx54 lx70 lx71 lx92 lx93 lx94 lx113 lx114 j147 f136 lx149 j164 lx166 lx167 j214 a283 = (F_WR_divideRows N2 N3 t0_0 t0_1 t0_2 t0_3 t0_4 t0_5 t0_6 t1_0 t2_0 t3_0 t4_0) from Eq.trans (by have c190x := c190; rw [e189] at c190x; rw [← e284, ← e281, ← e215, ← e213, ← e210, ← e208, ← e205, ← e203, ← e200, ← e198, F_WR_divideRows_L155.eq_2, if_neg c190x, if_neg c277]) hR175), (show True ∧ S_WR_divideRows_J210 (S_WR_divideRows_L47 N2 N3 t0_0 t0_1 t0_2 t0_3 t0_4 t0_5 t0_6 t1_0 t2_0 t3_0 t4_0 a35 a28 f49 f42 lx54 fm85) (S_WR_divideRows_L79 (S_WR_divideRows_L47 N2 N3 t0_0 t0_1 t0_2 t0_3 t0_4 t0_5 t0_6 t1_0 t2_0 t3_0 t4_0 a35 a28 f49 f42 lx54 fm85) N2 N3 t0_0 t0_1 t0_2 t0_3 t0_4 t0_5 t0_6 t1_0 t2_0 t3_0 t4_0 a35 a28 f49 f42 lx54 lx70 lx71 fm108) (S_WR_divideRows_L88 (S_WR_divideRows_L47 N2 N3 t0_0 t0_1 t0_2 t0_3 t0_4 t0_5 t0_6 t1_0 t2_0 t3_0 t4_0 a35 a28 f49 f42 lx54 fm85) (S_WR_divideRows_L79 (S_WR_divideRows_L47 N2 N3 t0_0 t0_1 t0_2 t0_3 t0_4 t0_5 t0_6 t1_0 t2_0 t3_0 t4_0 a35 a28 f49 f42 lx54 fm85) N2 N3 t0_0 t0_1 t0_2 t0_3 t0_4 t0_5 t0_6 t1_0 t2_0 t3_0 t4_0 a35 a28 f49 f42 lx54 lx70 lx71 fm108) N2 N3 t0_0 t0_1 t0_2 t0_3 t0_4 t0_5 t0_6 t1_0 t2_0 t3_0 t4_0 a35 a28 f49 f42 lx54 lx70 lx71 lx92 lx93 lx94 fm128) (S_WR_divideRows_L155 (S_WR_divideRows_L47 N2 N3 t0_0 t0_1 t0_2 t0_3 t0_4 t0_5 t0_6 t1_0 t2_0 t3_0 t4_0 a35 a28 f49 f42 lx54 fm85) (S_WR_divideRows_L79 (S_WR_divideRows_L47 N2 N3 t0_0 t0_1 t0_2 t0_3 t0_4 t0_5 t0_6 t1_0 t2_0 t3_0 t4_0 a35 a28 f49 f42 lx54 fm85) N2 N3 t0_0 t0_1 t0_2 t0_3 t0_4 t0_5 t0_6 t1_0 t2_0 t3_0 t4_0 a35 a28 f49 f42 lx54 lx70 lx71 fm108) (S_WR_divideRows_L88 (S_WR_divideRows_L47 N2 N3 t0_0 t0_1 t0_2 t0_3 t0_4 t0_5 t0_6 t1_0 t2_0 t3_0 t4_0 a35 a28 f49 f42 lx54 fm85) (S_WR_divideRows_L79 (S_WR_divideRows_L47 N2 N3 t0_0 t0_1 t0_2 t0_3 t0_4 t0_5 t0_6 t1_0 t2_0 t3_0 t4_0 a35 a28 f49 f42 lx54 fm85) N2 N3 t0_0 t0_1 t0_2 t0_3 t0_4 t0_5 t0_6 t1_0 t2_0 t3_0 t4_0 a35 a28 f49 f42 lx54 lx70 lx71 fm108) N2 N3 t0_0 t0_1 t0_2 t0_3 t0_4 t0_5 t0_6 t1_0 t2_0 t3_0 t4_0 a35 a28 f49 f42 lx54 lx70 lx71 lx92 lx93 lx94 fm128) N2 N3 t0_0 t0_1 t0_2 t0_3 t0_4 t0_5 t0_6 t1_0 t2_0 t3_0 t4_0 a35 a28 f49 f42 lx54 lx70 lx71 lx92 lx93 lx94 lx113 lx114 j147 f136 lx149 j164 fm179) N2 N3 t0_0 t0_1 t0_2 t0_3 t0_4 t0_5 t0_6 t1_0 t2_0 t3_0 t4_0 a35 a28 f49 f42 lx54 lx70 lx71 lx92 lx93 lx94 lx113 lx114 j147 f136 lx149 j164 lx166 lx167 j214 a283 from (by rw [← e284, ← e281, ← e215, ← e213, ← e210, ← e208, ← e205, ← e203, ← e200, ← e198]; have h := hS176; rw [S_WR_divideRows_L155.eq_2] at h; replace h := q_s2 h; have c190x := c190; rw [e189] at c190x; rw [if_neg c190x] at h; replace h := q_s2 h; rw [if_neg c277] at h; with_reducible exact h))⟩
          ·
            intro J155
            refine lv_icmp_le (tgt := 150) hx hb d_19_14_138 (by decide) (fun c285 => ?_) (fun c285 => ?_)
            ·
              refine lv_iconst (v := 0) hx hb d_19_14_150 (by decide) ?_
              exact J155 ((0 : Int32)) _ _ _ w134 ⟨V, q_lw hl (q_lw1 1 rfl (q_lw1 2 rfl (q_lw1 3 rfl (q_lw1 4 rfl (q_lw1 5 rfl q_lw0))))), (show F_WR_divideRows_J151 (F_WR_divideRows_L47 N2 N3 t0_0 t0_1 t0_2 t0_3 t0_4 t0_5 t0_6 t1_0 t2_0 t3_0 t4_0 a35 a28 f49 f42 lx54 fm85) (F_WR_divideRows_L79 (F_WR_divideRows_L47 N2 N3 t0_0 t0_1 t0_2 t0_3 t0_4 t0_5 t0_6 t1_0 t2_0 t3_0 t4_0 a35 a28 f49 f42 lx54 fm85) N2 N3 t0_0 t0_1 t0_2 t0_3 t0_4 t0_5 t0_6 t1_0 t2_0 t3_0 t4_0 a35 a28 f49 f42 lx54 lx70 lx71 fm108) (F_WR_divideRows_L88 (F_WR_divideRows_L47 N2 N3 t0_0 t0_1 t0_2 t0_3 t0_4 t0_5 t0_6 t1_0 t2_0 t3_0 t4_0 a35 a28 f49 f42 lx54 fm85) (F_WR_divideRows_L79 (F_WR_divideRows_L47 N2 N3 t0_0 t0_1 t0_2 t0_3 t0_4 t0_5 t0_6 t1_0 t2_0 t3_0 t4_0 a35 a28 f49 f42 lx54 fm85) N2 N3 t0_0 t0_1 t0_2 t0_3 t0_4 t0_5 t0_6 t1_0 t2_0 t3_0 t4_0 a35 a28 f49 f42 lx54 lx70 lx71 fm108) N2 N3 t0_0 t0_1 t0_2 t0_3 t0_4 t0_5 t0_6 t1_0 t2_0 t3_0 t4_0 a35 a28 f49 f42 lx54 lx70 lx71 lx92 lx93 lx94 fm128) N2 N3 t0_0 t0_1 t0_2 t0_3 t0_4 t0_5 t0_6 t1_0 t2_0 t3_0 t4_0 a35 a28 f49 f42 lx54 lx70 lx71 lx92 lx93 lx94 lx113 lx114 j147 f136 0 = (F_WR_divideRows N2 N3 t0_0 t0_1 t0_2 t0_3 t0_4 t0_5 t0_6 t1_0 t2_0 t3_0 t4_0) from Eq.trans (by rw [← e148, ← e145, ← e143, ← e139, ← e137, ← e133, F_WR_divideRows_L88.eq_2, if_pos c129, if_pos c285]) hR124), (show True ∧ S_WR_divideRows_J151 (S_WR_divideRows_L47 N2 N3 t0_0 t0_1 t0_2 t0_3 t0_4 t0_5 t0_6 t1_0 t2_0 t3_0 t4_0 a35 a28 f49 f42 lx54 fm85) (S_WR_divideRows_L79 (S_WR_divideRows_L47 N2 N3 t0_0 t0_1 t0_2 t0_3 t0_4 t0_5 t0_6 t1_0 t2_0 t3_0 t4_0 a35 a28 f49 f42 lx54 fm85) N2 N3 t0_0 t0_1 t0_2 t0_3 t0_4 t0_5 t0_6 t1_0 t2_0 t3_0 t4_0 a35 a28 f49 f42 lx54 lx70 lx71 fm108) (S_WR_divideRows_L88 (S_WR_divideRows_L47 N2 N3 t0_0 t0_1 t0_2 t0_3 t0_4 t0_5 t0_6 t1_0 t2_0 t3_0 t4_0 a35 a28 f49 f42 lx54 fm85) (S_WR_divideRows_L79 (S_WR_divideRows_L47 N2 N3 t0_0 t0_1 t0_2 t0_3 t0_4 t0_5 t0_6 t1_0 t2_0 t3_0 t4_0 a35 a28 f49 f42 lx54 fm85) N2 N3 t0_0 t0_1 t0_2 t0_3 t0_4 t0_5 t0_6 t1_0 t2_0 t3_0 t4_0 a35 a28 f49 f42 lx54 lx70 lx71 fm108) N2 N3 t0_0 t0_1 t0_2 t0_3 t0_4 t0_5 t0_6 t1_0 t2_0 t3_0 t4_0 a35 a28 f49 f42 lx54 lx70 lx71 lx92 lx93 lx94 fm128) N2 N3 t0_0 t0_1 t0_2 t0_3 t0_4 t0_5 t0_6 t1_0 t2_0 t3_0 t4_0 a35 a28 f49 f42 lx54 lx70 lx71 lx92 lx93 lx94 lx113 lx114 j147 f136 0 from (by rw [← e148, ← e145, ← e143, ← e139, ← e137, ← e133]; have h := hS125; rw [S_WR_divideRows_L88.eq_2] at h; rw [if_pos c129] at h; replace h := q_s2 h; replace h := q_s2 h; rw [if_pos c285] at h; with_reducible exact h))⟩
            ·
              have b287 : q_F (1 < a35.toInt) := (q_nleI c285)
              refine lv_aload_n hx hb d_19_14_141 rfl (lv_at hl 5 rfl) ?_
              refine lv_iload hx hb d_19_14_142 (lv_at hl 2 rfl) ?_
              refine lv_iconst (v := 2) hx hb d_19_14_144 (by decide) ?_
              refine lv_isub hx hb d_19_14_145 ?_
              obtain ⟨a288, e289⟩ := q_nm (a35 - 2 : Int32)
              refine q_ti (v := a288) e289 ?_
              have b290 : q_F (a288.toInt = a35.toInt - 2) := (by rw [← e289]; show (a35 - 2 : Int32).toInt = a35.toInt - 2; exact q_subI (x := a35.toInt) (y := 2) rfl (by decide) (by have t1 : 0 ≤ a35.toInt := b36; have t2 : a35.toInt ≤ N3.toInt := b37; have _ := q_lo32 (x := N3); have _ := q_hi32 (x := N3); omega) (by have t1 : 0 ≤ a35.toInt := b36; have t2 : a35.toInt ≤ N3.toInt := b37; have _ := q_lo32 (x := N3); have _ := q_hi32 (x := N3); omega))
              refine q_iald C0 V hO123 (q_ix (x := a288.toInt) rfl (by have t1 : 1 < a35.toInt := b287; have t2 : a288.toInt = a35.toInt - 2 := b290; omega) (by have t1 : 1 < a35.toInt := b287; have t2 : a288.toInt = a35.toInt - 2 := b290; have t3 : a35.toInt ≤ N3.toInt := b37; have e9 := q_clI (i := N3) rfl (by first | with_reducible exact (q_fe hfk30).2 | with_reducible exact (q_fe hfk30).1 | (have t1 : 0 ≤ N3.toInt ∧ N3.toInt ≤ 20200 := hfk30; omega)); omega)) d_19_14_146 ?_
              obtain ⟨a291, e292⟩ := q_nm (t4_0 a288.toNatClampNeg : Int32)
              refine q_ti (v := a291) e292 ?_
              refine lv_goto (tgt := 151) hx hb d_19_14_147 (by decide) ?_
              exact J155 ((a291 : Int32)) _ _ _ w134 ⟨V, q_lw hl (q_lw1 1 rfl (q_lw1 2 rfl (q_lw1 3 rfl (q_lw1 4 rfl (q_lw1 5 rfl q_lw0))))), (show F_WR_divideRows_J151 (F_WR_divideRows_L47 N2 N3 t0_0 t0_1 t0_2 t0_3 t0_4 t0_5 t0_6 t1_0 t2_0 t3_0 t4_0 a35 a28 f49 f42 lx54 fm85) (F_WR_divideRows_L79 (F_WR_divideRows_L47 N2 N3 t0_0 t0_1 t0_2 t0_3 t0_4 t0_5 t0_6 t1_0 t2_0 t3_0 t4_0 a35 a28 f49 f42 lx54 fm85) N2 N3 t0_0 t0_1 t0_2 t0_3 t0_4 t0_5 t0_6 t1_0 t2_0 t3_0 t4_0 a35 a28 f49 f42 lx54 lx70 lx71 fm108) (F_WR_divideRows_L88 (F_WR_divideRows_L47 N2 N3 t0_0 t0_1 t0_2 t0_3 t0_4 t0_5 t0_6 t1_0 t2_0 t3_0 t4_0 a35 a28 f49 f42 lx54 fm85) (F_WR_divideRows_L79 (F_WR_divideRows_L47 N2 N3 t0_0 t0_1 t0_2 t0_3 t0_4 t0_5 t0_6 t1_0 t2_0 t3_0 t4_0 a35 a28 f49 f42 lx54 fm85) N2 N3 t0_0 t0_1 t0_2 t0_3 t0_4 t0_5 t0_6 t1_0 t2_0 t3_0 t4_0 a35 a28 f49 f42 lx54 lx70 lx71 fm108) N2 N3 t0_0 t0_1 t0_2 t0_3 t0_4 t0_5 t0_6 t1_0 t2_0 t3_0 t4_0 a35 a28 f49 f42 lx54 lx70 lx71 lx92 lx93 lx94 fm128) N2 N3 t0_0 t0_1 t0_2 t0_3 t0_4 t0_5 t0_6 t1_0 t2_0 t3_0 t4_0 a35 a28 f49 f42 lx54 lx70 lx71 lx92 lx93 lx94 lx113 lx114 j147 f136 a291 = (F_WR_divideRows N2 N3 t0_0 t0_1 t0_2 t0_3 t0_4 t0_5 t0_6 t1_0 t2_0 t3_0 t4_0) from Eq.trans (by rw [← e292, ← e289, ← e148, ← e145, ← e143, ← e139, ← e137, ← e133, F_WR_divideRows_L88.eq_2, if_pos c129, if_neg c285]) hR124), (show True ∧ S_WR_divideRows_J151 (S_WR_divideRows_L47 N2 N3 t0_0 t0_1 t0_2 t0_3 t0_4 t0_5 t0_6 t1_0 t2_0 t3_0 t4_0 a35 a28 f49 f42 lx54 fm85) (S_WR_divideRows_L79 (S_WR_divideRows_L47 N2 N3 t0_0 t0_1 t0_2 t0_3 t0_4 t0_5 t0_6 t1_0 t2_0 t3_0 t4_0 a35 a28 f49 f42 lx54 fm85) N2 N3 t0_0 t0_1 t0_2 t0_3 t0_4 t0_5 t0_6 t1_0 t2_0 t3_0 t4_0 a35 a28 f49 f42 lx54 lx70 lx71 fm108) (S_WR_divideRows_L88 (S_WR_divideRows_L47 N2 N3 t0_0 t0_1 t0_2 t0_3 t0_4 t0_5 t0_6 t1_0 t2_0 t3_0 t4_0 a35 a28 f49 f42 lx54 fm85) (S_WR_divideRows_L79 (S_WR_divideRows_L47 N2 N3 t0_0 t0_1 t0_2 t0_3 t0_4 t0_5 t0_6 t1_0 t2_0 t3_0 t4_0 a35 a28 f49 f42 lx54 fm85) N2 N3 t0_0 t0_1 t0_2 t0_3 t0_4 t0_5 t0_6 t1_0 t2_0 t3_0 t4_0 a35 a28 f49 f42 lx54 lx70 lx71 fm108) N2 N3 t0_0 t0_1 t0_2 t0_3 t0_4 t0_5 t0_6 t1_0 t2_0 t3_0 t4_0 a35 a28 f49 f42 lx54 lx70 lx71 lx92 lx93 lx94 fm128) N2 N3 t0_0 t0_1 t0_2 t0_3 t0_4 t0_5 t0_6 t1_0 t2_0 t3_0 t4_0 a35 a28 f49 f42 lx54 lx70 lx71 lx92 lx93 lx94 lx113 lx114 j147 f136 a291 from (by rw [← e292, ← e289, ← e148, ← e145, ← e143, ← e139, ← e137, ← e133]; have h := hS125; rw [S_WR_divideRows_L88.eq_2] at h; rw [if_pos c129] at h; replace h := q_s2 h; replace h := q_s2 h; rw [if_neg c285] at h; with_reducible exact h))⟩
        ·
          have b293 : q_F (0 < lx113.toInt) := (q_nleI c129)
          refine lv_aload_n hx hb d_19_14_93 rfl (lv_at hl 3 rfl) ?_
          refine q_get (ci := 13) (j := 10) (v := .ref (q 126)) C0 V i_WR rfl rfl hO119 (by decide) w_1934 rfl d_19_14_94 ?_
          refine lv_iload hx hb d_19_14_97 (lv_at hl 0 rfl) ?_
          refine lv_aload_n hx hb d_19_14_99 rfl (lv_at hl 3 rfl) ?_
          refine q_get (ci := 13) (j := 10) (v := .ref (q 126)) C0 V i_WR rfl rfl hO119 (by decide) w_1934 rfl d_19_14_100 ?_
          refine lv_iload hx hb d_19_14_103 (lv_at hl 0 rfl) ?_
          refine lv_iconst (v := 1) hx hb d_19_14_105 (by decide) ?_
          refine lv_isub hx hb d_19_14_106 ?_
          obtain ⟨a294, e295⟩ := q_nm (lx113 - 1 : Int32)
          refine q_ti (v := a294) e295 ?_
          have b296 : q_F (a294.toInt = lx113.toInt - 1) := (by rw [← e295]; show (lx113 - 1 : Int32).toInt = lx113.toInt - 1; exact q_subI (x := lx113.toInt) (y := 1) rfl (by decide) (by have t1 : 0 ≤ lx113.toInt := i115; have t2 : lx113.toInt ≤ a35.toInt := i116; have _ := q_lo32 (x := a35); have _ := q_hi32 (x := a35); omega) (by have t1 : 0 ≤ lx113.toInt := i115; have t2 : lx113.toInt ≤ a35.toInt := i116; have _ := q_lo32 (x := a35); have _ := q_hi32 (x := a35); omega))
          have ob297 : q_F (a294.toInt ≤ 263) := (by rw [← e295]; have h := hS125; rw [S_WR_divideRows_L88.eq_2] at h; rw [if_neg c129] at h; exact h.2.1)
          refine q_iald C0 V hO120 (q_ix (x := a294.toInt) rfl (by have t1 : 0 < lx113.toInt := b293; have t2 : a294.toInt = lx113.toInt - 1 := b296; omega) (by have t1 : 0 < lx113.toInt := b293; have t2 : a294.toInt = lx113.toInt - 1 := b296; have t3 : a294.toInt ≤ 263 := ob297; have e9 : (((264 : Int32).toNatClampNeg : Nat) : Int) = 264 := (by decide); omega)) d_19_14_107 ?_
          obtain ⟨a298, e299⟩ := q_nm (lx114 a294.toNatClampNeg : Int32)
          refine q_ti (v := a298) e299 ?_
          have ob300 : q_F (lx113.toInt ≤ 263) := (by have h := hS125; rw [S_WR_divideRows_L88.eq_2] at h; rw [if_neg c129] at h; replace h := q_s2 h; exact h.2.1)
          refine q_iast C0 V hO120 (q_ix (x := lx113.toInt) rfl (by first | with_reducible exact q_fe i115 | (have t1 : 0 ≤ lx113.toInt := i115; omega)) (by have t1 : 0 ≤ lx113.toInt := i115; have t2 : lx113.toInt ≤ 263 := ob300; have e9 : (((264 : Int32).toNatClampNeg : Nat) : Int) = 264 := (by decide); omega)) d_19_14_108 (fun H locs w301 hu302 hO120 V => ?_)
          replace hI := n_ai' hI (n_r126 g q).1 hu302 hO120 (q_updB (fun _ => s_bnd) s_bnd)
          replace hO119 := (hu302 _ (by decide)).trans hO119
          replace hO121 := (hu302 _ (by decide)).trans hO121
          replace hO122 := (hu302 _ (by have z := ne_k2_126; omega)).trans hO122
          replace hO123 := (hu302 _ (by have z := ne_k3_126; omega)).trans hO123
          replace hF := q_us hF hu302 (by simp)
          obtain ⟨f303, e304⟩ := q_nm (upd lx114 lx113.toNatClampNeg a298 : (Nat → Int32))
          rw [e304] at hO120
          obtain ⟨a305, e306⟩ := q_nm (lx113 + (-1) : Int32)
          have b307 : q_F (a305.toInt = lx113.toInt + (-1)) := (by rw [← e306]; exact q_addI (y := (-1)) rfl (by decide) (by have t1 : 0 ≤ lx113.toInt := i115; have t2 : lx113.toInt ≤ 263 := ob300; omega) (by have t1 : 0 ≤ lx113.toInt := i115; have t2 : lx113.toInt ≤ 263 := ob300; omega))
          refine lv_iinc (v := a305) (lv' := [(7, .int a305), (6, .int lx92), (4, .int a35), (0, .ref (q 119)), (1, .ref (q k2)), (2, .ref (q k3))]) hx hb d_19_14_109 hl (k := 0) rfl (e306) (by decide) rfl (fun ls hl => ?_)
          refine lv_goto (tgt := 88) hx hb d_19_14_112 (by decide) ?_
          exact ih117 ((a305 : Int32), (f303 : (Nat → Int32))) _ _ _ _ (show (a305.toInt - ((-1))).toNat < (lx113.toInt - ((-1))).toNat from by have t1 : a305.toInt = lx113.toInt + (-1) := b307; have t2 : 0 ≤ lx113.toInt := i115; omega) ⟨(show q_F (0 ≤ a305.toInt) from (show 0 ≤ a305.toInt from by have t1 : 0 < lx113.toInt := b293; have t2 : a305.toInt = lx113.toInt + (-1) := b307; omega)), (show q_F (a305.toInt ≤ a35.toInt) from (show a305.toInt ≤ a35.toInt from by have t1 : lx113.toInt ≤ a35.toInt := i116; have t2 : a305.toInt = lx113.toInt + (-1) := b307; omega)), V, q_lw hl (q_lw1 0 rfl (q_lw1 1 rfl (q_lw1 2 rfl (q_lw1 3 rfl (q_lw1 4 rfl (q_lw1 5 rfl q_lw0)))))), hI, hF, hO119, hO120, hO121, hO122, hO123, ⟨fm128, Nat.lt_of_lt_of_le (show (a305.toInt - ((-1))).toNat < (lx113.toInt - ((-1))).toNat from by have t1 : a305.toInt = lx113.toInt + (-1) := b307; have t2 : 0 ≤ lx113.toInt := i115; omega) (Nat.le_of_lt_succ hf127), (show F_WR_divideRows_L88 (F_WR_divideRows_L47 N2 N3 t0_0 t0_1 t0_2 t0_3 t0_4 t0_5 t0_6 t1_0 t2_0 t3_0 t4_0 a35 a28 f49 f42 lx54 fm85) (F_WR_divideRows_L79 (F_WR_divideRows_L47 N2 N3 t0_0 t0_1 t0_2 t0_3 t0_4 t0_5 t0_6 t1_0 t2_0 t3_0 t4_0 a35 a28 f49 f42 lx54 fm85) N2 N3 t0_0 t0_1 t0_2 t0_3 t0_4 t0_5 t0_6 t1_0 t2_0 t3_0 t4_0 a35 a28 f49 f42 lx54 lx70 lx71 fm108) N2 N3 t0_0 t0_1 t0_2 t0_3 t0_4 t0_5 t0_6 t1_0 t2_0 t3_0 t4_0 a35 a28 f49 f42 lx54 lx70 lx71 lx92 lx93 lx94 fm128 a305 f303 = (F_WR_divideRows N2 N3 t0_0 t0_1 t0_2 t0_3 t0_4 t0_5 t0_6 t1_0 t2_0 t3_0 t4_0) from Eq.trans (by rw [← e306, ← e304, ← e299, ← e295, F_WR_divideRows_L88.eq_2, if_neg c129]) hR124), (show True ∧ S_WR_divideRows_L88 (S_WR_divideRows_L47 N2 N3 t0_0 t0_1 t0_2 t0_3 t0_4 t0_5 t0_6 t1_0 t2_0 t3_0 t4_0 a35 a28 f49 f42 lx54 fm85) (S_WR_divideRows_L79 (S_WR_divideRows_L47 N2 N3 t0_0 t0_1 t0_2 t0_3 t0_4 t0_5 t0_6 t1_0 t2_0 t3_0 t4_0 a35 a28 f49 f42 lx54 fm85) N2 N3 t0_0 t0_1 t0_2 t0_3 t0_4 t0_5 t0_6 t1_0 t2_0 t3_0 t4_0 a35 a28 f49 f42 lx54 lx70 lx71 fm108) N2 N3 t0_0 t0_1 t0_2 t0_3 t0_4 t0_5 t0_6 t1_0 t2_0 t3_0 t4_0 a35 a28 f49 f42 lx54 lx70 lx71 lx92 lx93 lx94 fm128 a305 f303 from (by rw [← e306, ← e304, ← e299, ← e295]; have h := hS125; rw [S_WR_divideRows_L88.eq_2] at h; rw [if_neg c129] at h; replace h := q_s2 h; replace h := q_s2 h; with_reducible exact h))⟩⟩
    ·
      have b308 : q_F (lx70.toInt < a28.toInt) := (q_nleI c86)
      refine lv_aload_n hx hb d_19_14_53 rfl (lv_at hl 4 rfl) ?_
      refine q_get (ci := 13) (j := 10) (v := .ref (q 126)) C0 V i_WR rfl rfl hO76 (by decide) w_1934 rfl d_19_14_54 ?_
      refine lv_iload hx hb d_19_14_57 (lv_at hl 0 rfl) ?_
      refine lv_iload hx hb d_19_14_59 (lv_at hl 1 rfl) ?_
      refine lv_isub hx hb d_19_14_61 ?_
      obtain ⟨a309, e310⟩ := q_nm (lx70 - lx54 : Int32)
      refine q_ti (v := a309) e310 ?_
      have b311 : q_F (a309.toInt = lx70.toInt - lx54.toInt) := (by rw [← e310]; show (lx70 - lx54 : Int32).toInt = lx70.toInt - lx54.toInt; exact q_subI (x := lx70.toInt) (y := lx54.toInt) rfl rfl (by have t1 : lx54.toInt ≤ lx70.toInt := i72; have t2 : a28.toInt ≤ lx54.toInt + 20199 := i62; have t3 : lx70.toInt ≤ a28.toInt + 1 := i73; omega) (by have t1 : lx54.toInt ≤ lx70.toInt := i72; have t2 : a28.toInt ≤ lx54.toInt + 20199 := i62; have t3 : lx70.toInt ≤ a28.toInt + 1 := i73; omega))
      refine lv_aload_n hx hb d_19_14_62 rfl (lv_at hl 5 rfl) ?_
      refine lv_iload hx hb d_19_14_63 (lv_at hl 0 rfl) ?_
      refine q_iald C0 V hO79 (q_ix (x := lx70.toInt) rfl (by have t1 : 0 ≤ lx54.toInt := i61; have t2 : lx54.toInt ≤ lx70.toInt := i72; omega) (by have t1 : 0 ≤ lx54.toInt := i61; have t2 : lx54.toInt ≤ lx70.toInt := i72; have t3 : a28.toInt ≤ N2.toInt := b30; have t4 : lx70.toInt < a28.toInt := b308; have e9 := q_clI (i := N2) rfl (by first | with_reducible exact (q_fe hfk20).2 | with_reducible exact (q_fe hfk20).1 | (have t1 : 0 ≤ N2.toInt ∧ N2.toInt ≤ 20200 := hfk20; omega)); omega)) d_19_14_65 ?_
      obtain ⟨a312, e313⟩ := q_nm (t3_0 lx70.toNatClampNeg : Int32)
      refine q_ti (v := a312) e313 ?_
      have ob314 : q_F (a309.toInt ≤ 263) := (by rw [← e310]; have h := hS82; rw [S_WR_divideRows_L47.eq_2] at h; rw [if_neg c86] at h; exact h.2.1)
      refine q_iast C0 V hO77 (q_ix (x := a309.toInt) rfl (by have t1 : lx54.toInt ≤ lx70.toInt := i72; have t2 : a309.toInt = lx70.toInt - lx54.toInt := b311; omega) (by have t1 : lx54.toInt ≤ lx70.toInt := i72; have t2 : a309.toInt = lx70.toInt - lx54.toInt := b311; have t3 : a309.toInt ≤ 263 := ob314; have e9 : (((264 : Int32).toNatClampNeg : Nat) : Int) = 264 := (by decide); omega)) d_19_14_66 (fun H locs w315 hu316 hO77 V => ?_)
      replace hI := n_ai' hI (n_r126 g q).1 hu316 hO77 (q_updB (fun _ => s_bnd) s_bnd)
      replace hO76 := (hu316 _ (by decide)).trans hO76
      replace hO78 := (hu316 _ (by decide)).trans hO78
      replace hO79 := (hu316 _ (by have z := ne_k2_126; omega)).trans hO79
      replace hO80 := (hu316 _ (by have z := ne_k3_126; omega)).trans hO80
      replace hF := q_us hF hu316 (by simp)
      obtain ⟨f317, e318⟩ := q_nm (upd lx71 a309.toNatClampNeg a312 : (Nat → Int32))
      rw [e318] at hO77
      obtain ⟨a319, e320⟩ := q_nm (lx70 + 1 : Int32)
      have b321 : q_F (a319.toInt = lx70.toInt + 1) := (by rw [← e320]; exact q_addI (y := 1) rfl (by decide) (by have t1 : lx54.toInt ≤ lx70.toInt := i72; have _ := q_lo32 (x := lx54); have _ := q_hi32 (x := lx54); have t2 : lx70.toInt < a28.toInt := b308; have _ := q_lo32 (x := a28); have _ := q_hi32 (x := a28); omega) (by have t1 : lx54.toInt ≤ lx70.toInt := i72; have _ := q_lo32 (x := lx54); have _ := q_hi32 (x := lx54); have t2 : lx70.toInt < a28.toInt := b308; have _ := q_lo32 (x := a28); have _ := q_hi32 (x := a28); omega))
      refine lv_iinc (v := a319) (lv' := [(6, .int a319), (5, .int lx54), (4, .int a35), (3, .int a28), (0, .ref (q 119)), (1, .ref (q k2)), (2, .ref (q k3))]) hx hb d_19_14_67 hl (k := 0) rfl (e320) (by decide) rfl (fun ls hl => ?_)
      refine lv_goto (tgt := 47) hx hb d_19_14_70 (by decide) ?_
      exact ih74 ((a319 : Int32), (f317 : (Nat → Int32))) _ _ _ _ (show (20200 - a319.toInt).toNat < (20200 - lx70.toInt).toNat from by have t1 : a319.toInt = lx70.toInt + 1 := b321; have t2 : 0 ≤ N2.toInt ∧ N2.toInt ≤ 20200 := hfk20; have t3 : a28.toInt ≤ N2.toInt := b30; have t4 : lx70.toInt < a28.toInt := b308; omega) ⟨(show q_F (lx54.toInt ≤ a319.toInt) from (show lx54.toInt ≤ a319.toInt from by have t1 : lx54.toInt ≤ lx70.toInt := i72; have t2 : a319.toInt = lx70.toInt + 1 := b321; omega)), (show q_F (a319.toInt ≤ a28.toInt + 1) from (show a319.toInt ≤ a28.toInt + 1 from by have t1 : lx70.toInt < a28.toInt := b308; have t2 : a319.toInt = lx70.toInt + 1 := b321; omega)), V, q_lw hl (q_lw1 0 rfl (q_lw1 1 rfl (q_lw1 2 rfl (q_lw1 3 rfl (q_lw1 4 rfl (q_lw1 5 rfl (q_lw1 6 rfl q_lw0))))))), hI, hF, hO76, hO77, hO78, hO79, hO80, ⟨fm85, Nat.lt_of_lt_of_le (show (20200 - a319.toInt).toNat < (20200 - lx70.toInt).toNat from by have t1 : a319.toInt = lx70.toInt + 1 := b321; have t2 : 0 ≤ N2.toInt ∧ N2.toInt ≤ 20200 := hfk20; have t3 : a28.toInt ≤ N2.toInt := b30; have t4 : lx70.toInt < a28.toInt := b308; omega) (Nat.le_of_lt_succ hf84), (show F_WR_divideRows_L47 N2 N3 t0_0 t0_1 t0_2 t0_3 t0_4 t0_5 t0_6 t1_0 t2_0 t3_0 t4_0 a35 a28 f49 f42 lx54 fm85 a319 f317 = (F_WR_divideRows N2 N3 t0_0 t0_1 t0_2 t0_3 t0_4 t0_5 t0_6 t1_0 t2_0 t3_0 t4_0) from Eq.trans (by rw [← e320, ← e318, ← e313, ← e310, F_WR_divideRows_L47.eq_2, if_neg c86]) hR81), (show True ∧ S_WR_divideRows_L47 N2 N3 t0_0 t0_1 t0_2 t0_3 t0_4 t0_5 t0_6 t1_0 t2_0 t3_0 t4_0 a35 a28 f49 f42 lx54 fm85 a319 f317 from (by rw [← e320, ← e318, ← e313, ← e310]; have h := hS82; rw [S_WR_divideRows_L47.eq_2] at h; rw [if_neg c86] at h; replace h := q_s2 h; with_reducible exact h))⟩⟩
  ·
    intro J60
    refine lv_icmp_ge (tgt := 35) hx hb d_19_14_28 (by decide) (fun c322 => ?_) (fun c322 => ?_)
    ·
      have b323 : q_F (a35.toInt ≤ a28.toInt) := (q_leI c322)
      refine lv_iload_n hx hb d_19_14_35 rfl (lv_at hl 1 rfl) ?_
      refine lv_iload hx hb d_19_14_36 (lv_at hl 0 rfl) ?_
      refine lv_isub hx hb d_19_14_38 ?_
      obtain ⟨a324, e325⟩ := q_nm (a28 - a35 : Int32)
      refine q_ti (v := a324) e325 ?_
      have b326 : q_F (a324.toInt = a28.toInt - a35.toInt) := (by rw [← e325]; show (a28 - a35 : Int32).toInt = a28.toInt - a35.toInt; exact q_subI (x := a28.toInt) (y := a35.toInt) rfl rfl (by have t1 : a35.toInt ≤ a28.toInt := b323; have t2 : a28.toInt ≤ N2.toInt := b30; have t3 : 0 ≤ a35.toInt := b36; have _ := q_lo32 (x := N2); have _ := q_hi32 (x := N2); omega) (by have t1 : a35.toInt ≤ a28.toInt := b323; have t2 : a28.toInt ≤ N2.toInt := b30; have t3 : 0 ≤ a35.toInt := b36; have _ := q_lo32 (x := N2); have _ := q_hi32 (x := N2); omega))
      refine lv_iconst (v := 1) hx hb d_19_14_39 (by decide) ?_
      refine lv_iadd hx hb d_19_14_40 ?_
      obtain ⟨a327, e328⟩ := q_nm (a324 + 1 : Int32)
      refine q_ti (v := a327) e328 ?_
      have b329 : q_F (a327.toInt = a324.toInt + 1) := (by rw [← e328]; show (a324 + 1 : Int32).toInt = a324.toInt + 1; exact q_addI (x := a324.toInt) (y := 1) rfl (by decide) (by have _ := q_lo32 (x := a324); have _ := q_hi32 (x := a324); have t1 : 0 ≤ N2.toInt ∧ N2.toInt ≤ 20200 := hfk20; have t2 : a28.toInt ≤ N2.toInt := b30; have t3 : 0 ≤ a35.toInt := b36; have t4 : a324.toInt = a28.toInt - a35.toInt := b326; omega) (by have _ := q_lo32 (x := a324); have _ := q_hi32 (x := a324); have t1 : 0 ≤ N2.toInt ∧ N2.toInt ≤ 20200 := hfk20; have t2 : a28.toInt ≤ N2.toInt := b30; have t3 : 0 ≤ a35.toInt := b36; have t4 : a324.toInt = a28.toInt - a35.toInt := b326; omega))
      exact J60 ((a327 : Int32)) _ _ _ u47 ⟨(show q_F (0 ≤ a327.toInt) from (show 0 ≤ a327.toInt from by have t1 : a35.toInt ≤ a28.toInt := b323; have t2 : a324.toInt = a28.toInt - a35.toInt := b326; have t3 : a327.toInt = a324.toInt + 1 := b329; omega)), (show q_F (a28.toInt ≤ a327.toInt + 20199) from (show a28.toInt ≤ a327.toInt + 20199 from by have t1 : 0 ≤ N2.toInt ∧ N2.toInt ≤ 20200 := hfk20; have t2 : a28.toInt ≤ N2.toInt := b30; have t3 : a35.toInt ≤ a28.toInt := b323; have t4 : a324.toInt = a28.toInt - a35.toInt := b326; have t5 : a327.toInt = a324.toInt + 1 := b329; omega)), (show q_F (a327.toInt ≤ a28.toInt + 1) from (show a327.toInt ≤ a28.toInt + 1 from by have t1 : 0 ≤ a35.toInt := b36; have t2 : a324.toInt = a28.toInt - a35.toInt := b326; have t3 : a327.toInt = a324.toInt + 1 := b329; omega)), V, q_lw hl (q_lw1 0 rfl (q_lw1 1 rfl (q_lw1 2 rfl (q_lw1 3 rfl (q_lw1 4 rfl q_lw0))))), (show F_WR_divideRows_J41 N2 N3 t0_0 t0_1 t0_2 t0_3 t0_4 t0_5 t0_6 t1_0 t2_0 t3_0 t4_0 a35 a28 f49 f42 a327 = (F_WR_divideRows N2 N3 t0_0 t0_1 t0_2 t0_3 t0_4 t0_5 t0_6 t1_0 t2_0 t3_0 t4_0) from (by have c322x := c322; rw [e39, e32] at c322x; rw [← e328, ← e325, e53, e46, e39, e32, F_WR_divideRows.eq_1, if_pos c322x])), (show True ∧ S_WR_divideRows_J41 N2 N3 t0_0 t0_1 t0_2 t0_3 t0_4 t0_5 t0_6 t1_0 t2_0 t3_0 t4_0 a35 a28 f49 f42 a327 from (by rw [← e328, ← e325, e53, e46, e39, e32]; have h := hS; rw [S_WR_divideRows.eq_1] at h; have c322x := c322; rw [e39, e32] at c322x; rw [if_pos c322x] at h; with_reducible exact h))⟩
    ·
      have b330 : q_F (a28.toInt < a35.toInt) := (q_nleI c322)
      refine lv_iconst (v := 0) hx hb d_19_14_31 (by decide) ?_
      refine lv_goto (tgt := 41) hx hb d_19_14_32 (by decide) ?_
      exact J60 ((0 : Int32)) _ _ _ u47 ⟨(show q_F (0 ≤ 0) from (show 0 ≤ 0 from by omega)), (show q_F (a28.toInt ≤ 0 + 20199) from (show a28.toInt ≤ 0 + 20199 from by have t1 : 0 ≤ N3.toInt ∧ N3.toInt ≤ 20200 := hfk30; have t2 : a35.toInt ≤ N3.toInt := b37; have t3 : a28.toInt < a35.toInt := b330; omega)), (show q_F (0 ≤ a28.toInt + 1) from (show 0 ≤ a28.toInt + 1 from by have t1 : 0 ≤ a28.toInt := b29; omega)), V, q_lw hl (q_lw1 0 rfl (q_lw1 1 rfl (q_lw1 2 rfl (q_lw1 3 rfl (q_lw1 4 rfl q_lw0))))), (show F_WR_divideRows_J41 N2 N3 t0_0 t0_1 t0_2 t0_3 t0_4 t0_5 t0_6 t1_0 t2_0 t3_0 t4_0 a35 a28 f49 f42 0 = (F_WR_divideRows N2 N3 t0_0 t0_1 t0_2 t0_3 t0_4 t0_5 t0_6 t1_0 t2_0 t3_0 t4_0) from (by have c322x := c322; rw [e39, e32] at c322x; rw [e53, e46, e39, e32, F_WR_divideRows.eq_1, if_neg c322x])), (show True ∧ S_WR_divideRows_J41 N2 N3 t0_0 t0_1 t0_2 t0_3 t0_4 t0_5 t0_6 t1_0 t2_0 t3_0 t4_0 a35 a28 f49 f42 0 from (by rw [e53, e46, e39, e32]; have h := hS; rw [S_WR_divideRows.eq_1] at h; have c322x := c322; rw [e39, e32] at c322x; rw [if_neg c322x] at h; with_reducible exact h))⟩
theorem d_19_25_0 : decode prog_19_method_25_code 0 = .ok (.aload_n 0, 1) := by decide +kernel
theorem d_19_25_1 : decode prog_19_method_25_code 1 = .ok (.getfield 16, 3) := by decide +kernel
theorem d_19_25_4 : decode prog_19_method_25_code 4 = .ok (.iload_n 1, 1) := by decide +kernel
theorem d_19_25_5 : decode prog_19_method_25_code 5 = .ok (.baload, 1) := by decide +kernel
theorem d_19_25_6 : decode prog_19_method_25_code 6 = .ok (.ifCond .ne 15, 3) := by decide +kernel
theorem d_19_25_21 : decode prog_19_method_25_code 21 = .ok (.iconst 0, 1) := by decide +kernel
theorem d_19_25_22 : decode prog_19_method_25_code 22 = .ok (.ireturn, 1) := by decide +kernel
theorem d_19_25_9 : decode prog_19_method_25_code 9 = .ok (.aload_n 0, 1) := by decide +kernel
theorem d_19_25_10 : decode prog_19_method_25_code 10 = .ok (.iload_n 1, 1) := by decide +kernel
theorem d_19_25_11 : decode prog_19_method_25_code 11 = .ok (.invokevirtual 119, 3) := by decide +kernel
set_option maxRecDepth 100000 in
theorem w_2563 : (Cond.code ({ cls := "NumberHouseModel$WholeRows", name := "isZero", desc := "(I)Z" } : MethodName) prog_19_method_8_code (4 : Nat) (some .boolean)) ∈ q_tbl := q_of11 163 rfl (by decide +kernel)
set_option maxRecDepth 100000 in
theorem w_2560 : (Cond.methodLink "NumberHouseModel$WholeRows" (119 : Nat) ({ cls := "NumberHouseModel$WholeRows", name := "isZero", desc := "(I)Z" } : MethodName)) ∈ q_tbl := q_of11 160 rfl (by decide +kernel)
set_option maxRecDepth 100000 in
theorem w_2562 : (Cond.instanceMethod ({ cls := "NumberHouseModel$WholeRows", name := "isZero", desc := "(I)Z" } : MethodName)) ∈ q_tbl := q_of11 162 rfl (by decide +kernel)
theorem ws_86 : Cond.selects "NumberHouseModel$WholeRows" (⟨"NumberHouseModel$WholeRows", "isZero", "(I)Z"⟩ : MethodName) (⟨"NumberHouseModel$WholeRows", "isZero", "(I)Z"⟩ : MethodName) ∈ q_tbl := q_ofs 86 (by decide +kernel) (by decide +kernel)
theorem LV_WR_119 : q_LV "NumberHouseModel$WholeRows" 119 y_WR_isZero prog_19_method_8_code 4 (some .boolean) 1 := ⟨w_2563, w_15, w_2560, w_2562, ws_86, ⟨by decide, by decide, by decide +kernel⟩⟩
theorem d_19_25_14 : decode prog_19_method_25_code 14 = .ok (.ifCond .ne 7, 3) := by decide +kernel
theorem d_19_25_17 : decode prog_19_method_25_code 17 = .ok (.iconst 1, 1) := by decide +kernel
theorem d_19_25_18 : decode prog_19_method_25_code 18 = .ok (.goto 4, 3) := by decide +kernel
def y_WR_isAbove0 : MethodName := ⟨"NumberHouseModel$WholeRows", "isAbove0", "(I)Z"⟩
def F_WR_isAbove0 (x2 : Int32) (t0_0 : Int32) (t0_1 : Int32) (t0_2 : Int32) (t0_3 : Int32) (t0_4 : Int32) (t0_5 : Int32) (t0_6 : Int32) (t1_0 : (Nat → Int32)) (t2_0 : (Nat → Int32)) : Int32 := if (t2_0 x2.toNatClampNeg : Int32) = (0 : Int32) then (if ((F_WR_isZero x2 t0_0 t0_1 t0_2 t0_3 t0_4 t0_5 t0_6 t1_0) : Int32) = (0 : Int32) then ((1 : Int32)) else ((0 : Int32))) else ((0 : Int32))
def S_WR_isAbove0 (x2 : Int32) (t0_0 : Int32) (t0_1 : Int32) (t0_2 : Int32) (t0_3 : Int32) (t0_4 : Int32) (t0_5 : Int32) (t0_6 : Int32) (t1_0 : (Nat → Int32)) (t2_0 : (Nat → Int32)) : Prop := (0 ≤ x2.toInt) ∧ ((x2.toInt ≤ 10) ∧ (if (t2_0 x2.toNatClampNeg : Int32) = (0 : Int32) then ((True ∧ S_WR_isZero x2 t0_0 t0_1 t0_2 t0_3 t0_4 t0_5 t0_6 t1_0) ∧ (if ((F_WR_isZero x2 t0_0 t0_1 t0_2 t0_3 t0_4 t0_5 t0_6 t1_0) : Int32) = (0 : Int32) then (True) else (True))) else (True)))
set_option maxRecDepth 100000 in
set_option maxHeartbeats 4000000 in
theorem X_WR_isAbove0 (l : Launch) (D : va_G) (g : Nat → ClassId) (q : Nat → Nat) (ws : va_W) (x2 : Int32) (hI : q_I (msh g q) q ws) (t0_0 : Int32) (t0_1 : Int32) (t0_2 : Int32) (t0_3 : Int32) (t0_4 : Int32) (t0_5 : Int32) (t0_6 : Int32) (hT0 : ws[119]? = (some (q 119, .inr (13, [.int t0_0, .int t0_1, .ref (q 120), .int t0_2, .ref (q 121), .ref (q 122), .ref (q 123), .int t0_3, .ref (q 124), .ref (q 125), .ref (q 126), .ref (q 127), .ref (q 128), .ref (q 129), .ref (q 130), .ref (q 131), .int t0_4, .int t0_5, .ref (q 132), .ref (q 133), .int t0_6])) : Option (Nat × va_E))) (t1_0 : (Nat → Int32)) (hT1 : ws[121]? = (some (q 121, .inl (g 0, (1408 : Int32).toNatClampNeg, .inl t1_0)) : Option (Nat × va_E))) (t2_0 : (Nat → Int32)) (hT2 : ws[122]? = (some (q 122, .inl (g 3, 11, .inl t2_0)) : Option (Nat × va_E))) (hS : True ∧ S_WR_isAbove0 x2 t0_0 t0_1 t0_2 t0_3 t0_4 t0_5 t0_6 t1_0 t2_0) : q_mI l y_WR_isAbove0 prog_19_method_25_code 2 (.boolean) 2 0 0 D g [.ref (q 119), .int x2] ws (fun r u => ws = u ∧ (0 ≤ r.toInt) ∧ (r.toInt ≤ 1) ∧ (x2.toInt ≤ r.toInt + 10) ∧ (r.toInt ≤ x2.toInt + 1) ∧ r = (F_WR_isAbove0 x2 t0_0 t0_1 t0_2 t0_3 t0_4 t0_5 t0_6 t1_0 t2_0)) := by
  intro sz
  refine q_into (by decide) (Nat.le_of_ble_eq_true rfl) ?_
  intro p e s m below meth c ls hsz C0 V hl
  have hx := C0.1
  have hb := C0.2.1
  have hZ9 := (n_w119 hI hT0).2.2.2
  obtain ⟨-, btt0_6⟩ := hZ9
  clear btt0_6
  have hl : lv_has ls 2 [(0, .ref (q 119)), (1, .int x2)] := hl
  refine lv_aload_n hx hb d_19_25_0 rfl (lv_at hl 0 rfl) ?_
  refine q_get (ci := 13) (j := 5) (v := .ref (q 122)) C0 V i_WR rfl rfl hT0 (by decide) w_1929 rfl d_19_25_1 ?_
  refine lv_iload_n hx hb d_19_25_4 rfl (lv_at hl 1 rfl) ?_
  have ob20 : q_F (0 ≤ x2.toInt) := (by have h := hS; rw [S_WR_isAbove0.eq_1] at h; exact h.2.1)
  have ob21 : q_F (x2.toInt ≤ 10) := (by have h := hS; rw [S_WR_isAbove0.eq_1] at h; replace h := q_s2 h; exact h.2.1)
  refine q_zald C0 V hT2 (q_ix (x := x2.toInt) rfl (by first | with_reducible exact q_fe ob20 | (have t1 : 0 ≤ x2.toInt := ob20; omega)) (by have t1 : 0 ≤ x2.toInt := ob20; have t2 : x2.toInt ≤ 10 := ob21; omega)) d_19_25_5 ?_
  obtain ⟨a22, e23⟩ := q_nm (t2_0 x2.toNatClampNeg : Int32)
  refine q_ti (v := a22) e23 ?_
  refine lv_if_ne (tgt := 21) hx hb d_19_25_6 (by decide) (fun c24 => ?_) (fun c24 => ?_)
  ·
    refine lv_iconst (v := 0) hx hb d_19_25_21 (by decide) ?_
    exact q_retz C0 V (by decide) (⟨rfl, (show 0 ≤ (0 : Int32).toInt from (by have z10 : (0 : Int32).toInt = 0 := rfl; omega)), (show (0 : Int32).toInt ≤ 1 from (by have z10 : (0 : Int32).toInt = 0 := rfl; omega)), (show x2.toInt ≤ (0 : Int32).toInt + 10 from (by have z10 : (0 : Int32).toInt = 0 := rfl; have t1 : x2.toInt ≤ 10 := ob21; omega)), (show (0 : Int32).toInt ≤ x2.toInt + 1 from (by have z10 : (0 : Int32).toInt = 0 := rfl; have t1 : 0 ≤ x2.toInt := ob20; omega)), (show (0 : Int32) = (F_WR_isAbove0 x2 t0_0 t0_1 t0_2 t0_3 t0_4 t0_5 t0_6 t1_0 t2_0) from (by have c24x := c24; rw [← e23] at c24x; rw [F_WR_isAbove0.eq_1, if_neg c24x]))⟩) d_19_25_22
  ·
    refine lv_aload_n hx hb d_19_25_9 rfl (lv_at hl 0 rfl) ?_
    refine lv_iload_n hx hb d_19_25_10 rfl (lv_at hl 1 rfl) ?_
    have ob27 : True ∧ S_WR_isZero x2 t0_0 t0_1 t0_2 t0_3 t0_4 t0_5 t0_6 t1_0 := (by have h := hS; rw [S_WR_isAbove0.eq_1] at h; replace h := q_s2 h; replace h := q_s2 h; have c24x := c24; rw [← e23] at c24x; rw [if_pos c24x] at h; with_reducible exact h.2.1)
    refine q_goi V (q_runV (As := [.int x2]) (rest := []) (d := 1) (mc := 0) (ms := 0) (ci := 13) C0 V rfl LV_WR_119 (X_WR_isZero l D g q ws  x2 hI t0_0 t0_1 t0_2 t0_3 t0_4 t0_5 t0_6 hT0 t1_0 hT1 ob27 _) rfl rfl hT0 rfl hl.1 rfl (Nat.le_of_ble_eq_true rfl) ⟨by decide, by decide⟩ ⟨Nat.le_of_ble_eq_true rfl, Nat.le_of_ble_eq_true rfl⟩ d_19_25_11) (fun a30 u28 H locs hp29 V => ?_)
    obtain ⟨rfl, b31, b32, hE33⟩ := hp29
    have e34 : a30 = (F_WR_isZero x2 t0_0 t0_1 t0_2 t0_3 t0_4 t0_5 t0_6 t1_0) := hE33
    clear b31
    clear b32
    refine lv_if_ne (tgt := 21) hx hb d_19_25_14 (by decide) (fun c35 => ?_) (fun c35 => ?_)
    ·
      refine lv_iconst (v := 0) hx hb d_19_25_21 (by decide) ?_
      exact q_retz C0 V (by decide) (⟨rfl, (show 0 ≤ (0 : Int32).toInt from (by have z10 : (0 : Int32).toInt = 0 := rfl; omega)), (show (0 : Int32).toInt ≤ 1 from (by have z10 : (0 : Int32).toInt = 0 := rfl; omega)), (show x2.toInt ≤ (0 : Int32).toInt + 10 from (by have z10 : (0 : Int32).toInt = 0 := rfl; have t1 : x2.toInt ≤ 10 := ob21; omega)), (show (0 : Int32).toInt ≤ x2.toInt + 1 from (by have z10 : (0 : Int32).toInt = 0 := rfl; have t1 : 0 ≤ x2.toInt := ob20; omega)), (show (0 : Int32) = (F_WR_isAbove0 x2 t0_0 t0_1 t0_2 t0_3 t0_4 t0_5 t0_6 t1_0 t2_0) from (by have c24x := c24; rw [← e23] at c24x; have c35x := c35; rw [e34] at c35x; rw [F_WR_isAbove0.eq_1, if_pos c24x, if_neg c35x]))⟩) d_19_25_22
    ·
      refine lv_iconst (v := 1) hx hb d_19_25_17 (by decide) ?_
      refine lv_goto (tgt := 22) hx hb d_19_25_18 (by decide) ?_
      exact q_retz C0 V (by decide) (⟨rfl, (show 0 ≤ (1 : Int32).toInt from (by have z10 : (1 : Int32).toInt = 1 := rfl; omega)), (show (1 : Int32).toInt ≤ 1 from (by have z10 : (1 : Int32).toInt = 1 := rfl; omega)), (show x2.toInt ≤ (1 : Int32).toInt + 10 from (by have z10 : (1 : Int32).toInt = 1 := rfl; have t1 : x2.toInt ≤ 10 := ob21; omega)), (show (1 : Int32).toInt ≤ x2.toInt + 1 from (by have z10 : (1 : Int32).toInt = 1 := rfl; have t1 : 0 ≤ x2.toInt := ob20; omega)), (show (1 : Int32) = (F_WR_isAbove0 x2 t0_0 t0_1 t0_2 t0_3 t0_4 t0_5 t0_6 t1_0 t2_0) from (by have c24x := c24; rw [← e23] at c24x; have c35x := c35; rw [e34] at c35x; rw [F_WR_isAbove0.eq_1, if_pos c24x, if_pos c35x]))⟩) d_19_25_22
theorem d_19_28_0 : decode prog_19_method_28_code 0 = .ok (.aload_n 1, 1) := by decide +kernel
theorem d_19_28_1 : decode prog_19_method_28_code 1 = .ok (.invokestatic 63, 3) := by decide +kernel
theorem d_19_28_4 : decode prog_19_method_28_code 4 = .ok (.aload_n 1, 1) := by decide +kernel
theorem d_19_28_5 : decode prog_19_method_28_code 5 = .ok (.iconst 0, 1) := by decide +kernel
theorem d_19_28_6 : decode prog_19_method_28_code 6 = .ok (.iconst 1, 1) := by decide +kernel
theorem d_19_28_7 : decode prog_19_method_28_code 7 = .ok (.iastore, 1) := by decide +kernel
theorem d_19_28_8 : decode prog_19_method_28_code 8 = .ok (.return_, 1) := by decide +kernel
def y_WR_setOne : MethodName := ⟨"NumberHouseModel$WholeRows", "setOne", "([I)V"⟩
def F_WR_setOne (N2 : Int32) (t0_0 : Int32) (t0_1 : Int32) (t0_2 : Int32) (t0_3 : Int32) (t0_4 : Int32) (t0_5 : Int32) (t0_6 : Int32) (t1_0 : (Nat → Int32)) : (Nat → Int32) := (upd ((F_WR_clear N2 t1_0) : (Nat → Int32)) (0 : Int32).toNatClampNeg 1 : (Nat → Int32))
def S_WR_setOne (N2 : Int32) (t0_0 : Int32) (t0_1 : Int32) (t0_2 : Int32) (t0_3 : Int32) (t0_4 : Int32) (t0_5 : Int32) (t0_6 : Int32) (t1_0 : (Nat → Int32)) : Prop := (1 ≤ N2.toInt) ∧ (True)
set_option maxRecDepth 100000 in
set_option maxHeartbeats 4000000 in
theorem X_WR_setOne (l : Launch) (D : va_G) (g : Nat → ClassId) (q : Nat → Nat) (ws : va_W) (k2 : Nat) (N2 : Int32) (hB2 : q_isRow (msh g q) g k2 N2) (hI : q_I (msh g q) q ws) (t0_0 : Int32) (t0_1 : Int32) (t0_2 : Int32) (t0_3 : Int32) (t0_4 : Int32) (t0_5 : Int32) (t0_6 : Int32) (hT0 : ws[119]? = (some (q 119, .inr (13, [.int t0_0, .int t0_1, .ref (q 120), .int t0_2, .ref (q 121), .ref (q 122), .ref (q 123), .int t0_3, .ref (q 124), .ref (q 125), .ref (q 126), .ref (q 127), .ref (q 128), .ref (q 129), .ref (q 130), .ref (q 131), .int t0_4, .int t0_5, .ref (q 132), .ref (q 133), .int t0_6])) : Option (Nat × va_E))) (t1_0 : (Nat → Int32)) (hT1 : ws[k2]? = (some (q k2, .inl (g 0, N2.toNatClampNeg, .inl t1_0)) : Option (Nat × va_E))) (hS : True ∧ S_WR_setOne N2 t0_0 t0_1 t0_2 t0_3 t0_4 t0_5 t0_6 t1_0) : q_mV l y_WR_setOne prog_19_method_28_code 2 2 0 0 D g [.ref (q 119), .ref (q k2)] ws (fun u => q_I (msh g q) q u ∧ q_un ws u [k2] ∧ ∃ (u1_0 : (Nat → Int32)), u[k2]? = (some (q k2, .inl (g 0, N2.toNatClampNeg, .inl u1_0)) : Option (Nat × va_E)) ∧ u1_0 = (F_WR_setOne N2 t0_0 t0_1 t0_2 t0_3 t0_4 t0_5 t0_6 t1_0)) := by
  intro sz
  refine q_into (by decide) (Nat.le_of_ble_eq_true rfl) ?_
  intro p e s m below meth c ls hsz C0 V hl
  have hx := C0.1
  have hb := C0.2.1
  have hfk20 : q_F (0 ≤ N2.toInt ∧ N2.toInt ≤ 20200) := hB2.2
  have hZ9 := (n_w119 hI hT0).2.2.2
  obtain ⟨-, btt0_6⟩ := hZ9
  clear btt0_6
  have hF : q_un ws ws [k2] := q_u0
  have hl : lv_has ls 2 [(0, .ref (q 119)), (1, .ref (q k2))] := hl
  refine lv_aload_n hx hb d_19_28_0 rfl (lv_at hl 1 rfl) ?_
  have ne17 := q_df hT1 hT0
  refine q_gov V (q_runS (As := [.ref (q k2)]) (rest := []) (d := 1) (mc := 0) (ms := 0) C0 V rfl LS_WR_63 (X_WR_clear l D g q ws k2 N2 hB2  hI t1_0 hT1  _) rfl hl.1 rfl (Nat.le_of_ble_eq_true rfl) ⟨by decide, by decide⟩ ⟨Nat.le_of_ble_eq_true rfl, Nat.le_of_ble_eq_true rfl⟩ d_19_28_1) (fun u18 H locs hp19 V => ?_)
  obtain ⟨hI, hu23, f20, hA21, hE22⟩ := hp19
  replace hA21 : u18[k2]? = (some (q k2, .inl (g 0, N2.toNatClampNeg, .inl f20)) : Option (Nat × va_E)) := hA21
  have e24 : f20 = (F_WR_clear N2 t1_0) := hE22
  replace hT0 := (hu23 _ (q_nc (Ne.symm ne17) List.not_mem_nil)).trans hT0
  replace hF := q_uc hF hu23 (by simp)
  refine lv_aload_n hx hb d_19_28_4 rfl (lv_at hl 1 rfl) ?_
  refine lv_iconst (v := 0) hx hb d_19_28_5 (by decide) ?_
  refine lv_iconst (v := 1) hx hb d_19_28_6 (by decide) ?_
  have ob25 : q_F (1 ≤ N2.toInt) := (by have h := hS; rw [S_WR_setOne.eq_1] at h; exact h.2.1)
  have ne28 := q_df hA21 hT0
  refine q_iast C0 V hA21 (q_ix (x := 0) (by decide) (by omega) (by have t1 : 1 ≤ N2.toInt := ob25; have e9 := q_clI (i := N2) rfl (by first | with_reducible exact (q_fe hfk20).2 | with_reducible exact (q_fe hfk20).1 | (have t1 : 0 ≤ N2.toInt ∧ N2.toInt ≤ 20200 := hfk20; omega)); omega)) d_19_28_7 (fun H locs w26 hu27 hA21 V => ?_)
  replace hI := n_ai' hI hB2.1 hu27 hA21 (q_updB (fun _ => s_bnd) s_bnd)
  replace hF := q_us hF hu27 (by simp)
  obtain ⟨f29, e30⟩ := q_nm (upd f20 (0 : Int32).toNatClampNeg 1 : (Nat → Int32))
  rw [e30] at hA21
  exact q_retv C0 V (⟨hI, hF, f29, hA21, (show f29 = (F_WR_setOne N2 t0_0 t0_1 t0_2 t0_3 t0_4 t0_5 t0_6 t1_0) from (by rw [← e30, e24, F_WR_setOne.eq_1]))⟩) d_19_28_8
def F_WR_multiplyRows_a_J85 (K_F_WR_multiplyRows_a_L22 : Int32 → (Nat → Int32) → ((Nat → Int32) × (Nat → Int32))) (K_F_WR_multiplyRows_a_L35 : Int32 → Int64 → (Nat → Int32) → ((Nat → Int32) × (Nat → Int32))) (N2 : Int32) (N3 : Int32) (t0_0 : Int32) (t0_1 : Int32) (t0_2 : Int32) (t0_3 : Int32) (t0_4 : Int32) (t0_5 : Int32) (t0_6 : Int32) (t1_0 : (Nat → Int32)) (t2_0 : (Nat → Int32)) (t3_0 : (Nat → Int32)) (a39 : Int32) (a32 : Int32) (lx45 : Int32) (lx46 : (Nat → Int32)) (lx73 : Int32) (lx74 : Int64) (lx75 : (Nat → Int32)) (j108 : Int64) (lx110 : Int64) : (Nat → Int32) × (Nat → Int32) := K_F_WR_multiplyRows_a_L35 (lx73 + 1 : Int32) ((j108 + lx110 : Int64) >>> ((16 : Int32).toInt64 &&& 63) : Int64) (upd lx75 (lx45 + lx73 : Int32).toNatClampNeg (((j108 + lx110 : Int64) &&& 65535 : Int64).toInt32 : Int32) : (Nat → Int32))
def F_WR_multiplyRows_a_J49 (K_F_WR_multiplyRows_a_L22 : Int32 → (Nat → Int32) → ((Nat → Int32) × (Nat → Int32))) (K_F_WR_multiplyRows_a_L35 : Int32 → Int64 → (Nat → Int32) → ((Nat → Int32) × (Nat → Int32))) (N2 : Int32) (N3 : Int32) (t0_0 : Int32) (t0_1 : Int32) (t0_2 : Int32) (t0_3 : Int32) (t0_4 : Int32) (t0_5 : Int32) (t0_6 : Int32) (t1_0 : (Nat → Int32)) (t2_0 : (Nat → Int32)) (t3_0 : (Nat → Int32)) (a39 : Int32) (a32 : Int32) (lx45 : Int32) (lx46 : (Nat → Int32)) (lx73 : Int32) (lx74 : Int64) (lx75 : (Nat → Int32)) : (Nat → Int32) × (Nat → Int32) := if a39 ≤ lx73 then (F_WR_multiplyRows_a_J85 K_F_WR_multiplyRows_a_L22 K_F_WR_multiplyRows_a_L35 N2 N3 t0_0 t0_1 t0_2 t0_3 t0_4 t0_5 t0_6 t1_0 t2_0 t3_0 a39 a32 lx45 lx46 lx73 lx74 lx75 (lx74 + ((lx75 (lx45 + lx73 : Int32).toNatClampNeg : Int32).toInt64 : Int64) : Int64) 0) else (F_WR_multiplyRows_a_J85 K_F_WR_multiplyRows_a_L22 K_F_WR_multiplyRows_a_L35 N2 N3 t0_0 t0_1 t0_2 t0_3 t0_4 t0_5 t0_6 t1_0 t2_0 t3_0 a39 a32 lx45 lx46 lx73 lx74 lx75 (lx74 + ((lx75 (lx45 + lx73 : Int32).toNatClampNeg : Int32).toInt64 : Int64) : Int64) (((t2_0 lx45.toNatClampNeg : Int32).toInt64 : Int64) * ((t3_0 lx73.toNatClampNeg : Int32).toInt64 : Int64) : Int64))
def F_WR_multiplyRows_a_L35 (K_F_WR_multiplyRows_a_L22 : Int32 → (Nat → Int32) → ((Nat → Int32) × (Nat → Int32))) (N2 : Int32) (N3 : Int32) (t0_0 : Int32) (t0_1 : Int32) (t0_2 : Int32) (t0_3 : Int32) (t0_4 : Int32) (t0_5 : Int32) (t0_6 : Int32) (t1_0 : (Nat → Int32)) (t2_0 : (Nat → Int32)) (t3_0 : (Nat → Int32)) (a39 : Int32) (a32 : Int32) (lx45 : Int32) (lx46 : (Nat → Int32)) : Nat → Int32 → Int64 → (Nat → Int32) → ((Nat → Int32) × (Nat → Int32))
  | 0, _, _, _ => default
  | fm + 1, lx73, lx74, lx75 => if lx73 < a39 then (F_WR_multiplyRows_a_J49 K_F_WR_multiplyRows_a_L22 (F_WR_multiplyRows_a_L35 K_F_WR_multiplyRows_a_L22 N2 N3 t0_0 t0_1 t0_2 t0_3 t0_4 t0_5 t0_6 t1_0 t2_0 t3_0 a39 a32 lx45 lx46 fm) N2 N3 t0_0 t0_1 t0_2 t0_3 t0_4 t0_5 t0_6 t1_0 t2_0 t3_0 a39 a32 lx45 lx46 lx73 lx74 lx75) else (if (lg_cmp lx74 0 : Int32) = (0 : Int32) then (K_F_WR_multiplyRows_a_L22 (lx45 + 1 : Int32) lx75) else (F_WR_multiplyRows_a_J49 K_F_WR_multiplyRows_a_L22 (F_WR_multiplyRows_a_L35 K_F_WR_multiplyRows_a_L22 N2 N3 t0_0 t0_1 t0_2 t0_3 t0_4 t0_5 t0_6 t1_0 t2_0 t3_0 a39 a32 lx45 lx46 fm) N2 N3 t0_0 t0_1 t0_2 t0_3 t0_4 t0_5 t0_6 t1_0 t2_0 t3_0 a39 a32 lx45 lx46 lx73 lx74 lx75))
def F_WR_multiplyRows_a_L22 (N2 : Int32) (N3 : Int32) (t0_0 : Int32) (t0_1 : Int32) (t0_2 : Int32) (t0_3 : Int32) (t0_4 : Int32) (t0_5 : Int32) (t0_6 : Int32) (t1_0 : (Nat → Int32)) (t2_0 : (Nat → Int32)) (t3_0 : (Nat → Int32)) (a39 : Int32) (a32 : Int32) : Nat → Int32 → (Nat → Int32) → ((Nat → Int32) × (Nat → Int32))
  | 0, _, _ => default
  | fm + 1, lx45, lx46 => if a32 ≤ lx45 then ((lx46, ((F_WR_copy (528 : Int32) N2 lx46 t2_0) : (Nat → Int32)))) else (F_WR_multiplyRows_a_L35 (F_WR_multiplyRows_a_L22 N2 N3 t0_0 t0_1 t0_2 t0_3 t0_4 t0_5 t0_6 t1_0 t2_0 t3_0 a39 a32 fm) N2 N3 t0_0 t0_1 t0_2 t0_3 t0_4 t0_5 t0_6 t1_0 t2_0 t3_0 a39 a32 lx45 lx46 ((2100 - (0 : Int32).toInt).toNat + 1) 0 0 lx46)
def F_WR_multiplyRows_a (N2 : Int32) (N3 : Int32) (t0_0 : Int32) (t0_1 : Int32) (t0_2 : Int32) (t0_3 : Int32) (t0_4 : Int32) (t0_5 : Int32) (t0_6 : Int32) (t1_0 : (Nat → Int32)) (t2_0 : (Nat → Int32)) (t3_0 : (Nat → Int32)) : (Nat → Int32) × (Nat → Int32) := F_WR_multiplyRows_a_L22 N2 N3 t0_0 t0_1 t0_2 t0_3 t0_4 t0_5 t0_6 t1_0 t2_0 t3_0 ((F_WR_size N3 t3_0) : Int32) ((F_WR_size N2 t2_0) : Int32) ((20200 - (0 : Int32).toInt).toNat + 1) 0 ((F_WR_clear (528 : Int32) t1_0) : (Nat → Int32))
def S_WR_multiplyRows_a_J85 (K_S_WR_multiplyRows_a_L22 : Int32 → (Nat → Int32) → Prop) (K_S_WR_multiplyRows_a_L35 : Int32 → Int64 → (Nat → Int32) → Prop) (N2 : Int32) (N3 : Int32) (t0_0 : Int32) (t0_1 : Int32) (t0_2 : Int32) (t0_3 : Int32) (t0_4 : Int32) (t0_5 : Int32) (t0_6 : Int32) (t1_0 : (Nat → Int32)) (t2_0 : (Nat → Int32)) (t3_0 : (Nat → Int32)) (a39 : Int32) (a32 : Int32) (lx45 : Int32) (lx46 : (Nat → Int32)) (lx73 : Int32) (lx74 : Int64) (lx75 : (Nat → Int32)) (j108 : Int64) (lx110 : Int64) : Prop := K_S_WR_multiplyRows_a_L35 (lx73 + 1 : Int32) ((j108 + lx110 : Int64) >>> ((16 : Int32).toInt64 &&& 63) : Int64) (upd lx75 (lx45 + lx73 : Int32).toNatClampNeg (((j108 + lx110 : Int64) &&& 65535 : Int64).toInt32 : Int32) : (Nat → Int32))
def S_WR_multiplyRows_a_J49 (K_S_WR_multiplyRows_a_L22 : Int32 → (Nat → Int32) → Prop) (K_S_WR_multiplyRows_a_L35 : Int32 → Int64 → (Nat → Int32) → Prop) (N2 : Int32) (N3 : Int32) (t0_0 : Int32) (t0_1 : Int32) (t0_2 : Int32) (t0_3 : Int32) (t0_4 : Int32) (t0_5 : Int32) (t0_6 : Int32) (t1_0 : (Nat → Int32)) (t2_0 : (Nat → Int32)) (t3_0 : (Nat → Int32)) (a39 : Int32) (a32 : Int32) (lx45 : Int32) (lx46 : (Nat → Int32)) (lx73 : Int32) (lx74 : Int64) (lx75 : (Nat → Int32)) : Prop := ((lx45 + lx73 : Int32).toInt ≤ 527) ∧ (if a39 ≤ lx73 then (S_WR_multiplyRows_a_J85 K_S_WR_multiplyRows_a_L22 K_S_WR_multiplyRows_a_L35 N2 N3 t0_0 t0_1 t0_2 t0_3 t0_4 t0_5 t0_6 t1_0 t2_0 t3_0 a39 a32 lx45 lx46 lx73 lx74 lx75 (lx74 + ((lx75 (lx45 + lx73 : Int32).toNatClampNeg : Int32).toInt64 : Int64) : Int64) 0) else (S_WR_multiplyRows_a_J85 K_S_WR_multiplyRows_a_L22 K_S_WR_multiplyRows_a_L35 N2 N3 t0_0 t0_1 t0_2 t0_3 t0_4 t0_5 t0_6 t1_0 t2_0 t3_0 a39 a32 lx45 lx46 lx73 lx74 lx75 (lx74 + ((lx75 (lx45 + lx73 : Int32).toNatClampNeg : Int32).toInt64 : Int64) : Int64) (((t2_0 lx45.toNatClampNeg : Int32).toInt64 : Int64) * ((t3_0 lx73.toNatClampNeg : Int32).toInt64 : Int64) : Int64)))
def S_WR_multiplyRows_a_L35 (K_S_WR_multiplyRows_a_L22 : Int32 → (Nat → Int32) → Prop) (N2 : Int32) (N3 : Int32) (t0_0 : Int32) (t0_1 : Int32) (t0_2 : Int32) (t0_3 : Int32) (t0_4 : Int32) (t0_5 : Int32) (t0_6 : Int32) (t1_0 : (Nat → Int32)) (t2_0 : (Nat → Int32)) (t3_0 : (Nat → Int32)) (a39 : Int32) (a32 : Int32) (lx45 : Int32) (lx46 : (Nat → Int32)) : Nat → Int32 → Int64 → (Nat → Int32) → Prop
  | 0, _, _, _ => False
  | fm + 1, lx73, lx74, lx75 => if lx73 < a39 then (S_WR_multiplyRows_a_J49 K_S_WR_multiplyRows_a_L22 (S_WR_multiplyRows_a_L35 K_S_WR_multiplyRows_a_L22 N2 N3 t0_0 t0_1 t0_2 t0_3 t0_4 t0_5 t0_6 t1_0 t2_0 t3_0 a39 a32 lx45 lx46 fm) N2 N3 t0_0 t0_1 t0_2 t0_3 t0_4 t0_5 t0_6 t1_0 t2_0 t3_0 a39 a32 lx45 lx46 lx73 lx74 lx75) else (if (lg_cmp lx74 0 : Int32) = (0 : Int32) then (K_S_WR_multiplyRows_a_L22 (lx45 + 1 : Int32) lx75) else (S_WR_multiplyRows_a_J49 K_S_WR_multiplyRows_a_L22 (S_WR_multiplyRows_a_L35 K_S_WR_multiplyRows_a_L22 N2 N3 t0_0 t0_1 t0_2 t0_3 t0_4 t0_5 t0_6 t1_0 t2_0 t3_0 a39 a32 lx45 lx46 fm) N2 N3 t0_0 t0_1 t0_2 t0_3 t0_4 t0_5 t0_6 t1_0 t2_0 t3_0 a39 a32 lx45 lx46 lx73 lx74 lx75))
def S_WR_multiplyRows_a_L22 (N2 : Int32) (N3 : Int32) (t0_0 : Int32) (t0_1 : Int32) (t0_2 : Int32) (t0_3 : Int32) (t0_4 : Int32) (t0_5 : Int32) (t0_6 : Int32) (t1_0 : (Nat → Int32)) (t2_0 : (Nat → Int32)) (t3_0 : (Nat → Int32)) (a39 : Int32) (a32 : Int32) : Nat → Int32 → (Nat → Int32) → Prop
  | 0, _, _ => False
  | fm + 1, lx45, lx46 => if a32 ≤ lx45 then (True) else (S_WR_multiplyRows_a_L35 (S_WR_multiplyRows_a_L22 N2 N3 t0_0 t0_1 t0_2 t0_3 t0_4 t0_5 t0_6 t1_0 t2_0 t3_0 a39 a32 fm) N2 N3 t0_0 t0_1 t0_2 t0_3 t0_4 t0_5 t0_6 t1_0 t2_0 t3_0 a39 a32 lx45 lx46 ((2100 - (0 : Int32).toInt).toNat + 1) 0 0 lx46)
def S_WR_multiplyRows_a (N2 : Int32) (N3 : Int32) (t0_0 : Int32) (t0_1 : Int32) (t0_2 : Int32) (t0_3 : Int32) (t0_4 : Int32) (t0_5 : Int32) (t0_6 : Int32) (t1_0 : (Nat → Int32)) (t2_0 : (Nat → Int32)) (t3_0 : (Nat → Int32)) : Prop := S_WR_multiplyRows_a_L22 N2 N3 t0_0 t0_1 t0_2 t0_3 t0_4 t0_5 t0_6 t1_0 t2_0 t3_0 ((F_WR_size N3 t3_0) : Int32) ((F_WR_size N2 t2_0) : Int32) ((20200 - (0 : Int32).toInt).toNat + 1) 0 ((F_WR_clear (528 : Int32) t1_0) : (Nat → Int32))
set_option maxRecDepth 100000 in
set_option maxHeartbeats 4000000 in
theorem X_WR_multiplyRows_a (l : Launch) (D : va_G) (g : Nat → ClassId) (q : Nat → Nat) (ws : va_W) (k2 : Nat) (N2 : Int32) (hB2 : q_isRow (msh g q) g k2 N2) (k3 : Nat) (N3 : Int32) (hB3 : q_isRow (msh g q) g k3 N3) (ne_k2_125 : k2 ≠ 125) (ne_k3_125 : k3 ≠ 125) (ne_k2_k3 : k2 ≠ k3) (hI : q_I (msh g q) q ws) (t0_0 : Int32) (t0_1 : Int32) (t0_2 : Int32) (t0_3 : Int32) (t0_4 : Int32) (t0_5 : Int32) (t0_6 : Int32) (hT0 : ws[119]? = (some (q 119, .inr (13, [.int t0_0, .int t0_1, .ref (q 120), .int t0_2, .ref (q 121), .ref (q 122), .ref (q 123), .int t0_3, .ref (q 124), .ref (q 125), .ref (q 126), .ref (q 127), .ref (q 128), .ref (q 129), .ref (q 130), .ref (q 131), .int t0_4, .int t0_5, .ref (q 132), .ref (q 133), .int t0_6])) : Option (Nat × va_E))) (t1_0 : (Nat → Int32)) (hT1 : ws[125]? = (some (q 125, .inl (g 0, (528 : Int32).toNatClampNeg, .inl t1_0)) : Option (Nat × va_E))) (t2_0 : (Nat → Int32)) (hT2 : ws[k2]? = (some (q k2, .inl (g 0, N2.toNatClampNeg, .inl t2_0)) : Option (Nat × va_E))) (t3_0 : (Nat → Int32)) (hT3 : ws[k3]? = (some (q k3, .inl (g 0, N3.toNatClampNeg, .inl t3_0)) : Option (Nat × va_E))) (hS : True ∧ S_WR_multiplyRows_a N2 N3 t0_0 t0_1 t0_2 t0_3 t0_4 t0_5 t0_6 t1_0 t2_0 t3_0) : q_mV l y_WR_multiplyRows prog_19_method_13_code 10 2 0 0 D g [.ref (q 119), .ref (q k2), .ref (q k3), .ref (q k2)] ws (fun u => q_I (msh g q) q u ∧ q_un ws u [125, k2] ∧ ∃ (u1_0 : (Nat → Int32)) (u2_0 : (Nat → Int32)), u[125]? = (some (q 125, .inl (g 0, (528 : Int32).toNatClampNeg, .inl u1_0)) : Option (Nat × va_E)) ∧ u[k2]? = (some (q k2, .inl (g 0, N2.toNatClampNeg, .inl u2_0)) : Option (Nat × va_E)) ∧ (u1_0, u2_0) = (F_WR_multiplyRows_a N2 N3 t0_0 t0_1 t0_2 t0_3 t0_4 t0_5 t0_6 t1_0 t2_0 t3_0)) := by
  intro sz
  refine q_into (by decide) (Nat.le_of_ble_eq_true rfl) ?_
  intro p e s m below meth c ls hsz C0 V hl
  have hx := C0.1
  have hb := C0.2.1
  have hfk20 : q_F (0 ≤ N2.toInt ∧ N2.toInt ≤ 20200) := hB2.2
  have hfk30 : q_F (0 ≤ N3.toInt ∧ N3.toInt ≤ 20200) := hB3.2
  have hZ9 := (n_w119 hI hT0).2.2.2
  obtain ⟨-, btt0_6⟩ := hZ9
  clear btt0_6
  have hF : q_un ws ws [125, k2] := q_u0
  have hl : lv_has ls 10 [(0, .ref (q 119)), (1, .ref (q k2)), (2, .ref (q k3)), (3, .ref (q k2))] := hl
  refine lv_aload_n hx hb d_19_13_0 rfl (lv_at hl 0 rfl) ?_
  refine q_get (ci := 13) (j := 9) (v := .ref (q 125)) C0 V i_WR rfl rfl hT0 (by decide) w_1933 rfl d_19_13_1 ?_
  refine q_gov V (q_runS (As := [.ref (q 125)]) (rest := []) (d := 1) (mc := 0) (ms := 0) C0 V rfl LS_WR_63 (X_WR_clear l D g q ws 125 528 (n_r125 g q)  hI t1_0 hT1  _) rfl hl.1 rfl (Nat.le_of_ble_eq_true rfl) ⟨by decide, by decide⟩ ⟨Nat.le_of_ble_eq_true rfl, Nat.le_of_ble_eq_true rfl⟩ d_19_13_4) (fun u23 H locs hp24 V => ?_)
  obtain ⟨hI, hu28, f25, hA26, hE27⟩ := hp24
  replace hA26 : u23[125]? = (some (q 125, .inl (g 0, (528 : Int32).toNatClampNeg, .inl f25)) : Option (Nat × va_E)) := hA26
  have e29 : f25 = (F_WR_clear (528 : Int32) t1_0) := hE27
  replace hT0 := (hu28 _ (by decide)).trans hT0
  replace hT2 := (hu28 _ (by simp only [List.mem_cons, List.not_mem_nil, or_false, not_or]; omega)).trans hT2
  replace hT3 := (hu28 _ (by simp only [List.mem_cons, List.not_mem_nil, or_false, not_or]; omega)).trans hT3
  replace hF := q_uc hF hu28 (by simp)
  refine lv_aload_n hx hb d_19_13_7 rfl (lv_at hl 1 rfl) ?_
  refine q_goi V (q_runS (As := [.ref (q k2)]) (rest := []) (d := 1) (mc := 0) (ms := 0) C0 V rfl LS_WR_59 (X_WR_size l D g q u23 k2 N2 hB2  hI t2_0 hT2  _) rfl hl.1 rfl (Nat.le_of_ble_eq_true rfl) ⟨by decide, by decide⟩ ⟨Nat.le_of_ble_eq_true rfl, Nat.le_of_ble_eq_true rfl⟩ d_19_13_8) (fun a32 u30 H locs hp31 V => ?_)
  obtain ⟨rfl, b33, b34, hE35⟩ := hp31
  have e36 : a32 = (F_WR_size N2 t2_0) := hE35
  replace b33 : q_F (0 ≤ a32.toInt) := b33
  replace b34 : q_F (a32.toInt ≤ N2.toInt) := b34
  refine lv_istore (lv' := [(4, .int a32), (0, .ref (q 119)), (1, .ref (q k2)), (2, .ref (q k3)), (3, .ref (q k2))]) hx hb d_19_13_11 hl (by decide) rfl (fun ls hl => ?_)
  refine lv_aload_n hx hb d_19_13_13 rfl (lv_at hl 3 rfl) ?_
  refine q_goi V (q_runS (As := [.ref (q k3)]) (rest := []) (d := 1) (mc := 0) (ms := 0) C0 V rfl LS_WR_59 (X_WR_size l D g q u23 k3 N3 hB3  hI t3_0 hT3  _) rfl hl.1 rfl (Nat.le_of_ble_eq_true rfl) ⟨by decide, by decide⟩ ⟨Nat.le_of_ble_eq_true rfl, Nat.le_of_ble_eq_true rfl⟩ d_19_13_14) (fun a39 u37 H locs hp38 V => ?_)
  obtain ⟨rfl, b40, b41, hE42⟩ := hp38
  have e43 : a39 = (F_WR_size N3 t3_0) := hE42
  clear b40
  replace b41 : q_F (a39.toInt ≤ N3.toInt) := b41
  refine lv_istore (lv' := [(5, .int a39), (4, .int a32), (0, .ref (q 119)), (1, .ref (q k2)), (2, .ref (q k3)), (3, .ref (q k2))]) hx hb d_19_13_17 hl (by decide) rfl (fun ls hl => ?_)
  refine lv_iconst (v := 0) hx hb d_19_13_19 (by decide) ?_
  refine lv_istore (lv' := [(6, .int 0), (5, .int a39), (4, .int a32), (0, .ref (q 119)), (1, .ref (q k2)), (2, .ref (q k3)), (3, .ref (q k2))]) hx hb d_19_13_20 hl (by decide) rfl (fun ls hl => ?_)
  refine q_loop (X := Int32 × (Nat → Int32)) (fun z H locs ls w50 => q_F (0 ≤ z.1.toInt) ∧ q_F (z.1.toInt ≤ a32.toInt) ∧ q_Wd D g (va_A ws sz) s w50 H locs ∧ lv_has ls 10 [(6, .int z.1), (5, .int a39), (4, .int a32), (0, .ref (q 119)), (1, .ref (q k2)), (2, .ref (q k3)), (3, .ref (q k2))] ∧ q_I (msh g q) q w50 ∧ q_un ws w50 [125, k2] ∧ w50[119]? = (some (q 119, .inr (13, [.int t0_0, .int t0_1, .ref (q 120), .int t0_2, .ref (q 121), .ref (q 122), .ref (q 123), .int t0_3, .ref (q 124), .ref (q 125), .ref (q 126), .ref (q 127), .ref (q 128), .ref (q 129), .ref (q 130), .ref (q 131), .int t0_4, .int t0_5, .ref (q 132), .ref (q 133), .int t0_6])) : Option (Nat × va_E)) ∧ w50[125]? = (some (q 125, .inl (g 0, (528 : Int32).toNatClampNeg, .inl z.2)) : Option (Nat × va_E)) ∧ w50[k2]? = (some (q k2, .inl (g 0, N2.toNatClampNeg, .inl t2_0)) : Option (Nat × va_E)) ∧ w50[k3]? = (some (q k3, .inl (g 0, N3.toNatClampNeg, .inl t3_0)) : Option (Nat × va_E)) ∧ (∃ n, (20200 - z.1.toInt).toNat < n ∧ F_WR_multiplyRows_a_L22 N2 N3 t0_0 t0_1 t0_2 t0_3 t0_4 t0_5 t0_6 t1_0 t2_0 t3_0 a39 a32 n z.1 z.2 = (F_WR_multiplyRows_a N2 N3 t0_0 t0_1 t0_2 t0_3 t0_4 t0_5 t0_6 t1_0 t2_0 t3_0) ∧ True ∧ S_WR_multiplyRows_a_L22 N2 N3 t0_0 t0_1 t0_2 t0_3 t0_4 t0_5 t0_6 t1_0 t2_0 t3_0 a39 a32 n z.1 z.2)) (fun z => (20200 - z.1.toInt).toNat) ?_ ((0 : Int32), (f25 : (Nat → Int32))) _ _ _ u23 ⟨(show q_F (0 ≤ 0) from (show 0 ≤ 0 from by omega)), (show q_F (0 ≤ a32.toInt) from (show 0 ≤ a32.toInt from by have t1 : 0 ≤ a32.toInt := b33; omega)), V, q_lw hl (q_lw1 0 rfl (q_lw1 1 rfl (q_lw1 2 rfl (q_lw1 3 rfl (q_lw1 4 rfl (q_lw1 5 rfl (q_lw1 6 rfl q_lw0))))))), hI, hF, hT0, hA26, hT2, hT3, ⟨((20200 - (0 : Int32).toInt).toNat + 1), Nat.lt_succ_self _, (show F_WR_multiplyRows_a_L22 N2 N3 t0_0 t0_1 t0_2 t0_3 t0_4 t0_5 t0_6 t1_0 t2_0 t3_0 a39 a32 ((20200 - (0 : Int32).toInt).toNat + 1) 0 f25 = (F_WR_multiplyRows_a N2 N3 t0_0 t0_1 t0_2 t0_3 t0_4 t0_5 t0_6 t1_0 t2_0 t3_0) from (by rw [e43, e36, e29, F_WR_multiplyRows_a.eq_1])), (show True ∧ S_WR_multiplyRows_a_L22 N2 N3 t0_0 t0_1 t0_2 t0_3 t0_4 t0_5 t0_6 t1_0 t2_0 t3_0 a39 a32 ((20200 - (0 : Int32).toInt).toNat + 1) 0 f25 from (by rw [e43, e36, e29]; have h := hS; rw [S_WR_multiplyRows_a.eq_1] at h; with_reducible exact h))⟩⟩
  rintro ⟨lx45, lx46⟩ H locs ls w50 ⟨i47, i48, V, hl, hI, hF, hO51, hO52, hO53, hO54, ⟨fu57, hf58, hR55, hS56⟩⟩ ih49
  obtain ⟨fm59, rfl⟩ : ∃ m, fu57 = m + 1 := ⟨fu57 - 1, by omega⟩
  replace i47 : q_F (0 ≤ lx45.toInt) := i47
  replace i48 : q_F (lx45.toInt ≤ a32.toInt) := i48
  replace hl : lv_has ls 10 [(6, .int lx45), (5, .int a39), (4, .int a32), (0, .ref (q 119)), (1, .ref (q k2)), (2, .ref (q k3)), (3, .ref (q k2))] := hl
  replace hO51 : w50[119]? = (some (q 119, .inr (13, [.int t0_0, .int t0_1, .ref (q 120), .int t0_2, .ref (q 121), .ref (q 122), .ref (q 123), .int t0_3, .ref (q 124), .ref (q 125), .ref (q 126), .ref (q 127), .ref (q 128), .ref (q 129), .ref (q 130), .ref (q 131), .int t0_4, .int t0_5, .ref (q 132), .ref (q 133), .int t0_6])) : Option (Nat × va_E)) := hO51
  replace hO52 : w50[125]? = (some (q 125, .inl (g 0, (528 : Int32).toNatClampNeg, .inl lx46)) : Option (Nat × va_E)) := hO52
  replace hO53 : w50[k2]? = (some (q k2, .inl (g 0, N2.toNatClampNeg, .inl t2_0)) : Option (Nat × va_E)) := hO53
  replace hO54 : w50[k3]? = (some (q k3, .inl (g 0, N3.toNatClampNeg, .inl t3_0)) : Option (Nat × va_E)) := hO54
  refine lv_iload hx hb d_19_13_22 (lv_at hl 0 rfl) ?_
  refine lv_iload hx hb d_19_13_24 (lv_at hl 2 rfl) ?_
  refine lv_icmp_ge (tgt := 124) hx hb d_19_13_26 (by decide) (fun c60 => ?_) (fun c60 => ?_)
  ·
    refine lv_aload_n hx hb d_19_13_124 rfl (lv_at hl 3 rfl) ?_
    refine q_get (ci := 13) (j := 9) (v := .ref (q 125)) C0 V i_WR rfl rfl hO51 (by decide) w_1933 rfl d_19_13_125 ?_
    refine lv_aload_n hx hb d_19_13_128 rfl (lv_at hl 6 rfl) ?_
    have ne62 := q_df hO53 hO51
    refine q_gov V (q_runS (As := [.ref (q 125), .ref (q k2)]) (rest := []) (d := 1) (mc := 0) (ms := 0) C0 V rfl LS_WR_67 (X_WR_copy l D g q w50 125 528 (n_r125 g q) k2 N2 hB2  (by have z := ne_k2_125; omega) hI lx46 hO52 t2_0 hO53  _) rfl hl.1 rfl (Nat.le_of_ble_eq_true rfl) ⟨by decide, by decide⟩ ⟨Nat.le_of_ble_eq_true rfl, Nat.le_of_ble_eq_true rfl⟩ d_19_13_129) (fun u63 H locs hp64 V => ?_)
    obtain ⟨hI, hu68, f65, hA66, hE67⟩ := hp64
    replace hA66 : u63[k2]? = (some (q k2, .inl (g 0, N2.toNatClampNeg, .inl f65)) : Option (Nat × va_E)) := hA66
    have e69 : f65 = (F_WR_copy (528 : Int32) N2 lx46 t2_0) := hE67
    replace hO52 := (hu68 _ (by simp only [List.mem_cons, List.not_mem_nil, or_false, not_or]; omega)).trans hO52
    replace hF := q_uc hF hu68 (by simp)
    exact q_retv C0 V (⟨hI, hF, lx46, f65, hO52, hA66, (show (lx46, f65) = (F_WR_multiplyRows_a N2 N3 t0_0 t0_1 t0_2 t0_3 t0_4 t0_5 t0_6 t1_0 t2_0 t3_0) from Eq.trans (by rw [e69, F_WR_multiplyRows_a_L22.eq_2, if_pos c60]) hR55)⟩) d_19_13_132
  ·
    have b70 : q_F (lx45.toInt < a32.toInt) := (q_nleI c60)
    refine lv_lconst (v := 0) hx hb d_19_13_29 (by decide) ?_
    refine lv_lstore (lv' := [(7, .long 0), (6, .int lx45), (5, .int a39), (4, .int a32), (0, .ref (q 119)), (1, .ref (q k2)), (2, .ref (q k3)), (3, .ref (q k2))]) hx hb d_19_13_30 hl (by decide) rfl (fun ls hl => ?_)
    refine lv_iconst (v := 0) hx hb d_19_13_32 (by decide) ?_
    refine lv_istore (lv' := [(9, .int 0), (7, .long 0), (6, .int lx45), (5, .int a39), (4, .int a32), (0, .ref (q 119)), (1, .ref (q k2)), (2, .ref (q k3)), (3, .ref (q k2))]) hx hb d_19_13_33 hl (by decide) rfl (fun ls hl => ?_)
    refine q_loop (X := Int32 × Int64 × (Nat → Int32)) (fun z H locs ls w79 => q_F (0 ≤ z.1.toInt) ∧ q_F (z.1.toInt ≤ 2100) ∧ q_Wd D g (va_A ws sz) s w79 H locs ∧ lv_has ls 10 [(9, .int z.1), (7, .long z.2.1), (6, .int lx45), (5, .int a39), (4, .int a32), (0, .ref (q 119)), (1, .ref (q k2)), (2, .ref (q k3)), (3, .ref (q k2))] ∧ q_I (msh g q) q w79 ∧ q_un ws w79 [125, k2] ∧ w79[119]? = (some (q 119, .inr (13, [.int t0_0, .int t0_1, .ref (q 120), .int t0_2, .ref (q 121), .ref (q 122), .ref (q 123), .int t0_3, .ref (q 124), .ref (q 125), .ref (q 126), .ref (q 127), .ref (q 128), .ref (q 129), .ref (q 130), .ref (q 131), .int t0_4, .int t0_5, .ref (q 132), .ref (q 133), .int t0_6])) : Option (Nat × va_E)) ∧ w79[125]? = (some (q 125, .inl (g 0, (528 : Int32).toNatClampNeg, .inl z.2.2)) : Option (Nat × va_E)) ∧ w79[k2]? = (some (q k2, .inl (g 0, N2.toNatClampNeg, .inl t2_0)) : Option (Nat × va_E)) ∧ w79[k3]? = (some (q k3, .inl (g 0, N3.toNatClampNeg, .inl t3_0)) : Option (Nat × va_E)) ∧ (∃ n, (2100 - z.1.toInt).toNat < n ∧ F_WR_multiplyRows_a_L35 (F_WR_multiplyRows_a_L22 N2 N3 t0_0 t0_1 t0_2 t0_3 t0_4 t0_5 t0_6 t1_0 t2_0 t3_0 a39 a32 fm59) N2 N3 t0_0 t0_1 t0_2 t0_3 t0_4 t0_5 t0_6 t1_0 t2_0 t3_0 a39 a32 lx45 lx46 n z.1 z.2.1 z.2.2 = (F_WR_multiplyRows_a N2 N3 t0_0 t0_1 t0_2 t0_3 t0_4 t0_5 t0_6 t1_0 t2_0 t3_0) ∧ True ∧ S_WR_multiplyRows_a_L35 (S_WR_multiplyRows_a_L22 N2 N3 t0_0 t0_1 t0_2 t0_3 t0_4 t0_5 t0_6 t1_0 t2_0 t3_0 a39 a32 fm59) N2 N3 t0_0 t0_1 t0_2 t0_3 t0_4 t0_5 t0_6 t1_0 t2_0 t3_0 a39 a32 lx45 lx46 n z.1 z.2.1 z.2.2)) (fun z => (2100 - z.1.toInt).toNat) ?_ ((0 : Int32), (0 : Int64), (lx46 : (Nat → Int32))) _ _ _ w50 ⟨(show q_F (0 ≤ 0) from (show 0 ≤ 0 from by omega)), (show q_F (0 ≤ 2100) from (show 0 ≤ 2100 from by omega)), V, q_lw hl (q_lw1 0 rfl (q_lw1 1 rfl (q_lw1 2 rfl (q_lw1 3 rfl (q_lw1 4 rfl (q_lw1 5 rfl (q_lw1 6 rfl (q_lw1 7 rfl (q_lw1 8 rfl q_lw0))))))))), hI, hF, hO51, hO52, hO53, hO54, ⟨((2100 - (0 : Int32).toInt).toNat + 1), Nat.lt_succ_self _, (show F_WR_multiplyRows_a_L35 (F_WR_multiplyRows_a_L22 N2 N3 t0_0 t0_1 t0_2 t0_3 t0_4 t0_5 t0_6 t1_0 t2_0 t3_0 a39 a32 fm59) N2 N3 t0_0 t0_1 t0_2 t0_3 t0_4 t0_5 t0_6 t1_0 t2_0 t3_0 a39 a32 lx45 lx46 ((2100 - (0 : Int32).toInt).toNat + 1) 0 0 lx46 = (F_WR_multiplyRows_a N2 N3 t0_0 t0_1 t0_2 t0_3 t0_4 t0_5 t0_6 t1_0 t2_0 t3_0) from Eq.trans (by rw [F_WR_multiplyRows_a_L22.eq_2, if_neg c60]) hR55), (show True ∧ S_WR_multiplyRows_a_L35 (S_WR_multiplyRows_a_L22 N2 N3 t0_0 t0_1 t0_2 t0_3 t0_4 t0_5 t0_6 t1_0 t2_0 t3_0 a39 a32 fm59) N2 N3 t0_0 t0_1 t0_2 t0_3 t0_4 t0_5 t0_6 t1_0 t2_0 t3_0 a39 a32 lx45 lx46 ((2100 - (0 : Int32).toInt).toNat + 1) 0 0 lx46 from (by have h := hS56; rw [S_WR_multiplyRows_a_L22.eq_2] at h; rw [if_neg c60] at h; with_reducible exact h))⟩⟩
    rintro ⟨lx73, lx74, lx75⟩ H locs ls w79 ⟨i76, i77, V, hl, hI, hF, hO80, hO81, hO82, hO83, ⟨fu86, hf87, hR84, hS85⟩⟩ ih78
    obtain ⟨fm88, rfl⟩ : ∃ m, fu86 = m + 1 := ⟨fu86 - 1, by omega⟩
    replace i76 : q_F (0 ≤ lx73.toInt) := i76
    replace i77 : q_F (lx73.toInt ≤ 2100) := i77
    replace hl : lv_has ls 10 [(9, .int lx73), (7, .long lx74), (6, .int lx45), (5, .int a39), (4, .int a32), (0, .ref (q 119)), (1, .ref (q k2)), (2, .ref (q k3)), (3, .ref (q k2))] := hl
    replace hO80 : w79[119]? = (some (q 119, .inr (13, [.int t0_0, .int t0_1, .ref (q 120), .int t0_2, .ref (q 121), .ref (q 122), .ref (q 123), .int t0_3, .ref (q 124), .ref (q 125), .ref (q 126), .ref (q 127), .ref (q 128), .ref (q 129), .ref (q 130), .ref (q 131), .int t0_4, .int t0_5, .ref (q 132), .ref (q 133), .int t0_6])) : Option (Nat × va_E)) := hO80
    replace hO81 : w79[125]? = (some (q 125, .inl (g 0, (528 : Int32).toNatClampNeg, .inl lx75)) : Option (Nat × va_E)) := hO81
    replace hO82 : w79[k2]? = (some (q k2, .inl (g 0, N2.toNatClampNeg, .inl t2_0)) : Option (Nat × va_E)) := hO82
    replace hO83 : w79[k3]? = (some (q k3, .inl (g 0, N3.toNatClampNeg, .inl t3_0)) : Option (Nat × va_E)) := hO83
    refine lv_iload hx hb d_19_13_35 (lv_at hl 0 rfl) ?_
    refine lv_iload hx hb d_19_13_37 (lv_at hl 3 rfl) ?_
    refine q_join (X := Unit) (fun z H locs ls _ => q_Wd D g (va_A ws sz) s w79 H locs ∧ lv_has ls 10 [(9, .int lx73), (7, .long lx74), (6, .int lx45), (5, .int a39), (4, .int a32), (0, .ref (q 119)), (1, .ref (q k2)), (2, .ref (q k3)), (3, .ref (q k2))] ∧ F_WR_multiplyRows_a_J49 (F_WR_multiplyRows_a_L22 N2 N3 t0_0 t0_1 t0_2 t0_3 t0_4 t0_5 t0_6 t1_0 t2_0 t3_0 a39 a32 fm59) (F_WR_multiplyRows_a_L35 (F_WR_multiplyRows_a_L22 N2 N3 t0_0 t0_1 t0_2 t0_3 t0_4 t0_5 t0_6 t1_0 t2_0 t3_0 a39 a32 fm59) N2 N3 t0_0 t0_1 t0_2 t0_3 t0_4 t0_5 t0_6 t1_0 t2_0 t3_0 a39 a32 lx45 lx46 fm88) N2 N3 t0_0 t0_1 t0_2 t0_3 t0_4 t0_5 t0_6 t1_0 t2_0 t3_0 a39 a32 lx45 lx46 lx73 lx74 lx75 = (F_WR_multiplyRows_a N2 N3 t0_0 t0_1 t0_2 t0_3 t0_4 t0_5 t0_6 t1_0 t2_0 t3_0) ∧ True ∧ S_WR_multiplyRows_a_J49 (S_WR_multiplyRows_a_L22 N2 N3 t0_0 t0_1 t0_2 t0_3 t0_4 t0_5 t0_6 t1_0 t2_0 t3_0 a39 a32 fm59) (S_WR_multiplyRows_a_L35 (S_WR_multiplyRows_a_L22 N2 N3 t0_0 t0_1 t0_2 t0_3 t0_4 t0_5 t0_6 t1_0 t2_0 t3_0 a39 a32 fm59) N2 N3 t0_0 t0_1 t0_2 t0_3 t0_4 t0_5 t0_6 t1_0 t2_0 t3_0 a39 a32 lx45 lx46 fm88) N2 N3 t0_0 t0_1 t0_2 t0_3 t0_4 t0_5 t0_6 t1_0 t2_0 t3_0 a39 a32 lx45 lx46 lx73 lx74 lx75) (fun z => []) 49 0 0 ?_ ?_
    ·
      rintro _ H locs ls _ ⟨V, hl, hR94, hS95⟩
      replace hl : lv_has ls 10 [(9, .int lx73), (7, .long lx74), (6, .int lx45), (5, .int a39), (4, .int a32), (0, .ref (q 119)), (1, .ref (q k2)), (2, .ref (q k3)), (3, .ref (q k2))] := hl
      refine lv_lload hx hb d_19_13_49 (lv_at hl 1 rfl) ?_
      refine lv_aload_n hx hb d_19_13_51 rfl (lv_at hl 5 rfl) ?_
      refine q_get (ci := 13) (j := 9) (v := .ref (q 125)) C0 V i_WR rfl rfl hO80 (by decide) w_1933 rfl d_19_13_52 ?_
      refine lv_iload hx hb d_19_13_55 (lv_at hl 2 rfl) ?_
      refine lv_iload hx hb d_19_13_57 (lv_at hl 0 rfl) ?_
      refine lv_iadd hx hb d_19_13_59 ?_
      obtain ⟨a99, e100⟩ := q_nm (lx45 + lx73 : Int32)
      refine q_ti (v := a99) e100 ?_
      have b101 : q_F (a99.toInt = lx45.toInt + lx73.toInt) := (by rw [← e100]; show (lx45 + lx73 : Int32).toInt = lx45.toInt + lx73.toInt; exact q_addI (x := lx45.toInt) (y := lx73.toInt) rfl rfl (by have t1 : 0 ≤ lx45.toInt := i47; have t2 : 0 ≤ lx73.toInt := i76; have t3 : 0 ≤ N2.toInt ∧ N2.toInt ≤ 20200 := hfk20; have t4 : a32.toInt ≤ N2.toInt := b34; have t5 : lx45.toInt ≤ a32.toInt := i48; have t6 : lx73.toInt ≤ 2100 := i77; omega) (by have t1 : 0 ≤ lx45.toInt := i47; have t2 : 0 ≤ lx73.toInt := i76; have t3 : 0 ≤ N2.toInt ∧ N2.toInt ≤ 20200 := hfk20; have t4 : a32.toInt ≤ N2.toInt := b34; have t5 : lx45.toInt ≤ a32.toInt := i48; have t6 : lx73.toInt ≤ 2100 := i77; omega))
      have ob102 : q_F (a99.toInt ≤ 527) := (by rw [← e100]; have h := hS95; rw [S_WR_multiplyRows_a_J49.eq_1] at h; exact h.2.1)
      refine q_iald C0 V hO81 (q_ix (x := a99.toInt) rfl (by have t1 : 0 ≤ lx45.toInt := i47; have t2 : 0 ≤ lx73.toInt := i76; have t3 : a99.toInt = lx45.toInt + lx73.toInt := b101; omega) (by have t1 : 0 ≤ lx45.toInt := i47; have t2 : 0 ≤ lx73.toInt := i76; have t3 : a99.toInt = lx45.toInt + lx73.toInt := b101; have t4 : a99.toInt ≤ 527 := ob102; have e9 : (((528 : Int32).toNatClampNeg : Nat) : Int) = 528 := (by decide); omega)) d_19_13_60 ?_
      obtain ⟨a103, e104⟩ := q_nm (lx75 a99.toNatClampNeg : Int32)
      refine q_ti (v := a103) e104 ?_
      refine lv_i2l hx hb d_19_13_61 rfl ?_
      obtain ⟨j105, e106⟩ := q_nm (a103.toInt64 : Int64)
      refine q_tl (v := j105) e106 ?_
      refine lv_ladd hx hb d_19_13_62 ?_
      obtain ⟨j108, e109⟩ := q_nm (lx74 + j105 : Int64)
      refine q_tl (v := j108) e109 ?_
      refine lv_iload hx hb d_19_13_63 (lv_at hl 0 rfl) ?_
      refine lv_iload hx hb d_19_13_65 (lv_at hl 3 rfl) ?_
      refine q_join (X := Int64) (fun z H locs ls _ => q_Wd D g (va_A ws sz) s w79 H locs ∧ lv_has ls 10 [(9, .int lx73), (6, .int lx45), (5, .int a39), (4, .int a32), (0, .ref (q 119)), (1, .ref (q k2)), (2, .ref (q k3)), (3, .ref (q k2))] ∧ F_WR_multiplyRows_a_J85 (F_WR_multiplyRows_a_L22 N2 N3 t0_0 t0_1 t0_2 t0_3 t0_4 t0_5 t0_6 t1_0 t2_0 t3_0 a39 a32 fm59) (F_WR_multiplyRows_a_L35 (F_WR_multiplyRows_a_L22 N2 N3 t0_0 t0_1 t0_2 t0_3 t0_4 t0_5 t0_6 t1_0 t2_0 t3_0 a39 a32 fm59) N2 N3 t0_0 t0_1 t0_2 t0_3 t0_4 t0_5 t0_6 t1_0 t2_0 t3_0 a39 a32 lx45 lx46 fm88) N2 N3 t0_0 t0_1 t0_2 t0_3 t0_4 t0_5 t0_6 t1_0 t2_0 t3_0 a39 a32 lx45 lx46 lx73 lx74 lx75 j108 z = (F_WR_multiplyRows_a N2 N3 t0_0 t0_1 t0_2 t0_3 t0_4 t0_5 t0_6 t1_0 t2_0 t3_0) ∧ True ∧ S_WR_multiplyRows_a_J85 (S_WR_multiplyRows_a_L22 N2 N3 t0_0 t0_1 t0_2 t0_3 t0_4 t0_5 t0_6 t1_0 t2_0 t3_0 a39 a32 fm59) (S_WR_multiplyRows_a_L35 (S_WR_multiplyRows_a_L22 N2 N3 t0_0 t0_1 t0_2 t0_3 t0_4 t0_5 t0_6 t1_0 t2_0 t3_0 a39 a32 fm59) N2 N3 t0_0 t0_1 t0_2 t0_3 t0_4 t0_5 t0_6 t1_0 t2_0 t3_0 a39 a32 lx45 lx46 fm88) N2 N3 t0_0 t0_1 t0_2 t0_3 t0_4 t0_5 t0_6 t1_0 t2_0 t3_0 a39 a32 lx45 lx46 lx73 lx74 lx75 j108 z) (fun z => [.long z, .long j108]) 85 0 0 ?_ ?_
      ·
        rintro lx110 H locs ls _ ⟨V, hl, hR116, hS117⟩
        replace hl : lv_has ls 10 [(9, .int lx73), (6, .int lx45), (5, .int a39), (4, .int a32), (0, .ref (q 119)), (1, .ref (q k2)), (2, .ref (q k3)), (3, .ref (q k2))] := hl
        refine lv_ladd hx hb d_19_13_85 ?_
        obtain ⟨j121, e122⟩ := q_nm (j108 + lx110 : Int64)
        refine q_tl (v := j121) e122 ?_
        refine lv_lstore (lv' := [(7, .long j121), (9, .int lx73), (6, .int lx45), (5, .int a39), (4, .int a32), (0, .ref (q 119)), (1, .ref (q k2)), (2, .ref (q k3)), (3, .ref (q k2))]) hx hb d_19_13_86 hl (by decide) rfl (fun ls hl => ?_)
        refine lv_aload_n hx hb d_19_13_88 rfl (lv_at hl 5 rfl) ?_
        refine q_get (ci := 13) (j := 9) (v := .ref (q 125)) C0 V i_WR rfl rfl hO80 (by decide) w_1933 rfl d_19_13_89 ?_
        refine lv_iload hx hb d_19_13_92 (lv_at hl 2 rfl) ?_
        refine lv_iload hx hb d_19_13_94 (lv_at hl 1 rfl) ?_
        refine lv_iadd hx hb d_19_13_96 ?_
        obtain ⟨a123, e124⟩ := q_nm (lx45 + lx73 : Int32)
        refine q_ti (v := a123) e124 ?_
        have b125 : q_F (a123.toInt = lx45.toInt + lx73.toInt) := (by rw [← e124]; show (lx45 + lx73 : Int32).toInt = lx45.toInt + lx73.toInt; exact q_addI (x := lx45.toInt) (y := lx73.toInt) rfl rfl (by have t1 : 0 ≤ lx45.toInt := i47; have t2 : 0 ≤ lx73.toInt := i76; have t3 : a99.toInt = lx45.toInt + lx73.toInt := b101; have _ := q_lo32 (x := a99); have _ := q_hi32 (x := a99); omega) (by have t1 : 0 ≤ lx45.toInt := i47; have t2 : 0 ≤ lx73.toInt := i76; have t3 : a99.toInt = lx45.toInt + lx73.toInt := b101; have _ := q_lo32 (x := a99); have _ := q_hi32 (x := a99); omega))
        refine lv_lload hx hb d_19_13_97 (lv_at hl 0 rfl) ?_
        refine q_ldc2 C0 rfl w_2384 d_19_13_99 ?_
        refine lv_land hx hb d_19_13_102 ?_
        obtain ⟨j126, e127⟩ := q_nm (j121 &&& 65535 : Int64)
        refine q_tl (v := j126) e127 ?_
        refine lv_l2i hx hb d_19_13_103 rfl ?_
        obtain ⟨a129, e130⟩ := q_nm (j126.toInt32 : Int32)
        refine q_ti (v := a129) e130 ?_
        refine q_iast C0 V hO81 (q_ix (x := a123.toInt) rfl (by have t1 : 0 ≤ lx45.toInt := i47; have t2 : 0 ≤ lx73.toInt := i76; have t3 : a123.toInt = lx45.toInt + lx73.toInt := b125; omega) (by have t1 : 0 ≤ lx45.toInt := i47; have t2 : 0 ≤ lx73.toInt := i76; have t3 : a123.toInt = lx45.toInt + lx73.toInt := b125; have t4 : a99.toInt = lx45.toInt + lx73.toInt := b101; have t5 : a99.toInt ≤ 527 := ob102; have e9 : (((528 : Int32).toNatClampNeg : Nat) : Int) = 528 := (by decide); omega)) d_19_13_104 (fun H locs w132 hu133 hO81 V => ?_)
        replace hI := n_ai' hI (n_r125 g q).1 hu133 hO81 (q_updB (fun _ => s_bnd) s_bnd)
        replace hO80 := (hu133 _ (by decide)).trans hO80
        replace hO82 := (hu133 _ (by have z := ne_k2_125; omega)).trans hO82
        replace hO83 := (hu133 _ (by have z := ne_k3_125; omega)).trans hO83
        replace hF := q_us hF hu133 (by simp)
        obtain ⟨f134, e135⟩ := q_nm (upd lx75 a123.toNatClampNeg a129 : (Nat → Int32))
        rw [e135] at hO81
        refine lv_lload hx hb d_19_13_105 (lv_at hl 0 rfl) ?_
        refine lv_bipush (v := 16) hx hb d_19_13_107 (by decide) ?_
        refine lv_lshr hx hb d_19_13_109 rfl ?_
        obtain ⟨j136, e137⟩ := q_nm (j121 >>> ((16 : Int32).toInt64 &&& 63) : Int64)
        refine q_tl (v := j136) e137 ?_
        refine lv_lstore (lv' := [(7, .long j136), (9, .int lx73), (6, .int lx45), (5, .int a39), (4, .int a32), (0, .ref (q 119)), (1, .ref (q k2)), (2, .ref (q k3)), (3, .ref (q k2))]) hx hb d_19_13_110 hl (by decide) rfl (fun ls hl => ?_)
        obtain ⟨a138, e139⟩ := q_nm (lx73 + 1 : Int32)
        have b140 : q_F (a138.toInt = lx73.toInt + 1) := (by rw [← e139]; exact q_addI (y := 1) rfl (by decide) (by have t1 : 0 ≤ lx73.toInt := i76; have t2 : lx73.toInt ≤ 2100 := i77; omega) (by have t1 : 0 ≤ lx73.toInt := i76; have t2 : lx73.toInt ≤ 2100 := i77; omega))
        refine lv_iinc (v := a138) (lv' := [(9, .int a138), (7, .long j136), (6, .int lx45), (5, .int a39), (4, .int a32), (0, .ref (q 119)), (1, .ref (q k2)), (2, .ref (q k3)), (3, .ref (q k2))]) hx hb d_19_13_112 hl (k := 1) rfl (e139) (by decide) rfl (fun ls hl => ?_)
        refine lv_goto (tgt := 35) hx hb d_19_13_115 (by decide) ?_
        exact ih78 ((a138 : Int32), (j136 : Int64), (f134 : (Nat → Int32))) _ _ _ _ (show (2100 - a138.toInt).toNat < (2100 - lx73.toInt).toNat from by have t1 : a138.toInt = lx73.toInt + 1 := b140; have t2 : lx73.toInt ≤ 2100 := i77; have t3 : 0 ≤ lx45.toInt := i47; have t4 : a99.toInt = lx45.toInt + lx73.toInt := b101; have t5 : a99.toInt ≤ 527 := ob102; omega) ⟨(show q_F (0 ≤ a138.toInt) from (show 0 ≤ a138.toInt from by have t1 : 0 ≤ lx73.toInt := i76; have t2 : a138.toInt = lx73.toInt + 1 := b140; omega)), (show q_F (a138.toInt ≤ 2100) from (show a138.toInt ≤ 2100 from by have t1 : 0 ≤ lx45.toInt := i47; have t2 : a99.toInt = lx45.toInt + lx73.toInt := b101; have t3 : a99.toInt ≤ 527 := ob102; have t4 : a138.toInt = lx73.toInt + 1 := b140; omega)), V, q_lw hl (q_lw1 0 rfl (q_lw1 1 rfl (q_lw1 2 rfl (q_lw1 3 rfl (q_lw1 4 rfl (q_lw1 5 rfl (q_lw1 6 rfl (q_lw1 7 rfl (q_lw1 8 rfl q_lw0))))))))), hI, hF, hO80, hO81, hO82, hO83, ⟨fm88, Nat.lt_of_lt_of_le (show (2100 - a138.toInt).toNat < (2100 - lx73.toInt).toNat from by have t1 : a138.toInt = lx73.toInt + 1 := b140; have t2 : lx73.toInt ≤ 2100 := i77; have t3 : 0 ≤ lx45.toInt := i47; have t4 : a99.toInt = lx45.toInt + lx73.toInt := b101; have t5 : a99.toInt ≤ 527 := ob102; omega) (Nat.le_of_lt_succ hf87), (show F_WR_multiplyRows_a_L35 (F_WR_multiplyRows_a_L22 N2 N3 t0_0 t0_1 t0_2 t0_3 t0_4 t0_5 t0_6 t1_0 t2_0 t3_0 a39 a32 fm59) N2 N3 t0_0 t0_1 t0_2 t0_3 t0_4 t0_5 t0_6 t1_0 t2_0 t3_0 a39 a32 lx45 lx46 fm88 a138 j136 f134 = (F_WR_multiplyRows_a N2 N3 t0_0 t0_1 t0_2 t0_3 t0_4 t0_5 t0_6 t1_0 t2_0 t3_0) from Eq.trans (by rw [← e139, ← e137, ← e135, ← e130, ← e127, ← e124, ← e122, F_WR_multiplyRows_a_J85.eq_1]) hR116), (show True ∧ S_WR_multiplyRows_a_L35 (S_WR_multiplyRows_a_L22 N2 N3 t0_0 t0_1 t0_2 t0_3 t0_4 t0_5 t0_6 t1_0 t2_0 t3_0 a39 a32 fm59) N2 N3 t0_0 t0_1 t0_2 t0_3 t0_4 t0_5 t0_6 t1_0 t2_0 t3_0 a39 a32 lx45 lx46 fm88 a138 j136 f134 from (by rw [← e139, ← e137, ← e135, ← e130, ← e127, ← e124, ← e122]; have h := hS117; rw [S_WR_multiplyRows_a_J85.eq_1] at h; with_reducible exact h))⟩⟩
      ·
        intro J115
        refine lv_icmp_ge (tgt := 84) hx hb d_19_13_67 (by decide) (fun c141 => ?_) (fun c141 => ?_)
        ·
          refine lv_lconst (v := 0) hx hb d_19_13_84 (by decide) ?_
          exact J115 ((0 : Int64)) _ _ _ w79 ⟨V, q_lw hl (q_lw1 0 rfl (q_lw1 2 rfl (q_lw1 3 rfl (q_lw1 4 rfl (q_lw1 5 rfl (q_lw1 6 rfl (q_lw1 7 rfl (q_lw1 8 rfl q_lw0)))))))), (show F_WR_multiplyRows_a_J85 (F_WR_multiplyRows_a_L22 N2 N3 t0_0 t0_1 t0_2 t0_3 t0_4 t0_5 t0_6 t1_0 t2_0 t3_0 a39 a32 fm59) (F_WR_multiplyRows_a_L35 (F_WR_multiplyRows_a_L22 N2 N3 t0_0 t0_1 t0_2 t0_3 t0_4 t0_5 t0_6 t1_0 t2_0 t3_0 a39 a32 fm59) N2 N3 t0_0 t0_1 t0_2 t0_3 t0_4 t0_5 t0_6 t1_0 t2_0 t3_0 a39 a32 lx45 lx46 fm88) N2 N3 t0_0 t0_1 t0_2 t0_3 t0_4 t0_5 t0_6 t1_0 t2_0 t3_0 a39 a32 lx45 lx46 lx73 lx74 lx75 j108 0 = (F_WR_multiplyRows_a N2 N3 t0_0 t0_1 t0_2 t0_3 t0_4 t0_5 t0_6 t1_0 t2_0 t3_0) from Eq.trans (by rw [← e109, ← e106, ← e104, ← e100, F_WR_multiplyRows_a_J49.eq_1, if_pos c141]) hR94), (show True ∧ S_WR_multiplyRows_a_J85 (S_WR_multiplyRows_a_L22 N2 N3 t0_0 t0_1 t0_2 t0_3 t0_4 t0_5 t0_6 t1_0 t2_0 t3_0 a39 a32 fm59) (S_WR_multiplyRows_a_L35 (S_WR_multiplyRows_a_L22 N2 N3 t0_0 t0_1 t0_2 t0_3 t0_4 t0_5 t0_6 t1_0 t2_0 t3_0 a39 a32 fm59) N2 N3 t0_0 t0_1 t0_2 t0_3 t0_4 t0_5 t0_6 t1_0 t2_0 t3_0 a39 a32 lx45 lx46 fm88) N2 N3 t0_0 t0_1 t0_2 t0_3 t0_4 t0_5 t0_6 t1_0 t2_0 t3_0 a39 a32 lx45 lx46 lx73 lx74 lx75 j108 0 from (by rw [← e109, ← e106, ← e104, ← e100]; have h := hS95; rw [S_WR_multiplyRows_a_J49.eq_1] at h; replace h := q_s2 h; rw [if_pos c141] at h; with_reducible exact h))⟩
        ·
          have b143 : q_F (lx73.toInt < a39.toInt) := (q_nleI c141)
          refine lv_aload_n hx hb d_19_13_70 rfl (lv_at hl 6 rfl) ?_
          refine lv_iload hx hb d_19_13_71 (lv_at hl 2 rfl) ?_
          refine q_iald C0 V hO82 (q_ix (x := lx45.toInt) rfl (by first | with_reducible exact q_fe i47 | (have t1 : 0 ≤ lx45.toInt := i47; omega)) (by have t1 : 0 ≤ lx45.toInt := i47; have t2 : a32.toInt ≤ N2.toInt := b34; have t3 : lx45.toInt < a32.toInt := b70; have e9 := q_clI (i := N2) rfl (by first | with_reducible exact (q_fe hfk20).2 | with_reducible exact (q_fe hfk20).1 | (have t1 : 0 ≤ N2.toInt ∧ N2.toInt ≤ 20200 := hfk20; omega)); omega)) d_19_13_73 ?_
          obtain ⟨a144, e145⟩ := q_nm (t2_0 lx45.toNatClampNeg : Int32)
          refine q_ti (v := a144) e145 ?_
          refine lv_i2l hx hb d_19_13_74 rfl ?_
          obtain ⟨j146, e147⟩ := q_nm (a144.toInt64 : Int64)
          refine q_tl (v := j146) e147 ?_
          refine lv_aload_n hx hb d_19_13_75 rfl (lv_at hl 7 rfl) ?_
          refine lv_iload hx hb d_19_13_76 (lv_at hl 0 rfl) ?_
          refine q_iald C0 V hO83 (q_ix (x := lx73.toInt) rfl (by first | with_reducible exact q_fe i76 | (have t1 : 0 ≤ lx73.toInt := i76; omega)) (by have t1 : 0 ≤ lx73.toInt := i76; have t2 : a39.toInt ≤ N3.toInt := b41; have t3 : lx73.toInt < a39.toInt := b143; have e9 := q_clI (i := N3) rfl (by first | with_reducible exact (q_fe hfk30).2 | with_reducible exact (q_fe hfk30).1 | (have t1 : 0 ≤ N3.toInt ∧ N3.toInt ≤ 20200 := hfk30; omega)); omega)) d_19_13_78 ?_
          obtain ⟨a149, e150⟩ := q_nm (t3_0 lx73.toNatClampNeg : Int32)
          refine q_ti (v := a149) e150 ?_
          refine lv_i2l hx hb d_19_13_79 rfl ?_
          obtain ⟨j151, e152⟩ := q_nm (a149.toInt64 : Int64)
          refine q_tl (v := j151) e152 ?_
          refine lv_lmul hx hb d_19_13_80 ?_
          obtain ⟨j154, e155⟩ := q_nm (j146 * j151 : Int64)
          refine q_tl (v := j154) e155 ?_
          refine lv_goto (tgt := 85) hx hb d_19_13_81 (by decide) ?_
          exact J115 ((j154 : Int64)) _ _ _ w79 ⟨V, q_lw hl (q_lw1 0 rfl (q_lw1 2 rfl (q_lw1 3 rfl (q_lw1 4 rfl (q_lw1 5 rfl (q_lw1 6 rfl (q_lw1 7 rfl (q_lw1 8 rfl q_lw0)))))))), (show F_WR_multiplyRows_a_J85 (F_WR_multiplyRows_a_L22 N2 N3 t0_0 t0_1 t0_2 t0_3 t0_4 t0_5 t0_6 t1_0 t2_0 t3_0 a39 a32 fm59) (F_WR_multiplyRows_a_L35 (F_WR_multiplyRows_a_L22 N2 N3 t0_0 t0_1 t0_2 t0_3 t0_4 t0_5 t0_6 t1_0 t2_0 t3_0 a39 a32 fm59) N2 N3 t0_0 t0_1 t0_2 t0_3 t0_4 t0_5 t0_6 t1_0 t2_0 t3_0 a39 a32 lx45 lx46 fm88) N2 N3 t0_0 t0_1 t0_2 t0_3 t0_4 t0_5 t0_6 t1_0 t2_0 t3_0 a39 a32 lx45 lx46 lx73 lx74 lx75 j108 j154 = (F_WR_multiplyRows_a N2 N3 t0_0 t0_1 t0_2 t0_3 t0_4 t0_5 t0_6 t1_0 t2_0 t3_0) from Eq.trans (by rw [← e155, ← e152, ← e150, ← e147, ← e145, ← e109, ← e106, ← e104, ← e100, F_WR_multiplyRows_a_J49.eq_1, if_neg c141]) hR94), (show True ∧ S_WR_multiplyRows_a_J85 (S_WR_multiplyRows_a_L22 N2 N3 t0_0 t0_1 t0_2 t0_3 t0_4 t0_5 t0_6 t1_0 t2_0 t3_0 a39 a32 fm59) (S_WR_multiplyRows_a_L35 (S_WR_multiplyRows_a_L22 N2 N3 t0_0 t0_1 t0_2 t0_3 t0_4 t0_5 t0_6 t1_0 t2_0 t3_0 a39 a32 fm59) N2 N3 t0_0 t0_1 t0_2 t0_3 t0_4 t0_5 t0_6 t1_0 t2_0 t3_0 a39 a32 lx45 lx46 fm88) N2 N3 t0_0 t0_1 t0_2 t0_3 t0_4 t0_5 t0_6 t1_0 t2_0 t3_0 a39 a32 lx45 lx46 lx73 lx74 lx75 j108 j154 from (by rw [← e155, ← e152, ← e150, ← e147, ← e145, ← e109, ← e106, ← e104, ← e100]; have h := hS95; rw [S_WR_multiplyRows_a_J49.eq_1] at h; replace h := q_s2 h; rw [if_neg c141] at h; with_reducible exact h))⟩
    ·
      intro J93
      refine lv_icmp_lt (tgt := 49) hx hb d_19_13_39 (by decide) (fun c156 => ?_) (fun c156 => ?_)
      ·
        exact J93 (()) _ _ _ w79 ⟨V, q_lw hl (q_lw1 0 rfl (q_lw1 1 rfl (q_lw1 2 rfl (q_lw1 3 rfl (q_lw1 4 rfl (q_lw1 5 rfl (q_lw1 6 rfl (q_lw1 7 rfl (q_lw1 8 rfl q_lw0))))))))), (show F_WR_multiplyRows_a_J49 (F_WR_multiplyRows_a_L22 N2 N3 t0_0 t0_1 t0_2 t0_3 t0_4 t0_5 t0_6 t1_0 t2_0 t3_0 a39 a32 fm59) (F_WR_multiplyRows_a_L35 (F_WR_multiplyRows_a_L22 N2 N3 t0_0 t0_1 t0_2 t0_3 t0_4 t0_5 t0_6 t1_0 t2_0 t3_0 a39 a32 fm59) N2 N3 t0_0 t0_1 t0_2 t0_3 t0_4 t0_5 t0_6 t1_0 t2_0 t3_0 a39 a32 lx45 lx46 fm88) N2 N3 t0_0 t0_1 t0_2 t0_3 t0_4 t0_5 t0_6 t1_0 t2_0 t3_0 a39 a32 lx45 lx46 lx73 lx74 lx75 = (F_WR_multiplyRows_a N2 N3 t0_0 t0_1 t0_2 t0_3 t0_4 t0_5 t0_6 t1_0 t2_0 t3_0) from Eq.trans (by rw [F_WR_multiplyRows_a_L35.eq_2, if_pos c156]) hR84), (show True ∧ S_WR_multiplyRows_a_J49 (S_WR_multiplyRows_a_L22 N2 N3 t0_0 t0_1 t0_2 t0_3 t0_4 t0_5 t0_6 t1_0 t2_0 t3_0 a39 a32 fm59) (S_WR_multiplyRows_a_L35 (S_WR_multiplyRows_a_L22 N2 N3 t0_0 t0_1 t0_2 t0_3 t0_4 t0_5 t0_6 t1_0 t2_0 t3_0 a39 a32 fm59) N2 N3 t0_0 t0_1 t0_2 t0_3 t0_4 t0_5 t0_6 t1_0 t2_0 t3_0 a39 a32 lx45 lx46 fm88) N2 N3 t0_0 t0_1 t0_2 t0_3 t0_4 t0_5 t0_6 t1_0 t2_0 t3_0 a39 a32 lx45 lx46 lx73 lx74 lx75 from (by have h := hS85; rw [S_WR_multiplyRows_a_L35.eq_2] at h; rw [if_pos c156] at h; with_reducible exact h))⟩
      ·
        refine lv_lload hx hb d_19_13_42 (lv_at hl 1 rfl) ?_
        refine lv_lconst (v := 0) hx hb d_19_13_44 (by decide) ?_
        refine W.lcmp hx hb d_19_13_45 ?_
        obtain ⟨a159, e160⟩ := q_nm (lg_cmp lx74 0 : Int32)
        refine q_ti (v := a159) e160 ?_
        refine lv_if_eq (tgt := 118) hx hb d_19_13_46 (by decide) (fun c162 => ?_) (fun c162 => ?_)
        ·
          obtain ⟨a164, e165⟩ := q_nm (lx45 + 1 : Int32)
          have b166 : q_F (a164.toInt = lx45.toInt + 1) := (by rw [← e165]; exact q_addI (y := 1) rfl (by decide) (by have t1 : 0 ≤ lx45.toInt := i47; have t2 : lx45.toInt < a32.toInt := b70; have _ := q_lo32 (x := a32); have _ := q_hi32 (x := a32); omega) (by have t1 : 0 ≤ lx45.toInt := i47; have t2 : lx45.toInt < a32.toInt := b70; have _ := q_lo32 (x := a32); have _ := q_hi32 (x := a32); omega))
          refine lv_iinc (v := a164) (lv' := [(6, .int a164), (9, .int lx73), (7, .long lx74), (5, .int a39), (4, .int a32), (0, .ref (q 119)), (1, .ref (q k2)), (2, .ref (q k3)), (3, .ref (q k2))]) hx hb d_19_13_118 hl (k := 2) rfl (e165) (by decide) rfl (fun ls hl => ?_)
          refine lv_goto (tgt := 22) hx hb d_19_13_121 (by decide) ?_
          exact ih49 ((a164 : Int32), (lx75 : (Nat → Int32))) _ _ _ _ (show (20200 - a164.toInt).toNat < (20200 - lx45.toInt).toNat from by have t1 : a164.toInt = lx45.toInt + 1 := b166; have t2 : 0 ≤ N2.toInt ∧ N2.toInt ≤ 20200 := hfk20; have t3 : a32.toInt ≤ N2.toInt := b34; have t4 : lx45.toInt ≤ a32.toInt := i48; have t5 : lx45.toInt < a32.toInt := b70; omega) ⟨(show q_F (0 ≤ a164.toInt) from (show 0 ≤ a164.toInt from by have t1 : 0 ≤ lx45.toInt := i47; have t2 : a164.toInt = lx45.toInt + 1 := b166; omega)), (show q_F (a164.toInt ≤ a32.toInt) from (show a164.toInt ≤ a32.toInt from by have t1 : lx45.toInt < a32.toInt := b70; have t2 : a164.toInt = lx45.toInt + 1 := b166; omega)), V, q_lw hl (q_lw1 0 rfl (q_lw1 3 rfl (q_lw1 4 rfl (q_lw1 5 rfl (q_lw1 6 rfl (q_lw1 7 rfl (q_lw1 8 rfl q_lw0))))))), hI, hF, hO80, hO81, hO82, hO83, ⟨fm59, Nat.lt_of_lt_of_le (show (20200 - a164.toInt).toNat < (20200 - lx45.toInt).toNat from by have t1 : a164.toInt = lx45.toInt + 1 := b166; have t2 : 0 ≤ N2.toInt ∧ N2.toInt ≤ 20200 := hfk20; have t3 : a32.toInt ≤ N2.toInt := b34; have t4 : lx45.toInt ≤ a32.toInt := i48; have t5 : lx45.toInt < a32.toInt := b70; omega) (Nat.le_of_lt_succ hf58), (show F_WR_multiplyRows_a_L22 N2 N3 t0_0 t0_1 t0_2 t0_3 t0_4 t0_5 t0_6 t1_0 t2_0 t3_0 a39 a32 fm59 a164 lx75 = (F_WR_multiplyRows_a N2 N3 t0_0 t0_1 t0_2 t0_3 t0_4 t0_5 t0_6 t1_0 t2_0 t3_0) from Eq.trans (by have c162x := c162; rw [← e160] at c162x; rw [← e165, F_WR_multiplyRows_a_L35.eq_2, if_neg c156, if_pos c162x]) hR84), (show True ∧ S_WR_multiplyRows_a_L22 N2 N3 t0_0 t0_1 t0_2 t0_3 t0_4 t0_5 t0_6 t1_0 t2_0 t3_0 a39 a32 fm59 a164 lx75 from (by rw [← e165]; have h := hS85; rw [S_WR_multiplyRows_a_L35.eq_2] at h; rw [if_neg c156] at h; have c162x := c162; rw [← e160] at c162x; rw [if_pos c162x] at h; with_reducible exact h))⟩⟩
        ·
          exact J93 (()) _ _ _ w79 ⟨V, q_lw hl (q_lw1 0 rfl (q_lw1 1 rfl (q_lw1 2 rfl (q_lw1 3 rfl (q_lw1 4 rfl (q_lw1 5 rfl (q_lw1 6 rfl (q_lw1 7 rfl (q_lw1 8 rfl q_lw0))))))))), (show F_WR_multiplyRows_a_J49 (F_WR_multiplyRows_a_L22 N2 N3 t0_0 t0_1 t0_2 t0_3 t0_4 t0_5 t0_6 t1_0 t2_0 t3_0 a39 a32 fm59) (F_WR_multiplyRows_a_L35 (F_WR_multiplyRows_a_L22 N2 N3 t0_0 t0_1 t0_2 t0_3 t0_4 t0_5 t0_6 t1_0 t2_0 t3_0 a39 a32 fm59) N2 N3 t0_0 t0_1 t0_2 t0_3 t0_4 t0_5 t0_6 t1_0 t2_0 t3_0 a39 a32 lx45 lx46 fm88) N2 N3 t0_0 t0_1 t0_2 t0_3 t0_4 t0_5 t0_6 t1_0 t2_0 t3_0 a39 a32 lx45 lx46 lx73 lx74 lx75 = (F_WR_multiplyRows_a N2 N3 t0_0 t0_1 t0_2 t0_3 t0_4 t0_5 t0_6 t1_0 t2_0 t3_0) from Eq.trans (by have c162x := c162; rw [← e160] at c162x; rw [F_WR_multiplyRows_a_L35.eq_2, if_neg c156, if_neg c162x]) hR84), (show True ∧ S_WR_multiplyRows_a_J49 (S_WR_multiplyRows_a_L22 N2 N3 t0_0 t0_1 t0_2 t0_3 t0_4 t0_5 t0_6 t1_0 t2_0 t3_0 a39 a32 fm59) (S_WR_multiplyRows_a_L35 (S_WR_multiplyRows_a_L22 N2 N3 t0_0 t0_1 t0_2 t0_3 t0_4 t0_5 t0_6 t1_0 t2_0 t3_0 a39 a32 fm59) N2 N3 t0_0 t0_1 t0_2 t0_3 t0_4 t0_5 t0_6 t1_0 t2_0 t3_0 a39 a32 lx45 lx46 fm88) N2 N3 t0_0 t0_1 t0_2 t0_3 t0_4 t0_5 t0_6 t1_0 t2_0 t3_0 a39 a32 lx45 lx46 lx73 lx74 lx75 from (by have h := hS85; rw [S_WR_multiplyRows_a_L35.eq_2] at h; rw [if_neg c156] at h; have c162x := c162; rw [← e160] at c162x; rw [if_neg c162x] at h; with_reducible exact h))⟩
def F_WR_multiplyRows_b_J85 (K_F_WR_multiplyRows_b_L22 : Int32 → (Nat → Int32) → ((Nat → Int32) × (Nat → Int32))) (K_F_WR_multiplyRows_b_L35 : Int32 → Int64 → (Nat → Int32) → ((Nat → Int32) × (Nat → Int32))) (N2 : Int32) (N4 : Int32) (t0_0 : Int32) (t0_1 : Int32) (t0_2 : Int32) (t0_3 : Int32) (t0_4 : Int32) (t0_5 : Int32) (t0_6 : Int32) (t1_0 : (Nat → Int32)) (t2_0 : (Nat → Int32)) (t3_0 : (Nat → Int32)) (a39 : Int32) (a32 : Int32) (lx45 : Int32) (lx46 : (Nat → Int32)) (lx73 : Int32) (lx74 : Int64) (lx75 : (Nat → Int32)) (j108 : Int64) (lx110 : Int64) : (Nat → Int32) × (Nat → Int32) := K_F_WR_multiplyRows_b_L35 (lx73 + 1 : Int32) ((j108 + lx110 : Int64) >>> ((16 : Int32).toInt64 &&& 63) : Int64) (upd lx75 (lx45 + lx73 : Int32).toNatClampNeg (((j108 + lx110 : Int64) &&& 65535 : Int64).toInt32 : Int32) : (Nat → Int32))
def F_WR_multiplyRows_b_J49 (K_F_WR_multiplyRows_b_L22 : Int32 → (Nat → Int32) → ((Nat → Int32) × (Nat → Int32))) (K_F_WR_multiplyRows_b_L35 : Int32 → Int64 → (Nat → Int32) → ((Nat → Int32) × (Nat → Int32))) (N2 : Int32) (N4 : Int32) (t0_0 : Int32) (t0_1 : Int32) (t0_2 : Int32) (t0_3 : Int32) (t0_4 : Int32) (t0_5 : Int32) (t0_6 : Int32) (t1_0 : (Nat → Int32)) (t2_0 : (Nat → Int32)) (t3_0 : (Nat → Int32)) (a39 : Int32) (a32 : Int32) (lx45 : Int32) (lx46 : (Nat → Int32)) (lx73 : Int32) (lx74 : Int64) (lx75 : (Nat → Int32)) : (Nat → Int32) × (Nat → Int32) := if a39 ≤ lx73 then (F_WR_multiplyRows_b_J85 K_F_WR_multiplyRows_b_L22 K_F_WR_multiplyRows_b_L35 N2 N4 t0_0 t0_1 t0_2 t0_3 t0_4 t0_5 t0_6 t1_0 t2_0 t3_0 a39 a32 lx45 lx46 lx73 lx74 lx75 (lx74 + ((lx75 (lx45 + lx73 : Int32).toNatClampNeg : Int32).toInt64 : Int64) : Int64) 0) else (F_WR_multiplyRows_b_J85 K_F_WR_multiplyRows_b_L22 K_F_WR_multiplyRows_b_L35 N2 N4 t0_0 t0_1 t0_2 t0_3 t0_4 t0_5 t0_6 t1_0 t2_0 t3_0 a39 a32 lx45 lx46 lx73 lx74 lx75 (lx74 + ((lx75 (lx45 + lx73 : Int32).toNatClampNeg : Int32).toInt64 : Int64) : Int64) (((t2_0 lx45.toNatClampNeg : Int32).toInt64 : Int64) * ((t2_0 lx73.toNatClampNeg : Int32).toInt64 : Int64) : Int64))
def F_WR_multiplyRows_b_L35 (K_F_WR_multiplyRows_b_L22 : Int32 → (Nat → Int32) → ((Nat → Int32) × (Nat → Int32))) (N2 : Int32) (N4 : Int32) (t0_0 : Int32) (t0_1 : Int32) (t0_2 : Int32) (t0_3 : Int32) (t0_4 : Int32) (t0_5 : Int32) (t0_6 : Int32) (t1_0 : (Nat → Int32)) (t2_0 : (Nat → Int32)) (t3_0 : (Nat → Int32)) (a39 : Int32) (a32 : Int32) (lx45 : Int32) (lx46 : (Nat → Int32)) : Nat → Int32 → Int64 → (Nat → Int32) → ((Nat → Int32) × (Nat → Int32))
  | 0, _, _, _ => default
  | fm + 1, lx73, lx74, lx75 => if lx73 < a39 then (F_WR_multiplyRows_b_J49 K_F_WR_multiplyRows_b_L22 (F_WR_multiplyRows_b_L35 K_F_WR_multiplyRows_b_L22 N2 N4 t0_0 t0_1 t0_2 t0_3 t0_4 t0_5 t0_6 t1_0 t2_0 t3_0 a39 a32 lx45 lx46 fm) N2 N4 t0_0 t0_1 t0_2 t0_3 t0_4 t0_5 t0_6 t1_0 t2_0 t3_0 a39 a32 lx45 lx46 lx73 lx74 lx75) else (if (lg_cmp lx74 0 : Int32) = (0 : Int32) then (K_F_WR_multiplyRows_b_L22 (lx45 + 1 : Int32) lx75) else (F_WR_multiplyRows_b_J49 K_F_WR_multiplyRows_b_L22 (F_WR_multiplyRows_b_L35 K_F_WR_multiplyRows_b_L22 N2 N4 t0_0 t0_1 t0_2 t0_3 t0_4 t0_5 t0_6 t1_0 t2_0 t3_0 a39 a32 lx45 lx46 fm) N2 N4 t0_0 t0_1 t0_2 t0_3 t0_4 t0_5 t0_6 t1_0 t2_0 t3_0 a39 a32 lx45 lx46 lx73 lx74 lx75))
def F_WR_multiplyRows_b_L22 (N2 : Int32) (N4 : Int32) (t0_0 : Int32) (t0_1 : Int32) (t0_2 : Int32) (t0_3 : Int32) (t0_4 : Int32) (t0_5 : Int32) (t0_6 : Int32) (t1_0 : (Nat → Int32)) (t2_0 : (Nat → Int32)) (t3_0 : (Nat → Int32)) (a39 : Int32) (a32 : Int32) : Nat → Int32 → (Nat → Int32) → ((Nat → Int32) × (Nat → Int32))
  | 0, _, _ => default
  | fm + 1, lx45, lx46 => if a32 ≤ lx45 then ((lx46, ((F_WR_copy (528 : Int32) N4 lx46 t3_0) : (Nat → Int32)))) else (F_WR_multiplyRows_b_L35 (F_WR_multiplyRows_b_L22 N2 N4 t0_0 t0_1 t0_2 t0_3 t0_4 t0_5 t0_6 t1_0 t2_0 t3_0 a39 a32 fm) N2 N4 t0_0 t0_1 t0_2 t0_3 t0_4 t0_5 t0_6 t1_0 t2_0 t3_0 a39 a32 lx45 lx46 ((2100 - (0 : Int32).toInt).toNat + 1) 0 0 lx46)
def F_WR_multiplyRows_b (N2 : Int32) (N4 : Int32) (t0_0 : Int32) (t0_1 : Int32) (t0_2 : Int32) (t0_3 : Int32) (t0_4 : Int32) (t0_5 : Int32) (t0_6 : Int32) (t1_0 : (Nat → Int32)) (t2_0 : (Nat → Int32)) (t3_0 : (Nat → Int32)) : (Nat → Int32) × (Nat → Int32) := F_WR_multiplyRows_b_L22 N2 N4 t0_0 t0_1 t0_2 t0_3 t0_4 t0_5 t0_6 t1_0 t2_0 t3_0 ((F_WR_size N2 t2_0) : Int32) ((F_WR_size N2 t2_0) : Int32) ((20200 - (0 : Int32).toInt).toNat + 1) 0 ((F_WR_clear (528 : Int32) t1_0) : (Nat → Int32))
def S_WR_multiplyRows_b_J85 (K_S_WR_multiplyRows_b_L22 : Int32 → (Nat → Int32) → Prop) (K_S_WR_multiplyRows_b_L35 : Int32 → Int64 → (Nat → Int32) → Prop) (N2 : Int32) (N4 : Int32) (t0_0 : Int32) (t0_1 : Int32) (t0_2 : Int32) (t0_3 : Int32) (t0_4 : Int32) (t0_5 : Int32) (t0_6 : Int32) (t1_0 : (Nat → Int32)) (t2_0 : (Nat → Int32)) (t3_0 : (Nat → Int32)) (a39 : Int32) (a32 : Int32) (lx45 : Int32) (lx46 : (Nat → Int32)) (lx73 : Int32) (lx74 : Int64) (lx75 : (Nat → Int32)) (j108 : Int64) (lx110 : Int64) : Prop := K_S_WR_multiplyRows_b_L35 (lx73 + 1 : Int32) ((j108 + lx110 : Int64) >>> ((16 : Int32).toInt64 &&& 63) : Int64) (upd lx75 (lx45 + lx73 : Int32).toNatClampNeg (((j108 + lx110 : Int64) &&& 65535 : Int64).toInt32 : Int32) : (Nat → Int32))
def S_WR_multiplyRows_b_J49 (K_S_WR_multiplyRows_b_L22 : Int32 → (Nat → Int32) → Prop) (K_S_WR_multiplyRows_b_L35 : Int32 → Int64 → (Nat → Int32) → Prop) (N2 : Int32) (N4 : Int32) (t0_0 : Int32) (t0_1 : Int32) (t0_2 : Int32) (t0_3 : Int32) (t0_4 : Int32) (t0_5 : Int32) (t0_6 : Int32) (t1_0 : (Nat → Int32)) (t2_0 : (Nat → Int32)) (t3_0 : (Nat → Int32)) (a39 : Int32) (a32 : Int32) (lx45 : Int32) (lx46 : (Nat → Int32)) (lx73 : Int32) (lx74 : Int64) (lx75 : (Nat → Int32)) : Prop := ((lx45 + lx73 : Int32).toInt ≤ 527) ∧ (if a39 ≤ lx73 then (S_WR_multiplyRows_b_J85 K_S_WR_multiplyRows_b_L22 K_S_WR_multiplyRows_b_L35 N2 N4 t0_0 t0_1 t0_2 t0_3 t0_4 t0_5 t0_6 t1_0 t2_0 t3_0 a39 a32 lx45 lx46 lx73 lx74 lx75 (lx74 + ((lx75 (lx45 + lx73 : Int32).toNatClampNeg : Int32).toInt64 : Int64) : Int64) 0) else (S_WR_multiplyRows_b_J85 K_S_WR_multiplyRows_b_L22 K_S_WR_multiplyRows_b_L35 N2 N4 t0_0 t0_1 t0_2 t0_3 t0_4 t0_5 t0_6 t1_0 t2_0 t3_0 a39 a32 lx45 lx46 lx73 lx74 lx75 (lx74 + ((lx75 (lx45 + lx73 : Int32).toNatClampNeg : Int32).toInt64 : Int64) : Int64) (((t2_0 lx45.toNatClampNeg : Int32).toInt64 : Int64) * ((t2_0 lx73.toNatClampNeg : Int32).toInt64 : Int64) : Int64)))
def S_WR_multiplyRows_b_L35 (K_S_WR_multiplyRows_b_L22 : Int32 → (Nat → Int32) → Prop) (N2 : Int32) (N4 : Int32) (t0_0 : Int32) (t0_1 : Int32) (t0_2 : Int32) (t0_3 : Int32) (t0_4 : Int32) (t0_5 : Int32) (t0_6 : Int32) (t1_0 : (Nat → Int32)) (t2_0 : (Nat → Int32)) (t3_0 : (Nat → Int32)) (a39 : Int32) (a32 : Int32) (lx45 : Int32) (lx46 : (Nat → Int32)) : Nat → Int32 → Int64 → (Nat → Int32) → Prop
  | 0, _, _, _ => False
  | fm + 1, lx73, lx74, lx75 => if lx73 < a39 then (S_WR_multiplyRows_b_J49 K_S_WR_multiplyRows_b_L22 (S_WR_multiplyRows_b_L35 K_S_WR_multiplyRows_b_L22 N2 N4 t0_0 t0_1 t0_2 t0_3 t0_4 t0_5 t0_6 t1_0 t2_0 t3_0 a39 a32 lx45 lx46 fm) N2 N4 t0_0 t0_1 t0_2 t0_3 t0_4 t0_5 t0_6 t1_0 t2_0 t3_0 a39 a32 lx45 lx46 lx73 lx74 lx75) else (if (lg_cmp lx74 0 : Int32) = (0 : Int32) then (K_S_WR_multiplyRows_b_L22 (lx45 + 1 : Int32) lx75) else (S_WR_multiplyRows_b_J49 K_S_WR_multiplyRows_b_L22 (S_WR_multiplyRows_b_L35 K_S_WR_multiplyRows_b_L22 N2 N4 t0_0 t0_1 t0_2 t0_3 t0_4 t0_5 t0_6 t1_0 t2_0 t3_0 a39 a32 lx45 lx46 fm) N2 N4 t0_0 t0_1 t0_2 t0_3 t0_4 t0_5 t0_6 t1_0 t2_0 t3_0 a39 a32 lx45 lx46 lx73 lx74 lx75))
def S_WR_multiplyRows_b_L22 (N2 : Int32) (N4 : Int32) (t0_0 : Int32) (t0_1 : Int32) (t0_2 : Int32) (t0_3 : Int32) (t0_4 : Int32) (t0_5 : Int32) (t0_6 : Int32) (t1_0 : (Nat → Int32)) (t2_0 : (Nat → Int32)) (t3_0 : (Nat → Int32)) (a39 : Int32) (a32 : Int32) : Nat → Int32 → (Nat → Int32) → Prop
  | 0, _, _ => False
  | fm + 1, lx45, lx46 => if a32 ≤ lx45 then (True) else (S_WR_multiplyRows_b_L35 (S_WR_multiplyRows_b_L22 N2 N4 t0_0 t0_1 t0_2 t0_3 t0_4 t0_5 t0_6 t1_0 t2_0 t3_0 a39 a32 fm) N2 N4 t0_0 t0_1 t0_2 t0_3 t0_4 t0_5 t0_6 t1_0 t2_0 t3_0 a39 a32 lx45 lx46 ((2100 - (0 : Int32).toInt).toNat + 1) 0 0 lx46)
def S_WR_multiplyRows_b (N2 : Int32) (N4 : Int32) (t0_0 : Int32) (t0_1 : Int32) (t0_2 : Int32) (t0_3 : Int32) (t0_4 : Int32) (t0_5 : Int32) (t0_6 : Int32) (t1_0 : (Nat → Int32)) (t2_0 : (Nat → Int32)) (t3_0 : (Nat → Int32)) : Prop := S_WR_multiplyRows_b_L22 N2 N4 t0_0 t0_1 t0_2 t0_3 t0_4 t0_5 t0_6 t1_0 t2_0 t3_0 ((F_WR_size N2 t2_0) : Int32) ((F_WR_size N2 t2_0) : Int32) ((20200 - (0 : Int32).toInt).toNat + 1) 0 ((F_WR_clear (528 : Int32) t1_0) : (Nat → Int32))
set_option maxRecDepth 100000 in
set_option maxHeartbeats 4000000 in
theorem X_WR_multiplyRows_b (l : Launch) (D : va_G) (g : Nat → ClassId) (q : Nat → Nat) (ws : va_W) (k2 : Nat) (N2 : Int32) (hB2 : q_isRow (msh g q) g k2 N2) (k4 : Nat) (N4 : Int32) (hB4 : q_isRow (msh g q) g k4 N4) (ne_k2_125 : k2 ≠ 125) (ne_k4_125 : k4 ≠ 125) (ne_k2_k4 : k2 ≠ k4) (hI : q_I (msh g q) q ws) (t0_0 : Int32) (t0_1 : Int32) (t0_2 : Int32) (t0_3 : Int32) (t0_4 : Int32) (t0_5 : Int32) (t0_6 : Int32) (hT0 : ws[119]? = (some (q 119, .inr (13, [.int t0_0, .int t0_1, .ref (q 120), .int t0_2, .ref (q 121), .ref (q 122), .ref (q 123), .int t0_3, .ref (q 124), .ref (q 125), .ref (q 126), .ref (q 127), .ref (q 128), .ref (q 129), .ref (q 130), .ref (q 131), .int t0_4, .int t0_5, .ref (q 132), .ref (q 133), .int t0_6])) : Option (Nat × va_E))) (t1_0 : (Nat → Int32)) (hT1 : ws[125]? = (some (q 125, .inl (g 0, (528 : Int32).toNatClampNeg, .inl t1_0)) : Option (Nat × va_E))) (t2_0 : (Nat → Int32)) (hT2 : ws[k2]? = (some (q k2, .inl (g 0, N2.toNatClampNeg, .inl t2_0)) : Option (Nat × va_E))) (t3_0 : (Nat → Int32)) (hT3 : ws[k4]? = (some (q k4, .inl (g 0, N4.toNatClampNeg, .inl t3_0)) : Option (Nat × va_E))) (hS : True ∧ S_WR_multiplyRows_b N2 N4 t0_0 t0_1 t0_2 t0_3 t0_4 t0_5 t0_6 t1_0 t2_0 t3_0) : q_mV l y_WR_multiplyRows prog_19_method_13_code 10 2 0 0 D g [.ref (q 119), .ref (q k2), .ref (q k2), .ref (q k4)] ws (fun u => q_I (msh g q) q u ∧ q_un ws u [125, k4] ∧ ∃ (u1_0 : (Nat → Int32)) (u3_0 : (Nat → Int32)), u[125]? = (some (q 125, .inl (g 0, (528 : Int32).toNatClampNeg, .inl u1_0)) : Option (Nat × va_E)) ∧ u[k4]? = (some (q k4, .inl (g 0, N4.toNatClampNeg, .inl u3_0)) : Option (Nat × va_E)) ∧ (u1_0, u3_0) = (F_WR_multiplyRows_b N2 N4 t0_0 t0_1 t0_2 t0_3 t0_4 t0_5 t0_6 t1_0 t2_0 t3_0)) := by
  intro sz
  refine q_into (by decide) (Nat.le_of_ble_eq_true rfl) ?_
  intro p e s m below meth c ls hsz C0 V hl
  have hx := C0.1
  have hb := C0.2.1
  have hfk20 : q_F (0 ≤ N2.toInt ∧ N2.toInt ≤ 20200) := hB2.2
  have hZ9 := (n_w119 hI hT0).2.2.2
  obtain ⟨-, btt0_6⟩ := hZ9
  clear btt0_6
  have hF : q_un ws ws [125, k4] := q_u0
  have hl : lv_has ls 10 [(0, .ref (q 119)), (1, .ref (q k2)), (2, .ref (q k2)), (3, .ref (q k4))] := hl
  refine lv_aload_n hx hb d_19_13_0 rfl (lv_at hl 0 rfl) ?_
  refine q_get (ci := 13) (j := 9) (v := .ref (q 125)) C0 V i_WR rfl rfl hT0 (by decide) w_1933 rfl d_19_13_1 ?_
  refine q_gov V (q_runS (As := [.ref (q 125)]) (rest := []) (d := 1) (mc := 0) (ms := 0) C0 V rfl LS_WR_63 (X_WR_clear l D g q ws 125 528 (n_r125 g q)  hI t1_0 hT1  _) rfl hl.1 rfl (Nat.le_of_ble_eq_true rfl) ⟨by decide, by decide⟩ ⟨Nat.le_of_ble_eq_true rfl, Nat.le_of_ble_eq_true rfl⟩ d_19_13_4) (fun u23 H locs hp24 V => ?_)
  obtain ⟨hI, hu28, f25, hA26, hE27⟩ := hp24
  replace hA26 : u23[125]? = (some (q 125, .inl (g 0, (528 : Int32).toNatClampNeg, .inl f25)) : Option (Nat × va_E)) := hA26
  have e29 : f25 = (F_WR_clear (528 : Int32) t1_0) := hE27
  replace hT0 := (hu28 _ (by decide)).trans hT0
  replace hT2 := (hu28 _ (by simp only [List.mem_cons, List.not_mem_nil, or_false, not_or]; omega)).trans hT2
  replace hT3 := (hu28 _ (by simp only [List.mem_cons, List.not_mem_nil, or_false, not_or]; omega)).trans hT3
  replace hF := q_uc hF hu28 (by simp)
  refine lv_aload_n hx hb d_19_13_7 rfl (lv_at hl 1 rfl) ?_
  refine q_goi V (q_runS (As := [.ref (q k2)]) (rest := []) (d := 1) (mc := 0) (ms := 0) C0 V rfl LS_WR_59 (X_WR_size l D g q u23 k2 N2 hB2  hI t2_0 hT2  _) rfl hl.1 rfl (Nat.le_of_ble_eq_true rfl) ⟨by decide, by decide⟩ ⟨Nat.le_of_ble_eq_true rfl, Nat.le_of_ble_eq_true rfl⟩ d_19_13_8) (fun a32 u30 H locs hp31 V => ?_)
  obtain ⟨rfl, b33, b34, hE35⟩ := hp31
  have e36 : a32 = (F_WR_size N2 t2_0) := hE35
  replace b33 : q_F (0 ≤ a32.toInt) := b33
  replace b34 : q_F (a32.toInt ≤ N2.toInt) := b34
  refine lv_istore (lv' := [(4, .int a32), (0, .ref (q 119)), (1, .ref (q k2)), (2, .ref (q k2)), (3, .ref (q k4))]) hx hb d_19_13_11 hl (by decide) rfl (fun ls hl => ?_)
  refine lv_aload_n hx hb d_19_13_13 rfl (lv_at hl 3 rfl) ?_
  refine q_goi V (q_runS (As := [.ref (q k2)]) (rest := []) (d := 1) (mc := 0) (ms := 0) C0 V rfl LS_WR_59 (X_WR_size l D g q u23 k2 N2 hB2  hI t2_0 hT2  _) rfl hl.1 rfl (Nat.le_of_ble_eq_true rfl) ⟨by decide, by decide⟩ ⟨Nat.le_of_ble_eq_true rfl, Nat.le_of_ble_eq_true rfl⟩ d_19_13_14) (fun a39 u37 H locs hp38 V => ?_)
  obtain ⟨rfl, b40, b41, hE42⟩ := hp38
  have e43 : a39 = (F_WR_size N2 t2_0) := hE42
  clear b40
  replace b41 : q_F (a39.toInt ≤ N2.toInt) := b41
  refine lv_istore (lv' := [(5, .int a39), (4, .int a32), (0, .ref (q 119)), (1, .ref (q k2)), (2, .ref (q k2)), (3, .ref (q k4))]) hx hb d_19_13_17 hl (by decide) rfl (fun ls hl => ?_)
  refine lv_iconst (v := 0) hx hb d_19_13_19 (by decide) ?_
  refine lv_istore (lv' := [(6, .int 0), (5, .int a39), (4, .int a32), (0, .ref (q 119)), (1, .ref (q k2)), (2, .ref (q k2)), (3, .ref (q k4))]) hx hb d_19_13_20 hl (by decide) rfl (fun ls hl => ?_)
  refine q_loop (X := Int32 × (Nat → Int32)) (fun z H locs ls w50 => q_F (0 ≤ z.1.toInt) ∧ q_F (z.1.toInt ≤ a32.toInt) ∧ q_Wd D g (va_A ws sz) s w50 H locs ∧ lv_has ls 10 [(6, .int z.1), (5, .int a39), (4, .int a32), (0, .ref (q 119)), (1, .ref (q k2)), (2, .ref (q k2)), (3, .ref (q k4))] ∧ q_I (msh g q) q w50 ∧ q_un ws w50 [125, k4] ∧ w50[119]? = (some (q 119, .inr (13, [.int t0_0, .int t0_1, .ref (q 120), .int t0_2, .ref (q 121), .ref (q 122), .ref (q 123), .int t0_3, .ref (q 124), .ref (q 125), .ref (q 126), .ref (q 127), .ref (q 128), .ref (q 129), .ref (q 130), .ref (q 131), .int t0_4, .int t0_5, .ref (q 132), .ref (q 133), .int t0_6])) : Option (Nat × va_E)) ∧ w50[125]? = (some (q 125, .inl (g 0, (528 : Int32).toNatClampNeg, .inl z.2)) : Option (Nat × va_E)) ∧ w50[k2]? = (some (q k2, .inl (g 0, N2.toNatClampNeg, .inl t2_0)) : Option (Nat × va_E)) ∧ w50[k4]? = (some (q k4, .inl (g 0, N4.toNatClampNeg, .inl t3_0)) : Option (Nat × va_E)) ∧ (∃ n, (20200 - z.1.toInt).toNat < n ∧ F_WR_multiplyRows_b_L22 N2 N4 t0_0 t0_1 t0_2 t0_3 t0_4 t0_5 t0_6 t1_0 t2_0 t3_0 a39 a32 n z.1 z.2 = (F_WR_multiplyRows_b N2 N4 t0_0 t0_1 t0_2 t0_3 t0_4 t0_5 t0_6 t1_0 t2_0 t3_0) ∧ True ∧ S_WR_multiplyRows_b_L22 N2 N4 t0_0 t0_1 t0_2 t0_3 t0_4 t0_5 t0_6 t1_0 t2_0 t3_0 a39 a32 n z.1 z.2)) (fun z => (20200 - z.1.toInt).toNat) ?_ ((0 : Int32), (f25 : (Nat → Int32))) _ _ _ u23 ⟨(show q_F (0 ≤ 0) from (show 0 ≤ 0 from by omega)), (show q_F (0 ≤ a32.toInt) from (show 0 ≤ a32.toInt from by have t1 : 0 ≤ a32.toInt := b33; omega)), V, q_lw hl (q_lw1 0 rfl (q_lw1 1 rfl (q_lw1 2 rfl (q_lw1 3 rfl (q_lw1 4 rfl (q_lw1 5 rfl (q_lw1 6 rfl q_lw0))))))), hI, hF, hT0, hA26, hT2, hT3, ⟨((20200 - (0 : Int32).toInt).toNat + 1), Nat.lt_succ_self _, (show F_WR_multiplyRows_b_L22 N2 N4 t0_0 t0_1 t0_2 t0_3 t0_4 t0_5 t0_6 t1_0 t2_0 t3_0 a39 a32 ((20200 - (0 : Int32).toInt).toNat + 1) 0 f25 = (F_WR_multiplyRows_b N2 N4 t0_0 t0_1 t0_2 t0_3 t0_4 t0_5 t0_6 t1_0 t2_0 t3_0) from (by rw [e43, e36, e29, F_WR_multiplyRows_b.eq_1])), (show True ∧ S_WR_multiplyRows_b_L22 N2 N4 t0_0 t0_1 t0_2 t0_3 t0_4 t0_5 t0_6 t1_0 t2_0 t3_0 a39 a32 ((20200 - (0 : Int32).toInt).toNat + 1) 0 f25 from (by rw [e43, e36, e29]; have h := hS; rw [S_WR_multiplyRows_b.eq_1] at h; with_reducible exact h))⟩⟩
  rintro ⟨lx45, lx46⟩ H locs ls w50 ⟨i47, i48, V, hl, hI, hF, hO51, hO52, hO53, hO54, ⟨fu57, hf58, hR55, hS56⟩⟩ ih49
  obtain ⟨fm59, rfl⟩ : ∃ m, fu57 = m + 1 := ⟨fu57 - 1, by omega⟩
  replace i47 : q_F (0 ≤ lx45.toInt) := i47
  replace i48 : q_F (lx45.toInt ≤ a32.toInt) := i48
  replace hl : lv_has ls 10 [(6, .int lx45), (5, .int a39), (4, .int a32), (0, .ref (q 119)), (1, .ref (q k2)), (2, .ref (q k2)), (3, .ref (q k4))] := hl
  replace hO51 : w50[119]? = (some (q 119, .inr (13, [.int t0_0, .int t0_1, .ref (q 120), .int t0_2, .ref (q 121), .ref (q 122), .ref (q 123), .int t0_3, .ref (q 124), .ref (q 125), .ref (q 126), .ref (q 127), .ref (q 128), .ref (q 129), .ref (q 130), .ref (q 131), .int t0_4, .int t0_5, .ref (q 132), .ref (q 133), .int t0_6])) : Option (Nat × va_E)) := hO51
  replace hO52 : w50[125]? = (some (q 125, .inl (g 0, (528 : Int32).toNatClampNeg, .inl lx46)) : Option (Nat × va_E)) := hO52
  replace hO53 : w50[k2]? = (some (q k2, .inl (g 0, N2.toNatClampNeg, .inl t2_0)) : Option (Nat × va_E)) := hO53
  replace hO54 : w50[k4]? = (some (q k4, .inl (g 0, N4.toNatClampNeg, .inl t3_0)) : Option (Nat × va_E)) := hO54
  refine lv_iload hx hb d_19_13_22 (lv_at hl 0 rfl) ?_
  refine lv_iload hx hb d_19_13_24 (lv_at hl 2 rfl) ?_
  refine lv_icmp_ge (tgt := 124) hx hb d_19_13_26 (by decide) (fun c60 => ?_) (fun c60 => ?_)
  ·
    refine lv_aload_n hx hb d_19_13_124 rfl (lv_at hl 3 rfl) ?_
    refine q_get (ci := 13) (j := 9) (v := .ref (q 125)) C0 V i_WR rfl rfl hO51 (by decide) w_1933 rfl d_19_13_125 ?_
    refine lv_aload_n hx hb d_19_13_128 rfl (lv_at hl 6 rfl) ?_
    have ne62 := q_df hO54 hO51
    refine q_gov V (q_runS (As := [.ref (q 125), .ref (q k4)]) (rest := []) (d := 1) (mc := 0) (ms := 0) C0 V rfl LS_WR_67 (X_WR_copy l D g q w50 125 528 (n_r125 g q) k4 N4 hB4  (by have z := ne_k4_125; omega) hI lx46 hO52 t3_0 hO54  _) rfl hl.1 rfl (Nat.le_of_ble_eq_true rfl) ⟨by decide, by decide⟩ ⟨Nat.le_of_ble_eq_true rfl, Nat.le_of_ble_eq_true rfl⟩ d_19_13_129) (fun u63 H locs hp64 V => ?_)
    obtain ⟨hI, hu68, f65, hA66, hE67⟩ := hp64
    replace hA66 : u63[k4]? = (some (q k4, .inl (g 0, N4.toNatClampNeg, .inl f65)) : Option (Nat × va_E)) := hA66
    have e69 : f65 = (F_WR_copy (528 : Int32) N4 lx46 t3_0) := hE67
    replace hO52 := (hu68 _ (by simp only [List.mem_cons, List.not_mem_nil, or_false, not_or]; omega)).trans hO52
    replace hF := q_uc hF hu68 (by simp)
    exact q_retv C0 V (⟨hI, hF, lx46, f65, hO52, hA66, (show (lx46, f65) = (F_WR_multiplyRows_b N2 N4 t0_0 t0_1 t0_2 t0_3 t0_4 t0_5 t0_6 t1_0 t2_0 t3_0) from Eq.trans (by rw [e69, F_WR_multiplyRows_b_L22.eq_2, if_pos c60]) hR55)⟩) d_19_13_132
  ·
    have b70 : q_F (lx45.toInt < a32.toInt) := (q_nleI c60)
    refine lv_lconst (v := 0) hx hb d_19_13_29 (by decide) ?_
    refine lv_lstore (lv' := [(7, .long 0), (6, .int lx45), (5, .int a39), (4, .int a32), (0, .ref (q 119)), (1, .ref (q k2)), (2, .ref (q k2)), (3, .ref (q k4))]) hx hb d_19_13_30 hl (by decide) rfl (fun ls hl => ?_)
    refine lv_iconst (v := 0) hx hb d_19_13_32 (by decide) ?_
    refine lv_istore (lv' := [(9, .int 0), (7, .long 0), (6, .int lx45), (5, .int a39), (4, .int a32), (0, .ref (q 119)), (1, .ref (q k2)), (2, .ref (q k2)), (3, .ref (q k4))]) hx hb d_19_13_33 hl (by decide) rfl (fun ls hl => ?_)
    refine q_loop (X := Int32 × Int64 × (Nat → Int32)) (fun z H locs ls w79 => q_F (0 ≤ z.1.toInt) ∧ q_F (z.1.toInt ≤ 2100) ∧ q_Wd D g (va_A ws sz) s w79 H locs ∧ lv_has ls 10 [(9, .int z.1), (7, .long z.2.1), (6, .int lx45), (5, .int a39), (4, .int a32), (0, .ref (q 119)), (1, .ref (q k2)), (2, .ref (q k2)), (3, .ref (q k4))] ∧ q_I (msh g q) q w79 ∧ q_un ws w79 [125, k4] ∧ w79[119]? = (some (q 119, .inr (13, [.int t0_0, .int t0_1, .ref (q 120), .int t0_2, .ref (q 121), .ref (q 122), .ref (q 123), .int t0_3, .ref (q 124), .ref (q 125), .ref (q 126), .ref (q 127), .ref (q 128), .ref (q 129), .ref (q 130), .ref (q 131), .int t0_4, .int t0_5, .ref (q 132), .ref (q 133), .int t0_6])) : Option (Nat × va_E)) ∧ w79[125]? = (some (q 125, .inl (g 0, (528 : Int32).toNatClampNeg, .inl z.2.2)) : Option (Nat × va_E)) ∧ w79[k2]? = (some (q k2, .inl (g 0, N2.toNatClampNeg, .inl t2_0)) : Option (Nat × va_E)) ∧ w79[k4]? = (some (q k4, .inl (g 0, N4.toNatClampNeg, .inl t3_0)) : Option (Nat × va_E)) ∧ (∃ n, (2100 - z.1.toInt).toNat < n ∧ F_WR_multiplyRows_b_L35 (F_WR_multiplyRows_b_L22 N2 N4 t0_0 t0_1 t0_2 t0_3 t0_4 t0_5 t0_6 t1_0 t2_0 t3_0 a39 a32 fm59) N2 N4 t0_0 t0_1 t0_2 t0_3 t0_4 t0_5 t0_6 t1_0 t2_0 t3_0 a39 a32 lx45 lx46 n z.1 z.2.1 z.2.2 = (F_WR_multiplyRows_b N2 N4 t0_0 t0_1 t0_2 t0_3 t0_4 t0_5 t0_6 t1_0 t2_0 t3_0) ∧ True ∧ S_WR_multiplyRows_b_L35 (S_WR_multiplyRows_b_L22 N2 N4 t0_0 t0_1 t0_2 t0_3 t0_4 t0_5 t0_6 t1_0 t2_0 t3_0 a39 a32 fm59) N2 N4 t0_0 t0_1 t0_2 t0_3 t0_4 t0_5 t0_6 t1_0 t2_0 t3_0 a39 a32 lx45 lx46 n z.1 z.2.1 z.2.2)) (fun z => (2100 - z.1.toInt).toNat) ?_ ((0 : Int32), (0 : Int64), (lx46 : (Nat → Int32))) _ _ _ w50 ⟨(show q_F (0 ≤ 0) from (show 0 ≤ 0 from by omega)), (show q_F (0 ≤ 2100) from (show 0 ≤ 2100 from by omega)), V, q_lw hl (q_lw1 0 rfl (q_lw1 1 rfl (q_lw1 2 rfl (q_lw1 3 rfl (q_lw1 4 rfl (q_lw1 5 rfl (q_lw1 6 rfl (q_lw1 7 rfl (q_lw1 8 rfl q_lw0))))))))), hI, hF, hO51, hO52, hO53, hO54, ⟨((2100 - (0 : Int32).toInt).toNat + 1), Nat.lt_succ_self _, (show F_WR_multiplyRows_b_L35 (F_WR_multiplyRows_b_L22 N2 N4 t0_0 t0_1 t0_2 t0_3 t0_4 t0_5 t0_6 t1_0 t2_0 t3_0 a39 a32 fm59) N2 N4 t0_0 t0_1 t0_2 t0_3 t0_4 t0_5 t0_6 t1_0 t2_0 t3_0 a39 a32 lx45 lx46 ((2100 - (0 : Int32).toInt).toNat + 1) 0 0 lx46 = (F_WR_multiplyRows_b N2 N4 t0_0 t0_1 t0_2 t0_3 t0_4 t0_5 t0_6 t1_0 t2_0 t3_0) from Eq.trans (by rw [F_WR_multiplyRows_b_L22.eq_2, if_neg c60]) hR55), (show True ∧ S_WR_multiplyRows_b_L35 (S_WR_multiplyRows_b_L22 N2 N4 t0_0 t0_1 t0_2 t0_3 t0_4 t0_5 t0_6 t1_0 t2_0 t3_0 a39 a32 fm59) N2 N4 t0_0 t0_1 t0_2 t0_3 t0_4 t0_5 t0_6 t1_0 t2_0 t3_0 a39 a32 lx45 lx46 ((2100 - (0 : Int32).toInt).toNat + 1) 0 0 lx46 from (by have h := hS56; rw [S_WR_multiplyRows_b_L22.eq_2] at h; rw [if_neg c60] at h; with_reducible exact h))⟩⟩
    rintro ⟨lx73, lx74, lx75⟩ H locs ls w79 ⟨i76, i77, V, hl, hI, hF, hO80, hO81, hO82, hO83, ⟨fu86, hf87, hR84, hS85⟩⟩ ih78
    obtain ⟨fm88, rfl⟩ : ∃ m, fu86 = m + 1 := ⟨fu86 - 1, by omega⟩
    replace i76 : q_F (0 ≤ lx73.toInt) := i76
    replace i77 : q_F (lx73.toInt ≤ 2100) := i77
    replace hl : lv_has ls 10 [(9, .int lx73), (7, .long lx74), (6, .int lx45), (5, .int a39), (4, .int a32), (0, .ref (q 119)), (1, .ref (q k2)), (2, .ref (q k2)), (3, .ref (q k4))] := hl
    replace hO80 : w79[119]? = (some (q 119, .inr (13, [.int t0_0, .int t0_1, .ref (q 120), .int t0_2, .ref (q 121), .ref (q 122), .ref (q 123), .int t0_3, .ref (q 124), .ref (q 125), .ref (q 126), .ref (q 127), .ref (q 128), .ref (q 129), .ref (q 130), .ref (q 131), .int t0_4, .int t0_5, .ref (q 132), .ref (q 133), .int t0_6])) : Option (Nat × va_E)) := hO80
    replace hO81 : w79[125]? = (some (q 125, .inl (g 0, (528 : Int32).toNatClampNeg, .inl lx75)) : Option (Nat × va_E)) := hO81
    replace hO82 : w79[k2]? = (some (q k2, .inl (g 0, N2.toNatClampNeg, .inl t2_0)) : Option (Nat × va_E)) := hO82
    replace hO83 : w79[k4]? = (some (q k4, .inl (g 0, N4.toNatClampNeg, .inl t3_0)) : Option (Nat × va_E)) := hO83
    refine lv_iload hx hb d_19_13_35 (lv_at hl 0 rfl) ?_
    refine lv_iload hx hb d_19_13_37 (lv_at hl 3 rfl) ?_
    refine q_join (X := Unit) (fun z H locs ls _ => q_Wd D g (va_A ws sz) s w79 H locs ∧ lv_has ls 10 [(9, .int lx73), (7, .long lx74), (6, .int lx45), (5, .int a39), (4, .int a32), (0, .ref (q 119)), (1, .ref (q k2)), (2, .ref (q k2)), (3, .ref (q k4))] ∧ F_WR_multiplyRows_b_J49 (F_WR_multiplyRows_b_L22 N2 N4 t0_0 t0_1 t0_2 t0_3 t0_4 t0_5 t0_6 t1_0 t2_0 t3_0 a39 a32 fm59) (F_WR_multiplyRows_b_L35 (F_WR_multiplyRows_b_L22 N2 N4 t0_0 t0_1 t0_2 t0_3 t0_4 t0_5 t0_6 t1_0 t2_0 t3_0 a39 a32 fm59) N2 N4 t0_0 t0_1 t0_2 t0_3 t0_4 t0_5 t0_6 t1_0 t2_0 t3_0 a39 a32 lx45 lx46 fm88) N2 N4 t0_0 t0_1 t0_2 t0_3 t0_4 t0_5 t0_6 t1_0 t2_0 t3_0 a39 a32 lx45 lx46 lx73 lx74 lx75 = (F_WR_multiplyRows_b N2 N4 t0_0 t0_1 t0_2 t0_3 t0_4 t0_5 t0_6 t1_0 t2_0 t3_0) ∧ True ∧ S_WR_multiplyRows_b_J49 (S_WR_multiplyRows_b_L22 N2 N4 t0_0 t0_1 t0_2 t0_3 t0_4 t0_5 t0_6 t1_0 t2_0 t3_0 a39 a32 fm59) (S_WR_multiplyRows_b_L35 (S_WR_multiplyRows_b_L22 N2 N4 t0_0 t0_1 t0_2 t0_3 t0_4 t0_5 t0_6 t1_0 t2_0 t3_0 a39 a32 fm59) N2 N4 t0_0 t0_1 t0_2 t0_3 t0_4 t0_5 t0_6 t1_0 t2_0 t3_0 a39 a32 lx45 lx46 fm88) N2 N4 t0_0 t0_1 t0_2 t0_3 t0_4 t0_5 t0_6 t1_0 t2_0 t3_0 a39 a32 lx45 lx46 lx73 lx74 lx75) (fun z => []) 49 0 0 ?_ ?_
    ·
      rintro _ H locs ls _ ⟨V, hl, hR94, hS95⟩
      replace hl : lv_has ls 10 [(9, .int lx73), (7, .long lx74), (6, .int lx45), (5, .int a39), (4, .int a32), (0, .ref (q 119)), (1, .ref (q k2)), (2, .ref (q k2)), (3, .ref (q k4))] := hl
      refine lv_lload hx hb d_19_13_49 (lv_at hl 1 rfl) ?_
      refine lv_aload_n hx hb d_19_13_51 rfl (lv_at hl 5 rfl) ?_
      refine q_get (ci := 13) (j := 9) (v := .ref (q 125)) C0 V i_WR rfl rfl hO80 (by decide) w_1933 rfl d_19_13_52 ?_
      refine lv_iload hx hb d_19_13_55 (lv_at hl 2 rfl) ?_
      refine lv_iload hx hb d_19_13_57 (lv_at hl 0 rfl) ?_
      refine lv_iadd hx hb d_19_13_59 ?_
      obtain ⟨a99, e100⟩ := q_nm (lx45 + lx73 : Int32)
      refine q_ti (v := a99) e100 ?_
      have b101 : q_F (a99.toInt = lx45.toInt + lx73.toInt) := (by rw [← e100]; show (lx45 + lx73 : Int32).toInt = lx45.toInt + lx73.toInt; exact q_addI (x := lx45.toInt) (y := lx73.toInt) rfl rfl (by have t1 : 0 ≤ lx45.toInt := i47; have t2 : 0 ≤ lx73.toInt := i76; have t3 : 0 ≤ N2.toInt ∧ N2.toInt ≤ 20200 := hfk20; have t4 : a32.toInt ≤ N2.toInt := b34; have t5 : lx45.toInt ≤ a32.toInt := i48; have t6 : lx73.toInt ≤ 2100 := i77; omega) (by have t1 : 0 ≤ lx45.toInt := i47; have t2 : 0 ≤ lx73.toInt := i76; have t3 : 0 ≤ N2.toInt ∧ N2.toInt ≤ 20200 := hfk20; have t4 : a32.toInt ≤ N2.toInt := b34; have t5 : lx45.toInt ≤ a32.toInt := i48; have t6 : lx73.toInt ≤ 2100 := i77; omega))
      have ob102 : q_F (a99.toInt ≤ 527) := (by rw [← e100]; have h := hS95; rw [S_WR_multiplyRows_b_J49.eq_1] at h; exact h.2.1)
      refine q_iald C0 V hO81 (q_ix (x := a99.toInt) rfl (by have t1 : 0 ≤ lx45.toInt := i47; have t2 : 0 ≤ lx73.toInt := i76; have t3 : a99.toInt = lx45.toInt + lx73.toInt := b101; omega) (by have t1 : 0 ≤ lx45.toInt := i47; have t2 : 0 ≤ lx73.toInt := i76; have t3 : a99.toInt = lx45.toInt + lx73.toInt := b101; have t4 : a99.toInt ≤ 527 := ob102; have e9 : (((528 : Int32).toNatClampNeg : Nat) : Int) = 528 := (by decide); omega)) d_19_13_60 ?_
      obtain ⟨a103, e104⟩ := q_nm (lx75 a99.toNatClampNeg : Int32)
      refine q_ti (v := a103) e104 ?_
      refine lv_i2l hx hb d_19_13_61 rfl ?_
      obtain ⟨j105, e106⟩ := q_nm (a103.toInt64 : Int64)
      refine q_tl (v := j105) e106 ?_
      refine lv_ladd hx hb d_19_13_62 ?_
      obtain ⟨j108, e109⟩ := q_nm (lx74 + j105 : Int64)
      refine q_tl (v := j108) e109 ?_
      refine lv_iload hx hb d_19_13_63 (lv_at hl 0 rfl) ?_
      refine lv_iload hx hb d_19_13_65 (lv_at hl 3 rfl) ?_
      refine q_join (X := Int64) (fun z H locs ls _ => q_Wd D g (va_A ws sz) s w79 H locs ∧ lv_has ls 10 [(9, .int lx73), (6, .int lx45), (5, .int a39), (4, .int a32), (0, .ref (q 119)), (1, .ref (q k2)), (2, .ref (q k2)), (3, .ref (q k4))] ∧ F_WR_multiplyRows_b_J85 (F_WR_multiplyRows_b_L22 N2 N4 t0_0 t0_1 t0_2 t0_3 t0_4 t0_5 t0_6 t1_0 t2_0 t3_0 a39 a32 fm59) (F_WR_multiplyRows_b_L35 (F_WR_multiplyRows_b_L22 N2 N4 t0_0 t0_1 t0_2 t0_3 t0_4 t0_5 t0_6 t1_0 t2_0 t3_0 a39 a32 fm59) N2 N4 t0_0 t0_1 t0_2 t0_3 t0_4 t0_5 t0_6 t1_0 t2_0 t3_0 a39 a32 lx45 lx46 fm88) N2 N4 t0_0 t0_1 t0_2 t0_3 t0_4 t0_5 t0_6 t1_0 t2_0 t3_0 a39 a32 lx45 lx46 lx73 lx74 lx75 j108 z = (F_WR_multiplyRows_b N2 N4 t0_0 t0_1 t0_2 t0_3 t0_4 t0_5 t0_6 t1_0 t2_0 t3_0) ∧ True ∧ S_WR_multiplyRows_b_J85 (S_WR_multiplyRows_b_L22 N2 N4 t0_0 t0_1 t0_2 t0_3 t0_4 t0_5 t0_6 t1_0 t2_0 t3_0 a39 a32 fm59) (S_WR_multiplyRows_b_L35 (S_WR_multiplyRows_b_L22 N2 N4 t0_0 t0_1 t0_2 t0_3 t0_4 t0_5 t0_6 t1_0 t2_0 t3_0 a39 a32 fm59) N2 N4 t0_0 t0_1 t0_2 t0_3 t0_4 t0_5 t0_6 t1_0 t2_0 t3_0 a39 a32 lx45 lx46 fm88) N2 N4 t0_0 t0_1 t0_2 t0_3 t0_4 t0_5 t0_6 t1_0 t2_0 t3_0 a39 a32 lx45 lx46 lx73 lx74 lx75 j108 z) (fun z => [.long z, .long j108]) 85 0 0 ?_ ?_
      ·
        rintro lx110 H locs ls _ ⟨V, hl, hR116, hS117⟩
        replace hl : lv_has ls 10 [(9, .int lx73), (6, .int lx45), (5, .int a39), (4, .int a32), (0, .ref (q 119)), (1, .ref (q k2)), (2, .ref (q k2)), (3, .ref (q k4))] := hl
        refine lv_ladd hx hb d_19_13_85 ?_
        obtain ⟨j121, e122⟩ := q_nm (j108 + lx110 : Int64)
        refine q_tl (v := j121) e122 ?_
        refine lv_lstore (lv' := [(7, .long j121), (9, .int lx73), (6, .int lx45), (5, .int a39), (4, .int a32), (0, .ref (q 119)), (1, .ref (q k2)), (2, .ref (q k2)), (3, .ref (q k4))]) hx hb d_19_13_86 hl (by decide) rfl (fun ls hl => ?_)
        refine lv_aload_n hx hb d_19_13_88 rfl (lv_at hl 5 rfl) ?_
        refine q_get (ci := 13) (j := 9) (v := .ref (q 125)) C0 V i_WR rfl rfl hO80 (by decide) w_1933 rfl d_19_13_89 ?_
        refine lv_iload hx hb d_19_13_92 (lv_at hl 2 rfl) ?_
        refine lv_iload hx hb d_19_13_94 (lv_at hl 1 rfl) ?_
        refine lv_iadd hx hb d_19_13_96 ?_
        obtain ⟨a123, e124⟩ := q_nm (lx45 + lx73 : Int32)
        refine q_ti (v := a123) e124 ?_
        have b125 : q_F (a123.toInt = lx45.toInt + lx73.toInt) := (by rw [← e124]; show (lx45 + lx73 : Int32).toInt = lx45.toInt + lx73.toInt; exact q_addI (x := lx45.toInt) (y := lx73.toInt) rfl rfl (by have t1 : 0 ≤ lx45.toInt := i47; have t2 : 0 ≤ lx73.toInt := i76; have t3 : a99.toInt = lx45.toInt + lx73.toInt := b101; have _ := q_lo32 (x := a99); have _ := q_hi32 (x := a99); omega) (by have t1 : 0 ≤ lx45.toInt := i47; have t2 : 0 ≤ lx73.toInt := i76; have t3 : a99.toInt = lx45.toInt + lx73.toInt := b101; have _ := q_lo32 (x := a99); have _ := q_hi32 (x := a99); omega))
        refine lv_lload hx hb d_19_13_97 (lv_at hl 0 rfl) ?_
        refine q_ldc2 C0 rfl w_2384 d_19_13_99 ?_
        refine lv_land hx hb d_19_13_102 ?_
        obtain ⟨j126, e127⟩ := q_nm (j121 &&& 65535 : Int64)
        refine q_tl (v := j126) e127 ?_
        refine lv_l2i hx hb d_19_13_103 rfl ?_
        obtain ⟨a129, e130⟩ := q_nm (j126.toInt32 : Int32)
        refine q_ti (v := a129) e130 ?_
        refine q_iast C0 V hO81 (q_ix (x := a123.toInt) rfl (by have t1 : 0 ≤ lx45.toInt := i47; have t2 : 0 ≤ lx73.toInt := i76; have t3 : a123.toInt = lx45.toInt + lx73.toInt := b125; omega) (by have t1 : 0 ≤ lx45.toInt := i47; have t2 : 0 ≤ lx73.toInt := i76; have t3 : a123.toInt = lx45.toInt + lx73.toInt := b125; have t4 : a99.toInt = lx45.toInt + lx73.toInt := b101; have t5 : a99.toInt ≤ 527 := ob102; have e9 : (((528 : Int32).toNatClampNeg : Nat) : Int) = 528 := (by decide); omega)) d_19_13_104 (fun H locs w132 hu133 hO81 V => ?_)
        replace hI := n_ai' hI (n_r125 g q).1 hu133 hO81 (q_updB (fun _ => s_bnd) s_bnd)
        replace hO80 := (hu133 _ (by decide)).trans hO80
        replace hO82 := (hu133 _ (by have z := ne_k2_125; omega)).trans hO82
        replace hO83 := (hu133 _ (by have z := ne_k4_125; omega)).trans hO83
        replace hF := q_us hF hu133 (by simp)
        obtain ⟨f134, e135⟩ := q_nm (upd lx75 a123.toNatClampNeg a129 : (Nat → Int32))
        rw [e135] at hO81
        refine lv_lload hx hb d_19_13_105 (lv_at hl 0 rfl) ?_
        refine lv_bipush (v := 16) hx hb d_19_13_107 (by decide) ?_
        refine lv_lshr hx hb d_19_13_109 rfl ?_
        obtain ⟨j136, e137⟩ := q_nm (j121 >>> ((16 : Int32).toInt64 &&& 63) : Int64)
        refine q_tl (v := j136) e137 ?_
        refine lv_lstore (lv' := [(7, .long j136), (9, .int lx73), (6, .int lx45), (5, .int a39), (4, .int a32), (0, .ref (q 119)), (1, .ref (q k2)), (2, .ref (q k2)), (3, .ref (q k4))]) hx hb d_19_13_110 hl (by decide) rfl (fun ls hl => ?_)
        obtain ⟨a138, e139⟩ := q_nm (lx73 + 1 : Int32)
        have b140 : q_F (a138.toInt = lx73.toInt + 1) := (by rw [← e139]; exact q_addI (y := 1) rfl (by decide) (by have t1 : 0 ≤ lx73.toInt := i76; have t2 : lx73.toInt ≤ 2100 := i77; omega) (by have t1 : 0 ≤ lx73.toInt := i76; have t2 : lx73.toInt ≤ 2100 := i77; omega))
        refine lv_iinc (v := a138) (lv' := [(9, .int a138), (7, .long j136), (6, .int lx45), (5, .int a39), (4, .int a32), (0, .ref (q 119)), (1, .ref (q k2)), (2, .ref (q k2)), (3, .ref (q k4))]) hx hb d_19_13_112 hl (k := 1) rfl (e139) (by decide) rfl (fun ls hl => ?_)
        refine lv_goto (tgt := 35) hx hb d_19_13_115 (by decide) ?_
        exact ih78 ((a138 : Int32), (j136 : Int64), (f134 : (Nat → Int32))) _ _ _ _ (show (2100 - a138.toInt).toNat < (2100 - lx73.toInt).toNat from by have t1 : a138.toInt = lx73.toInt + 1 := b140; have t2 : lx73.toInt ≤ 2100 := i77; have t3 : 0 ≤ lx45.toInt := i47; have t4 : a99.toInt = lx45.toInt + lx73.toInt := b101; have t5 : a99.toInt ≤ 527 := ob102; omega) ⟨(show q_F (0 ≤ a138.toInt) from (show 0 ≤ a138.toInt from by have t1 : 0 ≤ lx73.toInt := i76; have t2 : a138.toInt = lx73.toInt + 1 := b140; omega)), (show q_F (a138.toInt ≤ 2100) from (show a138.toInt ≤ 2100 from by have t1 : 0 ≤ lx45.toInt := i47; have t2 : a99.toInt = lx45.toInt + lx73.toInt := b101; have t3 : a99.toInt ≤ 527 := ob102; have t4 : a138.toInt = lx73.toInt + 1 := b140; omega)), V, q_lw hl (q_lw1 0 rfl (q_lw1 1 rfl (q_lw1 2 rfl (q_lw1 3 rfl (q_lw1 4 rfl (q_lw1 5 rfl (q_lw1 6 rfl (q_lw1 7 rfl (q_lw1 8 rfl q_lw0))))))))), hI, hF, hO80, hO81, hO82, hO83, ⟨fm88, Nat.lt_of_lt_of_le (show (2100 - a138.toInt).toNat < (2100 - lx73.toInt).toNat from by have t1 : a138.toInt = lx73.toInt + 1 := b140; have t2 : lx73.toInt ≤ 2100 := i77; have t3 : 0 ≤ lx45.toInt := i47; have t4 : a99.toInt = lx45.toInt + lx73.toInt := b101; have t5 : a99.toInt ≤ 527 := ob102; omega) (Nat.le_of_lt_succ hf87), (show F_WR_multiplyRows_b_L35 (F_WR_multiplyRows_b_L22 N2 N4 t0_0 t0_1 t0_2 t0_3 t0_4 t0_5 t0_6 t1_0 t2_0 t3_0 a39 a32 fm59) N2 N4 t0_0 t0_1 t0_2 t0_3 t0_4 t0_5 t0_6 t1_0 t2_0 t3_0 a39 a32 lx45 lx46 fm88 a138 j136 f134 = (F_WR_multiplyRows_b N2 N4 t0_0 t0_1 t0_2 t0_3 t0_4 t0_5 t0_6 t1_0 t2_0 t3_0) from Eq.trans (by rw [← e139, ← e137, ← e135, ← e130, ← e127, ← e124, ← e122, F_WR_multiplyRows_b_J85.eq_1]) hR116), (show True ∧ S_WR_multiplyRows_b_L35 (S_WR_multiplyRows_b_L22 N2 N4 t0_0 t0_1 t0_2 t0_3 t0_4 t0_5 t0_6 t1_0 t2_0 t3_0 a39 a32 fm59) N2 N4 t0_0 t0_1 t0_2 t0_3 t0_4 t0_5 t0_6 t1_0 t2_0 t3_0 a39 a32 lx45 lx46 fm88 a138 j136 f134 from (by rw [← e139, ← e137, ← e135, ← e130, ← e127, ← e124, ← e122]; have h := hS117; rw [S_WR_multiplyRows_b_J85.eq_1] at h; with_reducible exact h))⟩⟩
      ·
        intro J115
        refine lv_icmp_ge (tgt := 84) hx hb d_19_13_67 (by decide) (fun c141 => ?_) (fun c141 => ?_)
        ·
          refine lv_lconst (v := 0) hx hb d_19_13_84 (by decide) ?_
          exact J115 ((0 : Int64)) _ _ _ w79 ⟨V, q_lw hl (q_lw1 0 rfl (q_lw1 2 rfl (q_lw1 3 rfl (q_lw1 4 rfl (q_lw1 5 rfl (q_lw1 6 rfl (q_lw1 7 rfl (q_lw1 8 rfl q_lw0)))))))), (show F_WR_multiplyRows_b_J85 (F_WR_multiplyRows_b_L22 N2 N4 t0_0 t0_1 t0_2 t0_3 t0_4 t0_5 t0_6 t1_0 t2_0 t3_0 a39 a32 fm59) (F_WR_multiplyRows_b_L35 (F_WR_multiplyRows_b_L22 N2 N4 t0_0 t0_1 t0_2 t0_3 t0_4 t0_5 t0_6 t1_0 t2_0 t3_0 a39 a32 fm59) N2 N4 t0_0 t0_1 t0_2 t0_3 t0_4 t0_5 t0_6 t1_0 t2_0 t3_0 a39 a32 lx45 lx46 fm88) N2 N4 t0_0 t0_1 t0_2 t0_3 t0_4 t0_5 t0_6 t1_0 t2_0 t3_0 a39 a32 lx45 lx46 lx73 lx74 lx75 j108 0 = (F_WR_multiplyRows_b N2 N4 t0_0 t0_1 t0_2 t0_3 t0_4 t0_5 t0_6 t1_0 t2_0 t3_0) from Eq.trans (by rw [← e109, ← e106, ← e104, ← e100, F_WR_multiplyRows_b_J49.eq_1, if_pos c141]) hR94), (show True ∧ S_WR_multiplyRows_b_J85 (S_WR_multiplyRows_b_L22 N2 N4 t0_0 t0_1 t0_2 t0_3 t0_4 t0_5 t0_6 t1_0 t2_0 t3_0 a39 a32 fm59) (S_WR_multiplyRows_b_L35 (S_WR_multiplyRows_b_L22 N2 N4 t0_0 t0_1 t0_2 t0_3 t0_4 t0_5 t0_6 t1_0 t2_0 t3_0 a39 a32 fm59) N2 N4 t0_0 t0_1 t0_2 t0_3 t0_4 t0_5 t0_6 t1_0 t2_0 t3_0 a39 a32 lx45 lx46 fm88) N2 N4 t0_0 t0_1 t0_2 t0_3 t0_4 t0_5 t0_6 t1_0 t2_0 t3_0 a39 a32 lx45 lx46 lx73 lx74 lx75 j108 0 from (by rw [← e109, ← e106, ← e104, ← e100]; have h := hS95; rw [S_WR_multiplyRows_b_J49.eq_1] at h; replace h := q_s2 h; rw [if_pos c141] at h; with_reducible exact h))⟩
        ·
          have b143 : q_F (lx73.toInt < a39.toInt) := (q_nleI c141)
          refine lv_aload_n hx hb d_19_13_70 rfl (lv_at hl 6 rfl) ?_
          refine lv_iload hx hb d_19_13_71 (lv_at hl 2 rfl) ?_
          refine q_iald C0 V hO82 (q_ix (x := lx45.toInt) rfl (by first | with_reducible exact q_fe i47 | (have t1 : 0 ≤ lx45.toInt := i47; omega)) (by have t1 : 0 ≤ lx45.toInt := i47; have t2 : a32.toInt ≤ N2.toInt := b34; have t3 : lx45.toInt < a32.toInt := b70; have e9 := q_clI (i := N2) rfl (by first | with_reducible exact (q_fe hfk20).2 | with_reducible exact (q_fe hfk20).1 | (have t1 : 0 ≤ N2.toInt ∧ N2.toInt ≤ 20200 := hfk20; omega)); omega)) d_19_13_73 ?_
          obtain ⟨a144, e145⟩ := q_nm (t2_0 lx45.toNatClampNeg : Int32)
          refine q_ti (v := a144) e145 ?_
          refine lv_i2l hx hb d_19_13_74 rfl ?_
          obtain ⟨j146, e147⟩ := q_nm (a144.toInt64 : Int64)
          refine q_tl (v := j146) e147 ?_
          refine lv_aload_n hx hb d_19_13_75 rfl (lv_at hl 7 rfl) ?_
          refine lv_iload hx hb d_19_13_76 (lv_at hl 0 rfl) ?_
          refine q_iald C0 V hO82 (q_ix (x := lx73.toInt) rfl (by first | with_reducible exact q_fe i76 | (have t1 : 0 ≤ lx73.toInt := i76; omega)) (by have t1 : 0 ≤ lx73.toInt := i76; have t2 : a39.toInt ≤ N2.toInt := b41; have t3 : lx73.toInt < a39.toInt := b143; have e9 := q_clI (i := N2) rfl (by first | with_reducible exact (q_fe hfk20).2 | with_reducible exact (q_fe hfk20).1 | (have t1 : 0 ≤ N2.toInt ∧ N2.toInt ≤ 20200 := hfk20; omega)); omega)) d_19_13_78 ?_
          obtain ⟨a149, e150⟩ := q_nm (t2_0 lx73.toNatClampNeg : Int32)
          refine q_ti (v := a149) e150 ?_
          refine lv_i2l hx hb d_19_13_79 rfl ?_
          obtain ⟨j151, e152⟩ := q_nm (a149.toInt64 : Int64)
          refine q_tl (v := j151) e152 ?_
          refine lv_lmul hx hb d_19_13_80 ?_
          obtain ⟨j154, e155⟩ := q_nm (j146 * j151 : Int64)
          refine q_tl (v := j154) e155 ?_
          refine lv_goto (tgt := 85) hx hb d_19_13_81 (by decide) ?_
          exact J115 ((j154 : Int64)) _ _ _ w79 ⟨V, q_lw hl (q_lw1 0 rfl (q_lw1 2 rfl (q_lw1 3 rfl (q_lw1 4 rfl (q_lw1 5 rfl (q_lw1 6 rfl (q_lw1 7 rfl (q_lw1 8 rfl q_lw0)))))))), (show F_WR_multiplyRows_b_J85 (F_WR_multiplyRows_b_L22 N2 N4 t0_0 t0_1 t0_2 t0_3 t0_4 t0_5 t0_6 t1_0 t2_0 t3_0 a39 a32 fm59) (F_WR_multiplyRows_b_L35 (F_WR_multiplyRows_b_L22 N2 N4 t0_0 t0_1 t0_2 t0_3 t0_4 t0_5 t0_6 t1_0 t2_0 t3_0 a39 a32 fm59) N2 N4 t0_0 t0_1 t0_2 t0_3 t0_4 t0_5 t0_6 t1_0 t2_0 t3_0 a39 a32 lx45 lx46 fm88) N2 N4 t0_0 t0_1 t0_2 t0_3 t0_4 t0_5 t0_6 t1_0 t2_0 t3_0 a39 a32 lx45 lx46 lx73 lx74 lx75 j108 j154 = (F_WR_multiplyRows_b N2 N4 t0_0 t0_1 t0_2 t0_3 t0_4 t0_5 t0_6 t1_0 t2_0 t3_0) from Eq.trans (by rw [← e155, ← e152, ← e150, ← e147, ← e145, ← e109, ← e106, ← e104, ← e100, F_WR_multiplyRows_b_J49.eq_1, if_neg c141]) hR94), (show True ∧ S_WR_multiplyRows_b_J85 (S_WR_multiplyRows_b_L22 N2 N4 t0_0 t0_1 t0_2 t0_3 t0_4 t0_5 t0_6 t1_0 t2_0 t3_0 a39 a32 fm59) (S_WR_multiplyRows_b_L35 (S_WR_multiplyRows_b_L22 N2 N4 t0_0 t0_1 t0_2 t0_3 t0_4 t0_5 t0_6 t1_0 t2_0 t3_0 a39 a32 fm59) N2 N4 t0_0 t0_1 t0_2 t0_3 t0_4 t0_5 t0_6 t1_0 t2_0 t3_0 a39 a32 lx45 lx46 fm88) N2 N4 t0_0 t0_1 t0_2 t0_3 t0_4 t0_5 t0_6 t1_0 t2_0 t3_0 a39 a32 lx45 lx46 lx73 lx74 lx75 j108 j154 from (by rw [← e155, ← e152, ← e150, ← e147, ← e145, ← e109, ← e106, ← e104, ← e100]; have h := hS95; rw [S_WR_multiplyRows_b_J49.eq_1] at h; replace h := q_s2 h; rw [if_neg c141] at h; with_reducible exact h))⟩
    ·
      intro J93
      refine lv_icmp_lt (tgt := 49) hx hb d_19_13_39 (by decide) (fun c156 => ?_) (fun c156 => ?_)
      ·
        exact J93 (()) _ _ _ w79 ⟨V, q_lw hl (q_lw1 0 rfl (q_lw1 1 rfl (q_lw1 2 rfl (q_lw1 3 rfl (q_lw1 4 rfl (q_lw1 5 rfl (q_lw1 6 rfl (q_lw1 7 rfl (q_lw1 8 rfl q_lw0))))))))), (show F_WR_multiplyRows_b_J49 (F_WR_multiplyRows_b_L22 N2 N4 t0_0 t0_1 t0_2 t0_3 t0_4 t0_5 t0_6 t1_0 t2_0 t3_0 a39 a32 fm59) (F_WR_multiplyRows_b_L35 (F_WR_multiplyRows_b_L22 N2 N4 t0_0 t0_1 t0_2 t0_3 t0_4 t0_5 t0_6 t1_0 t2_0 t3_0 a39 a32 fm59) N2 N4 t0_0 t0_1 t0_2 t0_3 t0_4 t0_5 t0_6 t1_0 t2_0 t3_0 a39 a32 lx45 lx46 fm88) N2 N4 t0_0 t0_1 t0_2 t0_3 t0_4 t0_5 t0_6 t1_0 t2_0 t3_0 a39 a32 lx45 lx46 lx73 lx74 lx75 = (F_WR_multiplyRows_b N2 N4 t0_0 t0_1 t0_2 t0_3 t0_4 t0_5 t0_6 t1_0 t2_0 t3_0) from Eq.trans (by rw [F_WR_multiplyRows_b_L35.eq_2, if_pos c156]) hR84), (show True ∧ S_WR_multiplyRows_b_J49 (S_WR_multiplyRows_b_L22 N2 N4 t0_0 t0_1 t0_2 t0_3 t0_4 t0_5 t0_6 t1_0 t2_0 t3_0 a39 a32 fm59) (S_WR_multiplyRows_b_L35 (S_WR_multiplyRows_b_L22 N2 N4 t0_0 t0_1 t0_2 t0_3 t0_4 t0_5 t0_6 t1_0 t2_0 t3_0 a39 a32 fm59) N2 N4 t0_0 t0_1 t0_2 t0_3 t0_4 t0_5 t0_6 t1_0 t2_0 t3_0 a39 a32 lx45 lx46 fm88) N2 N4 t0_0 t0_1 t0_2 t0_3 t0_4 t0_5 t0_6 t1_0 t2_0 t3_0 a39 a32 lx45 lx46 lx73 lx74 lx75 from (by have h := hS85; rw [S_WR_multiplyRows_b_L35.eq_2] at h; rw [if_pos c156] at h; with_reducible exact h))⟩
      ·
        refine lv_lload hx hb d_19_13_42 (lv_at hl 1 rfl) ?_
        refine lv_lconst (v := 0) hx hb d_19_13_44 (by decide) ?_
        refine W.lcmp hx hb d_19_13_45 ?_
        obtain ⟨a159, e160⟩ := q_nm (lg_cmp lx74 0 : Int32)
        refine q_ti (v := a159) e160 ?_
        refine lv_if_eq (tgt := 118) hx hb d_19_13_46 (by decide) (fun c162 => ?_) (fun c162 => ?_)
        ·
          obtain ⟨a164, e165⟩ := q_nm (lx45 + 1 : Int32)
          have b166 : q_F (a164.toInt = lx45.toInt + 1) := (by rw [← e165]; exact q_addI (y := 1) rfl (by decide) (by have t1 : 0 ≤ lx45.toInt := i47; have t2 : lx45.toInt < a32.toInt := b70; have _ := q_lo32 (x := a32); have _ := q_hi32 (x := a32); omega) (by have t1 : 0 ≤ lx45.toInt := i47; have t2 : lx45.toInt < a32.toInt := b70; have _ := q_lo32 (x := a32); have _ := q_hi32 (x := a32); omega))
          refine lv_iinc (v := a164) (lv' := [(6, .int a164), (9, .int lx73), (7, .long lx74), (5, .int a39), (4, .int a32), (0, .ref (q 119)), (1, .ref (q k2)), (2, .ref (q k2)), (3, .ref (q k4))]) hx hb d_19_13_118 hl (k := 2) rfl (e165) (by decide) rfl (fun ls hl => ?_)
          refine lv_goto (tgt := 22) hx hb d_19_13_121 (by decide) ?_
          exact ih49 ((a164 : Int32), (lx75 : (Nat → Int32))) _ _ _ _ (show (20200 - a164.toInt).toNat < (20200 - lx45.toInt).toNat from by have t1 : a164.toInt = lx45.toInt + 1 := b166; have t2 : 0 ≤ N2.toInt ∧ N2.toInt ≤ 20200 := hfk20; have t3 : a32.toInt ≤ N2.toInt := b34; have t4 : lx45.toInt ≤ a32.toInt := i48; have t5 : lx45.toInt < a32.toInt := b70; omega) ⟨(show q_F (0 ≤ a164.toInt) from (show 0 ≤ a164.toInt from by have t1 : 0 ≤ lx45.toInt := i47; have t2 : a164.toInt = lx45.toInt + 1 := b166; omega)), (show q_F (a164.toInt ≤ a32.toInt) from (show a164.toInt ≤ a32.toInt from by have t1 : lx45.toInt < a32.toInt := b70; have t2 : a164.toInt = lx45.toInt + 1 := b166; omega)), V, q_lw hl (q_lw1 0 rfl (q_lw1 3 rfl (q_lw1 4 rfl (q_lw1 5 rfl (q_lw1 6 rfl (q_lw1 7 rfl (q_lw1 8 rfl q_lw0))))))), hI, hF, hO80, hO81, hO82, hO83, ⟨fm59, Nat.lt_of_lt_of_le (show (20200 - a164.toInt).toNat < (20200 - lx45.toInt).toNat from by have t1 : a164.toInt = lx45.toInt + 1 := b166; have t2 : 0 ≤ N2.toInt ∧ N2.toInt ≤ 20200 := hfk20; have t3 : a32.toInt ≤ N2.toInt := b34; have t4 : lx45.toInt ≤ a32.toInt := i48; have t5 : lx45.toInt < a32.toInt := b70; omega) (Nat.le_of_lt_succ hf58), (show F_WR_multiplyRows_b_L22 N2 N4 t0_0 t0_1 t0_2 t0_3 t0_4 t0_5 t0_6 t1_0 t2_0 t3_0 a39 a32 fm59 a164 lx75 = (F_WR_multiplyRows_b N2 N4 t0_0 t0_1 t0_2 t0_3 t0_4 t0_5 t0_6 t1_0 t2_0 t3_0) from Eq.trans (by have c162x := c162; rw [← e160] at c162x; rw [← e165, F_WR_multiplyRows_b_L35.eq_2, if_neg c156, if_pos c162x]) hR84), (show True ∧ S_WR_multiplyRows_b_L22 N2 N4 t0_0 t0_1 t0_2 t0_3 t0_4 t0_5 t0_6 t1_0 t2_0 t3_0 a39 a32 fm59 a164 lx75 from (by rw [← e165]; have h := hS85; rw [S_WR_multiplyRows_b_L35.eq_2] at h; rw [if_neg c156] at h; have c162x := c162; rw [← e160] at c162x; rw [if_pos c162x] at h; with_reducible exact h))⟩⟩
        ·
          exact J93 (()) _ _ _ w79 ⟨V, q_lw hl (q_lw1 0 rfl (q_lw1 1 rfl (q_lw1 2 rfl (q_lw1 3 rfl (q_lw1 4 rfl (q_lw1 5 rfl (q_lw1 6 rfl (q_lw1 7 rfl (q_lw1 8 rfl q_lw0))))))))), (show F_WR_multiplyRows_b_J49 (F_WR_multiplyRows_b_L22 N2 N4 t0_0 t0_1 t0_2 t0_3 t0_4 t0_5 t0_6 t1_0 t2_0 t3_0 a39 a32 fm59) (F_WR_multiplyRows_b_L35 (F_WR_multiplyRows_b_L22 N2 N4 t0_0 t0_1 t0_2 t0_3 t0_4 t0_5 t0_6 t1_0 t2_0 t3_0 a39 a32 fm59) N2 N4 t0_0 t0_1 t0_2 t0_3 t0_4 t0_5 t0_6 t1_0 t2_0 t3_0 a39 a32 lx45 lx46 fm88) N2 N4 t0_0 t0_1 t0_2 t0_3 t0_4 t0_5 t0_6 t1_0 t2_0 t3_0 a39 a32 lx45 lx46 lx73 lx74 lx75 = (F_WR_multiplyRows_b N2 N4 t0_0 t0_1 t0_2 t0_3 t0_4 t0_5 t0_6 t1_0 t2_0 t3_0) from Eq.trans (by have c162x := c162; rw [← e160] at c162x; rw [F_WR_multiplyRows_b_L35.eq_2, if_neg c156, if_neg c162x]) hR84), (show True ∧ S_WR_multiplyRows_b_J49 (S_WR_multiplyRows_b_L22 N2 N4 t0_0 t0_1 t0_2 t0_3 t0_4 t0_5 t0_6 t1_0 t2_0 t3_0 a39 a32 fm59) (S_WR_multiplyRows_b_L35 (S_WR_multiplyRows_b_L22 N2 N4 t0_0 t0_1 t0_2 t0_3 t0_4 t0_5 t0_6 t1_0 t2_0 t3_0 a39 a32 fm59) N2 N4 t0_0 t0_1 t0_2 t0_3 t0_4 t0_5 t0_6 t1_0 t2_0 t3_0 a39 a32 lx45 lx46 fm88) N2 N4 t0_0 t0_1 t0_2 t0_3 t0_4 t0_5 t0_6 t1_0 t2_0 t3_0 a39 a32 lx45 lx46 lx73 lx74 lx75 from (by have h := hS85; rw [S_WR_multiplyRows_b_L35.eq_2] at h; rw [if_neg c156] at h; have c162x := c162; rw [← e160] at c162x; rw [if_neg c162x] at h; with_reducible exact h))⟩
