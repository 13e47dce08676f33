/-! NumberHouseModel, exactly -/
theorem d_14_2_0 : decode prog_14_method_2_code 0 = .ok (.aload_n 0, 1) := by decide +kernel
theorem d_14_2_1 : decode prog_14_method_2_code 1 = .ok (.getfield 58, 3) := by decide +kernel
set_option maxRecDepth 100000 in
theorem w_2298 : (Cond.fieldLink "NumberHouseModel" (58 : Nat) "NumberHouseModel" "thrown" "I") ∈ q_tbl := q_of10 138 rfl (by decide +kernel)
theorem d_14_2_4 : decode prog_14_method_2_code 4 = .ok (.ireturn, 1) := by decide +kernel
def y_NM_thrown : MethodName := ⟨"NumberHouseModel", "thrown", "()I"⟩
def F_NM_thrown (t0_0 : Int32) (t0_1 : Int32) (t0_2 : Int32) : Int32 := t0_0
set_option maxRecDepth 100000 in
set_option maxHeartbeats 4000000 in
theorem X_NM_thrown (l : Launch) (D : va_G) (g : Nat → ClassId) (q : Nat → Nat) (ws : va_W) (hI : q_I (msh g q) q ws) (t0_0 : Int32) (t0_1 : Int32) (t0_2 : Int32) (hT0 : ws[116]? = (some (q 116, .inr (12, [.int t0_0, .ref (q 117), .int t0_1, .ref (q 118), .int t0_2, .ref (q 119), .ref (q 134), .ref (q 145), .ref (q 153), .ref (q 157), .ref (q 167), .ref (q 168)])) : Option (Nat × va_E))) : q_mI l y_NM_thrown prog_14_method_2_code 1 (.int) 1 0 0 D g [.ref (q 116)] ws (fun r u => ws = u ∧ (t0_0.toInt ≤ r.toInt) ∧ (r.toInt ≤ t0_0.toInt) ∧ r = (F_NM_thrown t0_0 t0_1 t0_2)) := by
  intro sz
  refine q_into (by decide) (Nat.le_of_ble_eq_true rfl) ?_
  intro p e s m below meth c ls hsz C0 V hl
  have hx := C0.1
  have hb := C0.2.1
  have btt0_2 := (n_w116 hI hT0).2
  clear btt0_2
  have hl : lv_has ls 1 [(0, .ref (q 116))] := hl
  refine lv_aload_n hx hb d_14_2_0 rfl (lv_at hl 0 rfl) ?_
  refine q_get (ci := 12) (j := 0) (v := .int t0_0) C0 V i_NM rfl rfl hT0 (by decide) w_2298 rfl d_14_2_1 ?_
  exact q_reti C0 V (⟨rfl, (show t0_0.toInt ≤ t0_0.toInt from (by omega)), (show t0_0.toInt ≤ t0_0.toInt from (by omega)), (show t0_0 = (F_NM_thrown t0_0 t0_1 t0_2) from (by rw [F_NM_thrown.eq_1]))⟩) d_14_2_4
theorem d_14_3_0 : decode prog_14_method_3_code 0 = .ok (.aload_n 0, 1) := by decide +kernel
theorem d_14_3_1 : decode prog_14_method_3_code 1 = .ok (.iload_n 1, 1) := by decide +kernel
theorem d_14_3_2 : decode prog_14_method_3_code 2 = .ok (.iconst 1, 1) := by decide +kernel
theorem d_14_3_17 : decode prog_14_method_3_code 17 = .ok (.putfield 58, 3) := by decide +kernel
theorem d_14_3_20 : decode prog_14_method_3_code 20 = .ok (.aload_n 0, 1) := by decide +kernel
theorem d_14_3_21 : decode prog_14_method_3_code 21 = .ok (.getfield 58, 3) := by decide +kernel
theorem d_14_3_24 : decode prog_14_method_3_code 24 = .ok (.ifCond .le 5, 3) := by decide +kernel
theorem d_14_3_29 : decode prog_14_method_3_code 29 = .ok (.aload_n 0, 1) := by decide +kernel
theorem d_14_3_30 : decode prog_14_method_3_code 30 = .ok (.getfield 62, 3) := by decide +kernel
set_option maxRecDepth 100000 in
theorem w_2300 : (Cond.fieldLink "NumberHouseModel" (62 : Nat) "NumberHouseModel" "length" "I") ∈ q_tbl := q_of10 140 rfl (by decide +kernel)
theorem d_14_3_33 : decode prog_14_method_3_code 33 = .ok (.iload_n 1, 1) := by decide +kernel
theorem d_14_3_34 : decode prog_14_method_3_code 34 = .ok (.iadd, 1) := by decide +kernel
theorem d_14_3_35 : decode prog_14_method_3_code 35 = .ok (.sipush 4100, 3) := by decide +kernel
theorem d_14_3_38 : decode prog_14_method_3_code 38 = .ok (.if_icmp .le 5, 3) := by decide +kernel
theorem d_14_3_43 : decode prog_14_method_3_code 43 = .ok (.iconst 0, 1) := by decide +kernel
theorem d_14_3_44 : decode prog_14_method_3_code 44 = .ok (.istore 4, 2) := by decide +kernel
theorem d_14_3_46 : decode prog_14_method_3_code 46 = .ok (.iload 4, 2) := by decide +kernel
theorem d_14_3_48 : decode prog_14_method_3_code 48 = .ok (.iload_n 1, 1) := by decide +kernel
theorem d_14_3_49 : decode prog_14_method_3_code 49 = .ok (.if_icmp .ge 40, 3) := by decide +kernel
theorem d_14_3_89 : decode prog_14_method_3_code 89 = .ok (.aload_n 0, 1) := by decide +kernel
theorem d_14_3_90 : decode prog_14_method_3_code 90 = .ok (.getfield 62, 3) := by decide +kernel
theorem d_14_3_93 : decode prog_14_method_3_code 93 = .ok (.ireturn, 1) := by decide +kernel
theorem d_14_3_52 : decode prog_14_method_3_code 52 = .ok (.aload_n 0, 1) := by decide +kernel
theorem d_14_3_53 : decode prog_14_method_3_code 53 = .ok (.getfield 7, 3) := by decide +kernel
theorem d_14_3_56 : decode prog_14_method_3_code 56 = .ok (.aload_n 0, 1) := by decide +kernel
theorem d_14_3_57 : decode prog_14_method_3_code 57 = .ok (.getfield 62, 3) := by decide +kernel
theorem d_14_3_60 : decode prog_14_method_3_code 60 = .ok (.lload_n 2, 1) := by decide +kernel
theorem d_14_3_61 : decode prog_14_method_3_code 61 = .ok (.bipush 8, 2) := by decide +kernel
theorem d_14_3_63 : decode prog_14_method_3_code 63 = .ok (.iload 4, 2) := by decide +kernel
theorem d_14_3_65 : decode prog_14_method_3_code 65 = .ok (.imul, 1) := by decide +kernel
theorem d_14_3_66 : decode prog_14_method_3_code 66 = .ok (.lshr, 1) := by decide +kernel
theorem d_14_3_67 : decode prog_14_method_3_code 67 = .ok (.ldc2_w 65, 3) := by decide +kernel
set_option maxRecDepth 100000 in
theorem w_2343 : (Cond.constantLong "NumberHouseModel" (65 : Nat) (255 : Int64)) ∈ q_tbl := q_of10 183 rfl (by decide +kernel)
theorem d_14_3_70 : decode prog_14_method_3_code 70 = .ok (.land, 1) := by decide +kernel
theorem d_14_3_71 : decode prog_14_method_3_code 71 = .ok (.l2i, 1) := by decide +kernel
theorem d_14_3_72 : decode prog_14_method_3_code 72 = .ok (.iastore, 1) := by decide +kernel
theorem d_14_3_73 : decode prog_14_method_3_code 73 = .ok (.aload_n 0, 1) := by decide +kernel
theorem d_14_3_74 : decode prog_14_method_3_code 74 = .ok (.dup, 1) := by decide +kernel
theorem d_14_3_75 : decode prog_14_method_3_code 75 = .ok (.getfield 62, 3) := by decide +kernel
theorem d_14_3_78 : decode prog_14_method_3_code 78 = .ok (.iconst 1, 1) := by decide +kernel
theorem d_14_3_79 : decode prog_14_method_3_code 79 = .ok (.iadd, 1) := by decide +kernel
theorem d_14_3_80 : decode prog_14_method_3_code 80 = .ok (.putfield 62, 3) := by decide +kernel
theorem d_14_3_83 : decode prog_14_method_3_code 83 = .ok (.iinc 4 1, 3) := by decide +kernel
theorem d_14_3_86 : decode prog_14_method_3_code 86 = .ok (.goto (-40), 3) := by decide +kernel
theorem d_14_3_41 : decode prog_14_method_3_code 41 = .ok (.iconst (-1), 1) := by decide +kernel
theorem d_14_3_42 : decode prog_14_method_3_code 42 = .ok (.ireturn, 1) := by decide +kernel
theorem d_14_3_27 : decode prog_14_method_3_code 27 = .ok (.iconst 0, 1) := by decide +kernel
theorem d_14_3_28 : decode prog_14_method_3_code 28 = .ok (.ireturn, 1) := by decide +kernel
theorem d_14_3_12 : decode prog_14_method_3_code 12 = .ok (.iconst 1, 1) := by decide +kernel
theorem d_14_3_13 : decode prog_14_method_3_code 13 = .ok (.goto 4, 3) := by decide +kernel
theorem d_14_3_3 : decode prog_14_method_3_code 3 = .ok (.if_icmp .lt 9, 3) := by decide +kernel
theorem d_14_3_6 : decode prog_14_method_3_code 6 = .ok (.iload_n 1, 1) := by decide +kernel
theorem d_14_3_7 : decode prog_14_method_3_code 7 = .ok (.bipush 8, 2) := by decide +kernel
theorem d_14_3_9 : decode prog_14_method_3_code 9 = .ok (.if_icmp .le 7, 3) := by decide +kernel
theorem d_14_3_16 : decode prog_14_method_3_code 16 = .ok (.iconst 0, 1) := by decide +kernel
def y_NM_feed : MethodName := ⟨"NumberHouseModel", "feed", "(IJ)I"⟩
def F_NM_feed_L46 (x2 : Int32) (x3 : Int64) (t0_0 : Int32) (t0_1 : Int32) (t0_2 : Int32) (t1_0 : (Nat → Int32)) (lx10 : Int32) : Nat → Int32 → Int32 → (Nat → Int32) → (Int32 × Int32 × Int32 × (Nat → Int32))
  | 0, _, _, _ => default
  | fm + 1, lx30, lx31, lx32 => if x2 ≤ lx30 then ((lx31, lx10, lx31, lx32)) else (F_NM_feed_L46 x2 x3 t0_0 t0_1 t0_2 t1_0 lx10 fm (lx30 + 1 : Int32) (lx31 + 1 : Int32) (upd lx32 lx31.toNatClampNeg (((x3 >>> ((8 * lx30 : Int32).toInt64 &&& 63) : Int64) &&& 255 : Int64).toInt32 : Int32) : (Nat → Int32)))
def F_NM_feed_J17 (x2 : Int32) (x3 : Int64) (t0_0 : Int32) (t0_1 : Int32) (t0_2 : Int32) (t1_0 : (Nat → Int32)) (lx10 : Int32) : Int32 × Int32 × Int32 × (Nat → Int32) := if lx10 ≤ (0 : Int32) then (if (t0_1 + x2 : Int32) ≤ (4100 : Int32) then (F_NM_feed_L46 x2 x3 t0_0 t0_1 t0_2 t1_0 lx10 ((4100 - (0 : Int32).toInt).toNat + 1) 0 t0_1 t1_0) else (((-1 : Int32), lx10, t0_1, t1_0))) else (((0 : Int32), lx10, t0_1, t1_0))
def F_NM_feed_J12 (x2 : Int32) (x3 : Int64) (t0_0 : Int32) (t0_1 : Int32) (t0_2 : Int32) (t1_0 : (Nat → Int32)) : Int32 × Int32 × Int32 × (Nat → Int32) := F_NM_feed_J17 x2 x3 t0_0 t0_1 t0_2 t1_0 1
def F_NM_feed (x2 : Int32) (x3 : Int64) (t0_0 : Int32) (t0_1 : Int32) (t0_2 : Int32) (t1_0 : (Nat → Int32)) : Int32 × Int32 × Int32 × (Nat → Int32) := if x2 < (1 : Int32) then (F_NM_feed_J12 x2 x3 t0_0 t0_1 t0_2 t1_0) else (if x2 ≤ (8 : Int32) then (F_NM_feed_J17 x2 x3 t0_0 t0_1 t0_2 t1_0 0) else (F_NM_feed_J12 x2 x3 t0_0 t0_1 t0_2 t1_0))
def S_NM_feed_L46 (x2 : Int32) (x3 : Int64) (t0_0 : Int32) (t0_1 : Int32) (t0_2 : Int32) (t1_0 : (Nat → Int32)) (lx10 : Int32) : Nat → Int32 → Int32 → (Nat → Int32) → Prop
  | 0, _, _, _ => False
  | fm + 1, lx30, lx31, lx32 => if x2 ≤ lx30 then (True) else ((lx31.toInt ≤ 4099) ∧ (S_NM_feed_L46 x2 x3 t0_0 t0_1 t0_2 t1_0 lx10 fm (lx30 + 1 : Int32) (lx31 + 1 : Int32) (upd lx32 lx31.toNatClampNeg (((x3 >>> ((8 * lx30 : Int32).toInt64 &&& 63) : Int64) &&& 255 : Int64).toInt32 : Int32) : (Nat → Int32))))
def S_NM_feed_J17 (x2 : Int32) (x3 : Int64) (t0_0 : Int32) (t0_1 : Int32) (t0_2 : Int32) (t1_0 : (Nat → Int32)) (lx10 : Int32) : Prop := if lx10 ≤ (0 : Int32) then (if (t0_1 + x2 : Int32) ≤ (4100 : Int32) then (S_NM_feed_L46 x2 x3 t0_0 t0_1 t0_2 t1_0 lx10 ((4100 - (0 : Int32).toInt).toNat + 1) 0 t0_1 t1_0) else (True)) else (True)
def S_NM_feed_J12 (x2 : Int32) (x3 : Int64) (t0_0 : Int32) (t0_1 : Int32) (t0_2 : Int32) (t1_0 : (Nat → Int32)) : Prop := S_NM_feed_J17 x2 x3 t0_0 t0_1 t0_2 t1_0 1
def S_NM_feed (x2 : Int32) (x3 : Int64) (t0_0 : Int32) (t0_1 : Int32) (t0_2 : Int32) (t1_0 : (Nat → Int32)) : Prop := if x2 < (1 : Int32) then (S_NM_feed_J12 x2 x3 t0_0 t0_1 t0_2 t1_0) else (if x2 ≤ (8 : Int32) then (S_NM_feed_J17 x2 x3 t0_0 t0_1 t0_2 t1_0 0) else (S_NM_feed_J12 x2 x3 t0_0 t0_1 t0_2 t1_0))
set_option maxRecDepth 100000 in
set_option maxHeartbeats 4000000 in
theorem X_NM_feed (l : Launch) (D : va_G) (g : Nat → ClassId) (q : Nat → Nat) (ws : va_W) (x2 : Int32) (x3 : Int64) (hI : q_I (msh g q) q ws) (t0_0 : Int32) (t0_1 : Int32) (t0_2 : Int32) (hT0 : ws[116]? = (some (q 116, .inr (12, [.int t0_0, .ref (q 117), .int t0_1, .ref (q 118), .int t0_2, .ref (q 119), .ref (q 134), .ref (q 145), .ref (q 153), .ref (q 157), .ref (q 167), .ref (q 168)])) : Option (Nat × va_E))) (t1_0 : (Nat → Int32)) (hT1 : ws[117]? = (some (q 117, .inl (g 0, (4100 : Int32).toNatClampNeg, .inl t1_0)) : Option (Nat × va_E))) (hS : True ∧ S_NM_feed x2 x3 t0_0 t0_1 t0_2 t1_0) : q_mI l y_NM_feed prog_14_method_3_code 5 (.int) 1 0 0 D g [.ref (q 116), .int x2, .long x3] ws (fun r u => q_I (msh g q) q u ∧ q_un ws u [116, 117] ∧ ∃ (u0_0 : Int32) (u0_1 : Int32) (u1_0 : (Nat → Int32)), u[116]? = (some (q 116, .inr (12, [.int u0_0, .ref (q 117), .int u0_1, .ref (q 118), .int t0_2, .ref (q 119), .ref (q 134), .ref (q 145), .ref (q 153), .ref (q 157), .ref (q 167), .ref (q 168)])) : Option (Nat × va_E)) ∧ u[117]? = (some (q 117, .inl (g 0, (4100 : Int32).toNatClampNeg, .inl u1_0)) : Option (Nat × va_E)) ∧ (0 ≤ u0_0.toInt) ∧ (u0_0.toInt ≤ 1) ∧ (u0_1.toInt ≤ 4100) ∧ (t0_1.toInt ≤ u0_1.toInt) ∧ (u0_0.toInt ≤ r.toInt + 1) ∧ (r.toInt ≤ u0_1.toInt) ∧ (r, u0_0, u0_1, u1_0) = (F_NM_feed x2 x3 t0_0 t0_1 t0_2 t1_0)) := by
  intro sz
  refine q_into (by decide) (Nat.le_of_ble_eq_true rfl) ?_
  intro p e s m below meth c ls hsz C0 V hl
  have hx := C0.1
  have hb := C0.2.1
  obtain ⟨btt0_1, btt0_2⟩ := n_w116 hI hT0
  replace btt0_1 : q_F (0 ≤ t0_1.toInt ∧ t0_1.toInt ≤ 4100) := btt0_1
  replace btt0_2 : q_F (0 ≤ t0_2.toInt ∧ t0_2.toInt ≤ 12200) := btt0_2
  have hF : q_un ws ws [116, 117] := q_u0
  have hl : lv_has ls 5 [(0, .ref (q 116)), (1, .int x2), (2, .long x3)] := hl
  refine lv_aload_n hx hb d_14_3_0 rfl (lv_at hl 0 rfl) ?_
  refine lv_iload_n hx hb d_14_3_1 rfl (lv_at hl 1 rfl) ?_
  refine lv_iconst (v := 1) hx hb d_14_3_2 (by decide) ?_
  refine q_join (X := Int32) (fun z H locs ls _ => q_F (0 ≤ z.toInt) ∧ q_F (z.toInt ≤ 1) ∧ q_Wd D g (va_A ws sz) s ws H locs ∧ lv_has ls 5 [(0, .ref (q 116)), (1, .int x2), (2, .long x3)] ∧ F_NM_feed_J17 x2 x3 t0_0 t0_1 t0_2 t1_0 z = (F_NM_feed x2 x3 t0_0 t0_1 t0_2 t1_0) ∧ True ∧ S_NM_feed_J17 x2 x3 t0_0 t0_1 t0_2 t1_0 z) (fun z => [.int z, .ref (q 116)]) 17 0 0 ?_ ?_
  ·
    rintro lx10 H locs ls _ hZ9
    obtain ⟨i14, hZ9⟩ := hZ9
    obtain ⟨i15, hZ9⟩ := hZ9
    obtain ⟨V, hZ9⟩ := hZ9
    obtain ⟨hl, hZ9⟩ := hZ9
    obtain ⟨hR16, hS17⟩ := hZ9
    replace i14 : q_F (0 ≤ lx10.toInt) := i14
    replace i15 : q_F (lx10.toInt ≤ 1) := i15
    replace hl : lv_has ls 5 [(0, .ref (q 116)), (1, .int x2), (2, .long x3)] := hl
    refine q_put (ci := 12) (j := 0) (v := .int lx10) (ty := .int) C0 V i_NM o_NM n_NM rfl rfl hT0 (by decide) w_2298 rfl rfl rfl rfl (Nat.le_of_ble_eq_true rfl) d_14_3_17 (fun H locs w21 hu22 hT0 V => ?_)
    replace hT0 : w21[116]? = (some (q 116, .inr (12, [.int lx10, .ref (q 117), .int t0_1, .ref (q 118), .int t0_2, .ref (q 119), .ref (q 134), .ref (q 145), .ref (q 153), .ref (q 157), .ref (q 167), .ref (q 168)])) : Option (Nat × va_E)) := hT0
    replace hI := n_p116 hI hu22 hT0 (by first | with_reducible exact q_fe btt0_1 | exact ⟨(by have t1 : 0 ≤ t0_1.toInt ∧ t0_1.toInt ≤ 4100 := btt0_1; omega), (by have t1 : 0 ≤ t0_1.toInt ∧ t0_1.toInt ≤ 4100 := btt0_1; omega)⟩) (by first | with_reducible exact q_fe btt0_2 | exact ⟨(by have t1 : 0 ≤ t0_2.toInt ∧ t0_2.toInt ≤ 12200 := btt0_2; omega), (by have t1 : 0 ≤ t0_2.toInt ∧ t0_2.toInt ≤ 12200 := btt0_2; omega)⟩)
    replace hT1 := (hu22 _ (by decide)).trans hT1
    replace hF := q_us hF hu22 (by simp)
    refine lv_aload_n hx hb d_14_3_20 rfl (lv_at hl 0 rfl) ?_
    refine q_get (ci := 12) (j := 0) (v := .int lx10) C0 V i_NM rfl rfl hT0 (by decide) w_2298 rfl d_14_3_21 ?_
    refine lv_if_le (tgt := 29) hx hb d_14_3_24 (by decide) (fun c23 => ?_) (fun c23 => ?_)
    ·
      have b24 : q_F (lx10.toInt ≤ 0) := (q_leI c23)
      refine lv_aload_n hx hb d_14_3_29 rfl (lv_at hl 0 rfl) ?_
      refine q_get (ci := 12) (j := 2) (v := .int t0_1) C0 V i_NM rfl rfl hT0 (by decide) w_2300 rfl d_14_3_30 ?_
      refine lv_iload_n hx hb d_14_3_33 rfl (lv_at hl 1 rfl) ?_
      refine lv_iadd hx hb d_14_3_34 ?_
      obtain ⟨a25, e26⟩ := q_nm (t0_1 + x2 : Int32)
      refine q_ti (v := a25) e26 ?_
      refine lv_sipush (v := 4100) hx hb d_14_3_35 (by decide) ?_
      refine lv_icmp_le (tgt := 43) hx hb d_14_3_38 (by decide) (fun c27 => ?_) (fun c27 => ?_)
      ·
        refine lv_iconst (v := 0) hx hb d_14_3_43 (by decide) ?_
        refine lv_istore (lv' := [(4, .int 0), (0, .ref (q 116)), (1, .int x2), (2, .long x3)]) hx hb d_14_3_44 hl (by decide) rfl (fun ls hl => ?_)
        refine q_loop (X := Int32 × Int32 × (Nat → Int32)) (fun z H locs ls w38 => q_F (z.2.1.toInt ≤ lx10.toInt + 4100) ∧ q_F (t0_1.toInt ≤ z.1.toInt + z.2.1.toInt) ∧ q_F (z.2.1.toInt ≤ z.1.toInt + t0_1.toInt) ∧ q_F (z.1.toInt + t0_1.toInt ≤ z.2.1.toInt) ∧ q_Wd D g (va_A ws sz) s w38 H locs ∧ lv_has ls 5 [(4, .int z.1), (0, .ref (q 116)), (1, .int x2), (2, .long x3)] ∧ q_I (msh g q) q w38 ∧ q_un ws w38 [116, 117] ∧ w38[116]? = (some (q 116, .inr (12, [.int lx10, .ref (q 117), .int z.2.1, .ref (q 118), .int t0_2, .ref (q 119), .ref (q 134), .ref (q 145), .ref (q 153), .ref (q 157), .ref (q 167), .ref (q 168)])) : Option (Nat × va_E)) ∧ w38[117]? = (some (q 117, .inl (g 0, (4100 : Int32).toNatClampNeg, .inl z.2.2)) : Option (Nat × va_E)) ∧ (∃ n, (4100 - z.1.toInt).toNat < n ∧ F_NM_feed_L46 x2 x3 t0_0 t0_1 t0_2 t1_0 lx10 n z.1 z.2.1 z.2.2 = (F_NM_feed x2 x3 t0_0 t0_1 t0_2 t1_0) ∧ True ∧ S_NM_feed_L46 x2 x3 t0_0 t0_1 t0_2 t1_0 lx10 n z.1 z.2.1 z.2.2)) (fun z => (4100 - z.1.toInt).toNat) ?_ ((0 : Int32), (t0_1 : Int32), (t1_0 : (Nat → Int32))) _ _ _ w21 ⟨(show q_F (t0_1.toInt ≤ lx10.toInt + 4100) from (show t0_1.toInt ≤ lx10.toInt + 4100 from by have t1 : 0 ≤ t0_1.toInt ∧ t0_1.toInt ≤ 4100 := btt0_1; have t2 : 0 ≤ lx10.toInt := i14; omega)), (show q_F (t0_1.toInt ≤ 0 + t0_1.toInt) from (show t0_1.toInt ≤ 0 + t0_1.toInt from by omega)), (show q_F (t0_1.toInt ≤ 0 + t0_1.toInt) from (show t0_1.toInt ≤ 0 + t0_1.toInt from by omega)), (show q_F (0 + t0_1.toInt ≤ t0_1.toInt) from (show 0 + t0_1.toInt ≤ t0_1.toInt from by omega)), V, q_lw hl (q_lw1 0 rfl (q_lw1 1 rfl (q_lw1 2 rfl (q_lw1 3 rfl q_lw0)))), hI, hF, hT0, hT1, ⟨((4100 - (0 : Int32).toInt).toNat + 1), Nat.lt_succ_self _, (show F_NM_feed_L46 x2 x3 t0_0 t0_1 t0_2 t1_0 lx10 ((4100 - (0 : Int32).toInt).toNat + 1) 0 t0_1 t1_0 = (F_NM_feed x2 x3 t0_0 t0_1 t0_2 t1_0) from Eq.trans (by have c27x := c27; rw [← e26] at c27x; rw [F_NM_feed_J17.eq_1, if_pos c23, if_pos c27x]) hR16), (show True ∧ S_NM_feed_L46 x2 x3 t0_0 t0_1 t0_2 t1_0 lx10 ((4100 - (0 : Int32).toInt).toNat + 1) 0 t0_1 t1_0 from (by have h := hS17; rw [S_NM_feed_J17.eq_1] at h; rw [if_pos c23] at h; have c27x := c27; rw [← e26] at c27x; rw [if_pos c27x] at h; with_reducible exact h))⟩⟩
        rintro ⟨lx30, lx31, lx32⟩ H locs ls w38 ⟨i33, i34, i35, i36, V, hl, hI, hF, hO39, hO40, ⟨fu43, hf44, hR41, hS42⟩⟩ ih37
        obtain ⟨fm45, rfl⟩ : ∃ m, fu43 = m + 1 := ⟨fu43 - 1, by omega⟩
        replace i33 : q_F (lx31.toInt ≤ lx10.toInt + 4100) := i33
        replace i34 : q_F (t0_1.toInt ≤ lx30.toInt + lx31.toInt) := i34
        replace i35 : q_F (lx31.toInt ≤ lx30.toInt + t0_1.toInt) := i35
        replace i36 : q_F (lx30.toInt + t0_1.toInt ≤ lx31.toInt) := i36
        replace hl : lv_has ls 5 [(4, .int lx30), (0, .ref (q 116)), (1, .int x2), (2, .long x3)] := hl
        replace hO39 : w38[116]? = (some (q 116, .inr (12, [.int lx10, .ref (q 117), .int lx31, .ref (q 118), .int t0_2, .ref (q 119), .ref (q 134), .ref (q 145), .ref (q 153), .ref (q 157), .ref (q 167), .ref (q 168)])) : Option (Nat × va_E)) := hO39
        replace hO40 : w38[117]? = (some (q 117, .inl (g 0, (4100 : Int32).toNatClampNeg, .inl lx32)) : Option (Nat × va_E)) := hO40
        refine lv_iload hx hb d_14_3_46 (lv_at hl 0 rfl) ?_
        refine lv_iload_n hx hb d_14_3_48 rfl (lv_at hl 2 rfl) ?_
        refine lv_icmp_ge (tgt := 89) hx hb d_14_3_49 (by decide) (fun c46 => ?_) (fun c46 => ?_)
        ·
          refine lv_aload_n hx hb d_14_3_89 rfl (lv_at hl 1 rfl) ?_
          refine q_get (ci := 12) (j := 2) (v := .int lx31) C0 V i_NM rfl rfl hO39 (by decide) w_2300 rfl d_14_3_90 ?_
          exact q_reti C0 V (⟨hI, hF, lx10, lx31, lx32, hO39, hO40, (show 0 ≤ lx10.toInt from (by first | with_reducible exact q_fe i14 | (have t1 : 0 ≤ lx10.toInt := i14; omega))), (show lx10.toInt ≤ 1 from (by first | with_reducible exact q_fe i15 | (have t1 : lx10.toInt ≤ 1 := i15; omega))), (show lx31.toInt ≤ 4100 from (by have t1 : lx10.toInt ≤ 0 := b24; have t2 : lx31.toInt ≤ lx10.toInt + 4100 := i33; omega)), (show t0_1.toInt ≤ lx31.toInt from (by have t1 : t0_1.toInt ≤ lx30.toInt + lx31.toInt := i34; have t2 : lx30.toInt + t0_1.toInt ≤ lx31.toInt := i36; omega)), (show lx10.toInt ≤ lx31.toInt + 1 from (by have t1 : 0 ≤ t0_1.toInt ∧ t0_1.toInt ≤ 4100 := btt0_1; have t2 : lx10.toInt ≤ 1 := i15; have t3 : t0_1.toInt ≤ lx30.toInt + lx31.toInt := i34; have t4 : lx30.toInt + t0_1.toInt ≤ lx31.toInt := i36; omega)), (show lx31.toInt ≤ lx31.toInt from (by omega)), (show (lx31, lx10, lx31, lx32) = (F_NM_feed x2 x3 t0_0 t0_1 t0_2 t1_0) from Eq.trans (by rw [F_NM_feed_L46.eq_2, if_pos c46]) hR41)⟩) d_14_3_93
        ·
          refine lv_aload_n hx hb d_14_3_52 rfl (lv_at hl 1 rfl) ?_
          refine q_get (ci := 12) (j := 1) (v := .ref (q 117)) C0 V i_NM rfl rfl hO39 (by decide) w_2299 rfl d_14_3_53 ?_
          refine lv_aload_n hx hb d_14_3_56 rfl (lv_at hl 1 rfl) ?_
          refine q_get (ci := 12) (j := 2) (v := .int lx31) C0 V i_NM rfl rfl hO39 (by decide) w_2300 rfl d_14_3_57 ?_
          refine lv_lload_n hx hb d_14_3_60 rfl (lv_at hl 3 rfl) ?_
          refine lv_bipush (v := 8) hx hb d_14_3_61 (by decide) ?_
          refine lv_iload hx hb d_14_3_63 (lv_at hl 0 rfl) ?_
          refine lv_imul hx hb d_14_3_65 ?_
          obtain ⟨a49, e50⟩ := q_nm (8 * lx30 : Int32)
          refine q_ti (v := a49) e50 ?_
          have b51 : q_F (a49.toInt = 8 * lx30.toInt) := (by rw [← e50]; show (8 * lx30 : Int32).toInt = 8 * lx30.toInt; exact q_mulI (x := 8) (y := lx30.toInt) (by decide) rfl (by have t1 : t0_1.toInt ≤ lx30.toInt + lx31.toInt := i34; have t2 : lx31.toInt ≤ lx30.toInt + t0_1.toInt := i35; have t3 : 0 ≤ t0_1.toInt ∧ t0_1.toInt ≤ 4100 := btt0_1; have t4 : lx10.toInt ≤ 1 := i15; have t5 : lx31.toInt ≤ lx10.toInt + 4100 := i33; have t6 : lx30.toInt + t0_1.toInt ≤ lx31.toInt := i36; omega) (by have t1 : t0_1.toInt ≤ lx30.toInt + lx31.toInt := i34; have t2 : lx31.toInt ≤ lx30.toInt + t0_1.toInt := i35; have t3 : 0 ≤ t0_1.toInt ∧ t0_1.toInt ≤ 4100 := btt0_1; have t4 : lx10.toInt ≤ 1 := i15; have t5 : lx31.toInt ≤ lx10.toInt + 4100 := i33; have t6 : lx30.toInt + t0_1.toInt ≤ lx31.toInt := i36; omega))
          refine lv_lshr hx hb d_14_3_66 rfl ?_
          obtain ⟨j52, e53⟩ := q_nm (x3 >>> (a49.toInt64 &&& 63) : Int64)
          refine q_tl (v := j52) e53 ?_
          refine q_ldc2 C0 rfl w_2343 d_14_3_67 ?_
          refine lv_land hx hb d_14_3_70 ?_
          obtain ⟨j54, e55⟩ := q_nm (j52 &&& 255 : Int64)
          refine q_tl (v := j54) e55 ?_
          refine lv_l2i hx hb d_14_3_71 rfl ?_
          obtain ⟨a57, e58⟩ := q_nm (j54.toInt32 : Int32)
          refine q_ti (v := a57) e58 ?_
          have ob60 : q_F (lx31.toInt ≤ 4099) := (by have h := hS42; rw [S_NM_feed_L46.eq_2] at h; rw [if_neg c46] at h; exact h.2.1)
          refine q_iast C0 V hO40 (q_ix (x := lx31.toInt) rfl (by have t1 : 0 ≤ t0_1.toInt ∧ t0_1.toInt ≤ 4100 := btt0_1; have t2 : t0_1.toInt ≤ lx30.toInt + lx31.toInt := i34; have t3 : lx30.toInt + t0_1.toInt ≤ lx31.toInt := i36; omega) (by have t1 : 0 ≤ t0_1.toInt ∧ t0_1.toInt ≤ 4100 := btt0_1; have t2 : t0_1.toInt ≤ lx30.toInt + lx31.toInt := i34; have t3 : lx30.toInt + t0_1.toInt ≤ lx31.toInt := i36; have t4 : lx31.toInt ≤ 4099 := ob60; have e9 : (((4100 : Int32).toNatClampNeg : Nat) : Int) = 4100 := (by decide); omega)) d_14_3_72 (fun H locs w61 hu62 hO40 V => ?_)
          replace hI := n_ai' hI (n_r117 g q).1 hu62 hO40 (q_updB (fun _ => s_bnd) s_bnd)
          replace hO39 := (hu62 _ (by decide)).trans hO39
          replace hF := q_us hF hu62 (by simp)
          obtain ⟨f63, e64⟩ := q_nm (upd lx32 lx31.toNatClampNeg a57 : (Nat → Int32))
          rw [e64] at hO40
          refine lv_aload_n hx hb d_14_3_73 rfl (lv_at hl 1 rfl) ?_
          refine lv_dup hx hb d_14_3_74 rfl ?_
          refine q_get (ci := 12) (j := 2) (v := .int lx31) C0 V i_NM rfl rfl hO39 (by decide) w_2300 rfl d_14_3_75 ?_
          refine lv_iconst (v := 1) hx hb d_14_3_78 (by decide) ?_
          refine lv_iadd hx hb d_14_3_79 ?_
          obtain ⟨a65, e66⟩ := q_nm (lx31 + 1 : Int32)
          refine q_ti (v := a65) e66 ?_
          have b67 : q_F (a65.toInt = lx31.toInt + 1) := (by rw [← e66]; show (lx31 + 1 : Int32).toInt = lx31.toInt + 1; exact q_addI (x := lx31.toInt) (y := 1) rfl (by decide) (by have _ := q_lo32 (x := lx31); have _ := q_hi32 (x := lx31); have t1 : lx31.toInt ≤ 4099 := ob60; omega) (by have _ := q_lo32 (x := lx31); have _ := q_hi32 (x := lx31); have t1 : lx31.toInt ≤ 4099 := ob60; omega))
          refine q_put (ci := 12) (j := 2) (v := .int a65) (ty := .int) C0 V i_NM o_NM n_NM rfl rfl hO39 (by decide) w_2300 rfl rfl rfl rfl (Nat.le_of_ble_eq_true rfl) d_14_3_80 (fun H locs w68 hu69 hO39 V => ?_)
          replace hO39 : w68[116]? = (some (q 116, .inr (12, [.int lx10, .ref (q 117), .int a65, .ref (q 118), .int t0_2, .ref (q 119), .ref (q 134), .ref (q 145), .ref (q 153), .ref (q 157), .ref (q 167), .ref (q 168)])) : Option (Nat × va_E)) := hO39
          replace hI := n_p116 hI hu69 hO39 ⟨(by have t1 : 0 ≤ t0_1.toInt ∧ t0_1.toInt ≤ 4100 := btt0_1; have t2 : t0_1.toInt ≤ lx30.toInt + lx31.toInt := i34; have t3 : lx30.toInt + t0_1.toInt ≤ lx31.toInt := i36; have t4 : a65.toInt = lx31.toInt + 1 := b67; omega), (by have t1 : lx31.toInt ≤ 4099 := ob60; have t2 : a65.toInt = lx31.toInt + 1 := b67; omega)⟩ (by first | with_reducible exact q_fe btt0_2 | exact ⟨(by have t1 : 0 ≤ t0_2.toInt ∧ t0_2.toInt ≤ 12200 := btt0_2; omega), (by have t1 : 0 ≤ t0_2.toInt ∧ t0_2.toInt ≤ 12200 := btt0_2; omega)⟩)
          replace hO40 := (hu69 _ (by decide)).trans hO40
          replace hF := q_us hF hu69 (by simp)
          obtain ⟨a70, e71⟩ := q_nm (lx30 + 1 : Int32)
          have b72 : q_F (a70.toInt = lx30.toInt + 1) := (by rw [← e71]; exact q_addI (y := 1) rfl (by decide) (by have t1 : t0_1.toInt ≤ lx30.toInt + lx31.toInt := i34; have t2 : lx31.toInt ≤ lx30.toInt + t0_1.toInt := i35; have t3 : a49.toInt = 8 * lx30.toInt := b51; have _ := q_lo32 (x := a49); have _ := q_hi32 (x := a49); omega) (by have t1 : t0_1.toInt ≤ lx30.toInt + lx31.toInt := i34; have t2 : lx31.toInt ≤ lx30.toInt + t0_1.toInt := i35; have t3 : a49.toInt = 8 * lx30.toInt := b51; have _ := q_lo32 (x := a49); have _ := q_hi32 (x := a49); omega))
          refine lv_iinc (v := a70) (lv' := [(4, .int a70), (0, .ref (q 116)), (1, .int x2), (2, .long x3)]) hx hb d_14_3_83 hl (k := 0) rfl (e71) (by decide) rfl (fun ls hl => ?_)
          refine lv_goto (tgt := 46) hx hb d_14_3_86 (by decide) ?_
          exact ih37 ((a70 : Int32), (a65 : Int32), (f63 : (Nat → Int32))) _ _ _ _ (show (4100 - a70.toInt).toNat < (4100 - lx30.toInt).toNat from by have t1 : a70.toInt = lx30.toInt + 1 := b72; have t2 : 0 ≤ t0_1.toInt ∧ t0_1.toInt ≤ 4100 := btt0_1; have t3 : lx30.toInt + t0_1.toInt ≤ lx31.toInt := i36; have t4 : lx31.toInt ≤ 4099 := ob60; omega) ⟨(show q_F (a65.toInt ≤ lx10.toInt + 4100) from (show a65.toInt ≤ lx10.toInt + 4100 from by have t1 : 0 ≤ lx10.toInt := i14; have t2 : lx31.toInt ≤ 4099 := ob60; have t3 : a65.toInt = lx31.toInt + 1 := b67; omega)), (show q_F (t0_1.toInt ≤ a70.toInt + a65.toInt) from (show t0_1.toInt ≤ a70.toInt + a65.toInt from by have t1 : t0_1.toInt ≤ lx30.toInt + lx31.toInt := i34; have t2 : a65.toInt = lx31.toInt + 1 := b67; have t3 : a70.toInt = lx30.toInt + 1 := b72; omega)), (show q_F (a65.toInt ≤ a70.toInt + t0_1.toInt) from (show a65.toInt ≤ a70.toInt + t0_1.toInt from by have t1 : lx31.toInt ≤ lx30.toInt + t0_1.toInt := i35; have t2 : a65.toInt = lx31.toInt + 1 := b67; have t3 : a70.toInt = lx30.toInt + 1 := b72; omega)), (show q_F (a70.toInt + t0_1.toInt ≤ a65.toInt) from (show a70.toInt + t0_1.toInt ≤ a65.toInt from by have t1 : lx30.toInt + t0_1.toInt ≤ lx31.toInt := i36; have t2 : a65.toInt = lx31.toInt + 1 := b67; have t3 : a70.toInt = lx30.toInt + 1 := b72; omega)), V, q_lw hl (q_lw1 0 rfl (q_lw1 1 rfl (q_lw1 2 rfl (q_lw1 3 rfl q_lw0)))), hI, hF, hO39, hO40, ⟨fm45, Nat.lt_of_lt_of_le (show (4100 - a70.toInt).toNat < (4100 - lx30.toInt).toNat from by have t1 : a70.toInt = lx30.toInt + 1 := b72; have t2 : 0 ≤ t0_1.toInt ∧ t0_1.toInt ≤ 4100 := btt0_1; have t3 : lx30.toInt + t0_1.toInt ≤ lx31.toInt := i36; have t4 : lx31.toInt ≤ 4099 := ob60; omega) (Nat.le_of_lt_succ hf44), (show F_NM_feed_L46 x2 x3 t0_0 t0_1 t0_2 t1_0 lx10 fm45 a70 a65 f63 = (F_NM_feed x2 x3 t0_0 t0_1 t0_2 t1_0) from Eq.trans (by rw [← e71, ← e66, ← e64, ← e58, ← e55, ← e53, ← e50, F_NM_feed_L46.eq_2, if_neg c46]) hR41), (show True ∧ S_NM_feed_L46 x2 x3 t0_0 t0_1 t0_2 t1_0 lx10 fm45 a70 a65 f63 from (by rw [← e71, ← e66, ← e64, ← e58, ← e55, ← e53, ← e50]; have h := hS42; rw [S_NM_feed_L46.eq_2] at h; rw [if_neg c46] at h; replace h := q_s2 h; with_reducible exact h))⟩⟩
      ·
        refine lv_iconst (v := (-1)) hx hb d_14_3_41 (by decide) ?_
        exact q_reti C0 V (⟨hI, hF, lx10, t0_1, t1_0, hT0, hT1, (show 0 ≤ lx10.toInt from (by have z6 : (-1 : Int32).toInt = -1 := rfl; have t1 : 0 ≤ lx10.toInt := i14; omega)), (show lx10.toInt ≤ 1 from (by have z6 : (-1 : Int32).toInt = -1 := rfl; have t1 : lx10.toInt ≤ 1 := i15; omega)), (show t0_1.toInt ≤ 4100 from (by have z6 : (-1 : Int32).toInt = -1 := rfl; have t1 : 0 ≤ t0_1.toInt ∧ t0_1.toInt ≤ 4100 := btt0_1; omega)), (show t0_1.toInt ≤ t0_1.toInt from (by have z6 : (-1 : Int32).toInt = -1 := rfl; omega)), (show lx10.toInt ≤ (-1 : Int32).toInt + 1 from (by have z6 : (-1 : Int32).toInt = -1 := rfl; have t1 : lx10.toInt ≤ 0 := b24; omega)), (show (-1 : Int32).toInt ≤ t0_1.toInt from (by have z6 : (-1 : Int32).toInt = -1 := rfl; have t1 : 0 ≤ t0_1.toInt ∧ t0_1.toInt ≤ 4100 := btt0_1; omega)), (show ((-1 : Int32), lx10, t0_1, t1_0) = (F_NM_feed x2 x3 t0_0 t0_1 t0_2 t1_0) from Eq.trans (by have c27x := c27; rw [← e26] at c27x; rw [F_NM_feed_J17.eq_1, if_pos c23, if_neg c27x]) hR16)⟩) d_14_3_42
    ·
      refine lv_iconst (v := 0) hx hb d_14_3_27 (by decide) ?_
      exact q_reti C0 V (⟨hI, hF, lx10, t0_1, t1_0, hT0, hT1, (show 0 ≤ lx10.toInt from (by have z6 : (0 : Int32).toInt = 0 := rfl; have t1 : 0 ≤ lx10.toInt := i14; omega)), (show lx10.toInt ≤ 1 from (by have z6 : (0 : Int32).toInt = 0 := rfl; have t1 : lx10.toInt ≤ 1 := i15; omega)), (show t0_1.toInt ≤ 4100 from (by have z6 : (0 : Int32).toInt = 0 := rfl; have t1 : 0 ≤ t0_1.toInt ∧ t0_1.toInt ≤ 4100 := btt0_1; omega)), (show t0_1.toInt ≤ t0_1.toInt from (by have z6 : (0 : Int32).toInt = 0 := rfl; omega)), (show lx10.toInt ≤ (0 : Int32).toInt + 1 from (by have z6 : (0 : Int32).toInt = 0 := rfl; have t1 : lx10.toInt ≤ 1 := i15; omega)), (show (0 : Int32).toInt ≤ t0_1.toInt from (by have z6 : (0 : Int32).toInt = 0 := rfl; have t1 : 0 ≤ t0_1.toInt ∧ t0_1.toInt ≤ 4100 := btt0_1; omega)), (show ((0 : Int32), lx10, t0_1, t1_0) = (F_NM_feed x2 x3 t0_0 t0_1 t0_2 t1_0) from Eq.trans (by rw [F_NM_feed_J17.eq_1, if_neg c23]) hR16)⟩) d_14_3_28
  ·
    intro J13
    refine q_join (X := Unit) (fun z H locs ls _ => q_Wd D g (va_A ws sz) s ws H locs ∧ lv_has ls 5 [(0, .ref (q 116)), (1, .int x2), (2, .long x3)] ∧ F_NM_feed_J12 x2 x3 t0_0 t0_1 t0_2 t1_0 = (F_NM_feed x2 x3 t0_0 t0_1 t0_2 t1_0) ∧ True ∧ S_NM_feed_J12 x2 x3 t0_0 t0_1 t0_2 t1_0) (fun z => [.ref (q 116)]) 12 0 0 ?_ ?_
    ·
      rintro _ H locs ls _ ⟨V, hl, hR78, hS79⟩
      replace hl : lv_has ls 5 [(0, .ref (q 116)), (1, .int x2), (2, .long x3)] := hl
      refine lv_iconst (v := 1) hx hb d_14_3_12 (by decide) ?_
      refine lv_goto (tgt := 17) hx hb d_14_3_13 (by decide) ?_
      exact J13 ((1 : Int32)) _ _ _ ws ⟨(show q_F (0 ≤ 1) from (show 0 ≤ 1 from by omega)), (show q_F (1 ≤ 1) from (show 1 ≤ 1 from by omega)), V, q_lw hl (q_lw1 0 rfl (q_lw1 1 rfl (q_lw1 2 rfl q_lw0))), (show F_NM_feed_J17 x2 x3 t0_0 t0_1 t0_2 t1_0 1 = (F_NM_feed x2 x3 t0_0 t0_1 t0_2 t1_0) from Eq.trans (by rw [F_NM_feed_J12.eq_1]) hR78), (show True ∧ S_NM_feed_J17 x2 x3 t0_0 t0_1 t0_2 t1_0 1 from (by have h := hS79; rw [S_NM_feed_J12.eq_1] at h; with_reducible exact h))⟩
    ·
      intro J77
      refine lv_icmp_lt (tgt := 12) hx hb d_14_3_3 (by decide) (fun c83 => ?_) (fun c83 => ?_)
      ·
        exact J77 (()) _ _ _ ws ⟨V, q_lw hl (q_lw1 0 rfl (q_lw1 1 rfl (q_lw1 2 rfl q_lw0))), (show F_NM_feed_J12 x2 x3 t0_0 t0_1 t0_2 t1_0 = (F_NM_feed x2 x3 t0_0 t0_1 t0_2 t1_0) from (by rw [F_NM_feed.eq_1, if_pos c83])), (show True ∧ S_NM_feed_J12 x2 x3 t0_0 t0_1 t0_2 t1_0 from (by have h := hS; rw [S_NM_feed.eq_1] at h; rw [if_pos c83] at h; with_reducible exact h))⟩
      ·
        refine lv_iload_n hx hb d_14_3_6 rfl (lv_at hl 1 rfl) ?_
        refine lv_bipush (v := 8) hx hb d_14_3_7 (by decide) ?_
        refine lv_icmp_le (tgt := 16) hx hb d_14_3_9 (by decide) (fun c86 => ?_) (fun c86 => ?_)
        ·
          refine lv_iconst (v := 0) hx hb d_14_3_16 (by decide) ?_
          exact J13 ((0 : Int32)) _ _ _ ws ⟨(show q_F (0 ≤ 0) from (show 0 ≤ 0 from by omega)), (show q_F (0 ≤ 1) from (show 0 ≤ 1 from by omega)), V, q_lw hl (q_lw1 0 rfl (q_lw1 1 rfl (q_lw1 2 rfl q_lw0))), (show F_NM_feed_J17 x2 x3 t0_0 t0_1 t0_2 t1_0 0 = (F_NM_feed x2 x3 t0_0 t0_1 t0_2 t1_0) from (by rw [F_NM_feed.eq_1, if_neg c83, if_pos c86])), (show True ∧ S_NM_feed_J17 x2 x3 t0_0 t0_1 t0_2 t1_0 0 from (by have h := hS; rw [S_NM_feed.eq_1] at h; rw [if_neg c83] at h; rw [if_pos c86] at h; with_reducible exact h))⟩
        ·
          exact J77 (()) _ _ _ ws ⟨V, q_lw hl (q_lw1 0 rfl (q_lw1 1 rfl (q_lw1 2 rfl q_lw0))), (show F_NM_feed_J12 x2 x3 t0_0 t0_1 t0_2 t1_0 = (F_NM_feed x2 x3 t0_0 t0_1 t0_2 t1_0) from (by rw [F_NM_feed.eq_1, if_neg c83, if_neg c86])), (show True ∧ S_NM_feed_J12 x2 x3 t0_0 t0_1 t0_2 t1_0 from (by have h := hS; rw [S_NM_feed.eq_1] at h; rw [if_neg c83] at h; rw [if_neg c86] at h; with_reducible exact h))⟩
theorem d_14_4_0 : decode prog_14_method_4_code 0 = .ok (.aload_n 0, 1) := by decide +kernel
theorem d_14_4_1 : decode prog_14_method_4_code 1 = .ok (.iconst 0, 1) := by decide +kernel
theorem d_14_4_2 : decode prog_14_method_4_code 2 = .ok (.putfield 58, 3) := by decide +kernel
theorem d_14_4_5 : decode prog_14_method_4_code 5 = .ok (.aload_n 0, 1) := by decide +kernel
theorem d_14_4_6 : decode prog_14_method_4_code 6 = .ok (.getfield 62, 3) := by decide +kernel
theorem d_14_4_9 : decode prog_14_method_4_code 9 = .ok (.istore_n 1, 1) := by decide +kernel
theorem d_14_4_10 : decode prog_14_method_4_code 10 = .ok (.aload_n 0, 1) := by decide +kernel
theorem d_14_4_11 : decode prog_14_method_4_code 11 = .ok (.iconst 0, 1) := by decide +kernel
theorem d_14_4_12 : decode prog_14_method_4_code 12 = .ok (.putfield 62, 3) := by decide +kernel
theorem d_14_4_15 : decode prog_14_method_4_code 15 = .ok (.iload_n 1, 1) := by decide +kernel
theorem d_14_4_16 : decode prog_14_method_4_code 16 = .ok (.ireturn, 1) := by decide +kernel
def y_NM_wipe : MethodName := ⟨"NumberHouseModel", "wipe", "()I"⟩
def F_NM_wipe (t0_0 : Int32) (t0_1 : Int32) (t0_2 : Int32) : Int32 × Int32 × Int32 := (t0_1, (0 : Int32), (0 : Int32))
set_option maxRecDepth 100000 in
set_option maxHeartbeats 4000000 in
theorem X_NM_wipe (l : Launch) (D : va_G) (g : Nat → ClassId) (q : Nat → Nat) (ws : va_W) (hI : q_I (msh g q) q ws) (t0_0 : Int32) (t0_1 : Int32) (t0_2 : Int32) (hT0 : ws[116]? = (some (q 116, .inr (12, [.int t0_0, .ref (q 117), .int t0_1, .ref (q 118), .int t0_2, .ref (q 119), .ref (q 134), .ref (q 145), .ref (q 153), .ref (q 157), .ref (q 167), .ref (q 168)])) : Option (Nat × va_E))) : q_mI l y_NM_wipe prog_14_method_4_code 2 (.int) 1 0 0 D g [.ref (q 116)] ws (fun r u => q_I (msh g q) q u ∧ q_un ws u [116] ∧ ∃ (u0_0 : Int32) (u0_1 : Int32), u[116]? = (some (q 116, .inr (12, [.int u0_0, .ref (q 117), .int u0_1, .ref (q 118), .int t0_2, .ref (q 119), .ref (q 134), .ref (q 145), .ref (q 153), .ref (q 157), .ref (q 167), .ref (q 168)])) : Option (Nat × va_E)) ∧ (0 ≤ u0_1.toInt) ∧ (u0_1.toInt ≤ 0) ∧ (t0_1.toInt ≤ r.toInt) ∧ (r.toInt ≤ t0_1.toInt) ∧ (u0_1.toInt ≤ u0_0.toInt) ∧ (u0_0.toInt ≤ u0_1.toInt) ∧ (r, u0_0, u0_1) = (F_NM_wipe t0_0 t0_1 t0_2)) := by
  intro sz
  refine q_into (by decide) (Nat.le_of_ble_eq_true rfl) ?_
  intro p e s m below meth c ls hsz C0 V hl
  have hx := C0.1
  have hb := C0.2.1
  obtain ⟨btt0_1, btt0_2⟩ := n_w116 hI hT0
  replace btt0_1 : q_F (0 ≤ t0_1.toInt ∧ t0_1.toInt ≤ 4100) := btt0_1
  replace btt0_2 : q_F (0 ≤ t0_2.toInt ∧ t0_2.toInt ≤ 12200) := btt0_2
  have hF : q_un ws ws [116] := q_u0
  have hl : lv_has ls 2 [(0, .ref (q 116))] := hl
  refine lv_aload_n hx hb d_14_4_0 rfl (lv_at hl 0 rfl) ?_
  refine lv_iconst (v := 0) hx hb d_14_4_1 (by decide) ?_
  refine q_put (ci := 12) (j := 0) (v := .int 0) (ty := .int) C0 V i_NM o_NM n_NM rfl rfl hT0 (by decide) w_2298 rfl rfl rfl rfl (Nat.le_of_ble_eq_true rfl) d_14_4_2 (fun H locs w7 hu8 hT0 V => ?_)
  replace hT0 : w7[116]? = (some (q 116, .inr (12, [.int 0, .ref (q 117), .int t0_1, .ref (q 118), .int t0_2, .ref (q 119), .ref (q 134), .ref (q 145), .ref (q 153), .ref (q 157), .ref (q 167), .ref (q 168)])) : Option (Nat × va_E)) := hT0
  replace hI := n_p116 hI hu8 hT0 (by first | with_reducible exact q_fe btt0_1 | exact ⟨(by have t1 : 0 ≤ t0_1.toInt ∧ t0_1.toInt ≤ 4100 := btt0_1; omega), (by have t1 : 0 ≤ t0_1.toInt ∧ t0_1.toInt ≤ 4100 := btt0_1; omega)⟩) (by first | with_reducible exact q_fe btt0_2 | exact ⟨(by have t1 : 0 ≤ t0_2.toInt ∧ t0_2.toInt ≤ 12200 := btt0_2; omega), (by have t1 : 0 ≤ t0_2.toInt ∧ t0_2.toInt ≤ 12200 := btt0_2; omega)⟩)
  replace hF := q_us hF hu8 (by simp)
  refine lv_aload_n hx hb d_14_4_5 rfl (lv_at hl 0 rfl) ?_
  refine q_get (ci := 12) (j := 2) (v := .int t0_1) C0 V i_NM rfl rfl hT0 (by decide) w_2300 rfl d_14_4_6 ?_
  refine lv_istore_n (lv' := [(1, .int t0_1), (0, .ref (q 116))]) hx hb d_14_4_9 rfl hl (by decide) rfl (fun ls hl => ?_)
  refine lv_aload_n hx hb d_14_4_10 rfl (lv_at hl 1 rfl) ?_
  refine lv_iconst (v := 0) hx hb d_14_4_11 (by decide) ?_
  refine q_put (ci := 12) (j := 2) (v := .int 0) (ty := .int) C0 V i_NM o_NM n_NM rfl rfl hT0 (by decide) w_2300 rfl rfl rfl rfl (Nat.le_of_ble_eq_true rfl) d_14_4_12 (fun H locs w9 hu10 hT0 V => ?_)
  replace hT0 : w9[116]? = (some (q 116, .inr (12, [.int 0, .ref (q 117), .int 0, .ref (q 118), .int t0_2, .ref (q 119), .ref (q 134), .ref (q 145), .ref (q 153), .ref (q 157), .ref (q 167), .ref (q 168)])) : Option (Nat × va_E)) := hT0
  replace hI := n_p116 hI hu10 hT0 ⟨(by have z9 : (0 : Int32).toInt = 0 := rfl; omega), (by have z9 : (0 : Int32).toInt = 0 := rfl; omega)⟩ (by first | with_reducible exact q_fe btt0_2 | exact ⟨(by have t1 : 0 ≤ t0_2.toInt ∧ t0_2.toInt ≤ 12200 := btt0_2; omega), (by have t1 : 0 ≤ t0_2.toInt ∧ t0_2.toInt ≤ 12200 := btt0_2; omega)⟩)
  replace hF := q_us hF hu10 (by simp)
  refine lv_iload_n hx hb d_14_4_15 rfl (lv_at hl 0 rfl) ?_
  exact q_reti C0 V (⟨hI, hF, 0, 0, hT0, (show 0 ≤ (0 : Int32).toInt from (by have z4 : (0 : Int32).toInt = 0 := rfl; have z5 : (0 : Int32).toInt = 0 := rfl; omega)), (show (0 : Int32).toInt ≤ 0 from (by have z4 : (0 : Int32).toInt = 0 := rfl; have z5 : (0 : Int32).toInt = 0 := rfl; omega)), (show t0_1.toInt ≤ t0_1.toInt from (by have z4 : (0 : Int32).toInt = 0 := rfl; have z5 : (0 : Int32).toInt = 0 := rfl; omega)), (show t0_1.toInt ≤ t0_1.toInt from (by have z4 : (0 : Int32).toInt = 0 := rfl; have z5 : (0 : Int32).toInt = 0 := rfl; omega)), (show (0 : Int32).toInt ≤ (0 : Int32).toInt from (by have z4 : (0 : Int32).toInt = 0 := rfl; have z5 : (0 : Int32).toInt = 0 := rfl; omega)), (show (0 : Int32).toInt ≤ (0 : Int32).toInt from (by have z4 : (0 : Int32).toInt = 0 := rfl; have z5 : (0 : Int32).toInt = 0 := rfl; omega)), (show (t0_1, (0 : Int32), (0 : Int32)) = (F_NM_wipe t0_0 t0_1 t0_2) from (by rw [F_NM_wipe.eq_1]))⟩) d_14_4_16
theorem d_14_6_0 : decode prog_14_method_6_code 0 = .ok (.aload_n 0, 1) := by decide +kernel
theorem d_14_6_1 : decode prog_14_method_6_code 1 = .ok (.iconst 0, 1) := by decide +kernel
theorem d_14_6_2 : decode prog_14_method_6_code 2 = .ok (.putfield 58, 3) := by decide +kernel
theorem d_14_6_5 : decode prog_14_method_6_code 5 = .ok (.lconst 0, 1) := by decide +kernel
theorem d_14_6_6 : decode prog_14_method_6_code 6 = .ok (.lstore_n 2, 1) := by decide +kernel
theorem d_14_6_7 : decode prog_14_method_6_code 7 = .ok (.iconst 0, 1) := by decide +kernel
theorem d_14_6_8 : decode prog_14_method_6_code 8 = .ok (.istore 4, 2) := by decide +kernel
theorem d_14_6_10 : decode prog_14_method_6_code 10 = .ok (.iload 4, 2) := by decide +kernel
theorem d_14_6_12 : decode prog_14_method_6_code 12 = .ok (.bipush 8, 2) := by decide +kernel
theorem d_14_6_14 : decode prog_14_method_6_code 14 = .ok (.if_icmp .ge 57, 3) := by decide +kernel
theorem d_14_6_71 : decode prog_14_method_6_code 71 = .ok (.lload_n 2, 1) := by decide +kernel
theorem d_14_6_72 : decode prog_14_method_6_code 72 = .ok (.lreturn, 1) := by decide +kernel
theorem d_14_6_17 : decode prog_14_method_6_code 17 = .ok (.iload_n 1, 1) := by decide +kernel
theorem d_14_6_18 : decode prog_14_method_6_code 18 = .ok (.i2l, 1) := by decide +kernel
theorem d_14_6_19 : decode prog_14_method_6_code 19 = .ok (.iload 4, 2) := by decide +kernel
theorem d_14_6_21 : decode prog_14_method_6_code 21 = .ok (.i2l, 1) := by decide +kernel
theorem d_14_6_22 : decode prog_14_method_6_code 22 = .ok (.ladd, 1) := by decide +kernel
theorem d_14_6_23 : decode prog_14_method_6_code 23 = .ok (.lstore 5, 2) := by decide +kernel
theorem d_14_6_25 : decode prog_14_method_6_code 25 = .ok (.lload 5, 2) := by decide +kernel
theorem d_14_6_27 : decode prog_14_method_6_code 27 = .ok (.lconst 0, 1) := by decide +kernel
theorem d_14_6_28 : decode prog_14_method_6_code 28 = .ok (.lcmp, 1) := by decide +kernel
theorem d_14_6_29 : decode prog_14_method_6_code 29 = .ok (.ifCond .lt 34, 3) := by decide +kernel
theorem d_14_6_63 : decode prog_14_method_6_code 63 = .ok (.lload_n 2, 1) := by decide +kernel
theorem d_14_6_64 : decode prog_14_method_6_code 64 = .ok (.lstore_n 2, 1) := by decide +kernel
theorem d_14_6_65 : decode prog_14_method_6_code 65 = .ok (.iinc 4 1, 3) := by decide +kernel
theorem d_14_6_68 : decode prog_14_method_6_code 68 = .ok (.goto (-58), 3) := by decide +kernel
theorem d_14_6_32 : decode prog_14_method_6_code 32 = .ok (.lload 5, 2) := by decide +kernel
theorem d_14_6_34 : decode prog_14_method_6_code 34 = .ok (.aload_n 0, 1) := by decide +kernel
theorem d_14_6_35 : decode prog_14_method_6_code 35 = .ok (.getfield 67, 3) := by decide +kernel
set_option maxRecDepth 100000 in
theorem w_2302 : (Cond.fieldLink "NumberHouseModel" (67 : Nat) "NumberHouseModel" "printed" "I") ∈ q_tbl := q_of10 142 rfl (by decide +kernel)
theorem d_14_6_38 : decode prog_14_method_6_code 38 = .ok (.i2l, 1) := by decide +kernel
theorem d_14_6_39 : decode prog_14_method_6_code 39 = .ok (.lcmp, 1) := by decide +kernel
theorem d_14_6_40 : decode prog_14_method_6_code 40 = .ok (.ifCond .ge 23, 3) := by decide +kernel
theorem d_14_6_43 : decode prog_14_method_6_code 43 = .ok (.lload_n 2, 1) := by decide +kernel
theorem d_14_6_44 : decode prog_14_method_6_code 44 = .ok (.aload_n 0, 1) := by decide +kernel
theorem d_14_6_45 : decode prog_14_method_6_code 45 = .ok (.getfield 13, 3) := by decide +kernel
theorem d_14_6_48 : decode prog_14_method_6_code 48 = .ok (.lload 5, 2) := by decide +kernel
theorem d_14_6_50 : decode prog_14_method_6_code 50 = .ok (.l2i, 1) := by decide +kernel
theorem d_14_6_51 : decode prog_14_method_6_code 51 = .ok (.iaload, 1) := by decide +kernel
theorem d_14_6_52 : decode prog_14_method_6_code 52 = .ok (.i2l, 1) := by decide +kernel
theorem d_14_6_53 : decode prog_14_method_6_code 53 = .ok (.bipush 8, 2) := by decide +kernel
theorem d_14_6_55 : decode prog_14_method_6_code 55 = .ok (.iload 4, 2) := by decide +kernel
theorem d_14_6_57 : decode prog_14_method_6_code 57 = .ok (.imul, 1) := by decide +kernel
theorem d_14_6_58 : decode prog_14_method_6_code 58 = .ok (.lshl, 1) := by decide +kernel
theorem d_14_6_59 : decode prog_14_method_6_code 59 = .ok (.lor, 1) := by decide +kernel
theorem d_14_6_60 : decode prog_14_method_6_code 60 = .ok (.goto 4, 3) := by decide +kernel
def y_NM_paperAt : MethodName := ⟨"NumberHouseModel", "paperAt", "(I)J"⟩
def F_NM_paperAt_L10 (x2 : Int32) (t0_0 : Int32) (t0_1 : Int32) (t0_2 : Int32) (t1_0 : (Nat → Int32)) : Nat → Int32 → Int64 → (Int64 × Int32)
  | 0, _, _ => default
  | fm + 1, lx14, lx15 => if (8 : Int32) ≤ lx14 then ((lx15, (0 : Int32))) else (if (lg_cmp ((x2.toInt64 : Int64) + (lx14.toInt64 : Int64) : Int64) 0 : Int32) < (0 : Int32) then (F_NM_paperAt_L10 x2 t0_0 t0_1 t0_2 t1_0 fm (lx14 + 1 : Int32) lx15) else (if (0 : Int32) ≤ (lg_cmp ((x2.toInt64 : Int64) + (lx14.toInt64 : Int64) : Int64) (t0_2.toInt64 : Int64) : Int32) then (F_NM_paperAt_L10 x2 t0_0 t0_1 t0_2 t1_0 fm (lx14 + 1 : Int32) lx15) else (F_NM_paperAt_L10 x2 t0_0 t0_1 t0_2 t1_0 fm (lx14 + 1 : Int32) (lx15 ||| (((t1_0 (((x2.toInt64 : Int64) + (lx14.toInt64 : Int64) : Int64).toInt32 : Int32).toNatClampNeg : Int32).toInt64 : Int64) <<< ((8 * lx14 : Int32).toInt64 &&& 63) : Int64) : Int64))))
def F_NM_paperAt (x2 : Int32) (t0_0 : Int32) (t0_1 : Int32) (t0_2 : Int32) (t1_0 : (Nat → Int32)) : Int64 × Int32 := F_NM_paperAt_L10 x2 t0_0 t0_1 t0_2 t1_0 ((8 - (0 : Int32).toInt).toNat + 1) 0 0
def S_NM_paperAt_L10 (x2 : Int32) (t0_0 : Int32) (t0_1 : Int32) (t0_2 : Int32) (t1_0 : (Nat → Int32)) : Nat → Int32 → Int64 → Prop
  | 0, _, _ => False
  | fm + 1, lx14, lx15 => if (8 : Int32) ≤ lx14 then (True) else (if (lg_cmp ((x2.toInt64 : Int64) + (lx14.toInt64 : Int64) : Int64) 0 : Int32) < (0 : Int32) then (S_NM_paperAt_L10 x2 t0_0 t0_1 t0_2 t1_0 fm (lx14 + 1 : Int32) lx15) else (if (0 : Int32) ≤ (lg_cmp ((x2.toInt64 : Int64) + (lx14.toInt64 : Int64) : Int64) (t0_2.toInt64 : Int64) : Int32) then (S_NM_paperAt_L10 x2 t0_0 t0_1 t0_2 t1_0 fm (lx14 + 1 : Int32) lx15) else (((((x2.toInt64 : Int64) + (lx14.toInt64 : Int64) : Int64).toInt32 : Int32).toInt ≤ 12199) ∧ (S_NM_paperAt_L10 x2 t0_0 t0_1 t0_2 t1_0 fm (lx14 + 1 : Int32) (lx15 ||| (((t1_0 (((x2.toInt64 : Int64) + (lx14.toInt64 : Int64) : Int64).toInt32 : Int32).toNatClampNeg : Int32).toInt64 : Int64) <<< ((8 * lx14 : Int32).toInt64 &&& 63) : Int64) : Int64)))))
def S_NM_paperAt (x2 : Int32) (t0_0 : Int32) (t0_1 : Int32) (t0_2 : Int32) (t1_0 : (Nat → Int32)) : Prop := S_NM_paperAt_L10 x2 t0_0 t0_1 t0_2 t1_0 ((8 - (0 : Int32).toInt).toNat + 1) 0 0
set_option maxRecDepth 100000 in
set_option maxHeartbeats 4000000 in
theorem X_NM_paperAt (l : Launch) (D : va_G) (g : Nat → ClassId) (q : Nat → Nat) (ws : va_W) (x2 : Int32) (hI : q_I (msh g q) q ws) (t0_0 : Int32) (t0_1 : Int32) (t0_2 : Int32) (hT0 : ws[116]? = (some (q 116, .inr (12, [.int t0_0, .ref (q 117), .int t0_1, .ref (q 118), .int t0_2, .ref (q 119), .ref (q 134), .ref (q 145), .ref (q 153), .ref (q 157), .ref (q 167), .ref (q 168)])) : Option (Nat × va_E))) (t1_0 : (Nat → Int32)) (hT1 : ws[118]? = (some (q 118, .inl (g 0, (12200 : Int32).toNatClampNeg, .inl t1_0)) : Option (Nat × va_E))) (hS : True ∧ S_NM_paperAt x2 t0_0 t0_1 t0_2 t1_0) : q_mL l y_NM_paperAt prog_14_method_6_code 7 1 0 0 D g [.ref (q 116), .int x2] ws (fun r u => q_I (msh g q) q u ∧ q_un ws u [116] ∧ ∃ (u0_0 : Int32), u[116]? = (some (q 116, .inr (12, [.int u0_0, .ref (q 117), .int t0_1, .ref (q 118), .int t0_2, .ref (q 119), .ref (q 134), .ref (q 145), .ref (q 153), .ref (q 157), .ref (q 167), .ref (q 168)])) : Option (Nat × va_E)) ∧ (0 ≤ u0_0.toInt) ∧ (u0_0.toInt ≤ 0) ∧ (r, u0_0) = (F_NM_paperAt x2 t0_0 t0_1 t0_2 t1_0)) := by
  intro sz
  refine q_into (by decide) (Nat.le_of_ble_eq_true rfl) ?_
  intro p e s m below meth c ls hsz C0 V hl
  have hx := C0.1
  have hb := C0.2.1
  obtain ⟨btt0_1, btt0_2⟩ := n_w116 hI hT0
  replace btt0_1 : q_F (0 ≤ t0_1.toInt ∧ t0_1.toInt ≤ 4100) := btt0_1
  replace btt0_2 : q_F (0 ≤ t0_2.toInt ∧ t0_2.toInt ≤ 12200) := btt0_2
  have hF : q_un ws ws [116] := q_u0
  have hl : lv_has ls 7 [(0, .ref (q 116)), (1, .int x2)] := hl
  refine lv_aload_n hx hb d_14_6_0 rfl (lv_at hl 0 rfl) ?_
  refine lv_iconst (v := 0) hx hb d_14_6_1 (by decide) ?_
  refine q_put (ci := 12) (j := 0) (v := .int 0) (ty := .int) C0 V i_NM o_NM n_NM rfl rfl hT0 (by decide) w_2298 rfl rfl rfl rfl (Nat.le_of_ble_eq_true rfl) d_14_6_2 (fun H locs w10 hu11 hT0 V => ?_)
  replace hT0 : w10[116]? = (some (q 116, .inr (12, [.int 0, .ref (q 117), .int t0_1, .ref (q 118), .int t0_2, .ref (q 119), .ref (q 134), .ref (q 145), .ref (q 153), .ref (q 157), .ref (q 167), .ref (q 168)])) : Option (Nat × va_E)) := hT0
  replace hI := n_p116 hI hu11 hT0 (by first | with_reducible exact q_fe btt0_1 | exact ⟨(by have t1 : 0 ≤ t0_1.toInt ∧ t0_1.toInt ≤ 4100 := btt0_1; omega), (by have t1 : 0 ≤ t0_1.toInt ∧ t0_1.toInt ≤ 4100 := btt0_1; omega)⟩) (by first | with_reducible exact q_fe btt0_2 | exact ⟨(by have t1 : 0 ≤ t0_2.toInt ∧ t0_2.toInt ≤ 12200 := btt0_2; omega), (by have t1 : 0 ≤ t0_2.toInt ∧ t0_2.toInt ≤ 12200 := btt0_2; omega)⟩)
  replace hT1 := (hu11 _ (by decide)).trans hT1
  replace hF := q_us hF hu11 (by simp)
  refine lv_lconst (v := 0) hx hb d_14_6_5 (by decide) ?_
  refine lv_lstore_n (lv' := [(2, .long 0), (0, .ref (q 116)), (1, .int x2)]) hx hb d_14_6_6 rfl hl (by decide) rfl (fun ls hl => ?_)
  refine lv_iconst (v := 0) hx hb d_14_6_7 (by decide) ?_
  refine lv_istore (lv' := [(4, .int 0), (2, .long 0), (0, .ref (q 116)), (1, .int x2)]) hx hb d_14_6_8 hl (by decide) rfl (fun ls hl => ?_)
  refine q_loop (X := Int32 × Int64) (fun z H locs ls _ => q_F (0 ≤ z.1.toInt) ∧ q_F (z.1.toInt ≤ 8) ∧ q_Wd D g (va_A ws sz) s w10 H locs ∧ lv_has ls 7 [(4, .int z.1), (2, .long z.2), (0, .ref (q 116)), (1, .int x2)] ∧ (∃ n, (8 - z.1.toInt).toNat < n ∧ F_NM_paperAt_L10 x2 t0_0 t0_1 t0_2 t1_0 n z.1 z.2 = (F_NM_paperAt x2 t0_0 t0_1 t0_2 t1_0) ∧ True ∧ S_NM_paperAt_L10 x2 t0_0 t0_1 t0_2 t1_0 n z.1 z.2)) (fun z => (8 - z.1.toInt).toNat) ?_ ((0 : Int32), (0 : Int64)) _ _ _ w10 ⟨(show q_F (0 ≤ 0) from (show 0 ≤ 0 from by omega)), (show q_F (0 ≤ 8) from (show 0 ≤ 8 from by omega)), V, q_lw hl (q_lw1 0 rfl (q_lw1 1 rfl (q_lw1 2 rfl (q_lw1 3 rfl q_lw0)))), ⟨((8 - (0 : Int32).toInt).toNat + 1), Nat.lt_succ_self _, (show F_NM_paperAt_L10 x2 t0_0 t0_1 t0_2 t1_0 ((8 - (0 : Int32).toInt).toNat + 1) 0 0 = (F_NM_paperAt x2 t0_0 t0_1 t0_2 t1_0) from (by rw [F_NM_paperAt.eq_1])), (show True ∧ S_NM_paperAt_L10 x2 t0_0 t0_1 t0_2 t1_0 ((8 - (0 : Int32).toInt).toNat + 1) 0 0 from (by have h := hS; rw [S_NM_paperAt.eq_1] at h; with_reducible exact h))⟩⟩
  rintro ⟨lx14, lx15⟩ H locs ls _ ⟨i16, i17, V, hl, ⟨fu21, hf22, hR19, hS20⟩⟩ ih18
  obtain ⟨fm23, rfl⟩ : ∃ m, fu21 = m + 1 := ⟨fu21 - 1, by omega⟩
  replace i16 : q_F (0 ≤ lx14.toInt) := i16
  replace i17 : q_F (lx14.toInt ≤ 8) := i17
  replace hl : lv_has ls 7 [(4, .int lx14), (2, .long lx15), (0, .ref (q 116)), (1, .int x2)] := hl
  refine lv_iload hx hb d_14_6_10 (lv_at hl 0 rfl) ?_
  refine lv_bipush (v := 8) hx hb d_14_6_12 (by decide) ?_
  refine lv_icmp_ge (tgt := 71) hx hb d_14_6_14 (by decide) (fun c24 => ?_) (fun c24 => ?_)
  ·
    refine lv_lload_n hx hb d_14_6_71 rfl (lv_at hl 1 rfl) ?_
    exact q_retl C0 V (⟨hI, hF, 0, hT0, (show 0 ≤ (0 : Int32).toInt from (by have z6 : (0 : Int32).toInt = 0 := rfl; omega)), (show (0 : Int32).toInt ≤ 0 from (by have z6 : (0 : Int32).toInt = 0 := rfl; omega)), (show (lx15, (0 : Int32)) = (F_NM_paperAt x2 t0_0 t0_1 t0_2 t1_0) from Eq.trans (by rw [F_NM_paperAt_L10.eq_2, if_pos c24]) hR19)⟩) d_14_6_72
  ·
    have b26 : q_F (lx14.toInt < 8) := (q_nleI c24)
    refine lv_iload_n hx hb d_14_6_17 rfl (lv_at hl 3 rfl) ?_
    refine lv_i2l hx hb d_14_6_18 rfl ?_
    obtain ⟨j27, e28⟩ := q_nm (x2.toInt64 : Int64)
    refine q_tl (v := j27) e28 ?_
    refine lv_iload hx hb d_14_6_19 (lv_at hl 0 rfl) ?_
    refine lv_i2l hx hb d_14_6_21 rfl ?_
    obtain ⟨j30, e31⟩ := q_nm (lx14.toInt64 : Int64)
    refine q_tl (v := j30) e31 ?_
    refine lv_ladd hx hb d_14_6_22 ?_
    obtain ⟨j33, e34⟩ := q_nm (j27 + j30 : Int64)
    refine q_tl (v := j33) e34 ?_
    refine lv_lstore (lv' := [(5, .long j33), (4, .int lx14), (2, .long lx15), (0, .ref (q 116)), (1, .int x2)]) hx hb d_14_6_23 hl (by decide) rfl (fun ls hl => ?_)
    refine lv_lload hx hb d_14_6_25 (lv_at hl 0 rfl) ?_
    refine lv_lconst (v := 0) hx hb d_14_6_27 (by decide) ?_
    refine W.lcmp hx hb d_14_6_28 ?_
    obtain ⟨a36, e37⟩ := q_nm (lg_cmp j33 0 : Int32)
    refine q_ti (v := a36) e37 ?_
    have b38 : q_F (-1 ≤ a36.toInt ∧ a36.toInt ≤ 1 ∧ ((a36.toInt = -1 ∧ j33.toInt < 0) ∨ (a36.toInt = 0 ∧ j33.toInt = 0) ∨ (a36.toInt = 1 ∧ 0 < j33.toInt))) := (by rw [← e37]; show -1 ≤ (lg_cmp j33 0 : Int32).toInt ∧ (lg_cmp j33 0 : Int32).toInt ≤ 1 ∧ (((lg_cmp j33 0 : Int32).toInt = -1 ∧ j33.toInt < 0) ∨ ((lg_cmp j33 0 : Int32).toInt = 0 ∧ j33.toInt = 0) ∨ ((lg_cmp j33 0 : Int32).toInt = 1 ∧ 0 < j33.toInt)); exact (by have y1 : (0 : Int64).toInt = 0 := rfl; have z := s_lcmp (a := j33) (b := 0); omega))
    refine lv_if_lt (tgt := 63) hx hb d_14_6_29 (by decide) (fun c39 => ?_) (fun c39 => ?_)
    ·
      refine lv_lload_n hx hb d_14_6_63 rfl (lv_at hl 2 rfl) ?_
      refine lv_lstore_n (lv' := [(2, .long lx15), (5, .long j33), (4, .int lx14), (0, .ref (q 116)), (1, .int x2)]) hx hb d_14_6_64 rfl hl (by decide) rfl (fun ls hl => ?_)
      obtain ⟨a41, e42⟩ := q_nm (lx14 + 1 : Int32)
      have b43 : q_F (a41.toInt = lx14.toInt + 1) := (by rw [← e42]; exact q_addI (y := 1) rfl (by decide) (by have t1 : 0 ≤ lx14.toInt := i16; have t2 : lx14.toInt ≤ 8 := i17; omega) (by have t1 : 0 ≤ lx14.toInt := i16; have t2 : lx14.toInt ≤ 8 := i17; omega))
      refine lv_iinc (v := a41) (lv' := [(4, .int a41), (2, .long lx15), (5, .long j33), (0, .ref (q 116)), (1, .int x2)]) hx hb d_14_6_65 hl (k := 2) rfl (e42) (by decide) rfl (fun ls hl => ?_)
      refine lv_goto (tgt := 10) hx hb d_14_6_68 (by decide) ?_
      exact ih18 ((a41 : Int32), (lx15 : Int64)) _ _ _ w10 (show (8 - a41.toInt).toNat < (8 - lx14.toInt).toNat from by have t1 : a41.toInt = lx14.toInt + 1 := b43; have t2 : lx14.toInt ≤ 8 := i17; have t3 : lx14.toInt < 8 := b26; omega) ⟨(show q_F (0 ≤ a41.toInt) from (show 0 ≤ a41.toInt from by have t1 : 0 ≤ lx14.toInt := i16; have t2 : a41.toInt = lx14.toInt + 1 := b43; omega)), (show q_F (a41.toInt ≤ 8) from (show a41.toInt ≤ 8 from by have t1 : lx14.toInt < 8 := b26; have t2 : a41.toInt = lx14.toInt + 1 := b43; omega)), V, q_lw hl (q_lw1 0 rfl (q_lw1 1 rfl (q_lw1 3 rfl (q_lw1 4 rfl q_lw0)))), ⟨fm23, Nat.lt_of_lt_of_le (show (8 - a41.toInt).toNat < (8 - lx14.toInt).toNat from by have t1 : a41.toInt = lx14.toInt + 1 := b43; have t2 : lx14.toInt ≤ 8 := i17; have t3 : lx14.toInt < 8 := b26; omega) (Nat.le_of_lt_succ hf22), (show F_NM_paperAt_L10 x2 t0_0 t0_1 t0_2 t1_0 fm23 a41 lx15 = (F_NM_paperAt x2 t0_0 t0_1 t0_2 t1_0) from Eq.trans (by have c39x := c39; rw [← e37, ← e34, ← e31, ← e28] at c39x; rw [← e42, F_NM_paperAt_L10.eq_2, if_neg c24, if_pos c39x]) hR19), (show True ∧ S_NM_paperAt_L10 x2 t0_0 t0_1 t0_2 t1_0 fm23 a41 lx15 from (by rw [← e42]; have h := hS20; rw [S_NM_paperAt_L10.eq_2] at h; rw [if_neg c24] at h; have c39x := c39; rw [← e37, ← e34, ← e31, ← e28] at c39x; rw [if_pos c39x] at h; with_reducible exact h))⟩⟩
    ·
      have b44 : q_F (0 ≤ a36.toInt) := (q_nltI c39)
      refine lv_lload hx hb d_14_6_32 (lv_at hl 0 rfl) ?_
      refine lv_aload_n hx hb d_14_6_34 rfl (lv_at hl 3 rfl) ?_
      refine q_get (ci := 12) (j := 4) (v := .int t0_2) C0 V i_NM rfl rfl hT0 (by decide) w_2302 rfl d_14_6_35 ?_
      refine lv_i2l hx hb d_14_6_38 rfl ?_
      obtain ⟨j45, e46⟩ := q_nm (t0_2.toInt64 : Int64)
      refine q_tl (v := j45) e46 ?_
      have b47 : q_F (j45.toInt = t0_2.toInt) := (by rw [← e46]; show (t0_2.toInt64 : Int64).toInt = t0_2.toInt; exact q_i2l rfl)
      refine W.lcmp hx hb d_14_6_39 ?_
      obtain ⟨a48, e49⟩ := q_nm (lg_cmp j33 j45 : Int32)
      refine q_ti (v := a48) e49 ?_
      have b50 : q_F (-1 ≤ a48.toInt ∧ a48.toInt ≤ 1 ∧ ((a48.toInt = -1 ∧ j33.toInt < j45.toInt) ∨ (a48.toInt = 0 ∧ j33.toInt = j45.toInt) ∨ (a48.toInt = 1 ∧ j45.toInt < j33.toInt))) := (by rw [← e49]; show -1 ≤ (lg_cmp j33 j45 : Int32).toInt ∧ (lg_cmp j33 j45 : Int32).toInt ≤ 1 ∧ (((lg_cmp j33 j45 : Int32).toInt = -1 ∧ j33.toInt < j45.toInt) ∨ ((lg_cmp j33 j45 : Int32).toInt = 0 ∧ j33.toInt = j45.toInt) ∨ ((lg_cmp j33 j45 : Int32).toInt = 1 ∧ j45.toInt < j33.toInt)); exact s_lcmp)
      refine lv_if_ge (tgt := 63) hx hb d_14_6_40 (by decide) (fun c51 => ?_) (fun c51 => ?_)
      ·
        refine lv_lload_n hx hb d_14_6_63 rfl (lv_at hl 2 rfl) ?_
        refine lv_lstore_n (lv' := [(2, .long lx15), (5, .long j33), (4, .int lx14), (0, .ref (q 116)), (1, .int x2)]) hx hb d_14_6_64 rfl hl (by decide) rfl (fun ls hl => ?_)
        obtain ⟨a53, e54⟩ := q_nm (lx14 + 1 : Int32)
        have b55 : q_F (a53.toInt = lx14.toInt + 1) := (by rw [← e54]; exact q_addI (y := 1) rfl (by decide) (by have t1 : 0 ≤ lx14.toInt := i16; have t2 : lx14.toInt ≤ 8 := i17; omega) (by have t1 : 0 ≤ lx14.toInt := i16; have t2 : lx14.toInt ≤ 8 := i17; omega))
        refine lv_iinc (v := a53) (lv' := [(4, .int a53), (2, .long lx15), (5, .long j33), (0, .ref (q 116)), (1, .int x2)]) hx hb d_14_6_65 hl (k := 2) rfl (e54) (by decide) rfl (fun ls hl => ?_)
        refine lv_goto (tgt := 10) hx hb d_14_6_68 (by decide) ?_
        exact ih18 ((a53 : Int32), (lx15 : Int64)) _ _ _ w10 (show (8 - a53.toInt).toNat < (8 - lx14.toInt).toNat from by have t1 : a53.toInt = lx14.toInt + 1 := b55; have t2 : lx14.toInt ≤ 8 := i17; have t3 : lx14.toInt < 8 := b26; omega) ⟨(show q_F (0 ≤ a53.toInt) from (show 0 ≤ a53.toInt from by have t1 : 0 ≤ lx14.toInt := i16; have t2 : a53.toInt = lx14.toInt + 1 := b55; omega)), (show q_F (a53.toInt ≤ 8) from (show a53.toInt ≤ 8 from by have t1 : lx14.toInt < 8 := b26; have t2 : a53.toInt = lx14.toInt + 1 := b55; omega)), V, q_lw hl (q_lw1 0 rfl (q_lw1 1 rfl (q_lw1 3 rfl (q_lw1 4 rfl q_lw0)))), ⟨fm23, Nat.lt_of_lt_of_le (show (8 - a53.toInt).toNat < (8 - lx14.toInt).toNat from by have t1 : a53.toInt = lx14.toInt + 1 := b55; have t2 : lx14.toInt ≤ 8 := i17; have t3 : lx14.toInt < 8 := b26; omega) (Nat.le_of_lt_succ hf22), (show F_NM_paperAt_L10 x2 t0_0 t0_1 t0_2 t1_0 fm23 a53 lx15 = (F_NM_paperAt x2 t0_0 t0_1 t0_2 t1_0) from Eq.trans (by have c39x := c39; rw [← e37, ← e34, ← e31, ← e28] at c39x; have c51x := c51; rw [← e49, ← e46, ← e34, ← e31, ← e28] at c51x; rw [← e54, F_NM_paperAt_L10.eq_2, if_neg c24, if_neg c39x, if_pos c51x]) hR19), (show True ∧ S_NM_paperAt_L10 x2 t0_0 t0_1 t0_2 t1_0 fm23 a53 lx15 from (by rw [← e54]; have h := hS20; rw [S_NM_paperAt_L10.eq_2] at h; rw [if_neg c24] at h; have c39x := c39; rw [← e37, ← e34, ← e31, ← e28] at c39x; rw [if_neg c39x] at h; have c51x := c51; rw [← e49, ← e46, ← e34, ← e31, ← e28] at c51x; rw [if_pos c51x] at h; with_reducible exact h))⟩⟩
      ·
        have b56 : q_F (a48.toInt < 0) := (q_nleI c51)
        refine lv_lload_n hx hb d_14_6_43 rfl (lv_at hl 2 rfl) ?_
        refine lv_aload_n hx hb d_14_6_44 rfl (lv_at hl 3 rfl) ?_
        refine q_get (ci := 12) (j := 3) (v := .ref (q 118)) C0 V i_NM rfl rfl hT0 (by decide) w_2301 rfl d_14_6_45 ?_
        refine lv_lload hx hb d_14_6_48 (lv_at hl 0 rfl) ?_
        refine lv_l2i hx hb d_14_6_50 rfl ?_
        obtain ⟨a57, e58⟩ := q_nm (j33.toInt32 : Int32)
        refine q_ti (v := a57) e58 ?_
        have b59 : q_F (a57.toInt = j33.toInt) := (by rw [← e58]; show (j33.toInt32 : Int32).toInt = j33.toInt; exact s_l2i (by have t1 : -1 ≤ a36.toInt ∧ a36.toInt ≤ 1 ∧ ((a36.toInt = -1 ∧ j33.toInt < 0) ∨ (a36.toInt = 0 ∧ j33.toInt = 0) ∨ (a36.toInt = 1 ∧ 0 < j33.toInt)) := b38; have t2 : 0 ≤ a36.toInt := b44; have t3 : j45.toInt = t0_2.toInt := b47; have t4 : -1 ≤ a48.toInt ∧ a48.toInt ≤ 1 ∧ ((a48.toInt = -1 ∧ j33.toInt < j45.toInt) ∨ (a48.toInt = 0 ∧ j33.toInt = j45.toInt) ∨ (a48.toInt = 1 ∧ j45.toInt < j33.toInt)) := b50; have t5 : a48.toInt < 0 := b56; have _ := q_lo32 (x := t0_2); have _ := q_hi32 (x := t0_2); omega) (by have t1 : -1 ≤ a36.toInt ∧ a36.toInt ≤ 1 ∧ ((a36.toInt = -1 ∧ j33.toInt < 0) ∨ (a36.toInt = 0 ∧ j33.toInt = 0) ∨ (a36.toInt = 1 ∧ 0 < j33.toInt)) := b38; have t2 : 0 ≤ a36.toInt := b44; have t3 : j45.toInt = t0_2.toInt := b47; have t4 : -1 ≤ a48.toInt ∧ a48.toInt ≤ 1 ∧ ((a48.toInt = -1 ∧ j33.toInt < j45.toInt) ∨ (a48.toInt = 0 ∧ j33.toInt = j45.toInt) ∨ (a48.toInt = 1 ∧ j45.toInt < j33.toInt)) := b50; have t5 : a48.toInt < 0 := b56; have _ := q_lo32 (x := t0_2); have _ := q_hi32 (x := t0_2); omega))
        have ob60 : q_F (a57.toInt ≤ 12199) := (by rw [← e58, ← e34, ← e31, ← e28]; have h := hS20; rw [S_NM_paperAt_L10.eq_2] at h; rw [if_neg c24] at h; have c39x := c39; rw [← e37, ← e34, ← e31, ← e28] at c39x; rw [if_neg c39x] at h; have c51x := c51; rw [← e49, ← e46, ← e34, ← e31, ← e28] at c51x; rw [if_neg c51x] at h; exact h.2.1)
        refine q_iald C0 V hT1 (q_ix (x := a57.toInt) rfl (by have t1 : -1 ≤ a36.toInt ∧ a36.toInt ≤ 1 ∧ ((a36.toInt = -1 ∧ j33.toInt < 0) ∨ (a36.toInt = 0 ∧ j33.toInt = 0) ∨ (a36.toInt = 1 ∧ 0 < j33.toInt)) := b38; have t2 : 0 ≤ a36.toInt := b44; have t3 : a57.toInt = j33.toInt := b59; omega) (by have t1 : -1 ≤ a36.toInt ∧ a36.toInt ≤ 1 ∧ ((a36.toInt = -1 ∧ j33.toInt < 0) ∨ (a36.toInt = 0 ∧ j33.toInt = 0) ∨ (a36.toInt = 1 ∧ 0 < j33.toInt)) := b38; have t2 : 0 ≤ a36.toInt := b44; have t3 : a57.toInt = j33.toInt := b59; have t4 : a57.toInt ≤ 12199 := ob60; have e9 : (((12200 : Int32).toNatClampNeg : Nat) : Int) = 12200 := (by decide); omega)) d_14_6_51 ?_
        obtain ⟨a61, e62⟩ := q_nm (t1_0 a57.toNatClampNeg : Int32)
        refine q_ti (v := a61) e62 ?_
        refine lv_i2l hx hb d_14_6_52 rfl ?_
        obtain ⟨j63, e64⟩ := q_nm (a61.toInt64 : Int64)
        refine q_tl (v := j63) e64 ?_
        refine lv_bipush (v := 8) hx hb d_14_6_53 (by decide) ?_
        refine lv_iload hx hb d_14_6_55 (lv_at hl 1 rfl) ?_
        refine lv_imul hx hb d_14_6_57 ?_
        obtain ⟨a66, e67⟩ := q_nm (8 * lx14 : Int32)
        refine q_ti (v := a66) e67 ?_
        refine lv_lshl hx hb d_14_6_58 rfl ?_
        obtain ⟨j69, e70⟩ := q_nm (j63 <<< (a66.toInt64 &&& 63) : Int64)
        refine q_tl (v := j69) e70 ?_
        refine lv_lor hx hb d_14_6_59 ?_
        obtain ⟨j71, e72⟩ := q_nm (lx15 ||| j69 : Int64)
        refine q_tl (v := j71) e72 ?_
        refine lv_goto (tgt := 64) hx hb d_14_6_60 (by decide) ?_
        refine lv_lstore_n (lv' := [(2, .long j71), (5, .long j33), (4, .int lx14), (0, .ref (q 116)), (1, .int x2)]) hx hb d_14_6_64 rfl hl (by decide) rfl (fun ls hl => ?_)
        obtain ⟨a73, e74⟩ := q_nm (lx14 + 1 : Int32)
        have b75 : q_F (a73.toInt = lx14.toInt + 1) := (by rw [← e74]; exact q_addI (y := 1) rfl (by decide) (by have t1 : 0 ≤ lx14.toInt := i16; have t2 : lx14.toInt ≤ 8 := i17; omega) (by have t1 : 0 ≤ lx14.toInt := i16; have t2 : lx14.toInt ≤ 8 := i17; omega))
        refine lv_iinc (v := a73) (lv' := [(4, .int a73), (2, .long j71), (5, .long j33), (0, .ref (q 116)), (1, .int x2)]) hx hb d_14_6_65 hl (k := 2) rfl (e74) (by decide) rfl (fun ls hl => ?_)
        refine lv_goto (tgt := 10) hx hb d_14_6_68 (by decide) ?_
        exact ih18 ((a73 : Int32), (j71 : Int64)) _ _ _ w10 (show (8 - a73.toInt).toNat < (8 - lx14.toInt).toNat from by have t1 : a73.toInt = lx14.toInt + 1 := b75; have t2 : lx14.toInt ≤ 8 := i17; have t3 : lx14.toInt < 8 := b26; omega) ⟨(show q_F (0 ≤ a73.toInt) from (show 0 ≤ a73.toInt from by have t1 : 0 ≤ lx14.toInt := i16; have t2 : a73.toInt = lx14.toInt + 1 := b75; omega)), (show q_F (a73.toInt ≤ 8) from (show a73.toInt ≤ 8 from by have t1 : lx14.toInt < 8 := b26; have t2 : a73.toInt = lx14.toInt + 1 := b75; omega)), V, q_lw hl (q_lw1 0 rfl (q_lw1 1 rfl (q_lw1 3 rfl (q_lw1 4 rfl q_lw0)))), ⟨fm23, Nat.lt_of_lt_of_le (show (8 - a73.toInt).toNat < (8 - lx14.toInt).toNat from by have t1 : a73.toInt = lx14.toInt + 1 := b75; have t2 : lx14.toInt ≤ 8 := i17; have t3 : lx14.toInt < 8 := b26; omega) (Nat.le_of_lt_succ hf22), (show F_NM_paperAt_L10 x2 t0_0 t0_1 t0_2 t1_0 fm23 a73 j71 = (F_NM_paperAt x2 t0_0 t0_1 t0_2 t1_0) from Eq.trans (by have c39x := c39; rw [← e37, ← e34, ← e31, ← e28] at c39x; have c51x := c51; rw [← e49, ← e46, ← e34, ← e31, ← e28] at c51x; rw [← e74, ← e72, ← e70, ← e67, ← e64, ← e62, ← e58, ← e34, ← e31, ← e28, F_NM_paperAt_L10.eq_2, if_neg c24, if_neg c39x, if_neg c51x]) hR19), (show True ∧ S_NM_paperAt_L10 x2 t0_0 t0_1 t0_2 t1_0 fm23 a73 j71 from (by rw [← e74, ← e72, ← e70, ← e67, ← e64, ← e62, ← e58, ← e34, ← e31, ← e28]; have h := hS20; rw [S_NM_paperAt_L10.eq_2] at h; rw [if_neg c24] at h; have c39x := c39; rw [← e37, ← e34, ← e31, ← e28] at c39x; rw [if_neg c39x] at h; have c51x := c51; rw [← e49, ← e46, ← e34, ← e31, ← e28] at c51x; rw [if_neg c51x] at h; replace h := q_s2 h; with_reducible exact h))⟩⟩
theorem d_14_8_0 : decode prog_14_method_8_code 0 = .ok (.iload_n 0, 1) := by decide +kernel
theorem d_14_8_1 : decode prog_14_method_8_code 1 = .ok (.ifCond .lt 9, 3) := by decide +kernel
theorem d_14_8_10 : decode prog_14_method_8_code 10 = .ok (.iconst 1, 1) := by decide +kernel
theorem d_14_8_11 : decode prog_14_method_8_code 11 = .ok (.goto 4, 3) := by decide +kernel
theorem d_14_8_15 : decode prog_14_method_8_code 15 = .ok (.ireturn, 1) := by decide +kernel
theorem d_14_8_4 : decode prog_14_method_8_code 4 = .ok (.iload_n 0, 1) := by decide +kernel
theorem d_14_8_5 : decode prog_14_method_8_code 5 = .ok (.bipush 9, 2) := by decide +kernel
theorem d_14_8_7 : decode prog_14_method_8_code 7 = .ok (.if_icmp .le 7, 3) := by decide +kernel
theorem d_14_8_14 : decode prog_14_method_8_code 14 = .ok (.iconst 0, 1) := by decide +kernel
def y_NM_no_IZ : MethodName := ⟨"NumberHouseModel", "no", "(I)Z"⟩
def F_NM_no_IZ (x1 : Int32) : Int32 := if x1 < (0 : Int32) then ((1 : Int32)) else (if x1 ≤ (9 : Int32) then ((0 : Int32)) else ((1 : Int32)))
set_option maxRecDepth 100000 in
set_option maxHeartbeats 4000000 in
theorem X_NM_no_IZ (l : Launch) (D : va_G) (g : Nat → ClassId) (q : Nat → Nat) (ws : va_W) (x1 : Int32) (hI : q_I (msh g q) q ws) : q_mI l y_NM_no_IZ prog_14_method_8_code 1 (.boolean) 1 0 0 D g [.int x1] ws (fun r u => ws = u ∧ (0 ≤ r.toInt) ∧ (r.toInt ≤ 1) ∧ r = (F_NM_no_IZ x1)) := by
  intro sz
  refine q_into (by decide) (Nat.le_of_ble_eq_true rfl) ?_
  intro p e s m below meth c ls hsz C0 V hl
  have hx := C0.1
  have hb := C0.2.1
  have hl : lv_has ls 1 [(0, .int x1)] := hl
  refine lv_iload_n hx hb d_14_8_0 rfl (lv_at hl 0 rfl) ?_
  refine lv_if_lt (tgt := 10) hx hb d_14_8_1 (by decide) (fun c1 => ?_) (fun c1 => ?_)
  ·
    refine lv_iconst (v := 1) hx hb d_14_8_10 (by decide) ?_
    refine lv_goto (tgt := 15) hx hb d_14_8_11 (by decide) ?_
    exact q_retz C0 V (by decide) (⟨rfl, (show 0 ≤ (1 : Int32).toInt from (by have z1 : (1 : Int32).toInt = 1 := rfl; omega)), (show (1 : Int32).toInt ≤ 1 from (by have z1 : (1 : Int32).toInt = 1 := rfl; omega)), (show (1 : Int32) = (F_NM_no_IZ x1) from (by rw [F_NM_no_IZ.eq_1, if_pos c1]))⟩) d_14_8_15
  ·
    refine lv_iload_n hx hb d_14_8_4 rfl (lv_at hl 0 rfl) ?_
    refine lv_bipush (v := 9) hx hb d_14_8_5 (by decide) ?_
    refine lv_icmp_le (tgt := 14) hx hb d_14_8_7 (by decide) (fun c4 => ?_) (fun c4 => ?_)
    ·
      refine lv_iconst (v := 0) hx hb d_14_8_14 (by decide) ?_
      exact q_retz C0 V (by decide) (⟨rfl, (show 0 ≤ (0 : Int32).toInt from (by have z1 : (0 : Int32).toInt = 0 := rfl; omega)), (show (0 : Int32).toInt ≤ 1 from (by have z1 : (0 : Int32).toInt = 0 := rfl; omega)), (show (0 : Int32) = (F_NM_no_IZ x1) from (by rw [F_NM_no_IZ.eq_1, if_neg c1, if_pos c4]))⟩) d_14_8_15
    ·
      refine lv_iconst (v := 1) hx hb d_14_8_10 (by decide) ?_
      refine lv_goto (tgt := 15) hx hb d_14_8_11 (by decide) ?_
      exact q_retz C0 V (by decide) (⟨rfl, (show 0 ≤ (1 : Int32).toInt from (by have z1 : (1 : Int32).toInt = 1 := rfl; omega)), (show (1 : Int32).toInt ≤ 1 from (by have z1 : (1 : Int32).toInt = 1 := rfl; omega)), (show (1 : Int32) = (F_NM_no_IZ x1) from (by rw [F_NM_no_IZ.eq_1, if_neg c1, if_neg c4]))⟩) d_14_8_15
theorem d_14_9_0 : decode prog_14_method_9_code 0 = .ok (.iload_n 0, 1) := by decide +kernel
theorem d_14_9_1 : decode prog_14_method_9_code 1 = .ok (.ifCond .lt 15, 3) := by decide +kernel
theorem d_14_9_16 : decode prog_14_method_9_code 16 = .ok (.iconst 1, 1) := by decide +kernel
theorem d_14_9_17 : decode prog_14_method_9_code 17 = .ok (.goto 4, 3) := by decide +kernel
theorem d_14_9_21 : decode prog_14_method_9_code 21 = .ok (.ireturn, 1) := by decide +kernel
theorem d_14_9_4 : decode prog_14_method_9_code 4 = .ok (.iload_n 0, 1) := by decide +kernel
theorem d_14_9_5 : decode prog_14_method_9_code 5 = .ok (.iconst 3, 1) := by decide +kernel
theorem d_14_9_6 : decode prog_14_method_9_code 6 = .ok (.if_icmp .gt 10, 3) := by decide +kernel
theorem d_14_9_9 : decode prog_14_method_9_code 9 = .ok (.iload_n 1, 1) := by decide +kernel
theorem d_14_9_10 : decode prog_14_method_9_code 10 = .ok (.invokestatic 70, 3) := by decide +kernel
set_option maxRecDepth 100000 in
theorem w_2361 : (Cond.code ({ cls := "NumberHouseModel", name := "no", desc := "(I)Z" } : MethodName) prog_14_method_8_code (1 : Nat) (some .boolean)) ∈ q_tbl := q_of10 201 rfl (by decide +kernel)
set_option maxRecDepth 100000 in
theorem w_14 : (Cond.initialized "NumberHouseModel") ∈ q_tbl := q_of1 14 rfl (by decide +kernel)
set_option maxRecDepth 100000 in
theorem w_2359 : (Cond.methodLink "NumberHouseModel" (70 : Nat) ({ cls := "NumberHouseModel", name := "no", desc := "(I)Z" } : MethodName)) ∈ q_tbl := q_of10 199 rfl (by decide +kernel)
set_option maxRecDepth 100000 in
theorem w_2360 : (Cond.static ({ cls := "NumberHouseModel", name := "no", desc := "(I)Z" } : MethodName)) ∈ q_tbl := q_of10 200 rfl (by decide +kernel)
theorem LS_NM_70 : q_LS "NumberHouseModel" 70 y_NM_no_IZ prog_14_method_8_code 1 (some .boolean) 1 := ⟨w_2361, w_14, w_2359, w_2360, ⟨by decide, by decide, by decide +kernel⟩⟩
theorem d_14_9_13 : decode prog_14_method_9_code 13 = .ok (.ifCond .eq 7, 3) := by decide +kernel
theorem d_14_9_20 : decode prog_14_method_9_code 20 = .ok (.iconst 0, 1) := by decide +kernel
def y_NM_no_IIZ : MethodName := ⟨"NumberHouseModel", "no", "(II)Z"⟩
def F_NM_no_IIZ (x1 : Int32) (x2 : Int32) : Int32 := if x1 < (0 : Int32) then ((1 : Int32)) else (if (3 : Int32) < x1 then ((1 : Int32)) else (if ((F_NM_no_IZ x2) : Int32) = (0 : Int32) then ((0 : Int32)) else ((1 : Int32))))
set_option maxRecDepth 100000 in
set_option maxHeartbeats 4000000 in
theorem X_NM_no_IIZ (l : Launch) (D : va_G) (g : Nat → ClassId) (q : Nat → Nat) (ws : va_W) (x1 : Int32) (x2 : Int32) (hI : q_I (msh g q) q ws) : q_mI l y_NM_no_IIZ prog_14_method_9_code 2 (.boolean) 2 0 0 D g [.int x1, .int x2] ws (fun r u => ws = u ∧ (0 ≤ r.toInt) ∧ (r.toInt ≤ 1) ∧ r = (F_NM_no_IIZ x1 x2)) := by
  intro sz
  refine q_into (by decide) (Nat.le_of_ble_eq_true rfl) ?_
  intro p e s m below meth c ls hsz C0 V hl
  have hx := C0.1
  have hb := C0.2.1
  have hl : lv_has ls 2 [(0, .int x1), (1, .int x2)] := hl
  refine lv_iload_n hx hb d_14_9_0 rfl (lv_at hl 0 rfl) ?_
  refine lv_if_lt (tgt := 16) hx hb d_14_9_1 (by decide) (fun c1 => ?_) (fun c1 => ?_)
  ·
    refine lv_iconst (v := 1) hx hb d_14_9_16 (by decide) ?_
    refine lv_goto (tgt := 21) hx hb d_14_9_17 (by decide) ?_
    exact q_retz C0 V (by decide) (⟨rfl, (show 0 ≤ (1 : Int32).toInt from (by have z2 : (1 : Int32).toInt = 1 := rfl; omega)), (show (1 : Int32).toInt ≤ 1 from (by have z2 : (1 : Int32).toInt = 1 := rfl; omega)), (show (1 : Int32) = (F_NM_no_IIZ x1 x2) from (by rw [F_NM_no_IIZ.eq_1, if_pos c1]))⟩) d_14_9_21
  ·
    refine lv_iload_n hx hb d_14_9_4 rfl (lv_at hl 0 rfl) ?_
    refine lv_iconst (v := 3) hx hb d_14_9_5 (by decide) ?_
    refine lv_icmp_gt (tgt := 16) hx hb d_14_9_6 (by decide) (fun c4 => ?_) (fun c4 => ?_)
    ·
      refine lv_iconst (v := 1) hx hb d_14_9_16 (by decide) ?_
      refine lv_goto (tgt := 21) hx hb d_14_9_17 (by decide) ?_
      exact q_retz C0 V (by decide) (⟨rfl, (show 0 ≤ (1 : Int32).toInt from (by have z2 : (1 : Int32).toInt = 1 := rfl; omega)), (show (1 : Int32).toInt ≤ 1 from (by have z2 : (1 : Int32).toInt = 1 := rfl; omega)), (show (1 : Int32) = (F_NM_no_IIZ x1 x2) from (by rw [F_NM_no_IIZ.eq_1, if_neg c1, if_pos c4]))⟩) d_14_9_21
    ·
      refine lv_iload_n hx hb d_14_9_9 rfl (lv_at hl 1 rfl) ?_
      refine q_goi V (q_runS (As := [.int x2]) (rest := []) (d := 1) (mc := 0) (ms := 0) C0 V rfl LS_NM_70 (X_NM_no_IZ l D g q ws  x2 hI   _) rfl hl.1 rfl (Nat.le_of_ble_eq_true rfl) ⟨by decide, by decide⟩ ⟨Nat.le_of_ble_eq_true rfl, Nat.le_of_ble_eq_true rfl⟩ d_14_9_10) (fun a9 u7 H locs hp8 V => ?_)
      obtain ⟨rfl, b10, b11, hE12⟩ := hp8
      have e13 : a9 = (F_NM_no_IZ x2) := hE12
      clear b10
      clear b11
      refine lv_if_eq (tgt := 20) hx hb d_14_9_13 (by decide) (fun c14 => ?_) (fun c14 => ?_)
      ·
        refine lv_iconst (v := 0) hx hb d_14_9_20 (by decide) ?_
        exact q_retz C0 V (by decide) (⟨rfl, (show 0 ≤ (0 : Int32).toInt from (by have z2 : (0 : Int32).toInt = 0 := rfl; omega)), (show (0 : Int32).toInt ≤ 1 from (by have z2 : (0 : Int32).toInt = 0 := rfl; omega)), (show (0 : Int32) = (F_NM_no_IIZ x1 x2) from (by have c14x := c14; rw [e13] at c14x; rw [F_NM_no_IIZ.eq_1, if_neg c1, if_neg c4, if_pos c14x]))⟩) d_14_9_21
      ·
        refine lv_iconst (v := 1) hx hb d_14_9_16 (by decide) ?_
        refine lv_goto (tgt := 21) hx hb d_14_9_17 (by decide) ?_
        exact q_retz C0 V (by decide) (⟨rfl, (show 0 ≤ (1 : Int32).toInt from (by have z2 : (1 : Int32).toInt = 1 := rfl; omega)), (show (1 : Int32).toInt ≤ 1 from (by have z2 : (1 : Int32).toInt = 1 := rfl; omega)), (show (1 : Int32) = (F_NM_no_IIZ x1 x2) from (by have c14x := c14; rw [e13] at c14x; rw [F_NM_no_IIZ.eq_1, if_neg c1, if_neg c4, if_neg c14x]))⟩) d_14_9_21
theorem d_14_7_0 : decode prog_14_method_7_code 0 = .ok (.iconst 0, 1) := by decide +kernel
theorem d_14_7_1 : decode prog_14_method_7_code 1 = .ok (.istore_n 3, 1) := by decide +kernel
theorem d_14_7_2 : decode prog_14_method_7_code 2 = .ok (.iload_n 3, 1) := by decide +kernel
theorem d_14_7_3 : decode prog_14_method_7_code 3 = .ok (.iload_n 1, 1) := by decide +kernel
theorem d_14_7_4 : decode prog_14_method_7_code 4 = .ok (.if_icmp .ge 15, 3) := by decide +kernel
theorem d_14_7_19 : decode prog_14_method_7_code 19 = .ok (.iload_n 1, 1) := by decide +kernel
theorem d_14_7_20 : decode prog_14_method_7_code 20 = .ok (.ireturn, 1) := by decide +kernel
theorem d_14_7_7 : decode prog_14_method_7_code 7 = .ok (.aload_n 2, 1) := by decide +kernel
theorem d_14_7_8 : decode prog_14_method_7_code 8 = .ok (.iload_n 3, 1) := by decide +kernel
theorem d_14_7_9 : decode prog_14_method_7_code 9 = .ok (.aload_n 0, 1) := by decide +kernel
theorem d_14_7_10 : decode prog_14_method_7_code 10 = .ok (.iload_n 3, 1) := by decide +kernel
theorem d_14_7_11 : decode prog_14_method_7_code 11 = .ok (.iaload, 1) := by decide +kernel
theorem d_14_7_12 : decode prog_14_method_7_code 12 = .ok (.iastore, 1) := by decide +kernel
theorem d_14_7_13 : decode prog_14_method_7_code 13 = .ok (.iinc 3 1, 3) := by decide +kernel
theorem d_14_7_16 : decode prog_14_method_7_code 16 = .ok (.goto (-14), 3) := by decide +kernel
def y_NM_load : MethodName := ⟨"NumberHouseModel", "load", "([II[I)I"⟩
def F_NM_load_L2 (N1 : Int32) (x2 : Int32) (N3 : Int32) (t0_0 : (Nat → Int32)) (t1_0 : (Nat → Int32)) : Nat → Int32 → (Nat → Int32) → (Int32 × (Nat → Int32))
  | 0, _, _ => default
  | fm + 1, lx8, lx9 => if x2 ≤ lx8 then ((x2, lx9)) else (F_NM_load_L2 N1 x2 N3 t0_0 t1_0 fm (lx8 + 1 : Int32) (upd lx9 lx8.toNatClampNeg (t0_0 lx8.toNatClampNeg : Int32) : (Nat → Int32)))
def F_NM_load (N1 : Int32) (x2 : Int32) (N3 : Int32) (t0_0 : (Nat → Int32)) (t1_0 : (Nat → Int32)) : Int32 × (Nat → Int32) := F_NM_load_L2 N1 x2 N3 t0_0 t1_0 ((20200 - (0 : Int32).toInt).toNat + 1) 0 t1_0
def S_NM_load_L2 (N1 : Int32) (x2 : Int32) (N3 : Int32) (t0_0 : (Nat → Int32)) (t1_0 : (Nat → Int32)) : Nat → Int32 → (Nat → Int32) → Prop
  | 0, _, _ => False
  | fm + 1, lx8, lx9 => if x2 ≤ lx8 then (True) else ((lx8.toInt + 1 ≤ N1.toInt) ∧ ((lx8.toInt + 1 ≤ N3.toInt) ∧ (S_NM_load_L2 N1 x2 N3 t0_0 t1_0 fm (lx8 + 1 : Int32) (upd lx9 lx8.toNatClampNeg (t0_0 lx8.toNatClampNeg : Int32) : (Nat → Int32)))))
def S_NM_load (N1 : Int32) (x2 : Int32) (N3 : Int32) (t0_0 : (Nat → Int32)) (t1_0 : (Nat → Int32)) : Prop := S_NM_load_L2 N1 x2 N3 t0_0 t1_0 ((20200 - (0 : Int32).toInt).toNat + 1) 0 t1_0
set_option maxRecDepth 100000 in
set_option maxHeartbeats 4000000 in
theorem X_NM_load (l : Launch) (D : va_G) (g : Nat → ClassId) (q : Nat → Nat) (ws : va_W) (k1 : Nat) (N1 : Int32) (hB1 : q_isRow (msh g q) g k1 N1) (k3 : Nat) (N3 : Int32) (hB3 : q_isRow (msh g q) g k3 N3) (x2 : Int32) (ne_k1_k3 : k1 ≠ k3) (hI : q_I (msh g q) q ws) (t0_0 : (Nat → Int32)) (hT0 : ws[k1]? = (some (q k1, .inl (g 0, N1.toNatClampNeg, .inl t0_0)) : Option (Nat × va_E))) (t1_0 : (Nat → Int32)) (hT1 : ws[k3]? = (some (q k3, .inl (g 0, N3.toNatClampNeg, .inl t1_0)) : Option (Nat × va_E))) (hS : True ∧ S_NM_load N1 x2 N3 t0_0 t1_0) : q_mI l y_NM_load prog_14_method_7_code 4 (.int) 1 0 0 D g [.ref (q k1), .int x2, .ref (q k3)] ws (fun r u => q_I (msh g q) q u ∧ q_un ws u [k3] ∧ ∃ (u1_0 : (Nat → Int32)), u[k3]? = (some (q k3, .inl (g 0, N3.toNatClampNeg, .inl u1_0)) : Option (Nat × va_E)) ∧ (x2.toInt ≤ r.toInt) ∧ (r.toInt ≤ x2.toInt) ∧ (r.toInt ≤ N1.toInt) ∧ (r.toInt ≤ N3.toInt) ∧ (r, u1_0) = (F_NM_load N1 x2 N3 t0_0 t1_0)) := by
  intro sz
  refine q_into (by decide) (Nat.le_of_ble_eq_true rfl) ?_
  intro p e s m below meth c ls hsz C0 V hl
  have hx := C0.1
  have hb := C0.2.1
  have hfk10 : q_F (0 ≤ N1.toInt ∧ N1.toInt ≤ 20200) := hB1.2
  have hfk30 : q_F (0 ≤ N3.toInt ∧ N3.toInt ≤ 20200) := hB3.2
  have hF : q_un ws ws [k3] := q_u0
  have hl : lv_has ls 4 [(0, .ref (q k1)), (1, .int x2), (2, .ref (q k3))] := hl
  refine lv_iconst (v := 0) hx hb d_14_7_0 (by decide) ?_
  refine lv_istore_n (lv' := [(3, .int 0), (0, .ref (q k1)), (1, .int x2), (2, .ref (q k3))]) hx hb d_14_7_1 rfl hl (by decide) rfl (fun ls hl => ?_)
  refine q_loop (X := Int32 × (Nat → Int32)) (fun z H locs ls w14 => q_F (0 ≤ z.1.toInt) ∧ q_F (z.1.toInt ≤ N1.toInt) ∧ q_F (z.1.toInt ≤ N3.toInt) ∧ q_Wd D g (va_A ws sz) s w14 H locs ∧ lv_has ls 4 [(3, .int z.1), (0, .ref (q k1)), (1, .int x2), (2, .ref (q k3))] ∧ q_I (msh g q) q w14 ∧ q_un ws w14 [k3] ∧ w14[k1]? = (some (q k1, .inl (g 0, N1.toNatClampNeg, .inl t0_0)) : Option (Nat × va_E)) ∧ w14[k3]? = (some (q k3, .inl (g 0, N3.toNatClampNeg, .inl z.2)) : Option (Nat × va_E)) ∧ (∃ n, (20200 - z.1.toInt).toNat < n ∧ F_NM_load_L2 N1 x2 N3 t0_0 t1_0 n z.1 z.2 = (F_NM_load N1 x2 N3 t0_0 t1_0) ∧ True ∧ S_NM_load_L2 N1 x2 N3 t0_0 t1_0 n z.1 z.2)) (fun z => (20200 - z.1.toInt).toNat) ?_ ((0 : Int32), (t1_0 : (Nat → Int32))) _ _ _ ws ⟨(show q_F (0 ≤ 0) from (show 0 ≤ 0 from by omega)), (show q_F (0 ≤ N1.toInt) from (show 0 ≤ N1.toInt from by have t1 : 0 ≤ N1.toInt ∧ N1.toInt ≤ 20200 := hfk10; omega)), (show q_F (0 ≤ N3.toInt) from (show 0 ≤ N3.toInt from by have t1 : 0 ≤ N3.toInt ∧ N3.toInt ≤ 20200 := hfk30; omega)), V, q_lw hl (q_lw1 0 rfl (q_lw1 1 rfl (q_lw1 2 rfl (q_lw1 3 rfl q_lw0)))), hI, hF, hT0, hT1, ⟨((20200 - (0 : Int32).toInt).toNat + 1), Nat.lt_succ_self _, (show F_NM_load_L2 N1 x2 N3 t0_0 t1_0 ((20200 - (0 : Int32).toInt).toNat + 1) 0 t1_0 = (F_NM_load N1 x2 N3 t0_0 t1_0) from (by rw [F_NM_load.eq_1])), (show True ∧ S_NM_load_L2 N1 x2 N3 t0_0 t1_0 ((20200 - (0 : Int32).toInt).toNat + 1) 0 t1_0 from (by have h := hS; rw [S_NM_load.eq_1] at h; with_reducible exact h))⟩⟩
  rintro ⟨lx8, lx9⟩ H locs ls w14 ⟨i10, i11, i12, V, hl, hI, hF, hO15, hO16, ⟨fu19, hf20, hR17, hS18⟩⟩ ih13
  obtain ⟨fm21, rfl⟩ : ∃ m, fu19 = m + 1 := ⟨fu19 - 1, by omega⟩
  replace i10 : q_F (0 ≤ lx8.toInt) := i10
  replace i11 : q_F (lx8.toInt ≤ N1.toInt) := i11
  replace i12 : q_F (lx8.toInt ≤ N3.toInt) := i12
  replace hl : lv_has ls 4 [(3, .int lx8), (0, .ref (q k1)), (1, .int x2), (2, .ref (q k3))] := hl
  replace hO15 : w14[k1]? = (some (q k1, .inl (g 0, N1.toNatClampNeg, .inl t0_0)) : Option (Nat × va_E)) := hO15
  replace hO16 : w14[k3]? = (some (q k3, .inl (g 0, N3.toNatClampNeg, .inl lx9)) : Option (Nat × va_E)) := hO16
  refine lv_iload_n hx hb d_14_7_2 rfl (lv_at hl 0 rfl) ?_
  refine lv_iload_n hx hb d_14_7_3 rfl (lv_at hl 2 rfl) ?_
  refine lv_icmp_ge (tgt := 19) hx hb d_14_7_4 (by decide) (fun c22 => ?_) (fun c22 => ?_)
  ·
    have b23 : q_F (x2.toInt ≤ lx8.toInt) := (q_leI c22)
    refine lv_iload_n hx hb d_14_7_19 rfl (lv_at hl 2 rfl) ?_
    exact q_reti C0 V (⟨hI, hF, lx9, hO16, (show x2.toInt ≤ x2.toInt from (by omega)), (show x2.toInt ≤ x2.toInt from (by omega)), (show x2.toInt ≤ N1.toInt from (by have t1 : lx8.toInt ≤ N1.toInt := i11; have t2 : x2.toInt ≤ lx8.toInt := b23; omega)), (show x2.toInt ≤ N3.toInt from (by have t1 : lx8.toInt ≤ N3.toInt := i12; have t2 : x2.toInt ≤ lx8.toInt := b23; omega)), (show (x2, lx9) = (F_NM_load N1 x2 N3 t0_0 t1_0) from Eq.trans (by rw [F_NM_load_L2.eq_2, if_pos c22]) hR17)⟩) d_14_7_20
  ·
    refine lv_aload_n hx hb d_14_7_7 rfl (lv_at hl 3 rfl) ?_
    refine lv_iload_n hx hb d_14_7_8 rfl (lv_at hl 0 rfl) ?_
    refine lv_aload_n hx hb d_14_7_9 rfl (lv_at hl 1 rfl) ?_
    refine lv_iload_n hx hb d_14_7_10 rfl (lv_at hl 0 rfl) ?_
    have ob25 : q_F (lx8.toInt + 1 ≤ N1.toInt) := (by have h := hS18; rw [S_NM_load_L2.eq_2] at h; rw [if_neg c22] at h; exact h.2.1)
    refine q_iald C0 V hO15 (q_ix (x := lx8.toInt) rfl (by first | with_reducible exact q_fe i10 | (have t1 : 0 ≤ lx8.toInt := i10; omega)) (by have t1 : 0 ≤ lx8.toInt := i10; have t2 : lx8.toInt + 1 ≤ N1.toInt := ob25; have e9 := q_clI (i := N1) rfl (by first | with_reducible exact (q_fe hfk10).2 | with_reducible exact (q_fe hfk10).1 | (have t1 : 0 ≤ N1.toInt ∧ N1.toInt ≤ 20200 := hfk10; omega)); omega)) d_14_7_11 ?_
    obtain ⟨a26, e27⟩ := q_nm (t0_0 lx8.toNatClampNeg : Int32)
    refine q_ti (v := a26) e27 ?_
    have ob28 : q_F (lx8.toInt + 1 ≤ N3.toInt) := (by have h := hS18; rw [S_NM_load_L2.eq_2] at h; rw [if_neg c22] at h; replace h := q_s2 h; exact h.2.1)
    refine q_iast C0 V hO16 (q_ix (x := lx8.toInt) rfl (by first | with_reducible exact q_fe i10 | (have t1 : 0 ≤ lx8.toInt := i10; omega)) (by have t1 : 0 ≤ lx8.toInt := i10; have t2 : lx8.toInt + 1 ≤ N3.toInt := ob28; have e9 := q_clI (i := N3) rfl (by first | with_reducible exact (q_fe hfk30).2 | with_reducible exact (q_fe hfk30).1 | (have t1 : 0 ≤ N3.toInt ∧ N3.toInt ≤ 20200 := hfk30; omega)); omega)) d_14_7_12 (fun H locs w29 hu30 hO16 V => ?_)
    replace hI := n_ai' hI hB3.1 hu30 hO16 (q_updB (fun _ => s_bnd) s_bnd)
    replace hO15 := (hu30 _ (by have z := ne_k1_k3; omega)).trans hO15
    replace hF := q_us hF hu30 (by simp)
    obtain ⟨f31, e32⟩ := q_nm (upd lx9 lx8.toNatClampNeg a26 : (Nat → Int32))
    rw [e32] at hO16
    obtain ⟨a33, e34⟩ := q_nm (lx8 + 1 : Int32)
    have b35 : q_F (a33.toInt = lx8.toInt + 1) := (by rw [← e34]; exact q_addI (y := 1) rfl (by decide) (by have t1 : 0 ≤ lx8.toInt := i10; have t2 : lx8.toInt + 1 ≤ N1.toInt := ob25; have _ := q_lo32 (x := N1); have _ := q_hi32 (x := N1); omega) (by have t1 : 0 ≤ lx8.toInt := i10; have t2 : lx8.toInt + 1 ≤ N1.toInt := ob25; have _ := q_lo32 (x := N1); have _ := q_hi32 (x := N1); omega))
    refine lv_iinc (v := a33) (lv' := [(3, .int a33), (0, .ref (q k1)), (1, .int x2), (2, .ref (q k3))]) hx hb d_14_7_13 hl (k := 0) rfl (e34) (by decide) rfl (fun ls hl => ?_)
    refine lv_goto (tgt := 2) hx hb d_14_7_16 (by decide) ?_
    exact ih13 ((a33 : Int32), (f31 : (Nat → Int32))) _ _ _ _ (show (20200 - a33.toInt).toNat < (20200 - lx8.toInt).toNat from by have t1 : a33.toInt = lx8.toInt + 1 := b35; have t2 : 0 ≤ N1.toInt ∧ N1.toInt ≤ 20200 := hfk10; have t3 : lx8.toInt ≤ N1.toInt := i11; have t4 : lx8.toInt + 1 ≤ N1.toInt := ob25; omega) ⟨(show q_F (0 ≤ a33.toInt) from (show 0 ≤ a33.toInt from by have t1 : 0 ≤ lx8.toInt := i10; have t2 : a33.toInt = lx8.toInt + 1 := b35; omega)), (show q_F (a33.toInt ≤ N1.toInt) from (show a33.toInt ≤ N1.toInt from by have t1 : lx8.toInt + 1 ≤ N1.toInt := ob25; have t2 : a33.toInt = lx8.toInt + 1 := b35; omega)), (show q_F (a33.toInt ≤ N3.toInt) from (show a33.toInt ≤ N3.toInt from by have t1 : lx8.toInt + 1 ≤ N3.toInt := ob28; have t2 : a33.toInt = lx8.toInt + 1 := b35; omega)), V, q_lw hl (q_lw1 0 rfl (q_lw1 1 rfl (q_lw1 2 rfl (q_lw1 3 rfl q_lw0)))), hI, hF, hO15, hO16, ⟨fm21, Nat.lt_of_lt_of_le (show (20200 - a33.toInt).toNat < (20200 - lx8.toInt).toNat from by have t1 : a33.toInt = lx8.toInt + 1 := b35; have t2 : 0 ≤ N1.toInt ∧ N1.toInt ≤ 20200 := hfk10; have t3 : lx8.toInt ≤ N1.toInt := i11; have t4 : lx8.toInt + 1 ≤ N1.toInt := ob25; omega) (Nat.le_of_lt_succ hf20), (show F_NM_load_L2 N1 x2 N3 t0_0 t1_0 fm21 a33 f31 = (F_NM_load N1 x2 N3 t0_0 t1_0) from Eq.trans (by rw [← e34, ← e32, ← e27, F_NM_load_L2.eq_2, if_neg c22]) hR17), (show True ∧ S_NM_load_L2 N1 x2 N3 t0_0 t1_0 fm21 a33 f31 from (by rw [← e34, ← e32, ← e27]; have h := hS18; rw [S_NM_load_L2.eq_2] at h; rw [if_neg c22] at h; replace h := q_s2 h; replace h := q_s2 h; with_reducible exact h))⟩⟩
theorem d_14_12_0 : decode prog_14_method_12_code 0 = .ok (.aload_n 0, 1) := by decide +kernel
theorem d_14_12_1 : decode prog_14_method_12_code 1 = .ok (.getfield 51, 3) := by decide +kernel
theorem d_14_12_4 : decode prog_14_method_12_code 4 = .ok (.iload_n 1, 1) := by decide +kernel
theorem d_14_12_5 : decode prog_14_method_12_code 5 = .ok (.iconst 3, 1) := by decide +kernel
theorem d_14_12_6 : decode prog_14_method_12_code 6 = .ok (.if_icmp .ne 10, 3) := by decide +kernel
theorem d_14_12_16 : decode prog_14_method_12_code 16 = .ok (.iload_n 2, 1) := by decide +kernel
theorem d_14_12_17 : decode prog_14_method_12_code 17 = .ok (.lload_n 3, 1) := by decide +kernel
theorem d_14_12_18 : decode prog_14_method_12_code 18 = .ok (.lastore, 1) := by decide +kernel
theorem d_14_12_19 : decode prog_14_method_12_code 19 = .ok (.return_, 1) := by decide +kernel
theorem d_14_12_9 : decode prog_14_method_12_code 9 = .ok (.bipush 10, 2) := by decide +kernel
theorem d_14_12_11 : decode prog_14_method_12_code 11 = .ok (.iload_n 2, 1) := by decide +kernel
theorem d_14_12_12 : decode prog_14_method_12_code 12 = .ok (.iadd, 1) := by decide +kernel
theorem d_14_12_13 : decode prog_14_method_12_code 13 = .ok (.goto 4, 3) := by decide +kernel
def y_NM_setBits : MethodName := ⟨"NumberHouseModel", "setBits", "(IIJ)V"⟩
def F_NM_setBits (x2 : Int32) (x3 : Int32) (x4 : Int64) (t0_0 : Int32) (t0_1 : Int32) (t0_2 : Int32) (t1_0 : (Nat → Int64)) : (Nat → Int64) := if x2 = (3 : Int32) then ((vp_updL t1_0 (10 + x3 : Int32).toNatClampNeg x4 : (Nat → Int64))) else ((vp_updL t1_0 x3.toNatClampNeg x4 : (Nat → Int64)))
def S_NM_setBits (x2 : Int32) (x3 : Int32) (x4 : Int64) (t0_0 : Int32) (t0_1 : Int32) (t0_2 : Int32) (t1_0 : (Nat → Int64)) : Prop := if x2 = (3 : Int32) then ((0 ≤ (10 + x3 : Int32).toInt) ∧ (((10 + x3 : Int32).toInt ≤ 19) ∧ (True))) else ((0 ≤ x3.toInt) ∧ ((x3.toInt ≤ 19) ∧ (True)))
set_option maxRecDepth 100000 in
set_option maxHeartbeats 4000000 in
theorem X_NM_setBits (l : Launch) (D : va_G) (g : Nat → ClassId) (q : Nat → Nat) (ws : va_W) (x2 : Int32) (x3 : Int32) (x4 : Int64) (hI : q_I (msh g q) q ws) (t0_0 : Int32) (t0_1 : Int32) (t0_2 : Int32) (hT0 : ws[116]? = (some (q 116, .inr (12, [.int t0_0, .ref (q 117), .int t0_1, .ref (q 118), .int t0_2, .ref (q 119), .ref (q 134), .ref (q 145), .ref (q 153), .ref (q 157), .ref (q 167), .ref (q 168)])) : Option (Nat × va_E))) (t1_0 : (Nat → Int64)) (hT1 : ws[167]? = (some (q 167, .inl (g 1, 20, .inr (.inl t1_0))) : Option (Nat × va_E))) (hS : True ∧ S_NM_setBits x2 x3 x4 t0_0 t0_1 t0_2 t1_0) : q_mV l y_NM_setBits prog_14_method_12_code 5 1 0 0 D g [.ref (q 116), .int x2, .int x3, .long x4] ws (fun u => q_I (msh g q) q u ∧ q_un ws u [167] ∧ ∃ (u1_0 : (Nat → Int64)), u[167]? = (some (q 167, .inl (g 1, 20, .inr (.inl u1_0))) : Option (Nat × va_E)) ∧ u1_0 = (F_NM_setBits x2 x3 x4 t0_0 t0_1 t0_2 t1_0)) := by
  intro sz
  refine q_into (by decide) (Nat.le_of_ble_eq_true rfl) ?_
  intro p e s m below meth c ls hsz C0 V hl
  have hx := C0.1
  have hb := C0.2.1
  have btt0_2 := (n_w116 hI hT0).2
  clear btt0_2
  have hF : q_un ws ws [167] := q_u0
  have hl : lv_has ls 5 [(0, .ref (q 116)), (1, .int x2), (2, .int x3), (3, .long x4)] := hl
  refine lv_aload_n hx hb d_14_12_0 rfl (lv_at hl 0 rfl) ?_
  refine q_get (ci := 12) (j := 10) (v := .ref (q 167)) C0 V i_NM rfl rfl hT0 (by decide) w_2308 rfl d_14_12_1 ?_
  refine lv_iload_n hx hb d_14_12_4 rfl (lv_at hl 1 rfl) ?_
  refine lv_iconst (v := 3) hx hb d_14_12_5 (by decide) ?_
  refine lv_icmp_ne (tgt := 16) hx hb d_14_12_6 (by decide) (fun c9 => ?_) (fun c9 => ?_)
  ·
    refine lv_iload_n hx hb d_14_12_16 rfl (lv_at hl 2 rfl) ?_
    refine lv_lload_n hx hb d_14_12_17 rfl (lv_at hl 3 rfl) ?_
    have ob11 : q_F (0 ≤ x3.toInt) := (by have h := hS; rw [S_NM_setBits.eq_1] at h; rw [if_neg c9] at h; exact h.2.1)
    have ob12 : q_F (x3.toInt ≤ 19) := (by have h := hS; rw [S_NM_setBits.eq_1] at h; rw [if_neg c9] at h; replace h := q_s2 h; exact h.2.1)
    refine q_last C0 V hT1 (q_ix (x := x3.toInt) rfl (by first | with_reducible exact q_fe ob11 | (have t1 : 0 ≤ x3.toInt := ob11; omega)) (by have t1 : 0 ≤ x3.toInt := ob11; have t2 : x3.toInt ≤ 19 := ob12; omega)) d_14_12_18 (fun H locs w13 hu14 hT1 V => ?_)
    replace hI := n_al' hI (n_s167 g q) hu14 hT1
    replace hF := q_us hF hu14 (by simp)
    obtain ⟨f15, e16⟩ := q_nm (vp_updL t1_0 x3.toNatClampNeg x4 : (Nat → Int64))
    rw [e16] at hT1
    exact q_retv C0 V (⟨hI, hF, f15, hT1, (show f15 = (F_NM_setBits x2 x3 x4 t0_0 t0_1 t0_2 t1_0) from (by rw [← e16, F_NM_setBits.eq_1, if_neg c9]))⟩) d_14_12_19
  ·
    refine lv_bipush (v := 10) hx hb d_14_12_9 (by decide) ?_
    refine lv_iload_n hx hb d_14_12_11 rfl (lv_at hl 2 rfl) ?_
    refine lv_iadd hx hb d_14_12_12 ?_
    obtain ⟨a18, e19⟩ := q_nm (10 + x3 : Int32)
    refine q_ti (v := a18) e19 ?_
    refine lv_goto (tgt := 17) hx hb d_14_12_13 (by decide) ?_
    refine lv_lload_n hx hb d_14_12_17 rfl (lv_at hl 3 rfl) ?_
    have ob20 : q_F (0 ≤ a18.toInt) := (by rw [← e19]; have h := hS; rw [S_NM_setBits.eq_1] at h; rw [if_pos c9] at h; exact h.2.1)
    have ob21 : q_F (a18.toInt ≤ 19) := (by rw [← e19]; have h := hS; rw [S_NM_setBits.eq_1] at h; rw [if_pos c9] at h; replace h := q_s2 h; exact h.2.1)
    refine q_last C0 V hT1 (q_ix (x := a18.toInt) rfl (by first | with_reducible exact q_fe ob20 | (have t1 : 0 ≤ a18.toInt := ob20; omega)) (by have t1 : 0 ≤ a18.toInt := ob20; have t2 : a18.toInt ≤ 19 := ob21; omega)) d_14_12_18 (fun H locs w22 hu23 hT1 V => ?_)
    replace hI := n_al' hI (n_s167 g q) hu23 hT1
    replace hF := q_us hF hu23 (by simp)
    obtain ⟨f24, e25⟩ := q_nm (vp_updL t1_0 a18.toNatClampNeg x4 : (Nat → Int64))
    rw [e25] at hT1
    exact q_retv C0 V (⟨hI, hF, f24, hT1, (show f24 = (F_NM_setBits x2 x3 x4 t0_0 t0_1 t0_2 t1_0) from (by rw [← e25, ← e19, F_NM_setBits.eq_1, if_pos c9]))⟩) d_14_12_19
theorem d_14_15_0 : decode prog_14_method_15_code 0 = .ok (.iload_n 1, 1) := by decide +kernel
theorem d_14_15_1 : decode prog_14_method_15_code 1 = .ok (.iload_n 2, 1) := by decide +kernel
theorem d_14_15_2 : decode prog_14_method_15_code 2 = .ok (.invokestatic 84, 3) := by decide +kernel
set_option maxRecDepth 100000 in
theorem w_2358 : (Cond.code ({ cls := "NumberHouseModel", name := "no", desc := "(II)Z" } : MethodName) prog_14_method_9_code (2 : Nat) (some .boolean)) ∈ q_tbl := q_of10 198 rfl (by decide +kernel)
set_option maxRecDepth 100000 in
theorem w_2356 : (Cond.methodLink "NumberHouseModel" (84 : Nat) ({ cls := "NumberHouseModel", name := "no", desc := "(II)Z" } : MethodName)) ∈ q_tbl := q_of10 196 rfl (by decide +kernel)
set_option maxRecDepth 100000 in
theorem w_2357 : (Cond.static ({ cls := "NumberHouseModel", name := "no", desc := "(II)Z" } : MethodName)) ∈ q_tbl := q_of10 197 rfl (by decide +kernel)
theorem LS_NM_84 : q_LS "NumberHouseModel" 84 y_NM_no_IIZ prog_14_method_9_code 2 (some .boolean) 2 := ⟨w_2358, w_14, w_2356, w_2357, ⟨by decide, by decide, by decide +kernel⟩⟩
theorem d_14_15_37 : decode prog_14_method_15_code 37 = .ok (.istore 4, 2) := by decide +kernel
theorem d_14_15_39 : decode prog_14_method_15_code 39 = .ok (.aload_n 0, 1) := by decide +kernel
theorem d_14_15_40 : decode prog_14_method_15_code 40 = .ok (.iload 4, 2) := by decide +kernel
theorem d_14_15_50 : decode prog_14_method_15_code 50 = .ok (.putfield 58, 3) := by decide +kernel
theorem d_14_15_53 : decode prog_14_method_15_code 53 = .ok (.iload 4, 2) := by decide +kernel
theorem d_14_15_55 : decode prog_14_method_15_code 55 = .ok (.ifCond .eq 5, 3) := by decide +kernel
theorem d_14_15_60 : decode prog_14_method_15_code 60 = .ok (.iconst 0, 1) := by decide +kernel
theorem d_14_15_61 : decode prog_14_method_15_code 61 = .ok (.istore 5, 2) := by decide +kernel
theorem d_14_15_63 : decode prog_14_method_15_code 63 = .ok (.iload_n 1, 1) := by decide +kernel
theorem d_14_15_64 : decode prog_14_method_15_code 64 = .ok (.ifCond .ne 49, 3) := by decide +kernel
theorem d_14_15_113 : decode prog_14_method_15_code 113 = .ok (.iload_n 1, 1) := by decide +kernel
theorem d_14_15_114 : decode prog_14_method_15_code 114 = .ok (.iconst 1, 1) := by decide +kernel
theorem d_14_15_115 : decode prog_14_method_15_code 115 = .ok (.if_icmp .ne 48, 3) := by decide +kernel
theorem d_14_15_163 : decode prog_14_method_15_code 163 = .ok (.aload_n 0, 1) := by decide +kernel
theorem d_14_15_164 : decode prog_14_method_15_code 164 = .ok (.getfield 40, 3) := by decide +kernel
theorem d_14_15_167 : decode prog_14_method_15_code 167 = .ok (.aload_n 0, 1) := by decide +kernel
theorem d_14_15_168 : decode prog_14_method_15_code 168 = .ok (.getfield 7, 3) := by decide +kernel
theorem d_14_15_171 : decode prog_14_method_15_code 171 = .ok (.aload_n 0, 1) := by decide +kernel
theorem d_14_15_172 : decode prog_14_method_15_code 172 = .ok (.getfield 62, 3) := by decide +kernel
theorem d_14_15_175 : decode prog_14_method_15_code 175 = .ok (.aload_n 0, 1) := by decide +kernel
theorem d_14_15_176 : decode prog_14_method_15_code 176 = .ok (.getfield 40, 3) := by decide +kernel
theorem d_14_15_179 : decode prog_14_method_15_code 179 = .ok (.getfield 106, 3) := by decide +kernel
set_option maxRecDepth 100000 in
theorem wo_2140 : (Cond.fieldLinkNest "NumberHouseModel" (106 : Nat) "NumberHouseModel$TextRows" "text" "[I" "NumberHouseModel") ∈ q_odd := q_oo9 220 rfl (by decide +kernel)
theorem d_14_15_182 : decode prog_14_method_15_code 182 = .ok (.invokestatic 90, 3) := by decide +kernel
set_option maxRecDepth 100000 in
theorem w_2364 : (Cond.code ({ cls := "NumberHouseModel", name := "load", desc := "([II[I)I" } : MethodName) prog_14_method_7_code (4 : Nat) (some .int)) ∈ q_tbl := q_of10 204 rfl (by decide +kernel)
set_option maxRecDepth 100000 in
theorem w_2362 : (Cond.methodLink "NumberHouseModel" (90 : Nat) ({ cls := "NumberHouseModel", name := "load", desc := "([II[I)I" } : MethodName)) ∈ q_tbl := q_of10 202 rfl (by decide +kernel)
set_option maxRecDepth 100000 in
theorem w_2363 : (Cond.static ({ cls := "NumberHouseModel", name := "load", desc := "([II[I)I" } : MethodName)) ∈ q_tbl := q_of10 203 rfl (by decide +kernel)
theorem LS_NM_90 : q_LS "NumberHouseModel" 90 y_NM_load prog_14_method_7_code 4 (some .int) 3 := ⟨w_2364, w_14, w_2362, w_2363, ⟨by decide, by decide, by decide +kernel⟩⟩
theorem d_14_15_185 : decode prog_14_method_15_code 185 = .ok (.putfield 109, 3) := by decide +kernel
set_option maxRecDepth 100000 in
theorem wo_2142 : (Cond.fieldLinkNest "NumberHouseModel" (109 : Nat) "NumberHouseModel$TextRows" "length" "I" "NumberHouseModel") ∈ q_odd := q_oo9 222 rfl (by decide +kernel)
theorem d_14_15_188 : decode prog_14_method_15_code 188 = .ok (.iload_n 1, 1) := by decide +kernel
theorem d_14_15_189 : decode prog_14_method_15_code 189 = .ok (.iconst 2, 1) := by decide +kernel
theorem d_14_15_190 : decode prog_14_method_15_code 190 = .ok (.if_icmp .ne 13, 3) := by decide +kernel
theorem d_14_15_203 : decode prog_14_method_15_code 203 = .ok (.aload_n 0, 1) := by decide +kernel
theorem d_14_15_204 : decode prog_14_method_15_code 204 = .ok (.getfield 40, 3) := by decide +kernel
theorem d_14_15_207 : decode prog_14_method_15_code 207 = .ok (.invokevirtual 113, 3) := by decide +kernel
set_option maxRecDepth 100000 in
theorem w_2528 : (Cond.code ({ cls := "NumberHouseModel$TextRows", name := "floatBits", desc := "()I" } : MethodName) prog_18_method_31_code (2 : Nat) (some .int)) ∈ q_tbl := q_of11 128 rfl (by decide +kernel)
set_option maxRecDepth 100000 in
theorem w_2525 : (Cond.methodLink "NumberHouseModel" (113 : Nat) ({ cls := "NumberHouseModel$TextRows", name := "floatBits", desc := "()I" } : MethodName)) ∈ q_tbl := q_of11 125 rfl (by decide +kernel)
set_option maxRecDepth 100000 in
theorem w_2526 : (Cond.instanceMethod ({ cls := "NumberHouseModel$TextRows", name := "floatBits", desc := "()I" } : MethodName)) ∈ q_tbl := q_of11 126 rfl (by decide +kernel)
set_option maxRecDepth 100000 in
theorem w_2527 : (Cond.selects "NumberHouseModel$TextRows" ({ cls := "NumberHouseModel$TextRows", name := "floatBits", desc := "()I" } : MethodName) ({ cls := "NumberHouseModel$TextRows", name := "floatBits", desc := "()I" } : MethodName)) ∈ q_tbl := q_of11 127 rfl (by decide +kernel)
theorem LV_NM_113 : q_LV "NumberHouseModel" 113 y_TR_floatBits prog_18_method_31_code 2 (some .int) 0 := ⟨w_2528, w_18, w_2525, w_2526, w_2527, ⟨by decide, by decide, by decide +kernel⟩⟩
theorem d_14_15_210 : decode prog_14_method_15_code 210 = .ok (.i2l, 1) := by decide +kernel
theorem d_14_15_211 : decode prog_14_method_15_code 211 = .ok (.ldc2_w 117, 3) := by decide +kernel
set_option maxRecDepth 100000 in
theorem w_2530 : (Cond.constantLong "NumberHouseModel" (117 : Nat) (4294967295 : Int64)) ∈ q_tbl := q_of11 130 rfl (by decide +kernel)
theorem d_14_15_214 : decode prog_14_method_15_code 214 = .ok (.land, 1) := by decide +kernel
theorem d_14_15_215 : decode prog_14_method_15_code 215 = .ok (.lstore 6, 2) := by decide +kernel
theorem d_14_15_217 : decode prog_14_method_15_code 217 = .ok (.aload_n 0, 1) := by decide +kernel
theorem d_14_15_218 : decode prog_14_method_15_code 218 = .ok (.getfield 40, 3) := by decide +kernel
theorem d_14_15_221 : decode prog_14_method_15_code 221 = .ok (.getfield 119, 3) := by decide +kernel
set_option maxRecDepth 100000 in
theorem wo_2137 : (Cond.fieldLinkNest "NumberHouseModel" (119 : Nat) "NumberHouseModel$TextRows" "thrown" "I" "NumberHouseModel") ∈ q_odd := q_oo9 217 rfl (by decide +kernel)
theorem d_14_15_224 : decode prog_14_method_15_code 224 = .ok (.iconst 1, 1) := by decide +kernel
theorem d_14_15_233 : decode prog_14_method_15_code 233 = .ok (.istore 5, 2) := by decide +kernel
theorem d_14_15_235 : decode prog_14_method_15_code 235 = .ok (.iload 5, 2) := by decide +kernel
theorem d_14_15_237 : decode prog_14_method_15_code 237 = .ok (.ifCond .ne 11, 3) := by decide +kernel
theorem d_14_15_248 : decode prog_14_method_15_code 248 = .ok (.aload_n 0, 1) := by decide +kernel
theorem d_14_15_249 : decode prog_14_method_15_code 249 = .ok (.iload 5, 2) := by decide +kernel
theorem d_14_15_251 : decode prog_14_method_15_code 251 = .ok (.iconst 3, 1) := by decide +kernel
theorem d_14_15_252 : decode prog_14_method_15_code 252 = .ok (.if_icmp .ne 7, 3) := by decide +kernel
theorem d_14_15_259 : decode prog_14_method_15_code 259 = .ok (.iconst 0, 1) := by decide +kernel
theorem d_14_15_260 : decode prog_14_method_15_code 260 = .ok (.putfield 58, 3) := by decide +kernel
theorem d_14_15_263 : decode prog_14_method_15_code 263 = .ok (.aload_n 0, 1) := by decide +kernel
theorem d_14_15_264 : decode prog_14_method_15_code 264 = .ok (.iload 5, 2) := by decide +kernel
theorem d_14_15_266 : decode prog_14_method_15_code 266 = .ok (.ifCond .ne 7, 3) := by decide +kernel
theorem d_14_15_273 : decode prog_14_method_15_code 273 = .ok (.aload_n 0, 1) := by decide +kernel
theorem d_14_15_274 : decode prog_14_method_15_code 274 = .ok (.getfield 62, 3) := by decide +kernel
theorem d_14_15_277 : decode prog_14_method_15_code 277 = .ok (.putfield 62, 3) := by decide +kernel
theorem d_14_15_280 : decode prog_14_method_15_code 280 = .ok (.iload 5, 2) := by decide +kernel
theorem d_14_15_282 : decode prog_14_method_15_code 282 = .ok (.ifCond .ne 7, 3) := by decide +kernel
theorem d_14_15_289 : decode prog_14_method_15_code 289 = .ok (.iconst 0, 1) := by decide +kernel
theorem d_14_15_290 : decode prog_14_method_15_code 290 = .ok (.ireturn, 1) := by decide +kernel
theorem d_14_15_240 : decode prog_14_method_15_code 240 = .ok (.aload_n 0, 1) := by decide +kernel
theorem d_14_15_241 : decode prog_14_method_15_code 241 = .ok (.iload_n 1, 1) := by decide +kernel
theorem d_14_15_242 : decode prog_14_method_15_code 242 = .ok (.iload_n 2, 1) := by decide +kernel
theorem d_14_15_243 : decode prog_14_method_15_code 243 = .ok (.lload 6, 2) := by decide +kernel
theorem d_14_15_245 : decode prog_14_method_15_code 245 = .ok (.invokevirtual 120, 3) := by decide +kernel
set_option maxRecDepth 100000 in
theorem w_2534 : (Cond.code ({ cls := "NumberHouseModel", name := "setBits", desc := "(IIJ)V" } : MethodName) prog_14_method_12_code (5 : Nat) (none : Option ClassFile.FieldType)) ∈ q_tbl := q_of11 134 rfl (by decide +kernel)
set_option maxRecDepth 100000 in
theorem w_2531 : (Cond.methodLink "NumberHouseModel" (120 : Nat) ({ cls := "NumberHouseModel", name := "setBits", desc := "(IIJ)V" } : MethodName)) ∈ q_tbl := q_of11 131 rfl (by decide +kernel)
set_option maxRecDepth 100000 in
theorem w_2533 : (Cond.instanceMethod ({ cls := "NumberHouseModel", name := "setBits", desc := "(IIJ)V" } : MethodName)) ∈ q_tbl := q_of11 133 rfl (by decide +kernel)
theorem ws_84 : Cond.selects "NumberHouseModel" (⟨"NumberHouseModel", "setBits", "(IIJ)V"⟩ : MethodName) (⟨"NumberHouseModel", "setBits", "(IIJ)V"⟩ : MethodName) ∈ q_tbl := q_ofs 84 (by decide +kernel) (by decide +kernel)
theorem LV_NM_120 : q_LV "NumberHouseModel" 120 y_NM_setBits prog_14_method_12_code 5 none 3 := ⟨w_2534, w_14, w_2531, w_2533, ws_84, ⟨by decide, by decide, by decide +kernel⟩⟩
theorem d_14_15_269 : decode prog_14_method_15_code 269 = .ok (.iconst 0, 1) := by decide +kernel
theorem d_14_15_270 : decode prog_14_method_15_code 270 = .ok (.goto 7, 3) := by decide +kernel
theorem d_14_15_285 : decode prog_14_method_15_code 285 = .ok (.iconst 1, 1) := by decide +kernel
theorem d_14_15_286 : decode prog_14_method_15_code 286 = .ok (.goto 4, 3) := by decide +kernel
theorem d_14_15_225 : decode prog_14_method_15_code 225 = .ok (.if_icmp .ne 7, 3) := by decide +kernel
theorem d_14_15_232 : decode prog_14_method_15_code 232 = .ok (.iconst 0, 1) := by decide +kernel
theorem d_14_15_228 : decode prog_14_method_15_code 228 = .ok (.iconst 2, 1) := by decide +kernel
theorem d_14_15_229 : decode prog_14_method_15_code 229 = .ok (.goto 4, 3) := by decide +kernel
theorem d_14_15_193 : decode prog_14_method_15_code 193 = .ok (.aload_n 0, 1) := by decide +kernel
theorem d_14_15_194 : decode prog_14_method_15_code 194 = .ok (.getfield 40, 3) := by decide +kernel
theorem d_14_15_197 : decode prog_14_method_15_code 197 = .ok (.invokevirtual 110, 3) := by decide +kernel
set_option maxRecDepth 100000 in
theorem w_2422 : (Cond.code ({ cls := "NumberHouseModel$TextRows", name := "bits", desc := "()J" } : MethodName) prog_18_method_30_code (3 : Nat) (some .long)) ∈ q_tbl := q_of11 22 rfl (by decide +kernel)
set_option maxRecDepth 100000 in
theorem w_2419 : (Cond.methodLink "NumberHouseModel" (110 : Nat) ({ cls := "NumberHouseModel$TextRows", name := "bits", desc := "()J" } : MethodName)) ∈ q_tbl := q_of11 19 rfl (by decide +kernel)
set_option maxRecDepth 100000 in
theorem w_2420 : (Cond.instanceMethod ({ cls := "NumberHouseModel$TextRows", name := "bits", desc := "()J" } : MethodName)) ∈ q_tbl := q_of11 20 rfl (by decide +kernel)
set_option maxRecDepth 100000 in
theorem w_2421 : (Cond.selects "NumberHouseModel$TextRows" ({ cls := "NumberHouseModel$TextRows", name := "bits", desc := "()J" } : MethodName) ({ cls := "NumberHouseModel$TextRows", name := "bits", desc := "()J" } : MethodName)) ∈ q_tbl := q_of11 21 rfl (by decide +kernel)
theorem LV_NM_110 : q_LV "NumberHouseModel" 110 y_TR_bits prog_18_method_30_code 3 (some .long) 0 := ⟨w_2422, w_18, w_2419, w_2420, w_2421, ⟨by decide, by decide, by decide +kernel⟩⟩
theorem d_14_15_200 : decode prog_14_method_15_code 200 = .ok (.goto 15, 3) := by decide +kernel
theorem d_14_15_118 : decode prog_14_method_15_code 118 = .ok (.aload_n 0, 1) := by decide +kernel
theorem d_14_15_119 : decode prog_14_method_15_code 119 = .ok (.getfield 26, 3) := by decide +kernel
theorem d_14_15_122 : decode prog_14_method_15_code 122 = .ok (.aload_n 0, 1) := by decide +kernel
theorem d_14_15_123 : decode prog_14_method_15_code 123 = .ok (.getfield 7, 3) := by decide +kernel
theorem d_14_15_126 : decode prog_14_method_15_code 126 = .ok (.aload_n 0, 1) := by decide +kernel
theorem d_14_15_127 : decode prog_14_method_15_code 127 = .ok (.getfield 62, 3) := by decide +kernel
theorem d_14_15_130 : decode prog_14_method_15_code 130 = .ok (.aload_n 0, 1) := by decide +kernel
theorem d_14_15_131 : decode prog_14_method_15_code 131 = .ok (.getfield 26, 3) := by decide +kernel
theorem d_14_15_134 : decode prog_14_method_15_code 134 = .ok (.getfield 100, 3) := by decide +kernel
set_option maxRecDepth 100000 in
theorem wo_1999 : (Cond.fieldLinkNest "NumberHouseModel" (100 : Nat) "NumberHouseModel$DecimalRows" "draft" "[I" "NumberHouseModel") ∈ q_odd := q_oo9 79 rfl (by decide +kernel)
theorem d_14_15_137 : decode prog_14_method_15_code 137 = .ok (.invokestatic 90, 3) := by decide +kernel
theorem d_14_15_140 : decode prog_14_method_15_code 140 = .ok (.putfield 101, 3) := by decide +kernel
set_option maxRecDepth 100000 in
theorem wo_2000 : (Cond.fieldLinkNest "NumberHouseModel" (101 : Nat) "NumberHouseModel$DecimalRows" "length" "I" "NumberHouseModel") ∈ q_odd := q_oo9 80 rfl (by decide +kernel)
theorem d_14_15_143 : decode prog_14_method_15_code 143 = .ok (.aload_n 0, 1) := by decide +kernel
theorem d_14_15_144 : decode prog_14_method_15_code 144 = .ok (.getfield 26, 3) := by decide +kernel
theorem d_14_15_147 : decode prog_14_method_15_code 147 = .ok (.iload_n 2, 1) := by decide +kernel
theorem d_14_15_148 : decode prog_14_method_15_code 148 = .ok (.invokevirtual 102, 3) := by decide +kernel
set_option maxRecDepth 100000 in
theorem w_2392 : (Cond.code ({ cls := "NumberHouseModel$DecimalRows", name := "read", desc := "(I)V" } : MethodName) prog_15_method_21_code (2 : Nat) (none : Option ClassFile.FieldType)) ∈ q_tbl := q_of10 232 rfl (by decide +kernel)
set_option maxRecDepth 100000 in
theorem w_2389 : (Cond.methodLink "NumberHouseModel" (102 : Nat) ({ cls := "NumberHouseModel$DecimalRows", name := "read", desc := "(I)V" } : MethodName)) ∈ q_tbl := q_of10 229 rfl (by decide +kernel)
set_option maxRecDepth 100000 in
theorem w_2390 : (Cond.instanceMethod ({ cls := "NumberHouseModel$DecimalRows", name := "read", desc := "(I)V" } : MethodName)) ∈ q_tbl := q_of10 230 rfl (by decide +kernel)
set_option maxRecDepth 100000 in
theorem w_2391 : (Cond.selects "NumberHouseModel$DecimalRows" ({ cls := "NumberHouseModel$DecimalRows", name := "read", desc := "(I)V" } : MethodName) ({ cls := "NumberHouseModel$DecimalRows", name := "read", desc := "(I)V" } : MethodName)) ∈ q_tbl := q_of10 231 rfl (by decide +kernel)
theorem LV_NM_102 : q_LV "NumberHouseModel" 102 y_DR_read prog_15_method_21_code 2 none 1 := ⟨w_2392, w_16, w_2389, w_2390, w_2391, ⟨by decide, by decide, by decide +kernel⟩⟩
theorem d_14_15_151 : decode prog_14_method_15_code 151 = .ok (.aload_n 0, 1) := by decide +kernel
theorem d_14_15_152 : decode prog_14_method_15_code 152 = .ok (.getfield 26, 3) := by decide +kernel
theorem d_14_15_155 : decode prog_14_method_15_code 155 = .ok (.getfield 105, 3) := by decide +kernel
set_option maxRecDepth 100000 in
theorem wo_1997 : (Cond.fieldLinkNest "NumberHouseModel" (105 : Nat) "NumberHouseModel$DecimalRows" "thrown" "I" "NumberHouseModel") ∈ q_odd := q_oo9 77 rfl (by decide +kernel)
theorem d_14_15_158 : decode prog_14_method_15_code 158 = .ok (.istore 5, 2) := by decide +kernel
theorem d_14_15_160 : decode prog_14_method_15_code 160 = .ok (.goto 88, 3) := by decide +kernel
theorem d_14_15_255 : decode prog_14_method_15_code 255 = .ok (.iconst 2, 1) := by decide +kernel
theorem d_14_15_256 : decode prog_14_method_15_code 256 = .ok (.goto 4, 3) := by decide +kernel
theorem d_14_15_67 : decode prog_14_method_15_code 67 = .ok (.aload_n 0, 1) := by decide +kernel
theorem d_14_15_68 : decode prog_14_method_15_code 68 = .ok (.getfield 19, 3) := by decide +kernel
theorem d_14_15_71 : decode prog_14_method_15_code 71 = .ok (.aload_n 0, 1) := by decide +kernel
theorem d_14_15_72 : decode prog_14_method_15_code 72 = .ok (.getfield 7, 3) := by decide +kernel
theorem d_14_15_75 : decode prog_14_method_15_code 75 = .ok (.aload_n 0, 1) := by decide +kernel
theorem d_14_15_76 : decode prog_14_method_15_code 76 = .ok (.getfield 62, 3) := by decide +kernel
theorem d_14_15_79 : decode prog_14_method_15_code 79 = .ok (.aload_n 0, 1) := by decide +kernel
theorem d_14_15_80 : decode prog_14_method_15_code 80 = .ok (.getfield 19, 3) := by decide +kernel
theorem d_14_15_83 : decode prog_14_method_15_code 83 = .ok (.getfield 87, 3) := by decide +kernel
set_option maxRecDepth 100000 in
theorem wo_1925 : (Cond.fieldLinkNest "NumberHouseModel" (87 : Nat) "NumberHouseModel$WholeRows" "draft" "[I" "NumberHouseModel") ∈ q_odd := q_oo9 5 rfl (by decide +kernel)
theorem d_14_15_86 : decode prog_14_method_15_code 86 = .ok (.invokestatic 90, 3) := by decide +kernel
theorem d_14_15_89 : decode prog_14_method_15_code 89 = .ok (.putfield 94, 3) := by decide +kernel
set_option maxRecDepth 100000 in
theorem wo_1926 : (Cond.fieldLinkNest "NumberHouseModel" (94 : Nat) "NumberHouseModel$WholeRows" "length" "I" "NumberHouseModel") ∈ q_odd := q_oo9 6 rfl (by decide +kernel)
theorem d_14_15_92 : decode prog_14_method_15_code 92 = .ok (.aload_n 0, 1) := by decide +kernel
theorem d_14_15_93 : decode prog_14_method_15_code 93 = .ok (.getfield 19, 3) := by decide +kernel
theorem d_14_15_96 : decode prog_14_method_15_code 96 = .ok (.iload_n 2, 1) := by decide +kernel
theorem d_14_15_97 : decode prog_14_method_15_code 97 = .ok (.iload_n 3, 1) := by decide +kernel
theorem d_14_15_98 : decode prog_14_method_15_code 98 = .ok (.invokevirtual 95, 3) := by decide +kernel
set_option maxRecDepth 100000 in
theorem w_2368 : (Cond.code ({ cls := "NumberHouseModel$WholeRows", name := "read", desc := "(II)V" } : MethodName) prog_19_method_19_code (5 : Nat) (none : Option ClassFile.FieldType)) ∈ q_tbl := q_of10 208 rfl (by decide +kernel)
set_option maxRecDepth 100000 in
theorem w_2365 : (Cond.methodLink "NumberHouseModel" (95 : Nat) ({ cls := "NumberHouseModel$WholeRows", name := "read", desc := "(II)V" } : MethodName)) ∈ q_tbl := q_of10 205 rfl (by decide +kernel)
set_option maxRecDepth 100000 in
theorem w_2366 : (Cond.instanceMethod ({ cls := "NumberHouseModel$WholeRows", name := "read", desc := "(II)V" } : MethodName)) ∈ q_tbl := q_of10 206 rfl (by decide +kernel)
set_option maxRecDepth 100000 in
theorem w_2367 : (Cond.selects "NumberHouseModel$WholeRows" ({ cls := "NumberHouseModel$WholeRows", name := "read", desc := "(II)V" } : MethodName) ({ cls := "NumberHouseModel$WholeRows", name := "read", desc := "(II)V" } : MethodName)) ∈ q_tbl := q_of10 207 rfl (by decide +kernel)
theorem LV_NM_95 : q_LV "NumberHouseModel" 95 y_WR_read prog_19_method_19_code 5 none 2 := ⟨w_2368, w_15, w_2365, w_2366, w_2367, ⟨by decide, by decide, by decide +kernel⟩⟩
theorem d_14_15_101 : decode prog_14_method_15_code 101 = .ok (.aload_n 0, 1) := by decide +kernel
theorem d_14_15_102 : decode prog_14_method_15_code 102 = .ok (.getfield 19, 3) := by decide +kernel
theorem d_14_15_105 : decode prog_14_method_15_code 105 = .ok (.getfield 99, 3) := by decide +kernel
set_option maxRecDepth 100000 in
theorem wo_1922 : (Cond.fieldLinkNest "NumberHouseModel" (99 : Nat) "NumberHouseModel$WholeRows" "thrown" "I" "NumberHouseModel") ∈ q_odd := q_oo9 2 rfl (by decide +kernel)
theorem d_14_15_108 : decode prog_14_method_15_code 108 = .ok (.istore 5, 2) := by decide +kernel
theorem d_14_15_110 : decode prog_14_method_15_code 110 = .ok (.goto 138, 3) := by decide +kernel
theorem d_14_15_58 : decode prog_14_method_15_code 58 = .ok (.iconst 0, 1) := by decide +kernel
theorem d_14_15_59 : decode prog_14_method_15_code 59 = .ok (.ireturn, 1) := by decide +kernel
theorem d_14_15_42 : decode prog_14_method_15_code 42 = .ok (.ifCond .eq 7, 3) := by decide +kernel
theorem d_14_15_49 : decode prog_14_method_15_code 49 = .ok (.iconst 0, 1) := by decide +kernel
theorem d_14_15_45 : decode prog_14_method_15_code 45 = .ok (.iconst 1, 1) := by decide +kernel
theorem d_14_15_46 : decode prog_14_method_15_code 46 = .ok (.goto 4, 3) := by decide +kernel
theorem d_14_15_32 : decode prog_14_method_15_code 32 = .ok (.iconst 1, 1) := by decide +kernel
theorem d_14_15_33 : decode prog_14_method_15_code 33 = .ok (.goto 4, 3) := by decide +kernel
theorem d_14_15_5 : decode prog_14_method_15_code 5 = .ok (.ifCond .ne 27, 3) := by decide +kernel
theorem d_14_15_8 : decode prog_14_method_15_code 8 = .ok (.iload_n 1, 1) := by decide +kernel
theorem d_14_15_36 : decode prog_14_method_15_code 36 = .ok (.iconst 0, 1) := by decide +kernel
theorem d_14_15_9 : decode prog_14_method_15_code 9 = .ok (.ifCond .ne 17, 3) := by decide +kernel
theorem d_14_15_26 : decode prog_14_method_15_code 26 = .ok (.iload_n 3, 1) := by decide +kernel
theorem d_14_15_27 : decode prog_14_method_15_code 27 = .ok (.bipush 10, 2) := by decide +kernel
theorem d_14_15_29 : decode prog_14_method_15_code 29 = .ok (.if_icmp .eq 7, 3) := by decide +kernel
theorem d_14_15_12 : decode prog_14_method_15_code 12 = .ok (.iload_n 3, 1) := by decide +kernel
theorem d_14_15_13 : decode prog_14_method_15_code 13 = .ok (.iconst 2, 1) := by decide +kernel
theorem d_14_15_14 : decode prog_14_method_15_code 14 = .ok (.if_icmp .lt 18, 3) := by decide +kernel
theorem d_14_15_17 : decode prog_14_method_15_code 17 = .ok (.iload_n 3, 1) := by decide +kernel
theorem d_14_15_18 : decode prog_14_method_15_code 18 = .ok (.bipush 36, 2) := by decide +kernel
theorem d_14_15_20 : decode prog_14_method_15_code 20 = .ok (.if_icmp .le 16, 3) := by decide +kernel
theorem d_14_15_23 : decode prog_14_method_15_code 23 = .ok (.goto 9, 3) := by decide +kernel
def y_NM_read : MethodName := ⟨"NumberHouseModel", "read", "(III)Z"⟩
def F_NM_read_J233 (x2 : Int32) (x3 : Int32) (x4 : Int32) (t0_0 : Int32) (t0_1 : Int32) (t0_2 : Int32) (t1_0 : Int32) (t1_1 : Int32) (t1_2 : Int32) (t1_3 : Int32) (t1_4 : Int32) (t1_5 : Int32) (t1_6 : Int32) (t2_0 : (Nat → Int32)) (t3_0 : (Nat → Int32)) (t4_0 : (Nat → Int32)) (t5_0 : (Nat → Int32)) (t6_0 : Int32) (t6_1 : Int32) (t6_2 : Int32) (t6_3 : Int64) (t6_4 : Int32) (t6_5 : Int32) (t6_6 : Int32) (t6_7 : Int32) (t6_8 : Int32) (t6_9 : Int32) (t6_10 : Int32) (t7_0 : (Nat → Int32)) (t8_0 : (Nat → Int32)) (t9_0 : (Nat → Int32)) (t10_0 : (Nat → Int32)) (t11_0 : (Nat → Int32)) (t12_0 : (Nat → Int32)) (t13_0 : Int32) (t13_1 : Int32) (t13_2 : Int32) (t13_3 : Int32) (t13_4 : Int32) (t13_5 : Int32) (t13_6 : Int32) (t13_7 : Int64) (t13_8 : Int32) (t13_9 : Int32) (t13_10 : Int64) (t13_11 : Int64) (t13_12 : Int32) (t13_13 : Int32) (t14_0 : (Nat → Int32)) (t15_0 : (Nat → Int32)) (t16_0 : (Nat → Int32)) (t17_0 : (Nat → Int32)) (t18_0 : (Nat → Int64)) (lx105 : Int32) (lx133 : Int32) (p181 : (Int32 × (Nat → Int32))) (f173 : (Nat → Int32)) (p229 : (Int32 × Int32 × Int32 × Int32 × Int32 × Int32 × Int32 × Int32 × Int64 × Int32 × Int32 × Int64 × Int64 × Int32 × Int32 × (Nat → Int32) × (Nat → Int32))) (j256 : Int64) (y199 : Int32) (y200 : Int32) (y201 : Int32) (y202 : Int32) (y203 : Int32) (y204 : Int32) (y205 : Int32) (y206 : Int64) (y207 : Int32) (y208 : Int32) (y209 : Int64) (y210 : Int64) (y211 : Int32) (y212 : Int32) (f213 : (Nat → Int32)) (f215 : (Nat → Int32)) (lx259 : Int32) : Int32 × Int32 × Int32 × Int32 × Int32 × Int32 × Int32 × Int32 × Int32 × Int32 × (Nat → Int32) × (Nat → Int32) × (Nat → Int32) × (Nat → Int32) × Int32 × Int32 × Int32 × Int64 × Int32 × Int32 × Int32 × Int32 × Int32 × Int32 × Int32 × (Nat → Int32) × (Nat → Int32) × (Nat → Int32) × (Nat → Int32) × (Nat → Int32) × (Nat → Int32) × Int32 × Int32 × Int32 × Int32 × Int32 × Int32 × Int32 × Int64 × Int32 × Int32 × Int64 × Int64 × Int32 × Int32 × (Nat → Int32) × (Nat → Int32) × (Nat → Int32) × (Nat → Int64) := if lx259 = (0 : Int32) then (((1 : Int32), (0 : Int32), (0 : Int32), t1_0, t1_1, t1_2, t1_3, t1_4, t1_5, t1_6, t2_0, t3_0, t4_0, t5_0, t6_0, t6_1, t6_2, t6_3, t6_4, t6_5, t6_6, t6_7, t6_8, t6_9, t6_10, t7_0, t8_0, t9_0, t10_0, t11_0, t12_0, y199, y200, y201, y202, y203, y204, y205, y206, y207, y208, y209, y210, y211, y212, f173, f213, f215, ((F_NM_setBits x2 x3 j256 lx133 t0_1 t0_2 t18_0) : (Nat → Int64)))) else (((0 : Int32), (0 : Int32), t0_1, t1_0, t1_1, t1_2, t1_3, t1_4, t1_5, t1_6, t2_0, t3_0, t4_0, t5_0, t6_0, t6_1, t6_2, t6_3, t6_4, t6_5, t6_6, t6_7, t6_8, t6_9, t6_10, t7_0, t8_0, t9_0, t10_0, t11_0, t12_0, y199, y200, y201, y202, y203, y204, y205, y206, y207, y208, y209, y210, y211, y212, f173, f213, f215, t18_0))
def F_NM_read_c207 (x2 : Int32) (x3 : Int32) (x4 : Int32) (t0_0 : Int32) (t0_1 : Int32) (t0_2 : Int32) (t1_0 : Int32) (t1_1 : Int32) (t1_2 : Int32) (t1_3 : Int32) (t1_4 : Int32) (t1_5 : Int32) (t1_6 : Int32) (t2_0 : (Nat → Int32)) (t3_0 : (Nat → Int32)) (t4_0 : (Nat → Int32)) (t5_0 : (Nat → Int32)) (t6_0 : Int32) (t6_1 : Int32) (t6_2 : Int32) (t6_3 : Int64) (t6_4 : Int32) (t6_5 : Int32) (t6_6 : Int32) (t6_7 : Int32) (t6_8 : Int32) (t6_9 : Int32) (t6_10 : Int32) (t7_0 : (Nat → Int32)) (t8_0 : (Nat → Int32)) (t9_0 : (Nat → Int32)) (t10_0 : (Nat → Int32)) (t11_0 : (Nat → Int32)) (t12_0 : (Nat → Int32)) (t13_0 : Int32) (t13_1 : Int32) (t13_2 : Int32) (t13_3 : Int32) (t13_4 : Int32) (t13_5 : Int32) (t13_6 : Int32) (t13_7 : Int64) (t13_8 : Int32) (t13_9 : Int32) (t13_10 : Int64) (t13_11 : Int64) (t13_12 : Int32) (t13_13 : Int32) (t14_0 : (Nat → Int32)) (t15_0 : (Nat → Int32)) (t16_0 : (Nat → Int32)) (t17_0 : (Nat → Int32)) (t18_0 : (Nat → Int64)) (lx105 : Int32) (lx133 : Int32) (p181 : (Int32 × (Nat → Int32))) (f173 : (Nat → Int32)) (p229 : (Int32 × Int32 × Int32 × Int32 × Int32 × Int32 × Int32 × Int32 × Int64 × Int32 × Int32 × Int64 × Int64 × Int32 × Int32 × (Nat → Int32) × (Nat → Int32))) : Int32 × Int32 × Int32 × Int32 × Int32 × Int32 × Int32 × Int32 × Int32 × Int32 × (Nat → Int32) × (Nat → Int32) × (Nat → Int32) × (Nat → Int32) × Int32 × Int32 × Int32 × Int64 × Int32 × Int32 × Int32 × Int32 × Int32 × Int32 × Int32 × (Nat → Int32) × (Nat → Int32) × (Nat → Int32) × (Nat → Int32) × (Nat → Int32) × (Nat → Int32) × Int32 × Int32 × Int32 × Int32 × Int32 × Int32 × Int32 × Int64 × Int32 × Int32 × Int64 × Int64 × Int32 × Int32 × (Nat → Int32) × (Nat → Int32) × (Nat → Int32) × (Nat → Int64) := if (p229.2.1 : Int32) = (1 : Int32) then (F_NM_read_J233 x2 x3 x4 t0_0 t0_1 t0_2 t1_0 t1_1 t1_2 t1_3 t1_4 t1_5 t1_6 t2_0 t3_0 t4_0 t5_0 t6_0 t6_1 t6_2 t6_3 t6_4 t6_5 t6_6 t6_7 t6_8 t6_9 t6_10 t7_0 t8_0 t9_0 t10_0 t11_0 t12_0 t13_0 t13_1 t13_2 t13_3 t13_4 t13_5 t13_6 t13_7 t13_8 t13_9 t13_10 t13_11 t13_12 t13_13 t14_0 t15_0 t16_0 t17_0 t18_0 lx105 lx133 p181 f173 p229 (((p229.1 : Int32).toInt64 : Int64) &&& 4294967295 : Int64) (p229.2.1 : Int32) (p229.2.2.1 : Int32) (p229.2.2.2.1 : Int32) (p229.2.2.2.2.1 : Int32) (p229.2.2.2.2.2.1 : Int32) (p229.2.2.2.2.2.2.1 : Int32) (p229.2.2.2.2.2.2.2.1 : Int32) (p229.2.2.2.2.2.2.2.2.1 : Int64) (p229.2.2.2.2.2.2.2.2.2.1 : Int32) (p229.2.2.2.2.2.2.2.2.2.2.1 : Int32) (p229.2.2.2.2.2.2.2.2.2.2.2.1 : Int64) (p229.2.2.2.2.2.2.2.2.2.2.2.2.1 : Int64) (p229.2.2.2.2.2.2.2.2.2.2.2.2.2.1 : Int32) (p229.2.2.2.2.2.2.2.2.2.2.2.2.2.2.1 : Int32) (p229.2.2.2.2.2.2.2.2.2.2.2.2.2.2.2.1 : (Nat → Int32)) (p229.2.2.2.2.2.2.2.2.2.2.2.2.2.2.2.2 : (Nat → Int32)) 2) else (F_NM_read_J233 x2 x3 x4 t0_0 t0_1 t0_2 t1_0 t1_1 t1_2 t1_3 t1_4 t1_5 t1_6 t2_0 t3_0 t4_0 t5_0 t6_0 t6_1 t6_2 t6_3 t6_4 t6_5 t6_6 t6_7 t6_8 t6_9 t6_10 t7_0 t8_0 t9_0 t10_0 t11_0 t12_0 t13_0 t13_1 t13_2 t13_3 t13_4 t13_5 t13_6 t13_7 t13_8 t13_9 t13_10 t13_11 t13_12 t13_13 t14_0 t15_0 t16_0 t17_0 t18_0 lx105 lx133 p181 f173 p229 (((p229.1 : Int32).toInt64 : Int64) &&& 4294967295 : Int64) (p229.2.1 : Int32) (p229.2.2.1 : Int32) (p229.2.2.2.1 : Int32) (p229.2.2.2.2.1 : Int32) (p229.2.2.2.2.2.1 : Int32) (p229.2.2.2.2.2.2.1 : Int32) (p229.2.2.2.2.2.2.2.1 : Int32) (p229.2.2.2.2.2.2.2.2.1 : Int64) (p229.2.2.2.2.2.2.2.2.2.1 : Int32) (p229.2.2.2.2.2.2.2.2.2.2.1 : Int32) (p229.2.2.2.2.2.2.2.2.2.2.2.1 : Int64) (p229.2.2.2.2.2.2.2.2.2.2.2.2.1 : Int64) (p229.2.2.2.2.2.2.2.2.2.2.2.2.2.1 : Int32) (p229.2.2.2.2.2.2.2.2.2.2.2.2.2.2.1 : Int32) (p229.2.2.2.2.2.2.2.2.2.2.2.2.2.2.2.1 : (Nat → Int32)) (p229.2.2.2.2.2.2.2.2.2.2.2.2.2.2.2.2 : (Nat → Int32)) 0)
def F_NM_read_J233_7 (x2 : Int32) (x3 : Int32) (x4 : Int32) (t0_0 : Int32) (t0_1 : Int32) (t0_2 : Int32) (t1_0 : Int32) (t1_1 : Int32) (t1_2 : Int32) (t1_3 : Int32) (t1_4 : Int32) (t1_5 : Int32) (t1_6 : Int32) (t2_0 : (Nat → Int32)) (t3_0 : (Nat → Int32)) (t4_0 : (Nat → Int32)) (t5_0 : (Nat → Int32)) (t6_0 : Int32) (t6_1 : Int32) (t6_2 : Int32) (t6_3 : Int64) (t6_4 : Int32) (t6_5 : Int32) (t6_6 : Int32) (t6_7 : Int32) (t6_8 : Int32) (t6_9 : Int32) (t6_10 : Int32) (t7_0 : (Nat → Int32)) (t8_0 : (Nat → Int32)) (t9_0 : (Nat → Int32)) (t10_0 : (Nat → Int32)) (t11_0 : (Nat → Int32)) (t12_0 : (Nat → Int32)) (t13_0 : Int32) (t13_1 : Int32) (t13_2 : Int32) (t13_3 : Int32) (t13_4 : Int32) (t13_5 : Int32) (t13_6 : Int32) (t13_7 : Int64) (t13_8 : Int32) (t13_9 : Int32) (t13_10 : Int64) (t13_11 : Int64) (t13_12 : Int32) (t13_13 : Int32) (t14_0 : (Nat → Int32)) (t15_0 : (Nat → Int32)) (t16_0 : (Nat → Int32)) (t17_0 : (Nat → Int32)) (t18_0 : (Nat → Int64)) (lx105 : Int32) (lx133 : Int32) (p181 : (Int32 × (Nat → Int32))) (f173 : (Nat → Int32)) (p351 : (Int64 × Int32 × Int32 × Int32 × Int32 × Int32 × Int32 × Int32 × Int64 × Int32 × Int32 × Int64 × Int64 × Int32 × Int32 × (Nat → Int32) × (Nat → Int32))) (j319 : Int64) (y321 : Int32) (y322 : Int32) (y323 : Int32) (y324 : Int32) (y325 : Int32) (y326 : Int32) (y327 : Int32) (y328 : Int64) (y329 : Int32) (y330 : Int32) (y331 : Int64) (y332 : Int64) (y333 : Int32) (y334 : Int32) (f335 : (Nat → Int32)) (f337 : (Nat → Int32)) (lx375 : Int32) : Int32 × Int32 × Int32 × Int32 × Int32 × Int32 × Int32 × Int32 × Int32 × Int32 × (Nat → Int32) × (Nat → Int32) × (Nat → Int32) × (Nat → Int32) × Int32 × Int32 × Int32 × Int64 × Int32 × Int32 × Int32 × Int32 × Int32 × Int32 × Int32 × (Nat → Int32) × (Nat → Int32) × (Nat → Int32) × (Nat → Int32) × (Nat → Int32) × (Nat → Int32) × Int32 × Int32 × Int32 × Int32 × Int32 × Int32 × Int32 × Int64 × Int32 × Int32 × Int64 × Int64 × Int32 × Int32 × (Nat → Int32) × (Nat → Int32) × (Nat → Int32) × (Nat → Int64) := if lx375 = (0 : Int32) then (((1 : Int32), (0 : Int32), (0 : Int32), t1_0, t1_1, t1_2, t1_3, t1_4, t1_5, t1_6, t2_0, t3_0, t4_0, t5_0, t6_0, t6_1, t6_2, t6_3, t6_4, t6_5, t6_6, t6_7, t6_8, t6_9, t6_10, t7_0, t8_0, t9_0, t10_0, t11_0, t12_0, y321, y322, y323, y324, y325, y326, y327, y328, y329, y330, y331, y332, y333, y334, f173, f335, f337, ((F_NM_setBits x2 x3 j319 lx133 t0_1 t0_2 t18_0) : (Nat → Int64)))) else (((0 : Int32), (0 : Int32), t0_1, t1_0, t1_1, t1_2, t1_3, t1_4, t1_5, t1_6, t2_0, t3_0, t4_0, t5_0, t6_0, t6_1, t6_2, t6_3, t6_4, t6_5, t6_6, t6_7, t6_8, t6_9, t6_10, t7_0, t8_0, t9_0, t10_0, t11_0, t12_0, y321, y322, y323, y324, y325, y326, y327, y328, y329, y330, y331, y332, y333, y334, f173, f335, f337, t18_0))
def F_NM_read_c197 (x2 : Int32) (x3 : Int32) (x4 : Int32) (t0_0 : Int32) (t0_1 : Int32) (t0_2 : Int32) (t1_0 : Int32) (t1_1 : Int32) (t1_2 : Int32) (t1_3 : Int32) (t1_4 : Int32) (t1_5 : Int32) (t1_6 : Int32) (t2_0 : (Nat → Int32)) (t3_0 : (Nat → Int32)) (t4_0 : (Nat → Int32)) (t5_0 : (Nat → Int32)) (t6_0 : Int32) (t6_1 : Int32) (t6_2 : Int32) (t6_3 : Int64) (t6_4 : Int32) (t6_5 : Int32) (t6_6 : Int32) (t6_7 : Int32) (t6_8 : Int32) (t6_9 : Int32) (t6_10 : Int32) (t7_0 : (Nat → Int32)) (t8_0 : (Nat → Int32)) (t9_0 : (Nat → Int32)) (t10_0 : (Nat → Int32)) (t11_0 : (Nat → Int32)) (t12_0 : (Nat → Int32)) (t13_0 : Int32) (t13_1 : Int32) (t13_2 : Int32) (t13_3 : Int32) (t13_4 : Int32) (t13_5 : Int32) (t13_6 : Int32) (t13_7 : Int64) (t13_8 : Int32) (t13_9 : Int32) (t13_10 : Int64) (t13_11 : Int64) (t13_12 : Int32) (t13_13 : Int32) (t14_0 : (Nat → Int32)) (t15_0 : (Nat → Int32)) (t16_0 : (Nat → Int32)) (t17_0 : (Nat → Int32)) (t18_0 : (Nat → Int64)) (lx105 : Int32) (lx133 : Int32) (p181 : (Int32 × (Nat → Int32))) (f173 : (Nat → Int32)) (p351 : (Int64 × Int32 × Int32 × Int32 × Int32 × Int32 × Int32 × Int32 × Int64 × Int32 × Int32 × Int64 × Int64 × Int32 × Int32 × (Nat → Int32) × (Nat → Int32))) : Int32 × Int32 × Int32 × Int32 × Int32 × Int32 × Int32 × Int32 × Int32 × Int32 × (Nat → Int32) × (Nat → Int32) × (Nat → Int32) × (Nat → Int32) × Int32 × Int32 × Int32 × Int64 × Int32 × Int32 × Int32 × Int32 × Int32 × Int32 × Int32 × (Nat → Int32) × (Nat → Int32) × (Nat → Int32) × (Nat → Int32) × (Nat → Int32) × (Nat → Int32) × Int32 × Int32 × Int32 × Int32 × Int32 × Int32 × Int32 × Int64 × Int32 × Int32 × Int64 × Int64 × Int32 × Int32 × (Nat → Int32) × (Nat → Int32) × (Nat → Int32) × (Nat → Int64) := if (p351.2.1 : Int32) = (1 : Int32) then (F_NM_read_J233_7 x2 x3 x4 t0_0 t0_1 t0_2 t1_0 t1_1 t1_2 t1_3 t1_4 t1_5 t1_6 t2_0 t3_0 t4_0 t5_0 t6_0 t6_1 t6_2 t6_3 t6_4 t6_5 t6_6 t6_7 t6_8 t6_9 t6_10 t7_0 t8_0 t9_0 t10_0 t11_0 t12_0 t13_0 t13_1 t13_2 t13_3 t13_4 t13_5 t13_6 t13_7 t13_8 t13_9 t13_10 t13_11 t13_12 t13_13 t14_0 t15_0 t16_0 t17_0 t18_0 lx105 lx133 p181 f173 p351 (p351.1 : Int64) (p351.2.1 : Int32) (p351.2.2.1 : Int32) (p351.2.2.2.1 : Int32) (p351.2.2.2.2.1 : Int32) (p351.2.2.2.2.2.1 : Int32) (p351.2.2.2.2.2.2.1 : Int32) (p351.2.2.2.2.2.2.2.1 : Int32) (p351.2.2.2.2.2.2.2.2.1 : Int64) (p351.2.2.2.2.2.2.2.2.2.1 : Int32) (p351.2.2.2.2.2.2.2.2.2.2.1 : Int32) (p351.2.2.2.2.2.2.2.2.2.2.2.1 : Int64) (p351.2.2.2.2.2.2.2.2.2.2.2.2.1 : Int64) (p351.2.2.2.2.2.2.2.2.2.2.2.2.2.1 : Int32) (p351.2.2.2.2.2.2.2.2.2.2.2.2.2.2.1 : Int32) (p351.2.2.2.2.2.2.2.2.2.2.2.2.2.2.2.1 : (Nat → Int32)) (p351.2.2.2.2.2.2.2.2.2.2.2.2.2.2.2.2 : (Nat → Int32)) 2) else (F_NM_read_J233_7 x2 x3 x4 t0_0 t0_1 t0_2 t1_0 t1_1 t1_2 t1_3 t1_4 t1_5 t1_6 t2_0 t3_0 t4_0 t5_0 t6_0 t6_1 t6_2 t6_3 t6_4 t6_5 t6_6 t6_7 t6_8 t6_9 t6_10 t7_0 t8_0 t9_0 t10_0 t11_0 t12_0 t13_0 t13_1 t13_2 t13_3 t13_4 t13_5 t13_6 t13_7 t13_8 t13_9 t13_10 t13_11 t13_12 t13_13 t14_0 t15_0 t16_0 t17_0 t18_0 lx105 lx133 p181 f173 p351 (p351.1 : Int64) (p351.2.1 : Int32) (p351.2.2.1 : Int32) (p351.2.2.2.1 : Int32) (p351.2.2.2.2.1 : Int32) (p351.2.2.2.2.2.1 : Int32) (p351.2.2.2.2.2.2.1 : Int32) (p351.2.2.2.2.2.2.2.1 : Int32) (p351.2.2.2.2.2.2.2.2.1 : Int64) (p351.2.2.2.2.2.2.2.2.2.1 : Int32) (p351.2.2.2.2.2.2.2.2.2.2.1 : Int32) (p351.2.2.2.2.2.2.2.2.2.2.2.1 : Int64) (p351.2.2.2.2.2.2.2.2.2.2.2.2.1 : Int64) (p351.2.2.2.2.2.2.2.2.2.2.2.2.2.1 : Int32) (p351.2.2.2.2.2.2.2.2.2.2.2.2.2.2.1 : Int32) (p351.2.2.2.2.2.2.2.2.2.2.2.2.2.2.2.1 : (Nat → Int32)) (p351.2.2.2.2.2.2.2.2.2.2.2.2.2.2.2.2 : (Nat → Int32)) 0)
def F_NM_read_c182 (x2 : Int32) (x3 : Int32) (x4 : Int32) (t0_0 : Int32) (t0_1 : Int32) (t0_2 : Int32) (t1_0 : Int32) (t1_1 : Int32) (t1_2 : Int32) (t1_3 : Int32) (t1_4 : Int32) (t1_5 : Int32) (t1_6 : Int32) (t2_0 : (Nat → Int32)) (t3_0 : (Nat → Int32)) (t4_0 : (Nat → Int32)) (t5_0 : (Nat → Int32)) (t6_0 : Int32) (t6_1 : Int32) (t6_2 : Int32) (t6_3 : Int64) (t6_4 : Int32) (t6_5 : Int32) (t6_6 : Int32) (t6_7 : Int32) (t6_8 : Int32) (t6_9 : Int32) (t6_10 : Int32) (t7_0 : (Nat → Int32)) (t8_0 : (Nat → Int32)) (t9_0 : (Nat → Int32)) (t10_0 : (Nat → Int32)) (t11_0 : (Nat → Int32)) (t12_0 : (Nat → Int32)) (t13_0 : Int32) (t13_1 : Int32) (t13_2 : Int32) (t13_3 : Int32) (t13_4 : Int32) (t13_5 : Int32) (t13_6 : Int32) (t13_7 : Int64) (t13_8 : Int32) (t13_9 : Int32) (t13_10 : Int64) (t13_11 : Int64) (t13_12 : Int32) (t13_13 : Int32) (t14_0 : (Nat → Int32)) (t15_0 : (Nat → Int32)) (t16_0 : (Nat → Int32)) (t17_0 : (Nat → Int32)) (t18_0 : (Nat → Int64)) (lx105 : Int32) (lx133 : Int32) (p181 : (Int32 × (Nat → Int32))) : Int32 × Int32 × Int32 × Int32 × Int32 × Int32 × Int32 × Int32 × Int32 × Int32 × (Nat → Int32) × (Nat → Int32) × (Nat → Int32) × (Nat → Int32) × Int32 × Int32 × Int32 × Int64 × Int32 × Int32 × Int32 × Int32 × Int32 × Int32 × Int32 × (Nat → Int32) × (Nat → Int32) × (Nat → Int32) × (Nat → Int32) × (Nat → Int32) × (Nat → Int32) × Int32 × Int32 × Int32 × Int32 × Int32 × Int32 × Int32 × Int64 × Int32 × Int32 × Int64 × Int64 × Int32 × Int32 × (Nat → Int32) × (Nat → Int32) × (Nat → Int32) × (Nat → Int64) := if x2 = (2 : Int32) then (F_NM_read_c197 x2 x3 x4 t0_0 t0_1 t0_2 t1_0 t1_1 t1_2 t1_3 t1_4 t1_5 t1_6 t2_0 t3_0 t4_0 t5_0 t6_0 t6_1 t6_2 t6_3 t6_4 t6_5 t6_6 t6_7 t6_8 t6_9 t6_10 t7_0 t8_0 t9_0 t10_0 t11_0 t12_0 t13_0 t13_1 t13_2 t13_3 t13_4 t13_5 t13_6 t13_7 t13_8 t13_9 t13_10 t13_11 t13_12 t13_13 t14_0 t15_0 t16_0 t17_0 t18_0 lx105 lx133 p181 (p181.2 : (Nat → Int32)) ((F_TR_bits t13_0 (p181.1 : Int32) t13_2 t13_3 t13_4 t13_5 t13_6 t13_7 t13_8 t13_9 t13_10 t13_11 t13_12 t13_13 (p181.2 : (Nat → Int32)) t15_0 t16_0) : (Int64 × Int32 × Int32 × Int32 × Int32 × Int32 × Int32 × Int32 × Int64 × Int32 × Int32 × Int64 × Int64 × Int32 × Int32 × (Nat → Int32) × (Nat → Int32)))) else (F_NM_read_c207 x2 x3 x4 t0_0 t0_1 t0_2 t1_0 t1_1 t1_2 t1_3 t1_4 t1_5 t1_6 t2_0 t3_0 t4_0 t5_0 t6_0 t6_1 t6_2 t6_3 t6_4 t6_5 t6_6 t6_7 t6_8 t6_9 t6_10 t7_0 t8_0 t9_0 t10_0 t11_0 t12_0 t13_0 t13_1 t13_2 t13_3 t13_4 t13_5 t13_6 t13_7 t13_8 t13_9 t13_10 t13_11 t13_12 t13_13 t14_0 t15_0 t16_0 t17_0 t18_0 lx105 lx133 p181 (p181.2 : (Nat → Int32)) ((F_TR_floatBits t13_0 (p181.1 : Int32) t13_2 t13_3 t13_4 t13_5 t13_6 t13_7 t13_8 t13_9 t13_10 t13_11 t13_12 t13_13 (p181.2 : (Nat → Int32)) t15_0 t16_0) : (Int32 × Int32 × Int32 × Int32 × Int32 × Int32 × Int32 × Int32 × Int64 × Int32 × Int32 × Int64 × Int64 × Int32 × Int32 × (Nat → Int32) × (Nat → Int32))))
def F_NM_read_J260 (x2 : Int32) (x3 : Int32) (x4 : Int32) (t0_0 : Int32) (t0_1 : Int32) (t0_2 : Int32) (t1_0 : Int32) (t1_1 : Int32) (t1_2 : Int32) (t1_3 : Int32) (t1_4 : Int32) (t1_5 : Int32) (t1_6 : Int32) (t2_0 : (Nat → Int32)) (t3_0 : (Nat → Int32)) (t4_0 : (Nat → Int32)) (t5_0 : (Nat → Int32)) (t6_0 : Int32) (t6_1 : Int32) (t6_2 : Int32) (t6_3 : Int64) (t6_4 : Int32) (t6_5 : Int32) (t6_6 : Int32) (t6_7 : Int32) (t6_8 : Int32) (t6_9 : Int32) (t6_10 : Int32) (t7_0 : (Nat → Int32)) (t8_0 : (Nat → Int32)) (t9_0 : (Nat → Int32)) (t10_0 : (Nat → Int32)) (t11_0 : (Nat → Int32)) (t12_0 : (Nat → Int32)) (t13_0 : Int32) (t13_1 : Int32) (t13_2 : Int32) (t13_3 : Int32) (t13_4 : Int32) (t13_5 : Int32) (t13_6 : Int32) (t13_7 : Int64) (t13_8 : Int32) (t13_9 : Int32) (t13_10 : Int64) (t13_11 : Int64) (t13_12 : Int32) (t13_13 : Int32) (t14_0 : (Nat → Int32)) (t15_0 : (Nat → Int32)) (t16_0 : (Nat → Int32)) (t17_0 : (Nat → Int32)) (t18_0 : (Nat → Int64)) (lx105 : Int32) (lx133 : Int32) (p444 : (Int32 × (Nat → Int32))) (f436 : (Nat → Int32)) (p496 : (Int32 × Int32 × Int32 × Int64 × Int32 × Int32 × Int32 × Int32 × Int32 × Int32 × Int32 × (Nat → Int32) × (Nat → Int32) × (Nat → Int32) × (Nat → Int32) × (Nat → Int32))) (y459 : Int32) (y460 : Int32) (y461 : Int32) (y462 : Int64) (y463 : Int32) (y464 : Int32) (y465 : Int32) (y466 : Int32) (y467 : Int32) (y468 : Int32) (y469 : Int32) (f470 : (Nat → Int32)) (f472 : (Nat → Int32)) (f474 : (Nat → Int32)) (f476 : (Nat → Int32)) (f478 : (Nat → Int32)) (lx519 : Int32) : Int32 × Int32 × Int32 × Int32 × Int32 × Int32 × Int32 × Int32 × Int32 × Int32 × (Nat → Int32) × (Nat → Int32) × (Nat → Int32) × (Nat → Int32) × Int32 × Int32 × Int32 × Int64 × Int32 × Int32 × Int32 × Int32 × Int32 × Int32 × Int32 × (Nat → Int32) × (Nat → Int32) × (Nat → Int32) × (Nat → Int32) × (Nat → Int32) × (Nat → Int32) × Int32 × Int32 × Int32 × Int32 × Int32 × Int32 × Int32 × Int64 × Int32 × Int32 × Int64 × Int64 × Int32 × Int32 × (Nat → Int32) × (Nat → Int32) × (Nat → Int32) × (Nat → Int64) := if y459 = (0 : Int32) then (((1 : Int32), lx519, (0 : Int32), t1_0, t1_1, t1_2, t1_3, t1_4, t1_5, t1_6, t2_0, t3_0, t4_0, t5_0, y459, y460, y461, y462, y463, y464, y465, y466, y467, y468, y469, f436, f470, f472, f474, f476, f478, t13_0, t13_1, t13_2, t13_3, t13_4, t13_5, t13_6, t13_7, t13_8, t13_9, t13_10, t13_11, t13_12, t13_13, t14_0, t15_0, t16_0, t18_0)) else (((0 : Int32), lx519, t0_1, t1_0, t1_1, t1_2, t1_3, t1_4, t1_5, t1_6, t2_0, t3_0, t4_0, t5_0, y459, y460, y461, y462, y463, y464, y465, y466, y467, y468, y469, f436, f470, f472, f474, f476, f478, t13_0, t13_1, t13_2, t13_3, t13_4, t13_5, t13_6, t13_7, t13_8, t13_9, t13_10, t13_11, t13_12, t13_13, t14_0, t15_0, t16_0, t18_0))
def F_NM_read_c148 (x2 : Int32) (x3 : Int32) (x4 : Int32) (t0_0 : Int32) (t0_1 : Int32) (t0_2 : Int32) (t1_0 : Int32) (t1_1 : Int32) (t1_2 : Int32) (t1_3 : Int32) (t1_4 : Int32) (t1_5 : Int32) (t1_6 : Int32) (t2_0 : (Nat → Int32)) (t3_0 : (Nat → Int32)) (t4_0 : (Nat → Int32)) (t5_0 : (Nat → Int32)) (t6_0 : Int32) (t6_1 : Int32) (t6_2 : Int32) (t6_3 : Int64) (t6_4 : Int32) (t6_5 : Int32) (t6_6 : Int32) (t6_7 : Int32) (t6_8 : Int32) (t6_9 : Int32) (t6_10 : Int32) (t7_0 : (Nat → Int32)) (t8_0 : (Nat → Int32)) (t9_0 : (Nat → Int32)) (t10_0 : (Nat → Int32)) (t11_0 : (Nat → Int32)) (t12_0 : (Nat → Int32)) (t13_0 : Int32) (t13_1 : Int32) (t13_2 : Int32) (t13_3 : Int32) (t13_4 : Int32) (t13_5 : Int32) (t13_6 : Int32) (t13_7 : Int64) (t13_8 : Int32) (t13_9 : Int32) (t13_10 : Int64) (t13_11 : Int64) (t13_12 : Int32) (t13_13 : Int32) (t14_0 : (Nat → Int32)) (t15_0 : (Nat → Int32)) (t16_0 : (Nat → Int32)) (t17_0 : (Nat → Int32)) (t18_0 : (Nat → Int64)) (lx105 : Int32) (lx133 : Int32) (p444 : (Int32 × (Nat → Int32))) (f436 : (Nat → Int32)) (p496 : (Int32 × Int32 × Int32 × Int64 × Int32 × Int32 × Int32 × Int32 × Int32 × Int32 × Int32 × (Nat → Int32) × (Nat → Int32) × (Nat → Int32) × (Nat → Int32) × (Nat → Int32))) : Int32 × Int32 × Int32 × Int32 × Int32 × Int32 × Int32 × Int32 × Int32 × Int32 × (Nat → Int32) × (Nat → Int32) × (Nat → Int32) × (Nat → Int32) × Int32 × Int32 × Int32 × Int64 × Int32 × Int32 × Int32 × Int32 × Int32 × Int32 × Int32 × (Nat → Int32) × (Nat → Int32) × (Nat → Int32) × (Nat → Int32) × (Nat → Int32) × (Nat → Int32) × Int32 × Int32 × Int32 × Int32 × Int32 × Int32 × Int32 × Int64 × Int32 × Int32 × Int64 × Int64 × Int32 × Int32 × (Nat → Int32) × (Nat → Int32) × (Nat → Int32) × (Nat → Int64) := if (p496.1 : Int32) = (3 : Int32) then (F_NM_read_J260 x2 x3 x4 t0_0 t0_1 t0_2 t1_0 t1_1 t1_2 t1_3 t1_4 t1_5 t1_6 t2_0 t3_0 t4_0 t5_0 t6_0 t6_1 t6_2 t6_3 t6_4 t6_5 t6_6 t6_7 t6_8 t6_9 t6_10 t7_0 t8_0 t9_0 t10_0 t11_0 t12_0 t13_0 t13_1 t13_2 t13_3 t13_4 t13_5 t13_6 t13_7 t13_8 t13_9 t13_10 t13_11 t13_12 t13_13 t14_0 t15_0 t16_0 t17_0 t18_0 lx105 lx133 p444 f436 p496 (p496.1 : Int32) (p496.2.1 : Int32) (p496.2.2.1 : Int32) (p496.2.2.2.1 : Int64) (p496.2.2.2.2.1 : Int32) (p496.2.2.2.2.2.1 : Int32) (p496.2.2.2.2.2.2.1 : Int32) (p496.2.2.2.2.2.2.2.1 : Int32) (p496.2.2.2.2.2.2.2.2.1 : Int32) (p496.2.2.2.2.2.2.2.2.2.1 : Int32) (p496.2.2.2.2.2.2.2.2.2.2.1 : Int32) (p496.2.2.2.2.2.2.2.2.2.2.2.1 : (Nat → Int32)) (p496.2.2.2.2.2.2.2.2.2.2.2.2.1 : (Nat → Int32)) (p496.2.2.2.2.2.2.2.2.2.2.2.2.2.1 : (Nat → Int32)) (p496.2.2.2.2.2.2.2.2.2.2.2.2.2.2.1 : (Nat → Int32)) (p496.2.2.2.2.2.2.2.2.2.2.2.2.2.2.2 : (Nat → Int32)) 2) else (F_NM_read_J260 x2 x3 x4 t0_0 t0_1 t0_2 t1_0 t1_1 t1_2 t1_3 t1_4 t1_5 t1_6 t2_0 t3_0 t4_0 t5_0 t6_0 t6_1 t6_2 t6_3 t6_4 t6_5 t6_6 t6_7 t6_8 t6_9 t6_10 t7_0 t8_0 t9_0 t10_0 t11_0 t12_0 t13_0 t13_1 t13_2 t13_3 t13_4 t13_5 t13_6 t13_7 t13_8 t13_9 t13_10 t13_11 t13_12 t13_13 t14_0 t15_0 t16_0 t17_0 t18_0 lx105 lx133 p444 f436 p496 (p496.1 : Int32) (p496.2.1 : Int32) (p496.2.2.1 : Int32) (p496.2.2.2.1 : Int64) (p496.2.2.2.2.1 : Int32) (p496.2.2.2.2.2.1 : Int32) (p496.2.2.2.2.2.2.1 : Int32) (p496.2.2.2.2.2.2.2.1 : Int32) (p496.2.2.2.2.2.2.2.2.1 : Int32) (p496.2.2.2.2.2.2.2.2.2.1 : Int32) (p496.2.2.2.2.2.2.2.2.2.2.1 : Int32) (p496.2.2.2.2.2.2.2.2.2.2.2.1 : (Nat → Int32)) (p496.2.2.2.2.2.2.2.2.2.2.2.2.1 : (Nat → Int32)) (p496.2.2.2.2.2.2.2.2.2.2.2.2.2.1 : (Nat → Int32)) (p496.2.2.2.2.2.2.2.2.2.2.2.2.2.2.1 : (Nat → Int32)) (p496.2.2.2.2.2.2.2.2.2.2.2.2.2.2.2 : (Nat → Int32)) 0)
def F_NM_read_c137 (x2 : Int32) (x3 : Int32) (x4 : Int32) (t0_0 : Int32) (t0_1 : Int32) (t0_2 : Int32) (t1_0 : Int32) (t1_1 : Int32) (t1_2 : Int32) (t1_3 : Int32) (t1_4 : Int32) (t1_5 : Int32) (t1_6 : Int32) (t2_0 : (Nat → Int32)) (t3_0 : (Nat → Int32)) (t4_0 : (Nat → Int32)) (t5_0 : (Nat → Int32)) (t6_0 : Int32) (t6_1 : Int32) (t6_2 : Int32) (t6_3 : Int64) (t6_4 : Int32) (t6_5 : Int32) (t6_6 : Int32) (t6_7 : Int32) (t6_8 : Int32) (t6_9 : Int32) (t6_10 : Int32) (t7_0 : (Nat → Int32)) (t8_0 : (Nat → Int32)) (t9_0 : (Nat → Int32)) (t10_0 : (Nat → Int32)) (t11_0 : (Nat → Int32)) (t12_0 : (Nat → Int32)) (t13_0 : Int32) (t13_1 : Int32) (t13_2 : Int32) (t13_3 : Int32) (t13_4 : Int32) (t13_5 : Int32) (t13_6 : Int32) (t13_7 : Int64) (t13_8 : Int32) (t13_9 : Int32) (t13_10 : Int64) (t13_11 : Int64) (t13_12 : Int32) (t13_13 : Int32) (t14_0 : (Nat → Int32)) (t15_0 : (Nat → Int32)) (t16_0 : (Nat → Int32)) (t17_0 : (Nat → Int32)) (t18_0 : (Nat → Int64)) (lx105 : Int32) (lx133 : Int32) (p444 : (Int32 × (Nat → Int32))) : Int32 × Int32 × Int32 × Int32 × Int32 × Int32 × Int32 × Int32 × Int32 × Int32 × (Nat → Int32) × (Nat → Int32) × (Nat → Int32) × (Nat → Int32) × Int32 × Int32 × Int32 × Int64 × Int32 × Int32 × Int32 × Int32 × Int32 × Int32 × Int32 × (Nat → Int32) × (Nat → Int32) × (Nat → Int32) × (Nat → Int32) × (Nat → Int32) × (Nat → Int32) × Int32 × Int32 × Int32 × Int32 × Int32 × Int32 × Int32 × Int64 × Int32 × Int32 × Int64 × Int64 × Int32 × Int32 × (Nat → Int32) × (Nat → Int32) × (Nat → Int32) × (Nat → Int64) := F_NM_read_c148 x2 x3 x4 t0_0 t0_1 t0_2 t1_0 t1_1 t1_2 t1_3 t1_4 t1_5 t1_6 t2_0 t3_0 t4_0 t5_0 t6_0 t6_1 t6_2 t6_3 t6_4 t6_5 t6_6 t6_7 t6_8 t6_9 t6_10 t7_0 t8_0 t9_0 t10_0 t11_0 t12_0 t13_0 t13_1 t13_2 t13_3 t13_4 t13_5 t13_6 t13_7 t13_8 t13_9 t13_10 t13_11 t13_12 t13_13 t14_0 t15_0 t16_0 t17_0 t18_0 lx105 lx133 p444 (p444.2 : (Nat → Int32)) ((F_DR_read x3 t6_0 (p444.1 : Int32) t6_2 t6_3 t6_4 t6_5 t6_6 t6_7 t6_8 t6_9 t6_10 (p444.2 : (Nat → Int32)) t8_0 t9_0 t10_0 t11_0 t12_0) : (Int32 × Int32 × Int32 × Int64 × Int32 × Int32 × Int32 × Int32 × Int32 × Int32 × Int32 × (Nat → Int32) × (Nat → Int32) × (Nat → Int32) × (Nat → Int32) × (Nat → Int32)))
def F_NM_read_J260_13 (x2 : Int32) (x3 : Int32) (x4 : Int32) (t0_0 : Int32) (t0_1 : Int32) (t0_2 : Int32) (t1_0 : Int32) (t1_1 : Int32) (t1_2 : Int32) (t1_3 : Int32) (t1_4 : Int32) (t1_5 : Int32) (t1_6 : Int32) (t2_0 : (Nat → Int32)) (t3_0 : (Nat → Int32)) (t4_0 : (Nat → Int32)) (t5_0 : (Nat → Int32)) (t6_0 : Int32) (t6_1 : Int32) (t6_2 : Int32) (t6_3 : Int64) (t6_4 : Int32) (t6_5 : Int32) (t6_6 : Int32) (t6_7 : Int32) (t6_8 : Int32) (t6_9 : Int32) (t6_10 : Int32) (t7_0 : (Nat → Int32)) (t8_0 : (Nat → Int32)) (t9_0 : (Nat → Int32)) (t10_0 : (Nat → Int32)) (t11_0 : (Nat → Int32)) (t12_0 : (Nat → Int32)) (t13_0 : Int32) (t13_1 : Int32) (t13_2 : Int32) (t13_3 : Int32) (t13_4 : Int32) (t13_5 : Int32) (t13_6 : Int32) (t13_7 : Int64) (t13_8 : Int32) (t13_9 : Int32) (t13_10 : Int64) (t13_11 : Int64) (t13_12 : Int32) (t13_13 : Int32) (t14_0 : (Nat → Int32)) (t15_0 : (Nat → Int32)) (t16_0 : (Nat → Int32)) (t17_0 : (Nat → Int32)) (t18_0 : (Nat → Int64)) (lx105 : Int32) (lx133 : Int32) (p574 : (Int32 × (Nat → Int32))) (f566 : (Nat → Int32)) (p616 : (Int32 × Int32 × Int32 × Int32 × Int32 × Int32 × Int32 × (Nat → Int32) × (Nat → Int32) × (Nat → Int32))) (y589 : Int32) (y590 : Int32) (y591 : Int32) (y592 : Int32) (y593 : Int32) (y594 : Int32) (y595 : Int32) (f596 : (Nat → Int32)) (f598 : (Nat → Int32)) (f600 : (Nat → Int32)) (lx633 : Int32) : Int32 × Int32 × Int32 × Int32 × Int32 × Int32 × Int32 × Int32 × Int32 × Int32 × (Nat → Int32) × (Nat → Int32) × (Nat → Int32) × (Nat → Int32) × Int32 × Int32 × Int32 × Int64 × Int32 × Int32 × Int32 × Int32 × Int32 × Int32 × Int32 × (Nat → Int32) × (Nat → Int32) × (Nat → Int32) × (Nat → Int32) × (Nat → Int32) × (Nat → Int32) × Int32 × Int32 × Int32 × Int32 × Int32 × Int32 × Int32 × Int64 × Int32 × Int32 × Int64 × Int64 × Int32 × Int32 × (Nat → Int32) × (Nat → Int32) × (Nat → Int32) × (Nat → Int64) := if y589 = (0 : Int32) then (((1 : Int32), lx633, (0 : Int32), y589, y590, y591, y592, y593, y594, y595, f566, f596, f598, f600, t6_0, t6_1, t6_2, t6_3, t6_4, t6_5, t6_6, t6_7, t6_8, t6_9, t6_10, t7_0, t8_0, t9_0, t10_0, t11_0, t12_0, t13_0, t13_1, t13_2, t13_3, t13_4, t13_5, t13_6, t13_7, t13_8, t13_9, t13_10, t13_11, t13_12, t13_13, t14_0, t15_0, t16_0, t18_0)) else (((0 : Int32), lx633, t0_1, y589, y590, y591, y592, y593, y594, y595, f566, f596, f598, f600, t6_0, t6_1, t6_2, t6_3, t6_4, t6_5, t6_6, t6_7, t6_8, t6_9, t6_10, t7_0, t8_0, t9_0, t10_0, t11_0, t12_0, t13_0, t13_1, t13_2, t13_3, t13_4, t13_5, t13_6, t13_7, t13_8, t13_9, t13_10, t13_11, t13_12, t13_13, t14_0, t15_0, t16_0, t18_0))
def F_NM_read_c98 (x2 : Int32) (x3 : Int32) (x4 : Int32) (t0_0 : Int32) (t0_1 : Int32) (t0_2 : Int32) (t1_0 : Int32) (t1_1 : Int32) (t1_2 : Int32) (t1_3 : Int32) (t1_4 : Int32) (t1_5 : Int32) (t1_6 : Int32) (t2_0 : (Nat → Int32)) (t3_0 : (Nat → Int32)) (t4_0 : (Nat → Int32)) (t5_0 : (Nat → Int32)) (t6_0 : Int32) (t6_1 : Int32) (t6_2 : Int32) (t6_3 : Int64) (t6_4 : Int32) (t6_5 : Int32) (t6_6 : Int32) (t6_7 : Int32) (t6_8 : Int32) (t6_9 : Int32) (t6_10 : Int32) (t7_0 : (Nat → Int32)) (t8_0 : (Nat → Int32)) (t9_0 : (Nat → Int32)) (t10_0 : (Nat → Int32)) (t11_0 : (Nat → Int32)) (t12_0 : (Nat → Int32)) (t13_0 : Int32) (t13_1 : Int32) (t13_2 : Int32) (t13_3 : Int32) (t13_4 : Int32) (t13_5 : Int32) (t13_6 : Int32) (t13_7 : Int64) (t13_8 : Int32) (t13_9 : Int32) (t13_10 : Int64) (t13_11 : Int64) (t13_12 : Int32) (t13_13 : Int32) (t14_0 : (Nat → Int32)) (t15_0 : (Nat → Int32)) (t16_0 : (Nat → Int32)) (t17_0 : (Nat → Int32)) (t18_0 : (Nat → Int64)) (lx105 : Int32) (lx133 : Int32) (p574 : (Int32 × (Nat → Int32))) (f566 : (Nat → Int32)) (p616 : (Int32 × Int32 × Int32 × Int32 × Int32 × Int32 × Int32 × (Nat → Int32) × (Nat → Int32) × (Nat → Int32))) : Int32 × Int32 × Int32 × Int32 × Int32 × Int32 × Int32 × Int32 × Int32 × Int32 × (Nat → Int32) × (Nat → Int32) × (Nat → Int32) × (Nat → Int32) × Int32 × Int32 × Int32 × Int64 × Int32 × Int32 × Int32 × Int32 × Int32 × Int32 × Int32 × (Nat → Int32) × (Nat → Int32) × (Nat → Int32) × (Nat → Int32) × (Nat → Int32) × (Nat → Int32) × Int32 × Int32 × Int32 × Int32 × Int32 × Int32 × Int32 × Int64 × Int32 × Int32 × Int64 × Int64 × Int32 × Int32 × (Nat → Int32) × (Nat → Int32) × (Nat → Int32) × (Nat → Int64) := if (p616.1 : Int32) = (3 : Int32) then (F_NM_read_J260_13 x2 x3 x4 t0_0 t0_1 t0_2 t1_0 t1_1 t1_2 t1_3 t1_4 t1_5 t1_6 t2_0 t3_0 t4_0 t5_0 t6_0 t6_1 t6_2 t6_3 t6_4 t6_5 t6_6 t6_7 t6_8 t6_9 t6_10 t7_0 t8_0 t9_0 t10_0 t11_0 t12_0 t13_0 t13_1 t13_2 t13_3 t13_4 t13_5 t13_6 t13_7 t13_8 t13_9 t13_10 t13_11 t13_12 t13_13 t14_0 t15_0 t16_0 t17_0 t18_0 lx105 lx133 p574 f566 p616 (p616.1 : Int32) (p616.2.1 : Int32) (p616.2.2.1 : Int32) (p616.2.2.2.1 : Int32) (p616.2.2.2.2.1 : Int32) (p616.2.2.2.2.2.1 : Int32) (p616.2.2.2.2.2.2.1 : Int32) (p616.2.2.2.2.2.2.2.1 : (Nat → Int32)) (p616.2.2.2.2.2.2.2.2.1 : (Nat → Int32)) (p616.2.2.2.2.2.2.2.2.2 : (Nat → Int32)) 2) else (F_NM_read_J260_13 x2 x3 x4 t0_0 t0_1 t0_2 t1_0 t1_1 t1_2 t1_3 t1_4 t1_5 t1_6 t2_0 t3_0 t4_0 t5_0 t6_0 t6_1 t6_2 t6_3 t6_4 t6_5 t6_6 t6_7 t6_8 t6_9 t6_10 t7_0 t8_0 t9_0 t10_0 t11_0 t12_0 t13_0 t13_1 t13_2 t13_3 t13_4 t13_5 t13_6 t13_7 t13_8 t13_9 t13_10 t13_11 t13_12 t13_13 t14_0 t15_0 t16_0 t17_0 t18_0 lx105 lx133 p574 f566 p616 (p616.1 : Int32) (p616.2.1 : Int32) (p616.2.2.1 : Int32) (p616.2.2.2.1 : Int32) (p616.2.2.2.2.1 : Int32) (p616.2.2.2.2.2.1 : Int32) (p616.2.2.2.2.2.2.1 : Int32) (p616.2.2.2.2.2.2.2.1 : (Nat → Int32)) (p616.2.2.2.2.2.2.2.2.1 : (Nat → Int32)) (p616.2.2.2.2.2.2.2.2.2 : (Nat → Int32)) 0)
def F_NM_read_c86 (x2 : Int32) (x3 : Int32) (x4 : Int32) (t0_0 : Int32) (t0_1 : Int32) (t0_2 : Int32) (t1_0 : Int32) (t1_1 : Int32) (t1_2 : Int32) (t1_3 : Int32) (t1_4 : Int32) (t1_5 : Int32) (t1_6 : Int32) (t2_0 : (Nat → Int32)) (t3_0 : (Nat → Int32)) (t4_0 : (Nat → Int32)) (t5_0 : (Nat → Int32)) (t6_0 : Int32) (t6_1 : Int32) (t6_2 : Int32) (t6_3 : Int64) (t6_4 : Int32) (t6_5 : Int32) (t6_6 : Int32) (t6_7 : Int32) (t6_8 : Int32) (t6_9 : Int32) (t6_10 : Int32) (t7_0 : (Nat → Int32)) (t8_0 : (Nat → Int32)) (t9_0 : (Nat → Int32)) (t10_0 : (Nat → Int32)) (t11_0 : (Nat → Int32)) (t12_0 : (Nat → Int32)) (t13_0 : Int32) (t13_1 : Int32) (t13_2 : Int32) (t13_3 : Int32) (t13_4 : Int32) (t13_5 : Int32) (t13_6 : Int32) (t13_7 : Int64) (t13_8 : Int32) (t13_9 : Int32) (t13_10 : Int64) (t13_11 : Int64) (t13_12 : Int32) (t13_13 : Int32) (t14_0 : (Nat → Int32)) (t15_0 : (Nat → Int32)) (t16_0 : (Nat → Int32)) (t17_0 : (Nat → Int32)) (t18_0 : (Nat → Int64)) (lx105 : Int32) (lx133 : Int32) (p574 : (Int32 × (Nat → Int32))) : Int32 × Int32 × Int32 × Int32 × Int32 × Int32 × Int32 × Int32 × Int32 × Int32 × (Nat → Int32) × (Nat → Int32) × (Nat → Int32) × (Nat → Int32) × Int32 × Int32 × Int32 × Int64 × Int32 × Int32 × Int32 × Int32 × Int32 × Int32 × Int32 × (Nat → Int32) × (Nat → Int32) × (Nat → Int32) × (Nat → Int32) × (Nat → Int32) × (Nat → Int32) × Int32 × Int32 × Int32 × Int32 × Int32 × Int32 × Int32 × Int64 × Int32 × Int32 × Int64 × Int64 × Int32 × Int32 × (Nat → Int32) × (Nat → Int32) × (Nat → Int32) × (Nat → Int64) := F_NM_read_c98 x2 x3 x4 t0_0 t0_1 t0_2 t1_0 t1_1 t1_2 t1_3 t1_4 t1_5 t1_6 t2_0 t3_0 t4_0 t5_0 t6_0 t6_1 t6_2 t6_3 t6_4 t6_5 t6_6 t6_7 t6_8 t6_9 t6_10 t7_0 t8_0 t9_0 t10_0 t11_0 t12_0 t13_0 t13_1 t13_2 t13_3 t13_4 t13_5 t13_6 t13_7 t13_8 t13_9 t13_10 t13_11 t13_12 t13_13 t14_0 t15_0 t16_0 t17_0 t18_0 lx105 lx133 p574 (p574.2 : (Nat → Int32)) ((F_WR_read x3 x4 t1_0 t1_1 (p574.1 : Int32) t1_3 t1_4 t1_5 t1_6 (p574.2 : (Nat → Int32)) t3_0 t4_0 t5_0) : (Int32 × Int32 × Int32 × Int32 × Int32 × Int32 × Int32 × (Nat → Int32) × (Nat → Int32) × (Nat → Int32)))
def F_NM_read_J50 (x2 : Int32) (x3 : Int32) (x4 : Int32) (t0_0 : Int32) (t0_1 : Int32) (t0_2 : Int32) (t1_0 : Int32) (t1_1 : Int32) (t1_2 : Int32) (t1_3 : Int32) (t1_4 : Int32) (t1_5 : Int32) (t1_6 : Int32) (t2_0 : (Nat → Int32)) (t3_0 : (Nat → Int32)) (t4_0 : (Nat → Int32)) (t5_0 : (Nat → Int32)) (t6_0 : Int32) (t6_1 : Int32) (t6_2 : Int32) (t6_3 : Int64) (t6_4 : Int32) (t6_5 : Int32) (t6_6 : Int32) (t6_7 : Int32) (t6_8 : Int32) (t6_9 : Int32) (t6_10 : Int32) (t7_0 : (Nat → Int32)) (t8_0 : (Nat → Int32)) (t9_0 : (Nat → Int32)) (t10_0 : (Nat → Int32)) (t11_0 : (Nat → Int32)) (t12_0 : (Nat → Int32)) (t13_0 : Int32) (t13_1 : Int32) (t13_2 : Int32) (t13_3 : Int32) (t13_4 : Int32) (t13_5 : Int32) (t13_6 : Int32) (t13_7 : Int64) (t13_8 : Int32) (t13_9 : Int32) (t13_10 : Int64) (t13_11 : Int64) (t13_12 : Int32) (t13_13 : Int32) (t14_0 : (Nat → Int32)) (t15_0 : (Nat → Int32)) (t16_0 : (Nat → Int32)) (t17_0 : (Nat → Int32)) (t18_0 : (Nat → Int64)) (lx105 : Int32) (lx133 : Int32) : Int32 × Int32 × Int32 × Int32 × Int32 × Int32 × Int32 × Int32 × Int32 × Int32 × (Nat → Int32) × (Nat → Int32) × (Nat → Int32) × (Nat → Int32) × Int32 × Int32 × Int32 × Int64 × Int32 × Int32 × Int32 × Int32 × Int32 × Int32 × Int32 × (Nat → Int32) × (Nat → Int32) × (Nat → Int32) × (Nat → Int32) × (Nat → Int32) × (Nat → Int32) × Int32 × Int32 × Int32 × Int32 × Int32 × Int32 × Int32 × Int64 × Int32 × Int32 × Int64 × Int64 × Int32 × Int32 × (Nat → Int32) × (Nat → Int32) × (Nat → Int32) × (Nat → Int64) := if lx105 = (0 : Int32) then (if x2 = (0 : Int32) then (F_NM_read_c86 x2 x3 x4 t0_0 t0_1 t0_2 t1_0 t1_1 t1_2 t1_3 t1_4 t1_5 t1_6 t2_0 t3_0 t4_0 t5_0 t6_0 t6_1 t6_2 t6_3 t6_4 t6_5 t6_6 t6_7 t6_8 t6_9 t6_10 t7_0 t8_0 t9_0 t10_0 t11_0 t12_0 t13_0 t13_1 t13_2 t13_3 t13_4 t13_5 t13_6 t13_7 t13_8 t13_9 t13_10 t13_11 t13_12 t13_13 t14_0 t15_0 t16_0 t17_0 t18_0 lx105 lx133 ((F_NM_load (4100 : Int32) t0_1 (4100 : Int32) t17_0 t2_0) : (Int32 × (Nat → Int32)))) else (if x2 = (1 : Int32) then (F_NM_read_c137 x2 x3 x4 t0_0 t0_1 t0_2 t1_0 t1_1 t1_2 t1_3 t1_4 t1_5 t1_6 t2_0 t3_0 t4_0 t5_0 t6_0 t6_1 t6_2 t6_3 t6_4 t6_5 t6_6 t6_7 t6_8 t6_9 t6_10 t7_0 t8_0 t9_0 t10_0 t11_0 t12_0 t13_0 t13_1 t13_2 t13_3 t13_4 t13_5 t13_6 t13_7 t13_8 t13_9 t13_10 t13_11 t13_12 t13_13 t14_0 t15_0 t16_0 t17_0 t18_0 lx105 lx133 ((F_NM_load (4100 : Int32) t0_1 (4100 : Int32) t17_0 t7_0) : (Int32 × (Nat → Int32)))) else (F_NM_read_c182 x2 x3 x4 t0_0 t0_1 t0_2 t1_0 t1_1 t1_2 t1_3 t1_4 t1_5 t1_6 t2_0 t3_0 t4_0 t5_0 t6_0 t6_1 t6_2 t6_3 t6_4 t6_5 t6_6 t6_7 t6_8 t6_9 t6_10 t7_0 t8_0 t9_0 t10_0 t11_0 t12_0 t13_0 t13_1 t13_2 t13_3 t13_4 t13_5 t13_6 t13_7 t13_8 t13_9 t13_10 t13_11 t13_12 t13_13 t14_0 t15_0 t16_0 t17_0 t18_0 lx105 lx133 ((F_NM_load (4100 : Int32) t0_1 (4100 : Int32) t17_0 t14_0) : (Int32 × (Nat → Int32)))))) else (((0 : Int32), lx133, t0_1, t1_0, t1_1, t1_2, t1_3, t1_4, t1_5, t1_6, t2_0, t3_0, t4_0, t5_0, t6_0, t6_1, t6_2, t6_3, t6_4, t6_5, t6_6, t6_7, t6_8, t6_9, t6_10, t7_0, t8_0, t9_0, t10_0, t11_0, t12_0, t13_0, t13_1, t13_2, t13_3, t13_4, t13_5, t13_6, t13_7, t13_8, t13_9, t13_10, t13_11, t13_12, t13_13, t14_0, t15_0, t16_0, t18_0))
def F_NM_read_J37 (x2 : Int32) (x3 : Int32) (x4 : Int32) (t0_0 : Int32) (t0_1 : Int32) (t0_2 : Int32) (t1_0 : Int32) (t1_1 : Int32) (t1_2 : Int32) (t1_3 : Int32) (t1_4 : Int32) (t1_5 : Int32) (t1_6 : Int32) (t2_0 : (Nat → Int32)) (t3_0 : (Nat → Int32)) (t4_0 : (Nat → Int32)) (t5_0 : (Nat → Int32)) (t6_0 : Int32) (t6_1 : Int32) (t6_2 : Int32) (t6_3 : Int64) (t6_4 : Int32) (t6_5 : Int32) (t6_6 : Int32) (t6_7 : Int32) (t6_8 : Int32) (t6_9 : Int32) (t6_10 : Int32) (t7_0 : (Nat → Int32)) (t8_0 : (Nat → Int32)) (t9_0 : (Nat → Int32)) (t10_0 : (Nat → Int32)) (t11_0 : (Nat → Int32)) (t12_0 : (Nat → Int32)) (t13_0 : Int32) (t13_1 : Int32) (t13_2 : Int32) (t13_3 : Int32) (t13_4 : Int32) (t13_5 : Int32) (t13_6 : Int32) (t13_7 : Int64) (t13_8 : Int32) (t13_9 : Int32) (t13_10 : Int64) (t13_11 : Int64) (t13_12 : Int32) (t13_13 : Int32) (t14_0 : (Nat → Int32)) (t15_0 : (Nat → Int32)) (t16_0 : (Nat → Int32)) (t17_0 : (Nat → Int32)) (t18_0 : (Nat → Int64)) (lx105 : Int32) : Int32 × Int32 × Int32 × Int32 × Int32 × Int32 × Int32 × Int32 × Int32 × Int32 × (Nat → Int32) × (Nat → Int32) × (Nat → Int32) × (Nat → Int32) × Int32 × Int32 × Int32 × Int64 × Int32 × Int32 × Int32 × Int32 × Int32 × Int32 × Int32 × (Nat → Int32) × (Nat → Int32) × (Nat → Int32) × (Nat → Int32) × (Nat → Int32) × (Nat → Int32) × Int32 × Int32 × Int32 × Int32 × Int32 × Int32 × Int32 × Int64 × Int32 × Int32 × Int64 × Int64 × Int32 × Int32 × (Nat → Int32) × (Nat → Int32) × (Nat → Int32) × (Nat → Int64) := if lx105 = (0 : Int32) then (F_NM_read_J50 x2 x3 x4 t0_0 t0_1 t0_2 t1_0 t1_1 t1_2 t1_3 t1_4 t1_5 t1_6 t2_0 t3_0 t4_0 t5_0 t6_0 t6_1 t6_2 t6_3 t6_4 t6_5 t6_6 t6_7 t6_8 t6_9 t6_10 t7_0 t8_0 t9_0 t10_0 t11_0 t12_0 t13_0 t13_1 t13_2 t13_3 t13_4 t13_5 t13_6 t13_7 t13_8 t13_9 t13_10 t13_11 t13_12 t13_13 t14_0 t15_0 t16_0 t17_0 t18_0 lx105 0) else (F_NM_read_J50 x2 x3 x4 t0_0 t0_1 t0_2 t1_0 t1_1 t1_2 t1_3 t1_4 t1_5 t1_6 t2_0 t3_0 t4_0 t5_0 t6_0 t6_1 t6_2 t6_3 t6_4 t6_5 t6_6 t6_7 t6_8 t6_9 t6_10 t7_0 t8_0 t9_0 t10_0 t11_0 t12_0 t13_0 t13_1 t13_2 t13_3 t13_4 t13_5 t13_6 t13_7 t13_8 t13_9 t13_10 t13_11 t13_12 t13_13 t14_0 t15_0 t16_0 t17_0 t18_0 lx105 1)
def F_NM_read_J32 (x2 : Int32) (x3 : Int32) (x4 : Int32) (t0_0 : Int32) (t0_1 : Int32) (t0_2 : Int32) (t1_0 : Int32) (t1_1 : Int32) (t1_2 : Int32) (t1_3 : Int32) (t1_4 : Int32) (t1_5 : Int32) (t1_6 : Int32) (t2_0 : (Nat → Int32)) (t3_0 : (Nat → Int32)) (t4_0 : (Nat → Int32)) (t5_0 : (Nat → Int32)) (t6_0 : Int32) (t6_1 : Int32) (t6_2 : Int32) (t6_3 : Int64) (t6_4 : Int32) (t6_5 : Int32) (t6_6 : Int32) (t6_7 : Int32) (t6_8 : Int32) (t6_9 : Int32) (t6_10 : Int32) (t7_0 : (Nat → Int32)) (t8_0 : (Nat → Int32)) (t9_0 : (Nat → Int32)) (t10_0 : (Nat → Int32)) (t11_0 : (Nat → Int32)) (t12_0 : (Nat → Int32)) (t13_0 : Int32) (t13_1 : Int32) (t13_2 : Int32) (t13_3 : Int32) (t13_4 : Int32) (t13_5 : Int32) (t13_6 : Int32) (t13_7 : Int64) (t13_8 : Int32) (t13_9 : Int32) (t13_10 : Int64) (t13_11 : Int64) (t13_12 : Int32) (t13_13 : Int32) (t14_0 : (Nat → Int32)) (t15_0 : (Nat → Int32)) (t16_0 : (Nat → Int32)) (t17_0 : (Nat → Int32)) (t18_0 : (Nat → Int64)) : Int32 × Int32 × Int32 × Int32 × Int32 × Int32 × Int32 × Int32 × Int32 × Int32 × (Nat → Int32) × (Nat → Int32) × (Nat → Int32) × (Nat → Int32) × Int32 × Int32 × Int32 × Int64 × Int32 × Int32 × Int32 × Int32 × Int32 × Int32 × Int32 × (Nat → Int32) × (Nat → Int32) × (Nat → Int32) × (Nat → Int32) × (Nat → Int32) × (Nat → Int32) × Int32 × Int32 × Int32 × Int32 × Int32 × Int32 × Int32 × Int64 × Int32 × Int32 × Int64 × Int64 × Int32 × Int32 × (Nat → Int32) × (Nat → Int32) × (Nat → Int32) × (Nat → Int64) := F_NM_read_J37 x2 x3 x4 t0_0 t0_1 t0_2 t1_0 t1_1 t1_2 t1_3 t1_4 t1_5 t1_6 t2_0 t3_0 t4_0 t5_0 t6_0 t6_1 t6_2 t6_3 t6_4 t6_5 t6_6 t6_7 t6_8 t6_9 t6_10 t7_0 t8_0 t9_0 t10_0 t11_0 t12_0 t13_0 t13_1 t13_2 t13_3 t13_4 t13_5 t13_6 t13_7 t13_8 t13_9 t13_10 t13_11 t13_12 t13_13 t14_0 t15_0 t16_0 t17_0 t18_0 1
def F_NM_read_J36 (x2 : Int32) (x3 : Int32) (x4 : Int32) (t0_0 : Int32) (t0_1 : Int32) (t0_2 : Int32) (t1_0 : Int32) (t1_1 : Int32) (t1_2 : Int32) (t1_3 : Int32) (t1_4 : Int32) (t1_5 : Int32) (t1_6 : Int32) (t2_0 : (Nat → Int32)) (t3_0 : (Nat → Int32)) (t4_0 : (Nat → Int32)) (t5_0 : (Nat → Int32)) (t6_0 : Int32) (t6_1 : Int32) (t6_2 : Int32) (t6_3 : Int64) (t6_4 : Int32) (t6_5 : Int32) (t6_6 : Int32) (t6_7 : Int32) (t6_8 : Int32) (t6_9 : Int32) (t6_10 : Int32) (t7_0 : (Nat → Int32)) (t8_0 : (Nat → Int32)) (t9_0 : (Nat → Int32)) (t10_0 : (Nat → Int32)) (t11_0 : (Nat → Int32)) (t12_0 : (Nat → Int32)) (t13_0 : Int32) (t13_1 : Int32) (t13_2 : Int32) (t13_3 : Int32) (t13_4 : Int32) (t13_5 : Int32) (t13_6 : Int32) (t13_7 : Int64) (t13_8 : Int32) (t13_9 : Int32) (t13_10 : Int64) (t13_11 : Int64) (t13_12 : Int32) (t13_13 : Int32) (t14_0 : (Nat → Int32)) (t15_0 : (Nat → Int32)) (t16_0 : (Nat → Int32)) (t17_0 : (Nat → Int32)) (t18_0 : (Nat → Int64)) : Int32 × Int32 × Int32 × Int32 × Int32 × Int32 × Int32 × Int32 × Int32 × Int32 × (Nat → Int32) × (Nat → Int32) × (Nat → Int32) × (Nat → Int32) × Int32 × Int32 × Int32 × Int64 × Int32 × Int32 × Int32 × Int32 × Int32 × Int32 × Int32 × (Nat → Int32) × (Nat → Int32) × (Nat → Int32) × (Nat → Int32) × (Nat → Int32) × (Nat → Int32) × Int32 × Int32 × Int32 × Int32 × Int32 × Int32 × Int32 × Int64 × Int32 × Int32 × Int64 × Int64 × Int32 × Int32 × (Nat → Int32) × (Nat → Int32) × (Nat → Int32) × (Nat → Int64) := F_NM_read_J37 x2 x3 x4 t0_0 t0_1 t0_2 t1_0 t1_1 t1_2 t1_3 t1_4 t1_5 t1_6 t2_0 t3_0 t4_0 t5_0 t6_0 t6_1 t6_2 t6_3 t6_4 t6_5 t6_6 t6_7 t6_8 t6_9 t6_10 t7_0 t8_0 t9_0 t10_0 t11_0 t12_0 t13_0 t13_1 t13_2 t13_3 t13_4 t13_5 t13_6 t13_7 t13_8 t13_9 t13_10 t13_11 t13_12 t13_13 t14_0 t15_0 t16_0 t17_0 t18_0 0
def F_NM_read (x2 : Int32) (x3 : Int32) (x4 : Int32) (t0_0 : Int32) (t0_1 : Int32) (t0_2 : Int32) (t1_0 : Int32) (t1_1 : Int32) (t1_2 : Int32) (t1_3 : Int32) (t1_4 : Int32) (t1_5 : Int32) (t1_6 : Int32) (t2_0 : (Nat → Int32)) (t3_0 : (Nat → Int32)) (t4_0 : (Nat → Int32)) (t5_0 : (Nat → Int32)) (t6_0 : Int32) (t6_1 : Int32) (t6_2 : Int32) (t6_3 : Int64) (t6_4 : Int32) (t6_5 : Int32) (t6_6 : Int32) (t6_7 : Int32) (t6_8 : Int32) (t6_9 : Int32) (t6_10 : Int32) (t7_0 : (Nat → Int32)) (t8_0 : (Nat → Int32)) (t9_0 : (Nat → Int32)) (t10_0 : (Nat → Int32)) (t11_0 : (Nat → Int32)) (t12_0 : (Nat → Int32)) (t13_0 : Int32) (t13_1 : Int32) (t13_2 : Int32) (t13_3 : Int32) (t13_4 : Int32) (t13_5 : Int32) (t13_6 : Int32) (t13_7 : Int64) (t13_8 : Int32) (t13_9 : Int32) (t13_10 : Int64) (t13_11 : Int64) (t13_12 : Int32) (t13_13 : Int32) (t14_0 : (Nat → Int32)) (t15_0 : (Nat → Int32)) (t16_0 : (Nat → Int32)) (t17_0 : (Nat → Int32)) (t18_0 : (Nat → Int64)) : Int32 × Int32 × Int32 × Int32 × Int32 × Int32 × Int32 × Int32 × Int32 × Int32 × (Nat → Int32) × (Nat → Int32) × (Nat → Int32) × (Nat → Int32) × Int32 × Int32 × Int32 × Int64 × Int32 × Int32 × Int32 × Int32 × Int32 × Int32 × Int32 × (Nat → Int32) × (Nat → Int32) × (Nat → Int32) × (Nat → Int32) × (Nat → Int32) × (Nat → Int32) × Int32 × Int32 × Int32 × Int32 × Int32 × Int32 × Int32 × Int64 × Int32 × Int32 × Int64 × Int64 × Int32 × Int32 × (Nat → Int32) × (Nat → Int32) × (Nat → Int32) × (Nat → Int64) := if ((F_NM_no_IIZ x2 x3) : Int32) = (0 : Int32) then (if x2 = (0 : Int32) then (if x4 < (2 : Int32) then (F_NM_read_J32 x2 x3 x4 t0_0 t0_1 t0_2 t1_0 t1_1 t1_2 t1_3 t1_4 t1_5 t1_6 t2_0 t3_0 t4_0 t5_0 t6_0 t6_1 t6_2 t6_3 t6_4 t6_5 t6_6 t6_7 t6_8 t6_9 t6_10 t7_0 t8_0 t9_0 t10_0 t11_0 t12_0 t13_0 t13_1 t13_2 t13_3 t13_4 t13_5 t13_6 t13_7 t13_8 t13_9 t13_10 t13_11 t13_12 t13_13 t14_0 t15_0 t16_0 t17_0 t18_0) else (if x4 ≤ (36 : Int32) then (F_NM_read_J36 x2 x3 x4 t0_0 t0_1 t0_2 t1_0 t1_1 t1_2 t1_3 t1_4 t1_5 t1_6 t2_0 t3_0 t4_0 t5_0 t6_0 t6_1 t6_2 t6_3 t6_4 t6_5 t6_6 t6_7 t6_8 t6_9 t6_10 t7_0 t8_0 t9_0 t10_0 t11_0 t12_0 t13_0 t13_1 t13_2 t13_3 t13_4 t13_5 t13_6 t13_7 t13_8 t13_9 t13_10 t13_11 t13_12 t13_13 t14_0 t15_0 t16_0 t17_0 t18_0) else (F_NM_read_J32 x2 x3 x4 t0_0 t0_1 t0_2 t1_0 t1_1 t1_2 t1_3 t1_4 t1_5 t1_6 t2_0 t3_0 t4_0 t5_0 t6_0 t6_1 t6_2 t6_3 t6_4 t6_5 t6_6 t6_7 t6_8 t6_9 t6_10 t7_0 t8_0 t9_0 t10_0 t11_0 t12_0 t13_0 t13_1 t13_2 t13_3 t13_4 t13_5 t13_6 t13_7 t13_8 t13_9 t13_10 t13_11 t13_12 t13_13 t14_0 t15_0 t16_0 t17_0 t18_0))) else (if x4 = (10 : Int32) then (F_NM_read_J36 x2 x3 x4 t0_0 t0_1 t0_2 t1_0 t1_1 t1_2 t1_3 t1_4 t1_5 t1_6 t2_0 t3_0 t4_0 t5_0 t6_0 t6_1 t6_2 t6_3 t6_4 t6_5 t6_6 t6_7 t6_8 t6_9 t6_10 t7_0 t8_0 t9_0 t10_0 t11_0 t12_0 t13_0 t13_1 t13_2 t13_3 t13_4 t13_5 t13_6 t13_7 t13_8 t13_9 t13_10 t13_11 t13_12 t13_13 t14_0 t15_0 t16_0 t17_0 t18_0) else (F_NM_read_J32 x2 x3 x4 t0_0 t0_1 t0_2 t1_0 t1_1 t1_2 t1_3 t1_4 t1_5 t1_6 t2_0 t3_0 t4_0 t5_0 t6_0 t6_1 t6_2 t6_3 t6_4 t6_5 t6_6 t6_7 t6_8 t6_9 t6_10 t7_0 t8_0 t9_0 t10_0 t11_0 t12_0 t13_0 t13_1 t13_2 t13_3 t13_4 t13_5 t13_6 t13_7 t13_8 t13_9 t13_10 t13_11 t13_12 t13_13 t14_0 t15_0 t16_0 t17_0 t18_0))) else (F_NM_read_J32 x2 x3 x4 t0_0 t0_1 t0_2 t1_0 t1_1 t1_2 t1_3 t1_4 t1_5 t1_6 t2_0 t3_0 t4_0 t5_0 t6_0 t6_1 t6_2 t6_3 t6_4 t6_5 t6_6 t6_7 t6_8 t6_9 t6_10 t7_0 t8_0 t9_0 t10_0 t11_0 t12_0 t13_0 t13_1 t13_2 t13_3 t13_4 t13_5 t13_6 t13_7 t13_8 t13_9 t13_10 t13_11 t13_12 t13_13 t14_0 t15_0 t16_0 t17_0 t18_0)
def S_NM_read_J233 (x2 : Int32) (x3 : Int32) (x4 : Int32) (t0_0 : Int32) (t0_1 : Int32) (t0_2 : Int32) (t1_0 : Int32) (t1_1 : Int32) (t1_2 : Int32) (t1_3 : Int32) (t1_4 : Int32) (t1_5 : Int32) (t1_6 : Int32) (t2_0 : (Nat → Int32)) (t3_0 : (Nat → Int32)) (t4_0 : (Nat → Int32)) (t5_0 : (Nat → Int32)) (t6_0 : Int32) (t6_1 : Int32) (t6_2 : Int32) (t6_3 : Int64) (t6_4 : Int32) (t6_5 : Int32) (t6_6 : Int32) (t6_7 : Int32) (t6_8 : Int32) (t6_9 : Int32) (t6_10 : Int32) (t7_0 : (Nat → Int32)) (t8_0 : (Nat → Int32)) (t9_0 : (Nat → Int32)) (t10_0 : (Nat → Int32)) (t11_0 : (Nat → Int32)) (t12_0 : (Nat → Int32)) (t13_0 : Int32) (t13_1 : Int32) (t13_2 : Int32) (t13_3 : Int32) (t13_4 : Int32) (t13_5 : Int32) (t13_6 : Int32) (t13_7 : Int64) (t13_8 : Int32) (t13_9 : Int32) (t13_10 : Int64) (t13_11 : Int64) (t13_12 : Int32) (t13_13 : Int32) (t14_0 : (Nat → Int32)) (t15_0 : (Nat → Int32)) (t16_0 : (Nat → Int32)) (t17_0 : (Nat → Int32)) (t18_0 : (Nat → Int64)) (lx105 : Int32) (lx133 : Int32) (p181 : (Int32 × (Nat → Int32))) (f173 : (Nat → Int32)) (p229 : (Int32 × Int32 × Int32 × Int32 × Int32 × Int32 × Int32 × Int32 × Int64 × Int32 × Int32 × Int64 × Int64 × Int32 × Int32 × (Nat → Int32) × (Nat → Int32))) (j256 : Int64) (y199 : Int32) (y200 : Int32) (y201 : Int32) (y202 : Int32) (y203 : Int32) (y204 : Int32) (y205 : Int32) (y206 : Int64) (y207 : Int32) (y208 : Int32) (y209 : Int64) (y210 : Int64) (y211 : Int32) (y212 : Int32) (f213 : (Nat → Int32)) (f215 : (Nat → Int32)) (lx259 : Int32) : Prop := if lx259 = (0 : Int32) then ((True ∧ S_NM_setBits x2 x3 j256 lx133 t0_1 t0_2 t18_0) ∧ (True)) else (True)
def S_NM_read_c207 (x2 : Int32) (x3 : Int32) (x4 : Int32) (t0_0 : Int32) (t0_1 : Int32) (t0_2 : Int32) (t1_0 : Int32) (t1_1 : Int32) (t1_2 : Int32) (t1_3 : Int32) (t1_4 : Int32) (t1_5 : Int32) (t1_6 : Int32) (t2_0 : (Nat → Int32)) (t3_0 : (Nat → Int32)) (t4_0 : (Nat → Int32)) (t5_0 : (Nat → Int32)) (t6_0 : Int32) (t6_1 : Int32) (t6_2 : Int32) (t6_3 : Int64) (t6_4 : Int32) (t6_5 : Int32) (t6_6 : Int32) (t6_7 : Int32) (t6_8 : Int32) (t6_9 : Int32) (t6_10 : Int32) (t7_0 : (Nat → Int32)) (t8_0 : (Nat → Int32)) (t9_0 : (Nat → Int32)) (t10_0 : (Nat → Int32)) (t11_0 : (Nat → Int32)) (t12_0 : (Nat → Int32)) (t13_0 : Int32) (t13_1 : Int32) (t13_2 : Int32) (t13_3 : Int32) (t13_4 : Int32) (t13_5 : Int32) (t13_6 : Int32) (t13_7 : Int64) (t13_8 : Int32) (t13_9 : Int32) (t13_10 : Int64) (t13_11 : Int64) (t13_12 : Int32) (t13_13 : Int32) (t14_0 : (Nat → Int32)) (t15_0 : (Nat → Int32)) (t16_0 : (Nat → Int32)) (t17_0 : (Nat → Int32)) (t18_0 : (Nat → Int64)) (lx105 : Int32) (lx133 : Int32) (p181 : (Int32 × (Nat → Int32))) (f173 : (Nat → Int32)) (p229 : (Int32 × Int32 × Int32 × Int32 × Int32 × Int32 × Int32 × Int32 × Int64 × Int32 × Int32 × Int64 × Int64 × Int32 × Int32 × (Nat → Int32) × (Nat → Int32))) : Prop := if (p229.2.1 : Int32) = (1 : Int32) then (S_NM_read_J233 x2 x3 x4 t0_0 t0_1 t0_2 t1_0 t1_1 t1_2 t1_3 t1_4 t1_5 t1_6 t2_0 t3_0 t4_0 t5_0 t6_0 t6_1 t6_2 t6_3 t6_4 t6_5 t6_6 t6_7 t6_8 t6_9 t6_10 t7_0 t8_0 t9_0 t10_0 t11_0 t12_0 t13_0 t13_1 t13_2 t13_3 t13_4 t13_5 t13_6 t13_7 t13_8 t13_9 t13_10 t13_11 t13_12 t13_13 t14_0 t15_0 t16_0 t17_0 t18_0 lx105 lx133 p181 f173 p229 (((p229.1 : Int32).toInt64 : Int64) &&& 4294967295 : Int64) (p229.2.1 : Int32) (p229.2.2.1 : Int32) (p229.2.2.2.1 : Int32) (p229.2.2.2.2.1 : Int32) (p229.2.2.2.2.2.1 : Int32) (p229.2.2.2.2.2.2.1 : Int32) (p229.2.2.2.2.2.2.2.1 : Int32) (p229.2.2.2.2.2.2.2.2.1 : Int64) (p229.2.2.2.2.2.2.2.2.2.1 : Int32) (p229.2.2.2.2.2.2.2.2.2.2.1 : Int32) (p229.2.2.2.2.2.2.2.2.2.2.2.1 : Int64) (p229.2.2.2.2.2.2.2.2.2.2.2.2.1 : Int64) (p229.2.2.2.2.2.2.2.2.2.2.2.2.2.1 : Int32) (p229.2.2.2.2.2.2.2.2.2.2.2.2.2.2.1 : Int32) (p229.2.2.2.2.2.2.2.2.2.2.2.2.2.2.2.1 : (Nat → Int32)) (p229.2.2.2.2.2.2.2.2.2.2.2.2.2.2.2.2 : (Nat → Int32)) 2) else (S_NM_read_J233 x2 x3 x4 t0_0 t0_1 t0_2 t1_0 t1_1 t1_2 t1_3 t1_4 t1_5 t1_6 t2_0 t3_0 t4_0 t5_0 t6_0 t6_1 t6_2 t6_3 t6_4 t6_5 t6_6 t6_7 t6_8 t6_9 t6_10 t7_0 t8_0 t9_0 t10_0 t11_0 t12_0 t13_0 t13_1 t13_2 t13_3 t13_4 t13_5 t13_6 t13_7 t13_8 t13_9 t13_10 t13_11 t13_12 t13_13 t14_0 t15_0 t16_0 t17_0 t18_0 lx105 lx133 p181 f173 p229 (((p229.1 : Int32).toInt64 : Int64) &&& 4294967295 : Int64) (p229.2.1 : Int32) (p229.2.2.1 : Int32) (p229.2.2.2.1 : Int32) (p229.2.2.2.2.1 : Int32) (p229.2.2.2.2.2.1 : Int32) (p229.2.2.2.2.2.2.1 : Int32) (p229.2.2.2.2.2.2.2.1 : Int32) (p229.2.2.2.2.2.2.2.2.1 : Int64) (p229.2.2.2.2.2.2.2.2.2.1 : Int32) (p229.2.2.2.2.2.2.2.2.2.2.1 : Int32) (p229.2.2.2.2.2.2.2.2.2.2.2.1 : Int64) (p229.2.2.2.2.2.2.2.2.2.2.2.2.1 : Int64) (p229.2.2.2.2.2.2.2.2.2.2.2.2.2.1 : Int32) (p229.2.2.2.2.2.2.2.2.2.2.2.2.2.2.1 : Int32) (p229.2.2.2.2.2.2.2.2.2.2.2.2.2.2.2.1 : (Nat → Int32)) (p229.2.2.2.2.2.2.2.2.2.2.2.2.2.2.2.2 : (Nat → Int32)) 0)
def S_NM_read_J233_7 (x2 : Int32) (x3 : Int32) (x4 : Int32) (t0_0 : Int32) (t0_1 : Int32) (t0_2 : Int32) (t1_0 : Int32) (t1_1 : Int32) (t1_2 : Int32) (t1_3 : Int32) (t1_4 : Int32) (t1_5 : Int32) (t1_6 : Int32) (t2_0 : (Nat → Int32)) (t3_0 : (Nat → Int32)) (t4_0 : (Nat → Int32)) (t5_0 : (Nat → Int32)) (t6_0 : Int32) (t6_1 : Int32) (t6_2 : Int32) (t6_3 : Int64) (t6_4 : Int32) (t6_5 : Int32) (t6_6 : Int32) (t6_7 : Int32) (t6_8 : Int32) (t6_9 : Int32) (t6_10 : Int32) (t7_0 : (Nat → Int32)) (t8_0 : (Nat → Int32)) (t9_0 : (Nat → Int32)) (t10_0 : (Nat → Int32)) (t11_0 : (Nat → Int32)) (t12_0 : (Nat → Int32)) (t13_0 : Int32) (t13_1 : Int32) (t13_2 : Int32) (t13_3 : Int32) (t13_4 : Int32) (t13_5 : Int32) (t13_6 : Int32) (t13_7 : Int64) (t13_8 : Int32) (t13_9 : Int32) (t13_10 : Int64) (t13_11 : Int64) (t13_12 : Int32) (t13_13 : Int32) (t14_0 : (Nat → Int32)) (t15_0 : (Nat → Int32)) (t16_0 : (Nat → Int32)) (t17_0 : (Nat → Int32)) (t18_0 : (Nat → Int64)) (lx105 : Int32) (lx133 : Int32) (p181 : (Int32 × (Nat → Int32))) (f173 : (Nat → Int32)) (p351 : (Int64 × Int32 × Int32 × Int32 × Int32 × Int32 × Int32 × Int32 × Int64 × Int32 × Int32 × Int64 × Int64 × Int32 × Int32 × (Nat → Int32) × (Nat → Int32))) (j319 : Int64) (y321 : Int32) (y322 : Int32) (y323 : Int32) (y324 : Int32) (y325 : Int32) (y326 : Int32) (y327 : Int32) (y328 : Int64) (y329 : Int32) (y330 : Int32) (y331 : Int64) (y332 : Int64) (y333 : Int32) (y334 : Int32) (f335 : (Nat → Int32)) (f337 : (Nat → Int32)) (lx375 : Int32) : Prop := if lx375 = (0 : Int32) then ((True ∧ S_NM_setBits x2 x3 j319 lx133 t0_1 t0_2 t18_0) ∧ (True)) else (True)
def S_NM_read_c197 (x2 : Int32) (x3 : Int32) (x4 : Int32) (t0_0 : Int32) (t0_1 : Int32) (t0_2 : Int32) (t1_0 : Int32) (t1_1 : Int32) (t1_2 : Int32) (t1_3 : Int32) (t1_4 : Int32) (t1_5 : Int32) (t1_6 : Int32) (t2_0 : (Nat → Int32)) (t3_0 : (Nat → Int32)) (t4_0 : (Nat → Int32)) (t5_0 : (Nat → Int32)) (t6_0 : Int32) (t6_1 : Int32) (t6_2 : Int32) (t6_3 : Int64) (t6_4 : Int32) (t6_5 : Int32) (t6_6 : Int32) (t6_7 : Int32) (t6_8 : Int32) (t6_9 : Int32) (t6_10 : Int32) (t7_0 : (Nat → Int32)) (t8_0 : (Nat → Int32)) (t9_0 : (Nat → Int32)) (t10_0 : (Nat → Int32)) (t11_0 : (Nat → Int32)) (t12_0 : (Nat → Int32)) (t13_0 : Int32) (t13_1 : Int32) (t13_2 : Int32) (t13_3 : Int32) (t13_4 : Int32) (t13_5 : Int32) (t13_6 : Int32) (t13_7 : Int64) (t13_8 : Int32) (t13_9 : Int32) (t13_10 : Int64) (t13_11 : Int64) (t13_12 : Int32) (t13_13 : Int32) (t14_0 : (Nat → Int32)) (t15_0 : (Nat → Int32)) (t16_0 : (Nat → Int32)) (t17_0 : (Nat → Int32)) (t18_0 : (Nat → Int64)) (lx105 : Int32) (lx133 : Int32) (p181 : (Int32 × (Nat → Int32))) (f173 : (Nat → Int32)) (p351 : (Int64 × Int32 × Int32 × Int32 × Int32 × Int32 × Int32 × Int32 × Int64 × Int32 × Int32 × Int64 × Int64 × Int32 × Int32 × (Nat → Int32) × (Nat → Int32))) : Prop := if (p351.2.1 : Int32) = (1 : Int32) then (S_NM_read_J233_7 x2 x3 x4 t0_0 t0_1 t0_2 t1_0 t1_1 t1_2 t1_3 t1_4 t1_5 t1_6 t2_0 t3_0 t4_0 t5_0 t6_0 t6_1 t6_2 t6_3 t6_4 t6_5 t6_6 t6_7 t6_8 t6_9 t6_10 t7_0 t8_0 t9_0 t10_0 t11_0 t12_0 t13_0 t13_1 t13_2 t13_3 t13_4 t13_5 t13_6 t13_7 t13_8 t13_9 t13_10 t13_11 t13_12 t13_13 t14_0 t15_0 t16_0 t17_0 t18_0 lx105 lx133 p181 f173 p351 (p351.1 : Int64) (p351.2.1 : Int32) (p351.2.2.1 : Int32) (p351.2.2.2.1 : Int32) (p351.2.2.2.2.1 : Int32) (p351.2.2.2.2.2.1 : Int32) (p351.2.2.2.2.2.2.1 : Int32) (p351.2.2.2.2.2.2.2.1 : Int32) (p351.2.2.2.2.2.2.2.2.1 : Int64) (p351.2.2.2.2.2.2.2.2.2.1 : Int32) (p351.2.2.2.2.2.2.2.2.2.2.1 : Int32) (p351.2.2.2.2.2.2.2.2.2.2.2.1 : Int64) (p351.2.2.2.2.2.2.2.2.2.2.2.2.1 : Int64) (p351.2.2.2.2.2.2.2.2.2.2.2.2.2.1 : Int32) (p351.2.2.2.2.2.2.2.2.2.2.2.2.2.2.1 : Int32) (p351.2.2.2.2.2.2.2.2.2.2.2.2.2.2.2.1 : (Nat → Int32)) (p351.2.2.2.2.2.2.2.2.2.2.2.2.2.2.2.2 : (Nat → Int32)) 2) else (S_NM_read_J233_7 x2 x3 x4 t0_0 t0_1 t0_2 t1_0 t1_1 t1_2 t1_3 t1_4 t1_5 t1_6 t2_0 t3_0 t4_0 t5_0 t6_0 t6_1 t6_2 t6_3 t6_4 t6_5 t6_6 t6_7 t6_8 t6_9 t6_10 t7_0 t8_0 t9_0 t10_0 t11_0 t12_0 t13_0 t13_1 t13_2 t13_3 t13_4 t13_5 t13_6 t13_7 t13_8 t13_9 t13_10 t13_11 t13_12 t13_13 t14_0 t15_0 t16_0 t17_0 t18_0 lx105 lx133 p181 f173 p351 (p351.1 : Int64) (p351.2.1 : Int32) (p351.2.2.1 : Int32) (p351.2.2.2.1 : Int32) (p351.2.2.2.2.1 : Int32) (p351.2.2.2.2.2.1 : Int32) (p351.2.2.2.2.2.2.1 : Int32) (p351.2.2.2.2.2.2.2.1 : Int32) (p351.2.2.2.2.2.2.2.2.1 : Int64) (p351.2.2.2.2.2.2.2.2.2.1 : Int32) (p351.2.2.2.2.2.2.2.2.2.2.1 : Int32) (p351.2.2.2.2.2.2.2.2.2.2.2.1 : Int64) (p351.2.2.2.2.2.2.2.2.2.2.2.2.1 : Int64) (p351.2.2.2.2.2.2.2.2.2.2.2.2.2.1 : Int32) (p351.2.2.2.2.2.2.2.2.2.2.2.2.2.2.1 : Int32) (p351.2.2.2.2.2.2.2.2.2.2.2.2.2.2.2.1 : (Nat → Int32)) (p351.2.2.2.2.2.2.2.2.2.2.2.2.2.2.2.2 : (Nat → Int32)) 0)
def S_NM_read_c182 (x2 : Int32) (x3 : Int32) (x4 : Int32) (t0_0 : Int32) (t0_1 : Int32) (t0_2 : Int32) (t1_0 : Int32) (t1_1 : Int32) (t1_2 : Int32) (t1_3 : Int32) (t1_4 : Int32) (t1_5 : Int32) (t1_6 : Int32) (t2_0 : (Nat → Int32)) (t3_0 : (Nat → Int32)) (t4_0 : (Nat → Int32)) (t5_0 : (Nat → Int32)) (t6_0 : Int32) (t6_1 : Int32) (t6_2 : Int32) (t6_3 : Int64) (t6_4 : Int32) (t6_5 : Int32) (t6_6 : Int32) (t6_7 : Int32) (t6_8 : Int32) (t6_9 : Int32) (t6_10 : Int32) (t7_0 : (Nat → Int32)) (t8_0 : (Nat → Int32)) (t9_0 : (Nat → Int32)) (t10_0 : (Nat → Int32)) (t11_0 : (Nat → Int32)) (t12_0 : (Nat → Int32)) (t13_0 : Int32) (t13_1 : Int32) (t13_2 : Int32) (t13_3 : Int32) (t13_4 : Int32) (t13_5 : Int32) (t13_6 : Int32) (t13_7 : Int64) (t13_8 : Int32) (t13_9 : Int32) (t13_10 : Int64) (t13_11 : Int64) (t13_12 : Int32) (t13_13 : Int32) (t14_0 : (Nat → Int32)) (t15_0 : (Nat → Int32)) (t16_0 : (Nat → Int32)) (t17_0 : (Nat → Int32)) (t18_0 : (Nat → Int64)) (lx105 : Int32) (lx133 : Int32) (p181 : (Int32 × (Nat → Int32))) : Prop := if x2 = (2 : Int32) then ((True ∧ S_TR_bits t13_0 (p181.1 : Int32) t13_2 t13_3 t13_4 t13_5 t13_6 t13_7 t13_8 t13_9 t13_10 t13_11 t13_12 t13_13 (p181.2 : (Nat → Int32)) t15_0 t16_0) ∧ (S_NM_read_c197 x2 x3 x4 t0_0 t0_1 t0_2 t1_0 t1_1 t1_2 t1_3 t1_4 t1_5 t1_6 t2_0 t3_0 t4_0 t5_0 t6_0 t6_1 t6_2 t6_3 t6_4 t6_5 t6_6 t6_7 t6_8 t6_9 t6_10 t7_0 t8_0 t9_0 t10_0 t11_0 t12_0 t13_0 t13_1 t13_2 t13_3 t13_4 t13_5 t13_6 t13_7 t13_8 t13_9 t13_10 t13_11 t13_12 t13_13 t14_0 t15_0 t16_0 t17_0 t18_0 lx105 lx133 p181 (p181.2 : (Nat → Int32)) ((F_TR_bits t13_0 (p181.1 : Int32) t13_2 t13_3 t13_4 t13_5 t13_6 t13_7 t13_8 t13_9 t13_10 t13_11 t13_12 t13_13 (p181.2 : (Nat → Int32)) t15_0 t16_0) : (Int64 × Int32 × Int32 × Int32 × Int32 × Int32 × Int32 × Int32 × Int64 × Int32 × Int32 × Int64 × Int64 × Int32 × Int32 × (Nat → Int32) × (Nat → Int32))))) else ((True ∧ S_TR_floatBits t13_0 (p181.1 : Int32) t13_2 t13_3 t13_4 t13_5 t13_6 t13_7 t13_8 t13_9 t13_10 t13_11 t13_12 t13_13 (p181.2 : (Nat → Int32)) t15_0 t16_0) ∧ (S_NM_read_c207 x2 x3 x4 t0_0 t0_1 t0_2 t1_0 t1_1 t1_2 t1_3 t1_4 t1_5 t1_6 t2_0 t3_0 t4_0 t5_0 t6_0 t6_1 t6_2 t6_3 t6_4 t6_5 t6_6 t6_7 t6_8 t6_9 t6_10 t7_0 t8_0 t9_0 t10_0 t11_0 t12_0 t13_0 t13_1 t13_2 t13_3 t13_4 t13_5 t13_6 t13_7 t13_8 t13_9 t13_10 t13_11 t13_12 t13_13 t14_0 t15_0 t16_0 t17_0 t18_0 lx105 lx133 p181 (p181.2 : (Nat → Int32)) ((F_TR_floatBits t13_0 (p181.1 : Int32) t13_2 t13_3 t13_4 t13_5 t13_6 t13_7 t13_8 t13_9 t13_10 t13_11 t13_12 t13_13 (p181.2 : (Nat → Int32)) t15_0 t16_0) : (Int32 × Int32 × Int32 × Int32 × Int32 × Int32 × Int32 × Int32 × Int64 × Int32 × Int32 × Int64 × Int64 × Int32 × Int32 × (Nat → Int32) × (Nat → Int32)))))
def S_NM_read_J260 (x2 : Int32) (x3 : Int32) (x4 : Int32) (t0_0 : Int32) (t0_1 : Int32) (t0_2 : Int32) (t1_0 : Int32) (t1_1 : Int32) (t1_2 : Int32) (t1_3 : Int32) (t1_4 : Int32) (t1_5 : Int32) (t1_6 : Int32) (t2_0 : (Nat → Int32)) (t3_0 : (Nat → Int32)) (t4_0 : (Nat → Int32)) (t5_0 : (Nat → Int32)) (t6_0 : Int32) (t6_1 : Int32) (t6_2 : Int32) (t6_3 : Int64) (t6_4 : Int32) (t6_5 : Int32) (t6_6 : Int32) (t6_7 : Int32) (t6_8 : Int32) (t6_9 : Int32) (t6_10 : Int32) (t7_0 : (Nat → Int32)) (t8_0 : (Nat → Int32)) (t9_0 : (Nat → Int32)) (t10_0 : (Nat → Int32)) (t11_0 : (Nat → Int32)) (t12_0 : (Nat → Int32)) (t13_0 : Int32) (t13_1 : Int32) (t13_2 : Int32) (t13_3 : Int32) (t13_4 : Int32) (t13_5 : Int32) (t13_6 : Int32) (t13_7 : Int64) (t13_8 : Int32) (t13_9 : Int32) (t13_10 : Int64) (t13_11 : Int64) (t13_12 : Int32) (t13_13 : Int32) (t14_0 : (Nat → Int32)) (t15_0 : (Nat → Int32)) (t16_0 : (Nat → Int32)) (t17_0 : (Nat → Int32)) (t18_0 : (Nat → Int64)) (lx105 : Int32) (lx133 : Int32) (p444 : (Int32 × (Nat → Int32))) (f436 : (Nat → Int32)) (p496 : (Int32 × Int32 × Int32 × Int64 × Int32 × Int32 × Int32 × Int32 × Int32 × Int32 × Int32 × (Nat → Int32) × (Nat → Int32) × (Nat → Int32) × (Nat → Int32) × (Nat → Int32))) (y459 : Int32) (y460 : Int32) (y461 : Int32) (y462 : Int64) (y463 : Int32) (y464 : Int32) (y465 : Int32) (y466 : Int32) (y467 : Int32) (y468 : Int32) (y469 : Int32) (f470 : (Nat → Int32)) (f472 : (Nat → Int32)) (f474 : (Nat → Int32)) (f476 : (Nat → Int32)) (f478 : (Nat → Int32)) (lx519 : Int32) : Prop := if y459 = (0 : Int32) then (True) else (True)
def S_NM_read_c148 (x2 : Int32) (x3 : Int32) (x4 : Int32) (t0_0 : Int32) (t0_1 : Int32) (t0_2 : Int32) (t1_0 : Int32) (t1_1 : Int32) (t1_2 : Int32) (t1_3 : Int32) (t1_4 : Int32) (t1_5 : Int32) (t1_6 : Int32) (t2_0 : (Nat → Int32)) (t3_0 : (Nat → Int32)) (t4_0 : (Nat → Int32)) (t5_0 : (Nat → Int32)) (t6_0 : Int32) (t6_1 : Int32) (t6_2 : Int32) (t6_3 : Int64) (t6_4 : Int32) (t6_5 : Int32) (t6_6 : Int32) (t6_7 : Int32) (t6_8 : Int32) (t6_9 : Int32) (t6_10 : Int32) (t7_0 : (Nat → Int32)) (t8_0 : (Nat → Int32)) (t9_0 : (Nat → Int32)) (t10_0 : (Nat → Int32)) (t11_0 : (Nat → Int32)) (t12_0 : (Nat → Int32)) (t13_0 : Int32) (t13_1 : Int32) (t13_2 : Int32) (t13_3 : Int32) (t13_4 : Int32) (t13_5 : Int32) (t13_6 : Int32) (t13_7 : Int64) (t13_8 : Int32) (t13_9 : Int32) (t13_10 : Int64) (t13_11 : Int64) (t13_12 : Int32) (t13_13 : Int32) (t14_0 : (Nat → Int32)) (t15_0 : (Nat → Int32)) (t16_0 : (Nat → Int32)) (t17_0 : (Nat → Int32)) (t18_0 : (Nat → Int64)) (lx105 : Int32) (lx133 : Int32) (p444 : (Int32 × (Nat → Int32))) (f436 : (Nat → Int32)) (p496 : (Int32 × Int32 × Int32 × Int64 × Int32 × Int32 × Int32 × Int32 × Int32 × Int32 × Int32 × (Nat → Int32) × (Nat → Int32) × (Nat → Int32) × (Nat → Int32) × (Nat → Int32))) : Prop := if (p496.1 : Int32) = (3 : Int32) then (S_NM_read_J260 x2 x3 x4 t0_0 t0_1 t0_2 t1_0 t1_1 t1_2 t1_3 t1_4 t1_5 t1_6 t2_0 t3_0 t4_0 t5_0 t6_0 t6_1 t6_2 t6_3 t6_4 t6_5 t6_6 t6_7 t6_8 t6_9 t6_10 t7_0 t8_0 t9_0 t10_0 t11_0 t12_0 t13_0 t13_1 t13_2 t13_3 t13_4 t13_5 t13_6 t13_7 t13_8 t13_9 t13_10 t13_11 t13_12 t13_13 t14_0 t15_0 t16_0 t17_0 t18_0 lx105 lx133 p444 f436 p496 (p496.1 : Int32) (p496.2.1 : Int32) (p496.2.2.1 : Int32) (p496.2.2.2.1 : Int64) (p496.2.2.2.2.1 : Int32) (p496.2.2.2.2.2.1 : Int32) (p496.2.2.2.2.2.2.1 : Int32) (p496.2.2.2.2.2.2.2.1 : Int32) (p496.2.2.2.2.2.2.2.2.1 : Int32) (p496.2.2.2.2.2.2.2.2.2.1 : Int32) (p496.2.2.2.2.2.2.2.2.2.2.1 : Int32) (p496.2.2.2.2.2.2.2.2.2.2.2.1 : (Nat → Int32)) (p496.2.2.2.2.2.2.2.2.2.2.2.2.1 : (Nat → Int32)) (p496.2.2.2.2.2.2.2.2.2.2.2.2.2.1 : (Nat → Int32)) (p496.2.2.2.2.2.2.2.2.2.2.2.2.2.2.1 : (Nat → Int32)) (p496.2.2.2.2.2.2.2.2.2.2.2.2.2.2.2 : (Nat → Int32)) 2) else (S_NM_read_J260 x2 x3 x4 t0_0 t0_1 t0_2 t1_0 t1_1 t1_2 t1_3 t1_4 t1_5 t1_6 t2_0 t3_0 t4_0 t5_0 t6_0 t6_1 t6_2 t6_3 t6_4 t6_5 t6_6 t6_7 t6_8 t6_9 t6_10 t7_0 t8_0 t9_0 t10_0 t11_0 t12_0 t13_0 t13_1 t13_2 t13_3 t13_4 t13_5 t13_6 t13_7 t13_8 t13_9 t13_10 t13_11 t13_12 t13_13 t14_0 t15_0 t16_0 t17_0 t18_0 lx105 lx133 p444 f436 p496 (p496.1 : Int32) (p496.2.1 : Int32) (p496.2.2.1 : Int32) (p496.2.2.2.1 : Int64) (p496.2.2.2.2.1 : Int32) (p496.2.2.2.2.2.1 : Int32) (p496.2.2.2.2.2.2.1 : Int32) (p496.2.2.2.2.2.2.2.1 : Int32) (p496.2.2.2.2.2.2.2.2.1 : Int32) (p496.2.2.2.2.2.2.2.2.2.1 : Int32) (p496.2.2.2.2.2.2.2.2.2.2.1 : Int32) (p496.2.2.2.2.2.2.2.2.2.2.2.1 : (Nat → Int32)) (p496.2.2.2.2.2.2.2.2.2.2.2.2.1 : (Nat → Int32)) (p496.2.2.2.2.2.2.2.2.2.2.2.2.2.1 : (Nat → Int32)) (p496.2.2.2.2.2.2.2.2.2.2.2.2.2.2.1 : (Nat → Int32)) (p496.2.2.2.2.2.2.2.2.2.2.2.2.2.2.2 : (Nat → Int32)) 0)
def S_NM_read_c137 (x2 : Int32) (x3 : Int32) (x4 : Int32) (t0_0 : Int32) (t0_1 : Int32) (t0_2 : Int32) (t1_0 : Int32) (t1_1 : Int32) (t1_2 : Int32) (t1_3 : Int32) (t1_4 : Int32) (t1_5 : Int32) (t1_6 : Int32) (t2_0 : (Nat → Int32)) (t3_0 : (Nat → Int32)) (t4_0 : (Nat → Int32)) (t5_0 : (Nat → Int32)) (t6_0 : Int32) (t6_1 : Int32) (t6_2 : Int32) (t6_3 : Int64) (t6_4 : Int32) (t6_5 : Int32) (t6_6 : Int32) (t6_7 : Int32) (t6_8 : Int32) (t6_9 : Int32) (t6_10 : Int32) (t7_0 : (Nat → Int32)) (t8_0 : (Nat → Int32)) (t9_0 : (Nat → Int32)) (t10_0 : (Nat → Int32)) (t11_0 : (Nat → Int32)) (t12_0 : (Nat → Int32)) (t13_0 : Int32) (t13_1 : Int32) (t13_2 : Int32) (t13_3 : Int32) (t13_4 : Int32) (t13_5 : Int32) (t13_6 : Int32) (t13_7 : Int64) (t13_8 : Int32) (t13_9 : Int32) (t13_10 : Int64) (t13_11 : Int64) (t13_12 : Int32) (t13_13 : Int32) (t14_0 : (Nat → Int32)) (t15_0 : (Nat → Int32)) (t16_0 : (Nat → Int32)) (t17_0 : (Nat → Int32)) (t18_0 : (Nat → Int64)) (lx105 : Int32) (lx133 : Int32) (p444 : (Int32 × (Nat → Int32))) : Prop := (True ∧ S_DR_read x3 t6_0 (p444.1 : Int32) t6_2 t6_3 t6_4 t6_5 t6_6 t6_7 t6_8 t6_9 t6_10 (p444.2 : (Nat → Int32)) t8_0 t9_0 t10_0 t11_0 t12_0) ∧ (S_NM_read_c148 x2 x3 x4 t0_0 t0_1 t0_2 t1_0 t1_1 t1_2 t1_3 t1_4 t1_5 t1_6 t2_0 t3_0 t4_0 t5_0 t6_0 t6_1 t6_2 t6_3 t6_4 t6_5 t6_6 t6_7 t6_8 t6_9 t6_10 t7_0 t8_0 t9_0 t10_0 t11_0 t12_0 t13_0 t13_1 t13_2 t13_3 t13_4 t13_5 t13_6 t13_7 t13_8 t13_9 t13_10 t13_11 t13_12 t13_13 t14_0 t15_0 t16_0 t17_0 t18_0 lx105 lx133 p444 (p444.2 : (Nat → Int32)) ((F_DR_read x3 t6_0 (p444.1 : Int32) t6_2 t6_3 t6_4 t6_5 t6_6 t6_7 t6_8 t6_9 t6_10 (p444.2 : (Nat → Int32)) t8_0 t9_0 t10_0 t11_0 t12_0) : (Int32 × Int32 × Int32 × Int64 × Int32 × Int32 × Int32 × Int32 × Int32 × Int32 × Int32 × (Nat → Int32) × (Nat → Int32) × (Nat → Int32) × (Nat → Int32) × (Nat → Int32))))
def S_NM_read_J260_13 (x2 : Int32) (x3 : Int32) (x4 : Int32) (t0_0 : Int32) (t0_1 : Int32) (t0_2 : Int32) (t1_0 : Int32) (t1_1 : Int32) (t1_2 : Int32) (t1_3 : Int32) (t1_4 : Int32) (t1_5 : Int32) (t1_6 : Int32) (t2_0 : (Nat → Int32)) (t3_0 : (Nat → Int32)) (t4_0 : (Nat → Int32)) (t5_0 : (Nat → Int32)) (t6_0 : Int32) (t6_1 : Int32) (t6_2 : Int32) (t6_3 : Int64) (t6_4 : Int32) (t6_5 : Int32) (t6_6 : Int32) (t6_7 : Int32) (t6_8 : Int32) (t6_9 : Int32) (t6_10 : Int32) (t7_0 : (Nat → Int32)) (t8_0 : (Nat → Int32)) (t9_0 : (Nat → Int32)) (t10_0 : (Nat → Int32)) (t11_0 : (Nat → Int32)) (t12_0 : (Nat → Int32)) (t13_0 : Int32) (t13_1 : Int32) (t13_2 : Int32) (t13_3 : Int32) (t13_4 : Int32) (t13_5 : Int32) (t13_6 : Int32) (t13_7 : Int64) (t13_8 : Int32) (t13_9 : Int32) (t13_10 : Int64) (t13_11 : Int64) (t13_12 : Int32) (t13_13 : Int32) (t14_0 : (Nat → Int32)) (t15_0 : (Nat → Int32)) (t16_0 : (Nat → Int32)) (t17_0 : (Nat → Int32)) (t18_0 : (Nat → Int64)) (lx105 : Int32) (lx133 : Int32) (p574 : (Int32 × (Nat → Int32))) (f566 : (Nat → Int32)) (p616 : (Int32 × Int32 × Int32 × Int32 × Int32 × Int32 × Int32 × (Nat → Int32) × (Nat → Int32) × (Nat → Int32))) (y589 : Int32) (y590 : Int32) (y591 : Int32) (y592 : Int32) (y593 : Int32) (y594 : Int32) (y595 : Int32) (f596 : (Nat → Int32)) (f598 : (Nat → Int32)) (f600 : (Nat → Int32)) (lx633 : Int32) : Prop := if y589 = (0 : Int32) then (True) else (True)
def S_NM_read_c98 (x2 : Int32) (x3 : Int32) (x4 : Int32) (t0_0 : Int32) (t0_1 : Int32) (t0_2 : Int32) (t1_0 : Int32) (t1_1 : Int32) (t1_2 : Int32) (t1_3 : Int32) (t1_4 : Int32) (t1_5 : Int32) (t1_6 : Int32) (t2_0 : (Nat → Int32)) (t3_0 : (Nat → Int32)) (t4_0 : (Nat → Int32)) (t5_0 : (Nat → Int32)) (t6_0 : Int32) (t6_1 : Int32) (t6_2 : Int32) (t6_3 : Int64) (t6_4 : Int32) (t6_5 : Int32) (t6_6 : Int32) (t6_7 : Int32) (t6_8 : Int32) (t6_9 : Int32) (t6_10 : Int32) (t7_0 : (Nat → Int32)) (t8_0 : (Nat → Int32)) (t9_0 : (Nat → Int32)) (t10_0 : (Nat → Int32)) (t11_0 : (Nat → Int32)) (t12_0 : (Nat → Int32)) (t13_0 : Int32) (t13_1 : Int32) (t13_2 : Int32) (t13_3 : Int32) (t13_4 : Int32) (t13_5 : Int32) (t13_6 : Int32) (t13_7 : Int64) (t13_8 : Int32) (t13_9 : Int32) (t13_10 : Int64) (t13_11 : Int64) (t13_12 : Int32) (t13_13 : Int32) (t14_0 : (Nat → Int32)) (t15_0 : (Nat → Int32)) (t16_0 : (Nat → Int32)) (t17_0 : (Nat → Int32)) (t18_0 : (Nat → Int64)) (lx105 : Int32) (lx133 : Int32) (p574 : (Int32 × (Nat → Int32))) (f566 : (Nat → Int32)) (p616 : (Int32 × Int32 × Int32 × Int32 × Int32 × Int32 × Int32 × (Nat → Int32) × (Nat → Int32) × (Nat → Int32))) : Prop := if (p616.1 : Int32) = (3 : Int32) then (S_NM_read_J260_13 x2 x3 x4 t0_0 t0_1 t0_2 t1_0 t1_1 t1_2 t1_3 t1_4 t1_5 t1_6 t2_0 t3_0 t4_0 t5_0 t6_0 t6_1 t6_2 t6_3 t6_4 t6_5 t6_6 t6_7 t6_8 t6_9 t6_10 t7_0 t8_0 t9_0 t10_0 t11_0 t12_0 t13_0 t13_1 t13_2 t13_3 t13_4 t13_5 t13_6 t13_7 t13_8 t13_9 t13_10 t13_11 t13_12 t13_13 t14_0 t15_0 t16_0 t17_0 t18_0 lx105 lx133 p574 f566 p616 (p616.1 : Int32) (p616.2.1 : Int32) (p616.2.2.1 : Int32) (p616.2.2.2.1 : Int32) (p616.2.2.2.2.1 : Int32) (p616.2.2.2.2.2.1 : Int32) (p616.2.2.2.2.2.2.1 : Int32) (p616.2.2.2.2.2.2.2.1 : (Nat → Int32)) (p616.2.2.2.2.2.2.2.2.1 : (Nat → Int32)) (p616.2.2.2.2.2.2.2.2.2 : (Nat → Int32)) 2) else (S_NM_read_J260_13 x2 x3 x4 t0_0 t0_1 t0_2 t1_0 t1_1 t1_2 t1_3 t1_4 t1_5 t1_6 t2_0 t3_0 t4_0 t5_0 t6_0 t6_1 t6_2 t6_3 t6_4 t6_5 t6_6 t6_7 t6_8 t6_9 t6_10 t7_0 t8_0 t9_0 t10_0 t11_0 t12_0 t13_0 t13_1 t13_2 t13_3 t13_4 t13_5 t13_6 t13_7 t13_8 t13_9 t13_10 t13_11 t13_12 t13_13 t14_0 t15_0 t16_0 t17_0 t18_0 lx105 lx133 p574 f566 p616 (p616.1 : Int32) (p616.2.1 : Int32) (p616.2.2.1 : Int32) (p616.2.2.2.1 : Int32) (p616.2.2.2.2.1 : Int32) (p616.2.2.2.2.2.1 : Int32) (p616.2.2.2.2.2.2.1 : Int32) (p616.2.2.2.2.2.2.2.1 : (Nat → Int32)) (p616.2.2.2.2.2.2.2.2.1 : (Nat → Int32)) (p616.2.2.2.2.2.2.2.2.2 : (Nat → Int32)) 0)
def S_NM_read_c86 (x2 : Int32) (x3 : Int32) (x4 : Int32) (t0_0 : Int32) (t0_1 : Int32) (t0_2 : Int32) (t1_0 : Int32) (t1_1 : Int32) (t1_2 : Int32) (t1_3 : Int32) (t1_4 : Int32) (t1_5 : Int32) (t1_6 : Int32) (t2_0 : (Nat → Int32)) (t3_0 : (Nat → Int32)) (t4_0 : (Nat → Int32)) (t5_0 : (Nat → Int32)) (t6_0 : Int32) (t6_1 : Int32) (t6_2 : Int32) (t6_3 : Int64) (t6_4 : Int32) (t6_5 : Int32) (t6_6 : Int32) (t6_7 : Int32) (t6_8 : Int32) (t6_9 : Int32) (t6_10 : Int32) (t7_0 : (Nat → Int32)) (t8_0 : (Nat → Int32)) (t9_0 : (Nat → Int32)) (t10_0 : (Nat → Int32)) (t11_0 : (Nat → Int32)) (t12_0 : (Nat → Int32)) (t13_0 : Int32) (t13_1 : Int32) (t13_2 : Int32) (t13_3 : Int32) (t13_4 : Int32) (t13_5 : Int32) (t13_6 : Int32) (t13_7 : Int64) (t13_8 : Int32) (t13_9 : Int32) (t13_10 : Int64) (t13_11 : Int64) (t13_12 : Int32) (t13_13 : Int32) (t14_0 : (Nat → Int32)) (t15_0 : (Nat → Int32)) (t16_0 : (Nat → Int32)) (t17_0 : (Nat → Int32)) (t18_0 : (Nat → Int64)) (lx105 : Int32) (lx133 : Int32) (p574 : (Int32 × (Nat → Int32))) : Prop := (True ∧ S_WR_read x3 x4 t1_0 t1_1 (p574.1 : Int32) t1_3 t1_4 t1_5 t1_6 (p574.2 : (Nat → Int32)) t3_0 t4_0 t5_0) ∧ (S_NM_read_c98 x2 x3 x4 t0_0 t0_1 t0_2 t1_0 t1_1 t1_2 t1_3 t1_4 t1_5 t1_6 t2_0 t3_0 t4_0 t5_0 t6_0 t6_1 t6_2 t6_3 t6_4 t6_5 t6_6 t6_7 t6_8 t6_9 t6_10 t7_0 t8_0 t9_0 t10_0 t11_0 t12_0 t13_0 t13_1 t13_2 t13_3 t13_4 t13_5 t13_6 t13_7 t13_8 t13_9 t13_10 t13_11 t13_12 t13_13 t14_0 t15_0 t16_0 t17_0 t18_0 lx105 lx133 p574 (p574.2 : (Nat → Int32)) ((F_WR_read x3 x4 t1_0 t1_1 (p574.1 : Int32) t1_3 t1_4 t1_5 t1_6 (p574.2 : (Nat → Int32)) t3_0 t4_0 t5_0) : (Int32 × Int32 × Int32 × Int32 × Int32 × Int32 × Int32 × (Nat → Int32) × (Nat → Int32) × (Nat → Int32))))
def S_NM_read_J50 (x2 : Int32) (x3 : Int32) (x4 : Int32) (t0_0 : Int32) (t0_1 : Int32) (t0_2 : Int32) (t1_0 : Int32) (t1_1 : Int32) (t1_2 : Int32) (t1_3 : Int32) (t1_4 : Int32) (t1_5 : Int32) (t1_6 : Int32) (t2_0 : (Nat → Int32)) (t3_0 : (Nat → Int32)) (t4_0 : (Nat → Int32)) (t5_0 : (Nat → Int32)) (t6_0 : Int32) (t6_1 : Int32) (t6_2 : Int32) (t6_3 : Int64) (t6_4 : Int32) (t6_5 : Int32) (t6_6 : Int32) (t6_7 : Int32) (t6_8 : Int32) (t6_9 : Int32) (t6_10 : Int32) (t7_0 : (Nat → Int32)) (t8_0 : (Nat → Int32)) (t9_0 : (Nat → Int32)) (t10_0 : (Nat → Int32)) (t11_0 : (Nat → Int32)) (t12_0 : (Nat → Int32)) (t13_0 : Int32) (t13_1 : Int32) (t13_2 : Int32) (t13_3 : Int32) (t13_4 : Int32) (t13_5 : Int32) (t13_6 : Int32) (t13_7 : Int64) (t13_8 : Int32) (t13_9 : Int32) (t13_10 : Int64) (t13_11 : Int64) (t13_12 : Int32) (t13_13 : Int32) (t14_0 : (Nat → Int32)) (t15_0 : (Nat → Int32)) (t16_0 : (Nat → Int32)) (t17_0 : (Nat → Int32)) (t18_0 : (Nat → Int64)) (lx105 : Int32) (lx133 : Int32) : Prop := if lx105 = (0 : Int32) then (if x2 = (0 : Int32) then ((True ∧ S_NM_load (4100 : Int32) t0_1 (4100 : Int32) t17_0 t2_0) ∧ (S_NM_read_c86 x2 x3 x4 t0_0 t0_1 t0_2 t1_0 t1_1 t1_2 t1_3 t1_4 t1_5 t1_6 t2_0 t3_0 t4_0 t5_0 t6_0 t6_1 t6_2 t6_3 t6_4 t6_5 t6_6 t6_7 t6_8 t6_9 t6_10 t7_0 t8_0 t9_0 t10_0 t11_0 t12_0 t13_0 t13_1 t13_2 t13_3 t13_4 t13_5 t13_6 t13_7 t13_8 t13_9 t13_10 t13_11 t13_12 t13_13 t14_0 t15_0 t16_0 t17_0 t18_0 lx105 lx133 ((F_NM_load (4100 : Int32) t0_1 (4100 : Int32) t17_0 t2_0) : (Int32 × (Nat → Int32))))) else (if x2 = (1 : Int32) then ((True ∧ S_NM_load (4100 : Int32) t0_1 (4100 : Int32) t17_0 t7_0) ∧ (S_NM_read_c137 x2 x3 x4 t0_0 t0_1 t0_2 t1_0 t1_1 t1_2 t1_3 t1_4 t1_5 t1_6 t2_0 t3_0 t4_0 t5_0 t6_0 t6_1 t6_2 t6_3 t6_4 t6_5 t6_6 t6_7 t6_8 t6_9 t6_10 t7_0 t8_0 t9_0 t10_0 t11_0 t12_0 t13_0 t13_1 t13_2 t13_3 t13_4 t13_5 t13_6 t13_7 t13_8 t13_9 t13_10 t13_11 t13_12 t13_13 t14_0 t15_0 t16_0 t17_0 t18_0 lx105 lx133 ((F_NM_load (4100 : Int32) t0_1 (4100 : Int32) t17_0 t7_0) : (Int32 × (Nat → Int32))))) else ((True ∧ S_NM_load (4100 : Int32) t0_1 (4100 : Int32) t17_0 t14_0) ∧ (S_NM_read_c182 x2 x3 x4 t0_0 t0_1 t0_2 t1_0 t1_1 t1_2 t1_3 t1_4 t1_5 t1_6 t2_0 t3_0 t4_0 t5_0 t6_0 t6_1 t6_2 t6_3 t6_4 t6_5 t6_6 t6_7 t6_8 t6_9 t6_10 t7_0 t8_0 t9_0 t10_0 t11_0 t12_0 t13_0 t13_1 t13_2 t13_3 t13_4 t13_5 t13_6 t13_7 t13_8 t13_9 t13_10 t13_11 t13_12 t13_13 t14_0 t15_0 t16_0 t17_0 t18_0 lx105 lx133 ((F_NM_load (4100 : Int32) t0_1 (4100 : Int32) t17_0 t14_0) : (Int32 × (Nat → Int32))))))) else (True)
def S_NM_read_J37 (x2 : Int32) (x3 : Int32) (x4 : Int32) (t0_0 : Int32) (t0_1 : Int32) (t0_2 : Int32) (t1_0 : Int32) (t1_1 : Int32) (t1_2 : Int32) (t1_3 : Int32) (t1_4 : Int32) (t1_5 : Int32) (t1_6 : Int32) (t2_0 : (Nat → Int32)) (t3_0 : (Nat → Int32)) (t4_0 : (Nat → Int32)) (t5_0 : (Nat → Int32)) (t6_0 : Int32) (t6_1 : Int32) (t6_2 : Int32) (t6_3 : Int64) (t6_4 : Int32) (t6_5 : Int32) (t6_6 : Int32) (t6_7 : Int32) (t6_8 : Int32) (t6_9 : Int32) (t6_10 : Int32) (t7_0 : (Nat → Int32)) (t8_0 : (Nat → Int32)) (t9_0 : (Nat → Int32)) (t10_0 : (Nat → Int32)) (t11_0 : (Nat → Int32)) (t12_0 : (Nat → Int32)) (t13_0 : Int32) (t13_1 : Int32) (t13_2 : Int32) (t13_3 : Int32) (t13_4 : Int32) (t13_5 : Int32) (t13_6 : Int32) (t13_7 : Int64) (t13_8 : Int32) (t13_9 : Int32) (t13_10 : Int64) (t13_11 : Int64) (t13_12 : Int32) (t13_13 : Int32) (t14_0 : (Nat → Int32)) (t15_0 : (Nat → Int32)) (t16_0 : (Nat → Int32)) (t17_0 : (Nat → Int32)) (t18_0 : (Nat → Int64)) (lx105 : Int32) : Prop := if lx105 = (0 : Int32) then (S_NM_read_J50 x2 x3 x4 t0_0 t0_1 t0_2 t1_0 t1_1 t1_2 t1_3 t1_4 t1_5 t1_6 t2_0 t3_0 t4_0 t5_0 t6_0 t6_1 t6_2 t6_3 t6_4 t6_5 t6_6 t6_7 t6_8 t6_9 t6_10 t7_0 t8_0 t9_0 t10_0 t11_0 t12_0 t13_0 t13_1 t13_2 t13_3 t13_4 t13_5 t13_6 t13_7 t13_8 t13_9 t13_10 t13_11 t13_12 t13_13 t14_0 t15_0 t16_0 t17_0 t18_0 lx105 0) else (S_NM_read_J50 x2 x3 x4 t0_0 t0_1 t0_2 t1_0 t1_1 t1_2 t1_3 t1_4 t1_5 t1_6 t2_0 t3_0 t4_0 t5_0 t6_0 t6_1 t6_2 t6_3 t6_4 t6_5 t6_6 t6_7 t6_8 t6_9 t6_10 t7_0 t8_0 t9_0 t10_0 t11_0 t12_0 t13_0 t13_1 t13_2 t13_3 t13_4 t13_5 t13_6 t13_7 t13_8 t13_9 t13_10 t13_11 t13_12 t13_13 t14_0 t15_0 t16_0 t17_0 t18_0 lx105 1)
def S_NM_read_J32 (x2 : Int32) (x3 : Int32) (x4 : Int32) (t0_0 : Int32) (t0_1 : Int32) (t0_2 : Int32) (t1_0 : Int32) (t1_1 : Int32) (t1_2 : Int32) (t1_3 : Int32) (t1_4 : Int32) (t1_5 : Int32) (t1_6 : Int32) (t2_0 : (Nat → Int32)) (t3_0 : (Nat → Int32)) (t4_0 : (Nat → Int32)) (t5_0 : (Nat → Int32)) (t6_0 : Int32) (t6_1 : Int32) (t6_2 : Int32) (t6_3 : Int64) (t6_4 : Int32) (t6_5 : Int32) (t6_6 : Int32) (t6_7 : Int32) (t6_8 : Int32) (t6_9 : Int32) (t6_10 : Int32) (t7_0 : (Nat → Int32)) (t8_0 : (Nat → Int32)) (t9_0 : (Nat → Int32)) (t10_0 : (Nat → Int32)) (t11_0 : (Nat → Int32)) (t12_0 : (Nat → Int32)) (t13_0 : Int32) (t13_1 : Int32) (t13_2 : Int32) (t13_3 : Int32) (t13_4 : Int32) (t13_5 : Int32) (t13_6 : Int32) (t13_7 : Int64) (t13_8 : Int32) (t13_9 : Int32) (t13_10 : Int64) (t13_11 : Int64) (t13_12 : Int32) (t13_13 : Int32) (t14_0 : (Nat → Int32)) (t15_0 : (Nat → Int32)) (t16_0 : (Nat → Int32)) (t17_0 : (Nat → Int32)) (t18_0 : (Nat → Int64)) : Prop := S_NM_read_J37 x2 x3 x4 t0_0 t0_1 t0_2 t1_0 t1_1 t1_2 t1_3 t1_4 t1_5 t1_6 t2_0 t3_0 t4_0 t5_0 t6_0 t6_1 t6_2 t6_3 t6_4 t6_5 t6_6 t6_7 t6_8 t6_9 t6_10 t7_0 t8_0 t9_0 t10_0 t11_0 t12_0 t13_0 t13_1 t13_2 t13_3 t13_4 t13_5 t13_6 t13_7 t13_8 t13_9 t13_10 t13_11 t13_12 t13_13 t14_0 t15_0 t16_0 t17_0 t18_0 1
def S_NM_read_J36 (x2 : Int32) (x3 : Int32) (x4 : Int32) (t0_0 : Int32) (t0_1 : Int32) (t0_2 : Int32) (t1_0 : Int32) (t1_1 : Int32) (t1_2 : Int32) (t1_3 : Int32) (t1_4 : Int32) (t1_5 : Int32) (t1_6 : Int32) (t2_0 : (Nat → Int32)) (t3_0 : (Nat → Int32)) (t4_0 : (Nat → Int32)) (t5_0 : (Nat → Int32)) (t6_0 : Int32) (t6_1 : Int32) (t6_2 : Int32) (t6_3 : Int64) (t6_4 : Int32) (t6_5 : Int32) (t6_6 : Int32) (t6_7 : Int32) (t6_8 : Int32) (t6_9 : Int32) (t6_10 : Int32) (t7_0 : (Nat → Int32)) (t8_0 : (Nat → Int32)) (t9_0 : (Nat → Int32)) (t10_0 : (Nat → Int32)) (t11_0 : (Nat → Int32)) (t12_0 : (Nat → Int32)) (t13_0 : Int32) (t13_1 : Int32) (t13_2 : Int32) (t13_3 : Int32) (t13_4 : Int32) (t13_5 : Int32) (t13_6 : Int32) (t13_7 : Int64) (t13_8 : Int32) (t13_9 : Int32) (t13_10 : Int64) (t13_11 : Int64) (t13_12 : Int32) (t13_13 : Int32) (t14_0 : (Nat → Int32)) (t15_0 : (Nat → Int32)) (t16_0 : (Nat → Int32)) (t17_0 : (Nat → Int32)) (t18_0 : (Nat → Int64)) : Prop := S_NM_read_J37 x2 x3 x4 t0_0 t0_1 t0_2 t1_0 t1_1 t1_2 t1_3 t1_4 t1_5 t1_6 t2_0 t3_0 t4_0 t5_0 t6_0 t6_1 t6_2 t6_3 t6_4 t6_5 t6_6 t6_7 t6_8 t6_9 t6_10 t7_0 t8_0 t9_0 t10_0 t11_0 t12_0 t13_0 t13_1 t13_2 t13_3 t13_4 t13_5 t13_6 t13_7 t13_8 t13_9 t13_10 t13_11 t13_12 t13_13 t14_0 t15_0 t16_0 t17_0 t18_0 0
def S_NM_read (x2 : Int32) (x3 : Int32) (x4 : Int32) (t0_0 : Int32) (t0_1 : Int32) (t0_2 : Int32) (t1_0 : Int32) (t1_1 : Int32) (t1_2 : Int32) (t1_3 : Int32) (t1_4 : Int32) (t1_5 : Int32) (t1_6 : Int32) (t2_0 : (Nat → Int32)) (t3_0 : (Nat → Int32)) (t4_0 : (Nat → Int32)) (t5_0 : (Nat → Int32)) (t6_0 : Int32) (t6_1 : Int32) (t6_2 : Int32) (t6_3 : Int64) (t6_4 : Int32) (t6_5 : Int32) (t6_6 : Int32) (t6_7 : Int32) (t6_8 : Int32) (t6_9 : Int32) (t6_10 : Int32) (t7_0 : (Nat → Int32)) (t8_0 : (Nat → Int32)) (t9_0 : (Nat → Int32)) (t10_0 : (Nat → Int32)) (t11_0 : (Nat → Int32)) (t12_0 : (Nat → Int32)) (t13_0 : Int32) (t13_1 : Int32) (t13_2 : Int32) (t13_3 : Int32) (t13_4 : Int32) (t13_5 : Int32) (t13_6 : Int32) (t13_7 : Int64) (t13_8 : Int32) (t13_9 : Int32) (t13_10 : Int64) (t13_11 : Int64) (t13_12 : Int32) (t13_13 : Int32) (t14_0 : (Nat → Int32)) (t15_0 : (Nat → Int32)) (t16_0 : (Nat → Int32)) (t17_0 : (Nat → Int32)) (t18_0 : (Nat → Int64)) : Prop := if ((F_NM_no_IIZ x2 x3) : Int32) = (0 : Int32) then (if x2 = (0 : Int32) then (if x4 < (2 : Int32) then (S_NM_read_J32 x2 x3 x4 t0_0 t0_1 t0_2 t1_0 t1_1 t1_2 t1_3 t1_4 t1_5 t1_6 t2_0 t3_0 t4_0 t5_0 t6_0 t6_1 t6_2 t6_3 t6_4 t6_5 t6_6 t6_7 t6_8 t6_9 t6_10 t7_0 t8_0 t9_0 t10_0 t11_0 t12_0 t13_0 t13_1 t13_2 t13_3 t13_4 t13_5 t13_6 t13_7 t13_8 t13_9 t13_10 t13_11 t13_12 t13_13 t14_0 t15_0 t16_0 t17_0 t18_0) else (if x4 ≤ (36 : Int32) then (S_NM_read_J36 x2 x3 x4 t0_0 t0_1 t0_2 t1_0 t1_1 t1_2 t1_3 t1_4 t1_5 t1_6 t2_0 t3_0 t4_0 t5_0 t6_0 t6_1 t6_2 t6_3 t6_4 t6_5 t6_6 t6_7 t6_8 t6_9 t6_10 t7_0 t8_0 t9_0 t10_0 t11_0 t12_0 t13_0 t13_1 t13_2 t13_3 t13_4 t13_5 t13_6 t13_7 t13_8 t13_9 t13_10 t13_11 t13_12 t13_13 t14_0 t15_0 t16_0 t17_0 t18_0) else (S_NM_read_J32 x2 x3 x4 t0_0 t0_1 t0_2 t1_0 t1_1 t1_2 t1_3 t1_4 t1_5 t1_6 t2_0 t3_0 t4_0 t5_0 t6_0 t6_1 t6_2 t6_3 t6_4 t6_5 t6_6 t6_7 t6_8 t6_9 t6_10 t7_0 t8_0 t9_0 t10_0 t11_0 t12_0 t13_0 t13_1 t13_2 t13_3 t13_4 t13_5 t13_6 t13_7 t13_8 t13_9 t13_10 t13_11 t13_12 t13_13 t14_0 t15_0 t16_0 t17_0 t18_0))) else (if x4 = (10 : Int32) then (S_NM_read_J36 x2 x3 x4 t0_0 t0_1 t0_2 t1_0 t1_1 t1_2 t1_3 t1_4 t1_5 t1_6 t2_0 t3_0 t4_0 t5_0 t6_0 t6_1 t6_2 t6_3 t6_4 t6_5 t6_6 t6_7 t6_8 t6_9 t6_10 t7_0 t8_0 t9_0 t10_0 t11_0 t12_0 t13_0 t13_1 t13_2 t13_3 t13_4 t13_5 t13_6 t13_7 t13_8 t13_9 t13_10 t13_11 t13_12 t13_13 t14_0 t15_0 t16_0 t17_0 t18_0) else (S_NM_read_J32 x2 x3 x4 t0_0 t0_1 t0_2 t1_0 t1_1 t1_2 t1_3 t1_4 t1_5 t1_6 t2_0 t3_0 t4_0 t5_0 t6_0 t6_1 t6_2 t6_3 t6_4 t6_5 t6_6 t6_7 t6_8 t6_9 t6_10 t7_0 t8_0 t9_0 t10_0 t11_0 t12_0 t13_0 t13_1 t13_2 t13_3 t13_4 t13_5 t13_6 t13_7 t13_8 t13_9 t13_10 t13_11 t13_12 t13_13 t14_0 t15_0 t16_0 t17_0 t18_0))) else (S_NM_read_J32 x2 x3 x4 t0_0 t0_1 t0_2 t1_0 t1_1 t1_2 t1_3 t1_4 t1_5 t1_6 t2_0 t3_0 t4_0 t5_0 t6_0 t6_1 t6_2 t6_3 t6_4 t6_5 t6_6 t6_7 t6_8 t6_9 t6_10 t7_0 t8_0 t9_0 t10_0 t11_0 t12_0 t13_0 t13_1 t13_2 t13_3 t13_4 t13_5 t13_6 t13_7 t13_8 t13_9 t13_10 t13_11 t13_12 t13_13 t14_0 t15_0 t16_0 t17_0 t18_0)
set_option maxRecDepth 100000 in
set_option maxHeartbeats 4000000 in
theorem X_NM_read (l : Launch) (D : va_G) (g : Nat → ClassId) (q : Nat → Nat) (ws : va_W) (x2 : Int32) (x3 : Int32) (x4 : Int32) (hI : q_I (msh g q) q ws) (t0_0 : Int32) (t0_1 : Int32) (t0_2 : Int32) (hT0 : ws[116]? = (some (q 116, .inr (12, [.int t0_0, .ref (q 117), .int t0_1, .ref (q 118), .int t0_2, .ref (q 119), .ref (q 134), .ref (q 145), .ref (q 153), .ref (q 157), .ref (q 167), .ref (q 168)])) : Option (Nat × va_E))) (t1_0 : Int32) (t1_1 : Int32) (t1_2 : Int32) (t1_3 : Int32) (t1_4 : Int32) (t1_5 : Int32) (t1_6 : Int32) (hT1 : ws[119]? = (some (q 119, .inr (13, [.int t1_0, .int t1_1, .ref (q 120), .int t1_2, .ref (q 121), .ref (q 122), .ref (q 123), .int t1_3, .ref (q 124), .ref (q 125), .ref (q 126), .ref (q 127), .ref (q 128), .ref (q 129), .ref (q 130), .ref (q 131), .int t1_4, .int t1_5, .ref (q 132), .ref (q 133), .int t1_6])) : Option (Nat × va_E))) (t2_0 : (Nat → Int32)) (hT2 : ws[120]? = (some (q 120, .inl (g 0, (4100 : Int32).toNatClampNeg, .inl t2_0)) : Option (Nat × va_E))) (t3_0 : (Nat → Int32)) (hT3 : ws[121]? = (some (q 121, .inl (g 0, (1408 : Int32).toNatClampNeg, .inl t3_0)) : Option (Nat × va_E))) (t4_0 : (Nat → Int32)) (hT4 : ws[122]? = (some (q 122, .inl (g 3, 11, .inl t4_0)) : Option (Nat × va_E))) (t5_0 : (Nat → Int32)) (hT5 : ws[123]? = (some (q 123, .inl (g 0, (264 : Int32).toNatClampNeg, .inl t5_0)) : Option (Nat × va_E))) (t6_0 : Int32) (t6_1 : Int32) (t6_2 : Int32) (t6_3 : Int64) (t6_4 : Int32) (t6_5 : Int32) (t6_6 : Int32) (t6_7 : Int32) (t6_8 : Int32) (t6_9 : Int32) (t6_10 : Int32) (hT6 : ws[134]? = (some (q 134, .inr (14, [.int t6_0, .ref (q 135), .int t6_1, .ref (q 136), .ref (q 137), .ref (q 138), .ref (q 139), .ref (q 140), .int t6_2, .long t6_3, .int t6_4, .int t6_5, .ref (q 141), .int t6_6, .ref (q 142), .int t6_7, .ref (q 143), .int t6_8, .ref (q 144), .int t6_9, .int t6_10])) : Option (Nat × va_E))) (t7_0 : (Nat → Int32)) (hT7 : ws[135]? = (some (q 135, .inl (g 0, (4100 : Int32).toNatClampNeg, .inl t7_0)) : Option (Nat × va_E))) (t8_0 : (Nat → Int32)) (hT8 : ws[136]? = (some (q 136, .inl (g 0, (10000 : Int32).toNatClampNeg, .inl t8_0)) : Option (Nat × va_E))) (t9_0 : (Nat → Int32)) (hT9 : ws[137]? = (some (q 137, .inl (g 0, (10 : Int32).toNatClampNeg, .inl t9_0)) : Option (Nat × va_E))) (t10_0 : (Nat → Int32)) (hT10 : ws[138]? = (some (q 138, .inl (g 3, 10, .inl t10_0)) : Option (Nat × va_E))) (t11_0 : (Nat → Int32)) (hT11 : ws[139]? = (some (q 139, .inl (g 0, (10 : Int32).toNatClampNeg, .inl t11_0)) : Option (Nat × va_E))) (t12_0 : (Nat → Int32)) (hT12 : ws[140]? = (some (q 140, .inl (g 0, (4400 : Int32).toNatClampNeg, .inl t12_0)) : Option (Nat × va_E))) (t13_0 : Int32) (t13_1 : Int32) (t13_2 : Int32) (t13_3 : Int32) (t13_4 : Int32) (t13_5 : Int32) (t13_6 : Int32) (t13_7 : Int64) (t13_8 : Int32) (t13_9 : Int32) (t13_10 : Int64) (t13_11 : Int64) (t13_12 : Int32) (t13_13 : Int32) (hT13 : ws[153]? = (some (q 153, .inr (16, [.int t13_0, .ref (q 154), .int t13_1, .int t13_2, .int t13_3, .int t13_4, .ref (q 155), .int t13_5, .int t13_6, .long t13_7, .ref (q 156), .int t13_8, .int t13_9, .long t13_10, .long t13_11, .int t13_12, .int t13_13])) : Option (Nat × va_E))) (t14_0 : (Nat → Int32)) (hT14 : ws[154]? = (some (q 154, .inl (g 0, (4100 : Int32).toNatClampNeg, .inl t14_0)) : Option (Nat × va_E))) (t15_0 : (Nat → Int32)) (hT15 : ws[155]? = (some (q 155, .inl (g 0, (4100 : Int32).toNatClampNeg, .inl t15_0)) : Option (Nat × va_E))) (t16_0 : (Nat → Int32)) (hT16 : ws[156]? = (some (q 156, .inl (g 0, (800 : Int32).toNatClampNeg, .inl t16_0)) : Option (Nat × va_E))) (t17_0 : (Nat → Int32)) (hT17 : ws[117]? = (some (q 117, .inl (g 0, (4100 : Int32).toNatClampNeg, .inl t17_0)) : Option (Nat × va_E))) (t18_0 : (Nat → Int64)) (hT18 : ws[167]? = (some (q 167, .inl (g 1, 20, .inr (.inl t18_0))) : Option (Nat × va_E))) (hS : True ∧ S_NM_read x2 x3 x4 t0_0 t0_1 t0_2 t1_0 t1_1 t1_2 t1_3 t1_4 t1_5 t1_6 t2_0 t3_0 t4_0 t5_0 t6_0 t6_1 t6_2 t6_3 t6_4 t6_5 t6_6 t6_7 t6_8 t6_9 t6_10 t7_0 t8_0 t9_0 t10_0 t11_0 t12_0 t13_0 t13_1 t13_2 t13_3 t13_4 t13_5 t13_6 t13_7 t13_8 t13_9 t13_10 t13_11 t13_12 t13_13 t14_0 t15_0 t16_0 t17_0 t18_0) : q_mI l y_NM_read prog_14_method_15_code 8 (.boolean) 7 0 0 D g [.ref (q 116), .int x2, .int x3, .int x4] ws (fun r u => q_I (msh g q) q u ∧ q_un ws u [116, 119, 120, 121, 122, 123, 134, 135, 136, 137, 138, 139, 140, 153, 154, 155, 156, 167] ∧ ∃ (u0_0 : Int32) (u0_1 : Int32) (u1_0 : Int32) (u1_1 : Int32) (u1_2 : Int32) (u1_3 : Int32) (u1_4 : Int32) (u1_5 : Int32) (u1_6 : Int32) (u2_0 : (Nat → Int32)) (u3_0 : (Nat → Int32)) (u4_0 : (Nat → Int32)) (u5_0 : (Nat → Int32)) (u6_0 : Int32) (u6_1 : Int32) (u6_2 : Int32) (u6_3 : Int64) (u6_4 : Int32) (u6_5 : Int32) (u6_6 : Int32) (u6_7 : Int32) (u6_8 : Int32) (u6_9 : Int32) (u6_10 : Int32) (u7_0 : (Nat → Int32)) (u8_0 : (Nat → Int32)) (u9_0 : (Nat → Int32)) (u10_0 : (Nat → Int32)) (u11_0 : (Nat → Int32)) (u12_0 : (Nat → Int32)) (u13_0 : Int32) (u13_1 : Int32) (u13_2 : Int32) (u13_3 : Int32) (u13_4 : Int32) (u13_5 : Int32) (u13_6 : Int32) (u13_7 : Int64) (u13_8 : Int32) (u13_9 : Int32) (u13_10 : Int64) (u13_11 : Int64) (u13_12 : Int32) (u13_13 : Int32) (u14_0 : (Nat → Int32)) (u15_0 : (Nat → Int32)) (u16_0 : (Nat → Int32)) (u18_0 : (Nat → Int64)), u[116]? = (some (q 116, .inr (12, [.int u0_0, .ref (q 117), .int u0_1, .ref (q 118), .int t0_2, .ref (q 119), .ref (q 134), .ref (q 145), .ref (q 153), .ref (q 157), .ref (q 167), .ref (q 168)])) : Option (Nat × va_E)) ∧ u[119]? = (some (q 119, .inr (13, [.int u1_0, .int u1_1, .ref (q 120), .int u1_2, .ref (q 121), .ref (q 122), .ref (q 123), .int u1_3, .ref (q 124), .ref (q 125), .ref (q 126), .ref (q 127), .ref (q 128), .ref (q 129), .ref (q 130), .ref (q 131), .int u1_4, .int u1_5, .ref (q 132), .ref (q 133), .int u1_6])) : Option (Nat × va_E)) ∧ u[120]? = (some (q 120, .inl (g 0, (4100 : Int32).toNatClampNeg, .inl u2_0)) : Option (Nat × va_E)) ∧ u[121]? = (some (q 121, .inl (g 0, (1408 : Int32).toNatClampNeg, .inl u3_0)) : Option (Nat × va_E)) ∧ u[122]? = (some (q 122, .inl (g 3, 11, .inl u4_0)) : Option (Nat × va_E)) ∧ u[123]? = (some (q 123, .inl (g 0, (264 : Int32).toNatClampNeg, .inl u5_0)) : Option (Nat × va_E)) ∧ u[134]? = (some (q 134, .inr (14, [.int u6_0, .ref (q 135), .int u6_1, .ref (q 136), .ref (q 137), .ref (q 138), .ref (q 139), .ref (q 140), .int u6_2, .long u6_3, .int u6_4, .int u6_5, .ref (q 141), .int u6_6, .ref (q 142), .int u6_7, .ref (q 143), .int u6_8, .ref (q 144), .int u6_9, .int u6_10])) : Option (Nat × va_E)) ∧ u[135]? = (some (q 135, .inl (g 0, (4100 : Int32).toNatClampNeg, .inl u7_0)) : Option (Nat × va_E)) ∧ u[136]? = (some (q 136, .inl (g 0, (10000 : Int32).toNatClampNeg, .inl u8_0)) : Option (Nat × va_E)) ∧ u[137]? = (some (q 137, .inl (g 0, (10 : Int32).toNatClampNeg, .inl u9_0)) : Option (Nat × va_E)) ∧ u[138]? = (some (q 138, .inl (g 3, 10, .inl u10_0)) : Option (Nat × va_E)) ∧ u[139]? = (some (q 139, .inl (g 0, (10 : Int32).toNatClampNeg, .inl u11_0)) : Option (Nat × va_E)) ∧ u[140]? = (some (q 140, .inl (g 0, (4400 : Int32).toNatClampNeg, .inl u12_0)) : Option (Nat × va_E)) ∧ u[153]? = (some (q 153, .inr (16, [.int u13_0, .ref (q 154), .int u13_1, .int u13_2, .int u13_3, .int u13_4, .ref (q 155), .int u13_5, .int u13_6, .long u13_7, .ref (q 156), .int u13_8, .int u13_9, .long u13_10, .long u13_11, .int u13_12, .int u13_13])) : Option (Nat × va_E)) ∧ u[154]? = (some (q 154, .inl (g 0, (4100 : Int32).toNatClampNeg, .inl u14_0)) : Option (Nat × va_E)) ∧ u[155]? = (some (q 155, .inl (g 0, (4100 : Int32).toNatClampNeg, .inl u15_0)) : Option (Nat × va_E)) ∧ u[156]? = (some (q 156, .inl (g 0, (800 : Int32).toNatClampNeg, .inl u16_0)) : Option (Nat × va_E)) ∧ u[167]? = (some (q 167, .inl (g 1, 20, .inr (.inl u18_0))) : Option (Nat × va_E)) ∧ (0 ≤ r.toInt) ∧ (r.toInt ≤ 1) ∧ (0 ≤ u0_0.toInt) ∧ (u0_0.toInt ≤ 2) ∧ (0 ≤ u0_1.toInt) ∧ (u0_1.toInt ≤ 4100) ∧ (0 ≤ u1_2.toInt) ∧ (u1_2.toInt ≤ 4100) ∧ (0 ≤ u1_3.toInt) ∧ (u1_3.toInt ≤ 1) ∧ (0 ≤ u1_4.toInt) ∧ (u1_4.toInt ≤ 1) ∧ (0 ≤ u1_5.toInt) ∧ (u1_5.toInt ≤ 1) ∧ (0 ≤ u1_6.toInt) ∧ (u1_6.toInt ≤ 2100) ∧ (0 ≤ u6_1.toInt) ∧ (u6_1.toInt ≤ 4100) ∧ (0 ≤ u6_4.toInt) ∧ (u6_4.toInt ≤ 1) ∧ (0 ≤ u6_5.toInt) ∧ (u6_5.toInt ≤ 1) ∧ (0 ≤ u6_9.toInt) ∧ (u6_9.toInt ≤ 12200) ∧ (0 ≤ u13_1.toInt) ∧ (u13_1.toInt ≤ 4100) ∧ (0 ≤ u13_4.toInt) ∧ (u13_4.toInt ≤ 1) ∧ (0 ≤ u13_13.toInt) ∧ (u13_13.toInt ≤ 1) ∧ (u0_1.toInt ≤ t0_1.toInt) ∧ (t1_1.toInt ≤ u1_1.toInt) ∧ (u1_1.toInt ≤ t1_1.toInt) ∧ (t1_4.toInt ≤ u1_4.toInt) ∧ (u1_4.toInt ≤ t1_4.toInt) ∧ (t1_5.toInt ≤ u1_5.toInt) ∧ (u1_5.toInt ≤ t1_5.toInt) ∧ (t1_6.toInt ≤ u1_6.toInt) ∧ (u1_6.toInt ≤ t1_6.toInt) ∧ (u6_4.toInt ≤ t6_4.toInt) ∧ (t6_6.toInt ≤ u6_6.toInt) ∧ (u6_6.toInt ≤ t6_6.toInt) ∧ (t6_7.toInt ≤ u6_7.toInt) ∧ (u6_7.toInt ≤ t6_7.toInt) ∧ (t6_8.toInt ≤ u6_8.toInt) ∧ (u6_8.toInt ≤ t6_8.toInt) ∧ (t6_9.toInt ≤ u6_9.toInt) ∧ (u6_9.toInt ≤ t6_9.toInt) ∧ (r, u0_0, u0_1, u1_0, u1_1, u1_2, u1_3, u1_4, u1_5, u1_6, u2_0, u3_0, u4_0, u5_0, u6_0, u6_1, u6_2, u6_3, u6_4, u6_5, u6_6, u6_7, u6_8, u6_9, u6_10, u7_0, u8_0, u9_0, u10_0, u11_0, u12_0, u13_0, u13_1, u13_2, u13_3, u13_4, u13_5, u13_6, u13_7, u13_8, u13_9, u13_10, u13_11, u13_12, u13_13, u14_0, u15_0, u16_0, u18_0) = (F_NM_read x2 x3 x4 t0_0 t0_1 t0_2 t1_0 t1_1 t1_2 t1_3 t1_4 t1_5 t1_6 t2_0 t3_0 t4_0 t5_0 t6_0 t6_1 t6_2 t6_3 t6_4 t6_5 t6_6 t6_7 t6_8 t6_9 t6_10 t7_0 t8_0 t9_0 t10_0 t11_0 t12_0 t13_0 t13_1 t13_2 t13_3 t13_4 t13_5 t13_6 t13_7 t13_8 t13_9 t13_10 t13_11 t13_12 t13_13 t14_0 t15_0 t16_0 t17_0 t18_0)) := by
  intro sz
  refine q_into (by decide) (Nat.le_of_ble_eq_true rfl) ?_
  intro p e s m below meth c ls hsz C0 V hl
  have hx := C0.1
  have hb := C0.2.1
  obtain ⟨btt0_1, btt0_2⟩ := n_w116 hI hT0
  replace btt0_1 : q_F (0 ≤ t0_1.toInt ∧ t0_1.toInt ≤ 4100) := btt0_1
  replace btt0_2 : q_F (0 ≤ t0_2.toInt ∧ t0_2.toInt ≤ 12200) := btt0_2
  obtain ⟨btt1_2, hZ9⟩ := n_w119 hI hT1
  obtain ⟨btt1_3, hZ9⟩ := hZ9
  obtain ⟨btt1_4, hZ9⟩ := hZ9
  obtain ⟨btt1_5, btt1_6⟩ := hZ9
  replace btt1_2 : q_F (0 ≤ t1_2.toInt ∧ t1_2.toInt ≤ 4100) := btt1_2
  replace btt1_3 : q_F (0 ≤ t1_3.toInt ∧ t1_3.toInt ≤ 1) := btt1_3
  replace btt1_4 : q_F (0 ≤ t1_4.toInt ∧ t1_4.toInt ≤ 1) := btt1_4
  replace btt1_5 : q_F (0 ≤ t1_5.toInt ∧ t1_5.toInt ≤ 1) := btt1_5
  replace btt1_6 : q_F (0 ≤ t1_6.toInt ∧ t1_6.toInt ≤ 2100) := btt1_6
  obtain ⟨btt6_1, hZ9⟩ := n_w134 hI hT6
  obtain ⟨btt6_4, hZ9⟩ := hZ9
  obtain ⟨btt6_5, btt6_9⟩ := hZ9
  replace btt6_1 : q_F (0 ≤ t6_1.toInt ∧ t6_1.toInt ≤ 4100) := btt6_1
  replace btt6_4 : q_F (0 ≤ t6_4.toInt ∧ t6_4.toInt ≤ 1) := btt6_4
  replace btt6_5 : q_F (0 ≤ t6_5.toInt ∧ t6_5.toInt ≤ 1) := btt6_5
  replace btt6_9 : q_F (0 ≤ t6_9.toInt ∧ t6_9.toInt ≤ 12200) := btt6_9
  obtain ⟨btt13_1, hZ9⟩ := n_w153 hI hT13
  obtain ⟨btt13_4, btt13_13⟩ := hZ9
  replace btt13_1 : q_F (0 ≤ t13_1.toInt ∧ t13_1.toInt ≤ 4100) := btt13_1
  replace btt13_4 : q_F (0 ≤ t13_4.toInt ∧ t13_4.toInt ≤ 1) := btt13_4
  replace btt13_13 : q_F (0 ≤ t13_13.toInt ∧ t13_13.toInt ≤ 1) := btt13_13
  have hF : q_un ws ws [116, 119, 120, 121, 122, 123, 134, 135, 136, 137, 138, 139, 140, 153, 154, 155, 156, 167] := q_u0
  have hl : lv_has ls 8 [(0, .ref (q 116)), (1, .int x2), (2, .int x3), (3, .int x4)] := hl
  refine lv_iload_n hx hb d_14_15_0 rfl (lv_at hl 1 rfl) ?_
  refine lv_iload_n hx hb d_14_15_1 rfl (lv_at hl 2 rfl) ?_
  refine q_goi V (q_runS (As := [.int x2, .int x3]) (rest := []) (d := 2) (mc := 0) (ms := 0) C0 V rfl LS_NM_84 (X_NM_no_IIZ l D g q ws  x2 x3 hI   _) rfl hl.1 rfl (Nat.le_of_ble_eq_true rfl) ⟨by decide, by decide⟩ ⟨Nat.le_of_ble_eq_true rfl, Nat.le_of_ble_eq_true rfl⟩ d_14_15_2) (fun a100 u98 H locs hp99 V => ?_)
  obtain ⟨rfl, b101, b102, hE103⟩ := hp99
  have e104 : a100 = (F_NM_no_IIZ x2 x3) := hE103
  clear b101
  clear b102
  refine q_join (X := Int32) (fun z H locs ls _ => q_F (0 ≤ z.toInt) ∧ q_F (z.toInt ≤ 1) ∧ q_Wd D g (va_A ws sz) s ws H locs ∧ lv_has ls 8 [(0, .ref (q 116)), (1, .int x2), (2, .int x3), (3, .int x4)] ∧ F_NM_read_J37 x2 x3 x4 t0_0 t0_1 t0_2 t1_0 t1_1 t1_2 t1_3 t1_4 t1_5 t1_6 t2_0 t3_0 t4_0 t5_0 t6_0 t6_1 t6_2 t6_3 t6_4 t6_5 t6_6 t6_7 t6_8 t6_9 t6_10 t7_0 t8_0 t9_0 t10_0 t11_0 t12_0 t13_0 t13_1 t13_2 t13_3 t13_4 t13_5 t13_6 t13_7 t13_8 t13_9 t13_10 t13_11 t13_12 t13_13 t14_0 t15_0 t16_0 t17_0 t18_0 z = (F_NM_read x2 x3 x4 t0_0 t0_1 t0_2 t1_0 t1_1 t1_2 t1_3 t1_4 t1_5 t1_6 t2_0 t3_0 t4_0 t5_0 t6_0 t6_1 t6_2 t6_3 t6_4 t6_5 t6_6 t6_7 t6_8 t6_9 t6_10 t7_0 t8_0 t9_0 t10_0 t11_0 t12_0 t13_0 t13_1 t13_2 t13_3 t13_4 t13_5 t13_6 t13_7 t13_8 t13_9 t13_10 t13_11 t13_12 t13_13 t14_0 t15_0 t16_0 t17_0 t18_0) ∧ True ∧ S_NM_read_J37 x2 x3 x4 t0_0 t0_1 t0_2 t1_0 t1_1 t1_2 t1_3 t1_4 t1_5 t1_6 t2_0 t3_0 t4_0 t5_0 t6_0 t6_1 t6_2 t6_3 t6_4 t6_5 t6_6 t6_7 t6_8 t6_9 t6_10 t7_0 t8_0 t9_0 t10_0 t11_0 t12_0 t13_0 t13_1 t13_2 t13_3 t13_4 t13_5 t13_6 t13_7 t13_8 t13_9 t13_10 t13_11 t13_12 t13_13 t14_0 t15_0 t16_0 t17_0 t18_0 z) (fun z => [.int z]) 37 0 0 ?_ ?_
  ·
    rintro lx105 H locs ls _ hZ9
    obtain ⟨i126, hZ9⟩ := hZ9
    obtain ⟨i127, hZ9⟩ := hZ9
    obtain ⟨V, hZ9⟩ := hZ9
    obtain ⟨hl, hZ9⟩ := hZ9
    obtain ⟨hR128, hS129⟩ := hZ9
    replace i126 : q_F (0 ≤ lx105.toInt) := i126
    replace i127 : q_F (lx105.toInt ≤ 1) := i127
    replace hl : lv_has ls 8 [(0, .ref (q 116)), (1, .int x2), (2, .int x3), (3, .int x4)] := hl
    refine lv_istore (lv' := [(4, .int lx105), (0, .ref (q 116)), (1, .int x2), (2, .int x3), (3, .int x4)]) hx hb d_14_15_37 hl (by decide) rfl (fun ls hl => ?_)
    refine lv_aload_n hx hb d_14_15_39 rfl (lv_at hl 1 rfl) ?_
    refine lv_iload hx hb d_14_15_40 (lv_at hl 0 rfl) ?_
    refine q_join (X := Int32) (fun z H locs ls _ => q_F (lx105.toInt ≤ z.toInt) ∧ q_F (z.toInt ≤ lx105.toInt) ∧ q_Wd D g (va_A ws sz) s ws H locs ∧ lv_has ls 8 [(4, .int lx105), (0, .ref (q 116)), (1, .int x2), (2, .int x3), (3, .int x4)] ∧ F_NM_read_J50 x2 x3 x4 t0_0 t0_1 t0_2 t1_0 t1_1 t1_2 t1_3 t1_4 t1_5 t1_6 t2_0 t3_0 t4_0 t5_0 t6_0 t6_1 t6_2 t6_3 t6_4 t6_5 t6_6 t6_7 t6_8 t6_9 t6_10 t7_0 t8_0 t9_0 t10_0 t11_0 t12_0 t13_0 t13_1 t13_2 t13_3 t13_4 t13_5 t13_6 t13_7 t13_8 t13_9 t13_10 t13_11 t13_12 t13_13 t14_0 t15_0 t16_0 t17_0 t18_0 lx105 z = (F_NM_read x2 x3 x4 t0_0 t0_1 t0_2 t1_0 t1_1 t1_2 t1_3 t1_4 t1_5 t1_6 t2_0 t3_0 t4_0 t5_0 t6_0 t6_1 t6_2 t6_3 t6_4 t6_5 t6_6 t6_7 t6_8 t6_9 t6_10 t7_0 t8_0 t9_0 t10_0 t11_0 t12_0 t13_0 t13_1 t13_2 t13_3 t13_4 t13_5 t13_6 t13_7 t13_8 t13_9 t13_10 t13_11 t13_12 t13_13 t14_0 t15_0 t16_0 t17_0 t18_0) ∧ True ∧ S_NM_read_J50 x2 x3 x4 t0_0 t0_1 t0_2 t1_0 t1_1 t1_2 t1_3 t1_4 t1_5 t1_6 t2_0 t3_0 t4_0 t5_0 t6_0 t6_1 t6_2 t6_3 t6_4 t6_5 t6_6 t6_7 t6_8 t6_9 t6_10 t7_0 t8_0 t9_0 t10_0 t11_0 t12_0 t13_0 t13_1 t13_2 t13_3 t13_4 t13_5 t13_6 t13_7 t13_8 t13_9 t13_10 t13_11 t13_12 t13_13 t14_0 t15_0 t16_0 t17_0 t18_0 lx105 z) (fun z => [.int z, .ref (q 116)]) 50 0 0 ?_ ?_
    ·
      rintro lx133 H locs ls _ hZ9
      obtain ⟨i154, hZ9⟩ := hZ9
      obtain ⟨i155, hZ9⟩ := hZ9
      obtain ⟨V, hZ9⟩ := hZ9
      obtain ⟨hl, hZ9⟩ := hZ9
      obtain ⟨hR156, hS157⟩ := hZ9
      replace i154 : q_F (lx105.toInt ≤ lx133.toInt) := i154
      replace i155 : q_F (lx133.toInt ≤ lx105.toInt) := i155
      replace hl : lv_has ls 8 [(4, .int lx105), (0, .ref (q 116)), (1, .int x2), (2, .int x3), (3, .int x4)] := hl
      refine q_put (ci := 12) (j := 0) (v := .int lx133) (ty := .int) C0 V i_NM o_NM n_NM rfl rfl hT0 (by decide) w_2298 rfl rfl rfl rfl (Nat.le_of_ble_eq_true rfl) d_14_15_50 (fun H locs w161 hu162 hT0 V => ?_)
      replace hT0 : w161[116]? = (some (q 116, .inr (12, [.int lx133, .ref (q 117), .int t0_1, .ref (q 118), .int t0_2, .ref (q 119), .ref (q 134), .ref (q 145), .ref (q 153), .ref (q 157), .ref (q 167), .ref (q 168)])) : Option (Nat × va_E)) := hT0
      replace hI := n_p116 hI hu162 hT0 (by first | with_reducible exact q_fe btt0_1 | exact ⟨(by have t1 : 0 ≤ t0_1.toInt ∧ t0_1.toInt ≤ 4100 := btt0_1; omega), (by have t1 : 0 ≤ t0_1.toInt ∧ t0_1.toInt ≤ 4100 := btt0_1; omega)⟩) (by first | with_reducible exact q_fe btt0_2 | exact ⟨(by have t1 : 0 ≤ t0_2.toInt ∧ t0_2.toInt ≤ 12200 := btt0_2; omega), (by have t1 : 0 ≤ t0_2.toInt ∧ t0_2.toInt ≤ 12200 := btt0_2; omega)⟩)
      replace hT1 := (hu162 _ (by decide)).trans hT1
      replace hT2 := (hu162 _ (by decide)).trans hT2
      replace hT3 := (hu162 _ (by decide)).trans hT3
      replace hT4 := (hu162 _ (by decide)).trans hT4
      replace hT5 := (hu162 _ (by decide)).trans hT5
      replace hT6 := (hu162 _ (by decide)).trans hT6
      replace hT7 := (hu162 _ (by decide)).trans hT7
      replace hT8 := (hu162 _ (by decide)).trans hT8
      replace hT9 := (hu162 _ (by decide)).trans hT9
      replace hT10 := (hu162 _ (by decide)).trans hT10
      replace hT11 := (hu162 _ (by decide)).trans hT11
      replace hT12 := (hu162 _ (by decide)).trans hT12
      replace hT13 := (hu162 _ (by decide)).trans hT13
      replace hT14 := (hu162 _ (by decide)).trans hT14
      replace hT15 := (hu162 _ (by decide)).trans hT15
      replace hT16 := (hu162 _ (by decide)).trans hT16
      replace hT17 := (hu162 _ (by decide)).trans hT17
      replace hT18 := (hu162 _ (by decide)).trans hT18
      replace hF := q_us hF hu162 (by simp)
      refine lv_iload hx hb d_14_15_53 (lv_at hl 0 rfl) ?_
      refine lv_if_eq (tgt := 60) hx hb d_14_15_55 (by decide) (fun c163 => ?_) (fun c163 => ?_)
      ·
        have b164 : q_F (lx105.toInt = 0) := (q_eqI c163)
        refine lv_iconst (v := 0) hx hb d_14_15_60 (by decide) ?_
        refine lv_istore (lv' := [(5, .int 0), (4, .int lx105), (0, .ref (q 116)), (1, .int x2), (2, .int x3), (3, .int x4)]) hx hb d_14_15_61 hl (by decide) rfl (fun ls hl => ?_)
        refine lv_iload_n hx hb d_14_15_63 rfl (lv_at hl 3 rfl) ?_
        refine lv_if_ne (tgt := 113) hx hb d_14_15_64 (by decide) (fun c165 => ?_) (fun c165 => ?_)
        ·
          refine lv_iload_n hx hb d_14_15_113 rfl (lv_at hl 3 rfl) ?_
          refine lv_iconst (v := 1) hx hb d_14_15_114 (by decide) ?_
          refine lv_icmp_ne (tgt := 163) hx hb d_14_15_115 (by decide) (fun c167 => ?_) (fun c167 => ?_)
          ·
            refine lv_aload_n hx hb d_14_15_163 rfl (lv_at hl 2 rfl) ?_
            refine q_get (ci := 12) (j := 8) (v := .ref (q 153)) C0 V i_NM rfl rfl hT0 (by decide) w_2306 rfl d_14_15_164 ?_
            refine lv_aload_n hx hb d_14_15_167 rfl (lv_at hl 2 rfl) ?_
            refine q_get (ci := 12) (j := 1) (v := .ref (q 117)) C0 V i_NM rfl rfl hT0 (by decide) w_2299 rfl d_14_15_168 ?_
            refine lv_aload_n hx hb d_14_15_171 rfl (lv_at hl 2 rfl) ?_
            refine q_get (ci := 12) (j := 2) (v := .int t0_1) C0 V i_NM rfl rfl hT0 (by decide) w_2300 rfl d_14_15_172 ?_
            refine lv_aload_n hx hb d_14_15_175 rfl (lv_at hl 2 rfl) ?_
            refine q_get (ci := 12) (j := 8) (v := .ref (q 153)) C0 V i_NM rfl rfl hT0 (by decide) w_2306 rfl d_14_15_176 ?_
            refine q_getN (ci := 16) (j := 1) (v := .ref (q 154)) C0 V i_TR rfl rfl hT13 (by decide) wo_2140 rfl d_14_15_179 ?_
            have ob169 : True ∧ S_NM_load (4100 : Int32) t0_1 (4100 : Int32) t17_0 t14_0 := (by have h := hS157; rw [S_NM_read_J50.eq_1] at h; rw [if_pos c163] at h; rw [if_neg c165] at h; rw [if_neg c167] at h; with_reducible exact h.2.1)
            refine q_goi V (q_runS (As := [.ref (q 117), .int t0_1, .ref (q 154)]) (rest := [.ref (q 153)]) (d := 1) (mc := 0) (ms := 0) C0 V rfl LS_NM_90 (X_NM_load l D g q w161 117 4100 (n_r117 g q) 154 4100 (n_r154 g q) t0_1 (by decide) hI t17_0 hT17 t14_0 hT14 ob169 _) rfl hl.1 rfl (Nat.le_of_ble_eq_true rfl) ⟨by decide, by decide⟩ ⟨Nat.le_of_ble_eq_true rfl, Nat.le_of_ble_eq_true rfl⟩ d_14_15_182) (fun a172 u170 H locs hp171 V => ?_)
            obtain ⟨hI, hZ9⟩ := hp171
            obtain ⟨hu180, hZ9⟩ := hZ9
            obtain ⟨f173, hZ9⟩ := hZ9
            obtain ⟨hA174, hZ9⟩ := hZ9
            obtain ⟨b175, hZ9⟩ := hZ9
            replace hZ9 := hZ9.2
            obtain ⟨b177, hZ9⟩ := hZ9
            obtain ⟨-, hE179⟩ := hZ9
            replace hA174 : u170[154]? = (some (q 154, .inl (g 0, (4100 : Int32).toNatClampNeg, .inl f173)) : Option (Nat × va_E)) := hA174
            obtain ⟨p181, e182⟩ : ∃ z, z = (F_NM_load (4100 : Int32) t0_1 (4100 : Int32) t17_0 t14_0) := ⟨_, rfl⟩
            have e183 : a172 = p181.1 := congrArg (fun z => z.1) (hE179.trans e182.symm)
            have e184 : f173 = p181.2 := congrArg (fun z => z.2) (hE179.trans e182.symm)
            replace b175 : q_F (t0_1.toInt ≤ a172.toInt) := b175
            replace b177 : q_F (a172.toInt ≤ 4100) := b177
            replace hT0 := (hu180 _ (by decide)).trans hT0
            replace hT1 := (hu180 _ (by decide)).trans hT1
            replace hT2 := (hu180 _ (by decide)).trans hT2
            replace hT3 := (hu180 _ (by decide)).trans hT3
            replace hT4 := (hu180 _ (by decide)).trans hT4
            replace hT5 := (hu180 _ (by decide)).trans hT5
            replace hT6 := (hu180 _ (by decide)).trans hT6
            replace hT7 := (hu180 _ (by decide)).trans hT7
            replace hT8 := (hu180 _ (by decide)).trans hT8
            replace hT9 := (hu180 _ (by decide)).trans hT9
            replace hT10 := (hu180 _ (by decide)).trans hT10
            replace hT11 := (hu180 _ (by decide)).trans hT11
            replace hT12 := (hu180 _ (by decide)).trans hT12
            replace hT13 := (hu180 _ (by decide)).trans hT13
            replace hT15 := (hu180 _ (by decide)).trans hT15
            replace hT16 := (hu180 _ (by decide)).trans hT16
            replace hT18 := (hu180 _ (by decide)).trans hT18
            replace hF := q_uc hF hu180 (by simp)
            have hR185 := (show F_NM_read_c182 x2 x3 x4 t0_0 t0_1 t0_2 t1_0 t1_1 t1_2 t1_3 t1_4 t1_5 t1_6 t2_0 t3_0 t4_0 t5_0 t6_0 t6_1 t6_2 t6_3 t6_4 t6_5 t6_6 t6_7 t6_8 t6_9 t6_10 t7_0 t8_0 t9_0 t10_0 t11_0 t12_0 t13_0 t13_1 t13_2 t13_3 t13_4 t13_5 t13_6 t13_7 t13_8 t13_9 t13_10 t13_11 t13_12 t13_13 t14_0 t15_0 t16_0 t17_0 t18_0 lx105 lx133 p181 = (F_NM_read x2 x3 x4 t0_0 t0_1 t0_2 t1_0 t1_1 t1_2 t1_3 t1_4 t1_5 t1_6 t2_0 t3_0 t4_0 t5_0 t6_0 t6_1 t6_2 t6_3 t6_4 t6_5 t6_6 t6_7 t6_8 t6_9 t6_10 t7_0 t8_0 t9_0 t10_0 t11_0 t12_0 t13_0 t13_1 t13_2 t13_3 t13_4 t13_5 t13_6 t13_7 t13_8 t13_9 t13_10 t13_11 t13_12 t13_13 t14_0 t15_0 t16_0 t17_0 t18_0) from Eq.trans (by rw [e182, F_NM_read_J50.eq_1, if_pos c163, if_neg c165, if_neg c167]) hR156)
            have hS186 := (show True ∧ S_NM_read_c182 x2 x3 x4 t0_0 t0_1 t0_2 t1_0 t1_1 t1_2 t1_3 t1_4 t1_5 t1_6 t2_0 t3_0 t4_0 t5_0 t6_0 t6_1 t6_2 t6_3 t6_4 t6_5 t6_6 t6_7 t6_8 t6_9 t6_10 t7_0 t8_0 t9_0 t10_0 t11_0 t12_0 t13_0 t13_1 t13_2 t13_3 t13_4 t13_5 t13_6 t13_7 t13_8 t13_9 t13_10 t13_11 t13_12 t13_13 t14_0 t15_0 t16_0 t17_0 t18_0 lx105 lx133 p181 from (by rw [e182]; have h := hS157; rw [S_NM_read_J50.eq_1] at h; rw [if_pos c163] at h; rw [if_neg c165] at h; rw [if_neg c167] at h; replace h := q_s2 h; with_reducible exact h))
            refine q_putN (ci := 16) (j := 2) (v := .int a172) (ty := .int) C0 V i_TR o_TR n_TR rfl rfl hT13 (by decide) wo_2142 rfl rfl rfl rfl (Nat.le_of_ble_eq_true rfl) d_14_15_185 (fun H locs w190 hu191 hT13 V => ?_)
            replace hT13 : w190[153]? = (some (q 153, .inr (16, [.int t13_0, .ref (q 154), .int a172, .int t13_2, .int t13_3, .int t13_4, .ref (q 155), .int t13_5, .int t13_6, .long t13_7, .ref (q 156), .int t13_8, .int t13_9, .long t13_10, .long t13_11, .int t13_12, .int t13_13])) : Option (Nat × va_E)) := hT13
            replace hI := n_p153 hI hu191 hT13 ⟨(by have t1 : 0 ≤ t0_1.toInt ∧ t0_1.toInt ≤ 4100 := btt0_1; have t2 : t0_1.toInt ≤ a172.toInt := b175; omega), (by first | with_reducible exact q_fe b177 | (have t1 : a172.toInt ≤ 4100 := b177; omega))⟩ (by first | with_reducible exact q_fe btt13_4 | exact ⟨(by have t1 : 0 ≤ t13_4.toInt ∧ t13_4.toInt ≤ 1 := btt13_4; omega), (by have t1 : 0 ≤ t13_4.toInt ∧ t13_4.toInt ≤ 1 := btt13_4; omega)⟩) (by first | with_reducible exact q_fe btt13_13 | exact ⟨(by have t1 : 0 ≤ t13_13.toInt ∧ t13_13.toInt ≤ 1 := btt13_13; omega), (by have t1 : 0 ≤ t13_13.toInt ∧ t13_13.toInt ≤ 1 := btt13_13; omega)⟩)
            replace hT0 := (hu191 _ (by decide)).trans hT0
            replace hT1 := (hu191 _ (by decide)).trans hT1
            replace hT2 := (hu191 _ (by decide)).trans hT2
            replace hT3 := (hu191 _ (by decide)).trans hT3
            replace hT4 := (hu191 _ (by decide)).trans hT4
            replace hT5 := (hu191 _ (by decide)).trans hT5
            replace hT6 := (hu191 _ (by decide)).trans hT6
            replace hT7 := (hu191 _ (by decide)).trans hT7
            replace hT8 := (hu191 _ (by decide)).trans hT8
            replace hT9 := (hu191 _ (by decide)).trans hT9
            replace hT10 := (hu191 _ (by decide)).trans hT10
            replace hT11 := (hu191 _ (by decide)).trans hT11
            replace hT12 := (hu191 _ (by decide)).trans hT12
            replace hA174 := (hu191 _ (by decide)).trans hA174
            replace hT15 := (hu191 _ (by decide)).trans hT15
            replace hT16 := (hu191 _ (by decide)).trans hT16
            replace hT18 := (hu191 _ (by decide)).trans hT18
            replace hF := q_us hF hu191 (by simp)
            refine lv_iload_n hx hb d_14_15_188 rfl (lv_at hl 3 rfl) ?_
            refine lv_iconst (v := 2) hx hb d_14_15_189 (by decide) ?_
            refine lv_icmp_ne (tgt := 203) hx hb d_14_15_190 (by decide) (fun c192 => ?_) (fun c192 => ?_)
            ·
              refine lv_aload_n hx hb d_14_15_203 rfl (lv_at hl 2 rfl) ?_
              refine q_get (ci := 12) (j := 8) (v := .ref (q 153)) C0 V i_NM rfl rfl hT0 (by decide) w_2306 rfl d_14_15_204 ?_
              have ob194 : True ∧ S_TR_floatBits t13_0 a172 t13_2 t13_3 t13_4 t13_5 t13_6 t13_7 t13_8 t13_9 t13_10 t13_11 t13_12 t13_13 f173 t15_0 t16_0 := (by rw [e184, e183]; have h := hS186; rw [S_NM_read_c182.eq_1] at h; rw [if_neg c192] at h; with_reducible exact h.2.1)
              refine q_goi V (q_runV (As := []) (rest := []) (d := 6) (mc := 0) (ms := 0) (ci := 16) C0 V rfl LV_NM_113 (X_TR_floatBits l D g q w190   hI t13_0 a172 t13_2 t13_3 t13_4 t13_5 t13_6 t13_7 t13_8 t13_9 t13_10 t13_11 t13_12 t13_13 hT13 f173 hA174 t15_0 hT15 t16_0 hT16 ob194 _) rfl rfl hT13 rfl hl.1 rfl (Nat.le_of_ble_eq_true rfl) ⟨by decide, by decide⟩ ⟨Nat.le_of_ble_eq_true rfl, Nat.le_of_ble_eq_true rfl⟩ d_14_15_207) (fun a197 u195 H locs hp196 V => ?_)
              obtain ⟨hI, hZ9⟩ := hp196
              obtain ⟨hu228, hZ9⟩ := hZ9
              obtain ⟨y199, hZ9⟩ := hZ9
              obtain ⟨y200, hZ9⟩ := hZ9
              obtain ⟨y201, hZ9⟩ := hZ9
              obtain ⟨y202, hZ9⟩ := hZ9
              obtain ⟨y203, hZ9⟩ := hZ9
              obtain ⟨y204, hZ9⟩ := hZ9
              obtain ⟨y205, hZ9⟩ := hZ9
              obtain ⟨y206, hZ9⟩ := hZ9
              obtain ⟨y207, hZ9⟩ := hZ9
              obtain ⟨y208, hZ9⟩ := hZ9
              obtain ⟨y209, hZ9⟩ := hZ9
              obtain ⟨y210, hZ9⟩ := hZ9
              obtain ⟨y211, hZ9⟩ := hZ9
              obtain ⟨y212, hZ9⟩ := hZ9
              obtain ⟨f213, hZ9⟩ := hZ9
              obtain ⟨f215, hZ9⟩ := hZ9
              obtain ⟨hO198, hZ9⟩ := hZ9
              obtain ⟨hA214, hZ9⟩ := hZ9
              obtain ⟨hA216, hZ9⟩ := hZ9
              replace hZ9 := hZ9.2.2.2.2
              obtain ⟨b221, hZ9⟩ := hZ9
              obtain ⟨b222, hZ9⟩ := hZ9
              obtain ⟨b223, hZ9⟩ := hZ9
              obtain ⟨b224, hZ9⟩ := hZ9
              obtain ⟨b225, hZ9⟩ := hZ9
              obtain ⟨b226, hE227⟩ := hZ9
              replace hO198 : u195[153]? = (some (q 153, .inr (16, [.int y199, .ref (q 154), .int y200, .int y201, .int y202, .int y203, .ref (q 155), .int y204, .int y205, .long y206, .ref (q 156), .int y207, .int y208, .long y209, .long y210, .int y211, .int y212])) : Option (Nat × va_E)) := hO198
              replace hA214 : u195[155]? = (some (q 155, .inl (g 0, (4100 : Int32).toNatClampNeg, .inl f213)) : Option (Nat × va_E)) := hA214
              replace hA216 : u195[156]? = (some (q 156, .inl (g 0, (800 : Int32).toNatClampNeg, .inl f215)) : Option (Nat × va_E)) := hA216
              obtain ⟨p229, e230⟩ : ∃ z, z = (F_TR_floatBits t13_0 a172 t13_2 t13_3 t13_4 t13_5 t13_6 t13_7 t13_8 t13_9 t13_10 t13_11 t13_12 t13_13 f173 t15_0 t16_0) := ⟨_, rfl⟩
              have e231 : a197 = p229.1 := congrArg (fun z => z.1) (hE227.trans e230.symm)
              have e232 : y199 = p229.2.1 := congrArg (fun z => z.2.1) (hE227.trans e230.symm)
              have e233 : y200 = p229.2.2.1 := congrArg (fun z => z.2.2.1) (hE227.trans e230.symm)
              have e234 : y201 = p229.2.2.2.1 := congrArg (fun z => z.2.2.2.1) (hE227.trans e230.symm)
              have e235 : y202 = p229.2.2.2.2.1 := congrArg (fun z => z.2.2.2.2.1) (hE227.trans e230.symm)
              have e236 : y203 = p229.2.2.2.2.2.1 := congrArg (fun z => z.2.2.2.2.2.1) (hE227.trans e230.symm)
              have e237 : y204 = p229.2.2.2.2.2.2.1 := congrArg (fun z => z.2.2.2.2.2.2.1) (hE227.trans e230.symm)
              have e238 : y205 = p229.2.2.2.2.2.2.2.1 := congrArg (fun z => z.2.2.2.2.2.2.2.1) (hE227.trans e230.symm)
              have e239 : y206 = p229.2.2.2.2.2.2.2.2.1 := congrArg (fun z => z.2.2.2.2.2.2.2.2.1) (hE227.trans e230.symm)
              have e240 : y207 = p229.2.2.2.2.2.2.2.2.2.1 := congrArg (fun z => z.2.2.2.2.2.2.2.2.2.1) (hE227.trans e230.symm)
              have e241 : y208 = p229.2.2.2.2.2.2.2.2.2.2.1 := congrArg (fun z => z.2.2.2.2.2.2.2.2.2.2.1) (hE227.trans e230.symm)
              have e242 : y209 = p229.2.2.2.2.2.2.2.2.2.2.2.1 := congrArg (fun z => z.2.2.2.2.2.2.2.2.2.2.2.1) (hE227.trans e230.symm)
              have e243 : y210 = p229.2.2.2.2.2.2.2.2.2.2.2.2.1 := congrArg (fun z => z.2.2.2.2.2.2.2.2.2.2.2.2.1) (hE227.trans e230.symm)
              have e244 : y211 = p229.2.2.2.2.2.2.2.2.2.2.2.2.2.1 := congrArg (fun z => z.2.2.2.2.2.2.2.2.2.2.2.2.2.1) (hE227.trans e230.symm)
              have e245 : y212 = p229.2.2.2.2.2.2.2.2.2.2.2.2.2.2.1 := congrArg (fun z => z.2.2.2.2.2.2.2.2.2.2.2.2.2.2.1) (hE227.trans e230.symm)
              have e246 : f213 = p229.2.2.2.2.2.2.2.2.2.2.2.2.2.2.2.1 := congrArg (fun z => z.2.2.2.2.2.2.2.2.2.2.2.2.2.2.2.1) (hE227.trans e230.symm)
              have e247 : f215 = p229.2.2.2.2.2.2.2.2.2.2.2.2.2.2.2.2 := congrArg (fun z => z.2.2.2.2.2.2.2.2.2.2.2.2.2.2.2.2) (hE227.trans e230.symm)
              replace b221 : q_F (0 ≤ y203.toInt) := b221
              replace b222 : q_F (y203.toInt ≤ 1) := b222
              replace b223 : q_F (0 ≤ y212.toInt) := b223
              replace b224 : q_F (y212.toInt ≤ 1) := b224
              replace b225 : q_F (a172.toInt ≤ y200.toInt) := b225
              replace b226 : q_F (y200.toInt ≤ a172.toInt) := b226
              replace hT0 := (hu228 _ (by decide)).trans hT0
              replace hT1 := (hu228 _ (by decide)).trans hT1
              replace hT2 := (hu228 _ (by decide)).trans hT2
              replace hT3 := (hu228 _ (by decide)).trans hT3
              replace hT4 := (hu228 _ (by decide)).trans hT4
              replace hT5 := (hu228 _ (by decide)).trans hT5
              replace hT6 := (hu228 _ (by decide)).trans hT6
              replace hT7 := (hu228 _ (by decide)).trans hT7
              replace hT8 := (hu228 _ (by decide)).trans hT8
              replace hT9 := (hu228 _ (by decide)).trans hT9
              replace hT10 := (hu228 _ (by decide)).trans hT10
              replace hT11 := (hu228 _ (by decide)).trans hT11
              replace hT12 := (hu228 _ (by decide)).trans hT12
              replace hA174 := (hu228 _ (by decide)).trans hA174
              replace hT18 := (hu228 _ (by decide)).trans hT18
              replace hF := q_uc hF hu228 (by simp)
              have hR248 := (show F_NM_read_c207 x2 x3 x4 t0_0 t0_1 t0_2 t1_0 t1_1 t1_2 t1_3 t1_4 t1_5 t1_6 t2_0 t3_0 t4_0 t5_0 t6_0 t6_1 t6_2 t6_3 t6_4 t6_5 t6_6 t6_7 t6_8 t6_9 t6_10 t7_0 t8_0 t9_0 t10_0 t11_0 t12_0 t13_0 t13_1 t13_2 t13_3 t13_4 t13_5 t13_6 t13_7 t13_8 t13_9 t13_10 t13_11 t13_12 t13_13 t14_0 t15_0 t16_0 t17_0 t18_0 lx105 lx133 p181 f173 p229 = (F_NM_read x2 x3 x4 t0_0 t0_1 t0_2 t1_0 t1_1 t1_2 t1_3 t1_4 t1_5 t1_6 t2_0 t3_0 t4_0 t5_0 t6_0 t6_1 t6_2 t6_3 t6_4 t6_5 t6_6 t6_7 t6_8 t6_9 t6_10 t7_0 t8_0 t9_0 t10_0 t11_0 t12_0 t13_0 t13_1 t13_2 t13_3 t13_4 t13_5 t13_6 t13_7 t13_8 t13_9 t13_10 t13_11 t13_12 t13_13 t14_0 t15_0 t16_0 t17_0 t18_0) from Eq.trans (by rw [e230, e184, e183, F_NM_read_c182.eq_1, if_neg c192]) hR185)
              have hS249 := (show True ∧ S_NM_read_c207 x2 x3 x4 t0_0 t0_1 t0_2 t1_0 t1_1 t1_2 t1_3 t1_4 t1_5 t1_6 t2_0 t3_0 t4_0 t5_0 t6_0 t6_1 t6_2 t6_3 t6_4 t6_5 t6_6 t6_7 t6_8 t6_9 t6_10 t7_0 t8_0 t9_0 t10_0 t11_0 t12_0 t13_0 t13_1 t13_2 t13_3 t13_4 t13_5 t13_6 t13_7 t13_8 t13_9 t13_10 t13_11 t13_12 t13_13 t14_0 t15_0 t16_0 t17_0 t18_0 lx105 lx133 p181 f173 p229 from (by rw [e230, e184, e183]; have h := hS186; rw [S_NM_read_c182.eq_1] at h; rw [if_neg c192] at h; replace h := q_s2 h; with_reducible exact h))
              refine lv_i2l hx hb d_14_15_210 rfl ?_
              obtain ⟨j253, e254⟩ := q_nm (a197.toInt64 : Int64)
              refine q_tl (v := j253) e254 ?_
              refine q_ldc2 C0 rfl w_2530 d_14_15_211 ?_
              refine lv_land hx hb d_14_15_214 ?_
              obtain ⟨j256, e257⟩ := q_nm (j253 &&& 4294967295 : Int64)
              refine q_tl (v := j256) e257 ?_
              refine lv_lstore (lv' := [(6, .long j256), (5, .int 0), (4, .int lx105), (0, .ref (q 116)), (1, .int x2), (2, .int x3), (3, .int x4)]) hx hb d_14_15_215 hl (by decide) rfl (fun ls hl => ?_)
              refine lv_aload_n hx hb d_14_15_217 rfl (lv_at hl 3 rfl) ?_
              refine q_get (ci := 12) (j := 8) (v := .ref (q 153)) C0 V i_NM rfl rfl hT0 (by decide) w_2306 rfl d_14_15_218 ?_
              refine q_getN (ci := 16) (j := 0) (v := .int y199) C0 V i_TR rfl rfl hO198 (by decide) wo_2137 rfl d_14_15_221 ?_
              refine lv_iconst (v := 1) hx hb d_14_15_224 (by decide) ?_
              refine q_join (X := Int32) (fun z H locs ls _ => q_F (lx133.toInt ≤ z.toInt) ∧ q_F (z.toInt ≤ lx133.toInt + 2) ∧ q_Wd D g (va_A ws sz) s u195 H locs ∧ lv_has ls 8 [(6, .long j256), (0, .ref (q 116)), (1, .int x2), (2, .int x3)] ∧ F_NM_read_J233 x2 x3 x4 t0_0 t0_1 t0_2 t1_0 t1_1 t1_2 t1_3 t1_4 t1_5 t1_6 t2_0 t3_0 t4_0 t5_0 t6_0 t6_1 t6_2 t6_3 t6_4 t6_5 t6_6 t6_7 t6_8 t6_9 t6_10 t7_0 t8_0 t9_0 t10_0 t11_0 t12_0 t13_0 t13_1 t13_2 t13_3 t13_4 t13_5 t13_6 t13_7 t13_8 t13_9 t13_10 t13_11 t13_12 t13_13 t14_0 t15_0 t16_0 t17_0 t18_0 lx105 lx133 p181 f173 p229 j256 y199 y200 y201 y202 y203 y204 y205 y206 y207 y208 y209 y210 y211 y212 f213 f215 z = (F_NM_read x2 x3 x4 t0_0 t0_1 t0_2 t1_0 t1_1 t1_2 t1_3 t1_4 t1_5 t1_6 t2_0 t3_0 t4_0 t5_0 t6_0 t6_1 t6_2 t6_3 t6_4 t6_5 t6_6 t6_7 t6_8 t6_9 t6_10 t7_0 t8_0 t9_0 t10_0 t11_0 t12_0 t13_0 t13_1 t13_2 t13_3 t13_4 t13_5 t13_6 t13_7 t13_8 t13_9 t13_10 t13_11 t13_12 t13_13 t14_0 t15_0 t16_0 t17_0 t18_0) ∧ True ∧ S_NM_read_J233 x2 x3 x4 t0_0 t0_1 t0_2 t1_0 t1_1 t1_2 t1_3 t1_4 t1_5 t1_6 t2_0 t3_0 t4_0 t5_0 t6_0 t6_1 t6_2 t6_3 t6_4 t6_5 t6_6 t6_7 t6_8 t6_9 t6_10 t7_0 t8_0 t9_0 t10_0 t11_0 t12_0 t13_0 t13_1 t13_2 t13_3 t13_4 t13_5 t13_6 t13_7 t13_8 t13_9 t13_10 t13_11 t13_12 t13_13 t14_0 t15_0 t16_0 t17_0 t18_0 lx105 lx133 p181 f173 p229 j256 y199 y200 y201 y202 y203 y204 y205 y206 y207 y208 y209 y210 y211 y212 f213 f215 z) (fun z => [.int z]) 233 0 0 ?_ ?_
              ·
                rintro lx259 H locs ls _ hZ9
                replace hZ9 := hZ9.2
                obtain ⟨i281, hZ9⟩ := hZ9
                obtain ⟨V, hZ9⟩ := hZ9
                obtain ⟨hl, hZ9⟩ := hZ9
                obtain ⟨hR282, hS283⟩ := hZ9
                replace i281 : q_F (lx259.toInt ≤ lx133.toInt + 2) := i281
                replace hl : lv_has ls 8 [(6, .long j256), (0, .ref (q 116)), (1, .int x2), (2, .int x3)] := hl
                refine lv_istore (lv' := [(5, .int lx259), (6, .long j256), (0, .ref (q 116)), (1, .int x2), (2, .int x3)]) hx hb d_14_15_233 hl (by decide) rfl (fun ls hl => ?_)
                refine lv_iload hx hb d_14_15_235 (lv_at hl 0 rfl) ?_
                refine lv_if_ne (tgt := 248) hx hb d_14_15_237 (by decide) (fun c287 => ?_) (fun c287 => ?_)
                ·
                  have b288 : q_F (lx259.toInt ≠ 0) := (q_neI c287)
                  refine lv_aload_n hx hb d_14_15_248 rfl (lv_at hl 2 rfl) ?_
                  refine lv_iload hx hb d_14_15_249 (lv_at hl 0 rfl) ?_
                  refine lv_iconst (v := 3) hx hb d_14_15_251 (by decide) ?_
                  refine lv_icmp_ne (tgt := 259) hx hb d_14_15_252 (by decide) (fun c289 => ?_) (fun c289 => absurd (show lx259.toInt = 3 from q_eqI c289) (by have t1 : lx133.toInt ≤ lx105.toInt := i155; have t2 : lx105.toInt = 0 := b164; have t3 : lx259.toInt ≤ lx133.toInt + 2 := i281; omega))
                  refine lv_iconst (v := 0) hx hb d_14_15_259 (by decide) ?_
                  refine q_put (ci := 12) (j := 0) (v := .int 0) (ty := .int) C0 V i_NM o_NM n_NM rfl rfl hT0 (by decide) w_2298 rfl rfl rfl rfl (Nat.le_of_ble_eq_true rfl) d_14_15_260 (fun H locs w290 hu291 hT0 V => ?_)
                  replace hT0 : w290[116]? = (some (q 116, .inr (12, [.int 0, .ref (q 117), .int t0_1, .ref (q 118), .int t0_2, .ref (q 119), .ref (q 134), .ref (q 145), .ref (q 153), .ref (q 157), .ref (q 167), .ref (q 168)])) : Option (Nat × va_E)) := hT0
                  replace hI := n_p116 hI hu291 hT0 (by first | with_reducible exact q_fe btt0_1 | exact ⟨(by have t1 : 0 ≤ t0_1.toInt ∧ t0_1.toInt ≤ 4100 := btt0_1; omega), (by have t1 : 0 ≤ t0_1.toInt ∧ t0_1.toInt ≤ 4100 := btt0_1; omega)⟩) (by first | with_reducible exact q_fe btt0_2 | exact ⟨(by have t1 : 0 ≤ t0_2.toInt ∧ t0_2.toInt ≤ 12200 := btt0_2; omega), (by have t1 : 0 ≤ t0_2.toInt ∧ t0_2.toInt ≤ 12200 := btt0_2; omega)⟩)
                  replace hT1 := (hu291 _ (by decide)).trans hT1
                  replace hT2 := (hu291 _ (by decide)).trans hT2
                  replace hT3 := (hu291 _ (by decide)).trans hT3
                  replace hT4 := (hu291 _ (by decide)).trans hT4
                  replace hT5 := (hu291 _ (by decide)).trans hT5
                  replace hT6 := (hu291 _ (by decide)).trans hT6
                  replace hT7 := (hu291 _ (by decide)).trans hT7
                  replace hT8 := (hu291 _ (by decide)).trans hT8
                  replace hT9 := (hu291 _ (by decide)).trans hT9
                  replace hT10 := (hu291 _ (by decide)).trans hT10
                  replace hT11 := (hu291 _ (by decide)).trans hT11
                  replace hT12 := (hu291 _ (by decide)).trans hT12
                  replace hO198 := (hu291 _ (by decide)).trans hO198
                  replace hA174 := (hu291 _ (by decide)).trans hA174
                  replace hA214 := (hu291 _ (by decide)).trans hA214
                  replace hA216 := (hu291 _ (by decide)).trans hA216
                  replace hT18 := (hu291 _ (by decide)).trans hT18
                  replace hF := q_us hF hu291 (by simp)
                  refine lv_aload_n hx hb d_14_15_263 rfl (lv_at hl 2 rfl) ?_
                  refine lv_iload hx hb d_14_15_264 (lv_at hl 0 rfl) ?_
                  refine lv_if_ne (tgt := 273) hx hb d_14_15_266 (by decide) (fun c292 => ?_) (fun c292 => absurd (show lx259.toInt = 0 from q_eqI c292) (by first | with_reducible exact q_fe b288 | (have t1 : lx259.toInt ≠ 0 := b288; omega)))
                  refine lv_aload_n hx hb d_14_15_273 rfl (lv_at hl 2 rfl) ?_
                  refine q_get (ci := 12) (j := 2) (v := .int t0_1) C0 V i_NM rfl rfl hT0 (by decide) w_2300 rfl d_14_15_274 ?_
                  refine q_put (ci := 12) (j := 2) (v := .int t0_1) (ty := .int) C0 V i_NM o_NM n_NM rfl rfl hT0 (by decide) w_2300 rfl rfl rfl rfl (Nat.le_of_ble_eq_true rfl) d_14_15_277 (fun H locs w293 hu294 hT0 V => ?_)
                  replace hT0 : w293[116]? = (some (q 116, .inr (12, [.int 0, .ref (q 117), .int t0_1, .ref (q 118), .int t0_2, .ref (q 119), .ref (q 134), .ref (q 145), .ref (q 153), .ref (q 157), .ref (q 167), .ref (q 168)])) : Option (Nat × va_E)) := hT0
                  replace hI := n_p116 hI hu294 hT0 (by first | with_reducible exact q_fe btt0_1 | exact ⟨(by have t1 : 0 ≤ t0_1.toInt ∧ t0_1.toInt ≤ 4100 := btt0_1; omega), (by have t1 : 0 ≤ t0_1.toInt ∧ t0_1.toInt ≤ 4100 := btt0_1; omega)⟩) (by first | with_reducible exact q_fe btt0_2 | exact ⟨(by have t1 : 0 ≤ t0_2.toInt ∧ t0_2.toInt ≤ 12200 := btt0_2; omega), (by have t1 : 0 ≤ t0_2.toInt ∧ t0_2.toInt ≤ 12200 := btt0_2; omega)⟩)
                  replace hT1 := (hu294 _ (by decide)).trans hT1
                  replace hT2 := (hu294 _ (by decide)).trans hT2
                  replace hT3 := (hu294 _ (by decide)).trans hT3
                  replace hT4 := (hu294 _ (by decide)).trans hT4
                  replace hT5 := (hu294 _ (by decide)).trans hT5
                  replace hT6 := (hu294 _ (by decide)).trans hT6
                  replace hT7 := (hu294 _ (by decide)).trans hT7
                  replace hT8 := (hu294 _ (by decide)).trans hT8
                  replace hT9 := (hu294 _ (by decide)).trans hT9
                  replace hT10 := (hu294 _ (by decide)).trans hT10
                  replace hT11 := (hu294 _ (by decide)).trans hT11
                  replace hT12 := (hu294 _ (by decide)).trans hT12
                  replace hO198 := (hu294 _ (by decide)).trans hO198
                  replace hA174 := (hu294 _ (by decide)).trans hA174
                  replace hA214 := (hu294 _ (by decide)).trans hA214
                  replace hA216 := (hu294 _ (by decide)).trans hA216
                  replace hT18 := (hu294 _ (by decide)).trans hT18
                  replace hF := q_us hF hu294 (by simp)
                  refine lv_iload hx hb d_14_15_280 (lv_at hl 0 rfl) ?_
                  refine lv_if_ne (tgt := 289) hx hb d_14_15_282 (by decide) (fun c295 => ?_) (fun c295 => absurd (show lx259.toInt = 0 from q_eqI c295) (by first | with_reducible exact q_fe b288 | (have t1 : lx259.toInt ≠ 0 := b288; omega)))
                  refine lv_iconst (v := 0) hx hb d_14_15_289 (by decide) ?_
                  exact q_retz C0 V (by decide) (⟨hI, hF, 0, t0_1, t1_0, t1_1, t1_2, t1_3, t1_4, t1_5, t1_6, t2_0, t3_0, t4_0, t5_0, t6_0, t6_1, t6_2, t6_3, t6_4, t6_5, t6_6, t6_7, t6_8, t6_9, t6_10, t7_0, t8_0, t9_0, t10_0, t11_0, t12_0, y199, y200, y201, y202, y203, y204, y205, y206, y207, y208, y209, y210, y211, y212, f173, f213, f215, t18_0, hT0, hT1, hT2, hT3, hT4, hT5, hT6, hT7, hT8, hT9, hT10, hT11, hT12, hO198, hA174, hA214, hA216, hT18, (show 0 ≤ (0 : Int32).toInt from (by have z53 : (0 : Int32).toInt = 0 := rfl; have z54 : (0 : Int32).toInt = 0 := rfl; omega)), (show (0 : Int32).toInt ≤ 1 from (by have z53 : (0 : Int32).toInt = 0 := rfl; have z54 : (0 : Int32).toInt = 0 := rfl; omega)), (show 0 ≤ (0 : Int32).toInt from (by have z53 : (0 : Int32).toInt = 0 := rfl; have z54 : (0 : Int32).toInt = 0 := rfl; omega)), (show (0 : Int32).toInt ≤ 2 from (by have z53 : (0 : Int32).toInt = 0 := rfl; have z54 : (0 : Int32).toInt = 0 := rfl; omega)), (show 0 ≤ t0_1.toInt from (by have z53 : (0 : Int32).toInt = 0 := rfl; have z54 : (0 : Int32).toInt = 0 := rfl; have t1 : 0 ≤ t0_1.toInt ∧ t0_1.toInt ≤ 4100 := btt0_1; omega)), (show t0_1.toInt ≤ 4100 from (by have z53 : (0 : Int32).toInt = 0 := rfl; have z54 : (0 : Int32).toInt = 0 := rfl; have t1 : 0 ≤ t0_1.toInt ∧ t0_1.toInt ≤ 4100 := btt0_1; omega)), (show 0 ≤ t1_2.toInt from (by have z53 : (0 : Int32).toInt = 0 := rfl; have z54 : (0 : Int32).toInt = 0 := rfl; have t1 : 0 ≤ t1_2.toInt ∧ t1_2.toInt ≤ 4100 := btt1_2; omega)), (show t1_2.toInt ≤ 4100 from (by have z53 : (0 : Int32).toInt = 0 := rfl; have z54 : (0 : Int32).toInt = 0 := rfl; have t1 : 0 ≤ t1_2.toInt ∧ t1_2.toInt ≤ 4100 := btt1_2; omega)), (show 0 ≤ t1_3.toInt from (by have z53 : (0 : Int32).toInt = 0 := rfl; have z54 : (0 : Int32).toInt = 0 := rfl; have t1 : 0 ≤ t1_3.toInt ∧ t1_3.toInt ≤ 1 := btt1_3; omega)), (show t1_3.toInt ≤ 1 from (by have z53 : (0 : Int32).toInt = 0 := rfl; have z54 : (0 : Int32).toInt = 0 := rfl; have t1 : 0 ≤ t1_3.toInt ∧ t1_3.toInt ≤ 1 := btt1_3; omega)), (show 0 ≤ t1_4.toInt from (by have z53 : (0 : Int32).toInt = 0 := rfl; have z54 : (0 : Int32).toInt = 0 := rfl; have t1 : 0 ≤ t1_4.toInt ∧ t1_4.toInt ≤ 1 := btt1_4; omega)), (show t1_4.toInt ≤ 1 from (by have z53 : (0 : Int32).toInt = 0 := rfl; have z54 : (0 : Int32).toInt = 0 := rfl; have t1 : 0 ≤ t1_4.toInt ∧ t1_4.toInt ≤ 1 := btt1_4; omega)), (show 0 ≤ t1_5.toInt from (by have z53 : (0 : Int32).toInt = 0 := rfl; have z54 : (0 : Int32).toInt = 0 := rfl; have t1 : 0 ≤ t1_5.toInt ∧ t1_5.toInt ≤ 1 := btt1_5; omega)), (show t1_5.toInt ≤ 1 from (by have z53 : (0 : Int32).toInt = 0 := rfl; have z54 : (0 : Int32).toInt = 0 := rfl; have t1 : 0 ≤ t1_5.toInt ∧ t1_5.toInt ≤ 1 := btt1_5; omega)), (show 0 ≤ t1_6.toInt from (by have z53 : (0 : Int32).toInt = 0 := rfl; have z54 : (0 : Int32).toInt = 0 := rfl; have t1 : 0 ≤ t1_6.toInt ∧ t1_6.toInt ≤ 2100 := btt1_6; omega)), (show t1_6.toInt ≤ 2100 from (by have z53 : (0 : Int32).toInt = 0 := rfl; have z54 : (0 : Int32).toInt = 0 := rfl; have t1 : 0 ≤ t1_6.toInt ∧ t1_6.toInt ≤ 2100 := btt1_6; omega)), (show 0 ≤ t6_1.toInt from (by have z53 : (0 : Int32).toInt = 0 := rfl; have z54 : (0 : Int32).toInt = 0 := rfl; have t1 : 0 ≤ t6_1.toInt ∧ t6_1.toInt ≤ 4100 := btt6_1; omega)), (show t6_1.toInt ≤ 4100 from (by have z53 : (0 : Int32).toInt = 0 := rfl; have z54 : (0 : Int32).toInt = 0 := rfl; have t1 : 0 ≤ t6_1.toInt ∧ t6_1.toInt ≤ 4100 := btt6_1; omega)), (show 0 ≤ t6_4.toInt from (by have z53 : (0 : Int32).toInt = 0 := rfl; have z54 : (0 : Int32).toInt = 0 := rfl; have t1 : 0 ≤ t6_4.toInt ∧ t6_4.toInt ≤ 1 := btt6_4; omega)), (show t6_4.toInt ≤ 1 from (by have z53 : (0 : Int32).toInt = 0 := rfl; have z54 : (0 : Int32).toInt = 0 := rfl; have t1 : 0 ≤ t6_4.toInt ∧ t6_4.toInt ≤ 1 := btt6_4; omega)), (show 0 ≤ t6_5.toInt from (by have z53 : (0 : Int32).toInt = 0 := rfl; have z54 : (0 : Int32).toInt = 0 := rfl; have t1 : 0 ≤ t6_5.toInt ∧ t6_5.toInt ≤ 1 := btt6_5; omega)), (show t6_5.toInt ≤ 1 from (by have z53 : (0 : Int32).toInt = 0 := rfl; have z54 : (0 : Int32).toInt = 0 := rfl; have t1 : 0 ≤ t6_5.toInt ∧ t6_5.toInt ≤ 1 := btt6_5; omega)), (show 0 ≤ t6_9.toInt from (by have z53 : (0 : Int32).toInt = 0 := rfl; have z54 : (0 : Int32).toInt = 0 := rfl; have t1 : 0 ≤ t6_9.toInt ∧ t6_9.toInt ≤ 12200 := btt6_9; omega)), (show t6_9.toInt ≤ 12200 from (by have z53 : (0 : Int32).toInt = 0 := rfl; have z54 : (0 : Int32).toInt = 0 := rfl; have t1 : 0 ≤ t6_9.toInt ∧ t6_9.toInt ≤ 12200 := btt6_9; omega)), (show 0 ≤ y200.toInt from (by have z53 : (0 : Int32).toInt = 0 := rfl; have z54 : (0 : Int32).toInt = 0 := rfl; have t1 : 0 ≤ t0_1.toInt ∧ t0_1.toInt ≤ 4100 := btt0_1; have t2 : t0_1.toInt ≤ a172.toInt := b175; have t3 : a172.toInt ≤ y200.toInt := b225; omega)), (show y200.toInt ≤ 4100 from (by have z53 : (0 : Int32).toInt = 0 := rfl; have z54 : (0 : Int32).toInt = 0 := rfl; have t1 : a172.toInt ≤ 4100 := b177; have t2 : y200.toInt ≤ a172.toInt := b226; omega)), (show 0 ≤ y203.toInt from (by have z53 : (0 : Int32).toInt = 0 := rfl; have z54 : (0 : Int32).toInt = 0 := rfl; have t1 : 0 ≤ y203.toInt := b221; omega)), (show y203.toInt ≤ 1 from (by have z53 : (0 : Int32).toInt = 0 := rfl; have z54 : (0 : Int32).toInt = 0 := rfl; have t1 : y203.toInt ≤ 1 := b222; omega)), (show 0 ≤ y212.toInt from (by have z53 : (0 : Int32).toInt = 0 := rfl; have z54 : (0 : Int32).toInt = 0 := rfl; have t1 : 0 ≤ y212.toInt := b223; omega)), (show y212.toInt ≤ 1 from (by have z53 : (0 : Int32).toInt = 0 := rfl; have z54 : (0 : Int32).toInt = 0 := rfl; have t1 : y212.toInt ≤ 1 := b224; omega)), (show t0_1.toInt ≤ t0_1.toInt from (by have z53 : (0 : Int32).toInt = 0 := rfl; have z54 : (0 : Int32).toInt = 0 := rfl; omega)), (show t1_1.toInt ≤ t1_1.toInt from (by have z53 : (0 : Int32).toInt = 0 := rfl; have z54 : (0 : Int32).toInt = 0 := rfl; omega)), (show t1_1.toInt ≤ t1_1.toInt from (by have z53 : (0 : Int32).toInt = 0 := rfl; have z54 : (0 : Int32).toInt = 0 := rfl; omega)), (show t1_4.toInt ≤ t1_4.toInt from (by have z53 : (0 : Int32).toInt = 0 := rfl; have z54 : (0 : Int32).toInt = 0 := rfl; omega)), (show t1_4.toInt ≤ t1_4.toInt from (by have z53 : (0 : Int32).toInt = 0 := rfl; have z54 : (0 : Int32).toInt = 0 := rfl; omega)), (show t1_5.toInt ≤ t1_5.toInt from (by have z53 : (0 : Int32).toInt = 0 := rfl; have z54 : (0 : Int32).toInt = 0 := rfl; omega)), (show t1_5.toInt ≤ t1_5.toInt from (by have z53 : (0 : Int32).toInt = 0 := rfl; have z54 : (0 : Int32).toInt = 0 := rfl; omega)), (show t1_6.toInt ≤ t1_6.toInt from (by have z53 : (0 : Int32).toInt = 0 := rfl; have z54 : (0 : Int32).toInt = 0 := rfl; omega)), (show t1_6.toInt ≤ t1_6.toInt from (by have z53 : (0 : Int32).toInt = 0 := rfl; have z54 : (0 : Int32).toInt = 0 := rfl; omega)), (show t6_4.toInt ≤ t6_4.toInt from (by have z53 : (0 : Int32).toInt = 0 := rfl; have z54 : (0 : Int32).toInt = 0 := rfl; omega)), (show t6_6.toInt ≤ t6_6.toInt from (by have z53 : (0 : Int32).toInt = 0 := rfl; have z54 : (0 : Int32).toInt = 0 := rfl; omega)), (show t6_6.toInt ≤ t6_6.toInt from (by have z53 : (0 : Int32).toInt = 0 := rfl; have z54 : (0 : Int32).toInt = 0 := rfl; omega)), (show t6_7.toInt ≤ t6_7.toInt from (by have z53 : (0 : Int32).toInt = 0 := rfl; have z54 : (0 : Int32).toInt = 0 := rfl; omega)), (show t6_7.toInt ≤ t6_7.toInt from (by have z53 : (0 : Int32).toInt = 0 := rfl; have z54 : (0 : Int32).toInt = 0 := rfl; omega)), (show t6_8.toInt ≤ t6_8.toInt from (by have z53 : (0 : Int32).toInt = 0 := rfl; have z54 : (0 : Int32).toInt = 0 := rfl; omega)), (show t6_8.toInt ≤ t6_8.toInt from (by have z53 : (0 : Int32).toInt = 0 := rfl; have z54 : (0 : Int32).toInt = 0 := rfl; omega)), (show t6_9.toInt ≤ t6_9.toInt from (by have z53 : (0 : Int32).toInt = 0 := rfl; have z54 : (0 : Int32).toInt = 0 := rfl; omega)), (show t6_9.toInt ≤ t6_9.toInt from (by have z53 : (0 : Int32).toInt = 0 := rfl; have z54 : (0 : Int32).toInt = 0 := rfl; omega)), (show ((0 : Int32), (0 : Int32), t0_1, t1_0, t1_1, t1_2, t1_3, t1_4, t1_5, t1_6, t2_0, t3_0, t4_0, t5_0, t6_0, t6_1, t6_2, t6_3, t6_4, t6_5, t6_6, t6_7, t6_8, t6_9, t6_10, t7_0, t8_0, t9_0, t10_0, t11_0, t12_0, y199, y200, y201, y202, y203, y204, y205, y206, y207, y208, y209, y210, y211, y212, f173, f213, f215, t18_0) = (F_NM_read x2 x3 x4 t0_0 t0_1 t0_2 t1_0 t1_1 t1_2 t1_3 t1_4 t1_5 t1_6 t2_0 t3_0 t4_0 t5_0 t6_0 t6_1 t6_2 t6_3 t6_4 t6_5 t6_6 t6_7 t6_8 t6_9 t6_10 t7_0 t8_0 t9_0 t10_0 t11_0 t12_0 t13_0 t13_1 t13_2 t13_3 t13_4 t13_5 t13_6 t13_7 t13_8 t13_9 t13_10 t13_11 t13_12 t13_13 t14_0 t15_0 t16_0 t17_0 t18_0) from Eq.trans (by rw [F_NM_read_J233.eq_1, if_neg c287]) hR282)⟩) d_14_15_290
                ·
                  have b296 : q_F (lx259.toInt = 0) := (q_eqI c287)
                  refine lv_aload_n hx hb d_14_15_240 rfl (lv_at hl 2 rfl) ?_
                  refine lv_iload_n hx hb d_14_15_241 rfl (lv_at hl 3 rfl) ?_
                  refine lv_iload_n hx hb d_14_15_242 rfl (lv_at hl 4 rfl) ?_
                  refine lv_lload hx hb d_14_15_243 (lv_at hl 1 rfl) ?_
                  have ob297 : True ∧ S_NM_setBits x2 x3 j256 lx133 t0_1 t0_2 t18_0 := (by have h := hS283; rw [S_NM_read_J233.eq_1] at h; rw [if_pos c287] at h; with_reducible exact h.2.1)
                  refine q_gov V (q_runV (As := [.int x2, .int x3, .long j256]) (rest := []) (d := 1) (mc := 0) (ms := 0) (ci := 12) C0 V rfl LV_NM_120 (X_NM_setBits l D g q u195  x2 x3 j256 hI lx133 t0_1 t0_2 hT0 t18_0 hT18 ob297 _) rfl rfl hT0 rfl hl.1 rfl (Nat.le_of_ble_eq_true rfl) ⟨by decide, by decide⟩ ⟨Nat.le_of_ble_eq_true rfl, Nat.le_of_ble_eq_true rfl⟩ d_14_15_245) (fun u298 H locs hp299 V => ?_)
                  obtain ⟨hI, hu303, f300, hA301, hE302⟩ := hp299
                  replace hA301 : u298[167]? = (some (q 167, .inl (g 1, 20, .inr (.inl f300))) : Option (Nat × va_E)) := hA301
                  have e304 : f300 = (F_NM_setBits x2 x3 j256 lx133 t0_1 t0_2 t18_0) := hE302
                  replace hT0 := (hu303 _ (by decide)).trans hT0
                  replace hT1 := (hu303 _ (by decide)).trans hT1
                  replace hT2 := (hu303 _ (by decide)).trans hT2
                  replace hT3 := (hu303 _ (by decide)).trans hT3
                  replace hT4 := (hu303 _ (by decide)).trans hT4
                  replace hT5 := (hu303 _ (by decide)).trans hT5
                  replace hT6 := (hu303 _ (by decide)).trans hT6
                  replace hT7 := (hu303 _ (by decide)).trans hT7
                  replace hT8 := (hu303 _ (by decide)).trans hT8
                  replace hT9 := (hu303 _ (by decide)).trans hT9
                  replace hT10 := (hu303 _ (by decide)).trans hT10
                  replace hT11 := (hu303 _ (by decide)).trans hT11
                  replace hT12 := (hu303 _ (by decide)).trans hT12
                  replace hO198 := (hu303 _ (by decide)).trans hO198
                  replace hA174 := (hu303 _ (by decide)).trans hA174
                  replace hA214 := (hu303 _ (by decide)).trans hA214
                  replace hA216 := (hu303 _ (by decide)).trans hA216
                  replace hF := q_uc hF hu303 (by simp)
                  refine lv_aload_n hx hb d_14_15_248 rfl (lv_at hl 2 rfl) ?_
                  refine lv_iload hx hb d_14_15_249 (lv_at hl 0 rfl) ?_
                  refine lv_iconst (v := 3) hx hb d_14_15_251 (by decide) ?_
                  refine lv_icmp_ne (tgt := 259) hx hb d_14_15_252 (by decide) (fun c305 => ?_) (fun c305 => absurd (show lx259.toInt = 3 from q_eqI c305) (by first | with_reducible exact q_fe b296 | (have t1 : lx259.toInt = 0 := b296; omega)))
                  refine lv_iconst (v := 0) hx hb d_14_15_259 (by decide) ?_
                  refine q_put (ci := 12) (j := 0) (v := .int 0) (ty := .int) C0 V i_NM o_NM n_NM rfl rfl hT0 (by decide) w_2298 rfl rfl rfl rfl (Nat.le_of_ble_eq_true rfl) d_14_15_260 (fun H locs w306 hu307 hT0 V => ?_)
                  replace hT0 : w306[116]? = (some (q 116, .inr (12, [.int 0, .ref (q 117), .int t0_1, .ref (q 118), .int t0_2, .ref (q 119), .ref (q 134), .ref (q 145), .ref (q 153), .ref (q 157), .ref (q 167), .ref (q 168)])) : Option (Nat × va_E)) := hT0
                  replace hI := n_p116 hI hu307 hT0 (by first | with_reducible exact q_fe btt0_1 | exact ⟨(by have t1 : 0 ≤ t0_1.toInt ∧ t0_1.toInt ≤ 4100 := btt0_1; omega), (by have t1 : 0 ≤ t0_1.toInt ∧ t0_1.toInt ≤ 4100 := btt0_1; omega)⟩) (by first | with_reducible exact q_fe btt0_2 | exact ⟨(by have t1 : 0 ≤ t0_2.toInt ∧ t0_2.toInt ≤ 12200 := btt0_2; omega), (by have t1 : 0 ≤ t0_2.toInt ∧ t0_2.toInt ≤ 12200 := btt0_2; omega)⟩)
                  replace hT1 := (hu307 _ (by decide)).trans hT1
                  replace hT2 := (hu307 _ (by decide)).trans hT2
                  replace hT3 := (hu307 _ (by decide)).trans hT3
                  replace hT4 := (hu307 _ (by decide)).trans hT4
                  replace hT5 := (hu307 _ (by decide)).trans hT5
                  replace hT6 := (hu307 _ (by decide)).trans hT6
                  replace hT7 := (hu307 _ (by decide)).trans hT7
                  replace hT8 := (hu307 _ (by decide)).trans hT8
                  replace hT9 := (hu307 _ (by decide)).trans hT9
                  replace hT10 := (hu307 _ (by decide)).trans hT10
                  replace hT11 := (hu307 _ (by decide)).trans hT11
                  replace hT12 := (hu307 _ (by decide)).trans hT12
                  replace hO198 := (hu307 _ (by decide)).trans hO198
                  replace hA174 := (hu307 _ (by decide)).trans hA174
                  replace hA214 := (hu307 _ (by decide)).trans hA214
                  replace hA216 := (hu307 _ (by decide)).trans hA216
                  replace hA301 := (hu307 _ (by decide)).trans hA301
                  replace hF := q_us hF hu307 (by simp)
                  refine lv_aload_n hx hb d_14_15_263 rfl (lv_at hl 2 rfl) ?_
                  refine lv_iload hx hb d_14_15_264 (lv_at hl 0 rfl) ?_
                  refine lv_if_ne (tgt := 273) hx hb d_14_15_266 (by decide) (fun c308 => absurd (show lx259.toInt ≠ 0 from q_neI c308) (by first | with_reducible exact q_fe b296 | (have t1 : lx259.toInt = 0 := b296; omega))) (fun c308 => ?_)
                  refine lv_iconst (v := 0) hx hb d_14_15_269 (by decide) ?_
                  refine lv_goto (tgt := 277) hx hb d_14_15_270 (by decide) ?_
                  refine q_put (ci := 12) (j := 2) (v := .int 0) (ty := .int) C0 V i_NM o_NM n_NM rfl rfl hT0 (by decide) w_2300 rfl rfl rfl rfl (Nat.le_of_ble_eq_true rfl) d_14_15_277 (fun H locs w309 hu310 hT0 V => ?_)
                  replace hT0 : w309[116]? = (some (q 116, .inr (12, [.int 0, .ref (q 117), .int 0, .ref (q 118), .int t0_2, .ref (q 119), .ref (q 134), .ref (q 145), .ref (q 153), .ref (q 157), .ref (q 167), .ref (q 168)])) : Option (Nat × va_E)) := hT0
                  replace hI := n_p116 hI hu310 hT0 ⟨(by have z9 : (0 : Int32).toInt = 0 := rfl; omega), (by have z9 : (0 : Int32).toInt = 0 := rfl; omega)⟩ (by first | with_reducible exact q_fe btt0_2 | exact ⟨(by have t1 : 0 ≤ t0_2.toInt ∧ t0_2.toInt ≤ 12200 := btt0_2; omega), (by have t1 : 0 ≤ t0_2.toInt ∧ t0_2.toInt ≤ 12200 := btt0_2; omega)⟩)
                  replace hT1 := (hu310 _ (by decide)).trans hT1
                  replace hT2 := (hu310 _ (by decide)).trans hT2
                  replace hT3 := (hu310 _ (by decide)).trans hT3
                  replace hT4 := (hu310 _ (by decide)).trans hT4
                  replace hT5 := (hu310 _ (by decide)).trans hT5
                  replace hT6 := (hu310 _ (by decide)).trans hT6
                  replace hT7 := (hu310 _ (by decide)).trans hT7
                  replace hT8 := (hu310 _ (by decide)).trans hT8
                  replace hT9 := (hu310 _ (by decide)).trans hT9
                  replace hT10 := (hu310 _ (by decide)).trans hT10
                  replace hT11 := (hu310 _ (by decide)).trans hT11
                  replace hT12 := (hu310 _ (by decide)).trans hT12
                  replace hO198 := (hu310 _ (by decide)).trans hO198
                  replace hA174 := (hu310 _ (by decide)).trans hA174
                  replace hA214 := (hu310 _ (by decide)).trans hA214
                  replace hA216 := (hu310 _ (by decide)).trans hA216
                  replace hA301 := (hu310 _ (by decide)).trans hA301
                  replace hF := q_us hF hu310 (by simp)
                  refine lv_iload hx hb d_14_15_280 (lv_at hl 0 rfl) ?_
                  refine lv_if_ne (tgt := 289) hx hb d_14_15_282 (by decide) (fun c311 => absurd (show lx259.toInt ≠ 0 from q_neI c311) (by first | with_reducible exact q_fe b296 | (have t1 : lx259.toInt = 0 := b296; omega))) (fun c311 => ?_)
                  refine lv_iconst (v := 1) hx hb d_14_15_285 (by decide) ?_
                  refine lv_goto (tgt := 290) hx hb d_14_15_286 (by decide) ?_
                  exact q_retz C0 V (by decide) (⟨hI, hF, 0, 0, t1_0, t1_1, t1_2, t1_3, t1_4, t1_5, t1_6, t2_0, t3_0, t4_0, t5_0, t6_0, t6_1, t6_2, t6_3, t6_4, t6_5, t6_6, t6_7, t6_8, t6_9, t6_10, t7_0, t8_0, t9_0, t10_0, t11_0, t12_0, y199, y200, y201, y202, y203, y204, y205, y206, y207, y208, y209, y210, y211, y212, f173, f213, f215, f300, hT0, hT1, hT2, hT3, hT4, hT5, hT6, hT7, hT8, hT9, hT10, hT11, hT12, hO198, hA174, hA214, hA216, hA301, (show 0 ≤ (1 : Int32).toInt from (by have z53 : (1 : Int32).toInt = 1 := rfl; have z54 : (0 : Int32).toInt = 0 := rfl; have z55 : (0 : Int32).toInt = 0 := rfl; omega)), (show (1 : Int32).toInt ≤ 1 from (by have z53 : (1 : Int32).toInt = 1 := rfl; have z54 : (0 : Int32).toInt = 0 := rfl; have z55 : (0 : Int32).toInt = 0 := rfl; omega)), (show 0 ≤ (0 : Int32).toInt from (by have z53 : (1 : Int32).toInt = 1 := rfl; have z54 : (0 : Int32).toInt = 0 := rfl; have z55 : (0 : Int32).toInt = 0 := rfl; omega)), (show (0 : Int32).toInt ≤ 2 from (by have z53 : (1 : Int32).toInt = 1 := rfl; have z54 : (0 : Int32).toInt = 0 := rfl; have z55 : (0 : Int32).toInt = 0 := rfl; omega)), (show 0 ≤ (0 : Int32).toInt from (by have z53 : (1 : Int32).toInt = 1 := rfl; have z54 : (0 : Int32).toInt = 0 := rfl; have z55 : (0 : Int32).toInt = 0 := rfl; omega)), (show (0 : Int32).toInt ≤ 4100 from (by have z53 : (1 : Int32).toInt = 1 := rfl; have z54 : (0 : Int32).toInt = 0 := rfl; have z55 : (0 : Int32).toInt = 0 := rfl; omega)), (show 0 ≤ t1_2.toInt from (by have z53 : (1 : Int32).toInt = 1 := rfl; have z54 : (0 : Int32).toInt = 0 := rfl; have z55 : (0 : Int32).toInt = 0 := rfl; have t1 : 0 ≤ t1_2.toInt ∧ t1_2.toInt ≤ 4100 := btt1_2; omega)), (show t1_2.toInt ≤ 4100 from (by have z53 : (1 : Int32).toInt = 1 := rfl; have z54 : (0 : Int32).toInt = 0 := rfl; have z55 : (0 : Int32).toInt = 0 := rfl; have t1 : 0 ≤ t1_2.toInt ∧ t1_2.toInt ≤ 4100 := btt1_2; omega)), (show 0 ≤ t1_3.toInt from (by have z53 : (1 : Int32).toInt = 1 := rfl; have z54 : (0 : Int32).toInt = 0 := rfl; have z55 : (0 : Int32).toInt = 0 := rfl; have t1 : 0 ≤ t1_3.toInt ∧ t1_3.toInt ≤ 1 := btt1_3; omega)), (show t1_3.toInt ≤ 1 from (by have z53 : (1 : Int32).toInt = 1 := rfl; have z54 : (0 : Int32).toInt = 0 := rfl; have z55 : (0 : Int32).toInt = 0 := rfl; have t1 : 0 ≤ t1_3.toInt ∧ t1_3.toInt ≤ 1 := btt1_3; omega)), (show 0 ≤ t1_4.toInt from (by have z53 : (1 : Int32).toInt = 1 := rfl; have z54 : (0 : Int32).toInt = 0 := rfl; have z55 : (0 : Int32).toInt = 0 := rfl; have t1 : 0 ≤ t1_4.toInt ∧ t1_4.toInt ≤ 1 := btt1_4; omega)), (show t1_4.toInt ≤ 1 from (by have z53 : (1 : Int32).toInt = 1 := rfl; have z54 : (0 : Int32).toInt = 0 := rfl; have z55 : (0 : Int32).toInt = 0 := rfl; have t1 : 0 ≤ t1_4.toInt ∧ t1_4.toInt ≤ 1 := btt1_4; omega)), (show 0 ≤ t1_5.toInt from (by have z53 : (1 : Int32).toInt = 1 := rfl; have z54 : (0 : Int32).toInt = 0 := rfl; have z55 : (0 : Int32).toInt = 0 := rfl; have t1 : 0 ≤ t1_5.toInt ∧ t1_5.toInt ≤ 1 := btt1_5; omega)), (show t1_5.toInt ≤ 1 from (by have z53 : (1 : Int32).toInt = 1 := rfl; have z54 : (0 : Int32).toInt = 0 := rfl; have z55 : (0 : Int32).toInt = 0 := rfl; have t1 : 0 ≤ t1_5.toInt ∧ t1_5.toInt ≤ 1 := btt1_5; omega)), (show 0 ≤ t1_6.toInt from (by have z53 : (1 : Int32).toInt = 1 := rfl; have z54 : (0 : Int32).toInt = 0 := rfl; have z55 : (0 : Int32).toInt = 0 := rfl; have t1 : 0 ≤ t1_6.toInt ∧ t1_6.toInt ≤ 2100 := btt1_6; omega)), (show t1_6.toInt ≤ 2100 from (by have z53 : (1 : Int32).toInt = 1 := rfl; have z54 : (0 : Int32).toInt = 0 := rfl; have z55 : (0 : Int32).toInt = 0 := rfl; have t1 : 0 ≤ t1_6.toInt ∧ t1_6.toInt ≤ 2100 := btt1_6; omega)), (show 0 ≤ t6_1.toInt from (by have z53 : (1 : Int32).toInt = 1 := rfl; have z54 : (0 : Int32).toInt = 0 := rfl; have z55 : (0 : Int32).toInt = 0 := rfl; have t1 : 0 ≤ t6_1.toInt ∧ t6_1.toInt ≤ 4100 := btt6_1; omega)), (show t6_1.toInt ≤ 4100 from (by have z53 : (1 : Int32).toInt = 1 := rfl; have z54 : (0 : Int32).toInt = 0 := rfl; have z55 : (0 : Int32).toInt = 0 := rfl; have t1 : 0 ≤ t6_1.toInt ∧ t6_1.toInt ≤ 4100 := btt6_1; omega)), (show 0 ≤ t6_4.toInt from (by have z53 : (1 : Int32).toInt = 1 := rfl; have z54 : (0 : Int32).toInt = 0 := rfl; have z55 : (0 : Int32).toInt = 0 := rfl; have t1 : 0 ≤ t6_4.toInt ∧ t6_4.toInt ≤ 1 := btt6_4; omega)), (show t6_4.toInt ≤ 1 from (by have z53 : (1 : Int32).toInt = 1 := rfl; have z54 : (0 : Int32).toInt = 0 := rfl; have z55 : (0 : Int32).toInt = 0 := rfl; have t1 : 0 ≤ t6_4.toInt ∧ t6_4.toInt ≤ 1 := btt6_4; omega)), (show 0 ≤ t6_5.toInt from (by have z53 : (1 : Int32).toInt = 1 := rfl; have z54 : (0 : Int32).toInt = 0 := rfl; have z55 : (0 : Int32).toInt = 0 := rfl; have t1 : 0 ≤ t6_5.toInt ∧ t6_5.toInt ≤ 1 := btt6_5; omega)), (show t6_5.toInt ≤ 1 from (by have z53 : (1 : Int32).toInt = 1 := rfl; have z54 : (0 : Int32).toInt = 0 := rfl; have z55 : (0 : Int32).toInt = 0 := rfl; have t1 : 0 ≤ t6_5.toInt ∧ t6_5.toInt ≤ 1 := btt6_5; omega)), (show 0 ≤ t6_9.toInt from (by have z53 : (1 : Int32).toInt = 1 := rfl; have z54 : (0 : Int32).toInt = 0 := rfl; have z55 : (0 : Int32).toInt = 0 := rfl; have t1 : 0 ≤ t6_9.toInt ∧ t6_9.toInt ≤ 12200 := btt6_9; omega)), (show t6_9.toInt ≤ 12200 from (by have z53 : (1 : Int32).toInt = 1 := rfl; have z54 : (0 : Int32).toInt = 0 := rfl; have z55 : (0 : Int32).toInt = 0 := rfl; have t1 : 0 ≤ t6_9.toInt ∧ t6_9.toInt ≤ 12200 := btt6_9; omega)), (show 0 ≤ y200.toInt from (by have z53 : (1 : Int32).toInt = 1 := rfl; have z54 : (0 : Int32).toInt = 0 := rfl; have z55 : (0 : Int32).toInt = 0 := rfl; have t1 : 0 ≤ t0_1.toInt ∧ t0_1.toInt ≤ 4100 := btt0_1; have t2 : t0_1.toInt ≤ a172.toInt := b175; have t3 : a172.toInt ≤ y200.toInt := b225; omega)), (show y200.toInt ≤ 4100 from (by have z53 : (1 : Int32).toInt = 1 := rfl; have z54 : (0 : Int32).toInt = 0 := rfl; have z55 : (0 : Int32).toInt = 0 := rfl; have t1 : a172.toInt ≤ 4100 := b177; have t2 : y200.toInt ≤ a172.toInt := b226; omega)), (show 0 ≤ y203.toInt from (by have z53 : (1 : Int32).toInt = 1 := rfl; have z54 : (0 : Int32).toInt = 0 := rfl; have z55 : (0 : Int32).toInt = 0 := rfl; have t1 : 0 ≤ y203.toInt := b221; omega)), (show y203.toInt ≤ 1 from (by have z53 : (1 : Int32).toInt = 1 := rfl; have z54 : (0 : Int32).toInt = 0 := rfl; have z55 : (0 : Int32).toInt = 0 := rfl; have t1 : y203.toInt ≤ 1 := b222; omega)), (show 0 ≤ y212.toInt from (by have z53 : (1 : Int32).toInt = 1 := rfl; have z54 : (0 : Int32).toInt = 0 := rfl; have z55 : (0 : Int32).toInt = 0 := rfl; have t1 : 0 ≤ y212.toInt := b223; omega)), (show y212.toInt ≤ 1 from (by have z53 : (1 : Int32).toInt = 1 := rfl; have z54 : (0 : Int32).toInt = 0 := rfl; have z55 : (0 : Int32).toInt = 0 := rfl; have t1 : y212.toInt ≤ 1 := b224; omega)), (show (0 : Int32).toInt ≤ t0_1.toInt from (by have z53 : (1 : Int32).toInt = 1 := rfl; have z54 : (0 : Int32).toInt = 0 := rfl; have z55 : (0 : Int32).toInt = 0 := rfl; have t1 : 0 ≤ t0_1.toInt ∧ t0_1.toInt ≤ 4100 := btt0_1; omega)), (show t1_1.toInt ≤ t1_1.toInt from (by have z53 : (1 : Int32).toInt = 1 := rfl; have z54 : (0 : Int32).toInt = 0 := rfl; have z55 : (0 : Int32).toInt = 0 := rfl; omega)), (show t1_1.toInt ≤ t1_1.toInt from (by have z53 : (1 : Int32).toInt = 1 := rfl; have z54 : (0 : Int32).toInt = 0 := rfl; have z55 : (0 : Int32).toInt = 0 := rfl; omega)), (show t1_4.toInt ≤ t1_4.toInt from (by have z53 : (1 : Int32).toInt = 1 := rfl; have z54 : (0 : Int32).toInt = 0 := rfl; have z55 : (0 : Int32).toInt = 0 := rfl; omega)), (show t1_4.toInt ≤ t1_4.toInt from (by have z53 : (1 : Int32).toInt = 1 := rfl; have z54 : (0 : Int32).toInt = 0 := rfl; have z55 : (0 : Int32).toInt = 0 := rfl; omega)), (show t1_5.toInt ≤ t1_5.toInt from (by have z53 : (1 : Int32).toInt = 1 := rfl; have z54 : (0 : Int32).toInt = 0 := rfl; have z55 : (0 : Int32).toInt = 0 := rfl; omega)), (show t1_5.toInt ≤ t1_5.toInt from (by have z53 : (1 : Int32).toInt = 1 := rfl; have z54 : (0 : Int32).toInt = 0 := rfl; have z55 : (0 : Int32).toInt = 0 := rfl; omega)), (show t1_6.toInt ≤ t1_6.toInt from (by have z53 : (1 : Int32).toInt = 1 := rfl; have z54 : (0 : Int32).toInt = 0 := rfl; have z55 : (0 : Int32).toInt = 0 := rfl; omega)), (show t1_6.toInt ≤ t1_6.toInt from (by have z53 : (1 : Int32).toInt = 1 := rfl; have z54 : (0 : Int32).toInt = 0 := rfl; have z55 : (0 : Int32).toInt = 0 := rfl; omega)), (show t6_4.toInt ≤ t6_4.toInt from (by have z53 : (1 : Int32).toInt = 1 := rfl; have z54 : (0 : Int32).toInt = 0 := rfl; have z55 : (0 : Int32).toInt = 0 := rfl; omega)), (show t6_6.toInt ≤ t6_6.toInt from (by have z53 : (1 : Int32).toInt = 1 := rfl; have z54 : (0 : Int32).toInt = 0 := rfl; have z55 : (0 : Int32).toInt = 0 := rfl; omega)), (show t6_6.toInt ≤ t6_6.toInt from (by have z53 : (1 : Int32).toInt = 1 := rfl; have z54 : (0 : Int32).toInt = 0 := rfl; have z55 : (0 : Int32).toInt = 0 := rfl; omega)), (show t6_7.toInt ≤ t6_7.toInt from (by have z53 : (1 : Int32).toInt = 1 := rfl; have z54 : (0 : Int32).toInt = 0 := rfl; have z55 : (0 : Int32).toInt = 0 := rfl; omega)), (show t6_7.toInt ≤ t6_7.toInt from (by have z53 : (1 : Int32).toInt = 1 := rfl; have z54 : (0 : Int32).toInt = 0 := rfl; have z55 : (0 : Int32).toInt = 0 := rfl; omega)), (show t6_8.toInt ≤ t6_8.toInt from (by have z53 : (1 : Int32).toInt = 1 := rfl; have z54 : (0 : Int32).toInt = 0 := rfl; have z55 : (0 : Int32).toInt = 0 := rfl; omega)), (show t6_8.toInt ≤ t6_8.toInt from (by have z53 : (1 : Int32).toInt = 1 := rfl; have z54 : (0 : Int32).toInt = 0 := rfl; have z55 : (0 : Int32).toInt = 0 := rfl; omega)), (show t6_9.toInt ≤ t6_9.toInt from (by have z53 : (1 : Int32).toInt = 1 := rfl; have z54 : (0 : Int32).toInt = 0 := rfl; have z55 : (0 : Int32).toInt = 0 := rfl; omega)), (show t6_9.toInt ≤ t6_9.toInt from (by have z53 : (1 : Int32).toInt = 1 := rfl; have z54 : (0 : Int32).toInt = 0 := rfl; have z55 : (0 : Int32).toInt = 0 := rfl; omega)), (show ((1 : Int32), (0 : Int32), (0 : Int32), t1_0, t1_1, t1_2, t1_3, t1_4, t1_5, t1_6, t2_0, t3_0, t4_0, t5_0, t6_0, t6_1, t6_2, t6_3, t6_4, t6_5, t6_6, t6_7, t6_8, t6_9, t6_10, t7_0, t8_0, t9_0, t10_0, t11_0, t12_0, y199, y200, y201, y202, y203, y204, y205, y206, y207, y208, y209, y210, y211, y212, f173, f213, f215, f300) = (F_NM_read x2 x3 x4 t0_0 t0_1 t0_2 t1_0 t1_1 t1_2 t1_3 t1_4 t1_5 t1_6 t2_0 t3_0 t4_0 t5_0 t6_0 t6_1 t6_2 t6_3 t6_4 t6_5 t6_6 t6_7 t6_8 t6_9 t6_10 t7_0 t8_0 t9_0 t10_0 t11_0 t12_0 t13_0 t13_1 t13_2 t13_3 t13_4 t13_5 t13_6 t13_7 t13_8 t13_9 t13_10 t13_11 t13_12 t13_13 t14_0 t15_0 t16_0 t17_0 t18_0) from Eq.trans (by rw [e304, F_NM_read_J233.eq_1, if_pos c287]) hR282)⟩) d_14_15_290
              ·
                intro J279
                refine lv_icmp_ne (tgt := 232) hx hb d_14_15_225 (by decide) (fun c312 => ?_) (fun c312 => ?_)
                ·
                  refine lv_iconst (v := 0) hx hb d_14_15_232 (by decide) ?_
                  exact J279 ((0 : Int32)) _ _ _ u195 ⟨(show q_F (lx133.toInt ≤ 0) from (show lx133.toInt ≤ 0 from by have t1 : lx133.toInt ≤ lx105.toInt := i155; have t2 : lx105.toInt = 0 := b164; omega)), (show q_F (0 ≤ lx133.toInt + 2) from (show 0 ≤ lx133.toInt + 2 from by have t1 : 0 ≤ lx105.toInt := i126; have t2 : lx105.toInt ≤ lx133.toInt := i154; omega)), V, q_lw hl (q_lw1 0 rfl (q_lw1 3 rfl (q_lw1 4 rfl (q_lw1 5 rfl q_lw0)))), (show F_NM_read_J233 x2 x3 x4 t0_0 t0_1 t0_2 t1_0 t1_1 t1_2 t1_3 t1_4 t1_5 t1_6 t2_0 t3_0 t4_0 t5_0 t6_0 t6_1 t6_2 t6_3 t6_4 t6_5 t6_6 t6_7 t6_8 t6_9 t6_10 t7_0 t8_0 t9_0 t10_0 t11_0 t12_0 t13_0 t13_1 t13_2 t13_3 t13_4 t13_5 t13_6 t13_7 t13_8 t13_9 t13_10 t13_11 t13_12 t13_13 t14_0 t15_0 t16_0 t17_0 t18_0 lx105 lx133 p181 f173 p229 j256 y199 y200 y201 y202 y203 y204 y205 y206 y207 y208 y209 y210 y211 y212 f213 f215 0 = (F_NM_read x2 x3 x4 t0_0 t0_1 t0_2 t1_0 t1_1 t1_2 t1_3 t1_4 t1_5 t1_6 t2_0 t3_0 t4_0 t5_0 t6_0 t6_1 t6_2 t6_3 t6_4 t6_5 t6_6 t6_7 t6_8 t6_9 t6_10 t7_0 t8_0 t9_0 t10_0 t11_0 t12_0 t13_0 t13_1 t13_2 t13_3 t13_4 t13_5 t13_6 t13_7 t13_8 t13_9 t13_10 t13_11 t13_12 t13_13 t14_0 t15_0 t16_0 t17_0 t18_0) from Eq.trans (by have c312x := c312; rw [e232] at c312x; rw [← e257, ← e254, e247, e246, e245, e244, e243, e242, e241, e240, e239, e238, e237, e236, e235, e234, e233, e232, e231, F_NM_read_c207.eq_1, if_neg c312x]) hR248), (show True ∧ S_NM_read_J233 x2 x3 x4 t0_0 t0_1 t0_2 t1_0 t1_1 t1_2 t1_3 t1_4 t1_5 t1_6 t2_0 t3_0 t4_0 t5_0 t6_0 t6_1 t6_2 t6_3 t6_4 t6_5 t6_6 t6_7 t6_8 t6_9 t6_10 t7_0 t8_0 t9_0 t10_0 t11_0 t12_0 t13_0 t13_1 t13_2 t13_3 t13_4 t13_5 t13_6 t13_7 t13_8 t13_9 t13_10 t13_11 t13_12 t13_13 t14_0 t15_0 t16_0 t17_0 t18_0 lx105 lx133 p181 f173 p229 j256 y199 y200 y201 y202 y203 y204 y205 y206 y207 y208 y209 y210 y211 y212 f213 f215 0 from (by rw [← e257, ← e254, e247, e246, e245, e244, e243, e242, e241, e240, e239, e238, e237, e236, e235, e234, e233, e232, e231]; have h := hS249; rw [S_NM_read_c207.eq_1] at h; have c312x := c312; rw [e232] at c312x; rw [if_neg c312x] at h; with_reducible exact h))⟩
                ·
                  refine lv_iconst (v := 2) hx hb d_14_15_228 (by decide) ?_
                  refine lv_goto (tgt := 233) hx hb d_14_15_229 (by decide) ?_
                  exact J279 ((2 : Int32)) _ _ _ u195 ⟨(show q_F (lx133.toInt ≤ 2) from (show lx133.toInt ≤ 2 from by have t1 : lx105.toInt ≤ 1 := i127; have t2 : lx133.toInt ≤ lx105.toInt := i155; omega)), (show q_F (2 ≤ lx133.toInt + 2) from (show 2 ≤ lx133.toInt + 2 from by have t1 : 0 ≤ lx105.toInt := i126; have t2 : lx105.toInt ≤ lx133.toInt := i154; omega)), V, q_lw hl (q_lw1 0 rfl (q_lw1 3 rfl (q_lw1 4 rfl (q_lw1 5 rfl q_lw0)))), (show F_NM_read_J233 x2 x3 x4 t0_0 t0_1 t0_2 t1_0 t1_1 t1_2 t1_3 t1_4 t1_5 t1_6 t2_0 t3_0 t4_0 t5_0 t6_0 t6_1 t6_2 t6_3 t6_4 t6_5 t6_6 t6_7 t6_8 t6_9 t6_10 t7_0 t8_0 t9_0 t10_0 t11_0 t12_0 t13_0 t13_1 t13_2 t13_3 t13_4 t13_5 t13_6 t13_7 t13_8 t13_9 t13_10 t13_11 t13_12 t13_13 t14_0 t15_0 t16_0 t17_0 t18_0 lx105 lx133 p181 f173 p229 j256 y199 y200 y201 y202 y203 y204 y205 y206 y207 y208 y209 y210 y211 y212 f213 f215 2 = (F_NM_read x2 x3 x4 t0_0 t0_1 t0_2 t1_0 t1_1 t1_2 t1_3 t1_4 t1_5 t1_6 t2_0 t3_0 t4_0 t5_0 t6_0 t6_1 t6_2 t6_3 t6_4 t6_5 t6_6 t6_7 t6_8 t6_9 t6_10 t7_0 t8_0 t9_0 t10_0 t11_0 t12_0 t13_0 t13_1 t13_2 t13_3 t13_4 t13_5 t13_6 t13_7 t13_8 t13_9 t13_10 t13_11 t13_12 t13_13 t14_0 t15_0 t16_0 t17_0 t18_0) from Eq.trans (by have c312x := c312; rw [e232] at c312x; rw [← e257, ← e254, e247, e246, e245, e244, e243, e242, e241, e240, e239, e238, e237, e236, e235, e234, e233, e232, e231, F_NM_read_c207.eq_1, if_pos c312x]) hR248), (show True ∧ S_NM_read_J233 x2 x3 x4 t0_0 t0_1 t0_2 t1_0 t1_1 t1_2 t1_3 t1_4 t1_5 t1_6 t2_0 t3_0 t4_0 t5_0 t6_0 t6_1 t6_2 t6_3 t6_4 t6_5 t6_6 t6_7 t6_8 t6_9 t6_10 t7_0 t8_0 t9_0 t10_0 t11_0 t12_0 t13_0 t13_1 t13_2 t13_3 t13_4 t13_5 t13_6 t13_7 t13_8 t13_9 t13_10 t13_11 t13_12 t13_13 t14_0 t15_0 t16_0 t17_0 t18_0 lx105 lx133 p181 f173 p229 j256 y199 y200 y201 y202 y203 y204 y205 y206 y207 y208 y209 y210 y211 y212 f213 f215 2 from (by rw [← e257, ← e254, e247, e246, e245, e244, e243, e242, e241, e240, e239, e238, e237, e236, e235, e234, e233, e232, e231]; have h := hS249; rw [S_NM_read_c207.eq_1] at h; have c312x := c312; rw [e232] at c312x; rw [if_pos c312x] at h; with_reducible exact h))⟩
            ·
              refine lv_aload_n hx hb d_14_15_193 rfl (lv_at hl 2 rfl) ?_
              refine q_get (ci := 12) (j := 8) (v := .ref (q 153)) C0 V i_NM rfl rfl hT0 (by decide) w_2306 rfl d_14_15_194 ?_
              have ob316 : True ∧ S_TR_bits t13_0 a172 t13_2 t13_3 t13_4 t13_5 t13_6 t13_7 t13_8 t13_9 t13_10 t13_11 t13_12 t13_13 f173 t15_0 t16_0 := (by rw [e184, e183]; have h := hS186; rw [S_NM_read_c182.eq_1] at h; rw [if_pos c192] at h; with_reducible exact h.2.1)
              refine q_gol V (q_runV (As := []) (rest := []) (d := 6) (mc := 0) (ms := 0) (ci := 16) C0 V rfl LV_NM_110 (X_TR_bits l D g q w190   hI t13_0 a172 t13_2 t13_3 t13_4 t13_5 t13_6 t13_7 t13_8 t13_9 t13_10 t13_11 t13_12 t13_13 hT13 f173 hA174 t15_0 hT15 t16_0 hT16 ob316 _) rfl rfl hT13 rfl hl.1 rfl (Nat.le_of_ble_eq_true rfl) ⟨by decide, by decide⟩ ⟨Nat.le_of_ble_eq_true rfl, Nat.le_of_ble_eq_true rfl⟩ d_14_15_197) (fun j319 u317 H locs hp318 V => ?_)
              obtain ⟨hI, hZ9⟩ := hp318
              obtain ⟨hu350, hZ9⟩ := hZ9
              obtain ⟨y321, hZ9⟩ := hZ9
              obtain ⟨y322, hZ9⟩ := hZ9
              obtain ⟨y323, hZ9⟩ := hZ9
              obtain ⟨y324, hZ9⟩ := hZ9
              obtain ⟨y325, hZ9⟩ := hZ9
              obtain ⟨y326, hZ9⟩ := hZ9
              obtain ⟨y327, hZ9⟩ := hZ9
              obtain ⟨y328, hZ9⟩ := hZ9
              obtain ⟨y329, hZ9⟩ := hZ9
              obtain ⟨y330, hZ9⟩ := hZ9
              obtain ⟨y331, hZ9⟩ := hZ9
              obtain ⟨y332, hZ9⟩ := hZ9
              obtain ⟨y333, hZ9⟩ := hZ9
              obtain ⟨y334, hZ9⟩ := hZ9
              obtain ⟨f335, hZ9⟩ := hZ9
              obtain ⟨f337, hZ9⟩ := hZ9
              obtain ⟨hO320, hZ9⟩ := hZ9
              obtain ⟨hA336, hZ9⟩ := hZ9
              obtain ⟨hA338, hZ9⟩ := hZ9
              replace hZ9 := hZ9.2.2.2.2
              obtain ⟨b343, hZ9⟩ := hZ9
              obtain ⟨b344, hZ9⟩ := hZ9
              obtain ⟨b345, hZ9⟩ := hZ9
              obtain ⟨b346, hZ9⟩ := hZ9
              obtain ⟨b347, hZ9⟩ := hZ9
              obtain ⟨b348, hE349⟩ := hZ9
              replace hO320 : u317[153]? = (some (q 153, .inr (16, [.int y321, .ref (q 154), .int y322, .int y323, .int y324, .int y325, .ref (q 155), .int y326, .int y327, .long y328, .ref (q 156), .int y329, .int y330, .long y331, .long y332, .int y333, .int y334])) : Option (Nat × va_E)) := hO320
              replace hA336 : u317[155]? = (some (q 155, .inl (g 0, (4100 : Int32).toNatClampNeg, .inl f335)) : Option (Nat × va_E)) := hA336
              replace hA338 : u317[156]? = (some (q 156, .inl (g 0, (800 : Int32).toNatClampNeg, .inl f337)) : Option (Nat × va_E)) := hA338
              obtain ⟨p351, e352⟩ : ∃ z, z = (F_TR_bits t13_0 a172 t13_2 t13_3 t13_4 t13_5 t13_6 t13_7 t13_8 t13_9 t13_10 t13_11 t13_12 t13_13 f173 t15_0 t16_0) := ⟨_, rfl⟩
              have e353 : j319 = p351.1 := congrArg (fun z => z.1) (hE349.trans e352.symm)
              have e354 : y321 = p351.2.1 := congrArg (fun z => z.2.1) (hE349.trans e352.symm)
              have e355 : y322 = p351.2.2.1 := congrArg (fun z => z.2.2.1) (hE349.trans e352.symm)
              have e356 : y323 = p351.2.2.2.1 := congrArg (fun z => z.2.2.2.1) (hE349.trans e352.symm)
              have e357 : y324 = p351.2.2.2.2.1 := congrArg (fun z => z.2.2.2.2.1) (hE349.trans e352.symm)
              have e358 : y325 = p351.2.2.2.2.2.1 := congrArg (fun z => z.2.2.2.2.2.1) (hE349.trans e352.symm)
              have e359 : y326 = p351.2.2.2.2.2.2.1 := congrArg (fun z => z.2.2.2.2.2.2.1) (hE349.trans e352.symm)
              have e360 : y327 = p351.2.2.2.2.2.2.2.1 := congrArg (fun z => z.2.2.2.2.2.2.2.1) (hE349.trans e352.symm)
              have e361 : y328 = p351.2.2.2.2.2.2.2.2.1 := congrArg (fun z => z.2.2.2.2.2.2.2.2.1) (hE349.trans e352.symm)
              have e362 : y329 = p351.2.2.2.2.2.2.2.2.2.1 := congrArg (fun z => z.2.2.2.2.2.2.2.2.2.1) (hE349.trans e352.symm)
              have e363 : y330 = p351.2.2.2.2.2.2.2.2.2.2.1 := congrArg (fun z => z.2.2.2.2.2.2.2.2.2.2.1) (hE349.trans e352.symm)
              have e364 : y331 = p351.2.2.2.2.2.2.2.2.2.2.2.1 := congrArg (fun z => z.2.2.2.2.2.2.2.2.2.2.2.1) (hE349.trans e352.symm)
              have e365 : y332 = p351.2.2.2.2.2.2.2.2.2.2.2.2.1 := congrArg (fun z => z.2.2.2.2.2.2.2.2.2.2.2.2.1) (hE349.trans e352.symm)
              have e366 : y333 = p351.2.2.2.2.2.2.2.2.2.2.2.2.2.1 := congrArg (fun z => z.2.2.2.2.2.2.2.2.2.2.2.2.2.1) (hE349.trans e352.symm)
              have e367 : y334 = p351.2.2.2.2.2.2.2.2.2.2.2.2.2.2.1 := congrArg (fun z => z.2.2.2.2.2.2.2.2.2.2.2.2.2.2.1) (hE349.trans e352.symm)
              have e368 : f335 = p351.2.2.2.2.2.2.2.2.2.2.2.2.2.2.2.1 := congrArg (fun z => z.2.2.2.2.2.2.2.2.2.2.2.2.2.2.2.1) (hE349.trans e352.symm)
              have e369 : f337 = p351.2.2.2.2.2.2.2.2.2.2.2.2.2.2.2.2 := congrArg (fun z => z.2.2.2.2.2.2.2.2.2.2.2.2.2.2.2.2) (hE349.trans e352.symm)
              replace b343 : q_F (0 ≤ y325.toInt) := b343
              replace b344 : q_F (y325.toInt ≤ 1) := b344
              replace b345 : q_F (0 ≤ y334.toInt) := b345
              replace b346 : q_F (y334.toInt ≤ 1) := b346
              replace b347 : q_F (a172.toInt ≤ y322.toInt) := b347
              replace b348 : q_F (y322.toInt ≤ a172.toInt) := b348
              replace hT0 := (hu350 _ (by decide)).trans hT0
              replace hT1 := (hu350 _ (by decide)).trans hT1
              replace hT2 := (hu350 _ (by decide)).trans hT2
              replace hT3 := (hu350 _ (by decide)).trans hT3
              replace hT4 := (hu350 _ (by decide)).trans hT4
              replace hT5 := (hu350 _ (by decide)).trans hT5
              replace hT6 := (hu350 _ (by decide)).trans hT6
              replace hT7 := (hu350 _ (by decide)).trans hT7
              replace hT8 := (hu350 _ (by decide)).trans hT8
              replace hT9 := (hu350 _ (by decide)).trans hT9
              replace hT10 := (hu350 _ (by decide)).trans hT10
              replace hT11 := (hu350 _ (by decide)).trans hT11
              replace hT12 := (hu350 _ (by decide)).trans hT12
              replace hA174 := (hu350 _ (by decide)).trans hA174
              replace hT18 := (hu350 _ (by decide)).trans hT18
              replace hF := q_uc hF hu350 (by simp)
              have hR370 := (show F_NM_read_c197 x2 x3 x4 t0_0 t0_1 t0_2 t1_0 t1_1 t1_2 t1_3 t1_4 t1_5 t1_6 t2_0 t3_0 t4_0 t5_0 t6_0 t6_1 t6_2 t6_3 t6_4 t6_5 t6_6 t6_7 t6_8 t6_9 t6_10 t7_0 t8_0 t9_0 t10_0 t11_0 t12_0 t13_0 t13_1 t13_2 t13_3 t13_4 t13_5 t13_6 t13_7 t13_8 t13_9 t13_10 t13_11 t13_12 t13_13 t14_0 t15_0 t16_0 t17_0 t18_0 lx105 lx133 p181 f173 p351 = (F_NM_read x2 x3 x4 t0_0 t0_1 t0_2 t1_0 t1_1 t1_2 t1_3 t1_4 t1_5 t1_6 t2_0 t3_0 t4_0 t5_0 t6_0 t6_1 t6_2 t6_3 t6_4 t6_5 t6_6 t6_7 t6_8 t6_9 t6_10 t7_0 t8_0 t9_0 t10_0 t11_0 t12_0 t13_0 t13_1 t13_2 t13_3 t13_4 t13_5 t13_6 t13_7 t13_8 t13_9 t13_10 t13_11 t13_12 t13_13 t14_0 t15_0 t16_0 t17_0 t18_0) from Eq.trans (by rw [e352, e184, e183, F_NM_read_c182.eq_1, if_pos c192]) hR185)
              have hS371 := (show True ∧ S_NM_read_c197 x2 x3 x4 t0_0 t0_1 t0_2 t1_0 t1_1 t1_2 t1_3 t1_4 t1_5 t1_6 t2_0 t3_0 t4_0 t5_0 t6_0 t6_1 t6_2 t6_3 t6_4 t6_5 t6_6 t6_7 t6_8 t6_9 t6_10 t7_0 t8_0 t9_0 t10_0 t11_0 t12_0 t13_0 t13_1 t13_2 t13_3 t13_4 t13_5 t13_6 t13_7 t13_8 t13_9 t13_10 t13_11 t13_12 t13_13 t14_0 t15_0 t16_0 t17_0 t18_0 lx105 lx133 p181 f173 p351 from (by rw [e352, e184, e183]; have h := hS186; rw [S_NM_read_c182.eq_1] at h; rw [if_pos c192] at h; replace h := q_s2 h; with_reducible exact h))
              refine lv_goto (tgt := 215) hx hb d_14_15_200 (by decide) ?_
              refine lv_lstore (lv' := [(6, .long j319), (5, .int 0), (4, .int lx105), (0, .ref (q 116)), (1, .int x2), (2, .int x3), (3, .int x4)]) hx hb d_14_15_215 hl (by decide) rfl (fun ls hl => ?_)
              refine lv_aload_n hx hb d_14_15_217 rfl (lv_at hl 3 rfl) ?_
              refine q_get (ci := 12) (j := 8) (v := .ref (q 153)) C0 V i_NM rfl rfl hT0 (by decide) w_2306 rfl d_14_15_218 ?_
              refine q_getN (ci := 16) (j := 0) (v := .int y321) C0 V i_TR rfl rfl hO320 (by decide) wo_2137 rfl d_14_15_221 ?_
              refine lv_iconst (v := 1) hx hb d_14_15_224 (by decide) ?_
              refine q_join (X := Int32) (fun z H locs ls _ => q_F (lx133.toInt ≤ z.toInt) ∧ q_F (z.toInt ≤ lx133.toInt + 2) ∧ q_Wd D g (va_A ws sz) s u317 H locs ∧ lv_has ls 8 [(6, .long j319), (0, .ref (q 116)), (1, .int x2), (2, .int x3)] ∧ F_NM_read_J233_7 x2 x3 x4 t0_0 t0_1 t0_2 t1_0 t1_1 t1_2 t1_3 t1_4 t1_5 t1_6 t2_0 t3_0 t4_0 t5_0 t6_0 t6_1 t6_2 t6_3 t6_4 t6_5 t6_6 t6_7 t6_8 t6_9 t6_10 t7_0 t8_0 t9_0 t10_0 t11_0 t12_0 t13_0 t13_1 t13_2 t13_3 t13_4 t13_5 t13_6 t13_7 t13_8 t13_9 t13_10 t13_11 t13_12 t13_13 t14_0 t15_0 t16_0 t17_0 t18_0 lx105 lx133 p181 f173 p351 j319 y321 y322 y323 y324 y325 y326 y327 y328 y329 y330 y331 y332 y333 y334 f335 f337 z = (F_NM_read x2 x3 x4 t0_0 t0_1 t0_2 t1_0 t1_1 t1_2 t1_3 t1_4 t1_5 t1_6 t2_0 t3_0 t4_0 t5_0 t6_0 t6_1 t6_2 t6_3 t6_4 t6_5 t6_6 t6_7 t6_8 t6_9 t6_10 t7_0 t8_0 t9_0 t10_0 t11_0 t12_0 t13_0 t13_1 t13_2 t13_3 t13_4 t13_5 t13_6 t13_7 t13_8 t13_9 t13_10 t13_11 t13_12 t13_13 t14_0 t15_0 t16_0 t17_0 t18_0) ∧ True ∧ S_NM_read_J233_7 x2 x3 x4 t0_0 t0_1 t0_2 t1_0 t1_1 t1_2 t1_3 t1_4 t1_5 t1_6 t2_0 t3_0 t4_0 t5_0 t6_0 t6_1 t6_2 t6_3 t6_4 t6_5 t6_6 t6_7 t6_8 t6_9 t6_10 t7_0 t8_0 t9_0 t10_0 t11_0 t12_0 t13_0 t13_1 t13_2 t13_3 t13_4 t13_5 t13_6 t13_7 t13_8 t13_9 t13_10 t13_11 t13_12 t13_13 t14_0 t15_0 t16_0 t17_0 t18_0 lx105 lx133 p181 f173 p351 j319 y321 y322 y323 y324 y325 y326 y327 y328 y329 y330 y331 y332 y333 y334 f335 f337 z) (fun z => [.int z]) 233 0 0 ?_ ?_
              ·
                rintro lx375 H locs ls _ hZ9
                replace hZ9 := hZ9.2
                obtain ⟨i397, hZ9⟩ := hZ9
                obtain ⟨V, hZ9⟩ := hZ9
                obtain ⟨hl, hZ9⟩ := hZ9
                obtain ⟨hR398, hS399⟩ := hZ9
                replace i397 : q_F (lx375.toInt ≤ lx133.toInt + 2) := i397
                replace hl : lv_has ls 8 [(6, .long j319), (0, .ref (q 116)), (1, .int x2), (2, .int x3)] := hl
                refine lv_istore (lv' := [(5, .int lx375), (6, .long j319), (0, .ref (q 116)), (1, .int x2), (2, .int x3)]) hx hb d_14_15_233 hl (by decide) rfl (fun ls hl => ?_)
                refine lv_iload hx hb d_14_15_235 (lv_at hl 0 rfl) ?_
                refine lv_if_ne (tgt := 248) hx hb d_14_15_237 (by decide) (fun c403 => ?_) (fun c403 => ?_)
                ·
                  have b404 : q_F (lx375.toInt ≠ 0) := (q_neI c403)
                  refine lv_aload_n hx hb d_14_15_248 rfl (lv_at hl 2 rfl) ?_
                  refine lv_iload hx hb d_14_15_249 (lv_at hl 0 rfl) ?_
                  refine lv_iconst (v := 3) hx hb d_14_15_251 (by decide) ?_
                  refine lv_icmp_ne (tgt := 259) hx hb d_14_15_252 (by decide) (fun c405 => ?_) (fun c405 => absurd (show lx375.toInt = 3 from q_eqI c405) (by have t1 : lx133.toInt ≤ lx105.toInt := i155; have t2 : lx105.toInt = 0 := b164; have t3 : lx375.toInt ≤ lx133.toInt + 2 := i397; omega))
                  refine lv_iconst (v := 0) hx hb d_14_15_259 (by decide) ?_
                  refine q_put (ci := 12) (j := 0) (v := .int 0) (ty := .int) C0 V i_NM o_NM n_NM rfl rfl hT0 (by decide) w_2298 rfl rfl rfl rfl (Nat.le_of_ble_eq_true rfl) d_14_15_260 (fun H locs w406 hu407 hT0 V => ?_)
                  replace hT0 : w406[116]? = (some (q 116, .inr (12, [.int 0, .ref (q 117), .int t0_1, .ref (q 118), .int t0_2, .ref (q 119), .ref (q 134), .ref (q 145), .ref (q 153), .ref (q 157), .ref (q 167), .ref (q 168)])) : Option (Nat × va_E)) := hT0
                  replace hI := n_p116 hI hu407 hT0 (by first | with_reducible exact q_fe btt0_1 | exact ⟨(by have t1 : 0 ≤ t0_1.toInt ∧ t0_1.toInt ≤ 4100 := btt0_1; omega), (by have t1 : 0 ≤ t0_1.toInt ∧ t0_1.toInt ≤ 4100 := btt0_1; omega)⟩) (by first | with_reducible exact q_fe btt0_2 | exact ⟨(by have t1 : 0 ≤ t0_2.toInt ∧ t0_2.toInt ≤ 12200 := btt0_2; omega), (by have t1 : 0 ≤ t0_2.toInt ∧ t0_2.toInt ≤ 12200 := btt0_2; omega)⟩)
                  replace hT1 := (hu407 _ (by decide)).trans hT1
                  replace hT2 := (hu407 _ (by decide)).trans hT2
                  replace hT3 := (hu407 _ (by decide)).trans hT3
                  replace hT4 := (hu407 _ (by decide)).trans hT4
                  replace hT5 := (hu407 _ (by decide)).trans hT5
                  replace hT6 := (hu407 _ (by decide)).trans hT6
                  replace hT7 := (hu407 _ (by decide)).trans hT7
                  replace hT8 := (hu407 _ (by decide)).trans hT8
                  replace hT9 := (hu407 _ (by decide)).trans hT9
                  replace hT10 := (hu407 _ (by decide)).trans hT10
                  replace hT11 := (hu407 _ (by decide)).trans hT11
                  replace hT12 := (hu407 _ (by decide)).trans hT12
                  replace hO320 := (hu407 _ (by decide)).trans hO320
                  replace hA174 := (hu407 _ (by decide)).trans hA174
                  replace hA336 := (hu407 _ (by decide)).trans hA336
                  replace hA338 := (hu407 _ (by decide)).trans hA338
                  replace hT18 := (hu407 _ (by decide)).trans hT18
                  replace hF := q_us hF hu407 (by simp)
                  refine lv_aload_n hx hb d_14_15_263 rfl (lv_at hl 2 rfl) ?_
                  refine lv_iload hx hb d_14_15_264 (lv_at hl 0 rfl) ?_
                  refine lv_if_ne (tgt := 273) hx hb d_14_15_266 (by decide) (fun c408 => ?_) (fun c408 => absurd (show lx375.toInt = 0 from q_eqI c408) (by first | with_reducible exact q_fe b404 | (have t1 : lx375.toInt ≠ 0 := b404; omega)))
                  refine lv_aload_n hx hb d_14_15_273 rfl (lv_at hl 2 rfl) ?_
                  refine q_get (ci := 12) (j := 2) (v := .int t0_1) C0 V i_NM rfl rfl hT0 (by decide) w_2300 rfl d_14_15_274 ?_
                  refine q_put (ci := 12) (j := 2) (v := .int t0_1) (ty := .int) C0 V i_NM o_NM n_NM rfl rfl hT0 (by decide) w_2300 rfl rfl rfl rfl (Nat.le_of_ble_eq_true rfl) d_14_15_277 (fun H locs w409 hu410 hT0 V => ?_)
                  replace hT0 : w409[116]? = (some (q 116, .inr (12, [.int 0, .ref (q 117), .int t0_1, .ref (q 118), .int t0_2, .ref (q 119), .ref (q 134), .ref (q 145), .ref (q 153), .ref (q 157), .ref (q 167), .ref (q 168)])) : Option (Nat × va_E)) := hT0
                  replace hI := n_p116 hI hu410 hT0 (by first | with_reducible exact q_fe btt0_1 | exact ⟨(by have t1 : 0 ≤ t0_1.toInt ∧ t0_1.toInt ≤ 4100 := btt0_1; omega), (by have t1 : 0 ≤ t0_1.toInt ∧ t0_1.toInt ≤ 4100 := btt0_1; omega)⟩) (by first | with_reducible exact q_fe btt0_2 | exact ⟨(by have t1 : 0 ≤ t0_2.toInt ∧ t0_2.toInt ≤ 12200 := btt0_2; omega), (by have t1 : 0 ≤ t0_2.toInt ∧ t0_2.toInt ≤ 12200 := btt0_2; omega)⟩)
                  replace hT1 := (hu410 _ (by decide)).trans hT1
                  replace hT2 := (hu410 _ (by decide)).trans hT2
                  replace hT3 := (hu410 _ (by decide)).trans hT3
                  replace hT4 := (hu410 _ (by decide)).trans hT4
                  replace hT5 := (hu410 _ (by decide)).trans hT5
                  replace hT6 := (hu410 _ (by decide)).trans hT6
                  replace hT7 := (hu410 _ (by decide)).trans hT7
                  replace hT8 := (hu410 _ (by decide)).trans hT8
                  replace hT9 := (hu410 _ (by decide)).trans hT9
                  replace hT10 := (hu410 _ (by decide)).trans hT10
                  replace hT11 := (hu410 _ (by decide)).trans hT11
                  replace hT12 := (hu410 _ (by decide)).trans hT12
                  replace hO320 := (hu410 _ (by decide)).trans hO320
                  replace hA174 := (hu410 _ (by decide)).trans hA174
                  replace hA336 := (hu410 _ (by decide)).trans hA336
                  replace hA338 := (hu410 _ (by decide)).trans hA338
                  replace hT18 := (hu410 _ (by decide)).trans hT18
                  replace hF := q_us hF hu410 (by simp)
                  refine lv_iload hx hb d_14_15_280 (lv_at hl 0 rfl) ?_
                  refine lv_if_ne (tgt := 289) hx hb d_14_15_282 (by decide) (fun c411 => ?_) (fun c411 => absurd (show lx375.toInt = 0 from q_eqI c411) (by first | with_reducible exact q_fe b404 | (have t1 : lx375.toInt ≠ 0 := b404; omega)))
                  refine lv_iconst (v := 0) hx hb d_14_15_289 (by decide) ?_
                  exact q_retz C0 V (by decide) (⟨hI, hF, 0, t0_1, t1_0, t1_1, t1_2, t1_3, t1_4, t1_5, t1_6, t2_0, t3_0, t4_0, t5_0, t6_0, t6_1, t6_2, t6_3, t6_4, t6_5, t6_6, t6_7, t6_8, t6_9, t6_10, t7_0, t8_0, t9_0, t10_0, t11_0, t12_0, y321, y322, y323, y324, y325, y326, y327, y328, y329, y330, y331, y332, y333, y334, f173, f335, f337, t18_0, hT0, hT1, hT2, hT3, hT4, hT5, hT6, hT7, hT8, hT9, hT10, hT11, hT12, hO320, hA174, hA336, hA338, hT18, (show 0 ≤ (0 : Int32).toInt from (by have z53 : (0 : Int32).toInt = 0 := rfl; have z54 : (0 : Int32).toInt = 0 := rfl; omega)), (show (0 : Int32).toInt ≤ 1 from (by have z53 : (0 : Int32).toInt = 0 := rfl; have z54 : (0 : Int32).toInt = 0 := rfl; omega)), (show 0 ≤ (0 : Int32).toInt from (by have z53 : (0 : Int32).toInt = 0 := rfl; have z54 : (0 : Int32).toInt = 0 := rfl; omega)), (show (0 : Int32).toInt ≤ 2 from (by have z53 : (0 : Int32).toInt = 0 := rfl; have z54 : (0 : Int32).toInt = 0 := rfl; omega)), (show 0 ≤ t0_1.toInt from (by have z53 : (0 : Int32).toInt = 0 := rfl; have z54 : (0 : Int32).toInt = 0 := rfl; have t1 : 0 ≤ t0_1.toInt ∧ t0_1.toInt ≤ 4100 := btt0_1; omega)), (show t0_1.toInt ≤ 4100 from (by have z53 : (0 : Int32).toInt = 0 := rfl; have z54 : (0 : Int32).toInt = 0 := rfl; have t1 : 0 ≤ t0_1.toInt ∧ t0_1.toInt ≤ 4100 := btt0_1; omega)), (show 0 ≤ t1_2.toInt from (by have z53 : (0 : Int32).toInt = 0 := rfl; have z54 : (0 : Int32).toInt = 0 := rfl; have t1 : 0 ≤ t1_2.toInt ∧ t1_2.toInt ≤ 4100 := btt1_2; omega)), (show t1_2.toInt ≤ 4100 from (by have z53 : (0 : Int32).toInt = 0 := rfl; have z54 : (0 : Int32).toInt = 0 := rfl; have t1 : 0 ≤ t1_2.toInt ∧ t1_2.toInt ≤ 4100 := btt1_2; omega)), (show 0 ≤ t1_3.toInt from (by have z53 : (0 : Int32).toInt = 0 := rfl; have z54 : (0 : Int32).toInt = 0 := rfl; have t1 : 0 ≤ t1_3.toInt ∧ t1_3.toInt ≤ 1 := btt1_3; omega)), (show t1_3.toInt ≤ 1 from (by have z53 : (0 : Int32).toInt = 0 := rfl; have z54 : (0 : Int32).toInt = 0 := rfl; have t1 : 0 ≤ t1_3.toInt ∧ t1_3.toInt ≤ 1 := btt1_3; omega)), (show 0 ≤ t1_4.toInt from (by have z53 : (0 : Int32).toInt = 0 := rfl; have z54 : (0 : Int32).toInt = 0 := rfl; have t1 : 0 ≤ t1_4.toInt ∧ t1_4.toInt ≤ 1 := btt1_4; omega)), (show t1_4.toInt ≤ 1 from (by have z53 : (0 : Int32).toInt = 0 := rfl; have z54 : (0 : Int32).toInt = 0 := rfl; have t1 : 0 ≤ t1_4.toInt ∧ t1_4.toInt ≤ 1 := btt1_4; omega)), (show 0 ≤ t1_5.toInt from (by have z53 : (0 : Int32).toInt = 0 := rfl; have z54 : (0 : Int32).toInt = 0 := rfl; have t1 : 0 ≤ t1_5.toInt ∧ t1_5.toInt ≤ 1 := btt1_5; omega)), (show t1_5.toInt ≤ 1 from (by have z53 : (0 : Int32).toInt = 0 := rfl; have z54 : (0 : Int32).toInt = 0 := rfl; have t1 : 0 ≤ t1_5.toInt ∧ t1_5.toInt ≤ 1 := btt1_5; omega)), (show 0 ≤ t1_6.toInt from (by have z53 : (0 : Int32).toInt = 0 := rfl; have z54 : (0 : Int32).toInt = 0 := rfl; have t1 : 0 ≤ t1_6.toInt ∧ t1_6.toInt ≤ 2100 := btt1_6; omega)), (show t1_6.toInt ≤ 2100 from (by have z53 : (0 : Int32).toInt = 0 := rfl; have z54 : (0 : Int32).toInt = 0 := rfl; have t1 : 0 ≤ t1_6.toInt ∧ t1_6.toInt ≤ 2100 := btt1_6; omega)), (show 0 ≤ t6_1.toInt from (by have z53 : (0 : Int32).toInt = 0 := rfl; have z54 : (0 : Int32).toInt = 0 := rfl; have t1 : 0 ≤ t6_1.toInt ∧ t6_1.toInt ≤ 4100 := btt6_1; omega)), (show t6_1.toInt ≤ 4100 from (by have z53 : (0 : Int32).toInt = 0 := rfl; have z54 : (0 : Int32).toInt = 0 := rfl; have t1 : 0 ≤ t6_1.toInt ∧ t6_1.toInt ≤ 4100 := btt6_1; omega)), (show 0 ≤ t6_4.toInt from (by have z53 : (0 : Int32).toInt = 0 := rfl; have z54 : (0 : Int32).toInt = 0 := rfl; have t1 : 0 ≤ t6_4.toInt ∧ t6_4.toInt ≤ 1 := btt6_4; omega)), (show t6_4.toInt ≤ 1 from (by have z53 : (0 : Int32).toInt = 0 := rfl; have z54 : (0 : Int32).toInt = 0 := rfl; have t1 : 0 ≤ t6_4.toInt ∧ t6_4.toInt ≤ 1 := btt6_4; omega)), (show 0 ≤ t6_5.toInt from (by have z53 : (0 : Int32).toInt = 0 := rfl; have z54 : (0 : Int32).toInt = 0 := rfl; have t1 : 0 ≤ t6_5.toInt ∧ t6_5.toInt ≤ 1 := btt6_5; omega)), (show t6_5.toInt ≤ 1 from (by have z53 : (0 : Int32).toInt = 0 := rfl; have z54 : (0 : Int32).toInt = 0 := rfl; have t1 : 0 ≤ t6_5.toInt ∧ t6_5.toInt ≤ 1 := btt6_5; omega)), (show 0 ≤ t6_9.toInt from (by have z53 : (0 : Int32).toInt = 0 := rfl; have z54 : (0 : Int32).toInt = 0 := rfl; have t1 : 0 ≤ t6_9.toInt ∧ t6_9.toInt ≤ 12200 := btt6_9; omega)), (show t6_9.toInt ≤ 12200 from (by have z53 : (0 : Int32).toInt = 0 := rfl; have z54 : (0 : Int32).toInt = 0 := rfl; have t1 : 0 ≤ t6_9.toInt ∧ t6_9.toInt ≤ 12200 := btt6_9; omega)), (show 0 ≤ y322.toInt from (by have z53 : (0 : Int32).toInt = 0 := rfl; have z54 : (0 : Int32).toInt = 0 := rfl; have t1 : 0 ≤ t0_1.toInt ∧ t0_1.toInt ≤ 4100 := btt0_1; have t2 : t0_1.toInt ≤ a172.toInt := b175; have t3 : a172.toInt ≤ y322.toInt := b347; omega)), (show y322.toInt ≤ 4100 from (by have z53 : (0 : Int32).toInt = 0 := rfl; have z54 : (0 : Int32).toInt = 0 := rfl; have t1 : a172.toInt ≤ 4100 := b177; have t2 : y322.toInt ≤ a172.toInt := b348; omega)), (show 0 ≤ y325.toInt from (by have z53 : (0 : Int32).toInt = 0 := rfl; have z54 : (0 : Int32).toInt = 0 := rfl; have t1 : 0 ≤ y325.toInt := b343; omega)), (show y325.toInt ≤ 1 from (by have z53 : (0 : Int32).toInt = 0 := rfl; have z54 : (0 : Int32).toInt = 0 := rfl; have t1 : y325.toInt ≤ 1 := b344; omega)), (show 0 ≤ y334.toInt from (by have z53 : (0 : Int32).toInt = 0 := rfl; have z54 : (0 : Int32).toInt = 0 := rfl; have t1 : 0 ≤ y334.toInt := b345; omega)), (show y334.toInt ≤ 1 from (by have z53 : (0 : Int32).toInt = 0 := rfl; have z54 : (0 : Int32).toInt = 0 := rfl; have t1 : y334.toInt ≤ 1 := b346; omega)), (show t0_1.toInt ≤ t0_1.toInt from (by have z53 : (0 : Int32).toInt = 0 := rfl; have z54 : (0 : Int32).toInt = 0 := rfl; omega)), (show t1_1.toInt ≤ t1_1.toInt from (by have z53 : (0 : Int32).toInt = 0 := rfl; have z54 : (0 : Int32).toInt = 0 := rfl; omega)), (show t1_1.toInt ≤ t1_1.toInt from (by have z53 : (0 : Int32).toInt = 0 := rfl; have z54 : (0 : Int32).toInt = 0 := rfl; omega)), (show t1_4.toInt ≤ t1_4.toInt from (by have z53 : (0 : Int32).toInt = 0 := rfl; have z54 : (0 : Int32).toInt = 0 := rfl; omega)), (show t1_4.toInt ≤ t1_4.toInt from (by have z53 : (0 : Int32).toInt = 0 := rfl; have z54 : (0 : Int32).toInt = 0 := rfl; omega)), (show t1_5.toInt ≤ t1_5.toInt from (by have z53 : (0 : Int32).toInt = 0 := rfl; have z54 : (0 : Int32).toInt = 0 := rfl; omega)), (show t1_5.toInt ≤ t1_5.toInt from (by have z53 : (0 : Int32).toInt = 0 := rfl; have z54 : (0 : Int32).toInt = 0 := rfl; omega)), (show t1_6.toInt ≤ t1_6.toInt from (by have z53 : (0 : Int32).toInt = 0 := rfl; have z54 : (0 : Int32).toInt = 0 := rfl; omega)), (show t1_6.toInt ≤ t1_6.toInt from (by have z53 : (0 : Int32).toInt = 0 := rfl; have z54 : (0 : Int32).toInt = 0 := rfl; omega)), (show t6_4.toInt ≤ t6_4.toInt from (by have z53 : (0 : Int32).toInt = 0 := rfl; have z54 : (0 : Int32).toInt = 0 := rfl; omega)), (show t6_6.toInt ≤ t6_6.toInt from (by have z53 : (0 : Int32).toInt = 0 := rfl; have z54 : (0 : Int32).toInt = 0 := rfl; omega)), (show t6_6.toInt ≤ t6_6.toInt from (by have z53 : (0 : Int32).toInt = 0 := rfl; have z54 : (0 : Int32).toInt = 0 := rfl; omega)), (show t6_7.toInt ≤ t6_7.toInt from (by have z53 : (0 : Int32).toInt = 0 := rfl; have z54 : (0 : Int32).toInt = 0 := rfl; omega)), (show t6_7.toInt ≤ t6_7.toInt from (by have z53 : (0 : Int32).toInt = 0 := rfl; have z54 : (0 : Int32).toInt = 0 := rfl; omega)), (show t6_8.toInt ≤ t6_8.toInt from (by have z53 : (0 : Int32).toInt = 0 := rfl; have z54 : (0 : Int32).toInt = 0 := rfl; omega)), (show t6_8.toInt ≤ t6_8.toInt from (by have z53 : (0 : Int32).toInt = 0 := rfl; have z54 : (0 : Int32).toInt = 0 := rfl; omega)), (show t6_9.toInt ≤ t6_9.toInt from (by have z53 : (0 : Int32).toInt = 0 := rfl; have z54 : (0 : Int32).toInt = 0 := rfl; omega)), (show t6_9.toInt ≤ t6_9.toInt from (by have z53 : (0 : Int32).toInt = 0 := rfl; have z54 : (0 : Int32).toInt = 0 := rfl; omega)), (show ((0 : Int32), (0 : Int32), t0_1, t1_0, t1_1, t1_2, t1_3, t1_4, t1_5, t1_6, t2_0, t3_0, t4_0, t5_0, t6_0, t6_1, t6_2, t6_3, t6_4, t6_5, t6_6, t6_7, t6_8, t6_9, t6_10, t7_0, t8_0, t9_0, t10_0, t11_0, t12_0, y321, y322, y323, y324, y325, y326, y327, y328, y329, y330, y331, y332, y333, y334, f173, f335, f337, t18_0) = (F_NM_read x2 x3 x4 t0_0 t0_1 t0_2 t1_0 t1_1 t1_2 t1_3 t1_4 t1_5 t1_6 t2_0 t3_0 t4_0 t5_0 t6_0 t6_1 t6_2 t6_3 t6_4 t6_5 t6_6 t6_7 t6_8 t6_9 t6_10 t7_0 t8_0 t9_0 t10_0 t11_0 t12_0 t13_0 t13_1 t13_2 t13_3 t13_4 t13_5 t13_6 t13_7 t13_8 t13_9 t13_10 t13_11 t13_12 t13_13 t14_0 t15_0 t16_0 t17_0 t18_0) from Eq.trans (by rw [F_NM_read_J233_7.eq_1, if_neg c403]) hR398)⟩) d_14_15_290
                ·
                  have b412 : q_F (lx375.toInt = 0) := (q_eqI c403)
                  refine lv_aload_n hx hb d_14_15_240 rfl (lv_at hl 2 rfl) ?_
                  refine lv_iload_n hx hb d_14_15_241 rfl (lv_at hl 3 rfl) ?_
                  refine lv_iload_n hx hb d_14_15_242 rfl (lv_at hl 4 rfl) ?_
                  refine lv_lload hx hb d_14_15_243 (lv_at hl 1 rfl) ?_
                  have ob413 : True ∧ S_NM_setBits x2 x3 j319 lx133 t0_1 t0_2 t18_0 := (by have h := hS399; rw [S_NM_read_J233_7.eq_1] at h; rw [if_pos c403] at h; with_reducible exact h.2.1)
                  refine q_gov V (q_runV (As := [.int x2, .int x3, .long j319]) (rest := []) (d := 1) (mc := 0) (ms := 0) (ci := 12) C0 V rfl LV_NM_120 (X_NM_setBits l D g q u317  x2 x3 j319 hI lx133 t0_1 t0_2 hT0 t18_0 hT18 ob413 _) rfl rfl hT0 rfl hl.1 rfl (Nat.le_of_ble_eq_true rfl) ⟨by decide, by decide⟩ ⟨Nat.le_of_ble_eq_true rfl, Nat.le_of_ble_eq_true rfl⟩ d_14_15_245) (fun u414 H locs hp415 V => ?_)
                  obtain ⟨hI, hu419, f416, hA417, hE418⟩ := hp415
                  replace hA417 : u414[167]? = (some (q 167, .inl (g 1, 20, .inr (.inl f416))) : Option (Nat × va_E)) := hA417
                  have e420 : f416 = (F_NM_setBits x2 x3 j319 lx133 t0_1 t0_2 t18_0) := hE418
                  replace hT0 := (hu419 _ (by decide)).trans hT0
                  replace hT1 := (hu419 _ (by decide)).trans hT1
                  replace hT2 := (hu419 _ (by decide)).trans hT2
                  replace hT3 := (hu419 _ (by decide)).trans hT3
                  replace hT4 := (hu419 _ (by decide)).trans hT4
                  replace hT5 := (hu419 _ (by decide)).trans hT5
                  replace hT6 := (hu419 _ (by decide)).trans hT6
                  replace hT7 := (hu419 _ (by decide)).trans hT7
                  replace hT8 := (hu419 _ (by decide)).trans hT8
                  replace hT9 := (hu419 _ (by decide)).trans hT9
                  replace hT10 := (hu419 _ (by decide)).trans hT10
                  replace hT11 := (hu419 _ (by decide)).trans hT11
                  replace hT12 := (hu419 _ (by decide)).trans hT12
                  replace hO320 := (hu419 _ (by decide)).trans hO320
                  replace hA174 := (hu419 _ (by decide)).trans hA174
                  replace hA336 := (hu419 _ (by decide)).trans hA336
                  replace hA338 := (hu419 _ (by decide)).trans hA338
                  replace hF := q_uc hF hu419 (by simp)
                  refine lv_aload_n hx hb d_14_15_248 rfl (lv_at hl 2 rfl) ?_
                  refine lv_iload hx hb d_14_15_249 (lv_at hl 0 rfl) ?_
                  refine lv_iconst (v := 3) hx hb d_14_15_251 (by decide) ?_
                  refine lv_icmp_ne (tgt := 259) hx hb d_14_15_252 (by decide) (fun c421 => ?_) (fun c421 => absurd (show lx375.toInt = 3 from q_eqI c421) (by first | with_reducible exact q_fe b412 | (have t1 : lx375.toInt = 0 := b412; omega)))
                  refine lv_iconst (v := 0) hx hb d_14_15_259 (by decide) ?_
                  refine q_put (ci := 12) (j := 0) (v := .int 0) (ty := .int) C0 V i_NM o_NM n_NM rfl rfl hT0 (by decide) w_2298 rfl rfl rfl rfl (Nat.le_of_ble_eq_true rfl) d_14_15_260 (fun H locs w422 hu423 hT0 V => ?_)
                  replace hT0 : w422[116]? = (some (q 116, .inr (12, [.int 0, .ref (q 117), .int t0_1, .ref (q 118), .int t0_2, .ref (q 119), .ref (q 134), .ref (q 145), .ref (q 153), .ref (q 157), .ref (q 167), .ref (q 168)])) : Option (Nat × va_E)) := hT0
                  replace hI := n_p116 hI hu423 hT0 (by first | with_reducible exact q_fe btt0_1 | exact ⟨(by have t1 : 0 ≤ t0_1.toInt ∧ t0_1.toInt ≤ 4100 := btt0_1; omega), (by have t1 : 0 ≤ t0_1.toInt ∧ t0_1.toInt ≤ 4100 := btt0_1; omega)⟩) (by first | with_reducible exact q_fe btt0_2 | exact ⟨(by have t1 : 0 ≤ t0_2.toInt ∧ t0_2.toInt ≤ 12200 := btt0_2; omega), (by have t1 : 0 ≤ t0_2.toInt ∧ t0_2.toInt ≤ 12200 := btt0_2; omega)⟩)
                  replace hT1 := (hu423 _ (by decide)).trans hT1
                  replace hT2 := (hu423 _ (by decide)).trans hT2
                  replace hT3 := (hu423 _ (by decide)).trans hT3
                  replace hT4 := (hu423 _ (by decide)).trans hT4
                  replace hT5 := (hu423 _ (by decide)).trans hT5
                  replace hT6 := (hu423 _ (by decide)).trans hT6
                  replace hT7 := (hu423 _ (by decide)).trans hT7
                  replace hT8 := (hu423 _ (by decide)).trans hT8
                  replace hT9 := (hu423 _ (by decide)).trans hT9
                  replace hT10 := (hu423 _ (by decide)).trans hT10
                  replace hT11 := (hu423 _ (by decide)).trans hT11
                  replace hT12 := (hu423 _ (by decide)).trans hT12
                  replace hO320 := (hu423 _ (by decide)).trans hO320
                  replace hA174 := (hu423 _ (by decide)).trans hA174
                  replace hA336 := (hu423 _ (by decide)).trans hA336
                  replace hA338 := (hu423 _ (by decide)).trans hA338
                  replace hA417 := (hu423 _ (by decide)).trans hA417
                  replace hF := q_us hF hu423 (by simp)
                  refine lv_aload_n hx hb d_14_15_263 rfl (lv_at hl 2 rfl) ?_
                  refine lv_iload hx hb d_14_15_264 (lv_at hl 0 rfl) ?_
                  refine lv_if_ne (tgt := 273) hx hb d_14_15_266 (by decide) (fun c424 => absurd (show lx375.toInt ≠ 0 from q_neI c424) (by first | with_reducible exact q_fe b412 | (have t1 : lx375.toInt = 0 := b412; omega))) (fun c424 => ?_)
                  refine lv_iconst (v := 0) hx hb d_14_15_269 (by decide) ?_
                  refine lv_goto (tgt := 277) hx hb d_14_15_270 (by decide) ?_
                  refine q_put (ci := 12) (j := 2) (v := .int 0) (ty := .int) C0 V i_NM o_NM n_NM rfl rfl hT0 (by decide) w_2300 rfl rfl rfl rfl (Nat.le_of_ble_eq_true rfl) d_14_15_277 (fun H locs w425 hu426 hT0 V => ?_)
                  replace hT0 : w425[116]? = (some (q 116, .inr (12, [.int 0, .ref (q 117), .int 0, .ref (q 118), .int t0_2, .ref (q 119), .ref (q 134), .ref (q 145), .ref (q 153), .ref (q 157), .ref (q 167), .ref (q 168)])) : Option (Nat × va_E)) := hT0
                  replace hI := n_p116 hI hu426 hT0 ⟨(by have z9 : (0 : Int32).toInt = 0 := rfl; omega), (by have z9 : (0 : Int32).toInt = 0 := rfl; omega)⟩ (by first | with_reducible exact q_fe btt0_2 | exact ⟨(by have t1 : 0 ≤ t0_2.toInt ∧ t0_2.toInt ≤ 12200 := btt0_2; omega), (by have t1 : 0 ≤ t0_2.toInt ∧ t0_2.toInt ≤ 12200 := btt0_2; omega)⟩)
                  replace hT1 := (hu426 _ (by decide)).trans hT1
                  replace hT2 := (hu426 _ (by decide)).trans hT2
                  replace hT3 := (hu426 _ (by decide)).trans hT3
                  replace hT4 := (hu426 _ (by decide)).trans hT4
                  replace hT5 := (hu426 _ (by decide)).trans hT5
                  replace hT6 := (hu426 _ (by decide)).trans hT6
                  replace hT7 := (hu426 _ (by decide)).trans hT7
                  replace hT8 := (hu426 _ (by decide)).trans hT8
                  replace hT9 := (hu426 _ (by decide)).trans hT9
                  replace hT10 := (hu426 _ (by decide)).trans hT10
                  replace hT11 := (hu426 _ (by decide)).trans hT11
                  replace hT12 := (hu426 _ (by decide)).trans hT12
                  replace hO320 := (hu426 _ (by decide)).trans hO320
                  replace hA174 := (hu426 _ (by decide)).trans hA174
                  replace hA336 := (hu426 _ (by decide)).trans hA336
                  replace hA338 := (hu426 _ (by decide)).trans hA338
                  replace hA417 := (hu426 _ (by decide)).trans hA417
                  replace hF := q_us hF hu426 (by simp)
                  refine lv_iload hx hb d_14_15_280 (lv_at hl 0 rfl) ?_
                  refine lv_if_ne (tgt := 289) hx hb d_14_15_282 (by decide) (fun c427 => absurd (show lx375.toInt ≠ 0 from q_neI c427) (by first | with_reducible exact q_fe b412 | (have t1 : lx375.toInt = 0 := b412; omega))) (fun c427 => ?_)
                  refine lv_iconst (v := 1) hx hb d_14_15_285 (by decide) ?_
                  refine lv_goto (tgt := 290) hx hb d_14_15_286 (by decide) ?_
                  exact q_retz C0 V (by decide) (⟨hI, hF, 0, 0, t1_0, t1_1, t1_2, t1_3, t1_4, t1_5, t1_6, t2_0, t3_0, t4_0, t5_0, t6_0, t6_1, t6_2, t6_3, t6_4, t6_5, t6_6, t6_7, t6_8, t6_9, t6_10, t7_0, t8_0, t9_0, t10_0, t11_0, t12_0, y321, y322, y323, y324, y325, y326, y327, y328, y329, y330, y331, y332, y333, y334, f173, f335, f337, f416, hT0, hT1, hT2, hT3, hT4, hT5, hT6, hT7, hT8, hT9, hT10, hT11, hT12, hO320, hA174, hA336, hA338, hA417, (show 0 ≤ (1 : Int32).toInt from (by have z53 : (1 : Int32).toInt = 1 := rfl; have z54 : (0 : Int32).toInt = 0 := rfl; have z55 : (0 : Int32).toInt = 0 := rfl; omega)), (show (1 : Int32).toInt ≤ 1 from (by have z53 : (1 : Int32).toInt = 1 := rfl; have z54 : (0 : Int32).toInt = 0 := rfl; have z55 : (0 : Int32).toInt = 0 := rfl; omega)), (show 0 ≤ (0 : Int32).toInt from (by have z53 : (1 : Int32).toInt = 1 := rfl; have z54 : (0 : Int32).toInt = 0 := rfl; have z55 : (0 : Int32).toInt = 0 := rfl; omega)), (show (0 : Int32).toInt ≤ 2 from (by have z53 : (1 : Int32).toInt = 1 := rfl; have z54 : (0 : Int32).toInt = 0 := rfl; have z55 : (0 : Int32).toInt = 0 := rfl; omega)), (show 0 ≤ (0 : Int32).toInt from (by have z53 : (1 : Int32).toInt = 1 := rfl; have z54 : (0 : Int32).toInt = 0 := rfl; have z55 : (0 : Int32).toInt = 0 := rfl; omega)), (show (0 : Int32).toInt ≤ 4100 from (by have z53 : (1 : Int32).toInt = 1 := rfl; have z54 : (0 : Int32).toInt = 0 := rfl; have z55 : (0 : Int32).toInt = 0 := rfl; omega)), (show 0 ≤ t1_2.toInt from (by have z53 : (1 : Int32).toInt = 1 := rfl; have z54 : (0 : Int32).toInt = 0 := rfl; have z55 : (0 : Int32).toInt = 0 := rfl; have t1 : 0 ≤ t1_2.toInt ∧ t1_2.toInt ≤ 4100 := btt1_2; omega)), (show t1_2.toInt ≤ 4100 from (by have z53 : (1 : Int32).toInt = 1 := rfl; have z54 : (0 : Int32).toInt = 0 := rfl; have z55 : (0 : Int32).toInt = 0 := rfl; have t1 : 0 ≤ t1_2.toInt ∧ t1_2.toInt ≤ 4100 := btt1_2; omega)), (show 0 ≤ t1_3.toInt from (by have z53 : (1 : Int32).toInt = 1 := rfl; have z54 : (0 : Int32).toInt = 0 := rfl; have z55 : (0 : Int32).toInt = 0 := rfl; have t1 : 0 ≤ t1_3.toInt ∧ t1_3.toInt ≤ 1 := btt1_3; omega)), (show t1_3.toInt ≤ 1 from (by have z53 : (1 : Int32).toInt = 1 := rfl; have z54 : (0 : Int32).toInt = 0 := rfl; have z55 : (0 : Int32).toInt = 0 := rfl; have t1 : 0 ≤ t1_3.toInt ∧ t1_3.toInt ≤ 1 := btt1_3; omega)), (show 0 ≤ t1_4.toInt from (by have z53 : (1 : Int32).toInt = 1 := rfl; have z54 : (0 : Int32).toInt = 0 := rfl; have z55 : (0 : Int32).toInt = 0 := rfl; have t1 : 0 ≤ t1_4.toInt ∧ t1_4.toInt ≤ 1 := btt1_4; omega)), (show t1_4.toInt ≤ 1 from (by have z53 : (1 : Int32).toInt = 1 := rfl; have z54 : (0 : Int32).toInt = 0 := rfl; have z55 : (0 : Int32).toInt = 0 := rfl; have t1 : 0 ≤ t1_4.toInt ∧ t1_4.toInt ≤ 1 := btt1_4; omega)), (show 0 ≤ t1_5.toInt from (by have z53 : (1 : Int32).toInt = 1 := rfl; have z54 : (0 : Int32).toInt = 0 := rfl; have z55 : (0 : Int32).toInt = 0 := rfl; have t1 : 0 ≤ t1_5.toInt ∧ t1_5.toInt ≤ 1 := btt1_5; omega)), (show t1_5.toInt ≤ 1 from (by have z53 : (1 : Int32).toInt = 1 := rfl; have z54 : (0 : Int32).toInt = 0 := rfl; have z55 : (0 : Int32).toInt = 0 := rfl; have t1 : 0 ≤ t1_5.toInt ∧ t1_5.toInt ≤ 1 := btt1_5; omega)), (show 0 ≤ t1_6.toInt from (by have z53 : (1 : Int32).toInt = 1 := rfl; have z54 : (0 : Int32).toInt = 0 := rfl; have z55 : (0 : Int32).toInt = 0 := rfl; have t1 : 0 ≤ t1_6.toInt ∧ t1_6.toInt ≤ 2100 := btt1_6; omega)), (show t1_6.toInt ≤ 2100 from (by have z53 : (1 : Int32).toInt = 1 := rfl; have z54 : (0 : Int32).toInt = 0 := rfl; have z55 : (0 : Int32).toInt = 0 := rfl; have t1 : 0 ≤ t1_6.toInt ∧ t1_6.toInt ≤ 2100 := btt1_6; omega)), (show 0 ≤ t6_1.toInt from (by have z53 : (1 : Int32).toInt = 1 := rfl; have z54 : (0 : Int32).toInt = 0 := rfl; have z55 : (0 : Int32).toInt = 0 := rfl; have t1 : 0 ≤ t6_1.toInt ∧ t6_1.toInt ≤ 4100 := btt6_1; omega)), (show t6_1.toInt ≤ 4100 from (by have z53 : (1 : Int32).toInt = 1 := rfl; have z54 : (0 : Int32).toInt = 0 := rfl; have z55 : (0 : Int32).toInt = 0 := rfl; have t1 : 0 ≤ t6_1.toInt ∧ t6_1.toInt ≤ 4100 := btt6_1; omega)), (show 0 ≤ t6_4.toInt from (by have z53 : (1 : Int32).toInt = 1 := rfl; have z54 : (0 : Int32).toInt = 0 := rfl; have z55 : (0 : Int32).toInt = 0 := rfl; have t1 : 0 ≤ t6_4.toInt ∧ t6_4.toInt ≤ 1 := btt6_4; omega)), (show t6_4.toInt ≤ 1 from (by have z53 : (1 : Int32).toInt = 1 := rfl; have z54 : (0 : Int32).toInt = 0 := rfl; have z55 : (0 : Int32).toInt = 0 := rfl; have t1 : 0 ≤ t6_4.toInt ∧ t6_4.toInt ≤ 1 := btt6_4; omega)), (show 0 ≤ t6_5.toInt from (by have z53 : (1 : Int32).toInt = 1 := rfl; have z54 : (0 : Int32).toInt = 0 := rfl; have z55 : (0 : Int32).toInt = 0 := rfl; have t1 : 0 ≤ t6_5.toInt ∧ t6_5.toInt ≤ 1 := btt6_5; omega)), (show t6_5.toInt ≤ 1 from (by have z53 : (1 : Int32).toInt = 1 := rfl; have z54 : (0 : Int32).toInt = 0 := rfl; have z55 : (0 : Int32).toInt = 0 := rfl; have t1 : 0 ≤ t6_5.toInt ∧ t6_5.toInt ≤ 1 := btt6_5; omega)), (show 0 ≤ t6_9.toInt from (by have z53 : (1 : Int32).toInt = 1 := rfl; have z54 : (0 : Int32).toInt = 0 := rfl; have z55 : (0 : Int32).toInt = 0 := rfl; have t1 : 0 ≤ t6_9.toInt ∧ t6_9.toInt ≤ 12200 := btt6_9; omega)), (show t6_9.toInt ≤ 12200 from (by have z53 : (1 : Int32).toInt = 1 := rfl; have z54 : (0 : Int32).toInt = 0 := rfl; have z55 : (0 : Int32).toInt = 0 := rfl; have t1 : 0 ≤ t6_9.toInt ∧ t6_9.toInt ≤ 12200 := btt6_9; omega)), (show 0 ≤ y322.toInt from (by have z53 : (1 : Int32).toInt = 1 := rfl; have z54 : (0 : Int32).toInt = 0 := rfl; have z55 : (0 : Int32).toInt = 0 := rfl; have t1 : 0 ≤ t0_1.toInt ∧ t0_1.toInt ≤ 4100 := btt0_1; have t2 : t0_1.toInt ≤ a172.toInt := b175; have t3 : a172.toInt ≤ y322.toInt := b347; omega)), (show y322.toInt ≤ 4100 from (by have z53 : (1 : Int32).toInt = 1 := rfl; have z54 : (0 : Int32).toInt = 0 := rfl; have z55 : (0 : Int32).toInt = 0 := rfl; have t1 : a172.toInt ≤ 4100 := b177; have t2 : y322.toInt ≤ a172.toInt := b348; omega)), (show 0 ≤ y325.toInt from (by have z53 : (1 : Int32).toInt = 1 := rfl; have z54 : (0 : Int32).toInt = 0 := rfl; have z55 : (0 : Int32).toInt = 0 := rfl; have t1 : 0 ≤ y325.toInt := b343; omega)), (show y325.toInt ≤ 1 from (by have z53 : (1 : Int32).toInt = 1 := rfl; have z54 : (0 : Int32).toInt = 0 := rfl; have z55 : (0 : Int32).toInt = 0 := rfl; have t1 : y325.toInt ≤ 1 := b344; omega)), (show 0 ≤ y334.toInt from (by have z53 : (1 : Int32).toInt = 1 := rfl; have z54 : (0 : Int32).toInt = 0 := rfl; have z55 : (0 : Int32).toInt = 0 := rfl; have t1 : 0 ≤ y334.toInt := b345; omega)), (show y334.toInt ≤ 1 from (by have z53 : (1 : Int32).toInt = 1 := rfl; have z54 : (0 : Int32).toInt = 0 := rfl; have z55 : (0 : Int32).toInt = 0 := rfl; have t1 : y334.toInt ≤ 1 := b346; omega)), (show (0 : Int32).toInt ≤ t0_1.toInt from (by have z53 : (1 : Int32).toInt = 1 := rfl; have z54 : (0 : Int32).toInt = 0 := rfl; have z55 : (0 : Int32).toInt = 0 := rfl; have t1 : 0 ≤ t0_1.toInt ∧ t0_1.toInt ≤ 4100 := btt0_1; omega)), (show t1_1.toInt ≤ t1_1.toInt from (by have z53 : (1 : Int32).toInt = 1 := rfl; have z54 : (0 : Int32).toInt = 0 := rfl; have z55 : (0 : Int32).toInt = 0 := rfl; omega)), (show t1_1.toInt ≤ t1_1.toInt from (by have z53 : (1 : Int32).toInt = 1 := rfl; have z54 : (0 : Int32).toInt = 0 := rfl; have z55 : (0 : Int32).toInt = 0 := rfl; omega)), (show t1_4.toInt ≤ t1_4.toInt from (by have z53 : (1 : Int32).toInt = 1 := rfl; have z54 : (0 : Int32).toInt = 0 := rfl; have z55 : (0 : Int32).toInt = 0 := rfl; omega)), (show t1_4.toInt ≤ t1_4.toInt from (by have z53 : (1 : Int32).toInt = 1 := rfl; have z54 : (0 : Int32).toInt = 0 := rfl; have z55 : (0 : Int32).toInt = 0 := rfl; omega)), (show t1_5.toInt ≤ t1_5.toInt from (by have z53 : (1 : Int32).toInt = 1 := rfl; have z54 : (0 : Int32).toInt = 0 := rfl; have z55 : (0 : Int32).toInt = 0 := rfl; omega)), (show t1_5.toInt ≤ t1_5.toInt from (by have z53 : (1 : Int32).toInt = 1 := rfl; have z54 : (0 : Int32).toInt = 0 := rfl; have z55 : (0 : Int32).toInt = 0 := rfl; omega)), (show t1_6.toInt ≤ t1_6.toInt from (by have z53 : (1 : Int32).toInt = 1 := rfl; have z54 : (0 : Int32).toInt = 0 := rfl; have z55 : (0 : Int32).toInt = 0 := rfl; omega)), (show t1_6.toInt ≤ t1_6.toInt from (by have z53 : (1 : Int32).toInt = 1 := rfl; have z54 : (0 : Int32).toInt = 0 := rfl; have z55 : (0 : Int32).toInt = 0 := rfl; omega)), (show t6_4.toInt ≤ t6_4.toInt from (by have z53 : (1 : Int32).toInt = 1 := rfl; have z54 : (0 : Int32).toInt = 0 := rfl; have z55 : (0 : Int32).toInt = 0 := rfl; omega)), (show t6_6.toInt ≤ t6_6.toInt from (by have z53 : (1 : Int32).toInt = 1 := rfl; have z54 : (0 : Int32).toInt = 0 := rfl; have z55 : (0 : Int32).toInt = 0 := rfl; omega)), (show t6_6.toInt ≤ t6_6.toInt from (by have z53 : (1 : Int32).toInt = 1 := rfl; have z54 : (0 : Int32).toInt = 0 := rfl; have z55 : (0 : Int32).toInt = 0 := rfl; omega)), (show t6_7.toInt ≤ t6_7.toInt from (by have z53 : (1 : Int32).toInt = 1 := rfl; have z54 : (0 : Int32).toInt = 0 := rfl; have z55 : (0 : Int32).toInt = 0 := rfl; omega)), (show t6_7.toInt ≤ t6_7.toInt from (by have z53 : (1 : Int32).toInt = 1 := rfl; have z54 : (0 : Int32).toInt = 0 := rfl; have z55 : (0 : Int32).toInt = 0 := rfl; omega)), (show t6_8.toInt ≤ t6_8.toInt from (by have z53 : (1 : Int32).toInt = 1 := rfl; have z54 : (0 : Int32).toInt = 0 := rfl; have z55 : (0 : Int32).toInt = 0 := rfl; omega)), (show t6_8.toInt ≤ t6_8.toInt from (by have z53 : (1 : Int32).toInt = 1 := rfl; have z54 : (0 : Int32).toInt = 0 := rfl; have z55 : (0 : Int32).toInt = 0 := rfl; omega)), (show t6_9.toInt ≤ t6_9.toInt from (by have z53 : (1 : Int32).toInt = 1 := rfl; have z54 : (0 : Int32).toInt = 0 := rfl; have z55 : (0 : Int32).toInt = 0 := rfl; omega)), (show t6_9.toInt ≤ t6_9.toInt from (by have z53 : (1 : Int32).toInt = 1 := rfl; have z54 : (0 : Int32).toInt = 0 := rfl; have z55 : (0 : Int32).toInt = 0 := rfl; omega)), (show ((1 : Int32), (0 : Int32), (0 : Int32), t1_0, t1_1, t1_2, t1_3, t1_4, t1_5, t1_6, t2_0, t3_0, t4_0, t5_0, t6_0, t6_1, t6_2, t6_3, t6_4, t6_5, t6_6, t6_7, t6_8, t6_9, t6_10, t7_0, t8_0, t9_0, t10_0, t11_0, t12_0, y321, y322, y323, y324, y325, y326, y327, y328, y329, y330, y331, y332, y333, y334, f173, f335, f337, f416) = (F_NM_read x2 x3 x4 t0_0 t0_1 t0_2 t1_0 t1_1 t1_2 t1_3 t1_4 t1_5 t1_6 t2_0 t3_0 t4_0 t5_0 t6_0 t6_1 t6_2 t6_3 t6_4 t6_5 t6_6 t6_7 t6_8 t6_9 t6_10 t7_0 t8_0 t9_0 t10_0 t11_0 t12_0 t13_0 t13_1 t13_2 t13_3 t13_4 t13_5 t13_6 t13_7 t13_8 t13_9 t13_10 t13_11 t13_12 t13_13 t14_0 t15_0 t16_0 t17_0 t18_0) from Eq.trans (by rw [e420, F_NM_read_J233_7.eq_1, if_pos c403]) hR398)⟩) d_14_15_290
              ·
                intro J395
                refine lv_icmp_ne (tgt := 232) hx hb d_14_15_225 (by decide) (fun c428 => ?_) (fun c428 => ?_)
                ·
                  refine lv_iconst (v := 0) hx hb d_14_15_232 (by decide) ?_
                  exact J395 ((0 : Int32)) _ _ _ u317 ⟨(show q_F (lx133.toInt ≤ 0) from (show lx133.toInt ≤ 0 from by have t1 : lx133.toInt ≤ lx105.toInt := i155; have t2 : lx105.toInt = 0 := b164; omega)), (show q_F (0 ≤ lx133.toInt + 2) from (show 0 ≤ lx133.toInt + 2 from by have t1 : 0 ≤ lx105.toInt := i126; have t2 : lx105.toInt ≤ lx133.toInt := i154; omega)), V, q_lw hl (q_lw1 0 rfl (q_lw1 3 rfl (q_lw1 4 rfl (q_lw1 5 rfl q_lw0)))), (show F_NM_read_J233_7 x2 x3 x4 t0_0 t0_1 t0_2 t1_0 t1_1 t1_2 t1_3 t1_4 t1_5 t1_6 t2_0 t3_0 t4_0 t5_0 t6_0 t6_1 t6_2 t6_3 t6_4 t6_5 t6_6 t6_7 t6_8 t6_9 t6_10 t7_0 t8_0 t9_0 t10_0 t11_0 t12_0 t13_0 t13_1 t13_2 t13_3 t13_4 t13_5 t13_6 t13_7 t13_8 t13_9 t13_10 t13_11 t13_12 t13_13 t14_0 t15_0 t16_0 t17_0 t18_0 lx105 lx133 p181 f173 p351 j319 y321 y322 y323 y324 y325 y326 y327 y328 y329 y330 y331 y332 y333 y334 f335 f337 0 = (F_NM_read x2 x3 x4 t0_0 t0_1 t0_2 t1_0 t1_1 t1_2 t1_3 t1_4 t1_5 t1_6 t2_0 t3_0 t4_0 t5_0 t6_0 t6_1 t6_2 t6_3 t6_4 t6_5 t6_6 t6_7 t6_8 t6_9 t6_10 t7_0 t8_0 t9_0 t10_0 t11_0 t12_0 t13_0 t13_1 t13_2 t13_3 t13_4 t13_5 t13_6 t13_7 t13_8 t13_9 t13_10 t13_11 t13_12 t13_13 t14_0 t15_0 t16_0 t17_0 t18_0) from Eq.trans (by have c428x := c428; rw [e354] at c428x; rw [e369, e368, e367, e366, e365, e364, e363, e362, e361, e360, e359, e358, e357, e356, e355, e354, e353, F_NM_read_c197.eq_1, if_neg c428x]) hR370), (show True ∧ S_NM_read_J233_7 x2 x3 x4 t0_0 t0_1 t0_2 t1_0 t1_1 t1_2 t1_3 t1_4 t1_5 t1_6 t2_0 t3_0 t4_0 t5_0 t6_0 t6_1 t6_2 t6_3 t6_4 t6_5 t6_6 t6_7 t6_8 t6_9 t6_10 t7_0 t8_0 t9_0 t10_0 t11_0 t12_0 t13_0 t13_1 t13_2 t13_3 t13_4 t13_5 t13_6 t13_7 t13_8 t13_9 t13_10 t13_11 t13_12 t13_13 t14_0 t15_0 t16_0 t17_0 t18_0 lx105 lx133 p181 f173 p351 j319 y321 y322 y323 y324 y325 y326 y327 y328 y329 y330 y331 y332 y333 y334 f335 f337 0 from (by rw [e369, e368, e367, e366, e365, e364, e363, e362, e361, e360, e359, e358, e357, e356, e355, e354, e353]; have h := hS371; rw [S_NM_read_c197.eq_1] at h; have c428x := c428; rw [e354] at c428x; rw [if_neg c428x] at h; with_reducible exact h))⟩
                ·
                  refine lv_iconst (v := 2) hx hb d_14_15_228 (by decide) ?_
                  refine lv_goto (tgt := 233) hx hb d_14_15_229 (by decide) ?_
                  exact J395 ((2 : Int32)) _ _ _ u317 ⟨(show q_F (lx133.toInt ≤ 2) from (show lx133.toInt ≤ 2 from by have t1 : lx105.toInt ≤ 1 := i127; have t2 : lx133.toInt ≤ lx105.toInt := i155; omega)), (show q_F (2 ≤ lx133.toInt + 2) from (show 2 ≤ lx133.toInt + 2 from by have t1 : 0 ≤ lx105.toInt := i126; have t2 : lx105.toInt ≤ lx133.toInt := i154; omega)), V, q_lw hl (q_lw1 0 rfl (q_lw1 3 rfl (q_lw1 4 rfl (q_lw1 5 rfl q_lw0)))), (show F_NM_read_J233_7 x2 x3 x4 t0_0 t0_1 t0_2 t1_0 t1_1 t1_2 t1_3 t1_4 t1_5 t1_6 t2_0 t3_0 t4_0 t5_0 t6_0 t6_1 t6_2 t6_3 t6_4 t6_5 t6_6 t6_7 t6_8 t6_9 t6_10 t7_0 t8_0 t9_0 t10_0 t11_0 t12_0 t13_0 t13_1 t13_2 t13_3 t13_4 t13_5 t13_6 t13_7 t13_8 t13_9 t13_10 t13_11 t13_12 t13_13 t14_0 t15_0 t16_0 t17_0 t18_0 lx105 lx133 p181 f173 p351 j319 y321 y322 y323 y324 y325 y326 y327 y328 y329 y330 y331 y332 y333 y334 f335 f337 2 = (F_NM_read x2 x3 x4 t0_0 t0_1 t0_2 t1_0 t1_1 t1_2 t1_3 t1_4 t1_5 t1_6 t2_0 t3_0 t4_0 t5_0 t6_0 t6_1 t6_2 t6_3 t6_4 t6_5 t6_6 t6_7 t6_8 t6_9 t6_10 t7_0 t8_0 t9_0 t10_0 t11_0 t12_0 t13_0 t13_1 t13_2 t13_3 t13_4 t13_5 t13_6 t13_7 t13_8 t13_9 t13_10 t13_11 t13_12 t13_13 t14_0 t15_0 t16_0 t17_0 t18_0) from Eq.trans (by have c428x := c428; rw [e354] at c428x; rw [e369, e368, e367, e366, e365, e364, e363, e362, e361, e360, e359, e358, e357, e356, e355, e354, e353, F_NM_read_c197.eq_1, if_pos c428x]) hR370), (show True ∧ S_NM_read_J233_7 x2 x3 x4 t0_0 t0_1 t0_2 t1_0 t1_1 t1_2 t1_3 t1_4 t1_5 t1_6 t2_0 t3_0 t4_0 t5_0 t6_0 t6_1 t6_2 t6_3 t6_4 t6_5 t6_6 t6_7 t6_8 t6_9 t6_10 t7_0 t8_0 t9_0 t10_0 t11_0 t12_0 t13_0 t13_1 t13_2 t13_3 t13_4 t13_5 t13_6 t13_7 t13_8 t13_9 t13_10 t13_11 t13_12 t13_13 t14_0 t15_0 t16_0 t17_0 t18_0 lx105 lx133 p181 f173 p351 j319 y321 y322 y323 y324 y325 y326 y327 y328 y329 y330 y331 y332 y333 y334 f335 f337 2 from (by rw [e369, e368, e367, e366, e365, e364, e363, e362, e361, e360, e359, e358, e357, e356, e355, e354, e353]; have h := hS371; rw [S_NM_read_c197.eq_1] at h; have c428x := c428; rw [e354] at c428x; rw [if_pos c428x] at h; with_reducible exact h))⟩
          ·
            refine lv_aload_n hx hb d_14_15_118 rfl (lv_at hl 2 rfl) ?_
            refine q_get (ci := 12) (j := 6) (v := .ref (q 134)) C0 V i_NM rfl rfl hT0 (by decide) w_2304 rfl d_14_15_119 ?_
            refine lv_aload_n hx hb d_14_15_122 rfl (lv_at hl 2 rfl) ?_
            refine q_get (ci := 12) (j := 1) (v := .ref (q 117)) C0 V i_NM rfl rfl hT0 (by decide) w_2299 rfl d_14_15_123 ?_
            refine lv_aload_n hx hb d_14_15_126 rfl (lv_at hl 2 rfl) ?_
            refine q_get (ci := 12) (j := 2) (v := .int t0_1) C0 V i_NM rfl rfl hT0 (by decide) w_2300 rfl d_14_15_127 ?_
            refine lv_aload_n hx hb d_14_15_130 rfl (lv_at hl 2 rfl) ?_
            refine q_get (ci := 12) (j := 6) (v := .ref (q 134)) C0 V i_NM rfl rfl hT0 (by decide) w_2304 rfl d_14_15_131 ?_
            refine q_getN (ci := 14) (j := 1) (v := .ref (q 135)) C0 V i_DR rfl rfl hT6 (by decide) wo_1999 rfl d_14_15_134 ?_
            have ob432 : True ∧ S_NM_load (4100 : Int32) t0_1 (4100 : Int32) t17_0 t7_0 := (by have h := hS157; rw [S_NM_read_J50.eq_1] at h; rw [if_pos c163] at h; rw [if_neg c165] at h; rw [if_pos c167] at h; with_reducible exact h.2.1)
            refine q_goi V (q_runS (As := [.ref (q 117), .int t0_1, .ref (q 135)]) (rest := [.ref (q 134)]) (d := 1) (mc := 0) (ms := 0) C0 V rfl LS_NM_90 (X_NM_load l D g q w161 117 4100 (n_r117 g q) 135 4100 (n_r135 g q) t0_1 (by decide) hI t17_0 hT17 t7_0 hT7 ob432 _) rfl hl.1 rfl (Nat.le_of_ble_eq_true rfl) ⟨by decide, by decide⟩ ⟨Nat.le_of_ble_eq_true rfl, Nat.le_of_ble_eq_true rfl⟩ d_14_15_137) (fun a435 u433 H locs hp434 V => ?_)
            obtain ⟨hI, hZ9⟩ := hp434
            obtain ⟨hu443, hZ9⟩ := hZ9
            obtain ⟨f436, hZ9⟩ := hZ9
            obtain ⟨hA437, hZ9⟩ := hZ9
            obtain ⟨b438, hZ9⟩ := hZ9
            replace hZ9 := hZ9.2
            obtain ⟨b440, hZ9⟩ := hZ9
            obtain ⟨-, hE442⟩ := hZ9
            replace hA437 : u433[135]? = (some (q 135, .inl (g 0, (4100 : Int32).toNatClampNeg, .inl f436)) : Option (Nat × va_E)) := hA437
            obtain ⟨p444, e445⟩ : ∃ z, z = (F_NM_load (4100 : Int32) t0_1 (4100 : Int32) t17_0 t7_0) := ⟨_, rfl⟩
            have e446 : a435 = p444.1 := congrArg (fun z => z.1) (hE442.trans e445.symm)
            have e447 : f436 = p444.2 := congrArg (fun z => z.2) (hE442.trans e445.symm)
            replace b438 : q_F (t0_1.toInt ≤ a435.toInt) := b438
            replace b440 : q_F (a435.toInt ≤ 4100) := b440
            replace hT0 := (hu443 _ (by decide)).trans hT0
            replace hT1 := (hu443 _ (by decide)).trans hT1
            replace hT2 := (hu443 _ (by decide)).trans hT2
            replace hT3 := (hu443 _ (by decide)).trans hT3
            replace hT4 := (hu443 _ (by decide)).trans hT4
            replace hT5 := (hu443 _ (by decide)).trans hT5
            replace hT6 := (hu443 _ (by decide)).trans hT6
            replace hT8 := (hu443 _ (by decide)).trans hT8
            replace hT9 := (hu443 _ (by decide)).trans hT9
            replace hT10 := (hu443 _ (by decide)).trans hT10
            replace hT11 := (hu443 _ (by decide)).trans hT11
            replace hT12 := (hu443 _ (by decide)).trans hT12
            replace hT13 := (hu443 _ (by decide)).trans hT13
            replace hT14 := (hu443 _ (by decide)).trans hT14
            replace hT15 := (hu443 _ (by decide)).trans hT15
            replace hT16 := (hu443 _ (by decide)).trans hT16
            replace hT18 := (hu443 _ (by decide)).trans hT18
            replace hF := q_uc hF hu443 (by simp)
            have hR448 := (show F_NM_read_c137 x2 x3 x4 t0_0 t0_1 t0_2 t1_0 t1_1 t1_2 t1_3 t1_4 t1_5 t1_6 t2_0 t3_0 t4_0 t5_0 t6_0 t6_1 t6_2 t6_3 t6_4 t6_5 t6_6 t6_7 t6_8 t6_9 t6_10 t7_0 t8_0 t9_0 t10_0 t11_0 t12_0 t13_0 t13_1 t13_2 t13_3 t13_4 t13_5 t13_6 t13_7 t13_8 t13_9 t13_10 t13_11 t13_12 t13_13 t14_0 t15_0 t16_0 t17_0 t18_0 lx105 lx133 p444 = (F_NM_read x2 x3 x4 t0_0 t0_1 t0_2 t1_0 t1_1 t1_2 t1_3 t1_4 t1_5 t1_6 t2_0 t3_0 t4_0 t5_0 t6_0 t6_1 t6_2 t6_3 t6_4 t6_5 t6_6 t6_7 t6_8 t6_9 t6_10 t7_0 t8_0 t9_0 t10_0 t11_0 t12_0 t13_0 t13_1 t13_2 t13_3 t13_4 t13_5 t13_6 t13_7 t13_8 t13_9 t13_10 t13_11 t13_12 t13_13 t14_0 t15_0 t16_0 t17_0 t18_0) from Eq.trans (by rw [e445, F_NM_read_J50.eq_1, if_pos c163, if_neg c165, if_pos c167]) hR156)
            have hS449 := (show True ∧ S_NM_read_c137 x2 x3 x4 t0_0 t0_1 t0_2 t1_0 t1_1 t1_2 t1_3 t1_4 t1_5 t1_6 t2_0 t3_0 t4_0 t5_0 t6_0 t6_1 t6_2 t6_3 t6_4 t6_5 t6_6 t6_7 t6_8 t6_9 t6_10 t7_0 t8_0 t9_0 t10_0 t11_0 t12_0 t13_0 t13_1 t13_2 t13_3 t13_4 t13_5 t13_6 t13_7 t13_8 t13_9 t13_10 t13_11 t13_12 t13_13 t14_0 t15_0 t16_0 t17_0 t18_0 lx105 lx133 p444 from (by rw [e445]; have h := hS157; rw [S_NM_read_J50.eq_1] at h; rw [if_pos c163] at h; rw [if_neg c165] at h; rw [if_pos c167] at h; replace h := q_s2 h; with_reducible exact h))
            refine q_putN (ci := 14) (j := 2) (v := .int a435) (ty := .int) C0 V i_DR o_DR n_DR rfl rfl hT6 (by decide) wo_2000 rfl rfl rfl rfl (Nat.le_of_ble_eq_true rfl) d_14_15_140 (fun H locs w453 hu454 hT6 V => ?_)
            replace hT6 : w453[134]? = (some (q 134, .inr (14, [.int t6_0, .ref (q 135), .int a435, .ref (q 136), .ref (q 137), .ref (q 138), .ref (q 139), .ref (q 140), .int t6_2, .long t6_3, .int t6_4, .int t6_5, .ref (q 141), .int t6_6, .ref (q 142), .int t6_7, .ref (q 143), .int t6_8, .ref (q 144), .int t6_9, .int t6_10])) : Option (Nat × va_E)) := hT6
            replace hI := n_p134 hI hu454 hT6 ⟨(by have t1 : 0 ≤ t0_1.toInt ∧ t0_1.toInt ≤ 4100 := btt0_1; have t2 : t0_1.toInt ≤ a435.toInt := b438; omega), (by first | with_reducible exact q_fe b440 | (have t1 : a435.toInt ≤ 4100 := b440; omega))⟩ (by first | with_reducible exact q_fe btt6_4 | exact ⟨(by have t1 : 0 ≤ t6_4.toInt ∧ t6_4.toInt ≤ 1 := btt6_4; omega), (by have t1 : 0 ≤ t6_4.toInt ∧ t6_4.toInt ≤ 1 := btt6_4; omega)⟩) (by first | with_reducible exact q_fe btt6_5 | exact ⟨(by have t1 : 0 ≤ t6_5.toInt ∧ t6_5.toInt ≤ 1 := btt6_5; omega), (by have t1 : 0 ≤ t6_5.toInt ∧ t6_5.toInt ≤ 1 := btt6_5; omega)⟩) (by first | with_reducible exact q_fe btt6_9 | exact ⟨(by have t1 : 0 ≤ t6_9.toInt ∧ t6_9.toInt ≤ 12200 := btt6_9; omega), (by have t1 : 0 ≤ t6_9.toInt ∧ t6_9.toInt ≤ 12200 := btt6_9; omega)⟩)
            replace hT0 := (hu454 _ (by decide)).trans hT0
            replace hT1 := (hu454 _ (by decide)).trans hT1
            replace hT2 := (hu454 _ (by decide)).trans hT2
            replace hT3 := (hu454 _ (by decide)).trans hT3
            replace hT4 := (hu454 _ (by decide)).trans hT4
            replace hT5 := (hu454 _ (by decide)).trans hT5
            replace hA437 := (hu454 _ (by decide)).trans hA437
            replace hT8 := (hu454 _ (by decide)).trans hT8
            replace hT9 := (hu454 _ (by decide)).trans hT9
            replace hT10 := (hu454 _ (by decide)).trans hT10
            replace hT11 := (hu454 _ (by decide)).trans hT11
            replace hT12 := (hu454 _ (by decide)).trans hT12
            replace hT13 := (hu454 _ (by decide)).trans hT13
            replace hT14 := (hu454 _ (by decide)).trans hT14
            replace hT15 := (hu454 _ (by decide)).trans hT15
            replace hT16 := (hu454 _ (by decide)).trans hT16
            replace hT18 := (hu454 _ (by decide)).trans hT18
            replace hF := q_us hF hu454 (by simp)
            refine lv_aload_n hx hb d_14_15_143 rfl (lv_at hl 2 rfl) ?_
            refine q_get (ci := 12) (j := 6) (v := .ref (q 134)) C0 V i_NM rfl rfl hT0 (by decide) w_2304 rfl d_14_15_144 ?_
            refine lv_iload_n hx hb d_14_15_147 rfl (lv_at hl 4 rfl) ?_
            have ob455 : True ∧ S_DR_read x3 t6_0 a435 t6_2 t6_3 t6_4 t6_5 t6_6 t6_7 t6_8 t6_9 t6_10 f436 t8_0 t9_0 t10_0 t11_0 t12_0 := (by rw [e447, e446]; have h := hS449; rw [S_NM_read_c137.eq_1] at h; with_reducible exact h.2.1)
            refine q_gov V (q_runV (As := [.int x3]) (rest := []) (d := 3) (mc := 0) (ms := 0) (ci := 14) C0 V rfl LV_NM_102 (X_DR_read l D g q w453  x3 hI t6_0 a435 t6_2 t6_3 t6_4 t6_5 t6_6 t6_7 t6_8 t6_9 t6_10 hT6 f436 hA437 t8_0 hT8 t9_0 hT9 t10_0 hT10 t11_0 hT11 t12_0 hT12 ob455 _) rfl rfl hT6 rfl hl.1 rfl (Nat.le_of_ble_eq_true rfl) ⟨by decide, by decide⟩ ⟨Nat.le_of_ble_eq_true rfl, Nat.le_of_ble_eq_true rfl⟩ d_14_15_148) (fun u456 H locs hp457 V => ?_)
            obtain ⟨hI, hZ9⟩ := hp457
            obtain ⟨hu495, hZ9⟩ := hZ9
            obtain ⟨y459, hZ9⟩ := hZ9
            obtain ⟨y460, hZ9⟩ := hZ9
            obtain ⟨y461, hZ9⟩ := hZ9
            obtain ⟨y462, hZ9⟩ := hZ9
            obtain ⟨y463, hZ9⟩ := hZ9
            obtain ⟨y464, hZ9⟩ := hZ9
            obtain ⟨y465, hZ9⟩ := hZ9
            obtain ⟨y466, hZ9⟩ := hZ9
            obtain ⟨y467, hZ9⟩ := hZ9
            obtain ⟨y468, hZ9⟩ := hZ9
            obtain ⟨y469, hZ9⟩ := hZ9
            obtain ⟨f470, hZ9⟩ := hZ9
            obtain ⟨f472, hZ9⟩ := hZ9
            obtain ⟨f474, hZ9⟩ := hZ9
            obtain ⟨f476, hZ9⟩ := hZ9
            obtain ⟨f478, hZ9⟩ := hZ9
            obtain ⟨hO458, hZ9⟩ := hZ9
            obtain ⟨hA471, hZ9⟩ := hZ9
            obtain ⟨hA473, hZ9⟩ := hZ9
            obtain ⟨hA475, hZ9⟩ := hZ9
            obtain ⟨hA477, hZ9⟩ := hZ9
            obtain ⟨hA479, hZ9⟩ := hZ9
            obtain ⟨b480, hZ9⟩ := hZ9
            obtain ⟨b481, hZ9⟩ := hZ9
            obtain ⟨b482, hZ9⟩ := hZ9
            obtain ⟨b483, hZ9⟩ := hZ9
            obtain ⟨b484, hZ9⟩ := hZ9
            obtain ⟨b485, hZ9⟩ := hZ9
            obtain ⟨b486, hZ9⟩ := hZ9
            obtain ⟨b487, hZ9⟩ := hZ9
            obtain ⟨b488, hZ9⟩ := hZ9
            obtain ⟨b489, hZ9⟩ := hZ9
            obtain ⟨b490, hZ9⟩ := hZ9
            obtain ⟨b491, hZ9⟩ := hZ9
            obtain ⟨b492, hZ9⟩ := hZ9
            obtain ⟨b493, hE494⟩ := hZ9
            replace hO458 : u456[134]? = (some (q 134, .inr (14, [.int y459, .ref (q 135), .int y460, .ref (q 136), .ref (q 137), .ref (q 138), .ref (q 139), .ref (q 140), .int y461, .long y462, .int y463, .int y464, .ref (q 141), .int y465, .ref (q 142), .int y466, .ref (q 143), .int y467, .ref (q 144), .int y468, .int y469])) : Option (Nat × va_E)) := hO458
            replace hA471 : u456[136]? = (some (q 136, .inl (g 0, (10000 : Int32).toNatClampNeg, .inl f470)) : Option (Nat × va_E)) := hA471
            replace hA473 : u456[137]? = (some (q 137, .inl (g 0, (10 : Int32).toNatClampNeg, .inl f472)) : Option (Nat × va_E)) := hA473
            replace hA475 : u456[138]? = (some (q 138, .inl (g 3, 10, .inl f474)) : Option (Nat × va_E)) := hA475
            replace hA477 : u456[139]? = (some (q 139, .inl (g 0, (10 : Int32).toNatClampNeg, .inl f476)) : Option (Nat × va_E)) := hA477
            replace hA479 : u456[140]? = (some (q 140, .inl (g 0, (4400 : Int32).toNatClampNeg, .inl f478)) : Option (Nat × va_E)) := hA479
            obtain ⟨p496, e497⟩ : ∃ z, z = (F_DR_read x3 t6_0 a435 t6_2 t6_3 t6_4 t6_5 t6_6 t6_7 t6_8 t6_9 t6_10 f436 t8_0 t9_0 t10_0 t11_0 t12_0) := ⟨_, rfl⟩
            have e498 : y459 = p496.1 := congrArg (fun z => z.1) (hE494.trans e497.symm)
            have e499 : y460 = p496.2.1 := congrArg (fun z => z.2.1) (hE494.trans e497.symm)
            have e500 : y461 = p496.2.2.1 := congrArg (fun z => z.2.2.1) (hE494.trans e497.symm)
            have e501 : y462 = p496.2.2.2.1 := congrArg (fun z => z.2.2.2.1) (hE494.trans e497.symm)
            have e502 : y463 = p496.2.2.2.2.1 := congrArg (fun z => z.2.2.2.2.1) (hE494.trans e497.symm)
            have e503 : y464 = p496.2.2.2.2.2.1 := congrArg (fun z => z.2.2.2.2.2.1) (hE494.trans e497.symm)
            have e504 : y465 = p496.2.2.2.2.2.2.1 := congrArg (fun z => z.2.2.2.2.2.2.1) (hE494.trans e497.symm)
            have e505 : y466 = p496.2.2.2.2.2.2.2.1 := congrArg (fun z => z.2.2.2.2.2.2.2.1) (hE494.trans e497.symm)
            have e506 : y467 = p496.2.2.2.2.2.2.2.2.1 := congrArg (fun z => z.2.2.2.2.2.2.2.2.1) (hE494.trans e497.symm)
            have e507 : y468 = p496.2.2.2.2.2.2.2.2.2.1 := congrArg (fun z => z.2.2.2.2.2.2.2.2.2.1) (hE494.trans e497.symm)
            have e508 : y469 = p496.2.2.2.2.2.2.2.2.2.2.1 := congrArg (fun z => z.2.2.2.2.2.2.2.2.2.2.1) (hE494.trans e497.symm)
            have e509 : f470 = p496.2.2.2.2.2.2.2.2.2.2.2.1 := congrArg (fun z => z.2.2.2.2.2.2.2.2.2.2.2.1) (hE494.trans e497.symm)
            have e510 : f472 = p496.2.2.2.2.2.2.2.2.2.2.2.2.1 := congrArg (fun z => z.2.2.2.2.2.2.2.2.2.2.2.2.1) (hE494.trans e497.symm)
            have e511 : f474 = p496.2.2.2.2.2.2.2.2.2.2.2.2.2.1 := congrArg (fun z => z.2.2.2.2.2.2.2.2.2.2.2.2.2.1) (hE494.trans e497.symm)
            have e512 : f476 = p496.2.2.2.2.2.2.2.2.2.2.2.2.2.2.1 := congrArg (fun z => z.2.2.2.2.2.2.2.2.2.2.2.2.2.2.1) (hE494.trans e497.symm)
            have e513 : f478 = p496.2.2.2.2.2.2.2.2.2.2.2.2.2.2.2 := congrArg (fun z => z.2.2.2.2.2.2.2.2.2.2.2.2.2.2.2) (hE494.trans e497.symm)
            replace b480 : q_F (0 ≤ y460.toInt) := b480
            replace b481 : q_F (0 ≤ y463.toInt) := b481
            replace b482 : q_F (0 ≤ y464.toInt) := b482
            replace b483 : q_F (y464.toInt ≤ 1) := b483
            replace b484 : q_F (y460.toInt ≤ a435.toInt) := b484
            replace b485 : q_F (y463.toInt ≤ t6_4.toInt) := b485
            replace b486 : q_F (t6_6.toInt ≤ y465.toInt) := b486
            replace b487 : q_F (y465.toInt ≤ t6_6.toInt) := b487
            replace b488 : q_F (t6_7.toInt ≤ y466.toInt) := b488
            replace b489 : q_F (y466.toInt ≤ t6_7.toInt) := b489
            replace b490 : q_F (t6_8.toInt ≤ y467.toInt) := b490
            replace b491 : q_F (y467.toInt ≤ t6_8.toInt) := b491
            replace b492 : q_F (t6_9.toInt ≤ y468.toInt) := b492
            replace b493 : q_F (y468.toInt ≤ t6_9.toInt) := b493
            replace hT0 := (hu495 _ (by decide)).trans hT0
            replace hT1 := (hu495 _ (by decide)).trans hT1
            replace hT2 := (hu495 _ (by decide)).trans hT2
            replace hT3 := (hu495 _ (by decide)).trans hT3
            replace hT4 := (hu495 _ (by decide)).trans hT4
            replace hT5 := (hu495 _ (by decide)).trans hT5
            replace hA437 := (hu495 _ (by decide)).trans hA437
            replace hT13 := (hu495 _ (by decide)).trans hT13
            replace hT14 := (hu495 _ (by decide)).trans hT14
            replace hT15 := (hu495 _ (by decide)).trans hT15
            replace hT16 := (hu495 _ (by decide)).trans hT16
            replace hT18 := (hu495 _ (by decide)).trans hT18
            replace hF := q_uc hF hu495 (by simp)
            have hR514 := (show F_NM_read_c148 x2 x3 x4 t0_0 t0_1 t0_2 t1_0 t1_1 t1_2 t1_3 t1_4 t1_5 t1_6 t2_0 t3_0 t4_0 t5_0 t6_0 t6_1 t6_2 t6_3 t6_4 t6_5 t6_6 t6_7 t6_8 t6_9 t6_10 t7_0 t8_0 t9_0 t10_0 t11_0 t12_0 t13_0 t13_1 t13_2 t13_3 t13_4 t13_5 t13_6 t13_7 t13_8 t13_9 t13_10 t13_11 t13_12 t13_13 t14_0 t15_0 t16_0 t17_0 t18_0 lx105 lx133 p444 f436 p496 = (F_NM_read x2 x3 x4 t0_0 t0_1 t0_2 t1_0 t1_1 t1_2 t1_3 t1_4 t1_5 t1_6 t2_0 t3_0 t4_0 t5_0 t6_0 t6_1 t6_2 t6_3 t6_4 t6_5 t6_6 t6_7 t6_8 t6_9 t6_10 t7_0 t8_0 t9_0 t10_0 t11_0 t12_0 t13_0 t13_1 t13_2 t13_3 t13_4 t13_5 t13_6 t13_7 t13_8 t13_9 t13_10 t13_11 t13_12 t13_13 t14_0 t15_0 t16_0 t17_0 t18_0) from Eq.trans (by rw [e497, e447, e446, F_NM_read_c137.eq_1]) hR448)
            have hS515 := (show True ∧ S_NM_read_c148 x2 x3 x4 t0_0 t0_1 t0_2 t1_0 t1_1 t1_2 t1_3 t1_4 t1_5 t1_6 t2_0 t3_0 t4_0 t5_0 t6_0 t6_1 t6_2 t6_3 t6_4 t6_5 t6_6 t6_7 t6_8 t6_9 t6_10 t7_0 t8_0 t9_0 t10_0 t11_0 t12_0 t13_0 t13_1 t13_2 t13_3 t13_4 t13_5 t13_6 t13_7 t13_8 t13_9 t13_10 t13_11 t13_12 t13_13 t14_0 t15_0 t16_0 t17_0 t18_0 lx105 lx133 p444 f436 p496 from (by rw [e497, e447, e446]; have h := hS449; rw [S_NM_read_c137.eq_1] at h; replace h := q_s2 h; with_reducible exact h))
            refine lv_aload_n hx hb d_14_15_151 rfl (lv_at hl 2 rfl) ?_
            refine q_get (ci := 12) (j := 6) (v := .ref (q 134)) C0 V i_NM rfl rfl hT0 (by decide) w_2304 rfl d_14_15_152 ?_
            refine q_getN (ci := 14) (j := 0) (v := .int y459) C0 V i_DR rfl rfl hO458 (by decide) wo_1997 rfl d_14_15_155 ?_
            refine lv_istore (lv' := [(5, .int y459), (4, .int lx105), (0, .ref (q 116)), (1, .int x2), (2, .int x3), (3, .int x4)]) hx hb d_14_15_158 hl (by decide) rfl (fun ls hl => ?_)
            refine lv_goto (tgt := 248) hx hb d_14_15_160 (by decide) ?_
            refine lv_aload_n hx hb d_14_15_248 rfl (lv_at hl 2 rfl) ?_
            refine lv_iload hx hb d_14_15_249 (lv_at hl 0 rfl) ?_
            refine lv_iconst (v := 3) hx hb d_14_15_251 (by decide) ?_
            refine q_join (X := Int32) (fun z H locs ls _ => q_F (lx133.toInt ≤ z.toInt) ∧ q_F (z.toInt ≤ lx133.toInt + 2) ∧ q_Wd D g (va_A ws sz) s u456 H locs ∧ lv_has ls 8 [(5, .int y459), (0, .ref (q 116))] ∧ F_NM_read_J260 x2 x3 x4 t0_0 t0_1 t0_2 t1_0 t1_1 t1_2 t1_3 t1_4 t1_5 t1_6 t2_0 t3_0 t4_0 t5_0 t6_0 t6_1 t6_2 t6_3 t6_4 t6_5 t6_6 t6_7 t6_8 t6_9 t6_10 t7_0 t8_0 t9_0 t10_0 t11_0 t12_0 t13_0 t13_1 t13_2 t13_3 t13_4 t13_5 t13_6 t13_7 t13_8 t13_9 t13_10 t13_11 t13_12 t13_13 t14_0 t15_0 t16_0 t17_0 t18_0 lx105 lx133 p444 f436 p496 y459 y460 y461 y462 y463 y464 y465 y466 y467 y468 y469 f470 f472 f474 f476 f478 z = (F_NM_read x2 x3 x4 t0_0 t0_1 t0_2 t1_0 t1_1 t1_2 t1_3 t1_4 t1_5 t1_6 t2_0 t3_0 t4_0 t5_0 t6_0 t6_1 t6_2 t6_3 t6_4 t6_5 t6_6 t6_7 t6_8 t6_9 t6_10 t7_0 t8_0 t9_0 t10_0 t11_0 t12_0 t13_0 t13_1 t13_2 t13_3 t13_4 t13_5 t13_6 t13_7 t13_8 t13_9 t13_10 t13_11 t13_12 t13_13 t14_0 t15_0 t16_0 t17_0 t18_0) ∧ True ∧ S_NM_read_J260 x2 x3 x4 t0_0 t0_1 t0_2 t1_0 t1_1 t1_2 t1_3 t1_4 t1_5 t1_6 t2_0 t3_0 t4_0 t5_0 t6_0 t6_1 t6_2 t6_3 t6_4 t6_5 t6_6 t6_7 t6_8 t6_9 t6_10 t7_0 t8_0 t9_0 t10_0 t11_0 t12_0 t13_0 t13_1 t13_2 t13_3 t13_4 t13_5 t13_6 t13_7 t13_8 t13_9 t13_10 t13_11 t13_12 t13_13 t14_0 t15_0 t16_0 t17_0 t18_0 lx105 lx133 p444 f436 p496 y459 y460 y461 y462 y463 y464 y465 y466 y467 y468 y469 f470 f472 f474 f476 f478 z) (fun z => [.int z, .ref (q 116)]) 260 0 0 ?_ ?_
            ·
              rintro lx519 H locs ls _ hZ9
              obtain ⟨i540, hZ9⟩ := hZ9
              obtain ⟨i541, hZ9⟩ := hZ9
              obtain ⟨V, hZ9⟩ := hZ9
              obtain ⟨hl, hZ9⟩ := hZ9
              obtain ⟨hR542, hS543⟩ := hZ9
              replace i540 : q_F (lx133.toInt ≤ lx519.toInt) := i540
              replace i541 : q_F (lx519.toInt ≤ lx133.toInt + 2) := i541
              replace hl : lv_has ls 8 [(5, .int y459), (0, .ref (q 116))] := hl
              refine q_put (ci := 12) (j := 0) (v := .int lx519) (ty := .int) C0 V i_NM o_NM n_NM rfl rfl hT0 (by decide) w_2298 rfl rfl rfl rfl (Nat.le_of_ble_eq_true rfl) d_14_15_260 (fun H locs w547 hu548 hT0 V => ?_)
              replace hT0 : w547[116]? = (some (q 116, .inr (12, [.int lx519, .ref (q 117), .int t0_1, .ref (q 118), .int t0_2, .ref (q 119), .ref (q 134), .ref (q 145), .ref (q 153), .ref (q 157), .ref (q 167), .ref (q 168)])) : Option (Nat × va_E)) := hT0
              replace hI := n_p116 hI hu548 hT0 (by first | with_reducible exact q_fe btt0_1 | exact ⟨(by have t1 : 0 ≤ t0_1.toInt ∧ t0_1.toInt ≤ 4100 := btt0_1; omega), (by have t1 : 0 ≤ t0_1.toInt ∧ t0_1.toInt ≤ 4100 := btt0_1; omega)⟩) (by first | with_reducible exact q_fe btt0_2 | exact ⟨(by have t1 : 0 ≤ t0_2.toInt ∧ t0_2.toInt ≤ 12200 := btt0_2; omega), (by have t1 : 0 ≤ t0_2.toInt ∧ t0_2.toInt ≤ 12200 := btt0_2; omega)⟩)
              replace hT1 := (hu548 _ (by decide)).trans hT1
              replace hT2 := (hu548 _ (by decide)).trans hT2
              replace hT3 := (hu548 _ (by decide)).trans hT3
              replace hT4 := (hu548 _ (by decide)).trans hT4
              replace hT5 := (hu548 _ (by decide)).trans hT5
              replace hO458 := (hu548 _ (by decide)).trans hO458
              replace hA437 := (hu548 _ (by decide)).trans hA437
              replace hA471 := (hu548 _ (by decide)).trans hA471
              replace hA473 := (hu548 _ (by decide)).trans hA473
              replace hA475 := (hu548 _ (by decide)).trans hA475
              replace hA477 := (hu548 _ (by decide)).trans hA477
              replace hA479 := (hu548 _ (by decide)).trans hA479
              replace hT13 := (hu548 _ (by decide)).trans hT13
              replace hT14 := (hu548 _ (by decide)).trans hT14
              replace hT15 := (hu548 _ (by decide)).trans hT15
              replace hT16 := (hu548 _ (by decide)).trans hT16
              replace hT18 := (hu548 _ (by decide)).trans hT18
              replace hF := q_us hF hu548 (by simp)
              refine lv_aload_n hx hb d_14_15_263 rfl (lv_at hl 1 rfl) ?_
              refine lv_iload hx hb d_14_15_264 (lv_at hl 0 rfl) ?_
              refine lv_if_ne (tgt := 273) hx hb d_14_15_266 (by decide) (fun c549 => ?_) (fun c549 => ?_)
              ·
                have b550 : q_F (y459.toInt ≠ 0) := (q_neI c549)
                refine lv_aload_n hx hb d_14_15_273 rfl (lv_at hl 1 rfl) ?_
                refine q_get (ci := 12) (j := 2) (v := .int t0_1) C0 V i_NM rfl rfl hT0 (by decide) w_2300 rfl d_14_15_274 ?_
                refine q_put (ci := 12) (j := 2) (v := .int t0_1) (ty := .int) C0 V i_NM o_NM n_NM rfl rfl hT0 (by decide) w_2300 rfl rfl rfl rfl (Nat.le_of_ble_eq_true rfl) d_14_15_277 (fun H locs w551 hu552 hT0 V => ?_)
                replace hT0 : w551[116]? = (some (q 116, .inr (12, [.int lx519, .ref (q 117), .int t0_1, .ref (q 118), .int t0_2, .ref (q 119), .ref (q 134), .ref (q 145), .ref (q 153), .ref (q 157), .ref (q 167), .ref (q 168)])) : Option (Nat × va_E)) := hT0
                replace hI := n_p116 hI hu552 hT0 (by first | with_reducible exact q_fe btt0_1 | exact ⟨(by have t1 : 0 ≤ t0_1.toInt ∧ t0_1.toInt ≤ 4100 := btt0_1; omega), (by have t1 : 0 ≤ t0_1.toInt ∧ t0_1.toInt ≤ 4100 := btt0_1; omega)⟩) (by first | with_reducible exact q_fe btt0_2 | exact ⟨(by have t1 : 0 ≤ t0_2.toInt ∧ t0_2.toInt ≤ 12200 := btt0_2; omega), (by have t1 : 0 ≤ t0_2.toInt ∧ t0_2.toInt ≤ 12200 := btt0_2; omega)⟩)
                replace hT1 := (hu552 _ (by decide)).trans hT1
                replace hT2 := (hu552 _ (by decide)).trans hT2
                replace hT3 := (hu552 _ (by decide)).trans hT3
                replace hT4 := (hu552 _ (by decide)).trans hT4
                replace hT5 := (hu552 _ (by decide)).trans hT5
                replace hO458 := (hu552 _ (by decide)).trans hO458
                replace hA437 := (hu552 _ (by decide)).trans hA437
                replace hA471 := (hu552 _ (by decide)).trans hA471
                replace hA473 := (hu552 _ (by decide)).trans hA473
                replace hA475 := (hu552 _ (by decide)).trans hA475
                replace hA477 := (hu552 _ (by decide)).trans hA477
                replace hA479 := (hu552 _ (by decide)).trans hA479
                replace hT13 := (hu552 _ (by decide)).trans hT13
                replace hT14 := (hu552 _ (by decide)).trans hT14
                replace hT15 := (hu552 _ (by decide)).trans hT15
                replace hT16 := (hu552 _ (by decide)).trans hT16
                replace hT18 := (hu552 _ (by decide)).trans hT18
                replace hF := q_us hF hu552 (by simp)
                refine lv_iload hx hb d_14_15_280 (lv_at hl 0 rfl) ?_
                refine lv_if_ne (tgt := 289) hx hb d_14_15_282 (by decide) (fun c553 => ?_) (fun c553 => absurd (show y459.toInt = 0 from q_eqI c553) (by first | with_reducible exact q_fe b550 | (have t1 : y459.toInt ≠ 0 := b550; omega)))
                refine lv_iconst (v := 0) hx hb d_14_15_289 (by decide) ?_
                exact q_retz C0 V (by decide) (⟨hI, hF, lx519, t0_1, t1_0, t1_1, t1_2, t1_3, t1_4, t1_5, t1_6, t2_0, t3_0, t4_0, t5_0, y459, y460, y461, y462, y463, y464, y465, y466, y467, y468, y469, f436, f470, f472, f474, f476, f478, t13_0, t13_1, t13_2, t13_3, t13_4, t13_5, t13_6, t13_7, t13_8, t13_9, t13_10, t13_11, t13_12, t13_13, t14_0, t15_0, t16_0, t18_0, hT0, hT1, hT2, hT3, hT4, hT5, hO458, hA437, hA471, hA473, hA475, hA477, hA479, hT13, hT14, hT15, hT16, hT18, (show 0 ≤ (0 : Int32).toInt from (by have z53 : (0 : Int32).toInt = 0 := rfl; omega)), (show (0 : Int32).toInt ≤ 1 from (by have z53 : (0 : Int32).toInt = 0 := rfl; omega)), (show 0 ≤ lx519.toInt from (by have z53 : (0 : Int32).toInt = 0 := rfl; have t1 : 0 ≤ lx105.toInt := i126; have t2 : lx105.toInt ≤ lx133.toInt := i154; have t3 : lx133.toInt ≤ lx519.toInt := i540; omega)), (show lx519.toInt ≤ 2 from (by have z53 : (0 : Int32).toInt = 0 := rfl; have t1 : lx133.toInt ≤ lx105.toInt := i155; have t2 : lx105.toInt = 0 := b164; have t3 : lx519.toInt ≤ lx133.toInt + 2 := i541; omega)), (show 0 ≤ t0_1.toInt from (by have z53 : (0 : Int32).toInt = 0 := rfl; have t1 : 0 ≤ t0_1.toInt ∧ t0_1.toInt ≤ 4100 := btt0_1; omega)), (show t0_1.toInt ≤ 4100 from (by have z53 : (0 : Int32).toInt = 0 := rfl; have t1 : 0 ≤ t0_1.toInt ∧ t0_1.toInt ≤ 4100 := btt0_1; omega)), (show 0 ≤ t1_2.toInt from (by have z53 : (0 : Int32).toInt = 0 := rfl; have t1 : 0 ≤ t1_2.toInt ∧ t1_2.toInt ≤ 4100 := btt1_2; omega)), (show t1_2.toInt ≤ 4100 from (by have z53 : (0 : Int32).toInt = 0 := rfl; have t1 : 0 ≤ t1_2.toInt ∧ t1_2.toInt ≤ 4100 := btt1_2; omega)), (show 0 ≤ t1_3.toInt from (by have z53 : (0 : Int32).toInt = 0 := rfl; have t1 : 0 ≤ t1_3.toInt ∧ t1_3.toInt ≤ 1 := btt1_3; omega)), (show t1_3.toInt ≤ 1 from (by have z53 : (0 : Int32).toInt = 0 := rfl; have t1 : 0 ≤ t1_3.toInt ∧ t1_3.toInt ≤ 1 := btt1_3; omega)), (show 0 ≤ t1_4.toInt from (by have z53 : (0 : Int32).toInt = 0 := rfl; have t1 : 0 ≤ t1_4.toInt ∧ t1_4.toInt ≤ 1 := btt1_4; omega)), (show t1_4.toInt ≤ 1 from (by have z53 : (0 : Int32).toInt = 0 := rfl; have t1 : 0 ≤ t1_4.toInt ∧ t1_4.toInt ≤ 1 := btt1_4; omega)), (show 0 ≤ t1_5.toInt from (by have z53 : (0 : Int32).toInt = 0 := rfl; have t1 : 0 ≤ t1_5.toInt ∧ t1_5.toInt ≤ 1 := btt1_5; omega)), (show t1_5.toInt ≤ 1 from (by have z53 : (0 : Int32).toInt = 0 := rfl; have t1 : 0 ≤ t1_5.toInt ∧ t1_5.toInt ≤ 1 := btt1_5; omega)), (show 0 ≤ t1_6.toInt from (by have z53 : (0 : Int32).toInt = 0 := rfl; have t1 : 0 ≤ t1_6.toInt ∧ t1_6.toInt ≤ 2100 := btt1_6; omega)), (show t1_6.toInt ≤ 2100 from (by have z53 : (0 : Int32).toInt = 0 := rfl; have t1 : 0 ≤ t1_6.toInt ∧ t1_6.toInt ≤ 2100 := btt1_6; omega)), (show 0 ≤ y460.toInt from (by have z53 : (0 : Int32).toInt = 0 := rfl; have t1 : 0 ≤ y460.toInt := b480; omega)), (show y460.toInt ≤ 4100 from (by have z53 : (0 : Int32).toInt = 0 := rfl; have t1 : a435.toInt ≤ 4100 := b440; have t2 : y460.toInt ≤ a435.toInt := b484; omega)), (show 0 ≤ y463.toInt from (by have z53 : (0 : Int32).toInt = 0 := rfl; have t1 : 0 ≤ y463.toInt := b481; omega)), (show y463.toInt ≤ 1 from (by have z53 : (0 : Int32).toInt = 0 := rfl; have t1 : 0 ≤ t6_4.toInt ∧ t6_4.toInt ≤ 1 := btt6_4; have t2 : y463.toInt ≤ t6_4.toInt := b485; omega)), (show 0 ≤ y464.toInt from (by have z53 : (0 : Int32).toInt = 0 := rfl; have t1 : 0 ≤ y464.toInt := b482; omega)), (show y464.toInt ≤ 1 from (by have z53 : (0 : Int32).toInt = 0 := rfl; have t1 : y464.toInt ≤ 1 := b483; omega)), (show 0 ≤ y468.toInt from (by have z53 : (0 : Int32).toInt = 0 := rfl; have t1 : 0 ≤ t6_9.toInt ∧ t6_9.toInt ≤ 12200 := btt6_9; have t2 : t6_9.toInt ≤ y468.toInt := b492; omega)), (show y468.toInt ≤ 12200 from (by have z53 : (0 : Int32).toInt = 0 := rfl; have t1 : 0 ≤ t6_9.toInt ∧ t6_9.toInt ≤ 12200 := btt6_9; have t2 : y468.toInt ≤ t6_9.toInt := b493; omega)), (show 0 ≤ t13_1.toInt from (by have z53 : (0 : Int32).toInt = 0 := rfl; have t1 : 0 ≤ t13_1.toInt ∧ t13_1.toInt ≤ 4100 := btt13_1; omega)), (show t13_1.toInt ≤ 4100 from (by have z53 : (0 : Int32).toInt = 0 := rfl; have t1 : 0 ≤ t13_1.toInt ∧ t13_1.toInt ≤ 4100 := btt13_1; omega)), (show 0 ≤ t13_4.toInt from (by have z53 : (0 : Int32).toInt = 0 := rfl; have t1 : 0 ≤ t13_4.toInt ∧ t13_4.toInt ≤ 1 := btt13_4; omega)), (show t13_4.toInt ≤ 1 from (by have z53 : (0 : Int32).toInt = 0 := rfl; have t1 : 0 ≤ t13_4.toInt ∧ t13_4.toInt ≤ 1 := btt13_4; omega)), (show 0 ≤ t13_13.toInt from (by have z53 : (0 : Int32).toInt = 0 := rfl; have t1 : 0 ≤ t13_13.toInt ∧ t13_13.toInt ≤ 1 := btt13_13; omega)), (show t13_13.toInt ≤ 1 from (by have z53 : (0 : Int32).toInt = 0 := rfl; have t1 : 0 ≤ t13_13.toInt ∧ t13_13.toInt ≤ 1 := btt13_13; omega)), (show t0_1.toInt ≤ t0_1.toInt from (by have z53 : (0 : Int32).toInt = 0 := rfl; omega)), (show t1_1.toInt ≤ t1_1.toInt from (by have z53 : (0 : Int32).toInt = 0 := rfl; omega)), (show t1_1.toInt ≤ t1_1.toInt from (by have z53 : (0 : Int32).toInt = 0 := rfl; omega)), (show t1_4.toInt ≤ t1_4.toInt from (by have z53 : (0 : Int32).toInt = 0 := rfl; omega)), (show t1_4.toInt ≤ t1_4.toInt from (by have z53 : (0 : Int32).toInt = 0 := rfl; omega)), (show t1_5.toInt ≤ t1_5.toInt from (by have z53 : (0 : Int32).toInt = 0 := rfl; omega)), (show t1_5.toInt ≤ t1_5.toInt from (by have z53 : (0 : Int32).toInt = 0 := rfl; omega)), (show t1_6.toInt ≤ t1_6.toInt from (by have z53 : (0 : Int32).toInt = 0 := rfl; omega)), (show t1_6.toInt ≤ t1_6.toInt from (by have z53 : (0 : Int32).toInt = 0 := rfl; omega)), (show y463.toInt ≤ t6_4.toInt from (by have z53 : (0 : Int32).toInt = 0 := rfl; have t1 : y463.toInt ≤ t6_4.toInt := b485; omega)), (show t6_6.toInt ≤ y465.toInt from (by have z53 : (0 : Int32).toInt = 0 := rfl; have t1 : t6_6.toInt ≤ y465.toInt := b486; omega)), (show y465.toInt ≤ t6_6.toInt from (by have z53 : (0 : Int32).toInt = 0 := rfl; have t1 : y465.toInt ≤ t6_6.toInt := b487; omega)), (show t6_7.toInt ≤ y466.toInt from (by have z53 : (0 : Int32).toInt = 0 := rfl; have t1 : t6_7.toInt ≤ y466.toInt := b488; omega)), (show y466.toInt ≤ t6_7.toInt from (by have z53 : (0 : Int32).toInt = 0 := rfl; have t1 : y466.toInt ≤ t6_7.toInt := b489; omega)), (show t6_8.toInt ≤ y467.toInt from (by have z53 : (0 : Int32).toInt = 0 := rfl; have t1 : t6_8.toInt ≤ y467.toInt := b490; omega)), (show y467.toInt ≤ t6_8.toInt from (by have z53 : (0 : Int32).toInt = 0 := rfl; have t1 : y467.toInt ≤ t6_8.toInt := b491; omega)), (show t6_9.toInt ≤ y468.toInt from (by have z53 : (0 : Int32).toInt = 0 := rfl; have t1 : t6_9.toInt ≤ y468.toInt := b492; omega)), (show y468.toInt ≤ t6_9.toInt from (by have z53 : (0 : Int32).toInt = 0 := rfl; have t1 : y468.toInt ≤ t6_9.toInt := b493; omega)), (show ((0 : Int32), lx519, t0_1, t1_0, t1_1, t1_2, t1_3, t1_4, t1_5, t1_6, t2_0, t3_0, t4_0, t5_0, y459, y460, y461, y462, y463, y464, y465, y466, y467, y468, y469, f436, f470, f472, f474, f476, f478, t13_0, t13_1, t13_2, t13_3, t13_4, t13_5, t13_6, t13_7, t13_8, t13_9, t13_10, t13_11, t13_12, t13_13, t14_0, t15_0, t16_0, t18_0) = (F_NM_read x2 x3 x4 t0_0 t0_1 t0_2 t1_0 t1_1 t1_2 t1_3 t1_4 t1_5 t1_6 t2_0 t3_0 t4_0 t5_0 t6_0 t6_1 t6_2 t6_3 t6_4 t6_5 t6_6 t6_7 t6_8 t6_9 t6_10 t7_0 t8_0 t9_0 t10_0 t11_0 t12_0 t13_0 t13_1 t13_2 t13_3 t13_4 t13_5 t13_6 t13_7 t13_8 t13_9 t13_10 t13_11 t13_12 t13_13 t14_0 t15_0 t16_0 t17_0 t18_0) from Eq.trans (by rw [F_NM_read_J260.eq_1, if_neg c549]) hR542)⟩) d_14_15_290
              ·
                have b554 : q_F (y459.toInt = 0) := (q_eqI c549)
                refine lv_iconst (v := 0) hx hb d_14_15_269 (by decide) ?_
                refine lv_goto (tgt := 277) hx hb d_14_15_270 (by decide) ?_
                refine q_put (ci := 12) (j := 2) (v := .int 0) (ty := .int) C0 V i_NM o_NM n_NM rfl rfl hT0 (by decide) w_2300 rfl rfl rfl rfl (Nat.le_of_ble_eq_true rfl) d_14_15_277 (fun H locs w555 hu556 hT0 V => ?_)
                replace hT0 : w555[116]? = (some (q 116, .inr (12, [.int lx519, .ref (q 117), .int 0, .ref (q 118), .int t0_2, .ref (q 119), .ref (q 134), .ref (q 145), .ref (q 153), .ref (q 157), .ref (q 167), .ref (q 168)])) : Option (Nat × va_E)) := hT0
                replace hI := n_p116 hI hu556 hT0 ⟨(by have z9 : (0 : Int32).toInt = 0 := rfl; omega), (by have z9 : (0 : Int32).toInt = 0 := rfl; omega)⟩ (by first | with_reducible exact q_fe btt0_2 | exact ⟨(by have t1 : 0 ≤ t0_2.toInt ∧ t0_2.toInt ≤ 12200 := btt0_2; omega), (by have t1 : 0 ≤ t0_2.toInt ∧ t0_2.toInt ≤ 12200 := btt0_2; omega)⟩)
                replace hT1 := (hu556 _ (by decide)).trans hT1
                replace hT2 := (hu556 _ (by decide)).trans hT2
                replace hT3 := (hu556 _ (by decide)).trans hT3
                replace hT4 := (hu556 _ (by decide)).trans hT4
                replace hT5 := (hu556 _ (by decide)).trans hT5
                replace hO458 := (hu556 _ (by decide)).trans hO458
                replace hA437 := (hu556 _ (by decide)).trans hA437
                replace hA471 := (hu556 _ (by decide)).trans hA471
                replace hA473 := (hu556 _ (by decide)).trans hA473
                replace hA475 := (hu556 _ (by decide)).trans hA475
                replace hA477 := (hu556 _ (by decide)).trans hA477
                replace hA479 := (hu556 _ (by decide)).trans hA479
                replace hT13 := (hu556 _ (by decide)).trans hT13
                replace hT14 := (hu556 _ (by decide)).trans hT14
                replace hT15 := (hu556 _ (by decide)).trans hT15
                replace hT16 := (hu556 _ (by decide)).trans hT16
                replace hT18 := (hu556 _ (by decide)).trans hT18
                replace hF := q_us hF hu556 (by simp)
                refine lv_iload hx hb d_14_15_280 (lv_at hl 0 rfl) ?_
                refine lv_if_ne (tgt := 289) hx hb d_14_15_282 (by decide) (fun c557 => absurd (show y459.toInt ≠ 0 from q_neI c557) (by first | with_reducible exact q_fe b554 | (have t1 : y459.toInt = 0 := b554; omega))) (fun c557 => ?_)
                refine lv_iconst (v := 1) hx hb d_14_15_285 (by decide) ?_
                refine lv_goto (tgt := 290) hx hb d_14_15_286 (by decide) ?_
                exact q_retz C0 V (by decide) (⟨hI, hF, lx519, 0, t1_0, t1_1, t1_2, t1_3, t1_4, t1_5, t1_6, t2_0, t3_0, t4_0, t5_0, y459, y460, y461, y462, y463, y464, y465, y466, y467, y468, y469, f436, f470, f472, f474, f476, f478, t13_0, t13_1, t13_2, t13_3, t13_4, t13_5, t13_6, t13_7, t13_8, t13_9, t13_10, t13_11, t13_12, t13_13, t14_0, t15_0, t16_0, t18_0, hT0, hT1, hT2, hT3, hT4, hT5, hO458, hA437, hA471, hA473, hA475, hA477, hA479, hT13, hT14, hT15, hT16, hT18, (show 0 ≤ (1 : Int32).toInt from (by have z53 : (1 : Int32).toInt = 1 := rfl; have z55 : (0 : Int32).toInt = 0 := rfl; omega)), (show (1 : Int32).toInt ≤ 1 from (by have z53 : (1 : Int32).toInt = 1 := rfl; have z55 : (0 : Int32).toInt = 0 := rfl; omega)), (show 0 ≤ lx519.toInt from (by have z53 : (1 : Int32).toInt = 1 := rfl; have z55 : (0 : Int32).toInt = 0 := rfl; have t1 : 0 ≤ lx105.toInt := i126; have t2 : lx105.toInt ≤ lx133.toInt := i154; have t3 : lx133.toInt ≤ lx519.toInt := i540; omega)), (show lx519.toInt ≤ 2 from (by have z53 : (1 : Int32).toInt = 1 := rfl; have z55 : (0 : Int32).toInt = 0 := rfl; have t1 : lx133.toInt ≤ lx105.toInt := i155; have t2 : lx105.toInt = 0 := b164; have t3 : lx519.toInt ≤ lx133.toInt + 2 := i541; omega)), (show 0 ≤ (0 : Int32).toInt from (by have z53 : (1 : Int32).toInt = 1 := rfl; have z55 : (0 : Int32).toInt = 0 := rfl; omega)), (show (0 : Int32).toInt ≤ 4100 from (by have z53 : (1 : Int32).toInt = 1 := rfl; have z55 : (0 : Int32).toInt = 0 := rfl; omega)), (show 0 ≤ t1_2.toInt from (by have z53 : (1 : Int32).toInt = 1 := rfl; have z55 : (0 : Int32).toInt = 0 := rfl; have t1 : 0 ≤ t1_2.toInt ∧ t1_2.toInt ≤ 4100 := btt1_2; omega)), (show t1_2.toInt ≤ 4100 from (by have z53 : (1 : Int32).toInt = 1 := rfl; have z55 : (0 : Int32).toInt = 0 := rfl; have t1 : 0 ≤ t1_2.toInt ∧ t1_2.toInt ≤ 4100 := btt1_2; omega)), (show 0 ≤ t1_3.toInt from (by have z53 : (1 : Int32).toInt = 1 := rfl; have z55 : (0 : Int32).toInt = 0 := rfl; have t1 : 0 ≤ t1_3.toInt ∧ t1_3.toInt ≤ 1 := btt1_3; omega)), (show t1_3.toInt ≤ 1 from (by have z53 : (1 : Int32).toInt = 1 := rfl; have z55 : (0 : Int32).toInt = 0 := rfl; have t1 : 0 ≤ t1_3.toInt ∧ t1_3.toInt ≤ 1 := btt1_3; omega)), (show 0 ≤ t1_4.toInt from (by have z53 : (1 : Int32).toInt = 1 := rfl; have z55 : (0 : Int32).toInt = 0 := rfl; have t1 : 0 ≤ t1_4.toInt ∧ t1_4.toInt ≤ 1 := btt1_4; omega)), (show t1_4.toInt ≤ 1 from (by have z53 : (1 : Int32).toInt = 1 := rfl; have z55 : (0 : Int32).toInt = 0 := rfl; have t1 : 0 ≤ t1_4.toInt ∧ t1_4.toInt ≤ 1 := btt1_4; omega)), (show 0 ≤ t1_5.toInt from (by have z53 : (1 : Int32).toInt = 1 := rfl; have z55 : (0 : Int32).toInt = 0 := rfl; have t1 : 0 ≤ t1_5.toInt ∧ t1_5.toInt ≤ 1 := btt1_5; omega)), (show t1_5.toInt ≤ 1 from (by have z53 : (1 : Int32).toInt = 1 := rfl; have z55 : (0 : Int32).toInt = 0 := rfl; have t1 : 0 ≤ t1_5.toInt ∧ t1_5.toInt ≤ 1 := btt1_5; omega)), (show 0 ≤ t1_6.toInt from (by have z53 : (1 : Int32).toInt = 1 := rfl; have z55 : (0 : Int32).toInt = 0 := rfl; have t1 : 0 ≤ t1_6.toInt ∧ t1_6.toInt ≤ 2100 := btt1_6; omega)), (show t1_6.toInt ≤ 2100 from (by have z53 : (1 : Int32).toInt = 1 := rfl; have z55 : (0 : Int32).toInt = 0 := rfl; have t1 : 0 ≤ t1_6.toInt ∧ t1_6.toInt ≤ 2100 := btt1_6; omega)), (show 0 ≤ y460.toInt from (by have z53 : (1 : Int32).toInt = 1 := rfl; have z55 : (0 : Int32).toInt = 0 := rfl; have t1 : 0 ≤ y460.toInt := b480; omega)), (show y460.toInt ≤ 4100 from (by have z53 : (1 : Int32).toInt = 1 := rfl; have z55 : (0 : Int32).toInt = 0 := rfl; have t1 : a435.toInt ≤ 4100 := b440; have t2 : y460.toInt ≤ a435.toInt := b484; omega)), (show 0 ≤ y463.toInt from (by have z53 : (1 : Int32).toInt = 1 := rfl; have z55 : (0 : Int32).toInt = 0 := rfl; have t1 : 0 ≤ y463.toInt := b481; omega)), (show y463.toInt ≤ 1 from (by have z53 : (1 : Int32).toInt = 1 := rfl; have z55 : (0 : Int32).toInt = 0 := rfl; have t1 : 0 ≤ t6_4.toInt ∧ t6_4.toInt ≤ 1 := btt6_4; have t2 : y463.toInt ≤ t6_4.toInt := b485; omega)), (show 0 ≤ y464.toInt from (by have z53 : (1 : Int32).toInt = 1 := rfl; have z55 : (0 : Int32).toInt = 0 := rfl; have t1 : 0 ≤ y464.toInt := b482; omega)), (show y464.toInt ≤ 1 from (by have z53 : (1 : Int32).toInt = 1 := rfl; have z55 : (0 : Int32).toInt = 0 := rfl; have t1 : y464.toInt ≤ 1 := b483; omega)), (show 0 ≤ y468.toInt from (by have z53 : (1 : Int32).toInt = 1 := rfl; have z55 : (0 : Int32).toInt = 0 := rfl; have t1 : 0 ≤ t6_9.toInt ∧ t6_9.toInt ≤ 12200 := btt6_9; have t2 : t6_9.toInt ≤ y468.toInt := b492; omega)), (show y468.toInt ≤ 12200 from (by have z53 : (1 : Int32).toInt = 1 := rfl; have z55 : (0 : Int32).toInt = 0 := rfl; have t1 : 0 ≤ t6_9.toInt ∧ t6_9.toInt ≤ 12200 := btt6_9; have t2 : y468.toInt ≤ t6_9.toInt := b493; omega)), (show 0 ≤ t13_1.toInt from (by have z53 : (1 : Int32).toInt = 1 := rfl; have z55 : (0 : Int32).toInt = 0 := rfl; have t1 : 0 ≤ t13_1.toInt ∧ t13_1.toInt ≤ 4100 := btt13_1; omega)), (show t13_1.toInt ≤ 4100 from (by have z53 : (1 : Int32).toInt = 1 := rfl; have z55 : (0 : Int32).toInt = 0 := rfl; have t1 : 0 ≤ t13_1.toInt ∧ t13_1.toInt ≤ 4100 := btt13_1; omega)), (show 0 ≤ t13_4.toInt from (by have z53 : (1 : Int32).toInt = 1 := rfl; have z55 : (0 : Int32).toInt = 0 := rfl; have t1 : 0 ≤ t13_4.toInt ∧ t13_4.toInt ≤ 1 := btt13_4; omega)), (show t13_4.toInt ≤ 1 from (by have z53 : (1 : Int32).toInt = 1 := rfl; have z55 : (0 : Int32).toInt = 0 := rfl; have t1 : 0 ≤ t13_4.toInt ∧ t13_4.toInt ≤ 1 := btt13_4; omega)), (show 0 ≤ t13_13.toInt from (by have z53 : (1 : Int32).toInt = 1 := rfl; have z55 : (0 : Int32).toInt = 0 := rfl; have t1 : 0 ≤ t13_13.toInt ∧ t13_13.toInt ≤ 1 := btt13_13; omega)), (show t13_13.toInt ≤ 1 from (by have z53 : (1 : Int32).toInt = 1 := rfl; have z55 : (0 : Int32).toInt = 0 := rfl; have t1 : 0 ≤ t13_13.toInt ∧ t13_13.toInt ≤ 1 := btt13_13; omega)), (show (0 : Int32).toInt ≤ t0_1.toInt from (by have z53 : (1 : Int32).toInt = 1 := rfl; have z55 : (0 : Int32).toInt = 0 := rfl; have t1 : 0 ≤ t0_1.toInt ∧ t0_1.toInt ≤ 4100 := btt0_1; omega)), (show t1_1.toInt ≤ t1_1.toInt from (by have z53 : (1 : Int32).toInt = 1 := rfl; have z55 : (0 : Int32).toInt = 0 := rfl; omega)), (show t1_1.toInt ≤ t1_1.toInt from (by have z53 : (1 : Int32).toInt = 1 := rfl; have z55 : (0 : Int32).toInt = 0 := rfl; omega)), (show t1_4.toInt ≤ t1_4.toInt from (by have z53 : (1 : Int32).toInt = 1 := rfl; have z55 : (0 : Int32).toInt = 0 := rfl; omega)), (show t1_4.toInt ≤ t1_4.toInt from (by have z53 : (1 : Int32).toInt = 1 := rfl; have z55 : (0 : Int32).toInt = 0 := rfl; omega)), (show t1_5.toInt ≤ t1_5.toInt from (by have z53 : (1 : Int32).toInt = 1 := rfl; have z55 : (0 : Int32).toInt = 0 := rfl; omega)), (show t1_5.toInt ≤ t1_5.toInt from (by have z53 : (1 : Int32).toInt = 1 := rfl; have z55 : (0 : Int32).toInt = 0 := rfl; omega)), (show t1_6.toInt ≤ t1_6.toInt from (by have z53 : (1 : Int32).toInt = 1 := rfl; have z55 : (0 : Int32).toInt = 0 := rfl; omega)), (show t1_6.toInt ≤ t1_6.toInt from (by have z53 : (1 : Int32).toInt = 1 := rfl; have z55 : (0 : Int32).toInt = 0 := rfl; omega)), (show y463.toInt ≤ t6_4.toInt from (by have z53 : (1 : Int32).toInt = 1 := rfl; have z55 : (0 : Int32).toInt = 0 := rfl; have t1 : y463.toInt ≤ t6_4.toInt := b485; omega)), (show t6_6.toInt ≤ y465.toInt from (by have z53 : (1 : Int32).toInt = 1 := rfl; have z55 : (0 : Int32).toInt = 0 := rfl; have t1 : t6_6.toInt ≤ y465.toInt := b486; omega)), (show y465.toInt ≤ t6_6.toInt from (by have z53 : (1 : Int32).toInt = 1 := rfl; have z55 : (0 : Int32).toInt = 0 := rfl; have t1 : y465.toInt ≤ t6_6.toInt := b487; omega)), (show t6_7.toInt ≤ y466.toInt from (by have z53 : (1 : Int32).toInt = 1 := rfl; have z55 : (0 : Int32).toInt = 0 := rfl; have t1 : t6_7.toInt ≤ y466.toInt := b488; omega)), (show y466.toInt ≤ t6_7.toInt from (by have z53 : (1 : Int32).toInt = 1 := rfl; have z55 : (0 : Int32).toInt = 0 := rfl; have t1 : y466.toInt ≤ t6_7.toInt := b489; omega)), (show t6_8.toInt ≤ y467.toInt from (by have z53 : (1 : Int32).toInt = 1 := rfl; have z55 : (0 : Int32).toInt = 0 := rfl; have t1 : t6_8.toInt ≤ y467.toInt := b490; omega)), (show y467.toInt ≤ t6_8.toInt from (by have z53 : (1 : Int32).toInt = 1 := rfl; have z55 : (0 : Int32).toInt = 0 := rfl; have t1 : y467.toInt ≤ t6_8.toInt := b491; omega)), (show t6_9.toInt ≤ y468.toInt from (by have z53 : (1 : Int32).toInt = 1 := rfl; have z55 : (0 : Int32).toInt = 0 := rfl; have t1 : t6_9.toInt ≤ y468.toInt := b492; omega)), (show y468.toInt ≤ t6_9.toInt from (by have z53 : (1 : Int32).toInt = 1 := rfl; have z55 : (0 : Int32).toInt = 0 := rfl; have t1 : y468.toInt ≤ t6_9.toInt := b493; omega)), (show ((1 : Int32), lx519, (0 : Int32), t1_0, t1_1, t1_2, t1_3, t1_4, t1_5, t1_6, t2_0, t3_0, t4_0, t5_0, y459, y460, y461, y462, y463, y464, y465, y466, y467, y468, y469, f436, f470, f472, f474, f476, f478, t13_0, t13_1, t13_2, t13_3, t13_4, t13_5, t13_6, t13_7, t13_8, t13_9, t13_10, t13_11, t13_12, t13_13, t14_0, t15_0, t16_0, t18_0) = (F_NM_read x2 x3 x4 t0_0 t0_1 t0_2 t1_0 t1_1 t1_2 t1_3 t1_4 t1_5 t1_6 t2_0 t3_0 t4_0 t5_0 t6_0 t6_1 t6_2 t6_3 t6_4 t6_5 t6_6 t6_7 t6_8 t6_9 t6_10 t7_0 t8_0 t9_0 t10_0 t11_0 t12_0 t13_0 t13_1 t13_2 t13_3 t13_4 t13_5 t13_6 t13_7 t13_8 t13_9 t13_10 t13_11 t13_12 t13_13 t14_0 t15_0 t16_0 t17_0 t18_0) from Eq.trans (by rw [F_NM_read_J260.eq_1, if_pos c549]) hR542)⟩) d_14_15_290
            ·
              intro J539
              refine lv_icmp_ne (tgt := 259) hx hb d_14_15_252 (by decide) (fun c558 => ?_) (fun c558 => ?_)
              ·
                refine lv_iconst (v := 0) hx hb d_14_15_259 (by decide) ?_
                exact J539 ((0 : Int32)) _ _ _ u456 ⟨(show q_F (lx133.toInt ≤ 0) from (show lx133.toInt ≤ 0 from by have t1 : lx133.toInt ≤ lx105.toInt := i155; have t2 : lx105.toInt = 0 := b164; omega)), (show q_F (0 ≤ lx133.toInt + 2) from (show 0 ≤ lx133.toInt + 2 from by have t1 : 0 ≤ lx105.toInt := i126; have t2 : lx105.toInt ≤ lx133.toInt := i154; omega)), V, q_lw hl (q_lw1 0 rfl (q_lw1 2 rfl q_lw0)), (show F_NM_read_J260 x2 x3 x4 t0_0 t0_1 t0_2 t1_0 t1_1 t1_2 t1_3 t1_4 t1_5 t1_6 t2_0 t3_0 t4_0 t5_0 t6_0 t6_1 t6_2 t6_3 t6_4 t6_5 t6_6 t6_7 t6_8 t6_9 t6_10 t7_0 t8_0 t9_0 t10_0 t11_0 t12_0 t13_0 t13_1 t13_2 t13_3 t13_4 t13_5 t13_6 t13_7 t13_8 t13_9 t13_10 t13_11 t13_12 t13_13 t14_0 t15_0 t16_0 t17_0 t18_0 lx105 lx133 p444 f436 p496 y459 y460 y461 y462 y463 y464 y465 y466 y467 y468 y469 f470 f472 f474 f476 f478 0 = (F_NM_read x2 x3 x4 t0_0 t0_1 t0_2 t1_0 t1_1 t1_2 t1_3 t1_4 t1_5 t1_6 t2_0 t3_0 t4_0 t5_0 t6_0 t6_1 t6_2 t6_3 t6_4 t6_5 t6_6 t6_7 t6_8 t6_9 t6_10 t7_0 t8_0 t9_0 t10_0 t11_0 t12_0 t13_0 t13_1 t13_2 t13_3 t13_4 t13_5 t13_6 t13_7 t13_8 t13_9 t13_10 t13_11 t13_12 t13_13 t14_0 t15_0 t16_0 t17_0 t18_0) from Eq.trans (by have c558x := c558; rw [e498] at c558x; rw [e513, e512, e511, e510, e509, e508, e507, e506, e505, e504, e503, e502, e501, e500, e499, e498, F_NM_read_c148.eq_1, if_neg c558x]) hR514), (show True ∧ S_NM_read_J260 x2 x3 x4 t0_0 t0_1 t0_2 t1_0 t1_1 t1_2 t1_3 t1_4 t1_5 t1_6 t2_0 t3_0 t4_0 t5_0 t6_0 t6_1 t6_2 t6_3 t6_4 t6_5 t6_6 t6_7 t6_8 t6_9 t6_10 t7_0 t8_0 t9_0 t10_0 t11_0 t12_0 t13_0 t13_1 t13_2 t13_3 t13_4 t13_5 t13_6 t13_7 t13_8 t13_9 t13_10 t13_11 t13_12 t13_13 t14_0 t15_0 t16_0 t17_0 t18_0 lx105 lx133 p444 f436 p496 y459 y460 y461 y462 y463 y464 y465 y466 y467 y468 y469 f470 f472 f474 f476 f478 0 from (by rw [e513, e512, e511, e510, e509, e508, e507, e506, e505, e504, e503, e502, e501, e500, e499, e498]; have h := hS515; rw [S_NM_read_c148.eq_1] at h; have c558x := c558; rw [e498] at c558x; rw [if_neg c558x] at h; with_reducible exact h))⟩
              ·
                refine lv_iconst (v := 2) hx hb d_14_15_255 (by decide) ?_
                refine lv_goto (tgt := 260) hx hb d_14_15_256 (by decide) ?_
                exact J539 ((2 : Int32)) _ _ _ u456 ⟨(show q_F (lx133.toInt ≤ 2) from (show lx133.toInt ≤ 2 from by have t1 : lx105.toInt ≤ 1 := i127; have t2 : lx133.toInt ≤ lx105.toInt := i155; omega)), (show q_F (2 ≤ lx133.toInt + 2) from (show 2 ≤ lx133.toInt + 2 from by have t1 : 0 ≤ lx105.toInt := i126; have t2 : lx105.toInt ≤ lx133.toInt := i154; omega)), V, q_lw hl (q_lw1 0 rfl (q_lw1 2 rfl q_lw0)), (show F_NM_read_J260 x2 x3 x4 t0_0 t0_1 t0_2 t1_0 t1_1 t1_2 t1_3 t1_4 t1_5 t1_6 t2_0 t3_0 t4_0 t5_0 t6_0 t6_1 t6_2 t6_3 t6_4 t6_5 t6_6 t6_7 t6_8 t6_9 t6_10 t7_0 t8_0 t9_0 t10_0 t11_0 t12_0 t13_0 t13_1 t13_2 t13_3 t13_4 t13_5 t13_6 t13_7 t13_8 t13_9 t13_10 t13_11 t13_12 t13_13 t14_0 t15_0 t16_0 t17_0 t18_0 lx105 lx133 p444 f436 p496 y459 y460 y461 y462 y463 y464 y465 y466 y467 y468 y469 f470 f472 f474 f476 f478 2 = (F_NM_read x2 x3 x4 t0_0 t0_1 t0_2 t1_0 t1_1 t1_2 t1_3 t1_4 t1_5 t1_6 t2_0 t3_0 t4_0 t5_0 t6_0 t6_1 t6_2 t6_3 t6_4 t6_5 t6_6 t6_7 t6_8 t6_9 t6_10 t7_0 t8_0 t9_0 t10_0 t11_0 t12_0 t13_0 t13_1 t13_2 t13_3 t13_4 t13_5 t13_6 t13_7 t13_8 t13_9 t13_10 t13_11 t13_12 t13_13 t14_0 t15_0 t16_0 t17_0 t18_0) from Eq.trans (by have c558x := c558; rw [e498] at c558x; rw [e513, e512, e511, e510, e509, e508, e507, e506, e505, e504, e503, e502, e501, e500, e499, e498, F_NM_read_c148.eq_1, if_pos c558x]) hR514), (show True ∧ S_NM_read_J260 x2 x3 x4 t0_0 t0_1 t0_2 t1_0 t1_1 t1_2 t1_3 t1_4 t1_5 t1_6 t2_0 t3_0 t4_0 t5_0 t6_0 t6_1 t6_2 t6_3 t6_4 t6_5 t6_6 t6_7 t6_8 t6_9 t6_10 t7_0 t8_0 t9_0 t10_0 t11_0 t12_0 t13_0 t13_1 t13_2 t13_3 t13_4 t13_5 t13_6 t13_7 t13_8 t13_9 t13_10 t13_11 t13_12 t13_13 t14_0 t15_0 t16_0 t17_0 t18_0 lx105 lx133 p444 f436 p496 y459 y460 y461 y462 y463 y464 y465 y466 y467 y468 y469 f470 f472 f474 f476 f478 2 from (by rw [e513, e512, e511, e510, e509, e508, e507, e506, e505, e504, e503, e502, e501, e500, e499, e498]; have h := hS515; rw [S_NM_read_c148.eq_1] at h; have c558x := c558; rw [e498] at c558x; rw [if_pos c558x] at h; with_reducible exact h))⟩
        ·
          refine lv_aload_n hx hb d_14_15_67 rfl (lv_at hl 2 rfl) ?_
          refine q_get (ci := 12) (j := 5) (v := .ref (q 119)) C0 V i_NM rfl rfl hT0 (by decide) w_2303 rfl d_14_15_68 ?_
          refine lv_aload_n hx hb d_14_15_71 rfl (lv_at hl 2 rfl) ?_
          refine q_get (ci := 12) (j := 1) (v := .ref (q 117)) C0 V i_NM rfl rfl hT0 (by decide) w_2299 rfl d_14_15_72 ?_
          refine lv_aload_n hx hb d_14_15_75 rfl (lv_at hl 2 rfl) ?_
          refine q_get (ci := 12) (j := 2) (v := .int t0_1) C0 V i_NM rfl rfl hT0 (by decide) w_2300 rfl d_14_15_76 ?_
          refine lv_aload_n hx hb d_14_15_79 rfl (lv_at hl 2 rfl) ?_
          refine q_get (ci := 12) (j := 5) (v := .ref (q 119)) C0 V i_NM rfl rfl hT0 (by decide) w_2303 rfl d_14_15_80 ?_
          refine q_getN (ci := 13) (j := 2) (v := .ref (q 120)) C0 V i_WR rfl rfl hT1 (by decide) wo_1925 rfl d_14_15_83 ?_
          have ob562 : True ∧ S_NM_load (4100 : Int32) t0_1 (4100 : Int32) t17_0 t2_0 := (by have h := hS157; rw [S_NM_read_J50.eq_1] at h; rw [if_pos c163] at h; rw [if_pos c165] at h; with_reducible exact h.2.1)
          refine q_goi V (q_runS (As := [.ref (q 117), .int t0_1, .ref (q 120)]) (rest := [.ref (q 119)]) (d := 1) (mc := 0) (ms := 0) C0 V rfl LS_NM_90 (X_NM_load l D g q w161 117 4100 (n_r117 g q) 120 4100 (n_r120 g q) t0_1 (by decide) hI t17_0 hT17 t2_0 hT2 ob562 _) rfl hl.1 rfl (Nat.le_of_ble_eq_true rfl) ⟨by decide, by decide⟩ ⟨Nat.le_of_ble_eq_true rfl, Nat.le_of_ble_eq_true rfl⟩ d_14_15_86) (fun a565 u563 H locs hp564 V => ?_)
          obtain ⟨hI, hZ9⟩ := hp564
          obtain ⟨hu573, hZ9⟩ := hZ9
          obtain ⟨f566, hZ9⟩ := hZ9
          obtain ⟨hA567, hZ9⟩ := hZ9
          obtain ⟨b568, hZ9⟩ := hZ9
          replace hZ9 := hZ9.2
          obtain ⟨b570, hZ9⟩ := hZ9
          obtain ⟨-, hE572⟩ := hZ9
          replace hA567 : u563[120]? = (some (q 120, .inl (g 0, (4100 : Int32).toNatClampNeg, .inl f566)) : Option (Nat × va_E)) := hA567
          obtain ⟨p574, e575⟩ : ∃ z, z = (F_NM_load (4100 : Int32) t0_1 (4100 : Int32) t17_0 t2_0) := ⟨_, rfl⟩
          have e576 : a565 = p574.1 := congrArg (fun z => z.1) (hE572.trans e575.symm)
          have e577 : f566 = p574.2 := congrArg (fun z => z.2) (hE572.trans e575.symm)
          replace b568 : q_F (t0_1.toInt ≤ a565.toInt) := b568
          replace b570 : q_F (a565.toInt ≤ 4100) := b570
          replace hT0 := (hu573 _ (by decide)).trans hT0
          replace hT1 := (hu573 _ (by decide)).trans hT1
          replace hT3 := (hu573 _ (by decide)).trans hT3
          replace hT4 := (hu573 _ (by decide)).trans hT4
          replace hT5 := (hu573 _ (by decide)).trans hT5
          replace hT6 := (hu573 _ (by decide)).trans hT6
          replace hT7 := (hu573 _ (by decide)).trans hT7
          replace hT8 := (hu573 _ (by decide)).trans hT8
          replace hT9 := (hu573 _ (by decide)).trans hT9
          replace hT10 := (hu573 _ (by decide)).trans hT10
          replace hT11 := (hu573 _ (by decide)).trans hT11
          replace hT12 := (hu573 _ (by decide)).trans hT12
          replace hT13 := (hu573 _ (by decide)).trans hT13
          replace hT14 := (hu573 _ (by decide)).trans hT14
          replace hT15 := (hu573 _ (by decide)).trans hT15
          replace hT16 := (hu573 _ (by decide)).trans hT16
          replace hT18 := (hu573 _ (by decide)).trans hT18
          replace hF := q_uc hF hu573 (by simp)
          have hR578 := (show F_NM_read_c86 x2 x3 x4 t0_0 t0_1 t0_2 t1_0 t1_1 t1_2 t1_3 t1_4 t1_5 t1_6 t2_0 t3_0 t4_0 t5_0 t6_0 t6_1 t6_2 t6_3 t6_4 t6_5 t6_6 t6_7 t6_8 t6_9 t6_10 t7_0 t8_0 t9_0 t10_0 t11_0 t12_0 t13_0 t13_1 t13_2 t13_3 t13_4 t13_5 t13_6 t13_7 t13_8 t13_9 t13_10 t13_11 t13_12 t13_13 t14_0 t15_0 t16_0 t17_0 t18_0 lx105 lx133 p574 = (F_NM_read x2 x3 x4 t0_0 t0_1 t0_2 t1_0 t1_1 t1_2 t1_3 t1_4 t1_5 t1_6 t2_0 t3_0 t4_0 t5_0 t6_0 t6_1 t6_2 t6_3 t6_4 t6_5 t6_6 t6_7 t6_8 t6_9 t6_10 t7_0 t8_0 t9_0 t10_0 t11_0 t12_0 t13_0 t13_1 t13_2 t13_3 t13_4 t13_5 t13_6 t13_7 t13_8 t13_9 t13_10 t13_11 t13_12 t13_13 t14_0 t15_0 t16_0 t17_0 t18_0) from Eq.trans (by rw [e575, F_NM_read_J50.eq_1, if_pos c163, if_pos c165]) hR156)
          have hS579 := (show True ∧ S_NM_read_c86 x2 x3 x4 t0_0 t0_1 t0_2 t1_0 t1_1 t1_2 t1_3 t1_4 t1_5 t1_6 t2_0 t3_0 t4_0 t5_0 t6_0 t6_1 t6_2 t6_3 t6_4 t6_5 t6_6 t6_7 t6_8 t6_9 t6_10 t7_0 t8_0 t9_0 t10_0 t11_0 t12_0 t13_0 t13_1 t13_2 t13_3 t13_4 t13_5 t13_6 t13_7 t13_8 t13_9 t13_10 t13_11 t13_12 t13_13 t14_0 t15_0 t16_0 t17_0 t18_0 lx105 lx133 p574 from (by rw [e575]; have h := hS157; rw [S_NM_read_J50.eq_1] at h; rw [if_pos c163] at h; rw [if_pos c165] at h; replace h := q_s2 h; with_reducible exact h))
          refine q_putN (ci := 13) (j := 3) (v := .int a565) (ty := .int) C0 V i_WR o_WR n_WR rfl rfl hT1 (by decide) wo_1926 rfl rfl rfl rfl (Nat.le_of_ble_eq_true rfl) d_14_15_89 (fun H locs w583 hu584 hT1 V => ?_)
          replace hT1 : w583[119]? = (some (q 119, .inr (13, [.int t1_0, .int t1_1, .ref (q 120), .int a565, .ref (q 121), .ref (q 122), .ref (q 123), .int t1_3, .ref (q 124), .ref (q 125), .ref (q 126), .ref (q 127), .ref (q 128), .ref (q 129), .ref (q 130), .ref (q 131), .int t1_4, .int t1_5, .ref (q 132), .ref (q 133), .int t1_6])) : Option (Nat × va_E)) := hT1
          replace hI := n_p119 hI hu584 hT1 ⟨(by have t1 : 0 ≤ t0_1.toInt ∧ t0_1.toInt ≤ 4100 := btt0_1; have t2 : t0_1.toInt ≤ a565.toInt := b568; omega), (by first | with_reducible exact q_fe b570 | (have t1 : a565.toInt ≤ 4100 := b570; omega))⟩ (by first | with_reducible exact q_fe btt1_3 | exact ⟨(by have t1 : 0 ≤ t1_3.toInt ∧ t1_3.toInt ≤ 1 := btt1_3; omega), (by have t1 : 0 ≤ t1_3.toInt ∧ t1_3.toInt ≤ 1 := btt1_3; omega)⟩) (by first | with_reducible exact q_fe btt1_4 | exact ⟨(by have t1 : 0 ≤ t1_4.toInt ∧ t1_4.toInt ≤ 1 := btt1_4; omega), (by have t1 : 0 ≤ t1_4.toInt ∧ t1_4.toInt ≤ 1 := btt1_4; omega)⟩) (by first | with_reducible exact q_fe btt1_5 | exact ⟨(by have t1 : 0 ≤ t1_5.toInt ∧ t1_5.toInt ≤ 1 := btt1_5; omega), (by have t1 : 0 ≤ t1_5.toInt ∧ t1_5.toInt ≤ 1 := btt1_5; omega)⟩) (by first | with_reducible exact q_fe btt1_6 | exact ⟨(by have t1 : 0 ≤ t1_6.toInt ∧ t1_6.toInt ≤ 2100 := btt1_6; omega), (by have t1 : 0 ≤ t1_6.toInt ∧ t1_6.toInt ≤ 2100 := btt1_6; omega)⟩)
          replace hT0 := (hu584 _ (by decide)).trans hT0
          replace hA567 := (hu584 _ (by decide)).trans hA567
          replace hT3 := (hu584 _ (by decide)).trans hT3
          replace hT4 := (hu584 _ (by decide)).trans hT4
          replace hT5 := (hu584 _ (by decide)).trans hT5
          replace hT6 := (hu584 _ (by decide)).trans hT6
          replace hT7 := (hu584 _ (by decide)).trans hT7
          replace hT8 := (hu584 _ (by decide)).trans hT8
          replace hT9 := (hu584 _ (by decide)).trans hT9
          replace hT10 := (hu584 _ (by decide)).trans hT10
          replace hT11 := (hu584 _ (by decide)).trans hT11
          replace hT12 := (hu584 _ (by decide)).trans hT12
          replace hT13 := (hu584 _ (by decide)).trans hT13
          replace hT14 := (hu584 _ (by decide)).trans hT14
          replace hT15 := (hu584 _ (by decide)).trans hT15
          replace hT16 := (hu584 _ (by decide)).trans hT16
          replace hT18 := (hu584 _ (by decide)).trans hT18
          replace hF := q_us hF hu584 (by simp)
          refine lv_aload_n hx hb d_14_15_92 rfl (lv_at hl 2 rfl) ?_
          refine q_get (ci := 12) (j := 5) (v := .ref (q 119)) C0 V i_NM rfl rfl hT0 (by decide) w_2303 rfl d_14_15_93 ?_
          refine lv_iload_n hx hb d_14_15_96 rfl (lv_at hl 4 rfl) ?_
          refine lv_iload_n hx hb d_14_15_97 rfl (lv_at hl 5 rfl) ?_
          have ob585 : True ∧ S_WR_read x3 x4 t1_0 t1_1 a565 t1_3 t1_4 t1_5 t1_6 f566 t3_0 t4_0 t5_0 := (by rw [e577, e576]; have h := hS579; rw [S_NM_read_c86.eq_1] at h; with_reducible exact h.2.1)
          refine q_gov V (q_runV (As := [.int x3, .int x4]) (rest := []) (d := 3) (mc := 0) (ms := 0) (ci := 13) C0 V rfl LV_NM_95 (X_WR_read l D g q w583  x3 x4 hI t1_0 t1_1 a565 t1_3 t1_4 t1_5 t1_6 hT1 f566 hA567 t3_0 hT3 t4_0 hT4 t5_0 hT5 ob585 _) rfl rfl hT1 rfl hl.1 rfl (Nat.le_of_ble_eq_true rfl) ⟨by decide, by decide⟩ ⟨Nat.le_of_ble_eq_true rfl, Nat.le_of_ble_eq_true rfl⟩ d_14_15_98) (fun u586 H locs hp587 V => ?_)
          obtain ⟨hI, hZ9⟩ := hp587
          obtain ⟨hu615, hZ9⟩ := hZ9
          obtain ⟨y589, hZ9⟩ := hZ9
          obtain ⟨y590, hZ9⟩ := hZ9
          obtain ⟨y591, hZ9⟩ := hZ9
          obtain ⟨y592, hZ9⟩ := hZ9
          obtain ⟨y593, hZ9⟩ := hZ9
          obtain ⟨y594, hZ9⟩ := hZ9
          obtain ⟨y595, hZ9⟩ := hZ9
          obtain ⟨f596, hZ9⟩ := hZ9
          obtain ⟨f598, hZ9⟩ := hZ9
          obtain ⟨f600, hZ9⟩ := hZ9
          obtain ⟨hO588, hZ9⟩ := hZ9
          obtain ⟨hA597, hZ9⟩ := hZ9
          obtain ⟨hA599, hZ9⟩ := hZ9
          obtain ⟨hA601, hZ9⟩ := hZ9
          obtain ⟨b602, hZ9⟩ := hZ9
          obtain ⟨b603, hZ9⟩ := hZ9
          obtain ⟨b604, hZ9⟩ := hZ9
          obtain ⟨b605, hZ9⟩ := hZ9
          obtain ⟨b606, hZ9⟩ := hZ9
          obtain ⟨b607, hZ9⟩ := hZ9
          obtain ⟨b608, hZ9⟩ := hZ9
          obtain ⟨b609, hZ9⟩ := hZ9
          obtain ⟨b610, hZ9⟩ := hZ9
          obtain ⟨b611, hZ9⟩ := hZ9
          obtain ⟨b612, hZ9⟩ := hZ9
          obtain ⟨b613, hE614⟩ := hZ9
          replace hO588 : u586[119]? = (some (q 119, .inr (13, [.int y589, .int y590, .ref (q 120), .int y591, .ref (q 121), .ref (q 122), .ref (q 123), .int y592, .ref (q 124), .ref (q 125), .ref (q 126), .ref (q 127), .ref (q 128), .ref (q 129), .ref (q 130), .ref (q 131), .int y593, .int y594, .ref (q 132), .ref (q 133), .int y595])) : Option (Nat × va_E)) := hO588
          replace hA597 : u586[121]? = (some (q 121, .inl (g 0, (1408 : Int32).toNatClampNeg, .inl f596)) : Option (Nat × va_E)) := hA597
          replace hA599 : u586[122]? = (some (q 122, .inl (g 3, 11, .inl f598)) : Option (Nat × va_E)) := hA599
          replace hA601 : u586[123]? = (some (q 123, .inl (g 0, (264 : Int32).toNatClampNeg, .inl f600)) : Option (Nat × va_E)) := hA601
          obtain ⟨p616, e617⟩ : ∃ z, z = (F_WR_read x3 x4 t1_0 t1_1 a565 t1_3 t1_4 t1_5 t1_6 f566 t3_0 t4_0 t5_0) := ⟨_, rfl⟩
          have e618 : y589 = p616.1 := congrArg (fun z => z.1) (hE614.trans e617.symm)
          have e619 : y590 = p616.2.1 := congrArg (fun z => z.2.1) (hE614.trans e617.symm)
          have e620 : y591 = p616.2.2.1 := congrArg (fun z => z.2.2.1) (hE614.trans e617.symm)
          have e621 : y592 = p616.2.2.2.1 := congrArg (fun z => z.2.2.2.1) (hE614.trans e617.symm)
          have e622 : y593 = p616.2.2.2.2.1 := congrArg (fun z => z.2.2.2.2.1) (hE614.trans e617.symm)
          have e623 : y594 = p616.2.2.2.2.2.1 := congrArg (fun z => z.2.2.2.2.2.1) (hE614.trans e617.symm)
          have e624 : y595 = p616.2.2.2.2.2.2.1 := congrArg (fun z => z.2.2.2.2.2.2.1) (hE614.trans e617.symm)
          have e625 : f596 = p616.2.2.2.2.2.2.2.1 := congrArg (fun z => z.2.2.2.2.2.2.2.1) (hE614.trans e617.symm)
          have e626 : f598 = p616.2.2.2.2.2.2.2.2.1 := congrArg (fun z => z.2.2.2.2.2.2.2.2.1) (hE614.trans e617.symm)
          have e627 : f600 = p616.2.2.2.2.2.2.2.2.2 := congrArg (fun z => z.2.2.2.2.2.2.2.2.2) (hE614.trans e617.symm)
          replace b602 : q_F (0 ≤ y591.toInt) := b602
          replace b603 : q_F (0 ≤ y592.toInt) := b603
          replace b604 : q_F (y592.toInt ≤ 1) := b604
          replace b605 : q_F (t1_1.toInt ≤ y590.toInt) := b605
          replace b606 : q_F (y590.toInt ≤ t1_1.toInt) := b606
          replace b607 : q_F (y591.toInt ≤ a565.toInt) := b607
          replace b608 : q_F (t1_4.toInt ≤ y593.toInt) := b608
          replace b609 : q_F (y593.toInt ≤ t1_4.toInt) := b609
          replace b610 : q_F (t1_5.toInt ≤ y594.toInt) := b610
          replace b611 : q_F (y594.toInt ≤ t1_5.toInt) := b611
          replace b612 : q_F (t1_6.toInt ≤ y595.toInt) := b612
          replace b613 : q_F (y595.toInt ≤ t1_6.toInt) := b613
          replace hT0 := (hu615 _ (by decide)).trans hT0
          replace hA567 := (hu615 _ (by decide)).trans hA567
          replace hT6 := (hu615 _ (by decide)).trans hT6
          replace hT7 := (hu615 _ (by decide)).trans hT7
          replace hT8 := (hu615 _ (by decide)).trans hT8
          replace hT9 := (hu615 _ (by decide)).trans hT9
          replace hT10 := (hu615 _ (by decide)).trans hT10
          replace hT11 := (hu615 _ (by decide)).trans hT11
          replace hT12 := (hu615 _ (by decide)).trans hT12
          replace hT13 := (hu615 _ (by decide)).trans hT13
          replace hT14 := (hu615 _ (by decide)).trans hT14
          replace hT15 := (hu615 _ (by decide)).trans hT15
          replace hT16 := (hu615 _ (by decide)).trans hT16
          replace hT18 := (hu615 _ (by decide)).trans hT18
          replace hF := q_uc hF hu615 (by simp)
          have hR628 := (show F_NM_read_c98 x2 x3 x4 t0_0 t0_1 t0_2 t1_0 t1_1 t1_2 t1_3 t1_4 t1_5 t1_6 t2_0 t3_0 t4_0 t5_0 t6_0 t6_1 t6_2 t6_3 t6_4 t6_5 t6_6 t6_7 t6_8 t6_9 t6_10 t7_0 t8_0 t9_0 t10_0 t11_0 t12_0 t13_0 t13_1 t13_2 t13_3 t13_4 t13_5 t13_6 t13_7 t13_8 t13_9 t13_10 t13_11 t13_12 t13_13 t14_0 t15_0 t16_0 t17_0 t18_0 lx105 lx133 p574 f566 p616 = (F_NM_read x2 x3 x4 t0_0 t0_1 t0_2 t1_0 t1_1 t1_2 t1_3 t1_4 t1_5 t1_6 t2_0 t3_0 t4_0 t5_0 t6_0 t6_1 t6_2 t6_3 t6_4 t6_5 t6_6 t6_7 t6_8 t6_9 t6_10 t7_0 t8_0 t9_0 t10_0 t11_0 t12_0 t13_0 t13_1 t13_2 t13_3 t13_4 t13_5 t13_6 t13_7 t13_8 t13_9 t13_10 t13_11 t13_12 t13_13 t14_0 t15_0 t16_0 t17_0 t18_0) from Eq.trans (by rw [e617, e577, e576, F_NM_read_c86.eq_1]) hR578)
          have hS629 := (show True ∧ S_NM_read_c98 x2 x3 x4 t0_0 t0_1 t0_2 t1_0 t1_1 t1_2 t1_3 t1_4 t1_5 t1_6 t2_0 t3_0 t4_0 t5_0 t6_0 t6_1 t6_2 t6_3 t6_4 t6_5 t6_6 t6_7 t6_8 t6_9 t6_10 t7_0 t8_0 t9_0 t10_0 t11_0 t12_0 t13_0 t13_1 t13_2 t13_3 t13_4 t13_5 t13_6 t13_7 t13_8 t13_9 t13_10 t13_11 t13_12 t13_13 t14_0 t15_0 t16_0 t17_0 t18_0 lx105 lx133 p574 f566 p616 from (by rw [e617, e577, e576]; have h := hS579; rw [S_NM_read_c86.eq_1] at h; replace h := q_s2 h; with_reducible exact h))
          refine lv_aload_n hx hb d_14_15_101 rfl (lv_at hl 2 rfl) ?_
          refine q_get (ci := 12) (j := 5) (v := .ref (q 119)) C0 V i_NM rfl rfl hT0 (by decide) w_2303 rfl d_14_15_102 ?_
          refine q_getN (ci := 13) (j := 0) (v := .int y589) C0 V i_WR rfl rfl hO588 (by decide) wo_1922 rfl d_14_15_105 ?_
          refine lv_istore (lv' := [(5, .int y589), (4, .int lx105), (0, .ref (q 116)), (1, .int x2), (2, .int x3), (3, .int x4)]) hx hb d_14_15_108 hl (by decide) rfl (fun ls hl => ?_)
          refine lv_goto (tgt := 248) hx hb d_14_15_110 (by decide) ?_
          refine lv_aload_n hx hb d_14_15_248 rfl (lv_at hl 2 rfl) ?_
          refine lv_iload hx hb d_14_15_249 (lv_at hl 0 rfl) ?_
          refine lv_iconst (v := 3) hx hb d_14_15_251 (by decide) ?_
          refine q_join (X := Int32) (fun z H locs ls _ => q_F (lx133.toInt ≤ z.toInt) ∧ q_F (z.toInt ≤ lx133.toInt + 2) ∧ q_Wd D g (va_A ws sz) s u586 H locs ∧ lv_has ls 8 [(5, .int y589), (0, .ref (q 116))] ∧ F_NM_read_J260_13 x2 x3 x4 t0_0 t0_1 t0_2 t1_0 t1_1 t1_2 t1_3 t1_4 t1_5 t1_6 t2_0 t3_0 t4_0 t5_0 t6_0 t6_1 t6_2 t6_3 t6_4 t6_5 t6_6 t6_7 t6_8 t6_9 t6_10 t7_0 t8_0 t9_0 t10_0 t11_0 t12_0 t13_0 t13_1 t13_2 t13_3 t13_4 t13_5 t13_6 t13_7 t13_8 t13_9 t13_10 t13_11 t13_12 t13_13 t14_0 t15_0 t16_0 t17_0 t18_0 lx105 lx133 p574 f566 p616 y589 y590 y591 y592 y593 y594 y595 f596 f598 f600 z = (F_NM_read x2 x3 x4 t0_0 t0_1 t0_2 t1_0 t1_1 t1_2 t1_3 t1_4 t1_5 t1_6 t2_0 t3_0 t4_0 t5_0 t6_0 t6_1 t6_2 t6_3 t6_4 t6_5 t6_6 t6_7 t6_8 t6_9 t6_10 t7_0 t8_0 t9_0 t10_0 t11_0 t12_0 t13_0 t13_1 t13_2 t13_3 t13_4 t13_5 t13_6 t13_7 t13_8 t13_9 t13_10 t13_11 t13_12 t13_13 t14_0 t15_0 t16_0 t17_0 t18_0) ∧ True ∧ S_NM_read_J260_13 x2 x3 x4 t0_0 t0_1 t0_2 t1_0 t1_1 t1_2 t1_3 t1_4 t1_5 t1_6 t2_0 t3_0 t4_0 t5_0 t6_0 t6_1 t6_2 t6_3 t6_4 t6_5 t6_6 t6_7 t6_8 t6_9 t6_10 t7_0 t8_0 t9_0 t10_0 t11_0 t12_0 t13_0 t13_1 t13_2 t13_3 t13_4 t13_5 t13_6 t13_7 t13_8 t13_9 t13_10 t13_11 t13_12 t13_13 t14_0 t15_0 t16_0 t17_0 t18_0 lx105 lx133 p574 f566 p616 y589 y590 y591 y592 y593 y594 y595 f596 f598 f600 z) (fun z => [.int z, .ref (q 116)]) 260 0 0 ?_ ?_
          ·
            rintro lx633 H locs ls _ hZ9
            obtain ⟨i654, hZ9⟩ := hZ9
            obtain ⟨i655, hZ9⟩ := hZ9
            obtain ⟨V, hZ9⟩ := hZ9
            obtain ⟨hl, hZ9⟩ := hZ9
            obtain ⟨hR656, hS657⟩ := hZ9
            replace i654 : q_F (lx133.toInt ≤ lx633.toInt) := i654
            replace i655 : q_F (lx633.toInt ≤ lx133.toInt + 2) := i655
            replace hl : lv_has ls 8 [(5, .int y589), (0, .ref (q 116))] := hl
            refine q_put (ci := 12) (j := 0) (v := .int lx633) (ty := .int) C0 V i_NM o_NM n_NM rfl rfl hT0 (by decide) w_2298 rfl rfl rfl rfl (Nat.le_of_ble_eq_true rfl) d_14_15_260 (fun H locs w661 hu662 hT0 V => ?_)
            replace hT0 : w661[116]? = (some (q 116, .inr (12, [.int lx633, .ref (q 117), .int t0_1, .ref (q 118), .int t0_2, .ref (q 119), .ref (q 134), .ref (q 145), .ref (q 153), .ref (q 157), .ref (q 167), .ref (q 168)])) : Option (Nat × va_E)) := hT0
            replace hI := n_p116 hI hu662 hT0 (by first | with_reducible exact q_fe btt0_1 | exact ⟨(by have t1 : 0 ≤ t0_1.toInt ∧ t0_1.toInt ≤ 4100 := btt0_1; omega), (by have t1 : 0 ≤ t0_1.toInt ∧ t0_1.toInt ≤ 4100 := btt0_1; omega)⟩) (by first | with_reducible exact q_fe btt0_2 | exact ⟨(by have t1 : 0 ≤ t0_2.toInt ∧ t0_2.toInt ≤ 12200 := btt0_2; omega), (by have t1 : 0 ≤ t0_2.toInt ∧ t0_2.toInt ≤ 12200 := btt0_2; omega)⟩)
            replace hO588 := (hu662 _ (by decide)).trans hO588
            replace hA567 := (hu662 _ (by decide)).trans hA567
            replace hA597 := (hu662 _ (by decide)).trans hA597
            replace hA599 := (hu662 _ (by decide)).trans hA599
            replace hA601 := (hu662 _ (by decide)).trans hA601
            replace hT6 := (hu662 _ (by decide)).trans hT6
            replace hT7 := (hu662 _ (by decide)).trans hT7
            replace hT8 := (hu662 _ (by decide)).trans hT8
            replace hT9 := (hu662 _ (by decide)).trans hT9
            replace hT10 := (hu662 _ (by decide)).trans hT10
            replace hT11 := (hu662 _ (by decide)).trans hT11
            replace hT12 := (hu662 _ (by decide)).trans hT12
            replace hT13 := (hu662 _ (by decide)).trans hT13
            replace hT14 := (hu662 _ (by decide)).trans hT14
            replace hT15 := (hu662 _ (by decide)).trans hT15
            replace hT16 := (hu662 _ (by decide)).trans hT16
            replace hT18 := (hu662 _ (by decide)).trans hT18
            replace hF := q_us hF hu662 (by simp)
            refine lv_aload_n hx hb d_14_15_263 rfl (lv_at hl 1 rfl) ?_
            refine lv_iload hx hb d_14_15_264 (lv_at hl 0 rfl) ?_
            refine lv_if_ne (tgt := 273) hx hb d_14_15_266 (by decide) (fun c663 => ?_) (fun c663 => ?_)
            ·
              have b664 : q_F (y589.toInt ≠ 0) := (q_neI c663)
              refine lv_aload_n hx hb d_14_15_273 rfl (lv_at hl 1 rfl) ?_
              refine q_get (ci := 12) (j := 2) (v := .int t0_1) C0 V i_NM rfl rfl hT0 (by decide) w_2300 rfl d_14_15_274 ?_
              refine q_put (ci := 12) (j := 2) (v := .int t0_1) (ty := .int) C0 V i_NM o_NM n_NM rfl rfl hT0 (by decide) w_2300 rfl rfl rfl rfl (Nat.le_of_ble_eq_true rfl) d_14_15_277 (fun H locs w665 hu666 hT0 V => ?_)
              replace hT0 : w665[116]? = (some (q 116, .inr (12, [.int lx633, .ref (q 117), .int t0_1, .ref (q 118), .int t0_2, .ref (q 119), .ref (q 134), .ref (q 145), .ref (q 153), .ref (q 157), .ref (q 167), .ref (q 168)])) : Option (Nat × va_E)) := hT0
              replace hI := n_p116 hI hu666 hT0 (by first | with_reducible exact q_fe btt0_1 | exact ⟨(by have t1 : 0 ≤ t0_1.toInt ∧ t0_1.toInt ≤ 4100 := btt0_1; omega), (by have t1 : 0 ≤ t0_1.toInt ∧ t0_1.toInt ≤ 4100 := btt0_1; omega)⟩) (by first | with_reducible exact q_fe btt0_2 | exact ⟨(by have t1 : 0 ≤ t0_2.toInt ∧ t0_2.toInt ≤ 12200 := btt0_2; omega), (by have t1 : 0 ≤ t0_2.toInt ∧ t0_2.toInt ≤ 12200 := btt0_2; omega)⟩)
              replace hO588 := (hu666 _ (by decide)).trans hO588
              replace hA567 := (hu666 _ (by decide)).trans hA567
              replace hA597 := (hu666 _ (by decide)).trans hA597
              replace hA599 := (hu666 _ (by decide)).trans hA599
              replace hA601 := (hu666 _ (by decide)).trans hA601
              replace hT6 := (hu666 _ (by decide)).trans hT6
              replace hT7 := (hu666 _ (by decide)).trans hT7
              replace hT8 := (hu666 _ (by decide)).trans hT8
              replace hT9 := (hu666 _ (by decide)).trans hT9
              replace hT10 := (hu666 _ (by decide)).trans hT10
              replace hT11 := (hu666 _ (by decide)).trans hT11
              replace hT12 := (hu666 _ (by decide)).trans hT12
              replace hT13 := (hu666 _ (by decide)).trans hT13
              replace hT14 := (hu666 _ (by decide)).trans hT14
              replace hT15 := (hu666 _ (by decide)).trans hT15
              replace hT16 := (hu666 _ (by decide)).trans hT16
              replace hT18 := (hu666 _ (by decide)).trans hT18
              replace hF := q_us hF hu666 (by simp)
              refine lv_iload hx hb d_14_15_280 (lv_at hl 0 rfl) ?_
              refine lv_if_ne (tgt := 289) hx hb d_14_15_282 (by decide) (fun c667 => ?_) (fun c667 => absurd (show y589.toInt = 0 from q_eqI c667) (by first | with_reducible exact q_fe b664 | (have t1 : y589.toInt ≠ 0 := b664; omega)))
              refine lv_iconst (v := 0) hx hb d_14_15_289 (by decide) ?_
              exact q_retz C0 V (by decide) (⟨hI, hF, lx633, t0_1, y589, y590, y591, y592, y593, y594, y595, f566, f596, f598, f600, t6_0, t6_1, t6_2, t6_3, t6_4, t6_5, t6_6, t6_7, t6_8, t6_9, t6_10, t7_0, t8_0, t9_0, t10_0, t11_0, t12_0, t13_0, t13_1, t13_2, t13_3, t13_4, t13_5, t13_6, t13_7, t13_8, t13_9, t13_10, t13_11, t13_12, t13_13, t14_0, t15_0, t16_0, t18_0, hT0, hO588, hA567, hA597, hA599, hA601, hT6, hT7, hT8, hT9, hT10, hT11, hT12, hT13, hT14, hT15, hT16, hT18, (show 0 ≤ (0 : Int32).toInt from (by have z53 : (0 : Int32).toInt = 0 := rfl; omega)), (show (0 : Int32).toInt ≤ 1 from (by have z53 : (0 : Int32).toInt = 0 := rfl; omega)), (show 0 ≤ lx633.toInt from (by have z53 : (0 : Int32).toInt = 0 := rfl; have t1 : 0 ≤ lx105.toInt := i126; have t2 : lx105.toInt ≤ lx133.toInt := i154; have t3 : lx133.toInt ≤ lx633.toInt := i654; omega)), (show lx633.toInt ≤ 2 from (by have z53 : (0 : Int32).toInt = 0 := rfl; have t1 : lx133.toInt ≤ lx105.toInt := i155; have t2 : lx105.toInt = 0 := b164; have t3 : lx633.toInt ≤ lx133.toInt + 2 := i655; omega)), (show 0 ≤ t0_1.toInt from (by have z53 : (0 : Int32).toInt = 0 := rfl; have t1 : 0 ≤ t0_1.toInt ∧ t0_1.toInt ≤ 4100 := btt0_1; omega)), (show t0_1.toInt ≤ 4100 from (by have z53 : (0 : Int32).toInt = 0 := rfl; have t1 : 0 ≤ t0_1.toInt ∧ t0_1.toInt ≤ 4100 := btt0_1; omega)), (show 0 ≤ y591.toInt from (by have z53 : (0 : Int32).toInt = 0 := rfl; have t1 : 0 ≤ y591.toInt := b602; omega)), (show y591.toInt ≤ 4100 from (by have z53 : (0 : Int32).toInt = 0 := rfl; have t1 : a565.toInt ≤ 4100 := b570; have t2 : y591.toInt ≤ a565.toInt := b607; omega)), (show 0 ≤ y592.toInt from (by have z53 : (0 : Int32).toInt = 0 := rfl; have t1 : 0 ≤ y592.toInt := b603; omega)), (show y592.toInt ≤ 1 from (by have z53 : (0 : Int32).toInt = 0 := rfl; have t1 : y592.toInt ≤ 1 := b604; omega)), (show 0 ≤ y593.toInt from (by have z53 : (0 : Int32).toInt = 0 := rfl; have t1 : 0 ≤ t1_4.toInt ∧ t1_4.toInt ≤ 1 := btt1_4; have t2 : t1_4.toInt ≤ y593.toInt := b608; omega)), (show y593.toInt ≤ 1 from (by have z53 : (0 : Int32).toInt = 0 := rfl; have t1 : 0 ≤ t1_4.toInt ∧ t1_4.toInt ≤ 1 := btt1_4; have t2 : y593.toInt ≤ t1_4.toInt := b609; omega)), (show 0 ≤ y594.toInt from (by have z53 : (0 : Int32).toInt = 0 := rfl; have t1 : 0 ≤ t1_5.toInt ∧ t1_5.toInt ≤ 1 := btt1_5; have t2 : t1_5.toInt ≤ y594.toInt := b610; omega)), (show y594.toInt ≤ 1 from (by have z53 : (0 : Int32).toInt = 0 := rfl; have t1 : 0 ≤ t1_5.toInt ∧ t1_5.toInt ≤ 1 := btt1_5; have t2 : y594.toInt ≤ t1_5.toInt := b611; omega)), (show 0 ≤ y595.toInt from (by have z53 : (0 : Int32).toInt = 0 := rfl; have t1 : 0 ≤ t1_6.toInt ∧ t1_6.toInt ≤ 2100 := btt1_6; have t2 : t1_6.toInt ≤ y595.toInt := b612; omega)), (show y595.toInt ≤ 2100 from (by have z53 : (0 : Int32).toInt = 0 := rfl; have t1 : 0 ≤ t1_6.toInt ∧ t1_6.toInt ≤ 2100 := btt1_6; have t2 : y595.toInt ≤ t1_6.toInt := b613; omega)), (show 0 ≤ t6_1.toInt from (by have z53 : (0 : Int32).toInt = 0 := rfl; have t1 : 0 ≤ t6_1.toInt ∧ t6_1.toInt ≤ 4100 := btt6_1; omega)), (show t6_1.toInt ≤ 4100 from (by have z53 : (0 : Int32).toInt = 0 := rfl; have t1 : 0 ≤ t6_1.toInt ∧ t6_1.toInt ≤ 4100 := btt6_1; omega)), (show 0 ≤ t6_4.toInt from (by have z53 : (0 : Int32).toInt = 0 := rfl; have t1 : 0 ≤ t6_4.toInt ∧ t6_4.toInt ≤ 1 := btt6_4; omega)), (show t6_4.toInt ≤ 1 from (by have z53 : (0 : Int32).toInt = 0 := rfl; have t1 : 0 ≤ t6_4.toInt ∧ t6_4.toInt ≤ 1 := btt6_4; omega)), (show 0 ≤ t6_5.toInt from (by have z53 : (0 : Int32).toInt = 0 := rfl; have t1 : 0 ≤ t6_5.toInt ∧ t6_5.toInt ≤ 1 := btt6_5; omega)), (show t6_5.toInt ≤ 1 from (by have z53 : (0 : Int32).toInt = 0 := rfl; have t1 : 0 ≤ t6_5.toInt ∧ t6_5.toInt ≤ 1 := btt6_5; omega)), (show 0 ≤ t6_9.toInt from (by have z53 : (0 : Int32).toInt = 0 := rfl; have t1 : 0 ≤ t6_9.toInt ∧ t6_9.toInt ≤ 12200 := btt6_9; omega)), (show t6_9.toInt ≤ 12200 from (by have z53 : (0 : Int32).toInt = 0 := rfl; have t1 : 0 ≤ t6_9.toInt ∧ t6_9.toInt ≤ 12200 := btt6_9; omega)), (show 0 ≤ t13_1.toInt from (by have z53 : (0 : Int32).toInt = 0 := rfl; have t1 : 0 ≤ t13_1.toInt ∧ t13_1.toInt ≤ 4100 := btt13_1; omega)), (show t13_1.toInt ≤ 4100 from (by have z53 : (0 : Int32).toInt = 0 := rfl; have t1 : 0 ≤ t13_1.toInt ∧ t13_1.toInt ≤ 4100 := btt13_1; omega)), (show 0 ≤ t13_4.toInt from (by have z53 : (0 : Int32).toInt = 0 := rfl; have t1 : 0 ≤ t13_4.toInt ∧ t13_4.toInt ≤ 1 := btt13_4; omega)), (show t13_4.toInt ≤ 1 from (by have z53 : (0 : Int32).toInt = 0 := rfl; have t1 : 0 ≤ t13_4.toInt ∧ t13_4.toInt ≤ 1 := btt13_4; omega)), (show 0 ≤ t13_13.toInt from (by have z53 : (0 : Int32).toInt = 0 := rfl; have t1 : 0 ≤ t13_13.toInt ∧ t13_13.toInt ≤ 1 := btt13_13; omega)), (show t13_13.toInt ≤ 1 from (by have z53 : (0 : Int32).toInt = 0 := rfl; have t1 : 0 ≤ t13_13.toInt ∧ t13_13.toInt ≤ 1 := btt13_13; omega)), (show t0_1.toInt ≤ t0_1.toInt from (by have z53 : (0 : Int32).toInt = 0 := rfl; omega)), (show t1_1.toInt ≤ y590.toInt from (by have z53 : (0 : Int32).toInt = 0 := rfl; have t1 : t1_1.toInt ≤ y590.toInt := b605; omega)), (show y590.toInt ≤ t1_1.toInt from (by have z53 : (0 : Int32).toInt = 0 := rfl; have t1 : y590.toInt ≤ t1_1.toInt := b606; omega)), (show t1_4.toInt ≤ y593.toInt from (by have z53 : (0 : Int32).toInt = 0 := rfl; have t1 : t1_4.toInt ≤ y593.toInt := b608; omega)), (show y593.toInt ≤ t1_4.toInt from (by have z53 : (0 : Int32).toInt = 0 := rfl; have t1 : y593.toInt ≤ t1_4.toInt := b609; omega)), (show t1_5.toInt ≤ y594.toInt from (by have z53 : (0 : Int32).toInt = 0 := rfl; have t1 : t1_5.toInt ≤ y594.toInt := b610; omega)), (show y594.toInt ≤ t1_5.toInt from (by have z53 : (0 : Int32).toInt = 0 := rfl; have t1 : y594.toInt ≤ t1_5.toInt := b611; omega)), (show t1_6.toInt ≤ y595.toInt from (by have z53 : (0 : Int32).toInt = 0 := rfl; have t1 : t1_6.toInt ≤ y595.toInt := b612; omega)), (show y595.toInt ≤ t1_6.toInt from (by have z53 : (0 : Int32).toInt = 0 := rfl; have t1 : y595.toInt ≤ t1_6.toInt := b613; omega)), (show t6_4.toInt ≤ t6_4.toInt from (by have z53 : (0 : Int32).toInt = 0 := rfl; omega)), (show t6_6.toInt ≤ t6_6.toInt from (by have z53 : (0 : Int32).toInt = 0 := rfl; omega)), (show t6_6.toInt ≤ t6_6.toInt from (by have z53 : (0 : Int32).toInt = 0 := rfl; omega)), (show t6_7.toInt ≤ t6_7.toInt from (by have z53 : (0 : Int32).toInt = 0 := rfl; omega)), (show t6_7.toInt ≤ t6_7.toInt from (by have z53 : (0 : Int32).toInt = 0 := rfl; omega)), (show t6_8.toInt ≤ t6_8.toInt from (by have z53 : (0 : Int32).toInt = 0 := rfl; omega)), (show t6_8.toInt ≤ t6_8.toInt from (by have z53 : (0 : Int32).toInt = 0 := rfl; omega)), (show t6_9.toInt ≤ t6_9.toInt from (by have z53 : (0 : Int32).toInt = 0 := rfl; omega)), (show t6_9.toInt ≤ t6_9.toInt from (by have z53 : (0 : Int32).toInt = 0 := rfl; omega)), (show ((0 : Int32), lx633, t0_1, y589, y590, y591, y592, y593, y594, y595, f566, f596, f598, f600, t6_0, t6_1, t6_2, t6_3, t6_4, t6_5, t6_6, t6_7, t6_8, t6_9, t6_10, t7_0, t8_0, t9_0, t10_0, t11_0, t12_0, t13_0, t13_1, t13_2, t13_3, t13_4, t13_5, t13_6, t13_7, t13_8, t13_9, t13_10, t13_11, t13_12, t13_13, t14_0, t15_0, t16_0, t18_0) = (F_NM_read x2 x3 x4 t0_0 t0_1 t0_2 t1_0 t1_1 t1_2 t1_3 t1_4 t1_5 t1_6 t2_0 t3_0 t4_0 t5_0 t6_0 t6_1 t6_2 t6_3 t6_4 t6_5 t6_6 t6_7 t6_8 t6_9 t6_10 t7_0 t8_0 t9_0 t10_0 t11_0 t12_0 t13_0 t13_1 t13_2 t13_3 t13_4 t13_5 t13_6 t13_7 t13_8 t13_9 t13_10 t13_11 t13_12 t13_13 t14_0 t15_0 t16_0 t17_0 t18_0) from Eq.trans (by rw [F_NM_read_J260_13.eq_1, if_neg c663]) hR656)⟩) d_14_15_290
            ·
              have b668 : q_F (y589.toInt = 0) := (q_eqI c663)
              refine lv_iconst (v := 0) hx hb d_14_15_269 (by decide) ?_
              refine lv_goto (tgt := 277) hx hb d_14_15_270 (by decide) ?_
              refine q_put (ci := 12) (j := 2) (v := .int 0) (ty := .int) C0 V i_NM o_NM n_NM rfl rfl hT0 (by decide) w_2300 rfl rfl rfl rfl (Nat.le_of_ble_eq_true rfl) d_14_15_277 (fun H locs w669 hu670 hT0 V => ?_)
              replace hT0 : w669[116]? = (some (q 116, .inr (12, [.int lx633, .ref (q 117), .int 0, .ref (q 118), .int t0_2, .ref (q 119), .ref (q 134), .ref (q 145), .ref (q 153), .ref (q 157), .ref (q 167), .ref (q 168)])) : Option (Nat × va_E)) := hT0
              replace hI := n_p116 hI hu670 hT0 ⟨(by have z9 : (0 : Int32).toInt = 0 := rfl; omega), (by have z9 : (0 : Int32).toInt = 0 := rfl; omega)⟩ (by first | with_reducible exact q_fe btt0_2 | exact ⟨(by have t1 : 0 ≤ t0_2.toInt ∧ t0_2.toInt ≤ 12200 := btt0_2; omega), (by have t1 : 0 ≤ t0_2.toInt ∧ t0_2.toInt ≤ 12200 := btt0_2; omega)⟩)
              replace hO588 := (hu670 _ (by decide)).trans hO588
              replace hA567 := (hu670 _ (by decide)).trans hA567
              replace hA597 := (hu670 _ (by decide)).trans hA597
              replace hA599 := (hu670 _ (by decide)).trans hA599
              replace hA601 := (hu670 _ (by decide)).trans hA601
              replace hT6 := (hu670 _ (by decide)).trans hT6
              replace hT7 := (hu670 _ (by decide)).trans hT7
              replace hT8 := (hu670 _ (by decide)).trans hT8
              replace hT9 := (hu670 _ (by decide)).trans hT9
              replace hT10 := (hu670 _ (by decide)).trans hT10
              replace hT11 := (hu670 _ (by decide)).trans hT11
              replace hT12 := (hu670 _ (by decide)).trans hT12
              replace hT13 := (hu670 _ (by decide)).trans hT13
              replace hT14 := (hu670 _ (by decide)).trans hT14
              replace hT15 := (hu670 _ (by decide)).trans hT15
              replace hT16 := (hu670 _ (by decide)).trans hT16
              replace hT18 := (hu670 _ (by decide)).trans hT18
              replace hF := q_us hF hu670 (by simp)
              refine lv_iload hx hb d_14_15_280 (lv_at hl 0 rfl) ?_
              refine lv_if_ne (tgt := 289) hx hb d_14_15_282 (by decide) (fun c671 => absurd (show y589.toInt ≠ 0 from q_neI c671) (by first | with_reducible exact q_fe b668 | (have t1 : y589.toInt = 0 := b668; omega))) (fun c671 => ?_)
              refine lv_iconst (v := 1) hx hb d_14_15_285 (by decide) ?_
              refine lv_goto (tgt := 290) hx hb d_14_15_286 (by decide) ?_
              exact q_retz C0 V (by decide) (⟨hI, hF, lx633, 0, y589, y590, y591, y592, y593, y594, y595, f566, f596, f598, f600, t6_0, t6_1, t6_2, t6_3, t6_4, t6_5, t6_6, t6_7, t6_8, t6_9, t6_10, t7_0, t8_0, t9_0, t10_0, t11_0, t12_0, t13_0, t13_1, t13_2, t13_3, t13_4, t13_5, t13_6, t13_7, t13_8, t13_9, t13_10, t13_11, t13_12, t13_13, t14_0, t15_0, t16_0, t18_0, hT0, hO588, hA567, hA597, hA599, hA601, hT6, hT7, hT8, hT9, hT10, hT11, hT12, hT13, hT14, hT15, hT16, hT18, (show 0 ≤ (1 : Int32).toInt from (by have z53 : (1 : Int32).toInt = 1 := rfl; have z55 : (0 : Int32).toInt = 0 := rfl; omega)), (show (1 : Int32).toInt ≤ 1 from (by have z53 : (1 : Int32).toInt = 1 := rfl; have z55 : (0 : Int32).toInt = 0 := rfl; omega)), (show 0 ≤ lx633.toInt from (by have z53 : (1 : Int32).toInt = 1 := rfl; have z55 : (0 : Int32).toInt = 0 := rfl; have t1 : 0 ≤ lx105.toInt := i126; have t2 : lx105.toInt ≤ lx133.toInt := i154; have t3 : lx133.toInt ≤ lx633.toInt := i654; omega)), (show lx633.toInt ≤ 2 from (by have z53 : (1 : Int32).toInt = 1 := rfl; have z55 : (0 : Int32).toInt = 0 := rfl; have t1 : lx133.toInt ≤ lx105.toInt := i155; have t2 : lx105.toInt = 0 := b164; have t3 : lx633.toInt ≤ lx133.toInt + 2 := i655; omega)), (show 0 ≤ (0 : Int32).toInt from (by have z53 : (1 : Int32).toInt = 1 := rfl; have z55 : (0 : Int32).toInt = 0 := rfl; omega)), (show (0 : Int32).toInt ≤ 4100 from (by have z53 : (1 : Int32).toInt = 1 := rfl; have z55 : (0 : Int32).toInt = 0 := rfl; omega)), (show 0 ≤ y591.toInt from (by have z53 : (1 : Int32).toInt = 1 := rfl; have z55 : (0 : Int32).toInt = 0 := rfl; have t1 : 0 ≤ y591.toInt := b602; omega)), (show y591.toInt ≤ 4100 from (by have z53 : (1 : Int32).toInt = 1 := rfl; have z55 : (0 : Int32).toInt = 0 := rfl; have t1 : a565.toInt ≤ 4100 := b570; have t2 : y591.toInt ≤ a565.toInt := b607; omega)), (show 0 ≤ y592.toInt from (by have z53 : (1 : Int32).toInt = 1 := rfl; have z55 : (0 : Int32).toInt = 0 := rfl; have t1 : 0 ≤ y592.toInt := b603; omega)), (show y592.toInt ≤ 1 from (by have z53 : (1 : Int32).toInt = 1 := rfl; have z55 : (0 : Int32).toInt = 0 := rfl; have t1 : y592.toInt ≤ 1 := b604; omega)), (show 0 ≤ y593.toInt from (by have z53 : (1 : Int32).toInt = 1 := rfl; have z55 : (0 : Int32).toInt = 0 := rfl; have t1 : 0 ≤ t1_4.toInt ∧ t1_4.toInt ≤ 1 := btt1_4; have t2 : t1_4.toInt ≤ y593.toInt := b608; omega)), (show y593.toInt ≤ 1 from (by have z53 : (1 : Int32).toInt = 1 := rfl; have z55 : (0 : Int32).toInt = 0 := rfl; have t1 : 0 ≤ t1_4.toInt ∧ t1_4.toInt ≤ 1 := btt1_4; have t2 : y593.toInt ≤ t1_4.toInt := b609; omega)), (show 0 ≤ y594.toInt from (by have z53 : (1 : Int32).toInt = 1 := rfl; have z55 : (0 : Int32).toInt = 0 := rfl; have t1 : 0 ≤ t1_5.toInt ∧ t1_5.toInt ≤ 1 := btt1_5; have t2 : t1_5.toInt ≤ y594.toInt := b610; omega)), (show y594.toInt ≤ 1 from (by have z53 : (1 : Int32).toInt = 1 := rfl; have z55 : (0 : Int32).toInt = 0 := rfl; have t1 : 0 ≤ t1_5.toInt ∧ t1_5.toInt ≤ 1 := btt1_5; have t2 : y594.toInt ≤ t1_5.toInt := b611; omega)), (show 0 ≤ y595.toInt from (by have z53 : (1 : Int32).toInt = 1 := rfl; have z55 : (0 : Int32).toInt = 0 := rfl; have t1 : 0 ≤ t1_6.toInt ∧ t1_6.toInt ≤ 2100 := btt1_6; have t2 : t1_6.toInt ≤ y595.toInt := b612; omega)), (show y595.toInt ≤ 2100 from (by have z53 : (1 : Int32).toInt = 1 := rfl; have z55 : (0 : Int32).toInt = 0 := rfl; have t1 : 0 ≤ t1_6.toInt ∧ t1_6.toInt ≤ 2100 := btt1_6; have t2 : y595.toInt ≤ t1_6.toInt := b613; omega)), (show 0 ≤ t6_1.toInt from (by have z53 : (1 : Int32).toInt = 1 := rfl; have z55 : (0 : Int32).toInt = 0 := rfl; have t1 : 0 ≤ t6_1.toInt ∧ t6_1.toInt ≤ 4100 := btt6_1; omega)), (show t6_1.toInt ≤ 4100 from (by have z53 : (1 : Int32).toInt = 1 := rfl; have z55 : (0 : Int32).toInt = 0 := rfl; have t1 : 0 ≤ t6_1.toInt ∧ t6_1.toInt ≤ 4100 := btt6_1; omega)), (show 0 ≤ t6_4.toInt from (by have z53 : (1 : Int32).toInt = 1 := rfl; have z55 : (0 : Int32).toInt = 0 := rfl; have t1 : 0 ≤ t6_4.toInt ∧ t6_4.toInt ≤ 1 := btt6_4; omega)), (show t6_4.toInt ≤ 1 from (by have z53 : (1 : Int32).toInt = 1 := rfl; have z55 : (0 : Int32).toInt = 0 := rfl; have t1 : 0 ≤ t6_4.toInt ∧ t6_4.toInt ≤ 1 := btt6_4; omega)), (show 0 ≤ t6_5.toInt from (by have z53 : (1 : Int32).toInt = 1 := rfl; have z55 : (0 : Int32).toInt = 0 := rfl; have t1 : 0 ≤ t6_5.toInt ∧ t6_5.toInt ≤ 1 := btt6_5; omega)), (show t6_5.toInt ≤ 1 from (by have z53 : (1 : Int32).toInt = 1 := rfl; have z55 : (0 : Int32).toInt = 0 := rfl; have t1 : 0 ≤ t6_5.toInt ∧ t6_5.toInt ≤ 1 := btt6_5; omega)), (show 0 ≤ t6_9.toInt from (by have z53 : (1 : Int32).toInt = 1 := rfl; have z55 : (0 : Int32).toInt = 0 := rfl; have t1 : 0 ≤ t6_9.toInt ∧ t6_9.toInt ≤ 12200 := btt6_9; omega)), (show t6_9.toInt ≤ 12200 from (by have z53 : (1 : Int32).toInt = 1 := rfl; have z55 : (0 : Int32).toInt = 0 := rfl; have t1 : 0 ≤ t6_9.toInt ∧ t6_9.toInt ≤ 12200 := btt6_9; omega)), (show 0 ≤ t13_1.toInt from (by have z53 : (1 : Int32).toInt = 1 := rfl; have z55 : (0 : Int32).toInt = 0 := rfl; have t1 : 0 ≤ t13_1.toInt ∧ t13_1.toInt ≤ 4100 := btt13_1; omega)), (show t13_1.toInt ≤ 4100 from (by have z53 : (1 : Int32).toInt = 1 := rfl; have z55 : (0 : Int32).toInt = 0 := rfl; have t1 : 0 ≤ t13_1.toInt ∧ t13_1.toInt ≤ 4100 := btt13_1; omega)), (show 0 ≤ t13_4.toInt from (by have z53 : (1 : Int32).toInt = 1 := rfl; have z55 : (0 : Int32).toInt = 0 := rfl; have t1 : 0 ≤ t13_4.toInt ∧ t13_4.toInt ≤ 1 := btt13_4; omega)), (show t13_4.toInt ≤ 1 from (by have z53 : (1 : Int32).toInt = 1 := rfl; have z55 : (0 : Int32).toInt = 0 := rfl; have t1 : 0 ≤ t13_4.toInt ∧ t13_4.toInt ≤ 1 := btt13_4; omega)), (show 0 ≤ t13_13.toInt from (by have z53 : (1 : Int32).toInt = 1 := rfl; have z55 : (0 : Int32).toInt = 0 := rfl; have t1 : 0 ≤ t13_13.toInt ∧ t13_13.toInt ≤ 1 := btt13_13; omega)), (show t13_13.toInt ≤ 1 from (by have z53 : (1 : Int32).toInt = 1 := rfl; have z55 : (0 : Int32).toInt = 0 := rfl; have t1 : 0 ≤ t13_13.toInt ∧ t13_13.toInt ≤ 1 := btt13_13; omega)), (show (0 : Int32).toInt ≤ t0_1.toInt from (by have z53 : (1 : Int32).toInt = 1 := rfl; have z55 : (0 : Int32).toInt = 0 := rfl; have t1 : 0 ≤ t0_1.toInt ∧ t0_1.toInt ≤ 4100 := btt0_1; omega)), (show t1_1.toInt ≤ y590.toInt from (by have z53 : (1 : Int32).toInt = 1 := rfl; have z55 : (0 : Int32).toInt = 0 := rfl; have t1 : t1_1.toInt ≤ y590.toInt := b605; omega)), (show y590.toInt ≤ t1_1.toInt from (by have z53 : (1 : Int32).toInt = 1 := rfl; have z55 : (0 : Int32).toInt = 0 := rfl; have t1 : y590.toInt ≤ t1_1.toInt := b606; omega)), (show t1_4.toInt ≤ y593.toInt from (by have z53 : (1 : Int32).toInt = 1 := rfl; have z55 : (0 : Int32).toInt = 0 := rfl; have t1 : t1_4.toInt ≤ y593.toInt := b608; omega)), (show y593.toInt ≤ t1_4.toInt from (by have z53 : (1 : Int32).toInt = 1 := rfl; have z55 : (0 : Int32).toInt = 0 := rfl; have t1 : y593.toInt ≤ t1_4.toInt := b609; omega)), (show t1_5.toInt ≤ y594.toInt from (by have z53 : (1 : Int32).toInt = 1 := rfl; have z55 : (0 : Int32).toInt = 0 := rfl; have t1 : t1_5.toInt ≤ y594.toInt := b610; omega)), (show y594.toInt ≤ t1_5.toInt from (by have z53 : (1 : Int32).toInt = 1 := rfl; have z55 : (0 : Int32).toInt = 0 := rfl; have t1 : y594.toInt ≤ t1_5.toInt := b611; omega)), (show t1_6.toInt ≤ y595.toInt from (by have z53 : (1 : Int32).toInt = 1 := rfl; have z55 : (0 : Int32).toInt = 0 := rfl; have t1 : t1_6.toInt ≤ y595.toInt := b612; omega)), (show y595.toInt ≤ t1_6.toInt from (by have z53 : (1 : Int32).toInt = 1 := rfl; have z55 : (0 : Int32).toInt = 0 := rfl; have t1 : y595.toInt ≤ t1_6.toInt := b613; omega)), (show t6_4.toInt ≤ t6_4.toInt from (by have z53 : (1 : Int32).toInt = 1 := rfl; have z55 : (0 : Int32).toInt = 0 := rfl; omega)), (show t6_6.toInt ≤ t6_6.toInt from (by have z53 : (1 : Int32).toInt = 1 := rfl; have z55 : (0 : Int32).toInt = 0 := rfl; omega)), (show t6_6.toInt ≤ t6_6.toInt from (by have z53 : (1 : Int32).toInt = 1 := rfl; have z55 : (0 : Int32).toInt = 0 := rfl; omega)), (show t6_7.toInt ≤ t6_7.toInt from (by have z53 : (1 : Int32).toInt = 1 := rfl; have z55 : (0 : Int32).toInt = 0 := rfl; omega)), (show t6_7.toInt ≤ t6_7.toInt from (by have z53 : (1 : Int32).toInt = 1 := rfl; have z55 : (0 : Int32).toInt = 0 := rfl; omega)), (show t6_8.toInt ≤ t6_8.toInt from (by have z53 : (1 : Int32).toInt = 1 := rfl; have z55 : (0 : Int32).toInt = 0 := rfl; omega)), (show t6_8.toInt ≤ t6_8.toInt from (by have z53 : (1 : Int32).toInt = 1 := rfl; have z55 : (0 : Int32).toInt = 0 := rfl; omega)), (show t6_9.toInt ≤ t6_9.toInt from (by have z53 : (1 : Int32).toInt = 1 := rfl; have z55 : (0 : Int32).toInt = 0 := rfl; omega)), (show t6_9.toInt ≤ t6_9.toInt from (by have z53 : (1 : Int32).toInt = 1 := rfl; have z55 : (0 : Int32).toInt = 0 := rfl; omega)), (show ((1 : Int32), lx633, (0 : Int32), y589, y590, y591, y592, y593, y594, y595, f566, f596, f598, f600, t6_0, t6_1, t6_2, t6_3, t6_4, t6_5, t6_6, t6_7, t6_8, t6_9, t6_10, t7_0, t8_0, t9_0, t10_0, t11_0, t12_0, t13_0, t13_1, t13_2, t13_3, t13_4, t13_5, t13_6, t13_7, t13_8, t13_9, t13_10, t13_11, t13_12, t13_13, t14_0, t15_0, t16_0, t18_0) = (F_NM_read x2 x3 x4 t0_0 t0_1 t0_2 t1_0 t1_1 t1_2 t1_3 t1_4 t1_5 t1_6 t2_0 t3_0 t4_0 t5_0 t6_0 t6_1 t6_2 t6_3 t6_4 t6_5 t6_6 t6_7 t6_8 t6_9 t6_10 t7_0 t8_0 t9_0 t10_0 t11_0 t12_0 t13_0 t13_1 t13_2 t13_3 t13_4 t13_5 t13_6 t13_7 t13_8 t13_9 t13_10 t13_11 t13_12 t13_13 t14_0 t15_0 t16_0 t17_0 t18_0) from Eq.trans (by rw [F_NM_read_J260_13.eq_1, if_pos c663]) hR656)⟩) d_14_15_290
          ·
            intro J653
            refine lv_icmp_ne (tgt := 259) hx hb d_14_15_252 (by decide) (fun c672 => ?_) (fun c672 => ?_)
            ·
              refine lv_iconst (v := 0) hx hb d_14_15_259 (by decide) ?_
              exact J653 ((0 : Int32)) _ _ _ u586 ⟨(show q_F (lx133.toInt ≤ 0) from (show lx133.toInt ≤ 0 from by have t1 : lx133.toInt ≤ lx105.toInt := i155; have t2 : lx105.toInt = 0 := b164; omega)), (show q_F (0 ≤ lx133.toInt + 2) from (show 0 ≤ lx133.toInt + 2 from by have t1 : 0 ≤ lx105.toInt := i126; have t2 : lx105.toInt ≤ lx133.toInt := i154; omega)), V, q_lw hl (q_lw1 0 rfl (q_lw1 2 rfl q_lw0)), (show F_NM_read_J260_13 x2 x3 x4 t0_0 t0_1 t0_2 t1_0 t1_1 t1_2 t1_3 t1_4 t1_5 t1_6 t2_0 t3_0 t4_0 t5_0 t6_0 t6_1 t6_2 t6_3 t6_4 t6_5 t6_6 t6_7 t6_8 t6_9 t6_10 t7_0 t8_0 t9_0 t10_0 t11_0 t12_0 t13_0 t13_1 t13_2 t13_3 t13_4 t13_5 t13_6 t13_7 t13_8 t13_9 t13_10 t13_11 t13_12 t13_13 t14_0 t15_0 t16_0 t17_0 t18_0 lx105 lx133 p574 f566 p616 y589 y590 y591 y592 y593 y594 y595 f596 f598 f600 0 = (F_NM_read x2 x3 x4 t0_0 t0_1 t0_2 t1_0 t1_1 t1_2 t1_3 t1_4 t1_5 t1_6 t2_0 t3_0 t4_0 t5_0 t6_0 t6_1 t6_2 t6_3 t6_4 t6_5 t6_6 t6_7 t6_8 t6_9 t6_10 t7_0 t8_0 t9_0 t10_0 t11_0 t12_0 t13_0 t13_1 t13_2 t13_3 t13_4 t13_5 t13_6 t13_7 t13_8 t13_9 t13_10 t13_11 t13_12 t13_13 t14_0 t15_0 t16_0 t17_0 t18_0) from Eq.trans (by have c672x := c672; rw [e618] at c672x; rw [e627, e626, e625, e624, e623, e622, e621, e620, e619, e618, F_NM_read_c98.eq_1, if_neg c672x]) hR628), (show True ∧ S_NM_read_J260_13 x2 x3 x4 t0_0 t0_1 t0_2 t1_0 t1_1 t1_2 t1_3 t1_4 t1_5 t1_6 t2_0 t3_0 t4_0 t5_0 t6_0 t6_1 t6_2 t6_3 t6_4 t6_5 t6_6 t6_7 t6_8 t6_9 t6_10 t7_0 t8_0 t9_0 t10_0 t11_0 t12_0 t13_0 t13_1 t13_2 t13_3 t13_4 t13_5 t13_6 t13_7 t13_8 t13_9 t13_10 t13_11 t13_12 t13_13 t14_0 t15_0 t16_0 t17_0 t18_0 lx105 lx133 p574 f566 p616 y589 y590 y591 y592 y593 y594 y595 f596 f598 f600 0 from (by rw [e627, e626, e625, e624, e623, e622, e621, e620, e619, e618]; have h := hS629; rw [S_NM_read_c98.eq_1] at h; have c672x := c672; rw [e618] at c672x; rw [if_neg c672x] at h; with_reducible exact h))⟩
            ·
              refine lv_iconst (v := 2) hx hb d_14_15_255 (by decide) ?_
              refine lv_goto (tgt := 260) hx hb d_14_15_256 (by decide) ?_
              exact J653 ((2 : Int32)) _ _ _ u586 ⟨(show q_F (lx133.toInt ≤ 2) from (show lx133.toInt ≤ 2 from by have t1 : lx105.toInt ≤ 1 := i127; have t2 : lx133.toInt ≤ lx105.toInt := i155; omega)), (show q_F (2 ≤ lx133.toInt + 2) from (show 2 ≤ lx133.toInt + 2 from by have t1 : 0 ≤ lx105.toInt := i126; have t2 : lx105.toInt ≤ lx133.toInt := i154; omega)), V, q_lw hl (q_lw1 0 rfl (q_lw1 2 rfl q_lw0)), (show F_NM_read_J260_13 x2 x3 x4 t0_0 t0_1 t0_2 t1_0 t1_1 t1_2 t1_3 t1_4 t1_5 t1_6 t2_0 t3_0 t4_0 t5_0 t6_0 t6_1 t6_2 t6_3 t6_4 t6_5 t6_6 t6_7 t6_8 t6_9 t6_10 t7_0 t8_0 t9_0 t10_0 t11_0 t12_0 t13_0 t13_1 t13_2 t13_3 t13_4 t13_5 t13_6 t13_7 t13_8 t13_9 t13_10 t13_11 t13_12 t13_13 t14_0 t15_0 t16_0 t17_0 t18_0 lx105 lx133 p574 f566 p616 y589 y590 y591 y592 y593 y594 y595 f596 f598 f600 2 = (F_NM_read x2 x3 x4 t0_0 t0_1 t0_2 t1_0 t1_1 t1_2 t1_3 t1_4 t1_5 t1_6 t2_0 t3_0 t4_0 t5_0 t6_0 t6_1 t6_2 t6_3 t6_4 t6_5 t6_6 t6_7 t6_8 t6_9 t6_10 t7_0 t8_0 t9_0 t10_0 t11_0 t12_0 t13_0 t13_1 t13_2 t13_3 t13_4 t13_5 t13_6 t13_7 t13_8 t13_9 t13_10 t13_11 t13_12 t13_13 t14_0 t15_0 t16_0 t17_0 t18_0) from Eq.trans (by have c672x := c672; rw [e618] at c672x; rw [e627, e626, e625, e624, e623, e622, e621, e620, e619, e618, F_NM_read_c98.eq_1, if_pos c672x]) hR628), (show True ∧ S_NM_read_J260_13 x2 x3 x4 t0_0 t0_1 t0_2 t1_0 t1_1 t1_2 t1_3 t1_4 t1_5 t1_6 t2_0 t3_0 t4_0 t5_0 t6_0 t6_1 t6_2 t6_3 t6_4 t6_5 t6_6 t6_7 t6_8 t6_9 t6_10 t7_0 t8_0 t9_0 t10_0 t11_0 t12_0 t13_0 t13_1 t13_2 t13_3 t13_4 t13_5 t13_6 t13_7 t13_8 t13_9 t13_10 t13_11 t13_12 t13_13 t14_0 t15_0 t16_0 t17_0 t18_0 lx105 lx133 p574 f566 p616 y589 y590 y591 y592 y593 y594 y595 f596 f598 f600 2 from (by rw [e627, e626, e625, e624, e623, e622, e621, e620, e619, e618]; have h := hS629; rw [S_NM_read_c98.eq_1] at h; have c672x := c672; rw [e618] at c672x; rw [if_pos c672x] at h; with_reducible exact h))⟩
      ·
        refine lv_iconst (v := 0) hx hb d_14_15_58 (by decide) ?_
        exact q_retz C0 V (by decide) (⟨hI, hF, lx133, t0_1, t1_0, t1_1, t1_2, t1_3, t1_4, t1_5, t1_6, t2_0, t3_0, t4_0, t5_0, t6_0, t6_1, t6_2, t6_3, t6_4, t6_5, t6_6, t6_7, t6_8, t6_9, t6_10, t7_0, t8_0, t9_0, t10_0, t11_0, t12_0, t13_0, t13_1, t13_2, t13_3, t13_4, t13_5, t13_6, t13_7, t13_8, t13_9, t13_10, t13_11, t13_12, t13_13, t14_0, t15_0, t16_0, t18_0, hT0, hT1, hT2, hT3, hT4, hT5, hT6, hT7, hT8, hT9, hT10, hT11, hT12, hT13, hT14, hT15, hT16, hT18, (show 0 ≤ (0 : Int32).toInt from (by have z53 : (0 : Int32).toInt = 0 := rfl; omega)), (show (0 : Int32).toInt ≤ 1 from (by have z53 : (0 : Int32).toInt = 0 := rfl; omega)), (show 0 ≤ lx133.toInt from (by have z53 : (0 : Int32).toInt = 0 := rfl; have t1 : 0 ≤ lx105.toInt := i126; have t2 : lx105.toInt ≤ lx133.toInt := i154; omega)), (show lx133.toInt ≤ 2 from (by have z53 : (0 : Int32).toInt = 0 := rfl; have t1 : lx105.toInt ≤ 1 := i127; have t2 : lx133.toInt ≤ lx105.toInt := i155; omega)), (show 0 ≤ t0_1.toInt from (by have z53 : (0 : Int32).toInt = 0 := rfl; have t1 : 0 ≤ t0_1.toInt ∧ t0_1.toInt ≤ 4100 := btt0_1; omega)), (show t0_1.toInt ≤ 4100 from (by have z53 : (0 : Int32).toInt = 0 := rfl; have t1 : 0 ≤ t0_1.toInt ∧ t0_1.toInt ≤ 4100 := btt0_1; omega)), (show 0 ≤ t1_2.toInt from (by have z53 : (0 : Int32).toInt = 0 := rfl; have t1 : 0 ≤ t1_2.toInt ∧ t1_2.toInt ≤ 4100 := btt1_2; omega)), (show t1_2.toInt ≤ 4100 from (by have z53 : (0 : Int32).toInt = 0 := rfl; have t1 : 0 ≤ t1_2.toInt ∧ t1_2.toInt ≤ 4100 := btt1_2; omega)), (show 0 ≤ t1_3.toInt from (by have z53 : (0 : Int32).toInt = 0 := rfl; have t1 : 0 ≤ t1_3.toInt ∧ t1_3.toInt ≤ 1 := btt1_3; omega)), (show t1_3.toInt ≤ 1 from (by have z53 : (0 : Int32).toInt = 0 := rfl; have t1 : 0 ≤ t1_3.toInt ∧ t1_3.toInt ≤ 1 := btt1_3; omega)), (show 0 ≤ t1_4.toInt from (by have z53 : (0 : Int32).toInt = 0 := rfl; have t1 : 0 ≤ t1_4.toInt ∧ t1_4.toInt ≤ 1 := btt1_4; omega)), (show t1_4.toInt ≤ 1 from (by have z53 : (0 : Int32).toInt = 0 := rfl; have t1 : 0 ≤ t1_4.toInt ∧ t1_4.toInt ≤ 1 := btt1_4; omega)), (show 0 ≤ t1_5.toInt from (by have z53 : (0 : Int32).toInt = 0 := rfl; have t1 : 0 ≤ t1_5.toInt ∧ t1_5.toInt ≤ 1 := btt1_5; omega)), (show t1_5.toInt ≤ 1 from (by have z53 : (0 : Int32).toInt = 0 := rfl; have t1 : 0 ≤ t1_5.toInt ∧ t1_5.toInt ≤ 1 := btt1_5; omega)), (show 0 ≤ t1_6.toInt from (by have z53 : (0 : Int32).toInt = 0 := rfl; have t1 : 0 ≤ t1_6.toInt ∧ t1_6.toInt ≤ 2100 := btt1_6; omega)), (show t1_6.toInt ≤ 2100 from (by have z53 : (0 : Int32).toInt = 0 := rfl; have t1 : 0 ≤ t1_6.toInt ∧ t1_6.toInt ≤ 2100 := btt1_6; omega)), (show 0 ≤ t6_1.toInt from (by have z53 : (0 : Int32).toInt = 0 := rfl; have t1 : 0 ≤ t6_1.toInt ∧ t6_1.toInt ≤ 4100 := btt6_1; omega)), (show t6_1.toInt ≤ 4100 from (by have z53 : (0 : Int32).toInt = 0 := rfl; have t1 : 0 ≤ t6_1.toInt ∧ t6_1.toInt ≤ 4100 := btt6_1; omega)), (show 0 ≤ t6_4.toInt from (by have z53 : (0 : Int32).toInt = 0 := rfl; have t1 : 0 ≤ t6_4.toInt ∧ t6_4.toInt ≤ 1 := btt6_4; omega)), (show t6_4.toInt ≤ 1 from (by have z53 : (0 : Int32).toInt = 0 := rfl; have t1 : 0 ≤ t6_4.toInt ∧ t6_4.toInt ≤ 1 := btt6_4; omega)), (show 0 ≤ t6_5.toInt from (by have z53 : (0 : Int32).toInt = 0 := rfl; have t1 : 0 ≤ t6_5.toInt ∧ t6_5.toInt ≤ 1 := btt6_5; omega)), (show t6_5.toInt ≤ 1 from (by have z53 : (0 : Int32).toInt = 0 := rfl; have t1 : 0 ≤ t6_5.toInt ∧ t6_5.toInt ≤ 1 := btt6_5; omega)), (show 0 ≤ t6_9.toInt from (by have z53 : (0 : Int32).toInt = 0 := rfl; have t1 : 0 ≤ t6_9.toInt ∧ t6_9.toInt ≤ 12200 := btt6_9; omega)), (show t6_9.toInt ≤ 12200 from (by have z53 : (0 : Int32).toInt = 0 := rfl; have t1 : 0 ≤ t6_9.toInt ∧ t6_9.toInt ≤ 12200 := btt6_9; omega)), (show 0 ≤ t13_1.toInt from (by have z53 : (0 : Int32).toInt = 0 := rfl; have t1 : 0 ≤ t13_1.toInt ∧ t13_1.toInt ≤ 4100 := btt13_1; omega)), (show t13_1.toInt ≤ 4100 from (by have z53 : (0 : Int32).toInt = 0 := rfl; have t1 : 0 ≤ t13_1.toInt ∧ t13_1.toInt ≤ 4100 := btt13_1; omega)), (show 0 ≤ t13_4.toInt from (by have z53 : (0 : Int32).toInt = 0 := rfl; have t1 : 0 ≤ t13_4.toInt ∧ t13_4.toInt ≤ 1 := btt13_4; omega)), (show t13_4.toInt ≤ 1 from (by have z53 : (0 : Int32).toInt = 0 := rfl; have t1 : 0 ≤ t13_4.toInt ∧ t13_4.toInt ≤ 1 := btt13_4; omega)), (show 0 ≤ t13_13.toInt from (by have z53 : (0 : Int32).toInt = 0 := rfl; have t1 : 0 ≤ t13_13.toInt ∧ t13_13.toInt ≤ 1 := btt13_13; omega)), (show t13_13.toInt ≤ 1 from (by have z53 : (0 : Int32).toInt = 0 := rfl; have t1 : 0 ≤ t13_13.toInt ∧ t13_13.toInt ≤ 1 := btt13_13; omega)), (show t0_1.toInt ≤ t0_1.toInt from (by have z53 : (0 : Int32).toInt = 0 := rfl; omega)), (show t1_1.toInt ≤ t1_1.toInt from (by have z53 : (0 : Int32).toInt = 0 := rfl; omega)), (show t1_1.toInt ≤ t1_1.toInt from (by have z53 : (0 : Int32).toInt = 0 := rfl; omega)), (show t1_4.toInt ≤ t1_4.toInt from (by have z53 : (0 : Int32).toInt = 0 := rfl; omega)), (show t1_4.toInt ≤ t1_4.toInt from (by have z53 : (0 : Int32).toInt = 0 := rfl; omega)), (show t1_5.toInt ≤ t1_5.toInt from (by have z53 : (0 : Int32).toInt = 0 := rfl; omega)), (show t1_5.toInt ≤ t1_5.toInt from (by have z53 : (0 : Int32).toInt = 0 := rfl; omega)), (show t1_6.toInt ≤ t1_6.toInt from (by have z53 : (0 : Int32).toInt = 0 := rfl; omega)), (show t1_6.toInt ≤ t1_6.toInt from (by have z53 : (0 : Int32).toInt = 0 := rfl; omega)), (show t6_4.toInt ≤ t6_4.toInt from (by have z53 : (0 : Int32).toInt = 0 := rfl; omega)), (show t6_6.toInt ≤ t6_6.toInt from (by have z53 : (0 : Int32).toInt = 0 := rfl; omega)), (show t6_6.toInt ≤ t6_6.toInt from (by have z53 : (0 : Int32).toInt = 0 := rfl; omega)), (show t6_7.toInt ≤ t6_7.toInt from (by have z53 : (0 : Int32).toInt = 0 := rfl; omega)), (show t6_7.toInt ≤ t6_7.toInt from (by have z53 : (0 : Int32).toInt = 0 := rfl; omega)), (show t6_8.toInt ≤ t6_8.toInt from (by have z53 : (0 : Int32).toInt = 0 := rfl; omega)), (show t6_8.toInt ≤ t6_8.toInt from (by have z53 : (0 : Int32).toInt = 0 := rfl; omega)), (show t6_9.toInt ≤ t6_9.toInt from (by have z53 : (0 : Int32).toInt = 0 := rfl; omega)), (show t6_9.toInt ≤ t6_9.toInt from (by have z53 : (0 : Int32).toInt = 0 := rfl; omega)), (show ((0 : Int32), lx133, t0_1, t1_0, t1_1, t1_2, t1_3, t1_4, t1_5, t1_6, t2_0, t3_0, t4_0, t5_0, t6_0, t6_1, t6_2, t6_3, t6_4, t6_5, t6_6, t6_7, t6_8, t6_9, t6_10, t7_0, t8_0, t9_0, t10_0, t11_0, t12_0, t13_0, t13_1, t13_2, t13_3, t13_4, t13_5, t13_6, t13_7, t13_8, t13_9, t13_10, t13_11, t13_12, t13_13, t14_0, t15_0, t16_0, t18_0) = (F_NM_read x2 x3 x4 t0_0 t0_1 t0_2 t1_0 t1_1 t1_2 t1_3 t1_4 t1_5 t1_6 t2_0 t3_0 t4_0 t5_0 t6_0 t6_1 t6_2 t6_3 t6_4 t6_5 t6_6 t6_7 t6_8 t6_9 t6_10 t7_0 t8_0 t9_0 t10_0 t11_0 t12_0 t13_0 t13_1 t13_2 t13_3 t13_4 t13_5 t13_6 t13_7 t13_8 t13_9 t13_10 t13_11 t13_12 t13_13 t14_0 t15_0 t16_0 t17_0 t18_0) from Eq.trans (by rw [F_NM_read_J50.eq_1, if_neg c163]) hR156)⟩) d_14_15_59
    ·
      intro J153
      refine lv_if_eq (tgt := 49) hx hb d_14_15_42 (by decide) (fun c676 => ?_) (fun c676 => ?_)
      ·
        have b677 : q_F (lx105.toInt = 0) := (q_eqI c676)
        refine lv_iconst (v := 0) hx hb d_14_15_49 (by decide) ?_
        exact J153 ((0 : Int32)) _ _ _ ws ⟨(show q_F (lx105.toInt ≤ 0) from (show lx105.toInt ≤ 0 from by have t1 : lx105.toInt = 0 := b677; omega)), (show q_F (0 ≤ lx105.toInt) from (show 0 ≤ lx105.toInt from by have t1 : 0 ≤ lx105.toInt := i126; omega)), V, q_lw hl (q_lw1 0 rfl (q_lw1 1 rfl (q_lw1 2 rfl (q_lw1 3 rfl (q_lw1 4 rfl q_lw0))))), (show F_NM_read_J50 x2 x3 x4 t0_0 t0_1 t0_2 t1_0 t1_1 t1_2 t1_3 t1_4 t1_5 t1_6 t2_0 t3_0 t4_0 t5_0 t6_0 t6_1 t6_2 t6_3 t6_4 t6_5 t6_6 t6_7 t6_8 t6_9 t6_10 t7_0 t8_0 t9_0 t10_0 t11_0 t12_0 t13_0 t13_1 t13_2 t13_3 t13_4 t13_5 t13_6 t13_7 t13_8 t13_9 t13_10 t13_11 t13_12 t13_13 t14_0 t15_0 t16_0 t17_0 t18_0 lx105 0 = (F_NM_read x2 x3 x4 t0_0 t0_1 t0_2 t1_0 t1_1 t1_2 t1_3 t1_4 t1_5 t1_6 t2_0 t3_0 t4_0 t5_0 t6_0 t6_1 t6_2 t6_3 t6_4 t6_5 t6_6 t6_7 t6_8 t6_9 t6_10 t7_0 t8_0 t9_0 t10_0 t11_0 t12_0 t13_0 t13_1 t13_2 t13_3 t13_4 t13_5 t13_6 t13_7 t13_8 t13_9 t13_10 t13_11 t13_12 t13_13 t14_0 t15_0 t16_0 t17_0 t18_0) from Eq.trans (by rw [F_NM_read_J37.eq_1, if_pos c676]) hR128), (show True ∧ S_NM_read_J50 x2 x3 x4 t0_0 t0_1 t0_2 t1_0 t1_1 t1_2 t1_3 t1_4 t1_5 t1_6 t2_0 t3_0 t4_0 t5_0 t6_0 t6_1 t6_2 t6_3 t6_4 t6_5 t6_6 t6_7 t6_8 t6_9 t6_10 t7_0 t8_0 t9_0 t10_0 t11_0 t12_0 t13_0 t13_1 t13_2 t13_3 t13_4 t13_5 t13_6 t13_7 t13_8 t13_9 t13_10 t13_11 t13_12 t13_13 t14_0 t15_0 t16_0 t17_0 t18_0 lx105 0 from (by have h := hS129; rw [S_NM_read_J37.eq_1] at h; rw [if_pos c676] at h; with_reducible exact h))⟩
      ·
        have b678 : q_F (lx105.toInt ≠ 0) := (q_neI c676)
        refine lv_iconst (v := 1) hx hb d_14_15_45 (by decide) ?_
        refine lv_goto (tgt := 50) hx hb d_14_15_46 (by decide) ?_
        exact J153 ((1 : Int32)) _ _ _ ws ⟨(show q_F (lx105.toInt ≤ 1) from (show lx105.toInt ≤ 1 from by have t1 : lx105.toInt ≤ 1 := i127; omega)), (show q_F (1 ≤ lx105.toInt) from (show 1 ≤ lx105.toInt from by have t1 : 0 ≤ lx105.toInt := i126; have t2 : lx105.toInt ≠ 0 := b678; omega)), V, q_lw hl (q_lw1 0 rfl (q_lw1 1 rfl (q_lw1 2 rfl (q_lw1 3 rfl (q_lw1 4 rfl q_lw0))))), (show F_NM_read_J50 x2 x3 x4 t0_0 t0_1 t0_2 t1_0 t1_1 t1_2 t1_3 t1_4 t1_5 t1_6 t2_0 t3_0 t4_0 t5_0 t6_0 t6_1 t6_2 t6_3 t6_4 t6_5 t6_6 t6_7 t6_8 t6_9 t6_10 t7_0 t8_0 t9_0 t10_0 t11_0 t12_0 t13_0 t13_1 t13_2 t13_3 t13_4 t13_5 t13_6 t13_7 t13_8 t13_9 t13_10 t13_11 t13_12 t13_13 t14_0 t15_0 t16_0 t17_0 t18_0 lx105 1 = (F_NM_read x2 x3 x4 t0_0 t0_1 t0_2 t1_0 t1_1 t1_2 t1_3 t1_4 t1_5 t1_6 t2_0 t3_0 t4_0 t5_0 t6_0 t6_1 t6_2 t6_3 t6_4 t6_5 t6_6 t6_7 t6_8 t6_9 t6_10 t7_0 t8_0 t9_0 t10_0 t11_0 t12_0 t13_0 t13_1 t13_2 t13_3 t13_4 t13_5 t13_6 t13_7 t13_8 t13_9 t13_10 t13_11 t13_12 t13_13 t14_0 t15_0 t16_0 t17_0 t18_0) from Eq.trans (by rw [F_NM_read_J37.eq_1, if_neg c676]) hR128), (show True ∧ S_NM_read_J50 x2 x3 x4 t0_0 t0_1 t0_2 t1_0 t1_1 t1_2 t1_3 t1_4 t1_5 t1_6 t2_0 t3_0 t4_0 t5_0 t6_0 t6_1 t6_2 t6_3 t6_4 t6_5 t6_6 t6_7 t6_8 t6_9 t6_10 t7_0 t8_0 t9_0 t10_0 t11_0 t12_0 t13_0 t13_1 t13_2 t13_3 t13_4 t13_5 t13_6 t13_7 t13_8 t13_9 t13_10 t13_11 t13_12 t13_13 t14_0 t15_0 t16_0 t17_0 t18_0 lx105 1 from (by have h := hS129; rw [S_NM_read_J37.eq_1] at h; rw [if_neg c676] at h; with_reducible exact h))⟩
  ·
    intro J125
    refine q_join (X := Unit) (fun z H locs ls _ => q_Wd D g (va_A ws sz) s ws H locs ∧ lv_has ls 8 [(0, .ref (q 116)), (1, .int x2), (2, .int x3), (3, .int x4)] ∧ F_NM_read_J32 x2 x3 x4 t0_0 t0_1 t0_2 t1_0 t1_1 t1_2 t1_3 t1_4 t1_5 t1_6 t2_0 t3_0 t4_0 t5_0 t6_0 t6_1 t6_2 t6_3 t6_4 t6_5 t6_6 t6_7 t6_8 t6_9 t6_10 t7_0 t8_0 t9_0 t10_0 t11_0 t12_0 t13_0 t13_1 t13_2 t13_3 t13_4 t13_5 t13_6 t13_7 t13_8 t13_9 t13_10 t13_11 t13_12 t13_13 t14_0 t15_0 t16_0 t17_0 t18_0 = (F_NM_read x2 x3 x4 t0_0 t0_1 t0_2 t1_0 t1_1 t1_2 t1_3 t1_4 t1_5 t1_6 t2_0 t3_0 t4_0 t5_0 t6_0 t6_1 t6_2 t6_3 t6_4 t6_5 t6_6 t6_7 t6_8 t6_9 t6_10 t7_0 t8_0 t9_0 t10_0 t11_0 t12_0 t13_0 t13_1 t13_2 t13_3 t13_4 t13_5 t13_6 t13_7 t13_8 t13_9 t13_10 t13_11 t13_12 t13_13 t14_0 t15_0 t16_0 t17_0 t18_0) ∧ True ∧ S_NM_read_J32 x2 x3 x4 t0_0 t0_1 t0_2 t1_0 t1_1 t1_2 t1_3 t1_4 t1_5 t1_6 t2_0 t3_0 t4_0 t5_0 t6_0 t6_1 t6_2 t6_3 t6_4 t6_5 t6_6 t6_7 t6_8 t6_9 t6_10 t7_0 t8_0 t9_0 t10_0 t11_0 t12_0 t13_0 t13_1 t13_2 t13_3 t13_4 t13_5 t13_6 t13_7 t13_8 t13_9 t13_10 t13_11 t13_12 t13_13 t14_0 t15_0 t16_0 t17_0 t18_0) (fun z => []) 32 0 0 ?_ ?_
    ·
      rintro _ H locs ls _ ⟨V, hl, hR699, hS700⟩
      replace hl : lv_has ls 8 [(0, .ref (q 116)), (1, .int x2), (2, .int x3), (3, .int x4)] := hl
      refine lv_iconst (v := 1) hx hb d_14_15_32 (by decide) ?_
      refine lv_goto (tgt := 37) hx hb d_14_15_33 (by decide) ?_
      exact J125 ((1 : Int32)) _ _ _ ws ⟨(show q_F (0 ≤ 1) from (show 0 ≤ 1 from by omega)), (show q_F (1 ≤ 1) from (show 1 ≤ 1 from by omega)), V, q_lw hl (q_lw1 0 rfl (q_lw1 1 rfl (q_lw1 2 rfl (q_lw1 3 rfl q_lw0)))), (show F_NM_read_J37 x2 x3 x4 t0_0 t0_1 t0_2 t1_0 t1_1 t1_2 t1_3 t1_4 t1_5 t1_6 t2_0 t3_0 t4_0 t5_0 t6_0 t6_1 t6_2 t6_3 t6_4 t6_5 t6_6 t6_7 t6_8 t6_9 t6_10 t7_0 t8_0 t9_0 t10_0 t11_0 t12_0 t13_0 t13_1 t13_2 t13_3 t13_4 t13_5 t13_6 t13_7 t13_8 t13_9 t13_10 t13_11 t13_12 t13_13 t14_0 t15_0 t16_0 t17_0 t18_0 1 = (F_NM_read x2 x3 x4 t0_0 t0_1 t0_2 t1_0 t1_1 t1_2 t1_3 t1_4 t1_5 t1_6 t2_0 t3_0 t4_0 t5_0 t6_0 t6_1 t6_2 t6_3 t6_4 t6_5 t6_6 t6_7 t6_8 t6_9 t6_10 t7_0 t8_0 t9_0 t10_0 t11_0 t12_0 t13_0 t13_1 t13_2 t13_3 t13_4 t13_5 t13_6 t13_7 t13_8 t13_9 t13_10 t13_11 t13_12 t13_13 t14_0 t15_0 t16_0 t17_0 t18_0) from Eq.trans (by rw [F_NM_read_J32.eq_1]) hR699), (show True ∧ S_NM_read_J37 x2 x3 x4 t0_0 t0_1 t0_2 t1_0 t1_1 t1_2 t1_3 t1_4 t1_5 t1_6 t2_0 t3_0 t4_0 t5_0 t6_0 t6_1 t6_2 t6_3 t6_4 t6_5 t6_6 t6_7 t6_8 t6_9 t6_10 t7_0 t8_0 t9_0 t10_0 t11_0 t12_0 t13_0 t13_1 t13_2 t13_3 t13_4 t13_5 t13_6 t13_7 t13_8 t13_9 t13_10 t13_11 t13_12 t13_13 t14_0 t15_0 t16_0 t17_0 t18_0 1 from (by have h := hS700; rw [S_NM_read_J32.eq_1] at h; with_reducible exact h))⟩
    ·
      intro J698
      refine lv_if_ne (tgt := 32) hx hb d_14_15_5 (by decide) (fun c704 => ?_) (fun c704 => ?_)
      ·
        exact J698 (()) _ _ _ ws ⟨V, q_lw hl (q_lw1 0 rfl (q_lw1 1 rfl (q_lw1 2 rfl (q_lw1 3 rfl q_lw0)))), (show F_NM_read_J32 x2 x3 x4 t0_0 t0_1 t0_2 t1_0 t1_1 t1_2 t1_3 t1_4 t1_5 t1_6 t2_0 t3_0 t4_0 t5_0 t6_0 t6_1 t6_2 t6_3 t6_4 t6_5 t6_6 t6_7 t6_8 t6_9 t6_10 t7_0 t8_0 t9_0 t10_0 t11_0 t12_0 t13_0 t13_1 t13_2 t13_3 t13_4 t13_5 t13_6 t13_7 t13_8 t13_9 t13_10 t13_11 t13_12 t13_13 t14_0 t15_0 t16_0 t17_0 t18_0 = (F_NM_read x2 x3 x4 t0_0 t0_1 t0_2 t1_0 t1_1 t1_2 t1_3 t1_4 t1_5 t1_6 t2_0 t3_0 t4_0 t5_0 t6_0 t6_1 t6_2 t6_3 t6_4 t6_5 t6_6 t6_7 t6_8 t6_9 t6_10 t7_0 t8_0 t9_0 t10_0 t11_0 t12_0 t13_0 t13_1 t13_2 t13_3 t13_4 t13_5 t13_6 t13_7 t13_8 t13_9 t13_10 t13_11 t13_12 t13_13 t14_0 t15_0 t16_0 t17_0 t18_0) from (by have c704x := c704; rw [e104] at c704x; rw [F_NM_read.eq_1, if_neg c704x])), (show True ∧ S_NM_read_J32 x2 x3 x4 t0_0 t0_1 t0_2 t1_0 t1_1 t1_2 t1_3 t1_4 t1_5 t1_6 t2_0 t3_0 t4_0 t5_0 t6_0 t6_1 t6_2 t6_3 t6_4 t6_5 t6_6 t6_7 t6_8 t6_9 t6_10 t7_0 t8_0 t9_0 t10_0 t11_0 t12_0 t13_0 t13_1 t13_2 t13_3 t13_4 t13_5 t13_6 t13_7 t13_8 t13_9 t13_10 t13_11 t13_12 t13_13 t14_0 t15_0 t16_0 t17_0 t18_0 from (by have h := hS; rw [S_NM_read.eq_1] at h; have c704x := c704; rw [e104] at c704x; rw [if_neg c704x] at h; with_reducible exact h))⟩
      ·
        refine lv_iload_n hx hb d_14_15_8 rfl (lv_at hl 1 rfl) ?_
        refine q_join (X := Unit) (fun z H locs ls _ => q_Wd D g (va_A ws sz) s ws H locs ∧ lv_has ls 8 [(0, .ref (q 116)), (1, .int x2), (2, .int x3), (3, .int x4)] ∧ F_NM_read_J36 x2 x3 x4 t0_0 t0_1 t0_2 t1_0 t1_1 t1_2 t1_3 t1_4 t1_5 t1_6 t2_0 t3_0 t4_0 t5_0 t6_0 t6_1 t6_2 t6_3 t6_4 t6_5 t6_6 t6_7 t6_8 t6_9 t6_10 t7_0 t8_0 t9_0 t10_0 t11_0 t12_0 t13_0 t13_1 t13_2 t13_3 t13_4 t13_5 t13_6 t13_7 t13_8 t13_9 t13_10 t13_11 t13_12 t13_13 t14_0 t15_0 t16_0 t17_0 t18_0 = (F_NM_read x2 x3 x4 t0_0 t0_1 t0_2 t1_0 t1_1 t1_2 t1_3 t1_4 t1_5 t1_6 t2_0 t3_0 t4_0 t5_0 t6_0 t6_1 t6_2 t6_3 t6_4 t6_5 t6_6 t6_7 t6_8 t6_9 t6_10 t7_0 t8_0 t9_0 t10_0 t11_0 t12_0 t13_0 t13_1 t13_2 t13_3 t13_4 t13_5 t13_6 t13_7 t13_8 t13_9 t13_10 t13_11 t13_12 t13_13 t14_0 t15_0 t16_0 t17_0 t18_0) ∧ True ∧ S_NM_read_J36 x2 x3 x4 t0_0 t0_1 t0_2 t1_0 t1_1 t1_2 t1_3 t1_4 t1_5 t1_6 t2_0 t3_0 t4_0 t5_0 t6_0 t6_1 t6_2 t6_3 t6_4 t6_5 t6_6 t6_7 t6_8 t6_9 t6_10 t7_0 t8_0 t9_0 t10_0 t11_0 t12_0 t13_0 t13_1 t13_2 t13_3 t13_4 t13_5 t13_6 t13_7 t13_8 t13_9 t13_10 t13_11 t13_12 t13_13 t14_0 t15_0 t16_0 t17_0 t18_0) (fun z => []) 36 0 0 ?_ ?_
        ·
          rintro _ H locs ls _ ⟨V, hl, hR727, hS728⟩
          replace hl : lv_has ls 8 [(0, .ref (q 116)), (1, .int x2), (2, .int x3), (3, .int x4)] := hl
          refine lv_iconst (v := 0) hx hb d_14_15_36 (by decide) ?_
          exact J125 ((0 : Int32)) _ _ _ ws ⟨(show q_F (0 ≤ 0) from (show 0 ≤ 0 from by omega)), (show q_F (0 ≤ 1) from (show 0 ≤ 1 from by omega)), V, q_lw hl (q_lw1 0 rfl (q_lw1 1 rfl (q_lw1 2 rfl (q_lw1 3 rfl q_lw0)))), (show F_NM_read_J37 x2 x3 x4 t0_0 t0_1 t0_2 t1_0 t1_1 t1_2 t1_3 t1_4 t1_5 t1_6 t2_0 t3_0 t4_0 t5_0 t6_0 t6_1 t6_2 t6_3 t6_4 t6_5 t6_6 t6_7 t6_8 t6_9 t6_10 t7_0 t8_0 t9_0 t10_0 t11_0 t12_0 t13_0 t13_1 t13_2 t13_3 t13_4 t13_5 t13_6 t13_7 t13_8 t13_9 t13_10 t13_11 t13_12 t13_13 t14_0 t15_0 t16_0 t17_0 t18_0 0 = (F_NM_read x2 x3 x4 t0_0 t0_1 t0_2 t1_0 t1_1 t1_2 t1_3 t1_4 t1_5 t1_6 t2_0 t3_0 t4_0 t5_0 t6_0 t6_1 t6_2 t6_3 t6_4 t6_5 t6_6 t6_7 t6_8 t6_9 t6_10 t7_0 t8_0 t9_0 t10_0 t11_0 t12_0 t13_0 t13_1 t13_2 t13_3 t13_4 t13_5 t13_6 t13_7 t13_8 t13_9 t13_10 t13_11 t13_12 t13_13 t14_0 t15_0 t16_0 t17_0 t18_0) from Eq.trans (by rw [F_NM_read_J36.eq_1]) hR727), (show True ∧ S_NM_read_J37 x2 x3 x4 t0_0 t0_1 t0_2 t1_0 t1_1 t1_2 t1_3 t1_4 t1_5 t1_6 t2_0 t3_0 t4_0 t5_0 t6_0 t6_1 t6_2 t6_3 t6_4 t6_5 t6_6 t6_7 t6_8 t6_9 t6_10 t7_0 t8_0 t9_0 t10_0 t11_0 t12_0 t13_0 t13_1 t13_2 t13_3 t13_4 t13_5 t13_6 t13_7 t13_8 t13_9 t13_10 t13_11 t13_12 t13_13 t14_0 t15_0 t16_0 t17_0 t18_0 0 from (by have h := hS728; rw [S_NM_read_J36.eq_1] at h; with_reducible exact h))⟩
        ·
          intro J726
          refine lv_if_ne (tgt := 26) hx hb d_14_15_9 (by decide) (fun c732 => ?_) (fun c732 => ?_)
          ·
            refine lv_iload_n hx hb d_14_15_26 rfl (lv_at hl 3 rfl) ?_
            refine lv_bipush (v := 10) hx hb d_14_15_27 (by decide) ?_
            refine lv_icmp_eq (tgt := 36) hx hb d_14_15_29 (by decide) (fun c734 => ?_) (fun c734 => ?_)
            ·
              exact J726 (()) _ _ _ ws ⟨V, q_lw hl (q_lw1 0 rfl (q_lw1 1 rfl (q_lw1 2 rfl (q_lw1 3 rfl q_lw0)))), (show F_NM_read_J36 x2 x3 x4 t0_0 t0_1 t0_2 t1_0 t1_1 t1_2 t1_3 t1_4 t1_5 t1_6 t2_0 t3_0 t4_0 t5_0 t6_0 t6_1 t6_2 t6_3 t6_4 t6_5 t6_6 t6_7 t6_8 t6_9 t6_10 t7_0 t8_0 t9_0 t10_0 t11_0 t12_0 t13_0 t13_1 t13_2 t13_3 t13_4 t13_5 t13_6 t13_7 t13_8 t13_9 t13_10 t13_11 t13_12 t13_13 t14_0 t15_0 t16_0 t17_0 t18_0 = (F_NM_read x2 x3 x4 t0_0 t0_1 t0_2 t1_0 t1_1 t1_2 t1_3 t1_4 t1_5 t1_6 t2_0 t3_0 t4_0 t5_0 t6_0 t6_1 t6_2 t6_3 t6_4 t6_5 t6_6 t6_7 t6_8 t6_9 t6_10 t7_0 t8_0 t9_0 t10_0 t11_0 t12_0 t13_0 t13_1 t13_2 t13_3 t13_4 t13_5 t13_6 t13_7 t13_8 t13_9 t13_10 t13_11 t13_12 t13_13 t14_0 t15_0 t16_0 t17_0 t18_0) from (by have c704x := c704; rw [e104] at c704x; rw [F_NM_read.eq_1, if_pos c704x, if_neg c732, if_pos c734])), (show True ∧ S_NM_read_J36 x2 x3 x4 t0_0 t0_1 t0_2 t1_0 t1_1 t1_2 t1_3 t1_4 t1_5 t1_6 t2_0 t3_0 t4_0 t5_0 t6_0 t6_1 t6_2 t6_3 t6_4 t6_5 t6_6 t6_7 t6_8 t6_9 t6_10 t7_0 t8_0 t9_0 t10_0 t11_0 t12_0 t13_0 t13_1 t13_2 t13_3 t13_4 t13_5 t13_6 t13_7 t13_8 t13_9 t13_10 t13_11 t13_12 t13_13 t14_0 t15_0 t16_0 t17_0 t18_0 from (by have h := hS; rw [S_NM_read.eq_1] at h; have c704x := c704; rw [e104] at c704x; rw [if_pos c704x] at h; rw [if_neg c732] at h; rw [if_pos c734] at h; with_reducible exact h))⟩
            ·
              exact J698 (()) _ _ _ ws ⟨V, q_lw hl (q_lw1 0 rfl (q_lw1 1 rfl (q_lw1 2 rfl (q_lw1 3 rfl q_lw0)))), (show F_NM_read_J32 x2 x3 x4 t0_0 t0_1 t0_2 t1_0 t1_1 t1_2 t1_3 t1_4 t1_5 t1_6 t2_0 t3_0 t4_0 t5_0 t6_0 t6_1 t6_2 t6_3 t6_4 t6_5 t6_6 t6_7 t6_8 t6_9 t6_10 t7_0 t8_0 t9_0 t10_0 t11_0 t12_0 t13_0 t13_1 t13_2 t13_3 t13_4 t13_5 t13_6 t13_7 t13_8 t13_9 t13_10 t13_11 t13_12 t13_13 t14_0 t15_0 t16_0 t17_0 t18_0 = (F_NM_read x2 x3 x4 t0_0 t0_1 t0_2 t1_0 t1_1 t1_2 t1_3 t1_4 t1_5 t1_6 t2_0 t3_0 t4_0 t5_0 t6_0 t6_1 t6_2 t6_3 t6_4 t6_5 t6_6 t6_7 t6_8 t6_9 t6_10 t7_0 t8_0 t9_0 t10_0 t11_0 t12_0 t13_0 t13_1 t13_2 t13_3 t13_4 t13_5 t13_6 t13_7 t13_8 t13_9 t13_10 t13_11 t13_12 t13_13 t14_0 t15_0 t16_0 t17_0 t18_0) from (by have c704x := c704; rw [e104] at c704x; rw [F_NM_read.eq_1, if_pos c704x, if_neg c732, if_neg c734])), (show True ∧ S_NM_read_J32 x2 x3 x4 t0_0 t0_1 t0_2 t1_0 t1_1 t1_2 t1_3 t1_4 t1_5 t1_6 t2_0 t3_0 t4_0 t5_0 t6_0 t6_1 t6_2 t6_3 t6_4 t6_5 t6_6 t6_7 t6_8 t6_9 t6_10 t7_0 t8_0 t9_0 t10_0 t11_0 t12_0 t13_0 t13_1 t13_2 t13_3 t13_4 t13_5 t13_6 t13_7 t13_8 t13_9 t13_10 t13_11 t13_12 t13_13 t14_0 t15_0 t16_0 t17_0 t18_0 from (by have h := hS; rw [S_NM_read.eq_1] at h; have c704x := c704; rw [e104] at c704x; rw [if_pos c704x] at h; rw [if_neg c732] at h; rw [if_neg c734] at h; with_reducible exact h))⟩
          ·
            refine lv_iload_n hx hb d_14_15_12 rfl (lv_at hl 3 rfl) ?_
            refine lv_iconst (v := 2) hx hb d_14_15_13 (by decide) ?_
            refine lv_icmp_lt (tgt := 32) hx hb d_14_15_14 (by decide) (fun c738 => ?_) (fun c738 => ?_)
            ·
              exact J698 (()) _ _ _ ws ⟨V, q_lw hl (q_lw1 0 rfl (q_lw1 1 rfl (q_lw1 2 rfl (q_lw1 3 rfl q_lw0)))), (show F_NM_read_J32 x2 x3 x4 t0_0 t0_1 t0_2 t1_0 t1_1 t1_2 t1_3 t1_4 t1_5 t1_6 t2_0 t3_0 t4_0 t5_0 t6_0 t6_1 t6_2 t6_3 t6_4 t6_5 t6_6 t6_7 t6_8 t6_9 t6_10 t7_0 t8_0 t9_0 t10_0 t11_0 t12_0 t13_0 t13_1 t13_2 t13_3 t13_4 t13_5 t13_6 t13_7 t13_8 t13_9 t13_10 t13_11 t13_12 t13_13 t14_0 t15_0 t16_0 t17_0 t18_0 = (F_NM_read x2 x3 x4 t0_0 t0_1 t0_2 t1_0 t1_1 t1_2 t1_3 t1_4 t1_5 t1_6 t2_0 t3_0 t4_0 t5_0 t6_0 t6_1 t6_2 t6_3 t6_4 t6_5 t6_6 t6_7 t6_8 t6_9 t6_10 t7_0 t8_0 t9_0 t10_0 t11_0 t12_0 t13_0 t13_1 t13_2 t13_3 t13_4 t13_5 t13_6 t13_7 t13_8 t13_9 t13_10 t13_11 t13_12 t13_13 t14_0 t15_0 t16_0 t17_0 t18_0) from (by have c704x := c704; rw [e104] at c704x; rw [F_NM_read.eq_1, if_pos c704x, if_pos c732, if_pos c738])), (show True ∧ S_NM_read_J32 x2 x3 x4 t0_0 t0_1 t0_2 t1_0 t1_1 t1_2 t1_3 t1_4 t1_5 t1_6 t2_0 t3_0 t4_0 t5_0 t6_0 t6_1 t6_2 t6_3 t6_4 t6_5 t6_6 t6_7 t6_8 t6_9 t6_10 t7_0 t8_0 t9_0 t10_0 t11_0 t12_0 t13_0 t13_1 t13_2 t13_3 t13_4 t13_5 t13_6 t13_7 t13_8 t13_9 t13_10 t13_11 t13_12 t13_13 t14_0 t15_0 t16_0 t17_0 t18_0 from (by have h := hS; rw [S_NM_read.eq_1] at h; have c704x := c704; rw [e104] at c704x; rw [if_pos c704x] at h; rw [if_pos c732] at h; rw [if_pos c738] at h; with_reducible exact h))⟩
            ·
              refine lv_iload_n hx hb d_14_15_17 rfl (lv_at hl 3 rfl) ?_
              refine lv_bipush (v := 36) hx hb d_14_15_18 (by decide) ?_
              refine lv_icmp_le (tgt := 36) hx hb d_14_15_20 (by decide) (fun c741 => ?_) (fun c741 => ?_)
              ·
                exact J726 (()) _ _ _ ws ⟨V, q_lw hl (q_lw1 0 rfl (q_lw1 1 rfl (q_lw1 2 rfl (q_lw1 3 rfl q_lw0)))), (show F_NM_read_J36 x2 x3 x4 t0_0 t0_1 t0_2 t1_0 t1_1 t1_2 t1_3 t1_4 t1_5 t1_6 t2_0 t3_0 t4_0 t5_0 t6_0 t6_1 t6_2 t6_3 t6_4 t6_5 t6_6 t6_7 t6_8 t6_9 t6_10 t7_0 t8_0 t9_0 t10_0 t11_0 t12_0 t13_0 t13_1 t13_2 t13_3 t13_4 t13_5 t13_6 t13_7 t13_8 t13_9 t13_10 t13_11 t13_12 t13_13 t14_0 t15_0 t16_0 t17_0 t18_0 = (F_NM_read x2 x3 x4 t0_0 t0_1 t0_2 t1_0 t1_1 t1_2 t1_3 t1_4 t1_5 t1_6 t2_0 t3_0 t4_0 t5_0 t6_0 t6_1 t6_2 t6_3 t6_4 t6_5 t6_6 t6_7 t6_8 t6_9 t6_10 t7_0 t8_0 t9_0 t10_0 t11_0 t12_0 t13_0 t13_1 t13_2 t13_3 t13_4 t13_5 t13_6 t13_7 t13_8 t13_9 t13_10 t13_11 t13_12 t13_13 t14_0 t15_0 t16_0 t17_0 t18_0) from (by have c704x := c704; rw [e104] at c704x; rw [F_NM_read.eq_1, if_pos c704x, if_pos c732, if_neg c738, if_pos c741])), (show True ∧ S_NM_read_J36 x2 x3 x4 t0_0 t0_1 t0_2 t1_0 t1_1 t1_2 t1_3 t1_4 t1_5 t1_6 t2_0 t3_0 t4_0 t5_0 t6_0 t6_1 t6_2 t6_3 t6_4 t6_5 t6_6 t6_7 t6_8 t6_9 t6_10 t7_0 t8_0 t9_0 t10_0 t11_0 t12_0 t13_0 t13_1 t13_2 t13_3 t13_4 t13_5 t13_6 t13_7 t13_8 t13_9 t13_10 t13_11 t13_12 t13_13 t14_0 t15_0 t16_0 t17_0 t18_0 from (by have h := hS; rw [S_NM_read.eq_1] at h; have c704x := c704; rw [e104] at c704x; rw [if_pos c704x] at h; rw [if_pos c732] at h; rw [if_neg c738] at h; rw [if_pos c741] at h; with_reducible exact h))⟩
              ·
                refine lv_goto (tgt := 32) hx hb d_14_15_23 (by decide) ?_
                exact J698 (()) _ _ _ ws ⟨V, q_lw hl (q_lw1 0 rfl (q_lw1 1 rfl (q_lw1 2 rfl (q_lw1 3 rfl q_lw0)))), (show F_NM_read_J32 x2 x3 x4 t0_0 t0_1 t0_2 t1_0 t1_1 t1_2 t1_3 t1_4 t1_5 t1_6 t2_0 t3_0 t4_0 t5_0 t6_0 t6_1 t6_2 t6_3 t6_4 t6_5 t6_6 t6_7 t6_8 t6_9 t6_10 t7_0 t8_0 t9_0 t10_0 t11_0 t12_0 t13_0 t13_1 t13_2 t13_3 t13_4 t13_5 t13_6 t13_7 t13_8 t13_9 t13_10 t13_11 t13_12 t13_13 t14_0 t15_0 t16_0 t17_0 t18_0 = (F_NM_read x2 x3 x4 t0_0 t0_1 t0_2 t1_0 t1_1 t1_2 t1_3 t1_4 t1_5 t1_6 t2_0 t3_0 t4_0 t5_0 t6_0 t6_1 t6_2 t6_3 t6_4 t6_5 t6_6 t6_7 t6_8 t6_9 t6_10 t7_0 t8_0 t9_0 t10_0 t11_0 t12_0 t13_0 t13_1 t13_2 t13_3 t13_4 t13_5 t13_6 t13_7 t13_8 t13_9 t13_10 t13_11 t13_12 t13_13 t14_0 t15_0 t16_0 t17_0 t18_0) from (by have c704x := c704; rw [e104] at c704x; rw [F_NM_read.eq_1, if_pos c704x, if_pos c732, if_neg c738, if_neg c741])), (show True ∧ S_NM_read_J32 x2 x3 x4 t0_0 t0_1 t0_2 t1_0 t1_1 t1_2 t1_3 t1_4 t1_5 t1_6 t2_0 t3_0 t4_0 t5_0 t6_0 t6_1 t6_2 t6_3 t6_4 t6_5 t6_6 t6_7 t6_8 t6_9 t6_10 t7_0 t8_0 t9_0 t10_0 t11_0 t12_0 t13_0 t13_1 t13_2 t13_3 t13_4 t13_5 t13_6 t13_7 t13_8 t13_9 t13_10 t13_11 t13_12 t13_13 t14_0 t15_0 t16_0 t17_0 t18_0 from (by have h := hS; rw [S_NM_read.eq_1] at h; have c704x := c704; rw [e104] at c704x; rw [if_pos c704x] at h; rw [if_pos c732] at h; rw [if_neg c738] at h; rw [if_neg c741] at h; with_reducible exact h))⟩

