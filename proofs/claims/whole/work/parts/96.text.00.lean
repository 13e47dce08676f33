/-! TextRows, exactly -/
theorem d_18_15_0 : decode prog_18_method_15_code 0 = .ok (.aload_n 0, 1) := by decide +kernel
theorem d_18_15_1 : decode prog_18_method_15_code 1 = .ok (.getfield 28, 3) := by decide +kernel
set_option maxRecDepth 100000 in
theorem w_2144 : (Cond.fieldLink "NumberHouseModel$TextRows" (28 : Nat) "NumberHouseModel$TextRows" "place" "I") ∈ q_tbl := q_of9 224 rfl (by decide +kernel)
theorem d_18_15_4 : decode prog_18_method_15_code 4 = .ok (.aload_n 0, 1) := by decide +kernel
theorem d_18_15_5 : decode prog_18_method_15_code 5 = .ok (.getfield 25, 3) := by decide +kernel
set_option maxRecDepth 100000 in
theorem w_2141 : (Cond.fieldLink "NumberHouseModel$TextRows" (25 : Nat) "NumberHouseModel$TextRows" "length" "I") ∈ q_tbl := q_of9 221 rfl (by decide +kernel)
theorem d_18_15_8 : decode prog_18_method_15_code 8 = .ok (.if_icmp .ge 30, 3) := by decide +kernel
theorem d_18_15_38 : decode prog_18_method_15_code 38 = .ok (.return_, 1) := by decide +kernel
theorem d_18_15_11 : decode prog_18_method_15_code 11 = .ok (.aload_n 0, 1) := by decide +kernel
theorem d_18_15_12 : decode prog_18_method_15_code 12 = .ok (.getfield 7, 3) := by decide +kernel
theorem d_18_15_15 : decode prog_18_method_15_code 15 = .ok (.aload_n 0, 1) := by decide +kernel
theorem d_18_15_16 : decode prog_18_method_15_code 16 = .ok (.getfield 28, 3) := by decide +kernel
theorem d_18_15_19 : decode prog_18_method_15_code 19 = .ok (.iaload, 1) := by decide +kernel
theorem d_18_15_20 : decode prog_18_method_15_code 20 = .ok (.bipush 32, 2) := by decide +kernel
theorem d_18_15_22 : decode prog_18_method_15_code 22 = .ok (.if_icmp .gt 16, 3) := by decide +kernel
theorem d_18_15_25 : decode prog_18_method_15_code 25 = .ok (.aload_n 0, 1) := by decide +kernel
theorem d_18_15_26 : decode prog_18_method_15_code 26 = .ok (.dup, 1) := by decide +kernel
theorem d_18_15_27 : decode prog_18_method_15_code 27 = .ok (.getfield 28, 3) := by decide +kernel
theorem d_18_15_30 : decode prog_18_method_15_code 30 = .ok (.iconst 1, 1) := by decide +kernel
theorem d_18_15_31 : decode prog_18_method_15_code 31 = .ok (.iadd, 1) := by decide +kernel
theorem d_18_15_32 : decode prog_18_method_15_code 32 = .ok (.putfield 28, 3) := by decide +kernel
theorem d_18_15_35 : decode prog_18_method_15_code 35 = .ok (.goto (-35), 3) := by decide +kernel
def y_TR_blanks : MethodName := ⟨"NumberHouseModel$TextRows", "blanks", "()V"⟩
def F_TR_blanks_L0 (t0_0 : Int32) (t0_1 : Int32) (t0_2 : Int32) (t0_3 : Int32) (t0_4 : Int32) (t0_5 : Int32) (t0_6 : Int32) (t0_7 : Int64) (t0_8 : Int32) (t0_9 : Int32) (t0_10 : Int64) (t0_11 : Int64) (t0_12 : Int32) (t0_13 : Int32) (t1_0 : (Nat → Int32)) : Nat → Int32 → (Int32 × Int32 × Int32 × Int32 × Int32 × Int32 × Int32 × Int64 × Int32 × Int32 × Int64 × Int64 × Int32 × Int32)
  | 0, _ => default
  | fm + 1, lx22 => if t0_1 ≤ lx22 then ((t0_0, t0_1, t0_2, lx22, t0_4, t0_5, t0_6, t0_7, t0_8, t0_9, t0_10, t0_11, t0_12, t0_13)) else (if (32 : Int32) < (t1_0 lx22.toNatClampNeg : Int32) then ((t0_0, t0_1, t0_2, lx22, t0_4, t0_5, t0_6, t0_7, t0_8, t0_9, t0_10, t0_11, t0_12, t0_13)) else (F_TR_blanks_L0 t0_0 t0_1 t0_2 t0_3 t0_4 t0_5 t0_6 t0_7 t0_8 t0_9 t0_10 t0_11 t0_12 t0_13 t1_0 fm (lx22 + 1 : Int32)))
def F_TR_blanks (t0_0 : Int32) (t0_1 : Int32) (t0_2 : Int32) (t0_3 : Int32) (t0_4 : Int32) (t0_5 : Int32) (t0_6 : Int32) (t0_7 : Int64) (t0_8 : Int32) (t0_9 : Int32) (t0_10 : Int64) (t0_11 : Int64) (t0_12 : Int32) (t0_13 : Int32) (t1_0 : (Nat → Int32)) : Int32 × Int32 × Int32 × Int32 × Int32 × Int32 × Int32 × Int64 × Int32 × Int32 × Int64 × Int64 × Int32 × Int32 := F_TR_blanks_L0 t0_0 t0_1 t0_2 t0_3 t0_4 t0_5 t0_6 t0_7 t0_8 t0_9 t0_10 t0_11 t0_12 t0_13 t1_0 ((4100 - t0_3.toInt).toNat + 1) t0_3
def S_TR_blanks_L0 (t0_0 : Int32) (t0_1 : Int32) (t0_2 : Int32) (t0_3 : Int32) (t0_4 : Int32) (t0_5 : Int32) (t0_6 : Int32) (t0_7 : Int64) (t0_8 : Int32) (t0_9 : Int32) (t0_10 : Int64) (t0_11 : Int64) (t0_12 : Int32) (t0_13 : Int32) (t1_0 : (Nat → Int32)) : Nat → Int32 → Prop
  | 0, _ => False
  | fm + 1, lx22 => if t0_1 ≤ lx22 then (True) else ((0 ≤ lx22.toInt) ∧ (if (32 : Int32) < (t1_0 lx22.toNatClampNeg : Int32) then (True) else (S_TR_blanks_L0 t0_0 t0_1 t0_2 t0_3 t0_4 t0_5 t0_6 t0_7 t0_8 t0_9 t0_10 t0_11 t0_12 t0_13 t1_0 fm (lx22 + 1 : Int32))))
def S_TR_blanks (t0_0 : Int32) (t0_1 : Int32) (t0_2 : Int32) (t0_3 : Int32) (t0_4 : Int32) (t0_5 : Int32) (t0_6 : Int32) (t0_7 : Int64) (t0_8 : Int32) (t0_9 : Int32) (t0_10 : Int64) (t0_11 : Int64) (t0_12 : Int32) (t0_13 : Int32) (t1_0 : (Nat → Int32)) : Prop := S_TR_blanks_L0 t0_0 t0_1 t0_2 t0_3 t0_4 t0_5 t0_6 t0_7 t0_8 t0_9 t0_10 t0_11 t0_12 t0_13 t1_0 ((4100 - t0_3.toInt).toNat + 1) t0_3
set_option maxRecDepth 100000 in
set_option maxHeartbeats 4000000 in
theorem X_TR_blanks (l : Launch) (D : va_G) (g : Nat → ClassId) (q : Nat → Nat) (ws : va_W) (hI : q_I (msh g q) q ws) (t0_0 : Int32) (t0_1 : Int32) (t0_2 : Int32) (t0_3 : Int32) (t0_4 : Int32) (t0_5 : Int32) (t0_6 : Int32) (t0_7 : Int64) (t0_8 : Int32) (t0_9 : Int32) (t0_10 : Int64) (t0_11 : Int64) (t0_12 : Int32) (t0_13 : Int32) (hT0 : ws[153]? = (some (q 153, .inr (16, [.int t0_0, .ref (q 154), .int t0_1, .int t0_2, .int t0_3, .int t0_4, .ref (q 155), .int t0_5, .int t0_6, .long t0_7, .ref (q 156), .int t0_8, .int t0_9, .long t0_10, .long t0_11, .int t0_12, .int t0_13])) : Option (Nat × va_E))) (t1_0 : (Nat → Int32)) (hT1 : ws[154]? = (some (q 154, .inl (g 0, (4100 : Int32).toNatClampNeg, .inl t1_0)) : Option (Nat × va_E))) (hS : True ∧ S_TR_blanks t0_0 t0_1 t0_2 t0_3 t0_4 t0_5 t0_6 t0_7 t0_8 t0_9 t0_10 t0_11 t0_12 t0_13 t1_0) : q_mV l y_TR_blanks prog_18_method_15_code 1 1 0 0 D g [.ref (q 153)] ws (fun u => q_I (msh g q) q u ∧ q_un ws u [153] ∧ ∃ (u0_0 : Int32) (u0_1 : Int32) (u0_2 : Int32) (u0_3 : Int32) (u0_4 : Int32) (u0_5 : Int32) (u0_6 : Int32) (u0_7 : Int64) (u0_8 : Int32) (u0_9 : Int32) (u0_10 : Int64) (u0_11 : Int64) (u0_12 : Int32) (u0_13 : Int32), u[153]? = (some (q 153, .inr (16, [.int u0_0, .ref (q 154), .int u0_1, .int u0_2, .int u0_3, .int u0_4, .ref (q 155), .int u0_5, .int u0_6, .long u0_7, .ref (q 156), .int u0_8, .int u0_9, .long u0_10, .long u0_11, .int u0_12, .int u0_13])) : Option (Nat × va_E)) ∧ (0 ≤ u0_3.toInt) ∧ (t0_0.toInt ≤ u0_0.toInt) ∧ (u0_0.toInt ≤ t0_0.toInt) ∧ (t0_1.toInt ≤ u0_1.toInt) ∧ (u0_1.toInt ≤ t0_1.toInt) ∧ (t0_2.toInt ≤ u0_2.toInt) ∧ (u0_2.toInt ≤ t0_2.toInt) ∧ (t0_3.toInt ≤ u0_3.toInt) ∧ (t0_4.toInt ≤ u0_4.toInt) ∧ (u0_4.toInt ≤ t0_4.toInt) ∧ (t0_5.toInt ≤ u0_5.toInt) ∧ (u0_5.toInt ≤ t0_5.toInt) ∧ (t0_6.toInt ≤ u0_6.toInt) ∧ (u0_6.toInt ≤ t0_6.toInt) ∧ (t0_7.toInt ≤ u0_7.toInt) ∧ (u0_7.toInt ≤ t0_7.toInt) ∧ (t0_8.toInt ≤ u0_8.toInt) ∧ (u0_8.toInt ≤ t0_8.toInt) ∧ (t0_9.toInt ≤ u0_9.toInt) ∧ (u0_9.toInt ≤ t0_9.toInt) ∧ (t0_10.toInt ≤ u0_10.toInt) ∧ (u0_10.toInt ≤ t0_10.toInt) ∧ (t0_11.toInt ≤ u0_11.toInt) ∧ (u0_11.toInt ≤ t0_11.toInt) ∧ (t0_12.toInt ≤ u0_12.toInt) ∧ (u0_12.toInt ≤ t0_12.toInt) ∧ (t0_13.toInt ≤ u0_13.toInt) ∧ (u0_13.toInt ≤ t0_13.toInt) ∧ (u0_0, u0_1, u0_2, u0_3, u0_4, u0_5, u0_6, u0_7, u0_8, u0_9, u0_10, u0_11, u0_12, u0_13) = (F_TR_blanks t0_0 t0_1 t0_2 t0_3 t0_4 t0_5 t0_6 t0_7 t0_8 t0_9 t0_10 t0_11 t0_12 t0_13 t1_0)) := by
  intro sz
  refine q_into (by decide) (Nat.le_of_ble_eq_true rfl) ?_
  intro p e s m below meth c ls hsz C0 V hl
  have hx := C0.1
  have hb := C0.2.1
  obtain ⟨yy0_0, yy0_1, yy0_2, yy0_3, yy0_4, yy0_5, yy0_6, yy0_7, yy0_8, yy0_9, yy0_10, yy0_11, yy0_12, yy0_13, hh0, btt0_1, btt0_4, btt0_13⟩ := n_o153 hI
  obtain ⟨rfl, rfl, rfl, rfl, rfl, rfl, rfl, rfl, rfl, rfl, rfl, rfl, rfl, rfl⟩ : t0_0 = yy0_0 ∧ t0_1 = yy0_1 ∧ t0_2 = yy0_2 ∧ t0_3 = yy0_3 ∧ t0_4 = yy0_4 ∧ t0_5 = yy0_5 ∧ t0_6 = yy0_6 ∧ t0_7 = yy0_7 ∧ t0_8 = yy0_8 ∧ t0_9 = yy0_9 ∧ t0_10 = yy0_10 ∧ t0_11 = yy0_11 ∧ t0_12 = yy0_12 ∧ t0_13 = yy0_13 := by have z := Option.some.inj (hT0.symm.trans hh0); simpa using z
  replace btt0_1 : q_F (0 ≤ t0_1.toInt ∧ t0_1.toInt ≤ 4100) := btt0_1
  replace btt0_4 : q_F (0 ≤ t0_4.toInt ∧ t0_4.toInt ≤ 1) := btt0_4
  replace btt0_13 : q_F (0 ≤ t0_13.toInt ∧ t0_13.toInt ≤ 1) := btt0_13
  have hF : q_un ws ws [153] := q_u0
  have hl : lv_has ls 1 [(0, .ref (q 153))] := hl
  refine q_loop (X := Int32) (fun z H locs ls w25 => q_F (t0_3.toInt ≤ z.toInt) ∧ q_Wd D g (va_A ws sz) s w25 H locs ∧ lv_has ls 1 [(0, .ref (q 153))] ∧ q_I (msh g q) q w25 ∧ q_un ws w25 [153] ∧ w25[153]? = (some (q 153, .inr (16, [.int t0_0, .ref (q 154), .int t0_1, .int t0_2, .int z, .int t0_4, .ref (q 155), .int t0_5, .int t0_6, .long t0_7, .ref (q 156), .int t0_8, .int t0_9, .long t0_10, .long t0_11, .int t0_12, .int t0_13])) : Option (Nat × va_E)) ∧ w25[154]? = (some (q 154, .inl (g 0, (4100 : Int32).toNatClampNeg, .inl t1_0)) : Option (Nat × va_E)) ∧ (∃ n, (4100 - z.toInt).toNat < n ∧ F_TR_blanks_L0 t0_0 t0_1 t0_2 t0_3 t0_4 t0_5 t0_6 t0_7 t0_8 t0_9 t0_10 t0_11 t0_12 t0_13 t1_0 n z = (F_TR_blanks t0_0 t0_1 t0_2 t0_3 t0_4 t0_5 t0_6 t0_7 t0_8 t0_9 t0_10 t0_11 t0_12 t0_13 t1_0) ∧ True ∧ S_TR_blanks_L0 t0_0 t0_1 t0_2 t0_3 t0_4 t0_5 t0_6 t0_7 t0_8 t0_9 t0_10 t0_11 t0_12 t0_13 t1_0 n z)) (fun z => (4100 - z.toInt).toNat) ?_ ((t0_3 : Int32)) _ _ _ ws ⟨(show q_F (t0_3.toInt ≤ t0_3.toInt) from (show t0_3.toInt ≤ t0_3.toInt from by omega)), V, q_lw hl (q_lw1 0 rfl q_lw0), hI, hF, hT0, hT1, ⟨((4100 - t0_3.toInt).toNat + 1), Nat.lt_succ_self _, (show F_TR_blanks_L0 t0_0 t0_1 t0_2 t0_3 t0_4 t0_5 t0_6 t0_7 t0_8 t0_9 t0_10 t0_11 t0_12 t0_13 t1_0 ((4100 - t0_3.toInt).toNat + 1) t0_3 = (F_TR_blanks t0_0 t0_1 t0_2 t0_3 t0_4 t0_5 t0_6 t0_7 t0_8 t0_9 t0_10 t0_11 t0_12 t0_13 t1_0) from (by rw [F_TR_blanks.eq_1])), (show True ∧ S_TR_blanks_L0 t0_0 t0_1 t0_2 t0_3 t0_4 t0_5 t0_6 t0_7 t0_8 t0_9 t0_10 t0_11 t0_12 t0_13 t1_0 ((4100 - t0_3.toInt).toNat + 1) t0_3 from (by have h := hS; rw [S_TR_blanks.eq_1] at h; with_reducible exact h))⟩⟩
  rintro lx22 H locs ls w25 ⟨i23, V, hl, hI, hF, hO26, hO27, ⟨fu30, hf31, hR28, hS29⟩⟩ ih24
  obtain ⟨fm32, rfl⟩ : ∃ m, fu30 = m + 1 := ⟨fu30 - 1, by omega⟩
  replace i23 : q_F (t0_3.toInt ≤ lx22.toInt) := i23
  replace hl : lv_has ls 1 [(0, .ref (q 153))] := hl
  replace hO26 : w25[153]? = (some (q 153, .inr (16, [.int t0_0, .ref (q 154), .int t0_1, .int t0_2, .int lx22, .int t0_4, .ref (q 155), .int t0_5, .int t0_6, .long t0_7, .ref (q 156), .int t0_8, .int t0_9, .long t0_10, .long t0_11, .int t0_12, .int t0_13])) : Option (Nat × va_E)) := hO26
  replace hO27 : w25[154]? = (some (q 154, .inl (g 0, (4100 : Int32).toNatClampNeg, .inl t1_0)) : Option (Nat × va_E)) := hO27
  refine lv_aload_n hx hb d_18_15_0 rfl (lv_at hl 0 rfl) ?_
  refine q_get (ci := 16) (j := 4) (v := .int lx22) C0 V i_TR rfl rfl hO26 (by decide) w_2144 rfl d_18_15_1 ?_
  refine lv_aload_n hx hb d_18_15_4 rfl (lv_at hl 0 rfl) ?_
  refine q_get (ci := 16) (j := 2) (v := .int t0_1) C0 V i_TR rfl rfl hO26 (by decide) w_2141 rfl d_18_15_5 ?_
  refine lv_icmp_ge (tgt := 38) hx hb d_18_15_8 (by decide) (fun c33 => ?_) (fun c33 => ?_)
  ·
    have b34 : q_F (t0_1.toInt ≤ lx22.toInt) := (q_leI c33)
    exact q_retv C0 V (⟨hI, hF, t0_0, t0_1, t0_2, lx22, t0_4, t0_5, t0_6, t0_7, t0_8, t0_9, t0_10, t0_11, t0_12, t0_13, hO26, (show 0 ≤ lx22.toInt from (by have t1 : 0 ≤ t0_1.toInt ∧ t0_1.toInt ≤ 4100 := btt0_1; have t2 : t0_1.toInt ≤ lx22.toInt := b34; omega)), (show t0_0.toInt ≤ t0_0.toInt from (by omega)), (show t0_0.toInt ≤ t0_0.toInt from (by omega)), (show t0_1.toInt ≤ t0_1.toInt from (by omega)), (show t0_1.toInt ≤ t0_1.toInt from (by omega)), (show t0_2.toInt ≤ t0_2.toInt from (by omega)), (show t0_2.toInt ≤ t0_2.toInt from (by omega)), (show t0_3.toInt ≤ lx22.toInt from (by have t1 : t0_3.toInt ≤ lx22.toInt := i23; omega)), (show t0_4.toInt ≤ t0_4.toInt from (by omega)), (show t0_4.toInt ≤ t0_4.toInt from (by omega)), (show t0_5.toInt ≤ t0_5.toInt from (by omega)), (show t0_5.toInt ≤ t0_5.toInt from (by omega)), (show t0_6.toInt ≤ t0_6.toInt from (by omega)), (show t0_6.toInt ≤ t0_6.toInt from (by omega)), (show t0_7.toInt ≤ t0_7.toInt from (by omega)), (show t0_7.toInt ≤ t0_7.toInt from (by omega)), (show t0_8.toInt ≤ t0_8.toInt from (by omega)), (show t0_8.toInt ≤ t0_8.toInt from (by omega)), (show t0_9.toInt ≤ t0_9.toInt from (by omega)), (show t0_9.toInt ≤ t0_9.toInt from (by omega)), (show t0_10.toInt ≤ t0_10.toInt from (by omega)), (show t0_10.toInt ≤ t0_10.toInt from (by omega)), (show t0_11.toInt ≤ t0_11.toInt from (by omega)), (show t0_11.toInt ≤ t0_11.toInt from (by omega)), (show t0_12.toInt ≤ t0_12.toInt from (by omega)), (show t0_12.toInt ≤ t0_12.toInt from (by omega)), (show t0_13.toInt ≤ t0_13.toInt from (by omega)), (show t0_13.toInt ≤ t0_13.toInt from (by omega)), (show (t0_0, t0_1, t0_2, lx22, t0_4, t0_5, t0_6, t0_7, t0_8, t0_9, t0_10, t0_11, t0_12, t0_13) = (F_TR_blanks t0_0 t0_1 t0_2 t0_3 t0_4 t0_5 t0_6 t0_7 t0_8 t0_9 t0_10 t0_11 t0_12 t0_13 t1_0) from Eq.trans (by rw [F_TR_blanks_L0.eq_2, if_pos c33]) hR28)⟩) d_18_15_38
  ·
    have b35 : q_F (lx22.toInt < t0_1.toInt) := (q_nleI c33)
    refine lv_aload_n hx hb d_18_15_11 rfl (lv_at hl 0 rfl) ?_
    refine q_get (ci := 16) (j := 1) (v := .ref (q 154)) C0 V i_TR rfl rfl hO26 (by decide) w_2139 rfl d_18_15_12 ?_
    refine lv_aload_n hx hb d_18_15_15 rfl (lv_at hl 0 rfl) ?_
    refine q_get (ci := 16) (j := 4) (v := .int lx22) C0 V i_TR rfl rfl hO26 (by decide) w_2144 rfl d_18_15_16 ?_
    have ob36 : q_F (0 ≤ lx22.toInt) := (by have h := hS29; rw [S_TR_blanks_L0.eq_2] at h; rw [if_neg c33] at h; exact h.2.1)
    refine q_iald C0 V hO27 (q_ix (x := lx22.toInt) rfl (by have t1 : 0 ≤ lx22.toInt := ob36; omega) (by have t1 : 0 ≤ lx22.toInt := ob36; have t2 : 0 ≤ t0_1.toInt ∧ t0_1.toInt ≤ 4100 := btt0_1; have t3 : lx22.toInt < t0_1.toInt := b35; have e9 : (((4100 : Int32).toNatClampNeg : Nat) : Int) = 4100 := (by decide); omega)) d_18_15_19 ?_
    obtain ⟨a37, e38⟩ := q_nm (t1_0 lx22.toNatClampNeg : Int32)
    refine q_ti (v := a37) e38 ?_
    refine lv_bipush (v := 32) hx hb d_18_15_20 (by decide) ?_
    refine lv_icmp_gt (tgt := 38) hx hb d_18_15_22 (by decide) (fun c39 => ?_) (fun c39 => ?_)
    ·
      have b40 : q_F (32 < a37.toInt) := (q_ltI c39)
      exact q_retv C0 V (⟨hI, hF, t0_0, t0_1, t0_2, lx22, t0_4, t0_5, t0_6, t0_7, t0_8, t0_9, t0_10, t0_11, t0_12, t0_13, hO26, (show 0 ≤ lx22.toInt from (by have t1 : 0 ≤ lx22.toInt := ob36; omega)), (show t0_0.toInt ≤ t0_0.toInt from (by omega)), (show t0_0.toInt ≤ t0_0.toInt from (by omega)), (show t0_1.toInt ≤ t0_1.toInt from (by omega)), (show t0_1.toInt ≤ t0_1.toInt from (by omega)), (show t0_2.toInt ≤ t0_2.toInt from (by omega)), (show t0_2.toInt ≤ t0_2.toInt from (by omega)), (show t0_3.toInt ≤ lx22.toInt from (by have t1 : t0_3.toInt ≤ lx22.toInt := i23; omega)), (show t0_4.toInt ≤ t0_4.toInt from (by omega)), (show t0_4.toInt ≤ t0_4.toInt from (by omega)), (show t0_5.toInt ≤ t0_5.toInt from (by omega)), (show t0_5.toInt ≤ t0_5.toInt from (by omega)), (show t0_6.toInt ≤ t0_6.toInt from (by omega)), (show t0_6.toInt ≤ t0_6.toInt from (by omega)), (show t0_7.toInt ≤ t0_7.toInt from (by omega)), (show t0_7.toInt ≤ t0_7.toInt from (by omega)), (show t0_8.toInt ≤ t0_8.toInt from (by omega)), (show t0_8.toInt ≤ t0_8.toInt from (by omega)), (show t0_9.toInt ≤ t0_9.toInt from (by omega)), (show t0_9.toInt ≤ t0_9.toInt from (by omega)), (show t0_10.toInt ≤ t0_10.toInt from (by omega)), (show t0_10.toInt ≤ t0_10.toInt from (by omega)), (show t0_11.toInt ≤ t0_11.toInt from (by omega)), (show t0_11.toInt ≤ t0_11.toInt from (by omega)), (show t0_12.toInt ≤ t0_12.toInt from (by omega)), (show t0_12.toInt ≤ t0_12.toInt from (by omega)), (show t0_13.toInt ≤ t0_13.toInt from (by omega)), (show t0_13.toInt ≤ t0_13.toInt from (by omega)), (show (t0_0, t0_1, t0_2, lx22, t0_4, t0_5, t0_6, t0_7, t0_8, t0_9, t0_10, t0_11, t0_12, t0_13) = (F_TR_blanks t0_0 t0_1 t0_2 t0_3 t0_4 t0_5 t0_6 t0_7 t0_8 t0_9 t0_10 t0_11 t0_12 t0_13 t1_0) from Eq.trans (by have c39x := c39; rw [← e38] at c39x; rw [F_TR_blanks_L0.eq_2, if_neg c33, if_pos c39x]) hR28)⟩) d_18_15_38
    ·
      have b41 : q_F (a37.toInt ≤ 32) := (q_nltI c39)
      refine lv_aload_n hx hb d_18_15_25 rfl (lv_at hl 0 rfl) ?_
      refine lv_dup hx hb d_18_15_26 rfl ?_
      refine q_get (ci := 16) (j := 4) (v := .int lx22) C0 V i_TR rfl rfl hO26 (by decide) w_2144 rfl d_18_15_27 ?_
      refine lv_iconst (v := 1) hx hb d_18_15_30 (by decide) ?_
      refine lv_iadd hx hb d_18_15_31 ?_
      obtain ⟨a42, e43⟩ := q_nm (lx22 + 1 : Int32)
      refine q_ti (v := a42) e43 ?_
      have b44 : q_F (a42.toInt = lx22.toInt + 1) := (by rw [← e43]; show (lx22 + 1 : Int32).toInt = lx22.toInt + 1; exact q_addI (x := lx22.toInt) (y := 1) rfl (by decide) (by have t1 : 0 ≤ lx22.toInt := ob36; have t2 : lx22.toInt < t0_1.toInt := b35; have _ := q_lo32 (x := t0_1); have _ := q_hi32 (x := t0_1); omega) (by have t1 : 0 ≤ lx22.toInt := ob36; have t2 : lx22.toInt < t0_1.toInt := b35; have _ := q_lo32 (x := t0_1); have _ := q_hi32 (x := t0_1); omega))
      refine q_put (ci := 16) (j := 4) (v := .int a42) (ty := .int) C0 V i_TR o_TR n_TR rfl rfl hO26 (by decide) w_2144 rfl rfl rfl rfl (Nat.le_of_ble_eq_true rfl) d_18_15_32 (fun H locs w45 hu46 hO26 V => ?_)
      replace hO26 : w45[153]? = (some (q 153, .inr (16, [.int t0_0, .ref (q 154), .int t0_1, .int t0_2, .int a42, .int t0_4, .ref (q 155), .int t0_5, .int t0_6, .long t0_7, .ref (q 156), .int t0_8, .int t0_9, .long t0_10, .long t0_11, .int t0_12, .int t0_13])) : Option (Nat × va_E)) := hO26
      replace hI := n_p153 hI hu46 hO26 ⟨(by have t1 : 0 ≤ t0_1.toInt ∧ t0_1.toInt ≤ 4100 := btt0_1; omega), (by have t1 : 0 ≤ t0_1.toInt ∧ t0_1.toInt ≤ 4100 := btt0_1; omega)⟩ ⟨(by have t1 : 0 ≤ t0_4.toInt ∧ t0_4.toInt ≤ 1 := btt0_4; omega), (by have t1 : 0 ≤ t0_4.toInt ∧ t0_4.toInt ≤ 1 := btt0_4; omega)⟩ ⟨(by have t1 : 0 ≤ t0_13.toInt ∧ t0_13.toInt ≤ 1 := btt0_13; omega), (by have t1 : 0 ≤ t0_13.toInt ∧ t0_13.toInt ≤ 1 := btt0_13; omega)⟩
      replace hO27 := (hu46 _ (by decide)).trans hO27
      replace hF := q_us hF hu46 (by simp)
      refine lv_goto (tgt := 0) hx hb d_18_15_35 (by decide) ?_
      exact ih24 ((a42 : Int32)) _ _ _ _ (show (4100 - a42.toInt).toNat < (4100 - lx22.toInt).toNat from by have t1 : a42.toInt = lx22.toInt + 1 := b44; have t2 : 0 ≤ t0_1.toInt ∧ t0_1.toInt ≤ 4100 := btt0_1; have t3 : lx22.toInt < t0_1.toInt := b35; omega) ⟨(show q_F (t0_3.toInt ≤ a42.toInt) from (show t0_3.toInt ≤ a42.toInt from by have t1 : t0_3.toInt ≤ lx22.toInt := i23; have t2 : a42.toInt = lx22.toInt + 1 := b44; omega)), V, q_lw hl (q_lw1 0 rfl q_lw0), hI, hF, hO26, hO27, ⟨fm32, Nat.lt_of_lt_of_le (show (4100 - a42.toInt).toNat < (4100 - lx22.toInt).toNat from by have t1 : a42.toInt = lx22.toInt + 1 := b44; have t2 : 0 ≤ t0_1.toInt ∧ t0_1.toInt ≤ 4100 := btt0_1; have t3 : lx22.toInt < t0_1.toInt := b35; omega) (Nat.le_of_lt_succ hf31), (show F_TR_blanks_L0 t0_0 t0_1 t0_2 t0_3 t0_4 t0_5 t0_6 t0_7 t0_8 t0_9 t0_10 t0_11 t0_12 t0_13 t1_0 fm32 a42 = (F_TR_blanks t0_0 t0_1 t0_2 t0_3 t0_4 t0_5 t0_6 t0_7 t0_8 t0_9 t0_10 t0_11 t0_12 t0_13 t1_0) from Eq.trans (by have c39x := c39; rw [← e38] at c39x; rw [← e43, F_TR_blanks_L0.eq_2, if_neg c33, if_neg c39x]) hR28), (show True ∧ S_TR_blanks_L0 t0_0 t0_1 t0_2 t0_3 t0_4 t0_5 t0_6 t0_7 t0_8 t0_9 t0_10 t0_11 t0_12 t0_13 t1_0 fm32 a42 from (by rw [← e43]; have h := hS29; rw [S_TR_blanks_L0.eq_2] at h; rw [if_neg c33] at h; replace h := q_s2 h; have c39x := c39; rw [← e38] at c39x; rw [if_neg c39x] at h; with_reducible exact h))⟩⟩
theorem d_18_7_0 : decode prog_18_method_7_code 0 = .ok (.aload_n 0, 1) := by decide +kernel
theorem d_18_7_1 : decode prog_18_method_7_code 1 = .ok (.getfield 28, 3) := by decide +kernel
theorem d_18_7_4 : decode prog_18_method_7_code 4 = .ok (.aload_n 0, 1) := by decide +kernel
theorem d_18_7_5 : decode prog_18_method_7_code 5 = .ok (.getfield 25, 3) := by decide +kernel
theorem d_18_7_8 : decode prog_18_method_7_code 8 = .ok (.if_icmp .ge 15, 3) := by decide +kernel
theorem d_18_7_23 : decode prog_18_method_7_code 23 = .ok (.iconst 0, 1) := by decide +kernel
theorem d_18_7_24 : decode prog_18_method_7_code 24 = .ok (.ireturn, 1) := by decide +kernel
theorem d_18_7_11 : decode prog_18_method_7_code 11 = .ok (.aload_n 0, 1) := by decide +kernel
theorem d_18_7_12 : decode prog_18_method_7_code 12 = .ok (.getfield 7, 3) := by decide +kernel
theorem d_18_7_15 : decode prog_18_method_7_code 15 = .ok (.aload_n 0, 1) := by decide +kernel
theorem d_18_7_16 : decode prog_18_method_7_code 16 = .ok (.getfield 28, 3) := by decide +kernel
theorem d_18_7_19 : decode prog_18_method_7_code 19 = .ok (.iaload, 1) := by decide +kernel
theorem d_18_7_20 : decode prog_18_method_7_code 20 = .ok (.goto 4, 3) := by decide +kernel
def y_TR_here : MethodName := ⟨"NumberHouseModel$TextRows", "here", "()I"⟩
def F_TR_here (t0_0 : Int32) (t0_1 : Int32) (t0_2 : Int32) (t0_3 : Int32) (t0_4 : Int32) (t0_5 : Int32) (t0_6 : Int32) (t0_7 : Int64) (t0_8 : Int32) (t0_9 : Int32) (t0_10 : Int64) (t0_11 : Int64) (t0_12 : Int32) (t0_13 : Int32) (t1_0 : (Nat → Int32)) : Int32 := if t0_1 ≤ t0_3 then ((0 : Int32)) else ((t1_0 t0_3.toNatClampNeg : Int32))
def S_TR_here (t0_0 : Int32) (t0_1 : Int32) (t0_2 : Int32) (t0_3 : Int32) (t0_4 : Int32) (t0_5 : Int32) (t0_6 : Int32) (t0_7 : Int64) (t0_8 : Int32) (t0_9 : Int32) (t0_10 : Int64) (t0_11 : Int64) (t0_12 : Int32) (t0_13 : Int32) (t1_0 : (Nat → Int32)) : Prop := if t0_1 ≤ t0_3 then (True) else ((0 ≤ t0_3.toInt) ∧ (True))
set_option maxRecDepth 100000 in
set_option maxHeartbeats 4000000 in
theorem X_TR_here (l : Launch) (D : va_G) (g : Nat → ClassId) (q : Nat → Nat) (ws : va_W) (hI : q_I (msh g q) q ws) (t0_0 : Int32) (t0_1 : Int32) (t0_2 : Int32) (t0_3 : Int32) (t0_4 : Int32) (t0_5 : Int32) (t0_6 : Int32) (t0_7 : Int64) (t0_8 : Int32) (t0_9 : Int32) (t0_10 : Int64) (t0_11 : Int64) (t0_12 : Int32) (t0_13 : Int32) (hT0 : ws[153]? = (some (q 153, .inr (16, [.int t0_0, .ref (q 154), .int t0_1, .int t0_2, .int t0_3, .int t0_4, .ref (q 155), .int t0_5, .int t0_6, .long t0_7, .ref (q 156), .int t0_8, .int t0_9, .long t0_10, .long t0_11, .int t0_12, .int t0_13])) : Option (Nat × va_E))) (t1_0 : (Nat → Int32)) (hT1 : ws[154]? = (some (q 154, .inl (g 0, (4100 : Int32).toNatClampNeg, .inl t1_0)) : Option (Nat × va_E))) (hS : True ∧ S_TR_here t0_0 t0_1 t0_2 t0_3 t0_4 t0_5 t0_6 t0_7 t0_8 t0_9 t0_10 t0_11 t0_12 t0_13 t1_0) : q_mI l y_TR_here prog_18_method_7_code 1 (.int) 1 0 0 D g [.ref (q 153)] ws (fun r u => ws = u ∧ r = (F_TR_here t0_0 t0_1 t0_2 t0_3 t0_4 t0_5 t0_6 t0_7 t0_8 t0_9 t0_10 t0_11 t0_12 t0_13 t1_0)) := by
  intro sz
  refine q_into (by decide) (Nat.le_of_ble_eq_true rfl) ?_
  intro p e s m below meth c ls hsz C0 V hl
  have hx := C0.1
  have hb := C0.2.1
  obtain ⟨yy0_0, yy0_1, yy0_2, yy0_3, yy0_4, yy0_5, yy0_6, yy0_7, yy0_8, yy0_9, yy0_10, yy0_11, yy0_12, yy0_13, hh0, btt0_1, btt0_4, btt0_13⟩ := n_o153 hI
  obtain ⟨rfl, rfl, rfl, rfl, rfl, rfl, rfl, rfl, rfl, rfl, rfl, rfl, rfl, rfl⟩ : t0_0 = yy0_0 ∧ t0_1 = yy0_1 ∧ t0_2 = yy0_2 ∧ t0_3 = yy0_3 ∧ t0_4 = yy0_4 ∧ t0_5 = yy0_5 ∧ t0_6 = yy0_6 ∧ t0_7 = yy0_7 ∧ t0_8 = yy0_8 ∧ t0_9 = yy0_9 ∧ t0_10 = yy0_10 ∧ t0_11 = yy0_11 ∧ t0_12 = yy0_12 ∧ t0_13 = yy0_13 := by have z := Option.some.inj (hT0.symm.trans hh0); simpa using z
  replace btt0_1 : q_F (0 ≤ t0_1.toInt ∧ t0_1.toInt ≤ 4100) := btt0_1
  replace btt0_4 : q_F (0 ≤ t0_4.toInt ∧ t0_4.toInt ≤ 1) := btt0_4
  replace btt0_13 : q_F (0 ≤ t0_13.toInt ∧ t0_13.toInt ≤ 1) := btt0_13
  have hl : lv_has ls 1 [(0, .ref (q 153))] := hl
  refine lv_aload_n hx hb d_18_7_0 rfl (lv_at hl 0 rfl) ?_
  refine q_get (ci := 16) (j := 4) (v := .int t0_3) C0 V i_TR rfl rfl hT0 (by decide) w_2144 rfl d_18_7_1 ?_
  refine lv_aload_n hx hb d_18_7_4 rfl (lv_at hl 0 rfl) ?_
  refine q_get (ci := 16) (j := 2) (v := .int t0_1) C0 V i_TR rfl rfl hT0 (by decide) w_2141 rfl d_18_7_5 ?_
  refine lv_icmp_ge (tgt := 23) hx hb d_18_7_8 (by decide) (fun c22 => ?_) (fun c22 => ?_)
  ·
    have b23 : q_F (t0_1.toInt ≤ t0_3.toInt) := (q_leI c22)
    refine lv_iconst (v := 0) hx hb d_18_7_23 (by decide) ?_
    exact q_reti C0 V (⟨rfl, (show (0 : Int32) = (F_TR_here t0_0 t0_1 t0_2 t0_3 t0_4 t0_5 t0_6 t0_7 t0_8 t0_9 t0_10 t0_11 t0_12 t0_13 t1_0) from (by rw [F_TR_here.eq_1, if_pos c22]))⟩) d_18_7_24
  ·
    have b24 : q_F (t0_3.toInt < t0_1.toInt) := (q_nleI c22)
    refine lv_aload_n hx hb d_18_7_11 rfl (lv_at hl 0 rfl) ?_
    refine q_get (ci := 16) (j := 1) (v := .ref (q 154)) C0 V i_TR rfl rfl hT0 (by decide) w_2139 rfl d_18_7_12 ?_
    refine lv_aload_n hx hb d_18_7_15 rfl (lv_at hl 0 rfl) ?_
    refine q_get (ci := 16) (j := 4) (v := .int t0_3) C0 V i_TR rfl rfl hT0 (by decide) w_2144 rfl d_18_7_16 ?_
    have ob25 : q_F (0 ≤ t0_3.toInt) := (by have h := hS; rw [S_TR_here.eq_1] at h; rw [if_neg c22] at h; exact h.2.1)
    refine q_iald C0 V hT1 (q_ix (x := t0_3.toInt) rfl (by have t1 : 0 ≤ t0_3.toInt := ob25; omega) (by have t1 : 0 ≤ t0_3.toInt := ob25; have t2 : 0 ≤ t0_1.toInt ∧ t0_1.toInt ≤ 4100 := btt0_1; have t3 : t0_3.toInt < t0_1.toInt := b24; have e9 : (((4100 : Int32).toNatClampNeg : Nat) : Int) = 4100 := (by decide); omega)) d_18_7_19 ?_
    obtain ⟨a26, e27⟩ := q_nm (t1_0 t0_3.toNatClampNeg : Int32)
    refine q_ti (v := a26) e27 ?_
    refine lv_goto (tgt := 24) hx hb d_18_7_20 (by decide) ?_
    exact q_reti C0 V (⟨rfl, (show a26 = (F_TR_here t0_0 t0_1 t0_2 t0_3 t0_4 t0_5 t0_6 t0_7 t0_8 t0_9 t0_10 t0_11 t0_12 t0_13 t1_0) from (by rw [← e27, F_TR_here.eq_1, if_neg c22]))⟩) d_18_7_24
theorem d_18_11_0 : decode prog_18_method_11_code 0 = .ok (.lload_n 1, 1) := by decide +kernel
theorem d_18_11_1 : decode prog_18_method_11_code 1 = .ok (.lstore_n 3, 1) := by decide +kernel
theorem d_18_11_2 : decode prog_18_method_11_code 2 = .ok (.lload_n 3, 1) := by decide +kernel
theorem d_18_11_3 : decode prog_18_method_11_code 3 = .ok (.lconst 0, 1) := by decide +kernel
theorem d_18_11_4 : decode prog_18_method_11_code 4 = .ok (.lcmp, 1) := by decide +kernel
theorem d_18_11_5 : decode prog_18_method_11_code 5 = .ok (.ifCond .eq 37, 3) := by decide +kernel
theorem d_18_11_42 : decode prog_18_method_11_code 42 = .ok (.iconst 1, 1) := by decide +kernel
theorem d_18_11_43 : decode prog_18_method_11_code 43 = .ok (.ireturn, 1) := by decide +kernel
theorem d_18_11_8 : decode prog_18_method_11_code 8 = .ok (.aload_n 0, 1) := by decide +kernel
theorem d_18_11_9 : decode prog_18_method_11_code 9 = .ok (.invokevirtual 35, 3) := by decide +kernel
set_option maxRecDepth 100000 in
theorem w_2434 : (Cond.code ({ cls := "NumberHouseModel$TextRows", name := "here", desc := "()I" } : MethodName) prog_18_method_7_code (1 : Nat) (some .int)) ∈ q_tbl := q_of11 34 rfl (by decide +kernel)
set_option maxRecDepth 100000 in
theorem w_2431 : (Cond.methodLink "NumberHouseModel$TextRows" (35 : Nat) ({ cls := "NumberHouseModel$TextRows", name := "here", desc := "()I" } : MethodName)) ∈ q_tbl := q_of11 31 rfl (by decide +kernel)
set_option maxRecDepth 100000 in
theorem w_2433 : (Cond.instanceMethod ({ cls := "NumberHouseModel$TextRows", name := "here", desc := "()I" } : MethodName)) ∈ q_tbl := q_of11 33 rfl (by decide +kernel)
theorem ws_67 : Cond.selects "NumberHouseModel$TextRows" (⟨"NumberHouseModel$TextRows", "here", "()I"⟩ : MethodName) (⟨"NumberHouseModel$TextRows", "here", "()I"⟩ : MethodName) ∈ q_tbl := q_ofs 67 (by decide +kernel) (by decide +kernel)
theorem LV_TR_35 : q_LV "NumberHouseModel$TextRows" 35 y_TR_here prog_18_method_7_code 1 (some .int) 0 := ⟨w_2434, w_18, w_2431, w_2433, ws_67, ⟨by decide, by decide, by decide +kernel⟩⟩
theorem d_18_11_12 : decode prog_18_method_11_code 12 = .ok (.i2l, 1) := by decide +kernel
theorem d_18_11_13 : decode prog_18_method_11_code 13 = .ok (.lload_n 3, 1) := by decide +kernel
theorem d_18_11_14 : decode prog_18_method_11_code 14 = .ok (.ldc2_w 23, 3) := by decide +kernel
set_option maxRecDepth 100000 in
theorem w_2440 : (Cond.constantLong "NumberHouseModel$TextRows" (23 : Nat) (255 : Int64)) ∈ q_tbl := q_of11 40 rfl (by decide +kernel)
theorem d_18_11_17 : decode prog_18_method_11_code 17 = .ok (.land, 1) := by decide +kernel
theorem d_18_11_18 : decode prog_18_method_11_code 18 = .ok (.lcmp, 1) := by decide +kernel
theorem d_18_11_19 : decode prog_18_method_11_code 19 = .ok (.ifCond .eq 5, 3) := by decide +kernel
theorem d_18_11_24 : decode prog_18_method_11_code 24 = .ok (.aload_n 0, 1) := by decide +kernel
theorem d_18_11_25 : decode prog_18_method_11_code 25 = .ok (.dup, 1) := by decide +kernel
theorem d_18_11_26 : decode prog_18_method_11_code 26 = .ok (.getfield 28, 3) := by decide +kernel
theorem d_18_11_29 : decode prog_18_method_11_code 29 = .ok (.iconst 1, 1) := by decide +kernel
theorem d_18_11_30 : decode prog_18_method_11_code 30 = .ok (.iadd, 1) := by decide +kernel
theorem d_18_11_31 : decode prog_18_method_11_code 31 = .ok (.putfield 28, 3) := by decide +kernel
theorem d_18_11_34 : decode prog_18_method_11_code 34 = .ok (.lload_n 3, 1) := by decide +kernel
theorem d_18_11_35 : decode prog_18_method_11_code 35 = .ok (.bipush 8, 2) := by decide +kernel
theorem d_18_11_37 : decode prog_18_method_11_code 37 = .ok (.lshr, 1) := by decide +kernel
theorem d_18_11_38 : decode prog_18_method_11_code 38 = .ok (.lstore_n 3, 1) := by decide +kernel
theorem d_18_11_39 : decode prog_18_method_11_code 39 = .ok (.goto (-37), 3) := by decide +kernel
theorem d_18_11_22 : decode prog_18_method_11_code 22 = .ok (.iconst 0, 1) := by decide +kernel
theorem d_18_11_23 : decode prog_18_method_11_code 23 = .ok (.ireturn, 1) := by decide +kernel
def y_TR_spells : MethodName := ⟨"NumberHouseModel$TextRows", "spells", "(J)Z"⟩
def F_TR_spells_L2 (x2 : Int64) (t0_0 : Int32) (t0_1 : Int32) (t0_2 : Int32) (t0_3 : Int32) (t0_4 : Int32) (t0_5 : Int32) (t0_6 : Int32) (t0_7 : Int64) (t0_8 : Int32) (t0_9 : Int32) (t0_10 : Int64) (t0_11 : Int64) (t0_12 : Int32) (t0_13 : Int32) (t1_0 : (Nat → Int32)) : Nat → Int64 → Int32 → (Int32 × Int32 × Int32 × Int32 × Int32 × Int32 × Int32 × Int32 × Int64 × Int32 × Int32 × Int64 × Int64 × Int32 × Int32)
  | 0, _, _ => default
  | fm + 1, lx23, lx24 => if (lg_cmp lx23 0 : Int32) = (0 : Int32) then (((1 : Int32), t0_0, t0_1, t0_2, lx24, t0_4, t0_5, t0_6, t0_7, t0_8, t0_9, t0_10, t0_11, t0_12, t0_13)) else (if (lg_cmp (((F_TR_here t0_0 t0_1 t0_2 lx24 t0_4 t0_5 t0_6 t0_7 t0_8 t0_9 t0_10 t0_11 t0_12 t0_13 t1_0) : Int32).toInt64 : Int64) (lx23 &&& 255 : Int64) : Int32) = (0 : Int32) then (F_TR_spells_L2 x2 t0_0 t0_1 t0_2 t0_3 t0_4 t0_5 t0_6 t0_7 t0_8 t0_9 t0_10 t0_11 t0_12 t0_13 t1_0 fm (lx23 >>> ((8 : Int32).toInt64 &&& 63) : Int64) (lx24 + 1 : Int32)) else (((0 : Int32), t0_0, t0_1, t0_2, lx24, t0_4, t0_5, t0_6, t0_7, t0_8, t0_9, t0_10, t0_11, t0_12, t0_13)))
def F_TR_spells (x2 : Int64) (t0_0 : Int32) (t0_1 : Int32) (t0_2 : Int32) (t0_3 : Int32) (t0_4 : Int32) (t0_5 : Int32) (t0_6 : Int32) (t0_7 : Int64) (t0_8 : Int32) (t0_9 : Int32) (t0_10 : Int64) (t0_11 : Int64) (t0_12 : Int32) (t0_13 : Int32) (t1_0 : (Nat → Int32)) : Int32 × Int32 × Int32 × Int32 × Int32 × Int32 × Int32 × Int32 × Int64 × Int32 × Int32 × Int64 × Int64 × Int32 × Int32 := F_TR_spells_L2 x2 t0_0 t0_1 t0_2 t0_3 t0_4 t0_5 t0_6 t0_7 t0_8 t0_9 t0_10 t0_11 t0_12 t0_13 t1_0 1000000 x2 t0_3
def S_TR_spells_L2 (x2 : Int64) (t0_0 : Int32) (t0_1 : Int32) (t0_2 : Int32) (t0_3 : Int32) (t0_4 : Int32) (t0_5 : Int32) (t0_6 : Int32) (t0_7 : Int64) (t0_8 : Int32) (t0_9 : Int32) (t0_10 : Int64) (t0_11 : Int64) (t0_12 : Int32) (t0_13 : Int32) (t1_0 : (Nat → Int32)) : Nat → Int64 → Int32 → Prop
  | 0, _, _ => False
  | fm + 1, lx23, lx24 => if (lg_cmp lx23 0 : Int32) = (0 : Int32) then (True) else ((True ∧ S_TR_here t0_0 t0_1 t0_2 lx24 t0_4 t0_5 t0_6 t0_7 t0_8 t0_9 t0_10 t0_11 t0_12 t0_13 t1_0) ∧ (if (lg_cmp (((F_TR_here t0_0 t0_1 t0_2 lx24 t0_4 t0_5 t0_6 t0_7 t0_8 t0_9 t0_10 t0_11 t0_12 t0_13 t1_0) : Int32).toInt64 : Int64) (lx23 &&& 255 : Int64) : Int32) = (0 : Int32) then (S_TR_spells_L2 x2 t0_0 t0_1 t0_2 t0_3 t0_4 t0_5 t0_6 t0_7 t0_8 t0_9 t0_10 t0_11 t0_12 t0_13 t1_0 fm (lx23 >>> ((8 : Int32).toInt64 &&& 63) : Int64) (lx24 + 1 : Int32)) else (True)))
def S_TR_spells (x2 : Int64) (t0_0 : Int32) (t0_1 : Int32) (t0_2 : Int32) (t0_3 : Int32) (t0_4 : Int32) (t0_5 : Int32) (t0_6 : Int32) (t0_7 : Int64) (t0_8 : Int32) (t0_9 : Int32) (t0_10 : Int64) (t0_11 : Int64) (t0_12 : Int32) (t0_13 : Int32) (t1_0 : (Nat → Int32)) : Prop := S_TR_spells_L2 x2 t0_0 t0_1 t0_2 t0_3 t0_4 t0_5 t0_6 t0_7 t0_8 t0_9 t0_10 t0_11 t0_12 t0_13 t1_0 1000000 x2 t0_3
set_option maxRecDepth 100000 in
set_option maxHeartbeats 4000000 in
theorem X_TR_spells (l : Launch) (D : va_G) (g : Nat → ClassId) (q : Nat → Nat) (ws : va_W) (x2 : Int64) (hI : q_I (msh g q) q ws) (t0_0 : Int32) (t0_1 : Int32) (t0_2 : Int32) (t0_3 : Int32) (t0_4 : Int32) (t0_5 : Int32) (t0_6 : Int32) (t0_7 : Int64) (t0_8 : Int32) (t0_9 : Int32) (t0_10 : Int64) (t0_11 : Int64) (t0_12 : Int32) (t0_13 : Int32) (hT0 : ws[153]? = (some (q 153, .inr (16, [.int t0_0, .ref (q 154), .int t0_1, .int t0_2, .int t0_3, .int t0_4, .ref (q 155), .int t0_5, .int t0_6, .long t0_7, .ref (q 156), .int t0_8, .int t0_9, .long t0_10, .long t0_11, .int t0_12, .int t0_13])) : Option (Nat × va_E))) (t1_0 : (Nat → Int32)) (hT1 : ws[154]? = (some (q 154, .inl (g 0, (4100 : Int32).toNatClampNeg, .inl t1_0)) : Option (Nat × va_E))) (hS : True ∧ S_TR_spells x2 t0_0 t0_1 t0_2 t0_3 t0_4 t0_5 t0_6 t0_7 t0_8 t0_9 t0_10 t0_11 t0_12 t0_13 t1_0) : q_mI l y_TR_spells prog_18_method_11_code 5 (.boolean) 2 0 0 D g [.ref (q 153), .long x2] ws (fun r u => q_I (msh g q) q u ∧ q_un ws u [153] ∧ ∃ (u0_0 : Int32) (u0_1 : Int32) (u0_2 : Int32) (u0_3 : Int32) (u0_4 : Int32) (u0_5 : Int32) (u0_6 : Int32) (u0_7 : Int64) (u0_8 : Int32) (u0_9 : Int32) (u0_10 : Int64) (u0_11 : Int64) (u0_12 : Int32) (u0_13 : Int32), u[153]? = (some (q 153, .inr (16, [.int u0_0, .ref (q 154), .int u0_1, .int u0_2, .int u0_3, .int u0_4, .ref (q 155), .int u0_5, .int u0_6, .long u0_7, .ref (q 156), .int u0_8, .int u0_9, .long u0_10, .long u0_11, .int u0_12, .int u0_13])) : Option (Nat × va_E)) ∧ (0 ≤ r.toInt) ∧ (r.toInt ≤ 1) ∧ (t0_0.toInt ≤ u0_0.toInt) ∧ (u0_0.toInt ≤ t0_0.toInt) ∧ (t0_1.toInt ≤ u0_1.toInt) ∧ (u0_1.toInt ≤ t0_1.toInt) ∧ (t0_2.toInt ≤ u0_2.toInt) ∧ (u0_2.toInt ≤ t0_2.toInt) ∧ (t0_4.toInt ≤ u0_4.toInt) ∧ (u0_4.toInt ≤ t0_4.toInt) ∧ (t0_5.toInt ≤ u0_5.toInt) ∧ (u0_5.toInt ≤ t0_5.toInt) ∧ (t0_6.toInt ≤ u0_6.toInt) ∧ (u0_6.toInt ≤ t0_6.toInt) ∧ (t0_7.toInt ≤ u0_7.toInt) ∧ (u0_7.toInt ≤ t0_7.toInt) ∧ (t0_8.toInt ≤ u0_8.toInt) ∧ (u0_8.toInt ≤ t0_8.toInt) ∧ (t0_9.toInt ≤ u0_9.toInt) ∧ (u0_9.toInt ≤ t0_9.toInt) ∧ (t0_10.toInt ≤ u0_10.toInt) ∧ (u0_10.toInt ≤ t0_10.toInt) ∧ (t0_11.toInt ≤ u0_11.toInt) ∧ (u0_11.toInt ≤ t0_11.toInt) ∧ (t0_12.toInt ≤ u0_12.toInt) ∧ (u0_12.toInt ≤ t0_12.toInt) ∧ (t0_13.toInt ≤ u0_13.toInt) ∧ (u0_13.toInt ≤ t0_13.toInt) ∧ (r, u0_0, u0_1, u0_2, u0_3, u0_4, u0_5, u0_6, u0_7, u0_8, u0_9, u0_10, u0_11, u0_12, u0_13) = (F_TR_spells x2 t0_0 t0_1 t0_2 t0_3 t0_4 t0_5 t0_6 t0_7 t0_8 t0_9 t0_10 t0_11 t0_12 t0_13 t1_0)) := by
  intro sz
  refine q_into (by decide) (Nat.le_of_ble_eq_true rfl) ?_
  intro p e s m below meth c ls hsz C0 V hl
  have hx := C0.1
  have hb := C0.2.1
  obtain ⟨yy0_0, yy0_1, yy0_2, yy0_3, yy0_4, yy0_5, yy0_6, yy0_7, yy0_8, yy0_9, yy0_10, yy0_11, yy0_12, yy0_13, hh0, btt0_1, btt0_4, btt0_13⟩ := n_o153 hI
  obtain ⟨rfl, rfl, rfl, rfl, rfl, rfl, rfl, rfl, rfl, rfl, rfl, rfl, rfl, rfl⟩ : t0_0 = yy0_0 ∧ t0_1 = yy0_1 ∧ t0_2 = yy0_2 ∧ t0_3 = yy0_3 ∧ t0_4 = yy0_4 ∧ t0_5 = yy0_5 ∧ t0_6 = yy0_6 ∧ t0_7 = yy0_7 ∧ t0_8 = yy0_8 ∧ t0_9 = yy0_9 ∧ t0_10 = yy0_10 ∧ t0_11 = yy0_11 ∧ t0_12 = yy0_12 ∧ t0_13 = yy0_13 := by have z := Option.some.inj (hT0.symm.trans hh0); simpa using z
  replace btt0_1 : q_F (0 ≤ t0_1.toInt ∧ t0_1.toInt ≤ 4100) := btt0_1
  replace btt0_4 : q_F (0 ≤ t0_4.toInt ∧ t0_4.toInt ≤ 1) := btt0_4
  replace btt0_13 : q_F (0 ≤ t0_13.toInt ∧ t0_13.toInt ≤ 1) := btt0_13
  have hF : q_un ws ws [153] := q_u0
  have hl : lv_has ls 5 [(0, .ref (q 153)), (1, .long x2)] := hl
  refine lv_lload_n hx hb d_18_11_0 rfl (lv_at hl 1 rfl) ?_
  refine lv_lstore_n (lv' := [(3, .long x2), (0, .ref (q 153)), (1, .long x2)]) hx hb d_18_11_1 rfl hl (by decide) rfl (fun ls hl => ?_)
  refine q_loop (X := Nat × Int64 × Int32) (fun z H locs ls w26 => q_Wd D g (va_A ws sz) s w26 H locs ∧ lv_has ls 5 [(3, .long z.2.1), (0, .ref (q 153))] ∧ q_I (msh g q) q w26 ∧ q_un ws w26 [153] ∧ w26[153]? = (some (q 153, .inr (16, [.int t0_0, .ref (q 154), .int t0_1, .int t0_2, .int z.2.2, .int t0_4, .ref (q 155), .int t0_5, .int t0_6, .long t0_7, .ref (q 156), .int t0_8, .int t0_9, .long t0_10, .long t0_11, .int t0_12, .int t0_13])) : Option (Nat × va_E)) ∧ w26[154]? = (some (q 154, .inl (g 0, (4100 : Int32).toNatClampNeg, .inl t1_0)) : Option (Nat × va_E)) ∧ F_TR_spells_L2 x2 t0_0 t0_1 t0_2 t0_3 t0_4 t0_5 t0_6 t0_7 t0_8 t0_9 t0_10 t0_11 t0_12 t0_13 t1_0 z.1 z.2.1 z.2.2 = (F_TR_spells x2 t0_0 t0_1 t0_2 t0_3 t0_4 t0_5 t0_6 t0_7 t0_8 t0_9 t0_10 t0_11 t0_12 t0_13 t1_0) ∧ True ∧ S_TR_spells_L2 x2 t0_0 t0_1 t0_2 t0_3 t0_4 t0_5 t0_6 t0_7 t0_8 t0_9 t0_10 t0_11 t0_12 t0_13 t1_0 z.1 z.2.1 z.2.2) (fun z => z.1) ?_ ((1000000 : Nat), (x2 : Int64), (t0_3 : Int32)) _ _ _ ws ⟨V, q_lw hl (q_lw1 0 rfl (q_lw1 1 rfl q_lw0)), hI, hF, hT0, hT1, (show F_TR_spells_L2 x2 t0_0 t0_1 t0_2 t0_3 t0_4 t0_5 t0_6 t0_7 t0_8 t0_9 t0_10 t0_11 t0_12 t0_13 t1_0 1000000 x2 t0_3 = (F_TR_spells x2 t0_0 t0_1 t0_2 t0_3 t0_4 t0_5 t0_6 t0_7 t0_8 t0_9 t0_10 t0_11 t0_12 t0_13 t1_0) from (by rw [F_TR_spells.eq_1])), (show True ∧ S_TR_spells_L2 x2 t0_0 t0_1 t0_2 t0_3 t0_4 t0_5 t0_6 t0_7 t0_8 t0_9 t0_10 t0_11 t0_12 t0_13 t1_0 1000000 x2 t0_3 from (by have h := hS; rw [S_TR_spells.eq_1] at h; with_reducible exact h))⟩
  rintro ⟨fu31, lx23, lx24⟩ H locs ls w26 ⟨V, hl, hI, hF, hO27, hO28, hR29, hS30⟩ ih25
  obtain ⟨fm33, rfl⟩ : ∃ m, fu31 = m + 1 := Nat.exists_eq_succ_of_ne_zero (fun e => by subst e; rw [S_TR_spells_L2.eq_1] at hS30; exact hS30.2)
  replace hl : lv_has ls 5 [(3, .long lx23), (0, .ref (q 153))] := hl
  replace hO27 : w26[153]? = (some (q 153, .inr (16, [.int t0_0, .ref (q 154), .int t0_1, .int t0_2, .int lx24, .int t0_4, .ref (q 155), .int t0_5, .int t0_6, .long t0_7, .ref (q 156), .int t0_8, .int t0_9, .long t0_10, .long t0_11, .int t0_12, .int t0_13])) : Option (Nat × va_E)) := hO27
  replace hO28 : w26[154]? = (some (q 154, .inl (g 0, (4100 : Int32).toNatClampNeg, .inl t1_0)) : Option (Nat × va_E)) := hO28
  refine lv_lload_n hx hb d_18_11_2 rfl (lv_at hl 0 rfl) ?_
  refine lv_lconst (v := 0) hx hb d_18_11_3 (by decide) ?_
  refine W.lcmp hx hb d_18_11_4 ?_
  obtain ⟨a34, e35⟩ := q_nm (lg_cmp lx23 0 : Int32)
  refine q_ti (v := a34) e35 ?_
  have b36 : q_F (-1 ≤ a34.toInt ∧ a34.toInt ≤ 1 ∧ ((a34.toInt = -1 ∧ lx23.toInt < 0) ∨ (a34.toInt = 0 ∧ lx23.toInt = 0) ∨ (a34.toInt = 1 ∧ 0 < lx23.toInt))) := (by rw [← e35]; show -1 ≤ (lg_cmp lx23 0 : Int32).toInt ∧ (lg_cmp lx23 0 : Int32).toInt ≤ 1 ∧ (((lg_cmp lx23 0 : Int32).toInt = -1 ∧ lx23.toInt < 0) ∨ ((lg_cmp lx23 0 : Int32).toInt = 0 ∧ lx23.toInt = 0) ∨ ((lg_cmp lx23 0 : Int32).toInt = 1 ∧ 0 < lx23.toInt)); exact (by have y1 : (0 : Int64).toInt = 0 := rfl; have z := s_lcmp (a := lx23) (b := 0); omega))
  refine lv_if_eq (tgt := 42) hx hb d_18_11_5 (by decide) (fun c37 => ?_) (fun c37 => ?_)
  ·
    have b38 : q_F (a34.toInt = 0) := (q_eqI c37)
    refine lv_iconst (v := 1) hx hb d_18_11_42 (by decide) ?_
    exact q_retz C0 V (by decide) (⟨hI, hF, t0_0, t0_1, t0_2, lx24, t0_4, t0_5, t0_6, t0_7, t0_8, t0_9, t0_10, t0_11, t0_12, t0_13, hO27, (show 0 ≤ (1 : Int32).toInt from (by have z16 : (1 : Int32).toInt = 1 := rfl; omega)), (show (1 : Int32).toInt ≤ 1 from (by have z16 : (1 : Int32).toInt = 1 := rfl; omega)), (show t0_0.toInt ≤ t0_0.toInt from (by have z16 : (1 : Int32).toInt = 1 := rfl; omega)), (show t0_0.toInt ≤ t0_0.toInt from (by have z16 : (1 : Int32).toInt = 1 := rfl; omega)), (show t0_1.toInt ≤ t0_1.toInt from (by have z16 : (1 : Int32).toInt = 1 := rfl; omega)), (show t0_1.toInt ≤ t0_1.toInt from (by have z16 : (1 : Int32).toInt = 1 := rfl; omega)), (show t0_2.toInt ≤ t0_2.toInt from (by have z16 : (1 : Int32).toInt = 1 := rfl; omega)), (show t0_2.toInt ≤ t0_2.toInt from (by have z16 : (1 : Int32).toInt = 1 := rfl; omega)), (show t0_4.toInt ≤ t0_4.toInt from (by have z16 : (1 : Int32).toInt = 1 := rfl; omega)), (show t0_4.toInt ≤ t0_4.toInt from (by have z16 : (1 : Int32).toInt = 1 := rfl; omega)), (show t0_5.toInt ≤ t0_5.toInt from (by have z16 : (1 : Int32).toInt = 1 := rfl; omega)), (show t0_5.toInt ≤ t0_5.toInt from (by have z16 : (1 : Int32).toInt = 1 := rfl; omega)), (show t0_6.toInt ≤ t0_6.toInt from (by have z16 : (1 : Int32).toInt = 1 := rfl; omega)), (show t0_6.toInt ≤ t0_6.toInt from (by have z16 : (1 : Int32).toInt = 1 := rfl; omega)), (show t0_7.toInt ≤ t0_7.toInt from (by have z16 : (1 : Int32).toInt = 1 := rfl; omega)), (show t0_7.toInt ≤ t0_7.toInt from (by have z16 : (1 : Int32).toInt = 1 := rfl; omega)), (show t0_8.toInt ≤ t0_8.toInt from (by have z16 : (1 : Int32).toInt = 1 := rfl; omega)), (show t0_8.toInt ≤ t0_8.toInt from (by have z16 : (1 : Int32).toInt = 1 := rfl; omega)), (show t0_9.toInt ≤ t0_9.toInt from (by have z16 : (1 : Int32).toInt = 1 := rfl; omega)), (show t0_9.toInt ≤ t0_9.toInt from (by have z16 : (1 : Int32).toInt = 1 := rfl; omega)), (show t0_10.toInt ≤ t0_10.toInt from (by have z16 : (1 : Int32).toInt = 1 := rfl; omega)), (show t0_10.toInt ≤ t0_10.toInt from (by have z16 : (1 : Int32).toInt = 1 := rfl; omega)), (show t0_11.toInt ≤ t0_11.toInt from (by have z16 : (1 : Int32).toInt = 1 := rfl; omega)), (show t0_11.toInt ≤ t0_11.toInt from (by have z16 : (1 : Int32).toInt = 1 := rfl; omega)), (show t0_12.toInt ≤ t0_12.toInt from (by have z16 : (1 : Int32).toInt = 1 := rfl; omega)), (show t0_12.toInt ≤ t0_12.toInt from (by have z16 : (1 : Int32).toInt = 1 := rfl; omega)), (show t0_13.toInt ≤ t0_13.toInt from (by have z16 : (1 : Int32).toInt = 1 := rfl; omega)), (show t0_13.toInt ≤ t0_13.toInt from (by have z16 : (1 : Int32).toInt = 1 := rfl; omega)), (show ((1 : Int32), t0_0, t0_1, t0_2, lx24, t0_4, t0_5, t0_6, t0_7, t0_8, t0_9, t0_10, t0_11, t0_12, t0_13) = (F_TR_spells x2 t0_0 t0_1 t0_2 t0_3 t0_4 t0_5 t0_6 t0_7 t0_8 t0_9 t0_10 t0_11 t0_12 t0_13 t1_0) from Eq.trans (by have c37x := c37; rw [← e35] at c37x; rw [F_TR_spells_L2.eq_2, if_pos c37x]) hR29)⟩) d_18_11_43
  ·
    have b39 : q_F (a34.toInt ≠ 0) := (q_neI c37)
    refine lv_aload_n hx hb d_18_11_8 rfl (lv_at hl 1 rfl) ?_
    have ob40 : True ∧ S_TR_here t0_0 t0_1 t0_2 lx24 t0_4 t0_5 t0_6 t0_7 t0_8 t0_9 t0_10 t0_11 t0_12 t0_13 t1_0 := (by have h := hS30; rw [S_TR_spells_L2.eq_2] at h; have c37x := c37; rw [← e35] at c37x; rw [if_neg c37x] at h; with_reducible exact h.2.1)
    refine q_goi V (q_runV (As := []) (rest := []) (d := 1) (mc := 0) (ms := 0) (ci := 16) C0 V rfl LV_TR_35 (X_TR_here l D g q w26   hI t0_0 t0_1 t0_2 lx24 t0_4 t0_5 t0_6 t0_7 t0_8 t0_9 t0_10 t0_11 t0_12 t0_13 hO27 t1_0 hO28 ob40 _) rfl rfl hO27 rfl hl.1 rfl (Nat.le_of_ble_eq_true rfl) ⟨by decide, by decide⟩ ⟨Nat.le_of_ble_eq_true rfl, Nat.le_of_ble_eq_true rfl⟩ d_18_11_9) (fun a43 u41 H locs hp42 V => ?_)
    obtain ⟨rfl, hE44⟩ := hp42
    have e45 : a43 = (F_TR_here t0_0 t0_1 t0_2 lx24 t0_4 t0_5 t0_6 t0_7 t0_8 t0_9 t0_10 t0_11 t0_12 t0_13 t1_0) := hE44
    refine lv_i2l hx hb d_18_11_12 rfl ?_
    obtain ⟨j46, e47⟩ := q_nm (a43.toInt64 : Int64)
    refine q_tl (v := j46) e47 ?_
    have b48 : q_F (j46.toInt = a43.toInt) := (by rw [← e47]; show (a43.toInt64 : Int64).toInt = a43.toInt; exact q_i2l rfl)
    refine lv_lload_n hx hb d_18_11_13 rfl (lv_at hl 0 rfl) ?_
    refine q_ldc2 C0 rfl w_2440 d_18_11_14 ?_
    refine lv_land hx hb d_18_11_17 ?_
    obtain ⟨j49, e50⟩ := q_nm (lx23 &&& 255 : Int64)
    refine q_tl (v := j49) e50 ?_
    have b51 : q_F (0 ≤ j49.toInt ∧ j49.toInt ≤ 255) := (by rw [← e50]; show 0 ≤ (lx23 &&& 255 : Int64).toInt ∧ (lx23 &&& 255 : Int64).toInt ≤ 255; exact s_andJ (by decide))
    refine W.lcmp hx hb d_18_11_18 ?_
    obtain ⟨a52, e53⟩ := q_nm (lg_cmp j46 j49 : Int32)
    refine q_ti (v := a52) e53 ?_
    have b54 : q_F (-1 ≤ a52.toInt ∧ a52.toInt ≤ 1 ∧ ((a52.toInt = -1 ∧ j46.toInt < j49.toInt) ∨ (a52.toInt = 0 ∧ j46.toInt = j49.toInt) ∨ (a52.toInt = 1 ∧ j49.toInt < j46.toInt))) := (by rw [← e53]; show -1 ≤ (lg_cmp j46 j49 : Int32).toInt ∧ (lg_cmp j46 j49 : Int32).toInt ≤ 1 ∧ (((lg_cmp j46 j49 : Int32).toInt = -1 ∧ j46.toInt < j49.toInt) ∨ ((lg_cmp j46 j49 : Int32).toInt = 0 ∧ j46.toInt = j49.toInt) ∨ ((lg_cmp j46 j49 : Int32).toInt = 1 ∧ j49.toInt < j46.toInt)); exact s_lcmp)
    refine lv_if_eq (tgt := 24) hx hb d_18_11_19 (by decide) (fun c55 => ?_) (fun c55 => ?_)
    ·
      have b56 : q_F (a52.toInt = 0) := (q_eqI c55)
      refine lv_aload_n hx hb d_18_11_24 rfl (lv_at hl 1 rfl) ?_
      refine lv_dup hx hb d_18_11_25 rfl ?_
      refine q_get (ci := 16) (j := 4) (v := .int lx24) C0 V i_TR rfl rfl hO27 (by decide) w_2144 rfl d_18_11_26 ?_
      refine lv_iconst (v := 1) hx hb d_18_11_29 (by decide) ?_
      refine lv_iadd hx hb d_18_11_30 ?_
      obtain ⟨a57, e58⟩ := q_nm (lx24 + 1 : Int32)
      refine q_ti (v := a57) e58 ?_
      refine q_put (ci := 16) (j := 4) (v := .int a57) (ty := .int) C0 V i_TR o_TR n_TR rfl rfl hO27 (by decide) w_2144 rfl rfl rfl rfl (Nat.le_of_ble_eq_true rfl) d_18_11_31 (fun H locs w59 hu60 hO27 V => ?_)
      replace hO27 : w59[153]? = (some (q 153, .inr (16, [.int t0_0, .ref (q 154), .int t0_1, .int t0_2, .int a57, .int t0_4, .ref (q 155), .int t0_5, .int t0_6, .long t0_7, .ref (q 156), .int t0_8, .int t0_9, .long t0_10, .long t0_11, .int t0_12, .int t0_13])) : Option (Nat × va_E)) := hO27
      replace hI := n_p153 hI hu60 hO27 ⟨(by have t1 : 0 ≤ t0_1.toInt ∧ t0_1.toInt ≤ 4100 := btt0_1; omega), (by have t1 : 0 ≤ t0_1.toInt ∧ t0_1.toInt ≤ 4100 := btt0_1; omega)⟩ ⟨(by have t1 : 0 ≤ t0_4.toInt ∧ t0_4.toInt ≤ 1 := btt0_4; omega), (by have t1 : 0 ≤ t0_4.toInt ∧ t0_4.toInt ≤ 1 := btt0_4; omega)⟩ ⟨(by have t1 : 0 ≤ t0_13.toInt ∧ t0_13.toInt ≤ 1 := btt0_13; omega), (by have t1 : 0 ≤ t0_13.toInt ∧ t0_13.toInt ≤ 1 := btt0_13; omega)⟩
      replace hO28 := (hu60 _ (by decide)).trans hO28
      replace hF := q_us hF hu60 (by simp)
      refine lv_lload_n hx hb d_18_11_34 rfl (lv_at hl 0 rfl) ?_
      refine lv_bipush (v := 8) hx hb d_18_11_35 (by decide) ?_
      refine lv_lshr hx hb d_18_11_37 rfl ?_
      obtain ⟨j61, e62⟩ := q_nm (lx23 >>> ((8 : Int32).toInt64 &&& 63) : Int64)
      refine q_tl (v := j61) e62 ?_
      refine lv_lstore_n (lv' := [(3, .long j61), (0, .ref (q 153))]) hx hb d_18_11_38 rfl hl (by decide) rfl (fun ls hl => ?_)
      refine lv_goto (tgt := 2) hx hb d_18_11_39 (by decide) ?_
      exact ih25 ((fm33 : Nat), (j61 : Int64), (a57 : Int32)) _ _ _ _ (Nat.lt_succ_self _) ⟨V, q_lw hl (q_lw1 0 rfl (q_lw1 1 rfl q_lw0)), hI, hF, hO27, hO28, (show F_TR_spells_L2 x2 t0_0 t0_1 t0_2 t0_3 t0_4 t0_5 t0_6 t0_7 t0_8 t0_9 t0_10 t0_11 t0_12 t0_13 t1_0 fm33 j61 a57 = (F_TR_spells x2 t0_0 t0_1 t0_2 t0_3 t0_4 t0_5 t0_6 t0_7 t0_8 t0_9 t0_10 t0_11 t0_12 t0_13 t1_0) from Eq.trans (by have c37x := c37; rw [← e35] at c37x; have c55x := c55; rw [← e53, ← e50, ← e47, e45] at c55x; rw [← e62, ← e58, F_TR_spells_L2.eq_2, if_neg c37x, if_pos c55x]) hR29), (show True ∧ S_TR_spells_L2 x2 t0_0 t0_1 t0_2 t0_3 t0_4 t0_5 t0_6 t0_7 t0_8 t0_9 t0_10 t0_11 t0_12 t0_13 t1_0 fm33 j61 a57 from (by rw [← e62, ← e58]; have h := hS30; rw [S_TR_spells_L2.eq_2] at h; have c37x := c37; rw [← e35] at c37x; rw [if_neg c37x] at h; replace h := q_s2 h; have c55x := c55; rw [← e53, ← e50, ← e47, e45] at c55x; rw [if_pos c55x] at h; with_reducible exact h))⟩
    ·
      have b63 : q_F (a52.toInt ≠ 0) := (q_neI c55)
      refine lv_iconst (v := 0) hx hb d_18_11_22 (by decide) ?_
      exact q_retz C0 V (by decide) (⟨hI, hF, t0_0, t0_1, t0_2, lx24, t0_4, t0_5, t0_6, t0_7, t0_8, t0_9, t0_10, t0_11, t0_12, t0_13, hO27, (show 0 ≤ (0 : Int32).toInt from (by have z16 : (0 : Int32).toInt = 0 := rfl; omega)), (show (0 : Int32).toInt ≤ 1 from (by have z16 : (0 : Int32).toInt = 0 := rfl; omega)), (show t0_0.toInt ≤ t0_0.toInt from (by have z16 : (0 : Int32).toInt = 0 := rfl; omega)), (show t0_0.toInt ≤ t0_0.toInt from (by have z16 : (0 : Int32).toInt = 0 := rfl; omega)), (show t0_1.toInt ≤ t0_1.toInt from (by have z16 : (0 : Int32).toInt = 0 := rfl; omega)), (show t0_1.toInt ≤ t0_1.toInt from (by have z16 : (0 : Int32).toInt = 0 := rfl; omega)), (show t0_2.toInt ≤ t0_2.toInt from (by have z16 : (0 : Int32).toInt = 0 := rfl; omega)), (show t0_2.toInt ≤ t0_2.toInt from (by have z16 : (0 : Int32).toInt = 0 := rfl; omega)), (show t0_4.toInt ≤ t0_4.toInt from (by have z16 : (0 : Int32).toInt = 0 := rfl; omega)), (show t0_4.toInt ≤ t0_4.toInt from (by have z16 : (0 : Int32).toInt = 0 := rfl; omega)), (show t0_5.toInt ≤ t0_5.toInt from (by have z16 : (0 : Int32).toInt = 0 := rfl; omega)), (show t0_5.toInt ≤ t0_5.toInt from (by have z16 : (0 : Int32).toInt = 0 := rfl; omega)), (show t0_6.toInt ≤ t0_6.toInt from (by have z16 : (0 : Int32).toInt = 0 := rfl; omega)), (show t0_6.toInt ≤ t0_6.toInt from (by have z16 : (0 : Int32).toInt = 0 := rfl; omega)), (show t0_7.toInt ≤ t0_7.toInt from (by have z16 : (0 : Int32).toInt = 0 := rfl; omega)), (show t0_7.toInt ≤ t0_7.toInt from (by have z16 : (0 : Int32).toInt = 0 := rfl; omega)), (show t0_8.toInt ≤ t0_8.toInt from (by have z16 : (0 : Int32).toInt = 0 := rfl; omega)), (show t0_8.toInt ≤ t0_8.toInt from (by have z16 : (0 : Int32).toInt = 0 := rfl; omega)), (show t0_9.toInt ≤ t0_9.toInt from (by have z16 : (0 : Int32).toInt = 0 := rfl; omega)), (show t0_9.toInt ≤ t0_9.toInt from (by have z16 : (0 : Int32).toInt = 0 := rfl; omega)), (show t0_10.toInt ≤ t0_10.toInt from (by have z16 : (0 : Int32).toInt = 0 := rfl; omega)), (show t0_10.toInt ≤ t0_10.toInt from (by have z16 : (0 : Int32).toInt = 0 := rfl; omega)), (show t0_11.toInt ≤ t0_11.toInt from (by have z16 : (0 : Int32).toInt = 0 := rfl; omega)), (show t0_11.toInt ≤ t0_11.toInt from (by have z16 : (0 : Int32).toInt = 0 := rfl; omega)), (show t0_12.toInt ≤ t0_12.toInt from (by have z16 : (0 : Int32).toInt = 0 := rfl; omega)), (show t0_12.toInt ≤ t0_12.toInt from (by have z16 : (0 : Int32).toInt = 0 := rfl; omega)), (show t0_13.toInt ≤ t0_13.toInt from (by have z16 : (0 : Int32).toInt = 0 := rfl; omega)), (show t0_13.toInt ≤ t0_13.toInt from (by have z16 : (0 : Int32).toInt = 0 := rfl; omega)), (show ((0 : Int32), t0_0, t0_1, t0_2, lx24, t0_4, t0_5, t0_6, t0_7, t0_8, t0_9, t0_10, t0_11, t0_12, t0_13) = (F_TR_spells x2 t0_0 t0_1 t0_2 t0_3 t0_4 t0_5 t0_6 t0_7 t0_8 t0_9 t0_10 t0_11 t0_12 t0_13 t1_0) from Eq.trans (by have c37x := c37; rw [← e35] at c37x; have c55x := c55; rw [← e53, ← e50, ← e47, e45] at c55x; rw [F_TR_spells_L2.eq_2, if_neg c37x, if_neg c55x]) hR29)⟩) d_18_11_23
theorem d_18_8_0 : decode prog_18_method_8_code 0 = .ok (.iload_n 0, 1) := by decide +kernel
theorem d_18_8_1 : decode prog_18_method_8_code 1 = .ok (.bipush 48, 2) := by decide +kernel
theorem d_18_8_3 : decode prog_18_method_8_code 3 = .ok (.if_icmp .lt 13, 3) := by decide +kernel
theorem d_18_8_16 : decode prog_18_method_8_code 16 = .ok (.iconst 0, 1) := by decide +kernel
theorem d_18_8_17 : decode prog_18_method_8_code 17 = .ok (.ireturn, 1) := by decide +kernel
theorem d_18_8_6 : decode prog_18_method_8_code 6 = .ok (.iload_n 0, 1) := by decide +kernel
theorem d_18_8_7 : decode prog_18_method_8_code 7 = .ok (.bipush 57, 2) := by decide +kernel
theorem d_18_8_9 : decode prog_18_method_8_code 9 = .ok (.if_icmp .gt 7, 3) := by decide +kernel
theorem d_18_8_12 : decode prog_18_method_8_code 12 = .ok (.iconst 1, 1) := by decide +kernel
theorem d_18_8_13 : decode prog_18_method_8_code 13 = .ok (.goto 4, 3) := by decide +kernel
def y_TR_isDigit : MethodName := ⟨"NumberHouseModel$TextRows", "isDigit", "(I)Z"⟩
def F_TR_isDigit (x1 : Int32) : Int32 := if x1 < (48 : Int32) then ((0 : Int32)) else (if (57 : Int32) < x1 then ((0 : Int32)) else ((1 : Int32)))
set_option maxRecDepth 100000 in
set_option maxHeartbeats 4000000 in
theorem X_TR_isDigit (l : Launch) (D : va_G) (g : Nat → ClassId) (q : Nat → Nat) (ws : va_W) (x1 : Int32) (hI : q_I (msh g q) q ws) : q_mI l y_TR_isDigit prog_18_method_8_code 1 (.boolean) 1 0 0 D g [.int x1] ws (fun r u => ws = u ∧ (0 ≤ r.toInt) ∧ (r.toInt ≤ 1) ∧ r = (F_TR_isDigit x1)) := by
  intro sz
  refine q_into (by decide) (Nat.le_of_ble_eq_true rfl) ?_
  intro p e s m below meth c ls hsz C0 V hl
  have hx := C0.1
  have hb := C0.2.1
  have hl : lv_has ls 1 [(0, .int x1)] := hl
  refine lv_iload_n hx hb d_18_8_0 rfl (lv_at hl 0 rfl) ?_
  refine lv_bipush (v := 48) hx hb d_18_8_1 (by decide) ?_
  refine lv_icmp_lt (tgt := 16) hx hb d_18_8_3 (by decide) (fun c1 => ?_) (fun c1 => ?_)
  ·
    have b2 : q_F (x1.toInt < 48) := (q_ltI c1)
    refine lv_iconst (v := 0) hx hb d_18_8_16 (by decide) ?_
    exact q_retz C0 V (by decide) (⟨rfl, (show 0 ≤ (0 : Int32).toInt from (by have z1 : (0 : Int32).toInt = 0 := rfl; omega)), (show (0 : Int32).toInt ≤ 1 from (by have z1 : (0 : Int32).toInt = 0 := rfl; omega)), (show (0 : Int32) = (F_TR_isDigit x1) from (by rw [F_TR_isDigit.eq_1, if_pos c1]))⟩) d_18_8_17
  ·
    have b3 : q_F (48 ≤ x1.toInt) := (q_nltI c1)
    refine lv_iload_n hx hb d_18_8_6 rfl (lv_at hl 0 rfl) ?_
    refine lv_bipush (v := 57) hx hb d_18_8_7 (by decide) ?_
    refine lv_icmp_gt (tgt := 16) hx hb d_18_8_9 (by decide) (fun c4 => ?_) (fun c4 => ?_)
    ·
      have b5 : q_F (57 < x1.toInt) := (q_ltI c4)
      refine lv_iconst (v := 0) hx hb d_18_8_16 (by decide) ?_
      exact q_retz C0 V (by decide) (⟨rfl, (show 0 ≤ (0 : Int32).toInt from (by have z1 : (0 : Int32).toInt = 0 := rfl; omega)), (show (0 : Int32).toInt ≤ 1 from (by have z1 : (0 : Int32).toInt = 0 := rfl; omega)), (show (0 : Int32) = (F_TR_isDigit x1) from (by rw [F_TR_isDigit.eq_1, if_neg c1, if_pos c4]))⟩) d_18_8_17
    ·
      have b6 : q_F (x1.toInt ≤ 57) := (q_nltI c4)
      refine lv_iconst (v := 1) hx hb d_18_8_12 (by decide) ?_
      refine lv_goto (tgt := 17) hx hb d_18_8_13 (by decide) ?_
      exact q_retz C0 V (by decide) (⟨rfl, (show 0 ≤ (1 : Int32).toInt from (by have z1 : (1 : Int32).toInt = 1 := rfl; omega)), (show (1 : Int32).toInt ≤ 1 from (by have z1 : (1 : Int32).toInt = 1 := rfl; omega)), (show (1 : Int32) = (F_TR_isDigit x1) from (by rw [F_TR_isDigit.eq_1, if_neg c1, if_neg c4]))⟩) d_18_8_17
theorem d_18_9_0 : decode prog_18_method_9_code 0 = .ok (.iload_n 0, 1) := by decide +kernel
theorem d_18_9_1 : decode prog_18_method_9_code 1 = .ok (.invokestatic 31, 3) := by decide +kernel
set_option maxRecDepth 100000 in
theorem w_2455 : (Cond.code ({ cls := "NumberHouseModel$TextRows", name := "isDigit", desc := "(I)Z" } : MethodName) prog_18_method_8_code (1 : Nat) (some .boolean)) ∈ q_tbl := q_of11 55 rfl (by decide +kernel)
set_option maxRecDepth 100000 in
theorem w_2453 : (Cond.methodLink "NumberHouseModel$TextRows" (31 : Nat) ({ cls := "NumberHouseModel$TextRows", name := "isDigit", desc := "(I)Z" } : MethodName)) ∈ q_tbl := q_of11 53 rfl (by decide +kernel)
set_option maxRecDepth 100000 in
theorem w_2454 : (Cond.static ({ cls := "NumberHouseModel$TextRows", name := "isDigit", desc := "(I)Z" } : MethodName)) ∈ q_tbl := q_of11 54 rfl (by decide +kernel)
theorem LS_TR_31 : q_LS "NumberHouseModel$TextRows" 31 y_TR_isDigit prog_18_method_8_code 1 (some .boolean) 1 := ⟨w_2455, w_18, w_2453, w_2454, ⟨by decide, by decide, by decide +kernel⟩⟩
theorem d_18_9_4 : decode prog_18_method_9_code 4 = .ok (.ifCond .eq 10, 3) := by decide +kernel
theorem d_18_9_14 : decode prog_18_method_9_code 14 = .ok (.iload_n 0, 1) := by decide +kernel
theorem d_18_9_15 : decode prog_18_method_9_code 15 = .ok (.bipush 97, 2) := by decide +kernel
theorem d_18_9_36 : decode prog_18_method_9_code 36 = .ok (.iload_n 0, 1) := by decide +kernel
theorem d_18_9_37 : decode prog_18_method_9_code 37 = .ok (.bipush 65, 2) := by decide +kernel
theorem d_18_9_39 : decode prog_18_method_9_code 39 = .ok (.if_icmp .lt 19, 3) := by decide +kernel
theorem d_18_9_58 : decode prog_18_method_9_code 58 = .ok (.iconst (-1), 1) := by decide +kernel
theorem d_18_9_59 : decode prog_18_method_9_code 59 = .ok (.ireturn, 1) := by decide +kernel
theorem d_18_9_42 : decode prog_18_method_9_code 42 = .ok (.iload_n 0, 1) := by decide +kernel
theorem d_18_9_43 : decode prog_18_method_9_code 43 = .ok (.bipush 70, 2) := by decide +kernel
theorem d_18_9_45 : decode prog_18_method_9_code 45 = .ok (.if_icmp .gt 13, 3) := by decide +kernel
theorem d_18_9_48 : decode prog_18_method_9_code 48 = .ok (.iload_n 0, 1) := by decide +kernel
theorem d_18_9_49 : decode prog_18_method_9_code 49 = .ok (.bipush 65, 2) := by decide +kernel
theorem d_18_9_51 : decode prog_18_method_9_code 51 = .ok (.isub, 1) := by decide +kernel
theorem d_18_9_52 : decode prog_18_method_9_code 52 = .ok (.bipush 10, 2) := by decide +kernel
theorem d_18_9_54 : decode prog_18_method_9_code 54 = .ok (.iadd, 1) := by decide +kernel
theorem d_18_9_55 : decode prog_18_method_9_code 55 = .ok (.goto 4, 3) := by decide +kernel
theorem d_18_9_17 : decode prog_18_method_9_code 17 = .ok (.if_icmp .lt 19, 3) := by decide +kernel
theorem d_18_9_20 : decode prog_18_method_9_code 20 = .ok (.iload_n 0, 1) := by decide +kernel
theorem d_18_9_21 : decode prog_18_method_9_code 21 = .ok (.bipush 102, 2) := by decide +kernel
theorem d_18_9_23 : decode prog_18_method_9_code 23 = .ok (.if_icmp .gt 13, 3) := by decide +kernel
theorem d_18_9_26 : decode prog_18_method_9_code 26 = .ok (.iload_n 0, 1) := by decide +kernel
theorem d_18_9_27 : decode prog_18_method_9_code 27 = .ok (.bipush 97, 2) := by decide +kernel
theorem d_18_9_29 : decode prog_18_method_9_code 29 = .ok (.isub, 1) := by decide +kernel
theorem d_18_9_30 : decode prog_18_method_9_code 30 = .ok (.bipush 10, 2) := by decide +kernel
theorem d_18_9_32 : decode prog_18_method_9_code 32 = .ok (.iadd, 1) := by decide +kernel
theorem d_18_9_33 : decode prog_18_method_9_code 33 = .ok (.goto 26, 3) := by decide +kernel
theorem d_18_9_7 : decode prog_18_method_9_code 7 = .ok (.iload_n 0, 1) := by decide +kernel
theorem d_18_9_8 : decode prog_18_method_9_code 8 = .ok (.bipush 48, 2) := by decide +kernel
theorem d_18_9_10 : decode prog_18_method_9_code 10 = .ok (.isub, 1) := by decide +kernel
theorem d_18_9_11 : decode prog_18_method_9_code 11 = .ok (.goto 48, 3) := by decide +kernel
def y_TR_hex : MethodName := ⟨"NumberHouseModel$TextRows", "hex", "(I)I"⟩
def F_TR_hex_J36 (x1 : Int32) : Int32 := if x1 < (65 : Int32) then ((-1 : Int32)) else (if (70 : Int32) < x1 then ((-1 : Int32)) else (((x1 - 65 : Int32) + 10 : Int32)))
def F_TR_hex (x1 : Int32) : Int32 := if ((F_TR_isDigit x1) : Int32) = (0 : Int32) then (if x1 < (97 : Int32) then (F_TR_hex_J36 x1) else (if (102 : Int32) < x1 then (F_TR_hex_J36 x1) else (((x1 - 97 : Int32) + 10 : Int32)))) else ((x1 - 48 : Int32))
set_option maxRecDepth 100000 in
set_option maxHeartbeats 4000000 in
theorem X_TR_hex (l : Launch) (D : va_G) (g : Nat → ClassId) (q : Nat → Nat) (ws : va_W) (x1 : Int32) (hI : q_I (msh g q) q ws) : q_mI l y_TR_hex prog_18_method_9_code 1 (.int) 2 0 0 D g [.int x1] ws (fun r u => ws = u ∧ r = (F_TR_hex x1)) := by
  intro sz
  refine q_into (by decide) (Nat.le_of_ble_eq_true rfl) ?_
  intro p e s m below meth c ls hsz C0 V hl
  have hx := C0.1
  have hb := C0.2.1
  have hl : lv_has ls 1 [(0, .int x1)] := hl
  refine lv_iload_n hx hb d_18_9_0 rfl (lv_at hl 0 rfl) ?_
  refine q_goi V (q_runS (As := [.int x1]) (rest := []) (d := 1) (mc := 0) (ms := 0) C0 V rfl LS_TR_31 (X_TR_isDigit l D g q ws  x1 hI   _) rfl hl.1 rfl (Nat.le_of_ble_eq_true rfl) ⟨by decide, by decide⟩ ⟨Nat.le_of_ble_eq_true rfl, Nat.le_of_ble_eq_true rfl⟩ d_18_9_1) (fun a3 u1 H locs hp2 V => ?_)
  obtain ⟨rfl, b4, b5, hE6⟩ := hp2
  have e7 : a3 = (F_TR_isDigit x1) := hE6
  replace b4 : q_F (0 ≤ a3.toInt) := b4
  replace b5 : q_F (a3.toInt ≤ 1) := b5
  refine lv_if_eq (tgt := 14) hx hb d_18_9_4 (by decide) (fun c8 => ?_) (fun c8 => ?_)
  ·
    have b9 : q_F (a3.toInt = 0) := (q_eqI c8)
    refine lv_iload_n hx hb d_18_9_14 rfl (lv_at hl 0 rfl) ?_
    refine lv_bipush (v := 97) hx hb d_18_9_15 (by decide) ?_
    refine q_join (X := Unit) (fun z H locs ls _ => q_Wd D g (va_A ws sz) s ws H locs ∧ lv_has ls 1 [(0, .int x1)] ∧ F_TR_hex_J36 x1 = (F_TR_hex x1)) (fun z => []) 36 0 0 ?_ ?_
    ·
      rintro _ H locs ls _ ⟨V, hl, hR11⟩
      replace hl : lv_has ls 1 [(0, .int x1)] := hl
      refine lv_iload_n hx hb d_18_9_36 rfl (lv_at hl 0 rfl) ?_
      refine lv_bipush (v := 65) hx hb d_18_9_37 (by decide) ?_
      refine lv_icmp_lt (tgt := 58) hx hb d_18_9_39 (by decide) (fun c16 => ?_) (fun c16 => ?_)
      ·
        have b17 : q_F (x1.toInt < 65) := (q_ltI c16)
        refine lv_iconst (v := (-1)) hx hb d_18_9_58 (by decide) ?_
        exact q_reti C0 V (⟨rfl, (show (-1 : Int32) = (F_TR_hex x1) from Eq.trans (by rw [F_TR_hex_J36.eq_1, if_pos c16]) hR11)⟩) d_18_9_59
      ·
        have b18 : q_F (65 ≤ x1.toInt) := (q_nltI c16)
        refine lv_iload_n hx hb d_18_9_42 rfl (lv_at hl 0 rfl) ?_
        refine lv_bipush (v := 70) hx hb d_18_9_43 (by decide) ?_
        refine lv_icmp_gt (tgt := 58) hx hb d_18_9_45 (by decide) (fun c19 => ?_) (fun c19 => ?_)
        ·
          have b20 : q_F (70 < x1.toInt) := (q_ltI c19)
          refine lv_iconst (v := (-1)) hx hb d_18_9_58 (by decide) ?_
          exact q_reti C0 V (⟨rfl, (show (-1 : Int32) = (F_TR_hex x1) from Eq.trans (by rw [F_TR_hex_J36.eq_1, if_neg c16, if_pos c19]) hR11)⟩) d_18_9_59
        ·
          have b21 : q_F (x1.toInt ≤ 70) := (q_nltI c19)
          refine lv_iload_n hx hb d_18_9_48 rfl (lv_at hl 0 rfl) ?_
          refine lv_bipush (v := 65) hx hb d_18_9_49 (by decide) ?_
          refine lv_isub hx hb d_18_9_51 ?_
          obtain ⟨a22, e23⟩ := q_nm (x1 - 65 : Int32)
          refine q_ti (v := a22) e23 ?_
          have b24 : q_F (a22.toInt = x1.toInt - 65) := (by rw [← e23]; show (x1 - 65 : Int32).toInt = x1.toInt - 65; exact q_subI (x := x1.toInt) (y := 65) rfl (by decide) (by have t1 : 65 ≤ x1.toInt := b18; have t2 : x1.toInt ≤ 70 := b21; omega) (by have t1 : 65 ≤ x1.toInt := b18; have t2 : x1.toInt ≤ 70 := b21; omega))
          refine lv_bipush (v := 10) hx hb d_18_9_52 (by decide) ?_
          refine lv_iadd hx hb d_18_9_54 ?_
          obtain ⟨a25, e26⟩ := q_nm (a22 + 10 : Int32)
          refine q_ti (v := a25) e26 ?_
          have b27 : q_F (a25.toInt = a22.toInt + 10) := (by rw [← e26]; show (a22 + 10 : Int32).toInt = a22.toInt + 10; exact q_addI (x := a22.toInt) (y := 10) rfl (by decide) (by have _ := q_lo32 (x := a22); have _ := q_hi32 (x := a22); have t1 : a22.toInt = x1.toInt - 65 := b24; have _ := q_lo32 (x := x1); have _ := q_hi32 (x := x1); omega) (by have _ := q_lo32 (x := a22); have _ := q_hi32 (x := a22); have t1 : a22.toInt = x1.toInt - 65 := b24; have _ := q_lo32 (x := x1); have _ := q_hi32 (x := x1); omega))
          refine lv_goto (tgt := 59) hx hb d_18_9_55 (by decide) ?_
          exact q_reti C0 V (⟨rfl, (show a25 = (F_TR_hex x1) from Eq.trans (by rw [← e26, ← e23, F_TR_hex_J36.eq_1, if_neg c16, if_neg c19]) hR11)⟩) d_18_9_59
    ·
      intro J10
      refine lv_icmp_lt (tgt := 36) hx hb d_18_9_17 (by decide) (fun c28 => ?_) (fun c28 => ?_)
      ·
        have b29 : q_F (x1.toInt < 97) := (q_ltI c28)
        exact J10 (()) _ _ _ ws ⟨V, q_lw hl (q_lw1 0 rfl q_lw0), (show F_TR_hex_J36 x1 = (F_TR_hex x1) from (by have c8x := c8; rw [e7] at c8x; rw [F_TR_hex.eq_1, if_pos c8x, if_pos c28]))⟩
      ·
        have b30 : q_F (97 ≤ x1.toInt) := (q_nltI c28)
        refine lv_iload_n hx hb d_18_9_20 rfl (lv_at hl 0 rfl) ?_
        refine lv_bipush (v := 102) hx hb d_18_9_21 (by decide) ?_
        refine lv_icmp_gt (tgt := 36) hx hb d_18_9_23 (by decide) (fun c31 => ?_) (fun c31 => ?_)
        ·
          have b32 : q_F (102 < x1.toInt) := (q_ltI c31)
          exact J10 (()) _ _ _ ws ⟨V, q_lw hl (q_lw1 0 rfl q_lw0), (show F_TR_hex_J36 x1 = (F_TR_hex x1) from (by have c8x := c8; rw [e7] at c8x; rw [F_TR_hex.eq_1, if_pos c8x, if_neg c28, if_pos c31]))⟩
        ·
          have b33 : q_F (x1.toInt ≤ 102) := (q_nltI c31)
          refine lv_iload_n hx hb d_18_9_26 rfl (lv_at hl 0 rfl) ?_
          refine lv_bipush (v := 97) hx hb d_18_9_27 (by decide) ?_
          refine lv_isub hx hb d_18_9_29 ?_
          obtain ⟨a34, e35⟩ := q_nm (x1 - 97 : Int32)
          refine q_ti (v := a34) e35 ?_
          have b36 : q_F (a34.toInt = x1.toInt - 97) := (by rw [← e35]; show (x1 - 97 : Int32).toInt = x1.toInt - 97; exact q_subI (x := x1.toInt) (y := 97) rfl (by decide) (by have t1 : 97 ≤ x1.toInt := b30; have t2 : x1.toInt ≤ 102 := b33; omega) (by have t1 : 97 ≤ x1.toInt := b30; have t2 : x1.toInt ≤ 102 := b33; omega))
          refine lv_bipush (v := 10) hx hb d_18_9_30 (by decide) ?_
          refine lv_iadd hx hb d_18_9_32 ?_
          obtain ⟨a37, e38⟩ := q_nm (a34 + 10 : Int32)
          refine q_ti (v := a37) e38 ?_
          have b39 : q_F (a37.toInt = a34.toInt + 10) := (by rw [← e38]; show (a34 + 10 : Int32).toInt = a34.toInt + 10; exact q_addI (x := a34.toInt) (y := 10) rfl (by decide) (by have _ := q_lo32 (x := a34); have _ := q_hi32 (x := a34); have t1 : a34.toInt = x1.toInt - 97 := b36; have _ := q_lo32 (x := x1); have _ := q_hi32 (x := x1); omega) (by have _ := q_lo32 (x := a34); have _ := q_hi32 (x := a34); have t1 : a34.toInt = x1.toInt - 97 := b36; have _ := q_lo32 (x := x1); have _ := q_hi32 (x := x1); omega))
          refine lv_goto (tgt := 59) hx hb d_18_9_33 (by decide) ?_
          exact q_reti C0 V (⟨rfl, (show a37 = (F_TR_hex x1) from (by have c8x := c8; rw [e7] at c8x; rw [← e38, ← e35, F_TR_hex.eq_1, if_pos c8x, if_neg c28, if_neg c31]))⟩) d_18_9_59
  ·
    have b40 : q_F (a3.toInt ≠ 0) := (q_neI c8)
    refine lv_iload_n hx hb d_18_9_7 rfl (lv_at hl 0 rfl) ?_
    refine lv_bipush (v := 48) hx hb d_18_9_8 (by decide) ?_
    refine lv_isub hx hb d_18_9_10 ?_
    obtain ⟨a41, e42⟩ := q_nm (x1 - 48 : Int32)
    refine q_ti (v := a41) e42 ?_
    refine lv_goto (tgt := 59) hx hb d_18_9_11 (by decide) ?_
    exact q_reti C0 V (⟨rfl, (show a41 = (F_TR_hex x1) from (by have c8x := c8; rw [e7] at c8x; rw [← e42, F_TR_hex.eq_1, if_neg c8x]))⟩) d_18_9_59
theorem d_18_12_0 : decode prog_18_method_12_code 0 = .ok (.aload_n 0, 1) := by decide +kernel
theorem d_18_12_1 : decode prog_18_method_12_code 1 = .ok (.iconst 0, 1) := by decide +kernel
theorem d_18_12_2 : decode prog_18_method_12_code 2 = .ok (.putfield 39, 3) := by decide +kernel
set_option maxRecDepth 100000 in
theorem w_2147 : (Cond.fieldLink "NumberHouseModel$TextRows" (39 : Nat) "NumberHouseModel$TextRows" "many" "I") ∈ q_tbl := q_of9 227 rfl (by decide +kernel)
theorem d_18_12_5 : decode prog_18_method_12_code 5 = .ok (.aload_n 0, 1) := by decide +kernel
theorem d_18_12_6 : decode prog_18_method_12_code 6 = .ok (.iconst (-1), 1) := by decide +kernel
theorem d_18_12_7 : decode prog_18_method_12_code 7 = .ok (.putfield 42, 3) := by decide +kernel
set_option maxRecDepth 100000 in
theorem w_2148 : (Cond.fieldLink "NumberHouseModel$TextRows" (42 : Nat) "NumberHouseModel$TextRows" "point" "I") ∈ q_tbl := q_of9 228 rfl (by decide +kernel)
theorem d_18_12_10 : decode prog_18_method_12_code 10 = .ok (.iload_n 1, 1) := by decide +kernel
theorem d_18_12_45 : decode prog_18_method_12_code 45 = .ok (.istore_n 2, 1) := by decide +kernel
theorem d_18_12_46 : decode prog_18_method_12_code 46 = .ok (.iload_n 2, 1) := by decide +kernel
theorem d_18_12_47 : decode prog_18_method_12_code 47 = .ok (.ifCond .lt 26, 3) := by decide +kernel
theorem d_18_12_73 : decode prog_18_method_12_code 73 = .ok (.aload_n 0, 1) := by decide +kernel
theorem d_18_12_74 : decode prog_18_method_12_code 74 = .ok (.invokevirtual 35, 3) := by decide +kernel
theorem d_18_12_77 : decode prog_18_method_12_code 77 = .ok (.bipush 46, 2) := by decide +kernel
theorem d_18_12_100 : decode prog_18_method_12_code 100 = .ok (.aload_n 0, 1) := by decide +kernel
theorem d_18_12_101 : decode prog_18_method_12_code 101 = .ok (.aload_n 0, 1) := by decide +kernel
theorem d_18_12_102 : decode prog_18_method_12_code 102 = .ok (.getfield 42, 3) := by decide +kernel
theorem d_18_12_105 : decode prog_18_method_12_code 105 = .ok (.ifCond .ge 10, 3) := by decide +kernel
theorem d_18_12_115 : decode prog_18_method_12_code 115 = .ok (.aload_n 0, 1) := by decide +kernel
theorem d_18_12_116 : decode prog_18_method_12_code 116 = .ok (.getfield 42, 3) := by decide +kernel
theorem d_18_12_119 : decode prog_18_method_12_code 119 = .ok (.putfield 42, 3) := by decide +kernel
theorem d_18_12_122 : decode prog_18_method_12_code 122 = .ok (.aload_n 0, 1) := by decide +kernel
theorem d_18_12_123 : decode prog_18_method_12_code 123 = .ok (.getfield 39, 3) := by decide +kernel
theorem d_18_12_126 : decode prog_18_method_12_code 126 = .ok (.ifCond .le 7, 3) := by decide +kernel
theorem d_18_12_133 : decode prog_18_method_12_code 133 = .ok (.iconst 0, 1) := by decide +kernel
theorem d_18_12_134 : decode prog_18_method_12_code 134 = .ok (.ireturn, 1) := by decide +kernel
theorem d_18_12_129 : decode prog_18_method_12_code 129 = .ok (.iconst 1, 1) := by decide +kernel
theorem d_18_12_130 : decode prog_18_method_12_code 130 = .ok (.goto 4, 3) := by decide +kernel
theorem d_18_12_108 : decode prog_18_method_12_code 108 = .ok (.aload_n 0, 1) := by decide +kernel
theorem d_18_12_109 : decode prog_18_method_12_code 109 = .ok (.getfield 39, 3) := by decide +kernel
theorem d_18_12_112 : decode prog_18_method_12_code 112 = .ok (.goto 7, 3) := by decide +kernel
theorem d_18_12_79 : decode prog_18_method_12_code 79 = .ok (.if_icmp .ne 21, 3) := by decide +kernel
theorem d_18_12_82 : decode prog_18_method_12_code 82 = .ok (.aload_n 0, 1) := by decide +kernel
theorem d_18_12_83 : decode prog_18_method_12_code 83 = .ok (.getfield 42, 3) := by decide +kernel
theorem d_18_12_86 : decode prog_18_method_12_code 86 = .ok (.ifCond .ge 14, 3) := by decide +kernel
theorem d_18_12_89 : decode prog_18_method_12_code 89 = .ok (.aload_n 0, 1) := by decide +kernel
theorem d_18_12_90 : decode prog_18_method_12_code 90 = .ok (.aload_n 0, 1) := by decide +kernel
theorem d_18_12_91 : decode prog_18_method_12_code 91 = .ok (.getfield 39, 3) := by decide +kernel
theorem d_18_12_94 : decode prog_18_method_12_code 94 = .ok (.putfield 42, 3) := by decide +kernel
theorem d_18_12_97 : decode prog_18_method_12_code 97 = .ok (.goto 38, 3) := by decide +kernel
theorem d_18_12_135 : decode prog_18_method_12_code 135 = .ok (.aload_n 0, 1) := by decide +kernel
theorem d_18_12_136 : decode prog_18_method_12_code 136 = .ok (.dup, 1) := by decide +kernel
theorem d_18_12_137 : decode prog_18_method_12_code 137 = .ok (.getfield 28, 3) := by decide +kernel
theorem d_18_12_140 : decode prog_18_method_12_code 140 = .ok (.iconst 1, 1) := by decide +kernel
theorem d_18_12_141 : decode prog_18_method_12_code 141 = .ok (.iadd, 1) := by decide +kernel
theorem d_18_12_142 : decode prog_18_method_12_code 142 = .ok (.putfield 28, 3) := by decide +kernel
theorem d_18_12_145 : decode prog_18_method_12_code 145 = .ok (.goto (-135), 3) := by decide +kernel
theorem d_18_12_50 : decode prog_18_method_12_code 50 = .ok (.aload_n 0, 1) := by decide +kernel
theorem d_18_12_51 : decode prog_18_method_12_code 51 = .ok (.getfield 13, 3) := by decide +kernel
theorem d_18_12_54 : decode prog_18_method_12_code 54 = .ok (.aload_n 0, 1) := by decide +kernel
theorem d_18_12_55 : decode prog_18_method_12_code 55 = .ok (.getfield 39, 3) := by decide +kernel
theorem d_18_12_58 : decode prog_18_method_12_code 58 = .ok (.iload_n 2, 1) := by decide +kernel
theorem d_18_12_59 : decode prog_18_method_12_code 59 = .ok (.iastore, 1) := by decide +kernel
theorem d_18_12_60 : decode prog_18_method_12_code 60 = .ok (.aload_n 0, 1) := by decide +kernel
theorem d_18_12_61 : decode prog_18_method_12_code 61 = .ok (.dup, 1) := by decide +kernel
theorem d_18_12_62 : decode prog_18_method_12_code 62 = .ok (.getfield 39, 3) := by decide +kernel
theorem d_18_12_65 : decode prog_18_method_12_code 65 = .ok (.iconst 1, 1) := by decide +kernel
theorem d_18_12_66 : decode prog_18_method_12_code 66 = .ok (.iadd, 1) := by decide +kernel
theorem d_18_12_67 : decode prog_18_method_12_code 67 = .ok (.putfield 39, 3) := by decide +kernel
theorem d_18_12_70 : decode prog_18_method_12_code 70 = .ok (.goto 65, 3) := by decide +kernel
theorem d_18_12_11 : decode prog_18_method_12_code 11 = .ok (.ifCond .eq 13, 3) := by decide +kernel
theorem d_18_12_24 : decode prog_18_method_12_code 24 = .ok (.aload_n 0, 1) := by decide +kernel
theorem d_18_12_25 : decode prog_18_method_12_code 25 = .ok (.invokevirtual 35, 3) := by decide +kernel
theorem d_18_12_28 : decode prog_18_method_12_code 28 = .ok (.invokestatic 31, 3) := by decide +kernel
theorem d_18_12_31 : decode prog_18_method_12_code 31 = .ok (.ifCond .eq 13, 3) := by decide +kernel
theorem d_18_12_44 : decode prog_18_method_12_code 44 = .ok (.iconst (-1), 1) := by decide +kernel
theorem d_18_12_34 : decode prog_18_method_12_code 34 = .ok (.aload_n 0, 1) := by decide +kernel
theorem d_18_12_35 : decode prog_18_method_12_code 35 = .ok (.invokevirtual 35, 3) := by decide +kernel
theorem d_18_12_38 : decode prog_18_method_12_code 38 = .ok (.bipush 48, 2) := by decide +kernel
theorem d_18_12_40 : decode prog_18_method_12_code 40 = .ok (.isub, 1) := by decide +kernel
theorem d_18_12_41 : decode prog_18_method_12_code 41 = .ok (.goto 4, 3) := by decide +kernel
theorem d_18_12_14 : decode prog_18_method_12_code 14 = .ok (.aload_n 0, 1) := by decide +kernel
theorem d_18_12_15 : decode prog_18_method_12_code 15 = .ok (.invokevirtual 35, 3) := by decide +kernel
theorem d_18_12_18 : decode prog_18_method_12_code 18 = .ok (.invokestatic 45, 3) := by decide +kernel
set_option maxRecDepth 100000 in
theorem w_2452 : (Cond.code ({ cls := "NumberHouseModel$TextRows", name := "hex", desc := "(I)I" } : MethodName) prog_18_method_9_code (1 : Nat) (some .int)) ∈ q_tbl := q_of11 52 rfl (by decide +kernel)
set_option maxRecDepth 100000 in
theorem w_2450 : (Cond.methodLink "NumberHouseModel$TextRows" (45 : Nat) ({ cls := "NumberHouseModel$TextRows", name := "hex", desc := "(I)I" } : MethodName)) ∈ q_tbl := q_of11 50 rfl (by decide +kernel)
set_option maxRecDepth 100000 in
theorem w_2451 : (Cond.static ({ cls := "NumberHouseModel$TextRows", name := "hex", desc := "(I)I" } : MethodName)) ∈ q_tbl := q_of11 51 rfl (by decide +kernel)
theorem LS_TR_45 : q_LS "NumberHouseModel$TextRows" 45 y_TR_hex prog_18_method_9_code 1 (some .int) 1 := ⟨w_2452, w_18, w_2450, w_2451, ⟨by decide, by decide, by decide +kernel⟩⟩
theorem d_18_12_21 : decode prog_18_method_12_code 21 = .ok (.goto 24, 3) := by decide +kernel
def y_TR_digits : MethodName := ⟨"NumberHouseModel$TextRows", "digits", "(Z)Z"⟩
def F_TR_digits_J100 (K_F_TR_digits_L10 : Int32 → Int32 → Int32 → (Nat → Int32) → (Int32 × Int32 × Int32 × Int32 × Int32 × Int32 × Int32 × Int32 × Int64 × Int32 × Int32 × Int64 × Int64 × Int32 × Int32 × (Nat → Int32))) (x2 : Int32) (t0_0 : Int32) (t0_1 : Int32) (t0_2 : Int32) (t0_3 : Int32) (t0_4 : Int32) (t0_5 : Int32) (t0_6 : Int32) (t0_7 : Int64) (t0_8 : Int32) (t0_9 : Int32) (t0_10 : Int64) (t0_11 : Int64) (t0_12 : Int32) (t0_13 : Int32) (t1_0 : (Nat → Int32)) (t2_0 : (Nat → Int32)) (lx29 : Int32) (lx30 : Int32) (lx31 : Int32) (lx32 : (Nat → Int32)) (lx47 : Int32) : Int32 × Int32 × Int32 × Int32 × Int32 × Int32 × Int32 × Int32 × Int64 × Int32 × Int32 × Int64 × Int64 × Int32 × Int32 × (Nat → Int32) := if (0 : Int32) ≤ lx30 then (if lx31 ≤ (0 : Int32) then (((0 : Int32), t0_0, t0_1, t0_2, lx29, t0_4, lx31, lx30, t0_7, t0_8, t0_9, t0_10, t0_11, t0_12, t0_13, lx32)) else (((1 : Int32), t0_0, t0_1, t0_2, lx29, t0_4, lx31, lx30, t0_7, t0_8, t0_9, t0_10, t0_11, t0_12, t0_13, lx32))) else (if lx31 ≤ (0 : Int32) then (((0 : Int32), t0_0, t0_1, t0_2, lx29, t0_4, lx31, lx31, t0_7, t0_8, t0_9, t0_10, t0_11, t0_12, t0_13, lx32)) else (((1 : Int32), t0_0, t0_1, t0_2, lx29, t0_4, lx31, lx31, t0_7, t0_8, t0_9, t0_10, t0_11, t0_12, t0_13, lx32)))
def F_TR_digits_J45 (K_F_TR_digits_L10 : Int32 → Int32 → Int32 → (Nat → Int32) → (Int32 × Int32 × Int32 × Int32 × Int32 × Int32 × Int32 × Int32 × Int64 × Int32 × Int32 × Int64 × Int64 × Int32 × Int32 × (Nat → Int32))) (x2 : Int32) (t0_0 : Int32) (t0_1 : Int32) (t0_2 : Int32) (t0_3 : Int32) (t0_4 : Int32) (t0_5 : Int32) (t0_6 : Int32) (t0_7 : Int64) (t0_8 : Int32) (t0_9 : Int32) (t0_10 : Int64) (t0_11 : Int64) (t0_12 : Int32) (t0_13 : Int32) (t1_0 : (Nat → Int32)) (t2_0 : (Nat → Int32)) (lx29 : Int32) (lx30 : Int32) (lx31 : Int32) (lx32 : (Nat → Int32)) (lx47 : Int32) : Int32 × Int32 × Int32 × Int32 × Int32 × Int32 × Int32 × Int32 × Int64 × Int32 × Int32 × Int64 × Int64 × Int32 × Int32 × (Nat → Int32) := if lx47 < (0 : Int32) then (if ((F_TR_here t0_0 t0_1 t0_2 lx29 t0_4 lx31 lx30 t0_7 t0_8 t0_9 t0_10 t0_11 t0_12 t0_13 t1_0) : Int32) = (46 : Int32) then (if (0 : Int32) ≤ lx30 then (F_TR_digits_J100 K_F_TR_digits_L10 x2 t0_0 t0_1 t0_2 t0_3 t0_4 t0_5 t0_6 t0_7 t0_8 t0_9 t0_10 t0_11 t0_12 t0_13 t1_0 t2_0 lx29 lx30 lx31 lx32 lx47) else (K_F_TR_digits_L10 (lx29 + 1 : Int32) lx31 lx31 lx32)) else (F_TR_digits_J100 K_F_TR_digits_L10 x2 t0_0 t0_1 t0_2 t0_3 t0_4 t0_5 t0_6 t0_7 t0_8 t0_9 t0_10 t0_11 t0_12 t0_13 t1_0 t2_0 lx29 lx30 lx31 lx32 lx47)) else (K_F_TR_digits_L10 (lx29 + 1 : Int32) lx30 (lx31 + 1 : Int32) (upd lx32 lx31.toNatClampNeg lx47 : (Nat → Int32)))
def F_TR_digits_L10 (x2 : Int32) (t0_0 : Int32) (t0_1 : Int32) (t0_2 : Int32) (t0_3 : Int32) (t0_4 : Int32) (t0_5 : Int32) (t0_6 : Int32) (t0_7 : Int64) (t0_8 : Int32) (t0_9 : Int32) (t0_10 : Int64) (t0_11 : Int64) (t0_12 : Int32) (t0_13 : Int32) (t1_0 : (Nat → Int32)) (t2_0 : (Nat → Int32)) : Nat → Int32 → Int32 → Int32 → (Nat → Int32) → (Int32 × Int32 × Int32 × Int32 × Int32 × Int32 × Int32 × Int32 × Int64 × Int32 × Int32 × Int64 × Int64 × Int32 × Int32 × (Nat → Int32))
  | 0, _, _, _, _ => default
  | fm + 1, lx29, lx30, lx31, lx32 => if x2 = (0 : Int32) then (if ((F_TR_isDigit ((F_TR_here t0_0 t0_1 t0_2 lx29 t0_4 lx31 lx30 t0_7 t0_8 t0_9 t0_10 t0_11 t0_12 t0_13 t1_0) : Int32)) : Int32) = (0 : Int32) then (F_TR_digits_J45 (F_TR_digits_L10 x2 t0_0 t0_1 t0_2 t0_3 t0_4 t0_5 t0_6 t0_7 t0_8 t0_9 t0_10 t0_11 t0_12 t0_13 t1_0 t2_0 fm) x2 t0_0 t0_1 t0_2 t0_3 t0_4 t0_5 t0_6 t0_7 t0_8 t0_9 t0_10 t0_11 t0_12 t0_13 t1_0 t2_0 lx29 lx30 lx31 lx32 (-1)) else (F_TR_digits_J45 (F_TR_digits_L10 x2 t0_0 t0_1 t0_2 t0_3 t0_4 t0_5 t0_6 t0_7 t0_8 t0_9 t0_10 t0_11 t0_12 t0_13 t1_0 t2_0 fm) x2 t0_0 t0_1 t0_2 t0_3 t0_4 t0_5 t0_6 t0_7 t0_8 t0_9 t0_10 t0_11 t0_12 t0_13 t1_0 t2_0 lx29 lx30 lx31 lx32 (((F_TR_here t0_0 t0_1 t0_2 lx29 t0_4 lx31 lx30 t0_7 t0_8 t0_9 t0_10 t0_11 t0_12 t0_13 t1_0) : Int32) - 48 : Int32))) else (F_TR_digits_J45 (F_TR_digits_L10 x2 t0_0 t0_1 t0_2 t0_3 t0_4 t0_5 t0_6 t0_7 t0_8 t0_9 t0_10 t0_11 t0_12 t0_13 t1_0 t2_0 fm) x2 t0_0 t0_1 t0_2 t0_3 t0_4 t0_5 t0_6 t0_7 t0_8 t0_9 t0_10 t0_11 t0_12 t0_13 t1_0 t2_0 lx29 lx30 lx31 lx32 ((F_TR_hex ((F_TR_here t0_0 t0_1 t0_2 lx29 t0_4 lx31 lx30 t0_7 t0_8 t0_9 t0_10 t0_11 t0_12 t0_13 t1_0) : Int32)) : Int32))
def F_TR_digits (x2 : Int32) (t0_0 : Int32) (t0_1 : Int32) (t0_2 : Int32) (t0_3 : Int32) (t0_4 : Int32) (t0_5 : Int32) (t0_6 : Int32) (t0_7 : Int64) (t0_8 : Int32) (t0_9 : Int32) (t0_10 : Int64) (t0_11 : Int64) (t0_12 : Int32) (t0_13 : Int32) (t1_0 : (Nat → Int32)) (t2_0 : (Nat → Int32)) : Int32 × Int32 × Int32 × Int32 × Int32 × Int32 × Int32 × Int32 × Int64 × Int32 × Int32 × Int64 × Int64 × Int32 × Int32 × (Nat → Int32) := F_TR_digits_L10 x2 t0_0 t0_1 t0_2 t0_3 t0_4 t0_5 t0_6 t0_7 t0_8 t0_9 t0_10 t0_11 t0_12 t0_13 t1_0 t2_0 1000000 t0_3 (-1) 0 t2_0
def S_TR_digits_J100 (K_S_TR_digits_L10 : Int32 → Int32 → Int32 → (Nat → Int32) → Prop) (x2 : Int32) (t0_0 : Int32) (t0_1 : Int32) (t0_2 : Int32) (t0_3 : Int32) (t0_4 : Int32) (t0_5 : Int32) (t0_6 : Int32) (t0_7 : Int64) (t0_8 : Int32) (t0_9 : Int32) (t0_10 : Int64) (t0_11 : Int64) (t0_12 : Int32) (t0_13 : Int32) (t1_0 : (Nat → Int32)) (t2_0 : (Nat → Int32)) (lx29 : Int32) (lx30 : Int32) (lx31 : Int32) (lx32 : (Nat → Int32)) (lx47 : Int32) : Prop := if (0 : Int32) ≤ lx30 then (if lx31 ≤ (0 : Int32) then (True) else (True)) else (if lx31 ≤ (0 : Int32) then (True) else (True))
def S_TR_digits_J45 (K_S_TR_digits_L10 : Int32 → Int32 → Int32 → (Nat → Int32) → Prop) (x2 : Int32) (t0_0 : Int32) (t0_1 : Int32) (t0_2 : Int32) (t0_3 : Int32) (t0_4 : Int32) (t0_5 : Int32) (t0_6 : Int32) (t0_7 : Int64) (t0_8 : Int32) (t0_9 : Int32) (t0_10 : Int64) (t0_11 : Int64) (t0_12 : Int32) (t0_13 : Int32) (t1_0 : (Nat → Int32)) (t2_0 : (Nat → Int32)) (lx29 : Int32) (lx30 : Int32) (lx31 : Int32) (lx32 : (Nat → Int32)) (lx47 : Int32) : Prop := if lx47 < (0 : Int32) then ((True ∧ S_TR_here t0_0 t0_1 t0_2 lx29 t0_4 lx31 lx30 t0_7 t0_8 t0_9 t0_10 t0_11 t0_12 t0_13 t1_0) ∧ (if ((F_TR_here t0_0 t0_1 t0_2 lx29 t0_4 lx31 lx30 t0_7 t0_8 t0_9 t0_10 t0_11 t0_12 t0_13 t1_0) : Int32) = (46 : Int32) then (if (0 : Int32) ≤ lx30 then (S_TR_digits_J100 K_S_TR_digits_L10 x2 t0_0 t0_1 t0_2 t0_3 t0_4 t0_5 t0_6 t0_7 t0_8 t0_9 t0_10 t0_11 t0_12 t0_13 t1_0 t2_0 lx29 lx30 lx31 lx32 lx47) else (K_S_TR_digits_L10 (lx29 + 1 : Int32) lx31 lx31 lx32)) else (S_TR_digits_J100 K_S_TR_digits_L10 x2 t0_0 t0_1 t0_2 t0_3 t0_4 t0_5 t0_6 t0_7 t0_8 t0_9 t0_10 t0_11 t0_12 t0_13 t1_0 t2_0 lx29 lx30 lx31 lx32 lx47))) else ((lx31.toInt ≤ 4099) ∧ (K_S_TR_digits_L10 (lx29 + 1 : Int32) lx30 (lx31 + 1 : Int32) (upd lx32 lx31.toNatClampNeg lx47 : (Nat → Int32))))
def S_TR_digits_L10 (x2 : Int32) (t0_0 : Int32) (t0_1 : Int32) (t0_2 : Int32) (t0_3 : Int32) (t0_4 : Int32) (t0_5 : Int32) (t0_6 : Int32) (t0_7 : Int64) (t0_8 : Int32) (t0_9 : Int32) (t0_10 : Int64) (t0_11 : Int64) (t0_12 : Int32) (t0_13 : Int32) (t1_0 : (Nat → Int32)) (t2_0 : (Nat → Int32)) : Nat → Int32 → Int32 → Int32 → (Nat → Int32) → Prop
  | 0, _, _, _, _ => False
  | fm + 1, lx29, lx30, lx31, lx32 => if x2 = (0 : Int32) then ((True ∧ S_TR_here t0_0 t0_1 t0_2 lx29 t0_4 lx31 lx30 t0_7 t0_8 t0_9 t0_10 t0_11 t0_12 t0_13 t1_0) ∧ (if ((F_TR_isDigit ((F_TR_here t0_0 t0_1 t0_2 lx29 t0_4 lx31 lx30 t0_7 t0_8 t0_9 t0_10 t0_11 t0_12 t0_13 t1_0) : Int32)) : Int32) = (0 : Int32) then (S_TR_digits_J45 (S_TR_digits_L10 x2 t0_0 t0_1 t0_2 t0_3 t0_4 t0_5 t0_6 t0_7 t0_8 t0_9 t0_10 t0_11 t0_12 t0_13 t1_0 t2_0 fm) x2 t0_0 t0_1 t0_2 t0_3 t0_4 t0_5 t0_6 t0_7 t0_8 t0_9 t0_10 t0_11 t0_12 t0_13 t1_0 t2_0 lx29 lx30 lx31 lx32 (-1)) else ((True ∧ S_TR_here t0_0 t0_1 t0_2 lx29 t0_4 lx31 lx30 t0_7 t0_8 t0_9 t0_10 t0_11 t0_12 t0_13 t1_0) ∧ (S_TR_digits_J45 (S_TR_digits_L10 x2 t0_0 t0_1 t0_2 t0_3 t0_4 t0_5 t0_6 t0_7 t0_8 t0_9 t0_10 t0_11 t0_12 t0_13 t1_0 t2_0 fm) x2 t0_0 t0_1 t0_2 t0_3 t0_4 t0_5 t0_6 t0_7 t0_8 t0_9 t0_10 t0_11 t0_12 t0_13 t1_0 t2_0 lx29 lx30 lx31 lx32 (((F_TR_here t0_0 t0_1 t0_2 lx29 t0_4 lx31 lx30 t0_7 t0_8 t0_9 t0_10 t0_11 t0_12 t0_13 t1_0) : Int32) - 48 : Int32))))) else ((True ∧ S_TR_here t0_0 t0_1 t0_2 lx29 t0_4 lx31 lx30 t0_7 t0_8 t0_9 t0_10 t0_11 t0_12 t0_13 t1_0) ∧ (S_TR_digits_J45 (S_TR_digits_L10 x2 t0_0 t0_1 t0_2 t0_3 t0_4 t0_5 t0_6 t0_7 t0_8 t0_9 t0_10 t0_11 t0_12 t0_13 t1_0 t2_0 fm) x2 t0_0 t0_1 t0_2 t0_3 t0_4 t0_5 t0_6 t0_7 t0_8 t0_9 t0_10 t0_11 t0_12 t0_13 t1_0 t2_0 lx29 lx30 lx31 lx32 ((F_TR_hex ((F_TR_here t0_0 t0_1 t0_2 lx29 t0_4 lx31 lx30 t0_7 t0_8 t0_9 t0_10 t0_11 t0_12 t0_13 t1_0) : Int32)) : Int32)))
def S_TR_digits (x2 : Int32) (t0_0 : Int32) (t0_1 : Int32) (t0_2 : Int32) (t0_3 : Int32) (t0_4 : Int32) (t0_5 : Int32) (t0_6 : Int32) (t0_7 : Int64) (t0_8 : Int32) (t0_9 : Int32) (t0_10 : Int64) (t0_11 : Int64) (t0_12 : Int32) (t0_13 : Int32) (t1_0 : (Nat → Int32)) (t2_0 : (Nat → Int32)) : Prop := S_TR_digits_L10 x2 t0_0 t0_1 t0_2 t0_3 t0_4 t0_5 t0_6 t0_7 t0_8 t0_9 t0_10 t0_11 t0_12 t0_13 t1_0 t2_0 1000000 t0_3 (-1) 0 t2_0
set_option maxRecDepth 100000 in
set_option maxHeartbeats 4000000 in
theorem X_TR_digits (l : Launch) (D : va_G) (g : Nat → ClassId) (q : Nat → Nat) (ws : va_W) (x2 : Int32) (hI : q_I (msh g q) q ws) (t0_0 : Int32) (t0_1 : Int32) (t0_2 : Int32) (t0_3 : Int32) (t0_4 : Int32) (t0_5 : Int32) (t0_6 : Int32) (t0_7 : Int64) (t0_8 : Int32) (t0_9 : Int32) (t0_10 : Int64) (t0_11 : Int64) (t0_12 : Int32) (t0_13 : Int32) (hT0 : ws[153]? = (some (q 153, .inr (16, [.int t0_0, .ref (q 154), .int t0_1, .int t0_2, .int t0_3, .int t0_4, .ref (q 155), .int t0_5, .int t0_6, .long t0_7, .ref (q 156), .int t0_8, .int t0_9, .long t0_10, .long t0_11, .int t0_12, .int t0_13])) : Option (Nat × va_E))) (t1_0 : (Nat → Int32)) (hT1 : ws[154]? = (some (q 154, .inl (g 0, (4100 : Int32).toNatClampNeg, .inl t1_0)) : Option (Nat × va_E))) (t2_0 : (Nat → Int32)) (hT2 : ws[155]? = (some (q 155, .inl (g 0, (4100 : Int32).toNatClampNeg, .inl t2_0)) : Option (Nat × va_E))) (hzx2 : 0 ≤ x2.toInt ∧ x2.toInt ≤ 1) (hS : True ∧ S_TR_digits x2 t0_0 t0_1 t0_2 t0_3 t0_4 t0_5 t0_6 t0_7 t0_8 t0_9 t0_10 t0_11 t0_12 t0_13 t1_0 t2_0) : q_mI l y_TR_digits prog_18_method_12_code 3 (.boolean) 3 0 0 D g [.ref (q 153), .int x2] ws (fun r u => q_I (msh g q) q u ∧ q_un ws u [153, 155] ∧ ∃ (u0_0 : Int32) (u0_1 : Int32) (u0_2 : Int32) (u0_3 : Int32) (u0_4 : Int32) (u0_5 : Int32) (u0_6 : Int32) (u0_7 : Int64) (u0_8 : Int32) (u0_9 : Int32) (u0_10 : Int64) (u0_11 : Int64) (u0_12 : Int32) (u0_13 : Int32) (u2_0 : (Nat → Int32)), u[153]? = (some (q 153, .inr (16, [.int u0_0, .ref (q 154), .int u0_1, .int u0_2, .int u0_3, .int u0_4, .ref (q 155), .int u0_5, .int u0_6, .long u0_7, .ref (q 156), .int u0_8, .int u0_9, .long u0_10, .long u0_11, .int u0_12, .int u0_13])) : Option (Nat × va_E)) ∧ u[155]? = (some (q 155, .inl (g 0, (4100 : Int32).toNatClampNeg, .inl u2_0)) : Option (Nat × va_E)) ∧ (0 ≤ r.toInt) ∧ (r.toInt ≤ 1) ∧ (0 ≤ u0_6.toInt) ∧ (u0_6.toInt ≤ 4100) ∧ (t0_0.toInt ≤ u0_0.toInt) ∧ (u0_0.toInt ≤ t0_0.toInt) ∧ (t0_1.toInt ≤ u0_1.toInt) ∧ (u0_1.toInt ≤ t0_1.toInt) ∧ (t0_2.toInt ≤ u0_2.toInt) ∧ (u0_2.toInt ≤ t0_2.toInt) ∧ (t0_4.toInt ≤ u0_4.toInt) ∧ (u0_4.toInt ≤ t0_4.toInt) ∧ (t0_7.toInt ≤ u0_7.toInt) ∧ (u0_7.toInt ≤ t0_7.toInt) ∧ (t0_8.toInt ≤ u0_8.toInt) ∧ (u0_8.toInt ≤ t0_8.toInt) ∧ (t0_9.toInt ≤ u0_9.toInt) ∧ (u0_9.toInt ≤ t0_9.toInt) ∧ (t0_10.toInt ≤ u0_10.toInt) ∧ (u0_10.toInt ≤ t0_10.toInt) ∧ (t0_11.toInt ≤ u0_11.toInt) ∧ (u0_11.toInt ≤ t0_11.toInt) ∧ (t0_12.toInt ≤ u0_12.toInt) ∧ (u0_12.toInt ≤ t0_12.toInt) ∧ (t0_13.toInt ≤ u0_13.toInt) ∧ (u0_13.toInt ≤ t0_13.toInt) ∧ (u0_5.toInt ≤ r.toInt + 4099) ∧ (r.toInt ≤ u0_5.toInt) ∧ (r, u0_0, u0_1, u0_2, u0_3, u0_4, u0_5, u0_6, u0_7, u0_8, u0_9, u0_10, u0_11, u0_12, u0_13, u2_0) = (F_TR_digits x2 t0_0 t0_1 t0_2 t0_3 t0_4 t0_5 t0_6 t0_7 t0_8 t0_9 t0_10 t0_11 t0_12 t0_13 t1_0 t2_0)) := by
  intro sz
  refine q_into (by decide) (Nat.le_of_ble_eq_true rfl) ?_
  intro p e s m below meth c ls hsz C0 V hl
  have hx := C0.1
  have hb := C0.2.1
  replace hzx2 : q_F (0 ≤ x2.toInt ∧ x2.toInt ≤ 1) := hzx2
  obtain ⟨yy0_0, yy0_1, yy0_2, yy0_3, yy0_4, yy0_5, yy0_6, yy0_7, yy0_8, yy0_9, yy0_10, yy0_11, yy0_12, yy0_13, hh0, btt0_1, btt0_4, btt0_13⟩ := n_o153 hI
  obtain ⟨rfl, rfl, rfl, rfl, rfl, rfl, rfl, rfl, rfl, rfl, rfl, rfl, rfl, rfl⟩ : t0_0 = yy0_0 ∧ t0_1 = yy0_1 ∧ t0_2 = yy0_2 ∧ t0_3 = yy0_3 ∧ t0_4 = yy0_4 ∧ t0_5 = yy0_5 ∧ t0_6 = yy0_6 ∧ t0_7 = yy0_7 ∧ t0_8 = yy0_8 ∧ t0_9 = yy0_9 ∧ t0_10 = yy0_10 ∧ t0_11 = yy0_11 ∧ t0_12 = yy0_12 ∧ t0_13 = yy0_13 := by have z := Option.some.inj (hT0.symm.trans hh0); simpa using z
  replace btt0_1 : q_F (0 ≤ t0_1.toInt ∧ t0_1.toInt ≤ 4100) := btt0_1
  replace btt0_4 : q_F (0 ≤ t0_4.toInt ∧ t0_4.toInt ≤ 1) := btt0_4
  replace btt0_13 : q_F (0 ≤ t0_13.toInt ∧ t0_13.toInt ≤ 1) := btt0_13
  have hF : q_un ws ws [153, 155] := q_u0
  have hl : lv_has ls 3 [(0, .ref (q 153)), (1, .int x2)] := hl
  refine lv_aload_n hx hb d_18_12_0 rfl (lv_at hl 0 rfl) ?_
  refine lv_iconst (v := 0) hx hb d_18_12_1 (by decide) ?_
  refine q_put (ci := 16) (j := 7) (v := .int 0) (ty := .int) C0 V i_TR o_TR n_TR rfl rfl hT0 (by decide) w_2147 rfl rfl rfl rfl (Nat.le_of_ble_eq_true rfl) d_18_12_2 (fun H locs w25 hu26 hT0 V => ?_)
  replace hT0 : w25[153]? = (some (q 153, .inr (16, [.int t0_0, .ref (q 154), .int t0_1, .int t0_2, .int t0_3, .int t0_4, .ref (q 155), .int 0, .int t0_6, .long t0_7, .ref (q 156), .int t0_8, .int t0_9, .long t0_10, .long t0_11, .int t0_12, .int t0_13])) : Option (Nat × va_E)) := hT0
  replace hI := n_p153 hI hu26 hT0 ⟨(by have t1 : 0 ≤ t0_1.toInt ∧ t0_1.toInt ≤ 4100 := btt0_1; omega), (by have t1 : 0 ≤ t0_1.toInt ∧ t0_1.toInt ≤ 4100 := btt0_1; omega)⟩ ⟨(by have t1 : 0 ≤ t0_4.toInt ∧ t0_4.toInt ≤ 1 := btt0_4; omega), (by have t1 : 0 ≤ t0_4.toInt ∧ t0_4.toInt ≤ 1 := btt0_4; omega)⟩ ⟨(by have t1 : 0 ≤ t0_13.toInt ∧ t0_13.toInt ≤ 1 := btt0_13; omega), (by have t1 : 0 ≤ t0_13.toInt ∧ t0_13.toInt ≤ 1 := btt0_13; omega)⟩
  replace hT1 := (hu26 _ (by decide)).trans hT1
  replace hT2 := (hu26 _ (by decide)).trans hT2
  replace hF := q_us hF hu26 (by simp)
  refine lv_aload_n hx hb d_18_12_5 rfl (lv_at hl 0 rfl) ?_
  refine lv_iconst (v := (-1)) hx hb d_18_12_6 (by decide) ?_
  refine q_put (ci := 16) (j := 8) (v := .int (-1)) (ty := .int) C0 V i_TR o_TR n_TR rfl rfl hT0 (by decide) w_2148 rfl rfl rfl rfl (Nat.le_of_ble_eq_true rfl) d_18_12_7 (fun H locs w27 hu28 hT0 V => ?_)
  replace hT0 : w27[153]? = (some (q 153, .inr (16, [.int t0_0, .ref (q 154), .int t0_1, .int t0_2, .int t0_3, .int t0_4, .ref (q 155), .int 0, .int (-1), .long t0_7, .ref (q 156), .int t0_8, .int t0_9, .long t0_10, .long t0_11, .int t0_12, .int t0_13])) : Option (Nat × va_E)) := hT0
  replace hI := n_p153 hI hu28 hT0 ⟨(by have t1 : 0 ≤ t0_1.toInt ∧ t0_1.toInt ≤ 4100 := btt0_1; omega), (by have t1 : 0 ≤ t0_1.toInt ∧ t0_1.toInt ≤ 4100 := btt0_1; omega)⟩ ⟨(by have t1 : 0 ≤ t0_4.toInt ∧ t0_4.toInt ≤ 1 := btt0_4; omega), (by have t1 : 0 ≤ t0_4.toInt ∧ t0_4.toInt ≤ 1 := btt0_4; omega)⟩ ⟨(by have t1 : 0 ≤ t0_13.toInt ∧ t0_13.toInt ≤ 1 := btt0_13; omega), (by have t1 : 0 ≤ t0_13.toInt ∧ t0_13.toInt ≤ 1 := btt0_13; omega)⟩
  replace hT1 := (hu28 _ (by decide)).trans hT1
  replace hT2 := (hu28 _ (by decide)).trans hT2
  replace hF := q_us hF hu28 (by simp)
  refine q_loop (X := Nat × Int32 × Int32 × Int32 × (Nat → Int32)) (fun z H locs ls w38 => q_F (0 ≤ z.2.2.1.toInt + 1) ∧ q_F (z.2.2.1.toInt ≤ 4100) ∧ q_F (0 ≤ z.2.2.2.1.toInt) ∧ q_F (z.2.2.2.1.toInt ≤ 4100) ∧ q_Wd D g (va_A ws sz) s w38 H locs ∧ lv_has ls 3 [(0, .ref (q 153)), (1, .int x2)] ∧ q_I (msh g q) q w38 ∧ q_un ws w38 [153, 155] ∧ w38[153]? = (some (q 153, .inr (16, [.int t0_0, .ref (q 154), .int t0_1, .int t0_2, .int z.2.1, .int t0_4, .ref (q 155), .int z.2.2.2.1, .int z.2.2.1, .long t0_7, .ref (q 156), .int t0_8, .int t0_9, .long t0_10, .long t0_11, .int t0_12, .int t0_13])) : Option (Nat × va_E)) ∧ w38[154]? = (some (q 154, .inl (g 0, (4100 : Int32).toNatClampNeg, .inl t1_0)) : Option (Nat × va_E)) ∧ w38[155]? = (some (q 155, .inl (g 0, (4100 : Int32).toNatClampNeg, .inl z.2.2.2.2)) : Option (Nat × va_E)) ∧ F_TR_digits_L10 x2 t0_0 t0_1 t0_2 t0_3 t0_4 t0_5 t0_6 t0_7 t0_8 t0_9 t0_10 t0_11 t0_12 t0_13 t1_0 t2_0 z.1 z.2.1 z.2.2.1 z.2.2.2.1 z.2.2.2.2 = (F_TR_digits x2 t0_0 t0_1 t0_2 t0_3 t0_4 t0_5 t0_6 t0_7 t0_8 t0_9 t0_10 t0_11 t0_12 t0_13 t1_0 t2_0) ∧ True ∧ S_TR_digits_L10 x2 t0_0 t0_1 t0_2 t0_3 t0_4 t0_5 t0_6 t0_7 t0_8 t0_9 t0_10 t0_11 t0_12 t0_13 t1_0 t2_0 z.1 z.2.1 z.2.2.1 z.2.2.2.1 z.2.2.2.2) (fun z => z.1) ?_ ((1000000 : Nat), (t0_3 : Int32), ((-1) : Int32), (0 : Int32), (t2_0 : (Nat → Int32))) _ _ _ w27 ⟨(show q_F (0 ≤ (-1) + 1) from (show 0 ≤ (-1) + 1 from by omega)), (show q_F ((-1) ≤ 4100) from (show (-1) ≤ 4100 from by omega)), (show q_F (0 ≤ 0) from (show 0 ≤ 0 from by omega)), (show q_F (0 ≤ 4100) from (show 0 ≤ 4100 from by omega)), V, q_lw hl (q_lw1 0 rfl (q_lw1 1 rfl q_lw0)), hI, hF, hT0, hT1, hT2, (show F_TR_digits_L10 x2 t0_0 t0_1 t0_2 t0_3 t0_4 t0_5 t0_6 t0_7 t0_8 t0_9 t0_10 t0_11 t0_12 t0_13 t1_0 t2_0 1000000 t0_3 (-1) 0 t2_0 = (F_TR_digits x2 t0_0 t0_1 t0_2 t0_3 t0_4 t0_5 t0_6 t0_7 t0_8 t0_9 t0_10 t0_11 t0_12 t0_13 t1_0 t2_0) from (by rw [F_TR_digits.eq_1])), (show True ∧ S_TR_digits_L10 x2 t0_0 t0_1 t0_2 t0_3 t0_4 t0_5 t0_6 t0_7 t0_8 t0_9 t0_10 t0_11 t0_12 t0_13 t1_0 t2_0 1000000 t0_3 (-1) 0 t2_0 from (by have h := hS; rw [S_TR_digits.eq_1] at h; with_reducible exact h))⟩
  rintro ⟨fu44, lx29, lx30, lx31, lx32⟩ H locs ls w38 ⟨i33, i34, i35, i36, V, hl, hI, hF, hO39, hO40, hO41, hR42, hS43⟩ ih37
  obtain ⟨fm46, rfl⟩ : ∃ m, fu44 = m + 1 := Nat.exists_eq_succ_of_ne_zero (fun e => by subst e; rw [S_TR_digits_L10.eq_1] at hS43; exact hS43.2)
  replace i33 : q_F (0 ≤ lx30.toInt + 1) := i33
  replace i34 : q_F (lx30.toInt ≤ 4100) := i34
  replace i35 : q_F (0 ≤ lx31.toInt) := i35
  replace i36 : q_F (lx31.toInt ≤ 4100) := i36
  replace hl : lv_has ls 3 [(0, .ref (q 153)), (1, .int x2)] := hl
  replace hO39 : w38[153]? = (some (q 153, .inr (16, [.int t0_0, .ref (q 154), .int t0_1, .int t0_2, .int lx29, .int t0_4, .ref (q 155), .int lx31, .int lx30, .long t0_7, .ref (q 156), .int t0_8, .int t0_9, .long t0_10, .long t0_11, .int t0_12, .int t0_13])) : Option (Nat × va_E)) := hO39
  replace hO40 : w38[154]? = (some (q 154, .inl (g 0, (4100 : Int32).toNatClampNeg, .inl t1_0)) : Option (Nat × va_E)) := hO40
  replace hO41 : w38[155]? = (some (q 155, .inl (g 0, (4100 : Int32).toNatClampNeg, .inl lx32)) : Option (Nat × va_E)) := hO41
  refine lv_iload_n hx hb d_18_12_10 rfl (lv_at hl 1 rfl) ?_
  refine q_join (X := Int32) (fun z H locs ls _ => q_Wd D g (va_A ws sz) s w38 H locs ∧ lv_has ls 3 [(0, .ref (q 153)), (1, .int x2)] ∧ F_TR_digits_J45 (F_TR_digits_L10 x2 t0_0 t0_1 t0_2 t0_3 t0_4 t0_5 t0_6 t0_7 t0_8 t0_9 t0_10 t0_11 t0_12 t0_13 t1_0 t2_0 fm46) x2 t0_0 t0_1 t0_2 t0_3 t0_4 t0_5 t0_6 t0_7 t0_8 t0_9 t0_10 t0_11 t0_12 t0_13 t1_0 t2_0 lx29 lx30 lx31 lx32 z = (F_TR_digits x2 t0_0 t0_1 t0_2 t0_3 t0_4 t0_5 t0_6 t0_7 t0_8 t0_9 t0_10 t0_11 t0_12 t0_13 t1_0 t2_0) ∧ True ∧ S_TR_digits_J45 (S_TR_digits_L10 x2 t0_0 t0_1 t0_2 t0_3 t0_4 t0_5 t0_6 t0_7 t0_8 t0_9 t0_10 t0_11 t0_12 t0_13 t1_0 t2_0 fm46) x2 t0_0 t0_1 t0_2 t0_3 t0_4 t0_5 t0_6 t0_7 t0_8 t0_9 t0_10 t0_11 t0_12 t0_13 t1_0 t2_0 lx29 lx30 lx31 lx32 z) (fun z => [.int z]) 45 0 0 ?_ ?_
  ·
    rintro lx47 H locs ls _ ⟨V, hl, hR52, hS53⟩
    replace hl : lv_has ls 3 [(0, .ref (q 153)), (1, .int x2)] := hl
    refine lv_istore_n (lv' := [(2, .int lx47), (0, .ref (q 153)), (1, .int x2)]) hx hb d_18_12_45 rfl hl (by decide) rfl (fun ls hl => ?_)
    refine lv_iload_n hx hb d_18_12_46 rfl (lv_at hl 0 rfl) ?_
    refine lv_if_lt (tgt := 73) hx hb d_18_12_47 (by decide) (fun c57 => ?_) (fun c57 => ?_)
    ·
      have b58 : q_F (lx47.toInt < 0) := (q_ltI c57)
      refine lv_aload_n hx hb d_18_12_73 rfl (lv_at hl 1 rfl) ?_
      have ob59 : True ∧ S_TR_here t0_0 t0_1 t0_2 lx29 t0_4 lx31 lx30 t0_7 t0_8 t0_9 t0_10 t0_11 t0_12 t0_13 t1_0 := (by have h := hS53; rw [S_TR_digits_J45.eq_1] at h; rw [if_pos c57] at h; with_reducible exact h.2.1)
      refine q_goi V (q_runV (As := []) (rest := []) (d := 1) (mc := 0) (ms := 0) (ci := 16) C0 V rfl LV_TR_35 (X_TR_here l D g q w38   hI t0_0 t0_1 t0_2 lx29 t0_4 lx31 lx30 t0_7 t0_8 t0_9 t0_10 t0_11 t0_12 t0_13 hO39 t1_0 hO40 ob59 _) rfl rfl hO39 rfl hl.1 rfl (Nat.le_of_ble_eq_true rfl) ⟨by decide, by decide⟩ ⟨Nat.le_of_ble_eq_true rfl, Nat.le_of_ble_eq_true rfl⟩ d_18_12_74) (fun a62 u60 H locs hp61 V => ?_)
      obtain ⟨rfl, hE63⟩ := hp61
      have e64 : a62 = (F_TR_here t0_0 t0_1 t0_2 lx29 t0_4 lx31 lx30 t0_7 t0_8 t0_9 t0_10 t0_11 t0_12 t0_13 t1_0) := hE63
      refine lv_bipush (v := 46) hx hb d_18_12_77 (by decide) ?_
      refine q_join (X := Unit) (fun z H locs ls _ => q_Wd D g (va_A ws sz) s w38 H locs ∧ lv_has ls 3 [(0, .ref (q 153))] ∧ F_TR_digits_J100 (F_TR_digits_L10 x2 t0_0 t0_1 t0_2 t0_3 t0_4 t0_5 t0_6 t0_7 t0_8 t0_9 t0_10 t0_11 t0_12 t0_13 t1_0 t2_0 fm46) x2 t0_0 t0_1 t0_2 t0_3 t0_4 t0_5 t0_6 t0_7 t0_8 t0_9 t0_10 t0_11 t0_12 t0_13 t1_0 t2_0 lx29 lx30 lx31 lx32 lx47 = (F_TR_digits x2 t0_0 t0_1 t0_2 t0_3 t0_4 t0_5 t0_6 t0_7 t0_8 t0_9 t0_10 t0_11 t0_12 t0_13 t1_0 t2_0) ∧ True ∧ S_TR_digits_J100 (S_TR_digits_L10 x2 t0_0 t0_1 t0_2 t0_3 t0_4 t0_5 t0_6 t0_7 t0_8 t0_9 t0_10 t0_11 t0_12 t0_13 t1_0 t2_0 fm46) x2 t0_0 t0_1 t0_2 t0_3 t0_4 t0_5 t0_6 t0_7 t0_8 t0_9 t0_10 t0_11 t0_12 t0_13 t1_0 t2_0 lx29 lx30 lx31 lx32 lx47) (fun z => []) 100 0 0 ?_ ?_
      ·
        rintro _ H locs ls _ ⟨V, hl, hR69, hS70⟩
        replace hl : lv_has ls 3 [(0, .ref (q 153))] := hl
        refine lv_aload_n hx hb d_18_12_100 rfl (lv_at hl 0 rfl) ?_
        refine lv_aload_n hx hb d_18_12_101 rfl (lv_at hl 0 rfl) ?_
        refine q_get (ci := 16) (j := 8) (v := .int lx30) C0 V i_TR rfl rfl hO39 (by decide) w_2148 rfl d_18_12_102 ?_
        refine lv_if_ge (tgt := 115) hx hb d_18_12_105 (by decide) (fun c74 => ?_) (fun c74 => ?_)
        ·
          have b75 : q_F (0 ≤ lx30.toInt) := (q_leI c74)
          refine lv_aload_n hx hb d_18_12_115 rfl (lv_at hl 0 rfl) ?_
          refine q_get (ci := 16) (j := 8) (v := .int lx30) C0 V i_TR rfl rfl hO39 (by decide) w_2148 rfl d_18_12_116 ?_
          refine q_put (ci := 16) (j := 8) (v := .int lx30) (ty := .int) C0 V i_TR o_TR n_TR rfl rfl hO39 (by decide) w_2148 rfl rfl rfl rfl (Nat.le_of_ble_eq_true rfl) d_18_12_119 (fun H locs w76 hu77 hO39 V => ?_)
          replace hO39 : w76[153]? = (some (q 153, .inr (16, [.int t0_0, .ref (q 154), .int t0_1, .int t0_2, .int lx29, .int t0_4, .ref (q 155), .int lx31, .int lx30, .long t0_7, .ref (q 156), .int t0_8, .int t0_9, .long t0_10, .long t0_11, .int t0_12, .int t0_13])) : Option (Nat × va_E)) := hO39
          replace hI := n_p153 hI hu77 hO39 ⟨(by have t1 : 0 ≤ t0_1.toInt ∧ t0_1.toInt ≤ 4100 := btt0_1; omega), (by have t1 : 0 ≤ t0_1.toInt ∧ t0_1.toInt ≤ 4100 := btt0_1; omega)⟩ ⟨(by have t1 : 0 ≤ t0_4.toInt ∧ t0_4.toInt ≤ 1 := btt0_4; omega), (by have t1 : 0 ≤ t0_4.toInt ∧ t0_4.toInt ≤ 1 := btt0_4; omega)⟩ ⟨(by have t1 : 0 ≤ t0_13.toInt ∧ t0_13.toInt ≤ 1 := btt0_13; omega), (by have t1 : 0 ≤ t0_13.toInt ∧ t0_13.toInt ≤ 1 := btt0_13; omega)⟩
          replace hO40 := (hu77 _ (by decide)).trans hO40
          replace hO41 := (hu77 _ (by decide)).trans hO41
          replace hF := q_us hF hu77 (by simp)
          refine lv_aload_n hx hb d_18_12_122 rfl (lv_at hl 0 rfl) ?_
          refine q_get (ci := 16) (j := 7) (v := .int lx31) C0 V i_TR rfl rfl hO39 (by decide) w_2147 rfl d_18_12_123 ?_
          refine lv_if_le (tgt := 133) hx hb d_18_12_126 (by decide) (fun c78 => ?_) (fun c78 => ?_)
          ·
            have b79 : q_F (lx31.toInt ≤ 0) := (q_leI c78)
            refine lv_iconst (v := 0) hx hb d_18_12_133 (by decide) ?_
            exact q_retz C0 V (by decide) (⟨hI, hF, t0_0, t0_1, t0_2, lx29, t0_4, lx31, lx30, t0_7, t0_8, t0_9, t0_10, t0_11, t0_12, t0_13, lx32, hO39, hO41, (show 0 ≤ (0 : Int32).toInt from (by have z17 : (0 : Int32).toInt = 0 := rfl; omega)), (show (0 : Int32).toInt ≤ 1 from (by have z17 : (0 : Int32).toInt = 0 := rfl; omega)), (show 0 ≤ lx30.toInt from (by have z17 : (0 : Int32).toInt = 0 := rfl; have t1 : 0 ≤ lx30.toInt := b75; omega)), (show lx30.toInt ≤ 4100 from (by have z17 : (0 : Int32).toInt = 0 := rfl; have t1 : lx30.toInt ≤ 4100 := i34; omega)), (show t0_0.toInt ≤ t0_0.toInt from (by have z17 : (0 : Int32).toInt = 0 := rfl; omega)), (show t0_0.toInt ≤ t0_0.toInt from (by have z17 : (0 : Int32).toInt = 0 := rfl; omega)), (show t0_1.toInt ≤ t0_1.toInt from (by have z17 : (0 : Int32).toInt = 0 := rfl; omega)), (show t0_1.toInt ≤ t0_1.toInt from (by have z17 : (0 : Int32).toInt = 0 := rfl; omega)), (show t0_2.toInt ≤ t0_2.toInt from (by have z17 : (0 : Int32).toInt = 0 := rfl; omega)), (show t0_2.toInt ≤ t0_2.toInt from (by have z17 : (0 : Int32).toInt = 0 := rfl; omega)), (show t0_4.toInt ≤ t0_4.toInt from (by have z17 : (0 : Int32).toInt = 0 := rfl; omega)), (show t0_4.toInt ≤ t0_4.toInt from (by have z17 : (0 : Int32).toInt = 0 := rfl; omega)), (show t0_7.toInt ≤ t0_7.toInt from (by have z17 : (0 : Int32).toInt = 0 := rfl; omega)), (show t0_7.toInt ≤ t0_7.toInt from (by have z17 : (0 : Int32).toInt = 0 := rfl; omega)), (show t0_8.toInt ≤ t0_8.toInt from (by have z17 : (0 : Int32).toInt = 0 := rfl; omega)), (show t0_8.toInt ≤ t0_8.toInt from (by have z17 : (0 : Int32).toInt = 0 := rfl; omega)), (show t0_9.toInt ≤ t0_9.toInt from (by have z17 : (0 : Int32).toInt = 0 := rfl; omega)), (show t0_9.toInt ≤ t0_9.toInt from (by have z17 : (0 : Int32).toInt = 0 := rfl; omega)), (show t0_10.toInt ≤ t0_10.toInt from (by have z17 : (0 : Int32).toInt = 0 := rfl; omega)), (show t0_10.toInt ≤ t0_10.toInt from (by have z17 : (0 : Int32).toInt = 0 := rfl; omega)), (show t0_11.toInt ≤ t0_11.toInt from (by have z17 : (0 : Int32).toInt = 0 := rfl; omega)), (show t0_11.toInt ≤ t0_11.toInt from (by have z17 : (0 : Int32).toInt = 0 := rfl; omega)), (show t0_12.toInt ≤ t0_12.toInt from (by have z17 : (0 : Int32).toInt = 0 := rfl; omega)), (show t0_12.toInt ≤ t0_12.toInt from (by have z17 : (0 : Int32).toInt = 0 := rfl; omega)), (show t0_13.toInt ≤ t0_13.toInt from (by have z17 : (0 : Int32).toInt = 0 := rfl; omega)), (show t0_13.toInt ≤ t0_13.toInt from (by have z17 : (0 : Int32).toInt = 0 := rfl; omega)), (show lx31.toInt ≤ (0 : Int32).toInt + 4099 from (by have z17 : (0 : Int32).toInt = 0 := rfl; have t1 : lx31.toInt ≤ 0 := b79; omega)), (show (0 : Int32).toInt ≤ lx31.toInt from (by have z17 : (0 : Int32).toInt = 0 := rfl; have t1 : 0 ≤ lx31.toInt := i35; omega)), (show ((0 : Int32), t0_0, t0_1, t0_2, lx29, t0_4, lx31, lx30, t0_7, t0_8, t0_9, t0_10, t0_11, t0_12, t0_13, lx32) = (F_TR_digits x2 t0_0 t0_1 t0_2 t0_3 t0_4 t0_5 t0_6 t0_7 t0_8 t0_9 t0_10 t0_11 t0_12 t0_13 t1_0 t2_0) from Eq.trans (by rw [F_TR_digits_J100.eq_1, if_pos c74, if_pos c78]) hR69)⟩) d_18_12_134
          ·
            have b80 : q_F (0 < lx31.toInt) := (q_nleI c78)
            refine lv_iconst (v := 1) hx hb d_18_12_129 (by decide) ?_
            refine lv_goto (tgt := 134) hx hb d_18_12_130 (by decide) ?_
            exact q_retz C0 V (by decide) (⟨hI, hF, t0_0, t0_1, t0_2, lx29, t0_4, lx31, lx30, t0_7, t0_8, t0_9, t0_10, t0_11, t0_12, t0_13, lx32, hO39, hO41, (show 0 ≤ (1 : Int32).toInt from (by have z17 : (1 : Int32).toInt = 1 := rfl; omega)), (show (1 : Int32).toInt ≤ 1 from (by have z17 : (1 : Int32).toInt = 1 := rfl; omega)), (show 0 ≤ lx30.toInt from (by have z17 : (1 : Int32).toInt = 1 := rfl; have t1 : 0 ≤ lx30.toInt := b75; omega)), (show lx30.toInt ≤ 4100 from (by have z17 : (1 : Int32).toInt = 1 := rfl; have t1 : lx30.toInt ≤ 4100 := i34; omega)), (show t0_0.toInt ≤ t0_0.toInt from (by have z17 : (1 : Int32).toInt = 1 := rfl; omega)), (show t0_0.toInt ≤ t0_0.toInt from (by have z17 : (1 : Int32).toInt = 1 := rfl; omega)), (show t0_1.toInt ≤ t0_1.toInt from (by have z17 : (1 : Int32).toInt = 1 := rfl; omega)), (show t0_1.toInt ≤ t0_1.toInt from (by have z17 : (1 : Int32).toInt = 1 := rfl; omega)), (show t0_2.toInt ≤ t0_2.toInt from (by have z17 : (1 : Int32).toInt = 1 := rfl; omega)), (show t0_2.toInt ≤ t0_2.toInt from (by have z17 : (1 : Int32).toInt = 1 := rfl; omega)), (show t0_4.toInt ≤ t0_4.toInt from (by have z17 : (1 : Int32).toInt = 1 := rfl; omega)), (show t0_4.toInt ≤ t0_4.toInt from (by have z17 : (1 : Int32).toInt = 1 := rfl; omega)), (show t0_7.toInt ≤ t0_7.toInt from (by have z17 : (1 : Int32).toInt = 1 := rfl; omega)), (show t0_7.toInt ≤ t0_7.toInt from (by have z17 : (1 : Int32).toInt = 1 := rfl; omega)), (show t0_8.toInt ≤ t0_8.toInt from (by have z17 : (1 : Int32).toInt = 1 := rfl; omega)), (show t0_8.toInt ≤ t0_8.toInt from (by have z17 : (1 : Int32).toInt = 1 := rfl; omega)), (show t0_9.toInt ≤ t0_9.toInt from (by have z17 : (1 : Int32).toInt = 1 := rfl; omega)), (show t0_9.toInt ≤ t0_9.toInt from (by have z17 : (1 : Int32).toInt = 1 := rfl; omega)), (show t0_10.toInt ≤ t0_10.toInt from (by have z17 : (1 : Int32).toInt = 1 := rfl; omega)), (show t0_10.toInt ≤ t0_10.toInt from (by have z17 : (1 : Int32).toInt = 1 := rfl; omega)), (show t0_11.toInt ≤ t0_11.toInt from (by have z17 : (1 : Int32).toInt = 1 := rfl; omega)), (show t0_11.toInt ≤ t0_11.toInt from (by have z17 : (1 : Int32).toInt = 1 := rfl; omega)), (show t0_12.toInt ≤ t0_12.toInt from (by have z17 : (1 : Int32).toInt = 1 := rfl; omega)), (show t0_12.toInt ≤ t0_12.toInt from (by have z17 : (1 : Int32).toInt = 1 := rfl; omega)), (show t0_13.toInt ≤ t0_13.toInt from (by have z17 : (1 : Int32).toInt = 1 := rfl; omega)), (show t0_13.toInt ≤ t0_13.toInt from (by have z17 : (1 : Int32).toInt = 1 := rfl; omega)), (show lx31.toInt ≤ (1 : Int32).toInt + 4099 from (by have z17 : (1 : Int32).toInt = 1 := rfl; have t1 : lx31.toInt ≤ 4100 := i36; omega)), (show (1 : Int32).toInt ≤ lx31.toInt from (by have z17 : (1 : Int32).toInt = 1 := rfl; have t1 : 0 < lx31.toInt := b80; omega)), (show ((1 : Int32), t0_0, t0_1, t0_2, lx29, t0_4, lx31, lx30, t0_7, t0_8, t0_9, t0_10, t0_11, t0_12, t0_13, lx32) = (F_TR_digits x2 t0_0 t0_1 t0_2 t0_3 t0_4 t0_5 t0_6 t0_7 t0_8 t0_9 t0_10 t0_11 t0_12 t0_13 t1_0 t2_0) from Eq.trans (by rw [F_TR_digits_J100.eq_1, if_pos c74, if_neg c78]) hR69)⟩) d_18_12_134
        ·
          have b81 : q_F (lx30.toInt < 0) := (q_nleI c74)
          refine lv_aload_n hx hb d_18_12_108 rfl (lv_at hl 0 rfl) ?_
          refine q_get (ci := 16) (j := 7) (v := .int lx31) C0 V i_TR rfl rfl hO39 (by decide) w_2147 rfl d_18_12_109 ?_
          refine lv_goto (tgt := 119) hx hb d_18_12_112 (by decide) ?_
          refine q_put (ci := 16) (j := 8) (v := .int lx31) (ty := .int) C0 V i_TR o_TR n_TR rfl rfl hO39 (by decide) w_2148 rfl rfl rfl rfl (Nat.le_of_ble_eq_true rfl) d_18_12_119 (fun H locs w82 hu83 hO39 V => ?_)
          replace hO39 : w82[153]? = (some (q 153, .inr (16, [.int t0_0, .ref (q 154), .int t0_1, .int t0_2, .int lx29, .int t0_4, .ref (q 155), .int lx31, .int lx31, .long t0_7, .ref (q 156), .int t0_8, .int t0_9, .long t0_10, .long t0_11, .int t0_12, .int t0_13])) : Option (Nat × va_E)) := hO39
          replace hI := n_p153 hI hu83 hO39 ⟨(by have t1 : 0 ≤ t0_1.toInt ∧ t0_1.toInt ≤ 4100 := btt0_1; omega), (by have t1 : 0 ≤ t0_1.toInt ∧ t0_1.toInt ≤ 4100 := btt0_1; omega)⟩ ⟨(by have t1 : 0 ≤ t0_4.toInt ∧ t0_4.toInt ≤ 1 := btt0_4; omega), (by have t1 : 0 ≤ t0_4.toInt ∧ t0_4.toInt ≤ 1 := btt0_4; omega)⟩ ⟨(by have t1 : 0 ≤ t0_13.toInt ∧ t0_13.toInt ≤ 1 := btt0_13; omega), (by have t1 : 0 ≤ t0_13.toInt ∧ t0_13.toInt ≤ 1 := btt0_13; omega)⟩
          replace hO40 := (hu83 _ (by decide)).trans hO40
          replace hO41 := (hu83 _ (by decide)).trans hO41
          replace hF := q_us hF hu83 (by simp)
          refine lv_aload_n hx hb d_18_12_122 rfl (lv_at hl 0 rfl) ?_
          refine q_get (ci := 16) (j := 7) (v := .int lx31) C0 V i_TR rfl rfl hO39 (by decide) w_2147 rfl d_18_12_123 ?_
          refine lv_if_le (tgt := 133) hx hb d_18_12_126 (by decide) (fun c84 => ?_) (fun c84 => ?_)
          ·
            have b85 : q_F (lx31.toInt ≤ 0) := (q_leI c84)
            refine lv_iconst (v := 0) hx hb d_18_12_133 (by decide) ?_
            exact q_retz C0 V (by decide) (⟨hI, hF, t0_0, t0_1, t0_2, lx29, t0_4, lx31, lx31, t0_7, t0_8, t0_9, t0_10, t0_11, t0_12, t0_13, lx32, hO39, hO41, (show 0 ≤ (0 : Int32).toInt from (by have z17 : (0 : Int32).toInt = 0 := rfl; omega)), (show (0 : Int32).toInt ≤ 1 from (by have z17 : (0 : Int32).toInt = 0 := rfl; omega)), (show 0 ≤ lx31.toInt from (by have z17 : (0 : Int32).toInt = 0 := rfl; have t1 : 0 ≤ lx31.toInt := i35; omega)), (show lx31.toInt ≤ 4100 from (by have z17 : (0 : Int32).toInt = 0 := rfl; have t1 : lx31.toInt ≤ 4100 := i36; omega)), (show t0_0.toInt ≤ t0_0.toInt from (by have z17 : (0 : Int32).toInt = 0 := rfl; omega)), (show t0_0.toInt ≤ t0_0.toInt from (by have z17 : (0 : Int32).toInt = 0 := rfl; omega)), (show t0_1.toInt ≤ t0_1.toInt from (by have z17 : (0 : Int32).toInt = 0 := rfl; omega)), (show t0_1.toInt ≤ t0_1.toInt from (by have z17 : (0 : Int32).toInt = 0 := rfl; omega)), (show t0_2.toInt ≤ t0_2.toInt from (by have z17 : (0 : Int32).toInt = 0 := rfl; omega)), (show t0_2.toInt ≤ t0_2.toInt from (by have z17 : (0 : Int32).toInt = 0 := rfl; omega)), (show t0_4.toInt ≤ t0_4.toInt from (by have z17 : (0 : Int32).toInt = 0 := rfl; omega)), (show t0_4.toInt ≤ t0_4.toInt from (by have z17 : (0 : Int32).toInt = 0 := rfl; omega)), (show t0_7.toInt ≤ t0_7.toInt from (by have z17 : (0 : Int32).toInt = 0 := rfl; omega)), (show t0_7.toInt ≤ t0_7.toInt from (by have z17 : (0 : Int32).toInt = 0 := rfl; omega)), (show t0_8.toInt ≤ t0_8.toInt from (by have z17 : (0 : Int32).toInt = 0 := rfl; omega)), (show t0_8.toInt ≤ t0_8.toInt from (by have z17 : (0 : Int32).toInt = 0 := rfl; omega)), (show t0_9.toInt ≤ t0_9.toInt from (by have z17 : (0 : Int32).toInt = 0 := rfl; omega)), (show t0_9.toInt ≤ t0_9.toInt from (by have z17 : (0 : Int32).toInt = 0 := rfl; omega)), (show t0_10.toInt ≤ t0_10.toInt from (by have z17 : (0 : Int32).toInt = 0 := rfl; omega)), (show t0_10.toInt ≤ t0_10.toInt from (by have z17 : (0 : Int32).toInt = 0 := rfl; omega)), (show t0_11.toInt ≤ t0_11.toInt from (by have z17 : (0 : Int32).toInt = 0 := rfl; omega)), (show t0_11.toInt ≤ t0_11.toInt from (by have z17 : (0 : Int32).toInt = 0 := rfl; omega)), (show t0_12.toInt ≤ t0_12.toInt from (by have z17 : (0 : Int32).toInt = 0 := rfl; omega)), (show t0_12.toInt ≤ t0_12.toInt from (by have z17 : (0 : Int32).toInt = 0 := rfl; omega)), (show t0_13.toInt ≤ t0_13.toInt from (by have z17 : (0 : Int32).toInt = 0 := rfl; omega)), (show t0_13.toInt ≤ t0_13.toInt from (by have z17 : (0 : Int32).toInt = 0 := rfl; omega)), (show lx31.toInt ≤ (0 : Int32).toInt + 4099 from (by have z17 : (0 : Int32).toInt = 0 := rfl; have t1 : lx31.toInt ≤ 0 := b85; omega)), (show (0 : Int32).toInt ≤ lx31.toInt from (by have z17 : (0 : Int32).toInt = 0 := rfl; have t1 : 0 ≤ lx31.toInt := i35; omega)), (show ((0 : Int32), t0_0, t0_1, t0_2, lx29, t0_4, lx31, lx31, t0_7, t0_8, t0_9, t0_10, t0_11, t0_12, t0_13, lx32) = (F_TR_digits x2 t0_0 t0_1 t0_2 t0_3 t0_4 t0_5 t0_6 t0_7 t0_8 t0_9 t0_10 t0_11 t0_12 t0_13 t1_0 t2_0) from Eq.trans (by rw [F_TR_digits_J100.eq_1, if_neg c74, if_pos c84]) hR69)⟩) d_18_12_134
          ·
            have b86 : q_F (0 < lx31.toInt) := (q_nleI c84)
            refine lv_iconst (v := 1) hx hb d_18_12_129 (by decide) ?_
            refine lv_goto (tgt := 134) hx hb d_18_12_130 (by decide) ?_
            exact q_retz C0 V (by decide) (⟨hI, hF, t0_0, t0_1, t0_2, lx29, t0_4, lx31, lx31, t0_7, t0_8, t0_9, t0_10, t0_11, t0_12, t0_13, lx32, hO39, hO41, (show 0 ≤ (1 : Int32).toInt from (by have z17 : (1 : Int32).toInt = 1 := rfl; omega)), (show (1 : Int32).toInt ≤ 1 from (by have z17 : (1 : Int32).toInt = 1 := rfl; omega)), (show 0 ≤ lx31.toInt from (by have z17 : (1 : Int32).toInt = 1 := rfl; have t1 : 0 ≤ lx31.toInt := i35; omega)), (show lx31.toInt ≤ 4100 from (by have z17 : (1 : Int32).toInt = 1 := rfl; have t1 : lx31.toInt ≤ 4100 := i36; omega)), (show t0_0.toInt ≤ t0_0.toInt from (by have z17 : (1 : Int32).toInt = 1 := rfl; omega)), (show t0_0.toInt ≤ t0_0.toInt from (by have z17 : (1 : Int32).toInt = 1 := rfl; omega)), (show t0_1.toInt ≤ t0_1.toInt from (by have z17 : (1 : Int32).toInt = 1 := rfl; omega)), (show t0_1.toInt ≤ t0_1.toInt from (by have z17 : (1 : Int32).toInt = 1 := rfl; omega)), (show t0_2.toInt ≤ t0_2.toInt from (by have z17 : (1 : Int32).toInt = 1 := rfl; omega)), (show t0_2.toInt ≤ t0_2.toInt from (by have z17 : (1 : Int32).toInt = 1 := rfl; omega)), (show t0_4.toInt ≤ t0_4.toInt from (by have z17 : (1 : Int32).toInt = 1 := rfl; omega)), (show t0_4.toInt ≤ t0_4.toInt from (by have z17 : (1 : Int32).toInt = 1 := rfl; omega)), (show t0_7.toInt ≤ t0_7.toInt from (by have z17 : (1 : Int32).toInt = 1 := rfl; omega)), (show t0_7.toInt ≤ t0_7.toInt from (by have z17 : (1 : Int32).toInt = 1 := rfl; omega)), (show t0_8.toInt ≤ t0_8.toInt from (by have z17 : (1 : Int32).toInt = 1 := rfl; omega)), (show t0_8.toInt ≤ t0_8.toInt from (by have z17 : (1 : Int32).toInt = 1 := rfl; omega)), (show t0_9.toInt ≤ t0_9.toInt from (by have z17 : (1 : Int32).toInt = 1 := rfl; omega)), (show t0_9.toInt ≤ t0_9.toInt from (by have z17 : (1 : Int32).toInt = 1 := rfl; omega)), (show t0_10.toInt ≤ t0_10.toInt from (by have z17 : (1 : Int32).toInt = 1 := rfl; omega)), (show t0_10.toInt ≤ t0_10.toInt from (by have z17 : (1 : Int32).toInt = 1 := rfl; omega)), (show t0_11.toInt ≤ t0_11.toInt from (by have z17 : (1 : Int32).toInt = 1 := rfl; omega)), (show t0_11.toInt ≤ t0_11.toInt from (by have z17 : (1 : Int32).toInt = 1 := rfl; omega)), (show t0_12.toInt ≤ t0_12.toInt from (by have z17 : (1 : Int32).toInt = 1 := rfl; omega)), (show t0_12.toInt ≤ t0_12.toInt from (by have z17 : (1 : Int32).toInt = 1 := rfl; omega)), (show t0_13.toInt ≤ t0_13.toInt from (by have z17 : (1 : Int32).toInt = 1 := rfl; omega)), (show t0_13.toInt ≤ t0_13.toInt from (by have z17 : (1 : Int32).toInt = 1 := rfl; omega)), (show lx31.toInt ≤ (1 : Int32).toInt + 4099 from (by have z17 : (1 : Int32).toInt = 1 := rfl; have t1 : lx31.toInt ≤ 4100 := i36; omega)), (show (1 : Int32).toInt ≤ lx31.toInt from (by have z17 : (1 : Int32).toInt = 1 := rfl; have t1 : 0 < lx31.toInt := b86; omega)), (show ((1 : Int32), t0_0, t0_1, t0_2, lx29, t0_4, lx31, lx31, t0_7, t0_8, t0_9, t0_10, t0_11, t0_12, t0_13, lx32) = (F_TR_digits x2 t0_0 t0_1 t0_2 t0_3 t0_4 t0_5 t0_6 t0_7 t0_8 t0_9 t0_10 t0_11 t0_12 t0_13 t1_0 t2_0) from Eq.trans (by rw [F_TR_digits_J100.eq_1, if_neg c74, if_neg c84]) hR69)⟩) d_18_12_134
      ·
        intro J68
        refine lv_icmp_ne (tgt := 100) hx hb d_18_12_79 (by decide) (fun c87 => ?_) (fun c87 => ?_)
        ·
          have b88 : q_F (a62.toInt ≠ 46) := (q_neI c87)
          exact J68 (()) _ _ _ w38 ⟨V, q_lw hl (q_lw1 1 rfl q_lw0), (show F_TR_digits_J100 (F_TR_digits_L10 x2 t0_0 t0_1 t0_2 t0_3 t0_4 t0_5 t0_6 t0_7 t0_8 t0_9 t0_10 t0_11 t0_12 t0_13 t1_0 t2_0 fm46) x2 t0_0 t0_1 t0_2 t0_3 t0_4 t0_5 t0_6 t0_7 t0_8 t0_9 t0_10 t0_11 t0_12 t0_13 t1_0 t2_0 lx29 lx30 lx31 lx32 lx47 = (F_TR_digits x2 t0_0 t0_1 t0_2 t0_3 t0_4 t0_5 t0_6 t0_7 t0_8 t0_9 t0_10 t0_11 t0_12 t0_13 t1_0 t2_0) from Eq.trans (by have c87x := c87; rw [e64] at c87x; rw [F_TR_digits_J45.eq_1, if_pos c57, if_neg c87x]) hR52), (show True ∧ S_TR_digits_J100 (S_TR_digits_L10 x2 t0_0 t0_1 t0_2 t0_3 t0_4 t0_5 t0_6 t0_7 t0_8 t0_9 t0_10 t0_11 t0_12 t0_13 t1_0 t2_0 fm46) x2 t0_0 t0_1 t0_2 t0_3 t0_4 t0_5 t0_6 t0_7 t0_8 t0_9 t0_10 t0_11 t0_12 t0_13 t1_0 t2_0 lx29 lx30 lx31 lx32 lx47 from (by have h := hS53; rw [S_TR_digits_J45.eq_1] at h; rw [if_pos c57] at h; replace h := q_s2 h; have c87x := c87; rw [e64] at c87x; rw [if_neg c87x] at h; with_reducible exact h))⟩
        ·
          have b89 : q_F (a62.toInt = 46) := (q_eqI c87)
          refine lv_aload_n hx hb d_18_12_82 rfl (lv_at hl 1 rfl) ?_
          refine q_get (ci := 16) (j := 8) (v := .int lx30) C0 V i_TR rfl rfl hO39 (by decide) w_2148 rfl d_18_12_83 ?_
          refine lv_if_ge (tgt := 100) hx hb d_18_12_86 (by decide) (fun c90 => ?_) (fun c90 => ?_)
          ·
            have b91 : q_F (0 ≤ lx30.toInt) := (q_leI c90)
            exact J68 (()) _ _ _ w38 ⟨V, q_lw hl (q_lw1 1 rfl q_lw0), (show F_TR_digits_J100 (F_TR_digits_L10 x2 t0_0 t0_1 t0_2 t0_3 t0_4 t0_5 t0_6 t0_7 t0_8 t0_9 t0_10 t0_11 t0_12 t0_13 t1_0 t2_0 fm46) x2 t0_0 t0_1 t0_2 t0_3 t0_4 t0_5 t0_6 t0_7 t0_8 t0_9 t0_10 t0_11 t0_12 t0_13 t1_0 t2_0 lx29 lx30 lx31 lx32 lx47 = (F_TR_digits x2 t0_0 t0_1 t0_2 t0_3 t0_4 t0_5 t0_6 t0_7 t0_8 t0_9 t0_10 t0_11 t0_12 t0_13 t1_0 t2_0) from Eq.trans (by have c87x := c87; rw [e64] at c87x; rw [F_TR_digits_J45.eq_1, if_pos c57, if_pos c87x, if_pos c90]) hR52), (show True ∧ S_TR_digits_J100 (S_TR_digits_L10 x2 t0_0 t0_1 t0_2 t0_3 t0_4 t0_5 t0_6 t0_7 t0_8 t0_9 t0_10 t0_11 t0_12 t0_13 t1_0 t2_0 fm46) x2 t0_0 t0_1 t0_2 t0_3 t0_4 t0_5 t0_6 t0_7 t0_8 t0_9 t0_10 t0_11 t0_12 t0_13 t1_0 t2_0 lx29 lx30 lx31 lx32 lx47 from (by have h := hS53; rw [S_TR_digits_J45.eq_1] at h; rw [if_pos c57] at h; replace h := q_s2 h; have c87x := c87; rw [e64] at c87x; rw [if_pos c87x] at h; rw [if_pos c90] at h; with_reducible exact h))⟩
          ·
            have b92 : q_F (lx30.toInt < 0) := (q_nleI c90)
            refine lv_aload_n hx hb d_18_12_89 rfl (lv_at hl 1 rfl) ?_
            refine lv_aload_n hx hb d_18_12_90 rfl (lv_at hl 1 rfl) ?_
            refine q_get (ci := 16) (j := 7) (v := .int lx31) C0 V i_TR rfl rfl hO39 (by decide) w_2147 rfl d_18_12_91 ?_
            refine q_put (ci := 16) (j := 8) (v := .int lx31) (ty := .int) C0 V i_TR o_TR n_TR rfl rfl hO39 (by decide) w_2148 rfl rfl rfl rfl (Nat.le_of_ble_eq_true rfl) d_18_12_94 (fun H locs w93 hu94 hO39 V => ?_)
            replace hO39 : w93[153]? = (some (q 153, .inr (16, [.int t0_0, .ref (q 154), .int t0_1, .int t0_2, .int lx29, .int t0_4, .ref (q 155), .int lx31, .int lx31, .long t0_7, .ref (q 156), .int t0_8, .int t0_9, .long t0_10, .long t0_11, .int t0_12, .int t0_13])) : Option (Nat × va_E)) := hO39
            replace hI := n_p153 hI hu94 hO39 ⟨(by have t1 : 0 ≤ t0_1.toInt ∧ t0_1.toInt ≤ 4100 := btt0_1; omega), (by have t1 : 0 ≤ t0_1.toInt ∧ t0_1.toInt ≤ 4100 := btt0_1; omega)⟩ ⟨(by have t1 : 0 ≤ t0_4.toInt ∧ t0_4.toInt ≤ 1 := btt0_4; omega), (by have t1 : 0 ≤ t0_4.toInt ∧ t0_4.toInt ≤ 1 := btt0_4; omega)⟩ ⟨(by have t1 : 0 ≤ t0_13.toInt ∧ t0_13.toInt ≤ 1 := btt0_13; omega), (by have t1 : 0 ≤ t0_13.toInt ∧ t0_13.toInt ≤ 1 := btt0_13; omega)⟩
            replace hO40 := (hu94 _ (by decide)).trans hO40
            replace hO41 := (hu94 _ (by decide)).trans hO41
            replace hF := q_us hF hu94 (by simp)
            refine lv_goto (tgt := 135) hx hb d_18_12_97 (by decide) ?_
            refine lv_aload_n hx hb d_18_12_135 rfl (lv_at hl 1 rfl) ?_
            refine lv_dup hx hb d_18_12_136 rfl ?_
            refine q_get (ci := 16) (j := 4) (v := .int lx29) C0 V i_TR rfl rfl hO39 (by decide) w_2144 rfl d_18_12_137 ?_
            refine lv_iconst (v := 1) hx hb d_18_12_140 (by decide) ?_
            refine lv_iadd hx hb d_18_12_141 ?_
            obtain ⟨a95, e96⟩ := q_nm (lx29 + 1 : Int32)
            refine q_ti (v := a95) e96 ?_
            refine q_put (ci := 16) (j := 4) (v := .int a95) (ty := .int) C0 V i_TR o_TR n_TR rfl rfl hO39 (by decide) w_2144 rfl rfl rfl rfl (Nat.le_of_ble_eq_true rfl) d_18_12_142 (fun H locs w97 hu98 hO39 V => ?_)
            replace hO39 : w97[153]? = (some (q 153, .inr (16, [.int t0_0, .ref (q 154), .int t0_1, .int t0_2, .int a95, .int t0_4, .ref (q 155), .int lx31, .int lx31, .long t0_7, .ref (q 156), .int t0_8, .int t0_9, .long t0_10, .long t0_11, .int t0_12, .int t0_13])) : Option (Nat × va_E)) := hO39
            replace hI := n_p153 hI hu98 hO39 ⟨(by have t1 : 0 ≤ t0_1.toInt ∧ t0_1.toInt ≤ 4100 := btt0_1; omega), (by have t1 : 0 ≤ t0_1.toInt ∧ t0_1.toInt ≤ 4100 := btt0_1; omega)⟩ ⟨(by have t1 : 0 ≤ t0_4.toInt ∧ t0_4.toInt ≤ 1 := btt0_4; omega), (by have t1 : 0 ≤ t0_4.toInt ∧ t0_4.toInt ≤ 1 := btt0_4; omega)⟩ ⟨(by have t1 : 0 ≤ t0_13.toInt ∧ t0_13.toInt ≤ 1 := btt0_13; omega), (by have t1 : 0 ≤ t0_13.toInt ∧ t0_13.toInt ≤ 1 := btt0_13; omega)⟩
            replace hO40 := (hu98 _ (by decide)).trans hO40
            replace hO41 := (hu98 _ (by decide)).trans hO41
            replace hF := q_us hF hu98 (by simp)
            refine lv_goto (tgt := 10) hx hb d_18_12_145 (by decide) ?_
            exact ih37 ((fm46 : Nat), (a95 : Int32), (lx31 : Int32), (lx31 : Int32), (lx32 : (Nat → Int32))) _ _ _ _ (Nat.lt_succ_self _) ⟨(show q_F (0 ≤ lx31.toInt + 1) from (show 0 ≤ lx31.toInt + 1 from by have t1 : 0 ≤ lx31.toInt := i35; omega)), (show q_F (lx31.toInt ≤ 4100) from (show lx31.toInt ≤ 4100 from by have t1 : lx31.toInt ≤ 4100 := i36; omega)), (show q_F (0 ≤ lx31.toInt) from (show 0 ≤ lx31.toInt from by have t1 : 0 ≤ lx31.toInt := i35; omega)), (show q_F (lx31.toInt ≤ 4100) from (show lx31.toInt ≤ 4100 from by have t1 : lx31.toInt ≤ 4100 := i36; omega)), V, q_lw hl (q_lw1 1 rfl (q_lw1 2 rfl q_lw0)), hI, hF, hO39, hO40, hO41, (show F_TR_digits_L10 x2 t0_0 t0_1 t0_2 t0_3 t0_4 t0_5 t0_6 t0_7 t0_8 t0_9 t0_10 t0_11 t0_12 t0_13 t1_0 t2_0 fm46 a95 lx31 lx31 lx32 = (F_TR_digits x2 t0_0 t0_1 t0_2 t0_3 t0_4 t0_5 t0_6 t0_7 t0_8 t0_9 t0_10 t0_11 t0_12 t0_13 t1_0 t2_0) from Eq.trans (by have c87x := c87; rw [e64] at c87x; rw [← e96, F_TR_digits_J45.eq_1, if_pos c57, if_pos c87x, if_neg c90]) hR52), (show True ∧ S_TR_digits_L10 x2 t0_0 t0_1 t0_2 t0_3 t0_4 t0_5 t0_6 t0_7 t0_8 t0_9 t0_10 t0_11 t0_12 t0_13 t1_0 t2_0 fm46 a95 lx31 lx31 lx32 from (by rw [← e96]; have h := hS53; rw [S_TR_digits_J45.eq_1] at h; rw [if_pos c57] at h; replace h := q_s2 h; have c87x := c87; rw [e64] at c87x; rw [if_pos c87x] at h; rw [if_neg c90] at h; with_reducible exact h))⟩
    ·
      have b99 : q_F (0 ≤ lx47.toInt) := (q_nltI c57)
      refine lv_aload_n hx hb d_18_12_50 rfl (lv_at hl 1 rfl) ?_
      refine q_get (ci := 16) (j := 6) (v := .ref (q 155)) C0 V i_TR rfl rfl hO39 (by decide) w_2146 rfl d_18_12_51 ?_
      refine lv_aload_n hx hb d_18_12_54 rfl (lv_at hl 1 rfl) ?_
      refine q_get (ci := 16) (j := 7) (v := .int lx31) C0 V i_TR rfl rfl hO39 (by decide) w_2147 rfl d_18_12_55 ?_
      refine lv_iload_n hx hb d_18_12_58 rfl (lv_at hl 0 rfl) ?_
      have ob100 : q_F (lx31.toInt ≤ 4099) := (by have h := hS53; rw [S_TR_digits_J45.eq_1] at h; rw [if_neg c57] at h; exact h.2.1)
      refine q_iast C0 V hO41 (q_ix (x := lx31.toInt) rfl (by have t1 : 0 ≤ lx31.toInt := i35; omega) (by have t1 : 0 ≤ lx31.toInt := i35; have t2 : lx31.toInt ≤ 4099 := ob100; have e9 : (((4100 : Int32).toNatClampNeg : Nat) : Int) = 4100 := (by decide); omega)) d_18_12_59 (fun H locs w101 hu102 hO41 V => ?_)
      replace hI := n_ai' hI (n_r155 g q).1 hu102 hO41 (q_updB (fun _ => s_bnd) s_bnd)
      replace hO39 := (hu102 _ (by decide)).trans hO39
      replace hO40 := (hu102 _ (by decide)).trans hO40
      replace hF := q_us hF hu102 (by simp)
      obtain ⟨f103, e104⟩ := q_nm (upd lx32 lx31.toNatClampNeg lx47 : (Nat → Int32))
      rw [e104] at hO41
      refine lv_aload_n hx hb d_18_12_60 rfl (lv_at hl 1 rfl) ?_
      refine lv_dup hx hb d_18_12_61 rfl ?_
      refine q_get (ci := 16) (j := 7) (v := .int lx31) C0 V i_TR rfl rfl hO39 (by decide) w_2147 rfl d_18_12_62 ?_
      refine lv_iconst (v := 1) hx hb d_18_12_65 (by decide) ?_
      refine lv_iadd hx hb d_18_12_66 ?_
      obtain ⟨a105, e106⟩ := q_nm (lx31 + 1 : Int32)
      refine q_ti (v := a105) e106 ?_
      have b107 : q_F (a105.toInt = lx31.toInt + 1) := (by rw [← e106]; show (lx31 + 1 : Int32).toInt = lx31.toInt + 1; exact q_addI (x := lx31.toInt) (y := 1) rfl (by decide) (by have t1 : 0 ≤ lx31.toInt := i35; have t2 : lx31.toInt ≤ 4100 := i36; omega) (by have t1 : 0 ≤ lx31.toInt := i35; have t2 : lx31.toInt ≤ 4100 := i36; omega))
      refine q_put (ci := 16) (j := 7) (v := .int a105) (ty := .int) C0 V i_TR o_TR n_TR rfl rfl hO39 (by decide) w_2147 rfl rfl rfl rfl (Nat.le_of_ble_eq_true rfl) d_18_12_67 (fun H locs w108 hu109 hO39 V => ?_)
      replace hO39 : w108[153]? = (some (q 153, .inr (16, [.int t0_0, .ref (q 154), .int t0_1, .int t0_2, .int lx29, .int t0_4, .ref (q 155), .int a105, .int lx30, .long t0_7, .ref (q 156), .int t0_8, .int t0_9, .long t0_10, .long t0_11, .int t0_12, .int t0_13])) : Option (Nat × va_E)) := hO39
      replace hI := n_p153 hI hu109 hO39 ⟨(by have t1 : 0 ≤ t0_1.toInt ∧ t0_1.toInt ≤ 4100 := btt0_1; omega), (by have t1 : 0 ≤ t0_1.toInt ∧ t0_1.toInt ≤ 4100 := btt0_1; omega)⟩ ⟨(by have t1 : 0 ≤ t0_4.toInt ∧ t0_4.toInt ≤ 1 := btt0_4; omega), (by have t1 : 0 ≤ t0_4.toInt ∧ t0_4.toInt ≤ 1 := btt0_4; omega)⟩ ⟨(by have t1 : 0 ≤ t0_13.toInt ∧ t0_13.toInt ≤ 1 := btt0_13; omega), (by have t1 : 0 ≤ t0_13.toInt ∧ t0_13.toInt ≤ 1 := btt0_13; omega)⟩
      replace hO40 := (hu109 _ (by decide)).trans hO40
      replace hO41 := (hu109 _ (by decide)).trans hO41
      replace hF := q_us hF hu109 (by simp)
      refine lv_goto (tgt := 135) hx hb d_18_12_70 (by decide) ?_
      refine lv_aload_n hx hb d_18_12_135 rfl (lv_at hl 1 rfl) ?_
      refine lv_dup hx hb d_18_12_136 rfl ?_
      refine q_get (ci := 16) (j := 4) (v := .int lx29) C0 V i_TR rfl rfl hO39 (by decide) w_2144 rfl d_18_12_137 ?_
      refine lv_iconst (v := 1) hx hb d_18_12_140 (by decide) ?_
      refine lv_iadd hx hb d_18_12_141 ?_
      obtain ⟨a110, e111⟩ := q_nm (lx29 + 1 : Int32)
      refine q_ti (v := a110) e111 ?_
      refine q_put (ci := 16) (j := 4) (v := .int a110) (ty := .int) C0 V i_TR o_TR n_TR rfl rfl hO39 (by decide) w_2144 rfl rfl rfl rfl (Nat.le_of_ble_eq_true rfl) d_18_12_142 (fun H locs w112 hu113 hO39 V => ?_)
      replace hO39 : w112[153]? = (some (q 153, .inr (16, [.int t0_0, .ref (q 154), .int t0_1, .int t0_2, .int a110, .int t0_4, .ref (q 155), .int a105, .int lx30, .long t0_7, .ref (q 156), .int t0_8, .int t0_9, .long t0_10, .long t0_11, .int t0_12, .int t0_13])) : Option (Nat × va_E)) := hO39
      replace hI := n_p153 hI hu113 hO39 ⟨(by have t1 : 0 ≤ t0_1.toInt ∧ t0_1.toInt ≤ 4100 := btt0_1; omega), (by have t1 : 0 ≤ t0_1.toInt ∧ t0_1.toInt ≤ 4100 := btt0_1; omega)⟩ ⟨(by have t1 : 0 ≤ t0_4.toInt ∧ t0_4.toInt ≤ 1 := btt0_4; omega), (by have t1 : 0 ≤ t0_4.toInt ∧ t0_4.toInt ≤ 1 := btt0_4; omega)⟩ ⟨(by have t1 : 0 ≤ t0_13.toInt ∧ t0_13.toInt ≤ 1 := btt0_13; omega), (by have t1 : 0 ≤ t0_13.toInt ∧ t0_13.toInt ≤ 1 := btt0_13; omega)⟩
      replace hO40 := (hu113 _ (by decide)).trans hO40
      replace hO41 := (hu113 _ (by decide)).trans hO41
      replace hF := q_us hF hu113 (by simp)
      refine lv_goto (tgt := 10) hx hb d_18_12_145 (by decide) ?_
      exact ih37 ((fm46 : Nat), (a110 : Int32), (lx30 : Int32), (a105 : Int32), (f103 : (Nat → Int32))) _ _ _ _ (Nat.lt_succ_self _) ⟨(show q_F (0 ≤ lx30.toInt + 1) from (show 0 ≤ lx30.toInt + 1 from by have t1 : 0 ≤ lx30.toInt + 1 := i33; omega)), (show q_F (lx30.toInt ≤ 4100) from (show lx30.toInt ≤ 4100 from by have t1 : lx30.toInt ≤ 4100 := i34; omega)), (show q_F (0 ≤ a105.toInt) from (show 0 ≤ a105.toInt from by have t1 : 0 ≤ lx31.toInt := i35; have t2 : a105.toInt = lx31.toInt + 1 := b107; omega)), (show q_F (a105.toInt ≤ 4100) from (show a105.toInt ≤ 4100 from by have t1 : lx31.toInt ≤ 4099 := ob100; have t2 : a105.toInt = lx31.toInt + 1 := b107; omega)), V, q_lw hl (q_lw1 1 rfl (q_lw1 2 rfl q_lw0)), hI, hF, hO39, hO40, hO41, (show F_TR_digits_L10 x2 t0_0 t0_1 t0_2 t0_3 t0_4 t0_5 t0_6 t0_7 t0_8 t0_9 t0_10 t0_11 t0_12 t0_13 t1_0 t2_0 fm46 a110 lx30 a105 f103 = (F_TR_digits x2 t0_0 t0_1 t0_2 t0_3 t0_4 t0_5 t0_6 t0_7 t0_8 t0_9 t0_10 t0_11 t0_12 t0_13 t1_0 t2_0) from Eq.trans (by rw [← e111, ← e106, ← e104, F_TR_digits_J45.eq_1, if_neg c57]) hR52), (show True ∧ S_TR_digits_L10 x2 t0_0 t0_1 t0_2 t0_3 t0_4 t0_5 t0_6 t0_7 t0_8 t0_9 t0_10 t0_11 t0_12 t0_13 t1_0 t2_0 fm46 a110 lx30 a105 f103 from (by rw [← e111, ← e106, ← e104]; have h := hS53; rw [S_TR_digits_J45.eq_1] at h; rw [if_neg c57] at h; replace h := q_s2 h; with_reducible exact h))⟩
  ·
    intro J51
    refine lv_if_eq (tgt := 24) hx hb d_18_12_11 (by decide) (fun c114 => ?_) (fun c114 => ?_)
    ·
      have b115 : q_F (x2.toInt = 0) := (q_eqI c114)
      refine lv_aload_n hx hb d_18_12_24 rfl (lv_at hl 0 rfl) ?_
      have ob116 : True ∧ S_TR_here t0_0 t0_1 t0_2 lx29 t0_4 lx31 lx30 t0_7 t0_8 t0_9 t0_10 t0_11 t0_12 t0_13 t1_0 := (by have h := hS43; rw [S_TR_digits_L10.eq_2] at h; rw [if_pos c114] at h; with_reducible exact h.2.1)
      refine q_goi V (q_runV (As := []) (rest := []) (d := 1) (mc := 0) (ms := 0) (ci := 16) C0 V rfl LV_TR_35 (X_TR_here l D g q w38   hI t0_0 t0_1 t0_2 lx29 t0_4 lx31 lx30 t0_7 t0_8 t0_9 t0_10 t0_11 t0_12 t0_13 hO39 t1_0 hO40 ob116 _) rfl rfl hO39 rfl hl.1 rfl (Nat.le_of_ble_eq_true rfl) ⟨by decide, by decide⟩ ⟨Nat.le_of_ble_eq_true rfl, Nat.le_of_ble_eq_true rfl⟩ d_18_12_25) (fun a119 u117 H locs hp118 V => ?_)
      obtain ⟨rfl, hE120⟩ := hp118
      have e121 : a119 = (F_TR_here t0_0 t0_1 t0_2 lx29 t0_4 lx31 lx30 t0_7 t0_8 t0_9 t0_10 t0_11 t0_12 t0_13 t1_0) := hE120
      refine q_goi V (q_runS (As := [.int a119]) (rest := []) (d := 1) (mc := 0) (ms := 0) C0 V rfl LS_TR_31 (X_TR_isDigit l D g q w38  a119 hI   _) rfl hl.1 rfl (Nat.le_of_ble_eq_true rfl) ⟨by decide, by decide⟩ ⟨Nat.le_of_ble_eq_true rfl, Nat.le_of_ble_eq_true rfl⟩ d_18_12_28) (fun a124 u122 H locs hp123 V => ?_)
      obtain ⟨rfl, b125, b126, hE127⟩ := hp123
      have e128 : a124 = (F_TR_isDigit a119) := hE127
      replace b125 : q_F (0 ≤ a124.toInt) := b125
      replace b126 : q_F (a124.toInt ≤ 1) := b126
      refine lv_if_eq (tgt := 44) hx hb d_18_12_31 (by decide) (fun c129 => ?_) (fun c129 => ?_)
      ·
        have b130 : q_F (a124.toInt = 0) := (q_eqI c129)
        refine lv_iconst (v := (-1)) hx hb d_18_12_44 (by decide) ?_
        exact J51 (((-1) : Int32)) _ _ _ w38 ⟨V, q_lw hl (q_lw1 0 rfl (q_lw1 1 rfl q_lw0)), (show F_TR_digits_J45 (F_TR_digits_L10 x2 t0_0 t0_1 t0_2 t0_3 t0_4 t0_5 t0_6 t0_7 t0_8 t0_9 t0_10 t0_11 t0_12 t0_13 t1_0 t2_0 fm46) x2 t0_0 t0_1 t0_2 t0_3 t0_4 t0_5 t0_6 t0_7 t0_8 t0_9 t0_10 t0_11 t0_12 t0_13 t1_0 t2_0 lx29 lx30 lx31 lx32 (-1) = (F_TR_digits x2 t0_0 t0_1 t0_2 t0_3 t0_4 t0_5 t0_6 t0_7 t0_8 t0_9 t0_10 t0_11 t0_12 t0_13 t1_0 t2_0) from Eq.trans (by have c129x := c129; rw [e128, e121] at c129x; rw [F_TR_digits_L10.eq_2, if_pos c114, if_pos c129x]) hR42), (show True ∧ S_TR_digits_J45 (S_TR_digits_L10 x2 t0_0 t0_1 t0_2 t0_3 t0_4 t0_5 t0_6 t0_7 t0_8 t0_9 t0_10 t0_11 t0_12 t0_13 t1_0 t2_0 fm46) x2 t0_0 t0_1 t0_2 t0_3 t0_4 t0_5 t0_6 t0_7 t0_8 t0_9 t0_10 t0_11 t0_12 t0_13 t1_0 t2_0 lx29 lx30 lx31 lx32 (-1) from (by have h := hS43; rw [S_TR_digits_L10.eq_2] at h; rw [if_pos c114] at h; replace h := q_s2 h; have c129x := c129; rw [e128, e121] at c129x; rw [if_pos c129x] at h; with_reducible exact h))⟩
      ·
        have b131 : q_F (a124.toInt ≠ 0) := (q_neI c129)
        refine lv_aload_n hx hb d_18_12_34 rfl (lv_at hl 0 rfl) ?_
        have ob132 : True ∧ S_TR_here t0_0 t0_1 t0_2 lx29 t0_4 lx31 lx30 t0_7 t0_8 t0_9 t0_10 t0_11 t0_12 t0_13 t1_0 := (by have h := hS43; rw [S_TR_digits_L10.eq_2] at h; rw [if_pos c114] at h; replace h := q_s2 h; have c129x := c129; rw [e128, e121] at c129x; rw [if_neg c129x] at h; with_reducible exact h.2.1)
        refine q_goi V (q_runV (As := []) (rest := []) (d := 1) (mc := 0) (ms := 0) (ci := 16) C0 V rfl LV_TR_35 (X_TR_here l D g q w38   hI t0_0 t0_1 t0_2 lx29 t0_4 lx31 lx30 t0_7 t0_8 t0_9 t0_10 t0_11 t0_12 t0_13 hO39 t1_0 hO40 ob132 _) rfl rfl hO39 rfl hl.1 rfl (Nat.le_of_ble_eq_true rfl) ⟨by decide, by decide⟩ ⟨Nat.le_of_ble_eq_true rfl, Nat.le_of_ble_eq_true rfl⟩ d_18_12_35) (fun a135 u133 H locs hp134 V => ?_)
        obtain ⟨rfl, hE136⟩ := hp134
        have e137 : a135 = (F_TR_here t0_0 t0_1 t0_2 lx29 t0_4 lx31 lx30 t0_7 t0_8 t0_9 t0_10 t0_11 t0_12 t0_13 t1_0) := hE136
        refine lv_bipush (v := 48) hx hb d_18_12_38 (by decide) ?_
        refine lv_isub hx hb d_18_12_40 ?_
        obtain ⟨a138, e139⟩ := q_nm (a135 - 48 : Int32)
        refine q_ti (v := a138) e139 ?_
        refine lv_goto (tgt := 45) hx hb d_18_12_41 (by decide) ?_
        exact J51 ((a138 : Int32)) _ _ _ w38 ⟨V, q_lw hl (q_lw1 0 rfl (q_lw1 1 rfl q_lw0)), (show F_TR_digits_J45 (F_TR_digits_L10 x2 t0_0 t0_1 t0_2 t0_3 t0_4 t0_5 t0_6 t0_7 t0_8 t0_9 t0_10 t0_11 t0_12 t0_13 t1_0 t2_0 fm46) x2 t0_0 t0_1 t0_2 t0_3 t0_4 t0_5 t0_6 t0_7 t0_8 t0_9 t0_10 t0_11 t0_12 t0_13 t1_0 t2_0 lx29 lx30 lx31 lx32 a138 = (F_TR_digits x2 t0_0 t0_1 t0_2 t0_3 t0_4 t0_5 t0_6 t0_7 t0_8 t0_9 t0_10 t0_11 t0_12 t0_13 t1_0 t2_0) from Eq.trans (by have c129x := c129; rw [e128, e121] at c129x; rw [← e139, e137, F_TR_digits_L10.eq_2, if_pos c114, if_neg c129x]) hR42), (show True ∧ S_TR_digits_J45 (S_TR_digits_L10 x2 t0_0 t0_1 t0_2 t0_3 t0_4 t0_5 t0_6 t0_7 t0_8 t0_9 t0_10 t0_11 t0_12 t0_13 t1_0 t2_0 fm46) x2 t0_0 t0_1 t0_2 t0_3 t0_4 t0_5 t0_6 t0_7 t0_8 t0_9 t0_10 t0_11 t0_12 t0_13 t1_0 t2_0 lx29 lx30 lx31 lx32 a138 from (by rw [← e139, e137]; have h := hS43; rw [S_TR_digits_L10.eq_2] at h; rw [if_pos c114] at h; replace h := q_s2 h; have c129x := c129; rw [e128, e121] at c129x; rw [if_neg c129x] at h; replace h := q_s2 h; with_reducible exact h))⟩
    ·
      have b140 : q_F (x2.toInt ≠ 0) := (q_neI c114)
      refine lv_aload_n hx hb d_18_12_14 rfl (lv_at hl 0 rfl) ?_
      have ob141 : True ∧ S_TR_here t0_0 t0_1 t0_2 lx29 t0_4 lx31 lx30 t0_7 t0_8 t0_9 t0_10 t0_11 t0_12 t0_13 t1_0 := (by have h := hS43; rw [S_TR_digits_L10.eq_2] at h; rw [if_neg c114] at h; with_reducible exact h.2.1)
      refine q_goi V (q_runV (As := []) (rest := []) (d := 1) (mc := 0) (ms := 0) (ci := 16) C0 V rfl LV_TR_35 (X_TR_here l D g q w38   hI t0_0 t0_1 t0_2 lx29 t0_4 lx31 lx30 t0_7 t0_8 t0_9 t0_10 t0_11 t0_12 t0_13 hO39 t1_0 hO40 ob141 _) rfl rfl hO39 rfl hl.1 rfl (Nat.le_of_ble_eq_true rfl) ⟨by decide, by decide⟩ ⟨Nat.le_of_ble_eq_true rfl, Nat.le_of_ble_eq_true rfl⟩ d_18_12_15) (fun a144 u142 H locs hp143 V => ?_)
      obtain ⟨rfl, hE145⟩ := hp143
      have e146 : a144 = (F_TR_here t0_0 t0_1 t0_2 lx29 t0_4 lx31 lx30 t0_7 t0_8 t0_9 t0_10 t0_11 t0_12 t0_13 t1_0) := hE145
      refine q_goi V (q_runS (As := [.int a144]) (rest := []) (d := 2) (mc := 0) (ms := 0) C0 V rfl LS_TR_45 (X_TR_hex l D g q w38  a144 hI   _) rfl hl.1 rfl (Nat.le_of_ble_eq_true rfl) ⟨by decide, by decide⟩ ⟨Nat.le_of_ble_eq_true rfl, Nat.le_of_ble_eq_true rfl⟩ d_18_12_18) (fun a149 u147 H locs hp148 V => ?_)
      obtain ⟨rfl, hE150⟩ := hp148
      have e151 : a149 = (F_TR_hex a144) := hE150
      refine lv_goto (tgt := 45) hx hb d_18_12_21 (by decide) ?_
      exact J51 ((a149 : Int32)) _ _ _ w38 ⟨V, q_lw hl (q_lw1 0 rfl (q_lw1 1 rfl q_lw0)), (show F_TR_digits_J45 (F_TR_digits_L10 x2 t0_0 t0_1 t0_2 t0_3 t0_4 t0_5 t0_6 t0_7 t0_8 t0_9 t0_10 t0_11 t0_12 t0_13 t1_0 t2_0 fm46) x2 t0_0 t0_1 t0_2 t0_3 t0_4 t0_5 t0_6 t0_7 t0_8 t0_9 t0_10 t0_11 t0_12 t0_13 t1_0 t2_0 lx29 lx30 lx31 lx32 a149 = (F_TR_digits x2 t0_0 t0_1 t0_2 t0_3 t0_4 t0_5 t0_6 t0_7 t0_8 t0_9 t0_10 t0_11 t0_12 t0_13 t1_0 t2_0) from Eq.trans (by rw [e151, e146, F_TR_digits_L10.eq_2, if_neg c114]) hR42), (show True ∧ S_TR_digits_J45 (S_TR_digits_L10 x2 t0_0 t0_1 t0_2 t0_3 t0_4 t0_5 t0_6 t0_7 t0_8 t0_9 t0_10 t0_11 t0_12 t0_13 t1_0 t2_0 fm46) x2 t0_0 t0_1 t0_2 t0_3 t0_4 t0_5 t0_6 t0_7 t0_8 t0_9 t0_10 t0_11 t0_12 t0_13 t1_0 t2_0 lx29 lx30 lx31 lx32 a149 from (by rw [e151, e146]; have h := hS43; rw [S_TR_digits_L10.eq_2] at h; rw [if_neg c114] at h; replace h := q_s2 h; with_reducible exact h))⟩
