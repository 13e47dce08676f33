def F_Pri_widen_c140 (t0_0 : Int32) (t0_1 : Int32) (t0_2 : Int32) (t0_3 : Int32) (t1_0 : Int32) (t2_0 : (Nat → Int64)) (t3_0 : Int32) (t3_1 : Int32) (t3_2 : Int32) (t3_3 : Int32) (t3_4 : Int32) (t3_5 : Int32) (t3_6 : Int32) (t4_0 : Int32) (t5_0 : (Nat → Int64)) (a30 : Int32) (p73 : (Int32 × (Nat → Int64))) (p93 : (Int32 × (Nat → Int64))) : Int32 × (Nat → Int64) := if ((F_Dir_isLarge t3_0 t3_1 t3_2 t3_3 t3_4 t3_5 t3_6) : Int32) = (0 : Int32) then (((p93.1 : Int32), (p93.2 : (Nat → Int64)))) else (((p93.1 : Int32), ((F_Pri_enlarge (11008 : Int32) (1376 : Int32) (1000000 : Int32) t4_0 (p93.1 : Int32) (p93.2 : (Nat → Int64))) : (Nat → Int64))))
def F_Pri_widen_c124 (t0_0 : Int32) (t0_1 : Int32) (t0_2 : Int32) (t0_3 : Int32) (t1_0 : Int32) (t2_0 : (Nat → Int64)) (t3_0 : Int32) (t3_1 : Int32) (t3_2 : Int32) (t3_3 : Int32) (t3_4 : Int32) (t3_5 : Int32) (t3_6 : Int32) (t4_0 : Int32) (t5_0 : (Nat → Int64)) (a30 : Int32) (p73 : (Int32 × (Nat → Int64))) : Int32 × (Nat → Int64) := F_Pri_widen_c140 t0_0 t0_1 t0_2 t0_3 t1_0 t2_0 t3_0 t3_1 t3_2 t3_3 t3_4 t3_5 t3_6 t4_0 t5_0 a30 p73 ((F_Pri_copyInto (11008 : Int32) (1376 : Int32) (1000000 : Int32) (4104 : Int32) (513 : Int32) (1000000 : Int32) (0 : Int32) t1_0 (p73.1 : Int32) (p73.2 : (Nat → Int64)) t1_0 t2_0) : (Int32 × (Nat → Int64)))
def F_Pri_widen_c114 (t0_0 : Int32) (t0_1 : Int32) (t0_2 : Int32) (t0_3 : Int32) (t1_0 : Int32) (t2_0 : (Nat → Int64)) (t3_0 : Int32) (t3_1 : Int32) (t3_2 : Int32) (t3_3 : Int32) (t3_4 : Int32) (t3_5 : Int32) (t3_6 : Int32) (t4_0 : Int32) (t5_0 : (Nat → Int64)) (a30 : Int32) (p131 : (Int32 × (Nat → Int64))) (p152 : (Int32 × (Nat → Int64))) : Int32 × (Nat → Int64) := if ((F_Dir_isLarge t3_0 t3_1 t3_2 t3_3 t3_4 t3_5 t3_6) : Int32) = (0 : Int32) then (((p152.1 : Int32), (p152.2 : (Nat → Int64)))) else (((p152.1 : Int32), ((F_Pri_enlarge (11008 : Int32) (1376 : Int32) (1000000 : Int32) t4_0 (p152.1 : Int32) (p152.2 : (Nat → Int64))) : (Nat → Int64))))
def F_Pri_widen_c107 (t0_0 : Int32) (t0_1 : Int32) (t0_2 : Int32) (t0_3 : Int32) (t1_0 : Int32) (t2_0 : (Nat → Int64)) (t3_0 : Int32) (t3_1 : Int32) (t3_2 : Int32) (t3_3 : Int32) (t3_4 : Int32) (t3_5 : Int32) (t3_6 : Int32) (t4_0 : Int32) (t5_0 : (Nat → Int64)) (a30 : Int32) (p131 : (Int32 × (Nat → Int64))) : Int32 × (Nat → Int64) := F_Pri_widen_c114 t0_0 t0_1 t0_2 t0_3 t1_0 t2_0 t3_0 t3_1 t3_2 t3_3 t3_4 t3_5 t3_6 t4_0 t5_0 a30 p131 ((F_She_addTimes_p (11008 : Int32) (1376 : Int32) (1000000 : Int32) (32 : Int32) a30 (p131.1 : Int32) (p131.2 : (Nat → Int64))) : (Int32 × (Nat → Int64)))
def F_Pri_widen_J83 (t0_0 : Int32) (t0_1 : Int32) (t0_2 : Int32) (t0_3 : Int32) (t1_0 : Int32) (t2_0 : (Nat → Int64)) (t3_0 : Int32) (t3_1 : Int32) (t3_2 : Int32) (t3_3 : Int32) (t3_4 : Int32) (t3_5 : Int32) (t3_6 : Int32) (t4_0 : Int32) (t5_0 : (Nat → Int64)) (a30 : Int32) : Int32 × (Nat → Int64) := if ((F_Dir_has (1 : Int32) t3_0 t3_1 t3_2 t3_3 t3_4 t3_5 t3_6) : Int32) = (0 : Int32) then (F_Pri_widen_c124 t0_0 t0_1 t0_2 t0_3 t1_0 t2_0 t3_0 t3_1 t3_2 t3_3 t3_4 t3_5 t3_6 t4_0 t5_0 a30 ((F_She_addTimes_p (11008 : Int32) (1376 : Int32) (1000000 : Int32) (32 : Int32) a30 t4_0 t5_0) : (Int32 × (Nat → Int64)))) else (F_Pri_widen_c107 t0_0 t0_1 t0_2 t0_3 t1_0 t2_0 t3_0 t3_1 t3_2 t3_3 t3_4 t3_5 t3_6 t4_0 t5_0 a30 ((F_Pri_copyInto (11008 : Int32) (1376 : Int32) (1000000 : Int32) (4104 : Int32) (513 : Int32) (1000000 : Int32) (0 : Int32) t1_0 t4_0 t5_0 t1_0 t2_0) : (Int32 × (Nat → Int64))))
def F_Pri_widen_c77 (t0_0 : Int32) (t0_1 : Int32) (t0_2 : Int32) (t0_3 : Int32) (t1_0 : Int32) (t2_0 : (Nat → Int64)) (t3_0 : Int32) (t3_1 : Int32) (t3_2 : Int32) (t3_3 : Int32) (t3_4 : Int32) (t3_5 : Int32) (t3_6 : Int32) (t4_0 : Int32) (t5_0 : (Nat → Int64)) (a30 : Int32) (p195 : (Int32 × (Nat → Int64))) (p216 : (Int32 × (Nat → Int64))) (p236 : (Int32 × (Nat → Int64))) : Int32 × (Nat → Int64) := if ((F_Dir_isLarge t3_0 t3_1 t3_2 t3_3 t3_4 t3_5 t3_6) : Int32) = (0 : Int32) then (((p236.1 : Int32), (p236.2 : (Nat → Int64)))) else (((p236.1 : Int32), ((F_Pri_enlarge (11008 : Int32) (1376 : Int32) (1000000 : Int32) t4_0 (p236.1 : Int32) (p236.2 : (Nat → Int64))) : (Nat → Int64))))
def F_Pri_widen_c58 (t0_0 : Int32) (t0_1 : Int32) (t0_2 : Int32) (t0_3 : Int32) (t1_0 : Int32) (t2_0 : (Nat → Int64)) (t3_0 : Int32) (t3_1 : Int32) (t3_2 : Int32) (t3_3 : Int32) (t3_4 : Int32) (t3_5 : Int32) (t3_6 : Int32) (t4_0 : Int32) (t5_0 : (Nat → Int64)) (a30 : Int32) (p195 : (Int32 × (Nat → Int64))) (p216 : (Int32 × (Nat → Int64))) : Int32 × (Nat → Int64) := F_Pri_widen_c77 t0_0 t0_1 t0_2 t0_3 t1_0 t2_0 t3_0 t3_1 t3_2 t3_3 t3_4 t3_5 t3_6 t4_0 t5_0 a30 p195 p216 ((F_Pri_copyInto (11008 : Int32) (1376 : Int32) (1000000 : Int32) (4104 : Int32) (513 : Int32) (1000000 : Int32) t0_1 t1_0 (p216.1 : Int32) (p216.2 : (Nat → Int64)) t1_0 t2_0) : (Int32 × (Nat → Int64)))
def F_Pri_widen_c51 (t0_0 : Int32) (t0_1 : Int32) (t0_2 : Int32) (t0_3 : Int32) (t1_0 : Int32) (t2_0 : (Nat → Int64)) (t3_0 : Int32) (t3_1 : Int32) (t3_2 : Int32) (t3_3 : Int32) (t3_4 : Int32) (t3_5 : Int32) (t3_6 : Int32) (t4_0 : Int32) (t5_0 : (Nat → Int64)) (a30 : Int32) (p195 : (Int32 × (Nat → Int64))) : Int32 × (Nat → Int64) := F_Pri_widen_c58 t0_0 t0_1 t0_2 t0_3 t1_0 t2_0 t3_0 t3_1 t3_2 t3_3 t3_4 t3_5 t3_6 t4_0 t5_0 a30 p195 ((F_She_addTimes_p (11008 : Int32) (1376 : Int32) (1000000 : Int32) (48 : Int32) a30 (p195.1 : Int32) (p195.2 : (Nat → Int64))) : (Int32 × (Nat → Int64)))
def F_Pri_widen (t0_0 : Int32) (t0_1 : Int32) (t0_2 : Int32) (t0_3 : Int32) (t1_0 : Int32) (t2_0 : (Nat → Int64)) (t3_0 : Int32) (t3_1 : Int32) (t3_2 : Int32) (t3_3 : Int32) (t3_4 : Int32) (t3_5 : Int32) (t3_6 : Int32) (t4_0 : Int32) (t5_0 : (Nat → Int64)) : Int32 × (Nat → Int64) := if ((F_Dir_has (8 : Int32) t3_0 t3_1 t3_2 t3_3 t3_4 t3_5 t3_6) : Int32) = (0 : Int32) then (F_Pri_widen_J83 t0_0 t0_1 t0_2 t0_3 t1_0 t2_0 t3_0 t3_1 t3_2 t3_3 t3_4 t3_5 t3_6 t4_0 t5_0 (t3_2 - t1_0 : Int32)) else (if t0_1 = (-1 : Int32) then (F_Pri_widen_J83 t0_0 t0_1 t0_2 t0_3 t1_0 t2_0 t3_0 t3_1 t3_2 t3_3 t3_4 t3_5 t3_6 t4_0 t5_0 (t3_2 - t1_0 : Int32)) else (F_Pri_widen_c51 t0_0 t0_1 t0_2 t0_3 t1_0 t2_0 t3_0 t3_1 t3_2 t3_3 t3_4 t3_5 t3_6 t4_0 t5_0 (t3_2 - t1_0 : Int32) ((F_Pri_copyInto (11008 : Int32) (1376 : Int32) (1000000 : Int32) (4104 : Int32) (513 : Int32) (1000000 : Int32) (0 : Int32) t0_1 t4_0 t5_0 t1_0 t2_0) : (Int32 × (Nat → Int64)))))
set_option maxRecDepth 100000 in
set_option maxHeartbeats 4000000 in
theorem X_Pri_widen (l : Launch) (D : va_G) (g : Nat → ClassId) (q : Nat → Nat) (ws : va_W) (hI : q_I (nsh g q) q ws) (t0_0 : Int32) (t0_1 : Int32) (t0_2 : Int32) (t0_3 : Int32) (hT0 : ws[40]? = (some (q 40, .inr (11, [.int t0_0, .ref (q 41), .ref (q 42), .ref (q 43), .ref (q 44), .ref (q 1), .ref (q 47), .ref (q 36), .ref (q 45), .int t0_1, .int t0_2, .int t0_3])) : Option (Nat × va_E))) (t1_0 : Int32) (hT1 : ws[45]? = (some (q 45, .inr (1, [.ref (q 46), .int 4104, .int t1_0])) : Option (Nat × va_E))) (t2_0 : (Nat → Int64)) (hT2 : ws[46]? = (some (q 46, .inl (g 1, (513 : Int32).toNatClampNeg, .inr (.inl t2_0))) : Option (Nat × va_E))) (t3_0 : Int32) (t3_1 : Int32) (t3_2 : Int32) (t3_3 : Int32) (t3_4 : Int32) (t3_5 : Int32) (t3_6 : Int32) (hT3 : ws[47]? = (some (q 47, .inr (10, [.int t3_0, .int t3_1, .int t3_2, .int t3_3, .int t3_4, .int t3_5, .ref (q 1), .int t3_6])) : Option (Nat × va_E))) (t4_0 : Int32) (hT4 : ws[3]? = (some (q 3, .inr (1, [.ref (q 4), .int 11008, .int t4_0])) : Option (Nat × va_E))) (t5_0 : (Nat → Int64)) (hT5 : ws[4]? = (some (q 4, .inl (g 1, (1376 : Int32).toNatClampNeg, .inr (.inl t5_0))) : Option (Nat × va_E))) (pre0 : t4_0.toInt ≤ 20000) (pre1 : t1_0.toInt ≤ 450000) (pre2 : t0_1.toInt ≤ 300000) : q_mV l y_Pri_widen prog_9_method_15_code 4 4 0 0 D g [.ref (q 40), .ref (q 3)] ws (fun u => q_I (nsh g q) q u ∧ q_un ws u [3, 4] ∧ ∃ (u4_0 : Int32) (u5_0 : (Nat → Int64)), u[3]? = (some (q 3, .inr (1, [.ref (q 4), .int 11008, .int u4_0])) : Option (Nat × va_E)) ∧ u[4]? = (some (q 4, .inl (g 1, (1376 : Int32).toNatClampNeg, .inr (.inl u5_0))) : Option (Nat × va_E)) ∧ (u4_0.toInt ≤ t0_1.toInt + 480001) ∧ (u4_0.toInt ≤ t1_0.toInt + 330000) ∧ (t4_0.toInt ≤ u4_0.toInt) ∧ (u4_0.toInt ≤ t4_0.toInt + 760000) ∧ (u4_0, u5_0) = (F_Pri_widen t0_0 t0_1 t0_2 t0_3 t1_0 t2_0 t3_0 t3_1 t3_2 t3_3 t3_4 t3_5 t3_6 t4_0 t5_0)) := by
  intro sz
  refine q_into (by decide) (Nat.le_of_ble_eq_true rfl) ?_
  intro p e s m below meth c ls hsz C0 V hl
  have hx := C0.1
  have hb := C0.2.1
  have hZ9 := (n_w40 hI hT0).2
  obtain ⟨btt0_1, -⟩ := hZ9
  replace btt0_1 : q_F (-1 ≤ t0_1.toInt ∧ t0_1.toInt ≤ 1000000) := btt0_1
  have btt1_0 := n_shW hI (n_h45 g q) hT1
  replace btt1_0 : q_F (0 ≤ t1_0.toInt ∧ t1_0.toInt ≤ 1000000) := btt1_0
  obtain ⟨btt3_2, hZ9⟩ := n_w47 hI hT3
  obtain ⟨-, btt3_6⟩ := hZ9
  replace btt3_2 : q_F (-1 ≤ t3_2.toInt ∧ t3_2.toInt ≤ 9999) := btt3_2
  clear btt3_6
  have btt4_0 := n_shW hI (n_h3 g q) hT4
  replace btt4_0 : q_F (0 ≤ t4_0.toInt ∧ t4_0.toInt ≤ 1000000) := btt4_0
  replace pre0 : q_F (t4_0.toInt ≤ 20000) := pre0
  replace pre1 : q_F (t1_0.toInt ≤ 450000) := pre1
  replace pre2 : q_F (t0_1.toInt ≤ 300000) := pre2
  have hF : q_un ws ws [3, 4] := q_u0
  have hl : lv_has ls 4 [(0, .ref (q 40)), (1, .ref (q 3))] := hl
  refine lv_aload_n hx hb d_9_15_0 rfl (lv_at hl 1 rfl) ?_
  refine q_get (ci := 1) (j := 2) (v := .int t4_0) C0 V i_She rfl rfl hT4 (by decide) w_58 rfl d_9_15_1 ?_
  refine lv_istore_n (lv' := [(2, .int t4_0), (0, .ref (q 40)), (1, .ref (q 3))]) hx hb d_9_15_4 rfl hl (by decide) rfl (fun ls hl => ?_)
  refine lv_aload_n hx hb d_9_15_5 rfl (lv_at hl 1 rfl) ?_
  refine q_get (ci := 11) (j := 6) (v := .ref (q 47)) C0 V i_Pri rfl rfl hT0 (by decide) w_391 rfl d_9_15_6 ?_
  refine q_get (ci := 10) (j := 2) (v := .int t3_2) C0 V i_Dir rfl rfl hT3 (by decide) w_358 rfl d_9_15_9 ?_
  refine lv_aload_n hx hb d_9_15_12 rfl (lv_at hl 1 rfl) ?_
  refine q_get (ci := 11) (j := 8) (v := .ref (q 45)) C0 V i_Pri rfl rfl hT0 (by decide) w_393 rfl d_9_15_13 ?_
  refine q_get (ci := 1) (j := 2) (v := .int t1_0) C0 V i_She rfl rfl hT1 (by decide) w_58 rfl d_9_15_16 ?_
  refine lv_isub hx hb d_9_15_19 ?_
  obtain ⟨a30, e31⟩ := q_nm (t3_2 - t1_0 : Int32)
  refine q_ti (v := a30) e31 ?_
  have b32 : q_F (a30.toInt = t3_2.toInt - t1_0.toInt) := (by rw [← e31]; show (t3_2 - t1_0 : Int32).toInt = t3_2.toInt - t1_0.toInt; exact q_subI (x := t3_2.toInt) (y := t1_0.toInt) rfl rfl (by have t1 : 0 ≤ t1_0.toInt ∧ t1_0.toInt ≤ 1000000 := btt1_0; have t2 : -1 ≤ t3_2.toInt ∧ t3_2.toInt ≤ 9999 := btt3_2; omega) (by have t1 : 0 ≤ t1_0.toInt ∧ t1_0.toInt ≤ 1000000 := btt1_0; have t2 : -1 ≤ t3_2.toInt ∧ t3_2.toInt ≤ 9999 := btt3_2; omega))
  refine lv_istore_n (lv' := [(3, .int a30), (2, .int t4_0), (0, .ref (q 40)), (1, .ref (q 3))]) hx hb d_9_15_20 rfl hl (by decide) rfl (fun ls hl => ?_)
  refine lv_aload_n hx hb d_9_15_21 rfl (lv_at hl 2 rfl) ?_
  refine q_get (ci := 11) (j := 6) (v := .ref (q 47)) C0 V i_Pri rfl rfl hT0 (by decide) w_391 rfl d_9_15_22 ?_
  refine lv_bipush (v := 8) hx hb d_9_15_25 (by decide) ?_
  refine q_goi V (q_runV (As := [.int 8]) (rest := []) (d := 1) (mc := 0) (ms := 0) (ci := 10) C0 V rfl LV_Pri_144 (X_Dir_has l D g q ws  8 hI t3_0 t3_1 t3_2 t3_3 t3_4 t3_5 t3_6 hT3  _) rfl rfl hT3 rfl hl.1 rfl (Nat.le_of_ble_eq_true rfl) ⟨by decide, by decide⟩ ⟨Nat.le_of_ble_eq_true rfl, Nat.le_of_ble_eq_true rfl⟩ d_9_15_27) (fun a35 u33 H locs hp34 V => ?_)
  obtain ⟨rfl, b36, b37, hE38⟩ := hp34
  have e39 : a35 = (F_Dir_has (8 : Int32) t3_0 t3_1 t3_2 t3_3 t3_4 t3_5 t3_6) := hE38
  clear b36
  clear b37
  refine q_join (X := Unit) (fun z H locs ls _ => q_Wd D g (va_A ws sz) s ws H locs ∧ lv_has ls 4 [(3, .int a30), (2, .int t4_0), (0, .ref (q 40)), (1, .ref (q 3))] ∧ F_Pri_widen_J83 t0_0 t0_1 t0_2 t0_3 t1_0 t2_0 t3_0 t3_1 t3_2 t3_3 t3_4 t3_5 t3_6 t4_0 t5_0 a30 = (F_Pri_widen t0_0 t0_1 t0_2 t0_3 t1_0 t2_0 t3_0 t3_1 t3_2 t3_3 t3_4 t3_5 t3_6 t4_0 t5_0)) (fun z => []) 83 0 0 ?_ ?_
  ·
    rintro _ H locs ls _ ⟨V, hl, hR47⟩
    replace hl : lv_has ls 4 [(3, .int a30), (2, .int t4_0), (0, .ref (q 40)), (1, .ref (q 3))] := hl
    refine lv_aload_n hx hb d_9_15_83 rfl (lv_at hl 2 rfl) ?_
    refine q_get (ci := 11) (j := 6) (v := .ref (q 47)) C0 V i_Pri rfl rfl hT0 (by decide) w_391 rfl d_9_15_84 ?_
    refine lv_iconst (v := 1) hx hb d_9_15_87 (by decide) ?_
    refine q_goi V (q_runV (As := [.int 1]) (rest := []) (d := 1) (mc := 0) (ms := 0) (ci := 10) C0 V rfl LV_Pri_144 (X_Dir_has l D g q ws  1 hI t3_0 t3_1 t3_2 t3_3 t3_4 t3_5 t3_6 hT3  _) rfl rfl hT3 rfl hl.1 rfl (Nat.le_of_ble_eq_true rfl) ⟨by decide, by decide⟩ ⟨Nat.le_of_ble_eq_true rfl, Nat.le_of_ble_eq_true rfl⟩ d_9_15_88) (fun a54 u52 H locs hp53 V => ?_)
    obtain ⟨rfl, b55, b56, hE57⟩ := hp53
    have e58 : a54 = (F_Dir_has (1 : Int32) t3_0 t3_1 t3_2 t3_3 t3_4 t3_5 t3_6) := hE57
    clear b55
    clear b56
    refine lv_if_eq (tgt := 120) hx hb d_9_15_91 (by decide) (fun c59 => ?_) (fun c59 => ?_)
    ·
      refine lv_aload_n hx hb d_9_15_120 rfl (lv_at hl 3 rfl) ?_
      refine lv_bipush (v := 32) hx hb d_9_15_121 (by decide) ?_
      refine lv_iload_n hx hb d_9_15_123 rfl (lv_at hl 0 rfl) ?_
      refine q_gov V (q_runV (As := [.int 32, .int a30]) (rest := []) (d := 2) (mc := 0) (ms := 0) (ci := 1) C0 V rfl LV_Pri_236 (X_She_addTimes_p l D g q ws 3 11008 1376 1000000 (n_h3 g q) 32 a30 hI t4_0 hT4 t5_0 hT5 (by have y0 : (11008 : Int32).toInt = 11008 := rfl; have y1 : (1376 : Int32).toInt = 1376 := rfl; have y2 : (1000000 : Int32).toInt = 1000000 := rfl; have y3 : (32 : Int32).toInt = 32 := rfl; have t1 : 0 ≤ t1_0.toInt ∧ t1_0.toInt ≤ 1000000 := btt1_0; have t2 : -1 ≤ t3_2.toInt ∧ t3_2.toInt ≤ 9999 := btt3_2; have t3 : t4_0.toInt ≤ 20000 := pre0; have t4 : a30.toInt = t3_2.toInt - t1_0.toInt := b32; omega) (by have y0 : (11008 : Int32).toInt = 11008 := rfl; have y1 : (1376 : Int32).toInt = 1376 := rfl; have y2 : (1000000 : Int32).toInt = 1000000 := rfl; have y3 : (32 : Int32).toInt = 32 := rfl; have t1 : 0 ≤ t4_0.toInt ∧ t4_0.toInt ≤ 1000000 := btt4_0; omega) (by have y0 : (11008 : Int32).toInt = 11008 := rfl; have y1 : (1376 : Int32).toInt = 1376 := rfl; have y2 : (1000000 : Int32).toInt = 1000000 := rfl; have y3 : (32 : Int32).toInt = 32 := rfl; have t1 : 0 ≤ t1_0.toInt ∧ t1_0.toInt ≤ 1000000 := btt1_0; have t2 : -1 ≤ t3_2.toInt ∧ t3_2.toInt ≤ 9999 := btt3_2; have t3 : a30.toInt = t3_2.toInt - t1_0.toInt := b32; omega) _) rfl rfl hT4 rfl hl.1 rfl (Nat.le_of_ble_eq_true rfl) ⟨by decide, by decide⟩ ⟨Nat.le_of_ble_eq_true rfl, Nat.le_of_ble_eq_true rfl⟩ d_9_15_124) (fun u61 H locs hp62 V => ?_)
      obtain ⟨hI, hZ9⟩ := hp62
      obtain ⟨hu72, hZ9⟩ := hZ9
      obtain ⟨y64, hZ9⟩ := hZ9
      obtain ⟨f65, hZ9⟩ := hZ9
      obtain ⟨hO63, hZ9⟩ := hZ9
      obtain ⟨hA66, hZ9⟩ := hZ9
      replace hZ9 := hZ9.2.2
      obtain ⟨b69, hZ9⟩ := hZ9
      obtain ⟨b70, hE71⟩ := hZ9
      replace hO63 : u61[3]? = (some (q 3, .inr (1, [.ref (q 4), .int 11008, .int y64])) : Option (Nat × va_E)) := hO63
      replace hA66 : u61[4]? = (some (q 4, .inl (g 1, (1376 : Int32).toNatClampNeg, .inr (.inl f65))) : Option (Nat × va_E)) := hA66
      obtain ⟨p73, e74⟩ : ∃ z, z = (F_She_addTimes_p (11008 : Int32) (1376 : Int32) (1000000 : Int32) (32 : Int32) a30 t4_0 t5_0) := ⟨_, rfl⟩
      have e75 : y64 = p73.1 := congrArg (fun z => z.1) (hE71.trans e74.symm)
      have e76 : f65 = p73.2 := congrArg (fun z => z.2) (hE71.trans e74.symm)
      replace b69 : q_F (t4_0.toInt ≤ y64.toInt) := b69
      replace b70 : q_F (y64.toInt ≤ t4_0.toInt + 10000) := b70
      replace hT0 := (hu72 _ (by decide)).trans hT0
      replace hT1 := (hu72 _ (by decide)).trans hT1
      replace hT2 := (hu72 _ (by decide)).trans hT2
      replace hT3 := (hu72 _ (by decide)).trans hT3
      replace hF := q_uc hF hu72 (by first | exact (q_sk (q_mi 0 rfl) (q_sk (q_mi 1 rfl) q_s0)) | simp)
      have hR77 := (show F_Pri_widen_c124 t0_0 t0_1 t0_2 t0_3 t1_0 t2_0 t3_0 t3_1 t3_2 t3_3 t3_4 t3_5 t3_6 t4_0 t5_0 a30 p73 = (F_Pri_widen t0_0 t0_1 t0_2 t0_3 t1_0 t2_0 t3_0 t3_1 t3_2 t3_3 t3_4 t3_5 t3_6 t4_0 t5_0) from Eq.trans (by have c59x := c59; rw [e58] at c59x; rw [e74, F_Pri_widen_J83.eq_1, if_pos c59x]) hR47)
      refine lv_aload_n hx hb d_9_15_127 rfl (lv_at hl 3 rfl) ?_
      refine lv_aload_n hx hb d_9_15_128 rfl (lv_at hl 2 rfl) ?_
      refine q_get (ci := 11) (j := 8) (v := .ref (q 45)) C0 V i_Pri rfl rfl hT0 (by decide) w_393 rfl d_9_15_129 ?_
      refine lv_iconst (v := 0) hx hb d_9_15_132 (by decide) ?_
      refine lv_aload_n hx hb d_9_15_133 rfl (lv_at hl 2 rfl) ?_
      refine q_get (ci := 11) (j := 8) (v := .ref (q 45)) C0 V i_Pri rfl rfl hT0 (by decide) w_393 rfl d_9_15_134 ?_
      refine q_get (ci := 1) (j := 2) (v := .int t1_0) C0 V i_She rfl rfl hT1 (by decide) w_58 rfl d_9_15_137 ?_
      refine q_gov V (q_runS (As := [.ref (q 3), .ref (q 45), .int 0, .int t1_0]) (rest := []) (d := 2) (mc := 0) (ms := 0) C0 V rfl LS_Pri_76 (X_Pri_copyInto l D g q u61 3 11008 1376 1000000 (n_h3 g q) 45 4104 513 1000000 (n_h45 g q) 0 t1_0 (by decide) (by decide) (by decide) hI y64 hO63 f65 hA66 t1_0 hT1 t2_0 hT2 (by have y0 : (11008 : Int32).toInt = 11008 := rfl; have y1 : (1376 : Int32).toInt = 1376 := rfl; have y2 : (1000000 : Int32).toInt = 1000000 := rfl; have y3 : (4104 : Int32).toInt = 4104 := rfl; have y4 : (513 : Int32).toInt = 513 := rfl; have y5 : (1000000 : Int32).toInt = 1000000 := rfl; have y6 : (0 : Int32).toInt = 0 := rfl; omega) (by have y0 : (11008 : Int32).toInt = 11008 := rfl; have y1 : (1376 : Int32).toInt = 1376 := rfl; have y2 : (1000000 : Int32).toInt = 1000000 := rfl; have y3 : (4104 : Int32).toInt = 4104 := rfl; have y4 : (513 : Int32).toInt = 513 := rfl; have y5 : (1000000 : Int32).toInt = 1000000 := rfl; have y6 : (0 : Int32).toInt = 0 := rfl; have t1 : 0 ≤ t1_0.toInt ∧ t1_0.toInt ≤ 1000000 := btt1_0; omega) (by have y0 : (11008 : Int32).toInt = 11008 := rfl; have y1 : (1376 : Int32).toInt = 1376 := rfl; have y2 : (1000000 : Int32).toInt = 1000000 := rfl; have y3 : (4104 : Int32).toInt = 4104 := rfl; have y4 : (513 : Int32).toInt = 513 := rfl; have y5 : (1000000 : Int32).toInt = 1000000 := rfl; have y6 : (0 : Int32).toInt = 0 := rfl; have t1 : t4_0.toInt ≤ 20000 := pre0; have t2 : t1_0.toInt ≤ 450000 := pre1; have t3 : y64.toInt ≤ t4_0.toInt + 10000 := b70; omega) _) rfl hl.1 rfl (Nat.le_of_ble_eq_true rfl) ⟨by decide, by decide⟩ ⟨Nat.le_of_ble_eq_true rfl, Nat.le_of_ble_eq_true rfl⟩ d_9_15_140) (fun u82 H locs hp83 V => ?_)
      obtain ⟨hI, hZ9⟩ := hp83
      obtain ⟨hu92, hZ9⟩ := hZ9
      obtain ⟨y85, hZ9⟩ := hZ9
      obtain ⟨f86, hZ9⟩ := hZ9
      obtain ⟨hO84, hZ9⟩ := hZ9
      obtain ⟨hA87, hZ9⟩ := hZ9
      obtain ⟨b88, hZ9⟩ := hZ9
      replace hZ9 := hZ9.2
      obtain ⟨b90, hE91⟩ := hZ9
      replace hO84 : u82[3]? = (some (q 3, .inr (1, [.ref (q 4), .int 11008, .int y85])) : Option (Nat × va_E)) := hO84
      replace hA87 : u82[4]? = (some (q 4, .inl (g 1, (1376 : Int32).toNatClampNeg, .inr (.inl f86))) : Option (Nat × va_E)) := hA87
      obtain ⟨p93, e94⟩ : ∃ z, z = (F_Pri_copyInto (11008 : Int32) (1376 : Int32) (1000000 : Int32) (4104 : Int32) (513 : Int32) (1000000 : Int32) (0 : Int32) t1_0 y64 f65 t1_0 t2_0) := ⟨_, rfl⟩
      have e95 : y85 = p93.1 := congrArg (fun z => z.1) (hE91.trans e94.symm)
      have e96 : f86 = p93.2 := congrArg (fun z => z.2) (hE91.trans e94.symm)
      replace b88 : q_F (y64.toInt ≤ y85.toInt) := b88
      replace b90 : q_F (y85.toInt ≤ y64.toInt + t1_0.toInt) := b90
      replace hT0 := (hu92 _ (by decide)).trans hT0
      replace hT3 := (hu92 _ (by decide)).trans hT3
      replace hF := q_uc hF hu92 (by first | exact (q_sk (q_mi 0 rfl) (q_sk (q_mi 1 rfl) q_s0)) | simp)
      have hR97 := (show F_Pri_widen_c140 t0_0 t0_1 t0_2 t0_3 t1_0 t2_0 t3_0 t3_1 t3_2 t3_3 t3_4 t3_5 t3_6 t4_0 t5_0 a30 p73 p93 = (F_Pri_widen t0_0 t0_1 t0_2 t0_3 t1_0 t2_0 t3_0 t3_1 t3_2 t3_3 t3_4 t3_5 t3_6 t4_0 t5_0) from Eq.trans (by rw [e94, e76, e75, F_Pri_widen_c124.eq_1]) hR77)
      refine lv_aload_n hx hb d_9_15_143 rfl (lv_at hl 2 rfl) ?_
      refine q_get (ci := 11) (j := 6) (v := .ref (q 47)) C0 V i_Pri rfl rfl hT0 (by decide) w_391 rfl d_9_15_144 ?_
      refine q_goi V (q_runV (As := []) (rest := []) (d := 1) (mc := 0) (ms := 0) (ci := 10) C0 V rfl LV_Pri_222 (X_Dir_isLarge l D g q u82   hI t3_0 t3_1 t3_2 t3_3 t3_4 t3_5 t3_6 hT3  _) rfl rfl hT3 rfl hl.1 rfl (Nat.le_of_ble_eq_true rfl) ⟨by decide, by decide⟩ ⟨Nat.le_of_ble_eq_true rfl, Nat.le_of_ble_eq_true rfl⟩ d_9_15_147) (fun a104 u102 H locs hp103 V => ?_)
      obtain ⟨rfl, b105, b106, hE107⟩ := hp103
      have e108 : a104 = (F_Dir_isLarge t3_0 t3_1 t3_2 t3_3 t3_4 t3_5 t3_6) := hE107
      clear b105
      clear b106
      refine lv_if_eq (tgt := 158) hx hb d_9_15_150 (by decide) (fun c109 => ?_) (fun c109 => ?_)
      ·
        exact q_retv C0 V (⟨hI, hF, y85, f86, hO84, hA87, (show y85.toInt ≤ t0_1.toInt + 480001 from (by have t1 : -1 ≤ t0_1.toInt ∧ t0_1.toInt ≤ 1000000 := btt0_1; have t2 : t4_0.toInt ≤ 20000 := pre0; have t3 : t1_0.toInt ≤ 450000 := pre1; have t4 : y64.toInt ≤ t4_0.toInt + 10000 := b70; have t5 : y85.toInt ≤ y64.toInt + t1_0.toInt := b90; omega)), (show y85.toInt ≤ t1_0.toInt + 330000 from (by have t1 : t4_0.toInt ≤ 20000 := pre0; have t2 : y64.toInt ≤ t4_0.toInt + 10000 := b70; have t3 : y85.toInt ≤ y64.toInt + t1_0.toInt := b90; omega)), (show t4_0.toInt ≤ y85.toInt from (by have t1 : t4_0.toInt ≤ y64.toInt := b69; have t2 : y64.toInt ≤ y85.toInt := b88; omega)), (show y85.toInt ≤ t4_0.toInt + 760000 from (by have t1 : t1_0.toInt ≤ 450000 := pre1; have t2 : y64.toInt ≤ t4_0.toInt + 10000 := b70; have t3 : y85.toInt ≤ y64.toInt + t1_0.toInt := b90; omega)), (show (y85, f86) = (F_Pri_widen t0_0 t0_1 t0_2 t0_3 t1_0 t2_0 t3_0 t3_1 t3_2 t3_3 t3_4 t3_5 t3_6 t4_0 t5_0) from Eq.trans (by have c109x := c109; rw [e108] at c109x; rw [e96, e95, F_Pri_widen_c140.eq_1, if_pos c109x]) hR97)⟩) d_9_15_158
      ·
        refine lv_aload_n hx hb d_9_15_153 rfl (lv_at hl 3 rfl) ?_
        refine lv_iload_n hx hb d_9_15_154 rfl (lv_at hl 1 rfl) ?_
        refine q_gov V (q_runS (As := [.ref (q 3), .int t4_0]) (rest := []) (d := 3) (mc := 0) (ms := 0) C0 V rfl LS_Pri_239 (X_Pri_enlarge l D g q u82 3 11008 1376 1000000 (n_h3 g q) t4_0 hI y85 hO84 f86 hA87  _) rfl hl.1 rfl (Nat.le_of_ble_eq_true rfl) ⟨by decide, by decide⟩ ⟨Nat.le_of_ble_eq_true rfl, Nat.le_of_ble_eq_true rfl⟩ d_9_15_155) (fun u112 H locs hp113 V => ?_)
        obtain ⟨hI, hu117, f114, hA115, hE116⟩ := hp113
        replace hA115 : u112[4]? = (some (q 4, .inl (g 1, (1376 : Int32).toNatClampNeg, .inr (.inl f114))) : Option (Nat × va_E)) := hA115
        have e118 : f114 = (F_Pri_enlarge (11008 : Int32) (1376 : Int32) (1000000 : Int32) t4_0 y85 f86) := hE116
        replace hO84 := (hu117 _ (by decide)).trans hO84
        replace hF := q_uc hF hu117 (by simp)
        exact q_retv C0 V (⟨hI, hF, y85, f114, hO84, hA115, (show y85.toInt ≤ t0_1.toInt + 480001 from (by have t1 : -1 ≤ t0_1.toInt ∧ t0_1.toInt ≤ 1000000 := btt0_1; have t2 : t4_0.toInt ≤ 20000 := pre0; have t3 : t1_0.toInt ≤ 450000 := pre1; have t4 : y64.toInt ≤ t4_0.toInt + 10000 := b70; have t5 : y85.toInt ≤ y64.toInt + t1_0.toInt := b90; omega)), (show y85.toInt ≤ t1_0.toInt + 330000 from (by have t1 : t4_0.toInt ≤ 20000 := pre0; have t2 : y64.toInt ≤ t4_0.toInt + 10000 := b70; have t3 : y85.toInt ≤ y64.toInt + t1_0.toInt := b90; omega)), (show t4_0.toInt ≤ y85.toInt from (by have t1 : t4_0.toInt ≤ y64.toInt := b69; have t2 : y64.toInt ≤ y85.toInt := b88; omega)), (show y85.toInt ≤ t4_0.toInt + 760000 from (by have t1 : t1_0.toInt ≤ 450000 := pre1; have t2 : y64.toInt ≤ t4_0.toInt + 10000 := b70; have t3 : y85.toInt ≤ y64.toInt + t1_0.toInt := b90; omega)), (show (y85, f114) = (F_Pri_widen t0_0 t0_1 t0_2 t0_3 t1_0 t2_0 t3_0 t3_1 t3_2 t3_3 t3_4 t3_5 t3_6 t4_0 t5_0) from Eq.trans (by have c109x := c109; rw [e108] at c109x; rw [e118, e96, e95, F_Pri_widen_c140.eq_1, if_neg c109x]) hR97)⟩) d_9_15_158
    ·
      refine lv_aload_n hx hb d_9_15_94 rfl (lv_at hl 3 rfl) ?_
      refine lv_aload_n hx hb d_9_15_95 rfl (lv_at hl 2 rfl) ?_
      refine q_get (ci := 11) (j := 8) (v := .ref (q 45)) C0 V i_Pri rfl rfl hT0 (by decide) w_393 rfl d_9_15_96 ?_
      refine lv_iconst (v := 0) hx hb d_9_15_99 (by decide) ?_
      refine lv_aload_n hx hb d_9_15_100 rfl (lv_at hl 2 rfl) ?_
      refine q_get (ci := 11) (j := 8) (v := .ref (q 45)) C0 V i_Pri rfl rfl hT0 (by decide) w_393 rfl d_9_15_101 ?_
      refine q_get (ci := 1) (j := 2) (v := .int t1_0) C0 V i_She rfl rfl hT1 (by decide) w_58 rfl d_9_15_104 ?_
      refine q_gov V (q_runS (As := [.ref (q 3), .ref (q 45), .int 0, .int t1_0]) (rest := []) (d := 2) (mc := 0) (ms := 0) C0 V rfl LS_Pri_76 (X_Pri_copyInto l D g q ws 3 11008 1376 1000000 (n_h3 g q) 45 4104 513 1000000 (n_h45 g q) 0 t1_0 (by decide) (by decide) (by decide) hI t4_0 hT4 t5_0 hT5 t1_0 hT1 t2_0 hT2 (by have y0 : (11008 : Int32).toInt = 11008 := rfl; have y1 : (1376 : Int32).toInt = 1376 := rfl; have y2 : (1000000 : Int32).toInt = 1000000 := rfl; have y3 : (4104 : Int32).toInt = 4104 := rfl; have y4 : (513 : Int32).toInt = 513 := rfl; have y5 : (1000000 : Int32).toInt = 1000000 := rfl; have y6 : (0 : Int32).toInt = 0 := rfl; omega) (by have y0 : (11008 : Int32).toInt = 11008 := rfl; have y1 : (1376 : Int32).toInt = 1376 := rfl; have y2 : (1000000 : Int32).toInt = 1000000 := rfl; have y3 : (4104 : Int32).toInt = 4104 := rfl; have y4 : (513 : Int32).toInt = 513 := rfl; have y5 : (1000000 : Int32).toInt = 1000000 := rfl; have y6 : (0 : Int32).toInt = 0 := rfl; have t1 : 0 ≤ t1_0.toInt ∧ t1_0.toInt ≤ 1000000 := btt1_0; omega) (by have y0 : (11008 : Int32).toInt = 11008 := rfl; have y1 : (1376 : Int32).toInt = 1376 := rfl; have y2 : (1000000 : Int32).toInt = 1000000 := rfl; have y3 : (4104 : Int32).toInt = 4104 := rfl; have y4 : (513 : Int32).toInt = 513 := rfl; have y5 : (1000000 : Int32).toInt = 1000000 := rfl; have y6 : (0 : Int32).toInt = 0 := rfl; have t1 : t4_0.toInt ≤ 20000 := pre0; have t2 : t1_0.toInt ≤ 450000 := pre1; omega) _) rfl hl.1 rfl (Nat.le_of_ble_eq_true rfl) ⟨by decide, by decide⟩ ⟨Nat.le_of_ble_eq_true rfl, Nat.le_of_ble_eq_true rfl⟩ d_9_15_107) (fun u120 H locs hp121 V => ?_)
      obtain ⟨hI, hZ9⟩ := hp121
      obtain ⟨hu130, hZ9⟩ := hZ9
      obtain ⟨y123, hZ9⟩ := hZ9
      obtain ⟨f124, hZ9⟩ := hZ9
      obtain ⟨hO122, hZ9⟩ := hZ9
      obtain ⟨hA125, hZ9⟩ := hZ9
      obtain ⟨b126, hZ9⟩ := hZ9
      obtain ⟨b127, hZ9⟩ := hZ9
      obtain ⟨b128, hE129⟩ := hZ9
      replace hO122 : u120[3]? = (some (q 3, .inr (1, [.ref (q 4), .int 11008, .int y123])) : Option (Nat × va_E)) := hO122
      replace hA125 : u120[4]? = (some (q 4, .inl (g 1, (1376 : Int32).toNatClampNeg, .inr (.inl f124))) : Option (Nat × va_E)) := hA125
      obtain ⟨p131, e132⟩ : ∃ z, z = (F_Pri_copyInto (11008 : Int32) (1376 : Int32) (1000000 : Int32) (4104 : Int32) (513 : Int32) (1000000 : Int32) (0 : Int32) t1_0 t4_0 t5_0 t1_0 t2_0) := ⟨_, rfl⟩
      have e133 : y123 = p131.1 := congrArg (fun z => z.1) (hE129.trans e132.symm)
      have e134 : f124 = p131.2 := congrArg (fun z => z.2) (hE129.trans e132.symm)
      replace b126 : q_F (t4_0.toInt ≤ y123.toInt) := b126
      replace b127 : q_F (y123.toInt ≤ 1000000) := b127
      replace b128 : q_F (y123.toInt ≤ t4_0.toInt + t1_0.toInt) := b128
      replace hT0 := (hu130 _ (by decide)).trans hT0
      replace hT3 := (hu130 _ (by decide)).trans hT3
      replace hF := q_uc hF hu130 (by first | exact (q_sk (q_mi 0 rfl) (q_sk (q_mi 1 rfl) q_s0)) | simp)
      have hR135 := (show F_Pri_widen_c107 t0_0 t0_1 t0_2 t0_3 t1_0 t2_0 t3_0 t3_1 t3_2 t3_3 t3_4 t3_5 t3_6 t4_0 t5_0 a30 p131 = (F_Pri_widen t0_0 t0_1 t0_2 t0_3 t1_0 t2_0 t3_0 t3_1 t3_2 t3_3 t3_4 t3_5 t3_6 t4_0 t5_0) from Eq.trans (by have c59x := c59; rw [e58] at c59x; rw [e132, F_Pri_widen_J83.eq_1, if_neg c59x]) hR47)
      refine lv_aload_n hx hb d_9_15_110 rfl (lv_at hl 3 rfl) ?_
      refine lv_bipush (v := 32) hx hb d_9_15_111 (by decide) ?_
      refine lv_iload_n hx hb d_9_15_113 rfl (lv_at hl 0 rfl) ?_
      refine q_gov V (q_runV (As := [.int 32, .int a30]) (rest := []) (d := 2) (mc := 0) (ms := 0) (ci := 1) C0 V rfl LV_Pri_236 (X_She_addTimes_p l D g q u120 3 11008 1376 1000000 (n_h3 g q) 32 a30 hI y123 hO122 f124 hA125 (by have y0 : (11008 : Int32).toInt = 11008 := rfl; have y1 : (1376 : Int32).toInt = 1376 := rfl; have y2 : (1000000 : Int32).toInt = 1000000 := rfl; have y3 : (32 : Int32).toInt = 32 := rfl; have t1 : -1 ≤ t3_2.toInt ∧ t3_2.toInt ≤ 9999 := btt3_2; have t2 : t4_0.toInt ≤ 20000 := pre0; have t3 : a30.toInt = t3_2.toInt - t1_0.toInt := b32; have t4 : y123.toInt ≤ t4_0.toInt + t1_0.toInt := b128; omega) (by have y0 : (11008 : Int32).toInt = 11008 := rfl; have y1 : (1376 : Int32).toInt = 1376 := rfl; have y2 : (1000000 : Int32).toInt = 1000000 := rfl; have y3 : (32 : Int32).toInt = 32 := rfl; have t1 : y123.toInt ≤ 1000000 := b127; omega) (by have y0 : (11008 : Int32).toInt = 11008 := rfl; have y1 : (1376 : Int32).toInt = 1376 := rfl; have y2 : (1000000 : Int32).toInt = 1000000 := rfl; have y3 : (32 : Int32).toInt = 32 := rfl; have t1 : 0 ≤ t1_0.toInt ∧ t1_0.toInt ≤ 1000000 := btt1_0; have t2 : -1 ≤ t3_2.toInt ∧ t3_2.toInt ≤ 9999 := btt3_2; have t3 : a30.toInt = t3_2.toInt - t1_0.toInt := b32; omega) _) rfl rfl hO122 rfl hl.1 rfl (Nat.le_of_ble_eq_true rfl) ⟨by decide, by decide⟩ ⟨Nat.le_of_ble_eq_true rfl, Nat.le_of_ble_eq_true rfl⟩ d_9_15_114) (fun u140 H locs hp141 V => ?_)
      obtain ⟨hI, hZ9⟩ := hp141
      obtain ⟨hu151, hZ9⟩ := hZ9
      obtain ⟨y143, hZ9⟩ := hZ9
      obtain ⟨f144, hZ9⟩ := hZ9
      obtain ⟨hO142, hZ9⟩ := hZ9
      obtain ⟨hA145, hZ9⟩ := hZ9
      replace hZ9 := hZ9.2.2
      obtain ⟨b148, hZ9⟩ := hZ9
      obtain ⟨b149, hE150⟩ := hZ9
      replace hO142 : u140[3]? = (some (q 3, .inr (1, [.ref (q 4), .int 11008, .int y143])) : Option (Nat × va_E)) := hO142
      replace hA145 : u140[4]? = (some (q 4, .inl (g 1, (1376 : Int32).toNatClampNeg, .inr (.inl f144))) : Option (Nat × va_E)) := hA145
      obtain ⟨p152, e153⟩ : ∃ z, z = (F_She_addTimes_p (11008 : Int32) (1376 : Int32) (1000000 : Int32) (32 : Int32) a30 y123 f124) := ⟨_, rfl⟩
      have e154 : y143 = p152.1 := congrArg (fun z => z.1) (hE150.trans e153.symm)
      have e155 : f144 = p152.2 := congrArg (fun z => z.2) (hE150.trans e153.symm)
      replace b148 : q_F (y123.toInt ≤ y143.toInt) := b148
      replace b149 : q_F (y143.toInt ≤ y123.toInt + 10000) := b149
      replace hT0 := (hu151 _ (by decide)).trans hT0
      replace hT3 := (hu151 _ (by decide)).trans hT3
      replace hF := q_uc hF hu151 (by first | exact (q_sk (q_mi 0 rfl) (q_sk (q_mi 1 rfl) q_s0)) | simp)
      have hR156 := (show F_Pri_widen_c114 t0_0 t0_1 t0_2 t0_3 t1_0 t2_0 t3_0 t3_1 t3_2 t3_3 t3_4 t3_5 t3_6 t4_0 t5_0 a30 p131 p152 = (F_Pri_widen t0_0 t0_1 t0_2 t0_3 t1_0 t2_0 t3_0 t3_1 t3_2 t3_3 t3_4 t3_5 t3_6 t4_0 t5_0) from Eq.trans (by rw [e153, e134, e133, F_Pri_widen_c107.eq_1]) hR135)
      refine lv_goto (tgt := 143) hx hb d_9_15_117 (by decide) ?_
      refine lv_aload_n hx hb d_9_15_143 rfl (lv_at hl 2 rfl) ?_
      refine q_get (ci := 11) (j := 6) (v := .ref (q 47)) C0 V i_Pri rfl rfl hT0 (by decide) w_391 rfl d_9_15_144 ?_
      refine q_goi V (q_runV (As := []) (rest := []) (d := 1) (mc := 0) (ms := 0) (ci := 10) C0 V rfl LV_Pri_222 (X_Dir_isLarge l D g q u140   hI t3_0 t3_1 t3_2 t3_3 t3_4 t3_5 t3_6 hT3  _) rfl rfl hT3 rfl hl.1 rfl (Nat.le_of_ble_eq_true rfl) ⟨by decide, by decide⟩ ⟨Nat.le_of_ble_eq_true rfl, Nat.le_of_ble_eq_true rfl⟩ d_9_15_147) (fun a163 u161 H locs hp162 V => ?_)
      obtain ⟨rfl, b164, b165, hE166⟩ := hp162
      have e167 : a163 = (F_Dir_isLarge t3_0 t3_1 t3_2 t3_3 t3_4 t3_5 t3_6) := hE166
      clear b164
      clear b165
      refine lv_if_eq (tgt := 158) hx hb d_9_15_150 (by decide) (fun c168 => ?_) (fun c168 => ?_)
      ·
        exact q_retv C0 V (⟨hI, hF, y143, f144, hO142, hA145, (show y143.toInt ≤ t0_1.toInt + 480001 from (by have t1 : -1 ≤ t0_1.toInt ∧ t0_1.toInt ≤ 1000000 := btt0_1; have t2 : t4_0.toInt ≤ 20000 := pre0; have t3 : t1_0.toInt ≤ 450000 := pre1; have t4 : y123.toInt ≤ t4_0.toInt + t1_0.toInt := b128; have t5 : y143.toInt ≤ y123.toInt + 10000 := b149; omega)), (show y143.toInt ≤ t1_0.toInt + 330000 from (by have t1 : t4_0.toInt ≤ 20000 := pre0; have t2 : y123.toInt ≤ t4_0.toInt + t1_0.toInt := b128; have t3 : y143.toInt ≤ y123.toInt + 10000 := b149; omega)), (show t4_0.toInt ≤ y143.toInt from (by have t1 : t4_0.toInt ≤ y123.toInt := b126; have t2 : y123.toInt ≤ y143.toInt := b148; omega)), (show y143.toInt ≤ t4_0.toInt + 760000 from (by have t1 : t1_0.toInt ≤ 450000 := pre1; have t2 : y123.toInt ≤ t4_0.toInt + t1_0.toInt := b128; have t3 : y143.toInt ≤ y123.toInt + 10000 := b149; omega)), (show (y143, f144) = (F_Pri_widen t0_0 t0_1 t0_2 t0_3 t1_0 t2_0 t3_0 t3_1 t3_2 t3_3 t3_4 t3_5 t3_6 t4_0 t5_0) from Eq.trans (by have c168x := c168; rw [e167] at c168x; rw [e155, e154, F_Pri_widen_c114.eq_1, if_pos c168x]) hR156)⟩) d_9_15_158
      ·
        refine lv_aload_n hx hb d_9_15_153 rfl (lv_at hl 3 rfl) ?_
        refine lv_iload_n hx hb d_9_15_154 rfl (lv_at hl 1 rfl) ?_
        refine q_gov V (q_runS (As := [.ref (q 3), .int t4_0]) (rest := []) (d := 3) (mc := 0) (ms := 0) C0 V rfl LS_Pri_239 (X_Pri_enlarge l D g q u140 3 11008 1376 1000000 (n_h3 g q) t4_0 hI y143 hO142 f144 hA145  _) rfl hl.1 rfl (Nat.le_of_ble_eq_true rfl) ⟨by decide, by decide⟩ ⟨Nat.le_of_ble_eq_true rfl, Nat.le_of_ble_eq_true rfl⟩ d_9_15_155) (fun u171 H locs hp172 V => ?_)
        obtain ⟨hI, hu176, f173, hA174, hE175⟩ := hp172
        replace hA174 : u171[4]? = (some (q 4, .inl (g 1, (1376 : Int32).toNatClampNeg, .inr (.inl f173))) : Option (Nat × va_E)) := hA174
        have e177 : f173 = (F_Pri_enlarge (11008 : Int32) (1376 : Int32) (1000000 : Int32) t4_0 y143 f144) := hE175
        replace hO142 := (hu176 _ (by decide)).trans hO142
        replace hF := q_uc hF hu176 (by simp)
        exact q_retv C0 V (⟨hI, hF, y143, f173, hO142, hA174, (show y143.toInt ≤ t0_1.toInt + 480001 from (by have t1 : -1 ≤ t0_1.toInt ∧ t0_1.toInt ≤ 1000000 := btt0_1; have t2 : t4_0.toInt ≤ 20000 := pre0; have t3 : t1_0.toInt ≤ 450000 := pre1; have t4 : y123.toInt ≤ t4_0.toInt + t1_0.toInt := b128; have t5 : y143.toInt ≤ y123.toInt + 10000 := b149; omega)), (show y143.toInt ≤ t1_0.toInt + 330000 from (by have t1 : t4_0.toInt ≤ 20000 := pre0; have t2 : y123.toInt ≤ t4_0.toInt + t1_0.toInt := b128; have t3 : y143.toInt ≤ y123.toInt + 10000 := b149; omega)), (show t4_0.toInt ≤ y143.toInt from (by have t1 : t4_0.toInt ≤ y123.toInt := b126; have t2 : y123.toInt ≤ y143.toInt := b148; omega)), (show y143.toInt ≤ t4_0.toInt + 760000 from (by have t1 : t1_0.toInt ≤ 450000 := pre1; have t2 : y123.toInt ≤ t4_0.toInt + t1_0.toInt := b128; have t3 : y143.toInt ≤ y123.toInt + 10000 := b149; omega)), (show (y143, f173) = (F_Pri_widen t0_0 t0_1 t0_2 t0_3 t1_0 t2_0 t3_0 t3_1 t3_2 t3_3 t3_4 t3_5 t3_6 t4_0 t5_0) from Eq.trans (by have c168x := c168; rw [e167] at c168x; rw [e177, e155, e154, F_Pri_widen_c114.eq_1, if_neg c168x]) hR156)⟩) d_9_15_158
  ·
    intro J46
    refine lv_if_eq (tgt := 83) hx hb d_9_15_30 (by decide) (fun c178 => ?_) (fun c178 => ?_)
    ·
      exact J46 (()) _ _ _ ws ⟨V, q_lw hl (q_lw1 0 rfl (q_lw1 1 rfl (q_lw1 2 rfl (q_lw1 3 rfl q_lw0)))), (show F_Pri_widen_J83 t0_0 t0_1 t0_2 t0_3 t1_0 t2_0 t3_0 t3_1 t3_2 t3_3 t3_4 t3_5 t3_6 t4_0 t5_0 a30 = (F_Pri_widen t0_0 t0_1 t0_2 t0_3 t1_0 t2_0 t3_0 t3_1 t3_2 t3_3 t3_4 t3_5 t3_6 t4_0 t5_0) from (by have c178x := c178; rw [e39] at c178x; rw [← e31, F_Pri_widen.eq_1, if_pos c178x]))⟩
    ·
      refine lv_aload_n hx hb d_9_15_33 rfl (lv_at hl 2 rfl) ?_
      refine q_get (ci := 11) (j := 9) (v := .int t0_1) C0 V i_Pri rfl rfl hT0 (by decide) w_394 rfl d_9_15_34 ?_
      refine lv_iconst (v := (-1)) hx hb d_9_15_37 (by decide) ?_
      refine lv_icmp_eq (tgt := 83) hx hb d_9_15_38 (by decide) (fun c181 => ?_) (fun c181 => ?_)
      ·
        exact J46 (()) _ _ _ ws ⟨V, q_lw hl (q_lw1 0 rfl (q_lw1 1 rfl (q_lw1 2 rfl (q_lw1 3 rfl q_lw0)))), (show F_Pri_widen_J83 t0_0 t0_1 t0_2 t0_3 t1_0 t2_0 t3_0 t3_1 t3_2 t3_3 t3_4 t3_5 t3_6 t4_0 t5_0 a30 = (F_Pri_widen t0_0 t0_1 t0_2 t0_3 t1_0 t2_0 t3_0 t3_1 t3_2 t3_3 t3_4 t3_5 t3_6 t4_0 t5_0) from (by have c178x := c178; rw [e39] at c178x; rw [← e31, F_Pri_widen.eq_1, if_neg c178x, if_pos c181]))⟩
      ·
        have b183 : q_F (t0_1.toInt ≠ (-1)) := (q_neI c181)
        refine lv_aload_n hx hb d_9_15_41 rfl (lv_at hl 3 rfl) ?_
        refine lv_aload_n hx hb d_9_15_42 rfl (lv_at hl 2 rfl) ?_
        refine q_get (ci := 11) (j := 8) (v := .ref (q 45)) C0 V i_Pri rfl rfl hT0 (by decide) w_393 rfl d_9_15_43 ?_
        refine lv_iconst (v := 0) hx hb d_9_15_46 (by decide) ?_
        refine lv_aload_n hx hb d_9_15_47 rfl (lv_at hl 2 rfl) ?_
        refine q_get (ci := 11) (j := 9) (v := .int t0_1) C0 V i_Pri rfl rfl hT0 (by decide) w_394 rfl d_9_15_48 ?_
        refine q_gov V (q_runS (As := [.ref (q 3), .ref (q 45), .int 0, .int t0_1]) (rest := []) (d := 2) (mc := 0) (ms := 0) C0 V rfl LS_Pri_76 (X_Pri_copyInto l D g q ws 3 11008 1376 1000000 (n_h3 g q) 45 4104 513 1000000 (n_h45 g q) 0 t0_1 (by decide) (by decide) (by decide) hI t4_0 hT4 t5_0 hT5 t1_0 hT1 t2_0 hT2 (by have y0 : (11008 : Int32).toInt = 11008 := rfl; have y1 : (1376 : Int32).toInt = 1376 := rfl; have y2 : (1000000 : Int32).toInt = 1000000 := rfl; have y3 : (4104 : Int32).toInt = 4104 := rfl; have y4 : (513 : Int32).toInt = 513 := rfl; have y5 : (1000000 : Int32).toInt = 1000000 := rfl; have y6 : (0 : Int32).toInt = 0 := rfl; omega) (by have y0 : (11008 : Int32).toInt = 11008 := rfl; have y1 : (1376 : Int32).toInt = 1376 := rfl; have y2 : (1000000 : Int32).toInt = 1000000 := rfl; have y3 : (4104 : Int32).toInt = 4104 := rfl; have y4 : (513 : Int32).toInt = 513 := rfl; have y5 : (1000000 : Int32).toInt = 1000000 := rfl; have y6 : (0 : Int32).toInt = 0 := rfl; have t1 : -1 ≤ t0_1.toInt ∧ t0_1.toInt ≤ 1000000 := btt0_1; have t2 : t0_1.toInt ≠ (-1) := b183; omega) (by have y0 : (11008 : Int32).toInt = 11008 := rfl; have y1 : (1376 : Int32).toInt = 1376 := rfl; have y2 : (1000000 : Int32).toInt = 1000000 := rfl; have y3 : (4104 : Int32).toInt = 4104 := rfl; have y4 : (513 : Int32).toInt = 513 := rfl; have y5 : (1000000 : Int32).toInt = 1000000 := rfl; have y6 : (0 : Int32).toInt = 0 := rfl; have t1 : t4_0.toInt ≤ 20000 := pre0; have t2 : t0_1.toInt ≤ 300000 := pre2; omega) _) rfl hl.1 rfl (Nat.le_of_ble_eq_true rfl) ⟨by decide, by decide⟩ ⟨Nat.le_of_ble_eq_true rfl, Nat.le_of_ble_eq_true rfl⟩ d_9_15_51) (fun u184 H locs hp185 V => ?_)
        obtain ⟨hI, hZ9⟩ := hp185
        obtain ⟨hu194, hZ9⟩ := hZ9
        obtain ⟨y187, hZ9⟩ := hZ9
        obtain ⟨f188, hZ9⟩ := hZ9
        obtain ⟨hO186, hZ9⟩ := hZ9
        obtain ⟨hA189, hZ9⟩ := hZ9
        obtain ⟨b190, hZ9⟩ := hZ9
        obtain ⟨b191, hZ9⟩ := hZ9
        obtain ⟨b192, hE193⟩ := hZ9
        replace hO186 : u184[3]? = (some (q 3, .inr (1, [.ref (q 4), .int 11008, .int y187])) : Option (Nat × va_E)) := hO186
        replace hA189 : u184[4]? = (some (q 4, .inl (g 1, (1376 : Int32).toNatClampNeg, .inr (.inl f188))) : Option (Nat × va_E)) := hA189
        obtain ⟨p195, e196⟩ : ∃ z, z = (F_Pri_copyInto (11008 : Int32) (1376 : Int32) (1000000 : Int32) (4104 : Int32) (513 : Int32) (1000000 : Int32) (0 : Int32) t0_1 t4_0 t5_0 t1_0 t2_0) := ⟨_, rfl⟩
        have e197 : y187 = p195.1 := congrArg (fun z => z.1) (hE193.trans e196.symm)
        have e198 : f188 = p195.2 := congrArg (fun z => z.2) (hE193.trans e196.symm)
        replace b190 : q_F (t4_0.toInt ≤ y187.toInt) := b190
        replace b191 : q_F (y187.toInt ≤ 1000000) := b191
        replace b192 : q_F (y187.toInt ≤ t4_0.toInt + t0_1.toInt) := b192
        replace hT0 := (hu194 _ (by decide)).trans hT0
        replace hT1 := (hu194 _ (by decide)).trans hT1
        replace hT2 := (hu194 _ (by decide)).trans hT2
        replace hT3 := (hu194 _ (by decide)).trans hT3
        replace hF := q_uc hF hu194 (by first | exact (q_sk (q_mi 0 rfl) (q_sk (q_mi 1 rfl) q_s0)) | simp)
        have hR199 := (show F_Pri_widen_c51 t0_0 t0_1 t0_2 t0_3 t1_0 t2_0 t3_0 t3_1 t3_2 t3_3 t3_4 t3_5 t3_6 t4_0 t5_0 a30 p195 = (F_Pri_widen t0_0 t0_1 t0_2 t0_3 t1_0 t2_0 t3_0 t3_1 t3_2 t3_3 t3_4 t3_5 t3_6 t4_0 t5_0) from (by have c178x := c178; rw [e39] at c178x; rw [e196, ← e31, F_Pri_widen.eq_1, if_neg c178x, if_neg c181]))
        refine lv_aload_n hx hb d_9_15_54 rfl (lv_at hl 3 rfl) ?_
        refine lv_bipush (v := 48) hx hb d_9_15_55 (by decide) ?_
        refine lv_iload_n hx hb d_9_15_57 rfl (lv_at hl 0 rfl) ?_
        refine q_gov V (q_runV (As := [.int 48, .int a30]) (rest := []) (d := 2) (mc := 0) (ms := 0) (ci := 1) C0 V rfl LV_Pri_236 (X_She_addTimes_p l D g q u184 3 11008 1376 1000000 (n_h3 g q) 48 a30 hI y187 hO186 f188 hA189 (by have y0 : (11008 : Int32).toInt = 11008 := rfl; have y1 : (1376 : Int32).toInt = 1376 := rfl; have y2 : (1000000 : Int32).toInt = 1000000 := rfl; have y3 : (48 : Int32).toInt = 48 := rfl; have t1 : 0 ≤ t1_0.toInt ∧ t1_0.toInt ≤ 1000000 := btt1_0; have t2 : -1 ≤ t3_2.toInt ∧ t3_2.toInt ≤ 9999 := btt3_2; have t3 : t4_0.toInt ≤ 20000 := pre0; have t4 : t0_1.toInt ≤ 300000 := pre2; have t5 : a30.toInt = t3_2.toInt - t1_0.toInt := b32; have t6 : y187.toInt ≤ t4_0.toInt + t0_1.toInt := b192; omega) (by have y0 : (11008 : Int32).toInt = 11008 := rfl; have y1 : (1376 : Int32).toInt = 1376 := rfl; have y2 : (1000000 : Int32).toInt = 1000000 := rfl; have y3 : (48 : Int32).toInt = 48 := rfl; have t1 : y187.toInt ≤ 1000000 := b191; omega) (by have y0 : (11008 : Int32).toInt = 11008 := rfl; have y1 : (1376 : Int32).toInt = 1376 := rfl; have y2 : (1000000 : Int32).toInt = 1000000 := rfl; have y3 : (48 : Int32).toInt = 48 := rfl; have t1 : 0 ≤ t1_0.toInt ∧ t1_0.toInt ≤ 1000000 := btt1_0; have t2 : -1 ≤ t3_2.toInt ∧ t3_2.toInt ≤ 9999 := btt3_2; have t3 : a30.toInt = t3_2.toInt - t1_0.toInt := b32; omega) _) rfl rfl hO186 rfl hl.1 rfl (Nat.le_of_ble_eq_true rfl) ⟨by decide, by decide⟩ ⟨Nat.le_of_ble_eq_true rfl, Nat.le_of_ble_eq_true rfl⟩ d_9_15_58) (fun u204 H locs hp205 V => ?_)
        obtain ⟨hI, hZ9⟩ := hp205
        obtain ⟨hu215, hZ9⟩ := hZ9
        obtain ⟨y207, hZ9⟩ := hZ9
        obtain ⟨f208, hZ9⟩ := hZ9
        obtain ⟨hO206, hZ9⟩ := hZ9
        obtain ⟨hA209, hZ9⟩ := hZ9
        replace hZ9 := hZ9.2.2
        obtain ⟨b212, hZ9⟩ := hZ9
        obtain ⟨b213, hE214⟩ := hZ9
        replace hO206 : u204[3]? = (some (q 3, .inr (1, [.ref (q 4), .int 11008, .int y207])) : Option (Nat × va_E)) := hO206
        replace hA209 : u204[4]? = (some (q 4, .inl (g 1, (1376 : Int32).toNatClampNeg, .inr (.inl f208))) : Option (Nat × va_E)) := hA209
        obtain ⟨p216, e217⟩ : ∃ z, z = (F_She_addTimes_p (11008 : Int32) (1376 : Int32) (1000000 : Int32) (48 : Int32) a30 y187 f188) := ⟨_, rfl⟩
        have e218 : y207 = p216.1 := congrArg (fun z => z.1) (hE214.trans e217.symm)
        have e219 : f208 = p216.2 := congrArg (fun z => z.2) (hE214.trans e217.symm)
        replace b212 : q_F (y187.toInt ≤ y207.toInt) := b212
        replace b213 : q_F (y207.toInt ≤ y187.toInt + 10000) := b213
        replace hT0 := (hu215 _ (by decide)).trans hT0
        replace hT1 := (hu215 _ (by decide)).trans hT1
        replace hT2 := (hu215 _ (by decide)).trans hT2
        replace hT3 := (hu215 _ (by decide)).trans hT3
        replace hF := q_uc hF hu215 (by first | exact (q_sk (q_mi 0 rfl) (q_sk (q_mi 1 rfl) q_s0)) | simp)
        have hR220 := (show F_Pri_widen_c58 t0_0 t0_1 t0_2 t0_3 t1_0 t2_0 t3_0 t3_1 t3_2 t3_3 t3_4 t3_5 t3_6 t4_0 t5_0 a30 p195 p216 = (F_Pri_widen t0_0 t0_1 t0_2 t0_3 t1_0 t2_0 t3_0 t3_1 t3_2 t3_3 t3_4 t3_5 t3_6 t4_0 t5_0) from Eq.trans (by rw [e217, e198, e197, F_Pri_widen_c51.eq_1]) hR199)
        refine lv_aload_n hx hb d_9_15_61 rfl (lv_at hl 3 rfl) ?_
        refine lv_aload_n hx hb d_9_15_62 rfl (lv_at hl 2 rfl) ?_
        refine q_get (ci := 11) (j := 8) (v := .ref (q 45)) C0 V i_Pri rfl rfl hT0 (by decide) w_393 rfl d_9_15_63 ?_
        refine lv_aload_n hx hb d_9_15_66 rfl (lv_at hl 2 rfl) ?_
        refine q_get (ci := 11) (j := 9) (v := .int t0_1) C0 V i_Pri rfl rfl hT0 (by decide) w_394 rfl d_9_15_67 ?_
        refine lv_aload_n hx hb d_9_15_70 rfl (lv_at hl 2 rfl) ?_
        refine q_get (ci := 11) (j := 8) (v := .ref (q 45)) C0 V i_Pri rfl rfl hT0 (by decide) w_393 rfl d_9_15_71 ?_
        refine q_get (ci := 1) (j := 2) (v := .int t1_0) C0 V i_She rfl rfl hT1 (by decide) w_58 rfl d_9_15_74 ?_
        refine q_gov V (q_runS (As := [.ref (q 3), .ref (q 45), .int t0_1, .int t1_0]) (rest := []) (d := 2) (mc := 0) (ms := 0) C0 V rfl LS_Pri_76 (X_Pri_copyInto l D g q u204 3 11008 1376 1000000 (n_h3 g q) 45 4104 513 1000000 (n_h45 g q) t0_1 t1_0 (by decide) (by decide) (by decide) hI y207 hO206 f208 hA209 t1_0 hT1 t2_0 hT2 (by have y0 : (11008 : Int32).toInt = 11008 := rfl; have y1 : (1376 : Int32).toInt = 1376 := rfl; have y2 : (1000000 : Int32).toInt = 1000000 := rfl; have y3 : (4104 : Int32).toInt = 4104 := rfl; have y4 : (513 : Int32).toInt = 513 := rfl; have y5 : (1000000 : Int32).toInt = 1000000 := rfl; have t1 : -1 ≤ t0_1.toInt ∧ t0_1.toInt ≤ 1000000 := btt0_1; have t2 : t0_1.toInt ≠ (-1) := b183; omega) (by have y0 : (11008 : Int32).toInt = 11008 := rfl; have y1 : (1376 : Int32).toInt = 1376 := rfl; have y2 : (1000000 : Int32).toInt = 1000000 := rfl; have y3 : (4104 : Int32).toInt = 4104 := rfl; have y4 : (513 : Int32).toInt = 513 := rfl; have y5 : (1000000 : Int32).toInt = 1000000 := rfl; have t1 : 0 ≤ t1_0.toInt ∧ t1_0.toInt ≤ 1000000 := btt1_0; omega) (by have y0 : (11008 : Int32).toInt = 11008 := rfl; have y1 : (1376 : Int32).toInt = 1376 := rfl; have y2 : (1000000 : Int32).toInt = 1000000 := rfl; have y3 : (4104 : Int32).toInt = 4104 := rfl; have y4 : (513 : Int32).toInt = 513 := rfl; have y5 : (1000000 : Int32).toInt = 1000000 := rfl; have t1 : t4_0.toInt ≤ 20000 := pre0; have t2 : t1_0.toInt ≤ 450000 := pre1; have t3 : y187.toInt ≤ t4_0.toInt + t0_1.toInt := b192; have t4 : y207.toInt ≤ y187.toInt + 10000 := b213; omega) _) rfl hl.1 rfl (Nat.le_of_ble_eq_true rfl) ⟨by decide, by decide⟩ ⟨Nat.le_of_ble_eq_true rfl, Nat.le_of_ble_eq_true rfl⟩ d_9_15_77) (fun u225 H locs hp226 V => ?_)
        obtain ⟨hI, hZ9⟩ := hp226
        obtain ⟨hu235, hZ9⟩ := hZ9
        obtain ⟨y228, hZ9⟩ := hZ9
        obtain ⟨f229, hZ9⟩ := hZ9
        obtain ⟨hO227, hZ9⟩ := hZ9
        obtain ⟨hA230, hZ9⟩ := hZ9
        obtain ⟨b231, hZ9⟩ := hZ9
        replace hZ9 := hZ9.2
        obtain ⟨b233, hE234⟩ := hZ9
        replace hO227 : u225[3]? = (some (q 3, .inr (1, [.ref (q 4), .int 11008, .int y228])) : Option (Nat × va_E)) := hO227
        replace hA230 : u225[4]? = (some (q 4, .inl (g 1, (1376 : Int32).toNatClampNeg, .inr (.inl f229))) : Option (Nat × va_E)) := hA230
        obtain ⟨p236, e237⟩ : ∃ z, z = (F_Pri_copyInto (11008 : Int32) (1376 : Int32) (1000000 : Int32) (4104 : Int32) (513 : Int32) (1000000 : Int32) t0_1 t1_0 y207 f208 t1_0 t2_0) := ⟨_, rfl⟩
        have e238 : y228 = p236.1 := congrArg (fun z => z.1) (hE234.trans e237.symm)
        have e239 : f229 = p236.2 := congrArg (fun z => z.2) (hE234.trans e237.symm)
        replace b231 : q_F (y207.toInt ≤ y228.toInt) := b231
        replace b233 : q_F (y228.toInt ≤ y207.toInt + t1_0.toInt) := b233
        replace hT0 := (hu235 _ (by decide)).trans hT0
        replace hT3 := (hu235 _ (by decide)).trans hT3
        replace hF := q_uc hF hu235 (by first | exact (q_sk (q_mi 0 rfl) (q_sk (q_mi 1 rfl) q_s0)) | simp)
        have hR240 := (show F_Pri_widen_c77 t0_0 t0_1 t0_2 t0_3 t1_0 t2_0 t3_0 t3_1 t3_2 t3_3 t3_4 t3_5 t3_6 t4_0 t5_0 a30 p195 p216 p236 = (F_Pri_widen t0_0 t0_1 t0_2 t0_3 t1_0 t2_0 t3_0 t3_1 t3_2 t3_3 t3_4 t3_5 t3_6 t4_0 t5_0) from Eq.trans (by rw [e237, e219, e218, F_Pri_widen_c58.eq_1]) hR220)
        refine lv_goto (tgt := 143) hx hb d_9_15_80 (by decide) ?_
        refine lv_aload_n hx hb d_9_15_143 rfl (lv_at hl 2 rfl) ?_
        refine q_get (ci := 11) (j := 6) (v := .ref (q 47)) C0 V i_Pri rfl rfl hT0 (by decide) w_391 rfl d_9_15_144 ?_
        refine q_goi V (q_runV (As := []) (rest := []) (d := 1) (mc := 0) (ms := 0) (ci := 10) C0 V rfl LV_Pri_222 (X_Dir_isLarge l D g q u225   hI t3_0 t3_1 t3_2 t3_3 t3_4 t3_5 t3_6 hT3  _) rfl rfl hT3 rfl hl.1 rfl (Nat.le_of_ble_eq_true rfl) ⟨by decide, by decide⟩ ⟨Nat.le_of_ble_eq_true rfl, Nat.le_of_ble_eq_true rfl⟩ d_9_15_147) (fun a247 u245 H locs hp246 V => ?_)
        obtain ⟨rfl, b248, b249, hE250⟩ := hp246
        have e251 : a247 = (F_Dir_isLarge t3_0 t3_1 t3_2 t3_3 t3_4 t3_5 t3_6) := hE250
        clear b248
        clear b249
        refine lv_if_eq (tgt := 158) hx hb d_9_15_150 (by decide) (fun c252 => ?_) (fun c252 => ?_)
        ·
          exact q_retv C0 V (⟨hI, hF, y228, f229, hO227, hA230, (show y228.toInt ≤ t0_1.toInt + 480001 from (by have t1 : t4_0.toInt ≤ 20000 := pre0; have t2 : t1_0.toInt ≤ 450000 := pre1; have t3 : y187.toInt ≤ t4_0.toInt + t0_1.toInt := b192; have t4 : y207.toInt ≤ y187.toInt + 10000 := b213; have t5 : y228.toInt ≤ y207.toInt + t1_0.toInt := b233; omega)), (show y228.toInt ≤ t1_0.toInt + 330000 from (by have t1 : t4_0.toInt ≤ 20000 := pre0; have t2 : t0_1.toInt ≤ 300000 := pre2; have t3 : y187.toInt ≤ t4_0.toInt + t0_1.toInt := b192; have t4 : y207.toInt ≤ y187.toInt + 10000 := b213; have t5 : y228.toInt ≤ y207.toInt + t1_0.toInt := b233; omega)), (show t4_0.toInt ≤ y228.toInt from (by have t1 : t4_0.toInt ≤ y187.toInt := b190; have t2 : y187.toInt ≤ y207.toInt := b212; have t3 : y207.toInt ≤ y228.toInt := b231; omega)), (show y228.toInt ≤ t4_0.toInt + 760000 from (by have t1 : t1_0.toInt ≤ 450000 := pre1; have t2 : t0_1.toInt ≤ 300000 := pre2; have t3 : y187.toInt ≤ t4_0.toInt + t0_1.toInt := b192; have t4 : y207.toInt ≤ y187.toInt + 10000 := b213; have t5 : y228.toInt ≤ y207.toInt + t1_0.toInt := b233; omega)), (show (y228, f229) = (F_Pri_widen t0_0 t0_1 t0_2 t0_3 t1_0 t2_0 t3_0 t3_1 t3_2 t3_3 t3_4 t3_5 t3_6 t4_0 t5_0) from Eq.trans (by have c252x := c252; rw [e251] at c252x; rw [e239, e238, F_Pri_widen_c77.eq_1, if_pos c252x]) hR240)⟩) d_9_15_158
        ·
          refine lv_aload_n hx hb d_9_15_153 rfl (lv_at hl 3 rfl) ?_
          refine lv_iload_n hx hb d_9_15_154 rfl (lv_at hl 1 rfl) ?_
          refine q_gov V (q_runS (As := [.ref (q 3), .int t4_0]) (rest := []) (d := 3) (mc := 0) (ms := 0) C0 V rfl LS_Pri_239 (X_Pri_enlarge l D g q u225 3 11008 1376 1000000 (n_h3 g q) t4_0 hI y228 hO227 f229 hA230  _) rfl hl.1 rfl (Nat.le_of_ble_eq_true rfl) ⟨by decide, by decide⟩ ⟨Nat.le_of_ble_eq_true rfl, Nat.le_of_ble_eq_true rfl⟩ d_9_15_155) (fun u255 H locs hp256 V => ?_)
          obtain ⟨hI, hu260, f257, hA258, hE259⟩ := hp256
          replace hA258 : u255[4]? = (some (q 4, .inl (g 1, (1376 : Int32).toNatClampNeg, .inr (.inl f257))) : Option (Nat × va_E)) := hA258
          have e261 : f257 = (F_Pri_enlarge (11008 : Int32) (1376 : Int32) (1000000 : Int32) t4_0 y228 f229) := hE259
          replace hO227 := (hu260 _ (by decide)).trans hO227
          replace hF := q_uc hF hu260 (by simp)
          exact q_retv C0 V (⟨hI, hF, y228, f257, hO227, hA258, (show y228.toInt ≤ t0_1.toInt + 480001 from (by have t1 : t4_0.toInt ≤ 20000 := pre0; have t2 : t1_0.toInt ≤ 450000 := pre1; have t3 : y187.toInt ≤ t4_0.toInt + t0_1.toInt := b192; have t4 : y207.toInt ≤ y187.toInt + 10000 := b213; have t5 : y228.toInt ≤ y207.toInt + t1_0.toInt := b233; omega)), (show y228.toInt ≤ t1_0.toInt + 330000 from (by have t1 : t4_0.toInt ≤ 20000 := pre0; have t2 : t0_1.toInt ≤ 300000 := pre2; have t3 : y187.toInt ≤ t4_0.toInt + t0_1.toInt := b192; have t4 : y207.toInt ≤ y187.toInt + 10000 := b213; have t5 : y228.toInt ≤ y207.toInt + t1_0.toInt := b233; omega)), (show t4_0.toInt ≤ y228.toInt from (by have t1 : t4_0.toInt ≤ y187.toInt := b190; have t2 : y187.toInt ≤ y207.toInt := b212; have t3 : y207.toInt ≤ y228.toInt := b231; omega)), (show y228.toInt ≤ t4_0.toInt + 760000 from (by have t1 : t1_0.toInt ≤ 450000 := pre1; have t2 : t0_1.toInt ≤ 300000 := pre2; have t3 : y187.toInt ≤ t4_0.toInt + t0_1.toInt := b192; have t4 : y207.toInt ≤ y187.toInt + 10000 := b213; have t5 : y228.toInt ≤ y207.toInt + t1_0.toInt := b233; omega)), (show (y228, f257) = (F_Pri_widen t0_0 t0_1 t0_2 t0_3 t1_0 t2_0 t3_0 t3_1 t3_2 t3_3 t3_4 t3_5 t3_6 t4_0 t5_0) from Eq.trans (by have c252x := c252; rw [e251] at c252x; rw [e261, e239, e238, F_Pri_widen_c77.eq_1, if_neg c252x]) hR240)⟩) d_9_15_158
def F_Pri_run_c185 (K_F_Pri_run_L18 : Int32 → Int32 → Int32 → (Nat → Int64) → Int32 → Int32 → Int32 → Int32 → Int32 → Int32 → (Nat → Int32) → Int32 → (Nat → Int64) → Int32 → Int32 → Int32 → Int32 → Int32 → Int32 → Int32 → (Int32 × Int32 × (Nat → Int64) × Int32 × Int32 × Int32 × Int32 × Int32 × Int32 × (Nat → Int32) × Int32 × (Nat → Int64) × Int32 × Int32 × Int32 × Int32 × Int32 × Int32 × Int32)) (t0_0 : Int32) (t1_0 : (Nat → Int64)) (t2_0 : Int32) (t3_0 : (Nat → Int64)) (t4_0 : Int32) (t4_1 : Int32) (t4_2 : Int32) (t4_3 : Int32) (t5_0 : (Nat → Int32)) (t6_0 : (Nat → Int64)) (t7_0 : (Nat → Int32)) (t8_0 : Int32) (t8_1 : Int32) (t9_0 : (Nat → Int32)) (t10_0 : Int32) (t11_0 : (Nat → Int64)) (t12_0 : Int32) (t12_1 : Int32) (t12_2 : Int32) (t12_3 : Int32) (t12_4 : Int32) (t12_5 : Int32) (t12_6 : Int32) (t13_0 : Int32) (t14_0 : (Nat → Int64)) (t15_0 : Int32) (t16_0 : (Nat → Int64)) (t17_0 : Int32) (t18_0 : (Nat → Int64)) (t19_0 : Int32) (t20_0 : (Nat → Int64)) (t21_0 : Int32) (t22_0 : (Nat → Int64)) (t23_0 : Int32) (t24_0 : (Nat → Int64)) (t25_0 : Int32) (t26_0 : (Nat → Int64)) (t27_0 : Int32) (t28_0 : (Nat → Int64)) (t29_0 : Int32) (t30_0 : (Nat → Int64)) (lx111 : Int32) (lx112 : Int32) (lx113 : Int32) (lx114 : (Nat → Int64)) (lx115 : Int32) (lx116 : Int32) (lx117 : Int32) (lx118 : Int32) (lx119 : Int32) (lx120 : Int32) (lx121 : (Nat → Int32)) (lx122 : Int32) (lx123 : (Nat → Int64)) (lx124 : Int32) (lx125 : Int32) (lx126 : Int32) (lx127 : Int32) (lx128 : Int32) (lx129 : Int32) (lx130 : Int32) (lx219 : Int32) (lx220 : Int32) (lx221 : Int32) (lx222 : Int32) (lx223 : Int32) (lx224 : Int32) (lx225 : Int32) (lx226 : Int32) (lx227 : (Nat → Int32)) (lx228 : Int32) (lx229 : (Nat → Int64)) (lx230 : Int32) (lx231 : Int32) (lx232 : Int32) (lx233 : Int32) (lx234 : Int32) (lx235 : Int32) (lx236 : Int32) (p337 : (Int32 × (Nat → Int64))) : Int32 × Int32 × (Nat → Int64) × Int32 × Int32 × Int32 × Int32 × Int32 × Int32 × (Nat → Int32) × Int32 × (Nat → Int64) × Int32 × Int32 × Int32 × Int32 × Int32 × Int32 × Int32 := K_F_Pri_run_L18 (lx111 + 1 : Int32) lx220 (p337.1 : Int32) (p337.2 : (Nat → Int64)) lx221 lx222 lx223 lx224 lx225 lx226 lx227 lx228 lx229 lx230 lx231 lx232 lx233 lx234 lx235 lx236
def F_Pri_run_J128 (K_F_Pri_run_L18 : Int32 → Int32 → Int32 → (Nat → Int64) → Int32 → Int32 → Int32 → Int32 → Int32 → Int32 → (Nat → Int32) → Int32 → (Nat → Int64) → Int32 → Int32 → Int32 → Int32 → Int32 → Int32 → Int32 → (Int32 × Int32 × (Nat → Int64) × Int32 × Int32 × Int32 × Int32 × Int32 × Int32 × (Nat → Int32) × Int32 × (Nat → Int64) × Int32 × Int32 × Int32 × Int32 × Int32 × Int32 × Int32)) (t0_0 : Int32) (t1_0 : (Nat → Int64)) (t2_0 : Int32) (t3_0 : (Nat → Int64)) (t4_0 : Int32) (t4_1 : Int32) (t4_2 : Int32) (t4_3 : Int32) (t5_0 : (Nat → Int32)) (t6_0 : (Nat → Int64)) (t7_0 : (Nat → Int32)) (t8_0 : Int32) (t8_1 : Int32) (t9_0 : (Nat → Int32)) (t10_0 : Int32) (t11_0 : (Nat → Int64)) (t12_0 : Int32) (t12_1 : Int32) (t12_2 : Int32) (t12_3 : Int32) (t12_4 : Int32) (t12_5 : Int32) (t12_6 : Int32) (t13_0 : Int32) (t14_0 : (Nat → Int64)) (t15_0 : Int32) (t16_0 : (Nat → Int64)) (t17_0 : Int32) (t18_0 : (Nat → Int64)) (t19_0 : Int32) (t20_0 : (Nat → Int64)) (t21_0 : Int32) (t22_0 : (Nat → Int64)) (t23_0 : Int32) (t24_0 : (Nat → Int64)) (t25_0 : Int32) (t26_0 : (Nat → Int64)) (t27_0 : Int32) (t28_0 : (Nat → Int64)) (t29_0 : Int32) (t30_0 : (Nat → Int64)) (lx111 : Int32) (lx112 : Int32) (lx113 : Int32) (lx114 : (Nat → Int64)) (lx115 : Int32) (lx116 : Int32) (lx117 : Int32) (lx118 : Int32) (lx119 : Int32) (lx120 : Int32) (lx121 : (Nat → Int32)) (lx122 : Int32) (lx123 : (Nat → Int64)) (lx124 : Int32) (lx125 : Int32) (lx126 : Int32) (lx127 : Int32) (lx128 : Int32) (lx129 : Int32) (lx130 : Int32) (lx219 : Int32) (lx220 : Int32) (lx221 : Int32) (lx222 : Int32) (lx223 : Int32) (lx224 : Int32) (lx225 : Int32) (lx226 : Int32) (lx227 : (Nat → Int32)) (lx228 : Int32) (lx229 : (Nat → Int64)) (lx230 : Int32) (lx231 : Int32) (lx232 : Int32) (lx233 : Int32) (lx234 : Int32) (lx235 : Int32) (lx236 : Int32) : Int32 × Int32 × (Nat → Int64) × Int32 × Int32 × Int32 × Int32 × Int32 × Int32 × (Nat → Int32) × Int32 × (Nat → Int64) × Int32 × Int32 × Int32 × Int32 × Int32 × Int32 × Int32 := if lx219 = (0 : Int32) then (if (lx113 + (if lx228 < lx232 then lx232 else lx228 : Int32) : Int32) ≤ (4096 : Int32) then (F_Pri_run_c185 K_F_Pri_run_L18 t0_0 t1_0 t2_0 t3_0 t4_0 t4_1 t4_2 t4_3 t5_0 t6_0 t7_0 t8_0 t8_1 t9_0 t10_0 t11_0 t12_0 t12_1 t12_2 t12_3 t12_4 t12_5 t12_6 t13_0 t14_0 t15_0 t16_0 t17_0 t18_0 t19_0 t20_0 t21_0 t22_0 t23_0 t24_0 t25_0 t26_0 t27_0 t28_0 t29_0 t30_0 lx111 lx112 lx113 lx114 lx115 lx116 lx117 lx118 lx119 lx120 lx121 lx122 lx123 lx124 lx125 lx126 lx127 lx128 lx129 lx130 lx219 lx220 lx221 lx222 lx223 lx224 lx225 lx226 lx227 lx228 lx229 lx230 lx231 lx232 lx233 lx234 lx235 lx236 ((F_Pri_widen lx221 lx222 lx223 lx224 lx228 lx229 lx230 lx231 lx232 lx233 lx234 lx235 lx236 lx113 lx114) : (Int32 × (Nat → Int64)))) else ((((-12000) - lx112 : Int32), ((F_She_clear (11008 : Int32) (1376 : Int32) (1000000 : Int32) lx113) : Int32), lx114, lx221, lx222, lx223, lx224, lx225, lx226, lx227, lx228, lx229, lx230, lx231, lx232, lx233, lx234, lx235, lx236))) else (((((-1000) * lx219 : Int32) - lx112 : Int32), ((F_She_clear (11008 : Int32) (1376 : Int32) (1000000 : Int32) lx113) : Int32), lx114, lx221, lx222, lx223, lx224, lx225, lx226, lx227, lx228, lx229, lx230, lx231, lx232, lx233, lx234, lx235, lx236))
def F_Pri_run_c125 (K_F_Pri_run_L18 : Int32 → Int32 → Int32 → (Nat → Int64) → Int32 → Int32 → Int32 → Int32 → Int32 → Int32 → (Nat → Int32) → Int32 → (Nat → Int64) → Int32 → Int32 → Int32 → Int32 → Int32 → Int32 → Int32 → (Int32 × Int32 × (Nat → Int64) × Int32 × Int32 × Int32 × Int32 × Int32 × Int32 × (Nat → Int32) × Int32 × (Nat → Int64) × Int32 × Int32 × Int32 × Int32 × Int32 × Int32 × Int32)) (t0_0 : Int32) (t1_0 : (Nat → Int64)) (t2_0 : Int32) (t3_0 : (Nat → Int64)) (t4_0 : Int32) (t4_1 : Int32) (t4_2 : Int32) (t4_3 : Int32) (t5_0 : (Nat → Int32)) (t6_0 : (Nat → Int64)) (t7_0 : (Nat → Int32)) (t8_0 : Int32) (t8_1 : Int32) (t9_0 : (Nat → Int32)) (t10_0 : Int32) (t11_0 : (Nat → Int64)) (t12_0 : Int32) (t12_1 : Int32) (t12_2 : Int32) (t12_3 : Int32) (t12_4 : Int32) (t12_5 : Int32) (t12_6 : Int32) (t13_0 : Int32) (t14_0 : (Nat → Int64)) (t15_0 : Int32) (t16_0 : (Nat → Int64)) (t17_0 : Int32) (t18_0 : (Nat → Int64)) (t19_0 : Int32) (t20_0 : (Nat → Int64)) (t21_0 : Int32) (t22_0 : (Nat → Int64)) (t23_0 : Int32) (t24_0 : (Nat → Int64)) (t25_0 : Int32) (t26_0 : (Nat → Int64)) (t27_0 : Int32) (t28_0 : (Nat → Int64)) (t29_0 : Int32) (t30_0 : (Nat → Int64)) (lx111 : Int32) (lx112 : Int32) (lx113 : Int32) (lx114 : (Nat → Int64)) (lx115 : Int32) (lx116 : Int32) (lx117 : Int32) (lx118 : Int32) (lx119 : Int32) (lx120 : Int32) (lx121 : (Nat → Int32)) (lx122 : Int32) (lx123 : (Nat → Int64)) (lx124 : Int32) (lx125 : Int32) (lx126 : Int32) (lx127 : Int32) (lx128 : Int32) (lx129 : Int32) (lx130 : Int32) (a205 : Int32) (y193 : Int32) (p391 : (Int32 × Int32 × Int32 × Int32 × Int32 × Int32 × Int32)) (y368 : Int32) (y369 : Int32) (y370 : Int32) (y371 : Int32) (y372 : Int32) (y373 : Int32) (y374 : Int32) (p426 : (Int32 × (Nat → Int64))) : Int32 × Int32 × (Nat → Int64) × Int32 × Int32 × Int32 × Int32 × Int32 × Int32 × (Nat → Int32) × Int32 × (Nat → Int64) × Int32 × Int32 × Int32 × Int32 × Int32 × Int32 × Int32 := F_Pri_run_J128 K_F_Pri_run_L18 t0_0 t1_0 t2_0 t3_0 t4_0 t4_1 t4_2 t4_3 t5_0 t6_0 t7_0 t8_0 t8_1 t9_0 t10_0 t11_0 t12_0 t12_1 t12_2 t12_3 t12_4 t12_5 t12_6 t13_0 t14_0 t15_0 t16_0 t17_0 t18_0 t19_0 t20_0 t21_0 t22_0 t23_0 t24_0 t25_0 t26_0 t27_0 t28_0 t29_0 t30_0 lx111 lx112 lx113 lx114 lx115 lx116 lx117 lx118 lx119 lx120 lx121 lx122 lx123 lx124 lx125 lx126 lx127 lx128 lx129 lx130 0 a205 lx115 (-1) lx117 lx118 lx119 lx120 lx121 (p426.1 : Int32) (p426.2 : (Nat → Int64)) y368 y369 y370 y371 y372 y373 y374
def F_Pri_run_c109 (K_F_Pri_run_L18 : Int32 → Int32 → Int32 → (Nat → Int64) → Int32 → Int32 → Int32 → Int32 → Int32 → Int32 → (Nat → Int32) → Int32 → (Nat → Int64) → Int32 → Int32 → Int32 → Int32 → Int32 → Int32 → Int32 → (Int32 × Int32 × (Nat → Int64) × Int32 × Int32 × Int32 × Int32 × Int32 × Int32 × (Nat → Int32) × Int32 × (Nat → Int64) × Int32 × Int32 × Int32 × Int32 × Int32 × Int32 × Int32)) (t0_0 : Int32) (t1_0 : (Nat → Int64)) (t2_0 : Int32) (t3_0 : (Nat → Int64)) (t4_0 : Int32) (t4_1 : Int32) (t4_2 : Int32) (t4_3 : Int32) (t5_0 : (Nat → Int32)) (t6_0 : (Nat → Int64)) (t7_0 : (Nat → Int32)) (t8_0 : Int32) (t8_1 : Int32) (t9_0 : (Nat → Int32)) (t10_0 : Int32) (t11_0 : (Nat → Int64)) (t12_0 : Int32) (t12_1 : Int32) (t12_2 : Int32) (t12_3 : Int32) (t12_4 : Int32) (t12_5 : Int32) (t12_6 : Int32) (t13_0 : Int32) (t14_0 : (Nat → Int64)) (t15_0 : Int32) (t16_0 : (Nat → Int64)) (t17_0 : Int32) (t18_0 : (Nat → Int64)) (t19_0 : Int32) (t20_0 : (Nat → Int64)) (t21_0 : Int32) (t22_0 : (Nat → Int64)) (t23_0 : Int32) (t24_0 : (Nat → Int64)) (t25_0 : Int32) (t26_0 : (Nat → Int64)) (t27_0 : Int32) (t28_0 : (Nat → Int64)) (t29_0 : Int32) (t30_0 : (Nat → Int64)) (lx111 : Int32) (lx112 : Int32) (lx113 : Int32) (lx114 : (Nat → Int64)) (lx115 : Int32) (lx116 : Int32) (lx117 : Int32) (lx118 : Int32) (lx119 : Int32) (lx120 : Int32) (lx121 : (Nat → Int32)) (lx122 : Int32) (lx123 : (Nat → Int64)) (lx124 : Int32) (lx125 : Int32) (lx126 : Int32) (lx127 : Int32) (lx128 : Int32) (lx129 : Int32) (lx130 : Int32) (a205 : Int32) (y193 : Int32) (p391 : (Int32 × Int32 × Int32 × Int32 × Int32 × Int32 × Int32)) : Int32 × Int32 × (Nat → Int64) × Int32 × Int32 × Int32 × Int32 × Int32 × Int32 × (Nat → Int32) × Int32 × (Nat → Int64) × Int32 × Int32 × Int32 × Int32 × Int32 × Int32 × Int32 := F_Pri_run_c125 K_F_Pri_run_L18 t0_0 t1_0 t2_0 t3_0 t4_0 t4_1 t4_2 t4_3 t5_0 t6_0 t7_0 t8_0 t8_1 t9_0 t10_0 t11_0 t12_0 t12_1 t12_2 t12_3 t12_4 t12_5 t12_6 t13_0 t14_0 t15_0 t16_0 t17_0 t18_0 t19_0 t20_0 t21_0 t22_0 t23_0 t24_0 t25_0 t26_0 t27_0 t28_0 t29_0 t30_0 lx111 lx112 lx113 lx114 lx115 lx116 lx117 lx118 lx119 lx120 lx121 lx122 lx123 lx124 lx125 lx126 lx127 lx128 lx129 lx130 a205 y193 p391 (p391.1 : Int32) (p391.2.1 : Int32) (p391.2.2.1 : Int32) (p391.2.2.2.1 : Int32) (p391.2.2.2.2.1 : Int32) (p391.2.2.2.2.2.1 : Int32) (p391.2.2.2.2.2.2 : Int32) ((F_She_add_p (4104 : Int32) (513 : Int32) (1000000 : Int32) ((F_She_at_p (4100 : Int32) (513 : Int32) (4100 : Int32) (lx112.toInt64 : Int64) t0_0 t1_0) : Int32) y193 lx123) : (Int32 × (Nat → Int64)))
def F_Pri_run_c99 (K_F_Pri_run_L18 : Int32 → Int32 → Int32 → (Nat → Int64) → Int32 → Int32 → Int32 → Int32 → Int32 → Int32 → (Nat → Int32) → Int32 → (Nat → Int64) → Int32 → Int32 → Int32 → Int32 → Int32 → Int32 → Int32 → (Int32 × Int32 × (Nat → Int64) × Int32 × Int32 × Int32 × Int32 × Int32 × Int32 × (Nat → Int32) × Int32 × (Nat → Int64) × Int32 × Int32 × Int32 × Int32 × Int32 × Int32 × Int32)) (t0_0 : Int32) (t1_0 : (Nat → Int64)) (t2_0 : Int32) (t3_0 : (Nat → Int64)) (t4_0 : Int32) (t4_1 : Int32) (t4_2 : Int32) (t4_3 : Int32) (t5_0 : (Nat → Int32)) (t6_0 : (Nat → Int64)) (t7_0 : (Nat → Int32)) (t8_0 : Int32) (t8_1 : Int32) (t9_0 : (Nat → Int32)) (t10_0 : Int32) (t11_0 : (Nat → Int64)) (t12_0 : Int32) (t12_1 : Int32) (t12_2 : Int32) (t12_3 : Int32) (t12_4 : Int32) (t12_5 : Int32) (t12_6 : Int32) (t13_0 : Int32) (t14_0 : (Nat → Int64)) (t15_0 : Int32) (t16_0 : (Nat → Int64)) (t17_0 : Int32) (t18_0 : (Nat → Int64)) (t19_0 : Int32) (t20_0 : (Nat → Int64)) (t21_0 : Int32) (t22_0 : (Nat → Int64)) (t23_0 : Int32) (t24_0 : (Nat → Int64)) (t25_0 : Int32) (t26_0 : (Nat → Int64)) (t27_0 : Int32) (t28_0 : (Nat → Int64)) (t29_0 : Int32) (t30_0 : (Nat → Int64)) (lx111 : Int32) (lx112 : Int32) (lx113 : Int32) (lx114 : (Nat → Int64)) (lx115 : Int32) (lx116 : Int32) (lx117 : Int32) (lx118 : Int32) (lx119 : Int32) (lx120 : Int32) (lx121 : (Nat → Int32)) (lx122 : Int32) (lx123 : (Nat → Int64)) (lx124 : Int32) (lx125 : Int32) (lx126 : Int32) (lx127 : Int32) (lx128 : Int32) (lx129 : Int32) (lx130 : Int32) (a205 : Int32) (y193 : Int32) (p459 : (Int32 × Int32 × Int32 × Int32 × Int32 × Int32 × Int32)) (y444 : Int32) (y439 : Int32) (y440 : Int32) (y441 : Int32) (y442 : Int32) (y443 : Int32) (y445 : Int32) (p494 : (Int32 × Int32 × Int32 × Int32 × Int32)) (a475 : Int32) (p548 : (Int32 × Int32 × Int32 × Int32 × Int32 × Int32 × (Nat → Int32) × Int32 × (Nat → Int64))) : Int32 × Int32 × (Nat → Int64) × Int32 × Int32 × Int32 × Int32 × Int32 × Int32 × (Nat → Int32) × Int32 × (Nat → Int64) × Int32 × Int32 × Int32 × Int32 × Int32 × Int32 × Int32 := F_Pri_run_J128 K_F_Pri_run_L18 t0_0 t1_0 t2_0 t3_0 t4_0 t4_1 t4_2 t4_3 t5_0 t6_0 t7_0 t8_0 t8_1 t9_0 t10_0 t11_0 t12_0 t12_1 t12_2 t12_3 t12_4 t12_5 t12_6 t13_0 t14_0 t15_0 t16_0 t17_0 t18_0 t19_0 t20_0 t21_0 t22_0 t23_0 t24_0 t25_0 t26_0 t27_0 t28_0 t29_0 t30_0 lx111 lx112 lx113 lx114 lx115 lx116 lx117 lx118 lx119 lx120 lx121 lx122 lx123 lx124 lx125 lx126 lx127 lx128 lx129 lx130 a475 y444 (p548.1 : Int32) (p548.2.1 : Int32) (p548.2.2.1 : Int32) (p548.2.2.2.1 : Int32) (p548.2.2.2.2.1 : Int32) (p548.2.2.2.2.2.1 : Int32) (p548.2.2.2.2.2.2.1 : (Nat → Int32)) (p548.2.2.2.2.2.2.2.1 : Int32) (p548.2.2.2.2.2.2.2.2 : (Nat → Int64)) y439 y440 y441 y442 y443 y444 y445
def F_Pri_run_c88 (K_F_Pri_run_L18 : Int32 → Int32 → Int32 → (Nat → Int64) → Int32 → Int32 → Int32 → Int32 → Int32 → Int32 → (Nat → Int32) → Int32 → (Nat → Int64) → Int32 → Int32 → Int32 → Int32 → Int32 → Int32 → Int32 → (Int32 × Int32 × (Nat → Int64) × Int32 × Int32 × Int32 × Int32 × Int32 × Int32 × (Nat → Int32) × Int32 × (Nat → Int64) × Int32 × Int32 × Int32 × Int32 × Int32 × Int32 × Int32)) (t0_0 : Int32) (t1_0 : (Nat → Int64)) (t2_0 : Int32) (t3_0 : (Nat → Int64)) (t4_0 : Int32) (t4_1 : Int32) (t4_2 : Int32) (t4_3 : Int32) (t5_0 : (Nat → Int32)) (t6_0 : (Nat → Int64)) (t7_0 : (Nat → Int32)) (t8_0 : Int32) (t8_1 : Int32) (t9_0 : (Nat → Int32)) (t10_0 : Int32) (t11_0 : (Nat → Int64)) (t12_0 : Int32) (t12_1 : Int32) (t12_2 : Int32) (t12_3 : Int32) (t12_4 : Int32) (t12_5 : Int32) (t12_6 : Int32) (t13_0 : Int32) (t14_0 : (Nat → Int64)) (t15_0 : Int32) (t16_0 : (Nat → Int64)) (t17_0 : Int32) (t18_0 : (Nat → Int64)) (t19_0 : Int32) (t20_0 : (Nat → Int64)) (t21_0 : Int32) (t22_0 : (Nat → Int64)) (t23_0 : Int32) (t24_0 : (Nat → Int64)) (t25_0 : Int32) (t26_0 : (Nat → Int64)) (t27_0 : Int32) (t28_0 : (Nat → Int64)) (t29_0 : Int32) (t30_0 : (Nat → Int64)) (lx111 : Int32) (lx112 : Int32) (lx113 : Int32) (lx114 : (Nat → Int64)) (lx115 : Int32) (lx116 : Int32) (lx117 : Int32) (lx118 : Int32) (lx119 : Int32) (lx120 : Int32) (lx121 : (Nat → Int32)) (lx122 : Int32) (lx123 : (Nat → Int64)) (lx124 : Int32) (lx125 : Int32) (lx126 : Int32) (lx127 : Int32) (lx128 : Int32) (lx129 : Int32) (lx130 : Int32) (a205 : Int32) (y193 : Int32) (p459 : (Int32 × Int32 × Int32 × Int32 × Int32 × Int32 × Int32)) (y444 : Int32) (y439 : Int32) (y440 : Int32) (y441 : Int32) (y442 : Int32) (y443 : Int32) (y445 : Int32) (p494 : (Int32 × Int32 × Int32 × Int32 × Int32)) : Int32 × Int32 × (Nat → Int64) × Int32 × Int32 × Int32 × Int32 × Int32 × Int32 × (Nat → Int32) × Int32 × (Nat → Int64) × Int32 × Int32 × Int32 × Int32 × Int32 × Int32 × Int32 := if (p494.1 : Int32) = (0 : Int32) then (F_Pri_run_c99 K_F_Pri_run_L18 t0_0 t1_0 t2_0 t3_0 t4_0 t4_1 t4_2 t4_3 t5_0 t6_0 t7_0 t8_0 t8_1 t9_0 t10_0 t11_0 t12_0 t12_1 t12_2 t12_3 t12_4 t12_5 t12_6 t13_0 t14_0 t15_0 t16_0 t17_0 t18_0 t19_0 t20_0 t21_0 t22_0 t23_0 t24_0 t25_0 t26_0 t27_0 t28_0 t29_0 t30_0 lx111 lx112 lx113 lx114 lx115 lx116 lx117 lx118 lx119 lx120 lx121 lx122 lx123 lx124 lx125 lx126 lx127 lx128 lx129 lx130 a205 y193 p459 y444 y439 y440 y441 y442 y443 y445 p494 (p494.1 : Int32) ((F_Pri_writeBody (p494.2.1 : Int32) (p494.2.2.1 : Int32) (p494.2.2.2.1 : Int32) (p494.2.2.2.2 : Int32) t5_0 t6_0 t7_0 lx119 lx120 lx121 y193 lx123 y439 y440 y441 y442 y443 y444 y445 t13_0 t14_0 t15_0 t16_0 t17_0 t18_0 t19_0 t20_0 t21_0 t22_0 t23_0 t24_0 t25_0 t26_0 t27_0 t28_0 t29_0 t30_0) : (Int32 × Int32 × Int32 × Int32 × Int32 × Int32 × (Nat → Int32) × Int32 × (Nat → Int64)))) else (F_Pri_run_J128 K_F_Pri_run_L18 t0_0 t1_0 t2_0 t3_0 t4_0 t4_1 t4_2 t4_3 t5_0 t6_0 t7_0 t8_0 t8_1 t9_0 t10_0 t11_0 t12_0 t12_1 t12_2 t12_3 t12_4 t12_5 t12_6 t13_0 t14_0 t15_0 t16_0 t17_0 t18_0 t19_0 t20_0 t21_0 t22_0 t23_0 t24_0 t25_0 t26_0 t27_0 t28_0 t29_0 t30_0 lx111 lx112 lx113 lx114 lx115 lx116 lx117 lx118 lx119 lx120 lx121 lx122 lx123 lx124 lx125 lx126 lx127 lx128 lx129 lx130 (p494.1 : Int32) y444 (p494.2.1 : Int32) (p494.2.2.1 : Int32) (p494.2.2.2.1 : Int32) (p494.2.2.2.2 : Int32) lx119 lx120 lx121 y193 lx123 y439 y440 y441 y442 y443 y444 y445)
def F_Pri_run_c75 (K_F_Pri_run_L18 : Int32 → Int32 → Int32 → (Nat → Int64) → Int32 → Int32 → Int32 → Int32 → Int32 → Int32 → (Nat → Int32) → Int32 → (Nat → Int64) → Int32 → Int32 → Int32 → Int32 → Int32 → Int32 → Int32 → (Int32 × Int32 × (Nat → Int64) × Int32 × Int32 × Int32 × Int32 × Int32 × Int32 × (Nat → Int32) × Int32 × (Nat → Int64) × Int32 × Int32 × Int32 × Int32 × Int32 × Int32 × Int32)) (t0_0 : Int32) (t1_0 : (Nat → Int64)) (t2_0 : Int32) (t3_0 : (Nat → Int64)) (t4_0 : Int32) (t4_1 : Int32) (t4_2 : Int32) (t4_3 : Int32) (t5_0 : (Nat → Int32)) (t6_0 : (Nat → Int64)) (t7_0 : (Nat → Int32)) (t8_0 : Int32) (t8_1 : Int32) (t9_0 : (Nat → Int32)) (t10_0 : Int32) (t11_0 : (Nat → Int64)) (t12_0 : Int32) (t12_1 : Int32) (t12_2 : Int32) (t12_3 : Int32) (t12_4 : Int32) (t12_5 : Int32) (t12_6 : Int32) (t13_0 : Int32) (t14_0 : (Nat → Int64)) (t15_0 : Int32) (t16_0 : (Nat → Int64)) (t17_0 : Int32) (t18_0 : (Nat → Int64)) (t19_0 : Int32) (t20_0 : (Nat → Int64)) (t21_0 : Int32) (t22_0 : (Nat → Int64)) (t23_0 : Int32) (t24_0 : (Nat → Int64)) (t25_0 : Int32) (t26_0 : (Nat → Int64)) (t27_0 : Int32) (t28_0 : (Nat → Int64)) (t29_0 : Int32) (t30_0 : (Nat → Int64)) (lx111 : Int32) (lx112 : Int32) (lx113 : Int32) (lx114 : (Nat → Int64)) (lx115 : Int32) (lx116 : Int32) (lx117 : Int32) (lx118 : Int32) (lx119 : Int32) (lx120 : Int32) (lx121 : (Nat → Int32)) (lx122 : Int32) (lx123 : (Nat → Int64)) (lx124 : Int32) (lx125 : Int32) (lx126 : Int32) (lx127 : Int32) (lx128 : Int32) (lx129 : Int32) (lx130 : Int32) (a205 : Int32) (y193 : Int32) (p459 : (Int32 × Int32 × Int32 × Int32 × Int32 × Int32 × Int32)) : Int32 × Int32 × (Nat → Int64) × Int32 × Int32 × Int32 × Int32 × Int32 × Int32 × (Nat → Int32) × Int32 × (Nat → Int64) × Int32 × Int32 × Int32 × Int32 × Int32 × Int32 × Int32 := F_Pri_run_c88 K_F_Pri_run_L18 t0_0 t1_0 t2_0 t3_0 t4_0 t4_1 t4_2 t4_3 t5_0 t6_0 t7_0 t8_0 t8_1 t9_0 t10_0 t11_0 t12_0 t12_1 t12_2 t12_3 t12_4 t12_5 t12_6 t13_0 t14_0 t15_0 t16_0 t17_0 t18_0 t19_0 t20_0 t21_0 t22_0 t23_0 t24_0 t25_0 t26_0 t27_0 t28_0 t29_0 t30_0 lx111 lx112 lx113 lx114 lx115 lx116 lx117 lx118 lx119 lx120 lx121 lx122 lx123 lx124 lx125 lx126 lx127 lx128 lx129 lx130 a205 y193 p459 (p459.2.2.2.2.2.1 : Int32) (p459.1 : Int32) (p459.2.1 : Int32) (p459.2.2.1 : Int32) (p459.2.2.2.1 : Int32) (p459.2.2.2.2.1 : Int32) (p459.2.2.2.2.2.2 : Int32) ((F_Pri_findFault lx115 (-1 : Int32) lx117 lx118 t5_0 t6_0 t7_0 (p459.1 : Int32) (p459.2.1 : Int32) (p459.2.2.1 : Int32) (p459.2.2.2.1 : Int32) (p459.2.2.2.2.1 : Int32) (p459.2.2.2.2.2.1 : Int32) (p459.2.2.2.2.2.2 : Int32)) : (Int32 × Int32 × Int32 × Int32 × Int32))
def F_Pri_run_L18 (t0_0 : Int32) (t1_0 : (Nat → Int64)) (t2_0 : Int32) (t3_0 : (Nat → Int64)) (t4_0 : Int32) (t4_1 : Int32) (t4_2 : Int32) (t4_3 : Int32) (t5_0 : (Nat → Int32)) (t6_0 : (Nat → Int64)) (t7_0 : (Nat → Int32)) (t8_0 : Int32) (t8_1 : Int32) (t9_0 : (Nat → Int32)) (t10_0 : Int32) (t11_0 : (Nat → Int64)) (t12_0 : Int32) (t12_1 : Int32) (t12_2 : Int32) (t12_3 : Int32) (t12_4 : Int32) (t12_5 : Int32) (t12_6 : Int32) (t13_0 : Int32) (t14_0 : (Nat → Int64)) (t15_0 : Int32) (t16_0 : (Nat → Int64)) (t17_0 : Int32) (t18_0 : (Nat → Int64)) (t19_0 : Int32) (t20_0 : (Nat → Int64)) (t21_0 : Int32) (t22_0 : (Nat → Int64)) (t23_0 : Int32) (t24_0 : (Nat → Int64)) (t25_0 : Int32) (t26_0 : (Nat → Int64)) (t27_0 : Int32) (t28_0 : (Nat → Int64)) (t29_0 : Int32) (t30_0 : (Nat → Int64)) : Nat → Int32 → Int32 → Int32 → (Nat → Int64) → Int32 → Int32 → Int32 → Int32 → Int32 → Int32 → (Nat → Int32) → Int32 → (Nat → Int64) → Int32 → Int32 → Int32 → Int32 → Int32 → Int32 → Int32 → (Int32 × Int32 × (Nat → Int64) × Int32 × Int32 × Int32 × Int32 × Int32 × Int32 × (Nat → Int32) × Int32 × (Nat → Int64) × Int32 × Int32 × Int32 × Int32 × Int32 × Int32 × Int32)
  | 0, _, _, _, _, _, _, _, _, _, _, _, _, _, _, _, _, _, _, _, _ => default
  | fm + 1, lx111, lx112, lx113, lx114, lx115, lx116, lx117, lx118, lx119, lx120, lx121, lx122, lx123, lx124, lx125, lx126, lx127, lx128, lx129, lx130 => if (256 : Int32) < lx111 then ((lx113, lx113, lx114, lx115, lx116, lx117, lx118, lx119, lx120, lx121, lx122, lx123, lx124, lx125, lx126, lx127, lx128, lx129, lx130)) else (if t0_0 ≤ lx112 then ((lx113, lx113, lx114, lx115, lx116, lx117, lx118, lx119, lx120, lx121, lx122, lx123, lx124, lx125, lx126, lx127, lx128, lx129, lx130)) else (if ((F_She_at_p (4100 : Int32) (513 : Int32) (4100 : Int32) (lx112.toInt64 : Int64) t0_0 t1_0) : Int32) = (37 : Int32) then (F_Pri_run_c75 (F_Pri_run_L18 t0_0 t1_0 t2_0 t3_0 t4_0 t4_1 t4_2 t4_3 t5_0 t6_0 t7_0 t8_0 t8_1 t9_0 t10_0 t11_0 t12_0 t12_1 t12_2 t12_3 t12_4 t12_5 t12_6 t13_0 t14_0 t15_0 t16_0 t17_0 t18_0 t19_0 t20_0 t21_0 t22_0 t23_0 t24_0 t25_0 t26_0 t27_0 t28_0 t29_0 t30_0 fm) t0_0 t1_0 t2_0 t3_0 t4_0 t4_1 t4_2 t4_3 t5_0 t6_0 t7_0 t8_0 t8_1 t9_0 t10_0 t11_0 t12_0 t12_1 t12_2 t12_3 t12_4 t12_5 t12_6 t13_0 t14_0 t15_0 t16_0 t17_0 t18_0 t19_0 t20_0 t21_0 t22_0 t23_0 t24_0 t25_0 t26_0 t27_0 t28_0 t29_0 t30_0 lx111 lx112 lx113 lx114 lx115 lx116 lx117 lx118 lx119 lx120 lx121 lx122 lx123 lx124 lx125 lx126 lx127 lx128 lx129 lx130 (lx112 + 1 : Int32) ((F_She_clear (4104 : Int32) (513 : Int32) (1000000 : Int32) lx122) : Int32) ((F_Dir_parse lx112 lx124 lx125 lx126 lx127 lx128 lx129 lx130 t0_0 t1_0) : (Int32 × Int32 × Int32 × Int32 × Int32 × Int32 × Int32))) else (F_Pri_run_c109 (F_Pri_run_L18 t0_0 t1_0 t2_0 t3_0 t4_0 t4_1 t4_2 t4_3 t5_0 t6_0 t7_0 t8_0 t8_1 t9_0 t10_0 t11_0 t12_0 t12_1 t12_2 t12_3 t12_4 t12_5 t12_6 t13_0 t14_0 t15_0 t16_0 t17_0 t18_0 t19_0 t20_0 t21_0 t22_0 t23_0 t24_0 t25_0 t26_0 t27_0 t28_0 t29_0 t30_0 fm) t0_0 t1_0 t2_0 t3_0 t4_0 t4_1 t4_2 t4_3 t5_0 t6_0 t7_0 t8_0 t8_1 t9_0 t10_0 t11_0 t12_0 t12_1 t12_2 t12_3 t12_4 t12_5 t12_6 t13_0 t14_0 t15_0 t16_0 t17_0 t18_0 t19_0 t20_0 t21_0 t22_0 t23_0 t24_0 t25_0 t26_0 t27_0 t28_0 t29_0 t30_0 lx111 lx112 lx113 lx114 lx115 lx116 lx117 lx118 lx119 lx120 lx121 lx122 lx123 lx124 lx125 lx126 lx127 lx128 lx129 lx130 (lx112 + 1 : Int32) ((F_She_clear (4104 : Int32) (513 : Int32) (1000000 : Int32) lx122) : Int32) ((F_Dir_setPlain lx124 lx125 lx126 lx127 lx128 lx129 lx130 t0_0 t1_0) : (Int32 × Int32 × Int32 × Int32 × Int32 × Int32 × Int32)))))
def F_Pri_run (t0_0 : Int32) (t1_0 : (Nat → Int64)) (t2_0 : Int32) (t3_0 : (Nat → Int64)) (t4_0 : Int32) (t4_1 : Int32) (t4_2 : Int32) (t4_3 : Int32) (t5_0 : (Nat → Int32)) (t6_0 : (Nat → Int64)) (t7_0 : (Nat → Int32)) (t8_0 : Int32) (t8_1 : Int32) (t9_0 : (Nat → Int32)) (t10_0 : Int32) (t11_0 : (Nat → Int64)) (t12_0 : Int32) (t12_1 : Int32) (t12_2 : Int32) (t12_3 : Int32) (t12_4 : Int32) (t12_5 : Int32) (t12_6 : Int32) (t13_0 : Int32) (t14_0 : (Nat → Int64)) (t15_0 : Int32) (t16_0 : (Nat → Int64)) (t17_0 : Int32) (t18_0 : (Nat → Int64)) (t19_0 : Int32) (t20_0 : (Nat → Int64)) (t21_0 : Int32) (t22_0 : (Nat → Int64)) (t23_0 : Int32) (t24_0 : (Nat → Int64)) (t25_0 : Int32) (t26_0 : (Nat → Int64)) (t27_0 : Int32) (t28_0 : (Nat → Int64)) (t29_0 : Int32) (t30_0 : (Nat → Int64)) : Int32 × Int32 × (Nat → Int64) × Int32 × Int32 × Int32 × Int32 × Int32 × Int32 × (Nat → Int32) × Int32 × (Nat → Int64) × Int32 × Int32 × Int32 × Int32 × Int32 × Int32 × Int32 := F_Pri_run_L18 t0_0 t1_0 t2_0 t3_0 t4_0 t4_1 t4_2 t4_3 t5_0 t6_0 t7_0 t8_0 t8_1 t9_0 t10_0 t11_0 t12_0 t12_1 t12_2 t12_3 t12_4 t12_5 t12_6 t13_0 t14_0 t15_0 t16_0 t17_0 t18_0 t19_0 t20_0 t21_0 t22_0 t23_0 t24_0 t25_0 t26_0 t27_0 t28_0 t29_0 t30_0 ((257 - (0 : Int32).toInt).toNat + 1) 0 0 ((F_She_clear (11008 : Int32) (1376 : Int32) (1000000 : Int32) t2_0) : Int32) t3_0 t4_0 t4_1 0 (-1) t8_0 t8_1 t9_0 t10_0 t11_0 t12_0 t12_1 t12_2 t12_3 t12_4 t12_5 t12_6
def S_Pri_run_c185 (K_S_Pri_run_L18 : Int32 → Int32 → Int32 → (Nat → Int64) → Int32 → Int32 → Int32 → Int32 → Int32 → Int32 → (Nat → Int32) → Int32 → (Nat → Int64) → Int32 → Int32 → Int32 → Int32 → Int32 → Int32 → Int32 → Prop) (t0_0 : Int32) (t1_0 : (Nat → Int64)) (t2_0 : Int32) (t3_0 : (Nat → Int64)) (t4_0 : Int32) (t4_1 : Int32) (t4_2 : Int32) (t4_3 : Int32) (t5_0 : (Nat → Int32)) (t6_0 : (Nat → Int64)) (t7_0 : (Nat → Int32)) (t8_0 : Int32) (t8_1 : Int32) (t9_0 : (Nat → Int32)) (t10_0 : Int32) (t11_0 : (Nat → Int64)) (t12_0 : Int32) (t12_1 : Int32) (t12_2 : Int32) (t12_3 : Int32) (t12_4 : Int32) (t12_5 : Int32) (t12_6 : Int32) (t13_0 : Int32) (t14_0 : (Nat → Int64)) (t15_0 : Int32) (t16_0 : (Nat → Int64)) (t17_0 : Int32) (t18_0 : (Nat → Int64)) (t19_0 : Int32) (t20_0 : (Nat → Int64)) (t21_0 : Int32) (t22_0 : (Nat → Int64)) (t23_0 : Int32) (t24_0 : (Nat → Int64)) (t25_0 : Int32) (t26_0 : (Nat → Int64)) (t27_0 : Int32) (t28_0 : (Nat → Int64)) (t29_0 : Int32) (t30_0 : (Nat → Int64)) (lx111 : Int32) (lx112 : Int32) (lx113 : Int32) (lx114 : (Nat → Int64)) (lx115 : Int32) (lx116 : Int32) (lx117 : Int32) (lx118 : Int32) (lx119 : Int32) (lx120 : Int32) (lx121 : (Nat → Int32)) (lx122 : Int32) (lx123 : (Nat → Int64)) (lx124 : Int32) (lx125 : Int32) (lx126 : Int32) (lx127 : Int32) (lx128 : Int32) (lx129 : Int32) (lx130 : Int32) (lx219 : Int32) (lx220 : Int32) (lx221 : Int32) (lx222 : Int32) (lx223 : Int32) (lx224 : Int32) (lx225 : Int32) (lx226 : Int32) (lx227 : (Nat → Int32)) (lx228 : Int32) (lx229 : (Nat → Int64)) (lx230 : Int32) (lx231 : Int32) (lx232 : Int32) (lx233 : Int32) (lx234 : Int32) (lx235 : Int32) (lx236 : Int32) (p337 : (Int32 × (Nat → Int64))) : Prop := K_S_Pri_run_L18 (lx111 + 1 : Int32) lx220 (p337.1 : Int32) (p337.2 : (Nat → Int64)) lx221 lx222 lx223 lx224 lx225 lx226 lx227 lx228 lx229 lx230 lx231 lx232 lx233 lx234 lx235 lx236
def S_Pri_run_J128 (K_S_Pri_run_L18 : Int32 → Int32 → Int32 → (Nat → Int64) → Int32 → Int32 → Int32 → Int32 → Int32 → Int32 → (Nat → Int32) → Int32 → (Nat → Int64) → Int32 → Int32 → Int32 → Int32 → Int32 → Int32 → Int32 → Prop) (t0_0 : Int32) (t1_0 : (Nat → Int64)) (t2_0 : Int32) (t3_0 : (Nat → Int64)) (t4_0 : Int32) (t4_1 : Int32) (t4_2 : Int32) (t4_3 : Int32) (t5_0 : (Nat → Int32)) (t6_0 : (Nat → Int64)) (t7_0 : (Nat → Int32)) (t8_0 : Int32) (t8_1 : Int32) (t9_0 : (Nat → Int32)) (t10_0 : Int32) (t11_0 : (Nat → Int64)) (t12_0 : Int32) (t12_1 : Int32) (t12_2 : Int32) (t12_3 : Int32) (t12_4 : Int32) (t12_5 : Int32) (t12_6 : Int32) (t13_0 : Int32) (t14_0 : (Nat → Int64)) (t15_0 : Int32) (t16_0 : (Nat → Int64)) (t17_0 : Int32) (t18_0 : (Nat → Int64)) (t19_0 : Int32) (t20_0 : (Nat → Int64)) (t21_0 : Int32) (t22_0 : (Nat → Int64)) (t23_0 : Int32) (t24_0 : (Nat → Int64)) (t25_0 : Int32) (t26_0 : (Nat → Int64)) (t27_0 : Int32) (t28_0 : (Nat → Int64)) (t29_0 : Int32) (t30_0 : (Nat → Int64)) (lx111 : Int32) (lx112 : Int32) (lx113 : Int32) (lx114 : (Nat → Int64)) (lx115 : Int32) (lx116 : Int32) (lx117 : Int32) (lx118 : Int32) (lx119 : Int32) (lx120 : Int32) (lx121 : (Nat → Int32)) (lx122 : Int32) (lx123 : (Nat → Int64)) (lx124 : Int32) (lx125 : Int32) (lx126 : Int32) (lx127 : Int32) (lx128 : Int32) (lx129 : Int32) (lx130 : Int32) (lx219 : Int32) (lx220 : Int32) (lx221 : Int32) (lx222 : Int32) (lx223 : Int32) (lx224 : Int32) (lx225 : Int32) (lx226 : Int32) (lx227 : (Nat → Int32)) (lx228 : Int32) (lx229 : (Nat → Int64)) (lx230 : Int32) (lx231 : Int32) (lx232 : Int32) (lx233 : Int32) (lx234 : Int32) (lx235 : Int32) (lx236 : Int32) : Prop := if lx219 = (0 : Int32) then (if (lx113 + (if lx228 < lx232 then lx232 else lx228 : Int32) : Int32) ≤ (4096 : Int32) then (S_Pri_run_c185 K_S_Pri_run_L18 t0_0 t1_0 t2_0 t3_0 t4_0 t4_1 t4_2 t4_3 t5_0 t6_0 t7_0 t8_0 t8_1 t9_0 t10_0 t11_0 t12_0 t12_1 t12_2 t12_3 t12_4 t12_5 t12_6 t13_0 t14_0 t15_0 t16_0 t17_0 t18_0 t19_0 t20_0 t21_0 t22_0 t23_0 t24_0 t25_0 t26_0 t27_0 t28_0 t29_0 t30_0 lx111 lx112 lx113 lx114 lx115 lx116 lx117 lx118 lx119 lx120 lx121 lx122 lx123 lx124 lx125 lx126 lx127 lx128 lx129 lx130 lx219 lx220 lx221 lx222 lx223 lx224 lx225 lx226 lx227 lx228 lx229 lx230 lx231 lx232 lx233 lx234 lx235 lx236 ((F_Pri_widen lx221 lx222 lx223 lx224 lx228 lx229 lx230 lx231 lx232 lx233 lx234 lx235 lx236 lx113 lx114) : (Int32 × (Nat → Int64)))) else (True)) else (True)
def S_Pri_run_c125 (K_S_Pri_run_L18 : Int32 → Int32 → Int32 → (Nat → Int64) → Int32 → Int32 → Int32 → Int32 → Int32 → Int32 → (Nat → Int32) → Int32 → (Nat → Int64) → Int32 → Int32 → Int32 → Int32 → Int32 → Int32 → Int32 → Prop) (t0_0 : Int32) (t1_0 : (Nat → Int64)) (t2_0 : Int32) (t3_0 : (Nat → Int64)) (t4_0 : Int32) (t4_1 : Int32) (t4_2 : Int32) (t4_3 : Int32) (t5_0 : (Nat → Int32)) (t6_0 : (Nat → Int64)) (t7_0 : (Nat → Int32)) (t8_0 : Int32) (t8_1 : Int32) (t9_0 : (Nat → Int32)) (t10_0 : Int32) (t11_0 : (Nat → Int64)) (t12_0 : Int32) (t12_1 : Int32) (t12_2 : Int32) (t12_3 : Int32) (t12_4 : Int32) (t12_5 : Int32) (t12_6 : Int32) (t13_0 : Int32) (t14_0 : (Nat → Int64)) (t15_0 : Int32) (t16_0 : (Nat → Int64)) (t17_0 : Int32) (t18_0 : (Nat → Int64)) (t19_0 : Int32) (t20_0 : (Nat → Int64)) (t21_0 : Int32) (t22_0 : (Nat → Int64)) (t23_0 : Int32) (t24_0 : (Nat → Int64)) (t25_0 : Int32) (t26_0 : (Nat → Int64)) (t27_0 : Int32) (t28_0 : (Nat → Int64)) (t29_0 : Int32) (t30_0 : (Nat → Int64)) (lx111 : Int32) (lx112 : Int32) (lx113 : Int32) (lx114 : (Nat → Int64)) (lx115 : Int32) (lx116 : Int32) (lx117 : Int32) (lx118 : Int32) (lx119 : Int32) (lx120 : Int32) (lx121 : (Nat → Int32)) (lx122 : Int32) (lx123 : (Nat → Int64)) (lx124 : Int32) (lx125 : Int32) (lx126 : Int32) (lx127 : Int32) (lx128 : Int32) (lx129 : Int32) (lx130 : Int32) (a205 : Int32) (y193 : Int32) (p391 : (Int32 × Int32 × Int32 × Int32 × Int32 × Int32 × Int32)) (y368 : Int32) (y369 : Int32) (y370 : Int32) (y371 : Int32) (y372 : Int32) (y373 : Int32) (y374 : Int32) (p426 : (Int32 × (Nat → Int64))) : Prop := S_Pri_run_J128 K_S_Pri_run_L18 t0_0 t1_0 t2_0 t3_0 t4_0 t4_1 t4_2 t4_3 t5_0 t6_0 t7_0 t8_0 t8_1 t9_0 t10_0 t11_0 t12_0 t12_1 t12_2 t12_3 t12_4 t12_5 t12_6 t13_0 t14_0 t15_0 t16_0 t17_0 t18_0 t19_0 t20_0 t21_0 t22_0 t23_0 t24_0 t25_0 t26_0 t27_0 t28_0 t29_0 t30_0 lx111 lx112 lx113 lx114 lx115 lx116 lx117 lx118 lx119 lx120 lx121 lx122 lx123 lx124 lx125 lx126 lx127 lx128 lx129 lx130 0 a205 lx115 (-1) lx117 lx118 lx119 lx120 lx121 (p426.1 : Int32) (p426.2 : (Nat → Int64)) y368 y369 y370 y371 y372 y373 y374
def S_Pri_run_c109 (K_S_Pri_run_L18 : Int32 → Int32 → Int32 → (Nat → Int64) → Int32 → Int32 → Int32 → Int32 → Int32 → Int32 → (Nat → Int32) → Int32 → (Nat → Int64) → Int32 → Int32 → Int32 → Int32 → Int32 → Int32 → Int32 → Prop) (t0_0 : Int32) (t1_0 : (Nat → Int64)) (t2_0 : Int32) (t3_0 : (Nat → Int64)) (t4_0 : Int32) (t4_1 : Int32) (t4_2 : Int32) (t4_3 : Int32) (t5_0 : (Nat → Int32)) (t6_0 : (Nat → Int64)) (t7_0 : (Nat → Int32)) (t8_0 : Int32) (t8_1 : Int32) (t9_0 : (Nat → Int32)) (t10_0 : Int32) (t11_0 : (Nat → Int64)) (t12_0 : Int32) (t12_1 : Int32) (t12_2 : Int32) (t12_3 : Int32) (t12_4 : Int32) (t12_5 : Int32) (t12_6 : Int32) (t13_0 : Int32) (t14_0 : (Nat → Int64)) (t15_0 : Int32) (t16_0 : (Nat → Int64)) (t17_0 : Int32) (t18_0 : (Nat → Int64)) (t19_0 : Int32) (t20_0 : (Nat → Int64)) (t21_0 : Int32) (t22_0 : (Nat → Int64)) (t23_0 : Int32) (t24_0 : (Nat → Int64)) (t25_0 : Int32) (t26_0 : (Nat → Int64)) (t27_0 : Int32) (t28_0 : (Nat → Int64)) (t29_0 : Int32) (t30_0 : (Nat → Int64)) (lx111 : Int32) (lx112 : Int32) (lx113 : Int32) (lx114 : (Nat → Int64)) (lx115 : Int32) (lx116 : Int32) (lx117 : Int32) (lx118 : Int32) (lx119 : Int32) (lx120 : Int32) (lx121 : (Nat → Int32)) (lx122 : Int32) (lx123 : (Nat → Int64)) (lx124 : Int32) (lx125 : Int32) (lx126 : Int32) (lx127 : Int32) (lx128 : Int32) (lx129 : Int32) (lx130 : Int32) (a205 : Int32) (y193 : Int32) (p391 : (Int32 × Int32 × Int32 × Int32 × Int32 × Int32 × Int32)) : Prop := S_Pri_run_c125 K_S_Pri_run_L18 t0_0 t1_0 t2_0 t3_0 t4_0 t4_1 t4_2 t4_3 t5_0 t6_0 t7_0 t8_0 t8_1 t9_0 t10_0 t11_0 t12_0 t12_1 t12_2 t12_3 t12_4 t12_5 t12_6 t13_0 t14_0 t15_0 t16_0 t17_0 t18_0 t19_0 t20_0 t21_0 t22_0 t23_0 t24_0 t25_0 t26_0 t27_0 t28_0 t29_0 t30_0 lx111 lx112 lx113 lx114 lx115 lx116 lx117 lx118 lx119 lx120 lx121 lx122 lx123 lx124 lx125 lx126 lx127 lx128 lx129 lx130 a205 y193 p391 (p391.1 : Int32) (p391.2.1 : Int32) (p391.2.2.1 : Int32) (p391.2.2.2.1 : Int32) (p391.2.2.2.2.1 : Int32) (p391.2.2.2.2.2.1 : Int32) (p391.2.2.2.2.2.2 : Int32) ((F_She_add_p (4104 : Int32) (513 : Int32) (1000000 : Int32) ((F_She_at_p (4100 : Int32) (513 : Int32) (4100 : Int32) (lx112.toInt64 : Int64) t0_0 t1_0) : Int32) y193 lx123) : (Int32 × (Nat → Int64)))
def S_Pri_run_c99 (K_S_Pri_run_L18 : Int32 → Int32 → Int32 → (Nat → Int64) → Int32 → Int32 → Int32 → Int32 → Int32 → Int32 → (Nat → Int32) → Int32 → (Nat → Int64) → Int32 → Int32 → Int32 → Int32 → Int32 → Int32 → Int32 → Prop) (t0_0 : Int32) (t1_0 : (Nat → Int64)) (t2_0 : Int32) (t3_0 : (Nat → Int64)) (t4_0 : Int32) (t4_1 : Int32) (t4_2 : Int32) (t4_3 : Int32) (t5_0 : (Nat → Int32)) (t6_0 : (Nat → Int64)) (t7_0 : (Nat → Int32)) (t8_0 : Int32) (t8_1 : Int32) (t9_0 : (Nat → Int32)) (t10_0 : Int32) (t11_0 : (Nat → Int64)) (t12_0 : Int32) (t12_1 : Int32) (t12_2 : Int32) (t12_3 : Int32) (t12_4 : Int32) (t12_5 : Int32) (t12_6 : Int32) (t13_0 : Int32) (t14_0 : (Nat → Int64)) (t15_0 : Int32) (t16_0 : (Nat → Int64)) (t17_0 : Int32) (t18_0 : (Nat → Int64)) (t19_0 : Int32) (t20_0 : (Nat → Int64)) (t21_0 : Int32) (t22_0 : (Nat → Int64)) (t23_0 : Int32) (t24_0 : (Nat → Int64)) (t25_0 : Int32) (t26_0 : (Nat → Int64)) (t27_0 : Int32) (t28_0 : (Nat → Int64)) (t29_0 : Int32) (t30_0 : (Nat → Int64)) (lx111 : Int32) (lx112 : Int32) (lx113 : Int32) (lx114 : (Nat → Int64)) (lx115 : Int32) (lx116 : Int32) (lx117 : Int32) (lx118 : Int32) (lx119 : Int32) (lx120 : Int32) (lx121 : (Nat → Int32)) (lx122 : Int32) (lx123 : (Nat → Int64)) (lx124 : Int32) (lx125 : Int32) (lx126 : Int32) (lx127 : Int32) (lx128 : Int32) (lx129 : Int32) (lx130 : Int32) (a205 : Int32) (y193 : Int32) (p459 : (Int32 × Int32 × Int32 × Int32 × Int32 × Int32 × Int32)) (y444 : Int32) (y439 : Int32) (y440 : Int32) (y441 : Int32) (y442 : Int32) (y443 : Int32) (y445 : Int32) (p494 : (Int32 × Int32 × Int32 × Int32 × Int32)) (a475 : Int32) (p548 : (Int32 × Int32 × Int32 × Int32 × Int32 × Int32 × (Nat → Int32) × Int32 × (Nat → Int64))) : Prop := S_Pri_run_J128 K_S_Pri_run_L18 t0_0 t1_0 t2_0 t3_0 t4_0 t4_1 t4_2 t4_3 t5_0 t6_0 t7_0 t8_0 t8_1 t9_0 t10_0 t11_0 t12_0 t12_1 t12_2 t12_3 t12_4 t12_5 t12_6 t13_0 t14_0 t15_0 t16_0 t17_0 t18_0 t19_0 t20_0 t21_0 t22_0 t23_0 t24_0 t25_0 t26_0 t27_0 t28_0 t29_0 t30_0 lx111 lx112 lx113 lx114 lx115 lx116 lx117 lx118 lx119 lx120 lx121 lx122 lx123 lx124 lx125 lx126 lx127 lx128 lx129 lx130 a475 y444 (p548.1 : Int32) (p548.2.1 : Int32) (p548.2.2.1 : Int32) (p548.2.2.2.1 : Int32) (p548.2.2.2.2.1 : Int32) (p548.2.2.2.2.2.1 : Int32) (p548.2.2.2.2.2.2.1 : (Nat → Int32)) (p548.2.2.2.2.2.2.2.1 : Int32) (p548.2.2.2.2.2.2.2.2 : (Nat → Int64)) y439 y440 y441 y442 y443 y444 y445
def S_Pri_run_c88 (K_S_Pri_run_L18 : Int32 → Int32 → Int32 → (Nat → Int64) → Int32 → Int32 → Int32 → Int32 → Int32 → Int32 → (Nat → Int32) → Int32 → (Nat → Int64) → Int32 → Int32 → Int32 → Int32 → Int32 → Int32 → Int32 → Prop) (t0_0 : Int32) (t1_0 : (Nat → Int64)) (t2_0 : Int32) (t3_0 : (Nat → Int64)) (t4_0 : Int32) (t4_1 : Int32) (t4_2 : Int32) (t4_3 : Int32) (t5_0 : (Nat → Int32)) (t6_0 : (Nat → Int64)) (t7_0 : (Nat → Int32)) (t8_0 : Int32) (t8_1 : Int32) (t9_0 : (Nat → Int32)) (t10_0 : Int32) (t11_0 : (Nat → Int64)) (t12_0 : Int32) (t12_1 : Int32) (t12_2 : Int32) (t12_3 : Int32) (t12_4 : Int32) (t12_5 : Int32) (t12_6 : Int32) (t13_0 : Int32) (t14_0 : (Nat → Int64)) (t15_0 : Int32) (t16_0 : (Nat → Int64)) (t17_0 : Int32) (t18_0 : (Nat → Int64)) (t19_0 : Int32) (t20_0 : (Nat → Int64)) (t21_0 : Int32) (t22_0 : (Nat → Int64)) (t23_0 : Int32) (t24_0 : (Nat → Int64)) (t25_0 : Int32) (t26_0 : (Nat → Int64)) (t27_0 : Int32) (t28_0 : (Nat → Int64)) (t29_0 : Int32) (t30_0 : (Nat → Int64)) (lx111 : Int32) (lx112 : Int32) (lx113 : Int32) (lx114 : (Nat → Int64)) (lx115 : Int32) (lx116 : Int32) (lx117 : Int32) (lx118 : Int32) (lx119 : Int32) (lx120 : Int32) (lx121 : (Nat → Int32)) (lx122 : Int32) (lx123 : (Nat → Int64)) (lx124 : Int32) (lx125 : Int32) (lx126 : Int32) (lx127 : Int32) (lx128 : Int32) (lx129 : Int32) (lx130 : Int32) (a205 : Int32) (y193 : Int32) (p459 : (Int32 × Int32 × Int32 × Int32 × Int32 × Int32 × Int32)) (y444 : Int32) (y439 : Int32) (y440 : Int32) (y441 : Int32) (y442 : Int32) (y443 : Int32) (y445 : Int32) (p494 : (Int32 × Int32 × Int32 × Int32 × Int32)) : Prop := if (p494.1 : Int32) = (0 : Int32) then ((True ∧ S_Pri_writeBody (p494.2.1 : Int32) (p494.2.2.1 : Int32) (p494.2.2.2.1 : Int32) (p494.2.2.2.2 : Int32) t5_0 t6_0 t7_0 lx119 lx120 lx121 y193 lx123 y439 y440 y441 y442 y443 y444 y445 t13_0 t14_0 t15_0 t16_0 t17_0 t18_0 t19_0 t20_0 t21_0 t22_0 t23_0 t24_0 t25_0 t26_0 t27_0 t28_0 t29_0 t30_0) ∧ (S_Pri_run_c99 K_S_Pri_run_L18 t0_0 t1_0 t2_0 t3_0 t4_0 t4_1 t4_2 t4_3 t5_0 t6_0 t7_0 t8_0 t8_1 t9_0 t10_0 t11_0 t12_0 t12_1 t12_2 t12_3 t12_4 t12_5 t12_6 t13_0 t14_0 t15_0 t16_0 t17_0 t18_0 t19_0 t20_0 t21_0 t22_0 t23_0 t24_0 t25_0 t26_0 t27_0 t28_0 t29_0 t30_0 lx111 lx112 lx113 lx114 lx115 lx116 lx117 lx118 lx119 lx120 lx121 lx122 lx123 lx124 lx125 lx126 lx127 lx128 lx129 lx130 a205 y193 p459 y444 y439 y440 y441 y442 y443 y445 p494 (p494.1 : Int32) ((F_Pri_writeBody (p494.2.1 : Int32) (p494.2.2.1 : Int32) (p494.2.2.2.1 : Int32) (p494.2.2.2.2 : Int32) t5_0 t6_0 t7_0 lx119 lx120 lx121 y193 lx123 y439 y440 y441 y442 y443 y444 y445 t13_0 t14_0 t15_0 t16_0 t17_0 t18_0 t19_0 t20_0 t21_0 t22_0 t23_0 t24_0 t25_0 t26_0 t27_0 t28_0 t29_0 t30_0) : (Int32 × Int32 × Int32 × Int32 × Int32 × Int32 × (Nat → Int32) × Int32 × (Nat → Int64))))) else (S_Pri_run_J128 K_S_Pri_run_L18 t0_0 t1_0 t2_0 t3_0 t4_0 t4_1 t4_2 t4_3 t5_0 t6_0 t7_0 t8_0 t8_1 t9_0 t10_0 t11_0 t12_0 t12_1 t12_2 t12_3 t12_4 t12_5 t12_6 t13_0 t14_0 t15_0 t16_0 t17_0 t18_0 t19_0 t20_0 t21_0 t22_0 t23_0 t24_0 t25_0 t26_0 t27_0 t28_0 t29_0 t30_0 lx111 lx112 lx113 lx114 lx115 lx116 lx117 lx118 lx119 lx120 lx121 lx122 lx123 lx124 lx125 lx126 lx127 lx128 lx129 lx130 (p494.1 : Int32) y444 (p494.2.1 : Int32) (p494.2.2.1 : Int32) (p494.2.2.2.1 : Int32) (p494.2.2.2.2 : Int32) lx119 lx120 lx121 y193 lx123 y439 y440 y441 y442 y443 y444 y445)
def S_Pri_run_c75 (K_S_Pri_run_L18 : Int32 → Int32 → Int32 → (Nat → Int64) → Int32 → Int32 → Int32 → Int32 → Int32 → Int32 → (Nat → Int32) → Int32 → (Nat → Int64) → Int32 → Int32 → Int32 → Int32 → Int32 → Int32 → Int32 → Prop) (t0_0 : Int32) (t1_0 : (Nat → Int64)) (t2_0 : Int32) (t3_0 : (Nat → Int64)) (t4_0 : Int32) (t4_1 : Int32) (t4_2 : Int32) (t4_3 : Int32) (t5_0 : (Nat → Int32)) (t6_0 : (Nat → Int64)) (t7_0 : (Nat → Int32)) (t8_0 : Int32) (t8_1 : Int32) (t9_0 : (Nat → Int32)) (t10_0 : Int32) (t11_0 : (Nat → Int64)) (t12_0 : Int32) (t12_1 : Int32) (t12_2 : Int32) (t12_3 : Int32) (t12_4 : Int32) (t12_5 : Int32) (t12_6 : Int32) (t13_0 : Int32) (t14_0 : (Nat → Int64)) (t15_0 : Int32) (t16_0 : (Nat → Int64)) (t17_0 : Int32) (t18_0 : (Nat → Int64)) (t19_0 : Int32) (t20_0 : (Nat → Int64)) (t21_0 : Int32) (t22_0 : (Nat → Int64)) (t23_0 : Int32) (t24_0 : (Nat → Int64)) (t25_0 : Int32) (t26_0 : (Nat → Int64)) (t27_0 : Int32) (t28_0 : (Nat → Int64)) (t29_0 : Int32) (t30_0 : (Nat → Int64)) (lx111 : Int32) (lx112 : Int32) (lx113 : Int32) (lx114 : (Nat → Int64)) (lx115 : Int32) (lx116 : Int32) (lx117 : Int32) (lx118 : Int32) (lx119 : Int32) (lx120 : Int32) (lx121 : (Nat → Int32)) (lx122 : Int32) (lx123 : (Nat → Int64)) (lx124 : Int32) (lx125 : Int32) (lx126 : Int32) (lx127 : Int32) (lx128 : Int32) (lx129 : Int32) (lx130 : Int32) (a205 : Int32) (y193 : Int32) (p459 : (Int32 × Int32 × Int32 × Int32 × Int32 × Int32 × Int32)) : Prop := S_Pri_run_c88 K_S_Pri_run_L18 t0_0 t1_0 t2_0 t3_0 t4_0 t4_1 t4_2 t4_3 t5_0 t6_0 t7_0 t8_0 t8_1 t9_0 t10_0 t11_0 t12_0 t12_1 t12_2 t12_3 t12_4 t12_5 t12_6 t13_0 t14_0 t15_0 t16_0 t17_0 t18_0 t19_0 t20_0 t21_0 t22_0 t23_0 t24_0 t25_0 t26_0 t27_0 t28_0 t29_0 t30_0 lx111 lx112 lx113 lx114 lx115 lx116 lx117 lx118 lx119 lx120 lx121 lx122 lx123 lx124 lx125 lx126 lx127 lx128 lx129 lx130 a205 y193 p459 (p459.2.2.2.2.2.1 : Int32) (p459.1 : Int32) (p459.2.1 : Int32) (p459.2.2.1 : Int32) (p459.2.2.2.1 : Int32) (p459.2.2.2.2.1 : Int32) (p459.2.2.2.2.2.2 : Int32) ((F_Pri_findFault lx115 (-1 : Int32) lx117 lx118 t5_0 t6_0 t7_0 (p459.1 : Int32) (p459.2.1 : Int32) (p459.2.2.1 : Int32) (p459.2.2.2.1 : Int32) (p459.2.2.2.2.1 : Int32) (p459.2.2.2.2.2.1 : Int32) (p459.2.2.2.2.2.2 : Int32)) : (Int32 × Int32 × Int32 × Int32 × Int32))
def S_Pri_run_L18 (t0_0 : Int32) (t1_0 : (Nat → Int64)) (t2_0 : Int32) (t3_0 : (Nat → Int64)) (t4_0 : Int32) (t4_1 : Int32) (t4_2 : Int32) (t4_3 : Int32) (t5_0 : (Nat → Int32)) (t6_0 : (Nat → Int64)) (t7_0 : (Nat → Int32)) (t8_0 : Int32) (t8_1 : Int32) (t9_0 : (Nat → Int32)) (t10_0 : Int32) (t11_0 : (Nat → Int64)) (t12_0 : Int32) (t12_1 : Int32) (t12_2 : Int32) (t12_3 : Int32) (t12_4 : Int32) (t12_5 : Int32) (t12_6 : Int32) (t13_0 : Int32) (t14_0 : (Nat → Int64)) (t15_0 : Int32) (t16_0 : (Nat → Int64)) (t17_0 : Int32) (t18_0 : (Nat → Int64)) (t19_0 : Int32) (t20_0 : (Nat → Int64)) (t21_0 : Int32) (t22_0 : (Nat → Int64)) (t23_0 : Int32) (t24_0 : (Nat → Int64)) (t25_0 : Int32) (t26_0 : (Nat → Int64)) (t27_0 : Int32) (t28_0 : (Nat → Int64)) (t29_0 : Int32) (t30_0 : (Nat → Int64)) : Nat → Int32 → Int32 → Int32 → (Nat → Int64) → Int32 → Int32 → Int32 → Int32 → Int32 → Int32 → (Nat → Int32) → Int32 → (Nat → Int64) → Int32 → Int32 → Int32 → Int32 → Int32 → Int32 → Int32 → Prop
  | 0, _, _, _, _, _, _, _, _, _, _, _, _, _, _, _, _, _, _, _, _ => False
  | fm + 1, lx111, lx112, lx113, lx114, lx115, lx116, lx117, lx118, lx119, lx120, lx121, lx122, lx123, lx124, lx125, lx126, lx127, lx128, lx129, lx130 => if (256 : Int32) < lx111 then (True) else (if t0_0 ≤ lx112 then (True) else ((0 ≤ lx115.toInt) ∧ ((lx115.toInt ≤ 9) ∧ ((0 ≤ lx118.toInt + 1) ∧ ((lx118.toInt ≤ 8) ∧ (if ((F_She_at_p (4100 : Int32) (513 : Int32) (4100 : Int32) (lx112.toInt64 : Int64) t0_0 t1_0) : Int32) = (37 : Int32) then (S_Pri_run_c75 (S_Pri_run_L18 t0_0 t1_0 t2_0 t3_0 t4_0 t4_1 t4_2 t4_3 t5_0 t6_0 t7_0 t8_0 t8_1 t9_0 t10_0 t11_0 t12_0 t12_1 t12_2 t12_3 t12_4 t12_5 t12_6 t13_0 t14_0 t15_0 t16_0 t17_0 t18_0 t19_0 t20_0 t21_0 t22_0 t23_0 t24_0 t25_0 t26_0 t27_0 t28_0 t29_0 t30_0 fm) t0_0 t1_0 t2_0 t3_0 t4_0 t4_1 t4_2 t4_3 t5_0 t6_0 t7_0 t8_0 t8_1 t9_0 t10_0 t11_0 t12_0 t12_1 t12_2 t12_3 t12_4 t12_5 t12_6 t13_0 t14_0 t15_0 t16_0 t17_0 t18_0 t19_0 t20_0 t21_0 t22_0 t23_0 t24_0 t25_0 t26_0 t27_0 t28_0 t29_0 t30_0 lx111 lx112 lx113 lx114 lx115 lx116 lx117 lx118 lx119 lx120 lx121 lx122 lx123 lx124 lx125 lx126 lx127 lx128 lx129 lx130 (lx112 + 1 : Int32) ((F_She_clear (4104 : Int32) (513 : Int32) (1000000 : Int32) lx122) : Int32) ((F_Dir_parse lx112 lx124 lx125 lx126 lx127 lx128 lx129 lx130 t0_0 t1_0) : (Int32 × Int32 × Int32 × Int32 × Int32 × Int32 × Int32))) else (S_Pri_run_c109 (S_Pri_run_L18 t0_0 t1_0 t2_0 t3_0 t4_0 t4_1 t4_2 t4_3 t5_0 t6_0 t7_0 t8_0 t8_1 t9_0 t10_0 t11_0 t12_0 t12_1 t12_2 t12_3 t12_4 t12_5 t12_6 t13_0 t14_0 t15_0 t16_0 t17_0 t18_0 t19_0 t20_0 t21_0 t22_0 t23_0 t24_0 t25_0 t26_0 t27_0 t28_0 t29_0 t30_0 fm) t0_0 t1_0 t2_0 t3_0 t4_0 t4_1 t4_2 t4_3 t5_0 t6_0 t7_0 t8_0 t8_1 t9_0 t10_0 t11_0 t12_0 t12_1 t12_2 t12_3 t12_4 t12_5 t12_6 t13_0 t14_0 t15_0 t16_0 t17_0 t18_0 t19_0 t20_0 t21_0 t22_0 t23_0 t24_0 t25_0 t26_0 t27_0 t28_0 t29_0 t30_0 lx111 lx112 lx113 lx114 lx115 lx116 lx117 lx118 lx119 lx120 lx121 lx122 lx123 lx124 lx125 lx126 lx127 lx128 lx129 lx130 (lx112 + 1 : Int32) ((F_She_clear (4104 : Int32) (513 : Int32) (1000000 : Int32) lx122) : Int32) ((F_Dir_setPlain lx124 lx125 lx126 lx127 lx128 lx129 lx130 t0_0 t1_0) : (Int32 × Int32 × Int32 × Int32 × Int32 × Int32 × Int32)))))))))
def S_Pri_run (t0_0 : Int32) (t1_0 : (Nat → Int64)) (t2_0 : Int32) (t3_0 : (Nat → Int64)) (t4_0 : Int32) (t4_1 : Int32) (t4_2 : Int32) (t4_3 : Int32) (t5_0 : (Nat → Int32)) (t6_0 : (Nat → Int64)) (t7_0 : (Nat → Int32)) (t8_0 : Int32) (t8_1 : Int32) (t9_0 : (Nat → Int32)) (t10_0 : Int32) (t11_0 : (Nat → Int64)) (t12_0 : Int32) (t12_1 : Int32) (t12_2 : Int32) (t12_3 : Int32) (t12_4 : Int32) (t12_5 : Int32) (t12_6 : Int32) (t13_0 : Int32) (t14_0 : (Nat → Int64)) (t15_0 : Int32) (t16_0 : (Nat → Int64)) (t17_0 : Int32) (t18_0 : (Nat → Int64)) (t19_0 : Int32) (t20_0 : (Nat → Int64)) (t21_0 : Int32) (t22_0 : (Nat → Int64)) (t23_0 : Int32) (t24_0 : (Nat → Int64)) (t25_0 : Int32) (t26_0 : (Nat → Int64)) (t27_0 : Int32) (t28_0 : (Nat → Int64)) (t29_0 : Int32) (t30_0 : (Nat → Int64)) : Prop := S_Pri_run_L18 t0_0 t1_0 t2_0 t3_0 t4_0 t4_1 t4_2 t4_3 t5_0 t6_0 t7_0 t8_0 t8_1 t9_0 t10_0 t11_0 t12_0 t12_1 t12_2 t12_3 t12_4 t12_5 t12_6 t13_0 t14_0 t15_0 t16_0 t17_0 t18_0 t19_0 t20_0 t21_0 t22_0 t23_0 t24_0 t25_0 t26_0 t27_0 t28_0 t29_0 t30_0 ((257 - (0 : Int32).toInt).toNat + 1) 0 0 ((F_She_clear (11008 : Int32) (1376 : Int32) (1000000 : Int32) t2_0) : Int32) t3_0 t4_0 t4_1 0 (-1) t8_0 t8_1 t9_0 t10_0 t11_0 t12_0 t12_1 t12_2 t12_3 t12_4 t12_5 t12_6
set_option maxRecDepth 100000 in
set_option maxHeartbeats 4000000 in
theorem X_Pri_run (l : Launch) (D : va_G) (g : Nat → ClassId) (q : Nat → Nat) (ws : va_W) (hI : q_I (nsh g q) q ws) (t0_0 : Int32) (hT0 : ws[1]? = (some (q 1, .inr (1, [.ref (q 2), .int 4100, .int t0_0])) : Option (Nat × va_E))) (t1_0 : (Nat → Int64)) (hT1 : ws[2]? = (some (q 2, .inl (g 1, (513 : Int32).toNatClampNeg, .inr (.inl t1_0))) : Option (Nat × va_E))) (t2_0 : Int32) (hT2 : ws[3]? = (some (q 3, .inr (1, [.ref (q 4), .int 11008, .int t2_0])) : Option (Nat × va_E))) (t3_0 : (Nat → Int64)) (hT3 : ws[4]? = (some (q 4, .inl (g 1, (1376 : Int32).toNatClampNeg, .inr (.inl t3_0))) : Option (Nat × va_E))) (t4_0 : Int32) (t4_1 : Int32) (t4_2 : Int32) (t4_3 : Int32) (hT4 : ws[40]? = (some (q 40, .inr (11, [.int t4_0, .ref (q 41), .ref (q 42), .ref (q 43), .ref (q 44), .ref (q 1), .ref (q 47), .ref (q 36), .ref (q 45), .int t4_1, .int t4_2, .int t4_3])) : Option (Nat × va_E))) (t5_0 : (Nat → Int32)) (hT5 : ws[41]? = (some (q 41, .inl (g 0, 9, .inl t5_0)) : Option (Nat × va_E))) (t6_0 : (Nat → Int64)) (hT6 : ws[42]? = (some (q 42, .inl (g 1, 9, .inr (.inl t6_0))) : Option (Nat × va_E))) (t7_0 : (Nat → Int32)) (hT7 : ws[43]? = (some (q 43, .inl (g 0, 9, .inl t7_0)) : Option (Nat × va_E))) (t8_0 : Int32) (t8_1 : Int32) (hT8 : ws[36]? = (some (q 36, .inr (7, [.int t8_0, .int t8_1, .ref (q 37)])) : Option (Nat × va_E))) (t9_0 : (Nat → Int32)) (hT9 : ws[37]? = (some (q 37, .inl (g 2, 1026, .inl t9_0)) : Option (Nat × va_E))) (t10_0 : Int32) (hT10 : ws[45]? = (some (q 45, .inr (1, [.ref (q 46), .int 4104, .int t10_0])) : Option (Nat × va_E))) (t11_0 : (Nat → Int64)) (hT11 : ws[46]? = (some (q 46, .inl (g 1, (513 : Int32).toNatClampNeg, .inr (.inl t11_0))) : Option (Nat × va_E))) (t12_0 : Int32) (t12_1 : Int32) (t12_2 : Int32) (t12_3 : Int32) (t12_4 : Int32) (t12_5 : Int32) (t12_6 : Int32) (hT12 : ws[47]? = (some (q 47, .inr (10, [.int t12_0, .int t12_1, .int t12_2, .int t12_3, .int t12_4, .int t12_5, .ref (q 1), .int t12_6])) : Option (Nat × va_E))) (t13_0 : Int32) (hT13 : ws[48]? = (some (q 48, .inr (1, [.ref (q 49), .int 64, .int t13_0])) : Option (Nat × va_E))) (t14_0 : (Nat → Int64)) (hT14 : ws[49]? = (some (q 49, .inl (g 1, (8 : Int32).toNatClampNeg, .inr (.inl t14_0))) : Option (Nat × va_E))) (t15_0 : Int32) (hT15 : ws[50]? = (some (q 50, .inr (1, [.ref (q 51), .int 64, .int t15_0])) : Option (Nat × va_E))) (t16_0 : (Nat → Int64)) (hT16 : ws[51]? = (some (q 51, .inl (g 1, (8 : Int32).toNatClampNeg, .inr (.inl t16_0))) : Option (Nat × va_E))) (t17_0 : Int32) (hT17 : ws[52]? = (some (q 52, .inr (1, [.ref (q 53), .int 64, .int t17_0])) : Option (Nat × va_E))) (t18_0 : (Nat → Int64)) (hT18 : ws[53]? = (some (q 53, .inl (g 1, (8 : Int32).toNatClampNeg, .inr (.inl t18_0))) : Option (Nat × va_E))) (t19_0 : Int32) (hT19 : ws[54]? = (some (q 54, .inr (1, [.ref (q 55), .int 64, .int t19_0])) : Option (Nat × va_E))) (t20_0 : (Nat → Int64)) (hT20 : ws[55]? = (some (q 55, .inl (g 1, (8 : Int32).toNatClampNeg, .inr (.inl t20_0))) : Option (Nat × va_E))) (t21_0 : Int32) (hT21 : ws[56]? = (some (q 56, .inr (1, [.ref (q 57), .int 64, .int t21_0])) : Option (Nat × va_E))) (t22_0 : (Nat → Int64)) (hT22 : ws[57]? = (some (q 57, .inl (g 1, (8 : Int32).toNatClampNeg, .inr (.inl t22_0))) : Option (Nat × va_E))) (t23_0 : Int32) (hT23 : ws[58]? = (some (q 58, .inr (1, [.ref (q 59), .int 64, .int t23_0])) : Option (Nat × va_E))) (t24_0 : (Nat → Int64)) (hT24 : ws[59]? = (some (q 59, .inl (g 1, (8 : Int32).toNatClampNeg, .inr (.inl t24_0))) : Option (Nat × va_E))) (t25_0 : Int32) (hT25 : ws[60]? = (some (q 60, .inr (1, [.ref (q 61), .int 64, .int t25_0])) : Option (Nat × va_E))) (t26_0 : (Nat → Int64)) (hT26 : ws[61]? = (some (q 61, .inl (g 1, (8 : Int32).toNatClampNeg, .inr (.inl t26_0))) : Option (Nat × va_E))) (t27_0 : Int32) (hT27 : ws[62]? = (some (q 62, .inr (1, [.ref (q 63), .int 64, .int t27_0])) : Option (Nat × va_E))) (t28_0 : (Nat → Int64)) (hT28 : ws[63]? = (some (q 63, .inl (g 1, (8 : Int32).toNatClampNeg, .inr (.inl t28_0))) : Option (Nat × va_E))) (t29_0 : Int32) (hT29 : ws[64]? = (some (q 64, .inr (1, [.ref (q 65), .int 64, .int t29_0])) : Option (Nat × va_E))) (t30_0 : (Nat → Int64)) (hT30 : ws[65]? = (some (q 65, .inl (g 1, (8 : Int32).toNatClampNeg, .inr (.inl t30_0))) : Option (Nat × va_E))) (pre0 : t0_0.toInt ≤ 256) (hS : True ∧ S_Pri_run t0_0 t1_0 t2_0 t3_0 t4_0 t4_1 t4_2 t4_3 t5_0 t6_0 t7_0 t8_0 t8_1 t9_0 t10_0 t11_0 t12_0 t12_1 t12_2 t12_3 t12_4 t12_5 t12_6 t13_0 t14_0 t15_0 t16_0 t17_0 t18_0 t19_0 t20_0 t21_0 t22_0 t23_0 t24_0 t25_0 t26_0 t27_0 t28_0 t29_0 t30_0) : q_mI l y_Pri_run prog_9_method_5_code 6 (.int) 9 0 0 D g [.ref (q 40), .ref (q 3)] ws (fun r u => q_I (nsh g q) q u ∧ q_un ws u [3, 4, 36, 37, 40, 45, 46, 47] ∧ ∃ (u2_0 : Int32) (u3_0 : (Nat → Int64)) (u4_0 : Int32) (u4_1 : Int32) (u4_2 : Int32) (u4_3 : Int32) (u8_0 : Int32) (u8_1 : Int32) (u9_0 : (Nat → Int32)) (u10_0 : Int32) (u11_0 : (Nat → Int64)) (u12_0 : Int32) (u12_1 : Int32) (u12_2 : Int32) (u12_3 : Int32) (u12_4 : Int32) (u12_5 : Int32) (u12_6 : Int32), u[3]? = (some (q 3, .inr (1, [.ref (q 4), .int 11008, .int u2_0])) : Option (Nat × va_E)) ∧ u[4]? = (some (q 4, .inl (g 1, (1376 : Int32).toNatClampNeg, .inr (.inl u3_0))) : Option (Nat × va_E)) ∧ u[40]? = (some (q 40, .inr (11, [.int u4_0, .ref (q 41), .ref (q 42), .ref (q 43), .ref (q 44), .ref (q 1), .ref (q 47), .ref (q 36), .ref (q 45), .int u4_1, .int u4_2, .int u4_3])) : Option (Nat × va_E)) ∧ u[36]? = (some (q 36, .inr (7, [.int u8_0, .int u8_1, .ref (q 37)])) : Option (Nat × va_E)) ∧ u[37]? = (some (q 37, .inl (g 2, 1026, .inl u9_0)) : Option (Nat × va_E)) ∧ u[45]? = (some (q 45, .inr (1, [.ref (q 46), .int 4104, .int u10_0])) : Option (Nat × va_E)) ∧ u[46]? = (some (q 46, .inl (g 1, (513 : Int32).toNatClampNeg, .inr (.inl u11_0))) : Option (Nat × va_E)) ∧ u[47]? = (some (q 47, .inr (10, [.int u12_0, .int u12_1, .int u12_2, .int u12_3, .int u12_4, .int u12_5, .ref (q 1), .int u12_6])) : Option (Nat × va_E)) ∧ (r.toInt ≤ 2147482648) ∧ (0 ≤ u2_0.toInt) ∧ (u2_0.toInt ≤ 1000000) ∧ (0 ≤ u4_1.toInt + 1000000) ∧ (u4_1.toInt ≤ 1000000) ∧ (0 ≤ u10_0.toInt + 1000000) ∧ (u10_0.toInt ≤ 1000000) ∧ (0 ≤ u12_2.toInt + 1) ∧ (u12_2.toInt ≤ 9999) ∧ (0 ≤ u12_3.toInt + 1) ∧ (u12_3.toInt ≤ 9999) ∧ (0 ≤ u12_6.toInt) ∧ (u12_6.toInt ≤ 1) ∧ (u2_0.toInt ≤ r.toInt + 12255) ∧ (u4_1.toInt ≤ r.toInt + 1000000) ∧ (u10_0.toInt ≤ r.toInt + 1000000) ∧ (r, u2_0, u3_0, u4_0, u4_1, u4_2, u4_3, u8_0, u8_1, u9_0, u10_0, u11_0, u12_0, u12_1, u12_2, u12_3, u12_4, u12_5, u12_6) = (F_Pri_run t0_0 t1_0 t2_0 t3_0 t4_0 t4_1 t4_2 t4_3 t5_0 t6_0 t7_0 t8_0 t8_1 t9_0 t10_0 t11_0 t12_0 t12_1 t12_2 t12_3 t12_4 t12_5 t12_6 t13_0 t14_0 t15_0 t16_0 t17_0 t18_0 t19_0 t20_0 t21_0 t22_0 t23_0 t24_0 t25_0 t26_0 t27_0 t28_0 t29_0 t30_0)) := by
  intro sz
  refine q_into (by decide) (Nat.le_of_ble_eq_true rfl) ?_
  intro p e s m below meth c ls hsz C0 V hl
  have hx := C0.1
  have hb := C0.2.1
  have btt0_0 := n_shW hI (n_h1 g q) hT0
  replace btt0_0 : q_F (0 ≤ t0_0.toInt ∧ t0_0.toInt ≤ 4100) := btt0_0
  have btt2_0 := n_shW hI (n_h3 g q) hT2
  clear btt2_0
  obtain ⟨btt4_0, hZ9⟩ := n_w40 hI hT4
  obtain ⟨btt4_1, btt4_3⟩ := hZ9
  replace btt4_0 : q_F (0 ≤ t4_0.toInt ∧ t4_0.toInt ≤ 9) := btt4_0
  replace btt4_1 : q_F (-1 ≤ t4_1.toInt ∧ t4_1.toInt ≤ 1000000) := btt4_1
  replace btt4_3 : q_F (-1 ≤ t4_3.toInt ∧ t4_3.toInt ≤ 8) := btt4_3
  have btt8_1 := (n_w36 hI hT8).2
  clear btt8_1
  have btt10_0 := n_shW hI (n_h45 g q) hT10
  replace btt10_0 : q_F (0 ≤ t10_0.toInt ∧ t10_0.toInt ≤ 1000000) := btt10_0
  obtain ⟨btt12_2, hZ9⟩ := n_w47 hI hT12
  obtain ⟨btt12_3, btt12_6⟩ := hZ9
  replace btt12_2 : q_F (-1 ≤ t12_2.toInt ∧ t12_2.toInt ≤ 9999) := btt12_2
  replace btt12_3 : q_F (-1 ≤ t12_3.toInt ∧ t12_3.toInt ≤ 9999) := btt12_3
  replace btt12_6 : q_F (0 ≤ t12_6.toInt ∧ t12_6.toInt ≤ 1) := btt12_6
  have btt13_0 := n_shW hI (n_h48 g q) hT13
  clear btt13_0
  have btt15_0 := n_shW hI (n_h50 g q) hT15
  clear btt15_0
  have btt17_0 := n_shW hI (n_h52 g q) hT17
  clear btt17_0
  have btt19_0 := n_shW hI (n_h54 g q) hT19
  clear btt19_0
  have btt21_0 := n_shW hI (n_h56 g q) hT21
  clear btt21_0
  have btt23_0 := n_shW hI (n_h58 g q) hT23
  clear btt23_0
  have btt25_0 := n_shW hI (n_h60 g q) hT25
  clear btt25_0
  have btt27_0 := n_shW hI (n_h62 g q) hT27
  clear btt27_0
  have btt29_0 := n_shW hI (n_h64 g q) hT29
  clear btt29_0
  replace pre0 : q_F (t0_0.toInt ≤ 256) := pre0
  have hF : q_un ws ws [3, 4, 36, 37, 40, 45, 46, 47] := q_u0
  have hl : lv_has ls 6 [(0, .ref (q 40)), (1, .ref (q 3))] := hl
  refine lv_aload_n hx hb d_9_5_0 rfl (lv_at hl 1 rfl) ?_
  refine q_gov V (q_runV (As := []) (rest := []) (d := 1) (mc := 0) (ms := 0) (ci := 1) C0 V rfl LV_Pri_70 (X_She_clear l D g q ws 3 11008 1376 1000000 (n_h3 g q)  hI t2_0 hT2  _) rfl rfl hT2 rfl hl.1 rfl (Nat.le_of_ble_eq_true rfl) ⟨by decide, by decide⟩ ⟨Nat.le_of_ble_eq_true rfl, Nat.le_of_ble_eq_true rfl⟩ d_9_5_1) (fun u96 H locs hp97 V => ?_)
  obtain ⟨hI, hZ9⟩ := hp97
  obtain ⟨hu103, hZ9⟩ := hZ9
  obtain ⟨y99, hZ9⟩ := hZ9
  obtain ⟨hO98, hZ9⟩ := hZ9
  obtain ⟨b100, hZ9⟩ := hZ9
  obtain ⟨b101, hE102⟩ := hZ9
  replace hO98 : u96[3]? = (some (q 3, .inr (1, [.ref (q 4), .int 11008, .int y99])) : Option (Nat × va_E)) := hO98
  have e104 : y99 = (F_She_clear (11008 : Int32) (1376 : Int32) (1000000 : Int32) t2_0) := hE102
  replace b100 : q_F (0 ≤ y99.toInt) := b100
  replace b101 : q_F (y99.toInt ≤ 0) := b101
  replace hT0 := (hu103 _ (by decide)).trans hT0
  replace hT1 := (hu103 _ (by decide)).trans hT1
  replace hT3 := (hu103 _ (by decide)).trans hT3
  replace hT4 := (hu103 _ (by decide)).trans hT4
  replace hT5 := (hu103 _ (by decide)).trans hT5
  replace hT6 := (hu103 _ (by decide)).trans hT6
  replace hT7 := (hu103 _ (by decide)).trans hT7
  replace hT8 := (hu103 _ (by decide)).trans hT8
  replace hT9 := (hu103 _ (by decide)).trans hT9
  replace hT10 := (hu103 _ (by decide)).trans hT10
  replace hT11 := (hu103 _ (by decide)).trans hT11
  replace hT12 := (hu103 _ (by decide)).trans hT12
  replace hT13 := (hu103 _ (by decide)).trans hT13
  replace hT14 := (hu103 _ (by decide)).trans hT14
  replace hT15 := (hu103 _ (by decide)).trans hT15
  replace hT16 := (hu103 _ (by decide)).trans hT16
  replace hT17 := (hu103 _ (by decide)).trans hT17
  replace hT18 := (hu103 _ (by decide)).trans hT18
  replace hT19 := (hu103 _ (by decide)).trans hT19
  replace hT20 := (hu103 _ (by decide)).trans hT20
  replace hT21 := (hu103 _ (by decide)).trans hT21
  replace hT22 := (hu103 _ (by decide)).trans hT22
  replace hT23 := (hu103 _ (by decide)).trans hT23
  replace hT24 := (hu103 _ (by decide)).trans hT24
  replace hT25 := (hu103 _ (by decide)).trans hT25
  replace hT26 := (hu103 _ (by decide)).trans hT26
  replace hT27 := (hu103 _ (by decide)).trans hT27
  replace hT28 := (hu103 _ (by decide)).trans hT28
  replace hT29 := (hu103 _ (by decide)).trans hT29
  replace hT30 := (hu103 _ (by decide)).trans hT30
  replace hF := q_uc hF hu103 (by first | exact (q_sk (q_mi 0 rfl) q_s0) | simp)
  refine lv_aload_n hx hb d_9_5_4 rfl (lv_at hl 0 rfl) ?_
  refine lv_iconst (v := 0) hx hb d_9_5_5 (by decide) ?_
  refine q_put (ci := 11) (j := 10) (v := .int 0) (ty := .int) C0 V i_Pri o_Pri n_Pri rfl rfl hT4 (by decide) w_395 rfl rfl rfl rfl (Nat.le_of_ble_eq_true rfl) d_9_5_6 (fun H locs w105 hu106 hT4 V => ?_)
  replace hT4 : w105[40]? = (some (q 40, .inr (11, [.int t4_0, .ref (q 41), .ref (q 42), .ref (q 43), .ref (q 44), .ref (q 1), .ref (q 47), .ref (q 36), .ref (q 45), .int t4_1, .int 0, .int t4_3])) : Option (Nat × va_E)) := hT4
  replace hI := n_p40 hI hu106 hT4 (by first | with_reducible exact q_fe btt4_0 | exact ⟨(by have t1 : 0 ≤ t4_0.toInt ∧ t4_0.toInt ≤ 9 := btt4_0; omega), (by have t1 : 0 ≤ t4_0.toInt ∧ t4_0.toInt ≤ 9 := btt4_0; omega)⟩) (by first | with_reducible exact q_fe btt4_1 | exact ⟨(by have t1 : -1 ≤ t4_1.toInt ∧ t4_1.toInt ≤ 1000000 := btt4_1; omega), (by have t1 : -1 ≤ t4_1.toInt ∧ t4_1.toInt ≤ 1000000 := btt4_1; omega)⟩) (by first | with_reducible exact q_fe btt4_3 | exact ⟨(by have t1 : -1 ≤ t4_3.toInt ∧ t4_3.toInt ≤ 8 := btt4_3; omega), (by have t1 : -1 ≤ t4_3.toInt ∧ t4_3.toInt ≤ 8 := btt4_3; omega)⟩)
  replace hT0 := (hu106 _ (by decide)).trans hT0
  replace hT1 := (hu106 _ (by decide)).trans hT1
  replace hO98 := (hu106 _ (by decide)).trans hO98
  replace hT3 := (hu106 _ (by decide)).trans hT3
  replace hT5 := (hu106 _ (by decide)).trans hT5
  replace hT6 := (hu106 _ (by decide)).trans hT6
  replace hT7 := (hu106 _ (by decide)).trans hT7
  replace hT8 := (hu106 _ (by decide)).trans hT8
  replace hT9 := (hu106 _ (by decide)).trans hT9
  replace hT10 := (hu106 _ (by decide)).trans hT10
  replace hT11 := (hu106 _ (by decide)).trans hT11
  replace hT12 := (hu106 _ (by decide)).trans hT12
  replace hT13 := (hu106 _ (by decide)).trans hT13
  replace hT14 := (hu106 _ (by decide)).trans hT14
  replace hT15 := (hu106 _ (by decide)).trans hT15
  replace hT16 := (hu106 _ (by decide)).trans hT16
  replace hT17 := (hu106 _ (by decide)).trans hT17
  replace hT18 := (hu106 _ (by decide)).trans hT18
  replace hT19 := (hu106 _ (by decide)).trans hT19
  replace hT20 := (hu106 _ (by decide)).trans hT20
  replace hT21 := (hu106 _ (by decide)).trans hT21
  replace hT22 := (hu106 _ (by decide)).trans hT22
  replace hT23 := (hu106 _ (by decide)).trans hT23
  replace hT24 := (hu106 _ (by decide)).trans hT24
  replace hT25 := (hu106 _ (by decide)).trans hT25
  replace hT26 := (hu106 _ (by decide)).trans hT26
  replace hT27 := (hu106 _ (by decide)).trans hT27
  replace hT28 := (hu106 _ (by decide)).trans hT28
  replace hT29 := (hu106 _ (by decide)).trans hT29
  replace hT30 := (hu106 _ (by decide)).trans hT30
  replace hF := q_us hF hu106 (by simp)
  refine lv_aload_n hx hb d_9_5_9 rfl (lv_at hl 0 rfl) ?_
  refine lv_iconst (v := (-1)) hx hb d_9_5_10 (by decide) ?_
  refine q_put (ci := 11) (j := 11) (v := .int (-1)) (ty := .int) C0 V i_Pri o_Pri n_Pri rfl rfl hT4 (by decide) w_396 rfl rfl rfl rfl (Nat.le_of_ble_eq_true rfl) d_9_5_11 (fun H locs w107 hu108 hT4 V => ?_)
  replace hT4 : w107[40]? = (some (q 40, .inr (11, [.int t4_0, .ref (q 41), .ref (q 42), .ref (q 43), .ref (q 44), .ref (q 1), .ref (q 47), .ref (q 36), .ref (q 45), .int t4_1, .int 0, .int (-1)])) : Option (Nat × va_E)) := hT4
  replace hI := n_p40 hI hu108 hT4 (by first | with_reducible exact q_fe btt4_0 | exact ⟨(by have t1 : 0 ≤ t4_0.toInt ∧ t4_0.toInt ≤ 9 := btt4_0; omega), (by have t1 : 0 ≤ t4_0.toInt ∧ t4_0.toInt ≤ 9 := btt4_0; omega)⟩) (by first | with_reducible exact q_fe btt4_1 | exact ⟨(by have t1 : -1 ≤ t4_1.toInt ∧ t4_1.toInt ≤ 1000000 := btt4_1; omega), (by have t1 : -1 ≤ t4_1.toInt ∧ t4_1.toInt ≤ 1000000 := btt4_1; omega)⟩) ⟨(by have z9 : (-1 : Int32).toInt = -1 := rfl; omega), (by have z9 : (-1 : Int32).toInt = -1 := rfl; omega)⟩
  replace hT0 := (hu108 _ (by decide)).trans hT0
  replace hT1 := (hu108 _ (by decide)).trans hT1
  replace hO98 := (hu108 _ (by decide)).trans hO98
  replace hT3 := (hu108 _ (by decide)).trans hT3
  replace hT5 := (hu108 _ (by decide)).trans hT5
  replace hT6 := (hu108 _ (by decide)).trans hT6
  replace hT7 := (hu108 _ (by decide)).trans hT7
  replace hT8 := (hu108 _ (by decide)).trans hT8
  replace hT9 := (hu108 _ (by decide)).trans hT9
  replace hT10 := (hu108 _ (by decide)).trans hT10
  replace hT11 := (hu108 _ (by decide)).trans hT11
  replace hT12 := (hu108 _ (by decide)).trans hT12
  replace hT13 := (hu108 _ (by decide)).trans hT13
  replace hT14 := (hu108 _ (by decide)).trans hT14
  replace hT15 := (hu108 _ (by decide)).trans hT15
  replace hT16 := (hu108 _ (by decide)).trans hT16
  replace hT17 := (hu108 _ (by decide)).trans hT17
  replace hT18 := (hu108 _ (by decide)).trans hT18
  replace hT19 := (hu108 _ (by decide)).trans hT19
  replace hT20 := (hu108 _ (by decide)).trans hT20
  replace hT21 := (hu108 _ (by decide)).trans hT21
  replace hT22 := (hu108 _ (by decide)).trans hT22
  replace hT23 := (hu108 _ (by decide)).trans hT23
  replace hT24 := (hu108 _ (by decide)).trans hT24
  replace hT25 := (hu108 _ (by decide)).trans hT25
  replace hT26 := (hu108 _ (by decide)).trans hT26
  replace hT27 := (hu108 _ (by decide)).trans hT27
  replace hT28 := (hu108 _ (by decide)).trans hT28
  replace hT29 := (hu108 _ (by decide)).trans hT29
  replace hT30 := (hu108 _ (by decide)).trans hT30
  replace hF := q_us hF hu108 (by simp)
  refine lv_iconst (v := 0) hx hb d_9_5_14 (by decide) ?_
  refine lv_istore_n (lv' := [(2, .int 0), (0, .ref (q 40)), (1, .ref (q 3))]) hx hb d_9_5_15 rfl hl (by decide) rfl (fun ls hl => ?_)
  refine lv_iconst (v := 0) hx hb d_9_5_16 (by decide) ?_
  refine lv_istore_n (lv' := [(3, .int 0), (2, .int 0), (0, .ref (q 40)), (1, .ref (q 3))]) hx hb d_9_5_17 rfl hl (by decide) rfl (fun ls hl => ?_)
  refine q_loop (X := Int32 × Int32 × Int32 × (Nat → Int64) × Int32 × Int32 × Int32 × Int32 × Int32 × Int32 × (Nat → Int32) × Int32 × (Nat → Int64) × Int32 × Int32 × Int32 × Int32 × Int32 × Int32 × Int32) (fun z H locs ls w147 => q_F (z.1.toInt ≤ 257) ∧ q_F (z.2.2.1.toInt ≤ 1000000) ∧ q_F (z.2.2.2.2.2.1.toInt ≤ 1000000) ∧ q_F (0 ≤ z.2.2.2.2.2.1.toInt + 1000000) ∧ q_F (z.2.2.2.2.2.2.2.2.2.2.2.1.toInt ≤ 1000000) ∧ q_F (0 ≤ z.2.2.2.2.2.2.2.2.2.2.2.1.toInt + 1000000) ∧ q_F (0 ≤ z.2.2.2.2.2.2.2.2.2.2.2.2.2.2.2.1.toInt + 1) ∧ q_F (z.2.2.2.2.2.2.2.2.2.2.2.2.2.2.2.1.toInt ≤ 9999) ∧ q_F (0 ≤ z.2.2.2.2.2.2.2.2.2.2.2.2.2.2.2.2.1.toInt + 1) ∧ q_F (z.2.2.2.2.2.2.2.2.2.2.2.2.2.2.2.2.1.toInt ≤ 9999) ∧ q_F (0 ≤ z.2.2.2.2.2.2.2.2.2.2.2.2.2.2.2.2.2.2.2.toInt) ∧ q_F (z.2.2.2.2.2.2.2.2.2.2.2.2.2.2.2.2.2.2.2.toInt ≤ 1) ∧ q_F (y99.toInt ≤ z.2.2.1.toInt) ∧ q_F (t12_6.toInt ≤ z.1.toInt + z.2.2.2.2.2.2.2.2.2.2.2.2.2.2.2.2.2.2.2.toInt) ∧ q_F (z.2.2.2.2.2.2.2.2.2.2.2.2.2.2.2.2.2.2.2.toInt ≤ z.1.toInt + t12_6.toInt) ∧ q_Wd D g (va_A ws sz) s w147 H locs ∧ lv_has ls 6 [(3, .int z.1), (2, .int z.2.1), (0, .ref (q 40)), (1, .ref (q 3))] ∧ q_I (nsh g q) q w147 ∧ q_un ws w147 [3, 4, 36, 37, 40, 45, 46, 47] ∧ w147[1]? = (some (q 1, .inr (1, [.ref (q 2), .int 4100, .int t0_0])) : Option (Nat × va_E)) ∧ w147[2]? = (some (q 2, .inl (g 1, (513 : Int32).toNatClampNeg, .inr (.inl t1_0))) : Option (Nat × va_E)) ∧ w147[3]? = (some (q 3, .inr (1, [.ref (q 4), .int 11008, .int z.2.2.1])) : Option (Nat × va_E)) ∧ w147[4]? = (some (q 4, .inl (g 1, (1376 : Int32).toNatClampNeg, .inr (.inl z.2.2.2.1))) : Option (Nat × va_E)) ∧ w147[40]? = (some (q 40, .inr (11, [.int z.2.2.2.2.1, .ref (q 41), .ref (q 42), .ref (q 43), .ref (q 44), .ref (q 1), .ref (q 47), .ref (q 36), .ref (q 45), .int z.2.2.2.2.2.1, .int z.2.2.2.2.2.2.1, .int z.2.2.2.2.2.2.2.1])) : Option (Nat × va_E)) ∧ w147[41]? = (some (q 41, .inl (g 0, 9, .inl t5_0)) : Option (Nat × va_E)) ∧ w147[42]? = (some (q 42, .inl (g 1, 9, .inr (.inl t6_0))) : Option (Nat × va_E)) ∧ w147[43]? = (some (q 43, .inl (g 0, 9, .inl t7_0)) : Option (Nat × va_E)) ∧ w147[36]? = (some (q 36, .inr (7, [.int z.2.2.2.2.2.2.2.2.1, .int z.2.2.2.2.2.2.2.2.2.1, .ref (q 37)])) : Option (Nat × va_E)) ∧ w147[37]? = (some (q 37, .inl (g 2, 1026, .inl z.2.2.2.2.2.2.2.2.2.2.1)) : Option (Nat × va_E)) ∧ w147[45]? = (some (q 45, .inr (1, [.ref (q 46), .int 4104, .int z.2.2.2.2.2.2.2.2.2.2.2.1])) : Option (Nat × va_E)) ∧ w147[46]? = (some (q 46, .inl (g 1, (513 : Int32).toNatClampNeg, .inr (.inl z.2.2.2.2.2.2.2.2.2.2.2.2.1))) : Option (Nat × va_E)) ∧ w147[47]? = (some (q 47, .inr (10, [.int z.2.2.2.2.2.2.2.2.2.2.2.2.2.1, .int z.2.2.2.2.2.2.2.2.2.2.2.2.2.2.1, .int z.2.2.2.2.2.2.2.2.2.2.2.2.2.2.2.1, .int z.2.2.2.2.2.2.2.2.2.2.2.2.2.2.2.2.1, .int z.2.2.2.2.2.2.2.2.2.2.2.2.2.2.2.2.2.1, .int z.2.2.2.2.2.2.2.2.2.2.2.2.2.2.2.2.2.2.1, .ref (q 1), .int z.2.2.2.2.2.2.2.2.2.2.2.2.2.2.2.2.2.2.2])) : Option (Nat × va_E)) ∧ w147[48]? = (some (q 48, .inr (1, [.ref (q 49), .int 64, .int t13_0])) : Option (Nat × va_E)) ∧ w147[49]? = (some (q 49, .inl (g 1, (8 : Int32).toNatClampNeg, .inr (.inl t14_0))) : Option (Nat × va_E)) ∧ w147[50]? = (some (q 50, .inr (1, [.ref (q 51), .int 64, .int t15_0])) : Option (Nat × va_E)) ∧ w147[51]? = (some (q 51, .inl (g 1, (8 : Int32).toNatClampNeg, .inr (.inl t16_0))) : Option (Nat × va_E)) ∧ w147[52]? = (some (q 52, .inr (1, [.ref (q 53), .int 64, .int t17_0])) : Option (Nat × va_E)) ∧ w147[53]? = (some (q 53, .inl (g 1, (8 : Int32).toNatClampNeg, .inr (.inl t18_0))) : Option (Nat × va_E)) ∧ w147[54]? = (some (q 54, .inr (1, [.ref (q 55), .int 64, .int t19_0])) : Option (Nat × va_E)) ∧ w147[55]? = (some (q 55, .inl (g 1, (8 : Int32).toNatClampNeg, .inr (.inl t20_0))) : Option (Nat × va_E)) ∧ w147[56]? = (some (q 56, .inr (1, [.ref (q 57), .int 64, .int t21_0])) : Option (Nat × va_E)) ∧ w147[57]? = (some (q 57, .inl (g 1, (8 : Int32).toNatClampNeg, .inr (.inl t22_0))) : Option (Nat × va_E)) ∧ w147[58]? = (some (q 58, .inr (1, [.ref (q 59), .int 64, .int t23_0])) : Option (Nat × va_E)) ∧ w147[59]? = (some (q 59, .inl (g 1, (8 : Int32).toNatClampNeg, .inr (.inl t24_0))) : Option (Nat × va_E)) ∧ w147[60]? = (some (q 60, .inr (1, [.ref (q 61), .int 64, .int t25_0])) : Option (Nat × va_E)) ∧ w147[61]? = (some (q 61, .inl (g 1, (8 : Int32).toNatClampNeg, .inr (.inl t26_0))) : Option (Nat × va_E)) ∧ w147[62]? = (some (q 62, .inr (1, [.ref (q 63), .int 64, .int t27_0])) : Option (Nat × va_E)) ∧ w147[63]? = (some (q 63, .inl (g 1, (8 : Int32).toNatClampNeg, .inr (.inl t28_0))) : Option (Nat × va_E)) ∧ w147[64]? = (some (q 64, .inr (1, [.ref (q 65), .int 64, .int t29_0])) : Option (Nat × va_E)) ∧ w147[65]? = (some (q 65, .inl (g 1, (8 : Int32).toNatClampNeg, .inr (.inl t30_0))) : Option (Nat × va_E)) ∧ (∃ n, (257 - z.1.toInt).toNat < n ∧ F_Pri_run_L18 t0_0 t1_0 t2_0 t3_0 t4_0 t4_1 t4_2 t4_3 t5_0 t6_0 t7_0 t8_0 t8_1 t9_0 t10_0 t11_0 t12_0 t12_1 t12_2 t12_3 t12_4 t12_5 t12_6 t13_0 t14_0 t15_0 t16_0 t17_0 t18_0 t19_0 t20_0 t21_0 t22_0 t23_0 t24_0 t25_0 t26_0 t27_0 t28_0 t29_0 t30_0 n z.1 z.2.1 z.2.2.1 z.2.2.2.1 z.2.2.2.2.1 z.2.2.2.2.2.1 z.2.2.2.2.2.2.1 z.2.2.2.2.2.2.2.1 z.2.2.2.2.2.2.2.2.1 z.2.2.2.2.2.2.2.2.2.1 z.2.2.2.2.2.2.2.2.2.2.1 z.2.2.2.2.2.2.2.2.2.2.2.1 z.2.2.2.2.2.2.2.2.2.2.2.2.1 z.2.2.2.2.2.2.2.2.2.2.2.2.2.1 z.2.2.2.2.2.2.2.2.2.2.2.2.2.2.1 z.2.2.2.2.2.2.2.2.2.2.2.2.2.2.2.1 z.2.2.2.2.2.2.2.2.2.2.2.2.2.2.2.2.1 z.2.2.2.2.2.2.2.2.2.2.2.2.2.2.2.2.2.1 z.2.2.2.2.2.2.2.2.2.2.2.2.2.2.2.2.2.2.1 z.2.2.2.2.2.2.2.2.2.2.2.2.2.2.2.2.2.2.2 = (F_Pri_run t0_0 t1_0 t2_0 t3_0 t4_0 t4_1 t4_2 t4_3 t5_0 t6_0 t7_0 t8_0 t8_1 t9_0 t10_0 t11_0 t12_0 t12_1 t12_2 t12_3 t12_4 t12_5 t12_6 t13_0 t14_0 t15_0 t16_0 t17_0 t18_0 t19_0 t20_0 t21_0 t22_0 t23_0 t24_0 t25_0 t26_0 t27_0 t28_0 t29_0 t30_0) ∧ True ∧ S_Pri_run_L18 t0_0 t1_0 t2_0 t3_0 t4_0 t4_1 t4_2 t4_3 t5_0 t6_0 t7_0 t8_0 t8_1 t9_0 t10_0 t11_0 t12_0 t12_1 t12_2 t12_3 t12_4 t12_5 t12_6 t13_0 t14_0 t15_0 t16_0 t17_0 t18_0 t19_0 t20_0 t21_0 t22_0 t23_0 t24_0 t25_0 t26_0 t27_0 t28_0 t29_0 t30_0 n z.1 z.2.1 z.2.2.1 z.2.2.2.1 z.2.2.2.2.1 z.2.2.2.2.2.1 z.2.2.2.2.2.2.1 z.2.2.2.2.2.2.2.1 z.2.2.2.2.2.2.2.2.1 z.2.2.2.2.2.2.2.2.2.1 z.2.2.2.2.2.2.2.2.2.2.1 z.2.2.2.2.2.2.2.2.2.2.2.1 z.2.2.2.2.2.2.2.2.2.2.2.2.1 z.2.2.2.2.2.2.2.2.2.2.2.2.2.1 z.2.2.2.2.2.2.2.2.2.2.2.2.2.2.1 z.2.2.2.2.2.2.2.2.2.2.2.2.2.2.2.1 z.2.2.2.2.2.2.2.2.2.2.2.2.2.2.2.2.1 z.2.2.2.2.2.2.2.2.2.2.2.2.2.2.2.2.2.1 z.2.2.2.2.2.2.2.2.2.2.2.2.2.2.2.2.2.2.1 z.2.2.2.2.2.2.2.2.2.2.2.2.2.2.2.2.2.2.2)) (fun z => (257 - z.1.toInt).toNat) ?_ ((0 : Int32), (0 : Int32), (y99 : Int32), (t3_0 : (Nat → Int64)), (t4_0 : Int32), (t4_1 : Int32), (0 : Int32), ((-1) : Int32), (t8_0 : Int32), (t8_1 : Int32), (t9_0 : (Nat → Int32)), (t10_0 : Int32), (t11_0 : (Nat → Int64)), (t12_0 : Int32), (t12_1 : Int32), (t12_2 : Int32), (t12_3 : Int32), (t12_4 : Int32), (t12_5 : Int32), (t12_6 : Int32)) _ _ _ w107 ⟨(show q_F (0 ≤ 257) from (show 0 ≤ 257 from by omega)), (show q_F (y99.toInt ≤ 1000000) from (show y99.toInt ≤ 1000000 from by have t1 : y99.toInt ≤ 0 := b101; omega)), (show q_F (t4_1.toInt ≤ 1000000) from (show t4_1.toInt ≤ 1000000 from by have t1 : -1 ≤ t4_1.toInt ∧ t4_1.toInt ≤ 1000000 := btt4_1; omega)), (show q_F (0 ≤ t4_1.toInt + 1000000) from (show 0 ≤ t4_1.toInt + 1000000 from by have t1 : -1 ≤ t4_1.toInt ∧ t4_1.toInt ≤ 1000000 := btt4_1; omega)), (show q_F (t10_0.toInt ≤ 1000000) from (show t10_0.toInt ≤ 1000000 from by have t1 : 0 ≤ t10_0.toInt ∧ t10_0.toInt ≤ 1000000 := btt10_0; omega)), (show q_F (0 ≤ t10_0.toInt + 1000000) from (show 0 ≤ t10_0.toInt + 1000000 from by have t1 : 0 ≤ t10_0.toInt ∧ t10_0.toInt ≤ 1000000 := btt10_0; omega)), (show q_F (0 ≤ t12_2.toInt + 1) from (show 0 ≤ t12_2.toInt + 1 from by have t1 : -1 ≤ t12_2.toInt ∧ t12_2.toInt ≤ 9999 := btt12_2; omega)), (show q_F (t12_2.toInt ≤ 9999) from (show t12_2.toInt ≤ 9999 from by have t1 : -1 ≤ t12_2.toInt ∧ t12_2.toInt ≤ 9999 := btt12_2; omega)), (show q_F (0 ≤ t12_3.toInt + 1) from (show 0 ≤ t12_3.toInt + 1 from by have t1 : -1 ≤ t12_3.toInt ∧ t12_3.toInt ≤ 9999 := btt12_3; omega)), (show q_F (t12_3.toInt ≤ 9999) from (show t12_3.toInt ≤ 9999 from by have t1 : -1 ≤ t12_3.toInt ∧ t12_3.toInt ≤ 9999 := btt12_3; omega)), (show q_F (0 ≤ t12_6.toInt) from (show 0 ≤ t12_6.toInt from by have t1 : 0 ≤ t12_6.toInt ∧ t12_6.toInt ≤ 1 := btt12_6; omega)), (show q_F (t12_6.toInt ≤ 1) from (show t12_6.toInt ≤ 1 from by have t1 : 0 ≤ t12_6.toInt ∧ t12_6.toInt ≤ 1 := btt12_6; omega)), (show q_F (y99.toInt ≤ y99.toInt) from (show y99.toInt ≤ y99.toInt from by omega)), (show q_F (t12_6.toInt ≤ 0 + t12_6.toInt) from (show t12_6.toInt ≤ 0 + t12_6.toInt from by omega)), (show q_F (t12_6.toInt ≤ 0 + t12_6.toInt) from (show t12_6.toInt ≤ 0 + t12_6.toInt from by omega)), V, q_lw hl (q_lw1 0 rfl (q_lw1 1 rfl (q_lw1 2 rfl (q_lw1 3 rfl q_lw0)))), hI, hF, hT0, hT1, hO98, hT3, hT4, hT5, hT6, hT7, hT8, hT9, hT10, hT11, hT12, hT13, hT14, hT15, hT16, hT17, hT18, hT19, hT20, hT21, hT22, hT23, hT24, hT25, hT26, hT27, hT28, hT29, hT30, ⟨((257 - (0 : Int32).toInt).toNat + 1), Nat.lt_succ_self _, (show F_Pri_run_L18 t0_0 t1_0 t2_0 t3_0 t4_0 t4_1 t4_2 t4_3 t5_0 t6_0 t7_0 t8_0 t8_1 t9_0 t10_0 t11_0 t12_0 t12_1 t12_2 t12_3 t12_4 t12_5 t12_6 t13_0 t14_0 t15_0 t16_0 t17_0 t18_0 t19_0 t20_0 t21_0 t22_0 t23_0 t24_0 t25_0 t26_0 t27_0 t28_0 t29_0 t30_0 ((257 - (0 : Int32).toInt).toNat + 1) 0 0 y99 t3_0 t4_0 t4_1 0 (-1) t8_0 t8_1 t9_0 t10_0 t11_0 t12_0 t12_1 t12_2 t12_3 t12_4 t12_5 t12_6 = (F_Pri_run t0_0 t1_0 t2_0 t3_0 t4_0 t4_1 t4_2 t4_3 t5_0 t6_0 t7_0 t8_0 t8_1 t9_0 t10_0 t11_0 t12_0 t12_1 t12_2 t12_3 t12_4 t12_5 t12_6 t13_0 t14_0 t15_0 t16_0 t17_0 t18_0 t19_0 t20_0 t21_0 t22_0 t23_0 t24_0 t25_0 t26_0 t27_0 t28_0 t29_0 t30_0) from (by rw [e104, F_Pri_run.eq_1])), (show True ∧ S_Pri_run_L18 t0_0 t1_0 t2_0 t3_0 t4_0 t4_1 t4_2 t4_3 t5_0 t6_0 t7_0 t8_0 t8_1 t9_0 t10_0 t11_0 t12_0 t12_1 t12_2 t12_3 t12_4 t12_5 t12_6 t13_0 t14_0 t15_0 t16_0 t17_0 t18_0 t19_0 t20_0 t21_0 t22_0 t23_0 t24_0 t25_0 t26_0 t27_0 t28_0 t29_0 t30_0 ((257 - (0 : Int32).toInt).toNat + 1) 0 0 y99 t3_0 t4_0 t4_1 0 (-1) t8_0 t8_1 t9_0 t10_0 t11_0 t12_0 t12_1 t12_2 t12_3 t12_4 t12_5 t12_6 from (by rw [e104]; have h := hS; rw [S_Pri_run.eq_1] at h; with_reducible exact h))⟩⟩
  rintro ⟨lx111, lx112, lx113, lx114, lx115, lx116, lx117, lx118, lx119, lx120, lx121, lx122, lx123, lx124, lx125, lx126, lx127, lx128, lx129, lx130⟩ H locs ls w147 ⟨i131, i132, i133, i134, i135, i136, i137, i138, i139, i140, i141, i142, i143, i144, i145, V, hl, hI, hF, hO148, hO149, hO150, hO151, hO152, hO153, hO154, hO155, hO156, hO157, hO158, hO159, hO160, hO161, hO162, hO163, hO164, hO165, hO166, hO167, hO168, hO169, hO170, hO171, hO172, hO173, hO174, hO175, hO176, hO177, hO178, ⟨fu181, hf182, hR179, hS180⟩⟩ ih146
  obtain ⟨fm183, rfl⟩ : ∃ m, fu181 = m + 1 := ⟨fu181 - 1, by omega⟩
  replace i131 : q_F (lx111.toInt ≤ 257) := i131
  replace i132 : q_F (lx113.toInt ≤ 1000000) := i132
  replace i133 : q_F (lx116.toInt ≤ 1000000) := i133
  replace i134 : q_F (0 ≤ lx116.toInt + 1000000) := i134
  replace i135 : q_F (lx122.toInt ≤ 1000000) := i135
  replace i136 : q_F (0 ≤ lx122.toInt + 1000000) := i136
  replace i137 : q_F (0 ≤ lx126.toInt + 1) := i137
  replace i138 : q_F (lx126.toInt ≤ 9999) := i138
  replace i139 : q_F (0 ≤ lx127.toInt + 1) := i139
  replace i140 : q_F (lx127.toInt ≤ 9999) := i140
  replace i141 : q_F (0 ≤ lx130.toInt) := i141
  replace i142 : q_F (lx130.toInt ≤ 1) := i142
  replace i143 : q_F (y99.toInt ≤ lx113.toInt) := i143
  replace i144 : q_F (t12_6.toInt ≤ lx111.toInt + lx130.toInt) := i144
  replace i145 : q_F (lx130.toInt ≤ lx111.toInt + t12_6.toInt) := i145
  replace hl : lv_has ls 6 [(3, .int lx111), (2, .int lx112), (0, .ref (q 40)), (1, .ref (q 3))] := hl
  replace hO148 : w147[1]? = (some (q 1, .inr (1, [.ref (q 2), .int 4100, .int t0_0])) : Option (Nat × va_E)) := hO148
  replace hO149 : w147[2]? = (some (q 2, .inl (g 1, (513 : Int32).toNatClampNeg, .inr (.inl t1_0))) : Option (Nat × va_E)) := hO149
  replace hO150 : w147[3]? = (some (q 3, .inr (1, [.ref (q 4), .int 11008, .int lx113])) : Option (Nat × va_E)) := hO150
  replace hO151 : w147[4]? = (some (q 4, .inl (g 1, (1376 : Int32).toNatClampNeg, .inr (.inl lx114))) : Option (Nat × va_E)) := hO151
  replace hO152 : w147[40]? = (some (q 40, .inr (11, [.int lx115, .ref (q 41), .ref (q 42), .ref (q 43), .ref (q 44), .ref (q 1), .ref (q 47), .ref (q 36), .ref (q 45), .int lx116, .int lx117, .int lx118])) : Option (Nat × va_E)) := hO152
  replace hO153 : w147[41]? = (some (q 41, .inl (g 0, 9, .inl t5_0)) : Option (Nat × va_E)) := hO153
  replace hO154 : w147[42]? = (some (q 42, .inl (g 1, 9, .inr (.inl t6_0))) : Option (Nat × va_E)) := hO154
  replace hO155 : w147[43]? = (some (q 43, .inl (g 0, 9, .inl t7_0)) : Option (Nat × va_E)) := hO155
  replace hO156 : w147[36]? = (some (q 36, .inr (7, [.int lx119, .int lx120, .ref (q 37)])) : Option (Nat × va_E)) := hO156
  replace hO157 : w147[37]? = (some (q 37, .inl (g 2, 1026, .inl lx121)) : Option (Nat × va_E)) := hO157
  replace hO158 : w147[45]? = (some (q 45, .inr (1, [.ref (q 46), .int 4104, .int lx122])) : Option (Nat × va_E)) := hO158
  replace hO159 : w147[46]? = (some (q 46, .inl (g 1, (513 : Int32).toNatClampNeg, .inr (.inl lx123))) : Option (Nat × va_E)) := hO159
  replace hO160 : w147[47]? = (some (q 47, .inr (10, [.int lx124, .int lx125, .int lx126, .int lx127, .int lx128, .int lx129, .ref (q 1), .int lx130])) : Option (Nat × va_E)) := hO160
  replace hO161 : w147[48]? = (some (q 48, .inr (1, [.ref (q 49), .int 64, .int t13_0])) : Option (Nat × va_E)) := hO161
  replace hO162 : w147[49]? = (some (q 49, .inl (g 1, (8 : Int32).toNatClampNeg, .inr (.inl t14_0))) : Option (Nat × va_E)) := hO162
  replace hO163 : w147[50]? = (some (q 50, .inr (1, [.ref (q 51), .int 64, .int t15_0])) : Option (Nat × va_E)) := hO163
  replace hO164 : w147[51]? = (some (q 51, .inl (g 1, (8 : Int32).toNatClampNeg, .inr (.inl t16_0))) : Option (Nat × va_E)) := hO164
  replace hO165 : w147[52]? = (some (q 52, .inr (1, [.ref (q 53), .int 64, .int t17_0])) : Option (Nat × va_E)) := hO165
  replace hO166 : w147[53]? = (some (q 53, .inl (g 1, (8 : Int32).toNatClampNeg, .inr (.inl t18_0))) : Option (Nat × va_E)) := hO166
  replace hO167 : w147[54]? = (some (q 54, .inr (1, [.ref (q 55), .int 64, .int t19_0])) : Option (Nat × va_E)) := hO167
  replace hO168 : w147[55]? = (some (q 55, .inl (g 1, (8 : Int32).toNatClampNeg, .inr (.inl t20_0))) : Option (Nat × va_E)) := hO168
  replace hO169 : w147[56]? = (some (q 56, .inr (1, [.ref (q 57), .int 64, .int t21_0])) : Option (Nat × va_E)) := hO169
  replace hO170 : w147[57]? = (some (q 57, .inl (g 1, (8 : Int32).toNatClampNeg, .inr (.inl t22_0))) : Option (Nat × va_E)) := hO170
  replace hO171 : w147[58]? = (some (q 58, .inr (1, [.ref (q 59), .int 64, .int t23_0])) : Option (Nat × va_E)) := hO171
  replace hO172 : w147[59]? = (some (q 59, .inl (g 1, (8 : Int32).toNatClampNeg, .inr (.inl t24_0))) : Option (Nat × va_E)) := hO172
  replace hO173 : w147[60]? = (some (q 60, .inr (1, [.ref (q 61), .int 64, .int t25_0])) : Option (Nat × va_E)) := hO173
  replace hO174 : w147[61]? = (some (q 61, .inl (g 1, (8 : Int32).toNatClampNeg, .inr (.inl t26_0))) : Option (Nat × va_E)) := hO174
  replace hO175 : w147[62]? = (some (q 62, .inr (1, [.ref (q 63), .int 64, .int t27_0])) : Option (Nat × va_E)) := hO175
  replace hO176 : w147[63]? = (some (q 63, .inl (g 1, (8 : Int32).toNatClampNeg, .inr (.inl t28_0))) : Option (Nat × va_E)) := hO176
  replace hO177 : w147[64]? = (some (q 64, .inr (1, [.ref (q 65), .int 64, .int t29_0])) : Option (Nat × va_E)) := hO177
  replace hO178 : w147[65]? = (some (q 65, .inl (g 1, (8 : Int32).toNatClampNeg, .inr (.inl t30_0))) : Option (Nat × va_E)) := hO178
  refine lv_iload_n hx hb d_9_5_18 rfl (lv_at hl 0 rfl) ?_
  refine lv_sipush (v := 256) hx hb d_9_5_19 (by decide) ?_
  refine lv_icmp_gt (tgt := 197) hx hb d_9_5_22 (by decide) (fun c184 => ?_) (fun c184 => ?_)
  ·
    refine lv_aload_n hx hb d_9_5_197 rfl (lv_at hl 3 rfl) ?_
    refine q_get (ci := 1) (j := 2) (v := .int lx113) C0 V i_She rfl rfl hO150 (by decide) w_58 rfl d_9_5_198 ?_
    exact q_reti C0 V (⟨hI, hF, lx113, lx114, lx115, lx116, lx117, lx118, lx119, lx120, lx121, lx122, lx123, lx124, lx125, lx126, lx127, lx128, lx129, lx130, hO150, hO151, hO152, hO156, hO157, hO158, hO159, hO160, (show lx113.toInt ≤ 2147482648 from (by first | with_reducible exact q_fe i132 | (have t1 : lx113.toInt ≤ 1000000 := i132; omega))), (show 0 ≤ lx113.toInt from (by have t1 : 0 ≤ y99.toInt := b100; have t2 : y99.toInt ≤ lx113.toInt := i143; omega)), (show lx113.toInt ≤ 1000000 from (by first | with_reducible exact q_fe i132 | (have t1 : lx113.toInt ≤ 1000000 := i132; omega))), (show 0 ≤ lx116.toInt + 1000000 from (by first | with_reducible exact q_fe i134 | (have t1 : 0 ≤ lx116.toInt + 1000000 := i134; omega))), (show lx116.toInt ≤ 1000000 from (by first | with_reducible exact q_fe i133 | (have t1 : lx116.toInt ≤ 1000000 := i133; omega))), (show 0 ≤ lx122.toInt + 1000000 from (by first | with_reducible exact q_fe i136 | (have t1 : 0 ≤ lx122.toInt + 1000000 := i136; omega))), (show lx122.toInt ≤ 1000000 from (by first | with_reducible exact q_fe i135 | (have t1 : lx122.toInt ≤ 1000000 := i135; omega))), (show 0 ≤ lx126.toInt + 1 from (by first | with_reducible exact q_fe i137 | (have t1 : 0 ≤ lx126.toInt + 1 := i137; omega))), (show lx126.toInt ≤ 9999 from (by first | with_reducible exact q_fe i138 | (have t1 : lx126.toInt ≤ 9999 := i138; omega))), (show 0 ≤ lx127.toInt + 1 from (by first | with_reducible exact q_fe i139 | (have t1 : 0 ≤ lx127.toInt + 1 := i139; omega))), (show lx127.toInt ≤ 9999 from (by first | with_reducible exact q_fe i140 | (have t1 : lx127.toInt ≤ 9999 := i140; omega))), (show 0 ≤ lx130.toInt from (by first | with_reducible exact q_fe i141 | (have t1 : 0 ≤ lx130.toInt := i141; omega))), (show lx130.toInt ≤ 1 from (by first | with_reducible exact q_fe i142 | (have t1 : lx130.toInt ≤ 1 := i142; omega))), (show lx113.toInt ≤ lx113.toInt + 12255 from (by omega)), (show lx116.toInt ≤ lx113.toInt + 1000000 from (by have t1 : 0 ≤ y99.toInt := b100; have t2 : lx116.toInt ≤ 1000000 := i133; have t3 : y99.toInt ≤ lx113.toInt := i143; omega)), (show lx122.toInt ≤ lx113.toInt + 1000000 from (by have t1 : 0 ≤ y99.toInt := b100; have t2 : lx122.toInt ≤ 1000000 := i135; have t3 : y99.toInt ≤ lx113.toInt := i143; omega)), (show (lx113, lx113, lx114, lx115, lx116, lx117, lx118, lx119, lx120, lx121, lx122, lx123, lx124, lx125, lx126, lx127, lx128, lx129, lx130) = (F_Pri_run t0_0 t1_0 t2_0 t3_0 t4_0 t4_1 t4_2 t4_3 t5_0 t6_0 t7_0 t8_0 t8_1 t9_0 t10_0 t11_0 t12_0 t12_1 t12_2 t12_3 t12_4 t12_5 t12_6 t13_0 t14_0 t15_0 t16_0 t17_0 t18_0 t19_0 t20_0 t21_0 t22_0 t23_0 t24_0 t25_0 t26_0 t27_0 t28_0 t29_0 t30_0) from Eq.trans (by rw [F_Pri_run_L18.eq_2, if_pos c184]) hR179)⟩) d_9_5_201
  ·
    have b186 : q_F (lx111.toInt ≤ 256) := (q_nltI c184)
    refine lv_iload_n hx hb d_9_5_25 rfl (lv_at hl 1 rfl) ?_
    refine lv_aload_n hx hb d_9_5_26 rfl (lv_at hl 2 rfl) ?_
    refine q_get (ci := 11) (j := 5) (v := .ref (q 1)) C0 V i_Pri rfl rfl hO152 (by decide) w_390 rfl d_9_5_27 ?_
    refine q_get (ci := 1) (j := 2) (v := .int t0_0) C0 V i_She rfl rfl hO148 (by decide) w_58 rfl d_9_5_30 ?_
    refine lv_icmp_ge (tgt := 197) hx hb d_9_5_33 (by decide) (fun c187 => ?_) (fun c187 => ?_)
    ·
      refine lv_aload_n hx hb d_9_5_197 rfl (lv_at hl 3 rfl) ?_
      refine q_get (ci := 1) (j := 2) (v := .int lx113) C0 V i_She rfl rfl hO150 (by decide) w_58 rfl d_9_5_198 ?_
      exact q_reti C0 V (⟨hI, hF, lx113, lx114, lx115, lx116, lx117, lx118, lx119, lx120, lx121, lx122, lx123, lx124, lx125, lx126, lx127, lx128, lx129, lx130, hO150, hO151, hO152, hO156, hO157, hO158, hO159, hO160, (show lx113.toInt ≤ 2147482648 from (by first | with_reducible exact q_fe i132 | (have t1 : lx113.toInt ≤ 1000000 := i132; omega))), (show 0 ≤ lx113.toInt from (by have t1 : 0 ≤ y99.toInt := b100; have t2 : y99.toInt ≤ lx113.toInt := i143; omega)), (show lx113.toInt ≤ 1000000 from (by first | with_reducible exact q_fe i132 | (have t1 : lx113.toInt ≤ 1000000 := i132; omega))), (show 0 ≤ lx116.toInt + 1000000 from (by first | with_reducible exact q_fe i134 | (have t1 : 0 ≤ lx116.toInt + 1000000 := i134; omega))), (show lx116.toInt ≤ 1000000 from (by first | with_reducible exact q_fe i133 | (have t1 : lx116.toInt ≤ 1000000 := i133; omega))), (show 0 ≤ lx122.toInt + 1000000 from (by first | with_reducible exact q_fe i136 | (have t1 : 0 ≤ lx122.toInt + 1000000 := i136; omega))), (show lx122.toInt ≤ 1000000 from (by first | with_reducible exact q_fe i135 | (have t1 : lx122.toInt ≤ 1000000 := i135; omega))), (show 0 ≤ lx126.toInt + 1 from (by first | with_reducible exact q_fe i137 | (have t1 : 0 ≤ lx126.toInt + 1 := i137; omega))), (show lx126.toInt ≤ 9999 from (by first | with_reducible exact q_fe i138 | (have t1 : lx126.toInt ≤ 9999 := i138; omega))), (show 0 ≤ lx127.toInt + 1 from (by first | with_reducible exact q_fe i139 | (have t1 : 0 ≤ lx127.toInt + 1 := i139; omega))), (show lx127.toInt ≤ 9999 from (by first | with_reducible exact q_fe i140 | (have t1 : lx127.toInt ≤ 9999 := i140; omega))), (show 0 ≤ lx130.toInt from (by first | with_reducible exact q_fe i141 | (have t1 : 0 ≤ lx130.toInt := i141; omega))), (show lx130.toInt ≤ 1 from (by first | with_reducible exact q_fe i142 | (have t1 : lx130.toInt ≤ 1 := i142; omega))), (show lx113.toInt ≤ lx113.toInt + 12255 from (by omega)), (show lx116.toInt ≤ lx113.toInt + 1000000 from (by have t1 : 0 ≤ y99.toInt := b100; have t2 : lx116.toInt ≤ 1000000 := i133; have t3 : y99.toInt ≤ lx113.toInt := i143; omega)), (show lx122.toInt ≤ lx113.toInt + 1000000 from (by have t1 : 0 ≤ y99.toInt := b100; have t2 : lx122.toInt ≤ 1000000 := i135; have t3 : y99.toInt ≤ lx113.toInt := i143; omega)), (show (lx113, lx113, lx114, lx115, lx116, lx117, lx118, lx119, lx120, lx121, lx122, lx123, lx124, lx125, lx126, lx127, lx128, lx129, lx130) = (F_Pri_run t0_0 t1_0 t2_0 t3_0 t4_0 t4_1 t4_2 t4_3 t5_0 t6_0 t7_0 t8_0 t8_1 t9_0 t10_0 t11_0 t12_0 t12_1 t12_2 t12_3 t12_4 t12_5 t12_6 t13_0 t14_0 t15_0 t16_0 t17_0 t18_0 t19_0 t20_0 t21_0 t22_0 t23_0 t24_0 t25_0 t26_0 t27_0 t28_0 t29_0 t30_0) from Eq.trans (by rw [F_Pri_run_L18.eq_2, if_neg c184, if_pos c187]) hR179)⟩) d_9_5_201
    ·
      have b189 : q_F (lx112.toInt < t0_0.toInt) := (q_nleI c187)
      refine lv_aload_n hx hb d_9_5_36 rfl (lv_at hl 2 rfl) ?_
      refine q_get (ci := 11) (j := 8) (v := .ref (q 45)) C0 V i_Pri rfl rfl hO152 (by decide) w_393 rfl d_9_5_37 ?_
      refine q_gov V (q_runV (As := []) (rest := []) (d := 1) (mc := 0) (ms := 0) (ci := 1) C0 V rfl LV_Pri_70 (X_She_clear l D g q w147 45 4104 513 1000000 (n_h45 g q)  hI lx122 hO158  _) rfl rfl hO158 rfl hl.1 rfl (Nat.le_of_ble_eq_true rfl) ⟨by decide, by decide⟩ ⟨Nat.le_of_ble_eq_true rfl, Nat.le_of_ble_eq_true rfl⟩ d_9_5_40) (fun u190 H locs hp191 V => ?_)
      obtain ⟨hI, hZ9⟩ := hp191
      obtain ⟨hu197, hZ9⟩ := hZ9
      obtain ⟨y193, hZ9⟩ := hZ9
      obtain ⟨hO192, hZ9⟩ := hZ9
      obtain ⟨b194, hZ9⟩ := hZ9
      obtain ⟨b195, hE196⟩ := hZ9
      replace hO192 : u190[45]? = (some (q 45, .inr (1, [.ref (q 46), .int 4104, .int y193])) : Option (Nat × va_E)) := hO192
      have e198 : y193 = (F_She_clear (4104 : Int32) (513 : Int32) (1000000 : Int32) lx122) := hE196
      replace b194 : q_F (0 ≤ y193.toInt) := b194
      replace b195 : q_F (y193.toInt ≤ 0) := b195
      replace hO148 := (hu197 _ (by decide)).trans hO148
      replace hO149 := (hu197 _ (by decide)).trans hO149
      replace hO150 := (hu197 _ (by decide)).trans hO150
      replace hO151 := (hu197 _ (by decide)).trans hO151
      replace hO152 := (hu197 _ (by decide)).trans hO152
      replace hO153 := (hu197 _ (by decide)).trans hO153
      replace hO154 := (hu197 _ (by decide)).trans hO154
      replace hO155 := (hu197 _ (by decide)).trans hO155
      replace hO156 := (hu197 _ (by decide)).trans hO156
      replace hO157 := (hu197 _ (by decide)).trans hO157
      replace hO159 := (hu197 _ (by decide)).trans hO159
      replace hO160 := (hu197 _ (by decide)).trans hO160
      replace hO161 := (hu197 _ (by decide)).trans hO161
      replace hO162 := (hu197 _ (by decide)).trans hO162
      replace hO163 := (hu197 _ (by decide)).trans hO163
      replace hO164 := (hu197 _ (by decide)).trans hO164
      replace hO165 := (hu197 _ (by decide)).trans hO165
      replace hO166 := (hu197 _ (by decide)).trans hO166
      replace hO167 := (hu197 _ (by decide)).trans hO167
      replace hO168 := (hu197 _ (by decide)).trans hO168
      replace hO169 := (hu197 _ (by decide)).trans hO169
      replace hO170 := (hu197 _ (by decide)).trans hO170
      replace hO171 := (hu197 _ (by decide)).trans hO171
      replace hO172 := (hu197 _ (by decide)).trans hO172
      replace hO173 := (hu197 _ (by decide)).trans hO173
      replace hO174 := (hu197 _ (by decide)).trans hO174
      replace hO175 := (hu197 _ (by decide)).trans hO175
      replace hO176 := (hu197 _ (by decide)).trans hO176
      replace hO177 := (hu197 _ (by decide)).trans hO177
      replace hO178 := (hu197 _ (by decide)).trans hO178
      replace hF := q_uc hF hu197 (by first | exact (q_sk (q_mi 5 rfl) q_s0) | simp)
      refine lv_aload_n hx hb d_9_5_43 rfl (lv_at hl 2 rfl) ?_
      refine lv_iconst (v := (-1)) hx hb d_9_5_44 (by decide) ?_
      refine q_put (ci := 11) (j := 9) (v := .int (-1)) (ty := .int) C0 V i_Pri o_Pri n_Pri rfl rfl hO152 (by decide) w_394 rfl rfl rfl rfl (Nat.le_of_ble_eq_true rfl) d_9_5_45 (fun H locs w199 hu200 hO152 V => ?_)
      replace hO152 : w199[40]? = (some (q 40, .inr (11, [.int lx115, .ref (q 41), .ref (q 42), .ref (q 43), .ref (q 44), .ref (q 1), .ref (q 47), .ref (q 36), .ref (q 45), .int (-1), .int lx117, .int lx118])) : Option (Nat × va_E)) := hO152
      have ob201 : q_F (0 ≤ lx115.toInt) := (by have h := hS180; rw [S_Pri_run_L18.eq_2] at h; rw [if_neg c184] at h; rw [if_neg c187] at h; exact h.2.1)
      have ob202 : q_F (lx115.toInt ≤ 9) := (by have h := hS180; rw [S_Pri_run_L18.eq_2] at h; rw [if_neg c184] at h; rw [if_neg c187] at h; replace h := q_s2 h; exact h.2.1)
      have ob203 : q_F (0 ≤ lx118.toInt + 1) := (by have h := hS180; rw [S_Pri_run_L18.eq_2] at h; rw [if_neg c184] at h; rw [if_neg c187] at h; replace h := q_s2 h; replace h := q_s2 h; exact h.2.1)
      have ob204 : q_F (lx118.toInt ≤ 8) := (by have h := hS180; rw [S_Pri_run_L18.eq_2] at h; rw [if_neg c184] at h; rw [if_neg c187] at h; replace h := q_s2 h; replace h := q_s2 h; replace h := q_s2 h; exact h.2.1)
      replace hI := n_p40 hI hu200 hO152 ⟨(by first | with_reducible exact q_fe ob201 | (have t1 : 0 ≤ lx115.toInt := ob201; omega)), (by first | with_reducible exact q_fe ob202 | (have t1 : lx115.toInt ≤ 9 := ob202; omega))⟩ ⟨(by have z9 : (-1 : Int32).toInt = -1 := rfl; omega), (by have z9 : (-1 : Int32).toInt = -1 := rfl; omega)⟩ ⟨(by first | with_reducible exact q_fe ob203 | (have t1 : 0 ≤ lx118.toInt + 1 := ob203; omega)), (by first | with_reducible exact q_fe ob204 | (have t1 : lx118.toInt ≤ 8 := ob204; omega))⟩
      replace hO148 := (hu200 _ (by decide)).trans hO148
      replace hO149 := (hu200 _ (by decide)).trans hO149
      replace hO150 := (hu200 _ (by decide)).trans hO150
      replace hO151 := (hu200 _ (by decide)).trans hO151
      replace hO153 := (hu200 _ (by decide)).trans hO153
      replace hO154 := (hu200 _ (by decide)).trans hO154
      replace hO155 := (hu200 _ (by decide)).trans hO155
      replace hO156 := (hu200 _ (by decide)).trans hO156
      replace hO157 := (hu200 _ (by decide)).trans hO157
      replace hO192 := (hu200 _ (by decide)).trans hO192
      replace hO159 := (hu200 _ (by decide)).trans hO159
      replace hO160 := (hu200 _ (by decide)).trans hO160
      replace hO161 := (hu200 _ (by decide)).trans hO161
      replace hO162 := (hu200 _ (by decide)).trans hO162
      replace hO163 := (hu200 _ (by decide)).trans hO163
      replace hO164 := (hu200 _ (by decide)).trans hO164
      replace hO165 := (hu200 _ (by decide)).trans hO165
      replace hO166 := (hu200 _ (by decide)).trans hO166
      replace hO167 := (hu200 _ (by decide)).trans hO167
      replace hO168 := (hu200 _ (by decide)).trans hO168
      replace hO169 := (hu200 _ (by decide)).trans hO169
      replace hO170 := (hu200 _ (by decide)).trans hO170
      replace hO171 := (hu200 _ (by decide)).trans hO171
      replace hO172 := (hu200 _ (by decide)).trans hO172
      replace hO173 := (hu200 _ (by decide)).trans hO173
      replace hO174 := (hu200 _ (by decide)).trans hO174
      replace hO175 := (hu200 _ (by decide)).trans hO175
      replace hO176 := (hu200 _ (by decide)).trans hO176
      replace hO177 := (hu200 _ (by decide)).trans hO177
      replace hO178 := (hu200 _ (by decide)).trans hO178
      replace hF := q_us hF hu200 (by simp)
      refine lv_iload_n hx hb d_9_5_48 rfl (lv_at hl 1 rfl) ?_
      refine lv_iconst (v := 1) hx hb d_9_5_49 (by decide) ?_
      refine lv_iadd hx hb d_9_5_50 ?_
      obtain ⟨a205, e206⟩ := q_nm (lx112 + 1 : Int32)
      refine q_ti (v := a205) e206 ?_
      have b207 : q_F (a205.toInt = lx112.toInt + 1) := (by rw [← e206]; show (lx112 + 1 : Int32).toInt = lx112.toInt + 1; exact q_addI (x := lx112.toInt) (y := 1) rfl (by decide) (by have _ := q_lo32 (x := lx112); have _ := q_hi32 (x := lx112); have t1 : lx112.toInt < t0_0.toInt := b189; have _ := q_lo32 (x := t0_0); have _ := q_hi32 (x := t0_0); omega) (by have _ := q_lo32 (x := lx112); have _ := q_hi32 (x := lx112); have t1 : lx112.toInt < t0_0.toInt := b189; have _ := q_lo32 (x := t0_0); have _ := q_hi32 (x := t0_0); omega))
      refine lv_istore (lv' := [(4, .int a205), (3, .int lx111), (2, .int lx112), (0, .ref (q 40)), (1, .ref (q 3))]) hx hb d_9_5_51 hl (by decide) rfl (fun ls hl => ?_)
      refine lv_iconst (v := 0) hx hb d_9_5_53 (by decide) ?_
      refine lv_istore (lv' := [(5, .int 0), (4, .int a205), (3, .int lx111), (2, .int lx112), (0, .ref (q 40)), (1, .ref (q 3))]) hx hb d_9_5_54 hl (by decide) rfl (fun ls hl => ?_)
      refine lv_aload_n hx hb d_9_5_56 rfl (lv_at hl 4 rfl) ?_
      refine q_get (ci := 11) (j := 5) (v := .ref (q 1)) C0 V i_Pri rfl rfl hO152 (by decide) w_390 rfl d_9_5_57 ?_
      refine lv_iload_n hx hb d_9_5_60 rfl (lv_at hl 3 rfl) ?_
      refine lv_i2l hx hb d_9_5_61 rfl ?_
      obtain ⟨j208, e209⟩ := q_nm (lx112.toInt64 : Int64)
      refine q_tl (v := j208) e209 ?_
      refine q_goi V (q_runV (As := [.long j208]) (rest := []) (d := 1) (mc := 0) (ms := 0) (ci := 1) C0 V rfl LV_Pri_93 (X_She_at_p l D g q w199 1 4100 513 4100 (n_h1 g q) j208 hI t0_0 hO148 t1_0 hO149  _) rfl rfl hO148 rfl hl.1 rfl (Nat.le_of_ble_eq_true rfl) ⟨by decide, by decide⟩ ⟨Nat.le_of_ble_eq_true rfl, Nat.le_of_ble_eq_true rfl⟩ d_9_5_62) (fun a213 u211 H locs hp212 V => ?_)
      obtain ⟨rfl, b214, b215, b216, hE217⟩ := hp212
      have e218 : a213 = (F_She_at_p (4100 : Int32) (513 : Int32) (4100 : Int32) j208 t0_0 t1_0) := hE217
      clear b214
      clear b215
      clear b216
      refine lv_bipush (v := 37) hx hb d_9_5_65 (by decide) ?_
      refine q_join (X := Int32 × Int32 × Int32 × Int32 × Int32 × Int32 × Int32 × Int32 × (Nat → Int32) × Int32 × (Nat → Int64) × Int32 × Int32 × Int32 × Int32 × Int32 × Int32 × Int32) (fun z H locs ls w291 => q_F (0 ≤ z.1.toInt) ∧ q_F (z.1.toInt ≤ 10) ∧ q_F (0 ≤ z.2.2.2.1.toInt + 1) ∧ q_F (z.2.2.2.1.toInt ≤ 2) ∧ q_F (0 ≤ z.2.2.2.2.2.1.toInt + 1) ∧ q_F (z.2.2.2.2.2.1.toInt ≤ 8) ∧ q_F (0 ≤ z.2.2.2.2.2.2.2.2.2.2.2.2.2.1.toInt + 1) ∧ q_F (z.2.2.2.2.2.2.2.2.2.2.2.2.2.1.toInt ≤ 9999) ∧ q_F (0 ≤ z.2.2.2.2.2.2.2.2.2.2.2.2.2.2.1.toInt + 1) ∧ q_F (z.2.2.2.2.2.2.2.2.2.2.2.2.2.2.1.toInt ≤ 9999) ∧ q_F (0 ≤ z.2.2.2.2.2.2.2.2.2.2.2.2.2.2.2.1.toInt + 1) ∧ q_F (z.2.2.2.2.2.2.2.2.2.2.2.2.2.2.2.1.toInt ≤ 255) ∧ q_F (0 ≤ z.2.2.2.2.2.2.2.2.2.2.2.2.2.2.2.2.2.toInt) ∧ q_F (z.2.2.2.2.2.2.2.2.2.2.2.2.2.2.2.2.2.toInt ≤ 1) ∧ q_F (lx115.toInt ≤ z.2.2.1.toInt) ∧ q_F (z.2.2.1.toInt ≤ lx115.toInt) ∧ q_F (lx118.toInt ≤ z.2.2.2.2.2.1.toInt + 8) ∧ q_F (z.2.2.2.2.2.2.1.toInt ≤ lx119.toInt + 21) ∧ q_F (lx120.toInt ≤ z.2.2.2.2.2.2.2.1.toInt + 1020000) ∧ q_F (z.2.2.2.2.2.2.2.1.toInt ≤ lx120.toInt + 1100001) ∧ q_F (y193.toInt ≤ z.2.2.2.2.2.2.2.2.2.1.toInt) ∧ q_F (z.2.2.2.2.2.2.2.2.2.1.toInt ≤ y193.toInt + 420005) ∧ q_Wd D g (va_A ws sz) s w291 H locs ∧ lv_has ls 6 [(5, .int z.1), (4, .int z.2.1), (3, .int lx111), (2, .int lx112), (0, .ref (q 40)), (1, .ref (q 3))] ∧ q_I (nsh g q) q w291 ∧ q_un ws w291 [3, 4, 36, 37, 40, 45, 46, 47] ∧ w291[1]? = (some (q 1, .inr (1, [.ref (q 2), .int 4100, .int t0_0])) : Option (Nat × va_E)) ∧ w291[2]? = (some (q 2, .inl (g 1, (513 : Int32).toNatClampNeg, .inr (.inl t1_0))) : Option (Nat × va_E)) ∧ w291[3]? = (some (q 3, .inr (1, [.ref (q 4), .int 11008, .int lx113])) : Option (Nat × va_E)) ∧ w291[4]? = (some (q 4, .inl (g 1, (1376 : Int32).toNatClampNeg, .inr (.inl lx114))) : Option (Nat × va_E)) ∧ w291[40]? = (some (q 40, .inr (11, [.int z.2.2.1, .ref (q 41), .ref (q 42), .ref (q 43), .ref (q 44), .ref (q 1), .ref (q 47), .ref (q 36), .ref (q 45), .int z.2.2.2.1, .int z.2.2.2.2.1, .int z.2.2.2.2.2.1])) : Option (Nat × va_E)) ∧ w291[41]? = (some (q 41, .inl (g 0, 9, .inl t5_0)) : Option (Nat × va_E)) ∧ w291[42]? = (some (q 42, .inl (g 1, 9, .inr (.inl t6_0))) : Option (Nat × va_E)) ∧ w291[43]? = (some (q 43, .inl (g 0, 9, .inl t7_0)) : Option (Nat × va_E)) ∧ w291[36]? = (some (q 36, .inr (7, [.int z.2.2.2.2.2.2.1, .int z.2.2.2.2.2.2.2.1, .ref (q 37)])) : Option (Nat × va_E)) ∧ w291[37]? = (some (q 37, .inl (g 2, 1026, .inl z.2.2.2.2.2.2.2.2.1)) : Option (Nat × va_E)) ∧ w291[45]? = (some (q 45, .inr (1, [.ref (q 46), .int 4104, .int z.2.2.2.2.2.2.2.2.2.1])) : Option (Nat × va_E)) ∧ w291[46]? = (some (q 46, .inl (g 1, (513 : Int32).toNatClampNeg, .inr (.inl z.2.2.2.2.2.2.2.2.2.2.1))) : Option (Nat × va_E)) ∧ w291[47]? = (some (q 47, .inr (10, [.int z.2.2.2.2.2.2.2.2.2.2.2.1, .int z.2.2.2.2.2.2.2.2.2.2.2.2.1, .int z.2.2.2.2.2.2.2.2.2.2.2.2.2.1, .int z.2.2.2.2.2.2.2.2.2.2.2.2.2.2.1, .int z.2.2.2.2.2.2.2.2.2.2.2.2.2.2.2.1, .int z.2.2.2.2.2.2.2.2.2.2.2.2.2.2.2.2.1, .ref (q 1), .int z.2.2.2.2.2.2.2.2.2.2.2.2.2.2.2.2.2])) : Option (Nat × va_E)) ∧ w291[48]? = (some (q 48, .inr (1, [.ref (q 49), .int 64, .int t13_0])) : Option (Nat × va_E)) ∧ w291[49]? = (some (q 49, .inl (g 1, (8 : Int32).toNatClampNeg, .inr (.inl t14_0))) : Option (Nat × va_E)) ∧ w291[50]? = (some (q 50, .inr (1, [.ref (q 51), .int 64, .int t15_0])) : Option (Nat × va_E)) ∧ w291[51]? = (some (q 51, .inl (g 1, (8 : Int32).toNatClampNeg, .inr (.inl t16_0))) : Option (Nat × va_E)) ∧ w291[52]? = (some (q 52, .inr (1, [.ref (q 53), .int 64, .int t17_0])) : Option (Nat × va_E)) ∧ w291[53]? = (some (q 53, .inl (g 1, (8 : Int32).toNatClampNeg, .inr (.inl t18_0))) : Option (Nat × va_E)) ∧ w291[54]? = (some (q 54, .inr (1, [.ref (q 55), .int 64, .int t19_0])) : Option (Nat × va_E)) ∧ w291[55]? = (some (q 55, .inl (g 1, (8 : Int32).toNatClampNeg, .inr (.inl t20_0))) : Option (Nat × va_E)) ∧ w291[56]? = (some (q 56, .inr (1, [.ref (q 57), .int 64, .int t21_0])) : Option (Nat × va_E)) ∧ w291[57]? = (some (q 57, .inl (g 1, (8 : Int32).toNatClampNeg, .inr (.inl t22_0))) : Option (Nat × va_E)) ∧ w291[58]? = (some (q 58, .inr (1, [.ref (q 59), .int 64, .int t23_0])) : Option (Nat × va_E)) ∧ w291[59]? = (some (q 59, .inl (g 1, (8 : Int32).toNatClampNeg, .inr (.inl t24_0))) : Option (Nat × va_E)) ∧ w291[60]? = (some (q 60, .inr (1, [.ref (q 61), .int 64, .int t25_0])) : Option (Nat × va_E)) ∧ w291[61]? = (some (q 61, .inl (g 1, (8 : Int32).toNatClampNeg, .inr (.inl t26_0))) : Option (Nat × va_E)) ∧ w291[62]? = (some (q 62, .inr (1, [.ref (q 63), .int 64, .int t27_0])) : Option (Nat × va_E)) ∧ w291[63]? = (some (q 63, .inl (g 1, (8 : Int32).toNatClampNeg, .inr (.inl t28_0))) : Option (Nat × va_E)) ∧ w291[64]? = (some (q 64, .inr (1, [.ref (q 65), .int 64, .int t29_0])) : Option (Nat × va_E)) ∧ w291[65]? = (some (q 65, .inl (g 1, (8 : Int32).toNatClampNeg, .inr (.inl t30_0))) : Option (Nat × va_E)) ∧ F_Pri_run_J128 (F_Pri_run_L18 t0_0 t1_0 t2_0 t3_0 t4_0 t4_1 t4_2 t4_3 t5_0 t6_0 t7_0 t8_0 t8_1 t9_0 t10_0 t11_0 t12_0 t12_1 t12_2 t12_3 t12_4 t12_5 t12_6 t13_0 t14_0 t15_0 t16_0 t17_0 t18_0 t19_0 t20_0 t21_0 t22_0 t23_0 t24_0 t25_0 t26_0 t27_0 t28_0 t29_0 t30_0 fm183) t0_0 t1_0 t2_0 t3_0 t4_0 t4_1 t4_2 t4_3 t5_0 t6_0 t7_0 t8_0 t8_1 t9_0 t10_0 t11_0 t12_0 t12_1 t12_2 t12_3 t12_4 t12_5 t12_6 t13_0 t14_0 t15_0 t16_0 t17_0 t18_0 t19_0 t20_0 t21_0 t22_0 t23_0 t24_0 t25_0 t26_0 t27_0 t28_0 t29_0 t30_0 lx111 lx112 lx113 lx114 lx115 lx116 lx117 lx118 lx119 lx120 lx121 lx122 lx123 lx124 lx125 lx126 lx127 lx128 lx129 lx130 z.1 z.2.1 z.2.2.1 z.2.2.2.1 z.2.2.2.2.1 z.2.2.2.2.2.1 z.2.2.2.2.2.2.1 z.2.2.2.2.2.2.2.1 z.2.2.2.2.2.2.2.2.1 z.2.2.2.2.2.2.2.2.2.1 z.2.2.2.2.2.2.2.2.2.2.1 z.2.2.2.2.2.2.2.2.2.2.2.1 z.2.2.2.2.2.2.2.2.2.2.2.2.1 z.2.2.2.2.2.2.2.2.2.2.2.2.2.1 z.2.2.2.2.2.2.2.2.2.2.2.2.2.2.1 z.2.2.2.2.2.2.2.2.2.2.2.2.2.2.2.1 z.2.2.2.2.2.2.2.2.2.2.2.2.2.2.2.2.1 z.2.2.2.2.2.2.2.2.2.2.2.2.2.2.2.2.2 = (F_Pri_run t0_0 t1_0 t2_0 t3_0 t4_0 t4_1 t4_2 t4_3 t5_0 t6_0 t7_0 t8_0 t8_1 t9_0 t10_0 t11_0 t12_0 t12_1 t12_2 t12_3 t12_4 t12_5 t12_6 t13_0 t14_0 t15_0 t16_0 t17_0 t18_0 t19_0 t20_0 t21_0 t22_0 t23_0 t24_0 t25_0 t26_0 t27_0 t28_0 t29_0 t30_0) ∧ True ∧ S_Pri_run_J128 (S_Pri_run_L18 t0_0 t1_0 t2_0 t3_0 t4_0 t4_1 t4_2 t4_3 t5_0 t6_0 t7_0 t8_0 t8_1 t9_0 t10_0 t11_0 t12_0 t12_1 t12_2 t12_3 t12_4 t12_5 t12_6 t13_0 t14_0 t15_0 t16_0 t17_0 t18_0 t19_0 t20_0 t21_0 t22_0 t23_0 t24_0 t25_0 t26_0 t27_0 t28_0 t29_0 t30_0 fm183) t0_0 t1_0 t2_0 t3_0 t4_0 t4_1 t4_2 t4_3 t5_0 t6_0 t7_0 t8_0 t8_1 t9_0 t10_0 t11_0 t12_0 t12_1 t12_2 t12_3 t12_4 t12_5 t12_6 t13_0 t14_0 t15_0 t16_0 t17_0 t18_0 t19_0 t20_0 t21_0 t22_0 t23_0 t24_0 t25_0 t26_0 t27_0 t28_0 t29_0 t30_0 lx111 lx112 lx113 lx114 lx115 lx116 lx117 lx118 lx119 lx120 lx121 lx122 lx123 lx124 lx125 lx126 lx127 lx128 lx129 lx130 z.1 z.2.1 z.2.2.1 z.2.2.2.1 z.2.2.2.2.1 z.2.2.2.2.2.1 z.2.2.2.2.2.2.1 z.2.2.2.2.2.2.2.1 z.2.2.2.2.2.2.2.2.1 z.2.2.2.2.2.2.2.2.2.1 z.2.2.2.2.2.2.2.2.2.2.1 z.2.2.2.2.2.2.2.2.2.2.2.1 z.2.2.2.2.2.2.2.2.2.2.2.2.1 z.2.2.2.2.2.2.2.2.2.2.2.2.2.1 z.2.2.2.2.2.2.2.2.2.2.2.2.2.2.1 z.2.2.2.2.2.2.2.2.2.2.2.2.2.2.2.1 z.2.2.2.2.2.2.2.2.2.2.2.2.2.2.2.2.1 z.2.2.2.2.2.2.2.2.2.2.2.2.2.2.2.2.2) (fun z => []) 128 0 0 ?_ ?_
      ·
        rintro ⟨lx219, lx220, lx221, lx222, lx223, lx224, lx225, lx226, lx227, lx228, lx229, lx230, lx231, lx232, lx233, lx234, lx235, lx236⟩ H locs ls w291 ⟨i269, i270, i271, i272, i273, i274, i275, i276, i277, i278, i279, i280, i281, i282, i283, i284, i285, i286, i287, i288, i289, i290, V, hl, hI, hF, hO237, hA238, hO239, hA240, hO241, hA242, hA243, hA244, hO245, hA246, hO247, hA248, hO249, hO250, hA251, hO252, hA253, hO254, hA255, hO256, hA257, hO258, hA259, hO260, hA261, hO262, hA263, hO264, hA265, hO266, hA267, hR292, hS293⟩
        replace i269 : q_F (0 ≤ lx219.toInt) := i269
        replace i270 : q_F (lx219.toInt ≤ 10) := i270
        replace i271 : q_F (0 ≤ lx222.toInt + 1) := i271
        replace i272 : q_F (lx222.toInt ≤ 2) := i272
        clear i273
        clear i274
        replace i275 : q_F (0 ≤ lx232.toInt + 1) := i275
        replace i276 : q_F (lx232.toInt ≤ 9999) := i276
        replace i277 : q_F (0 ≤ lx233.toInt + 1) := i277
        replace i278 : q_F (lx233.toInt ≤ 9999) := i278
        clear i279
        clear i280
        replace i281 : q_F (0 ≤ lx236.toInt) := i281
        replace i282 : q_F (lx236.toInt ≤ 1) := i282
        clear i283
        clear i284
        clear i285
        clear i286
        clear i287
        clear i288
        replace i289 : q_F (y193.toInt ≤ lx228.toInt) := i289
        replace i290 : q_F (lx228.toInt ≤ y193.toInt + 420005) := i290
        replace hl : lv_has ls 6 [(5, .int lx219), (4, .int lx220), (3, .int lx111), (2, .int lx112), (0, .ref (q 40)), (1, .ref (q 3))] := hl
        replace hO237 : w291[1]? = (some (q 1, .inr (1, [.ref (q 2), .int 4100, .int t0_0])) : Option (Nat × va_E)) := hO237
        replace hA238 : w291[2]? = (some (q 2, .inl (g 1, (513 : Int32).toNatClampNeg, .inr (.inl t1_0))) : Option (Nat × va_E)) := hA238
        replace hO239 : w291[3]? = (some (q 3, .inr (1, [.ref (q 4), .int 11008, .int lx113])) : Option (Nat × va_E)) := hO239
        replace hA240 : w291[4]? = (some (q 4, .inl (g 1, (1376 : Int32).toNatClampNeg, .inr (.inl lx114))) : Option (Nat × va_E)) := hA240
        replace hO241 : w291[40]? = (some (q 40, .inr (11, [.int lx221, .ref (q 41), .ref (q 42), .ref (q 43), .ref (q 44), .ref (q 1), .ref (q 47), .ref (q 36), .ref (q 45), .int lx222, .int lx223, .int lx224])) : Option (Nat × va_E)) := hO241
        replace hA242 : w291[41]? = (some (q 41, .inl (g 0, 9, .inl t5_0)) : Option (Nat × va_E)) := hA242
        replace hA243 : w291[42]? = (some (q 42, .inl (g 1, 9, .inr (.inl t6_0))) : Option (Nat × va_E)) := hA243
        replace hA244 : w291[43]? = (some (q 43, .inl (g 0, 9, .inl t7_0)) : Option (Nat × va_E)) := hA244
        replace hO245 : w291[36]? = (some (q 36, .inr (7, [.int lx225, .int lx226, .ref (q 37)])) : Option (Nat × va_E)) := hO245
        replace hA246 : w291[37]? = (some (q 37, .inl (g 2, 1026, .inl lx227)) : Option (Nat × va_E)) := hA246
        replace hO247 : w291[45]? = (some (q 45, .inr (1, [.ref (q 46), .int 4104, .int lx228])) : Option (Nat × va_E)) := hO247
        replace hA248 : w291[46]? = (some (q 46, .inl (g 1, (513 : Int32).toNatClampNeg, .inr (.inl lx229))) : Option (Nat × va_E)) := hA248
        replace hO249 : w291[47]? = (some (q 47, .inr (10, [.int lx230, .int lx231, .int lx232, .int lx233, .int lx234, .int lx235, .ref (q 1), .int lx236])) : Option (Nat × va_E)) := hO249
        replace hO250 : w291[48]? = (some (q 48, .inr (1, [.ref (q 49), .int 64, .int t13_0])) : Option (Nat × va_E)) := hO250
        replace hA251 : w291[49]? = (some (q 49, .inl (g 1, (8 : Int32).toNatClampNeg, .inr (.inl t14_0))) : Option (Nat × va_E)) := hA251
        replace hO252 : w291[50]? = (some (q 50, .inr (1, [.ref (q 51), .int 64, .int t15_0])) : Option (Nat × va_E)) := hO252
        replace hA253 : w291[51]? = (some (q 51, .inl (g 1, (8 : Int32).toNatClampNeg, .inr (.inl t16_0))) : Option (Nat × va_E)) := hA253
        replace hO254 : w291[52]? = (some (q 52, .inr (1, [.ref (q 53), .int 64, .int t17_0])) : Option (Nat × va_E)) := hO254
        replace hA255 : w291[53]? = (some (q 53, .inl (g 1, (8 : Int32).toNatClampNeg, .inr (.inl t18_0))) : Option (Nat × va_E)) := hA255
        replace hO256 : w291[54]? = (some (q 54, .inr (1, [.ref (q 55), .int 64, .int t19_0])) : Option (Nat × va_E)) := hO256
        replace hA257 : w291[55]? = (some (q 55, .inl (g 1, (8 : Int32).toNatClampNeg, .inr (.inl t20_0))) : Option (Nat × va_E)) := hA257
        replace hO258 : w291[56]? = (some (q 56, .inr (1, [.ref (q 57), .int 64, .int t21_0])) : Option (Nat × va_E)) := hO258
        replace hA259 : w291[57]? = (some (q 57, .inl (g 1, (8 : Int32).toNatClampNeg, .inr (.inl t22_0))) : Option (Nat × va_E)) := hA259
        replace hO260 : w291[58]? = (some (q 58, .inr (1, [.ref (q 59), .int 64, .int t23_0])) : Option (Nat × va_E)) := hO260
        replace hA261 : w291[59]? = (some (q 59, .inl (g 1, (8 : Int32).toNatClampNeg, .inr (.inl t24_0))) : Option (Nat × va_E)) := hA261
        replace hO262 : w291[60]? = (some (q 60, .inr (1, [.ref (q 61), .int 64, .int t25_0])) : Option (Nat × va_E)) := hO262
        replace hA263 : w291[61]? = (some (q 61, .inl (g 1, (8 : Int32).toNatClampNeg, .inr (.inl t26_0))) : Option (Nat × va_E)) := hA263
        replace hO264 : w291[62]? = (some (q 62, .inr (1, [.ref (q 63), .int 64, .int t27_0])) : Option (Nat × va_E)) := hO264
        replace hA265 : w291[63]? = (some (q 63, .inl (g 1, (8 : Int32).toNatClampNeg, .inr (.inl t28_0))) : Option (Nat × va_E)) := hA265
        replace hO266 : w291[64]? = (some (q 64, .inr (1, [.ref (q 65), .int 64, .int t29_0])) : Option (Nat × va_E)) := hO266
        replace hA267 : w291[65]? = (some (q 65, .inl (g 1, (8 : Int32).toNatClampNeg, .inr (.inl t30_0))) : Option (Nat × va_E)) := hA267
        refine lv_iload hx hb d_9_5_128 (lv_at hl 0 rfl) ?_
        refine lv_if_ne (tgt := 165) hx hb d_9_5_130 (by decide) (fun c297 => ?_) (fun c297 => ?_)
        ·
          have b298 : q_F (lx219.toInt ≠ 0) := (q_neI c297)
          refine lv_iload hx hb d_9_5_165 (lv_at hl 0 rfl) ?_
          refine lv_if_eq (tgt := 183) hx hb d_9_5_167 (by decide) (fun c299 => absurd (show lx219.toInt = 0 from q_eqI c299) (by first | with_reducible exact q_fe b298 | (have t1 : lx219.toInt ≠ 0 := b298; omega))) (fun c299 => ?_)
          refine lv_aload_n hx hb d_9_5_170 rfl (lv_at hl 5 rfl) ?_
          refine q_gov V (q_runV (As := []) (rest := []) (d := 1) (mc := 0) (ms := 0) (ci := 1) C0 V rfl LV_Pri_70 (X_She_clear l D g q w291 3 11008 1376 1000000 (n_h3 g q)  hI lx113 hO239  _) rfl rfl hO239 rfl hl.1 rfl (Nat.le_of_ble_eq_true rfl) ⟨by decide, by decide⟩ ⟨Nat.le_of_ble_eq_true rfl, Nat.le_of_ble_eq_true rfl⟩ d_9_5_171) (fun u300 H locs hp301 V => ?_)
          obtain ⟨hI, hZ9⟩ := hp301
          obtain ⟨hu307, hZ9⟩ := hZ9
          obtain ⟨y303, hZ9⟩ := hZ9
          obtain ⟨hO302, hZ9⟩ := hZ9
          obtain ⟨b304, hZ9⟩ := hZ9
          obtain ⟨b305, hE306⟩ := hZ9
          replace hO302 : u300[3]? = (some (q 3, .inr (1, [.ref (q 4), .int 11008, .int y303])) : Option (Nat × va_E)) := hO302
          have e308 : y303 = (F_She_clear (11008 : Int32) (1376 : Int32) (1000000 : Int32) lx113) := hE306
          replace b304 : q_F (0 ≤ y303.toInt) := b304
          replace b305 : q_F (y303.toInt ≤ 0) := b305
          replace hA240 := (hu307 _ (by decide)).trans hA240
          replace hO241 := (hu307 _ (by decide)).trans hO241
          replace hO245 := (hu307 _ (by decide)).trans hO245
          replace hA246 := (hu307 _ (by decide)).trans hA246
          replace hO247 := (hu307 _ (by decide)).trans hO247
          replace hA248 := (hu307 _ (by decide)).trans hA248
          replace hO249 := (hu307 _ (by decide)).trans hO249
          replace hF := q_uc hF hu307 (by first | exact (q_sk (q_mi 0 rfl) q_s0) | simp)
          refine lv_sipush (v := (-1000)) hx hb d_9_5_174 (by decide) ?_
          refine lv_iload hx hb d_9_5_177 (lv_at hl 0 rfl) ?_
          refine lv_imul hx hb d_9_5_179 ?_
          obtain ⟨a309, e310⟩ := q_nm ((-1000) * lx219 : Int32)
          refine q_ti (v := a309) e310 ?_
          have b311 : q_F (a309.toInt = (-1000) * lx219.toInt) := (by rw [← e310]; show ((-1000) * lx219 : Int32).toInt = (-1000) * lx219.toInt; exact q_mulI (x := (-1000)) (y := lx219.toInt) (by decide) rfl (by have t1 : lx219.toInt ≤ 10 := i270; have t2 : 0 ≤ lx219.toInt := i269; omega) (by have t1 : lx219.toInt ≤ 10 := i270; have t2 : 0 ≤ lx219.toInt := i269; omega))
          refine lv_iload_n hx hb d_9_5_180 rfl (lv_at hl 3 rfl) ?_
          refine lv_isub hx hb d_9_5_181 ?_
          obtain ⟨a312, e313⟩ := q_nm (a309 - lx112 : Int32)
          refine q_ti (v := a312) e313 ?_
          have b314 : q_F (a312.toInt = a309.toInt - lx112.toInt) := (by rw [← e313]; show (a309 - lx112 : Int32).toInt = a309.toInt - lx112.toInt; exact q_subI (x := a309.toInt) (y := lx112.toInt) rfl rfl (by have t1 : 0 ≤ t0_0.toInt ∧ t0_0.toInt ≤ 4100 := btt0_0; have t2 : lx112.toInt < t0_0.toInt := b189; have t3 : lx219.toInt ≤ 10 := i270; have t4 : a309.toInt = (-1000) * lx219.toInt := b311; have t5 : a205.toInt = lx112.toInt + 1 := b207; have t6 : 0 ≤ lx219.toInt := i269; have t7 : lx219.toInt ≠ 0 := b298; have _ := q_lo32 (x := a205); have _ := q_hi32 (x := a205); omega) (by have t1 : 0 ≤ t0_0.toInt ∧ t0_0.toInt ≤ 4100 := btt0_0; have t2 : lx112.toInt < t0_0.toInt := b189; have t3 : lx219.toInt ≤ 10 := i270; have t4 : a309.toInt = (-1000) * lx219.toInt := b311; have t5 : a205.toInt = lx112.toInt + 1 := b207; have t6 : 0 ≤ lx219.toInt := i269; have t7 : lx219.toInt ≠ 0 := b298; have _ := q_lo32 (x := a205); have _ := q_hi32 (x := a205); omega))
          exact q_reti C0 V (⟨hI, hF, y303, lx114, lx221, lx222, lx223, lx224, lx225, lx226, lx227, lx228, lx229, lx230, lx231, lx232, lx233, lx234, lx235, lx236, hO302, hA240, hO241, hO245, hA246, hO247, hA248, hO249, (show a312.toInt ≤ 2147482648 from (by have t1 : 0 ≤ lx219.toInt := i269; have t2 : lx219.toInt ≠ 0 := b298; have t3 : a309.toInt = (-1000) * lx219.toInt := b311; have t4 : a312.toInt = a309.toInt - lx112.toInt := b314; have _ := q_lo32 (x := lx112); have _ := q_hi32 (x := lx112); omega)), (show 0 ≤ y303.toInt from (by first | with_reducible exact q_fe b304 | (have t1 : 0 ≤ y303.toInt := b304; omega))), (show y303.toInt ≤ 1000000 from (by first | with_reducible exact q_fe b305 | (have t1 : y303.toInt ≤ 0 := b305; omega))), (show 0 ≤ lx222.toInt + 1000000 from (by first | with_reducible exact q_fe i271 | (have t1 : 0 ≤ lx222.toInt + 1 := i271; omega))), (show lx222.toInt ≤ 1000000 from (by first | with_reducible exact q_fe i272 | (have t1 : lx222.toInt ≤ 2 := i272; omega))), (show 0 ≤ lx228.toInt + 1000000 from (by have t1 : 0 ≤ y193.toInt := b194; have t2 : y193.toInt ≤ lx228.toInt := i289; omega)), (show lx228.toInt ≤ 1000000 from (by have t1 : y193.toInt ≤ 0 := b195; have t2 : lx228.toInt ≤ y193.toInt + 420005 := i290; omega)), (show 0 ≤ lx232.toInt + 1 from (by first | with_reducible exact q_fe i275 | (have t1 : 0 ≤ lx232.toInt + 1 := i275; omega))), (show lx232.toInt ≤ 9999 from (by first | with_reducible exact q_fe i276 | (have t1 : lx232.toInt ≤ 9999 := i276; omega))), (show 0 ≤ lx233.toInt + 1 from (by first | with_reducible exact q_fe i277 | (have t1 : 0 ≤ lx233.toInt + 1 := i277; omega))), (show lx233.toInt ≤ 9999 from (by first | with_reducible exact q_fe i278 | (have t1 : lx233.toInt ≤ 9999 := i278; omega))), (show 0 ≤ lx236.toInt from (by first | with_reducible exact q_fe i281 | (have t1 : 0 ≤ lx236.toInt := i281; omega))), (show lx236.toInt ≤ 1 from (by first | with_reducible exact q_fe i282 | (have t1 : lx236.toInt ≤ 1 := i282; omega))), (show y303.toInt ≤ a312.toInt + 12255 from (by have t1 : t0_0.toInt ≤ 256 := pre0; have t2 : lx112.toInt < t0_0.toInt := b189; have t3 : lx219.toInt ≤ 10 := i270; have t4 : y303.toInt ≤ 0 := b305; have t5 : a309.toInt = (-1000) * lx219.toInt := b311; have t6 : a312.toInt = a309.toInt - lx112.toInt := b314; omega)), (show lx222.toInt ≤ a312.toInt + 1000000 from (by have t1 : 0 ≤ t0_0.toInt ∧ t0_0.toInt ≤ 4100 := btt0_0; have t2 : lx112.toInt < t0_0.toInt := b189; have t3 : lx219.toInt ≤ 10 := i270; have t4 : lx222.toInt ≤ 2 := i272; have t5 : a309.toInt = (-1000) * lx219.toInt := b311; have t6 : a312.toInt = a309.toInt - lx112.toInt := b314; omega)), (show lx228.toInt ≤ a312.toInt + 1000000 from (by have t1 : 0 ≤ t0_0.toInt ∧ t0_0.toInt ≤ 4100 := btt0_0; have t2 : lx112.toInt < t0_0.toInt := b189; have t3 : y193.toInt ≤ 0 := b195; have t4 : lx219.toInt ≤ 10 := i270; have t5 : lx228.toInt ≤ y193.toInt + 420005 := i290; have t6 : a309.toInt = (-1000) * lx219.toInt := b311; have t7 : a312.toInt = a309.toInt - lx112.toInt := b314; omega)), (show (a312, y303, lx114, lx221, lx222, lx223, lx224, lx225, lx226, lx227, lx228, lx229, lx230, lx231, lx232, lx233, lx234, lx235, lx236) = (F_Pri_run t0_0 t1_0 t2_0 t3_0 t4_0 t4_1 t4_2 t4_3 t5_0 t6_0 t7_0 t8_0 t8_1 t9_0 t10_0 t11_0 t12_0 t12_1 t12_2 t12_3 t12_4 t12_5 t12_6 t13_0 t14_0 t15_0 t16_0 t17_0 t18_0 t19_0 t20_0 t21_0 t22_0 t23_0 t24_0 t25_0 t26_0 t27_0 t28_0 t29_0 t30_0) from Eq.trans (by rw [← e313, ← e310, e308, F_Pri_run_J128.eq_1, if_neg c297]) hR292)⟩) d_9_5_182
        ·
          have b315 : q_F (lx219.toInt = 0) := (q_eqI c297)
          refine lv_aload_n hx hb d_9_5_133 rfl (lv_at hl 5 rfl) ?_
          refine q_get (ci := 1) (j := 2) (v := .int lx113) C0 V i_She rfl rfl hO239 (by decide) w_58 rfl d_9_5_134 ?_
          refine lv_aload_n hx hb d_9_5_137 rfl (lv_at hl 4 rfl) ?_
          refine q_get (ci := 11) (j := 8) (v := .ref (q 45)) C0 V i_Pri rfl rfl hO241 (by decide) w_393 rfl d_9_5_138 ?_
          refine q_get (ci := 1) (j := 2) (v := .int lx228) C0 V i_She rfl rfl hO247 (by decide) w_58 rfl d_9_5_141 ?_
          refine lv_aload_n hx hb d_9_5_144 rfl (lv_at hl 4 rfl) ?_
          refine q_get (ci := 11) (j := 6) (v := .ref (q 47)) C0 V i_Pri rfl rfl hO241 (by decide) w_391 rfl d_9_5_145 ?_
          refine q_get (ci := 10) (j := 2) (v := .int lx232) C0 V i_Dir rfl rfl hO249 (by decide) w_358 rfl d_9_5_148 ?_
          refine q_max C0 hl.1 rfl w_1890 w_803 w_7 w_804 ⟨Nat.le_of_ble_eq_true rfl, Nat.le_of_ble_eq_true rfl⟩ ⟨Nat.le_of_ble_eq_true rfl, Nat.le_of_ble_eq_true rfl⟩ d_9_5_151 ?_
          obtain ⟨a316, e317⟩ := q_nm (if lx228 < lx232 then lx232 else lx228 : Int32)
          refine q_ti (v := a316) e317 ?_
          have b318 : q_F (lx228.toInt ≤ a316.toInt ∧ lx232.toInt ≤ a316.toInt ∧ (a316.toInt = lx228.toInt ∨ a316.toInt = lx232.toInt)) := (by rw [← e317]; show lx228.toInt ≤ (if lx228 < lx232 then lx232 else lx228 : Int32).toInt ∧ lx232.toInt ≤ (if lx228 < lx232 then lx232 else lx228 : Int32).toInt ∧ ((if lx228 < lx232 then lx232 else lx228 : Int32).toInt = lx228.toInt ∨ (if lx228 < lx232 then lx232 else lx228 : Int32).toInt = lx232.toInt); exact s_max (a := lx228) (b := lx232))
          refine lv_iadd hx hb d_9_5_154 ?_
          obtain ⟨a319, e320⟩ := q_nm (lx113 + a316 : Int32)
          refine q_ti (v := a319) e320 ?_
          have b321 : q_F (a319.toInt = lx113.toInt + a316.toInt) := (by rw [← e320]; show (lx113 + a316 : Int32).toInt = lx113.toInt + a316.toInt; exact q_addI (x := lx113.toInt) (y := a316.toInt) rfl rfl (by have t1 : 0 ≤ y99.toInt := b100; have t2 : y99.toInt ≤ lx113.toInt := i143; have t3 : 0 ≤ lx232.toInt + 1 := i275; have t4 : lx228.toInt ≤ a316.toInt ∧ lx232.toInt ≤ a316.toInt ∧ (a316.toInt = lx228.toInt ∨ a316.toInt = lx232.toInt) := b318; have t5 : lx113.toInt ≤ 1000000 := i132; have t6 : y193.toInt ≤ 0 := b195; have t7 : lx232.toInt ≤ 9999 := i276; have t8 : lx228.toInt ≤ y193.toInt + 420005 := i290; omega) (by have t1 : 0 ≤ y99.toInt := b100; have t2 : y99.toInt ≤ lx113.toInt := i143; have t3 : 0 ≤ lx232.toInt + 1 := i275; have t4 : lx228.toInt ≤ a316.toInt ∧ lx232.toInt ≤ a316.toInt ∧ (a316.toInt = lx228.toInt ∨ a316.toInt = lx232.toInt) := b318; have t5 : lx113.toInt ≤ 1000000 := i132; have t6 : y193.toInt ≤ 0 := b195; have t7 : lx232.toInt ≤ 9999 := i276; have t8 : lx228.toInt ≤ y193.toInt + 420005 := i290; omega))
          refine lv_sipush (v := 4096) hx hb d_9_5_155 (by decide) ?_
          refine lv_icmp_le (tgt := 165) hx hb d_9_5_158 (by decide) (fun c322 => ?_) (fun c322 => ?_)
          ·
            have b323 : q_F (a319.toInt ≤ 4096) := (q_leI c322)
            refine lv_iload hx hb d_9_5_165 (lv_at hl 0 rfl) ?_
            refine lv_if_eq (tgt := 183) hx hb d_9_5_167 (by decide) (fun c324 => ?_) (fun c324 => absurd (show lx219.toInt ≠ 0 from q_neI c324) (by have t1 : 0 ≤ lx219.toInt := i269; have t2 : lx219.toInt = 0 := b315; omega))
            refine lv_aload_n hx hb d_9_5_183 rfl (lv_at hl 4 rfl) ?_
            refine lv_aload_n hx hb d_9_5_184 rfl (lv_at hl 5 rfl) ?_
            refine q_gov V (q_runV (As := [.ref (q 3)]) (rest := []) (d := 4) (mc := 0) (ms := 0) (ci := 11) C0 V rfl LV_Pri_125 (X_Pri_widen l D g q w291   hI lx221 lx222 lx223 lx224 hO241 lx228 hO247 lx229 hA248 lx230 lx231 lx232 lx233 lx234 lx235 lx236 hO249 lx113 hO239 lx114 hA240 (by have t1 : 0 ≤ lx232.toInt + 1 := i275; have t2 : lx228.toInt ≤ a316.toInt ∧ lx232.toInt ≤ a316.toInt ∧ (a316.toInt = lx228.toInt ∨ a316.toInt = lx232.toInt) := b318; have t3 : a319.toInt = lx113.toInt + a316.toInt := b321; have t4 : a319.toInt ≤ 4096 := b323; omega) (by have t1 : y193.toInt ≤ 0 := b195; have t2 : lx228.toInt ≤ y193.toInt + 420005 := i290; omega) (by first | with_reducible exact q_fe i272 | (have t1 : lx222.toInt ≤ 2 := i272; omega)) _) rfl rfl hO241 rfl hl.1 rfl (Nat.le_of_ble_eq_true rfl) ⟨by decide, by decide⟩ ⟨Nat.le_of_ble_eq_true rfl, Nat.le_of_ble_eq_true rfl⟩ d_9_5_185) (fun u325 H locs hp326 V => ?_)
            obtain ⟨hI, hZ9⟩ := hp326
            obtain ⟨hu336, hZ9⟩ := hZ9
            obtain ⟨y328, hZ9⟩ := hZ9
            obtain ⟨f329, hZ9⟩ := hZ9
            obtain ⟨hO327, hZ9⟩ := hZ9
            obtain ⟨hA330, hZ9⟩ := hZ9
            obtain ⟨b331, hZ9⟩ := hZ9
            replace hZ9 := hZ9.2
            obtain ⟨b333, hZ9⟩ := hZ9
            obtain ⟨-, hE335⟩ := hZ9
            replace hO327 : u325[3]? = (some (q 3, .inr (1, [.ref (q 4), .int 11008, .int y328])) : Option (Nat × va_E)) := hO327
            replace hA330 : u325[4]? = (some (q 4, .inl (g 1, (1376 : Int32).toNatClampNeg, .inr (.inl f329))) : Option (Nat × va_E)) := hA330
            obtain ⟨p337, e338⟩ : ∃ z, z = (F_Pri_widen lx221 lx222 lx223 lx224 lx228 lx229 lx230 lx231 lx232 lx233 lx234 lx235 lx236 lx113 lx114) := ⟨_, rfl⟩
            have e339 : y328 = p337.1 := congrArg (fun z => z.1) (hE335.trans e338.symm)
            have e340 : f329 = p337.2 := congrArg (fun z => z.2) (hE335.trans e338.symm)
            replace b331 : q_F (y328.toInt ≤ lx222.toInt + 480001) := b331
            replace b333 : q_F (lx113.toInt ≤ y328.toInt) := b333
            replace hO237 := (hu336 _ (by decide)).trans hO237
            replace hA238 := (hu336 _ (by decide)).trans hA238
            replace hO241 := (hu336 _ (by decide)).trans hO241
            replace hA242 := (hu336 _ (by decide)).trans hA242
            replace hA243 := (hu336 _ (by decide)).trans hA243
            replace hA244 := (hu336 _ (by decide)).trans hA244
            replace hO245 := (hu336 _ (by decide)).trans hO245
            replace hA246 := (hu336 _ (by decide)).trans hA246
            replace hO247 := (hu336 _ (by decide)).trans hO247
            replace hA248 := (hu336 _ (by decide)).trans hA248
            replace hO249 := (hu336 _ (by decide)).trans hO249
            replace hO250 := (hu336 _ (by decide)).trans hO250
            replace hA251 := (hu336 _ (by decide)).trans hA251
            replace hO252 := (hu336 _ (by decide)).trans hO252
            replace hA253 := (hu336 _ (by decide)).trans hA253
            replace hO254 := (hu336 _ (by decide)).trans hO254
            replace hA255 := (hu336 _ (by decide)).trans hA255
            replace hO256 := (hu336 _ (by decide)).trans hO256
            replace hA257 := (hu336 _ (by decide)).trans hA257
            replace hO258 := (hu336 _ (by decide)).trans hO258
            replace hA259 := (hu336 _ (by decide)).trans hA259
            replace hO260 := (hu336 _ (by decide)).trans hO260
            replace hA261 := (hu336 _ (by decide)).trans hA261
            replace hO262 := (hu336 _ (by decide)).trans hO262
            replace hA263 := (hu336 _ (by decide)).trans hA263
            replace hO264 := (hu336 _ (by decide)).trans hO264
            replace hA265 := (hu336 _ (by decide)).trans hA265
            replace hO266 := (hu336 _ (by decide)).trans hO266
            replace hA267 := (hu336 _ (by decide)).trans hA267
            replace hF := q_uc hF hu336 (by first | exact (q_sk (q_mi 0 rfl) (q_sk (q_mi 1 rfl) q_s0)) | simp)
            have hR341 := (show F_Pri_run_c185 (F_Pri_run_L18 t0_0 t1_0 t2_0 t3_0 t4_0 t4_1 t4_2 t4_3 t5_0 t6_0 t7_0 t8_0 t8_1 t9_0 t10_0 t11_0 t12_0 t12_1 t12_2 t12_3 t12_4 t12_5 t12_6 t13_0 t14_0 t15_0 t16_0 t17_0 t18_0 t19_0 t20_0 t21_0 t22_0 t23_0 t24_0 t25_0 t26_0 t27_0 t28_0 t29_0 t30_0 fm183) t0_0 t1_0 t2_0 t3_0 t4_0 t4_1 t4_2 t4_3 t5_0 t6_0 t7_0 t8_0 t8_1 t9_0 t10_0 t11_0 t12_0 t12_1 t12_2 t12_3 t12_4 t12_5 t12_6 t13_0 t14_0 t15_0 t16_0 t17_0 t18_0 t19_0 t20_0 t21_0 t22_0 t23_0 t24_0 t25_0 t26_0 t27_0 t28_0 t29_0 t30_0 lx111 lx112 lx113 lx114 lx115 lx116 lx117 lx118 lx119 lx120 lx121 lx122 lx123 lx124 lx125 lx126 lx127 lx128 lx129 lx130 lx219 lx220 lx221 lx222 lx223 lx224 lx225 lx226 lx227 lx228 lx229 lx230 lx231 lx232 lx233 lx234 lx235 lx236 p337 = (F_Pri_run t0_0 t1_0 t2_0 t3_0 t4_0 t4_1 t4_2 t4_3 t5_0 t6_0 t7_0 t8_0 t8_1 t9_0 t10_0 t11_0 t12_0 t12_1 t12_2 t12_3 t12_4 t12_5 t12_6 t13_0 t14_0 t15_0 t16_0 t17_0 t18_0 t19_0 t20_0 t21_0 t22_0 t23_0 t24_0 t25_0 t26_0 t27_0 t28_0 t29_0 t30_0) from Eq.trans (by have c322x := c322; rw [← e320, ← e317] at c322x; rw [e338, F_Pri_run_J128.eq_1, if_pos c297, if_pos c322x]) hR292)
            have hS342 := (show True ∧ S_Pri_run_c185 (S_Pri_run_L18 t0_0 t1_0 t2_0 t3_0 t4_0 t4_1 t4_2 t4_3 t5_0 t6_0 t7_0 t8_0 t8_1 t9_0 t10_0 t11_0 t12_0 t12_1 t12_2 t12_3 t12_4 t12_5 t12_6 t13_0 t14_0 t15_0 t16_0 t17_0 t18_0 t19_0 t20_0 t21_0 t22_0 t23_0 t24_0 t25_0 t26_0 t27_0 t28_0 t29_0 t30_0 fm183) t0_0 t1_0 t2_0 t3_0 t4_0 t4_1 t4_2 t4_3 t5_0 t6_0 t7_0 t8_0 t8_1 t9_0 t10_0 t11_0 t12_0 t12_1 t12_2 t12_3 t12_4 t12_5 t12_6 t13_0 t14_0 t15_0 t16_0 t17_0 t18_0 t19_0 t20_0 t21_0 t22_0 t23_0 t24_0 t25_0 t26_0 t27_0 t28_0 t29_0 t30_0 lx111 lx112 lx113 lx114 lx115 lx116 lx117 lx118 lx119 lx120 lx121 lx122 lx123 lx124 lx125 lx126 lx127 lx128 lx129 lx130 lx219 lx220 lx221 lx222 lx223 lx224 lx225 lx226 lx227 lx228 lx229 lx230 lx231 lx232 lx233 lx234 lx235 lx236 p337 from (by rw [e338]; have h := hS293; rw [S_Pri_run_J128.eq_1] at h; rw [if_pos c297] at h; have c322x := c322; rw [← e320, ← e317] at c322x; rw [if_pos c322x] at h; with_reducible exact h))
            refine lv_iload hx hb d_9_5_188 (lv_at hl 1 rfl) ?_
            refine lv_istore_n (lv' := [(2, .int lx220), (5, .int lx219), (4, .int lx220), (3, .int lx111), (0, .ref (q 40)), (1, .ref (q 3))]) hx hb d_9_5_190 rfl hl (by decide) rfl (fun ls hl => ?_)
            obtain ⟨a346, e347⟩ := q_nm (lx111 + 1 : Int32)
            have b348 : q_F (a346.toInt = lx111.toInt + 1) := (by rw [← e347]; exact q_addI (y := 1) rfl (by decide) (by have t1 : t12_6.toInt ≤ lx111.toInt + lx130.toInt := i144; have t2 : lx130.toInt ≤ lx111.toInt + t12_6.toInt := i145; have t3 : lx111.toInt ≤ 257 := i131; omega) (by have t1 : t12_6.toInt ≤ lx111.toInt + lx130.toInt := i144; have t2 : lx130.toInt ≤ lx111.toInt + t12_6.toInt := i145; have t3 : lx111.toInt ≤ 257 := i131; omega))
            refine lv_iinc (v := a346) (lv' := [(3, .int a346), (2, .int lx220), (5, .int lx219), (4, .int lx220), (0, .ref (q 40)), (1, .ref (q 3))]) hx hb d_9_5_191 hl (k := 3) rfl (e347) (by decide) rfl (fun ls hl => ?_)
            refine lv_goto (tgt := 18) hx hb d_9_5_194 (by decide) ?_
            exact ih146 ((a346 : Int32), (lx220 : Int32), (y328 : Int32), (f329 : (Nat → Int64)), (lx221 : Int32), (lx222 : Int32), (lx223 : Int32), (lx224 : Int32), (lx225 : Int32), (lx226 : Int32), (lx227 : (Nat → Int32)), (lx228 : Int32), (lx229 : (Nat → Int64)), (lx230 : Int32), (lx231 : Int32), (lx232 : Int32), (lx233 : Int32), (lx234 : Int32), (lx235 : Int32), (lx236 : Int32)) _ _ _ _ (show (257 - a346.toInt).toNat < (257 - lx111.toInt).toNat from by have t1 : a346.toInt = lx111.toInt + 1 := b348; have t2 : lx111.toInt ≤ 257 := i131; have t3 : lx111.toInt ≤ 256 := b186; omega) ⟨(show q_F (a346.toInt ≤ 257) from (show a346.toInt ≤ 257 from by have t1 : lx111.toInt ≤ 256 := b186; have t2 : a346.toInt = lx111.toInt + 1 := b348; omega)), (show q_F (y328.toInt ≤ 1000000) from (show y328.toInt ≤ 1000000 from by have t1 : lx222.toInt ≤ 2 := i272; have t2 : y328.toInt ≤ lx222.toInt + 480001 := b331; omega)), (show q_F (lx222.toInt ≤ 1000000) from (show lx222.toInt ≤ 1000000 from by have t1 : lx222.toInt ≤ 2 := i272; omega)), (show q_F (0 ≤ lx222.toInt + 1000000) from (show 0 ≤ lx222.toInt + 1000000 from by have t1 : 0 ≤ lx222.toInt + 1 := i271; omega)), (show q_F (lx228.toInt ≤ 1000000) from (show lx228.toInt ≤ 1000000 from by have t1 : y193.toInt ≤ 0 := b195; have t2 : lx228.toInt ≤ y193.toInt + 420005 := i290; omega)), (show q_F (0 ≤ lx228.toInt + 1000000) from (show 0 ≤ lx228.toInt + 1000000 from by have t1 : 0 ≤ y193.toInt := b194; have t2 : y193.toInt ≤ lx228.toInt := i289; omega)), (show q_F (0 ≤ lx232.toInt + 1) from (show 0 ≤ lx232.toInt + 1 from by have t1 : 0 ≤ lx232.toInt + 1 := i275; omega)), (show q_F (lx232.toInt ≤ 9999) from (show lx232.toInt ≤ 9999 from by have t1 : lx232.toInt ≤ 9999 := i276; omega)), (show q_F (0 ≤ lx233.toInt + 1) from (show 0 ≤ lx233.toInt + 1 from by have t1 : 0 ≤ lx233.toInt + 1 := i277; omega)), (show q_F (lx233.toInt ≤ 9999) from (show lx233.toInt ≤ 9999 from by have t1 : lx233.toInt ≤ 9999 := i278; omega)), (show q_F (0 ≤ lx236.toInt) from (show 0 ≤ lx236.toInt from by have t1 : 0 ≤ lx236.toInt := i281; omega)), (show q_F (lx236.toInt ≤ 1) from (show lx236.toInt ≤ 1 from by have t1 : lx236.toInt ≤ 1 := i282; omega)), (show q_F (y99.toInt ≤ y328.toInt) from (show y99.toInt ≤ y328.toInt from by have t1 : y99.toInt ≤ lx113.toInt := i143; have t2 : lx113.toInt ≤ y328.toInt := b333; omega)), (show q_F (t12_6.toInt ≤ a346.toInt + lx236.toInt) from (show t12_6.toInt ≤ a346.toInt + lx236.toInt from by have t1 : 0 ≤ t12_6.toInt ∧ t12_6.toInt ≤ 1 := btt12_6; have t2 : t12_6.toInt ≤ lx111.toInt + lx130.toInt := i144; have t3 : lx130.toInt ≤ lx111.toInt + t12_6.toInt := i145; have t4 : 0 ≤ lx236.toInt := i281; have t5 : a346.toInt = lx111.toInt + 1 := b348; omega)), (show q_F (lx236.toInt ≤ a346.toInt + t12_6.toInt) from (show lx236.toInt ≤ a346.toInt + t12_6.toInt from by have t1 : 0 ≤ t12_6.toInt ∧ t12_6.toInt ≤ 1 := btt12_6; have t2 : t12_6.toInt ≤ lx111.toInt + lx130.toInt := i144; have t3 : lx130.toInt ≤ lx111.toInt + t12_6.toInt := i145; have t4 : lx236.toInt ≤ 1 := i282; have t5 : a346.toInt = lx111.toInt + 1 := b348; omega)), V, q_lw hl (q_lw1 0 rfl (q_lw1 1 rfl (q_lw1 4 rfl (q_lw1 5 rfl q_lw0)))), hI, hF, hO237, hA238, hO327, hA330, hO241, hA242, hA243, hA244, hO245, hA246, hO247, hA248, hO249, hO250, hA251, hO252, hA253, hO254, hA255, hO256, hA257, hO258, hA259, hO260, hA261, hO262, hA263, hO264, hA265, hO266, hA267, ⟨fm183, Nat.lt_of_lt_of_le (show (257 - a346.toInt).toNat < (257 - lx111.toInt).toNat from by have t1 : a346.toInt = lx111.toInt + 1 := b348; have t2 : lx111.toInt ≤ 257 := i131; have t3 : lx111.toInt ≤ 256 := b186; omega) (Nat.le_of_lt_succ hf182), (show F_Pri_run_L18 t0_0 t1_0 t2_0 t3_0 t4_0 t4_1 t4_2 t4_3 t5_0 t6_0 t7_0 t8_0 t8_1 t9_0 t10_0 t11_0 t12_0 t12_1 t12_2 t12_3 t12_4 t12_5 t12_6 t13_0 t14_0 t15_0 t16_0 t17_0 t18_0 t19_0 t20_0 t21_0 t22_0 t23_0 t24_0 t25_0 t26_0 t27_0 t28_0 t29_0 t30_0 fm183 a346 lx220 y328 f329 lx221 lx222 lx223 lx224 lx225 lx226 lx227 lx228 lx229 lx230 lx231 lx232 lx233 lx234 lx235 lx236 = (F_Pri_run t0_0 t1_0 t2_0 t3_0 t4_0 t4_1 t4_2 t4_3 t5_0 t6_0 t7_0 t8_0 t8_1 t9_0 t10_0 t11_0 t12_0 t12_1 t12_2 t12_3 t12_4 t12_5 t12_6 t13_0 t14_0 t15_0 t16_0 t17_0 t18_0 t19_0 t20_0 t21_0 t22_0 t23_0 t24_0 t25_0 t26_0 t27_0 t28_0 t29_0 t30_0) from Eq.trans (by rw [← e347, e340, e339, F_Pri_run_c185.eq_1]) hR341), (show True ∧ S_Pri_run_L18 t0_0 t1_0 t2_0 t3_0 t4_0 t4_1 t4_2 t4_3 t5_0 t6_0 t7_0 t8_0 t8_1 t9_0 t10_0 t11_0 t12_0 t12_1 t12_2 t12_3 t12_4 t12_5 t12_6 t13_0 t14_0 t15_0 t16_0 t17_0 t18_0 t19_0 t20_0 t21_0 t22_0 t23_0 t24_0 t25_0 t26_0 t27_0 t28_0 t29_0 t30_0 fm183 a346 lx220 y328 f329 lx221 lx222 lx223 lx224 lx225 lx226 lx227 lx228 lx229 lx230 lx231 lx232 lx233 lx234 lx235 lx236 from (by rw [← e347, e340, e339]; have h := hS342; rw [S_Pri_run_c185.eq_1] at h; with_reducible exact h))⟩⟩
          ·
            refine lv_bipush (v := 12) hx hb d_9_5_161 (by decide) ?_
            refine lv_istore (lv' := [(5, .int 12), (4, .int lx220), (3, .int lx111), (2, .int lx112), (0, .ref (q 40)), (1, .ref (q 3))]) hx hb d_9_5_163 hl (by decide) rfl (fun ls hl => ?_)
            refine lv_iload hx hb d_9_5_165 (lv_at hl 0 rfl) ?_
            refine lv_if_eq (tgt := 183) hx hb d_9_5_167 (by decide) (fun c350 => absurd c350 (by decide)) (fun c350 => ?_)
            refine lv_aload_n hx hb d_9_5_170 rfl (lv_at hl 5 rfl) ?_
            refine q_gov V (q_runV (As := []) (rest := []) (d := 1) (mc := 0) (ms := 0) (ci := 1) C0 V rfl LV_Pri_70 (X_She_clear l D g q w291 3 11008 1376 1000000 (n_h3 g q)  hI lx113 hO239  _) rfl rfl hO239 rfl hl.1 rfl (Nat.le_of_ble_eq_true rfl) ⟨by decide, by decide⟩ ⟨Nat.le_of_ble_eq_true rfl, Nat.le_of_ble_eq_true rfl⟩ d_9_5_171) (fun u351 H locs hp352 V => ?_)
            obtain ⟨hI, hZ9⟩ := hp352
            obtain ⟨hu358, hZ9⟩ := hZ9
            obtain ⟨y354, hZ9⟩ := hZ9
            obtain ⟨hO353, hZ9⟩ := hZ9
            obtain ⟨b355, hZ9⟩ := hZ9
            obtain ⟨b356, hE357⟩ := hZ9
            replace hO353 : u351[3]? = (some (q 3, .inr (1, [.ref (q 4), .int 11008, .int y354])) : Option (Nat × va_E)) := hO353
            have e359 : y354 = (F_She_clear (11008 : Int32) (1376 : Int32) (1000000 : Int32) lx113) := hE357
            replace b355 : q_F (0 ≤ y354.toInt) := b355
            replace b356 : q_F (y354.toInt ≤ 0) := b356
            replace hA240 := (hu358 _ (by decide)).trans hA240
            replace hO241 := (hu358 _ (by decide)).trans hO241
            replace hO245 := (hu358 _ (by decide)).trans hO245
            replace hA246 := (hu358 _ (by decide)).trans hA246
            replace hO247 := (hu358 _ (by decide)).trans hO247
            replace hA248 := (hu358 _ (by decide)).trans hA248
            replace hO249 := (hu358 _ (by decide)).trans hO249
            replace hF := q_uc hF hu358 (by first | exact (q_sk (q_mi 0 rfl) q_s0) | simp)
            refine lv_sipush (v := (-1000)) hx hb d_9_5_174 (by decide) ?_
            refine lv_iload hx hb d_9_5_177 (lv_at hl 0 rfl) ?_
            refine lv_imul hx hb d_9_5_179 ?_
            refine q_ti (v := (-12000)) (by decide) ?_
            refine lv_iload_n hx hb d_9_5_180 rfl (lv_at hl 3 rfl) ?_
            refine lv_isub hx hb d_9_5_181 ?_
            obtain ⟨a360, e361⟩ := q_nm ((-12000) - lx112 : Int32)
            refine q_ti (v := a360) e361 ?_
            have b362 : q_F (a360.toInt = (-12000) - lx112.toInt) := (by rw [← e361]; show ((-12000) - lx112 : Int32).toInt = (-12000) - lx112.toInt; exact q_subI (x := (-12000)) (y := lx112.toInt) (by decide) rfl (by have t1 : 0 ≤ t0_0.toInt ∧ t0_0.toInt ≤ 4100 := btt0_0; have t2 : lx112.toInt < t0_0.toInt := b189; have t3 : a205.toInt = lx112.toInt + 1 := b207; have _ := q_lo32 (x := a205); have _ := q_hi32 (x := a205); omega) (by have t1 : 0 ≤ t0_0.toInt ∧ t0_0.toInt ≤ 4100 := btt0_0; have t2 : lx112.toInt < t0_0.toInt := b189; have t3 : a205.toInt = lx112.toInt + 1 := b207; have _ := q_lo32 (x := a205); have _ := q_hi32 (x := a205); omega))
            exact q_reti C0 V (⟨hI, hF, y354, lx114, lx221, lx222, lx223, lx224, lx225, lx226, lx227, lx228, lx229, lx230, lx231, lx232, lx233, lx234, lx235, lx236, hO353, hA240, hO241, hO245, hA246, hO247, hA248, hO249, (show a360.toInt ≤ 2147482648 from (by have t1 : a360.toInt = (-12000) - lx112.toInt := b362; have _ := q_lo32 (x := lx112); have _ := q_hi32 (x := lx112); omega)), (show 0 ≤ y354.toInt from (by first | with_reducible exact q_fe b355 | (have t1 : 0 ≤ y354.toInt := b355; omega))), (show y354.toInt ≤ 1000000 from (by first | with_reducible exact q_fe b356 | (have t1 : y354.toInt ≤ 0 := b356; omega))), (show 0 ≤ lx222.toInt + 1000000 from (by first | with_reducible exact q_fe i271 | (have t1 : 0 ≤ lx222.toInt + 1 := i271; omega))), (show lx222.toInt ≤ 1000000 from (by first | with_reducible exact q_fe i272 | (have t1 : lx222.toInt ≤ 2 := i272; omega))), (show 0 ≤ lx228.toInt + 1000000 from (by have t1 : 0 ≤ y193.toInt := b194; have t2 : y193.toInt ≤ lx228.toInt := i289; omega)), (show lx228.toInt ≤ 1000000 from (by have t1 : y193.toInt ≤ 0 := b195; have t2 : lx228.toInt ≤ y193.toInt + 420005 := i290; omega)), (show 0 ≤ lx232.toInt + 1 from (by first | with_reducible exact q_fe i275 | (have t1 : 0 ≤ lx232.toInt + 1 := i275; omega))), (show lx232.toInt ≤ 9999 from (by first | with_reducible exact q_fe i276 | (have t1 : lx232.toInt ≤ 9999 := i276; omega))), (show 0 ≤ lx233.toInt + 1 from (by first | with_reducible exact q_fe i277 | (have t1 : 0 ≤ lx233.toInt + 1 := i277; omega))), (show lx233.toInt ≤ 9999 from (by first | with_reducible exact q_fe i278 | (have t1 : lx233.toInt ≤ 9999 := i278; omega))), (show 0 ≤ lx236.toInt from (by first | with_reducible exact q_fe i281 | (have t1 : 0 ≤ lx236.toInt := i281; omega))), (show lx236.toInt ≤ 1 from (by first | with_reducible exact q_fe i282 | (have t1 : lx236.toInt ≤ 1 := i282; omega))), (show y354.toInt ≤ a360.toInt + 12255 from (by have t1 : t0_0.toInt ≤ 256 := pre0; have t2 : lx112.toInt < t0_0.toInt := b189; have t3 : y354.toInt ≤ 0 := b356; have t4 : a360.toInt = (-12000) - lx112.toInt := b362; omega)), (show lx222.toInt ≤ a360.toInt + 1000000 from (by have t1 : 0 ≤ t0_0.toInt ∧ t0_0.toInt ≤ 4100 := btt0_0; have t2 : lx112.toInt < t0_0.toInt := b189; have t3 : lx222.toInt ≤ 2 := i272; have t4 : a360.toInt = (-12000) - lx112.toInt := b362; omega)), (show lx228.toInt ≤ a360.toInt + 1000000 from (by have t1 : 0 ≤ t0_0.toInt ∧ t0_0.toInt ≤ 4100 := btt0_0; have t2 : lx112.toInt < t0_0.toInt := b189; have t3 : y193.toInt ≤ 0 := b195; have t4 : lx228.toInt ≤ y193.toInt + 420005 := i290; have t5 : a360.toInt = (-12000) - lx112.toInt := b362; omega)), (show (a360, y354, lx114, lx221, lx222, lx223, lx224, lx225, lx226, lx227, lx228, lx229, lx230, lx231, lx232, lx233, lx234, lx235, lx236) = (F_Pri_run t0_0 t1_0 t2_0 t3_0 t4_0 t4_1 t4_2 t4_3 t5_0 t6_0 t7_0 t8_0 t8_1 t9_0 t10_0 t11_0 t12_0 t12_1 t12_2 t12_3 t12_4 t12_5 t12_6 t13_0 t14_0 t15_0 t16_0 t17_0 t18_0 t19_0 t20_0 t21_0 t22_0 t23_0 t24_0 t25_0 t26_0 t27_0 t28_0 t29_0 t30_0) from Eq.trans (by have c322x := c322; rw [← e320, ← e317] at c322x; rw [← e361, e359, F_Pri_run_J128.eq_1, if_pos c297, if_neg c322x]) hR292)⟩) d_9_5_182
      ·
        intro J268
        refine lv_icmp_ne (tgt := 105) hx hb d_9_5_67 (by decide) (fun c363 => ?_) (fun c363 => ?_)
        ·
          refine lv_aload_n hx hb d_9_5_105 rfl (lv_at hl 4 rfl) ?_
          refine q_get (ci := 11) (j := 6) (v := .ref (q 47)) C0 V i_Pri rfl rfl hO152 (by decide) w_391 rfl d_9_5_106 ?_
          refine q_gov V (q_runV (As := []) (rest := []) (d := 1) (mc := 0) (ms := 0) (ci := 10) C0 V rfl LV_Pri_110 (X_Dir_setPlain l D g q w199   hI lx124 lx125 lx126 lx127 lx128 lx129 lx130 hO160 t0_0 hO148 t1_0 hO149  _) rfl rfl hO160 rfl hl.1 rfl (Nat.le_of_ble_eq_true rfl) ⟨by decide, by decide⟩ ⟨Nat.le_of_ble_eq_true rfl, Nat.le_of_ble_eq_true rfl⟩ d_9_5_109) (fun u365 H locs hp366 V => ?_)
          obtain ⟨hI, hZ9⟩ := hp366
          obtain ⟨hu390, hZ9⟩ := hZ9
          obtain ⟨y368, hZ9⟩ := hZ9
          obtain ⟨y369, hZ9⟩ := hZ9
          obtain ⟨y370, hZ9⟩ := hZ9
          obtain ⟨y371, hZ9⟩ := hZ9
          obtain ⟨y372, hZ9⟩ := hZ9
          obtain ⟨y373, hZ9⟩ := hZ9
          obtain ⟨y374, hZ9⟩ := hZ9
          obtain ⟨hO367, hZ9⟩ := hZ9
          obtain ⟨b375, hZ9⟩ := hZ9
          obtain ⟨b376, hZ9⟩ := hZ9
          replace hZ9 := hZ9.2.2
          obtain ⟨b379, hZ9⟩ := hZ9
          obtain ⟨b380, hZ9⟩ := hZ9
          replace hZ9 := hZ9.2.2
          obtain ⟨b383, hZ9⟩ := hZ9
          obtain ⟨b384, hZ9⟩ := hZ9
          replace hZ9 := hZ9.2.2
          obtain ⟨b387, hZ9⟩ := hZ9
          obtain ⟨b388, hE389⟩ := hZ9
          replace hO367 : u365[47]? = (some (q 47, .inr (10, [.int y368, .int y369, .int y370, .int y371, .int y372, .int y373, .ref (q 1), .int y374])) : Option (Nat × va_E)) := hO367
          obtain ⟨p391, e392⟩ : ∃ z, z = (F_Dir_setPlain lx124 lx125 lx126 lx127 lx128 lx129 lx130 t0_0 t1_0) := ⟨_, rfl⟩
          have e393 : y368 = p391.1 := congrArg (fun z => z.1) (hE389.trans e392.symm)
          have e394 : y369 = p391.2.1 := congrArg (fun z => z.2.1) (hE389.trans e392.symm)
          have e395 : y370 = p391.2.2.1 := congrArg (fun z => z.2.2.1) (hE389.trans e392.symm)
          have e396 : y371 = p391.2.2.2.1 := congrArg (fun z => z.2.2.2.1) (hE389.trans e392.symm)
          have e397 : y372 = p391.2.2.2.2.1 := congrArg (fun z => z.2.2.2.2.1) (hE389.trans e392.symm)
          have e398 : y373 = p391.2.2.2.2.2.1 := congrArg (fun z => z.2.2.2.2.2.1) (hE389.trans e392.symm)
          have e399 : y374 = p391.2.2.2.2.2.2 := congrArg (fun z => z.2.2.2.2.2.2) (hE389.trans e392.symm)
          replace b375 : q_F (0 ≤ y372.toInt + 1) := b375
          replace b376 : q_F (y372.toInt + 1 ≤ 0) := b376
          replace b379 : q_F (lx127.toInt ≤ y371.toInt) := b379
          replace b380 : q_F (y371.toInt ≤ lx127.toInt) := b380
          replace b383 : q_F (lx130.toInt ≤ y374.toInt) := b383
          replace b384 : q_F (y374.toInt ≤ lx130.toInt) := b384
          replace b387 : q_F (y372.toInt ≤ y370.toInt) := b387
          replace b388 : q_F (y370.toInt ≤ y372.toInt) := b388
          replace hO148 := (hu390 _ (by decide)).trans hO148
          replace hO149 := (hu390 _ (by decide)).trans hO149
          replace hO150 := (hu390 _ (by decide)).trans hO150
          replace hO151 := (hu390 _ (by decide)).trans hO151
          replace hO152 := (hu390 _ (by decide)).trans hO152
          replace hO153 := (hu390 _ (by decide)).trans hO153
          replace hO154 := (hu390 _ (by decide)).trans hO154
          replace hO155 := (hu390 _ (by decide)).trans hO155
          replace hO156 := (hu390 _ (by decide)).trans hO156
          replace hO157 := (hu390 _ (by decide)).trans hO157
          replace hO192 := (hu390 _ (by decide)).trans hO192
          replace hO159 := (hu390 _ (by decide)).trans hO159
          replace hO161 := (hu390 _ (by decide)).trans hO161
          replace hO162 := (hu390 _ (by decide)).trans hO162
          replace hO163 := (hu390 _ (by decide)).trans hO163
          replace hO164 := (hu390 _ (by decide)).trans hO164
          replace hO165 := (hu390 _ (by decide)).trans hO165
          replace hO166 := (hu390 _ (by decide)).trans hO166
          replace hO167 := (hu390 _ (by decide)).trans hO167
          replace hO168 := (hu390 _ (by decide)).trans hO168
          replace hO169 := (hu390 _ (by decide)).trans hO169
          replace hO170 := (hu390 _ (by decide)).trans hO170
          replace hO171 := (hu390 _ (by decide)).trans hO171
          replace hO172 := (hu390 _ (by decide)).trans hO172
          replace hO173 := (hu390 _ (by decide)).trans hO173
          replace hO174 := (hu390 _ (by decide)).trans hO174
          replace hO175 := (hu390 _ (by decide)).trans hO175
          replace hO176 := (hu390 _ (by decide)).trans hO176
          replace hO177 := (hu390 _ (by decide)).trans hO177
          replace hO178 := (hu390 _ (by decide)).trans hO178
          replace hF := q_uc hF hu390 (by first | exact (q_sk (q_mi 7 rfl) q_s0) | simp)
          have hR400 := (show F_Pri_run_c109 (F_Pri_run_L18 t0_0 t1_0 t2_0 t3_0 t4_0 t4_1 t4_2 t4_3 t5_0 t6_0 t7_0 t8_0 t8_1 t9_0 t10_0 t11_0 t12_0 t12_1 t12_2 t12_3 t12_4 t12_5 t12_6 t13_0 t14_0 t15_0 t16_0 t17_0 t18_0 t19_0 t20_0 t21_0 t22_0 t23_0 t24_0 t25_0 t26_0 t27_0 t28_0 t29_0 t30_0 fm183) t0_0 t1_0 t2_0 t3_0 t4_0 t4_1 t4_2 t4_3 t5_0 t6_0 t7_0 t8_0 t8_1 t9_0 t10_0 t11_0 t12_0 t12_1 t12_2 t12_3 t12_4 t12_5 t12_6 t13_0 t14_0 t15_0 t16_0 t17_0 t18_0 t19_0 t20_0 t21_0 t22_0 t23_0 t24_0 t25_0 t26_0 t27_0 t28_0 t29_0 t30_0 lx111 lx112 lx113 lx114 lx115 lx116 lx117 lx118 lx119 lx120 lx121 lx122 lx123 lx124 lx125 lx126 lx127 lx128 lx129 lx130 a205 y193 p391 = (F_Pri_run t0_0 t1_0 t2_0 t3_0 t4_0 t4_1 t4_2 t4_3 t5_0 t6_0 t7_0 t8_0 t8_1 t9_0 t10_0 t11_0 t12_0 t12_1 t12_2 t12_3 t12_4 t12_5 t12_6 t13_0 t14_0 t15_0 t16_0 t17_0 t18_0 t19_0 t20_0 t21_0 t22_0 t23_0 t24_0 t25_0 t26_0 t27_0 t28_0 t29_0 t30_0) from Eq.trans (by have c363x := c363; rw [e218, ← e209] at c363x; rw [e392, ← e206, e198, F_Pri_run_L18.eq_2, if_neg c184, if_neg c187, if_neg c363x]) hR179)
          have hS401 := (show True ∧ S_Pri_run_c109 (S_Pri_run_L18 t0_0 t1_0 t2_0 t3_0 t4_0 t4_1 t4_2 t4_3 t5_0 t6_0 t7_0 t8_0 t8_1 t9_0 t10_0 t11_0 t12_0 t12_1 t12_2 t12_3 t12_4 t12_5 t12_6 t13_0 t14_0 t15_0 t16_0 t17_0 t18_0 t19_0 t20_0 t21_0 t22_0 t23_0 t24_0 t25_0 t26_0 t27_0 t28_0 t29_0 t30_0 fm183) t0_0 t1_0 t2_0 t3_0 t4_0 t4_1 t4_2 t4_3 t5_0 t6_0 t7_0 t8_0 t8_1 t9_0 t10_0 t11_0 t12_0 t12_1 t12_2 t12_3 t12_4 t12_5 t12_6 t13_0 t14_0 t15_0 t16_0 t17_0 t18_0 t19_0 t20_0 t21_0 t22_0 t23_0 t24_0 t25_0 t26_0 t27_0 t28_0 t29_0 t30_0 lx111 lx112 lx113 lx114 lx115 lx116 lx117 lx118 lx119 lx120 lx121 lx122 lx123 lx124 lx125 lx126 lx127 lx128 lx129 lx130 a205 y193 p391 from (by rw [e392, ← e206, e198]; have h := hS180; rw [S_Pri_run_L18.eq_2] at h; rw [if_neg c184] at h; rw [if_neg c187] at h; replace h := q_s2 h; replace h := q_s2 h; replace h := q_s2 h; replace h := q_s2 h; have c363x := c363; rw [e218, ← e209] at c363x; rw [if_neg c363x] at h; with_reducible exact h))
          refine lv_aload_n hx hb d_9_5_112 rfl (lv_at hl 4 rfl) ?_
          refine q_get (ci := 11) (j := 8) (v := .ref (q 45)) C0 V i_Pri rfl rfl hO152 (by decide) w_393 rfl d_9_5_113 ?_
          refine lv_aload_n hx hb d_9_5_116 rfl (lv_at hl 4 rfl) ?_
          refine q_get (ci := 11) (j := 5) (v := .ref (q 1)) C0 V i_Pri rfl rfl hO152 (by decide) w_390 rfl d_9_5_117 ?_
          refine lv_iload_n hx hb d_9_5_120 rfl (lv_at hl 3 rfl) ?_
          refine lv_i2l hx hb d_9_5_121 rfl ?_
          obtain ⟨j405, e406⟩ := q_nm (lx112.toInt64 : Int64)
          refine q_tl (v := j405) e406 ?_
          refine q_goi V (q_runV (As := [.long j405]) (rest := [.ref (q 45)]) (d := 1) (mc := 0) (ms := 0) (ci := 1) C0 V rfl LV_Pri_93 (X_She_at_p l D g q u365 1 4100 513 4100 (n_h1 g q) j405 hI t0_0 hO148 t1_0 hO149  _) rfl rfl hO148 rfl hl.1 rfl (Nat.le_of_ble_eq_true rfl) ⟨by decide, by decide⟩ ⟨Nat.le_of_ble_eq_true rfl, Nat.le_of_ble_eq_true rfl⟩ d_9_5_122) (fun a410 u408 H locs hp409 V => ?_)
          obtain ⟨rfl, b411, b412, b413, hE414⟩ := hp409
          have e415 : a410 = (F_She_at_p (4100 : Int32) (513 : Int32) (4100 : Int32) j405 t0_0 t1_0) := hE414
          clear b411
          clear b412
          clear b413
          refine q_gov V (q_runV (As := [.int a410]) (rest := []) (d := 1) (mc := 0) (ms := 0) (ci := 1) C0 V rfl LV_Pri_113 (X_She_add_p l D g q u365 45 4104 513 1000000 (n_h45 g q) a410 hI y193 hO192 lx123 hO159 (by have y0 : (4104 : Int32).toInt = 4104 := rfl; have y1 : (513 : Int32).toInt = 513 := rfl; have y2 : (1000000 : Int32).toInt = 1000000 := rfl; have t1 : y193.toInt ≤ 0 := b195; omega) _) rfl rfl hO192 rfl hl.1 rfl (Nat.le_of_ble_eq_true rfl) ⟨by decide, by decide⟩ ⟨Nat.le_of_ble_eq_true rfl, Nat.le_of_ble_eq_true rfl⟩ d_9_5_125) (fun u416 H locs hp417 V => ?_)
          obtain ⟨hI, hZ9⟩ := hp417
          obtain ⟨hu425, hZ9⟩ := hZ9
          obtain ⟨y419, hZ9⟩ := hZ9
          obtain ⟨f420, hZ9⟩ := hZ9
          obtain ⟨hO418, hZ9⟩ := hZ9
          obtain ⟨hA421, hZ9⟩ := hZ9
          obtain ⟨b422, hZ9⟩ := hZ9
          obtain ⟨b423, hE424⟩ := hZ9
          replace hO418 : u416[45]? = (some (q 45, .inr (1, [.ref (q 46), .int 4104, .int y419])) : Option (Nat × va_E)) := hO418
          replace hA421 : u416[46]? = (some (q 46, .inl (g 1, (513 : Int32).toNatClampNeg, .inr (.inl f420))) : Option (Nat × va_E)) := hA421
          obtain ⟨p426, e427⟩ : ∃ z, z = (F_She_add_p (4104 : Int32) (513 : Int32) (1000000 : Int32) a410 y193 lx123) := ⟨_, rfl⟩
          have e428 : y419 = p426.1 := congrArg (fun z => z.1) (hE424.trans e427.symm)
          have e429 : f420 = p426.2 := congrArg (fun z => z.2) (hE424.trans e427.symm)
          replace b422 : q_F (y193.toInt + 1 ≤ y419.toInt) := b422
          replace b423 : q_F (y419.toInt ≤ y193.toInt + 1) := b423
          replace hO148 := (hu425 _ (by decide)).trans hO148
          replace hO149 := (hu425 _ (by decide)).trans hO149
          replace hO150 := (hu425 _ (by decide)).trans hO150
          replace hO151 := (hu425 _ (by decide)).trans hO151
          replace hO152 := (hu425 _ (by decide)).trans hO152
          replace hO153 := (hu425 _ (by decide)).trans hO153
          replace hO154 := (hu425 _ (by decide)).trans hO154
          replace hO155 := (hu425 _ (by decide)).trans hO155
          replace hO156 := (hu425 _ (by decide)).trans hO156
          replace hO157 := (hu425 _ (by decide)).trans hO157
          replace hO367 := (hu425 _ (by decide)).trans hO367
          replace hO161 := (hu425 _ (by decide)).trans hO161
          replace hO162 := (hu425 _ (by decide)).trans hO162
          replace hO163 := (hu425 _ (by decide)).trans hO163
          replace hO164 := (hu425 _ (by decide)).trans hO164
          replace hO165 := (hu425 _ (by decide)).trans hO165
          replace hO166 := (hu425 _ (by decide)).trans hO166
          replace hO167 := (hu425 _ (by decide)).trans hO167
          replace hO168 := (hu425 _ (by decide)).trans hO168
          replace hO169 := (hu425 _ (by decide)).trans hO169
          replace hO170 := (hu425 _ (by decide)).trans hO170
          replace hO171 := (hu425 _ (by decide)).trans hO171
          replace hO172 := (hu425 _ (by decide)).trans hO172
          replace hO173 := (hu425 _ (by decide)).trans hO173
          replace hO174 := (hu425 _ (by decide)).trans hO174
          replace hO175 := (hu425 _ (by decide)).trans hO175
          replace hO176 := (hu425 _ (by decide)).trans hO176
          replace hO177 := (hu425 _ (by decide)).trans hO177
          replace hO178 := (hu425 _ (by decide)).trans hO178
          replace hF := q_uc hF hu425 (by first | exact (q_sk (q_mi 5 rfl) (q_sk (q_mi 6 rfl) q_s0)) | simp)
          have hR430 := (show F_Pri_run_c125 (F_Pri_run_L18 t0_0 t1_0 t2_0 t3_0 t4_0 t4_1 t4_2 t4_3 t5_0 t6_0 t7_0 t8_0 t8_1 t9_0 t10_0 t11_0 t12_0 t12_1 t12_2 t12_3 t12_4 t12_5 t12_6 t13_0 t14_0 t15_0 t16_0 t17_0 t18_0 t19_0 t20_0 t21_0 t22_0 t23_0 t24_0 t25_0 t26_0 t27_0 t28_0 t29_0 t30_0 fm183) t0_0 t1_0 t2_0 t3_0 t4_0 t4_1 t4_2 t4_3 t5_0 t6_0 t7_0 t8_0 t8_1 t9_0 t10_0 t11_0 t12_0 t12_1 t12_2 t12_3 t12_4 t12_5 t12_6 t13_0 t14_0 t15_0 t16_0 t17_0 t18_0 t19_0 t20_0 t21_0 t22_0 t23_0 t24_0 t25_0 t26_0 t27_0 t28_0 t29_0 t30_0 lx111 lx112 lx113 lx114 lx115 lx116 lx117 lx118 lx119 lx120 lx121 lx122 lx123 lx124 lx125 lx126 lx127 lx128 lx129 lx130 a205 y193 p391 y368 y369 y370 y371 y372 y373 y374 p426 = (F_Pri_run t0_0 t1_0 t2_0 t3_0 t4_0 t4_1 t4_2 t4_3 t5_0 t6_0 t7_0 t8_0 t8_1 t9_0 t10_0 t11_0 t12_0 t12_1 t12_2 t12_3 t12_4 t12_5 t12_6 t13_0 t14_0 t15_0 t16_0 t17_0 t18_0 t19_0 t20_0 t21_0 t22_0 t23_0 t24_0 t25_0 t26_0 t27_0 t28_0 t29_0 t30_0) from Eq.trans (by rw [e427, e415, ← e406, e399, e398, e397, e396, e395, e394, e393, F_Pri_run_c109.eq_1]) hR400)
          have hS431 := (show True ∧ S_Pri_run_c125 (S_Pri_run_L18 t0_0 t1_0 t2_0 t3_0 t4_0 t4_1 t4_2 t4_3 t5_0 t6_0 t7_0 t8_0 t8_1 t9_0 t10_0 t11_0 t12_0 t12_1 t12_2 t12_3 t12_4 t12_5 t12_6 t13_0 t14_0 t15_0 t16_0 t17_0 t18_0 t19_0 t20_0 t21_0 t22_0 t23_0 t24_0 t25_0 t26_0 t27_0 t28_0 t29_0 t30_0 fm183) t0_0 t1_0 t2_0 t3_0 t4_0 t4_1 t4_2 t4_3 t5_0 t6_0 t7_0 t8_0 t8_1 t9_0 t10_0 t11_0 t12_0 t12_1 t12_2 t12_3 t12_4 t12_5 t12_6 t13_0 t14_0 t15_0 t16_0 t17_0 t18_0 t19_0 t20_0 t21_0 t22_0 t23_0 t24_0 t25_0 t26_0 t27_0 t28_0 t29_0 t30_0 lx111 lx112 lx113 lx114 lx115 lx116 lx117 lx118 lx119 lx120 lx121 lx122 lx123 lx124 lx125 lx126 lx127 lx128 lx129 lx130 a205 y193 p391 y368 y369 y370 y371 y372 y373 y374 p426 from (by rw [e427, e415, ← e406, e399, e398, e397, e396, e395, e394, e393]; have h := hS401; rw [S_Pri_run_c109.eq_1] at h; with_reducible exact h))
          exact J268 ((0 : Int32), (a205 : Int32), (lx115 : Int32), ((-1) : Int32), (lx117 : Int32), (lx118 : Int32), (lx119 : Int32), (lx120 : Int32), (lx121 : (Nat → Int32)), (y419 : Int32), (f420 : (Nat → Int64)), (y368 : Int32), (y369 : Int32), (y370 : Int32), (y371 : Int32), (y372 : Int32), (y373 : Int32), (y374 : Int32)) _ _ _ _ ⟨(show q_F (0 ≤ 0) from (show 0 ≤ 0 from by omega)), (show q_F (0 ≤ 10) from (show 0 ≤ 10 from by omega)), (show q_F (0 ≤ (-1) + 1) from (show 0 ≤ (-1) + 1 from by omega)), (show q_F ((-1) ≤ 2) from (show (-1) ≤ 2 from by omega)), (show q_F (0 ≤ lx118.toInt + 1) from (show 0 ≤ lx118.toInt + 1 from by have t1 : 0 ≤ lx118.toInt + 1 := ob203; omega)), (show q_F (lx118.toInt ≤ 8) from (show lx118.toInt ≤ 8 from by have t1 : lx118.toInt ≤ 8 := ob204; omega)), (show q_F (0 ≤ y370.toInt + 1) from (show 0 ≤ y370.toInt + 1 from by have t1 : 0 ≤ y372.toInt + 1 := b375; have t2 : y372.toInt ≤ y370.toInt := b387; omega)), (show q_F (y370.toInt ≤ 9999) from (show y370.toInt ≤ 9999 from by have t1 : y372.toInt + 1 ≤ 0 := b376; have t2 : y370.toInt ≤ y372.toInt := b388; omega)), (show q_F (0 ≤ y371.toInt + 1) from (show 0 ≤ y371.toInt + 1 from by have t1 : 0 ≤ lx127.toInt + 1 := i139; have t2 : lx127.toInt ≤ y371.toInt := b379; omega)), (show q_F (y371.toInt ≤ 9999) from (show y371.toInt ≤ 9999 from by have t1 : lx127.toInt ≤ 9999 := i140; have t2 : y371.toInt ≤ lx127.toInt := b380; omega)), (show q_F (0 ≤ y372.toInt + 1) from (show 0 ≤ y372.toInt + 1 from by have t1 : 0 ≤ y372.toInt + 1 := b375; omega)), (show q_F (y372.toInt ≤ 255) from (show y372.toInt ≤ 255 from by have t1 : y372.toInt + 1 ≤ 0 := b376; omega)), (show q_F (0 ≤ y374.toInt) from (show 0 ≤ y374.toInt from by have t1 : 0 ≤ lx130.toInt := i141; have t2 : lx130.toInt ≤ y374.toInt := b383; omega)), (show q_F (y374.toInt ≤ 1) from (show y374.toInt ≤ 1 from by have t1 : lx130.toInt ≤ 1 := i142; have t2 : y374.toInt ≤ lx130.toInt := b384; omega)), (show q_F (lx115.toInt ≤ lx115.toInt) from (show lx115.toInt ≤ lx115.toInt from by omega)), (show q_F (lx115.toInt ≤ lx115.toInt) from (show lx115.toInt ≤ lx115.toInt from by omega)), (show q_F (lx118.toInt ≤ lx118.toInt + 8) from (show lx118.toInt ≤ lx118.toInt + 8 from by omega)), (show q_F (lx119.toInt ≤ lx119.toInt + 21) from (show lx119.toInt ≤ lx119.toInt + 21 from by omega)), (show q_F (lx120.toInt ≤ lx120.toInt + 1020000) from (show lx120.toInt ≤ lx120.toInt + 1020000 from by omega)), (show q_F (lx120.toInt ≤ lx120.toInt + 1100001) from (show lx120.toInt ≤ lx120.toInt + 1100001 from by omega)), (show q_F (y193.toInt ≤ y419.toInt) from (show y193.toInt ≤ y419.toInt from by have t1 : y193.toInt + 1 ≤ y419.toInt := b422; omega)), (show q_F (y419.toInt ≤ y193.toInt + 420005) from (show y419.toInt ≤ y193.toInt + 420005 from by have t1 : y419.toInt ≤ y193.toInt + 1 := b423; omega)), V, q_lw hl (q_lw1 0 rfl (q_lw1 1 rfl (q_lw1 2 rfl (q_lw1 3 rfl (q_lw1 4 rfl (q_lw1 5 rfl q_lw0)))))), hI, hF, hO148, hO149, hO150, hO151, hO152, hO153, hO154, hO155, hO156, hO157, hO418, hA421, hO367, hO161, hO162, hO163, hO164, hO165, hO166, hO167, hO168, hO169, hO170, hO171, hO172, hO173, hO174, hO175, hO176, hO177, hO178, (show F_Pri_run_J128 (F_Pri_run_L18 t0_0 t1_0 t2_0 t3_0 t4_0 t4_1 t4_2 t4_3 t5_0 t6_0 t7_0 t8_0 t8_1 t9_0 t10_0 t11_0 t12_0 t12_1 t12_2 t12_3 t12_4 t12_5 t12_6 t13_0 t14_0 t15_0 t16_0 t17_0 t18_0 t19_0 t20_0 t21_0 t22_0 t23_0 t24_0 t25_0 t26_0 t27_0 t28_0 t29_0 t30_0 fm183) t0_0 t1_0 t2_0 t3_0 t4_0 t4_1 t4_2 t4_3 t5_0 t6_0 t7_0 t8_0 t8_1 t9_0 t10_0 t11_0 t12_0 t12_1 t12_2 t12_3 t12_4 t12_5 t12_6 t13_0 t14_0 t15_0 t16_0 t17_0 t18_0 t19_0 t20_0 t21_0 t22_0 t23_0 t24_0 t25_0 t26_0 t27_0 t28_0 t29_0 t30_0 lx111 lx112 lx113 lx114 lx115 lx116 lx117 lx118 lx119 lx120 lx121 lx122 lx123 lx124 lx125 lx126 lx127 lx128 lx129 lx130 0 a205 lx115 (-1) lx117 lx118 lx119 lx120 lx121 y419 f420 y368 y369 y370 y371 y372 y373 y374 = (F_Pri_run t0_0 t1_0 t2_0 t3_0 t4_0 t4_1 t4_2 t4_3 t5_0 t6_0 t7_0 t8_0 t8_1 t9_0 t10_0 t11_0 t12_0 t12_1 t12_2 t12_3 t12_4 t12_5 t12_6 t13_0 t14_0 t15_0 t16_0 t17_0 t18_0 t19_0 t20_0 t21_0 t22_0 t23_0 t24_0 t25_0 t26_0 t27_0 t28_0 t29_0 t30_0) from Eq.trans (by rw [e429, e428, F_Pri_run_c125.eq_1]) hR430), (show True ∧ S_Pri_run_J128 (S_Pri_run_L18 t0_0 t1_0 t2_0 t3_0 t4_0 t4_1 t4_2 t4_3 t5_0 t6_0 t7_0 t8_0 t8_1 t9_0 t10_0 t11_0 t12_0 t12_1 t12_2 t12_3 t12_4 t12_5 t12_6 t13_0 t14_0 t15_0 t16_0 t17_0 t18_0 t19_0 t20_0 t21_0 t22_0 t23_0 t24_0 t25_0 t26_0 t27_0 t28_0 t29_0 t30_0 fm183) t0_0 t1_0 t2_0 t3_0 t4_0 t4_1 t4_2 t4_3 t5_0 t6_0 t7_0 t8_0 t8_1 t9_0 t10_0 t11_0 t12_0 t12_1 t12_2 t12_3 t12_4 t12_5 t12_6 t13_0 t14_0 t15_0 t16_0 t17_0 t18_0 t19_0 t20_0 t21_0 t22_0 t23_0 t24_0 t25_0 t26_0 t27_0 t28_0 t29_0 t30_0 lx111 lx112 lx113 lx114 lx115 lx116 lx117 lx118 lx119 lx120 lx121 lx122 lx123 lx124 lx125 lx126 lx127 lx128 lx129 lx130 0 a205 lx115 (-1) lx117 lx118 lx119 lx120 lx121 y419 f420 y368 y369 y370 y371 y372 y373 y374 from (by rw [e429, e428]; have h := hS431; rw [S_Pri_run_c125.eq_1] at h; with_reducible exact h))⟩
        ·
          refine lv_aload_n hx hb d_9_5_70 rfl (lv_at hl 4 rfl) ?_
          refine q_get (ci := 11) (j := 6) (v := .ref (q 47)) C0 V i_Pri rfl rfl hO152 (by decide) w_391 rfl d_9_5_71 ?_
          refine lv_iload_n hx hb d_9_5_74 rfl (lv_at hl 3 rfl) ?_
          refine q_gov V (q_runV (As := [.int lx112]) (rest := []) (d := 6) (mc := 0) (ms := 0) (ci := 10) C0 V rfl LV_Pri_97 (X_Dir_parse l D g q w199  lx112 hI lx124 lx125 lx126 lx127 lx128 lx129 lx130 hO160 t0_0 hO148 t1_0 hO149  _) rfl rfl hO160 rfl hl.1 rfl (Nat.le_of_ble_eq_true rfl) ⟨by decide, by decide⟩ ⟨Nat.le_of_ble_eq_true rfl, Nat.le_of_ble_eq_true rfl⟩ d_9_5_75) (fun u436 H locs hp437 V => ?_)
          obtain ⟨hI, hZ9⟩ := hp437
          obtain ⟨hu458, hZ9⟩ := hZ9
          obtain ⟨y439, hZ9⟩ := hZ9
          obtain ⟨y440, hZ9⟩ := hZ9
          obtain ⟨y441, hZ9⟩ := hZ9
          obtain ⟨y442, hZ9⟩ := hZ9
          obtain ⟨y443, hZ9⟩ := hZ9
          obtain ⟨y444, hZ9⟩ := hZ9
          obtain ⟨y445, hZ9⟩ := hZ9
          obtain ⟨hO438, hZ9⟩ := hZ9
          replace hZ9 := hZ9.2.2
          obtain ⟨b448, hZ9⟩ := hZ9
          obtain ⟨b449, hZ9⟩ := hZ9
          obtain ⟨b450, hZ9⟩ := hZ9
          obtain ⟨b451, hZ9⟩ := hZ9
          obtain ⟨b452, hZ9⟩ := hZ9
          obtain ⟨b453, hZ9⟩ := hZ9
          obtain ⟨b454, hZ9⟩ := hZ9
          obtain ⟨b455, hZ9⟩ := hZ9
          obtain ⟨-, hE457⟩ := hZ9
          replace hO438 : u436[47]? = (some (q 47, .inr (10, [.int y439, .int y440, .int y441, .int y442, .int y443, .int y444, .ref (q 1), .int y445])) : Option (Nat × va_E)) := hO438
          obtain ⟨p459, e460⟩ : ∃ z, z = (F_Dir_parse lx112 lx124 lx125 lx126 lx127 lx128 lx129 lx130 t0_0 t1_0) := ⟨_, rfl⟩
          have e461 : y439 = p459.1 := congrArg (fun z => z.1) (hE457.trans e460.symm)
          have e462 : y440 = p459.2.1 := congrArg (fun z => z.2.1) (hE457.trans e460.symm)
          have e463 : y441 = p459.2.2.1 := congrArg (fun z => z.2.2.1) (hE457.trans e460.symm)
          have e464 : y442 = p459.2.2.2.1 := congrArg (fun z => z.2.2.2.1) (hE457.trans e460.symm)
          have e465 : y443 = p459.2.2.2.2.1 := congrArg (fun z => z.2.2.2.2.1) (hE457.trans e460.symm)
          have e466 : y444 = p459.2.2.2.2.2.1 := congrArg (fun z => z.2.2.2.2.2.1) (hE457.trans e460.symm)
          have e467 : y445 = p459.2.2.2.2.2.2 := congrArg (fun z => z.2.2.2.2.2.2) (hE457.trans e460.symm)
          replace b448 : q_F (0 ≤ y441.toInt + 1) := b448
          replace b449 : q_F (y441.toInt ≤ 9999) := b449
          replace b450 : q_F (0 ≤ y442.toInt + 1) := b450
          replace b451 : q_F (y442.toInt ≤ 9999) := b451
          replace b452 : q_F (0 ≤ y443.toInt + 1) := b452
          replace b453 : q_F (y443.toInt ≤ 255) := b453
          replace b454 : q_F (0 ≤ y445.toInt) := b454
          replace b455 : q_F (y445.toInt ≤ 1) := b455
          replace hO148 := (hu458 _ (by decide)).trans hO148
          replace hO149 := (hu458 _ (by decide)).trans hO149
          replace hO150 := (hu458 _ (by decide)).trans hO150
          replace hO151 := (hu458 _ (by decide)).trans hO151
          replace hO152 := (hu458 _ (by decide)).trans hO152
          replace hO153 := (hu458 _ (by decide)).trans hO153
          replace hO154 := (hu458 _ (by decide)).trans hO154
          replace hO155 := (hu458 _ (by decide)).trans hO155
          replace hO156 := (hu458 _ (by decide)).trans hO156
          replace hO157 := (hu458 _ (by decide)).trans hO157
          replace hO192 := (hu458 _ (by decide)).trans hO192
          replace hO159 := (hu458 _ (by decide)).trans hO159
          replace hO161 := (hu458 _ (by decide)).trans hO161
          replace hO162 := (hu458 _ (by decide)).trans hO162
          replace hO163 := (hu458 _ (by decide)).trans hO163
          replace hO164 := (hu458 _ (by decide)).trans hO164
          replace hO165 := (hu458 _ (by decide)).trans hO165
          replace hO166 := (hu458 _ (by decide)).trans hO166
          replace hO167 := (hu458 _ (by decide)).trans hO167
          replace hO168 := (hu458 _ (by decide)).trans hO168
          replace hO169 := (hu458 _ (by decide)).trans hO169
          replace hO170 := (hu458 _ (by decide)).trans hO170
          replace hO171 := (hu458 _ (by decide)).trans hO171
          replace hO172 := (hu458 _ (by decide)).trans hO172
          replace hO173 := (hu458 _ (by decide)).trans hO173
          replace hO174 := (hu458 _ (by decide)).trans hO174
          replace hO175 := (hu458 _ (by decide)).trans hO175
          replace hO176 := (hu458 _ (by decide)).trans hO176
          replace hO177 := (hu458 _ (by decide)).trans hO177
          replace hO178 := (hu458 _ (by decide)).trans hO178
          replace hF := q_uc hF hu458 (by first | exact (q_sk (q_mi 7 rfl) q_s0) | simp)
          have hR468 := (show F_Pri_run_c75 (F_Pri_run_L18 t0_0 t1_0 t2_0 t3_0 t4_0 t4_1 t4_2 t4_3 t5_0 t6_0 t7_0 t8_0 t8_1 t9_0 t10_0 t11_0 t12_0 t12_1 t12_2 t12_3 t12_4 t12_5 t12_6 t13_0 t14_0 t15_0 t16_0 t17_0 t18_0 t19_0 t20_0 t21_0 t22_0 t23_0 t24_0 t25_0 t26_0 t27_0 t28_0 t29_0 t30_0 fm183) t0_0 t1_0 t2_0 t3_0 t4_0 t4_1 t4_2 t4_3 t5_0 t6_0 t7_0 t8_0 t8_1 t9_0 t10_0 t11_0 t12_0 t12_1 t12_2 t12_3 t12_4 t12_5 t12_6 t13_0 t14_0 t15_0 t16_0 t17_0 t18_0 t19_0 t20_0 t21_0 t22_0 t23_0 t24_0 t25_0 t26_0 t27_0 t28_0 t29_0 t30_0 lx111 lx112 lx113 lx114 lx115 lx116 lx117 lx118 lx119 lx120 lx121 lx122 lx123 lx124 lx125 lx126 lx127 lx128 lx129 lx130 a205 y193 p459 = (F_Pri_run t0_0 t1_0 t2_0 t3_0 t4_0 t4_1 t4_2 t4_3 t5_0 t6_0 t7_0 t8_0 t8_1 t9_0 t10_0 t11_0 t12_0 t12_1 t12_2 t12_3 t12_4 t12_5 t12_6 t13_0 t14_0 t15_0 t16_0 t17_0 t18_0 t19_0 t20_0 t21_0 t22_0 t23_0 t24_0 t25_0 t26_0 t27_0 t28_0 t29_0 t30_0) from Eq.trans (by have c363x := c363; rw [e218, ← e209] at c363x; rw [e460, ← e206, e198, F_Pri_run_L18.eq_2, if_neg c184, if_neg c187, if_pos c363x]) hR179)
          have hS469 := (show True ∧ S_Pri_run_c75 (S_Pri_run_L18 t0_0 t1_0 t2_0 t3_0 t4_0 t4_1 t4_2 t4_3 t5_0 t6_0 t7_0 t8_0 t8_1 t9_0 t10_0 t11_0 t12_0 t12_1 t12_2 t12_3 t12_4 t12_5 t12_6 t13_0 t14_0 t15_0 t16_0 t17_0 t18_0 t19_0 t20_0 t21_0 t22_0 t23_0 t24_0 t25_0 t26_0 t27_0 t28_0 t29_0 t30_0 fm183) t0_0 t1_0 t2_0 t3_0 t4_0 t4_1 t4_2 t4_3 t5_0 t6_0 t7_0 t8_0 t8_1 t9_0 t10_0 t11_0 t12_0 t12_1 t12_2 t12_3 t12_4 t12_5 t12_6 t13_0 t14_0 t15_0 t16_0 t17_0 t18_0 t19_0 t20_0 t21_0 t22_0 t23_0 t24_0 t25_0 t26_0 t27_0 t28_0 t29_0 t30_0 lx111 lx112 lx113 lx114 lx115 lx116 lx117 lx118 lx119 lx120 lx121 lx122 lx123 lx124 lx125 lx126 lx127 lx128 lx129 lx130 a205 y193 p459 from (by rw [e460, ← e206, e198]; have h := hS180; rw [S_Pri_run_L18.eq_2] at h; rw [if_neg c184] at h; rw [if_neg c187] at h; replace h := q_s2 h; replace h := q_s2 h; replace h := q_s2 h; replace h := q_s2 h; have c363x := c363; rw [e218, ← e209] at c363x; rw [if_pos c363x] at h; with_reducible exact h))
          refine lv_aload_n hx hb d_9_5_78 rfl (lv_at hl 4 rfl) ?_
          refine q_get (ci := 11) (j := 6) (v := .ref (q 47)) C0 V i_Pri rfl rfl hO152 (by decide) w_391 rfl d_9_5_79 ?_
          refine q_get (ci := 10) (j := 5) (v := .int y444) C0 V i_Dir rfl rfl hO438 (by decide) w_364 rfl d_9_5_82 ?_
          refine lv_istore (lv' := [(4, .int y444), (5, .int 0), (3, .int lx111), (2, .int lx112), (0, .ref (q 40)), (1, .ref (q 3))]) hx hb d_9_5_85 hl (by decide) rfl (fun ls hl => ?_)
          refine lv_aload_n hx hb d_9_5_87 rfl (lv_at hl 4 rfl) ?_
          refine q_goi V (q_runV (As := []) (rest := []) (d := 8) (mc := 0) (ms := 0) (ci := 11) C0 V rfl LV_Pri_103 (X_Pri_findFault l D g q u436   hI lx115 (-1) lx117 lx118 hO152 t5_0 hO153 t6_0 hO154 t7_0 hO155 y439 y440 y441 y442 y443 y444 y445 hO438  _) rfl rfl hO152 rfl hl.1 rfl (Nat.le_of_ble_eq_true rfl) ⟨by decide, by decide⟩ ⟨Nat.le_of_ble_eq_true rfl, Nat.le_of_ble_eq_true rfl⟩ d_9_5_88) (fun a475 u473 H locs hp474 V => ?_)
          obtain ⟨hI, hZ9⟩ := hp474
          obtain ⟨hu493, hZ9⟩ := hZ9
          obtain ⟨y477, hZ9⟩ := hZ9
          obtain ⟨y478, hZ9⟩ := hZ9
          obtain ⟨y479, hZ9⟩ := hZ9
          obtain ⟨y480, hZ9⟩ := hZ9
          obtain ⟨hO476, hZ9⟩ := hZ9
          obtain ⟨b481, hZ9⟩ := hZ9
          obtain ⟨b482, hZ9⟩ := hZ9
          obtain ⟨b483, hZ9⟩ := hZ9
          obtain ⟨b484, hZ9⟩ := hZ9
          obtain ⟨b485, hZ9⟩ := hZ9
          obtain ⟨b486, hZ9⟩ := hZ9
          obtain ⟨b487, hZ9⟩ := hZ9
          obtain ⟨b488, hZ9⟩ := hZ9
          obtain ⟨b489, hZ9⟩ := hZ9
          replace hZ9 := hZ9.2
          obtain ⟨-, hE492⟩ := hZ9
          replace hO476 : u473[40]? = (some (q 40, .inr (11, [.int y477, .ref (q 41), .ref (q 42), .ref (q 43), .ref (q 44), .ref (q 1), .ref (q 47), .ref (q 36), .ref (q 45), .int y478, .int y479, .int y480])) : Option (Nat × va_E)) := hO476
          obtain ⟨p494, e495⟩ : ∃ z, z = (F_Pri_findFault lx115 (-1 : Int32) lx117 lx118 t5_0 t6_0 t7_0 y439 y440 y441 y442 y443 y444 y445) := ⟨_, rfl⟩
          have e496 : a475 = p494.1 := congrArg (fun z => z.1) (hE492.trans e495.symm)
          have e497 : y477 = p494.2.1 := congrArg (fun z => z.2.1) (hE492.trans e495.symm)
          have e498 : y478 = p494.2.2.1 := congrArg (fun z => z.2.2.1) (hE492.trans e495.symm)
          have e499 : y479 = p494.2.2.2.1 := congrArg (fun z => z.2.2.2.1) (hE492.trans e495.symm)
          have e500 : y480 = p494.2.2.2.2 := congrArg (fun z => z.2.2.2.2) (hE492.trans e495.symm)
          replace b481 : q_F (a475.toInt ≤ 10) := b481
          replace b482 : q_F (0 ≤ y480.toInt + 1) := b482
          replace b483 : q_F (y480.toInt ≤ 8) := b483
          replace b484 : q_F (y445.toInt ≤ a475.toInt) := b484
          replace b485 : q_F (lx115.toInt ≤ y477.toInt) := b485
          replace b486 : q_F (y477.toInt ≤ lx115.toInt) := b486
          replace b487 : q_F ((-1) ≤ y478.toInt) := b487
          replace b488 : q_F (y478.toInt ≤ (-1)) := b488
          replace b489 : q_F (lx118.toInt ≤ y480.toInt + 8) := b489
          replace hO148 := (hu493 _ (by decide)).trans hO148
          replace hO149 := (hu493 _ (by decide)).trans hO149
          replace hO150 := (hu493 _ (by decide)).trans hO150
          replace hO151 := (hu493 _ (by decide)).trans hO151
          replace hO153 := (hu493 _ (by decide)).trans hO153
          replace hO154 := (hu493 _ (by decide)).trans hO154
          replace hO155 := (hu493 _ (by decide)).trans hO155
          replace hO156 := (hu493 _ (by decide)).trans hO156
          replace hO157 := (hu493 _ (by decide)).trans hO157
          replace hO192 := (hu493 _ (by decide)).trans hO192
          replace hO159 := (hu493 _ (by decide)).trans hO159
          replace hO438 := (hu493 _ (by decide)).trans hO438
          replace hO161 := (hu493 _ (by decide)).trans hO161
          replace hO162 := (hu493 _ (by decide)).trans hO162
          replace hO163 := (hu493 _ (by decide)).trans hO163
          replace hO164 := (hu493 _ (by decide)).trans hO164
          replace hO165 := (hu493 _ (by decide)).trans hO165
          replace hO166 := (hu493 _ (by decide)).trans hO166
          replace hO167 := (hu493 _ (by decide)).trans hO167
          replace hO168 := (hu493 _ (by decide)).trans hO168
          replace hO169 := (hu493 _ (by decide)).trans hO169
          replace hO170 := (hu493 _ (by decide)).trans hO170
          replace hO171 := (hu493 _ (by decide)).trans hO171
          replace hO172 := (hu493 _ (by decide)).trans hO172
          replace hO173 := (hu493 _ (by decide)).trans hO173
          replace hO174 := (hu493 _ (by decide)).trans hO174
          replace hO175 := (hu493 _ (by decide)).trans hO175
          replace hO176 := (hu493 _ (by decide)).trans hO176
          replace hO177 := (hu493 _ (by decide)).trans hO177
          replace hO178 := (hu493 _ (by decide)).trans hO178
          replace hF := q_uc hF hu493 (by first | exact (q_sk (q_mi 4 rfl) q_s0) | simp)
          have hR501 := (show F_Pri_run_c88 (F_Pri_run_L18 t0_0 t1_0 t2_0 t3_0 t4_0 t4_1 t4_2 t4_3 t5_0 t6_0 t7_0 t8_0 t8_1 t9_0 t10_0 t11_0 t12_0 t12_1 t12_2 t12_3 t12_4 t12_5 t12_6 t13_0 t14_0 t15_0 t16_0 t17_0 t18_0 t19_0 t20_0 t21_0 t22_0 t23_0 t24_0 t25_0 t26_0 t27_0 t28_0 t29_0 t30_0 fm183) t0_0 t1_0 t2_0 t3_0 t4_0 t4_1 t4_2 t4_3 t5_0 t6_0 t7_0 t8_0 t8_1 t9_0 t10_0 t11_0 t12_0 t12_1 t12_2 t12_3 t12_4 t12_5 t12_6 t13_0 t14_0 t15_0 t16_0 t17_0 t18_0 t19_0 t20_0 t21_0 t22_0 t23_0 t24_0 t25_0 t26_0 t27_0 t28_0 t29_0 t30_0 lx111 lx112 lx113 lx114 lx115 lx116 lx117 lx118 lx119 lx120 lx121 lx122 lx123 lx124 lx125 lx126 lx127 lx128 lx129 lx130 a205 y193 p459 y444 y439 y440 y441 y442 y443 y445 p494 = (F_Pri_run t0_0 t1_0 t2_0 t3_0 t4_0 t4_1 t4_2 t4_3 t5_0 t6_0 t7_0 t8_0 t8_1 t9_0 t10_0 t11_0 t12_0 t12_1 t12_2 t12_3 t12_4 t12_5 t12_6 t13_0 t14_0 t15_0 t16_0 t17_0 t18_0 t19_0 t20_0 t21_0 t22_0 t23_0 t24_0 t25_0 t26_0 t27_0 t28_0 t29_0 t30_0) from Eq.trans (by rw [e495, e467, e466, e465, e464, e463, e462, e461, F_Pri_run_c75.eq_1]) hR468)
          have hS502 := (show True ∧ S_Pri_run_c88 (S_Pri_run_L18 t0_0 t1_0 t2_0 t3_0 t4_0 t4_1 t4_2 t4_3 t5_0 t6_0 t7_0 t8_0 t8_1 t9_0 t10_0 t11_0 t12_0 t12_1 t12_2 t12_3 t12_4 t12_5 t12_6 t13_0 t14_0 t15_0 t16_0 t17_0 t18_0 t19_0 t20_0 t21_0 t22_0 t23_0 t24_0 t25_0 t26_0 t27_0 t28_0 t29_0 t30_0 fm183) t0_0 t1_0 t2_0 t3_0 t4_0 t4_1 t4_2 t4_3 t5_0 t6_0 t7_0 t8_0 t8_1 t9_0 t10_0 t11_0 t12_0 t12_1 t12_2 t12_3 t12_4 t12_5 t12_6 t13_0 t14_0 t15_0 t16_0 t17_0 t18_0 t19_0 t20_0 t21_0 t22_0 t23_0 t24_0 t25_0 t26_0 t27_0 t28_0 t29_0 t30_0 lx111 lx112 lx113 lx114 lx115 lx116 lx117 lx118 lx119 lx120 lx121 lx122 lx123 lx124 lx125 lx126 lx127 lx128 lx129 lx130 a205 y193 p459 y444 y439 y440 y441 y442 y443 y445 p494 from (by rw [e495, e467, e466, e465, e464, e463, e462, e461]; have h := hS469; rw [S_Pri_run_c75.eq_1] at h; with_reducible exact h))
          refine lv_istore (lv' := [(5, .int a475), (4, .int y444), (3, .int lx111), (2, .int lx112), (0, .ref (q 40)), (1, .ref (q 3))]) hx hb d_9_5_91 hl (by decide) rfl (fun ls hl => ?_)
          refine lv_iload hx hb d_9_5_93 (lv_at hl 0 rfl) ?_
          refine lv_if_ne (tgt := 128) hx hb d_9_5_95 (by decide) (fun c506 => ?_) (fun c506 => ?_)
          ·
            exact J268 ((a475 : Int32), (y444 : Int32), (y477 : Int32), (y478 : Int32), (y479 : Int32), (y480 : Int32), (lx119 : Int32), (lx120 : Int32), (lx121 : (Nat → Int32)), (y193 : Int32), (lx123 : (Nat → Int64)), (y439 : Int32), (y440 : Int32), (y441 : Int32), (y442 : Int32), (y443 : Int32), (y444 : Int32), (y445 : Int32)) _ _ _ _ ⟨(show q_F (0 ≤ a475.toInt) from (show 0 ≤ a475.toInt from by have t1 : 0 ≤ y445.toInt := b454; have t2 : y445.toInt ≤ a475.toInt := b484; omega)), (show q_F (a475.toInt ≤ 10) from (show a475.toInt ≤ 10 from by have t1 : a475.toInt ≤ 10 := b481; omega)), (show q_F (0 ≤ y478.toInt + 1) from (show 0 ≤ y478.toInt + 1 from by have t1 : (-1) ≤ y478.toInt := b487; omega)), (show q_F (y478.toInt ≤ 2) from (show y478.toInt ≤ 2 from by have t1 : y478.toInt ≤ (-1) := b488; omega)), (show q_F (0 ≤ y480.toInt + 1) from (show 0 ≤ y480.toInt + 1 from by have t1 : 0 ≤ y480.toInt + 1 := b482; omega)), (show q_F (y480.toInt ≤ 8) from (show y480.toInt ≤ 8 from by have t1 : y480.toInt ≤ 8 := b483; omega)), (show q_F (0 ≤ y441.toInt + 1) from (show 0 ≤ y441.toInt + 1 from by have t1 : 0 ≤ y441.toInt + 1 := b448; omega)), (show q_F (y441.toInt ≤ 9999) from (show y441.toInt ≤ 9999 from by have t1 : y441.toInt ≤ 9999 := b449; omega)), (show q_F (0 ≤ y442.toInt + 1) from (show 0 ≤ y442.toInt + 1 from by have t1 : 0 ≤ y442.toInt + 1 := b450; omega)), (show q_F (y442.toInt ≤ 9999) from (show y442.toInt ≤ 9999 from by have t1 : y442.toInt ≤ 9999 := b451; omega)), (show q_F (0 ≤ y443.toInt + 1) from (show 0 ≤ y443.toInt + 1 from by have t1 : 0 ≤ y443.toInt + 1 := b452; omega)), (show q_F (y443.toInt ≤ 255) from (show y443.toInt ≤ 255 from by have t1 : y443.toInt ≤ 255 := b453; omega)), (show q_F (0 ≤ y445.toInt) from (show 0 ≤ y445.toInt from by have t1 : 0 ≤ y445.toInt := b454; omega)), (show q_F (y445.toInt ≤ 1) from (show y445.toInt ≤ 1 from by have t1 : y445.toInt ≤ 1 := b455; omega)), (show q_F (lx115.toInt ≤ y477.toInt) from (show lx115.toInt ≤ y477.toInt from by have t1 : lx115.toInt ≤ y477.toInt := b485; omega)), (show q_F (y477.toInt ≤ lx115.toInt) from (show y477.toInt ≤ lx115.toInt from by have t1 : y477.toInt ≤ lx115.toInt := b486; omega)), (show q_F (lx118.toInt ≤ y480.toInt + 8) from (show lx118.toInt ≤ y480.toInt + 8 from by have t1 : lx118.toInt ≤ y480.toInt + 8 := b489; omega)), (show q_F (lx119.toInt ≤ lx119.toInt + 21) from (show lx119.toInt ≤ lx119.toInt + 21 from by omega)), (show q_F (lx120.toInt ≤ lx120.toInt + 1020000) from (show lx120.toInt ≤ lx120.toInt + 1020000 from by omega)), (show q_F (lx120.toInt ≤ lx120.toInt + 1100001) from (show lx120.toInt ≤ lx120.toInt + 1100001 from by omega)), (show q_F (y193.toInt ≤ y193.toInt) from (show y193.toInt ≤ y193.toInt from by omega)), (show q_F (y193.toInt ≤ y193.toInt + 420005) from (show y193.toInt ≤ y193.toInt + 420005 from by omega)), V, q_lw hl (q_lw1 0 rfl (q_lw1 1 rfl (q_lw1 2 rfl (q_lw1 3 rfl (q_lw1 4 rfl (q_lw1 5 rfl q_lw0)))))), hI, hF, hO148, hO149, hO150, hO151, hO476, hO153, hO154, hO155, hO156, hO157, hO192, hO159, hO438, hO161, hO162, hO163, hO164, hO165, hO166, hO167, hO168, hO169, hO170, hO171, hO172, hO173, hO174, hO175, hO176, hO177, hO178, (show F_Pri_run_J128 (F_Pri_run_L18 t0_0 t1_0 t2_0 t3_0 t4_0 t4_1 t4_2 t4_3 t5_0 t6_0 t7_0 t8_0 t8_1 t9_0 t10_0 t11_0 t12_0 t12_1 t12_2 t12_3 t12_4 t12_5 t12_6 t13_0 t14_0 t15_0 t16_0 t17_0 t18_0 t19_0 t20_0 t21_0 t22_0 t23_0 t24_0 t25_0 t26_0 t27_0 t28_0 t29_0 t30_0 fm183) t0_0 t1_0 t2_0 t3_0 t4_0 t4_1 t4_2 t4_3 t5_0 t6_0 t7_0 t8_0 t8_1 t9_0 t10_0 t11_0 t12_0 t12_1 t12_2 t12_3 t12_4 t12_5 t12_6 t13_0 t14_0 t15_0 t16_0 t17_0 t18_0 t19_0 t20_0 t21_0 t22_0 t23_0 t24_0 t25_0 t26_0 t27_0 t28_0 t29_0 t30_0 lx111 lx112 lx113 lx114 lx115 lx116 lx117 lx118 lx119 lx120 lx121 lx122 lx123 lx124 lx125 lx126 lx127 lx128 lx129 lx130 a475 y444 y477 y478 y479 y480 lx119 lx120 lx121 y193 lx123 y439 y440 y441 y442 y443 y444 y445 = (F_Pri_run t0_0 t1_0 t2_0 t3_0 t4_0 t4_1 t4_2 t4_3 t5_0 t6_0 t7_0 t8_0 t8_1 t9_0 t10_0 t11_0 t12_0 t12_1 t12_2 t12_3 t12_4 t12_5 t12_6 t13_0 t14_0 t15_0 t16_0 t17_0 t18_0 t19_0 t20_0 t21_0 t22_0 t23_0 t24_0 t25_0 t26_0 t27_0 t28_0 t29_0 t30_0) from Eq.trans (by have c506x := c506; rw [e496] at c506x; rw [e500, e499, e498, e497, e496, F_Pri_run_c88.eq_1, if_neg c506x]) hR501), (show True ∧ S_Pri_run_J128 (S_Pri_run_L18 t0_0 t1_0 t2_0 t3_0 t4_0 t4_1 t4_2 t4_3 t5_0 t6_0 t7_0 t8_0 t8_1 t9_0 t10_0 t11_0 t12_0 t12_1 t12_2 t12_3 t12_4 t12_5 t12_6 t13_0 t14_0 t15_0 t16_0 t17_0 t18_0 t19_0 t20_0 t21_0 t22_0 t23_0 t24_0 t25_0 t26_0 t27_0 t28_0 t29_0 t30_0 fm183) t0_0 t1_0 t2_0 t3_0 t4_0 t4_1 t4_2 t4_3 t5_0 t6_0 t7_0 t8_0 t8_1 t9_0 t10_0 t11_0 t12_0 t12_1 t12_2 t12_3 t12_4 t12_5 t12_6 t13_0 t14_0 t15_0 t16_0 t17_0 t18_0 t19_0 t20_0 t21_0 t22_0 t23_0 t24_0 t25_0 t26_0 t27_0 t28_0 t29_0 t30_0 lx111 lx112 lx113 lx114 lx115 lx116 lx117 lx118 lx119 lx120 lx121 lx122 lx123 lx124 lx125 lx126 lx127 lx128 lx129 lx130 a475 y444 y477 y478 y479 y480 lx119 lx120 lx121 y193 lx123 y439 y440 y441 y442 y443 y444 y445 from (by rw [e500, e499, e498, e497, e496]; have h := hS502; rw [S_Pri_run_c88.eq_1] at h; have c506x := c506; rw [e496] at c506x; rw [if_neg c506x] at h; with_reducible exact h))⟩
          ·
            have b508 : q_F (a475.toInt = 0) := (q_eqI c506)
            refine lv_aload_n hx hb d_9_5_98 rfl (lv_at hl 4 rfl) ?_
            have ob509 : True ∧ S_Pri_writeBody y477 y478 y479 y480 t5_0 t6_0 t7_0 lx119 lx120 lx121 y193 lx123 y439 y440 y441 y442 y443 y444 y445 t13_0 t14_0 t15_0 t16_0 t17_0 t18_0 t19_0 t20_0 t21_0 t22_0 t23_0 t24_0 t25_0 t26_0 t27_0 t28_0 t29_0 t30_0 := (by rw [e500, e499, e498, e497]; have h := hS502; rw [S_Pri_run_c88.eq_1] at h; have c506x := c506; rw [e496] at c506x; rw [if_pos c506x] at h; with_reducible exact h.2.1)
            refine q_gov V (q_runV (As := []) (rest := []) (d := 7) (mc := 0) (ms := 0) (ci := 11) C0 V rfl LV_Pri_107 (X_Pri_writeBody l D g q u473   hI y477 y478 y479 y480 hO476 t5_0 hO153 t6_0 hO154 t7_0 hO155 lx119 lx120 hO156 lx121 hO157 y193 hO192 lx123 hO159 y439 y440 y441 y442 y443 y444 y445 hO438 t13_0 hO161 t14_0 hO162 t15_0 hO163 t16_0 hO164 t17_0 hO165 t18_0 hO166 t19_0 hO167 t20_0 hO168 t21_0 hO169 t22_0 hO170 t23_0 hO171 t24_0 hO172 t25_0 hO173 t26_0 hO174 t27_0 hO175 t28_0 hO176 t29_0 hO177 t30_0 hO178 (by first | with_reducible exact q_fe b195 | (have t1 : y193.toInt ≤ 0 := b195; omega)) ob509 _) rfl rfl hO476 rfl hl.1 rfl (Nat.le_of_ble_eq_true rfl) ⟨by decide, by decide⟩ ⟨Nat.le_of_ble_eq_true rfl, Nat.le_of_ble_eq_true rfl⟩ d_9_5_99) (fun u510 H locs hp511 V => ?_)
            obtain ⟨hI, hZ9⟩ := hp511
            obtain ⟨hu547, hZ9⟩ := hZ9
            obtain ⟨y513, hZ9⟩ := hZ9
            obtain ⟨y514, hZ9⟩ := hZ9
            obtain ⟨y515, hZ9⟩ := hZ9
            obtain ⟨y516, hZ9⟩ := hZ9
            obtain ⟨y518, hZ9⟩ := hZ9
            obtain ⟨y519, hZ9⟩ := hZ9
            obtain ⟨f520, hZ9⟩ := hZ9
            obtain ⟨y523, hZ9⟩ := hZ9
            obtain ⟨f524, hZ9⟩ := hZ9
            obtain ⟨hO512, hZ9⟩ := hZ9
            obtain ⟨hO517, hZ9⟩ := hZ9
            obtain ⟨hA521, hZ9⟩ := hZ9
            obtain ⟨hO522, hZ9⟩ := hZ9
            obtain ⟨hA525, hZ9⟩ := hZ9
            obtain ⟨b526, hZ9⟩ := hZ9
            obtain ⟨b527, hZ9⟩ := hZ9
            replace hZ9 := hZ9.2
            obtain ⟨b529, hZ9⟩ := hZ9
            obtain ⟨b530, hZ9⟩ := hZ9
            replace hZ9 := hZ9.2.2.2
            obtain ⟨b534, hZ9⟩ := hZ9
            obtain ⟨b535, hZ9⟩ := hZ9
            obtain ⟨b536, hZ9⟩ := hZ9
            replace hZ9 := hZ9.2.2
            obtain ⟨b539, hZ9⟩ := hZ9
            obtain ⟨b540, hZ9⟩ := hZ9
            replace hZ9 := hZ9.2.2
            obtain ⟨b543, hZ9⟩ := hZ9
            obtain ⟨b544, hZ9⟩ := hZ9
            obtain ⟨-, hE546⟩ := hZ9
            replace hO512 : u510[40]? = (some (q 40, .inr (11, [.int y513, .ref (q 41), .ref (q 42), .ref (q 43), .ref (q 44), .ref (q 1), .ref (q 47), .ref (q 36), .ref (q 45), .int y514, .int y515, .int y516])) : Option (Nat × va_E)) := hO512
            replace hO517 : u510[36]? = (some (q 36, .inr (7, [.int y518, .int y519, .ref (q 37)])) : Option (Nat × va_E)) := hO517
            replace hA521 : u510[37]? = (some (q 37, .inl (g 2, 1026, .inl f520)) : Option (Nat × va_E)) := hA521
            replace hO522 : u510[45]? = (some (q 45, .inr (1, [.ref (q 46), .int 4104, .int y523])) : Option (Nat × va_E)) := hO522
            replace hA525 : u510[46]? = (some (q 46, .inl (g 1, (513 : Int32).toNatClampNeg, .inr (.inl f524))) : Option (Nat × va_E)) := hA525
            obtain ⟨p548, e549⟩ : ∃ z, z = (F_Pri_writeBody y477 y478 y479 y480 t5_0 t6_0 t7_0 lx119 lx120 lx121 y193 lx123 y439 y440 y441 y442 y443 y444 y445 t13_0 t14_0 t15_0 t16_0 t17_0 t18_0 t19_0 t20_0 t21_0 t22_0 t23_0 t24_0 t25_0 t26_0 t27_0 t28_0 t29_0 t30_0) := ⟨_, rfl⟩
            have e550 : y513 = p548.1 := congrArg (fun z => z.1) (hE546.trans e549.symm)
            have e551 : y514 = p548.2.1 := congrArg (fun z => z.2.1) (hE546.trans e549.symm)
            have e552 : y515 = p548.2.2.1 := congrArg (fun z => z.2.2.1) (hE546.trans e549.symm)
            have e553 : y516 = p548.2.2.2.1 := congrArg (fun z => z.2.2.2.1) (hE546.trans e549.symm)
            have e554 : y518 = p548.2.2.2.2.1 := congrArg (fun z => z.2.2.2.2.1) (hE546.trans e549.symm)
            have e555 : y519 = p548.2.2.2.2.2.1 := congrArg (fun z => z.2.2.2.2.2.1) (hE546.trans e549.symm)
            have e556 : f520 = p548.2.2.2.2.2.2.1 := congrArg (fun z => z.2.2.2.2.2.2.1) (hE546.trans e549.symm)
            have e557 : y523 = p548.2.2.2.2.2.2.2.1 := congrArg (fun z => z.2.2.2.2.2.2.2.1) (hE546.trans e549.symm)
            have e558 : f524 = p548.2.2.2.2.2.2.2.2 := congrArg (fun z => z.2.2.2.2.2.2.2.2) (hE546.trans e549.symm)
            replace b526 : q_F (y477.toInt ≤ y513.toInt) := b526
            replace b527 : q_F (y513.toInt ≤ y477.toInt) := b527
            replace b529 : q_F (y514.toInt ≤ y478.toInt + 3) := b529
            replace b530 : q_F (y193.toInt ≤ y514.toInt + 1) := b530
            replace b534 : q_F (y480.toInt ≤ y516.toInt) := b534
            replace b535 : q_F (y516.toInt ≤ y480.toInt) := b535
            replace b536 : q_F (y518.toInt ≤ lx119.toInt + 21) := b536
            replace b539 : q_F (lx120.toInt ≤ y519.toInt + 1020000) := b539
            replace b540 : q_F (y519.toInt ≤ lx120.toInt + 1100001) := b540
            replace b543 : q_F (y193.toInt ≤ y523.toInt) := b543
            replace b544 : q_F (y523.toInt ≤ y193.toInt + 420005) := b544
            replace hO148 := (hu547 _ (by decide)).trans hO148
            replace hO149 := (hu547 _ (by decide)).trans hO149
            replace hO150 := (hu547 _ (by decide)).trans hO150
            replace hO151 := (hu547 _ (by decide)).trans hO151
            replace hO153 := (hu547 _ (by decide)).trans hO153
            replace hO154 := (hu547 _ (by decide)).trans hO154
            replace hO155 := (hu547 _ (by decide)).trans hO155
            replace hO438 := (hu547 _ (by decide)).trans hO438
            replace hO161 := (hu547 _ (by decide)).trans hO161
            replace hO162 := (hu547 _ (by decide)).trans hO162
            replace hO163 := (hu547 _ (by decide)).trans hO163
            replace hO164 := (hu547 _ (by decide)).trans hO164
            replace hO165 := (hu547 _ (by decide)).trans hO165
            replace hO166 := (hu547 _ (by decide)).trans hO166
            replace hO167 := (hu547 _ (by decide)).trans hO167
            replace hO168 := (hu547 _ (by decide)).trans hO168
            replace hO169 := (hu547 _ (by decide)).trans hO169
            replace hO170 := (hu547 _ (by decide)).trans hO170
            replace hO171 := (hu547 _ (by decide)).trans hO171
            replace hO172 := (hu547 _ (by decide)).trans hO172
            replace hO173 := (hu547 _ (by decide)).trans hO173
            replace hO174 := (hu547 _ (by decide)).trans hO174
            replace hO175 := (hu547 _ (by decide)).trans hO175
            replace hO176 := (hu547 _ (by decide)).trans hO176
            replace hO177 := (hu547 _ (by decide)).trans hO177
            replace hO178 := (hu547 _ (by decide)).trans hO178
            replace hF := q_uc hF hu547 (by first | exact (q_sk (q_mi 2 rfl) (q_sk (q_mi 3 rfl) (q_sk (q_mi 4 rfl) (q_sk (q_mi 5 rfl) (q_sk (q_mi 6 rfl) q_s0))))) | simp)
            have hR559 := (show F_Pri_run_c99 (F_Pri_run_L18 t0_0 t1_0 t2_0 t3_0 t4_0 t4_1 t4_2 t4_3 t5_0 t6_0 t7_0 t8_0 t8_1 t9_0 t10_0 t11_0 t12_0 t12_1 t12_2 t12_3 t12_4 t12_5 t12_6 t13_0 t14_0 t15_0 t16_0 t17_0 t18_0 t19_0 t20_0 t21_0 t22_0 t23_0 t24_0 t25_0 t26_0 t27_0 t28_0 t29_0 t30_0 fm183) t0_0 t1_0 t2_0 t3_0 t4_0 t4_1 t4_2 t4_3 t5_0 t6_0 t7_0 t8_0 t8_1 t9_0 t10_0 t11_0 t12_0 t12_1 t12_2 t12_3 t12_4 t12_5 t12_6 t13_0 t14_0 t15_0 t16_0 t17_0 t18_0 t19_0 t20_0 t21_0 t22_0 t23_0 t24_0 t25_0 t26_0 t27_0 t28_0 t29_0 t30_0 lx111 lx112 lx113 lx114 lx115 lx116 lx117 lx118 lx119 lx120 lx121 lx122 lx123 lx124 lx125 lx126 lx127 lx128 lx129 lx130 a205 y193 p459 y444 y439 y440 y441 y442 y443 y445 p494 a475 p548 = (F_Pri_run t0_0 t1_0 t2_0 t3_0 t4_0 t4_1 t4_2 t4_3 t5_0 t6_0 t7_0 t8_0 t8_1 t9_0 t10_0 t11_0 t12_0 t12_1 t12_2 t12_3 t12_4 t12_5 t12_6 t13_0 t14_0 t15_0 t16_0 t17_0 t18_0 t19_0 t20_0 t21_0 t22_0 t23_0 t24_0 t25_0 t26_0 t27_0 t28_0 t29_0 t30_0) from Eq.trans (by have c506x := c506; rw [e496] at c506x; rw [e549, e500, e499, e498, e497, e496, F_Pri_run_c88.eq_1, if_pos c506x]) hR501)
            have hS560 := (show True ∧ S_Pri_run_c99 (S_Pri_run_L18 t0_0 t1_0 t2_0 t3_0 t4_0 t4_1 t4_2 t4_3 t5_0 t6_0 t7_0 t8_0 t8_1 t9_0 t10_0 t11_0 t12_0 t12_1 t12_2 t12_3 t12_4 t12_5 t12_6 t13_0 t14_0 t15_0 t16_0 t17_0 t18_0 t19_0 t20_0 t21_0 t22_0 t23_0 t24_0 t25_0 t26_0 t27_0 t28_0 t29_0 t30_0 fm183) t0_0 t1_0 t2_0 t3_0 t4_0 t4_1 t4_2 t4_3 t5_0 t6_0 t7_0 t8_0 t8_1 t9_0 t10_0 t11_0 t12_0 t12_1 t12_2 t12_3 t12_4 t12_5 t12_6 t13_0 t14_0 t15_0 t16_0 t17_0 t18_0 t19_0 t20_0 t21_0 t22_0 t23_0 t24_0 t25_0 t26_0 t27_0 t28_0 t29_0 t30_0 lx111 lx112 lx113 lx114 lx115 lx116 lx117 lx118 lx119 lx120 lx121 lx122 lx123 lx124 lx125 lx126 lx127 lx128 lx129 lx130 a205 y193 p459 y444 y439 y440 y441 y442 y443 y445 p494 a475 p548 from (by rw [e549, e500, e499, e498, e497, e496]; have h := hS502; rw [S_Pri_run_c88.eq_1] at h; have c506x := c506; rw [e496] at c506x; rw [if_pos c506x] at h; replace h := q_s2 h; with_reducible exact h))
            refine lv_goto (tgt := 128) hx hb d_9_5_102 (by decide) ?_
            exact J268 ((a475 : Int32), (y444 : Int32), (y513 : Int32), (y514 : Int32), (y515 : Int32), (y516 : Int32), (y518 : Int32), (y519 : Int32), (f520 : (Nat → Int32)), (y523 : Int32), (f524 : (Nat → Int64)), (y439 : Int32), (y440 : Int32), (y441 : Int32), (y442 : Int32), (y443 : Int32), (y444 : Int32), (y445 : Int32)) _ _ _ _ ⟨(show q_F (0 ≤ a475.toInt) from (show 0 ≤ a475.toInt from by have t1 : a475.toInt = 0 := b508; omega)), (show q_F (a475.toInt ≤ 10) from (show a475.toInt ≤ 10 from by have t1 : a475.toInt ≤ 10 := b481; omega)), (show q_F (0 ≤ y514.toInt + 1) from (show 0 ≤ y514.toInt + 1 from by have t1 : 0 ≤ y193.toInt := b194; have t2 : y193.toInt ≤ y514.toInt + 1 := b530; omega)), (show q_F (y514.toInt ≤ 2) from (show y514.toInt ≤ 2 from by have t1 : y478.toInt ≤ (-1) := b488; have t2 : y514.toInt ≤ y478.toInt + 3 := b529; omega)), (show q_F (0 ≤ y516.toInt + 1) from (show 0 ≤ y516.toInt + 1 from by have t1 : 0 ≤ y480.toInt + 1 := b482; have t2 : y480.toInt ≤ y516.toInt := b534; omega)), (show q_F (y516.toInt ≤ 8) from (show y516.toInt ≤ 8 from by have t1 : y480.toInt ≤ 8 := b483; have t2 : y516.toInt ≤ y480.toInt := b535; omega)), (show q_F (0 ≤ y441.toInt + 1) from (show 0 ≤ y441.toInt + 1 from by have t1 : 0 ≤ y441.toInt + 1 := b448; omega)), (show q_F (y441.toInt ≤ 9999) from (show y441.toInt ≤ 9999 from by have t1 : y441.toInt ≤ 9999 := b449; omega)), (show q_F (0 ≤ y442.toInt + 1) from (show 0 ≤ y442.toInt + 1 from by have t1 : 0 ≤ y442.toInt + 1 := b450; omega)), (show q_F (y442.toInt ≤ 9999) from (show y442.toInt ≤ 9999 from by have t1 : y442.toInt ≤ 9999 := b451; omega)), (show q_F (0 ≤ y443.toInt + 1) from (show 0 ≤ y443.toInt + 1 from by have t1 : 0 ≤ y443.toInt + 1 := b452; omega)), (show q_F (y443.toInt ≤ 255) from (show y443.toInt ≤ 255 from by have t1 : y443.toInt ≤ 255 := b453; omega)), (show q_F (0 ≤ y445.toInt) from (show 0 ≤ y445.toInt from by have t1 : 0 ≤ y445.toInt := b454; omega)), (show q_F (y445.toInt ≤ 1) from (show y445.toInt ≤ 1 from by have t1 : y445.toInt ≤ 1 := b455; omega)), (show q_F (lx115.toInt ≤ y513.toInt) from (show lx115.toInt ≤ y513.toInt from by have t1 : lx115.toInt ≤ y477.toInt := b485; have t2 : y477.toInt ≤ y513.toInt := b526; omega)), (show q_F (y513.toInt ≤ lx115.toInt) from (show y513.toInt ≤ lx115.toInt from by have t1 : y477.toInt ≤ lx115.toInt := b486; have t2 : y513.toInt ≤ y477.toInt := b527; omega)), (show q_F (lx118.toInt ≤ y516.toInt + 8) from (show lx118.toInt ≤ y516.toInt + 8 from by have t1 : lx118.toInt ≤ y480.toInt + 8 := b489; have t2 : y480.toInt ≤ y516.toInt := b534; omega)), (show q_F (y518.toInt ≤ lx119.toInt + 21) from (show y518.toInt ≤ lx119.toInt + 21 from by have t1 : y518.toInt ≤ lx119.toInt + 21 := b536; omega)), (show q_F (lx120.toInt ≤ y519.toInt + 1020000) from (show lx120.toInt ≤ y519.toInt + 1020000 from by have t1 : lx120.toInt ≤ y519.toInt + 1020000 := b539; omega)), (show q_F (y519.toInt ≤ lx120.toInt + 1100001) from (show y519.toInt ≤ lx120.toInt + 1100001 from by have t1 : y519.toInt ≤ lx120.toInt + 1100001 := b540; omega)), (show q_F (y193.toInt ≤ y523.toInt) from (show y193.toInt ≤ y523.toInt from by have t1 : y193.toInt ≤ y523.toInt := b543; omega)), (show q_F (y523.toInt ≤ y193.toInt + 420005) from (show y523.toInt ≤ y193.toInt + 420005 from by have t1 : y523.toInt ≤ y193.toInt + 420005 := b544; omega)), V, q_lw hl (q_lw1 0 rfl (q_lw1 1 rfl (q_lw1 2 rfl (q_lw1 3 rfl (q_lw1 4 rfl (q_lw1 5 rfl q_lw0)))))), hI, hF, hO148, hO149, hO150, hO151, hO512, hO153, hO154, hO155, hO517, hA521, hO522, hA525, hO438, hO161, hO162, hO163, hO164, hO165, hO166, hO167, hO168, hO169, hO170, hO171, hO172, hO173, hO174, hO175, hO176, hO177, hO178, (show F_Pri_run_J128 (F_Pri_run_L18 t0_0 t1_0 t2_0 t3_0 t4_0 t4_1 t4_2 t4_3 t5_0 t6_0 t7_0 t8_0 t8_1 t9_0 t10_0 t11_0 t12_0 t12_1 t12_2 t12_3 t12_4 t12_5 t12_6 t13_0 t14_0 t15_0 t16_0 t17_0 t18_0 t19_0 t20_0 t21_0 t22_0 t23_0 t24_0 t25_0 t26_0 t27_0 t28_0 t29_0 t30_0 fm183) t0_0 t1_0 t2_0 t3_0 t4_0 t4_1 t4_2 t4_3 t5_0 t6_0 t7_0 t8_0 t8_1 t9_0 t10_0 t11_0 t12_0 t12_1 t12_2 t12_3 t12_4 t12_5 t12_6 t13_0 t14_0 t15_0 t16_0 t17_0 t18_0 t19_0 t20_0 t21_0 t22_0 t23_0 t24_0 t25_0 t26_0 t27_0 t28_0 t29_0 t30_0 lx111 lx112 lx113 lx114 lx115 lx116 lx117 lx118 lx119 lx120 lx121 lx122 lx123 lx124 lx125 lx126 lx127 lx128 lx129 lx130 a475 y444 y513 y514 y515 y516 y518 y519 f520 y523 f524 y439 y440 y441 y442 y443 y444 y445 = (F_Pri_run t0_0 t1_0 t2_0 t3_0 t4_0 t4_1 t4_2 t4_3 t5_0 t6_0 t7_0 t8_0 t8_1 t9_0 t10_0 t11_0 t12_0 t12_1 t12_2 t12_3 t12_4 t12_5 t12_6 t13_0 t14_0 t15_0 t16_0 t17_0 t18_0 t19_0 t20_0 t21_0 t22_0 t23_0 t24_0 t25_0 t26_0 t27_0 t28_0 t29_0 t30_0) from Eq.trans (by rw [e558, e557, e556, e555, e554, e553, e552, e551, e550, F_Pri_run_c99.eq_1]) hR559), (show True ∧ S_Pri_run_J128 (S_Pri_run_L18 t0_0 t1_0 t2_0 t3_0 t4_0 t4_1 t4_2 t4_3 t5_0 t6_0 t7_0 t8_0 t8_1 t9_0 t10_0 t11_0 t12_0 t12_1 t12_2 t12_3 t12_4 t12_5 t12_6 t13_0 t14_0 t15_0 t16_0 t17_0 t18_0 t19_0 t20_0 t21_0 t22_0 t23_0 t24_0 t25_0 t26_0 t27_0 t28_0 t29_0 t30_0 fm183) t0_0 t1_0 t2_0 t3_0 t4_0 t4_1 t4_2 t4_3 t5_0 t6_0 t7_0 t8_0 t8_1 t9_0 t10_0 t11_0 t12_0 t12_1 t12_2 t12_3 t12_4 t12_5 t12_6 t13_0 t14_0 t15_0 t16_0 t17_0 t18_0 t19_0 t20_0 t21_0 t22_0 t23_0 t24_0 t25_0 t26_0 t27_0 t28_0 t29_0 t30_0 lx111 lx112 lx113 lx114 lx115 lx116 lx117 lx118 lx119 lx120 lx121 lx122 lx123 lx124 lx125 lx126 lx127 lx128 lx129 lx130 a475 y444 y513 y514 y515 y516 y518 y519 f520 y523 f524 y439 y440 y441 y442 y443 y444 y445 from (by rw [e558, e557, e556, e555, e554, e553, e552, e551, e550]; have h := hS560; rw [S_Pri_run_c99.eq_1] at h; with_reducible exact h))⟩

