def F_Rea_here (t0_0 : Int64) (t0_1 : Int64) (t0_2 : Int32) (t0_3 : Int32) (t0_4 : Int32) (t0_5 : Int32) (t0_6 : Int32) (t0_7 : Int32) (t0_8 : Int32) (t0_9 : Int64) (t1_0 : Int32) (t2_0 : (Nat → Int64)) : Int32 := if t0_3 ≤ t0_2 then ((-1 : Int32)) else (((F_She_at (4100 : Int32) (513 : Int32) (4100 : Int32) (t0_2.toInt64 : Int64) t1_0 t2_0) : Int32))
def S_Rea_here (t0_0 : Int64) (t0_1 : Int64) (t0_2 : Int32) (t0_3 : Int32) (t0_4 : Int32) (t0_5 : Int32) (t0_6 : Int32) (t0_7 : Int32) (t0_8 : Int32) (t0_9 : Int64) (t1_0 : Int32) (t2_0 : (Nat → Int64)) : Prop := if t0_3 ≤ t0_2 then (True) else ((True ∧ S_She_at (4100 : Int32) (513 : Int32) (4100 : Int32) (t0_2.toInt64 : Int64) t1_0 t2_0) ∧ (True))
set_option maxRecDepth 100000 in
set_option maxHeartbeats 4000000 in
theorem X_Rea_here (l : Launch) (D : va_G) (g : Nat → ClassId) (q : Nat → Nat) (ws : va_W) (hI : q_I (nsh g q) q ws) (t0_0 : Int64) (t0_1 : Int64) (t0_2 : Int32) (t0_3 : Int32) (t0_4 : Int32) (t0_5 : Int32) (t0_6 : Int32) (t0_7 : Int32) (t0_8 : Int32) (t0_9 : Int64) (hT0 : ws[38]? = (some (q 38, .inr (8, [.long t0_0, .long t0_1, .ref (q 1), .ref (q 9), .int t0_2, .int t0_3, .int t0_4, .int t0_5, .int t0_6, .int t0_7, .int t0_8, .long t0_9])) : Option (Nat × va_E))) (t1_0 : Int32) (hT1 : ws[1]? = (some (q 1, .inr (1, [.ref (q 2), .int 4100, .int t1_0])) : Option (Nat × va_E))) (t2_0 : (Nat → Int64)) (hT2 : ws[2]? = (some (q 2, .inl (g 1, (513 : Int32).toNatClampNeg, .inr (.inl t2_0))) : Option (Nat × va_E))) (hS : True ∧ S_Rea_here t0_0 t0_1 t0_2 t0_3 t0_4 t0_5 t0_6 t0_7 t0_8 t0_9 t1_0 t2_0) : q_mI l y_Rea_here prog_10_method_16_code 1 (.int) 2 0 0 D g [.ref (q 38)] ws (fun r u => ws = u ∧ (0 ≤ r.toInt + 1) ∧ (r.toInt ≤ 255) ∧ r = (F_Rea_here t0_0 t0_1 t0_2 t0_3 t0_4 t0_5 t0_6 t0_7 t0_8 t0_9 t1_0 t2_0)) := by
  intro sz
  refine q_into (by decide) (Nat.le_of_ble_eq_true rfl) ?_
  intro p e s m below meth c ls hsz C0 V hl
  have hx := C0.1
  have hb := C0.2.1
  have btt0_8 := (n_w38 hI hT0).2
  clear btt0_8
  have btt1_0 := n_shW hI (n_h1 g q) hT1
  clear btt1_0
  have hl : lv_has ls 1 [(0, .ref (q 38))] := hl
  refine lv_aload_n hx hb d_10_16_0 rfl (lv_at hl 0 rfl) ?_
  refine q_get (ci := 8) (j := 4) (v := .int t0_2) C0 V i_Rea rfl rfl hT0 (by decide) w_290 rfl d_10_16_1 ?_
  refine lv_aload_n hx hb d_10_16_4 rfl (lv_at hl 0 rfl) ?_
  refine q_get (ci := 8) (j := 5) (v := .int t0_3) C0 V i_Rea rfl rfl hT0 (by decide) w_291 rfl d_10_16_5 ?_
  refine lv_icmp_ge (tgt := 26) hx hb d_10_16_8 (by decide) (fun c19 => ?_) (fun c19 => ?_)
  ·
    refine lv_iconst (v := (-1)) hx hb d_10_16_26 (by decide) ?_
    exact q_reti C0 V (⟨rfl, (show 0 ≤ (-1 : Int32).toInt + 1 from (by have z12 : (-1 : Int32).toInt = -1 := rfl; omega)), (show (-1 : Int32).toInt ≤ 255 from (by have z12 : (-1 : Int32).toInt = -1 := rfl; omega)), (show (-1 : Int32) = (F_Rea_here t0_0 t0_1 t0_2 t0_3 t0_4 t0_5 t0_6 t0_7 t0_8 t0_9 t1_0 t2_0) from (by rw [F_Rea_here.eq_1, if_pos c19]))⟩) d_10_16_27
  ·
    refine lv_aload_n hx hb d_10_16_11 rfl (lv_at hl 0 rfl) ?_
    refine q_get (ci := 8) (j := 2) (v := .ref (q 1)) C0 V i_Rea rfl rfl hT0 (by decide) w_288 rfl d_10_16_12 ?_
    refine lv_aload_n hx hb d_10_16_15 rfl (lv_at hl 0 rfl) ?_
    refine q_get (ci := 8) (j := 4) (v := .int t0_2) C0 V i_Rea rfl rfl hT0 (by decide) w_290 rfl d_10_16_16 ?_
    refine lv_i2l hx hb d_10_16_19 rfl ?_
    obtain ⟨j22, e23⟩ := q_nm (t0_2.toInt64 : Int64)
    refine q_tl (v := j22) e23 ?_
    have ob25 : True ∧ S_She_at (4100 : Int32) (513 : Int32) (4100 : Int32) j22 t1_0 t2_0 := (by rw [← e23]; have h := hS; rw [S_Rea_here.eq_1] at h; rw [if_neg c19] at h; with_reducible exact h.2.1)
    refine q_goi V (q_runV (As := [.long j22]) (rest := []) (d := 1) (mc := 0) (ms := 0) (ci := 1) C0 V rfl LV_Rea_139 (X_She_at l D g q ws 1 4100 513 4100 (n_h1 g q) j22 hI t1_0 hT1 t2_0 hT2 ob25 _) rfl rfl hT1 rfl hl.1 rfl (Nat.le_of_ble_eq_true rfl) ⟨by decide, by decide⟩ ⟨Nat.le_of_ble_eq_true rfl, Nat.le_of_ble_eq_true rfl⟩ d_10_16_20) (fun a28 u26 H locs hp27 V => ?_)
    obtain ⟨rfl, b29, b30, hE31⟩ := hp27
    have e32 : a28 = (F_She_at (4100 : Int32) (513 : Int32) (4100 : Int32) j22 t1_0 t2_0) := hE31
    replace b29 : q_F (0 ≤ a28.toInt) := b29
    replace b30 : q_F (a28.toInt ≤ 255) := b30
    refine lv_goto (tgt := 27) hx hb d_10_16_23 (by decide) ?_
    exact q_reti C0 V (⟨rfl, (show 0 ≤ a28.toInt + 1 from (by first | with_reducible exact q_fe b29 | (have t1 : 0 ≤ a28.toInt := b29; omega))), (show a28.toInt ≤ 255 from (by first | with_reducible exact q_fe b30 | (have t1 : a28.toInt ≤ 255 := b30; omega))), (show a28 = (F_Rea_here t0_0 t0_1 t0_2 t0_3 t0_4 t0_5 t0_6 t0_7 t0_8 t0_9 t1_0 t2_0) from (by rw [e32, ← e23, F_Rea_here.eq_1, if_neg c19]))⟩) d_10_16_27
def F_Rea_digitHere_J22 (t0_0 : Int64) (t0_1 : Int64) (t0_2 : Int32) (t0_3 : Int32) (t0_4 : Int32) (t0_5 : Int32) (t0_6 : Int32) (t0_7 : Int32) (t0_8 : Int32) (t0_9 : Int64) (t1_0 : Int32) (t2_0 : (Nat → Int64)) (a22 : Int32) : Int32 := if (a22 ||| 32 : Int32) < (97 : Int32) then ((99 : Int32)) else (if (122 : Int32) < (a22 ||| 32 : Int32) then ((99 : Int32)) else ((((a22 ||| 32 : Int32) - 97 : Int32) + 10 : Int32)))
def F_Rea_digitHere (t0_0 : Int64) (t0_1 : Int64) (t0_2 : Int32) (t0_3 : Int32) (t0_4 : Int32) (t0_5 : Int32) (t0_6 : Int32) (t0_7 : Int32) (t0_8 : Int32) (t0_9 : Int64) (t1_0 : Int32) (t2_0 : (Nat → Int64)) : Int32 := if ((F_Rea_here t0_0 t0_1 t0_2 t0_3 t0_4 t0_5 t0_6 t0_7 t0_8 t0_9 t1_0 t2_0) : Int32) < (48 : Int32) then (F_Rea_digitHere_J22 t0_0 t0_1 t0_2 t0_3 t0_4 t0_5 t0_6 t0_7 t0_8 t0_9 t1_0 t2_0 ((F_Rea_here t0_0 t0_1 t0_2 t0_3 t0_4 t0_5 t0_6 t0_7 t0_8 t0_9 t1_0 t2_0) : Int32)) else (if (57 : Int32) < ((F_Rea_here t0_0 t0_1 t0_2 t0_3 t0_4 t0_5 t0_6 t0_7 t0_8 t0_9 t1_0 t2_0) : Int32) then (F_Rea_digitHere_J22 t0_0 t0_1 t0_2 t0_3 t0_4 t0_5 t0_6 t0_7 t0_8 t0_9 t1_0 t2_0 ((F_Rea_here t0_0 t0_1 t0_2 t0_3 t0_4 t0_5 t0_6 t0_7 t0_8 t0_9 t1_0 t2_0) : Int32)) else ((((F_Rea_here t0_0 t0_1 t0_2 t0_3 t0_4 t0_5 t0_6 t0_7 t0_8 t0_9 t1_0 t2_0) : Int32) - 48 : Int32)))
def S_Rea_digitHere_J22 (t0_0 : Int64) (t0_1 : Int64) (t0_2 : Int32) (t0_3 : Int32) (t0_4 : Int32) (t0_5 : Int32) (t0_6 : Int32) (t0_7 : Int32) (t0_8 : Int32) (t0_9 : Int64) (t1_0 : Int32) (t2_0 : (Nat → Int64)) (a22 : Int32) : Prop := if (a22 ||| 32 : Int32) < (97 : Int32) then (True) else (if (122 : Int32) < (a22 ||| 32 : Int32) then (True) else (True))
def S_Rea_digitHere (t0_0 : Int64) (t0_1 : Int64) (t0_2 : Int32) (t0_3 : Int32) (t0_4 : Int32) (t0_5 : Int32) (t0_6 : Int32) (t0_7 : Int32) (t0_8 : Int32) (t0_9 : Int64) (t1_0 : Int32) (t2_0 : (Nat → Int64)) : Prop := (True ∧ S_Rea_here t0_0 t0_1 t0_2 t0_3 t0_4 t0_5 t0_6 t0_7 t0_8 t0_9 t1_0 t2_0) ∧ (if ((F_Rea_here t0_0 t0_1 t0_2 t0_3 t0_4 t0_5 t0_6 t0_7 t0_8 t0_9 t1_0 t2_0) : Int32) < (48 : Int32) then (S_Rea_digitHere_J22 t0_0 t0_1 t0_2 t0_3 t0_4 t0_5 t0_6 t0_7 t0_8 t0_9 t1_0 t2_0 ((F_Rea_here t0_0 t0_1 t0_2 t0_3 t0_4 t0_5 t0_6 t0_7 t0_8 t0_9 t1_0 t2_0) : Int32)) else (if (57 : Int32) < ((F_Rea_here t0_0 t0_1 t0_2 t0_3 t0_4 t0_5 t0_6 t0_7 t0_8 t0_9 t1_0 t2_0) : Int32) then (S_Rea_digitHere_J22 t0_0 t0_1 t0_2 t0_3 t0_4 t0_5 t0_6 t0_7 t0_8 t0_9 t1_0 t2_0 ((F_Rea_here t0_0 t0_1 t0_2 t0_3 t0_4 t0_5 t0_6 t0_7 t0_8 t0_9 t1_0 t2_0) : Int32)) else (True)))
set_option maxRecDepth 100000 in
set_option maxHeartbeats 4000000 in
theorem X_Rea_digitHere (l : Launch) (D : va_G) (g : Nat → ClassId) (q : Nat → Nat) (ws : va_W) (hI : q_I (nsh g q) q ws) (t0_0 : Int64) (t0_1 : Int64) (t0_2 : Int32) (t0_3 : Int32) (t0_4 : Int32) (t0_5 : Int32) (t0_6 : Int32) (t0_7 : Int32) (t0_8 : Int32) (t0_9 : Int64) (hT0 : ws[38]? = (some (q 38, .inr (8, [.long t0_0, .long t0_1, .ref (q 1), .ref (q 9), .int t0_2, .int t0_3, .int t0_4, .int t0_5, .int t0_6, .int t0_7, .int t0_8, .long t0_9])) : Option (Nat × va_E))) (t1_0 : Int32) (hT1 : ws[1]? = (some (q 1, .inr (1, [.ref (q 2), .int 4100, .int t1_0])) : Option (Nat × va_E))) (t2_0 : (Nat → Int64)) (hT2 : ws[2]? = (some (q 2, .inl (g 1, (513 : Int32).toNatClampNeg, .inr (.inl t2_0))) : Option (Nat × va_E))) (hS : True ∧ S_Rea_digitHere t0_0 t0_1 t0_2 t0_3 t0_4 t0_5 t0_6 t0_7 t0_8 t0_9 t1_0 t2_0) : q_mI l y_Rea_digitHere prog_10_method_17_code 3 (.int) 3 0 0 D g [.ref (q 38)] ws (fun r u => ws = u ∧ (0 ≤ r.toInt) ∧ (r.toInt ≤ 99) ∧ r = (F_Rea_digitHere t0_0 t0_1 t0_2 t0_3 t0_4 t0_5 t0_6 t0_7 t0_8 t0_9 t1_0 t2_0)) := by
  intro sz
  refine q_into (by decide) (Nat.le_of_ble_eq_true rfl) ?_
  intro p e s m below meth c ls hsz C0 V hl
  have hx := C0.1
  have hb := C0.2.1
  have btt0_8 := (n_w38 hI hT0).2
  clear btt0_8
  have btt1_0 := n_shW hI (n_h1 g q) hT1
  clear btt1_0
  have hl : lv_has ls 3 [(0, .ref (q 38))] := hl
  refine lv_aload_n hx hb d_10_17_0 rfl (lv_at hl 0 rfl) ?_
  have ob19 : True ∧ S_Rea_here t0_0 t0_1 t0_2 t0_3 t0_4 t0_5 t0_6 t0_7 t0_8 t0_9 t1_0 t2_0 := (by have h := hS; rw [S_Rea_digitHere.eq_1] at h; with_reducible exact h.2.1)
  refine q_goi V (q_runV (As := []) (rest := []) (d := 2) (mc := 0) (ms := 0) (ci := 8) C0 V rfl LV_Rea_70 (X_Rea_here l D g q ws   hI t0_0 t0_1 t0_2 t0_3 t0_4 t0_5 t0_6 t0_7 t0_8 t0_9 hT0 t1_0 hT1 t2_0 hT2 ob19 _) rfl rfl hT0 rfl hl.1 rfl (Nat.le_of_ble_eq_true rfl) ⟨by decide, by decide⟩ ⟨Nat.le_of_ble_eq_true rfl, Nat.le_of_ble_eq_true rfl⟩ d_10_17_1) (fun a22 u20 H locs hp21 V => ?_)
  obtain ⟨rfl, b23, b24, hE25⟩ := hp21
  have e26 : a22 = (F_Rea_here t0_0 t0_1 t0_2 t0_3 t0_4 t0_5 t0_6 t0_7 t0_8 t0_9 t1_0 t2_0) := hE25
  replace b23 : q_F (0 ≤ a22.toInt + 1) := b23
  replace b24 : q_F (a22.toInt ≤ 255) := b24
  refine lv_istore_n (lv' := [(1, .int a22), (0, .ref (q 38))]) hx hb d_10_17_4 rfl hl (by decide) rfl (fun ls hl => ?_)
  refine lv_iload_n hx hb d_10_17_5 rfl (lv_at hl 0 rfl) ?_
  refine lv_bipush (v := 48) hx hb d_10_17_6 (by decide) ?_
  refine q_join (X := Unit) (fun z H locs ls _ => q_Wd D g (va_A ws sz) s ws H locs ∧ lv_has ls 3 [(1, .int a22)] ∧ F_Rea_digitHere_J22 t0_0 t0_1 t0_2 t0_3 t0_4 t0_5 t0_6 t0_7 t0_8 t0_9 t1_0 t2_0 a22 = (F_Rea_digitHere t0_0 t0_1 t0_2 t0_3 t0_4 t0_5 t0_6 t0_7 t0_8 t0_9 t1_0 t2_0) ∧ True ∧ S_Rea_digitHere_J22 t0_0 t0_1 t0_2 t0_3 t0_4 t0_5 t0_6 t0_7 t0_8 t0_9 t1_0 t2_0 a22) (fun z => []) 22 0 0 ?_ ?_
  ·
    rintro _ H locs ls _ ⟨V, hl, hR31, hS32⟩
    replace hl : lv_has ls 3 [(1, .int a22)] := hl
    refine lv_iload_n hx hb d_10_17_22 rfl (lv_at hl 0 rfl) ?_
    refine lv_bipush (v := 32) hx hb d_10_17_23 (by decide) ?_
    refine lv_ior hx hb d_10_17_25 ?_
    obtain ⟨a36, e37⟩ := q_nm (a22 ||| 32 : Int32)
    refine q_ti (v := a36) e37 ?_
    refine lv_istore_n (lv' := [(2, .int a36), (1, .int a22)]) hx hb d_10_17_26 rfl hl (by decide) rfl (fun ls hl => ?_)
    refine lv_iload_n hx hb d_10_17_27 rfl (lv_at hl 0 rfl) ?_
    refine lv_bipush (v := 97) hx hb d_10_17_28 (by decide) ?_
    refine lv_icmp_lt (tgt := 49) hx hb d_10_17_30 (by decide) (fun c38 => ?_) (fun c38 => ?_)
    ·
      refine lv_bipush (v := 99) hx hb d_10_17_49 (by decide) ?_
      exact q_reti C0 V (⟨rfl, (show 0 ≤ (99 : Int32).toInt from (by have z12 : (99 : Int32).toInt = 99 := rfl; omega)), (show (99 : Int32).toInt ≤ 99 from (by have z12 : (99 : Int32).toInt = 99 := rfl; omega)), (show (99 : Int32) = (F_Rea_digitHere t0_0 t0_1 t0_2 t0_3 t0_4 t0_5 t0_6 t0_7 t0_8 t0_9 t1_0 t2_0) from Eq.trans (by have c38x := c38; rw [← e37] at c38x; rw [F_Rea_digitHere_J22.eq_1, if_pos c38x]) hR31)⟩) d_10_17_51
    ·
      have b40 : q_F (97 ≤ a36.toInt) := (q_nltI c38)
      refine lv_iload_n hx hb d_10_17_33 rfl (lv_at hl 0 rfl) ?_
      refine lv_bipush (v := 122) hx hb d_10_17_34 (by decide) ?_
      refine lv_icmp_gt (tgt := 49) hx hb d_10_17_36 (by decide) (fun c41 => ?_) (fun c41 => ?_)
      ·
        refine lv_bipush (v := 99) hx hb d_10_17_49 (by decide) ?_
        exact q_reti C0 V (⟨rfl, (show 0 ≤ (99 : Int32).toInt from (by have z12 : (99 : Int32).toInt = 99 := rfl; omega)), (show (99 : Int32).toInt ≤ 99 from (by have z12 : (99 : Int32).toInt = 99 := rfl; omega)), (show (99 : Int32) = (F_Rea_digitHere t0_0 t0_1 t0_2 t0_3 t0_4 t0_5 t0_6 t0_7 t0_8 t0_9 t1_0 t2_0) from Eq.trans (by have c38x := c38; rw [← e37] at c38x; have c41x := c41; rw [← e37] at c41x; rw [F_Rea_digitHere_J22.eq_1, if_neg c38x, if_pos c41x]) hR31)⟩) d_10_17_51
      ·
        have b43 : q_F (a36.toInt ≤ 122) := (q_nltI c41)
        refine lv_iload_n hx hb d_10_17_39 rfl (lv_at hl 0 rfl) ?_
        refine lv_bipush (v := 97) hx hb d_10_17_40 (by decide) ?_
        refine lv_isub hx hb d_10_17_42 ?_
        obtain ⟨a44, e45⟩ := q_nm (a36 - 97 : Int32)
        refine q_ti (v := a44) e45 ?_
        have b46 : q_F (a44.toInt = a36.toInt - 97) := (by rw [← e45]; show (a36 - 97 : Int32).toInt = a36.toInt - 97; exact q_subI (x := a36.toInt) (y := 97) rfl (by decide) (by have t1 : 97 ≤ a36.toInt := b40; have t2 : a36.toInt ≤ 122 := b43; omega) (by have t1 : 97 ≤ a36.toInt := b40; have t2 : a36.toInt ≤ 122 := b43; omega))
        refine lv_bipush (v := 10) hx hb d_10_17_43 (by decide) ?_
        refine lv_iadd hx hb d_10_17_45 ?_
        obtain ⟨a47, e48⟩ := q_nm (a44 + 10 : Int32)
        refine q_ti (v := a47) e48 ?_
        have b49 : q_F (a47.toInt = a44.toInt + 10) := (by rw [← e48]; show (a44 + 10 : Int32).toInt = a44.toInt + 10; exact q_addI (x := a44.toInt) (y := 10) rfl (by decide) (by have _ := q_lo32 (x := a44); have _ := q_hi32 (x := a44); have t1 : a44.toInt = a36.toInt - 97 := b46; have _ := q_lo32 (x := a36); have _ := q_hi32 (x := a36); omega) (by have _ := q_lo32 (x := a44); have _ := q_hi32 (x := a44); have t1 : a44.toInt = a36.toInt - 97 := b46; have _ := q_lo32 (x := a36); have _ := q_hi32 (x := a36); omega))
        refine lv_goto (tgt := 51) hx hb d_10_17_46 (by decide) ?_
        exact q_reti C0 V (⟨rfl, (show 0 ≤ a47.toInt from (by have t1 : 97 ≤ a36.toInt := b40; have t2 : a44.toInt = a36.toInt - 97 := b46; have t3 : a47.toInt = a44.toInt + 10 := b49; omega)), (show a47.toInt ≤ 99 from (by have t1 : a36.toInt ≤ 122 := b43; have t2 : a44.toInt = a36.toInt - 97 := b46; have t3 : a47.toInt = a44.toInt + 10 := b49; omega)), (show a47 = (F_Rea_digitHere t0_0 t0_1 t0_2 t0_3 t0_4 t0_5 t0_6 t0_7 t0_8 t0_9 t1_0 t2_0) from Eq.trans (by have c38x := c38; rw [← e37] at c38x; have c41x := c41; rw [← e37] at c41x; rw [← e48, ← e45, ← e37, F_Rea_digitHere_J22.eq_1, if_neg c38x, if_neg c41x]) hR31)⟩) d_10_17_51
  ·
    intro J30
    refine lv_icmp_lt (tgt := 22) hx hb d_10_17_8 (by decide) (fun c50 => ?_) (fun c50 => ?_)
    ·
      exact J30 (()) _ _ _ ws ⟨V, q_lw hl (q_lw1 0 rfl q_lw0), (show F_Rea_digitHere_J22 t0_0 t0_1 t0_2 t0_3 t0_4 t0_5 t0_6 t0_7 t0_8 t0_9 t1_0 t2_0 a22 = (F_Rea_digitHere t0_0 t0_1 t0_2 t0_3 t0_4 t0_5 t0_6 t0_7 t0_8 t0_9 t1_0 t2_0) from (by have c50x := c50; rw [e26] at c50x; rw [e26, F_Rea_digitHere.eq_1, if_pos c50x])), (show True ∧ S_Rea_digitHere_J22 t0_0 t0_1 t0_2 t0_3 t0_4 t0_5 t0_6 t0_7 t0_8 t0_9 t1_0 t2_0 a22 from (by rw [e26]; have h := hS; rw [S_Rea_digitHere.eq_1] at h; replace h := q_s2 h; have c50x := c50; rw [e26] at c50x; rw [if_pos c50x] at h; with_reducible exact h))⟩
    ·
      have b52 : q_F (48 ≤ a22.toInt) := (q_nltI c50)
      refine lv_iload_n hx hb d_10_17_11 rfl (lv_at hl 0 rfl) ?_
      refine lv_bipush (v := 57) hx hb d_10_17_12 (by decide) ?_
      refine lv_icmp_gt (tgt := 22) hx hb d_10_17_14 (by decide) (fun c53 => ?_) (fun c53 => ?_)
      ·
        exact J30 (()) _ _ _ ws ⟨V, q_lw hl (q_lw1 0 rfl q_lw0), (show F_Rea_digitHere_J22 t0_0 t0_1 t0_2 t0_3 t0_4 t0_5 t0_6 t0_7 t0_8 t0_9 t1_0 t2_0 a22 = (F_Rea_digitHere t0_0 t0_1 t0_2 t0_3 t0_4 t0_5 t0_6 t0_7 t0_8 t0_9 t1_0 t2_0) from (by have c50x := c50; rw [e26] at c50x; have c53x := c53; rw [e26] at c53x; rw [e26, F_Rea_digitHere.eq_1, if_neg c50x, if_pos c53x])), (show True ∧ S_Rea_digitHere_J22 t0_0 t0_1 t0_2 t0_3 t0_4 t0_5 t0_6 t0_7 t0_8 t0_9 t1_0 t2_0 a22 from (by rw [e26]; have h := hS; rw [S_Rea_digitHere.eq_1] at h; replace h := q_s2 h; have c50x := c50; rw [e26] at c50x; rw [if_neg c50x] at h; have c53x := c53; rw [e26] at c53x; rw [if_pos c53x] at h; with_reducible exact h))⟩
      ·
        have b55 : q_F (a22.toInt ≤ 57) := (q_nltI c53)
        refine lv_iload_n hx hb d_10_17_17 rfl (lv_at hl 0 rfl) ?_
        refine lv_bipush (v := 48) hx hb d_10_17_18 (by decide) ?_
        refine lv_isub hx hb d_10_17_20 ?_
        obtain ⟨a56, e57⟩ := q_nm (a22 - 48 : Int32)
        refine q_ti (v := a56) e57 ?_
        have b58 : q_F (a56.toInt = a22.toInt - 48) := (by rw [← e57]; show (a22 - 48 : Int32).toInt = a22.toInt - 48; exact q_subI (x := a22.toInt) (y := 48) rfl (by decide) (by have t1 : 0 ≤ a22.toInt + 1 := b23; have t2 : a22.toInt ≤ 255 := b24; omega) (by have t1 : 0 ≤ a22.toInt + 1 := b23; have t2 : a22.toInt ≤ 255 := b24; omega))
        exact q_reti C0 V (⟨rfl, (show 0 ≤ a56.toInt from (by have t1 : 48 ≤ a22.toInt := b52; have t2 : a56.toInt = a22.toInt - 48 := b58; omega)), (show a56.toInt ≤ 99 from (by have t1 : a22.toInt ≤ 57 := b55; have t2 : a56.toInt = a22.toInt - 48 := b58; omega)), (show a56 = (F_Rea_digitHere t0_0 t0_1 t0_2 t0_3 t0_4 t0_5 t0_6 t0_7 t0_8 t0_9 t1_0 t2_0) from (by have c50x := c50; rw [e26] at c50x; have c53x := c53; rw [e26] at c53x; rw [← e57, e26, F_Rea_digitHere.eq_1, if_neg c50x, if_neg c53x]))⟩) d_10_17_21
def F_Rea_begin (t0_0 : Int64) (t0_1 : Int64) (t0_2 : Int32) (t0_3 : Int32) (t0_4 : Int32) (t0_5 : Int32) (t0_6 : Int32) (t0_7 : Int32) (t0_8 : Int32) (t0_9 : Int64) (t1_0 : Int32) (t2_0 : (Nat → Int64)) : Int64 × Int64 × Int32 × Int32 × Int32 × Int32 × Int32 × Int32 × Int32 × Int64 := (t0_0, t0_1, (0 : Int32), t1_0, t0_4, t0_5, t0_6, t0_7, t0_8, t0_9)
set_option maxRecDepth 100000 in
set_option maxHeartbeats 4000000 in
theorem X_Rea_begin (l : Launch) (D : va_G) (g : Nat → ClassId) (q : Nat → Nat) (ws : va_W) (hI : q_I (nsh g q) q ws) (t0_0 : Int64) (t0_1 : Int64) (t0_2 : Int32) (t0_3 : Int32) (t0_4 : Int32) (t0_5 : Int32) (t0_6 : Int32) (t0_7 : Int32) (t0_8 : Int32) (t0_9 : Int64) (hT0 : ws[38]? = (some (q 38, .inr (8, [.long t0_0, .long t0_1, .ref (q 1), .ref (q 9), .int t0_2, .int t0_3, .int t0_4, .int t0_5, .int t0_6, .int t0_7, .int t0_8, .long t0_9])) : Option (Nat × va_E))) (t1_0 : Int32) (hT1 : ws[1]? = (some (q 1, .inr (1, [.ref (q 2), .int 4100, .int t1_0])) : Option (Nat × va_E))) (t2_0 : (Nat → Int64)) (hT2 : ws[2]? = (some (q 2, .inl (g 1, (513 : Int32).toNatClampNeg, .inr (.inl t2_0))) : Option (Nat × va_E))) : q_mV l y_Rea_begin prog_10_method_9_code 1 1 0 0 D g [.ref (q 38)] ws (fun u => q_I (nsh g q) q u ∧ q_un ws u [38] ∧ ∃ (u0_0 : Int64) (u0_1 : Int64) (u0_2 : Int32) (u0_3 : Int32) (u0_4 : Int32) (u0_5 : Int32) (u0_6 : Int32) (u0_7 : Int32) (u0_8 : Int32) (u0_9 : Int64), u[38]? = (some (q 38, .inr (8, [.long u0_0, .long u0_1, .ref (q 1), .ref (q 9), .int u0_2, .int u0_3, .int u0_4, .int u0_5, .int u0_6, .int u0_7, .int u0_8, .long u0_9])) : Option (Nat × va_E)) ∧ (0 ≤ u0_2.toInt) ∧ (u0_2.toInt ≤ 0) ∧ (t0_0.toInt ≤ u0_0.toInt) ∧ (u0_0.toInt ≤ t0_0.toInt) ∧ (t0_1.toInt ≤ u0_1.toInt) ∧ (u0_1.toInt ≤ t0_1.toInt) ∧ (t1_0.toInt ≤ u0_3.toInt) ∧ (u0_3.toInt ≤ t1_0.toInt) ∧ (t0_4.toInt ≤ u0_4.toInt) ∧ (u0_4.toInt ≤ t0_4.toInt) ∧ (t0_5.toInt ≤ u0_5.toInt) ∧ (u0_5.toInt ≤ t0_5.toInt) ∧ (t0_6.toInt ≤ u0_6.toInt) ∧ (u0_6.toInt ≤ t0_6.toInt) ∧ (t0_7.toInt ≤ u0_7.toInt) ∧ (u0_7.toInt ≤ t0_7.toInt) ∧ (t0_8.toInt ≤ u0_8.toInt) ∧ (u0_8.toInt ≤ t0_8.toInt) ∧ (t0_9.toInt ≤ u0_9.toInt) ∧ (u0_9.toInt ≤ t0_9.toInt) ∧ (u0_0, u0_1, u0_2, u0_3, u0_4, u0_5, u0_6, u0_7, u0_8, u0_9) = (F_Rea_begin t0_0 t0_1 t0_2 t0_3 t0_4 t0_5 t0_6 t0_7 t0_8 t0_9 t1_0 t2_0)) := by
  intro sz
  refine q_into (by decide) (Nat.le_of_ble_eq_true rfl) ?_
  intro p e s m below meth c ls hsz C0 V hl
  have hx := C0.1
  have hb := C0.2.1
  obtain ⟨btt0_4, btt0_8⟩ := n_w38 hI hT0
  replace btt0_4 : q_F (0 ≤ t0_4.toInt ∧ t0_4.toInt ≤ 1) := btt0_4
  replace btt0_8 : q_F (0 ≤ t0_8.toInt ∧ t0_8.toInt ≤ 1) := btt0_8
  have btt1_0 := n_shW hI (n_h1 g q) hT1
  clear btt1_0
  have hF : q_un ws ws [38] := q_u0
  have hl : lv_has ls 1 [(0, .ref (q 38))] := hl
  refine lv_aload_n hx hb d_10_9_0 rfl (lv_at hl 0 rfl) ?_
  refine lv_iconst (v := 0) hx hb d_10_9_1 (by decide) ?_
  refine q_put (ci := 8) (j := 4) (v := .int 0) (ty := .int) C0 V i_Rea o_Rea n_Rea rfl rfl hT0 (by decide) w_290 rfl rfl rfl rfl (Nat.le_of_ble_eq_true rfl) d_10_9_2 (fun H locs w19 hu20 hT0 V => ?_)
  replace hT0 : w19[38]? = (some (q 38, .inr (8, [.long t0_0, .long t0_1, .ref (q 1), .ref (q 9), .int 0, .int t0_3, .int t0_4, .int t0_5, .int t0_6, .int t0_7, .int t0_8, .long t0_9])) : Option (Nat × va_E)) := hT0
  replace hI := n_p38 hI hu20 hT0 (by first | with_reducible exact q_fe btt0_4 | exact ⟨(by have t1 : 0 ≤ t0_4.toInt ∧ t0_4.toInt ≤ 1 := btt0_4; omega), (by have t1 : 0 ≤ t0_4.toInt ∧ t0_4.toInt ≤ 1 := btt0_4; omega)⟩) (by first | with_reducible exact q_fe btt0_8 | exact ⟨(by have t1 : 0 ≤ t0_8.toInt ∧ t0_8.toInt ≤ 1 := btt0_8; omega), (by have t1 : 0 ≤ t0_8.toInt ∧ t0_8.toInt ≤ 1 := btt0_8; omega)⟩)
  replace hT1 := (hu20 _ (by decide)).trans hT1
  replace hF := q_us hF hu20 (by simp)
  refine lv_aload_n hx hb d_10_9_5 rfl (lv_at hl 0 rfl) ?_
  refine lv_aload_n hx hb d_10_9_6 rfl (lv_at hl 0 rfl) ?_
  refine q_get (ci := 8) (j := 2) (v := .ref (q 1)) C0 V i_Rea rfl rfl hT0 (by decide) w_288 rfl d_10_9_7 ?_
  refine q_get (ci := 1) (j := 2) (v := .int t1_0) C0 V i_She rfl rfl hT1 (by decide) w_59 rfl d_10_9_10 ?_
  refine q_put (ci := 8) (j := 5) (v := .int t1_0) (ty := .int) C0 V i_Rea o_Rea n_Rea rfl rfl hT0 (by decide) w_291 rfl rfl rfl rfl (Nat.le_of_ble_eq_true rfl) d_10_9_13 (fun H locs w21 hu22 hT0 V => ?_)
  replace hT0 : w21[38]? = (some (q 38, .inr (8, [.long t0_0, .long t0_1, .ref (q 1), .ref (q 9), .int 0, .int t1_0, .int t0_4, .int t0_5, .int t0_6, .int t0_7, .int t0_8, .long t0_9])) : Option (Nat × va_E)) := hT0
  replace hI := n_p38 hI hu22 hT0 (by first | with_reducible exact q_fe btt0_4 | exact ⟨(by have t1 : 0 ≤ t0_4.toInt ∧ t0_4.toInt ≤ 1 := btt0_4; omega), (by have t1 : 0 ≤ t0_4.toInt ∧ t0_4.toInt ≤ 1 := btt0_4; omega)⟩) (by first | with_reducible exact q_fe btt0_8 | exact ⟨(by have t1 : 0 ≤ t0_8.toInt ∧ t0_8.toInt ≤ 1 := btt0_8; omega), (by have t1 : 0 ≤ t0_8.toInt ∧ t0_8.toInt ≤ 1 := btt0_8; omega)⟩)
  replace hF := q_us hF hu22 (by simp)
  exact q_retv C0 V (⟨hI, hF, t0_0, t0_1, 0, t1_0, t0_4, t0_5, t0_6, t0_7, t0_8, t0_9, hT0, (show 0 ≤ (0 : Int32).toInt from (by have z14 : (0 : Int32).toInt = 0 := rfl; omega)), (show (0 : Int32).toInt ≤ 0 from (by have z14 : (0 : Int32).toInt = 0 := rfl; omega)), (show t0_0.toInt ≤ t0_0.toInt from (by have z14 : (0 : Int32).toInt = 0 := rfl; omega)), (show t0_0.toInt ≤ t0_0.toInt from (by have z14 : (0 : Int32).toInt = 0 := rfl; omega)), (show t0_1.toInt ≤ t0_1.toInt from (by have z14 : (0 : Int32).toInt = 0 := rfl; omega)), (show t0_1.toInt ≤ t0_1.toInt from (by have z14 : (0 : Int32).toInt = 0 := rfl; omega)), (show t1_0.toInt ≤ t1_0.toInt from (by have z14 : (0 : Int32).toInt = 0 := rfl; omega)), (show t1_0.toInt ≤ t1_0.toInt from (by have z14 : (0 : Int32).toInt = 0 := rfl; omega)), (show t0_4.toInt ≤ t0_4.toInt from (by have z14 : (0 : Int32).toInt = 0 := rfl; omega)), (show t0_4.toInt ≤ t0_4.toInt from (by have z14 : (0 : Int32).toInt = 0 := rfl; omega)), (show t0_5.toInt ≤ t0_5.toInt from (by have z14 : (0 : Int32).toInt = 0 := rfl; omega)), (show t0_5.toInt ≤ t0_5.toInt from (by have z14 : (0 : Int32).toInt = 0 := rfl; omega)), (show t0_6.toInt ≤ t0_6.toInt from (by have z14 : (0 : Int32).toInt = 0 := rfl; omega)), (show t0_6.toInt ≤ t0_6.toInt from (by have z14 : (0 : Int32).toInt = 0 := rfl; omega)), (show t0_7.toInt ≤ t0_7.toInt from (by have z14 : (0 : Int32).toInt = 0 := rfl; omega)), (show t0_7.toInt ≤ t0_7.toInt from (by have z14 : (0 : Int32).toInt = 0 := rfl; omega)), (show t0_8.toInt ≤ t0_8.toInt from (by have z14 : (0 : Int32).toInt = 0 := rfl; omega)), (show t0_8.toInt ≤ t0_8.toInt from (by have z14 : (0 : Int32).toInt = 0 := rfl; omega)), (show t0_9.toInt ≤ t0_9.toInt from (by have z14 : (0 : Int32).toInt = 0 := rfl; omega)), (show t0_9.toInt ≤ t0_9.toInt from (by have z14 : (0 : Int32).toInt = 0 := rfl; omega)), (show (t0_0, t0_1, (0 : Int32), t1_0, t0_4, t0_5, t0_6, t0_7, t0_8, t0_9) = (F_Rea_begin t0_0 t0_1 t0_2 t0_3 t0_4 t0_5 t0_6 t0_7 t0_8 t0_9 t1_0 t2_0) from (by rw [F_Rea_begin.eq_1]))⟩) d_10_9_16
def F_Rea_takeSign_J17 (t0_0 : Int64) (t0_1 : Int64) (t0_2 : Int32) (t0_3 : Int32) (t0_4 : Int32) (t0_5 : Int32) (t0_6 : Int32) (t0_7 : Int32) (t0_8 : Int32) (t0_9 : Int64) (t1_0 : Int32) (t2_0 : (Nat → Int64)) (a22 : Int32) (lx27 : Int32) : Int64 × Int64 × Int32 × Int32 × Int32 × Int32 × Int32 × Int32 × Int32 × Int64 := if a22 = (45 : Int32) then ((t0_0, t0_1, (t0_2 + 1 : Int32), t0_3, lx27, t0_5, t0_6, t0_7, t0_8, t0_9)) else (if a22 = (43 : Int32) then ((t0_0, t0_1, (t0_2 + 1 : Int32), t0_3, lx27, t0_5, t0_6, t0_7, t0_8, t0_9)) else ((t0_0, t0_1, t0_2, t0_3, lx27, t0_5, t0_6, t0_7, t0_8, t0_9)))
def F_Rea_takeSign (t0_0 : Int64) (t0_1 : Int64) (t0_2 : Int32) (t0_3 : Int32) (t0_4 : Int32) (t0_5 : Int32) (t0_6 : Int32) (t0_7 : Int32) (t0_8 : Int32) (t0_9 : Int64) (t1_0 : Int32) (t2_0 : (Nat → Int64)) : Int64 × Int64 × Int32 × Int32 × Int32 × Int32 × Int32 × Int32 × Int32 × Int64 := if ((F_Rea_here t0_0 t0_1 t0_2 t0_3 t0_4 t0_5 t0_6 t0_7 t0_8 t0_9 t1_0 t2_0) : Int32) = (45 : Int32) then (F_Rea_takeSign_J17 t0_0 t0_1 t0_2 t0_3 t0_4 t0_5 t0_6 t0_7 t0_8 t0_9 t1_0 t2_0 ((F_Rea_here t0_0 t0_1 t0_2 t0_3 t0_4 t0_5 t0_6 t0_7 t0_8 t0_9 t1_0 t2_0) : Int32) 1) else (F_Rea_takeSign_J17 t0_0 t0_1 t0_2 t0_3 t0_4 t0_5 t0_6 t0_7 t0_8 t0_9 t1_0 t2_0 ((F_Rea_here t0_0 t0_1 t0_2 t0_3 t0_4 t0_5 t0_6 t0_7 t0_8 t0_9 t1_0 t2_0) : Int32) 0)
def S_Rea_takeSign_J17 (t0_0 : Int64) (t0_1 : Int64) (t0_2 : Int32) (t0_3 : Int32) (t0_4 : Int32) (t0_5 : Int32) (t0_6 : Int32) (t0_7 : Int32) (t0_8 : Int32) (t0_9 : Int64) (t1_0 : Int32) (t2_0 : (Nat → Int64)) (a22 : Int32) (lx27 : Int32) : Prop := if a22 = (45 : Int32) then (True) else (if a22 = (43 : Int32) then (True) else (True))
def S_Rea_takeSign (t0_0 : Int64) (t0_1 : Int64) (t0_2 : Int32) (t0_3 : Int32) (t0_4 : Int32) (t0_5 : Int32) (t0_6 : Int32) (t0_7 : Int32) (t0_8 : Int32) (t0_9 : Int64) (t1_0 : Int32) (t2_0 : (Nat → Int64)) : Prop := (True ∧ S_Rea_here t0_0 t0_1 t0_2 t0_3 t0_4 t0_5 t0_6 t0_7 t0_8 t0_9 t1_0 t2_0) ∧ (if ((F_Rea_here t0_0 t0_1 t0_2 t0_3 t0_4 t0_5 t0_6 t0_7 t0_8 t0_9 t1_0 t2_0) : Int32) = (45 : Int32) then (S_Rea_takeSign_J17 t0_0 t0_1 t0_2 t0_3 t0_4 t0_5 t0_6 t0_7 t0_8 t0_9 t1_0 t2_0 ((F_Rea_here t0_0 t0_1 t0_2 t0_3 t0_4 t0_5 t0_6 t0_7 t0_8 t0_9 t1_0 t2_0) : Int32) 1) else (S_Rea_takeSign_J17 t0_0 t0_1 t0_2 t0_3 t0_4 t0_5 t0_6 t0_7 t0_8 t0_9 t1_0 t2_0 ((F_Rea_here t0_0 t0_1 t0_2 t0_3 t0_4 t0_5 t0_6 t0_7 t0_8 t0_9 t1_0 t2_0) : Int32) 0))
set_option maxRecDepth 100000 in
set_option maxHeartbeats 4000000 in
theorem X_Rea_takeSign (l : Launch) (D : va_G) (g : Nat → ClassId) (q : Nat → Nat) (ws : va_W) (hI : q_I (nsh g q) q ws) (t0_0 : Int64) (t0_1 : Int64) (t0_2 : Int32) (t0_3 : Int32) (t0_4 : Int32) (t0_5 : Int32) (t0_6 : Int32) (t0_7 : Int32) (t0_8 : Int32) (t0_9 : Int64) (hT0 : ws[38]? = (some (q 38, .inr (8, [.long t0_0, .long t0_1, .ref (q 1), .ref (q 9), .int t0_2, .int t0_3, .int t0_4, .int t0_5, .int t0_6, .int t0_7, .int t0_8, .long t0_9])) : Option (Nat × va_E))) (t1_0 : Int32) (hT1 : ws[1]? = (some (q 1, .inr (1, [.ref (q 2), .int 4100, .int t1_0])) : Option (Nat × va_E))) (t2_0 : (Nat → Int64)) (hT2 : ws[2]? = (some (q 2, .inl (g 1, (513 : Int32).toNatClampNeg, .inr (.inl t2_0))) : Option (Nat × va_E))) (hS : True ∧ S_Rea_takeSign t0_0 t0_1 t0_2 t0_3 t0_4 t0_5 t0_6 t0_7 t0_8 t0_9 t1_0 t2_0) : q_mV l y_Rea_takeSign prog_10_method_11_code 2 3 0 0 D g [.ref (q 38)] ws (fun u => q_I (nsh g q) q u ∧ q_un ws u [38] ∧ ∃ (u0_0 : Int64) (u0_1 : Int64) (u0_2 : Int32) (u0_3 : Int32) (u0_4 : Int32) (u0_5 : Int32) (u0_6 : Int32) (u0_7 : Int32) (u0_8 : Int32) (u0_9 : Int64), u[38]? = (some (q 38, .inr (8, [.long u0_0, .long u0_1, .ref (q 1), .ref (q 9), .int u0_2, .int u0_3, .int u0_4, .int u0_5, .int u0_6, .int u0_7, .int u0_8, .long u0_9])) : Option (Nat × va_E)) ∧ (0 ≤ u0_4.toInt) ∧ (u0_4.toInt ≤ 1) ∧ (t0_0.toInt ≤ u0_0.toInt) ∧ (u0_0.toInt ≤ t0_0.toInt) ∧ (t0_1.toInt ≤ u0_1.toInt) ∧ (u0_1.toInt ≤ t0_1.toInt) ∧ (t0_3.toInt ≤ u0_3.toInt) ∧ (u0_3.toInt ≤ t0_3.toInt) ∧ (t0_5.toInt ≤ u0_5.toInt) ∧ (u0_5.toInt ≤ t0_5.toInt) ∧ (t0_6.toInt ≤ u0_6.toInt) ∧ (u0_6.toInt ≤ t0_6.toInt) ∧ (t0_7.toInt ≤ u0_7.toInt) ∧ (u0_7.toInt ≤ t0_7.toInt) ∧ (t0_8.toInt ≤ u0_8.toInt) ∧ (u0_8.toInt ≤ t0_8.toInt) ∧ (t0_9.toInt ≤ u0_9.toInt) ∧ (u0_9.toInt ≤ t0_9.toInt) ∧ (u0_0, u0_1, u0_2, u0_3, u0_4, u0_5, u0_6, u0_7, u0_8, u0_9) = (F_Rea_takeSign t0_0 t0_1 t0_2 t0_3 t0_4 t0_5 t0_6 t0_7 t0_8 t0_9 t1_0 t2_0)) := by
  intro sz
  refine q_into (by decide) (Nat.le_of_ble_eq_true rfl) ?_
  intro p e s m below meth c ls hsz C0 V hl
  have hx := C0.1
  have hb := C0.2.1
  have btt0_8 := (n_w38 hI hT0).2
  replace btt0_8 : q_F (0 ≤ t0_8.toInt ∧ t0_8.toInt ≤ 1) := btt0_8
  have btt1_0 := n_shW hI (n_h1 g q) hT1
  clear btt1_0
  have hF : q_un ws ws [38] := q_u0
  have hl : lv_has ls 2 [(0, .ref (q 38))] := hl
  refine lv_aload_n hx hb d_10_11_0 rfl (lv_at hl 0 rfl) ?_
  have ob19 : True ∧ S_Rea_here t0_0 t0_1 t0_2 t0_3 t0_4 t0_5 t0_6 t0_7 t0_8 t0_9 t1_0 t2_0 := (by have h := hS; rw [S_Rea_takeSign.eq_1] at h; with_reducible exact h.2.1)
  refine q_goi V (q_runV (As := []) (rest := []) (d := 2) (mc := 0) (ms := 0) (ci := 8) C0 V rfl LV_Rea_70 (X_Rea_here l D g q ws   hI t0_0 t0_1 t0_2 t0_3 t0_4 t0_5 t0_6 t0_7 t0_8 t0_9 hT0 t1_0 hT1 t2_0 hT2 ob19 _) rfl rfl hT0 rfl hl.1 rfl (Nat.le_of_ble_eq_true rfl) ⟨by decide, by decide⟩ ⟨Nat.le_of_ble_eq_true rfl, Nat.le_of_ble_eq_true rfl⟩ d_10_11_1) (fun a22 u20 H locs hp21 V => ?_)
  obtain ⟨rfl, b23, b24, hE25⟩ := hp21
  have e26 : a22 = (F_Rea_here t0_0 t0_1 t0_2 t0_3 t0_4 t0_5 t0_6 t0_7 t0_8 t0_9 t1_0 t2_0) := hE25
  replace b23 : q_F (0 ≤ a22.toInt + 1) := b23
  clear b24
  refine lv_istore_n (lv' := [(1, .int a22), (0, .ref (q 38))]) hx hb d_10_11_4 rfl hl (by decide) rfl (fun ls hl => ?_)
  refine lv_aload_n hx hb d_10_11_5 rfl (lv_at hl 1 rfl) ?_
  refine lv_iload_n hx hb d_10_11_6 rfl (lv_at hl 0 rfl) ?_
  refine lv_bipush (v := 45) hx hb d_10_11_7 (by decide) ?_
  refine q_join (X := Int32) (fun z H locs ls _ => q_F (0 ≤ z.toInt) ∧ q_F (z.toInt ≤ 1) ∧ q_F (z.toInt ≤ a22.toInt + 1) ∧ q_Wd D g (va_A ws sz) s ws H locs ∧ lv_has ls 2 [(1, .int a22), (0, .ref (q 38))] ∧ F_Rea_takeSign_J17 t0_0 t0_1 t0_2 t0_3 t0_4 t0_5 t0_6 t0_7 t0_8 t0_9 t1_0 t2_0 a22 z = (F_Rea_takeSign t0_0 t0_1 t0_2 t0_3 t0_4 t0_5 t0_6 t0_7 t0_8 t0_9 t1_0 t2_0) ∧ True ∧ S_Rea_takeSign_J17 t0_0 t0_1 t0_2 t0_3 t0_4 t0_5 t0_6 t0_7 t0_8 t0_9 t1_0 t2_0 a22 z) (fun z => [.int z, .ref (q 38)]) 17 0 0 ?_ ?_
  ·
    rintro lx27 H locs ls _ hZ9
    obtain ⟨i32, hZ9⟩ := hZ9
    obtain ⟨i33, hZ9⟩ := hZ9
    replace hZ9 := hZ9.2
    obtain ⟨V, hZ9⟩ := hZ9
    obtain ⟨hl, hZ9⟩ := hZ9
    obtain ⟨hR35, hS36⟩ := hZ9
    replace i32 : q_F (0 ≤ lx27.toInt) := i32
    replace i33 : q_F (lx27.toInt ≤ 1) := i33
    replace hl : lv_has ls 2 [(1, .int a22), (0, .ref (q 38))] := hl
    refine q_put (ci := 8) (j := 6) (v := .int lx27) (ty := .boolean) C0 V i_Rea o_Rea n_Rea rfl rfl hT0 (by decide) w_292 rfl rfl (q_nz01 (q_Ile (x := 0) (y := lx27.toInt) (by decide) rfl (by first | with_reducible exact q_fe i32 | (have t1 : 0 ≤ lx27.toInt := i32; omega))) (q_Ile (x := lx27.toInt) (y := 1) rfl (by decide) (by first | with_reducible exact q_fe i33 | (have t1 : lx27.toInt ≤ 1 := i33; omega)))) (q_fz01 (q_Ile (x := 0) (y := lx27.toInt) (by decide) rfl (by first | with_reducible exact q_fe i32 | (have t1 : 0 ≤ lx27.toInt := i32; omega))) (q_Ile (x := lx27.toInt) (y := 1) rfl (by decide) (by first | with_reducible exact q_fe i33 | (have t1 : lx27.toInt ≤ 1 := i33; omega)))) (Nat.le_of_ble_eq_true rfl) d_10_11_17 (fun H locs w40 hu41 hT0 V => ?_)
    replace hT0 : w40[38]? = (some (q 38, .inr (8, [.long t0_0, .long t0_1, .ref (q 1), .ref (q 9), .int t0_2, .int t0_3, .int lx27, .int t0_5, .int t0_6, .int t0_7, .int t0_8, .long t0_9])) : Option (Nat × va_E)) := hT0
    replace hI := n_p38 hI hu41 hT0 ⟨(by first | with_reducible exact q_fe i32 | (have t1 : 0 ≤ lx27.toInt := i32; omega)), (by first | with_reducible exact q_fe i33 | (have t1 : lx27.toInt ≤ 1 := i33; omega))⟩ (by first | with_reducible exact q_fe btt0_8 | exact ⟨(by have t1 : 0 ≤ t0_8.toInt ∧ t0_8.toInt ≤ 1 := btt0_8; omega), (by have t1 : 0 ≤ t0_8.toInt ∧ t0_8.toInt ≤ 1 := btt0_8; omega)⟩)
    replace hF := q_us hF hu41 (by simp)
    refine lv_iload_n hx hb d_10_11_20 rfl (lv_at hl 0 rfl) ?_
    refine lv_bipush (v := 45) hx hb d_10_11_21 (by decide) ?_
    refine lv_icmp_eq (tgt := 32) hx hb d_10_11_23 (by decide) (fun c42 => ?_) (fun c42 => ?_)
    ·
      refine lv_aload_n hx hb d_10_11_32 rfl (lv_at hl 1 rfl) ?_
      refine lv_dup hx hb d_10_11_33 rfl ?_
      refine q_get (ci := 8) (j := 4) (v := .int t0_2) C0 V i_Rea rfl rfl hT0 (by decide) w_290 rfl d_10_11_34 ?_
      refine lv_iconst (v := 1) hx hb d_10_11_37 (by decide) ?_
      refine lv_iadd hx hb d_10_11_38 ?_
      obtain ⟨a44, e45⟩ := q_nm (t0_2 + 1 : Int32)
      refine q_ti (v := a44) e45 ?_
      refine q_put (ci := 8) (j := 4) (v := .int a44) (ty := .int) C0 V i_Rea o_Rea n_Rea rfl rfl hT0 (by decide) w_290 rfl rfl rfl rfl (Nat.le_of_ble_eq_true rfl) d_10_11_39 (fun H locs w46 hu47 hT0 V => ?_)
      replace hT0 : w46[38]? = (some (q 38, .inr (8, [.long t0_0, .long t0_1, .ref (q 1), .ref (q 9), .int a44, .int t0_3, .int lx27, .int t0_5, .int t0_6, .int t0_7, .int t0_8, .long t0_9])) : Option (Nat × va_E)) := hT0
      replace hI := n_p38 hI hu47 hT0 ⟨(by first | with_reducible exact q_fe i32 | (have t1 : 0 ≤ lx27.toInt := i32; omega)), (by first | with_reducible exact q_fe i33 | (have t1 : lx27.toInt ≤ 1 := i33; omega))⟩ (by first | with_reducible exact q_fe btt0_8 | exact ⟨(by have t1 : 0 ≤ t0_8.toInt ∧ t0_8.toInt ≤ 1 := btt0_8; omega), (by have t1 : 0 ≤ t0_8.toInt ∧ t0_8.toInt ≤ 1 := btt0_8; omega)⟩)
      replace hF := q_us hF hu47 (by simp)
      exact q_retv C0 V (⟨hI, hF, t0_0, t0_1, a44, t0_3, lx27, t0_5, t0_6, t0_7, t0_8, t0_9, hT0, (show 0 ≤ lx27.toInt from (by first | with_reducible exact q_fe i32 | (have t1 : 0 ≤ lx27.toInt := i32; omega))), (show lx27.toInt ≤ 1 from (by first | with_reducible exact q_fe i33 | (have t1 : lx27.toInt ≤ 1 := i33; omega))), (show t0_0.toInt ≤ t0_0.toInt from (by omega)), (show t0_0.toInt ≤ t0_0.toInt from (by omega)), (show t0_1.toInt ≤ t0_1.toInt from (by omega)), (show t0_1.toInt ≤ t0_1.toInt from (by omega)), (show t0_3.toInt ≤ t0_3.toInt from (by omega)), (show t0_3.toInt ≤ t0_3.toInt from (by omega)), (show t0_5.toInt ≤ t0_5.toInt from (by omega)), (show t0_5.toInt ≤ t0_5.toInt from (by omega)), (show t0_6.toInt ≤ t0_6.toInt from (by omega)), (show t0_6.toInt ≤ t0_6.toInt from (by omega)), (show t0_7.toInt ≤ t0_7.toInt from (by omega)), (show t0_7.toInt ≤ t0_7.toInt from (by omega)), (show t0_8.toInt ≤ t0_8.toInt from (by omega)), (show t0_8.toInt ≤ t0_8.toInt from (by omega)), (show t0_9.toInt ≤ t0_9.toInt from (by omega)), (show t0_9.toInt ≤ t0_9.toInt from (by omega)), (show (t0_0, t0_1, a44, t0_3, lx27, t0_5, t0_6, t0_7, t0_8, t0_9) = (F_Rea_takeSign t0_0 t0_1 t0_2 t0_3 t0_4 t0_5 t0_6 t0_7 t0_8 t0_9 t1_0 t2_0) from Eq.trans (by rw [← e45, F_Rea_takeSign_J17.eq_1, if_pos c42]) hR35)⟩) d_10_11_42
    ·
      refine lv_iload_n hx hb d_10_11_26 rfl (lv_at hl 0 rfl) ?_
      refine lv_bipush (v := 43) hx hb d_10_11_27 (by decide) ?_
      refine lv_icmp_ne (tgt := 42) hx hb d_10_11_29 (by decide) (fun c49 => ?_) (fun c49 => ?_)
      ·
        exact q_retv C0 V (⟨hI, hF, t0_0, t0_1, t0_2, t0_3, lx27, t0_5, t0_6, t0_7, t0_8, t0_9, hT0, (show 0 ≤ lx27.toInt from (by first | with_reducible exact q_fe i32 | (have t1 : 0 ≤ lx27.toInt := i32; omega))), (show lx27.toInt ≤ 1 from (by first | with_reducible exact q_fe i33 | (have t1 : lx27.toInt ≤ 1 := i33; omega))), (show t0_0.toInt ≤ t0_0.toInt from (by omega)), (show t0_0.toInt ≤ t0_0.toInt from (by omega)), (show t0_1.toInt ≤ t0_1.toInt from (by omega)), (show t0_1.toInt ≤ t0_1.toInt from (by omega)), (show t0_3.toInt ≤ t0_3.toInt from (by omega)), (show t0_3.toInt ≤ t0_3.toInt from (by omega)), (show t0_5.toInt ≤ t0_5.toInt from (by omega)), (show t0_5.toInt ≤ t0_5.toInt from (by omega)), (show t0_6.toInt ≤ t0_6.toInt from (by omega)), (show t0_6.toInt ≤ t0_6.toInt from (by omega)), (show t0_7.toInt ≤ t0_7.toInt from (by omega)), (show t0_7.toInt ≤ t0_7.toInt from (by omega)), (show t0_8.toInt ≤ t0_8.toInt from (by omega)), (show t0_8.toInt ≤ t0_8.toInt from (by omega)), (show t0_9.toInt ≤ t0_9.toInt from (by omega)), (show t0_9.toInt ≤ t0_9.toInt from (by omega)), (show (t0_0, t0_1, t0_2, t0_3, lx27, t0_5, t0_6, t0_7, t0_8, t0_9) = (F_Rea_takeSign t0_0 t0_1 t0_2 t0_3 t0_4 t0_5 t0_6 t0_7 t0_8 t0_9 t1_0 t2_0) from Eq.trans (by rw [F_Rea_takeSign_J17.eq_1, if_neg c42, if_neg c49]) hR35)⟩) d_10_11_42
      ·
        refine lv_aload_n hx hb d_10_11_32 rfl (lv_at hl 1 rfl) ?_
        refine lv_dup hx hb d_10_11_33 rfl ?_
        refine q_get (ci := 8) (j := 4) (v := .int t0_2) C0 V i_Rea rfl rfl hT0 (by decide) w_290 rfl d_10_11_34 ?_
        refine lv_iconst (v := 1) hx hb d_10_11_37 (by decide) ?_
        refine lv_iadd hx hb d_10_11_38 ?_
        obtain ⟨a52, e53⟩ := q_nm (t0_2 + 1 : Int32)
        refine q_ti (v := a52) e53 ?_
        refine q_put (ci := 8) (j := 4) (v := .int a52) (ty := .int) C0 V i_Rea o_Rea n_Rea rfl rfl hT0 (by decide) w_290 rfl rfl rfl rfl (Nat.le_of_ble_eq_true rfl) d_10_11_39 (fun H locs w54 hu55 hT0 V => ?_)
        replace hT0 : w54[38]? = (some (q 38, .inr (8, [.long t0_0, .long t0_1, .ref (q 1), .ref (q 9), .int a52, .int t0_3, .int lx27, .int t0_5, .int t0_6, .int t0_7, .int t0_8, .long t0_9])) : Option (Nat × va_E)) := hT0
        replace hI := n_p38 hI hu55 hT0 ⟨(by first | with_reducible exact q_fe i32 | (have t1 : 0 ≤ lx27.toInt := i32; omega)), (by first | with_reducible exact q_fe i33 | (have t1 : lx27.toInt ≤ 1 := i33; omega))⟩ (by first | with_reducible exact q_fe btt0_8 | exact ⟨(by have t1 : 0 ≤ t0_8.toInt ∧ t0_8.toInt ≤ 1 := btt0_8; omega), (by have t1 : 0 ≤ t0_8.toInt ∧ t0_8.toInt ≤ 1 := btt0_8; omega)⟩)
        replace hF := q_us hF hu55 (by simp)
        exact q_retv C0 V (⟨hI, hF, t0_0, t0_1, a52, t0_3, lx27, t0_5, t0_6, t0_7, t0_8, t0_9, hT0, (show 0 ≤ lx27.toInt from (by first | with_reducible exact q_fe i32 | (have t1 : 0 ≤ lx27.toInt := i32; omega))), (show lx27.toInt ≤ 1 from (by first | with_reducible exact q_fe i33 | (have t1 : lx27.toInt ≤ 1 := i33; omega))), (show t0_0.toInt ≤ t0_0.toInt from (by omega)), (show t0_0.toInt ≤ t0_0.toInt from (by omega)), (show t0_1.toInt ≤ t0_1.toInt from (by omega)), (show t0_1.toInt ≤ t0_1.toInt from (by omega)), (show t0_3.toInt ≤ t0_3.toInt from (by omega)), (show t0_3.toInt ≤ t0_3.toInt from (by omega)), (show t0_5.toInt ≤ t0_5.toInt from (by omega)), (show t0_5.toInt ≤ t0_5.toInt from (by omega)), (show t0_6.toInt ≤ t0_6.toInt from (by omega)), (show t0_6.toInt ≤ t0_6.toInt from (by omega)), (show t0_7.toInt ≤ t0_7.toInt from (by omega)), (show t0_7.toInt ≤ t0_7.toInt from (by omega)), (show t0_8.toInt ≤ t0_8.toInt from (by omega)), (show t0_8.toInt ≤ t0_8.toInt from (by omega)), (show t0_9.toInt ≤ t0_9.toInt from (by omega)), (show t0_9.toInt ≤ t0_9.toInt from (by omega)), (show (t0_0, t0_1, a52, t0_3, lx27, t0_5, t0_6, t0_7, t0_8, t0_9) = (F_Rea_takeSign t0_0 t0_1 t0_2 t0_3 t0_4 t0_5 t0_6 t0_7 t0_8 t0_9 t1_0 t2_0) from Eq.trans (by rw [← e53, F_Rea_takeSign_J17.eq_1, if_neg c42, if_pos c49]) hR35)⟩) d_10_11_42
  ·
    intro J31
    refine lv_icmp_ne (tgt := 16) hx hb d_10_11_9 (by decide) (fun c56 => ?_) (fun c56 => ?_)
    ·
      refine lv_iconst (v := 0) hx hb d_10_11_16 (by decide) ?_
      exact J31 ((0 : Int32)) _ _ _ ws ⟨(show q_F (0 ≤ 0) from (show 0 ≤ 0 from by omega)), (show q_F (0 ≤ 1) from (show 0 ≤ 1 from by omega)), (show q_F (0 ≤ a22.toInt + 1) from (show 0 ≤ a22.toInt + 1 from by have t1 : 0 ≤ a22.toInt + 1 := b23; omega)), V, q_lw hl (q_lw1 0 rfl (q_lw1 1 rfl q_lw0)), (show F_Rea_takeSign_J17 t0_0 t0_1 t0_2 t0_3 t0_4 t0_5 t0_6 t0_7 t0_8 t0_9 t1_0 t2_0 a22 0 = (F_Rea_takeSign t0_0 t0_1 t0_2 t0_3 t0_4 t0_5 t0_6 t0_7 t0_8 t0_9 t1_0 t2_0) from (by have c56x := c56; rw [e26] at c56x; rw [e26, F_Rea_takeSign.eq_1, if_neg c56x])), (show True ∧ S_Rea_takeSign_J17 t0_0 t0_1 t0_2 t0_3 t0_4 t0_5 t0_6 t0_7 t0_8 t0_9 t1_0 t2_0 a22 0 from (by rw [e26]; have h := hS; rw [S_Rea_takeSign.eq_1] at h; replace h := q_s2 h; have c56x := c56; rw [e26] at c56x; rw [if_neg c56x] at h; with_reducible exact h))⟩
    ·
      have b58 : q_F (a22.toInt = 45) := (q_eqI c56)
      refine lv_iconst (v := 1) hx hb d_10_11_12 (by decide) ?_
      refine lv_goto (tgt := 17) hx hb d_10_11_13 (by decide) ?_
      exact J31 ((1 : Int32)) _ _ _ ws ⟨(show q_F (0 ≤ 1) from (show 0 ≤ 1 from by omega)), (show q_F (1 ≤ 1) from (show 1 ≤ 1 from by omega)), (show q_F (1 ≤ a22.toInt + 1) from (show 1 ≤ a22.toInt + 1 from by have t1 : a22.toInt = 45 := b58; omega)), V, q_lw hl (q_lw1 0 rfl (q_lw1 1 rfl q_lw0)), (show F_Rea_takeSign_J17 t0_0 t0_1 t0_2 t0_3 t0_4 t0_5 t0_6 t0_7 t0_8 t0_9 t1_0 t2_0 a22 1 = (F_Rea_takeSign t0_0 t0_1 t0_2 t0_3 t0_4 t0_5 t0_6 t0_7 t0_8 t0_9 t1_0 t2_0) from (by have c56x := c56; rw [e26] at c56x; rw [e26, F_Rea_takeSign.eq_1, if_pos c56x])), (show True ∧ S_Rea_takeSign_J17 t0_0 t0_1 t0_2 t0_3 t0_4 t0_5 t0_6 t0_7 t0_8 t0_9 t1_0 t2_0 a22 1 from (by rw [e26]; have h := hS; rw [S_Rea_takeSign.eq_1] at h; replace h := q_s2 h; have c56x := c56; rw [e26] at c56x; rw [if_pos c56x] at h; with_reducible exact h))⟩
def F_Rea_trimBlanks_L41 (K_F_Rea_trimBlanks_L0 : Int32 → (Int64 × Int64 × Int32 × Int32 × Int32 × Int32 × Int32 × Int32 × Int32 × Int64)) (t0_0 : Int64) (t0_1 : Int64) (t0_2 : Int32) (t0_3 : Int32) (t0_4 : Int32) (t0_5 : Int32) (t0_6 : Int32) (t0_7 : Int32) (t0_8 : Int32) (t0_9 : Int64) (t1_0 : Int32) (t2_0 : (Nat → Int64)) (lx19 : Int32) : Nat → Int32 → (Int64 × Int64 × Int32 × Int32 × Int32 × Int32 × Int32 × Int32 × Int32 × Int64)
  | 0, _ => default
  | fm + 1, lx40 => if lx40 ≤ lx19 then ((t0_0, t0_1, lx19, lx40, t0_4, t0_5, t0_6, t0_7, t0_8, t0_9)) else (if (32 : Int32) < ((F_She_at (4100 : Int32) (513 : Int32) (4100 : Int32) ((lx40 - 1 : Int32).toInt64 : Int64) t1_0 t2_0) : Int32) then ((t0_0, t0_1, lx19, lx40, t0_4, t0_5, t0_6, t0_7, t0_8, t0_9)) else (F_Rea_trimBlanks_L41 K_F_Rea_trimBlanks_L0 t0_0 t0_1 t0_2 t0_3 t0_4 t0_5 t0_6 t0_7 t0_8 t0_9 t1_0 t2_0 lx19 fm (lx40 - 1 : Int32)))
def F_Rea_trimBlanks_J41 (K_F_Rea_trimBlanks_L0 : Int32 → (Int64 × Int64 × Int32 × Int32 × Int32 × Int32 × Int32 × Int32 × Int32 × Int64)) (t0_0 : Int64) (t0_1 : Int64) (t0_2 : Int32) (t0_3 : Int32) (t0_4 : Int32) (t0_5 : Int32) (t0_6 : Int32) (t0_7 : Int32) (t0_8 : Int32) (t0_9 : Int64) (t1_0 : Int32) (t2_0 : (Nat → Int64)) (lx19 : Int32) : Int64 × Int64 × Int32 × Int32 × Int32 × Int32 × Int32 × Int32 × Int32 × Int64 := F_Rea_trimBlanks_L41 K_F_Rea_trimBlanks_L0 t0_0 t0_1 t0_2 t0_3 t0_4 t0_5 t0_6 t0_7 t0_8 t0_9 t1_0 t2_0 lx19 ((t0_3.toInt - (lx19.toInt)).toNat + 1) t0_3
def F_Rea_trimBlanks_L0 (t0_0 : Int64) (t0_1 : Int64) (t0_2 : Int32) (t0_3 : Int32) (t0_4 : Int32) (t0_5 : Int32) (t0_6 : Int32) (t0_7 : Int32) (t0_8 : Int32) (t0_9 : Int64) (t1_0 : Int32) (t2_0 : (Nat → Int64)) : Nat → Int32 → (Int64 × Int64 × Int32 × Int32 × Int32 × Int32 × Int32 × Int32 × Int32 × Int64)
  | 0, _ => default
  | fm + 1, lx19 => if t0_3 ≤ lx19 then (F_Rea_trimBlanks_J41 (F_Rea_trimBlanks_L0 t0_0 t0_1 t0_2 t0_3 t0_4 t0_5 t0_6 t0_7 t0_8 t0_9 t1_0 t2_0 fm) t0_0 t0_1 t0_2 t0_3 t0_4 t0_5 t0_6 t0_7 t0_8 t0_9 t1_0 t2_0 lx19) else (if (32 : Int32) < ((F_She_at (4100 : Int32) (513 : Int32) (4100 : Int32) (lx19.toInt64 : Int64) t1_0 t2_0) : Int32) then (F_Rea_trimBlanks_J41 (F_Rea_trimBlanks_L0 t0_0 t0_1 t0_2 t0_3 t0_4 t0_5 t0_6 t0_7 t0_8 t0_9 t1_0 t2_0 fm) t0_0 t0_1 t0_2 t0_3 t0_4 t0_5 t0_6 t0_7 t0_8 t0_9 t1_0 t2_0 lx19) else (F_Rea_trimBlanks_L0 t0_0 t0_1 t0_2 t0_3 t0_4 t0_5 t0_6 t0_7 t0_8 t0_9 t1_0 t2_0 fm (lx19 + 1 : Int32)))
def F_Rea_trimBlanks (t0_0 : Int64) (t0_1 : Int64) (t0_2 : Int32) (t0_3 : Int32) (t0_4 : Int32) (t0_5 : Int32) (t0_6 : Int32) (t0_7 : Int32) (t0_8 : Int32) (t0_9 : Int64) (t1_0 : Int32) (t2_0 : (Nat → Int64)) : Int64 × Int64 × Int32 × Int32 × Int32 × Int32 × Int32 × Int32 × Int32 × Int64 := F_Rea_trimBlanks_L0 t0_0 t0_1 t0_2 t0_3 t0_4 t0_5 t0_6 t0_7 t0_8 t0_9 t1_0 t2_0 ((t0_3.toInt - t0_2.toInt).toNat + 1) t0_2
def S_Rea_trimBlanks_L41 (K_S_Rea_trimBlanks_L0 : Int32 → Prop) (t0_0 : Int64) (t0_1 : Int64) (t0_2 : Int32) (t0_3 : Int32) (t0_4 : Int32) (t0_5 : Int32) (t0_6 : Int32) (t0_7 : Int32) (t0_8 : Int32) (t0_9 : Int64) (t1_0 : Int32) (t2_0 : (Nat → Int64)) (lx19 : Int32) : Nat → Int32 → Prop
  | 0, _ => False
  | fm + 1, lx40 => if lx40 ≤ lx19 then (True) else ((True ∧ S_She_at (4100 : Int32) (513 : Int32) (4100 : Int32) ((lx40 - 1 : Int32).toInt64 : Int64) t1_0 t2_0) ∧ (if (32 : Int32) < ((F_She_at (4100 : Int32) (513 : Int32) (4100 : Int32) ((lx40 - 1 : Int32).toInt64 : Int64) t1_0 t2_0) : Int32) then (True) else (S_Rea_trimBlanks_L41 K_S_Rea_trimBlanks_L0 t0_0 t0_1 t0_2 t0_3 t0_4 t0_5 t0_6 t0_7 t0_8 t0_9 t1_0 t2_0 lx19 fm (lx40 - 1 : Int32))))
def S_Rea_trimBlanks_J41 (K_S_Rea_trimBlanks_L0 : Int32 → Prop) (t0_0 : Int64) (t0_1 : Int64) (t0_2 : Int32) (t0_3 : Int32) (t0_4 : Int32) (t0_5 : Int32) (t0_6 : Int32) (t0_7 : Int32) (t0_8 : Int32) (t0_9 : Int64) (t1_0 : Int32) (t2_0 : (Nat → Int64)) (lx19 : Int32) : Prop := S_Rea_trimBlanks_L41 K_S_Rea_trimBlanks_L0 t0_0 t0_1 t0_2 t0_3 t0_4 t0_5 t0_6 t0_7 t0_8 t0_9 t1_0 t2_0 lx19 ((t0_3.toInt - (lx19.toInt)).toNat + 1) t0_3
def S_Rea_trimBlanks_L0 (t0_0 : Int64) (t0_1 : Int64) (t0_2 : Int32) (t0_3 : Int32) (t0_4 : Int32) (t0_5 : Int32) (t0_6 : Int32) (t0_7 : Int32) (t0_8 : Int32) (t0_9 : Int64) (t1_0 : Int32) (t2_0 : (Nat → Int64)) : Nat → Int32 → Prop
  | 0, _ => False
  | fm + 1, lx19 => if t0_3 ≤ lx19 then (S_Rea_trimBlanks_J41 (S_Rea_trimBlanks_L0 t0_0 t0_1 t0_2 t0_3 t0_4 t0_5 t0_6 t0_7 t0_8 t0_9 t1_0 t2_0 fm) t0_0 t0_1 t0_2 t0_3 t0_4 t0_5 t0_6 t0_7 t0_8 t0_9 t1_0 t2_0 lx19) else ((True ∧ S_She_at (4100 : Int32) (513 : Int32) (4100 : Int32) (lx19.toInt64 : Int64) t1_0 t2_0) ∧ (if (32 : Int32) < ((F_She_at (4100 : Int32) (513 : Int32) (4100 : Int32) (lx19.toInt64 : Int64) t1_0 t2_0) : Int32) then (S_Rea_trimBlanks_J41 (S_Rea_trimBlanks_L0 t0_0 t0_1 t0_2 t0_3 t0_4 t0_5 t0_6 t0_7 t0_8 t0_9 t1_0 t2_0 fm) t0_0 t0_1 t0_2 t0_3 t0_4 t0_5 t0_6 t0_7 t0_8 t0_9 t1_0 t2_0 lx19) else (S_Rea_trimBlanks_L0 t0_0 t0_1 t0_2 t0_3 t0_4 t0_5 t0_6 t0_7 t0_8 t0_9 t1_0 t2_0 fm (lx19 + 1 : Int32))))
def S_Rea_trimBlanks (t0_0 : Int64) (t0_1 : Int64) (t0_2 : Int32) (t0_3 : Int32) (t0_4 : Int32) (t0_5 : Int32) (t0_6 : Int32) (t0_7 : Int32) (t0_8 : Int32) (t0_9 : Int64) (t1_0 : Int32) (t2_0 : (Nat → Int64)) : Prop := S_Rea_trimBlanks_L0 t0_0 t0_1 t0_2 t0_3 t0_4 t0_5 t0_6 t0_7 t0_8 t0_9 t1_0 t2_0 ((t0_3.toInt - t0_2.toInt).toNat + 1) t0_2
set_option maxRecDepth 100000 in
set_option maxHeartbeats 4000000 in
theorem X_Rea_trimBlanks (l : Launch) (D : va_G) (g : Nat → ClassId) (q : Nat → Nat) (ws : va_W) (hI : q_I (nsh g q) q ws) (t0_0 : Int64) (t0_1 : Int64) (t0_2 : Int32) (t0_3 : Int32) (t0_4 : Int32) (t0_5 : Int32) (t0_6 : Int32) (t0_7 : Int32) (t0_8 : Int32) (t0_9 : Int64) (hT0 : ws[38]? = (some (q 38, .inr (8, [.long t0_0, .long t0_1, .ref (q 1), .ref (q 9), .int t0_2, .int t0_3, .int t0_4, .int t0_5, .int t0_6, .int t0_7, .int t0_8, .long t0_9])) : Option (Nat × va_E))) (t1_0 : Int32) (hT1 : ws[1]? = (some (q 1, .inr (1, [.ref (q 2), .int 4100, .int t1_0])) : Option (Nat × va_E))) (t2_0 : (Nat → Int64)) (hT2 : ws[2]? = (some (q 2, .inl (g 1, (513 : Int32).toNatClampNeg, .inr (.inl t2_0))) : Option (Nat × va_E))) (hS : True ∧ S_Rea_trimBlanks t0_0 t0_1 t0_2 t0_3 t0_4 t0_5 t0_6 t0_7 t0_8 t0_9 t1_0 t2_0) : q_mV l y_Rea_trimBlanks prog_10_method_10_code 1 2 0 0 D g [.ref (q 38)] ws (fun u => q_I (nsh g q) q u ∧ q_un ws u [38] ∧ ∃ (u0_0 : Int64) (u0_1 : Int64) (u0_2 : Int32) (u0_3 : Int32) (u0_4 : Int32) (u0_5 : Int32) (u0_6 : Int32) (u0_7 : Int32) (u0_8 : Int32) (u0_9 : Int64), u[38]? = (some (q 38, .inr (8, [.long u0_0, .long u0_1, .ref (q 1), .ref (q 9), .int u0_2, .int u0_3, .int u0_4, .int u0_5, .int u0_6, .int u0_7, .int u0_8, .long u0_9])) : Option (Nat × va_E)) ∧ (t0_0.toInt ≤ u0_0.toInt) ∧ (u0_0.toInt ≤ t0_0.toInt) ∧ (t0_1.toInt ≤ u0_1.toInt) ∧ (u0_1.toInt ≤ t0_1.toInt) ∧ (t0_2.toInt ≤ u0_2.toInt) ∧ (u0_3.toInt ≤ t0_3.toInt) ∧ (t0_4.toInt ≤ u0_4.toInt) ∧ (u0_4.toInt ≤ t0_4.toInt) ∧ (t0_5.toInt ≤ u0_5.toInt) ∧ (u0_5.toInt ≤ t0_5.toInt) ∧ (t0_6.toInt ≤ u0_6.toInt) ∧ (u0_6.toInt ≤ t0_6.toInt) ∧ (t0_7.toInt ≤ u0_7.toInt) ∧ (u0_7.toInt ≤ t0_7.toInt) ∧ (t0_8.toInt ≤ u0_8.toInt) ∧ (u0_8.toInt ≤ t0_8.toInt) ∧ (t0_9.toInt ≤ u0_9.toInt) ∧ (u0_9.toInt ≤ t0_9.toInt) ∧ (u0_0, u0_1, u0_2, u0_3, u0_4, u0_5, u0_6, u0_7, u0_8, u0_9) = (F_Rea_trimBlanks t0_0 t0_1 t0_2 t0_3 t0_4 t0_5 t0_6 t0_7 t0_8 t0_9 t1_0 t2_0)) := by
  intro sz
  refine q_into (by decide) (Nat.le_of_ble_eq_true rfl) ?_
  intro p e s m below meth c ls hsz C0 V hl
  have hx := C0.1
  have hb := C0.2.1
  obtain ⟨btt0_4, btt0_8⟩ := n_w38 hI hT0
  replace btt0_4 : q_F (0 ≤ t0_4.toInt ∧ t0_4.toInt ≤ 1) := btt0_4
  replace btt0_8 : q_F (0 ≤ t0_8.toInt ∧ t0_8.toInt ≤ 1) := btt0_8
  have btt1_0 := n_shW hI (n_h1 g q) hT1
  clear btt1_0
  have hF : q_un ws ws [38] := q_u0
  have hl : lv_has ls 1 [(0, .ref (q 38))] := hl
  refine q_loop (X := Int32) (fun z H locs ls w22 => q_F (t0_2.toInt ≤ z.toInt) ∧ q_Wd D g (va_A ws sz) s w22 H locs ∧ lv_has ls 1 [(0, .ref (q 38))] ∧ q_I (nsh g q) q w22 ∧ q_un ws w22 [38] ∧ w22[38]? = (some (q 38, .inr (8, [.long t0_0, .long t0_1, .ref (q 1), .ref (q 9), .int z, .int t0_3, .int t0_4, .int t0_5, .int t0_6, .int t0_7, .int t0_8, .long t0_9])) : Option (Nat × va_E)) ∧ w22[1]? = (some (q 1, .inr (1, [.ref (q 2), .int 4100, .int t1_0])) : Option (Nat × va_E)) ∧ w22[2]? = (some (q 2, .inl (g 1, (513 : Int32).toNatClampNeg, .inr (.inl t2_0))) : Option (Nat × va_E)) ∧ (∃ n, (t0_3.toInt - z.toInt).toNat < n ∧ F_Rea_trimBlanks_L0 t0_0 t0_1 t0_2 t0_3 t0_4 t0_5 t0_6 t0_7 t0_8 t0_9 t1_0 t2_0 n z = (F_Rea_trimBlanks t0_0 t0_1 t0_2 t0_3 t0_4 t0_5 t0_6 t0_7 t0_8 t0_9 t1_0 t2_0) ∧ True ∧ S_Rea_trimBlanks_L0 t0_0 t0_1 t0_2 t0_3 t0_4 t0_5 t0_6 t0_7 t0_8 t0_9 t1_0 t2_0 n z)) (fun z => (t0_3.toInt - z.toInt).toNat) ?_ ((t0_2 : Int32)) _ _ _ ws ⟨(show q_F (t0_2.toInt ≤ t0_2.toInt) from (show t0_2.toInt ≤ t0_2.toInt from by omega)), V, q_lw hl (q_lw1 0 rfl q_lw0), hI, hF, hT0, hT1, hT2, ⟨((t0_3.toInt - t0_2.toInt).toNat + 1), Nat.lt_succ_self _, (show F_Rea_trimBlanks_L0 t0_0 t0_1 t0_2 t0_3 t0_4 t0_5 t0_6 t0_7 t0_8 t0_9 t1_0 t2_0 ((t0_3.toInt - t0_2.toInt).toNat + 1) t0_2 = (F_Rea_trimBlanks t0_0 t0_1 t0_2 t0_3 t0_4 t0_5 t0_6 t0_7 t0_8 t0_9 t1_0 t2_0) from (by rw [F_Rea_trimBlanks.eq_1])), (show True ∧ S_Rea_trimBlanks_L0 t0_0 t0_1 t0_2 t0_3 t0_4 t0_5 t0_6 t0_7 t0_8 t0_9 t1_0 t2_0 ((t0_3.toInt - t0_2.toInt).toNat + 1) t0_2 from (by have h := hS; rw [S_Rea_trimBlanks.eq_1] at h; with_reducible exact h))⟩⟩
  rintro lx19 H locs ls w22 ⟨i20, V, hl, hI, hF, hO23, hO24, hO25, ⟨fu28, hf29, hR26, hS27⟩⟩ ih21
  obtain ⟨fm30, rfl⟩ : ∃ m, fu28 = m + 1 := ⟨fu28 - 1, by omega⟩
  replace i20 : q_F (t0_2.toInt ≤ lx19.toInt) := i20
  replace hl : lv_has ls 1 [(0, .ref (q 38))] := hl
  replace hO23 : w22[38]? = (some (q 38, .inr (8, [.long t0_0, .long t0_1, .ref (q 1), .ref (q 9), .int lx19, .int t0_3, .int t0_4, .int t0_5, .int t0_6, .int t0_7, .int t0_8, .long t0_9])) : Option (Nat × va_E)) := hO23
  replace hO24 : w22[1]? = (some (q 1, .inr (1, [.ref (q 2), .int 4100, .int t1_0])) : Option (Nat × va_E)) := hO24
  replace hO25 : w22[2]? = (some (q 2, .inl (g 1, (513 : Int32).toNatClampNeg, .inr (.inl t2_0))) : Option (Nat × va_E)) := hO25
  refine lv_aload_n hx hb d_10_10_0 rfl (lv_at hl 0 rfl) ?_
  refine q_get (ci := 8) (j := 4) (v := .int lx19) C0 V i_Rea rfl rfl hO23 (by decide) w_290 rfl d_10_10_1 ?_
  refine lv_aload_n hx hb d_10_10_4 rfl (lv_at hl 0 rfl) ?_
  refine q_get (ci := 8) (j := 5) (v := .int t0_3) C0 V i_Rea rfl rfl hO23 (by decide) w_291 rfl d_10_10_5 ?_
  refine q_join (X := Unit) (fun z H locs ls _ => q_Wd D g (va_A ws sz) s w22 H locs ∧ lv_has ls 1 [(0, .ref (q 38))] ∧ F_Rea_trimBlanks_J41 (F_Rea_trimBlanks_L0 t0_0 t0_1 t0_2 t0_3 t0_4 t0_5 t0_6 t0_7 t0_8 t0_9 t1_0 t2_0 fm30) t0_0 t0_1 t0_2 t0_3 t0_4 t0_5 t0_6 t0_7 t0_8 t0_9 t1_0 t2_0 lx19 = (F_Rea_trimBlanks t0_0 t0_1 t0_2 t0_3 t0_4 t0_5 t0_6 t0_7 t0_8 t0_9 t1_0 t2_0) ∧ True ∧ S_Rea_trimBlanks_J41 (S_Rea_trimBlanks_L0 t0_0 t0_1 t0_2 t0_3 t0_4 t0_5 t0_6 t0_7 t0_8 t0_9 t1_0 t2_0 fm30) t0_0 t0_1 t0_2 t0_3 t0_4 t0_5 t0_6 t0_7 t0_8 t0_9 t1_0 t2_0 lx19) (fun z => []) 41 0 0 ?_ ?_
  ·
    rintro _ H locs ls _ ⟨V, hl, hR35, hS36⟩
    replace hl : lv_has ls 1 [(0, .ref (q 38))] := hl
    refine q_loop (X := Int32) (fun z H locs ls w43 => q_F (z.toInt ≤ t0_3.toInt) ∧ q_Wd D g (va_A ws sz) s w43 H locs ∧ lv_has ls 1 [(0, .ref (q 38))] ∧ q_I (nsh g q) q w43 ∧ q_un ws w43 [38] ∧ w43[38]? = (some (q 38, .inr (8, [.long t0_0, .long t0_1, .ref (q 1), .ref (q 9), .int lx19, .int z, .int t0_4, .int t0_5, .int t0_6, .int t0_7, .int t0_8, .long t0_9])) : Option (Nat × va_E)) ∧ w43[1]? = (some (q 1, .inr (1, [.ref (q 2), .int 4100, .int t1_0])) : Option (Nat × va_E)) ∧ w43[2]? = (some (q 2, .inl (g 1, (513 : Int32).toNatClampNeg, .inr (.inl t2_0))) : Option (Nat × va_E)) ∧ (∃ n, (z.toInt - (lx19.toInt)).toNat < n ∧ F_Rea_trimBlanks_L41 (F_Rea_trimBlanks_L0 t0_0 t0_1 t0_2 t0_3 t0_4 t0_5 t0_6 t0_7 t0_8 t0_9 t1_0 t2_0 fm30) t0_0 t0_1 t0_2 t0_3 t0_4 t0_5 t0_6 t0_7 t0_8 t0_9 t1_0 t2_0 lx19 n z = (F_Rea_trimBlanks t0_0 t0_1 t0_2 t0_3 t0_4 t0_5 t0_6 t0_7 t0_8 t0_9 t1_0 t2_0) ∧ True ∧ S_Rea_trimBlanks_L41 (S_Rea_trimBlanks_L0 t0_0 t0_1 t0_2 t0_3 t0_4 t0_5 t0_6 t0_7 t0_8 t0_9 t1_0 t2_0 fm30) t0_0 t0_1 t0_2 t0_3 t0_4 t0_5 t0_6 t0_7 t0_8 t0_9 t1_0 t2_0 lx19 n z)) (fun z => (z.toInt - (lx19.toInt)).toNat) ?_ ((t0_3 : Int32)) _ _ _ w22 ⟨(show q_F (t0_3.toInt ≤ t0_3.toInt) from (show t0_3.toInt ≤ t0_3.toInt from by omega)), V, q_lw hl (q_lw1 0 rfl q_lw0), hI, hF, hO23, hO24, hO25, ⟨((t0_3.toInt - (lx19.toInt)).toNat + 1), Nat.lt_succ_self _, (show F_Rea_trimBlanks_L41 (F_Rea_trimBlanks_L0 t0_0 t0_1 t0_2 t0_3 t0_4 t0_5 t0_6 t0_7 t0_8 t0_9 t1_0 t2_0 fm30) t0_0 t0_1 t0_2 t0_3 t0_4 t0_5 t0_6 t0_7 t0_8 t0_9 t1_0 t2_0 lx19 ((t0_3.toInt - (lx19.toInt)).toNat + 1) t0_3 = (F_Rea_trimBlanks t0_0 t0_1 t0_2 t0_3 t0_4 t0_5 t0_6 t0_7 t0_8 t0_9 t1_0 t2_0) from Eq.trans (by rw [F_Rea_trimBlanks_J41.eq_1]) hR35), (show True ∧ S_Rea_trimBlanks_L41 (S_Rea_trimBlanks_L0 t0_0 t0_1 t0_2 t0_3 t0_4 t0_5 t0_6 t0_7 t0_8 t0_9 t1_0 t2_0 fm30) t0_0 t0_1 t0_2 t0_3 t0_4 t0_5 t0_6 t0_7 t0_8 t0_9 t1_0 t2_0 lx19 ((t0_3.toInt - (lx19.toInt)).toNat + 1) t0_3 from (by have h := hS36; rw [S_Rea_trimBlanks_J41.eq_1] at h; with_reducible exact h))⟩⟩
    rintro lx40 H locs ls w43 ⟨i41, V, hl, hI, hF, hO44, hO45, hO46, ⟨fu49, hf50, hR47, hS48⟩⟩ ih42
    obtain ⟨fm51, rfl⟩ : ∃ m, fu49 = m + 1 := ⟨fu49 - 1, by omega⟩
    replace i41 : q_F (lx40.toInt ≤ t0_3.toInt) := i41
    replace hl : lv_has ls 1 [(0, .ref (q 38))] := hl
    replace hO44 : w43[38]? = (some (q 38, .inr (8, [.long t0_0, .long t0_1, .ref (q 1), .ref (q 9), .int lx19, .int lx40, .int t0_4, .int t0_5, .int t0_6, .int t0_7, .int t0_8, .long t0_9])) : Option (Nat × va_E)) := hO44
    replace hO45 : w43[1]? = (some (q 1, .inr (1, [.ref (q 2), .int 4100, .int t1_0])) : Option (Nat × va_E)) := hO45
    replace hO46 : w43[2]? = (some (q 2, .inl (g 1, (513 : Int32).toNatClampNeg, .inr (.inl t2_0))) : Option (Nat × va_E)) := hO46
    refine lv_aload_n hx hb d_10_10_41 rfl (lv_at hl 0 rfl) ?_
    refine q_get (ci := 8) (j := 5) (v := .int lx40) C0 V i_Rea rfl rfl hO44 (by decide) w_291 rfl d_10_10_42 ?_
    refine lv_aload_n hx hb d_10_10_45 rfl (lv_at hl 0 rfl) ?_
    refine q_get (ci := 8) (j := 4) (v := .int lx19) C0 V i_Rea rfl rfl hO44 (by decide) w_290 rfl d_10_10_46 ?_
    refine lv_icmp_le (tgt := 84) hx hb d_10_10_49 (by decide) (fun c52 => ?_) (fun c52 => ?_)
    ·
      exact q_retv C0 V (⟨hI, hF, t0_0, t0_1, lx19, lx40, t0_4, t0_5, t0_6, t0_7, t0_8, t0_9, hO44, (show t0_0.toInt ≤ t0_0.toInt from (by omega)), (show t0_0.toInt ≤ t0_0.toInt from (by omega)), (show t0_1.toInt ≤ t0_1.toInt from (by omega)), (show t0_1.toInt ≤ t0_1.toInt from (by omega)), (show t0_2.toInt ≤ lx19.toInt from (by first | with_reducible exact q_fe i20 | (have t1 : t0_2.toInt ≤ lx19.toInt := i20; omega))), (show lx40.toInt ≤ t0_3.toInt from (by first | with_reducible exact q_fe i41 | (have t1 : lx40.toInt ≤ t0_3.toInt := i41; omega))), (show t0_4.toInt ≤ t0_4.toInt from (by omega)), (show t0_4.toInt ≤ t0_4.toInt from (by omega)), (show t0_5.toInt ≤ t0_5.toInt from (by omega)), (show t0_5.toInt ≤ t0_5.toInt from (by omega)), (show t0_6.toInt ≤ t0_6.toInt from (by omega)), (show t0_6.toInt ≤ t0_6.toInt from (by omega)), (show t0_7.toInt ≤ t0_7.toInt from (by omega)), (show t0_7.toInt ≤ t0_7.toInt from (by omega)), (show t0_8.toInt ≤ t0_8.toInt from (by omega)), (show t0_8.toInt ≤ t0_8.toInt from (by omega)), (show t0_9.toInt ≤ t0_9.toInt from (by omega)), (show t0_9.toInt ≤ t0_9.toInt from (by omega)), (show (t0_0, t0_1, lx19, lx40, t0_4, t0_5, t0_6, t0_7, t0_8, t0_9) = (F_Rea_trimBlanks t0_0 t0_1 t0_2 t0_3 t0_4 t0_5 t0_6 t0_7 t0_8 t0_9 t1_0 t2_0) from Eq.trans (by rw [F_Rea_trimBlanks_L41.eq_2, if_pos c52]) hR47)⟩) d_10_10_84
    ·
      have b54 : q_F (lx19.toInt < lx40.toInt) := (q_nleI c52)
      refine lv_aload_n hx hb d_10_10_52 rfl (lv_at hl 0 rfl) ?_
      refine q_get (ci := 8) (j := 2) (v := .ref (q 1)) C0 V i_Rea rfl rfl hO44 (by decide) w_288 rfl d_10_10_53 ?_
      refine lv_aload_n hx hb d_10_10_56 rfl (lv_at hl 0 rfl) ?_
      refine q_get (ci := 8) (j := 5) (v := .int lx40) C0 V i_Rea rfl rfl hO44 (by decide) w_291 rfl d_10_10_57 ?_
      refine lv_iconst (v := 1) hx hb d_10_10_60 (by decide) ?_
      refine lv_isub hx hb d_10_10_61 ?_
      obtain ⟨a55, e56⟩ := q_nm (lx40 - 1 : Int32)
      refine q_ti (v := a55) e56 ?_
      have b57 : q_F (a55.toInt = lx40.toInt - 1) := (by rw [← e56]; show (lx40 - 1 : Int32).toInt = lx40.toInt - 1; exact q_subI (x := lx40.toInt) (y := 1) rfl (by decide) (by have t1 : lx19.toInt < lx40.toInt := b54; have _ := q_lo32 (x := lx19); have _ := q_hi32 (x := lx19); have _ := q_lo32 (x := lx40); have _ := q_hi32 (x := lx40); omega) (by have t1 : lx19.toInt < lx40.toInt := b54; have _ := q_lo32 (x := lx19); have _ := q_hi32 (x := lx19); have _ := q_lo32 (x := lx40); have _ := q_hi32 (x := lx40); omega))
      refine lv_i2l hx hb d_10_10_62 rfl ?_
      obtain ⟨j58, e59⟩ := q_nm (a55.toInt64 : Int64)
      refine q_tl (v := j58) e59 ?_
      have ob61 : True ∧ S_She_at (4100 : Int32) (513 : Int32) (4100 : Int32) j58 t1_0 t2_0 := (by rw [← e59, ← e56]; have h := hS48; rw [S_Rea_trimBlanks_L41.eq_2] at h; rw [if_neg c52] at h; with_reducible exact h.2.1)
      refine q_goi V (q_runV (As := [.long j58]) (rest := []) (d := 1) (mc := 0) (ms := 0) (ci := 1) C0 V rfl LV_Rea_139 (X_She_at l D g q w43 1 4100 513 4100 (n_h1 g q) j58 hI t1_0 hO45 t2_0 hO46 ob61 _) rfl rfl hO45 rfl hl.1 rfl (Nat.le_of_ble_eq_true rfl) ⟨by decide, by decide⟩ ⟨Nat.le_of_ble_eq_true rfl, Nat.le_of_ble_eq_true rfl⟩ d_10_10_63) (fun a64 u62 H locs hp63 V => ?_)
      obtain ⟨rfl, b65, b66, hE67⟩ := hp63
      have e68 : a64 = (F_She_at (4100 : Int32) (513 : Int32) (4100 : Int32) j58 t1_0 t2_0) := hE67
      clear b65
      clear b66
      refine lv_bipush (v := 32) hx hb d_10_10_66 (by decide) ?_
      refine lv_icmp_gt (tgt := 84) hx hb d_10_10_68 (by decide) (fun c69 => ?_) (fun c69 => ?_)
      ·
        exact q_retv C0 V (⟨hI, hF, t0_0, t0_1, lx19, lx40, t0_4, t0_5, t0_6, t0_7, t0_8, t0_9, hO44, (show t0_0.toInt ≤ t0_0.toInt from (by omega)), (show t0_0.toInt ≤ t0_0.toInt from (by omega)), (show t0_1.toInt ≤ t0_1.toInt from (by omega)), (show t0_1.toInt ≤ t0_1.toInt from (by omega)), (show t0_2.toInt ≤ lx19.toInt from (by first | with_reducible exact q_fe i20 | (have t1 : t0_2.toInt ≤ lx19.toInt := i20; omega))), (show lx40.toInt ≤ t0_3.toInt from (by first | with_reducible exact q_fe i41 | (have t1 : lx40.toInt ≤ t0_3.toInt := i41; omega))), (show t0_4.toInt ≤ t0_4.toInt from (by omega)), (show t0_4.toInt ≤ t0_4.toInt from (by omega)), (show t0_5.toInt ≤ t0_5.toInt from (by omega)), (show t0_5.toInt ≤ t0_5.toInt from (by omega)), (show t0_6.toInt ≤ t0_6.toInt from (by omega)), (show t0_6.toInt ≤ t0_6.toInt from (by omega)), (show t0_7.toInt ≤ t0_7.toInt from (by omega)), (show t0_7.toInt ≤ t0_7.toInt from (by omega)), (show t0_8.toInt ≤ t0_8.toInt from (by omega)), (show t0_8.toInt ≤ t0_8.toInt from (by omega)), (show t0_9.toInt ≤ t0_9.toInt from (by omega)), (show t0_9.toInt ≤ t0_9.toInt from (by omega)), (show (t0_0, t0_1, lx19, lx40, t0_4, t0_5, t0_6, t0_7, t0_8, t0_9) = (F_Rea_trimBlanks t0_0 t0_1 t0_2 t0_3 t0_4 t0_5 t0_6 t0_7 t0_8 t0_9 t1_0 t2_0) from Eq.trans (by have c69x := c69; rw [e68, ← e59, ← e56] at c69x; rw [F_Rea_trimBlanks_L41.eq_2, if_neg c52, if_pos c69x]) hR47)⟩) d_10_10_84
      ·
        refine lv_aload_n hx hb d_10_10_71 rfl (lv_at hl 0 rfl) ?_
        refine lv_dup hx hb d_10_10_72 rfl ?_
        refine q_get (ci := 8) (j := 5) (v := .int lx40) C0 V i_Rea rfl rfl hO44 (by decide) w_291 rfl d_10_10_73 ?_
        refine lv_iconst (v := 1) hx hb d_10_10_76 (by decide) ?_
        refine lv_isub hx hb d_10_10_77 ?_
        obtain ⟨a72, e73⟩ := q_nm (lx40 - 1 : Int32)
        refine q_ti (v := a72) e73 ?_
        have b74 : q_F (a72.toInt = lx40.toInt - 1) := (by rw [← e73]; show (lx40 - 1 : Int32).toInt = lx40.toInt - 1; exact q_subI (x := lx40.toInt) (y := 1) rfl (by decide) (by have t1 : a55.toInt = lx40.toInt - 1 := b57; have _ := q_lo32 (x := a55); have _ := q_hi32 (x := a55); omega) (by have t1 : a55.toInt = lx40.toInt - 1 := b57; have _ := q_lo32 (x := a55); have _ := q_hi32 (x := a55); omega))
        refine q_put (ci := 8) (j := 5) (v := .int a72) (ty := .int) C0 V i_Rea o_Rea n_Rea rfl rfl hO44 (by decide) w_291 rfl rfl rfl rfl (Nat.le_of_ble_eq_true rfl) d_10_10_78 (fun H locs w75 hu76 hO44 V => ?_)
        replace hO44 : w75[38]? = (some (q 38, .inr (8, [.long t0_0, .long t0_1, .ref (q 1), .ref (q 9), .int lx19, .int a72, .int t0_4, .int t0_5, .int t0_6, .int t0_7, .int t0_8, .long t0_9])) : Option (Nat × va_E)) := hO44
        replace hI := n_p38 hI hu76 hO44 (by first | with_reducible exact q_fe btt0_4 | exact ⟨(by have t1 : 0 ≤ t0_4.toInt ∧ t0_4.toInt ≤ 1 := btt0_4; omega), (by have t1 : 0 ≤ t0_4.toInt ∧ t0_4.toInt ≤ 1 := btt0_4; omega)⟩) (by first | with_reducible exact q_fe btt0_8 | exact ⟨(by have t1 : 0 ≤ t0_8.toInt ∧ t0_8.toInt ≤ 1 := btt0_8; omega), (by have t1 : 0 ≤ t0_8.toInt ∧ t0_8.toInt ≤ 1 := btt0_8; omega)⟩)
        replace hO45 := (hu76 _ (by decide)).trans hO45
        replace hO46 := (hu76 _ (by decide)).trans hO46
        replace hF := q_us hF hu76 (by simp)
        refine lv_goto (tgt := 41) hx hb d_10_10_81 (by decide) ?_
        exact ih42 ((a72 : Int32)) _ _ _ _ (show (a72.toInt - (lx19.toInt)).toNat < (lx40.toInt - (lx19.toInt)).toNat from by have t1 : a72.toInt = lx40.toInt - 1 := b74; have t2 : lx19.toInt < lx40.toInt := b54; omega) ⟨(show q_F (a72.toInt ≤ t0_3.toInt) from (show a72.toInt ≤ t0_3.toInt from by have t1 : lx40.toInt ≤ t0_3.toInt := i41; have t2 : a72.toInt = lx40.toInt - 1 := b74; omega)), V, q_lw hl (q_lw1 0 rfl q_lw0), hI, hF, hO44, hO45, hO46, ⟨fm51, Nat.lt_of_lt_of_le (show (a72.toInt - (lx19.toInt)).toNat < (lx40.toInt - (lx19.toInt)).toNat from by have t1 : a72.toInt = lx40.toInt - 1 := b74; have t2 : lx19.toInt < lx40.toInt := b54; omega) (Nat.le_of_lt_succ hf50), (show F_Rea_trimBlanks_L41 (F_Rea_trimBlanks_L0 t0_0 t0_1 t0_2 t0_3 t0_4 t0_5 t0_6 t0_7 t0_8 t0_9 t1_0 t2_0 fm30) t0_0 t0_1 t0_2 t0_3 t0_4 t0_5 t0_6 t0_7 t0_8 t0_9 t1_0 t2_0 lx19 fm51 a72 = (F_Rea_trimBlanks t0_0 t0_1 t0_2 t0_3 t0_4 t0_5 t0_6 t0_7 t0_8 t0_9 t1_0 t2_0) from Eq.trans (by have c69x := c69; rw [e68, ← e59, ← e56] at c69x; rw [← e73, F_Rea_trimBlanks_L41.eq_2, if_neg c52, if_neg c69x]) hR47), (show True ∧ S_Rea_trimBlanks_L41 (S_Rea_trimBlanks_L0 t0_0 t0_1 t0_2 t0_3 t0_4 t0_5 t0_6 t0_7 t0_8 t0_9 t1_0 t2_0 fm30) t0_0 t0_1 t0_2 t0_3 t0_4 t0_5 t0_6 t0_7 t0_8 t0_9 t1_0 t2_0 lx19 fm51 a72 from (by rw [← e73]; have h := hS48; rw [S_Rea_trimBlanks_L41.eq_2] at h; rw [if_neg c52] at h; replace h := q_s2 h; have c69x := c69; rw [e68, ← e59, ← e56] at c69x; rw [if_neg c69x] at h; with_reducible exact h))⟩⟩
  ·
    intro J34
    refine lv_icmp_ge (tgt := 41) hx hb d_10_10_8 (by decide) (fun c77 => ?_) (fun c77 => ?_)
    ·
      exact J34 (()) _ _ _ w22 ⟨V, q_lw hl (q_lw1 0 rfl q_lw0), (show F_Rea_trimBlanks_J41 (F_Rea_trimBlanks_L0 t0_0 t0_1 t0_2 t0_3 t0_4 t0_5 t0_6 t0_7 t0_8 t0_9 t1_0 t2_0 fm30) t0_0 t0_1 t0_2 t0_3 t0_4 t0_5 t0_6 t0_7 t0_8 t0_9 t1_0 t2_0 lx19 = (F_Rea_trimBlanks t0_0 t0_1 t0_2 t0_3 t0_4 t0_5 t0_6 t0_7 t0_8 t0_9 t1_0 t2_0) from Eq.trans (by rw [F_Rea_trimBlanks_L0.eq_2, if_pos c77]) hR26), (show True ∧ S_Rea_trimBlanks_J41 (S_Rea_trimBlanks_L0 t0_0 t0_1 t0_2 t0_3 t0_4 t0_5 t0_6 t0_7 t0_8 t0_9 t1_0 t2_0 fm30) t0_0 t0_1 t0_2 t0_3 t0_4 t0_5 t0_6 t0_7 t0_8 t0_9 t1_0 t2_0 lx19 from (by have h := hS27; rw [S_Rea_trimBlanks_L0.eq_2] at h; rw [if_pos c77] at h; with_reducible exact h))⟩
    ·
      have b79 : q_F (lx19.toInt < t0_3.toInt) := (q_nleI c77)
      refine lv_aload_n hx hb d_10_10_11 rfl (lv_at hl 0 rfl) ?_
      refine q_get (ci := 8) (j := 2) (v := .ref (q 1)) C0 V i_Rea rfl rfl hO23 (by decide) w_288 rfl d_10_10_12 ?_
      refine lv_aload_n hx hb d_10_10_15 rfl (lv_at hl 0 rfl) ?_
      refine q_get (ci := 8) (j := 4) (v := .int lx19) C0 V i_Rea rfl rfl hO23 (by decide) w_290 rfl d_10_10_16 ?_
      refine lv_i2l hx hb d_10_10_19 rfl ?_
      obtain ⟨j80, e81⟩ := q_nm (lx19.toInt64 : Int64)
      refine q_tl (v := j80) e81 ?_
      have ob83 : True ∧ S_She_at (4100 : Int32) (513 : Int32) (4100 : Int32) j80 t1_0 t2_0 := (by rw [← e81]; have h := hS27; rw [S_Rea_trimBlanks_L0.eq_2] at h; rw [if_neg c77] at h; with_reducible exact h.2.1)
      refine q_goi V (q_runV (As := [.long j80]) (rest := []) (d := 1) (mc := 0) (ms := 0) (ci := 1) C0 V rfl LV_Rea_139 (X_She_at l D g q w22 1 4100 513 4100 (n_h1 g q) j80 hI t1_0 hO24 t2_0 hO25 ob83 _) rfl rfl hO24 rfl hl.1 rfl (Nat.le_of_ble_eq_true rfl) ⟨by decide, by decide⟩ ⟨Nat.le_of_ble_eq_true rfl, Nat.le_of_ble_eq_true rfl⟩ d_10_10_20) (fun a86 u84 H locs hp85 V => ?_)
      obtain ⟨rfl, b87, b88, hE89⟩ := hp85
      have e90 : a86 = (F_She_at (4100 : Int32) (513 : Int32) (4100 : Int32) j80 t1_0 t2_0) := hE89
      clear b87
      clear b88
      refine lv_bipush (v := 32) hx hb d_10_10_23 (by decide) ?_
      refine lv_icmp_gt (tgt := 41) hx hb d_10_10_25 (by decide) (fun c91 => ?_) (fun c91 => ?_)
      ·
        exact J34 (()) _ _ _ w22 ⟨V, q_lw hl (q_lw1 0 rfl q_lw0), (show F_Rea_trimBlanks_J41 (F_Rea_trimBlanks_L0 t0_0 t0_1 t0_2 t0_3 t0_4 t0_5 t0_6 t0_7 t0_8 t0_9 t1_0 t2_0 fm30) t0_0 t0_1 t0_2 t0_3 t0_4 t0_5 t0_6 t0_7 t0_8 t0_9 t1_0 t2_0 lx19 = (F_Rea_trimBlanks t0_0 t0_1 t0_2 t0_3 t0_4 t0_5 t0_6 t0_7 t0_8 t0_9 t1_0 t2_0) from Eq.trans (by have c91x := c91; rw [e90, ← e81] at c91x; rw [F_Rea_trimBlanks_L0.eq_2, if_neg c77, if_pos c91x]) hR26), (show True ∧ S_Rea_trimBlanks_J41 (S_Rea_trimBlanks_L0 t0_0 t0_1 t0_2 t0_3 t0_4 t0_5 t0_6 t0_7 t0_8 t0_9 t1_0 t2_0 fm30) t0_0 t0_1 t0_2 t0_3 t0_4 t0_5 t0_6 t0_7 t0_8 t0_9 t1_0 t2_0 lx19 from (by have h := hS27; rw [S_Rea_trimBlanks_L0.eq_2] at h; rw [if_neg c77] at h; replace h := q_s2 h; have c91x := c91; rw [e90, ← e81] at c91x; rw [if_pos c91x] at h; with_reducible exact h))⟩
      ·
        refine lv_aload_n hx hb d_10_10_28 rfl (lv_at hl 0 rfl) ?_
        refine lv_dup hx hb d_10_10_29 rfl ?_
        refine q_get (ci := 8) (j := 4) (v := .int lx19) C0 V i_Rea rfl rfl hO23 (by decide) w_290 rfl d_10_10_30 ?_
        refine lv_iconst (v := 1) hx hb d_10_10_33 (by decide) ?_
        refine lv_iadd hx hb d_10_10_34 ?_
        obtain ⟨a94, e95⟩ := q_nm (lx19 + 1 : Int32)
        refine q_ti (v := a94) e95 ?_
        have b96 : q_F (a94.toInt = lx19.toInt + 1) := (by rw [← e95]; show (lx19 + 1 : Int32).toInt = lx19.toInt + 1; exact q_addI (x := lx19.toInt) (y := 1) rfl (by decide) (by have _ := q_lo32 (x := lx19); have _ := q_hi32 (x := lx19); have t1 : lx19.toInt < t0_3.toInt := b79; have _ := q_lo32 (x := t0_3); have _ := q_hi32 (x := t0_3); omega) (by have _ := q_lo32 (x := lx19); have _ := q_hi32 (x := lx19); have t1 : lx19.toInt < t0_3.toInt := b79; have _ := q_lo32 (x := t0_3); have _ := q_hi32 (x := t0_3); omega))
        refine q_put (ci := 8) (j := 4) (v := .int a94) (ty := .int) C0 V i_Rea o_Rea n_Rea rfl rfl hO23 (by decide) w_290 rfl rfl rfl rfl (Nat.le_of_ble_eq_true rfl) d_10_10_35 (fun H locs w97 hu98 hO23 V => ?_)
        replace hO23 : w97[38]? = (some (q 38, .inr (8, [.long t0_0, .long t0_1, .ref (q 1), .ref (q 9), .int a94, .int t0_3, .int t0_4, .int t0_5, .int t0_6, .int t0_7, .int t0_8, .long t0_9])) : Option (Nat × va_E)) := hO23
        replace hI := n_p38 hI hu98 hO23 (by first | with_reducible exact q_fe btt0_4 | exact ⟨(by have t1 : 0 ≤ t0_4.toInt ∧ t0_4.toInt ≤ 1 := btt0_4; omega), (by have t1 : 0 ≤ t0_4.toInt ∧ t0_4.toInt ≤ 1 := btt0_4; omega)⟩) (by first | with_reducible exact q_fe btt0_8 | exact ⟨(by have t1 : 0 ≤ t0_8.toInt ∧ t0_8.toInt ≤ 1 := btt0_8; omega), (by have t1 : 0 ≤ t0_8.toInt ∧ t0_8.toInt ≤ 1 := btt0_8; omega)⟩)
        replace hO24 := (hu98 _ (by decide)).trans hO24
        replace hO25 := (hu98 _ (by decide)).trans hO25
        replace hF := q_us hF hu98 (by simp)
        refine lv_goto (tgt := 0) hx hb d_10_10_38 (by decide) ?_
        exact ih21 ((a94 : Int32)) _ _ _ _ (show (t0_3.toInt - a94.toInt).toNat < (t0_3.toInt - lx19.toInt).toNat from by have t1 : a94.toInt = lx19.toInt + 1 := b96; have t2 : lx19.toInt < t0_3.toInt := b79; omega) ⟨(show q_F (t0_2.toInt ≤ a94.toInt) from (show t0_2.toInt ≤ a94.toInt from by have t1 : t0_2.toInt ≤ lx19.toInt := i20; have t2 : a94.toInt = lx19.toInt + 1 := b96; omega)), V, q_lw hl (q_lw1 0 rfl q_lw0), hI, hF, hO23, hO24, hO25, ⟨fm30, Nat.lt_of_lt_of_le (show (t0_3.toInt - a94.toInt).toNat < (t0_3.toInt - lx19.toInt).toNat from by have t1 : a94.toInt = lx19.toInt + 1 := b96; have t2 : lx19.toInt < t0_3.toInt := b79; omega) (Nat.le_of_lt_succ hf29), (show F_Rea_trimBlanks_L0 t0_0 t0_1 t0_2 t0_3 t0_4 t0_5 t0_6 t0_7 t0_8 t0_9 t1_0 t2_0 fm30 a94 = (F_Rea_trimBlanks t0_0 t0_1 t0_2 t0_3 t0_4 t0_5 t0_6 t0_7 t0_8 t0_9 t1_0 t2_0) from Eq.trans (by have c91x := c91; rw [e90, ← e81] at c91x; rw [← e95, F_Rea_trimBlanks_L0.eq_2, if_neg c77, if_neg c91x]) hR26), (show True ∧ S_Rea_trimBlanks_L0 t0_0 t0_1 t0_2 t0_3 t0_4 t0_5 t0_6 t0_7 t0_8 t0_9 t1_0 t2_0 fm30 a94 from (by rw [← e95]; have h := hS27; rw [S_Rea_trimBlanks_L0.eq_2] at h; rw [if_neg c77] at h; replace h := q_s2 h; have c91x := c91; rw [e90, ← e81] at c91x; rw [if_neg c91x] at h; with_reducible exact h))⟩⟩
def F_Rea_keepFigure_c17 (x2 : Int32) (x3 : Int32) (x4 : Int32) (t0_0 : Int64) (t0_1 : Int64) (t0_2 : Int32) (t0_3 : Int32) (t0_4 : Int32) (t0_5 : Int32) (t0_6 : Int32) (t0_7 : Int32) (t0_8 : Int32) (t0_9 : Int64) (t1_0 : Int32) (t1_1 : Int32) (t2_0 : (Nat → Int32)) (p57 : (Int32 × Int32 × (Nat → Int32))) : Int64 × Int64 × Int32 × Int32 × Int32 × Int32 × Int32 × Int32 × Int32 × Int64 × Int32 × Int32 × (Nat → Int32) := if (p57.1 : Int32) ≤ (0 : Int32) then ((t0_0, t0_1, t0_2, t0_3, t0_4, t0_5, (t0_6 + 0 : Int32), t0_7, t0_8, t0_9, (p57.1 : Int32), (p57.2.1 : Int32), (p57.2.2 : (Nat → Int32)))) else ((t0_0, t0_1, t0_2, t0_3, t0_4, t0_5, (t0_6 + 1 : Int32), t0_7, t0_8, t0_9, (p57.1 : Int32), (p57.2.1 : Int32), (p57.2.2 : (Nat → Int32))))
def F_Rea_keepFigure (x2 : Int32) (x3 : Int32) (x4 : Int32) (t0_0 : Int64) (t0_1 : Int64) (t0_2 : Int32) (t0_3 : Int32) (t0_4 : Int32) (t0_5 : Int32) (t0_6 : Int32) (t0_7 : Int32) (t0_8 : Int32) (t0_9 : Int64) (t1_0 : Int32) (t1_1 : Int32) (t2_0 : (Nat → Int32)) : Int64 × Int64 × Int32 × Int32 × Int32 × Int32 × Int32 × Int32 × Int32 × Int64 × Int32 × Int32 × (Nat → Int32) := if x4 ≤ t0_6 then (if x3 = (0 : Int32) then ((t0_0, t0_1, t0_2, t0_3, t0_4, t0_5, t0_6, (t0_7 + 1 : Int32), (t0_8 ||| 0 : Int32), t0_9, t1_0, t1_1, t2_0)) else ((t0_0, t0_1, t0_2, t0_3, t0_4, t0_5, t0_6, (t0_7 + 1 : Int32), (t0_8 ||| 1 : Int32), t0_9, t1_0, t1_1, t2_0))) else (F_Rea_keepFigure_c17 x2 x3 x4 t0_0 t0_1 t0_2 t0_3 t0_4 t0_5 t0_6 t0_7 t0_8 t0_9 t1_0 t1_1 t2_0 ((F_Big_multiplySmall (220 : Int32) x2 x3 t1_0 t1_1 t2_0) : (Int32 × Int32 × (Nat → Int32))))
set_option maxRecDepth 100000 in
set_option maxHeartbeats 4000000 in
theorem X_Rea_keepFigure (l : Launch) (D : va_G) (g : Nat → ClassId) (q : Nat → Nat) (ws : va_W) (x2 : Int32) (x3 : Int32) (x4 : Int32) (hI : q_I (nsh g q) q ws) (t0_0 : Int64) (t0_1 : Int64) (t0_2 : Int32) (t0_3 : Int32) (t0_4 : Int32) (t0_5 : Int32) (t0_6 : Int32) (t0_7 : Int32) (t0_8 : Int32) (t0_9 : Int64) (hT0 : ws[38]? = (some (q 38, .inr (8, [.long t0_0, .long t0_1, .ref (q 1), .ref (q 9), .int t0_2, .int t0_3, .int t0_4, .int t0_5, .int t0_6, .int t0_7, .int t0_8, .long t0_9])) : Option (Nat × va_E))) (t1_0 : Int32) (t1_1 : Int32) (hT1 : ws[10]? = (some (q 10, .inr (2, [.ref (q 11), .int t1_0, .int t1_1])) : Option (Nat × va_E))) (t2_0 : (Nat → Int32)) (hT2 : ws[11]? = (some (q 11, .inl (g 0, (220 : Int32).toNatClampNeg, .inl t2_0)) : Option (Nat × va_E))) : q_mV l y_Rea_keepFigure prog_10_method_13_code 4 2 0 0 D g [.ref (q 38), .int x2, .int x3, .int x4] ws (fun u => q_I (nsh g q) q u ∧ q_un ws u [10, 11, 38] ∧ ∃ (u0_0 : Int64) (u0_1 : Int64) (u0_2 : Int32) (u0_3 : Int32) (u0_4 : Int32) (u0_5 : Int32) (u0_6 : Int32) (u0_7 : Int32) (u0_8 : Int32) (u0_9 : Int64) (u1_0 : Int32) (u1_1 : Int32) (u2_0 : (Nat → Int32)), u[38]? = (some (q 38, .inr (8, [.long u0_0, .long u0_1, .ref (q 1), .ref (q 9), .int u0_2, .int u0_3, .int u0_4, .int u0_5, .int u0_6, .int u0_7, .int u0_8, .long u0_9])) : Option (Nat × va_E)) ∧ u[10]? = (some (q 10, .inr (2, [.ref (q 11), .int u1_0, .int u1_1])) : Option (Nat × va_E)) ∧ u[11]? = (some (q 11, .inl (g 0, (220 : Int32).toNatClampNeg, .inl u2_0)) : Option (Nat × va_E)) ∧ (0 ≤ u0_8.toInt) ∧ (u0_8.toInt ≤ 1) ∧ (u1_0.toInt ≤ 220) ∧ (t0_0.toInt ≤ u0_0.toInt) ∧ (u0_0.toInt ≤ t0_0.toInt) ∧ (t0_1.toInt ≤ u0_1.toInt) ∧ (u0_1.toInt ≤ t0_1.toInt) ∧ (t0_2.toInt ≤ u0_2.toInt) ∧ (u0_2.toInt ≤ t0_2.toInt) ∧ (t0_3.toInt ≤ u0_3.toInt) ∧ (u0_3.toInt ≤ t0_3.toInt) ∧ (t0_4.toInt ≤ u0_4.toInt) ∧ (u0_4.toInt ≤ t0_4.toInt) ∧ (t0_5.toInt ≤ u0_5.toInt) ∧ (u0_5.toInt ≤ t0_5.toInt) ∧ (t0_6.toInt ≤ u0_6.toInt) ∧ (u0_6.toInt ≤ t0_6.toInt + 1) ∧ (t0_9.toInt ≤ u0_9.toInt) ∧ (u0_9.toInt ≤ t0_9.toInt) ∧ (t1_0.toInt ≤ u1_0.toInt) ∧ (u1_0.toInt ≤ t1_0.toInt + 1) ∧ (t1_1.toInt ≤ u1_1.toInt) ∧ (u1_1.toInt ≤ t1_1.toInt) ∧ (u0_0, u0_1, u0_2, u0_3, u0_4, u0_5, u0_6, u0_7, u0_8, u0_9, u1_0, u1_1, u2_0) = (F_Rea_keepFigure x2 x3 x4 t0_0 t0_1 t0_2 t0_3 t0_4 t0_5 t0_6 t0_7 t0_8 t0_9 t1_0 t1_1 t2_0)) := by
  intro sz
  refine q_into (by decide) (Nat.le_of_ble_eq_true rfl) ?_
  intro p e s m below meth c ls hsz C0 V hl
  have hx := C0.1
  have hb := C0.2.1
  obtain ⟨btt0_4, btt0_8⟩ := n_w38 hI hT0
  replace btt0_4 : q_F (0 ≤ t0_4.toInt ∧ t0_4.toInt ≤ 1) := btt0_4
  replace btt0_8 : q_F (0 ≤ t0_8.toInt ∧ t0_8.toInt ≤ 1) := btt0_8
  have btt1_0 := (q_bigW hI (n_b10 g q) hT1).1
  replace btt1_0 : q_F (0 ≤ t1_0.toInt ∧ t1_0.toInt ≤ 220) := btt1_0
  have hF : q_un ws ws [10, 11, 38] := q_u0
  have hl : lv_has ls 4 [(0, .ref (q 38)), (1, .int x2), (2, .int x3), (3, .int x4)] := hl
  refine lv_aload_n hx hb d_10_13_0 rfl (lv_at hl 0 rfl) ?_
  refine q_get (ci := 8) (j := 8) (v := .int t0_6) C0 V i_Rea rfl rfl hT0 (by decide) w_294 rfl d_10_13_1 ?_
  refine lv_iload_n hx hb d_10_13_4 rfl (lv_at hl 3 rfl) ?_
  refine lv_icmp_ge (tgt := 50) hx hb d_10_13_5 (by decide) (fun c22 => ?_) (fun c22 => ?_)
  ·
    refine lv_aload_n hx hb d_10_13_50 rfl (lv_at hl 0 rfl) ?_
    refine lv_dup hx hb d_10_13_51 rfl ?_
    refine q_get (ci := 8) (j := 9) (v := .int t0_7) C0 V i_Rea rfl rfl hT0 (by decide) w_295 rfl d_10_13_52 ?_
    refine lv_iconst (v := 1) hx hb d_10_13_55 (by decide) ?_
    refine lv_iadd hx hb d_10_13_56 ?_
    obtain ⟨a24, e25⟩ := q_nm (t0_7 + 1 : Int32)
    refine q_ti (v := a24) e25 ?_
    refine q_put (ci := 8) (j := 9) (v := .int a24) (ty := .int) C0 V i_Rea o_Rea n_Rea rfl rfl hT0 (by decide) w_295 rfl rfl rfl rfl (Nat.le_of_ble_eq_true rfl) d_10_13_57 (fun H locs w26 hu27 hT0 V => ?_)
    replace hT0 : w26[38]? = (some (q 38, .inr (8, [.long t0_0, .long t0_1, .ref (q 1), .ref (q 9), .int t0_2, .int t0_3, .int t0_4, .int t0_5, .int t0_6, .int a24, .int t0_8, .long t0_9])) : Option (Nat × va_E)) := hT0
    replace hI := n_p38 hI hu27 hT0 (by first | with_reducible exact q_fe btt0_4 | exact ⟨(by have t1 : 0 ≤ t0_4.toInt ∧ t0_4.toInt ≤ 1 := btt0_4; omega), (by have t1 : 0 ≤ t0_4.toInt ∧ t0_4.toInt ≤ 1 := btt0_4; omega)⟩) (by first | with_reducible exact q_fe btt0_8 | exact ⟨(by have t1 : 0 ≤ t0_8.toInt ∧ t0_8.toInt ≤ 1 := btt0_8; omega), (by have t1 : 0 ≤ t0_8.toInt ∧ t0_8.toInt ≤ 1 := btt0_8; omega)⟩)
    replace hT1 := (hu27 _ (by decide)).trans hT1
    replace hT2 := (hu27 _ (by decide)).trans hT2
    replace hF := q_us hF hu27 (by simp)
    refine lv_aload_n hx hb d_10_13_60 rfl (lv_at hl 0 rfl) ?_
    refine lv_dup hx hb d_10_13_61 rfl ?_
    refine q_get (ci := 8) (j := 10) (v := .int t0_8) C0 V i_Rea rfl rfl hT0 (by decide) w_296 rfl d_10_13_62 ?_
    refine lv_iload_n hx hb d_10_13_65 rfl (lv_at hl 2 rfl) ?_
    refine lv_if_eq (tgt := 73) hx hb d_10_13_66 (by decide) (fun c28 => ?_) (fun c28 => ?_)
    ·
      refine lv_iconst (v := 0) hx hb d_10_13_73 (by decide) ?_
      refine lv_ior hx hb d_10_13_74 ?_
      obtain ⟨a30, e31⟩ := q_nm (t0_8 ||| 0 : Int32)
      refine q_ti (v := a30) e31 ?_
      have b32 : q_F (0 ≤ a30.toInt ∧ a30.toInt ≤ 1) := (by rw [← e31]; show 0 ≤ (t0_8 ||| 0 : Int32).toInt ∧ (t0_8 ||| 0 : Int32).toInt ≤ 1; exact s_or' (x := t0_8) (y := 0) 1 (by decide) 1 (by decide) (by first | with_reducible exact q_fe btt0_8 | exact ⟨(by have t1 : 0 ≤ t0_8.toInt ∧ t0_8.toInt ≤ 1 := btt0_8; omega), (by have t1 : 0 ≤ t0_8.toInt ∧ t0_8.toInt ≤ 1 := btt0_8; omega)⟩) ⟨(by have z7 : (0 : Int32).toInt = 0 := rfl; omega), (by have z7 : (0 : Int32).toInt = 0 := rfl; omega)⟩)
      refine q_put (ci := 8) (j := 10) (v := .int a30) (ty := .boolean) C0 V i_Rea o_Rea n_Rea rfl rfl hT0 (by decide) w_296 rfl rfl (q_nz01 (q_Ile (x := 0) (y := a30.toInt) (by decide) rfl (by first | with_reducible exact (q_fe b32).2 | with_reducible exact (q_fe b32).1 | (have t1 : 0 ≤ a30.toInt ∧ a30.toInt ≤ 1 := b32; omega))) (q_Ile (x := a30.toInt) (y := 1) rfl (by decide) (by first | with_reducible exact (q_fe b32).2 | with_reducible exact (q_fe b32).1 | (have t1 : 0 ≤ a30.toInt ∧ a30.toInt ≤ 1 := b32; omega)))) (q_fz01 (q_Ile (x := 0) (y := a30.toInt) (by decide) rfl (by first | with_reducible exact (q_fe b32).2 | with_reducible exact (q_fe b32).1 | (have t1 : 0 ≤ a30.toInt ∧ a30.toInt ≤ 1 := b32; omega))) (q_Ile (x := a30.toInt) (y := 1) rfl (by decide) (by first | with_reducible exact (q_fe b32).2 | with_reducible exact (q_fe b32).1 | (have t1 : 0 ≤ a30.toInt ∧ a30.toInt ≤ 1 := b32; omega)))) (Nat.le_of_ble_eq_true rfl) d_10_13_75 (fun H locs w33 hu34 hT0 V => ?_)
      replace hT0 : w33[38]? = (some (q 38, .inr (8, [.long t0_0, .long t0_1, .ref (q 1), .ref (q 9), .int t0_2, .int t0_3, .int t0_4, .int t0_5, .int t0_6, .int a24, .int a30, .long t0_9])) : Option (Nat × va_E)) := hT0
      replace hI := n_p38 hI hu34 hT0 (by first | with_reducible exact q_fe btt0_4 | exact ⟨(by have t1 : 0 ≤ t0_4.toInt ∧ t0_4.toInt ≤ 1 := btt0_4; omega), (by have t1 : 0 ≤ t0_4.toInt ∧ t0_4.toInt ≤ 1 := btt0_4; omega)⟩) (by first | with_reducible exact q_fe b32 | exact ⟨(by have t1 : 0 ≤ a30.toInt ∧ a30.toInt ≤ 1 := b32; omega), (by have t1 : 0 ≤ a30.toInt ∧ a30.toInt ≤ 1 := b32; omega)⟩)
      replace hT1 := (hu34 _ (by decide)).trans hT1
      replace hT2 := (hu34 _ (by decide)).trans hT2
      replace hF := q_us hF hu34 (by simp)
      exact q_retv C0 V (⟨hI, hF, t0_0, t0_1, t0_2, t0_3, t0_4, t0_5, t0_6, a24, a30, t0_9, t1_0, t1_1, t2_0, hT0, hT1, hT2, (show 0 ≤ a30.toInt from (by first | with_reducible exact (q_fe b32).2 | with_reducible exact (q_fe b32).1 | (have t1 : 0 ≤ a30.toInt ∧ a30.toInt ≤ 1 := b32; omega))), (show a30.toInt ≤ 1 from (by first | with_reducible exact (q_fe b32).2 | with_reducible exact (q_fe b32).1 | (have t1 : 0 ≤ a30.toInt ∧ a30.toInt ≤ 1 := b32; omega))), (show t1_0.toInt ≤ 220 from (by first | with_reducible exact (q_fe btt1_0).2 | with_reducible exact (q_fe btt1_0).1 | (have t1 : 0 ≤ t1_0.toInt ∧ t1_0.toInt ≤ 220 := btt1_0; omega))), (show t0_0.toInt ≤ t0_0.toInt from (by omega)), (show t0_0.toInt ≤ t0_0.toInt from (by omega)), (show t0_1.toInt ≤ t0_1.toInt from (by omega)), (show t0_1.toInt ≤ t0_1.toInt from (by omega)), (show t0_2.toInt ≤ t0_2.toInt from (by omega)), (show t0_2.toInt ≤ t0_2.toInt from (by omega)), (show t0_3.toInt ≤ t0_3.toInt from (by omega)), (show t0_3.toInt ≤ t0_3.toInt from (by omega)), (show t0_4.toInt ≤ t0_4.toInt from (by omega)), (show t0_4.toInt ≤ t0_4.toInt from (by omega)), (show t0_5.toInt ≤ t0_5.toInt from (by omega)), (show t0_5.toInt ≤ t0_5.toInt from (by omega)), (show t0_6.toInt ≤ t0_6.toInt from (by omega)), (show t0_6.toInt ≤ t0_6.toInt + 1 from (by omega)), (show t0_9.toInt ≤ t0_9.toInt from (by omega)), (show t0_9.toInt ≤ t0_9.toInt from (by omega)), (show t1_0.toInt ≤ t1_0.toInt from (by omega)), (show t1_0.toInt ≤ t1_0.toInt + 1 from (by omega)), (show t1_1.toInt ≤ t1_1.toInt from (by omega)), (show t1_1.toInt ≤ t1_1.toInt from (by omega)), (show (t0_0, t0_1, t0_2, t0_3, t0_4, t0_5, t0_6, a24, a30, t0_9, t1_0, t1_1, t2_0) = (F_Rea_keepFigure x2 x3 x4 t0_0 t0_1 t0_2 t0_3 t0_4 t0_5 t0_6 t0_7 t0_8 t0_9 t1_0 t1_1 t2_0) from (by rw [← e31, ← e25, F_Rea_keepFigure.eq_1, if_pos c22, if_pos c28]))⟩) d_10_13_78
    ·
      refine lv_iconst (v := 1) hx hb d_10_13_69 (by decide) ?_
      refine lv_goto (tgt := 74) hx hb d_10_13_70 (by decide) ?_
      refine lv_ior hx hb d_10_13_74 ?_
      obtain ⟨a36, e37⟩ := q_nm (t0_8 ||| 1 : Int32)
      refine q_ti (v := a36) e37 ?_
      have b38 : q_F (0 ≤ a36.toInt ∧ a36.toInt ≤ 1) := (by rw [← e37]; show 0 ≤ (t0_8 ||| 1 : Int32).toInt ∧ (t0_8 ||| 1 : Int32).toInt ≤ 1; exact s_or' (x := t0_8) (y := 1) 1 (by decide) 1 (by decide) (by first | with_reducible exact q_fe btt0_8 | exact ⟨(by have t1 : 0 ≤ t0_8.toInt ∧ t0_8.toInt ≤ 1 := btt0_8; omega), (by have t1 : 0 ≤ t0_8.toInt ∧ t0_8.toInt ≤ 1 := btt0_8; omega)⟩) ⟨(by have z7 : (1 : Int32).toInt = 1 := rfl; omega), (by have z7 : (1 : Int32).toInt = 1 := rfl; omega)⟩)
      refine q_put (ci := 8) (j := 10) (v := .int a36) (ty := .boolean) C0 V i_Rea o_Rea n_Rea rfl rfl hT0 (by decide) w_296 rfl rfl (q_nz01 (q_Ile (x := 0) (y := a36.toInt) (by decide) rfl (by first | with_reducible exact (q_fe b38).2 | with_reducible exact (q_fe b38).1 | (have t1 : 0 ≤ a36.toInt ∧ a36.toInt ≤ 1 := b38; omega))) (q_Ile (x := a36.toInt) (y := 1) rfl (by decide) (by first | with_reducible exact (q_fe b38).2 | with_reducible exact (q_fe b38).1 | (have t1 : 0 ≤ a36.toInt ∧ a36.toInt ≤ 1 := b38; omega)))) (q_fz01 (q_Ile (x := 0) (y := a36.toInt) (by decide) rfl (by first | with_reducible exact (q_fe b38).2 | with_reducible exact (q_fe b38).1 | (have t1 : 0 ≤ a36.toInt ∧ a36.toInt ≤ 1 := b38; omega))) (q_Ile (x := a36.toInt) (y := 1) rfl (by decide) (by first | with_reducible exact (q_fe b38).2 | with_reducible exact (q_fe b38).1 | (have t1 : 0 ≤ a36.toInt ∧ a36.toInt ≤ 1 := b38; omega)))) (Nat.le_of_ble_eq_true rfl) d_10_13_75 (fun H locs w39 hu40 hT0 V => ?_)
      replace hT0 : w39[38]? = (some (q 38, .inr (8, [.long t0_0, .long t0_1, .ref (q 1), .ref (q 9), .int t0_2, .int t0_3, .int t0_4, .int t0_5, .int t0_6, .int a24, .int a36, .long t0_9])) : Option (Nat × va_E)) := hT0
      replace hI := n_p38 hI hu40 hT0 (by first | with_reducible exact q_fe btt0_4 | exact ⟨(by have t1 : 0 ≤ t0_4.toInt ∧ t0_4.toInt ≤ 1 := btt0_4; omega), (by have t1 : 0 ≤ t0_4.toInt ∧ t0_4.toInt ≤ 1 := btt0_4; omega)⟩) (by first | with_reducible exact q_fe b38 | exact ⟨(by have t1 : 0 ≤ a36.toInt ∧ a36.toInt ≤ 1 := b38; omega), (by have t1 : 0 ≤ a36.toInt ∧ a36.toInt ≤ 1 := b38; omega)⟩)
      replace hT1 := (hu40 _ (by decide)).trans hT1
      replace hT2 := (hu40 _ (by decide)).trans hT2
      replace hF := q_us hF hu40 (by simp)
      exact q_retv C0 V (⟨hI, hF, t0_0, t0_1, t0_2, t0_3, t0_4, t0_5, t0_6, a24, a36, t0_9, t1_0, t1_1, t2_0, hT0, hT1, hT2, (show 0 ≤ a36.toInt from (by first | with_reducible exact (q_fe b38).2 | with_reducible exact (q_fe b38).1 | (have t1 : 0 ≤ a36.toInt ∧ a36.toInt ≤ 1 := b38; omega))), (show a36.toInt ≤ 1 from (by first | with_reducible exact (q_fe b38).2 | with_reducible exact (q_fe b38).1 | (have t1 : 0 ≤ a36.toInt ∧ a36.toInt ≤ 1 := b38; omega))), (show t1_0.toInt ≤ 220 from (by first | with_reducible exact (q_fe btt1_0).2 | with_reducible exact (q_fe btt1_0).1 | (have t1 : 0 ≤ t1_0.toInt ∧ t1_0.toInt ≤ 220 := btt1_0; omega))), (show t0_0.toInt ≤ t0_0.toInt from (by omega)), (show t0_0.toInt ≤ t0_0.toInt from (by omega)), (show t0_1.toInt ≤ t0_1.toInt from (by omega)), (show t0_1.toInt ≤ t0_1.toInt from (by omega)), (show t0_2.toInt ≤ t0_2.toInt from (by omega)), (show t0_2.toInt ≤ t0_2.toInt from (by omega)), (show t0_3.toInt ≤ t0_3.toInt from (by omega)), (show t0_3.toInt ≤ t0_3.toInt from (by omega)), (show t0_4.toInt ≤ t0_4.toInt from (by omega)), (show t0_4.toInt ≤ t0_4.toInt from (by omega)), (show t0_5.toInt ≤ t0_5.toInt from (by omega)), (show t0_5.toInt ≤ t0_5.toInt from (by omega)), (show t0_6.toInt ≤ t0_6.toInt from (by omega)), (show t0_6.toInt ≤ t0_6.toInt + 1 from (by omega)), (show t0_9.toInt ≤ t0_9.toInt from (by omega)), (show t0_9.toInt ≤ t0_9.toInt from (by omega)), (show t1_0.toInt ≤ t1_0.toInt from (by omega)), (show t1_0.toInt ≤ t1_0.toInt + 1 from (by omega)), (show t1_1.toInt ≤ t1_1.toInt from (by omega)), (show t1_1.toInt ≤ t1_1.toInt from (by omega)), (show (t0_0, t0_1, t0_2, t0_3, t0_4, t0_5, t0_6, a24, a36, t0_9, t1_0, t1_1, t2_0) = (F_Rea_keepFigure x2 x3 x4 t0_0 t0_1 t0_2 t0_3 t0_4 t0_5 t0_6 t0_7 t0_8 t0_9 t1_0 t1_1 t2_0) from (by rw [← e37, ← e25, F_Rea_keepFigure.eq_1, if_pos c22, if_neg c28]))⟩) d_10_13_78
  ·
    have b41 : q_F (t0_6.toInt < x4.toInt) := (q_nleI c22)
    refine lv_aload_n hx hb d_10_13_8 rfl (lv_at hl 0 rfl) ?_
    refine q_get (ci := 8) (j := 3) (v := .ref (q 9)) C0 V i_Rea rfl rfl hT0 (by decide) w_289 rfl d_10_13_9 ?_
    have hO42 := n_o9 hI
    refine q_get (ci := 4) (j := 0) (v := .ref (q 10)) C0 V i_Mil rfl rfl hO42 (by decide) w_109 rfl d_10_13_12 ?_
    refine lv_iload_n hx hb d_10_13_15 rfl (lv_at hl 1 rfl) ?_
    refine lv_iload_n hx hb d_10_13_16 rfl (lv_at hl 2 rfl) ?_
    refine q_gov V (q_runV (As := [.int x2, .int x3]) (rest := []) (d := 1) (mc := 0) (ms := 0) (ci := 2) C0 V rfl LV_Rea_47 (X_Big_multiplySmall l D g q ws 10 220 (n_b10 g q) (by decide) x2 x3 hI t1_0 t1_1 hT1 t2_0 hT2  _) rfl rfl hT1 rfl hl.1 rfl (Nat.le_of_ble_eq_true rfl) ⟨by decide, by decide⟩ ⟨Nat.le_of_ble_eq_true rfl, Nat.le_of_ble_eq_true rfl⟩ d_10_13_17) (fun u43 H locs hp44 V => ?_)
    obtain ⟨hI, hZ9⟩ := hp44
    obtain ⟨hu56, hZ9⟩ := hZ9
    obtain ⟨y46, hZ9⟩ := hZ9
    obtain ⟨y47, hZ9⟩ := hZ9
    obtain ⟨f48, hZ9⟩ := hZ9
    obtain ⟨hO45, hZ9⟩ := hZ9
    obtain ⟨hA49, hZ9⟩ := hZ9
    obtain ⟨b50, hZ9⟩ := hZ9
    obtain ⟨b51, hZ9⟩ := hZ9
    obtain ⟨b52, hZ9⟩ := hZ9
    obtain ⟨b53, hZ9⟩ := hZ9
    obtain ⟨b54, hE55⟩ := hZ9
    replace hO45 : u43[10]? = (some (q 10, .inr (2, [.ref (q 11), .int y46, .int y47])) : Option (Nat × va_E)) := hO45
    replace hA49 : u43[11]? = (some (q 11, .inl (g 0, (220 : Int32).toNatClampNeg, .inl f48)) : Option (Nat × va_E)) := hA49
    obtain ⟨p57, e58⟩ : ∃ z, z = (F_Big_multiplySmall (220 : Int32) x2 x3 t1_0 t1_1 t2_0) := ⟨_, rfl⟩
    have e59 : y46 = p57.1 := congrArg (fun z => z.1) (hE55.trans e58.symm)
    have e60 : y47 = p57.2.1 := congrArg (fun z => z.2.1) (hE55.trans e58.symm)
    have e61 : f48 = p57.2.2 := congrArg (fun z => z.2.2) (hE55.trans e58.symm)
    replace b50 : q_F (t1_0.toInt ≤ y46.toInt) := b50
    replace b51 : q_F (y46.toInt ≤ t1_0.toInt + 1) := b51
    replace b52 : q_F (y46.toInt ≤ 220) := b52
    replace b53 : q_F (t1_1.toInt ≤ y47.toInt) := b53
    replace b54 : q_F (y47.toInt ≤ t1_1.toInt) := b54
    replace hT0 := (hu56 _ (by decide)).trans hT0
    replace hO42 := (hu56 _ (by decide)).trans hO42
    replace hF := q_uc hF hu56 (by simp)
    have hR62 := (show F_Rea_keepFigure_c17 x2 x3 x4 t0_0 t0_1 t0_2 t0_3 t0_4 t0_5 t0_6 t0_7 t0_8 t0_9 t1_0 t1_1 t2_0 p57 = (F_Rea_keepFigure x2 x3 x4 t0_0 t0_1 t0_2 t0_3 t0_4 t0_5 t0_6 t0_7 t0_8 t0_9 t1_0 t1_1 t2_0) from (by rw [e58, F_Rea_keepFigure.eq_1, if_neg c22]))
    refine lv_aload_n hx hb d_10_13_20 rfl (lv_at hl 0 rfl) ?_
    refine lv_dup hx hb d_10_13_21 rfl ?_
    refine q_get (ci := 8) (j := 8) (v := .int t0_6) C0 V i_Rea rfl rfl hT0 (by decide) w_294 rfl d_10_13_22 ?_
    refine lv_aload_n hx hb d_10_13_25 rfl (lv_at hl 0 rfl) ?_
    refine q_get (ci := 8) (j := 3) (v := .ref (q 9)) C0 V i_Rea rfl rfl hT0 (by decide) w_289 rfl d_10_13_26 ?_
    refine q_get (ci := 4) (j := 0) (v := .ref (q 10)) C0 V i_Mil rfl rfl hO42 (by decide) w_109 rfl d_10_13_29 ?_
    refine q_get (ci := 2) (j := 1) (v := .int y46) C0 V i_Big rfl rfl hO45 (by decide) w_88 rfl d_10_13_32 ?_
    refine lv_if_le (tgt := 42) hx hb d_10_13_35 (by decide) (fun c67 => ?_) (fun c67 => ?_)
    ·
      refine lv_iconst (v := 0) hx hb d_10_13_42 (by decide) ?_
      refine lv_iadd hx hb d_10_13_43 ?_
      obtain ⟨a69, e70⟩ := q_nm (t0_6 + 0 : Int32)
      refine q_ti (v := a69) e70 ?_
      have b71 : q_F (a69.toInt = t0_6.toInt + 0) := (by rw [← e70]; show (t0_6 + 0 : Int32).toInt = t0_6.toInt + 0; exact q_addI (x := t0_6.toInt) (y := 0) rfl (by decide) (by have _ := q_lo32 (x := t0_6); have _ := q_hi32 (x := t0_6); omega) (by have _ := q_lo32 (x := t0_6); have _ := q_hi32 (x := t0_6); omega))
      refine q_put (ci := 8) (j := 8) (v := .int a69) (ty := .int) C0 V i_Rea o_Rea n_Rea rfl rfl hT0 (by decide) w_294 rfl rfl rfl rfl (Nat.le_of_ble_eq_true rfl) d_10_13_44 (fun H locs w72 hu73 hT0 V => ?_)
      replace hT0 : w72[38]? = (some (q 38, .inr (8, [.long t0_0, .long t0_1, .ref (q 1), .ref (q 9), .int t0_2, .int t0_3, .int t0_4, .int t0_5, .int a69, .int t0_7, .int t0_8, .long t0_9])) : Option (Nat × va_E)) := hT0
      replace hI := n_p38 hI hu73 hT0 (by first | with_reducible exact q_fe btt0_4 | exact ⟨(by have t1 : 0 ≤ t0_4.toInt ∧ t0_4.toInt ≤ 1 := btt0_4; omega), (by have t1 : 0 ≤ t0_4.toInt ∧ t0_4.toInt ≤ 1 := btt0_4; omega)⟩) (by first | with_reducible exact q_fe btt0_8 | exact ⟨(by have t1 : 0 ≤ t0_8.toInt ∧ t0_8.toInt ≤ 1 := btt0_8; omega), (by have t1 : 0 ≤ t0_8.toInt ∧ t0_8.toInt ≤ 1 := btt0_8; omega)⟩)
      replace hO45 := (hu73 _ (by decide)).trans hO45
      replace hA49 := (hu73 _ (by decide)).trans hA49
      replace hF := q_us hF hu73 (by simp)
      refine lv_goto (tgt := 78) hx hb d_10_13_47 (by decide) ?_
      exact q_retv C0 V (⟨hI, hF, t0_0, t0_1, t0_2, t0_3, t0_4, t0_5, a69, t0_7, t0_8, t0_9, y46, y47, f48, hT0, hO45, hA49, (show 0 ≤ t0_8.toInt from (by first | with_reducible exact (q_fe btt0_8).2 | with_reducible exact (q_fe btt0_8).1 | (have t1 : 0 ≤ t0_8.toInt ∧ t0_8.toInt ≤ 1 := btt0_8; omega))), (show t0_8.toInt ≤ 1 from (by first | with_reducible exact (q_fe btt0_8).2 | with_reducible exact (q_fe btt0_8).1 | (have t1 : 0 ≤ t0_8.toInt ∧ t0_8.toInt ≤ 1 := btt0_8; omega))), (show y46.toInt ≤ 220 from (by first | with_reducible exact q_fe b52 | (have t1 : y46.toInt ≤ 220 := b52; omega))), (show t0_0.toInt ≤ t0_0.toInt from (by omega)), (show t0_0.toInt ≤ t0_0.toInt from (by omega)), (show t0_1.toInt ≤ t0_1.toInt from (by omega)), (show t0_1.toInt ≤ t0_1.toInt from (by omega)), (show t0_2.toInt ≤ t0_2.toInt from (by omega)), (show t0_2.toInt ≤ t0_2.toInt from (by omega)), (show t0_3.toInt ≤ t0_3.toInt from (by omega)), (show t0_3.toInt ≤ t0_3.toInt from (by omega)), (show t0_4.toInt ≤ t0_4.toInt from (by omega)), (show t0_4.toInt ≤ t0_4.toInt from (by omega)), (show t0_5.toInt ≤ t0_5.toInt from (by omega)), (show t0_5.toInt ≤ t0_5.toInt from (by omega)), (show t0_6.toInt ≤ a69.toInt from (by first | with_reducible exact q_fe b71 | (have t1 : a69.toInt = t0_6.toInt + 0 := b71; omega))), (show a69.toInt ≤ t0_6.toInt + 1 from (by first | with_reducible exact q_fe b71 | (have t1 : a69.toInt = t0_6.toInt + 0 := b71; omega))), (show t0_9.toInt ≤ t0_9.toInt from (by omega)), (show t0_9.toInt ≤ t0_9.toInt from (by omega)), (show t1_0.toInt ≤ y46.toInt from (by first | with_reducible exact q_fe b50 | (have t1 : t1_0.toInt ≤ y46.toInt := b50; omega))), (show y46.toInt ≤ t1_0.toInt + 1 from (by first | with_reducible exact q_fe b51 | (have t1 : y46.toInt ≤ t1_0.toInt + 1 := b51; omega))), (show t1_1.toInt ≤ y47.toInt from (by first | with_reducible exact q_fe b53 | (have t1 : t1_1.toInt ≤ y47.toInt := b53; omega))), (show y47.toInt ≤ t1_1.toInt from (by first | with_reducible exact q_fe b54 | (have t1 : y47.toInt ≤ t1_1.toInt := b54; omega))), (show (t0_0, t0_1, t0_2, t0_3, t0_4, t0_5, a69, t0_7, t0_8, t0_9, y46, y47, f48) = (F_Rea_keepFigure x2 x3 x4 t0_0 t0_1 t0_2 t0_3 t0_4 t0_5 t0_6 t0_7 t0_8 t0_9 t1_0 t1_1 t2_0) from Eq.trans (by have c67x := c67; rw [e59] at c67x; rw [← e70, e61, e60, e59, F_Rea_keepFigure_c17.eq_1, if_pos c67x]) hR62)⟩) d_10_13_78
    ·
      refine lv_iconst (v := 1) hx hb d_10_13_38 (by decide) ?_
      refine lv_goto (tgt := 43) hx hb d_10_13_39 (by decide) ?_
      refine lv_iadd hx hb d_10_13_43 ?_
      obtain ⟨a75, e76⟩ := q_nm (t0_6 + 1 : Int32)
      refine q_ti (v := a75) e76 ?_
      have b77 : q_F (a75.toInt = t0_6.toInt + 1) := (by rw [← e76]; show (t0_6 + 1 : Int32).toInt = t0_6.toInt + 1; exact q_addI (x := t0_6.toInt) (y := 1) rfl (by decide) (by have _ := q_lo32 (x := t0_6); have _ := q_hi32 (x := t0_6); have t1 : t0_6.toInt < x4.toInt := b41; have _ := q_lo32 (x := x4); have _ := q_hi32 (x := x4); omega) (by have _ := q_lo32 (x := t0_6); have _ := q_hi32 (x := t0_6); have t1 : t0_6.toInt < x4.toInt := b41; have _ := q_lo32 (x := x4); have _ := q_hi32 (x := x4); omega))
      refine q_put (ci := 8) (j := 8) (v := .int a75) (ty := .int) C0 V i_Rea o_Rea n_Rea rfl rfl hT0 (by decide) w_294 rfl rfl rfl rfl (Nat.le_of_ble_eq_true rfl) d_10_13_44 (fun H locs w78 hu79 hT0 V => ?_)
      replace hT0 : w78[38]? = (some (q 38, .inr (8, [.long t0_0, .long t0_1, .ref (q 1), .ref (q 9), .int t0_2, .int t0_3, .int t0_4, .int t0_5, .int a75, .int t0_7, .int t0_8, .long t0_9])) : Option (Nat × va_E)) := hT0
      replace hI := n_p38 hI hu79 hT0 (by first | with_reducible exact q_fe btt0_4 | exact ⟨(by have t1 : 0 ≤ t0_4.toInt ∧ t0_4.toInt ≤ 1 := btt0_4; omega), (by have t1 : 0 ≤ t0_4.toInt ∧ t0_4.toInt ≤ 1 := btt0_4; omega)⟩) (by first | with_reducible exact q_fe btt0_8 | exact ⟨(by have t1 : 0 ≤ t0_8.toInt ∧ t0_8.toInt ≤ 1 := btt0_8; omega), (by have t1 : 0 ≤ t0_8.toInt ∧ t0_8.toInt ≤ 1 := btt0_8; omega)⟩)
      replace hO45 := (hu79 _ (by decide)).trans hO45
      replace hA49 := (hu79 _ (by decide)).trans hA49
      replace hF := q_us hF hu79 (by simp)
      refine lv_goto (tgt := 78) hx hb d_10_13_47 (by decide) ?_
      exact q_retv C0 V (⟨hI, hF, t0_0, t0_1, t0_2, t0_3, t0_4, t0_5, a75, t0_7, t0_8, t0_9, y46, y47, f48, hT0, hO45, hA49, (show 0 ≤ t0_8.toInt from (by first | with_reducible exact (q_fe btt0_8).2 | with_reducible exact (q_fe btt0_8).1 | (have t1 : 0 ≤ t0_8.toInt ∧ t0_8.toInt ≤ 1 := btt0_8; omega))), (show t0_8.toInt ≤ 1 from (by first | with_reducible exact (q_fe btt0_8).2 | with_reducible exact (q_fe btt0_8).1 | (have t1 : 0 ≤ t0_8.toInt ∧ t0_8.toInt ≤ 1 := btt0_8; omega))), (show y46.toInt ≤ 220 from (by first | with_reducible exact q_fe b52 | (have t1 : y46.toInt ≤ 220 := b52; omega))), (show t0_0.toInt ≤ t0_0.toInt from (by omega)), (show t0_0.toInt ≤ t0_0.toInt from (by omega)), (show t0_1.toInt ≤ t0_1.toInt from (by omega)), (show t0_1.toInt ≤ t0_1.toInt from (by omega)), (show t0_2.toInt ≤ t0_2.toInt from (by omega)), (show t0_2.toInt ≤ t0_2.toInt from (by omega)), (show t0_3.toInt ≤ t0_3.toInt from (by omega)), (show t0_3.toInt ≤ t0_3.toInt from (by omega)), (show t0_4.toInt ≤ t0_4.toInt from (by omega)), (show t0_4.toInt ≤ t0_4.toInt from (by omega)), (show t0_5.toInt ≤ t0_5.toInt from (by omega)), (show t0_5.toInt ≤ t0_5.toInt from (by omega)), (show t0_6.toInt ≤ a75.toInt from (by first | with_reducible exact q_fe b77 | (have t1 : a75.toInt = t0_6.toInt + 1 := b77; omega))), (show a75.toInt ≤ t0_6.toInt + 1 from (by first | with_reducible exact q_fe b77 | (have t1 : a75.toInt = t0_6.toInt + 1 := b77; omega))), (show t0_9.toInt ≤ t0_9.toInt from (by omega)), (show t0_9.toInt ≤ t0_9.toInt from (by omega)), (show t1_0.toInt ≤ y46.toInt from (by first | with_reducible exact q_fe b50 | (have t1 : t1_0.toInt ≤ y46.toInt := b50; omega))), (show y46.toInt ≤ t1_0.toInt + 1 from (by first | with_reducible exact q_fe b51 | (have t1 : y46.toInt ≤ t1_0.toInt + 1 := b51; omega))), (show t1_1.toInt ≤ y47.toInt from (by first | with_reducible exact q_fe b53 | (have t1 : t1_1.toInt ≤ y47.toInt := b53; omega))), (show y47.toInt ≤ t1_1.toInt from (by first | with_reducible exact q_fe b54 | (have t1 : y47.toInt ≤ t1_1.toInt := b54; omega))), (show (t0_0, t0_1, t0_2, t0_3, t0_4, t0_5, a75, t0_7, t0_8, t0_9, y46, y47, f48) = (F_Rea_keepFigure x2 x3 x4 t0_0 t0_1 t0_2 t0_3 t0_4 t0_5 t0_6 t0_7 t0_8 t0_9 t1_0 t1_1 t2_0) from Eq.trans (by have c67x := c67; rw [e59] at c67x; rw [← e76, e61, e60, e59, F_Rea_keepFigure_c17.eq_1, if_neg c67x]) hR62)⟩) d_10_13_78
def F_Rea_takeFigures_c63 (K_F_Rea_takeFigures_L35 : Int32 → Int32 → Int32 → Int64 → Int64 → Int32 → Int32 → Int32 → Int32 → Int32 → Int32 → Int64 → Int32 → Int32 → (Nat → Int32) → (Int32 × Int64 × Int64 × Int32 × Int32 × Int32 × Int32 × Int32 × Int32 × Int32 × Int64 × Int32 × Int32 × (Nat → Int32))) (x2 : Int32) (x3 : Int32) (t0_0 : Int64) (t0_1 : Int64) (t0_2 : Int32) (t0_3 : Int32) (t0_4 : Int32) (t0_5 : Int32) (t0_6 : Int32) (t0_7 : Int32) (t0_8 : Int32) (t0_9 : Int64) (t1_0 : Int32) (t2_0 : (Nat → Int64)) (t3_0 : Int32) (t3_1 : Int32) (t4_0 : (Nat → Int32)) (p47 : (Int32 × Int32)) (lx58 : Int32) (lx59 : Int32) (lx60 : Int32) (lx61 : Int64) (lx62 : Int64) (lx63 : Int32) (lx64 : Int32) (lx65 : Int32) (lx66 : Int32) (lx67 : Int32) (lx68 : Int32) (lx69 : Int64) (lx70 : Int32) (lx71 : Int32) (lx72 : (Nat → Int32)) (a114 : Int32) (p190 : (Int64 × Int64 × Int32 × Int32 × Int32 × Int32 × Int32 × Int32 × Int32 × Int64 × Int32 × Int32 × (Nat → Int32))) : Int32 × Int64 × Int64 × Int32 × Int32 × Int32 × Int32 × Int32 × Int32 × Int32 × Int64 × Int32 × Int32 × (Nat → Int32) := if lx59 = (0 : Int32) then (K_F_Rea_takeFigures_L35 (lx58 + 1 : Int32) lx59 ((p190.2.2.1 : Int32) + 1 : Int32) (p190.1 : Int64) (p190.2.1 : Int64) (p190.2.2.2.1 : Int32) (p190.2.2.2.2.1 : Int32) ((p190.2.2.2.2.2.1 : Int32) + 0 : Int32) (p190.2.2.2.2.2.2.1 : Int32) (p190.2.2.2.2.2.2.2.1 : Int32) (p190.2.2.2.2.2.2.2.2.1 : Int32) (p190.2.2.2.2.2.2.2.2.2.1 : Int64) (p190.2.2.2.2.2.2.2.2.2.2.1 : Int32) (p190.2.2.2.2.2.2.2.2.2.2.2.1 : Int32) (p190.2.2.2.2.2.2.2.2.2.2.2.2 : (Nat → Int32))) else (K_F_Rea_takeFigures_L35 (lx58 + 1 : Int32) lx59 ((p190.2.2.1 : Int32) + 1 : Int32) (p190.1 : Int64) (p190.2.1 : Int64) (p190.2.2.2.1 : Int32) (p190.2.2.2.2.1 : Int32) ((p190.2.2.2.2.2.1 : Int32) + 1 : Int32) (p190.2.2.2.2.2.2.1 : Int32) (p190.2.2.2.2.2.2.2.1 : Int32) (p190.2.2.2.2.2.2.2.2.1 : Int32) (p190.2.2.2.2.2.2.2.2.2.1 : Int64) (p190.2.2.2.2.2.2.2.2.2.2.1 : Int32) (p190.2.2.2.2.2.2.2.2.2.2.2.1 : Int32) (p190.2.2.2.2.2.2.2.2.2.2.2.2 : (Nat → Int32)))
def F_Rea_takeFigures_L35 (x2 : Int32) (x3 : Int32) (t0_0 : Int64) (t0_1 : Int64) (t0_2 : Int32) (t0_3 : Int32) (t0_4 : Int32) (t0_5 : Int32) (t0_6 : Int32) (t0_7 : Int32) (t0_8 : Int32) (t0_9 : Int64) (t1_0 : Int32) (t2_0 : (Nat → Int64)) (t3_0 : Int32) (t3_1 : Int32) (t4_0 : (Nat → Int32)) (p47 : (Int32 × Int32)) : Nat → Int32 → Int32 → Int32 → Int64 → Int64 → Int32 → Int32 → Int32 → Int32 → Int32 → Int32 → Int64 → Int32 → Int32 → (Nat → Int32) → (Int32 × Int64 × Int64 × Int32 × Int32 × Int32 × Int32 × Int32 × Int32 × Int32 × Int64 × Int32 × Int32 × (Nat → Int32))
  | 0, _, _, _, _, _, _, _, _, _, _, _, _, _, _, _ => default
  | fm + 1, lx58, lx59, lx60, lx61, lx62, lx63, lx64, lx65, lx66, lx67, lx68, lx69, lx70, lx71, lx72 => if lx63 ≤ lx60 then (if lx58 ≤ (0 : Int32) then (((0 : Int32), lx61, lx62, lx60, lx63, lx64, lx65, lx66, lx67, lx68, lx69, lx70, lx71, lx72)) else (((1 : Int32), lx61, lx62, lx60, lx63, lx64, lx65, lx66, lx67, lx68, lx69, lx70, lx71, lx72))) else (if x2 ≤ ((F_Rea_digitHere lx61 lx62 lx60 lx63 lx64 lx65 lx66 lx67 lx68 lx69 t1_0 t2_0) : Int32) then (if ((F_Rea_here lx61 lx62 lx60 lx63 lx64 lx65 lx66 lx67 lx68 lx69 t1_0 t2_0) : Int32) = (46 : Int32) then (if lx59 = (0 : Int32) then (F_Rea_takeFigures_L35 x2 x3 t0_0 t0_1 t0_2 t0_3 t0_4 t0_5 t0_6 t0_7 t0_8 t0_9 t1_0 t2_0 t3_0 t3_1 t4_0 p47 fm lx58 1 (lx60 + 1 : Int32) lx61 lx62 lx63 lx64 lx65 lx66 lx67 lx68 lx69 lx70 lx71 lx72) else (if lx58 ≤ (0 : Int32) then (((0 : Int32), lx61, lx62, lx60, lx63, lx64, lx65, lx66, lx67, lx68, lx69, lx70, lx71, lx72)) else (((1 : Int32), lx61, lx62, lx60, lx63, lx64, lx65, lx66, lx67, lx68, lx69, lx70, lx71, lx72)))) else (if lx58 ≤ (0 : Int32) then (((0 : Int32), lx61, lx62, lx60, lx63, lx64, lx65, lx66, lx67, lx68, lx69, lx70, lx71, lx72)) else (((1 : Int32), lx61, lx62, lx60, lx63, lx64, lx65, lx66, lx67, lx68, lx69, lx70, lx71, lx72)))) else (F_Rea_takeFigures_c63 (F_Rea_takeFigures_L35 x2 x3 t0_0 t0_1 t0_2 t0_3 t0_4 t0_5 t0_6 t0_7 t0_8 t0_9 t1_0 t2_0 t3_0 t3_1 t4_0 p47 fm) x2 x3 t0_0 t0_1 t0_2 t0_3 t0_4 t0_5 t0_6 t0_7 t0_8 t0_9 t1_0 t2_0 t3_0 t3_1 t4_0 p47 lx58 lx59 lx60 lx61 lx62 lx63 lx64 lx65 lx66 lx67 lx68 lx69 lx70 lx71 lx72 ((F_Rea_digitHere lx61 lx62 lx60 lx63 lx64 lx65 lx66 lx67 lx68 lx69 t1_0 t2_0) : Int32) ((F_Rea_keepFigure x2 ((F_Rea_digitHere lx61 lx62 lx60 lx63 lx64 lx65 lx66 lx67 lx68 lx69 t1_0 t2_0) : Int32) x3 lx61 lx62 lx60 lx63 lx64 lx65 lx66 lx67 lx68 lx69 lx70 lx71 lx72) : (Int64 × Int64 × Int32 × Int32 × Int32 × Int32 × Int32 × Int32 × Int32 × Int64 × Int32 × Int32 × (Nat → Int32)))))
def F_Rea_takeFigures_c32 (x2 : Int32) (x3 : Int32) (t0_0 : Int64) (t0_1 : Int64) (t0_2 : Int32) (t0_3 : Int32) (t0_4 : Int32) (t0_5 : Int32) (t0_6 : Int32) (t0_7 : Int32) (t0_8 : Int32) (t0_9 : Int64) (t1_0 : Int32) (t2_0 : (Nat → Int64)) (t3_0 : Int32) (t3_1 : Int32) (t4_0 : (Nat → Int32)) (p47 : (Int32 × Int32)) : Int32 × Int64 × Int64 × Int32 × Int32 × Int32 × Int32 × Int32 × Int32 × Int32 × Int64 × Int32 × Int32 × (Nat → Int32) := F_Rea_takeFigures_L35 x2 x3 t0_0 t0_1 t0_2 t0_3 t0_4 t0_5 t0_6 t0_7 t0_8 t0_9 t1_0 t2_0 t3_0 t3_1 t4_0 p47 ((t0_3.toInt - t0_2.toInt).toNat + 1) 0 0 t0_2 t0_0 t0_1 t0_3 t0_4 0 0 0 0 t0_9 (p47.1 : Int32) (p47.2 : Int32) t4_0
def F_Rea_takeFigures (x2 : Int32) (x3 : Int32) (t0_0 : Int64) (t0_1 : Int64) (t0_2 : Int32) (t0_3 : Int32) (t0_4 : Int32) (t0_5 : Int32) (t0_6 : Int32) (t0_7 : Int32) (t0_8 : Int32) (t0_9 : Int64) (t1_0 : Int32) (t2_0 : (Nat → Int64)) (t3_0 : Int32) (t3_1 : Int32) (t4_0 : (Nat → Int32)) : Int32 × Int64 × Int64 × Int32 × Int32 × Int32 × Int32 × Int32 × Int32 × Int32 × Int64 × Int32 × Int32 × (Nat → Int32) := F_Rea_takeFigures_c32 x2 x3 t0_0 t0_1 t0_2 t0_3 t0_4 t0_5 t0_6 t0_7 t0_8 t0_9 t1_0 t2_0 t3_0 t3_1 t4_0 ((F_Big_clear (220 : Int32) t3_0 t3_1) : (Int32 × Int32))
def S_Rea_takeFigures_c63 (K_S_Rea_takeFigures_L35 : Int32 → Int32 → Int32 → Int64 → Int64 → Int32 → Int32 → Int32 → Int32 → Int32 → Int32 → Int64 → Int32 → Int32 → (Nat → Int32) → Prop) (x2 : Int32) (x3 : Int32) (t0_0 : Int64) (t0_1 : Int64) (t0_2 : Int32) (t0_3 : Int32) (t0_4 : Int32) (t0_5 : Int32) (t0_6 : Int32) (t0_7 : Int32) (t0_8 : Int32) (t0_9 : Int64) (t1_0 : Int32) (t2_0 : (Nat → Int64)) (t3_0 : Int32) (t3_1 : Int32) (t4_0 : (Nat → Int32)) (p47 : (Int32 × Int32)) (lx58 : Int32) (lx59 : Int32) (lx60 : Int32) (lx61 : Int64) (lx62 : Int64) (lx63 : Int32) (lx64 : Int32) (lx65 : Int32) (lx66 : Int32) (lx67 : Int32) (lx68 : Int32) (lx69 : Int64) (lx70 : Int32) (lx71 : Int32) (lx72 : (Nat → Int32)) (a114 : Int32) (p190 : (Int64 × Int64 × Int32 × Int32 × Int32 × Int32 × Int32 × Int32 × Int32 × Int64 × Int32 × Int32 × (Nat → Int32))) : Prop := if lx59 = (0 : Int32) then (K_S_Rea_takeFigures_L35 (lx58 + 1 : Int32) lx59 ((p190.2.2.1 : Int32) + 1 : Int32) (p190.1 : Int64) (p190.2.1 : Int64) (p190.2.2.2.1 : Int32) (p190.2.2.2.2.1 : Int32) ((p190.2.2.2.2.2.1 : Int32) + 0 : Int32) (p190.2.2.2.2.2.2.1 : Int32) (p190.2.2.2.2.2.2.2.1 : Int32) (p190.2.2.2.2.2.2.2.2.1 : Int32) (p190.2.2.2.2.2.2.2.2.2.1 : Int64) (p190.2.2.2.2.2.2.2.2.2.2.1 : Int32) (p190.2.2.2.2.2.2.2.2.2.2.2.1 : Int32) (p190.2.2.2.2.2.2.2.2.2.2.2.2 : (Nat → Int32))) else (K_S_Rea_takeFigures_L35 (lx58 + 1 : Int32) lx59 ((p190.2.2.1 : Int32) + 1 : Int32) (p190.1 : Int64) (p190.2.1 : Int64) (p190.2.2.2.1 : Int32) (p190.2.2.2.2.1 : Int32) ((p190.2.2.2.2.2.1 : Int32) + 1 : Int32) (p190.2.2.2.2.2.2.1 : Int32) (p190.2.2.2.2.2.2.2.1 : Int32) (p190.2.2.2.2.2.2.2.2.1 : Int32) (p190.2.2.2.2.2.2.2.2.2.1 : Int64) (p190.2.2.2.2.2.2.2.2.2.2.1 : Int32) (p190.2.2.2.2.2.2.2.2.2.2.2.1 : Int32) (p190.2.2.2.2.2.2.2.2.2.2.2.2 : (Nat → Int32)))
def S_Rea_takeFigures_L35 (x2 : Int32) (x3 : Int32) (t0_0 : Int64) (t0_1 : Int64) (t0_2 : Int32) (t0_3 : Int32) (t0_4 : Int32) (t0_5 : Int32) (t0_6 : Int32) (t0_7 : Int32) (t0_8 : Int32) (t0_9 : Int64) (t1_0 : Int32) (t2_0 : (Nat → Int64)) (t3_0 : Int32) (t3_1 : Int32) (t4_0 : (Nat → Int32)) (p47 : (Int32 × Int32)) : Nat → Int32 → Int32 → Int32 → Int64 → Int64 → Int32 → Int32 → Int32 → Int32 → Int32 → Int32 → Int64 → Int32 → Int32 → (Nat → Int32) → Prop
  | 0, _, _, _, _, _, _, _, _, _, _, _, _, _, _, _ => False
  | fm + 1, lx58, lx59, lx60, lx61, lx62, lx63, lx64, lx65, lx66, lx67, lx68, lx69, lx70, lx71, lx72 => if lx63 ≤ lx60 then (if lx58 ≤ (0 : Int32) then (True) else (True)) else ((True ∧ S_Rea_digitHere lx61 lx62 lx60 lx63 lx64 lx65 lx66 lx67 lx68 lx69 t1_0 t2_0) ∧ (if x2 ≤ ((F_Rea_digitHere lx61 lx62 lx60 lx63 lx64 lx65 lx66 lx67 lx68 lx69 t1_0 t2_0) : Int32) then ((True ∧ S_Rea_here lx61 lx62 lx60 lx63 lx64 lx65 lx66 lx67 lx68 lx69 t1_0 t2_0) ∧ (if ((F_Rea_here lx61 lx62 lx60 lx63 lx64 lx65 lx66 lx67 lx68 lx69 t1_0 t2_0) : Int32) = (46 : Int32) then (if lx59 = (0 : Int32) then (S_Rea_takeFigures_L35 x2 x3 t0_0 t0_1 t0_2 t0_3 t0_4 t0_5 t0_6 t0_7 t0_8 t0_9 t1_0 t2_0 t3_0 t3_1 t4_0 p47 fm lx58 1 (lx60 + 1 : Int32) lx61 lx62 lx63 lx64 lx65 lx66 lx67 lx68 lx69 lx70 lx71 lx72) else (if lx58 ≤ (0 : Int32) then (True) else (True))) else (if lx58 ≤ (0 : Int32) then (True) else (True)))) else (S_Rea_takeFigures_c63 (S_Rea_takeFigures_L35 x2 x3 t0_0 t0_1 t0_2 t0_3 t0_4 t0_5 t0_6 t0_7 t0_8 t0_9 t1_0 t2_0 t3_0 t3_1 t4_0 p47 fm) x2 x3 t0_0 t0_1 t0_2 t0_3 t0_4 t0_5 t0_6 t0_7 t0_8 t0_9 t1_0 t2_0 t3_0 t3_1 t4_0 p47 lx58 lx59 lx60 lx61 lx62 lx63 lx64 lx65 lx66 lx67 lx68 lx69 lx70 lx71 lx72 ((F_Rea_digitHere lx61 lx62 lx60 lx63 lx64 lx65 lx66 lx67 lx68 lx69 t1_0 t2_0) : Int32) ((F_Rea_keepFigure x2 ((F_Rea_digitHere lx61 lx62 lx60 lx63 lx64 lx65 lx66 lx67 lx68 lx69 t1_0 t2_0) : Int32) x3 lx61 lx62 lx60 lx63 lx64 lx65 lx66 lx67 lx68 lx69 lx70 lx71 lx72) : (Int64 × Int64 × Int32 × Int32 × Int32 × Int32 × Int32 × Int32 × Int32 × Int64 × Int32 × Int32 × (Nat → Int32))))))
def S_Rea_takeFigures_c32 (x2 : Int32) (x3 : Int32) (t0_0 : Int64) (t0_1 : Int64) (t0_2 : Int32) (t0_3 : Int32) (t0_4 : Int32) (t0_5 : Int32) (t0_6 : Int32) (t0_7 : Int32) (t0_8 : Int32) (t0_9 : Int64) (t1_0 : Int32) (t2_0 : (Nat → Int64)) (t3_0 : Int32) (t3_1 : Int32) (t4_0 : (Nat → Int32)) (p47 : (Int32 × Int32)) : Prop := S_Rea_takeFigures_L35 x2 x3 t0_0 t0_1 t0_2 t0_3 t0_4 t0_5 t0_6 t0_7 t0_8 t0_9 t1_0 t2_0 t3_0 t3_1 t4_0 p47 ((t0_3.toInt - t0_2.toInt).toNat + 1) 0 0 t0_2 t0_0 t0_1 t0_3 t0_4 0 0 0 0 t0_9 (p47.1 : Int32) (p47.2 : Int32) t4_0
def S_Rea_takeFigures (x2 : Int32) (x3 : Int32) (t0_0 : Int64) (t0_1 : Int64) (t0_2 : Int32) (t0_3 : Int32) (t0_4 : Int32) (t0_5 : Int32) (t0_6 : Int32) (t0_7 : Int32) (t0_8 : Int32) (t0_9 : Int64) (t1_0 : Int32) (t2_0 : (Nat → Int64)) (t3_0 : Int32) (t3_1 : Int32) (t4_0 : (Nat → Int32)) : Prop := S_Rea_takeFigures_c32 x2 x3 t0_0 t0_1 t0_2 t0_3 t0_4 t0_5 t0_6 t0_7 t0_8 t0_9 t1_0 t2_0 t3_0 t3_1 t4_0 ((F_Big_clear (220 : Int32) t3_0 t3_1) : (Int32 × Int32))
set_option maxRecDepth 100000 in
set_option maxHeartbeats 4000000 in
theorem X_Rea_takeFigures (l : Launch) (D : va_G) (g : Nat → ClassId) (q : Nat → Nat) (ws : va_W) (x2 : Int32) (x3 : Int32) (hI : q_I (nsh g q) q ws) (t0_0 : Int64) (t0_1 : Int64) (t0_2 : Int32) (t0_3 : Int32) (t0_4 : Int32) (t0_5 : Int32) (t0_6 : Int32) (t0_7 : Int32) (t0_8 : Int32) (t0_9 : Int64) (hT0 : ws[38]? = (some (q 38, .inr (8, [.long t0_0, .long t0_1, .ref (q 1), .ref (q 9), .int t0_2, .int t0_3, .int t0_4, .int t0_5, .int t0_6, .int t0_7, .int t0_8, .long t0_9])) : Option (Nat × va_E))) (t1_0 : Int32) (hT1 : ws[1]? = (some (q 1, .inr (1, [.ref (q 2), .int 4100, .int t1_0])) : Option (Nat × va_E))) (t2_0 : (Nat → Int64)) (hT2 : ws[2]? = (some (q 2, .inl (g 1, (513 : Int32).toNatClampNeg, .inr (.inl t2_0))) : Option (Nat × va_E))) (t3_0 : Int32) (t3_1 : Int32) (hT3 : ws[10]? = (some (q 10, .inr (2, [.ref (q 11), .int t3_0, .int t3_1])) : Option (Nat × va_E))) (t4_0 : (Nat → Int32)) (hT4 : ws[11]? = (some (q 11, .inl (g 0, (220 : Int32).toNatClampNeg, .inl t4_0)) : Option (Nat × va_E))) (hS : True ∧ S_Rea_takeFigures x2 x3 t0_0 t0_1 t0_2 t0_3 t0_4 t0_5 t0_6 t0_7 t0_8 t0_9 t1_0 t2_0 t3_0 t3_1 t4_0) : q_mI l y_Rea_takeFigures prog_10_method_12_code 6 (.boolean) 4 0 0 D g [.ref (q 38), .int x2, .int x3] ws (fun r u => q_I (nsh g q) q u ∧ q_un ws u [10, 11, 38] ∧ ∃ (u0_0 : Int64) (u0_1 : Int64) (u0_2 : Int32) (u0_3 : Int32) (u0_4 : Int32) (u0_5 : Int32) (u0_6 : Int32) (u0_7 : Int32) (u0_8 : Int32) (u0_9 : Int64) (u3_0 : Int32) (u3_1 : Int32) (u4_0 : (Nat → Int32)), u[38]? = (some (q 38, .inr (8, [.long u0_0, .long u0_1, .ref (q 1), .ref (q 9), .int u0_2, .int u0_3, .int u0_4, .int u0_5, .int u0_6, .int u0_7, .int u0_8, .long u0_9])) : Option (Nat × va_E)) ∧ u[10]? = (some (q 10, .inr (2, [.ref (q 11), .int u3_0, .int u3_1])) : Option (Nat × va_E)) ∧ u[11]? = (some (q 11, .inl (g 0, (220 : Int32).toNatClampNeg, .inl u4_0)) : Option (Nat × va_E)) ∧ (0 ≤ u3_1.toInt) ∧ (u3_1.toInt ≤ 0) ∧ (t0_0.toInt ≤ u0_0.toInt) ∧ (u0_0.toInt ≤ t0_0.toInt) ∧ (t0_1.toInt ≤ u0_1.toInt) ∧ (u0_1.toInt ≤ t0_1.toInt) ∧ (t0_2.toInt ≤ u0_2.toInt) ∧ (t0_3.toInt ≤ u0_3.toInt) ∧ (u0_3.toInt ≤ t0_3.toInt) ∧ (t0_4.toInt ≤ u0_4.toInt) ∧ (u0_4.toInt ≤ t0_4.toInt) ∧ (t0_9.toInt ≤ u0_9.toInt) ∧ (u0_9.toInt ≤ t0_9.toInt) ∧ (u3_1.toInt ≤ r.toInt) ∧ (r.toInt ≤ u3_1.toInt + 1) ∧ (u3_1.toInt ≤ u0_6.toInt) ∧ (u3_1.toInt ≤ u0_8.toInt) ∧ (u0_8.toInt ≤ u3_1.toInt + 1) ∧ (u3_1.toInt ≤ u3_0.toInt) ∧ (u3_0.toInt ≤ u3_1.toInt + 4100) ∧ (r, u0_0, u0_1, u0_2, u0_3, u0_4, u0_5, u0_6, u0_7, u0_8, u0_9, u3_0, u3_1, u4_0) = (F_Rea_takeFigures x2 x3 t0_0 t0_1 t0_2 t0_3 t0_4 t0_5 t0_6 t0_7 t0_8 t0_9 t1_0 t2_0 t3_0 t3_1 t4_0)) := by
  intro sz
  refine q_into (by decide) (Nat.le_of_ble_eq_true rfl) ?_
  intro p e s m below meth c ls hsz C0 V hl
  have hx := C0.1
  have hb := C0.2.1
  obtain ⟨btt0_4, btt0_8⟩ := n_w38 hI hT0
  replace btt0_4 : q_F (0 ≤ t0_4.toInt ∧ t0_4.toInt ≤ 1) := btt0_4
  replace btt0_8 : q_F (0 ≤ t0_8.toInt ∧ t0_8.toInt ≤ 1) := btt0_8
  have btt1_0 := n_shW hI (n_h1 g q) hT1
  clear btt1_0
  have btt3_1 := (q_bigW hI (n_b10 g q) hT3).2
  clear btt3_1
  have hF : q_un ws ws [10, 11, 38] := q_u0
  have hl : lv_has ls 6 [(0, .ref (q 38)), (1, .int x2), (2, .int x3)] := hl
  refine lv_iconst (v := 0) hx hb d_10_12_0 (by decide) ?_
  refine lv_istore_n (lv' := [(3, .int 0), (0, .ref (q 38)), (1, .int x2), (2, .int x3)]) hx hb d_10_12_1 rfl hl (by decide) rfl (fun ls hl => ?_)
  refine lv_iconst (v := 0) hx hb d_10_12_2 (by decide) ?_
  refine lv_istore (lv' := [(4, .int 0), (3, .int 0), (0, .ref (q 38)), (1, .int x2), (2, .int x3)]) hx hb d_10_12_3 hl (by decide) rfl (fun ls hl => ?_)
  refine lv_aload_n hx hb d_10_12_5 rfl (lv_at hl 2 rfl) ?_
  refine lv_iconst (v := 0) hx hb d_10_12_6 (by decide) ?_
  refine q_put (ci := 8) (j := 7) (v := .int 0) (ty := .int) C0 V i_Rea o_Rea n_Rea rfl rfl hT0 (by decide) w_293 rfl rfl rfl rfl (Nat.le_of_ble_eq_true rfl) d_10_12_7 (fun H locs w27 hu28 hT0 V => ?_)
  replace hT0 : w27[38]? = (some (q 38, .inr (8, [.long t0_0, .long t0_1, .ref (q 1), .ref (q 9), .int t0_2, .int t0_3, .int t0_4, .int 0, .int t0_6, .int t0_7, .int t0_8, .long t0_9])) : Option (Nat × va_E)) := hT0
  replace hI := n_p38 hI hu28 hT0 (by first | with_reducible exact q_fe btt0_4 | exact ⟨(by have t1 : 0 ≤ t0_4.toInt ∧ t0_4.toInt ≤ 1 := btt0_4; omega), (by have t1 : 0 ≤ t0_4.toInt ∧ t0_4.toInt ≤ 1 := btt0_4; omega)⟩) (by first | with_reducible exact q_fe btt0_8 | exact ⟨(by have t1 : 0 ≤ t0_8.toInt ∧ t0_8.toInt ≤ 1 := btt0_8; omega), (by have t1 : 0 ≤ t0_8.toInt ∧ t0_8.toInt ≤ 1 := btt0_8; omega)⟩)
  replace hT1 := (hu28 _ (by decide)).trans hT1
  replace hT2 := (hu28 _ (by decide)).trans hT2
  replace hT3 := (hu28 _ (by decide)).trans hT3
  replace hT4 := (hu28 _ (by decide)).trans hT4
  replace hF := q_us hF hu28 (by simp)
  refine lv_aload_n hx hb d_10_12_10 rfl (lv_at hl 2 rfl) ?_
  refine lv_iconst (v := 0) hx hb d_10_12_11 (by decide) ?_
  refine q_put (ci := 8) (j := 8) (v := .int 0) (ty := .int) C0 V i_Rea o_Rea n_Rea rfl rfl hT0 (by decide) w_294 rfl rfl rfl rfl (Nat.le_of_ble_eq_true rfl) d_10_12_12 (fun H locs w29 hu30 hT0 V => ?_)
  replace hT0 : w29[38]? = (some (q 38, .inr (8, [.long t0_0, .long t0_1, .ref (q 1), .ref (q 9), .int t0_2, .int t0_3, .int t0_4, .int 0, .int 0, .int t0_7, .int t0_8, .long t0_9])) : Option (Nat × va_E)) := hT0
  replace hI := n_p38 hI hu30 hT0 (by first | with_reducible exact q_fe btt0_4 | exact ⟨(by have t1 : 0 ≤ t0_4.toInt ∧ t0_4.toInt ≤ 1 := btt0_4; omega), (by have t1 : 0 ≤ t0_4.toInt ∧ t0_4.toInt ≤ 1 := btt0_4; omega)⟩) (by first | with_reducible exact q_fe btt0_8 | exact ⟨(by have t1 : 0 ≤ t0_8.toInt ∧ t0_8.toInt ≤ 1 := btt0_8; omega), (by have t1 : 0 ≤ t0_8.toInt ∧ t0_8.toInt ≤ 1 := btt0_8; omega)⟩)
  replace hT1 := (hu30 _ (by decide)).trans hT1
  replace hT2 := (hu30 _ (by decide)).trans hT2
  replace hT3 := (hu30 _ (by decide)).trans hT3
  replace hT4 := (hu30 _ (by decide)).trans hT4
  replace hF := q_us hF hu30 (by simp)
  refine lv_aload_n hx hb d_10_12_15 rfl (lv_at hl 2 rfl) ?_
  refine lv_iconst (v := 0) hx hb d_10_12_16 (by decide) ?_
  refine q_put (ci := 8) (j := 9) (v := .int 0) (ty := .int) C0 V i_Rea o_Rea n_Rea rfl rfl hT0 (by decide) w_295 rfl rfl rfl rfl (Nat.le_of_ble_eq_true rfl) d_10_12_17 (fun H locs w31 hu32 hT0 V => ?_)
  replace hT0 : w31[38]? = (some (q 38, .inr (8, [.long t0_0, .long t0_1, .ref (q 1), .ref (q 9), .int t0_2, .int t0_3, .int t0_4, .int 0, .int 0, .int 0, .int t0_8, .long t0_9])) : Option (Nat × va_E)) := hT0
  replace hI := n_p38 hI hu32 hT0 (by first | with_reducible exact q_fe btt0_4 | exact ⟨(by have t1 : 0 ≤ t0_4.toInt ∧ t0_4.toInt ≤ 1 := btt0_4; omega), (by have t1 : 0 ≤ t0_4.toInt ∧ t0_4.toInt ≤ 1 := btt0_4; omega)⟩) (by first | with_reducible exact q_fe btt0_8 | exact ⟨(by have t1 : 0 ≤ t0_8.toInt ∧ t0_8.toInt ≤ 1 := btt0_8; omega), (by have t1 : 0 ≤ t0_8.toInt ∧ t0_8.toInt ≤ 1 := btt0_8; omega)⟩)
  replace hT1 := (hu32 _ (by decide)).trans hT1
  replace hT2 := (hu32 _ (by decide)).trans hT2
  replace hT3 := (hu32 _ (by decide)).trans hT3
  replace hT4 := (hu32 _ (by decide)).trans hT4
  replace hF := q_us hF hu32 (by simp)
  refine lv_aload_n hx hb d_10_12_20 rfl (lv_at hl 2 rfl) ?_
  refine lv_iconst (v := 0) hx hb d_10_12_21 (by decide) ?_
  refine q_put (ci := 8) (j := 10) (v := .int 0) (ty := .boolean) C0 V i_Rea o_Rea n_Rea rfl rfl hT0 (by decide) w_296 rfl rfl rfl rfl (Nat.le_of_ble_eq_true rfl) d_10_12_22 (fun H locs w33 hu34 hT0 V => ?_)
  replace hT0 : w33[38]? = (some (q 38, .inr (8, [.long t0_0, .long t0_1, .ref (q 1), .ref (q 9), .int t0_2, .int t0_3, .int t0_4, .int 0, .int 0, .int 0, .int 0, .long t0_9])) : Option (Nat × va_E)) := hT0
  replace hI := n_p38 hI hu34 hT0 (by first | with_reducible exact q_fe btt0_4 | exact ⟨(by have t1 : 0 ≤ t0_4.toInt ∧ t0_4.toInt ≤ 1 := btt0_4; omega), (by have t1 : 0 ≤ t0_4.toInt ∧ t0_4.toInt ≤ 1 := btt0_4; omega)⟩) ⟨(by have z9 : (0 : Int32).toInt = 0 := rfl; omega), (by have z9 : (0 : Int32).toInt = 0 := rfl; omega)⟩
  replace hT1 := (hu34 _ (by decide)).trans hT1
  replace hT2 := (hu34 _ (by decide)).trans hT2
  replace hT3 := (hu34 _ (by decide)).trans hT3
  replace hT4 := (hu34 _ (by decide)).trans hT4
  replace hF := q_us hF hu34 (by simp)
  refine lv_aload_n hx hb d_10_12_25 rfl (lv_at hl 2 rfl) ?_
  refine q_get (ci := 8) (j := 3) (v := .ref (q 9)) C0 V i_Rea rfl rfl hT0 (by decide) w_289 rfl d_10_12_26 ?_
  have hO35 := n_o9 hI
  refine q_get (ci := 4) (j := 0) (v := .ref (q 10)) C0 V i_Mil rfl rfl hO35 (by decide) w_109 rfl d_10_12_29 ?_
  refine q_gov V (q_runV (As := []) (rest := []) (d := 1) (mc := 0) (ms := 0) (ci := 2) C0 V rfl LV_Rea_31 (X_Big_clear l D g q w33 10 220 (n_b10 g q) (by decide)  hI t3_0 t3_1 hT3  _) rfl rfl hT3 rfl hl.1 rfl (Nat.le_of_ble_eq_true rfl) ⟨by decide, by decide⟩ ⟨Nat.le_of_ble_eq_true rfl, Nat.le_of_ble_eq_true rfl⟩ d_10_12_32) (fun u36 H locs hp37 V => ?_)
  obtain ⟨hI, hZ9⟩ := hp37
  obtain ⟨hu46, hZ9⟩ := hZ9
  obtain ⟨y39, hZ9⟩ := hZ9
  obtain ⟨y40, hZ9⟩ := hZ9
  obtain ⟨hO38, hZ9⟩ := hZ9
  obtain ⟨b41, hZ9⟩ := hZ9
  obtain ⟨b42, hZ9⟩ := hZ9
  obtain ⟨b43, hZ9⟩ := hZ9
  obtain ⟨b44, hE45⟩ := hZ9
  replace hO38 : u36[10]? = (some (q 10, .inr (2, [.ref (q 11), .int y39, .int y40])) : Option (Nat × va_E)) := hO38
  obtain ⟨p47, e48⟩ : ∃ z, z = (F_Big_clear (220 : Int32) t3_0 t3_1) := ⟨_, rfl⟩
  have e49 : y39 = p47.1 := congrArg (fun z => z.1) (hE45.trans e48.symm)
  have e50 : y40 = p47.2 := congrArg (fun z => z.2) (hE45.trans e48.symm)
  replace b41 : q_F (0 ≤ y40.toInt) := b41
  replace b42 : q_F (y40.toInt ≤ 0) := b42
  replace b43 : q_F (y40.toInt ≤ y39.toInt) := b43
  replace b44 : q_F (y39.toInt ≤ y40.toInt) := b44
  replace hT0 := (hu46 _ (by decide)).trans hT0
  replace hT1 := (hu46 _ (by decide)).trans hT1
  replace hT2 := (hu46 _ (by decide)).trans hT2
  replace hT4 := (hu46 _ (by decide)).trans hT4
  replace hF := q_uc hF hu46 (by simp)
  have hR51 := (show F_Rea_takeFigures_c32 x2 x3 t0_0 t0_1 t0_2 t0_3 t0_4 t0_5 t0_6 t0_7 t0_8 t0_9 t1_0 t2_0 t3_0 t3_1 t4_0 p47 = (F_Rea_takeFigures x2 x3 t0_0 t0_1 t0_2 t0_3 t0_4 t0_5 t0_6 t0_7 t0_8 t0_9 t1_0 t2_0 t3_0 t3_1 t4_0) from (by rw [e48, F_Rea_takeFigures.eq_1]))
  have hS52 := (show True ∧ S_Rea_takeFigures_c32 x2 x3 t0_0 t0_1 t0_2 t0_3 t0_4 t0_5 t0_6 t0_7 t0_8 t0_9 t1_0 t2_0 t3_0 t3_1 t4_0 p47 from (by rw [e48]; have h := hS; rw [S_Rea_takeFigures.eq_1] at h; with_reducible exact h))
  refine q_loop (X := Int32 × Int32 × Int32 × Int64 × Int64 × Int32 × Int32 × Int32 × Int32 × Int32 × Int32 × Int64 × Int32 × Int32 × (Nat → Int32)) (fun z H locs ls w94 => q_F (z.2.1.toInt ≤ 1) ∧ q_F (0 ≤ z.2.2.2.2.2.2.2.2.1.toInt) ∧ q_F (0 ≤ z.2.2.2.2.2.2.2.2.2.2.1.toInt) ∧ q_F (z.2.2.2.2.2.2.2.2.2.2.1.toInt ≤ 1) ∧ q_F (z.2.2.2.2.2.2.2.2.2.2.2.2.1.toInt ≤ 4100) ∧ q_F (t0_0.toInt ≤ z.2.2.2.1.toInt) ∧ q_F (z.2.2.2.1.toInt ≤ t0_0.toInt) ∧ q_F (t0_1.toInt ≤ z.2.2.2.2.1.toInt) ∧ q_F (z.2.2.2.2.1.toInt ≤ t0_1.toInt) ∧ q_F (t0_3.toInt ≤ z.2.2.2.2.2.1.toInt) ∧ q_F (z.2.2.2.2.2.1.toInt ≤ t0_3.toInt) ∧ q_F (t0_4.toInt ≤ z.2.2.2.2.2.2.1.toInt) ∧ q_F (z.2.2.2.2.2.2.1.toInt ≤ t0_4.toInt) ∧ q_F (t0_9.toInt ≤ z.2.2.2.2.2.2.2.2.2.2.2.1.toInt) ∧ q_F (z.2.2.2.2.2.2.2.2.2.2.2.1.toInt ≤ t0_9.toInt) ∧ q_F (y39.toInt ≤ z.2.2.2.2.2.2.2.2.2.2.2.2.1.toInt) ∧ q_F (y40.toInt ≤ z.2.2.2.2.2.2.2.2.2.2.2.2.2.1.toInt) ∧ q_F (z.2.2.2.2.2.2.2.2.2.2.2.2.2.1.toInt ≤ y40.toInt) ∧ q_F (z.2.1.toInt + t0_2.toInt ≤ z.2.2.1.toInt) ∧ q_F (z.2.2.2.2.2.2.2.2.2.2.2.2.2.1.toInt ≤ z.2.1.toInt + y40.toInt) ∧ q_Wd D g (va_A ws sz) s w94 H locs ∧ lv_has ls 6 [(4, .int z.1), (3, .int z.2.1), (0, .ref (q 38)), (1, .int x2), (2, .int x3)] ∧ q_I (nsh g q) q w94 ∧ q_un ws w94 [10, 11, 38] ∧ w94[38]? = (some (q 38, .inr (8, [.long z.2.2.2.1, .long z.2.2.2.2.1, .ref (q 1), .ref (q 9), .int z.2.2.1, .int z.2.2.2.2.2.1, .int z.2.2.2.2.2.2.1, .int z.2.2.2.2.2.2.2.1, .int z.2.2.2.2.2.2.2.2.1, .int z.2.2.2.2.2.2.2.2.2.1, .int z.2.2.2.2.2.2.2.2.2.2.1, .long z.2.2.2.2.2.2.2.2.2.2.2.1])) : Option (Nat × va_E)) ∧ w94[1]? = (some (q 1, .inr (1, [.ref (q 2), .int 4100, .int t1_0])) : Option (Nat × va_E)) ∧ w94[2]? = (some (q 2, .inl (g 1, (513 : Int32).toNatClampNeg, .inr (.inl t2_0))) : Option (Nat × va_E)) ∧ w94[10]? = (some (q 10, .inr (2, [.ref (q 11), .int z.2.2.2.2.2.2.2.2.2.2.2.2.1, .int z.2.2.2.2.2.2.2.2.2.2.2.2.2.1])) : Option (Nat × va_E)) ∧ w94[11]? = (some (q 11, .inl (g 0, (220 : Int32).toNatClampNeg, .inl z.2.2.2.2.2.2.2.2.2.2.2.2.2.2)) : Option (Nat × va_E)) ∧ (∃ n, (t0_3.toInt - z.2.2.1.toInt).toNat < n ∧ F_Rea_takeFigures_L35 x2 x3 t0_0 t0_1 t0_2 t0_3 t0_4 t0_5 t0_6 t0_7 t0_8 t0_9 t1_0 t2_0 t3_0 t3_1 t4_0 p47 n z.1 z.2.1 z.2.2.1 z.2.2.2.1 z.2.2.2.2.1 z.2.2.2.2.2.1 z.2.2.2.2.2.2.1 z.2.2.2.2.2.2.2.1 z.2.2.2.2.2.2.2.2.1 z.2.2.2.2.2.2.2.2.2.1 z.2.2.2.2.2.2.2.2.2.2.1 z.2.2.2.2.2.2.2.2.2.2.2.1 z.2.2.2.2.2.2.2.2.2.2.2.2.1 z.2.2.2.2.2.2.2.2.2.2.2.2.2.1 z.2.2.2.2.2.2.2.2.2.2.2.2.2.2 = (F_Rea_takeFigures x2 x3 t0_0 t0_1 t0_2 t0_3 t0_4 t0_5 t0_6 t0_7 t0_8 t0_9 t1_0 t2_0 t3_0 t3_1 t4_0) ∧ True ∧ S_Rea_takeFigures_L35 x2 x3 t0_0 t0_1 t0_2 t0_3 t0_4 t0_5 t0_6 t0_7 t0_8 t0_9 t1_0 t2_0 t3_0 t3_1 t4_0 p47 n z.1 z.2.1 z.2.2.1 z.2.2.2.1 z.2.2.2.2.1 z.2.2.2.2.2.1 z.2.2.2.2.2.2.1 z.2.2.2.2.2.2.2.1 z.2.2.2.2.2.2.2.2.1 z.2.2.2.2.2.2.2.2.2.1 z.2.2.2.2.2.2.2.2.2.2.1 z.2.2.2.2.2.2.2.2.2.2.2.1 z.2.2.2.2.2.2.2.2.2.2.2.2.1 z.2.2.2.2.2.2.2.2.2.2.2.2.2.1 z.2.2.2.2.2.2.2.2.2.2.2.2.2.2)) (fun z => (t0_3.toInt - z.2.2.1.toInt).toNat) ?_ ((0 : Int32), (0 : Int32), (t0_2 : Int32), (t0_0 : Int64), (t0_1 : Int64), (t0_3 : Int32), (t0_4 : Int32), (0 : Int32), (0 : Int32), (0 : Int32), (0 : Int32), (t0_9 : Int64), (y39 : Int32), (y40 : Int32), (t4_0 : (Nat → Int32))) _ _ _ u36 ⟨(show q_F (0 ≤ 1) from (show 0 ≤ 1 from by omega)), (show q_F (0 ≤ 0) from (show 0 ≤ 0 from by omega)), (show q_F (0 ≤ 0) from (show 0 ≤ 0 from by omega)), (show q_F (0 ≤ 1) from (show 0 ≤ 1 from by omega)), (show q_F (y39.toInt ≤ 4100) from (show y39.toInt ≤ 4100 from by have t1 : y40.toInt ≤ 0 := b42; have t2 : y39.toInt ≤ y40.toInt := b44; omega)), (show q_F (t0_0.toInt ≤ t0_0.toInt) from (show t0_0.toInt ≤ t0_0.toInt from by omega)), (show q_F (t0_0.toInt ≤ t0_0.toInt) from (show t0_0.toInt ≤ t0_0.toInt from by omega)), (show q_F (t0_1.toInt ≤ t0_1.toInt) from (show t0_1.toInt ≤ t0_1.toInt from by omega)), (show q_F (t0_1.toInt ≤ t0_1.toInt) from (show t0_1.toInt ≤ t0_1.toInt from by omega)), (show q_F (t0_3.toInt ≤ t0_3.toInt) from (show t0_3.toInt ≤ t0_3.toInt from by omega)), (show q_F (t0_3.toInt ≤ t0_3.toInt) from (show t0_3.toInt ≤ t0_3.toInt from by omega)), (show q_F (t0_4.toInt ≤ t0_4.toInt) from (show t0_4.toInt ≤ t0_4.toInt from by omega)), (show q_F (t0_4.toInt ≤ t0_4.toInt) from (show t0_4.toInt ≤ t0_4.toInt from by omega)), (show q_F (t0_9.toInt ≤ t0_9.toInt) from (show t0_9.toInt ≤ t0_9.toInt from by omega)), (show q_F (t0_9.toInt ≤ t0_9.toInt) from (show t0_9.toInt ≤ t0_9.toInt from by omega)), (show q_F (y39.toInt ≤ y39.toInt) from (show y39.toInt ≤ y39.toInt from by omega)), (show q_F (y40.toInt ≤ y40.toInt) from (show y40.toInt ≤ y40.toInt from by omega)), (show q_F (y40.toInt ≤ y40.toInt) from (show y40.toInt ≤ y40.toInt from by omega)), (show q_F (0 + t0_2.toInt ≤ t0_2.toInt) from (show 0 + t0_2.toInt ≤ t0_2.toInt from by omega)), (show q_F (y40.toInt ≤ 0 + y40.toInt) from (show y40.toInt ≤ 0 + y40.toInt from by omega)), V, q_lw hl (q_lw1 0 rfl (q_lw1 1 rfl (q_lw1 2 rfl (q_lw1 3 rfl (q_lw1 4 rfl q_lw0))))), hI, hF, hT0, hT1, hT2, hO38, hT4, ⟨((t0_3.toInt - t0_2.toInt).toNat + 1), Nat.lt_succ_self _, (show F_Rea_takeFigures_L35 x2 x3 t0_0 t0_1 t0_2 t0_3 t0_4 t0_5 t0_6 t0_7 t0_8 t0_9 t1_0 t2_0 t3_0 t3_1 t4_0 p47 ((t0_3.toInt - t0_2.toInt).toNat + 1) 0 0 t0_2 t0_0 t0_1 t0_3 t0_4 0 0 0 0 t0_9 y39 y40 t4_0 = (F_Rea_takeFigures x2 x3 t0_0 t0_1 t0_2 t0_3 t0_4 t0_5 t0_6 t0_7 t0_8 t0_9 t1_0 t2_0 t3_0 t3_1 t4_0) from Eq.trans (by rw [e50, e49, F_Rea_takeFigures_c32.eq_1]) hR51), (show True ∧ S_Rea_takeFigures_L35 x2 x3 t0_0 t0_1 t0_2 t0_3 t0_4 t0_5 t0_6 t0_7 t0_8 t0_9 t1_0 t2_0 t3_0 t3_1 t4_0 p47 ((t0_3.toInt - t0_2.toInt).toNat + 1) 0 0 t0_2 t0_0 t0_1 t0_3 t0_4 0 0 0 0 t0_9 y39 y40 t4_0 from (by rw [e50, e49]; have h := hS52; rw [S_Rea_takeFigures_c32.eq_1] at h; with_reducible exact h))⟩⟩
  rintro ⟨lx58, lx59, lx60, lx61, lx62, lx63, lx64, lx65, lx66, lx67, lx68, lx69, lx70, lx71, lx72⟩ H locs ls w94 ⟨i73, i74, i75, i76, i77, i78, i79, i80, i81, i82, i83, i84, i85, i86, i87, i88, i89, i90, i91, i92, V, hl, hI, hF, hO95, hO96, hO97, hO98, hO99, ⟨fu102, hf103, hR100, hS101⟩⟩ ih93
  obtain ⟨fm104, rfl⟩ : ∃ m, fu102 = m + 1 := ⟨fu102 - 1, by omega⟩
  replace i73 : q_F (lx59.toInt ≤ 1) := i73
  replace i74 : q_F (0 ≤ lx66.toInt) := i74
  replace i75 : q_F (0 ≤ lx68.toInt) := i75
  replace i76 : q_F (lx68.toInt ≤ 1) := i76
  replace i77 : q_F (lx70.toInt ≤ 4100) := i77
  replace i78 : q_F (t0_0.toInt ≤ lx61.toInt) := i78
  replace i79 : q_F (lx61.toInt ≤ t0_0.toInt) := i79
  replace i80 : q_F (t0_1.toInt ≤ lx62.toInt) := i80
  replace i81 : q_F (lx62.toInt ≤ t0_1.toInt) := i81
  replace i82 : q_F (t0_3.toInt ≤ lx63.toInt) := i82
  replace i83 : q_F (lx63.toInt ≤ t0_3.toInt) := i83
  replace i84 : q_F (t0_4.toInt ≤ lx64.toInt) := i84
  replace i85 : q_F (lx64.toInt ≤ t0_4.toInt) := i85
  replace i86 : q_F (t0_9.toInt ≤ lx69.toInt) := i86
  replace i87 : q_F (lx69.toInt ≤ t0_9.toInt) := i87
  replace i88 : q_F (y39.toInt ≤ lx70.toInt) := i88
  replace i89 : q_F (y40.toInt ≤ lx71.toInt) := i89
  replace i90 : q_F (lx71.toInt ≤ y40.toInt) := i90
  replace i91 : q_F (lx59.toInt + t0_2.toInt ≤ lx60.toInt) := i91
  replace i92 : q_F (lx71.toInt ≤ lx59.toInt + y40.toInt) := i92
  replace hl : lv_has ls 6 [(4, .int lx58), (3, .int lx59), (0, .ref (q 38)), (1, .int x2), (2, .int x3)] := hl
  replace hO95 : w94[38]? = (some (q 38, .inr (8, [.long lx61, .long lx62, .ref (q 1), .ref (q 9), .int lx60, .int lx63, .int lx64, .int lx65, .int lx66, .int lx67, .int lx68, .long lx69])) : Option (Nat × va_E)) := hO95
  replace hO96 : w94[1]? = (some (q 1, .inr (1, [.ref (q 2), .int 4100, .int t1_0])) : Option (Nat × va_E)) := hO96
  replace hO97 : w94[2]? = (some (q 2, .inl (g 1, (513 : Int32).toNatClampNeg, .inr (.inl t2_0))) : Option (Nat × va_E)) := hO97
  replace hO98 : w94[10]? = (some (q 10, .inr (2, [.ref (q 11), .int lx70, .int lx71])) : Option (Nat × va_E)) := hO98
  replace hO99 : w94[11]? = (some (q 11, .inl (g 0, (220 : Int32).toNatClampNeg, .inl lx72)) : Option (Nat × va_E)) := hO99
  refine lv_aload_n hx hb d_10_12_35 rfl (lv_at hl 2 rfl) ?_
  refine q_get (ci := 8) (j := 4) (v := .int lx60) C0 V i_Rea rfl rfl hO95 (by decide) w_290 rfl d_10_12_36 ?_
  refine lv_aload_n hx hb d_10_12_39 rfl (lv_at hl 2 rfl) ?_
  refine q_get (ci := 8) (j := 5) (v := .int lx63) C0 V i_Rea rfl rfl hO95 (by decide) w_291 rfl d_10_12_40 ?_
  refine lv_icmp_ge (tgt := 118) hx hb d_10_12_43 (by decide) (fun c105 => ?_) (fun c105 => ?_)
  ·
    refine lv_iload hx hb d_10_12_118 (lv_at hl 0 rfl) ?_
    refine lv_if_le (tgt := 127) hx hb d_10_12_120 (by decide) (fun c107 => ?_) (fun c107 => ?_)
    ·
      refine lv_iconst (v := 0) hx hb d_10_12_127 (by decide) ?_
      exact q_retz C0 V (by decide) (⟨hI, hF, lx61, lx62, lx60, lx63, lx64, lx65, lx66, lx67, lx68, lx69, lx70, lx71, lx72, hO95, hO98, hO99, (show 0 ≤ lx71.toInt from (by have z17 : (0 : Int32).toInt = 0 := rfl; have t1 : 0 ≤ y40.toInt := b41; have t2 : y40.toInt ≤ lx71.toInt := i89; omega)), (show lx71.toInt ≤ 0 from (by have z17 : (0 : Int32).toInt = 0 := rfl; have t1 : y40.toInt ≤ 0 := b42; have t2 : lx71.toInt ≤ y40.toInt := i90; omega)), (show t0_0.toInt ≤ lx61.toInt from (by have z17 : (0 : Int32).toInt = 0 := rfl; have t1 : t0_0.toInt ≤ lx61.toInt := i78; omega)), (show lx61.toInt ≤ t0_0.toInt from (by have z17 : (0 : Int32).toInt = 0 := rfl; have t1 : lx61.toInt ≤ t0_0.toInt := i79; omega)), (show t0_1.toInt ≤ lx62.toInt from (by have z17 : (0 : Int32).toInt = 0 := rfl; have t1 : t0_1.toInt ≤ lx62.toInt := i80; omega)), (show lx62.toInt ≤ t0_1.toInt from (by have z17 : (0 : Int32).toInt = 0 := rfl; have t1 : lx62.toInt ≤ t0_1.toInt := i81; omega)), (show t0_2.toInt ≤ lx60.toInt from (by have z17 : (0 : Int32).toInt = 0 := rfl; have t1 : y40.toInt ≤ lx71.toInt := i89; have t2 : lx59.toInt + t0_2.toInt ≤ lx60.toInt := i91; have t3 : lx71.toInt ≤ lx59.toInt + y40.toInt := i92; omega)), (show t0_3.toInt ≤ lx63.toInt from (by have z17 : (0 : Int32).toInt = 0 := rfl; have t1 : t0_3.toInt ≤ lx63.toInt := i82; omega)), (show lx63.toInt ≤ t0_3.toInt from (by have z17 : (0 : Int32).toInt = 0 := rfl; have t1 : lx63.toInt ≤ t0_3.toInt := i83; omega)), (show t0_4.toInt ≤ lx64.toInt from (by have z17 : (0 : Int32).toInt = 0 := rfl; have t1 : t0_4.toInt ≤ lx64.toInt := i84; omega)), (show lx64.toInt ≤ t0_4.toInt from (by have z17 : (0 : Int32).toInt = 0 := rfl; have t1 : lx64.toInt ≤ t0_4.toInt := i85; omega)), (show t0_9.toInt ≤ lx69.toInt from (by have z17 : (0 : Int32).toInt = 0 := rfl; have t1 : t0_9.toInt ≤ lx69.toInt := i86; omega)), (show lx69.toInt ≤ t0_9.toInt from (by have z17 : (0 : Int32).toInt = 0 := rfl; have t1 : lx69.toInt ≤ t0_9.toInt := i87; omega)), (show lx71.toInt ≤ (0 : Int32).toInt from (by have z17 : (0 : Int32).toInt = 0 := rfl; have t1 : y40.toInt ≤ 0 := b42; have t2 : lx71.toInt ≤ y40.toInt := i90; omega)), (show (0 : Int32).toInt ≤ lx71.toInt + 1 from (by have z17 : (0 : Int32).toInt = 0 := rfl; have t1 : 0 ≤ y40.toInt := b41; have t2 : y40.toInt ≤ lx71.toInt := i89; omega)), (show lx71.toInt ≤ lx66.toInt from (by have z17 : (0 : Int32).toInt = 0 := rfl; have t1 : y40.toInt ≤ 0 := b42; have t2 : 0 ≤ lx66.toInt := i74; have t3 : lx71.toInt ≤ y40.toInt := i90; omega)), (show lx71.toInt ≤ lx68.toInt from (by have z17 : (0 : Int32).toInt = 0 := rfl; have t1 : y40.toInt ≤ 0 := b42; have t2 : 0 ≤ lx68.toInt := i75; have t3 : lx71.toInt ≤ y40.toInt := i90; omega)), (show lx68.toInt ≤ lx71.toInt + 1 from (by have z17 : (0 : Int32).toInt = 0 := rfl; have t1 : 0 ≤ y40.toInt := b41; have t2 : lx68.toInt ≤ 1 := i76; have t3 : y40.toInt ≤ lx71.toInt := i89; omega)), (show lx71.toInt ≤ lx70.toInt from (by have z17 : (0 : Int32).toInt = 0 := rfl; have t1 : y40.toInt ≤ y39.toInt := b43; have t2 : y39.toInt ≤ lx70.toInt := i88; have t3 : lx71.toInt ≤ y40.toInt := i90; omega)), (show lx70.toInt ≤ lx71.toInt + 4100 from (by have z17 : (0 : Int32).toInt = 0 := rfl; have t1 : 0 ≤ y40.toInt := b41; have t2 : lx70.toInt ≤ 4100 := i77; have t3 : y40.toInt ≤ lx71.toInt := i89; omega)), (show ((0 : Int32), lx61, lx62, lx60, lx63, lx64, lx65, lx66, lx67, lx68, lx69, lx70, lx71, lx72) = (F_Rea_takeFigures x2 x3 t0_0 t0_1 t0_2 t0_3 t0_4 t0_5 t0_6 t0_7 t0_8 t0_9 t1_0 t2_0 t3_0 t3_1 t4_0) from Eq.trans (by rw [F_Rea_takeFigures_L35.eq_2, if_pos c105, if_pos c107]) hR100)⟩) d_10_12_128
    ·
      refine lv_iconst (v := 1) hx hb d_10_12_123 (by decide) ?_
      refine lv_goto (tgt := 128) hx hb d_10_12_124 (by decide) ?_
      exact q_retz C0 V (by decide) (⟨hI, hF, lx61, lx62, lx60, lx63, lx64, lx65, lx66, lx67, lx68, lx69, lx70, lx71, lx72, hO95, hO98, hO99, (show 0 ≤ lx71.toInt from (by have z17 : (1 : Int32).toInt = 1 := rfl; have t1 : 0 ≤ y40.toInt := b41; have t2 : y40.toInt ≤ lx71.toInt := i89; omega)), (show lx71.toInt ≤ 0 from (by have z17 : (1 : Int32).toInt = 1 := rfl; have t1 : y40.toInt ≤ 0 := b42; have t2 : lx71.toInt ≤ y40.toInt := i90; omega)), (show t0_0.toInt ≤ lx61.toInt from (by have z17 : (1 : Int32).toInt = 1 := rfl; have t1 : t0_0.toInt ≤ lx61.toInt := i78; omega)), (show lx61.toInt ≤ t0_0.toInt from (by have z17 : (1 : Int32).toInt = 1 := rfl; have t1 : lx61.toInt ≤ t0_0.toInt := i79; omega)), (show t0_1.toInt ≤ lx62.toInt from (by have z17 : (1 : Int32).toInt = 1 := rfl; have t1 : t0_1.toInt ≤ lx62.toInt := i80; omega)), (show lx62.toInt ≤ t0_1.toInt from (by have z17 : (1 : Int32).toInt = 1 := rfl; have t1 : lx62.toInt ≤ t0_1.toInt := i81; omega)), (show t0_2.toInt ≤ lx60.toInt from (by have z17 : (1 : Int32).toInt = 1 := rfl; have t1 : y40.toInt ≤ lx71.toInt := i89; have t2 : lx59.toInt + t0_2.toInt ≤ lx60.toInt := i91; have t3 : lx71.toInt ≤ lx59.toInt + y40.toInt := i92; omega)), (show t0_3.toInt ≤ lx63.toInt from (by have z17 : (1 : Int32).toInt = 1 := rfl; have t1 : t0_3.toInt ≤ lx63.toInt := i82; omega)), (show lx63.toInt ≤ t0_3.toInt from (by have z17 : (1 : Int32).toInt = 1 := rfl; have t1 : lx63.toInt ≤ t0_3.toInt := i83; omega)), (show t0_4.toInt ≤ lx64.toInt from (by have z17 : (1 : Int32).toInt = 1 := rfl; have t1 : t0_4.toInt ≤ lx64.toInt := i84; omega)), (show lx64.toInt ≤ t0_4.toInt from (by have z17 : (1 : Int32).toInt = 1 := rfl; have t1 : lx64.toInt ≤ t0_4.toInt := i85; omega)), (show t0_9.toInt ≤ lx69.toInt from (by have z17 : (1 : Int32).toInt = 1 := rfl; have t1 : t0_9.toInt ≤ lx69.toInt := i86; omega)), (show lx69.toInt ≤ t0_9.toInt from (by have z17 : (1 : Int32).toInt = 1 := rfl; have t1 : lx69.toInt ≤ t0_9.toInt := i87; omega)), (show lx71.toInt ≤ (1 : Int32).toInt from (by have z17 : (1 : Int32).toInt = 1 := rfl; have t1 : y40.toInt ≤ 0 := b42; have t2 : lx71.toInt ≤ y40.toInt := i90; omega)), (show (1 : Int32).toInt ≤ lx71.toInt + 1 from (by have z17 : (1 : Int32).toInt = 1 := rfl; have t1 : 0 ≤ y40.toInt := b41; have t2 : y40.toInt ≤ lx71.toInt := i89; omega)), (show lx71.toInt ≤ lx66.toInt from (by have z17 : (1 : Int32).toInt = 1 := rfl; have t1 : y40.toInt ≤ 0 := b42; have t2 : 0 ≤ lx66.toInt := i74; have t3 : lx71.toInt ≤ y40.toInt := i90; omega)), (show lx71.toInt ≤ lx68.toInt from (by have z17 : (1 : Int32).toInt = 1 := rfl; have t1 : y40.toInt ≤ 0 := b42; have t2 : 0 ≤ lx68.toInt := i75; have t3 : lx71.toInt ≤ y40.toInt := i90; omega)), (show lx68.toInt ≤ lx71.toInt + 1 from (by have z17 : (1 : Int32).toInt = 1 := rfl; have t1 : 0 ≤ y40.toInt := b41; have t2 : lx68.toInt ≤ 1 := i76; have t3 : y40.toInt ≤ lx71.toInt := i89; omega)), (show lx71.toInt ≤ lx70.toInt from (by have z17 : (1 : Int32).toInt = 1 := rfl; have t1 : y40.toInt ≤ y39.toInt := b43; have t2 : y39.toInt ≤ lx70.toInt := i88; have t3 : lx71.toInt ≤ y40.toInt := i90; omega)), (show lx70.toInt ≤ lx71.toInt + 4100 from (by have z17 : (1 : Int32).toInt = 1 := rfl; have t1 : 0 ≤ y40.toInt := b41; have t2 : lx70.toInt ≤ 4100 := i77; have t3 : y40.toInt ≤ lx71.toInt := i89; omega)), (show ((1 : Int32), lx61, lx62, lx60, lx63, lx64, lx65, lx66, lx67, lx68, lx69, lx70, lx71, lx72) = (F_Rea_takeFigures x2 x3 t0_0 t0_1 t0_2 t0_3 t0_4 t0_5 t0_6 t0_7 t0_8 t0_9 t1_0 t2_0 t3_0 t3_1 t4_0) from Eq.trans (by rw [F_Rea_takeFigures_L35.eq_2, if_pos c105, if_neg c107]) hR100)⟩) d_10_12_128
  ·
    have b110 : q_F (lx60.toInt < lx63.toInt) := (q_nleI c105)
    refine lv_aload_n hx hb d_10_12_46 rfl (lv_at hl 2 rfl) ?_
    have ob111 : True ∧ S_Rea_digitHere lx61 lx62 lx60 lx63 lx64 lx65 lx66 lx67 lx68 lx69 t1_0 t2_0 := (by have h := hS101; rw [S_Rea_takeFigures_L35.eq_2] at h; rw [if_neg c105] at h; with_reducible exact h.2.1)
    refine q_goi V (q_runV (As := []) (rest := []) (d := 3) (mc := 0) (ms := 0) (ci := 8) C0 V rfl LV_Rea_43 (X_Rea_digitHere l D g q w94   hI lx61 lx62 lx60 lx63 lx64 lx65 lx66 lx67 lx68 lx69 hO95 t1_0 hO96 t2_0 hO97 ob111 _) rfl rfl hO95 rfl hl.1 rfl (Nat.le_of_ble_eq_true rfl) ⟨by decide, by decide⟩ ⟨Nat.le_of_ble_eq_true rfl, Nat.le_of_ble_eq_true rfl⟩ d_10_12_47) (fun a114 u112 H locs hp113 V => ?_)
    obtain ⟨rfl, b115, b116, hE117⟩ := hp113
    have e118 : a114 = (F_Rea_digitHere lx61 lx62 lx60 lx63 lx64 lx65 lx66 lx67 lx68 lx69 t1_0 t2_0) := hE117
    clear b115
    clear b116
    refine lv_istore (lv' := [(5, .int a114), (4, .int lx58), (3, .int lx59), (0, .ref (q 38)), (1, .int x2), (2, .int x3)]) hx hb d_10_12_50 hl (by decide) rfl (fun ls hl => ?_)
    refine lv_iload hx hb d_10_12_52 (lv_at hl 0 rfl) ?_
    refine lv_iload_n hx hb d_10_12_54 rfl (lv_at hl 4 rfl) ?_
    refine lv_icmp_ge (tgt := 90) hx hb d_10_12_55 (by decide) (fun c119 => ?_) (fun c119 => ?_)
    ·
      refine lv_aload_n hx hb d_10_12_90 rfl (lv_at hl 3 rfl) ?_
      have ob121 : True ∧ S_Rea_here lx61 lx62 lx60 lx63 lx64 lx65 lx66 lx67 lx68 lx69 t1_0 t2_0 := (by have h := hS101; rw [S_Rea_takeFigures_L35.eq_2] at h; rw [if_neg c105] at h; replace h := q_s2 h; have c119x := c119; rw [e118] at c119x; rw [if_pos c119x] at h; with_reducible exact h.2.1)
      refine q_goi V (q_runV (As := []) (rest := []) (d := 2) (mc := 0) (ms := 0) (ci := 8) C0 V rfl LV_Rea_70 (X_Rea_here l D g q w94   hI lx61 lx62 lx60 lx63 lx64 lx65 lx66 lx67 lx68 lx69 hO95 t1_0 hO96 t2_0 hO97 ob121 _) rfl rfl hO95 rfl hl.1 rfl (Nat.le_of_ble_eq_true rfl) ⟨by decide, by decide⟩ ⟨Nat.le_of_ble_eq_true rfl, Nat.le_of_ble_eq_true rfl⟩ d_10_12_91) (fun a124 u122 H locs hp123 V => ?_)
      obtain ⟨rfl, b125, b126, hE127⟩ := hp123
      have e128 : a124 = (F_Rea_here lx61 lx62 lx60 lx63 lx64 lx65 lx66 lx67 lx68 lx69 t1_0 t2_0) := hE127
      clear b125
      clear b126
      refine lv_bipush (v := 46) hx hb d_10_12_94 (by decide) ?_
      refine lv_icmp_ne (tgt := 118) hx hb d_10_12_96 (by decide) (fun c129 => ?_) (fun c129 => ?_)
      ·
        refine lv_iload hx hb d_10_12_118 (lv_at hl 1 rfl) ?_
        refine lv_if_le (tgt := 127) hx hb d_10_12_120 (by decide) (fun c131 => ?_) (fun c131 => ?_)
        ·
          refine lv_iconst (v := 0) hx hb d_10_12_127 (by decide) ?_
          exact q_retz C0 V (by decide) (⟨hI, hF, lx61, lx62, lx60, lx63, lx64, lx65, lx66, lx67, lx68, lx69, lx70, lx71, lx72, hO95, hO98, hO99, (show 0 ≤ lx71.toInt from (by have z17 : (0 : Int32).toInt = 0 := rfl; have t1 : 0 ≤ y40.toInt := b41; have t2 : y40.toInt ≤ lx71.toInt := i89; omega)), (show lx71.toInt ≤ 0 from (by have z17 : (0 : Int32).toInt = 0 := rfl; have t1 : y40.toInt ≤ 0 := b42; have t2 : lx71.toInt ≤ y40.toInt := i90; omega)), (show t0_0.toInt ≤ lx61.toInt from (by have z17 : (0 : Int32).toInt = 0 := rfl; have t1 : t0_0.toInt ≤ lx61.toInt := i78; omega)), (show lx61.toInt ≤ t0_0.toInt from (by have z17 : (0 : Int32).toInt = 0 := rfl; have t1 : lx61.toInt ≤ t0_0.toInt := i79; omega)), (show t0_1.toInt ≤ lx62.toInt from (by have z17 : (0 : Int32).toInt = 0 := rfl; have t1 : t0_1.toInt ≤ lx62.toInt := i80; omega)), (show lx62.toInt ≤ t0_1.toInt from (by have z17 : (0 : Int32).toInt = 0 := rfl; have t1 : lx62.toInt ≤ t0_1.toInt := i81; omega)), (show t0_2.toInt ≤ lx60.toInt from (by have z17 : (0 : Int32).toInt = 0 := rfl; have t1 : y40.toInt ≤ lx71.toInt := i89; have t2 : lx59.toInt + t0_2.toInt ≤ lx60.toInt := i91; have t3 : lx71.toInt ≤ lx59.toInt + y40.toInt := i92; omega)), (show t0_3.toInt ≤ lx63.toInt from (by have z17 : (0 : Int32).toInt = 0 := rfl; have t1 : t0_3.toInt ≤ lx63.toInt := i82; omega)), (show lx63.toInt ≤ t0_3.toInt from (by have z17 : (0 : Int32).toInt = 0 := rfl; have t1 : lx63.toInt ≤ t0_3.toInt := i83; omega)), (show t0_4.toInt ≤ lx64.toInt from (by have z17 : (0 : Int32).toInt = 0 := rfl; have t1 : t0_4.toInt ≤ lx64.toInt := i84; omega)), (show lx64.toInt ≤ t0_4.toInt from (by have z17 : (0 : Int32).toInt = 0 := rfl; have t1 : lx64.toInt ≤ t0_4.toInt := i85; omega)), (show t0_9.toInt ≤ lx69.toInt from (by have z17 : (0 : Int32).toInt = 0 := rfl; have t1 : t0_9.toInt ≤ lx69.toInt := i86; omega)), (show lx69.toInt ≤ t0_9.toInt from (by have z17 : (0 : Int32).toInt = 0 := rfl; have t1 : lx69.toInt ≤ t0_9.toInt := i87; omega)), (show lx71.toInt ≤ (0 : Int32).toInt from (by have z17 : (0 : Int32).toInt = 0 := rfl; have t1 : y40.toInt ≤ 0 := b42; have t2 : lx71.toInt ≤ y40.toInt := i90; omega)), (show (0 : Int32).toInt ≤ lx71.toInt + 1 from (by have z17 : (0 : Int32).toInt = 0 := rfl; have t1 : 0 ≤ y40.toInt := b41; have t2 : y40.toInt ≤ lx71.toInt := i89; omega)), (show lx71.toInt ≤ lx66.toInt from (by have z17 : (0 : Int32).toInt = 0 := rfl; have t1 : y40.toInt ≤ 0 := b42; have t2 : 0 ≤ lx66.toInt := i74; have t3 : lx71.toInt ≤ y40.toInt := i90; omega)), (show lx71.toInt ≤ lx68.toInt from (by have z17 : (0 : Int32).toInt = 0 := rfl; have t1 : y40.toInt ≤ 0 := b42; have t2 : 0 ≤ lx68.toInt := i75; have t3 : lx71.toInt ≤ y40.toInt := i90; omega)), (show lx68.toInt ≤ lx71.toInt + 1 from (by have z17 : (0 : Int32).toInt = 0 := rfl; have t1 : 0 ≤ y40.toInt := b41; have t2 : lx68.toInt ≤ 1 := i76; have t3 : y40.toInt ≤ lx71.toInt := i89; omega)), (show lx71.toInt ≤ lx70.toInt from (by have z17 : (0 : Int32).toInt = 0 := rfl; have t1 : y40.toInt ≤ y39.toInt := b43; have t2 : y39.toInt ≤ lx70.toInt := i88; have t3 : lx71.toInt ≤ y40.toInt := i90; omega)), (show lx70.toInt ≤ lx71.toInt + 4100 from (by have z17 : (0 : Int32).toInt = 0 := rfl; have t1 : 0 ≤ y40.toInt := b41; have t2 : lx70.toInt ≤ 4100 := i77; have t3 : y40.toInt ≤ lx71.toInt := i89; omega)), (show ((0 : Int32), lx61, lx62, lx60, lx63, lx64, lx65, lx66, lx67, lx68, lx69, lx70, lx71, lx72) = (F_Rea_takeFigures x2 x3 t0_0 t0_1 t0_2 t0_3 t0_4 t0_5 t0_6 t0_7 t0_8 t0_9 t1_0 t2_0 t3_0 t3_1 t4_0) from Eq.trans (by have c119x := c119; rw [e118] at c119x; have c129x := c129; rw [e128] at c129x; rw [F_Rea_takeFigures_L35.eq_2, if_neg c105, if_pos c119x, if_neg c129x, if_pos c131]) hR100)⟩) d_10_12_128
        ·
          refine lv_iconst (v := 1) hx hb d_10_12_123 (by decide) ?_
          refine lv_goto (tgt := 128) hx hb d_10_12_124 (by decide) ?_
          exact q_retz C0 V (by decide) (⟨hI, hF, lx61, lx62, lx60, lx63, lx64, lx65, lx66, lx67, lx68, lx69, lx70, lx71, lx72, hO95, hO98, hO99, (show 0 ≤ lx71.toInt from (by have z17 : (1 : Int32).toInt = 1 := rfl; have t1 : 0 ≤ y40.toInt := b41; have t2 : y40.toInt ≤ lx71.toInt := i89; omega)), (show lx71.toInt ≤ 0 from (by have z17 : (1 : Int32).toInt = 1 := rfl; have t1 : y40.toInt ≤ 0 := b42; have t2 : lx71.toInt ≤ y40.toInt := i90; omega)), (show t0_0.toInt ≤ lx61.toInt from (by have z17 : (1 : Int32).toInt = 1 := rfl; have t1 : t0_0.toInt ≤ lx61.toInt := i78; omega)), (show lx61.toInt ≤ t0_0.toInt from (by have z17 : (1 : Int32).toInt = 1 := rfl; have t1 : lx61.toInt ≤ t0_0.toInt := i79; omega)), (show t0_1.toInt ≤ lx62.toInt from (by have z17 : (1 : Int32).toInt = 1 := rfl; have t1 : t0_1.toInt ≤ lx62.toInt := i80; omega)), (show lx62.toInt ≤ t0_1.toInt from (by have z17 : (1 : Int32).toInt = 1 := rfl; have t1 : lx62.toInt ≤ t0_1.toInt := i81; omega)), (show t0_2.toInt ≤ lx60.toInt from (by have z17 : (1 : Int32).toInt = 1 := rfl; have t1 : y40.toInt ≤ lx71.toInt := i89; have t2 : lx59.toInt + t0_2.toInt ≤ lx60.toInt := i91; have t3 : lx71.toInt ≤ lx59.toInt + y40.toInt := i92; omega)), (show t0_3.toInt ≤ lx63.toInt from (by have z17 : (1 : Int32).toInt = 1 := rfl; have t1 : t0_3.toInt ≤ lx63.toInt := i82; omega)), (show lx63.toInt ≤ t0_3.toInt from (by have z17 : (1 : Int32).toInt = 1 := rfl; have t1 : lx63.toInt ≤ t0_3.toInt := i83; omega)), (show t0_4.toInt ≤ lx64.toInt from (by have z17 : (1 : Int32).toInt = 1 := rfl; have t1 : t0_4.toInt ≤ lx64.toInt := i84; omega)), (show lx64.toInt ≤ t0_4.toInt from (by have z17 : (1 : Int32).toInt = 1 := rfl; have t1 : lx64.toInt ≤ t0_4.toInt := i85; omega)), (show t0_9.toInt ≤ lx69.toInt from (by have z17 : (1 : Int32).toInt = 1 := rfl; have t1 : t0_9.toInt ≤ lx69.toInt := i86; omega)), (show lx69.toInt ≤ t0_9.toInt from (by have z17 : (1 : Int32).toInt = 1 := rfl; have t1 : lx69.toInt ≤ t0_9.toInt := i87; omega)), (show lx71.toInt ≤ (1 : Int32).toInt from (by have z17 : (1 : Int32).toInt = 1 := rfl; have t1 : y40.toInt ≤ 0 := b42; have t2 : lx71.toInt ≤ y40.toInt := i90; omega)), (show (1 : Int32).toInt ≤ lx71.toInt + 1 from (by have z17 : (1 : Int32).toInt = 1 := rfl; have t1 : 0 ≤ y40.toInt := b41; have t2 : y40.toInt ≤ lx71.toInt := i89; omega)), (show lx71.toInt ≤ lx66.toInt from (by have z17 : (1 : Int32).toInt = 1 := rfl; have t1 : y40.toInt ≤ 0 := b42; have t2 : 0 ≤ lx66.toInt := i74; have t3 : lx71.toInt ≤ y40.toInt := i90; omega)), (show lx71.toInt ≤ lx68.toInt from (by have z17 : (1 : Int32).toInt = 1 := rfl; have t1 : y40.toInt ≤ 0 := b42; have t2 : 0 ≤ lx68.toInt := i75; have t3 : lx71.toInt ≤ y40.toInt := i90; omega)), (show lx68.toInt ≤ lx71.toInt + 1 from (by have z17 : (1 : Int32).toInt = 1 := rfl; have t1 : 0 ≤ y40.toInt := b41; have t2 : lx68.toInt ≤ 1 := i76; have t3 : y40.toInt ≤ lx71.toInt := i89; omega)), (show lx71.toInt ≤ lx70.toInt from (by have z17 : (1 : Int32).toInt = 1 := rfl; have t1 : y40.toInt ≤ y39.toInt := b43; have t2 : y39.toInt ≤ lx70.toInt := i88; have t3 : lx71.toInt ≤ y40.toInt := i90; omega)), (show lx70.toInt ≤ lx71.toInt + 4100 from (by have z17 : (1 : Int32).toInt = 1 := rfl; have t1 : 0 ≤ y40.toInt := b41; have t2 : lx70.toInt ≤ 4100 := i77; have t3 : y40.toInt ≤ lx71.toInt := i89; omega)), (show ((1 : Int32), lx61, lx62, lx60, lx63, lx64, lx65, lx66, lx67, lx68, lx69, lx70, lx71, lx72) = (F_Rea_takeFigures x2 x3 t0_0 t0_1 t0_2 t0_3 t0_4 t0_5 t0_6 t0_7 t0_8 t0_9 t1_0 t2_0 t3_0 t3_1 t4_0) from Eq.trans (by have c119x := c119; rw [e118] at c119x; have c129x := c129; rw [e128] at c129x; rw [F_Rea_takeFigures_L35.eq_2, if_neg c105, if_pos c119x, if_neg c129x, if_neg c131]) hR100)⟩) d_10_12_128
      ·
        refine lv_iload_n hx hb d_10_12_99 rfl (lv_at hl 2 rfl) ?_
        refine lv_if_ne (tgt := 118) hx hb d_10_12_100 (by decide) (fun c135 => ?_) (fun c135 => ?_)
        ·
          refine lv_iload hx hb d_10_12_118 (lv_at hl 1 rfl) ?_
          refine lv_if_le (tgt := 127) hx hb d_10_12_120 (by decide) (fun c137 => ?_) (fun c137 => ?_)
          ·
            refine lv_iconst (v := 0) hx hb d_10_12_127 (by decide) ?_
            exact q_retz C0 V (by decide) (⟨hI, hF, lx61, lx62, lx60, lx63, lx64, lx65, lx66, lx67, lx68, lx69, lx70, lx71, lx72, hO95, hO98, hO99, (show 0 ≤ lx71.toInt from (by have z17 : (0 : Int32).toInt = 0 := rfl; have t1 : 0 ≤ y40.toInt := b41; have t2 : y40.toInt ≤ lx71.toInt := i89; omega)), (show lx71.toInt ≤ 0 from (by have z17 : (0 : Int32).toInt = 0 := rfl; have t1 : y40.toInt ≤ 0 := b42; have t2 : lx71.toInt ≤ y40.toInt := i90; omega)), (show t0_0.toInt ≤ lx61.toInt from (by have z17 : (0 : Int32).toInt = 0 := rfl; have t1 : t0_0.toInt ≤ lx61.toInt := i78; omega)), (show lx61.toInt ≤ t0_0.toInt from (by have z17 : (0 : Int32).toInt = 0 := rfl; have t1 : lx61.toInt ≤ t0_0.toInt := i79; omega)), (show t0_1.toInt ≤ lx62.toInt from (by have z17 : (0 : Int32).toInt = 0 := rfl; have t1 : t0_1.toInt ≤ lx62.toInt := i80; omega)), (show lx62.toInt ≤ t0_1.toInt from (by have z17 : (0 : Int32).toInt = 0 := rfl; have t1 : lx62.toInt ≤ t0_1.toInt := i81; omega)), (show t0_2.toInt ≤ lx60.toInt from (by have z17 : (0 : Int32).toInt = 0 := rfl; have t1 : y40.toInt ≤ lx71.toInt := i89; have t2 : lx59.toInt + t0_2.toInt ≤ lx60.toInt := i91; have t3 : lx71.toInt ≤ lx59.toInt + y40.toInt := i92; omega)), (show t0_3.toInt ≤ lx63.toInt from (by have z17 : (0 : Int32).toInt = 0 := rfl; have t1 : t0_3.toInt ≤ lx63.toInt := i82; omega)), (show lx63.toInt ≤ t0_3.toInt from (by have z17 : (0 : Int32).toInt = 0 := rfl; have t1 : lx63.toInt ≤ t0_3.toInt := i83; omega)), (show t0_4.toInt ≤ lx64.toInt from (by have z17 : (0 : Int32).toInt = 0 := rfl; have t1 : t0_4.toInt ≤ lx64.toInt := i84; omega)), (show lx64.toInt ≤ t0_4.toInt from (by have z17 : (0 : Int32).toInt = 0 := rfl; have t1 : lx64.toInt ≤ t0_4.toInt := i85; omega)), (show t0_9.toInt ≤ lx69.toInt from (by have z17 : (0 : Int32).toInt = 0 := rfl; have t1 : t0_9.toInt ≤ lx69.toInt := i86; omega)), (show lx69.toInt ≤ t0_9.toInt from (by have z17 : (0 : Int32).toInt = 0 := rfl; have t1 : lx69.toInt ≤ t0_9.toInt := i87; omega)), (show lx71.toInt ≤ (0 : Int32).toInt from (by have z17 : (0 : Int32).toInt = 0 := rfl; have t1 : y40.toInt ≤ 0 := b42; have t2 : lx71.toInt ≤ y40.toInt := i90; omega)), (show (0 : Int32).toInt ≤ lx71.toInt + 1 from (by have z17 : (0 : Int32).toInt = 0 := rfl; have t1 : 0 ≤ y40.toInt := b41; have t2 : y40.toInt ≤ lx71.toInt := i89; omega)), (show lx71.toInt ≤ lx66.toInt from (by have z17 : (0 : Int32).toInt = 0 := rfl; have t1 : y40.toInt ≤ 0 := b42; have t2 : 0 ≤ lx66.toInt := i74; have t3 : lx71.toInt ≤ y40.toInt := i90; omega)), (show lx71.toInt ≤ lx68.toInt from (by have z17 : (0 : Int32).toInt = 0 := rfl; have t1 : y40.toInt ≤ 0 := b42; have t2 : 0 ≤ lx68.toInt := i75; have t3 : lx71.toInt ≤ y40.toInt := i90; omega)), (show lx68.toInt ≤ lx71.toInt + 1 from (by have z17 : (0 : Int32).toInt = 0 := rfl; have t1 : 0 ≤ y40.toInt := b41; have t2 : lx68.toInt ≤ 1 := i76; have t3 : y40.toInt ≤ lx71.toInt := i89; omega)), (show lx71.toInt ≤ lx70.toInt from (by have z17 : (0 : Int32).toInt = 0 := rfl; have t1 : y40.toInt ≤ y39.toInt := b43; have t2 : y39.toInt ≤ lx70.toInt := i88; have t3 : lx71.toInt ≤ y40.toInt := i90; omega)), (show lx70.toInt ≤ lx71.toInt + 4100 from (by have z17 : (0 : Int32).toInt = 0 := rfl; have t1 : 0 ≤ y40.toInt := b41; have t2 : lx70.toInt ≤ 4100 := i77; have t3 : y40.toInt ≤ lx71.toInt := i89; omega)), (show ((0 : Int32), lx61, lx62, lx60, lx63, lx64, lx65, lx66, lx67, lx68, lx69, lx70, lx71, lx72) = (F_Rea_takeFigures x2 x3 t0_0 t0_1 t0_2 t0_3 t0_4 t0_5 t0_6 t0_7 t0_8 t0_9 t1_0 t2_0 t3_0 t3_1 t4_0) from Eq.trans (by have c119x := c119; rw [e118] at c119x; have c129x := c129; rw [e128] at c129x; rw [F_Rea_takeFigures_L35.eq_2, if_neg c105, if_pos c119x, if_pos c129x, if_neg c135, if_pos c137]) hR100)⟩) d_10_12_128
          ·
            refine lv_iconst (v := 1) hx hb d_10_12_123 (by decide) ?_
            refine lv_goto (tgt := 128) hx hb d_10_12_124 (by decide) ?_
            exact q_retz C0 V (by decide) (⟨hI, hF, lx61, lx62, lx60, lx63, lx64, lx65, lx66, lx67, lx68, lx69, lx70, lx71, lx72, hO95, hO98, hO99, (show 0 ≤ lx71.toInt from (by have z17 : (1 : Int32).toInt = 1 := rfl; have t1 : 0 ≤ y40.toInt := b41; have t2 : y40.toInt ≤ lx71.toInt := i89; omega)), (show lx71.toInt ≤ 0 from (by have z17 : (1 : Int32).toInt = 1 := rfl; have t1 : y40.toInt ≤ 0 := b42; have t2 : lx71.toInt ≤ y40.toInt := i90; omega)), (show t0_0.toInt ≤ lx61.toInt from (by have z17 : (1 : Int32).toInt = 1 := rfl; have t1 : t0_0.toInt ≤ lx61.toInt := i78; omega)), (show lx61.toInt ≤ t0_0.toInt from (by have z17 : (1 : Int32).toInt = 1 := rfl; have t1 : lx61.toInt ≤ t0_0.toInt := i79; omega)), (show t0_1.toInt ≤ lx62.toInt from (by have z17 : (1 : Int32).toInt = 1 := rfl; have t1 : t0_1.toInt ≤ lx62.toInt := i80; omega)), (show lx62.toInt ≤ t0_1.toInt from (by have z17 : (1 : Int32).toInt = 1 := rfl; have t1 : lx62.toInt ≤ t0_1.toInt := i81; omega)), (show t0_2.toInt ≤ lx60.toInt from (by have z17 : (1 : Int32).toInt = 1 := rfl; have t1 : y40.toInt ≤ lx71.toInt := i89; have t2 : lx59.toInt + t0_2.toInt ≤ lx60.toInt := i91; have t3 : lx71.toInt ≤ lx59.toInt + y40.toInt := i92; omega)), (show t0_3.toInt ≤ lx63.toInt from (by have z17 : (1 : Int32).toInt = 1 := rfl; have t1 : t0_3.toInt ≤ lx63.toInt := i82; omega)), (show lx63.toInt ≤ t0_3.toInt from (by have z17 : (1 : Int32).toInt = 1 := rfl; have t1 : lx63.toInt ≤ t0_3.toInt := i83; omega)), (show t0_4.toInt ≤ lx64.toInt from (by have z17 : (1 : Int32).toInt = 1 := rfl; have t1 : t0_4.toInt ≤ lx64.toInt := i84; omega)), (show lx64.toInt ≤ t0_4.toInt from (by have z17 : (1 : Int32).toInt = 1 := rfl; have t1 : lx64.toInt ≤ t0_4.toInt := i85; omega)), (show t0_9.toInt ≤ lx69.toInt from (by have z17 : (1 : Int32).toInt = 1 := rfl; have t1 : t0_9.toInt ≤ lx69.toInt := i86; omega)), (show lx69.toInt ≤ t0_9.toInt from (by have z17 : (1 : Int32).toInt = 1 := rfl; have t1 : lx69.toInt ≤ t0_9.toInt := i87; omega)), (show lx71.toInt ≤ (1 : Int32).toInt from (by have z17 : (1 : Int32).toInt = 1 := rfl; have t1 : y40.toInt ≤ 0 := b42; have t2 : lx71.toInt ≤ y40.toInt := i90; omega)), (show (1 : Int32).toInt ≤ lx71.toInt + 1 from (by have z17 : (1 : Int32).toInt = 1 := rfl; have t1 : 0 ≤ y40.toInt := b41; have t2 : y40.toInt ≤ lx71.toInt := i89; omega)), (show lx71.toInt ≤ lx66.toInt from (by have z17 : (1 : Int32).toInt = 1 := rfl; have t1 : y40.toInt ≤ 0 := b42; have t2 : 0 ≤ lx66.toInt := i74; have t3 : lx71.toInt ≤ y40.toInt := i90; omega)), (show lx71.toInt ≤ lx68.toInt from (by have z17 : (1 : Int32).toInt = 1 := rfl; have t1 : y40.toInt ≤ 0 := b42; have t2 : 0 ≤ lx68.toInt := i75; have t3 : lx71.toInt ≤ y40.toInt := i90; omega)), (show lx68.toInt ≤ lx71.toInt + 1 from (by have z17 : (1 : Int32).toInt = 1 := rfl; have t1 : 0 ≤ y40.toInt := b41; have t2 : lx68.toInt ≤ 1 := i76; have t3 : y40.toInt ≤ lx71.toInt := i89; omega)), (show lx71.toInt ≤ lx70.toInt from (by have z17 : (1 : Int32).toInt = 1 := rfl; have t1 : y40.toInt ≤ y39.toInt := b43; have t2 : y39.toInt ≤ lx70.toInt := i88; have t3 : lx71.toInt ≤ y40.toInt := i90; omega)), (show lx70.toInt ≤ lx71.toInt + 4100 from (by have z17 : (1 : Int32).toInt = 1 := rfl; have t1 : 0 ≤ y40.toInt := b41; have t2 : lx70.toInt ≤ 4100 := i77; have t3 : y40.toInt ≤ lx71.toInt := i89; omega)), (show ((1 : Int32), lx61, lx62, lx60, lx63, lx64, lx65, lx66, lx67, lx68, lx69, lx70, lx71, lx72) = (F_Rea_takeFigures x2 x3 t0_0 t0_1 t0_2 t0_3 t0_4 t0_5 t0_6 t0_7 t0_8 t0_9 t1_0 t2_0 t3_0 t3_1 t4_0) from Eq.trans (by have c119x := c119; rw [e118] at c119x; have c129x := c129; rw [e128] at c129x; rw [F_Rea_takeFigures_L35.eq_2, if_neg c105, if_pos c119x, if_pos c129x, if_neg c135, if_neg c137]) hR100)⟩) d_10_12_128
        ·
          have b140 : q_F (lx59.toInt = 0) := (q_eqI c135)
          refine lv_iconst (v := 1) hx hb d_10_12_103 (by decide) ?_
          refine lv_istore_n (lv' := [(3, .int 1), (5, .int a114), (4, .int lx58), (0, .ref (q 38)), (1, .int x2), (2, .int x3)]) hx hb d_10_12_104 rfl hl (by decide) rfl (fun ls hl => ?_)
          refine lv_aload_n hx hb d_10_12_105 rfl (lv_at hl 3 rfl) ?_
          refine lv_dup hx hb d_10_12_106 rfl ?_
          refine q_get (ci := 8) (j := 4) (v := .int lx60) C0 V i_Rea rfl rfl hO95 (by decide) w_290 rfl d_10_12_107 ?_
          refine lv_iconst (v := 1) hx hb d_10_12_110 (by decide) ?_
          refine lv_iadd hx hb d_10_12_111 ?_
          obtain ⟨a141, e142⟩ := q_nm (lx60 + 1 : Int32)
          refine q_ti (v := a141) e142 ?_
          have b143 : q_F (a141.toInt = lx60.toInt + 1) := (by rw [← e142]; show (lx60 + 1 : Int32).toInt = lx60.toInt + 1; exact q_addI (x := lx60.toInt) (y := 1) rfl (by decide) (by have _ := q_lo32 (x := lx60); have _ := q_hi32 (x := lx60); have t1 : lx60.toInt < lx63.toInt := b110; have _ := q_lo32 (x := lx63); have _ := q_hi32 (x := lx63); omega) (by have _ := q_lo32 (x := lx60); have _ := q_hi32 (x := lx60); have t1 : lx60.toInt < lx63.toInt := b110; have _ := q_lo32 (x := lx63); have _ := q_hi32 (x := lx63); omega))
          refine q_put (ci := 8) (j := 4) (v := .int a141) (ty := .int) C0 V i_Rea o_Rea n_Rea rfl rfl hO95 (by decide) w_290 rfl rfl rfl rfl (Nat.le_of_ble_eq_true rfl) d_10_12_112 (fun H locs w144 hu145 hO95 V => ?_)
          replace hO95 : w144[38]? = (some (q 38, .inr (8, [.long lx61, .long lx62, .ref (q 1), .ref (q 9), .int a141, .int lx63, .int lx64, .int lx65, .int lx66, .int lx67, .int lx68, .long lx69])) : Option (Nat × va_E)) := hO95
          replace hI := n_p38 hI hu145 hO95 ⟨(by have t1 : 0 ≤ t0_4.toInt ∧ t0_4.toInt ≤ 1 := btt0_4; have t2 : t0_4.toInt ≤ lx64.toInt := i84; omega), (by have t1 : 0 ≤ t0_4.toInt ∧ t0_4.toInt ≤ 1 := btt0_4; have t2 : lx64.toInt ≤ t0_4.toInt := i85; omega)⟩ ⟨(by first | with_reducible exact q_fe i75 | (have t1 : 0 ≤ lx68.toInt := i75; omega)), (by first | with_reducible exact q_fe i76 | (have t1 : lx68.toInt ≤ 1 := i76; omega))⟩
          replace hO96 := (hu145 _ (by decide)).trans hO96
          replace hO97 := (hu145 _ (by decide)).trans hO97
          replace hO98 := (hu145 _ (by decide)).trans hO98
          replace hO99 := (hu145 _ (by decide)).trans hO99
          replace hF := q_us hF hu145 (by simp)
          refine lv_goto (tgt := 35) hx hb d_10_12_115 (by decide) ?_
          exact ih93 ((lx58 : Int32), (1 : Int32), (a141 : Int32), (lx61 : Int64), (lx62 : Int64), (lx63 : Int32), (lx64 : Int32), (lx65 : Int32), (lx66 : Int32), (lx67 : Int32), (lx68 : Int32), (lx69 : Int64), (lx70 : Int32), (lx71 : Int32), (lx72 : (Nat → Int32))) _ _ _ _ (show (t0_3.toInt - a141.toInt).toNat < (t0_3.toInt - lx60.toInt).toNat from by have t1 : a141.toInt = lx60.toInt + 1 := b143; have t2 : lx63.toInt ≤ t0_3.toInt := i83; have t3 : lx60.toInt < lx63.toInt := b110; omega) ⟨(show q_F (1 ≤ 1) from (show 1 ≤ 1 from by omega)), (show q_F (0 ≤ lx66.toInt) from (show 0 ≤ lx66.toInt from by have t1 : 0 ≤ lx66.toInt := i74; omega)), (show q_F (0 ≤ lx68.toInt) from (show 0 ≤ lx68.toInt from by have t1 : 0 ≤ lx68.toInt := i75; omega)), (show q_F (lx68.toInt ≤ 1) from (show lx68.toInt ≤ 1 from by have t1 : lx68.toInt ≤ 1 := i76; omega)), (show q_F (lx70.toInt ≤ 4100) from (show lx70.toInt ≤ 4100 from by have t1 : lx70.toInt ≤ 4100 := i77; omega)), (show q_F (t0_0.toInt ≤ lx61.toInt) from (show t0_0.toInt ≤ lx61.toInt from by have t1 : t0_0.toInt ≤ lx61.toInt := i78; omega)), (show q_F (lx61.toInt ≤ t0_0.toInt) from (show lx61.toInt ≤ t0_0.toInt from by have t1 : lx61.toInt ≤ t0_0.toInt := i79; omega)), (show q_F (t0_1.toInt ≤ lx62.toInt) from (show t0_1.toInt ≤ lx62.toInt from by have t1 : t0_1.toInt ≤ lx62.toInt := i80; omega)), (show q_F (lx62.toInt ≤ t0_1.toInt) from (show lx62.toInt ≤ t0_1.toInt from by have t1 : lx62.toInt ≤ t0_1.toInt := i81; omega)), (show q_F (t0_3.toInt ≤ lx63.toInt) from (show t0_3.toInt ≤ lx63.toInt from by have t1 : t0_3.toInt ≤ lx63.toInt := i82; omega)), (show q_F (lx63.toInt ≤ t0_3.toInt) from (show lx63.toInt ≤ t0_3.toInt from by have t1 : lx63.toInt ≤ t0_3.toInt := i83; omega)), (show q_F (t0_4.toInt ≤ lx64.toInt) from (show t0_4.toInt ≤ lx64.toInt from by have t1 : t0_4.toInt ≤ lx64.toInt := i84; omega)), (show q_F (lx64.toInt ≤ t0_4.toInt) from (show lx64.toInt ≤ t0_4.toInt from by have t1 : lx64.toInt ≤ t0_4.toInt := i85; omega)), (show q_F (t0_9.toInt ≤ lx69.toInt) from (show t0_9.toInt ≤ lx69.toInt from by have t1 : t0_9.toInt ≤ lx69.toInt := i86; omega)), (show q_F (lx69.toInt ≤ t0_9.toInt) from (show lx69.toInt ≤ t0_9.toInt from by have t1 : lx69.toInt ≤ t0_9.toInt := i87; omega)), (show q_F (y39.toInt ≤ lx70.toInt) from (show y39.toInt ≤ lx70.toInt from by have t1 : y39.toInt ≤ lx70.toInt := i88; omega)), (show q_F (y40.toInt ≤ lx71.toInt) from (show y40.toInt ≤ lx71.toInt from by have t1 : y40.toInt ≤ lx71.toInt := i89; omega)), (show q_F (lx71.toInt ≤ y40.toInt) from (show lx71.toInt ≤ y40.toInt from by have t1 : lx71.toInt ≤ y40.toInt := i90; omega)), (show q_F (1 + t0_2.toInt ≤ a141.toInt) from (show 1 + t0_2.toInt ≤ a141.toInt from by have t1 : lx59.toInt + t0_2.toInt ≤ lx60.toInt := i91; have t2 : lx59.toInt = 0 := b140; have t3 : a141.toInt = lx60.toInt + 1 := b143; omega)), (show q_F (lx71.toInt ≤ 1 + y40.toInt) from (show lx71.toInt ≤ 1 + y40.toInt from by have t1 : lx71.toInt ≤ y40.toInt := i90; omega)), V, q_lw hl (q_lw1 2 rfl (q_lw1 0 rfl (q_lw1 3 rfl (q_lw1 4 rfl (q_lw1 5 rfl q_lw0))))), hI, hF, hO95, hO96, hO97, hO98, hO99, ⟨fm104, Nat.lt_of_lt_of_le (show (t0_3.toInt - a141.toInt).toNat < (t0_3.toInt - lx60.toInt).toNat from by have t1 : a141.toInt = lx60.toInt + 1 := b143; have t2 : lx63.toInt ≤ t0_3.toInt := i83; have t3 : lx60.toInt < lx63.toInt := b110; omega) (Nat.le_of_lt_succ hf103), (show F_Rea_takeFigures_L35 x2 x3 t0_0 t0_1 t0_2 t0_3 t0_4 t0_5 t0_6 t0_7 t0_8 t0_9 t1_0 t2_0 t3_0 t3_1 t4_0 p47 fm104 lx58 1 a141 lx61 lx62 lx63 lx64 lx65 lx66 lx67 lx68 lx69 lx70 lx71 lx72 = (F_Rea_takeFigures x2 x3 t0_0 t0_1 t0_2 t0_3 t0_4 t0_5 t0_6 t0_7 t0_8 t0_9 t1_0 t2_0 t3_0 t3_1 t4_0) from Eq.trans (by have c119x := c119; rw [e118] at c119x; have c129x := c129; rw [e128] at c129x; rw [← e142, F_Rea_takeFigures_L35.eq_2, if_neg c105, if_pos c119x, if_pos c129x, if_pos c135]) hR100), (show True ∧ S_Rea_takeFigures_L35 x2 x3 t0_0 t0_1 t0_2 t0_3 t0_4 t0_5 t0_6 t0_7 t0_8 t0_9 t1_0 t2_0 t3_0 t3_1 t4_0 p47 fm104 lx58 1 a141 lx61 lx62 lx63 lx64 lx65 lx66 lx67 lx68 lx69 lx70 lx71 lx72 from (by rw [← e142]; have h := hS101; rw [S_Rea_takeFigures_L35.eq_2] at h; rw [if_neg c105] at h; replace h := q_s2 h; have c119x := c119; rw [e118] at c119x; rw [if_pos c119x] at h; replace h := q_s2 h; have c129x := c129; rw [e128] at c129x; rw [if_pos c129x] at h; rw [if_pos c135] at h; with_reducible exact h))⟩⟩
    ·
      refine lv_aload_n hx hb d_10_12_58 rfl (lv_at hl 3 rfl) ?_
      refine lv_iload_n hx hb d_10_12_59 rfl (lv_at hl 4 rfl) ?_
      refine lv_iload hx hb d_10_12_60 (lv_at hl 0 rfl) ?_
      refine lv_iload_n hx hb d_10_12_62 rfl (lv_at hl 5 rfl) ?_
      refine q_gov V (q_runV (As := [.int x2, .int a114, .int x3]) (rest := []) (d := 2) (mc := 0) (ms := 0) (ci := 8) C0 V rfl LV_Rea_149 (X_Rea_keepFigure l D g q w94  x2 a114 x3 hI lx61 lx62 lx60 lx63 lx64 lx65 lx66 lx67 lx68 lx69 hO95 lx70 lx71 hO98 lx72 hO99  _) rfl rfl hO95 rfl hl.1 rfl (Nat.le_of_ble_eq_true rfl) ⟨by decide, by decide⟩ ⟨Nat.le_of_ble_eq_true rfl, Nat.le_of_ble_eq_true rfl⟩ d_10_12_63) (fun u147 H locs hp148 V => ?_)
      obtain ⟨hI, hZ9⟩ := hp148
      obtain ⟨hu189, hZ9⟩ := hZ9
      obtain ⟨y150, hZ9⟩ := hZ9
      obtain ⟨y151, hZ9⟩ := hZ9
      obtain ⟨y152, hZ9⟩ := hZ9
      obtain ⟨y153, hZ9⟩ := hZ9
      obtain ⟨y154, hZ9⟩ := hZ9
      obtain ⟨y155, hZ9⟩ := hZ9
      obtain ⟨y156, hZ9⟩ := hZ9
      obtain ⟨y157, hZ9⟩ := hZ9
      obtain ⟨y158, hZ9⟩ := hZ9
      obtain ⟨y159, hZ9⟩ := hZ9
      obtain ⟨y161, hZ9⟩ := hZ9
      obtain ⟨y162, hZ9⟩ := hZ9
      obtain ⟨f163, hZ9⟩ := hZ9
      obtain ⟨hO149, hZ9⟩ := hZ9
      obtain ⟨hO160, hZ9⟩ := hZ9
      obtain ⟨hA164, hZ9⟩ := hZ9
      obtain ⟨b165, hZ9⟩ := hZ9
      obtain ⟨b166, hZ9⟩ := hZ9
      obtain ⟨b167, hZ9⟩ := hZ9
      obtain ⟨b168, hZ9⟩ := hZ9
      obtain ⟨b169, hZ9⟩ := hZ9
      obtain ⟨b170, hZ9⟩ := hZ9
      obtain ⟨b171, hZ9⟩ := hZ9
      obtain ⟨b172, hZ9⟩ := hZ9
      obtain ⟨b173, hZ9⟩ := hZ9
      obtain ⟨b174, hZ9⟩ := hZ9
      obtain ⟨b175, hZ9⟩ := hZ9
      obtain ⟨b176, hZ9⟩ := hZ9
      obtain ⟨b177, hZ9⟩ := hZ9
      replace hZ9 := hZ9.2.2
      obtain ⟨b180, hZ9⟩ := hZ9
      replace hZ9 := hZ9.2
      obtain ⟨b182, hZ9⟩ := hZ9
      obtain ⟨b183, hZ9⟩ := hZ9
      obtain ⟨b184, hZ9⟩ := hZ9
      replace hZ9 := hZ9.2
      obtain ⟨b186, hZ9⟩ := hZ9
      obtain ⟨b187, hE188⟩ := hZ9
      replace hO149 : u147[38]? = (some (q 38, .inr (8, [.long y150, .long y151, .ref (q 1), .ref (q 9), .int y152, .int y153, .int y154, .int y155, .int y156, .int y157, .int y158, .long y159])) : Option (Nat × va_E)) := hO149
      replace hO160 : u147[10]? = (some (q 10, .inr (2, [.ref (q 11), .int y161, .int y162])) : Option (Nat × va_E)) := hO160
      replace hA164 : u147[11]? = (some (q 11, .inl (g 0, (220 : Int32).toNatClampNeg, .inl f163)) : Option (Nat × va_E)) := hA164
      obtain ⟨p190, e191⟩ : ∃ z, z = (F_Rea_keepFigure x2 a114 x3 lx61 lx62 lx60 lx63 lx64 lx65 lx66 lx67 lx68 lx69 lx70 lx71 lx72) := ⟨_, rfl⟩
      have e192 : y150 = p190.1 := congrArg (fun z => z.1) (hE188.trans e191.symm)
      have e193 : y151 = p190.2.1 := congrArg (fun z => z.2.1) (hE188.trans e191.symm)
      have e194 : y152 = p190.2.2.1 := congrArg (fun z => z.2.2.1) (hE188.trans e191.symm)
      have e195 : y153 = p190.2.2.2.1 := congrArg (fun z => z.2.2.2.1) (hE188.trans e191.symm)
      have e196 : y154 = p190.2.2.2.2.1 := congrArg (fun z => z.2.2.2.2.1) (hE188.trans e191.symm)
      have e197 : y155 = p190.2.2.2.2.2.1 := congrArg (fun z => z.2.2.2.2.2.1) (hE188.trans e191.symm)
      have e198 : y156 = p190.2.2.2.2.2.2.1 := congrArg (fun z => z.2.2.2.2.2.2.1) (hE188.trans e191.symm)
      have e199 : y157 = p190.2.2.2.2.2.2.2.1 := congrArg (fun z => z.2.2.2.2.2.2.2.1) (hE188.trans e191.symm)
      have e200 : y158 = p190.2.2.2.2.2.2.2.2.1 := congrArg (fun z => z.2.2.2.2.2.2.2.2.1) (hE188.trans e191.symm)
      have e201 : y159 = p190.2.2.2.2.2.2.2.2.2.1 := congrArg (fun z => z.2.2.2.2.2.2.2.2.2.1) (hE188.trans e191.symm)
      have e202 : y161 = p190.2.2.2.2.2.2.2.2.2.2.1 := congrArg (fun z => z.2.2.2.2.2.2.2.2.2.2.1) (hE188.trans e191.symm)
      have e203 : y162 = p190.2.2.2.2.2.2.2.2.2.2.2.1 := congrArg (fun z => z.2.2.2.2.2.2.2.2.2.2.2.1) (hE188.trans e191.symm)
      have e204 : f163 = p190.2.2.2.2.2.2.2.2.2.2.2.2 := congrArg (fun z => z.2.2.2.2.2.2.2.2.2.2.2.2) (hE188.trans e191.symm)
      replace b165 : q_F (0 ≤ y158.toInt) := b165
      replace b166 : q_F (y158.toInt ≤ 1) := b166
      replace b167 : q_F (y161.toInt ≤ 220) := b167
      replace b168 : q_F (lx61.toInt ≤ y150.toInt) := b168
      replace b169 : q_F (y150.toInt ≤ lx61.toInt) := b169
      replace b170 : q_F (lx62.toInt ≤ y151.toInt) := b170
      replace b171 : q_F (y151.toInt ≤ lx62.toInt) := b171
      replace b172 : q_F (lx60.toInt ≤ y152.toInt) := b172
      replace b173 : q_F (y152.toInt ≤ lx60.toInt) := b173
      replace b174 : q_F (lx63.toInt ≤ y153.toInt) := b174
      replace b175 : q_F (y153.toInt ≤ lx63.toInt) := b175
      replace b176 : q_F (lx64.toInt ≤ y154.toInt) := b176
      replace b177 : q_F (y154.toInt ≤ lx64.toInt) := b177
      replace b180 : q_F (lx66.toInt ≤ y156.toInt) := b180
      replace b182 : q_F (lx69.toInt ≤ y159.toInt) := b182
      replace b183 : q_F (y159.toInt ≤ lx69.toInt) := b183
      replace b184 : q_F (lx70.toInt ≤ y161.toInt) := b184
      replace b186 : q_F (lx71.toInt ≤ y162.toInt) := b186
      replace b187 : q_F (y162.toInt ≤ lx71.toInt) := b187
      replace hO96 := (hu189 _ (by decide)).trans hO96
      replace hO97 := (hu189 _ (by decide)).trans hO97
      replace hF := q_uc hF hu189 (by simp)
      have hR205 := (show F_Rea_takeFigures_c63 (F_Rea_takeFigures_L35 x2 x3 t0_0 t0_1 t0_2 t0_3 t0_4 t0_5 t0_6 t0_7 t0_8 t0_9 t1_0 t2_0 t3_0 t3_1 t4_0 p47 fm104) x2 x3 t0_0 t0_1 t0_2 t0_3 t0_4 t0_5 t0_6 t0_7 t0_8 t0_9 t1_0 t2_0 t3_0 t3_1 t4_0 p47 lx58 lx59 lx60 lx61 lx62 lx63 lx64 lx65 lx66 lx67 lx68 lx69 lx70 lx71 lx72 a114 p190 = (F_Rea_takeFigures x2 x3 t0_0 t0_1 t0_2 t0_3 t0_4 t0_5 t0_6 t0_7 t0_8 t0_9 t1_0 t2_0 t3_0 t3_1 t4_0) from Eq.trans (by have c119x := c119; rw [e118] at c119x; rw [e191, e118, F_Rea_takeFigures_L35.eq_2, if_neg c105, if_neg c119x]) hR100)
      have hS206 := (show True ∧ S_Rea_takeFigures_c63 (S_Rea_takeFigures_L35 x2 x3 t0_0 t0_1 t0_2 t0_3 t0_4 t0_5 t0_6 t0_7 t0_8 t0_9 t1_0 t2_0 t3_0 t3_1 t4_0 p47 fm104) x2 x3 t0_0 t0_1 t0_2 t0_3 t0_4 t0_5 t0_6 t0_7 t0_8 t0_9 t1_0 t2_0 t3_0 t3_1 t4_0 p47 lx58 lx59 lx60 lx61 lx62 lx63 lx64 lx65 lx66 lx67 lx68 lx69 lx70 lx71 lx72 a114 p190 from (by rw [e191, e118]; have h := hS101; rw [S_Rea_takeFigures_L35.eq_2] at h; rw [if_neg c105] at h; replace h := q_s2 h; have c119x := c119; rw [e118] at c119x; rw [if_neg c119x] at h; with_reducible exact h))
      obtain ⟨a210, e211⟩ := q_nm (lx58 + 1 : Int32)
      refine lv_iinc (v := a210) (lv' := [(4, .int a210), (5, .int a114), (3, .int lx59), (0, .ref (q 38)), (1, .int x2), (2, .int x3)]) hx hb d_10_12_66 hl (k := 1) rfl (e211) (by decide) rfl (fun ls hl => ?_)
      refine lv_aload_n hx hb d_10_12_69 rfl (lv_at hl 3 rfl) ?_
      refine lv_dup hx hb d_10_12_70 rfl ?_
      refine q_get (ci := 8) (j := 7) (v := .int y155) C0 V i_Rea rfl rfl hO149 (by decide) w_293 rfl d_10_12_71 ?_
      refine lv_iload_n hx hb d_10_12_74 rfl (lv_at hl 2 rfl) ?_
      refine lv_if_eq (tgt := 82) hx hb d_10_12_75 (by decide) (fun c212 => ?_) (fun c212 => ?_)
      ·
        refine lv_iconst (v := 0) hx hb d_10_12_82 (by decide) ?_
        refine lv_iadd hx hb d_10_12_83 ?_
        obtain ⟨a214, e215⟩ := q_nm (y155 + 0 : Int32)
        refine q_ti (v := a214) e215 ?_
        refine q_put (ci := 8) (j := 7) (v := .int a214) (ty := .int) C0 V i_Rea o_Rea n_Rea rfl rfl hO149 (by decide) w_293 rfl rfl rfl rfl (Nat.le_of_ble_eq_true rfl) d_10_12_84 (fun H locs w217 hu218 hO149 V => ?_)
        replace hO149 : w217[38]? = (some (q 38, .inr (8, [.long y150, .long y151, .ref (q 1), .ref (q 9), .int y152, .int y153, .int y154, .int a214, .int y156, .int y157, .int y158, .long y159])) : Option (Nat × va_E)) := hO149
        replace hI := n_p38 hI hu218 hO149 ⟨(by have t1 : 0 ≤ t0_4.toInt ∧ t0_4.toInt ≤ 1 := btt0_4; have t2 : t0_4.toInt ≤ lx64.toInt := i84; have t3 : lx64.toInt ≤ y154.toInt := b176; omega), (by have t1 : 0 ≤ t0_4.toInt ∧ t0_4.toInt ≤ 1 := btt0_4; have t2 : lx64.toInt ≤ t0_4.toInt := i85; have t3 : y154.toInt ≤ lx64.toInt := b177; omega)⟩ ⟨(by first | with_reducible exact q_fe b165 | (have t1 : 0 ≤ y158.toInt := b165; omega)), (by first | with_reducible exact q_fe b166 | (have t1 : y158.toInt ≤ 1 := b166; omega))⟩
        replace hO96 := (hu218 _ (by decide)).trans hO96
        replace hO97 := (hu218 _ (by decide)).trans hO97
        replace hO160 := (hu218 _ (by decide)).trans hO160
        replace hA164 := (hu218 _ (by decide)).trans hA164
        replace hF := q_us hF hu218 (by simp)
        refine lv_goto (tgt := 105) hx hb d_10_12_87 (by decide) ?_
        refine lv_aload_n hx hb d_10_12_105 rfl (lv_at hl 3 rfl) ?_
        refine lv_dup hx hb d_10_12_106 rfl ?_
        refine q_get (ci := 8) (j := 4) (v := .int y152) C0 V i_Rea rfl rfl hO149 (by decide) w_290 rfl d_10_12_107 ?_
        refine lv_iconst (v := 1) hx hb d_10_12_110 (by decide) ?_
        refine lv_iadd hx hb d_10_12_111 ?_
        obtain ⟨a219, e220⟩ := q_nm (y152 + 1 : Int32)
        refine q_ti (v := a219) e220 ?_
        have b221 : q_F (a219.toInt = y152.toInt + 1) := (by rw [← e220]; show (y152 + 1 : Int32).toInt = y152.toInt + 1; exact q_addI (x := y152.toInt) (y := 1) rfl (by decide) (by have t1 : lx60.toInt ≤ y152.toInt := b172; have _ := q_lo32 (x := lx60); have _ := q_hi32 (x := lx60); have t2 : lx60.toInt < lx63.toInt := b110; have t3 : y152.toInt ≤ lx60.toInt := b173; have _ := q_lo32 (x := lx63); have _ := q_hi32 (x := lx63); omega) (by have t1 : lx60.toInt ≤ y152.toInt := b172; have _ := q_lo32 (x := lx60); have _ := q_hi32 (x := lx60); have t2 : lx60.toInt < lx63.toInt := b110; have t3 : y152.toInt ≤ lx60.toInt := b173; have _ := q_lo32 (x := lx63); have _ := q_hi32 (x := lx63); omega))
        refine q_put (ci := 8) (j := 4) (v := .int a219) (ty := .int) C0 V i_Rea o_Rea n_Rea rfl rfl hO149 (by decide) w_290 rfl rfl rfl rfl (Nat.le_of_ble_eq_true rfl) d_10_12_112 (fun H locs w222 hu223 hO149 V => ?_)
        replace hO149 : w222[38]? = (some (q 38, .inr (8, [.long y150, .long y151, .ref (q 1), .ref (q 9), .int a219, .int y153, .int y154, .int a214, .int y156, .int y157, .int y158, .long y159])) : Option (Nat × va_E)) := hO149
        replace hI := n_p38 hI hu223 hO149 ⟨(by have t1 : 0 ≤ t0_4.toInt ∧ t0_4.toInt ≤ 1 := btt0_4; have t2 : t0_4.toInt ≤ lx64.toInt := i84; have t3 : lx64.toInt ≤ y154.toInt := b176; omega), (by have t1 : 0 ≤ t0_4.toInt ∧ t0_4.toInt ≤ 1 := btt0_4; have t2 : lx64.toInt ≤ t0_4.toInt := i85; have t3 : y154.toInt ≤ lx64.toInt := b177; omega)⟩ ⟨(by first | with_reducible exact q_fe b165 | (have t1 : 0 ≤ y158.toInt := b165; omega)), (by first | with_reducible exact q_fe b166 | (have t1 : y158.toInt ≤ 1 := b166; omega))⟩
        replace hO96 := (hu223 _ (by decide)).trans hO96
        replace hO97 := (hu223 _ (by decide)).trans hO97
        replace hO160 := (hu223 _ (by decide)).trans hO160
        replace hA164 := (hu223 _ (by decide)).trans hA164
        replace hF := q_us hF hu223 (by simp)
        refine lv_goto (tgt := 35) hx hb d_10_12_115 (by decide) ?_
        exact ih93 ((a210 : Int32), (lx59 : Int32), (a219 : Int32), (y150 : Int64), (y151 : Int64), (y153 : Int32), (y154 : Int32), (a214 : Int32), (y156 : Int32), (y157 : Int32), (y158 : Int32), (y159 : Int64), (y161 : Int32), (y162 : Int32), (f163 : (Nat → Int32))) _ _ _ _ (show (t0_3.toInt - a219.toInt).toNat < (t0_3.toInt - lx60.toInt).toNat from by have t1 : lx60.toInt ≤ y152.toInt := b172; have t2 : a219.toInt = y152.toInt + 1 := b221; have t3 : lx63.toInt ≤ t0_3.toInt := i83; have t4 : lx60.toInt < lx63.toInt := b110; omega) ⟨(show q_F (lx59.toInt ≤ 1) from (show lx59.toInt ≤ 1 from by have t1 : lx59.toInt ≤ 1 := i73; omega)), (show q_F (0 ≤ y156.toInt) from (show 0 ≤ y156.toInt from by have t1 : 0 ≤ lx66.toInt := i74; have t2 : lx66.toInt ≤ y156.toInt := b180; omega)), (show q_F (0 ≤ y158.toInt) from (show 0 ≤ y158.toInt from by have t1 : 0 ≤ y158.toInt := b165; omega)), (show q_F (y158.toInt ≤ 1) from (show y158.toInt ≤ 1 from by have t1 : y158.toInt ≤ 1 := b166; omega)), (show q_F (y161.toInt ≤ 4100) from (show y161.toInt ≤ 4100 from by have t1 : y161.toInt ≤ 220 := b167; omega)), (show q_F (t0_0.toInt ≤ y150.toInt) from (show t0_0.toInt ≤ y150.toInt from by have t1 : t0_0.toInt ≤ lx61.toInt := i78; have t2 : lx61.toInt ≤ y150.toInt := b168; omega)), (show q_F (y150.toInt ≤ t0_0.toInt) from (show y150.toInt ≤ t0_0.toInt from by have t1 : lx61.toInt ≤ t0_0.toInt := i79; have t2 : y150.toInt ≤ lx61.toInt := b169; omega)), (show q_F (t0_1.toInt ≤ y151.toInt) from (show t0_1.toInt ≤ y151.toInt from by have t1 : t0_1.toInt ≤ lx62.toInt := i80; have t2 : lx62.toInt ≤ y151.toInt := b170; omega)), (show q_F (y151.toInt ≤ t0_1.toInt) from (show y151.toInt ≤ t0_1.toInt from by have t1 : lx62.toInt ≤ t0_1.toInt := i81; have t2 : y151.toInt ≤ lx62.toInt := b171; omega)), (show q_F (t0_3.toInt ≤ y153.toInt) from (show t0_3.toInt ≤ y153.toInt from by have t1 : t0_3.toInt ≤ lx63.toInt := i82; have t2 : lx63.toInt ≤ y153.toInt := b174; omega)), (show q_F (y153.toInt ≤ t0_3.toInt) from (show y153.toInt ≤ t0_3.toInt from by have t1 : lx63.toInt ≤ t0_3.toInt := i83; have t2 : y153.toInt ≤ lx63.toInt := b175; omega)), (show q_F (t0_4.toInt ≤ y154.toInt) from (show t0_4.toInt ≤ y154.toInt from by have t1 : t0_4.toInt ≤ lx64.toInt := i84; have t2 : lx64.toInt ≤ y154.toInt := b176; omega)), (show q_F (y154.toInt ≤ t0_4.toInt) from (show y154.toInt ≤ t0_4.toInt from by have t1 : lx64.toInt ≤ t0_4.toInt := i85; have t2 : y154.toInt ≤ lx64.toInt := b177; omega)), (show q_F (t0_9.toInt ≤ y159.toInt) from (show t0_9.toInt ≤ y159.toInt from by have t1 : t0_9.toInt ≤ lx69.toInt := i86; have t2 : lx69.toInt ≤ y159.toInt := b182; omega)), (show q_F (y159.toInt ≤ t0_9.toInt) from (show y159.toInt ≤ t0_9.toInt from by have t1 : lx69.toInt ≤ t0_9.toInt := i87; have t2 : y159.toInt ≤ lx69.toInt := b183; omega)), (show q_F (y39.toInt ≤ y161.toInt) from (show y39.toInt ≤ y161.toInt from by have t1 : y39.toInt ≤ lx70.toInt := i88; have t2 : lx70.toInt ≤ y161.toInt := b184; omega)), (show q_F (y40.toInt ≤ y162.toInt) from (show y40.toInt ≤ y162.toInt from by have t1 : y40.toInt ≤ lx71.toInt := i89; have t2 : lx71.toInt ≤ y162.toInt := b186; omega)), (show q_F (y162.toInt ≤ y40.toInt) from (show y162.toInt ≤ y40.toInt from by have t1 : lx71.toInt ≤ y40.toInt := i90; have t2 : y162.toInt ≤ lx71.toInt := b187; omega)), (show q_F (lx59.toInt + t0_2.toInt ≤ a219.toInt) from (show lx59.toInt + t0_2.toInt ≤ a219.toInt from by have t1 : lx59.toInt + t0_2.toInt ≤ lx60.toInt := i91; have t2 : lx60.toInt ≤ y152.toInt := b172; have t3 : a219.toInt = y152.toInt + 1 := b221; omega)), (show q_F (y162.toInt ≤ lx59.toInt + y40.toInt) from (show y162.toInt ≤ lx59.toInt + y40.toInt from by have t1 : lx71.toInt ≤ lx59.toInt + y40.toInt := i92; have t2 : y162.toInt ≤ lx71.toInt := b187; omega)), V, q_lw hl (q_lw1 0 rfl (q_lw1 2 rfl (q_lw1 3 rfl (q_lw1 4 rfl (q_lw1 5 rfl q_lw0))))), hI, hF, hO149, hO96, hO97, hO160, hA164, ⟨fm104, Nat.lt_of_lt_of_le (show (t0_3.toInt - a219.toInt).toNat < (t0_3.toInt - lx60.toInt).toNat from by have t1 : lx60.toInt ≤ y152.toInt := b172; have t2 : a219.toInt = y152.toInt + 1 := b221; have t3 : lx63.toInt ≤ t0_3.toInt := i83; have t4 : lx60.toInt < lx63.toInt := b110; omega) (Nat.le_of_lt_succ hf103), (show F_Rea_takeFigures_L35 x2 x3 t0_0 t0_1 t0_2 t0_3 t0_4 t0_5 t0_6 t0_7 t0_8 t0_9 t1_0 t2_0 t3_0 t3_1 t4_0 p47 fm104 a210 lx59 a219 y150 y151 y153 y154 a214 y156 y157 y158 y159 y161 y162 f163 = (F_Rea_takeFigures x2 x3 t0_0 t0_1 t0_2 t0_3 t0_4 t0_5 t0_6 t0_7 t0_8 t0_9 t1_0 t2_0 t3_0 t3_1 t4_0) from Eq.trans (by rw [← e220, ← e215, ← e211, e204, e203, e202, e201, e200, e199, e198, e197, e196, e195, e194, e193, e192, F_Rea_takeFigures_c63.eq_1, if_pos c212]) hR205), (show True ∧ S_Rea_takeFigures_L35 x2 x3 t0_0 t0_1 t0_2 t0_3 t0_4 t0_5 t0_6 t0_7 t0_8 t0_9 t1_0 t2_0 t3_0 t3_1 t4_0 p47 fm104 a210 lx59 a219 y150 y151 y153 y154 a214 y156 y157 y158 y159 y161 y162 f163 from (by rw [← e220, ← e215, ← e211, e204, e203, e202, e201, e200, e199, e198, e197, e196, e195, e194, e193, e192]; have h := hS206; rw [S_Rea_takeFigures_c63.eq_1] at h; rw [if_pos c212] at h; with_reducible exact h))⟩⟩
      ·
        refine lv_iconst (v := 1) hx hb d_10_12_78 (by decide) ?_
        refine lv_goto (tgt := 83) hx hb d_10_12_79 (by decide) ?_
        refine lv_iadd hx hb d_10_12_83 ?_
        obtain ⟨a225, e226⟩ := q_nm (y155 + 1 : Int32)
        refine q_ti (v := a225) e226 ?_
        refine q_put (ci := 8) (j := 7) (v := .int a225) (ty := .int) C0 V i_Rea o_Rea n_Rea rfl rfl hO149 (by decide) w_293 rfl rfl rfl rfl (Nat.le_of_ble_eq_true rfl) d_10_12_84 (fun H locs w227 hu228 hO149 V => ?_)
        replace hO149 : w227[38]? = (some (q 38, .inr (8, [.long y150, .long y151, .ref (q 1), .ref (q 9), .int y152, .int y153, .int y154, .int a225, .int y156, .int y157, .int y158, .long y159])) : Option (Nat × va_E)) := hO149
        replace hI := n_p38 hI hu228 hO149 ⟨(by have t1 : 0 ≤ t0_4.toInt ∧ t0_4.toInt ≤ 1 := btt0_4; have t2 : t0_4.toInt ≤ lx64.toInt := i84; have t3 : lx64.toInt ≤ y154.toInt := b176; omega), (by have t1 : 0 ≤ t0_4.toInt ∧ t0_4.toInt ≤ 1 := btt0_4; have t2 : lx64.toInt ≤ t0_4.toInt := i85; have t3 : y154.toInt ≤ lx64.toInt := b177; omega)⟩ ⟨(by first | with_reducible exact q_fe b165 | (have t1 : 0 ≤ y158.toInt := b165; omega)), (by first | with_reducible exact q_fe b166 | (have t1 : y158.toInt ≤ 1 := b166; omega))⟩
        replace hO96 := (hu228 _ (by decide)).trans hO96
        replace hO97 := (hu228 _ (by decide)).trans hO97
        replace hO160 := (hu228 _ (by decide)).trans hO160
        replace hA164 := (hu228 _ (by decide)).trans hA164
        replace hF := q_us hF hu228 (by simp)
        refine lv_goto (tgt := 105) hx hb d_10_12_87 (by decide) ?_
        refine lv_aload_n hx hb d_10_12_105 rfl (lv_at hl 3 rfl) ?_
        refine lv_dup hx hb d_10_12_106 rfl ?_
        refine q_get (ci := 8) (j := 4) (v := .int y152) C0 V i_Rea rfl rfl hO149 (by decide) w_290 rfl d_10_12_107 ?_
        refine lv_iconst (v := 1) hx hb d_10_12_110 (by decide) ?_
        refine lv_iadd hx hb d_10_12_111 ?_
        obtain ⟨a229, e230⟩ := q_nm (y152 + 1 : Int32)
        refine q_ti (v := a229) e230 ?_
        have b231 : q_F (a229.toInt = y152.toInt + 1) := (by rw [← e230]; show (y152 + 1 : Int32).toInt = y152.toInt + 1; exact q_addI (x := y152.toInt) (y := 1) rfl (by decide) (by have t1 : lx60.toInt ≤ y152.toInt := b172; have _ := q_lo32 (x := lx60); have _ := q_hi32 (x := lx60); have t2 : lx60.toInt < lx63.toInt := b110; have t3 : y152.toInt ≤ lx60.toInt := b173; have _ := q_lo32 (x := lx63); have _ := q_hi32 (x := lx63); omega) (by have t1 : lx60.toInt ≤ y152.toInt := b172; have _ := q_lo32 (x := lx60); have _ := q_hi32 (x := lx60); have t2 : lx60.toInt < lx63.toInt := b110; have t3 : y152.toInt ≤ lx60.toInt := b173; have _ := q_lo32 (x := lx63); have _ := q_hi32 (x := lx63); omega))
        refine q_put (ci := 8) (j := 4) (v := .int a229) (ty := .int) C0 V i_Rea o_Rea n_Rea rfl rfl hO149 (by decide) w_290 rfl rfl rfl rfl (Nat.le_of_ble_eq_true rfl) d_10_12_112 (fun H locs w232 hu233 hO149 V => ?_)
        replace hO149 : w232[38]? = (some (q 38, .inr (8, [.long y150, .long y151, .ref (q 1), .ref (q 9), .int a229, .int y153, .int y154, .int a225, .int y156, .int y157, .int y158, .long y159])) : Option (Nat × va_E)) := hO149
        replace hI := n_p38 hI hu233 hO149 ⟨(by have t1 : 0 ≤ t0_4.toInt ∧ t0_4.toInt ≤ 1 := btt0_4; have t2 : t0_4.toInt ≤ lx64.toInt := i84; have t3 : lx64.toInt ≤ y154.toInt := b176; omega), (by have t1 : 0 ≤ t0_4.toInt ∧ t0_4.toInt ≤ 1 := btt0_4; have t2 : lx64.toInt ≤ t0_4.toInt := i85; have t3 : y154.toInt ≤ lx64.toInt := b177; omega)⟩ ⟨(by first | with_reducible exact q_fe b165 | (have t1 : 0 ≤ y158.toInt := b165; omega)), (by first | with_reducible exact q_fe b166 | (have t1 : y158.toInt ≤ 1 := b166; omega))⟩
        replace hO96 := (hu233 _ (by decide)).trans hO96
        replace hO97 := (hu233 _ (by decide)).trans hO97
        replace hO160 := (hu233 _ (by decide)).trans hO160
        replace hA164 := (hu233 _ (by decide)).trans hA164
        replace hF := q_us hF hu233 (by simp)
        refine lv_goto (tgt := 35) hx hb d_10_12_115 (by decide) ?_
        exact ih93 ((a210 : Int32), (lx59 : Int32), (a229 : Int32), (y150 : Int64), (y151 : Int64), (y153 : Int32), (y154 : Int32), (a225 : Int32), (y156 : Int32), (y157 : Int32), (y158 : Int32), (y159 : Int64), (y161 : Int32), (y162 : Int32), (f163 : (Nat → Int32))) _ _ _ _ (show (t0_3.toInt - a229.toInt).toNat < (t0_3.toInt - lx60.toInt).toNat from by have t1 : lx60.toInt ≤ y152.toInt := b172; have t2 : a229.toInt = y152.toInt + 1 := b231; have t3 : lx63.toInt ≤ t0_3.toInt := i83; have t4 : lx60.toInt < lx63.toInt := b110; omega) ⟨(show q_F (lx59.toInt ≤ 1) from (show lx59.toInt ≤ 1 from by have t1 : lx59.toInt ≤ 1 := i73; omega)), (show q_F (0 ≤ y156.toInt) from (show 0 ≤ y156.toInt from by have t1 : 0 ≤ lx66.toInt := i74; have t2 : lx66.toInt ≤ y156.toInt := b180; omega)), (show q_F (0 ≤ y158.toInt) from (show 0 ≤ y158.toInt from by have t1 : 0 ≤ y158.toInt := b165; omega)), (show q_F (y158.toInt ≤ 1) from (show y158.toInt ≤ 1 from by have t1 : y158.toInt ≤ 1 := b166; omega)), (show q_F (y161.toInt ≤ 4100) from (show y161.toInt ≤ 4100 from by have t1 : y161.toInt ≤ 220 := b167; omega)), (show q_F (t0_0.toInt ≤ y150.toInt) from (show t0_0.toInt ≤ y150.toInt from by have t1 : t0_0.toInt ≤ lx61.toInt := i78; have t2 : lx61.toInt ≤ y150.toInt := b168; omega)), (show q_F (y150.toInt ≤ t0_0.toInt) from (show y150.toInt ≤ t0_0.toInt from by have t1 : lx61.toInt ≤ t0_0.toInt := i79; have t2 : y150.toInt ≤ lx61.toInt := b169; omega)), (show q_F (t0_1.toInt ≤ y151.toInt) from (show t0_1.toInt ≤ y151.toInt from by have t1 : t0_1.toInt ≤ lx62.toInt := i80; have t2 : lx62.toInt ≤ y151.toInt := b170; omega)), (show q_F (y151.toInt ≤ t0_1.toInt) from (show y151.toInt ≤ t0_1.toInt from by have t1 : lx62.toInt ≤ t0_1.toInt := i81; have t2 : y151.toInt ≤ lx62.toInt := b171; omega)), (show q_F (t0_3.toInt ≤ y153.toInt) from (show t0_3.toInt ≤ y153.toInt from by have t1 : t0_3.toInt ≤ lx63.toInt := i82; have t2 : lx63.toInt ≤ y153.toInt := b174; omega)), (show q_F (y153.toInt ≤ t0_3.toInt) from (show y153.toInt ≤ t0_3.toInt from by have t1 : lx63.toInt ≤ t0_3.toInt := i83; have t2 : y153.toInt ≤ lx63.toInt := b175; omega)), (show q_F (t0_4.toInt ≤ y154.toInt) from (show t0_4.toInt ≤ y154.toInt from by have t1 : t0_4.toInt ≤ lx64.toInt := i84; have t2 : lx64.toInt ≤ y154.toInt := b176; omega)), (show q_F (y154.toInt ≤ t0_4.toInt) from (show y154.toInt ≤ t0_4.toInt from by have t1 : lx64.toInt ≤ t0_4.toInt := i85; have t2 : y154.toInt ≤ lx64.toInt := b177; omega)), (show q_F (t0_9.toInt ≤ y159.toInt) from (show t0_9.toInt ≤ y159.toInt from by have t1 : t0_9.toInt ≤ lx69.toInt := i86; have t2 : lx69.toInt ≤ y159.toInt := b182; omega)), (show q_F (y159.toInt ≤ t0_9.toInt) from (show y159.toInt ≤ t0_9.toInt from by have t1 : lx69.toInt ≤ t0_9.toInt := i87; have t2 : y159.toInt ≤ lx69.toInt := b183; omega)), (show q_F (y39.toInt ≤ y161.toInt) from (show y39.toInt ≤ y161.toInt from by have t1 : y39.toInt ≤ lx70.toInt := i88; have t2 : lx70.toInt ≤ y161.toInt := b184; omega)), (show q_F (y40.toInt ≤ y162.toInt) from (show y40.toInt ≤ y162.toInt from by have t1 : y40.toInt ≤ lx71.toInt := i89; have t2 : lx71.toInt ≤ y162.toInt := b186; omega)), (show q_F (y162.toInt ≤ y40.toInt) from (show y162.toInt ≤ y40.toInt from by have t1 : lx71.toInt ≤ y40.toInt := i90; have t2 : y162.toInt ≤ lx71.toInt := b187; omega)), (show q_F (lx59.toInt + t0_2.toInt ≤ a229.toInt) from (show lx59.toInt + t0_2.toInt ≤ a229.toInt from by have t1 : lx59.toInt + t0_2.toInt ≤ lx60.toInt := i91; have t2 : lx60.toInt ≤ y152.toInt := b172; have t3 : a229.toInt = y152.toInt + 1 := b231; omega)), (show q_F (y162.toInt ≤ lx59.toInt + y40.toInt) from (show y162.toInt ≤ lx59.toInt + y40.toInt from by have t1 : lx71.toInt ≤ lx59.toInt + y40.toInt := i92; have t2 : y162.toInt ≤ lx71.toInt := b187; omega)), V, q_lw hl (q_lw1 0 rfl (q_lw1 2 rfl (q_lw1 3 rfl (q_lw1 4 rfl (q_lw1 5 rfl q_lw0))))), hI, hF, hO149, hO96, hO97, hO160, hA164, ⟨fm104, Nat.lt_of_lt_of_le (show (t0_3.toInt - a229.toInt).toNat < (t0_3.toInt - lx60.toInt).toNat from by have t1 : lx60.toInt ≤ y152.toInt := b172; have t2 : a229.toInt = y152.toInt + 1 := b231; have t3 : lx63.toInt ≤ t0_3.toInt := i83; have t4 : lx60.toInt < lx63.toInt := b110; omega) (Nat.le_of_lt_succ hf103), (show F_Rea_takeFigures_L35 x2 x3 t0_0 t0_1 t0_2 t0_3 t0_4 t0_5 t0_6 t0_7 t0_8 t0_9 t1_0 t2_0 t3_0 t3_1 t4_0 p47 fm104 a210 lx59 a229 y150 y151 y153 y154 a225 y156 y157 y158 y159 y161 y162 f163 = (F_Rea_takeFigures x2 x3 t0_0 t0_1 t0_2 t0_3 t0_4 t0_5 t0_6 t0_7 t0_8 t0_9 t1_0 t2_0 t3_0 t3_1 t4_0) from Eq.trans (by rw [← e230, ← e226, ← e211, e204, e203, e202, e201, e200, e199, e198, e197, e196, e195, e194, e193, e192, F_Rea_takeFigures_c63.eq_1, if_neg c212]) hR205), (show True ∧ S_Rea_takeFigures_L35 x2 x3 t0_0 t0_1 t0_2 t0_3 t0_4 t0_5 t0_6 t0_7 t0_8 t0_9 t1_0 t2_0 t3_0 t3_1 t4_0 p47 fm104 a210 lx59 a229 y150 y151 y153 y154 a225 y156 y157 y158 y159 y161 y162 f163 from (by rw [← e230, ← e226, ← e211, e204, e203, e202, e201, e200, e199, e198, e197, e196, e195, e194, e193, e192]; have h := hS206; rw [S_Rea_takeFigures_c63.eq_1] at h; rw [if_neg c212] at h; with_reducible exact h))⟩⟩

def F_Rea_takeExponent_J117 (K_F_Rea_takeExponent_L61 : Int64 → Int32 → (Int32 × Int64 × Int64 × Int32 × Int32 × Int32 × Int32 × Int32 × Int32 × Int32 × Int64)) (x2 : Int32) (t0_0 : Int64) (t0_1 : Int64) (t0_2 : Int32) (t0_3 : Int32) (t0_4 : Int32) (t0_5 : Int32) (t0_6 : Int32) (t0_7 : Int32) (t0_8 : Int32) (t0_9 : Int64) (t1_0 : Int32) (t2_0 : (Nat → Int64)) (a19 : Int32) (lx31 : Int32) (lx51 : Int32) (lx63 : Int64) (lx64 : Int32) : Int32 × Int64 × Int64 × Int32 × Int32 × Int32 × Int32 × Int32 × Int32 × Int32 × Int64 := if lx64 ≤ lx51 then (((0 : Int32), t0_0, t0_1, lx64, t0_3, t0_4, t0_5, t0_6, t0_7, t0_8, ((lx31.toInt64 : Int64) * lx63 : Int64))) else (if x2 < (lx64 - lx51 : Int32) then (((0 : Int32), t0_0, t0_1, lx64, t0_3, t0_4, t0_5, t0_6, t0_7, t0_8, ((lx31.toInt64 : Int64) * lx63 : Int64))) else (((1 : Int32), t0_0, t0_1, lx64, t0_3, t0_4, t0_5, t0_6, t0_7, t0_8, ((lx31.toInt64 : Int64) * lx63 : Int64))))
def F_Rea_takeExponent_L61 (x2 : Int32) (t0_0 : Int64) (t0_1 : Int64) (t0_2 : Int32) (t0_3 : Int32) (t0_4 : Int32) (t0_5 : Int32) (t0_6 : Int32) (t0_7 : Int32) (t0_8 : Int32) (t0_9 : Int64) (t1_0 : Int32) (t2_0 : (Nat → Int64)) (a19 : Int32) (lx31 : Int32) (lx51 : Int32) : Nat → Int64 → Int32 → (Int32 × Int64 × Int64 × Int32 × Int32 × Int32 × Int32 × Int32 × Int32 × Int32 × Int64)
  | 0, _, _ => default
  | fm + 1, lx63, lx64 => if t0_3 ≤ lx64 then (F_Rea_takeExponent_J117 (F_Rea_takeExponent_L61 x2 t0_0 t0_1 t0_2 t0_3 t0_4 t0_5 t0_6 t0_7 t0_8 t0_9 t1_0 t2_0 a19 lx31 lx51 fm) x2 t0_0 t0_1 t0_2 t0_3 t0_4 t0_5 t0_6 t0_7 t0_8 t0_9 t1_0 t2_0 a19 lx31 lx51 lx63 lx64) else (if (10 : Int32) ≤ ((F_Rea_digitHere t0_0 t0_1 lx64 t0_3 t0_4 t0_5 t0_6 t0_7 t0_8 t0_9 t1_0 t2_0) : Int32) then (F_Rea_takeExponent_J117 (F_Rea_takeExponent_L61 x2 t0_0 t0_1 t0_2 t0_3 t0_4 t0_5 t0_6 t0_7 t0_8 t0_9 t1_0 t2_0 a19 lx31 lx51 fm) x2 t0_0 t0_1 t0_2 t0_3 t0_4 t0_5 t0_6 t0_7 t0_8 t0_9 t1_0 t2_0 a19 lx31 lx51 lx63 lx64) else (if (0 : Int32) ≤ (lg_cmp lx63 100000000000 : Int32) then (F_Rea_takeExponent_L61 x2 t0_0 t0_1 t0_2 t0_3 t0_4 t0_5 t0_6 t0_7 t0_8 t0_9 t1_0 t2_0 a19 lx31 lx51 fm lx63 (lx64 + 1 : Int32)) else (F_Rea_takeExponent_L61 x2 t0_0 t0_1 t0_2 t0_3 t0_4 t0_5 t0_6 t0_7 t0_8 t0_9 t1_0 t2_0 a19 lx31 lx51 fm ((lx63 * 10 : Int64) + (((F_Rea_digitHere t0_0 t0_1 lx64 t0_3 t0_4 t0_5 t0_6 t0_7 t0_8 t0_9 t1_0 t2_0) : Int32).toInt64 : Int64) : Int64) (lx64 + 1 : Int32))))
def F_Rea_takeExponent_J53 (x2 : Int32) (t0_0 : Int64) (t0_1 : Int64) (t0_2 : Int32) (t0_3 : Int32) (t0_4 : Int32) (t0_5 : Int32) (t0_6 : Int32) (t0_7 : Int32) (t0_8 : Int32) (t0_9 : Int64) (t1_0 : Int32) (t2_0 : (Nat → Int64)) (a19 : Int32) (lx31 : Int32) (lx51 : Int32) : Int32 × Int64 × Int64 × Int32 × Int32 × Int32 × Int32 × Int32 × Int32 × Int32 × Int64 := F_Rea_takeExponent_L61 x2 t0_0 t0_1 t0_2 t0_3 t0_4 t0_5 t0_6 t0_7 t0_8 t0_9 t1_0 t2_0 a19 lx31 lx51 ((t0_3.toInt - lx51.toInt).toNat + 1) 0 lx51
def F_Rea_takeExponent_J43 (x2 : Int32) (t0_0 : Int64) (t0_1 : Int64) (t0_2 : Int32) (t0_3 : Int32) (t0_4 : Int32) (t0_5 : Int32) (t0_6 : Int32) (t0_7 : Int32) (t0_8 : Int32) (t0_9 : Int64) (t1_0 : Int32) (t2_0 : (Nat → Int64)) (a19 : Int32) (lx31 : Int32) : Int32 × Int64 × Int64 × Int32 × Int32 × Int32 × Int32 × Int32 × Int32 × Int32 × Int64 := F_Rea_takeExponent_J53 x2 t0_0 t0_1 t0_2 t0_3 t0_4 t0_5 t0_6 t0_7 t0_8 t0_9 t1_0 t2_0 a19 lx31 (a19 + 1 : Int32)
def F_Rea_takeExponent_J24 (x2 : Int32) (t0_0 : Int64) (t0_1 : Int64) (t0_2 : Int32) (t0_3 : Int32) (t0_4 : Int32) (t0_5 : Int32) (t0_6 : Int32) (t0_7 : Int32) (t0_8 : Int32) (t0_9 : Int64) (t1_0 : Int32) (t2_0 : (Nat → Int64)) (a19 : Int32) (lx31 : Int32) : Int32 × Int64 × Int64 × Int32 × Int32 × Int32 × Int32 × Int32 × Int32 × Int32 × Int64 := if ((F_Rea_here t0_0 t0_1 a19 t0_3 t0_4 t0_5 t0_6 t0_7 t0_8 t0_9 t1_0 t2_0) : Int32) = (45 : Int32) then (F_Rea_takeExponent_J43 x2 t0_0 t0_1 t0_2 t0_3 t0_4 t0_5 t0_6 t0_7 t0_8 t0_9 t1_0 t2_0 a19 lx31) else (if ((F_Rea_here t0_0 t0_1 a19 t0_3 t0_4 t0_5 t0_6 t0_7 t0_8 t0_9 t1_0 t2_0) : Int32) = (43 : Int32) then (F_Rea_takeExponent_J43 x2 t0_0 t0_1 t0_2 t0_3 t0_4 t0_5 t0_6 t0_7 t0_8 t0_9 t1_0 t2_0 a19 lx31) else (F_Rea_takeExponent_J53 x2 t0_0 t0_1 t0_2 t0_3 t0_4 t0_5 t0_6 t0_7 t0_8 t0_9 t1_0 t2_0 a19 lx31 a19))
def F_Rea_takeExponent (x2 : Int32) (t0_0 : Int64) (t0_1 : Int64) (t0_2 : Int32) (t0_3 : Int32) (t0_4 : Int32) (t0_5 : Int32) (t0_6 : Int32) (t0_7 : Int32) (t0_8 : Int32) (t0_9 : Int64) (t1_0 : Int32) (t2_0 : (Nat → Int64)) : Int32 × Int64 × Int64 × Int32 × Int32 × Int32 × Int32 × Int32 × Int32 × Int32 × Int64 := if ((F_Rea_here t0_0 t0_1 (t0_2 + 1 : Int32) t0_3 t0_4 t0_5 t0_6 t0_7 t0_8 t0_9 t1_0 t2_0) : Int32) = (45 : Int32) then (F_Rea_takeExponent_J24 x2 t0_0 t0_1 t0_2 t0_3 t0_4 t0_5 t0_6 t0_7 t0_8 t0_9 t1_0 t2_0 (t0_2 + 1 : Int32) (-1)) else (F_Rea_takeExponent_J24 x2 t0_0 t0_1 t0_2 t0_3 t0_4 t0_5 t0_6 t0_7 t0_8 t0_9 t1_0 t2_0 (t0_2 + 1 : Int32) 1)
def S_Rea_takeExponent_J117 (K_S_Rea_takeExponent_L61 : Int64 → Int32 → Prop) (x2 : Int32) (t0_0 : Int64) (t0_1 : Int64) (t0_2 : Int32) (t0_3 : Int32) (t0_4 : Int32) (t0_5 : Int32) (t0_6 : Int32) (t0_7 : Int32) (t0_8 : Int32) (t0_9 : Int64) (t1_0 : Int32) (t2_0 : (Nat → Int64)) (a19 : Int32) (lx31 : Int32) (lx51 : Int32) (lx63 : Int64) (lx64 : Int32) : Prop := if lx64 ≤ lx51 then (True) else (if x2 < (lx64 - lx51 : Int32) then (True) else (True))
def S_Rea_takeExponent_L61 (x2 : Int32) (t0_0 : Int64) (t0_1 : Int64) (t0_2 : Int32) (t0_3 : Int32) (t0_4 : Int32) (t0_5 : Int32) (t0_6 : Int32) (t0_7 : Int32) (t0_8 : Int32) (t0_9 : Int64) (t1_0 : Int32) (t2_0 : (Nat → Int64)) (a19 : Int32) (lx31 : Int32) (lx51 : Int32) : Nat → Int64 → Int32 → Prop
  | 0, _, _ => False
  | fm + 1, lx63, lx64 => if t0_3 ≤ lx64 then (S_Rea_takeExponent_J117 (S_Rea_takeExponent_L61 x2 t0_0 t0_1 t0_2 t0_3 t0_4 t0_5 t0_6 t0_7 t0_8 t0_9 t1_0 t2_0 a19 lx31 lx51 fm) x2 t0_0 t0_1 t0_2 t0_3 t0_4 t0_5 t0_6 t0_7 t0_8 t0_9 t1_0 t2_0 a19 lx31 lx51 lx63 lx64) else ((True ∧ S_Rea_digitHere t0_0 t0_1 lx64 t0_3 t0_4 t0_5 t0_6 t0_7 t0_8 t0_9 t1_0 t2_0) ∧ (if (10 : Int32) ≤ ((F_Rea_digitHere t0_0 t0_1 lx64 t0_3 t0_4 t0_5 t0_6 t0_7 t0_8 t0_9 t1_0 t2_0) : Int32) then (S_Rea_takeExponent_J117 (S_Rea_takeExponent_L61 x2 t0_0 t0_1 t0_2 t0_3 t0_4 t0_5 t0_6 t0_7 t0_8 t0_9 t1_0 t2_0 a19 lx31 lx51 fm) x2 t0_0 t0_1 t0_2 t0_3 t0_4 t0_5 t0_6 t0_7 t0_8 t0_9 t1_0 t2_0 a19 lx31 lx51 lx63 lx64) else (if (0 : Int32) ≤ (lg_cmp lx63 100000000000 : Int32) then (S_Rea_takeExponent_L61 x2 t0_0 t0_1 t0_2 t0_3 t0_4 t0_5 t0_6 t0_7 t0_8 t0_9 t1_0 t2_0 a19 lx31 lx51 fm lx63 (lx64 + 1 : Int32)) else ((True ∧ S_Rea_digitHere t0_0 t0_1 lx64 t0_3 t0_4 t0_5 t0_6 t0_7 t0_8 t0_9 t1_0 t2_0) ∧ (S_Rea_takeExponent_L61 x2 t0_0 t0_1 t0_2 t0_3 t0_4 t0_5 t0_6 t0_7 t0_8 t0_9 t1_0 t2_0 a19 lx31 lx51 fm ((lx63 * 10 : Int64) + (((F_Rea_digitHere t0_0 t0_1 lx64 t0_3 t0_4 t0_5 t0_6 t0_7 t0_8 t0_9 t1_0 t2_0) : Int32).toInt64 : Int64) : Int64) (lx64 + 1 : Int32))))))
def S_Rea_takeExponent_J53 (x2 : Int32) (t0_0 : Int64) (t0_1 : Int64) (t0_2 : Int32) (t0_3 : Int32) (t0_4 : Int32) (t0_5 : Int32) (t0_6 : Int32) (t0_7 : Int32) (t0_8 : Int32) (t0_9 : Int64) (t1_0 : Int32) (t2_0 : (Nat → Int64)) (a19 : Int32) (lx31 : Int32) (lx51 : Int32) : Prop := S_Rea_takeExponent_L61 x2 t0_0 t0_1 t0_2 t0_3 t0_4 t0_5 t0_6 t0_7 t0_8 t0_9 t1_0 t2_0 a19 lx31 lx51 ((t0_3.toInt - lx51.toInt).toNat + 1) 0 lx51
def S_Rea_takeExponent_J43 (x2 : Int32) (t0_0 : Int64) (t0_1 : Int64) (t0_2 : Int32) (t0_3 : Int32) (t0_4 : Int32) (t0_5 : Int32) (t0_6 : Int32) (t0_7 : Int32) (t0_8 : Int32) (t0_9 : Int64) (t1_0 : Int32) (t2_0 : (Nat → Int64)) (a19 : Int32) (lx31 : Int32) : Prop := S_Rea_takeExponent_J53 x2 t0_0 t0_1 t0_2 t0_3 t0_4 t0_5 t0_6 t0_7 t0_8 t0_9 t1_0 t2_0 a19 lx31 (a19 + 1 : Int32)
def S_Rea_takeExponent_J24 (x2 : Int32) (t0_0 : Int64) (t0_1 : Int64) (t0_2 : Int32) (t0_3 : Int32) (t0_4 : Int32) (t0_5 : Int32) (t0_6 : Int32) (t0_7 : Int32) (t0_8 : Int32) (t0_9 : Int64) (t1_0 : Int32) (t2_0 : (Nat → Int64)) (a19 : Int32) (lx31 : Int32) : Prop := (True ∧ S_Rea_here t0_0 t0_1 a19 t0_3 t0_4 t0_5 t0_6 t0_7 t0_8 t0_9 t1_0 t2_0) ∧ (if ((F_Rea_here t0_0 t0_1 a19 t0_3 t0_4 t0_5 t0_6 t0_7 t0_8 t0_9 t1_0 t2_0) : Int32) = (45 : Int32) then (S_Rea_takeExponent_J43 x2 t0_0 t0_1 t0_2 t0_3 t0_4 t0_5 t0_6 t0_7 t0_8 t0_9 t1_0 t2_0 a19 lx31) else ((True ∧ S_Rea_here t0_0 t0_1 a19 t0_3 t0_4 t0_5 t0_6 t0_7 t0_8 t0_9 t1_0 t2_0) ∧ (if ((F_Rea_here t0_0 t0_1 a19 t0_3 t0_4 t0_5 t0_6 t0_7 t0_8 t0_9 t1_0 t2_0) : Int32) = (43 : Int32) then (S_Rea_takeExponent_J43 x2 t0_0 t0_1 t0_2 t0_3 t0_4 t0_5 t0_6 t0_7 t0_8 t0_9 t1_0 t2_0 a19 lx31) else (S_Rea_takeExponent_J53 x2 t0_0 t0_1 t0_2 t0_3 t0_4 t0_5 t0_6 t0_7 t0_8 t0_9 t1_0 t2_0 a19 lx31 a19))))
def S_Rea_takeExponent (x2 : Int32) (t0_0 : Int64) (t0_1 : Int64) (t0_2 : Int32) (t0_3 : Int32) (t0_4 : Int32) (t0_5 : Int32) (t0_6 : Int32) (t0_7 : Int32) (t0_8 : Int32) (t0_9 : Int64) (t1_0 : Int32) (t2_0 : (Nat → Int64)) : Prop := (True ∧ S_Rea_here t0_0 t0_1 (t0_2 + 1 : Int32) t0_3 t0_4 t0_5 t0_6 t0_7 t0_8 t0_9 t1_0 t2_0) ∧ (if ((F_Rea_here t0_0 t0_1 (t0_2 + 1 : Int32) t0_3 t0_4 t0_5 t0_6 t0_7 t0_8 t0_9 t1_0 t2_0) : Int32) = (45 : Int32) then (S_Rea_takeExponent_J24 x2 t0_0 t0_1 t0_2 t0_3 t0_4 t0_5 t0_6 t0_7 t0_8 t0_9 t1_0 t2_0 (t0_2 + 1 : Int32) (-1)) else (S_Rea_takeExponent_J24 x2 t0_0 t0_1 t0_2 t0_3 t0_4 t0_5 t0_6 t0_7 t0_8 t0_9 t1_0 t2_0 (t0_2 + 1 : Int32) 1))
set_option maxRecDepth 100000 in
set_option maxHeartbeats 4000000 in
theorem X_Rea_takeExponent (l : Launch) (D : va_G) (g : Nat → ClassId) (q : Nat → Nat) (ws : va_W) (x2 : Int32) (hI : q_I (nsh g q) q ws) (t0_0 : Int64) (t0_1 : Int64) (t0_2 : Int32) (t0_3 : Int32) (t0_4 : Int32) (t0_5 : Int32) (t0_6 : Int32) (t0_7 : Int32) (t0_8 : Int32) (t0_9 : Int64) (hT0 : ws[38]? = (some (q 38, .inr (8, [.long t0_0, .long t0_1, .ref (q 1), .ref (q 9), .int t0_2, .int t0_3, .int t0_4, .int t0_5, .int t0_6, .int t0_7, .int t0_8, .long t0_9])) : Option (Nat × va_E))) (t1_0 : Int32) (hT1 : ws[1]? = (some (q 1, .inr (1, [.ref (q 2), .int 4100, .int t1_0])) : Option (Nat × va_E))) (t2_0 : (Nat → Int64)) (hT2 : ws[2]? = (some (q 2, .inl (g 1, (513 : Int32).toNatClampNeg, .inr (.inl t2_0))) : Option (Nat × va_E))) (hS : True ∧ S_Rea_takeExponent x2 t0_0 t0_1 t0_2 t0_3 t0_4 t0_5 t0_6 t0_7 t0_8 t0_9 t1_0 t2_0) : q_mI l y_Rea_takeExponent prog_10_method_14_code 6 (.boolean) 4 0 0 D g [.ref (q 38), .int x2] ws (fun r u => q_I (nsh g q) q u ∧ q_un ws u [38] ∧ ∃ (u0_0 : Int64) (u0_1 : Int64) (u0_2 : Int32) (u0_3 : Int32) (u0_4 : Int32) (u0_5 : Int32) (u0_6 : Int32) (u0_7 : Int32) (u0_8 : Int32) (u0_9 : Int64), u[38]? = (some (q 38, .inr (8, [.long u0_0, .long u0_1, .ref (q 1), .ref (q 9), .int u0_2, .int u0_3, .int u0_4, .int u0_5, .int u0_6, .int u0_7, .int u0_8, .long u0_9])) : Option (Nat × va_E)) ∧ (0 ≤ r.toInt) ∧ (r.toInt ≤ 1) ∧ (t0_0.toInt ≤ u0_0.toInt) ∧ (u0_0.toInt ≤ t0_0.toInt) ∧ (t0_1.toInt ≤ u0_1.toInt) ∧ (u0_1.toInt ≤ t0_1.toInt) ∧ (t0_3.toInt ≤ u0_3.toInt) ∧ (u0_3.toInt ≤ t0_3.toInt) ∧ (t0_4.toInt ≤ u0_4.toInt) ∧ (u0_4.toInt ≤ t0_4.toInt) ∧ (t0_5.toInt ≤ u0_5.toInt) ∧ (u0_5.toInt ≤ t0_5.toInt) ∧ (t0_6.toInt ≤ u0_6.toInt) ∧ (u0_6.toInt ≤ t0_6.toInt) ∧ (t0_7.toInt ≤ u0_7.toInt) ∧ (u0_7.toInt ≤ t0_7.toInt) ∧ (t0_8.toInt ≤ u0_8.toInt) ∧ (u0_8.toInt ≤ t0_8.toInt) ∧ (r, u0_0, u0_1, u0_2, u0_3, u0_4, u0_5, u0_6, u0_7, u0_8, u0_9) = (F_Rea_takeExponent x2 t0_0 t0_1 t0_2 t0_3 t0_4 t0_5 t0_6 t0_7 t0_8 t0_9 t1_0 t2_0)) := by
  intro sz
  refine q_into (by decide) (Nat.le_of_ble_eq_true rfl) ?_
  intro p e s m below meth c ls hsz C0 V hl
  have hx := C0.1
  have hb := C0.2.1
  obtain ⟨btt0_4, btt0_8⟩ := n_w38 hI hT0
  replace btt0_4 : q_F (0 ≤ t0_4.toInt ∧ t0_4.toInt ≤ 1) := btt0_4
  replace btt0_8 : q_F (0 ≤ t0_8.toInt ∧ t0_8.toInt ≤ 1) := btt0_8
  have btt1_0 := n_shW hI (n_h1 g q) hT1
  clear btt1_0
  have hF : q_un ws ws [38] := q_u0
  have hl : lv_has ls 6 [(0, .ref (q 38)), (1, .int x2)] := hl
  refine lv_aload_n hx hb d_10_14_0 rfl (lv_at hl 0 rfl) ?_
  refine lv_dup hx hb d_10_14_1 rfl ?_
  refine q_get (ci := 8) (j := 4) (v := .int t0_2) C0 V i_Rea rfl rfl hT0 (by decide) w_290 rfl d_10_14_2 ?_
  refine lv_iconst (v := 1) hx hb d_10_14_5 (by decide) ?_
  refine lv_iadd hx hb d_10_14_6 ?_
  obtain ⟨a19, e20⟩ := q_nm (t0_2 + 1 : Int32)
  refine q_ti (v := a19) e20 ?_
  refine q_put (ci := 8) (j := 4) (v := .int a19) (ty := .int) C0 V i_Rea o_Rea n_Rea rfl rfl hT0 (by decide) w_290 rfl rfl rfl rfl (Nat.le_of_ble_eq_true rfl) d_10_14_7 (fun H locs w21 hu22 hT0 V => ?_)
  replace hT0 : w21[38]? = (some (q 38, .inr (8, [.long t0_0, .long t0_1, .ref (q 1), .ref (q 9), .int a19, .int t0_3, .int t0_4, .int t0_5, .int t0_6, .int t0_7, .int t0_8, .long t0_9])) : Option (Nat × va_E)) := hT0
  replace hI := n_p38 hI hu22 hT0 (by first | with_reducible exact q_fe btt0_4 | exact ⟨(by have t1 : 0 ≤ t0_4.toInt ∧ t0_4.toInt ≤ 1 := btt0_4; omega), (by have t1 : 0 ≤ t0_4.toInt ∧ t0_4.toInt ≤ 1 := btt0_4; omega)⟩) (by first | with_reducible exact q_fe btt0_8 | exact ⟨(by have t1 : 0 ≤ t0_8.toInt ∧ t0_8.toInt ≤ 1 := btt0_8; omega), (by have t1 : 0 ≤ t0_8.toInt ∧ t0_8.toInt ≤ 1 := btt0_8; omega)⟩)
  replace hT1 := (hu22 _ (by decide)).trans hT1
  replace hT2 := (hu22 _ (by decide)).trans hT2
  replace hF := q_us hF hu22 (by simp)
  refine lv_aload_n hx hb d_10_14_10 rfl (lv_at hl 0 rfl) ?_
  have ob23 : True ∧ S_Rea_here t0_0 t0_1 a19 t0_3 t0_4 t0_5 t0_6 t0_7 t0_8 t0_9 t1_0 t2_0 := (by rw [← e20]; have h := hS; rw [S_Rea_takeExponent.eq_1] at h; with_reducible exact h.2.1)
  refine q_goi V (q_runV (As := []) (rest := []) (d := 2) (mc := 0) (ms := 0) (ci := 8) C0 V rfl LV_Rea_70 (X_Rea_here l D g q w21   hI t0_0 t0_1 a19 t0_3 t0_4 t0_5 t0_6 t0_7 t0_8 t0_9 hT0 t1_0 hT1 t2_0 hT2 ob23 _) rfl rfl hT0 rfl hl.1 rfl (Nat.le_of_ble_eq_true rfl) ⟨by decide, by decide⟩ ⟨Nat.le_of_ble_eq_true rfl, Nat.le_of_ble_eq_true rfl⟩ d_10_14_11) (fun a26 u24 H locs hp25 V => ?_)
  obtain ⟨rfl, b27, b28, hE29⟩ := hp25
  have e30 : a26 = (F_Rea_here t0_0 t0_1 a19 t0_3 t0_4 t0_5 t0_6 t0_7 t0_8 t0_9 t1_0 t2_0) := hE29
  clear b27
  clear b28
  refine lv_bipush (v := 45) hx hb d_10_14_14 (by decide) ?_
  refine q_join (X := Int32) (fun z H locs ls _ => q_F (0 ≤ z.toInt + 1) ∧ q_F (z.toInt ≤ 1) ∧ q_Wd D g (va_A ws sz) s w21 H locs ∧ lv_has ls 6 [(0, .ref (q 38)), (1, .int x2)] ∧ F_Rea_takeExponent_J24 x2 t0_0 t0_1 t0_2 t0_3 t0_4 t0_5 t0_6 t0_7 t0_8 t0_9 t1_0 t2_0 a19 z = (F_Rea_takeExponent x2 t0_0 t0_1 t0_2 t0_3 t0_4 t0_5 t0_6 t0_7 t0_8 t0_9 t1_0 t2_0) ∧ True ∧ S_Rea_takeExponent_J24 x2 t0_0 t0_1 t0_2 t0_3 t0_4 t0_5 t0_6 t0_7 t0_8 t0_9 t1_0 t2_0 a19 z) (fun z => [.int z]) 24 0 0 ?_ ?_
  ·
    rintro lx31 H locs ls _ hZ9
    replace hZ9 := hZ9.2.2
    obtain ⟨V, hZ9⟩ := hZ9
    obtain ⟨hl, hZ9⟩ := hZ9
    obtain ⟨hR38, hS39⟩ := hZ9
    replace hl : lv_has ls 6 [(0, .ref (q 38)), (1, .int x2)] := hl
    refine lv_istore_n (lv' := [(2, .int lx31), (0, .ref (q 38)), (1, .int x2)]) hx hb d_10_14_24 rfl hl (by decide) rfl (fun ls hl => ?_)
    refine lv_aload_n hx hb d_10_14_25 rfl (lv_at hl 1 rfl) ?_
    have ob43 : True ∧ S_Rea_here t0_0 t0_1 a19 t0_3 t0_4 t0_5 t0_6 t0_7 t0_8 t0_9 t1_0 t2_0 := (by have h := hS39; rw [S_Rea_takeExponent_J24.eq_1] at h; with_reducible exact h.2.1)
    refine q_goi V (q_runV (As := []) (rest := []) (d := 2) (mc := 0) (ms := 0) (ci := 8) C0 V rfl LV_Rea_70 (X_Rea_here l D g q w21   hI t0_0 t0_1 a19 t0_3 t0_4 t0_5 t0_6 t0_7 t0_8 t0_9 hT0 t1_0 hT1 t2_0 hT2 ob43 _) rfl rfl hT0 rfl hl.1 rfl (Nat.le_of_ble_eq_true rfl) ⟨by decide, by decide⟩ ⟨Nat.le_of_ble_eq_true rfl, Nat.le_of_ble_eq_true rfl⟩ d_10_14_26) (fun a46 u44 H locs hp45 V => ?_)
    obtain ⟨rfl, b47, b48, hE49⟩ := hp45
    have e50 : a46 = (F_Rea_here t0_0 t0_1 a19 t0_3 t0_4 t0_5 t0_6 t0_7 t0_8 t0_9 t1_0 t2_0) := hE49
    clear b47
    clear b48
    refine lv_bipush (v := 45) hx hb d_10_14_29 (by decide) ?_
    refine q_join (X := Int32) (fun z H locs ls w56 => q_Wd D g (va_A ws sz) s w56 H locs ∧ lv_has ls 6 [(2, .int lx31), (0, .ref (q 38)), (1, .int x2)] ∧ q_I (nsh g q) q w56 ∧ q_un ws w56 [38] ∧ w56[38]? = (some (q 38, .inr (8, [.long t0_0, .long t0_1, .ref (q 1), .ref (q 9), .int z, .int t0_3, .int t0_4, .int t0_5, .int t0_6, .int t0_7, .int t0_8, .long t0_9])) : Option (Nat × va_E)) ∧ w56[1]? = (some (q 1, .inr (1, [.ref (q 2), .int 4100, .int t1_0])) : Option (Nat × va_E)) ∧ w56[2]? = (some (q 2, .inl (g 1, (513 : Int32).toNatClampNeg, .inr (.inl t2_0))) : Option (Nat × va_E)) ∧ F_Rea_takeExponent_J53 x2 t0_0 t0_1 t0_2 t0_3 t0_4 t0_5 t0_6 t0_7 t0_8 t0_9 t1_0 t2_0 a19 lx31 z = (F_Rea_takeExponent x2 t0_0 t0_1 t0_2 t0_3 t0_4 t0_5 t0_6 t0_7 t0_8 t0_9 t1_0 t2_0) ∧ True ∧ S_Rea_takeExponent_J53 x2 t0_0 t0_1 t0_2 t0_3 t0_4 t0_5 t0_6 t0_7 t0_8 t0_9 t1_0 t2_0 a19 lx31 z) (fun z => []) 53 0 0 ?_ ?_
    ·
      rintro lx51 H locs ls w56 hZ9
      obtain ⟨V, hZ9⟩ := hZ9
      obtain ⟨hl, hZ9⟩ := hZ9
      obtain ⟨hI, hZ9⟩ := hZ9
      obtain ⟨hF, hZ9⟩ := hZ9
      obtain ⟨hO52, hZ9⟩ := hZ9
      obtain ⟨hO53, hZ9⟩ := hZ9
      obtain ⟨hA54, hZ9⟩ := hZ9
      obtain ⟨hR57, hS58⟩ := hZ9
      replace hl : lv_has ls 6 [(2, .int lx31), (0, .ref (q 38)), (1, .int x2)] := hl
      replace hO52 : w56[38]? = (some (q 38, .inr (8, [.long t0_0, .long t0_1, .ref (q 1), .ref (q 9), .int lx51, .int t0_3, .int t0_4, .int t0_5, .int t0_6, .int t0_7, .int t0_8, .long t0_9])) : Option (Nat × va_E)) := hO52
      replace hO53 : w56[1]? = (some (q 1, .inr (1, [.ref (q 2), .int 4100, .int t1_0])) : Option (Nat × va_E)) := hO53
      replace hA54 : w56[2]? = (some (q 2, .inl (g 1, (513 : Int32).toNatClampNeg, .inr (.inl t2_0))) : Option (Nat × va_E)) := hA54
      refine lv_aload_n hx hb d_10_14_53 rfl (lv_at hl 1 rfl) ?_
      refine q_get (ci := 8) (j := 4) (v := .int lx51) C0 V i_Rea rfl rfl hO52 (by decide) w_290 rfl d_10_14_54 ?_
      refine lv_istore_n (lv' := [(3, .int lx51), (2, .int lx31), (0, .ref (q 38)), (1, .int x2)]) hx hb d_10_14_57 rfl hl (by decide) rfl (fun ls hl => ?_)
      refine lv_lconst (v := 0) hx hb d_10_14_58 (by decide) ?_
      refine lv_lstore (lv' := [(4, .long 0), (3, .int lx51), (2, .int lx31), (0, .ref (q 38)), (1, .int x2)]) hx hb d_10_14_59 hl (by decide) rfl (fun ls hl => ?_)
      refine q_loop (X := Int64 × Int32) (fun z H locs ls w68 => q_F (0 ≤ z.1.toInt) ∧ q_F (lx51.toInt ≤ z.2.toInt) ∧ q_Wd D g (va_A ws sz) s w68 H locs ∧ lv_has ls 6 [(4, .long z.1), (3, .int lx51), (2, .int lx31), (0, .ref (q 38)), (1, .int x2)] ∧ q_I (nsh g q) q w68 ∧ q_un ws w68 [38] ∧ w68[38]? = (some (q 38, .inr (8, [.long t0_0, .long t0_1, .ref (q 1), .ref (q 9), .int z.2, .int t0_3, .int t0_4, .int t0_5, .int t0_6, .int t0_7, .int t0_8, .long t0_9])) : Option (Nat × va_E)) ∧ w68[1]? = (some (q 1, .inr (1, [.ref (q 2), .int 4100, .int t1_0])) : Option (Nat × va_E)) ∧ w68[2]? = (some (q 2, .inl (g 1, (513 : Int32).toNatClampNeg, .inr (.inl t2_0))) : Option (Nat × va_E)) ∧ (∃ n, (t0_3.toInt - z.2.toInt).toNat < n ∧ F_Rea_takeExponent_L61 x2 t0_0 t0_1 t0_2 t0_3 t0_4 t0_5 t0_6 t0_7 t0_8 t0_9 t1_0 t2_0 a19 lx31 lx51 n z.1 z.2 = (F_Rea_takeExponent x2 t0_0 t0_1 t0_2 t0_3 t0_4 t0_5 t0_6 t0_7 t0_8 t0_9 t1_0 t2_0) ∧ True ∧ S_Rea_takeExponent_L61 x2 t0_0 t0_1 t0_2 t0_3 t0_4 t0_5 t0_6 t0_7 t0_8 t0_9 t1_0 t2_0 a19 lx31 lx51 n z.1 z.2)) (fun z => (t0_3.toInt - z.2.toInt).toNat) ?_ ((0 : Int64), (lx51 : Int32)) _ _ _ w56 ⟨(show q_F (0 ≤ 0) from (show 0 ≤ 0 from by omega)), (show q_F (lx51.toInt ≤ lx51.toInt) from (show lx51.toInt ≤ lx51.toInt from by omega)), V, q_lw hl (q_lw1 0 rfl (q_lw1 1 rfl (q_lw1 2 rfl (q_lw1 3 rfl (q_lw1 4 rfl q_lw0))))), hI, hF, hO52, hO53, hA54, ⟨((t0_3.toInt - lx51.toInt).toNat + 1), Nat.lt_succ_self _, (show F_Rea_takeExponent_L61 x2 t0_0 t0_1 t0_2 t0_3 t0_4 t0_5 t0_6 t0_7 t0_8 t0_9 t1_0 t2_0 a19 lx31 lx51 ((t0_3.toInt - lx51.toInt).toNat + 1) 0 lx51 = (F_Rea_takeExponent x2 t0_0 t0_1 t0_2 t0_3 t0_4 t0_5 t0_6 t0_7 t0_8 t0_9 t1_0 t2_0) from Eq.trans (by rw [F_Rea_takeExponent_J53.eq_1]) hR57), (show True ∧ S_Rea_takeExponent_L61 x2 t0_0 t0_1 t0_2 t0_3 t0_4 t0_5 t0_6 t0_7 t0_8 t0_9 t1_0 t2_0 a19 lx31 lx51 ((t0_3.toInt - lx51.toInt).toNat + 1) 0 lx51 from (by have h := hS58; rw [S_Rea_takeExponent_J53.eq_1] at h; with_reducible exact h))⟩⟩
      rintro ⟨lx63, lx64⟩ H locs ls w68 ⟨i65, i66, V, hl, hI, hF, hO69, hO70, hO71, ⟨fu74, hf75, hR72, hS73⟩⟩ ih67
      obtain ⟨fm76, rfl⟩ : ∃ m, fu74 = m + 1 := ⟨fu74 - 1, by omega⟩
      replace i65 : q_F (0 ≤ lx63.toInt) := i65
      replace i66 : q_F (lx51.toInt ≤ lx64.toInt) := i66
      replace hl : lv_has ls 6 [(4, .long lx63), (3, .int lx51), (2, .int lx31), (0, .ref (q 38)), (1, .int x2)] := hl
      replace hO69 : w68[38]? = (some (q 38, .inr (8, [.long t0_0, .long t0_1, .ref (q 1), .ref (q 9), .int lx64, .int t0_3, .int t0_4, .int t0_5, .int t0_6, .int t0_7, .int t0_8, .long t0_9])) : Option (Nat × va_E)) := hO69
      replace hO70 : w68[1]? = (some (q 1, .inr (1, [.ref (q 2), .int 4100, .int t1_0])) : Option (Nat × va_E)) := hO70
      replace hO71 : w68[2]? = (some (q 2, .inl (g 1, (513 : Int32).toNatClampNeg, .inr (.inl t2_0))) : Option (Nat × va_E)) := hO71
      refine lv_aload_n hx hb d_10_14_61 rfl (lv_at hl 3 rfl) ?_
      refine q_get (ci := 8) (j := 4) (v := .int lx64) C0 V i_Rea rfl rfl hO69 (by decide) w_290 rfl d_10_14_62 ?_
      refine lv_aload_n hx hb d_10_14_65 rfl (lv_at hl 3 rfl) ?_
      refine q_get (ci := 8) (j := 5) (v := .int t0_3) C0 V i_Rea rfl rfl hO69 (by decide) w_291 rfl d_10_14_66 ?_
      refine q_join (X := Unit) (fun z H locs ls _ => q_Wd D g (va_A ws sz) s w68 H locs ∧ lv_has ls 6 [(4, .long lx63), (3, .int lx51), (2, .int lx31), (0, .ref (q 38)), (1, .int x2)] ∧ F_Rea_takeExponent_J117 (F_Rea_takeExponent_L61 x2 t0_0 t0_1 t0_2 t0_3 t0_4 t0_5 t0_6 t0_7 t0_8 t0_9 t1_0 t2_0 a19 lx31 lx51 fm76) x2 t0_0 t0_1 t0_2 t0_3 t0_4 t0_5 t0_6 t0_7 t0_8 t0_9 t1_0 t2_0 a19 lx31 lx51 lx63 lx64 = (F_Rea_takeExponent x2 t0_0 t0_1 t0_2 t0_3 t0_4 t0_5 t0_6 t0_7 t0_8 t0_9 t1_0 t2_0) ∧ True ∧ S_Rea_takeExponent_J117 (S_Rea_takeExponent_L61 x2 t0_0 t0_1 t0_2 t0_3 t0_4 t0_5 t0_6 t0_7 t0_8 t0_9 t1_0 t2_0 a19 lx31 lx51 fm76) x2 t0_0 t0_1 t0_2 t0_3 t0_4 t0_5 t0_6 t0_7 t0_8 t0_9 t1_0 t2_0 a19 lx31 lx51 lx63 lx64) (fun z => []) 117 0 0 ?_ ?_
      ·
        rintro _ H locs ls _ ⟨V, hl, hR81, hS82⟩
        replace hl : lv_has ls 6 [(4, .long lx63), (3, .int lx51), (2, .int lx31), (0, .ref (q 38)), (1, .int x2)] := hl
        refine lv_aload_n hx hb d_10_14_117 rfl (lv_at hl 3 rfl) ?_
        refine lv_iload_n hx hb d_10_14_118 rfl (lv_at hl 2 rfl) ?_
        refine lv_i2l hx hb d_10_14_119 rfl ?_
        obtain ⟨j86, e87⟩ := q_nm (lx31.toInt64 : Int64)
        refine q_tl (v := j86) e87 ?_
        refine lv_lload hx hb d_10_14_120 (lv_at hl 0 rfl) ?_
        refine lv_lmul hx hb d_10_14_122 ?_
        obtain ⟨j89, e90⟩ := q_nm (j86 * lx63 : Int64)
        refine q_tl (v := j89) e90 ?_
        refine q_put (ci := 8) (j := 11) (v := .long j89) (ty := .long) C0 V i_Rea o_Rea n_Rea rfl rfl hO69 (by decide) w_297 rfl rfl rfl rfl (Nat.le_of_ble_eq_true rfl) d_10_14_123 (fun H locs w91 hu92 hO69 V => ?_)
        replace hO69 : w91[38]? = (some (q 38, .inr (8, [.long t0_0, .long t0_1, .ref (q 1), .ref (q 9), .int lx64, .int t0_3, .int t0_4, .int t0_5, .int t0_6, .int t0_7, .int t0_8, .long j89])) : Option (Nat × va_E)) := hO69
        replace hI := n_p38 hI hu92 hO69 (by first | with_reducible exact q_fe btt0_4 | exact ⟨(by have t1 : 0 ≤ t0_4.toInt ∧ t0_4.toInt ≤ 1 := btt0_4; omega), (by have t1 : 0 ≤ t0_4.toInt ∧ t0_4.toInt ≤ 1 := btt0_4; omega)⟩) (by first | with_reducible exact q_fe btt0_8 | exact ⟨(by have t1 : 0 ≤ t0_8.toInt ∧ t0_8.toInt ≤ 1 := btt0_8; omega), (by have t1 : 0 ≤ t0_8.toInt ∧ t0_8.toInt ≤ 1 := btt0_8; omega)⟩)
        replace hF := q_us hF hu92 (by simp)
        refine lv_aload_n hx hb d_10_14_126 rfl (lv_at hl 3 rfl) ?_
        refine q_get (ci := 8) (j := 4) (v := .int lx64) C0 V i_Rea rfl rfl hO69 (by decide) w_290 rfl d_10_14_127 ?_
        refine lv_iload_n hx hb d_10_14_130 rfl (lv_at hl 1 rfl) ?_
        refine lv_icmp_le (tgt := 148) hx hb d_10_14_131 (by decide) (fun c93 => ?_) (fun c93 => ?_)
        ·
          refine lv_iconst (v := 0) hx hb d_10_14_148 (by decide) ?_
          exact q_retz C0 V (by decide) (⟨hI, hF, t0_0, t0_1, lx64, t0_3, t0_4, t0_5, t0_6, t0_7, t0_8, j89, hO69, (show 0 ≤ (0 : Int32).toInt from (by have z13 : (0 : Int32).toInt = 0 := rfl; omega)), (show (0 : Int32).toInt ≤ 1 from (by have z13 : (0 : Int32).toInt = 0 := rfl; omega)), (show t0_0.toInt ≤ t0_0.toInt from (by have z13 : (0 : Int32).toInt = 0 := rfl; omega)), (show t0_0.toInt ≤ t0_0.toInt from (by have z13 : (0 : Int32).toInt = 0 := rfl; omega)), (show t0_1.toInt ≤ t0_1.toInt from (by have z13 : (0 : Int32).toInt = 0 := rfl; omega)), (show t0_1.toInt ≤ t0_1.toInt from (by have z13 : (0 : Int32).toInt = 0 := rfl; omega)), (show t0_3.toInt ≤ t0_3.toInt from (by have z13 : (0 : Int32).toInt = 0 := rfl; omega)), (show t0_3.toInt ≤ t0_3.toInt from (by have z13 : (0 : Int32).toInt = 0 := rfl; omega)), (show t0_4.toInt ≤ t0_4.toInt from (by have z13 : (0 : Int32).toInt = 0 := rfl; omega)), (show t0_4.toInt ≤ t0_4.toInt from (by have z13 : (0 : Int32).toInt = 0 := rfl; omega)), (show t0_5.toInt ≤ t0_5.toInt from (by have z13 : (0 : Int32).toInt = 0 := rfl; omega)), (show t0_5.toInt ≤ t0_5.toInt from (by have z13 : (0 : Int32).toInt = 0 := rfl; omega)), (show t0_6.toInt ≤ t0_6.toInt from (by have z13 : (0 : Int32).toInt = 0 := rfl; omega)), (show t0_6.toInt ≤ t0_6.toInt from (by have z13 : (0 : Int32).toInt = 0 := rfl; omega)), (show t0_7.toInt ≤ t0_7.toInt from (by have z13 : (0 : Int32).toInt = 0 := rfl; omega)), (show t0_7.toInt ≤ t0_7.toInt from (by have z13 : (0 : Int32).toInt = 0 := rfl; omega)), (show t0_8.toInt ≤ t0_8.toInt from (by have z13 : (0 : Int32).toInt = 0 := rfl; omega)), (show t0_8.toInt ≤ t0_8.toInt from (by have z13 : (0 : Int32).toInt = 0 := rfl; omega)), (show ((0 : Int32), t0_0, t0_1, lx64, t0_3, t0_4, t0_5, t0_6, t0_7, t0_8, j89) = (F_Rea_takeExponent x2 t0_0 t0_1 t0_2 t0_3 t0_4 t0_5 t0_6 t0_7 t0_8 t0_9 t1_0 t2_0) from Eq.trans (by rw [← e90, ← e87, F_Rea_takeExponent_J117.eq_1, if_pos c93]) hR81)⟩) d_10_14_149
        ·
          refine lv_aload_n hx hb d_10_14_134 rfl (lv_at hl 3 rfl) ?_
          refine q_get (ci := 8) (j := 4) (v := .int lx64) C0 V i_Rea rfl rfl hO69 (by decide) w_290 rfl d_10_14_135 ?_
          refine lv_iload_n hx hb d_10_14_138 rfl (lv_at hl 1 rfl) ?_
          refine lv_isub hx hb d_10_14_139 ?_
          obtain ⟨a96, e97⟩ := q_nm (lx64 - lx51 : Int32)
          refine q_ti (v := a96) e97 ?_
          refine lv_iload_n hx hb d_10_14_140 rfl (lv_at hl 4 rfl) ?_
          refine lv_icmp_gt (tgt := 148) hx hb d_10_14_141 (by decide) (fun c98 => ?_) (fun c98 => ?_)
          ·
            refine lv_iconst (v := 0) hx hb d_10_14_148 (by decide) ?_
            exact q_retz C0 V (by decide) (⟨hI, hF, t0_0, t0_1, lx64, t0_3, t0_4, t0_5, t0_6, t0_7, t0_8, j89, hO69, (show 0 ≤ (0 : Int32).toInt from (by have z13 : (0 : Int32).toInt = 0 := rfl; omega)), (show (0 : Int32).toInt ≤ 1 from (by have z13 : (0 : Int32).toInt = 0 := rfl; omega)), (show t0_0.toInt ≤ t0_0.toInt from (by have z13 : (0 : Int32).toInt = 0 := rfl; omega)), (show t0_0.toInt ≤ t0_0.toInt from (by have z13 : (0 : Int32).toInt = 0 := rfl; omega)), (show t0_1.toInt ≤ t0_1.toInt from (by have z13 : (0 : Int32).toInt = 0 := rfl; omega)), (show t0_1.toInt ≤ t0_1.toInt from (by have z13 : (0 : Int32).toInt = 0 := rfl; omega)), (show t0_3.toInt ≤ t0_3.toInt from (by have z13 : (0 : Int32).toInt = 0 := rfl; omega)), (show t0_3.toInt ≤ t0_3.toInt from (by have z13 : (0 : Int32).toInt = 0 := rfl; omega)), (show t0_4.toInt ≤ t0_4.toInt from (by have z13 : (0 : Int32).toInt = 0 := rfl; omega)), (show t0_4.toInt ≤ t0_4.toInt from (by have z13 : (0 : Int32).toInt = 0 := rfl; omega)), (show t0_5.toInt ≤ t0_5.toInt from (by have z13 : (0 : Int32).toInt = 0 := rfl; omega)), (show t0_5.toInt ≤ t0_5.toInt from (by have z13 : (0 : Int32).toInt = 0 := rfl; omega)), (show t0_6.toInt ≤ t0_6.toInt from (by have z13 : (0 : Int32).toInt = 0 := rfl; omega)), (show t0_6.toInt ≤ t0_6.toInt from (by have z13 : (0 : Int32).toInt = 0 := rfl; omega)), (show t0_7.toInt ≤ t0_7.toInt from (by have z13 : (0 : Int32).toInt = 0 := rfl; omega)), (show t0_7.toInt ≤ t0_7.toInt from (by have z13 : (0 : Int32).toInt = 0 := rfl; omega)), (show t0_8.toInt ≤ t0_8.toInt from (by have z13 : (0 : Int32).toInt = 0 := rfl; omega)), (show t0_8.toInt ≤ t0_8.toInt from (by have z13 : (0 : Int32).toInt = 0 := rfl; omega)), (show ((0 : Int32), t0_0, t0_1, lx64, t0_3, t0_4, t0_5, t0_6, t0_7, t0_8, j89) = (F_Rea_takeExponent x2 t0_0 t0_1 t0_2 t0_3 t0_4 t0_5 t0_6 t0_7 t0_8 t0_9 t1_0 t2_0) from Eq.trans (by have c98x := c98; rw [← e97] at c98x; rw [← e90, ← e87, F_Rea_takeExponent_J117.eq_1, if_neg c93, if_pos c98x]) hR81)⟩) d_10_14_149
          ·
            refine lv_iconst (v := 1) hx hb d_10_14_144 (by decide) ?_
            refine lv_goto (tgt := 149) hx hb d_10_14_145 (by decide) ?_
            exact q_retz C0 V (by decide) (⟨hI, hF, t0_0, t0_1, lx64, t0_3, t0_4, t0_5, t0_6, t0_7, t0_8, j89, hO69, (show 0 ≤ (1 : Int32).toInt from (by have z13 : (1 : Int32).toInt = 1 := rfl; omega)), (show (1 : Int32).toInt ≤ 1 from (by have z13 : (1 : Int32).toInt = 1 := rfl; omega)), (show t0_0.toInt ≤ t0_0.toInt from (by have z13 : (1 : Int32).toInt = 1 := rfl; omega)), (show t0_0.toInt ≤ t0_0.toInt from (by have z13 : (1 : Int32).toInt = 1 := rfl; omega)), (show t0_1.toInt ≤ t0_1.toInt from (by have z13 : (1 : Int32).toInt = 1 := rfl; omega)), (show t0_1.toInt ≤ t0_1.toInt from (by have z13 : (1 : Int32).toInt = 1 := rfl; omega)), (show t0_3.toInt ≤ t0_3.toInt from (by have z13 : (1 : Int32).toInt = 1 := rfl; omega)), (show t0_3.toInt ≤ t0_3.toInt from (by have z13 : (1 : Int32).toInt = 1 := rfl; omega)), (show t0_4.toInt ≤ t0_4.toInt from (by have z13 : (1 : Int32).toInt = 1 := rfl; omega)), (show t0_4.toInt ≤ t0_4.toInt from (by have z13 : (1 : Int32).toInt = 1 := rfl; omega)), (show t0_5.toInt ≤ t0_5.toInt from (by have z13 : (1 : Int32).toInt = 1 := rfl; omega)), (show t0_5.toInt ≤ t0_5.toInt from (by have z13 : (1 : Int32).toInt = 1 := rfl; omega)), (show t0_6.toInt ≤ t0_6.toInt from (by have z13 : (1 : Int32).toInt = 1 := rfl; omega)), (show t0_6.toInt ≤ t0_6.toInt from (by have z13 : (1 : Int32).toInt = 1 := rfl; omega)), (show t0_7.toInt ≤ t0_7.toInt from (by have z13 : (1 : Int32).toInt = 1 := rfl; omega)), (show t0_7.toInt ≤ t0_7.toInt from (by have z13 : (1 : Int32).toInt = 1 := rfl; omega)), (show t0_8.toInt ≤ t0_8.toInt from (by have z13 : (1 : Int32).toInt = 1 := rfl; omega)), (show t0_8.toInt ≤ t0_8.toInt from (by have z13 : (1 : Int32).toInt = 1 := rfl; omega)), (show ((1 : Int32), t0_0, t0_1, lx64, t0_3, t0_4, t0_5, t0_6, t0_7, t0_8, j89) = (F_Rea_takeExponent x2 t0_0 t0_1 t0_2 t0_3 t0_4 t0_5 t0_6 t0_7 t0_8 t0_9 t1_0 t2_0) from Eq.trans (by have c98x := c98; rw [← e97] at c98x; rw [← e90, ← e87, F_Rea_takeExponent_J117.eq_1, if_neg c93, if_neg c98x]) hR81)⟩) d_10_14_149
      ·
        intro J80
        refine lv_icmp_ge (tgt := 117) hx hb d_10_14_69 (by decide) (fun c101 => ?_) (fun c101 => ?_)
        ·
          exact J80 (()) _ _ _ w68 ⟨V, q_lw hl (q_lw1 0 rfl (q_lw1 1 rfl (q_lw1 2 rfl (q_lw1 3 rfl (q_lw1 4 rfl q_lw0))))), (show F_Rea_takeExponent_J117 (F_Rea_takeExponent_L61 x2 t0_0 t0_1 t0_2 t0_3 t0_4 t0_5 t0_6 t0_7 t0_8 t0_9 t1_0 t2_0 a19 lx31 lx51 fm76) x2 t0_0 t0_1 t0_2 t0_3 t0_4 t0_5 t0_6 t0_7 t0_8 t0_9 t1_0 t2_0 a19 lx31 lx51 lx63 lx64 = (F_Rea_takeExponent x2 t0_0 t0_1 t0_2 t0_3 t0_4 t0_5 t0_6 t0_7 t0_8 t0_9 t1_0 t2_0) from Eq.trans (by rw [F_Rea_takeExponent_L61.eq_2, if_pos c101]) hR72), (show True ∧ S_Rea_takeExponent_J117 (S_Rea_takeExponent_L61 x2 t0_0 t0_1 t0_2 t0_3 t0_4 t0_5 t0_6 t0_7 t0_8 t0_9 t1_0 t2_0 a19 lx31 lx51 fm76) x2 t0_0 t0_1 t0_2 t0_3 t0_4 t0_5 t0_6 t0_7 t0_8 t0_9 t1_0 t2_0 a19 lx31 lx51 lx63 lx64 from (by have h := hS73; rw [S_Rea_takeExponent_L61.eq_2] at h; rw [if_pos c101] at h; with_reducible exact h))⟩
        ·
          have b103 : q_F (lx64.toInt < t0_3.toInt) := (q_nleI c101)
          refine lv_aload_n hx hb d_10_14_72 rfl (lv_at hl 3 rfl) ?_
          have ob104 : True ∧ S_Rea_digitHere t0_0 t0_1 lx64 t0_3 t0_4 t0_5 t0_6 t0_7 t0_8 t0_9 t1_0 t2_0 := (by have h := hS73; rw [S_Rea_takeExponent_L61.eq_2] at h; rw [if_neg c101] at h; with_reducible exact h.2.1)
          refine q_goi V (q_runV (As := []) (rest := []) (d := 3) (mc := 0) (ms := 0) (ci := 8) C0 V rfl LV_Rea_43 (X_Rea_digitHere l D g q w68   hI t0_0 t0_1 lx64 t0_3 t0_4 t0_5 t0_6 t0_7 t0_8 t0_9 hO69 t1_0 hO70 t2_0 hO71 ob104 _) rfl rfl hO69 rfl hl.1 rfl (Nat.le_of_ble_eq_true rfl) ⟨by decide, by decide⟩ ⟨Nat.le_of_ble_eq_true rfl, Nat.le_of_ble_eq_true rfl⟩ d_10_14_73) (fun a107 u105 H locs hp106 V => ?_)
          obtain ⟨rfl, b108, b109, hE110⟩ := hp106
          have e111 : a107 = (F_Rea_digitHere t0_0 t0_1 lx64 t0_3 t0_4 t0_5 t0_6 t0_7 t0_8 t0_9 t1_0 t2_0) := hE110
          clear b108
          clear b109
          refine lv_bipush (v := 10) hx hb d_10_14_76 (by decide) ?_
          refine lv_icmp_ge (tgt := 117) hx hb d_10_14_78 (by decide) (fun c112 => ?_) (fun c112 => ?_)
          ·
            exact J80 (()) _ _ _ w68 ⟨V, q_lw hl (q_lw1 0 rfl (q_lw1 1 rfl (q_lw1 2 rfl (q_lw1 3 rfl (q_lw1 4 rfl q_lw0))))), (show F_Rea_takeExponent_J117 (F_Rea_takeExponent_L61 x2 t0_0 t0_1 t0_2 t0_3 t0_4 t0_5 t0_6 t0_7 t0_8 t0_9 t1_0 t2_0 a19 lx31 lx51 fm76) x2 t0_0 t0_1 t0_2 t0_3 t0_4 t0_5 t0_6 t0_7 t0_8 t0_9 t1_0 t2_0 a19 lx31 lx51 lx63 lx64 = (F_Rea_takeExponent x2 t0_0 t0_1 t0_2 t0_3 t0_4 t0_5 t0_6 t0_7 t0_8 t0_9 t1_0 t2_0) from Eq.trans (by have c112x := c112; rw [e111] at c112x; rw [F_Rea_takeExponent_L61.eq_2, if_neg c101, if_pos c112x]) hR72), (show True ∧ S_Rea_takeExponent_J117 (S_Rea_takeExponent_L61 x2 t0_0 t0_1 t0_2 t0_3 t0_4 t0_5 t0_6 t0_7 t0_8 t0_9 t1_0 t2_0 a19 lx31 lx51 fm76) x2 t0_0 t0_1 t0_2 t0_3 t0_4 t0_5 t0_6 t0_7 t0_8 t0_9 t1_0 t2_0 a19 lx31 lx51 lx63 lx64 from (by have h := hS73; rw [S_Rea_takeExponent_L61.eq_2] at h; rw [if_neg c101] at h; replace h := q_s2 h; have c112x := c112; rw [e111] at c112x; rw [if_pos c112x] at h; with_reducible exact h))⟩
          ·
            refine lv_lload hx hb d_10_14_81 (lv_at hl 0 rfl) ?_
            refine q_ldc2 C0 rfl w_636 d_10_14_83 ?_
            refine W.lcmp hx hb d_10_14_86 ?_
            obtain ⟨a115, e116⟩ := q_nm (lg_cmp lx63 100000000000 : Int32)
            refine q_ti (v := a115) e116 ?_
            have b117 : q_F (-1 ≤ a115.toInt ∧ a115.toInt ≤ 1 ∧ ((a115.toInt = -1 ∧ lx63.toInt < 100000000000) ∨ (a115.toInt = 0 ∧ lx63.toInt = 100000000000) ∨ (a115.toInt = 1 ∧ 100000000000 < lx63.toInt))) := (by rw [← e116]; show -1 ≤ (lg_cmp lx63 100000000000 : Int32).toInt ∧ (lg_cmp lx63 100000000000 : Int32).toInt ≤ 1 ∧ (((lg_cmp lx63 100000000000 : Int32).toInt = -1 ∧ lx63.toInt < 100000000000) ∨ ((lg_cmp lx63 100000000000 : Int32).toInt = 0 ∧ lx63.toInt = 100000000000) ∨ ((lg_cmp lx63 100000000000 : Int32).toInt = 1 ∧ 100000000000 < lx63.toInt)); exact (by have y1 : (100000000000 : Int64).toInt = 100000000000 := rfl; have z := s_lcmp (a := lx63) (b := 100000000000); omega))
            refine lv_if_ge (tgt := 104) hx hb d_10_14_87 (by decide) (fun c118 => ?_) (fun c118 => ?_)
            ·
              refine lv_aload_n hx hb d_10_14_104 rfl (lv_at hl 3 rfl) ?_
              refine lv_dup hx hb d_10_14_105 rfl ?_
              refine q_get (ci := 8) (j := 4) (v := .int lx64) C0 V i_Rea rfl rfl hO69 (by decide) w_290 rfl d_10_14_106 ?_
              refine lv_iconst (v := 1) hx hb d_10_14_109 (by decide) ?_
              refine lv_iadd hx hb d_10_14_110 ?_
              obtain ⟨a120, e121⟩ := q_nm (lx64 + 1 : Int32)
              refine q_ti (v := a120) e121 ?_
              have b122 : q_F (a120.toInt = lx64.toInt + 1) := (by rw [← e121]; show (lx64 + 1 : Int32).toInt = lx64.toInt + 1; exact q_addI (x := lx64.toInt) (y := 1) rfl (by decide) (by have t1 : lx51.toInt ≤ lx64.toInt := i66; have _ := q_lo32 (x := lx51); have _ := q_hi32 (x := lx51); have t2 : lx64.toInt < t0_3.toInt := b103; have _ := q_lo32 (x := t0_3); have _ := q_hi32 (x := t0_3); omega) (by have t1 : lx51.toInt ≤ lx64.toInt := i66; have _ := q_lo32 (x := lx51); have _ := q_hi32 (x := lx51); have t2 : lx64.toInt < t0_3.toInt := b103; have _ := q_lo32 (x := t0_3); have _ := q_hi32 (x := t0_3); omega))
              refine q_put (ci := 8) (j := 4) (v := .int a120) (ty := .int) C0 V i_Rea o_Rea n_Rea rfl rfl hO69 (by decide) w_290 rfl rfl rfl rfl (Nat.le_of_ble_eq_true rfl) d_10_14_111 (fun H locs w123 hu124 hO69 V => ?_)
              replace hO69 : w123[38]? = (some (q 38, .inr (8, [.long t0_0, .long t0_1, .ref (q 1), .ref (q 9), .int a120, .int t0_3, .int t0_4, .int t0_5, .int t0_6, .int t0_7, .int t0_8, .long t0_9])) : Option (Nat × va_E)) := hO69
              replace hI := n_p38 hI hu124 hO69 (by first | with_reducible exact q_fe btt0_4 | exact ⟨(by have t1 : 0 ≤ t0_4.toInt ∧ t0_4.toInt ≤ 1 := btt0_4; omega), (by have t1 : 0 ≤ t0_4.toInt ∧ t0_4.toInt ≤ 1 := btt0_4; omega)⟩) (by first | with_reducible exact q_fe btt0_8 | exact ⟨(by have t1 : 0 ≤ t0_8.toInt ∧ t0_8.toInt ≤ 1 := btt0_8; omega), (by have t1 : 0 ≤ t0_8.toInt ∧ t0_8.toInt ≤ 1 := btt0_8; omega)⟩)
              replace hO70 := (hu124 _ (by decide)).trans hO70
              replace hO71 := (hu124 _ (by decide)).trans hO71
              replace hF := q_us hF hu124 (by simp)
              refine lv_goto (tgt := 61) hx hb d_10_14_114 (by decide) ?_
              exact ih67 ((lx63 : Int64), (a120 : Int32)) _ _ _ _ (show (t0_3.toInt - a120.toInt).toNat < (t0_3.toInt - lx64.toInt).toNat from by have t1 : a120.toInt = lx64.toInt + 1 := b122; have t2 : lx64.toInt < t0_3.toInt := b103; omega) ⟨(show q_F (0 ≤ lx63.toInt) from (show 0 ≤ lx63.toInt from by have t1 : 0 ≤ lx63.toInt := i65; omega)), (show q_F (lx51.toInt ≤ a120.toInt) from (show lx51.toInt ≤ a120.toInt from by have t1 : lx51.toInt ≤ lx64.toInt := i66; have t2 : a120.toInt = lx64.toInt + 1 := b122; omega)), V, q_lw hl (q_lw1 0 rfl (q_lw1 1 rfl (q_lw1 2 rfl (q_lw1 3 rfl (q_lw1 4 rfl q_lw0))))), hI, hF, hO69, hO70, hO71, ⟨fm76, Nat.lt_of_lt_of_le (show (t0_3.toInt - a120.toInt).toNat < (t0_3.toInt - lx64.toInt).toNat from by have t1 : a120.toInt = lx64.toInt + 1 := b122; have t2 : lx64.toInt < t0_3.toInt := b103; omega) (Nat.le_of_lt_succ hf75), (show F_Rea_takeExponent_L61 x2 t0_0 t0_1 t0_2 t0_3 t0_4 t0_5 t0_6 t0_7 t0_8 t0_9 t1_0 t2_0 a19 lx31 lx51 fm76 lx63 a120 = (F_Rea_takeExponent x2 t0_0 t0_1 t0_2 t0_3 t0_4 t0_5 t0_6 t0_7 t0_8 t0_9 t1_0 t2_0) from Eq.trans (by have c112x := c112; rw [e111] at c112x; have c118x := c118; rw [← e116] at c118x; rw [← e121, F_Rea_takeExponent_L61.eq_2, if_neg c101, if_neg c112x, if_pos c118x]) hR72), (show True ∧ S_Rea_takeExponent_L61 x2 t0_0 t0_1 t0_2 t0_3 t0_4 t0_5 t0_6 t0_7 t0_8 t0_9 t1_0 t2_0 a19 lx31 lx51 fm76 lx63 a120 from (by rw [← e121]; have h := hS73; rw [S_Rea_takeExponent_L61.eq_2] at h; rw [if_neg c101] at h; replace h := q_s2 h; have c112x := c112; rw [e111] at c112x; rw [if_neg c112x] at h; have c118x := c118; rw [← e116] at c118x; rw [if_pos c118x] at h; with_reducible exact h))⟩⟩
            ·
              have b125 : q_F (a115.toInt < 0) := (q_nleI c118)
              refine lv_lload hx hb d_10_14_90 (lv_at hl 0 rfl) ?_
              refine q_ldc2 C0 rfl w_637 d_10_14_92 ?_
              refine lv_lmul hx hb d_10_14_95 ?_
              obtain ⟨j126, e127⟩ := q_nm (lx63 * 10 : Int64)
              refine q_tl (v := j126) e127 ?_
              have b128 : q_F (j126.toInt = lx63.toInt * 10) := (by rw [← e127]; show (lx63 * 10 : Int64).toInt = lx63.toInt * 10; exact q_mulL (x := lx63.toInt) (y := 10) rfl (by decide) (by have t1 : 0 ≤ lx63.toInt := i65; have t2 : -1 ≤ a115.toInt ∧ a115.toInt ≤ 1 ∧ ((a115.toInt = -1 ∧ lx63.toInt < 100000000000) ∨ (a115.toInt = 0 ∧ lx63.toInt = 100000000000) ∨ (a115.toInt = 1 ∧ 100000000000 < lx63.toInt)) := b117; have t3 : a115.toInt < 0 := b125; omega) (by have t1 : 0 ≤ lx63.toInt := i65; have t2 : -1 ≤ a115.toInt ∧ a115.toInt ≤ 1 ∧ ((a115.toInt = -1 ∧ lx63.toInt < 100000000000) ∨ (a115.toInt = 0 ∧ lx63.toInt = 100000000000) ∨ (a115.toInt = 1 ∧ 100000000000 < lx63.toInt)) := b117; have t3 : a115.toInt < 0 := b125; omega))
              refine lv_aload_n hx hb d_10_14_96 rfl (lv_at hl 3 rfl) ?_
              have ob129 : True ∧ S_Rea_digitHere t0_0 t0_1 lx64 t0_3 t0_4 t0_5 t0_6 t0_7 t0_8 t0_9 t1_0 t2_0 := (by have h := hS73; rw [S_Rea_takeExponent_L61.eq_2] at h; rw [if_neg c101] at h; replace h := q_s2 h; have c112x := c112; rw [e111] at c112x; rw [if_neg c112x] at h; have c118x := c118; rw [← e116] at c118x; rw [if_neg c118x] at h; with_reducible exact h.2.1)
              refine q_goi V (q_runV (As := []) (rest := [.long j126]) (d := 3) (mc := 0) (ms := 0) (ci := 8) C0 V rfl LV_Rea_43 (X_Rea_digitHere l D g q w68   hI t0_0 t0_1 lx64 t0_3 t0_4 t0_5 t0_6 t0_7 t0_8 t0_9 hO69 t1_0 hO70 t2_0 hO71 ob129 _) rfl rfl hO69 rfl hl.1 rfl (Nat.le_of_ble_eq_true rfl) ⟨by decide, by decide⟩ ⟨Nat.le_of_ble_eq_true rfl, Nat.le_of_ble_eq_true rfl⟩ d_10_14_97) (fun a132 u130 H locs hp131 V => ?_)
              obtain ⟨rfl, b133, b134, hE135⟩ := hp131
              have e136 : a132 = (F_Rea_digitHere t0_0 t0_1 lx64 t0_3 t0_4 t0_5 t0_6 t0_7 t0_8 t0_9 t1_0 t2_0) := hE135
              replace b133 : q_F (0 ≤ a132.toInt) := b133
              replace b134 : q_F (a132.toInt ≤ 99) := b134
              refine lv_i2l hx hb d_10_14_100 rfl ?_
              obtain ⟨j137, e138⟩ := q_nm (a132.toInt64 : Int64)
              refine q_tl (v := j137) e138 ?_
              have b139 : q_F (j137.toInt = a132.toInt) := (by rw [← e138]; show (a132.toInt64 : Int64).toInt = a132.toInt; exact q_i2l rfl)
              refine lv_ladd hx hb d_10_14_101 ?_
              obtain ⟨j140, e141⟩ := q_nm (j126 + j137 : Int64)
              refine q_tl (v := j140) e141 ?_
              have b142 : q_F (j140.toInt = j126.toInt + j137.toInt) := (by rw [← e141]; show (j126 + j137 : Int64).toInt = j126.toInt + j137.toInt; exact q_addL (x := j126.toInt) (y := j137.toInt) rfl rfl (by have t1 : 0 ≤ lx63.toInt := i65; have t2 : j126.toInt = lx63.toInt * 10 := b128; have t3 : 0 ≤ a132.toInt := b133; have t4 : j137.toInt = a132.toInt := b139; have t5 : -1 ≤ a115.toInt ∧ a115.toInt ≤ 1 ∧ ((a115.toInt = -1 ∧ lx63.toInt < 100000000000) ∨ (a115.toInt = 0 ∧ lx63.toInt = 100000000000) ∨ (a115.toInt = 1 ∧ 100000000000 < lx63.toInt)) := b117; have t6 : a115.toInt < 0 := b125; have t7 : a132.toInt ≤ 99 := b134; omega) (by have t1 : 0 ≤ lx63.toInt := i65; have t2 : j126.toInt = lx63.toInt * 10 := b128; have t3 : 0 ≤ a132.toInt := b133; have t4 : j137.toInt = a132.toInt := b139; have t5 : -1 ≤ a115.toInt ∧ a115.toInt ≤ 1 ∧ ((a115.toInt = -1 ∧ lx63.toInt < 100000000000) ∨ (a115.toInt = 0 ∧ lx63.toInt = 100000000000) ∨ (a115.toInt = 1 ∧ 100000000000 < lx63.toInt)) := b117; have t6 : a115.toInt < 0 := b125; have t7 : a132.toInt ≤ 99 := b134; omega))
              refine lv_lstore (lv' := [(4, .long j140), (3, .int lx51), (2, .int lx31), (0, .ref (q 38)), (1, .int x2)]) hx hb d_10_14_102 hl (by decide) rfl (fun ls hl => ?_)
              refine lv_aload_n hx hb d_10_14_104 rfl (lv_at hl 3 rfl) ?_
              refine lv_dup hx hb d_10_14_105 rfl ?_
              refine q_get (ci := 8) (j := 4) (v := .int lx64) C0 V i_Rea rfl rfl hO69 (by decide) w_290 rfl d_10_14_106 ?_
              refine lv_iconst (v := 1) hx hb d_10_14_109 (by decide) ?_
              refine lv_iadd hx hb d_10_14_110 ?_
              obtain ⟨a143, e144⟩ := q_nm (lx64 + 1 : Int32)
              refine q_ti (v := a143) e144 ?_
              have b145 : q_F (a143.toInt = lx64.toInt + 1) := (by rw [← e144]; show (lx64 + 1 : Int32).toInt = lx64.toInt + 1; exact q_addI (x := lx64.toInt) (y := 1) rfl (by decide) (by have t1 : lx51.toInt ≤ lx64.toInt := i66; have _ := q_lo32 (x := lx51); have _ := q_hi32 (x := lx51); have t2 : lx64.toInt < t0_3.toInt := b103; have _ := q_lo32 (x := t0_3); have _ := q_hi32 (x := t0_3); omega) (by have t1 : lx51.toInt ≤ lx64.toInt := i66; have _ := q_lo32 (x := lx51); have _ := q_hi32 (x := lx51); have t2 : lx64.toInt < t0_3.toInt := b103; have _ := q_lo32 (x := t0_3); have _ := q_hi32 (x := t0_3); omega))
              refine q_put (ci := 8) (j := 4) (v := .int a143) (ty := .int) C0 V i_Rea o_Rea n_Rea rfl rfl hO69 (by decide) w_290 rfl rfl rfl rfl (Nat.le_of_ble_eq_true rfl) d_10_14_111 (fun H locs w146 hu147 hO69 V => ?_)
              replace hO69 : w146[38]? = (some (q 38, .inr (8, [.long t0_0, .long t0_1, .ref (q 1), .ref (q 9), .int a143, .int t0_3, .int t0_4, .int t0_5, .int t0_6, .int t0_7, .int t0_8, .long t0_9])) : Option (Nat × va_E)) := hO69
              replace hI := n_p38 hI hu147 hO69 (by first | with_reducible exact q_fe btt0_4 | exact ⟨(by have t1 : 0 ≤ t0_4.toInt ∧ t0_4.toInt ≤ 1 := btt0_4; omega), (by have t1 : 0 ≤ t0_4.toInt ∧ t0_4.toInt ≤ 1 := btt0_4; omega)⟩) (by first | with_reducible exact q_fe btt0_8 | exact ⟨(by have t1 : 0 ≤ t0_8.toInt ∧ t0_8.toInt ≤ 1 := btt0_8; omega), (by have t1 : 0 ≤ t0_8.toInt ∧ t0_8.toInt ≤ 1 := btt0_8; omega)⟩)
              replace hO70 := (hu147 _ (by decide)).trans hO70
              replace hO71 := (hu147 _ (by decide)).trans hO71
              replace hF := q_us hF hu147 (by simp)
              refine lv_goto (tgt := 61) hx hb d_10_14_114 (by decide) ?_
              exact ih67 ((j140 : Int64), (a143 : Int32)) _ _ _ _ (show (t0_3.toInt - a143.toInt).toNat < (t0_3.toInt - lx64.toInt).toNat from by have t1 : a143.toInt = lx64.toInt + 1 := b145; have t2 : lx64.toInt < t0_3.toInt := b103; omega) ⟨(show q_F (0 ≤ j140.toInt) from (show 0 ≤ j140.toInt from by have t1 : 0 ≤ lx63.toInt := i65; have t2 : j126.toInt = lx63.toInt * 10 := b128; have t3 : 0 ≤ a132.toInt := b133; have t4 : j137.toInt = a132.toInt := b139; have t5 : j140.toInt = j126.toInt + j137.toInt := b142; omega)), (show q_F (lx51.toInt ≤ a143.toInt) from (show lx51.toInt ≤ a143.toInt from by have t1 : lx51.toInt ≤ lx64.toInt := i66; have t2 : a143.toInt = lx64.toInt + 1 := b145; omega)), V, q_lw hl (q_lw1 0 rfl (q_lw1 1 rfl (q_lw1 2 rfl (q_lw1 3 rfl (q_lw1 4 rfl q_lw0))))), hI, hF, hO69, hO70, hO71, ⟨fm76, Nat.lt_of_lt_of_le (show (t0_3.toInt - a143.toInt).toNat < (t0_3.toInt - lx64.toInt).toNat from by have t1 : a143.toInt = lx64.toInt + 1 := b145; have t2 : lx64.toInt < t0_3.toInt := b103; omega) (Nat.le_of_lt_succ hf75), (show F_Rea_takeExponent_L61 x2 t0_0 t0_1 t0_2 t0_3 t0_4 t0_5 t0_6 t0_7 t0_8 t0_9 t1_0 t2_0 a19 lx31 lx51 fm76 j140 a143 = (F_Rea_takeExponent x2 t0_0 t0_1 t0_2 t0_3 t0_4 t0_5 t0_6 t0_7 t0_8 t0_9 t1_0 t2_0) from Eq.trans (by have c112x := c112; rw [e111] at c112x; have c118x := c118; rw [← e116] at c118x; rw [← e144, ← e141, ← e138, e136, ← e127, F_Rea_takeExponent_L61.eq_2, if_neg c101, if_neg c112x, if_neg c118x]) hR72), (show True ∧ S_Rea_takeExponent_L61 x2 t0_0 t0_1 t0_2 t0_3 t0_4 t0_5 t0_6 t0_7 t0_8 t0_9 t1_0 t2_0 a19 lx31 lx51 fm76 j140 a143 from (by rw [← e144, ← e141, ← e138, e136, ← e127]; have h := hS73; rw [S_Rea_takeExponent_L61.eq_2] at h; rw [if_neg c101] at h; replace h := q_s2 h; have c112x := c112; rw [e111] at c112x; rw [if_neg c112x] at h; have c118x := c118; rw [← e116] at c118x; rw [if_neg c118x] at h; replace h := q_s2 h; with_reducible exact h))⟩⟩
    ·
      intro J55
      refine q_join (X := Unit) (fun z H locs ls _ => q_Wd D g (va_A ws sz) s w21 H locs ∧ lv_has ls 6 [(2, .int lx31), (0, .ref (q 38)), (1, .int x2)] ∧ F_Rea_takeExponent_J43 x2 t0_0 t0_1 t0_2 t0_3 t0_4 t0_5 t0_6 t0_7 t0_8 t0_9 t1_0 t2_0 a19 lx31 = (F_Rea_takeExponent x2 t0_0 t0_1 t0_2 t0_3 t0_4 t0_5 t0_6 t0_7 t0_8 t0_9 t1_0 t2_0) ∧ True ∧ S_Rea_takeExponent_J43 x2 t0_0 t0_1 t0_2 t0_3 t0_4 t0_5 t0_6 t0_7 t0_8 t0_9 t1_0 t2_0 a19 lx31) (fun z => []) 43 0 0 ?_ ?_
      ·
        rintro _ H locs ls _ ⟨V, hl, hR152, hS153⟩
        replace hl : lv_has ls 6 [(2, .int lx31), (0, .ref (q 38)), (1, .int x2)] := hl
        refine lv_aload_n hx hb d_10_14_43 rfl (lv_at hl 1 rfl) ?_
        refine lv_dup hx hb d_10_14_44 rfl ?_
        refine q_get (ci := 8) (j := 4) (v := .int a19) C0 V i_Rea rfl rfl hT0 (by decide) w_290 rfl d_10_14_45 ?_
        refine lv_iconst (v := 1) hx hb d_10_14_48 (by decide) ?_
        refine lv_iadd hx hb d_10_14_49 ?_
        obtain ⟨a157, e158⟩ := q_nm (a19 + 1 : Int32)
        refine q_ti (v := a157) e158 ?_
        refine q_put (ci := 8) (j := 4) (v := .int a157) (ty := .int) C0 V i_Rea o_Rea n_Rea rfl rfl hT0 (by decide) w_290 rfl rfl rfl rfl (Nat.le_of_ble_eq_true rfl) d_10_14_50 (fun H locs w159 hu160 hT0 V => ?_)
        replace hT0 : w159[38]? = (some (q 38, .inr (8, [.long t0_0, .long t0_1, .ref (q 1), .ref (q 9), .int a157, .int t0_3, .int t0_4, .int t0_5, .int t0_6, .int t0_7, .int t0_8, .long t0_9])) : Option (Nat × va_E)) := hT0
        replace hI := n_p38 hI hu160 hT0 (by first | with_reducible exact q_fe btt0_4 | exact ⟨(by have t1 : 0 ≤ t0_4.toInt ∧ t0_4.toInt ≤ 1 := btt0_4; omega), (by have t1 : 0 ≤ t0_4.toInt ∧ t0_4.toInt ≤ 1 := btt0_4; omega)⟩) (by first | with_reducible exact q_fe btt0_8 | exact ⟨(by have t1 : 0 ≤ t0_8.toInt ∧ t0_8.toInt ≤ 1 := btt0_8; omega), (by have t1 : 0 ≤ t0_8.toInt ∧ t0_8.toInt ≤ 1 := btt0_8; omega)⟩)
        replace hT1 := (hu160 _ (by decide)).trans hT1
        replace hT2 := (hu160 _ (by decide)).trans hT2
        replace hF := q_us hF hu160 (by simp)
        exact J55 ((a157 : Int32)) _ _ _ _ ⟨V, q_lw hl (q_lw1 0 rfl (q_lw1 1 rfl (q_lw1 2 rfl q_lw0))), hI, hF, hT0, hT1, hT2, (show F_Rea_takeExponent_J53 x2 t0_0 t0_1 t0_2 t0_3 t0_4 t0_5 t0_6 t0_7 t0_8 t0_9 t1_0 t2_0 a19 lx31 a157 = (F_Rea_takeExponent x2 t0_0 t0_1 t0_2 t0_3 t0_4 t0_5 t0_6 t0_7 t0_8 t0_9 t1_0 t2_0) from Eq.trans (by rw [← e158, F_Rea_takeExponent_J43.eq_1]) hR152), (show True ∧ S_Rea_takeExponent_J53 x2 t0_0 t0_1 t0_2 t0_3 t0_4 t0_5 t0_6 t0_7 t0_8 t0_9 t1_0 t2_0 a19 lx31 a157 from (by rw [← e158]; have h := hS153; rw [S_Rea_takeExponent_J43.eq_1] at h; with_reducible exact h))⟩
      ·
        intro J151
        refine lv_icmp_eq (tgt := 43) hx hb d_10_14_31 (by decide) (fun c161 => ?_) (fun c161 => ?_)
        ·
          exact J151 (()) _ _ _ w21 ⟨V, q_lw hl (q_lw1 0 rfl (q_lw1 1 rfl (q_lw1 2 rfl q_lw0))), (show F_Rea_takeExponent_J43 x2 t0_0 t0_1 t0_2 t0_3 t0_4 t0_5 t0_6 t0_7 t0_8 t0_9 t1_0 t2_0 a19 lx31 = (F_Rea_takeExponent x2 t0_0 t0_1 t0_2 t0_3 t0_4 t0_5 t0_6 t0_7 t0_8 t0_9 t1_0 t2_0) from Eq.trans (by have c161x := c161; rw [e50] at c161x; rw [F_Rea_takeExponent_J24.eq_1, if_pos c161x]) hR38), (show True ∧ S_Rea_takeExponent_J43 x2 t0_0 t0_1 t0_2 t0_3 t0_4 t0_5 t0_6 t0_7 t0_8 t0_9 t1_0 t2_0 a19 lx31 from (by have h := hS39; rw [S_Rea_takeExponent_J24.eq_1] at h; replace h := q_s2 h; have c161x := c161; rw [e50] at c161x; rw [if_pos c161x] at h; with_reducible exact h))⟩
        ·
          refine lv_aload_n hx hb d_10_14_34 rfl (lv_at hl 1 rfl) ?_
          have ob164 : True ∧ S_Rea_here t0_0 t0_1 a19 t0_3 t0_4 t0_5 t0_6 t0_7 t0_8 t0_9 t1_0 t2_0 := (by have h := hS39; rw [S_Rea_takeExponent_J24.eq_1] at h; replace h := q_s2 h; have c161x := c161; rw [e50] at c161x; rw [if_neg c161x] at h; with_reducible exact h.2.1)
          refine q_goi V (q_runV (As := []) (rest := []) (d := 2) (mc := 0) (ms := 0) (ci := 8) C0 V rfl LV_Rea_70 (X_Rea_here l D g q w21   hI t0_0 t0_1 a19 t0_3 t0_4 t0_5 t0_6 t0_7 t0_8 t0_9 hT0 t1_0 hT1 t2_0 hT2 ob164 _) rfl rfl hT0 rfl hl.1 rfl (Nat.le_of_ble_eq_true rfl) ⟨by decide, by decide⟩ ⟨Nat.le_of_ble_eq_true rfl, Nat.le_of_ble_eq_true rfl⟩ d_10_14_35) (fun a167 u165 H locs hp166 V => ?_)
          obtain ⟨rfl, b168, b169, hE170⟩ := hp166
          have e171 : a167 = (F_Rea_here t0_0 t0_1 a19 t0_3 t0_4 t0_5 t0_6 t0_7 t0_8 t0_9 t1_0 t2_0) := hE170
          clear b168
          clear b169
          refine lv_bipush (v := 43) hx hb d_10_14_38 (by decide) ?_
          refine lv_icmp_ne (tgt := 53) hx hb d_10_14_40 (by decide) (fun c172 => ?_) (fun c172 => ?_)
          ·
            exact J55 ((a19 : Int32)) _ _ _ _ ⟨V, q_lw hl (q_lw1 0 rfl (q_lw1 1 rfl (q_lw1 2 rfl q_lw0))), hI, hF, hT0, hT1, hT2, (show F_Rea_takeExponent_J53 x2 t0_0 t0_1 t0_2 t0_3 t0_4 t0_5 t0_6 t0_7 t0_8 t0_9 t1_0 t2_0 a19 lx31 a19 = (F_Rea_takeExponent x2 t0_0 t0_1 t0_2 t0_3 t0_4 t0_5 t0_6 t0_7 t0_8 t0_9 t1_0 t2_0) from Eq.trans (by have c161x := c161; rw [e50] at c161x; have c172x := c172; rw [e171] at c172x; rw [F_Rea_takeExponent_J24.eq_1, if_neg c161x, if_neg c172x]) hR38), (show True ∧ S_Rea_takeExponent_J53 x2 t0_0 t0_1 t0_2 t0_3 t0_4 t0_5 t0_6 t0_7 t0_8 t0_9 t1_0 t2_0 a19 lx31 a19 from (by have h := hS39; rw [S_Rea_takeExponent_J24.eq_1] at h; replace h := q_s2 h; have c161x := c161; rw [e50] at c161x; rw [if_neg c161x] at h; replace h := q_s2 h; have c172x := c172; rw [e171] at c172x; rw [if_neg c172x] at h; with_reducible exact h))⟩
          ·
            exact J151 (()) _ _ _ w21 ⟨V, q_lw hl (q_lw1 0 rfl (q_lw1 1 rfl (q_lw1 2 rfl q_lw0))), (show F_Rea_takeExponent_J43 x2 t0_0 t0_1 t0_2 t0_3 t0_4 t0_5 t0_6 t0_7 t0_8 t0_9 t1_0 t2_0 a19 lx31 = (F_Rea_takeExponent x2 t0_0 t0_1 t0_2 t0_3 t0_4 t0_5 t0_6 t0_7 t0_8 t0_9 t1_0 t2_0) from Eq.trans (by have c161x := c161; rw [e50] at c161x; have c172x := c172; rw [e171] at c172x; rw [F_Rea_takeExponent_J24.eq_1, if_neg c161x, if_pos c172x]) hR38), (show True ∧ S_Rea_takeExponent_J43 x2 t0_0 t0_1 t0_2 t0_3 t0_4 t0_5 t0_6 t0_7 t0_8 t0_9 t1_0 t2_0 a19 lx31 from (by have h := hS39; rw [S_Rea_takeExponent_J24.eq_1] at h; replace h := q_s2 h; have c161x := c161; rw [e50] at c161x; rw [if_neg c161x] at h; replace h := q_s2 h; have c172x := c172; rw [e171] at c172x; rw [if_pos c172x] at h; with_reducible exact h))⟩
  ·
    intro J35
    refine lv_icmp_ne (tgt := 23) hx hb d_10_14_16 (by decide) (fun c175 => ?_) (fun c175 => ?_)
    ·
      refine lv_iconst (v := 1) hx hb d_10_14_23 (by decide) ?_
      exact J35 ((1 : Int32)) _ _ _ w21 ⟨(show q_F (0 ≤ 1 + 1) from (show 0 ≤ 1 + 1 from by omega)), (show q_F (1 ≤ 1) from (show 1 ≤ 1 from by omega)), V, q_lw hl (q_lw1 0 rfl (q_lw1 1 rfl q_lw0)), (show F_Rea_takeExponent_J24 x2 t0_0 t0_1 t0_2 t0_3 t0_4 t0_5 t0_6 t0_7 t0_8 t0_9 t1_0 t2_0 a19 1 = (F_Rea_takeExponent x2 t0_0 t0_1 t0_2 t0_3 t0_4 t0_5 t0_6 t0_7 t0_8 t0_9 t1_0 t2_0) from (by have c175x := c175; rw [e30, ← e20] at c175x; rw [← e20, F_Rea_takeExponent.eq_1, if_neg c175x])), (show True ∧ S_Rea_takeExponent_J24 x2 t0_0 t0_1 t0_2 t0_3 t0_4 t0_5 t0_6 t0_7 t0_8 t0_9 t1_0 t2_0 a19 1 from (by rw [← e20]; have h := hS; rw [S_Rea_takeExponent.eq_1] at h; replace h := q_s2 h; have c175x := c175; rw [e30, ← e20] at c175x; rw [if_neg c175x] at h; with_reducible exact h))⟩
    ·
      refine lv_iconst (v := (-1)) hx hb d_10_14_19 (by decide) ?_
      refine lv_goto (tgt := 24) hx hb d_10_14_20 (by decide) ?_
      exact J35 (((-1) : Int32)) _ _ _ w21 ⟨(show q_F (0 ≤ (-1) + 1) from (show 0 ≤ (-1) + 1 from by omega)), (show q_F ((-1) ≤ 1) from (show (-1) ≤ 1 from by omega)), V, q_lw hl (q_lw1 0 rfl (q_lw1 1 rfl q_lw0)), (show F_Rea_takeExponent_J24 x2 t0_0 t0_1 t0_2 t0_3 t0_4 t0_5 t0_6 t0_7 t0_8 t0_9 t1_0 t2_0 a19 (-1) = (F_Rea_takeExponent x2 t0_0 t0_1 t0_2 t0_3 t0_4 t0_5 t0_6 t0_7 t0_8 t0_9 t1_0 t2_0) from (by have c175x := c175; rw [e30, ← e20] at c175x; rw [← e20, F_Rea_takeExponent.eq_1, if_pos c175x])), (show True ∧ S_Rea_takeExponent_J24 x2 t0_0 t0_1 t0_2 t0_3 t0_4 t0_5 t0_6 t0_7 t0_8 t0_9 t1_0 t2_0 a19 (-1) from (by rw [← e20]; have h := hS; rw [S_Rea_takeExponent.eq_1] at h; replace h := q_s2 h; have c175x := c175; rw [e30, ← e20] at c175x; rw [if_pos c175x] at h; with_reducible exact h))⟩
def F_Rea_saysRest_20_L20 (t0_0 : Int64) (t0_1 : Int64) (t0_2 : Int32) (t0_3 : Int32) (t0_4 : Int32) (t0_5 : Int32) (t0_6 : Int32) (t0_7 : Int32) (t0_8 : Int32) (t0_9 : Int64) (t1_0 : Int32) (t2_0 : (Nat → Int64)) : Nat → Int32 → Int32
  | 0, _ => default
  | fm + 1, lx31 => if (3 : Int32) ≤ lx31 then ((1 : Int32)) else (if ((F_She_at (4100 : Int32) (513 : Int32) (4100 : Int32) ((t0_2 + lx31 : Int32).toInt64 : Int64) t1_0 t2_0) : Int32) = ((F_jStr_charAt_20 lx31) : Int32) then (F_Rea_saysRest_20_L20 t0_0 t0_1 t0_2 t0_3 t0_4 t0_5 t0_6 t0_7 t0_8 t0_9 t1_0 t2_0 fm (lx31 + 1 : Int32)) else ((0 : Int32)))
def F_Rea_saysRest_20 (t0_0 : Int64) (t0_1 : Int64) (t0_2 : Int32) (t0_3 : Int32) (t0_4 : Int32) (t0_5 : Int32) (t0_6 : Int32) (t0_7 : Int32) (t0_8 : Int32) (t0_9 : Int64) (t1_0 : Int32) (t2_0 : (Nat → Int64)) : Int32 := if (t0_3 - t0_2 : Int32) = (3 : Int32) then (F_Rea_saysRest_20_L20 t0_0 t0_1 t0_2 t0_3 t0_4 t0_5 t0_6 t0_7 t0_8 t0_9 t1_0 t2_0 ((3 - (0 : Int32).toInt).toNat + 1) 0) else ((0 : Int32))
def S_Rea_saysRest_20_L20 (t0_0 : Int64) (t0_1 : Int64) (t0_2 : Int32) (t0_3 : Int32) (t0_4 : Int32) (t0_5 : Int32) (t0_6 : Int32) (t0_7 : Int32) (t0_8 : Int32) (t0_9 : Int64) (t1_0 : Int32) (t2_0 : (Nat → Int64)) : Nat → Int32 → Prop
  | 0, _ => False
  | fm + 1, lx31 => if (3 : Int32) ≤ lx31 then (True) else ((True ∧ S_She_at (4100 : Int32) (513 : Int32) (4100 : Int32) ((t0_2 + lx31 : Int32).toInt64 : Int64) t1_0 t2_0) ∧ (if ((F_She_at (4100 : Int32) (513 : Int32) (4100 : Int32) ((t0_2 + lx31 : Int32).toInt64 : Int64) t1_0 t2_0) : Int32) = ((F_jStr_charAt_20 lx31) : Int32) then (S_Rea_saysRest_20_L20 t0_0 t0_1 t0_2 t0_3 t0_4 t0_5 t0_6 t0_7 t0_8 t0_9 t1_0 t2_0 fm (lx31 + 1 : Int32)) else (True)))
def S_Rea_saysRest_20 (t0_0 : Int64) (t0_1 : Int64) (t0_2 : Int32) (t0_3 : Int32) (t0_4 : Int32) (t0_5 : Int32) (t0_6 : Int32) (t0_7 : Int32) (t0_8 : Int32) (t0_9 : Int64) (t1_0 : Int32) (t2_0 : (Nat → Int64)) : Prop := if (t0_3 - t0_2 : Int32) = (3 : Int32) then (S_Rea_saysRest_20_L20 t0_0 t0_1 t0_2 t0_3 t0_4 t0_5 t0_6 t0_7 t0_8 t0_9 t1_0 t2_0 ((3 - (0 : Int32).toInt).toNat + 1) 0) else (True)
set_option maxRecDepth 100000 in
set_option maxHeartbeats 4000000 in
theorem X_Rea_saysRest_20 (l : Launch) (D : va_G) (g : Nat → ClassId) (q : Nat → Nat) (ws : va_W) (hI : q_I (nsh g q) q ws) (t0_0 : Int64) (t0_1 : Int64) (t0_2 : Int32) (t0_3 : Int32) (t0_4 : Int32) (t0_5 : Int32) (t0_6 : Int32) (t0_7 : Int32) (t0_8 : Int32) (t0_9 : Int64) (hT0 : ws[38]? = (some (q 38, .inr (8, [.long t0_0, .long t0_1, .ref (q 1), .ref (q 9), .int t0_2, .int t0_3, .int t0_4, .int t0_5, .int t0_6, .int t0_7, .int t0_8, .long t0_9])) : Option (Nat × va_E))) (t1_0 : Int32) (hT1 : ws[1]? = (some (q 1, .inr (1, [.ref (q 2), .int 4100, .int t1_0])) : Option (Nat × va_E))) (t2_0 : (Nat → Int64)) (hT2 : ws[2]? = (some (q 2, .inl (g 1, (513 : Int32).toNatClampNeg, .inr (.inl t2_0))) : Option (Nat × va_E))) (hS : True ∧ S_Rea_saysRest_20 t0_0 t0_1 t0_2 t0_3 t0_4 t0_5 t0_6 t0_7 t0_8 t0_9 t1_0 t2_0) : q_mI l y_Rea_saysRest prog_10_method_15_code 3 (.boolean) 5 0 0 D g [.ref (q 38), .ref (g (8 + 2 * 20))] ws (fun r u => ws = u ∧ (0 ≤ r.toInt) ∧ (r.toInt ≤ 1) ∧ r = (F_Rea_saysRest_20 t0_0 t0_1 t0_2 t0_3 t0_4 t0_5 t0_6 t0_7 t0_8 t0_9 t1_0 t2_0)) := by
  intro sz
  refine q_into (by decide) (Nat.le_of_ble_eq_true rfl) ?_
  intro p e s m below meth c ls hsz C0 V hl
  have hx := C0.1
  have hb := C0.2.1
  have btt0_8 := (n_w38 hI hT0).2
  clear btt0_8
  have btt1_0 := n_shW hI (n_h1 g q) hT1
  clear btt1_0
  have hl : lv_has ls 3 [(0, .ref (q 38)), (1, .ref (g (8 + 2 * 20)))] := hl
  refine lv_aload_n hx hb d_10_15_0 rfl (lv_at hl 0 rfl) ?_
  refine q_get (ci := 8) (j := 5) (v := .int t0_3) C0 V i_Rea rfl rfl hT0 (by decide) w_291 rfl d_10_15_1 ?_
  refine lv_aload_n hx hb d_10_15_4 rfl (lv_at hl 0 rfl) ?_
  refine q_get (ci := 8) (j := 4) (v := .int t0_2) C0 V i_Rea rfl rfl hT0 (by decide) w_290 rfl d_10_15_5 ?_
  refine lv_isub hx hb d_10_15_8 ?_
  obtain ⟨a19, e20⟩ := q_nm (t0_3 - t0_2 : Int32)
  refine q_ti (v := a19) e20 ?_
  refine lv_aload_n hx hb d_10_15_9 rfl (lv_at hl 1 rfl) ?_
  refine q_goi V (q_runVs (As := []) (rest := [.int a19]) (d := 2) (mc := 0) (ms := 0) (i := 20) C0 V rfl LV_Rea_157 (X_jStr_length_20 l D g q ws   hI   _) rfl rfl rfl hl.1 rfl (Nat.le_of_ble_eq_true rfl) ⟨by decide, by decide⟩ ⟨Nat.le_of_ble_eq_true rfl, Nat.le_of_ble_eq_true rfl⟩ d_10_15_10) (fun a23 u21 H locs hp22 V => ?_)
  obtain ⟨rfl, b24, b25, hE26⟩ := hp22
  have e27 : a23 = (F_jStr_length_20) := hE26
  replace b24 : q_F (3 ≤ a23.toInt) := b24
  replace b25 : q_F (a23.toInt ≤ 3) := b25
  obtain rfl : a23 = (3 : Int32) := q_Ieq (x := a23.toInt) (y := 3) rfl (by decide) (by have t1 : 3 ≤ a23.toInt := b24; have t2 : a23.toInt ≤ 3 := b25; omega)
  refine lv_icmp_eq (tgt := 18) hx hb d_10_15_13 (by decide) (fun c28 => ?_) (fun c28 => ?_)
  ·
    refine lv_iconst (v := 0) hx hb d_10_15_18 (by decide) ?_
    refine lv_istore_n (lv' := [(2, .int 0), (0, .ref (q 38)), (1, .ref (g (8 + 2 * 20)))]) hx hb d_10_15_19 rfl hl (by decide) rfl (fun ls hl => ?_)
    refine q_loop (X := Int32) (fun z H locs ls _ => q_F (0 ≤ z.toInt) ∧ q_F (z.toInt ≤ 3) ∧ q_Wd D g (va_A ws sz) s ws H locs ∧ lv_has ls 3 [(2, .int z), (0, .ref (q 38)), (1, .ref (g (8 + 2 * 20)))] ∧ (∃ n, (3 - z.toInt).toNat < n ∧ F_Rea_saysRest_20_L20 t0_0 t0_1 t0_2 t0_3 t0_4 t0_5 t0_6 t0_7 t0_8 t0_9 t1_0 t2_0 n z = (F_Rea_saysRest_20 t0_0 t0_1 t0_2 t0_3 t0_4 t0_5 t0_6 t0_7 t0_8 t0_9 t1_0 t2_0) ∧ True ∧ S_Rea_saysRest_20_L20 t0_0 t0_1 t0_2 t0_3 t0_4 t0_5 t0_6 t0_7 t0_8 t0_9 t1_0 t2_0 n z)) (fun z => (3 - z.toInt).toNat) ?_ ((0 : Int32)) _ _ _ ws ⟨(show q_F (0 ≤ 0) from (show 0 ≤ 0 from by omega)), (show q_F (0 ≤ 3) from (show 0 ≤ 3 from by omega)), V, q_lw hl (q_lw1 0 rfl (q_lw1 1 rfl (q_lw1 2 rfl q_lw0))), ⟨((3 - (0 : Int32).toInt).toNat + 1), Nat.lt_succ_self _, (show F_Rea_saysRest_20_L20 t0_0 t0_1 t0_2 t0_3 t0_4 t0_5 t0_6 t0_7 t0_8 t0_9 t1_0 t2_0 ((3 - (0 : Int32).toInt).toNat + 1) 0 = (F_Rea_saysRest_20 t0_0 t0_1 t0_2 t0_3 t0_4 t0_5 t0_6 t0_7 t0_8 t0_9 t1_0 t2_0) from (by have c28x := c28; rw [← e20] at c28x; rw [F_Rea_saysRest_20.eq_1, if_pos c28x])), (show True ∧ S_Rea_saysRest_20_L20 t0_0 t0_1 t0_2 t0_3 t0_4 t0_5 t0_6 t0_7 t0_8 t0_9 t1_0 t2_0 ((3 - (0 : Int32).toInt).toNat + 1) 0 from (by have h := hS; rw [S_Rea_saysRest_20.eq_1] at h; have c28x := c28; rw [← e20] at c28x; rw [if_pos c28x] at h; with_reducible exact h))⟩⟩
    rintro lx31 H locs ls _ ⟨i32, i33, V, hl, ⟨fu37, hf38, hR35, hS36⟩⟩ ih34
    obtain ⟨fm39, rfl⟩ : ∃ m, fu37 = m + 1 := ⟨fu37 - 1, by omega⟩
    replace i32 : q_F (0 ≤ lx31.toInt) := i32
    replace i33 : q_F (lx31.toInt ≤ 3) := i33
    replace hl : lv_has ls 3 [(2, .int lx31), (0, .ref (q 38)), (1, .ref (g (8 + 2 * 20)))] := hl
    refine lv_iload_n hx hb d_10_15_20 rfl (lv_at hl 0 rfl) ?_
    refine lv_aload_n hx hb d_10_15_21 rfl (lv_at hl 2 rfl) ?_
    refine q_goi V (q_runVs (As := []) (rest := [.int lx31]) (d := 2) (mc := 0) (ms := 0) (i := 20) C0 V rfl LV_Rea_157 (X_jStr_length_20 l D g q ws   hI   _) rfl rfl rfl hl.1 rfl (Nat.le_of_ble_eq_true rfl) ⟨by decide, by decide⟩ ⟨Nat.le_of_ble_eq_true rfl, Nat.le_of_ble_eq_true rfl⟩ d_10_15_22) (fun a42 u40 H locs hp41 V => ?_)
    obtain ⟨rfl, b43, b44, hE45⟩ := hp41
    have e46 : a42 = (F_jStr_length_20) := hE45
    replace b43 : q_F (3 ≤ a42.toInt) := b43
    replace b44 : q_F (a42.toInt ≤ 3) := b44
    obtain rfl : a42 = (3 : Int32) := q_Ieq (x := a42.toInt) (y := 3) rfl (by decide) (by have t1 : 3 ≤ a42.toInt := b43; have t2 : a42.toInt ≤ 3 := b44; omega)
    refine lv_icmp_ge (tgt := 58) hx hb d_10_15_25 (by decide) (fun c47 => ?_) (fun c47 => ?_)
    ·
      refine lv_iconst (v := 1) hx hb d_10_15_58 (by decide) ?_
      exact q_retz C0 V (by decide) (⟨rfl, (show 0 ≤ (1 : Int32).toInt from (by have z12 : (1 : Int32).toInt = 1 := rfl; omega)), (show (1 : Int32).toInt ≤ 1 from (by have z12 : (1 : Int32).toInt = 1 := rfl; omega)), (show (1 : Int32) = (F_Rea_saysRest_20 t0_0 t0_1 t0_2 t0_3 t0_4 t0_5 t0_6 t0_7 t0_8 t0_9 t1_0 t2_0) from Eq.trans (by rw [F_Rea_saysRest_20_L20.eq_2, if_pos c47]) hR35)⟩) d_10_15_59
    ·
      have b49 : q_F (lx31.toInt < 3) := (q_nleI c47)
      refine lv_aload_n hx hb d_10_15_28 rfl (lv_at hl 1 rfl) ?_
      refine q_get (ci := 8) (j := 2) (v := .ref (q 1)) C0 V i_Rea rfl rfl hT0 (by decide) w_288 rfl d_10_15_29 ?_
      refine lv_aload_n hx hb d_10_15_32 rfl (lv_at hl 1 rfl) ?_
      refine q_get (ci := 8) (j := 4) (v := .int t0_2) C0 V i_Rea rfl rfl hT0 (by decide) w_290 rfl d_10_15_33 ?_
      refine lv_iload_n hx hb d_10_15_36 rfl (lv_at hl 0 rfl) ?_
      refine lv_iadd hx hb d_10_15_37 ?_
      obtain ⟨a50, e51⟩ := q_nm (t0_2 + lx31 : Int32)
      refine q_ti (v := a50) e51 ?_
      refine lv_i2l hx hb d_10_15_38 rfl ?_
      obtain ⟨j52, e53⟩ := q_nm (a50.toInt64 : Int64)
      refine q_tl (v := j52) e53 ?_
      have ob55 : True ∧ S_She_at (4100 : Int32) (513 : Int32) (4100 : Int32) j52 t1_0 t2_0 := (by rw [← e53, ← e51]; have h := hS36; rw [S_Rea_saysRest_20_L20.eq_2] at h; rw [if_neg c47] at h; with_reducible exact h.2.1)
      refine q_goi V (q_runV (As := [.long j52]) (rest := []) (d := 1) (mc := 0) (ms := 0) (ci := 1) C0 V rfl LV_Rea_139 (X_She_at l D g q ws 1 4100 513 4100 (n_h1 g q) j52 hI t1_0 hT1 t2_0 hT2 ob55 _) rfl rfl hT1 rfl hl.1 rfl (Nat.le_of_ble_eq_true rfl) ⟨by decide, by decide⟩ ⟨Nat.le_of_ble_eq_true rfl, Nat.le_of_ble_eq_true rfl⟩ d_10_15_39) (fun a58 u56 H locs hp57 V => ?_)
      obtain ⟨rfl, b59, b60, hE61⟩ := hp57
      have e62 : a58 = (F_She_at (4100 : Int32) (513 : Int32) (4100 : Int32) j52 t1_0 t2_0) := hE61
      clear b59
      clear b60
      refine lv_aload_n hx hb d_10_15_42 rfl (lv_at hl 2 rfl) ?_
      refine lv_iload_n hx hb d_10_15_43 rfl (lv_at hl 0 rfl) ?_
      refine q_goi V (q_runVs (As := [.int lx31]) (rest := [.int a58]) (d := 4) (mc := 0) (ms := 0) (i := 20) C0 V rfl LV_Rea_162 (X_jStr_charAt_20 l D g q ws  lx31 hI  (by first | with_reducible exact q_fe i32 | (have t1 : 0 ≤ lx31.toInt := i32; omega)) (by first | with_reducible exact q_fe b49 | (have t1 : lx31.toInt < 3 := b49; omega)) _) rfl rfl rfl hl.1 rfl (Nat.le_of_ble_eq_true rfl) ⟨by decide, by decide⟩ ⟨Nat.le_of_ble_eq_true rfl, Nat.le_of_ble_eq_true rfl⟩ d_10_15_44) (fun a65 u63 H locs hp64 V => ?_)
      obtain ⟨rfl, b66, b67, hE68⟩ := hp64
      have e69 : a65 = (F_jStr_charAt_20 lx31) := hE68
      clear b66
      clear b67
      refine lv_icmp_eq (tgt := 52) hx hb d_10_15_47 (by decide) (fun c70 => ?_) (fun c70 => ?_)
      ·
        obtain ⟨a72, e73⟩ := q_nm (lx31 + 1 : Int32)
        have b74 : q_F (a72.toInt = lx31.toInt + 1) := (by rw [← e73]; exact q_addI (y := 1) rfl (by decide) (by have t1 : 0 ≤ lx31.toInt := i32; have t2 : lx31.toInt ≤ 3 := i33; omega) (by have t1 : 0 ≤ lx31.toInt := i32; have t2 : lx31.toInt ≤ 3 := i33; omega))
        refine lv_iinc (v := a72) (lv' := [(2, .int a72), (0, .ref (q 38)), (1, .ref (g (8 + 2 * 20)))]) hx hb d_10_15_52 hl (k := 0) rfl (e73) (by decide) rfl (fun ls hl => ?_)
        refine lv_goto (tgt := 20) hx hb d_10_15_55 (by decide) ?_
        exact ih34 ((a72 : Int32)) _ _ _ ws (show (3 - a72.toInt).toNat < (3 - lx31.toInt).toNat from by have t1 : a72.toInt = lx31.toInt + 1 := b74; have t2 : lx31.toInt ≤ 3 := i33; have t3 : lx31.toInt < 3 := b49; omega) ⟨(show q_F (0 ≤ a72.toInt) from (show 0 ≤ a72.toInt from by have t1 : 0 ≤ lx31.toInt := i32; have t2 : a72.toInt = lx31.toInt + 1 := b74; omega)), (show q_F (a72.toInt ≤ 3) from (show a72.toInt ≤ 3 from by have t1 : lx31.toInt < 3 := b49; have t2 : a72.toInt = lx31.toInt + 1 := b74; omega)), V, q_lw hl (q_lw1 0 rfl (q_lw1 1 rfl (q_lw1 2 rfl q_lw0))), ⟨fm39, Nat.lt_of_lt_of_le (show (3 - a72.toInt).toNat < (3 - lx31.toInt).toNat from by have t1 : a72.toInt = lx31.toInt + 1 := b74; have t2 : lx31.toInt ≤ 3 := i33; have t3 : lx31.toInt < 3 := b49; omega) (Nat.le_of_lt_succ hf38), (show F_Rea_saysRest_20_L20 t0_0 t0_1 t0_2 t0_3 t0_4 t0_5 t0_6 t0_7 t0_8 t0_9 t1_0 t2_0 fm39 a72 = (F_Rea_saysRest_20 t0_0 t0_1 t0_2 t0_3 t0_4 t0_5 t0_6 t0_7 t0_8 t0_9 t1_0 t2_0) from Eq.trans (by have c70x := c70; rw [e69, e62, ← e53, ← e51] at c70x; rw [← e73, F_Rea_saysRest_20_L20.eq_2, if_neg c47, if_pos c70x]) hR35), (show True ∧ S_Rea_saysRest_20_L20 t0_0 t0_1 t0_2 t0_3 t0_4 t0_5 t0_6 t0_7 t0_8 t0_9 t1_0 t2_0 fm39 a72 from (by rw [← e73]; have h := hS36; rw [S_Rea_saysRest_20_L20.eq_2] at h; rw [if_neg c47] at h; replace h := q_s2 h; have c70x := c70; rw [e69, e62, ← e53, ← e51] at c70x; rw [if_pos c70x] at h; with_reducible exact h))⟩⟩
      ·
        refine lv_iconst (v := 0) hx hb d_10_15_50 (by decide) ?_
        exact q_retz C0 V (by decide) (⟨rfl, (show 0 ≤ (0 : Int32).toInt from (by have z12 : (0 : Int32).toInt = 0 := rfl; omega)), (show (0 : Int32).toInt ≤ 1 from (by have z12 : (0 : Int32).toInt = 0 := rfl; omega)), (show (0 : Int32) = (F_Rea_saysRest_20 t0_0 t0_1 t0_2 t0_3 t0_4 t0_5 t0_6 t0_7 t0_8 t0_9 t1_0 t2_0) from Eq.trans (by have c70x := c70; rw [e69, e62, ← e53, ← e51] at c70x; rw [F_Rea_saysRest_20_L20.eq_2, if_neg c47, if_neg c70x]) hR35)⟩) d_10_15_51
  ·
    refine lv_iconst (v := 0) hx hb d_10_15_16 (by decide) ?_
    exact q_retz C0 V (by decide) (⟨rfl, (show 0 ≤ (0 : Int32).toInt from (by have z12 : (0 : Int32).toInt = 0 := rfl; omega)), (show (0 : Int32).toInt ≤ 1 from (by have z12 : (0 : Int32).toInt = 0 := rfl; omega)), (show (0 : Int32) = (F_Rea_saysRest_20 t0_0 t0_1 t0_2 t0_3 t0_4 t0_5 t0_6 t0_7 t0_8 t0_9 t1_0 t2_0) from (by have c28x := c28; rw [← e20] at c28x; rw [F_Rea_saysRest_20.eq_1, if_neg c28x]))⟩) d_10_15_17
def F_Rea_saysRest_21_L20 (t0_0 : Int64) (t0_1 : Int64) (t0_2 : Int32) (t0_3 : Int32) (t0_4 : Int32) (t0_5 : Int32) (t0_6 : Int32) (t0_7 : Int32) (t0_8 : Int32) (t0_9 : Int64) (t1_0 : Int32) (t2_0 : (Nat → Int64)) : Nat → Int32 → Int32
  | 0, _ => default
  | fm + 1, lx31 => if (8 : Int32) ≤ lx31 then ((1 : Int32)) else (if ((F_She_at (4100 : Int32) (513 : Int32) (4100 : Int32) ((t0_2 + lx31 : Int32).toInt64 : Int64) t1_0 t2_0) : Int32) = ((F_jStr_charAt_21 lx31) : Int32) then (F_Rea_saysRest_21_L20 t0_0 t0_1 t0_2 t0_3 t0_4 t0_5 t0_6 t0_7 t0_8 t0_9 t1_0 t2_0 fm (lx31 + 1 : Int32)) else ((0 : Int32)))
def F_Rea_saysRest_21 (t0_0 : Int64) (t0_1 : Int64) (t0_2 : Int32) (t0_3 : Int32) (t0_4 : Int32) (t0_5 : Int32) (t0_6 : Int32) (t0_7 : Int32) (t0_8 : Int32) (t0_9 : Int64) (t1_0 : Int32) (t2_0 : (Nat → Int64)) : Int32 := if (t0_3 - t0_2 : Int32) = (8 : Int32) then (F_Rea_saysRest_21_L20 t0_0 t0_1 t0_2 t0_3 t0_4 t0_5 t0_6 t0_7 t0_8 t0_9 t1_0 t2_0 ((8 - (0 : Int32).toInt).toNat + 1) 0) else ((0 : Int32))
def S_Rea_saysRest_21_L20 (t0_0 : Int64) (t0_1 : Int64) (t0_2 : Int32) (t0_3 : Int32) (t0_4 : Int32) (t0_5 : Int32) (t0_6 : Int32) (t0_7 : Int32) (t0_8 : Int32) (t0_9 : Int64) (t1_0 : Int32) (t2_0 : (Nat → Int64)) : Nat → Int32 → Prop
  | 0, _ => False
  | fm + 1, lx31 => if (8 : Int32) ≤ lx31 then (True) else ((True ∧ S_She_at (4100 : Int32) (513 : Int32) (4100 : Int32) ((t0_2 + lx31 : Int32).toInt64 : Int64) t1_0 t2_0) ∧ (if ((F_She_at (4100 : Int32) (513 : Int32) (4100 : Int32) ((t0_2 + lx31 : Int32).toInt64 : Int64) t1_0 t2_0) : Int32) = ((F_jStr_charAt_21 lx31) : Int32) then (S_Rea_saysRest_21_L20 t0_0 t0_1 t0_2 t0_3 t0_4 t0_5 t0_6 t0_7 t0_8 t0_9 t1_0 t2_0 fm (lx31 + 1 : Int32)) else (True)))
def S_Rea_saysRest_21 (t0_0 : Int64) (t0_1 : Int64) (t0_2 : Int32) (t0_3 : Int32) (t0_4 : Int32) (t0_5 : Int32) (t0_6 : Int32) (t0_7 : Int32) (t0_8 : Int32) (t0_9 : Int64) (t1_0 : Int32) (t2_0 : (Nat → Int64)) : Prop := if (t0_3 - t0_2 : Int32) = (8 : Int32) then (S_Rea_saysRest_21_L20 t0_0 t0_1 t0_2 t0_3 t0_4 t0_5 t0_6 t0_7 t0_8 t0_9 t1_0 t2_0 ((8 - (0 : Int32).toInt).toNat + 1) 0) else (True)
set_option maxRecDepth 100000 in
set_option maxHeartbeats 4000000 in
theorem X_Rea_saysRest_21 (l : Launch) (D : va_G) (g : Nat → ClassId) (q : Nat → Nat) (ws : va_W) (hI : q_I (nsh g q) q ws) (t0_0 : Int64) (t0_1 : Int64) (t0_2 : Int32) (t0_3 : Int32) (t0_4 : Int32) (t0_5 : Int32) (t0_6 : Int32) (t0_7 : Int32) (t0_8 : Int32) (t0_9 : Int64) (hT0 : ws[38]? = (some (q 38, .inr (8, [.long t0_0, .long t0_1, .ref (q 1), .ref (q 9), .int t0_2, .int t0_3, .int t0_4, .int t0_5, .int t0_6, .int t0_7, .int t0_8, .long t0_9])) : Option (Nat × va_E))) (t1_0 : Int32) (hT1 : ws[1]? = (some (q 1, .inr (1, [.ref (q 2), .int 4100, .int t1_0])) : Option (Nat × va_E))) (t2_0 : (Nat → Int64)) (hT2 : ws[2]? = (some (q 2, .inl (g 1, (513 : Int32).toNatClampNeg, .inr (.inl t2_0))) : Option (Nat × va_E))) (hS : True ∧ S_Rea_saysRest_21 t0_0 t0_1 t0_2 t0_3 t0_4 t0_5 t0_6 t0_7 t0_8 t0_9 t1_0 t2_0) : q_mI l y_Rea_saysRest prog_10_method_15_code 3 (.boolean) 5 0 0 D g [.ref (q 38), .ref (g (8 + 2 * 21))] ws (fun r u => ws = u ∧ (0 ≤ r.toInt) ∧ (r.toInt ≤ 1) ∧ r = (F_Rea_saysRest_21 t0_0 t0_1 t0_2 t0_3 t0_4 t0_5 t0_6 t0_7 t0_8 t0_9 t1_0 t2_0)) := by
  intro sz
  refine q_into (by decide) (Nat.le_of_ble_eq_true rfl) ?_
  intro p e s m below meth c ls hsz C0 V hl
  have hx := C0.1
  have hb := C0.2.1
  have btt0_8 := (n_w38 hI hT0).2
  clear btt0_8
  have btt1_0 := n_shW hI (n_h1 g q) hT1
  clear btt1_0
  have hl : lv_has ls 3 [(0, .ref (q 38)), (1, .ref (g (8 + 2 * 21)))] := hl
  refine lv_aload_n hx hb d_10_15_0 rfl (lv_at hl 0 rfl) ?_
  refine q_get (ci := 8) (j := 5) (v := .int t0_3) C0 V i_Rea rfl rfl hT0 (by decide) w_291 rfl d_10_15_1 ?_
  refine lv_aload_n hx hb d_10_15_4 rfl (lv_at hl 0 rfl) ?_
  refine q_get (ci := 8) (j := 4) (v := .int t0_2) C0 V i_Rea rfl rfl hT0 (by decide) w_290 rfl d_10_15_5 ?_
  refine lv_isub hx hb d_10_15_8 ?_
  obtain ⟨a19, e20⟩ := q_nm (t0_3 - t0_2 : Int32)
  refine q_ti (v := a19) e20 ?_
  refine lv_aload_n hx hb d_10_15_9 rfl (lv_at hl 1 rfl) ?_
  refine q_goi V (q_runVs (As := []) (rest := [.int a19]) (d := 2) (mc := 0) (ms := 0) (i := 21) C0 V rfl LV_Rea_157 (X_jStr_length_21 l D g q ws   hI   _) rfl rfl rfl hl.1 rfl (Nat.le_of_ble_eq_true rfl) ⟨by decide, by decide⟩ ⟨Nat.le_of_ble_eq_true rfl, Nat.le_of_ble_eq_true rfl⟩ d_10_15_10) (fun a23 u21 H locs hp22 V => ?_)
  obtain ⟨rfl, b24, b25, hE26⟩ := hp22
  have e27 : a23 = (F_jStr_length_21) := hE26
  replace b24 : q_F (8 ≤ a23.toInt) := b24
  replace b25 : q_F (a23.toInt ≤ 8) := b25
  obtain rfl : a23 = (8 : Int32) := q_Ieq (x := a23.toInt) (y := 8) rfl (by decide) (by have t1 : 8 ≤ a23.toInt := b24; have t2 : a23.toInt ≤ 8 := b25; omega)
  refine lv_icmp_eq (tgt := 18) hx hb d_10_15_13 (by decide) (fun c28 => ?_) (fun c28 => ?_)
  ·
    refine lv_iconst (v := 0) hx hb d_10_15_18 (by decide) ?_
    refine lv_istore_n (lv' := [(2, .int 0), (0, .ref (q 38)), (1, .ref (g (8 + 2 * 21)))]) hx hb d_10_15_19 rfl hl (by decide) rfl (fun ls hl => ?_)
    refine q_loop (X := Int32) (fun z H locs ls _ => q_F (0 ≤ z.toInt) ∧ q_F (z.toInt ≤ 8) ∧ q_Wd D g (va_A ws sz) s ws H locs ∧ lv_has ls 3 [(2, .int z), (0, .ref (q 38)), (1, .ref (g (8 + 2 * 21)))] ∧ (∃ n, (8 - z.toInt).toNat < n ∧ F_Rea_saysRest_21_L20 t0_0 t0_1 t0_2 t0_3 t0_4 t0_5 t0_6 t0_7 t0_8 t0_9 t1_0 t2_0 n z = (F_Rea_saysRest_21 t0_0 t0_1 t0_2 t0_3 t0_4 t0_5 t0_6 t0_7 t0_8 t0_9 t1_0 t2_0) ∧ True ∧ S_Rea_saysRest_21_L20 t0_0 t0_1 t0_2 t0_3 t0_4 t0_5 t0_6 t0_7 t0_8 t0_9 t1_0 t2_0 n z)) (fun z => (8 - z.toInt).toNat) ?_ ((0 : Int32)) _ _ _ ws ⟨(show q_F (0 ≤ 0) from (show 0 ≤ 0 from by omega)), (show q_F (0 ≤ 8) from (show 0 ≤ 8 from by omega)), V, q_lw hl (q_lw1 0 rfl (q_lw1 1 rfl (q_lw1 2 rfl q_lw0))), ⟨((8 - (0 : Int32).toInt).toNat + 1), Nat.lt_succ_self _, (show F_Rea_saysRest_21_L20 t0_0 t0_1 t0_2 t0_3 t0_4 t0_5 t0_6 t0_7 t0_8 t0_9 t1_0 t2_0 ((8 - (0 : Int32).toInt).toNat + 1) 0 = (F_Rea_saysRest_21 t0_0 t0_1 t0_2 t0_3 t0_4 t0_5 t0_6 t0_7 t0_8 t0_9 t1_0 t2_0) from (by have c28x := c28; rw [← e20] at c28x; rw [F_Rea_saysRest_21.eq_1, if_pos c28x])), (show True ∧ S_Rea_saysRest_21_L20 t0_0 t0_1 t0_2 t0_3 t0_4 t0_5 t0_6 t0_7 t0_8 t0_9 t1_0 t2_0 ((8 - (0 : Int32).toInt).toNat + 1) 0 from (by have h := hS; rw [S_Rea_saysRest_21.eq_1] at h; have c28x := c28; rw [← e20] at c28x; rw [if_pos c28x] at h; with_reducible exact h))⟩⟩
    rintro lx31 H locs ls _ ⟨i32, i33, V, hl, ⟨fu37, hf38, hR35, hS36⟩⟩ ih34
    obtain ⟨fm39, rfl⟩ : ∃ m, fu37 = m + 1 := ⟨fu37 - 1, by omega⟩
    replace i32 : q_F (0 ≤ lx31.toInt) := i32
    replace i33 : q_F (lx31.toInt ≤ 8) := i33
    replace hl : lv_has ls 3 [(2, .int lx31), (0, .ref (q 38)), (1, .ref (g (8 + 2 * 21)))] := hl
    refine lv_iload_n hx hb d_10_15_20 rfl (lv_at hl 0 rfl) ?_
    refine lv_aload_n hx hb d_10_15_21 rfl (lv_at hl 2 rfl) ?_
    refine q_goi V (q_runVs (As := []) (rest := [.int lx31]) (d := 2) (mc := 0) (ms := 0) (i := 21) C0 V rfl LV_Rea_157 (X_jStr_length_21 l D g q ws   hI   _) rfl rfl rfl hl.1 rfl (Nat.le_of_ble_eq_true rfl) ⟨by decide, by decide⟩ ⟨Nat.le_of_ble_eq_true rfl, Nat.le_of_ble_eq_true rfl⟩ d_10_15_22) (fun a42 u40 H locs hp41 V => ?_)
    obtain ⟨rfl, b43, b44, hE45⟩ := hp41
    have e46 : a42 = (F_jStr_length_21) := hE45
    replace b43 : q_F (8 ≤ a42.toInt) := b43
    replace b44 : q_F (a42.toInt ≤ 8) := b44
    obtain rfl : a42 = (8 : Int32) := q_Ieq (x := a42.toInt) (y := 8) rfl (by decide) (by have t1 : 8 ≤ a42.toInt := b43; have t2 : a42.toInt ≤ 8 := b44; omega)
    refine lv_icmp_ge (tgt := 58) hx hb d_10_15_25 (by decide) (fun c47 => ?_) (fun c47 => ?_)
    ·
      refine lv_iconst (v := 1) hx hb d_10_15_58 (by decide) ?_
      exact q_retz C0 V (by decide) (⟨rfl, (show 0 ≤ (1 : Int32).toInt from (by have z12 : (1 : Int32).toInt = 1 := rfl; omega)), (show (1 : Int32).toInt ≤ 1 from (by have z12 : (1 : Int32).toInt = 1 := rfl; omega)), (show (1 : Int32) = (F_Rea_saysRest_21 t0_0 t0_1 t0_2 t0_3 t0_4 t0_5 t0_6 t0_7 t0_8 t0_9 t1_0 t2_0) from Eq.trans (by rw [F_Rea_saysRest_21_L20.eq_2, if_pos c47]) hR35)⟩) d_10_15_59
    ·
      have b49 : q_F (lx31.toInt < 8) := (q_nleI c47)
      refine lv_aload_n hx hb d_10_15_28 rfl (lv_at hl 1 rfl) ?_
      refine q_get (ci := 8) (j := 2) (v := .ref (q 1)) C0 V i_Rea rfl rfl hT0 (by decide) w_288 rfl d_10_15_29 ?_
      refine lv_aload_n hx hb d_10_15_32 rfl (lv_at hl 1 rfl) ?_
      refine q_get (ci := 8) (j := 4) (v := .int t0_2) C0 V i_Rea rfl rfl hT0 (by decide) w_290 rfl d_10_15_33 ?_
      refine lv_iload_n hx hb d_10_15_36 rfl (lv_at hl 0 rfl) ?_
      refine lv_iadd hx hb d_10_15_37 ?_
      obtain ⟨a50, e51⟩ := q_nm (t0_2 + lx31 : Int32)
      refine q_ti (v := a50) e51 ?_
      refine lv_i2l hx hb d_10_15_38 rfl ?_
      obtain ⟨j52, e53⟩ := q_nm (a50.toInt64 : Int64)
      refine q_tl (v := j52) e53 ?_
      have ob55 : True ∧ S_She_at (4100 : Int32) (513 : Int32) (4100 : Int32) j52 t1_0 t2_0 := (by rw [← e53, ← e51]; have h := hS36; rw [S_Rea_saysRest_21_L20.eq_2] at h; rw [if_neg c47] at h; with_reducible exact h.2.1)
      refine q_goi V (q_runV (As := [.long j52]) (rest := []) (d := 1) (mc := 0) (ms := 0) (ci := 1) C0 V rfl LV_Rea_139 (X_She_at l D g q ws 1 4100 513 4100 (n_h1 g q) j52 hI t1_0 hT1 t2_0 hT2 ob55 _) rfl rfl hT1 rfl hl.1 rfl (Nat.le_of_ble_eq_true rfl) ⟨by decide, by decide⟩ ⟨Nat.le_of_ble_eq_true rfl, Nat.le_of_ble_eq_true rfl⟩ d_10_15_39) (fun a58 u56 H locs hp57 V => ?_)
      obtain ⟨rfl, b59, b60, hE61⟩ := hp57
      have e62 : a58 = (F_She_at (4100 : Int32) (513 : Int32) (4100 : Int32) j52 t1_0 t2_0) := hE61
      clear b59
      clear b60
      refine lv_aload_n hx hb d_10_15_42 rfl (lv_at hl 2 rfl) ?_
      refine lv_iload_n hx hb d_10_15_43 rfl (lv_at hl 0 rfl) ?_
      refine q_goi V (q_runVs (As := [.int lx31]) (rest := [.int a58]) (d := 4) (mc := 0) (ms := 0) (i := 21) C0 V rfl LV_Rea_162 (X_jStr_charAt_21 l D g q ws  lx31 hI  (by first | with_reducible exact q_fe i32 | (have t1 : 0 ≤ lx31.toInt := i32; omega)) (by first | with_reducible exact q_fe b49 | (have t1 : lx31.toInt < 8 := b49; omega)) _) rfl rfl rfl hl.1 rfl (Nat.le_of_ble_eq_true rfl) ⟨by decide, by decide⟩ ⟨Nat.le_of_ble_eq_true rfl, Nat.le_of_ble_eq_true rfl⟩ d_10_15_44) (fun a65 u63 H locs hp64 V => ?_)
      obtain ⟨rfl, b66, b67, hE68⟩ := hp64
      have e69 : a65 = (F_jStr_charAt_21 lx31) := hE68
      clear b66
      clear b67
      refine lv_icmp_eq (tgt := 52) hx hb d_10_15_47 (by decide) (fun c70 => ?_) (fun c70 => ?_)
      ·
        obtain ⟨a72, e73⟩ := q_nm (lx31 + 1 : Int32)
        have b74 : q_F (a72.toInt = lx31.toInt + 1) := (by rw [← e73]; exact q_addI (y := 1) rfl (by decide) (by have t1 : 0 ≤ lx31.toInt := i32; have t2 : lx31.toInt ≤ 8 := i33; omega) (by have t1 : 0 ≤ lx31.toInt := i32; have t2 : lx31.toInt ≤ 8 := i33; omega))
        refine lv_iinc (v := a72) (lv' := [(2, .int a72), (0, .ref (q 38)), (1, .ref (g (8 + 2 * 21)))]) hx hb d_10_15_52 hl (k := 0) rfl (e73) (by decide) rfl (fun ls hl => ?_)
        refine lv_goto (tgt := 20) hx hb d_10_15_55 (by decide) ?_
        exact ih34 ((a72 : Int32)) _ _ _ ws (show (8 - a72.toInt).toNat < (8 - lx31.toInt).toNat from by have t1 : a72.toInt = lx31.toInt + 1 := b74; have t2 : lx31.toInt ≤ 8 := i33; have t3 : lx31.toInt < 8 := b49; omega) ⟨(show q_F (0 ≤ a72.toInt) from (show 0 ≤ a72.toInt from by have t1 : 0 ≤ lx31.toInt := i32; have t2 : a72.toInt = lx31.toInt + 1 := b74; omega)), (show q_F (a72.toInt ≤ 8) from (show a72.toInt ≤ 8 from by have t1 : lx31.toInt < 8 := b49; have t2 : a72.toInt = lx31.toInt + 1 := b74; omega)), V, q_lw hl (q_lw1 0 rfl (q_lw1 1 rfl (q_lw1 2 rfl q_lw0))), ⟨fm39, Nat.lt_of_lt_of_le (show (8 - a72.toInt).toNat < (8 - lx31.toInt).toNat from by have t1 : a72.toInt = lx31.toInt + 1 := b74; have t2 : lx31.toInt ≤ 8 := i33; have t3 : lx31.toInt < 8 := b49; omega) (Nat.le_of_lt_succ hf38), (show F_Rea_saysRest_21_L20 t0_0 t0_1 t0_2 t0_3 t0_4 t0_5 t0_6 t0_7 t0_8 t0_9 t1_0 t2_0 fm39 a72 = (F_Rea_saysRest_21 t0_0 t0_1 t0_2 t0_3 t0_4 t0_5 t0_6 t0_7 t0_8 t0_9 t1_0 t2_0) from Eq.trans (by have c70x := c70; rw [e69, e62, ← e53, ← e51] at c70x; rw [← e73, F_Rea_saysRest_21_L20.eq_2, if_neg c47, if_pos c70x]) hR35), (show True ∧ S_Rea_saysRest_21_L20 t0_0 t0_1 t0_2 t0_3 t0_4 t0_5 t0_6 t0_7 t0_8 t0_9 t1_0 t2_0 fm39 a72 from (by rw [← e73]; have h := hS36; rw [S_Rea_saysRest_21_L20.eq_2] at h; rw [if_neg c47] at h; replace h := q_s2 h; have c70x := c70; rw [e69, e62, ← e53, ← e51] at c70x; rw [if_pos c70x] at h; with_reducible exact h))⟩⟩
      ·
        refine lv_iconst (v := 0) hx hb d_10_15_50 (by decide) ?_
        exact q_retz C0 V (by decide) (⟨rfl, (show 0 ≤ (0 : Int32).toInt from (by have z12 : (0 : Int32).toInt = 0 := rfl; omega)), (show (0 : Int32).toInt ≤ 1 from (by have z12 : (0 : Int32).toInt = 0 := rfl; omega)), (show (0 : Int32) = (F_Rea_saysRest_21 t0_0 t0_1 t0_2 t0_3 t0_4 t0_5 t0_6 t0_7 t0_8 t0_9 t1_0 t2_0) from Eq.trans (by have c70x := c70; rw [e69, e62, ← e53, ← e51] at c70x; rw [F_Rea_saysRest_21_L20.eq_2, if_neg c47, if_neg c70x]) hR35)⟩) d_10_15_51
  ·
    refine lv_iconst (v := 0) hx hb d_10_15_16 (by decide) ?_
    exact q_retz C0 V (by decide) (⟨rfl, (show 0 ≤ (0 : Int32).toInt from (by have z12 : (0 : Int32).toInt = 0 := rfl; omega)), (show (0 : Int32).toInt ≤ 1 from (by have z12 : (0 : Int32).toInt = 0 := rfl; omega)), (show (0 : Int32) = (F_Rea_saysRest_21 t0_0 t0_1 t0_2 t0_3 t0_4 t0_5 t0_6 t0_7 t0_8 t0_9 t1_0 t2_0) from (by have c28x := c28; rw [← e20] at c28x; rw [F_Rea_saysRest_21.eq_1, if_neg c28x]))⟩) d_10_15_17
