/-! Sheet -/
/-- the byte of a Sheet at a place -/
def n_by (ws : va_W) (k : Nat) (p : Int64) : Int32 :=
  match ws[k]?, ws[k + 1]? with
  | some (_, .inr (_, [_, .int R, .int y])), some (_, .inl (_, _, .inr (.inl f))) => if p.toInt < 0 ∨ y.toInt ≤ p.toInt ∨ R.toInt ≤ p.toInt then 0 else ((f ((p.toInt32 >>> (3 &&& 31))).toNatClampNeg).toUInt64 >>> ((8 * (p.toInt32 &&& 7)).toInt64.toUInt64 &&& Int64.toUInt64 63)).toInt64.toInt32 &&& 255
  | _, _ => 0
theorem d_11_2_0 : decode prog_11_method_2_code 0 = .ok (.aload_n 0, 1) := by decide +kernel
theorem d_11_2_1 : decode prog_11_method_2_code 1 = .ok (.iconst 0, 1) := by decide +kernel
theorem d_11_2_2 : decode prog_11_method_2_code 2 = .ok (.putfield 17, 3) := by decide +kernel
set_option maxRecDepth 100000 in
theorem w_54 : (Cond.fieldLink "NumberHouse$Sheet" (17 : Nat) "NumberHouse$Sheet" "size" "I") ∈ q_tbl := q_of1 54 rfl (by decide +kernel)
theorem d_11_2_5 : decode prog_11_method_2_code 5 = .ok (.return_, 1) := by decide +kernel
def y_She_clear : MethodName := ⟨"NumberHouse$Sheet", "clear", "()V"⟩
set_option maxRecDepth 100000 in
set_option maxHeartbeats 4000000 in
theorem T_She_clear (l : Launch) (D : va_G) (g : Nat → ClassId) (q : Nat → Nat) (ws : va_W) (k1 : Nat) (R N K : Int32) (hB1 : q_isShe (nsh g q) g q k1 R N K) (hI : q_I (nsh g q) q ws) (t0_0 : Int32) (hT0 : ws[k1]? = (some (q k1, .inr (1, [.ref (q (k1 + 1)), .int R, .int t0_0])) : Option (Nat × va_E))) : q_mV l y_She_clear prog_11_method_2_code 1 1 0 0 D g [.ref (q k1)] ws (fun u => q_I (nsh g q) q u ∧ q_un ws u [k1] ∧ ∃ (u0_0 : Int32), u[k1]? = (some (q k1, .inr (1, [.ref (q (k1 + 1)), .int R, .int u0_0])) : Option (Nat × va_E)) ∧ (0 ≤ u0_0.toInt) ∧ (u0_0.toInt ≤ 0)) := by
  intro sz
  refine q_into (by decide) (Nat.le_of_ble_eq_true rfl) ?_
  intro p e s m below meth c ls hsz C0 V hl
  have hx := C0.1
  have hb := C0.2.1
  have hfk10 : q_F (0 ≤ R.toInt ∧ R.toInt ≤ 8 * N.toInt ∧ 0 ≤ N.toInt ∧ N.toInt ≤ 1376 ∧ 64 ≤ R.toInt ∧ 64 ≤ K.toInt ∧ K.toInt ≤ 1000000) := hB1.2.2.1
  obtain ⟨yy0_0, hh0, btt0_0⟩ := n_shO hI hB1
  obtain ⟨rfl⟩ : t0_0 = yy0_0 := by have z := Option.some.inj (hT0.symm.trans hh0); simpa using z
  replace btt0_0 : q_F (0 ≤ t0_0.toInt ∧ t0_0.toInt ≤ K.toInt) := btt0_0
  have hF : q_un ws ws [k1] := q_u0
  have hl : lv_has ls 1 [(0, .ref (q k1))] := hl
  refine lv_aload_n hx hb d_11_2_0 rfl (lv_at hl 0 rfl) ?_
  refine lv_iconst (v := 0) hx hb d_11_2_1 (by decide) ?_
  refine q_put (ci := 1) (j := 2) (v := .int 0) (ty := .int) C0 V i_She o_She n_She rfl rfl hT0 (by decide) w_54 rfl rfl rfl rfl (Nat.le_of_ble_eq_true rfl) d_11_2_2 (fun H locs w4 hu5 hT0 V => ?_)
  replace hT0 : w4[k1]? = (some (q k1, .inr (1, [.ref (q (k1 + 1)), .int R, .int 0])) : Option (Nat × va_E)) := hT0
  replace hI := n_shO' hI hB1 hu5 hT0 ⟨(by have z9 : (0 : Int32).toInt = 0 := rfl; omega), (by have z9 : (0 : Int32).toInt = 0 := rfl; have t1 : 0 ≤ R.toInt ∧ R.toInt ≤ 8 * N.toInt ∧ 0 ≤ N.toInt ∧ N.toInt ≤ 1376 ∧ 64 ≤ R.toInt ∧ 64 ≤ K.toInt ∧ K.toInt ≤ 1000000 := hfk10; omega)⟩
  replace hF := q_us hF hu5 (by simp)
  exact q_retv C0 V (⟨hI, hF, 0, hT0, (show 0 ≤ (0 : Int32).toInt from (by have z4 : (0 : Int32).toInt = 0 := rfl; omega)), (show (0 : Int32).toInt ≤ 0 from (by have z4 : (0 : Int32).toInt = 0 := rfl; omega))⟩) d_11_2_5
theorem d_11_3_0 : decode prog_11_method_3_code 0 = .ok (.aload_n 0, 1) := by decide +kernel
theorem d_11_3_1 : decode prog_11_method_3_code 1 = .ok (.getfield 17, 3) := by decide +kernel
theorem d_11_3_4 : decode prog_11_method_3_code 4 = .ok (.aload_n 0, 1) := by decide +kernel
theorem d_11_3_5 : decode prog_11_method_3_code 5 = .ok (.getfield 7, 3) := by decide +kernel
theorem d_11_3_8 : decode prog_11_method_3_code 8 = .ok (.if_icmp .ge 55, 3) := by decide +kernel
theorem d_11_3_63 : decode prog_11_method_3_code 63 = .ok (.aload_n 0, 1) := by decide +kernel
theorem d_11_3_64 : decode prog_11_method_3_code 64 = .ok (.dup, 1) := by decide +kernel
theorem d_11_3_65 : decode prog_11_method_3_code 65 = .ok (.getfield 17, 3) := by decide +kernel
theorem d_11_3_68 : decode prog_11_method_3_code 68 = .ok (.iconst 1, 1) := by decide +kernel
theorem d_11_3_69 : decode prog_11_method_3_code 69 = .ok (.iadd, 1) := by decide +kernel
theorem d_11_3_70 : decode prog_11_method_3_code 70 = .ok (.putfield 17, 3) := by decide +kernel
theorem d_11_3_73 : decode prog_11_method_3_code 73 = .ok (.return_, 1) := by decide +kernel
theorem d_11_3_11 : decode prog_11_method_3_code 11 = .ok (.bipush 8, 2) := by decide +kernel
theorem d_11_3_13 : decode prog_11_method_3_code 13 = .ok (.aload_n 0, 1) := by decide +kernel
theorem d_11_3_14 : decode prog_11_method_3_code 14 = .ok (.getfield 17, 3) := by decide +kernel
theorem d_11_3_17 : decode prog_11_method_3_code 17 = .ok (.bipush 7, 2) := by decide +kernel
theorem d_11_3_19 : decode prog_11_method_3_code 19 = .ok (.iand, 1) := by decide +kernel
theorem d_11_3_20 : decode prog_11_method_3_code 20 = .ok (.imul, 1) := by decide +kernel
theorem d_11_3_21 : decode prog_11_method_3_code 21 = .ok (.istore_n 2, 1) := by decide +kernel
theorem d_11_3_22 : decode prog_11_method_3_code 22 = .ok (.aload_n 0, 1) := by decide +kernel
theorem d_11_3_23 : decode prog_11_method_3_code 23 = .ok (.getfield 13, 3) := by decide +kernel
theorem d_11_3_26 : decode prog_11_method_3_code 26 = .ok (.aload_n 0, 1) := by decide +kernel
theorem d_11_3_27 : decode prog_11_method_3_code 27 = .ok (.getfield 17, 3) := by decide +kernel
theorem d_11_3_30 : decode prog_11_method_3_code 30 = .ok (.iconst 3, 1) := by decide +kernel
theorem d_11_3_31 : decode prog_11_method_3_code 31 = .ok (.ishr, 1) := by decide +kernel
theorem d_11_3_32 : decode prog_11_method_3_code 32 = .ok (.aload_n 0, 1) := by decide +kernel
theorem d_11_3_33 : decode prog_11_method_3_code 33 = .ok (.getfield 13, 3) := by decide +kernel
theorem d_11_3_36 : decode prog_11_method_3_code 36 = .ok (.aload_n 0, 1) := by decide +kernel
theorem d_11_3_37 : decode prog_11_method_3_code 37 = .ok (.getfield 17, 3) := by decide +kernel
theorem d_11_3_40 : decode prog_11_method_3_code 40 = .ok (.iconst 3, 1) := by decide +kernel
theorem d_11_3_41 : decode prog_11_method_3_code 41 = .ok (.ishr, 1) := by decide +kernel
theorem d_11_3_42 : decode prog_11_method_3_code 42 = .ok (.laload, 1) := by decide +kernel
theorem d_11_3_43 : decode prog_11_method_3_code 43 = .ok (.ldc2_w 20, 3) := by decide +kernel
set_option maxRecDepth 100000 in
theorem w_565 : (Cond.constantLong "NumberHouse$Sheet" (20 : Nat) (255 : Int64)) ∈ q_tbl := q_of3 85 rfl (by decide +kernel)
theorem d_11_3_46 : decode prog_11_method_3_code 46 = .ok (.iload_n 2, 1) := by decide +kernel
theorem d_11_3_47 : decode prog_11_method_3_code 47 = .ok (.lshl, 1) := by decide +kernel
theorem d_11_3_48 : decode prog_11_method_3_code 48 = .ok (.ldc2_w 22, 3) := by decide +kernel
set_option maxRecDepth 100000 in
theorem w_566 : (Cond.constantLong "NumberHouse$Sheet" (22 : Nat) (-1 : Int64)) ∈ q_tbl := q_of3 86 rfl (by decide +kernel)
theorem d_11_3_51 : decode prog_11_method_3_code 51 = .ok (.lxor, 1) := by decide +kernel
theorem d_11_3_52 : decode prog_11_method_3_code 52 = .ok (.land, 1) := by decide +kernel
theorem d_11_3_53 : decode prog_11_method_3_code 53 = .ok (.iload_n 1, 1) := by decide +kernel
theorem d_11_3_54 : decode prog_11_method_3_code 54 = .ok (.sipush 255, 3) := by decide +kernel
theorem d_11_3_57 : decode prog_11_method_3_code 57 = .ok (.iand, 1) := by decide +kernel
theorem d_11_3_58 : decode prog_11_method_3_code 58 = .ok (.i2l, 1) := by decide +kernel
theorem d_11_3_59 : decode prog_11_method_3_code 59 = .ok (.iload_n 2, 1) := by decide +kernel
theorem d_11_3_60 : decode prog_11_method_3_code 60 = .ok (.lshl, 1) := by decide +kernel
theorem d_11_3_61 : decode prog_11_method_3_code 61 = .ok (.lor, 1) := by decide +kernel
theorem d_11_3_62 : decode prog_11_method_3_code 62 = .ok (.lastore, 1) := by decide +kernel
def y_She_add : MethodName := ⟨"NumberHouse$Sheet", "add", "(I)V"⟩
set_option maxRecDepth 100000 in
set_option maxHeartbeats 4000000 in
theorem T_She_add (l : Launch) (D : va_G) (g : Nat → ClassId) (q : Nat → Nat) (ws : va_W) (k1 : Nat) (R N K : Int32) (hB1 : q_isShe (nsh g q) g q k1 R N K) (x2 : Int32) (hI : q_I (nsh g q) q ws) (t0_0 : Int32) (hT0 : ws[k1]? = (some (q k1, .inr (1, [.ref (q (k1 + 1)), .int R, .int t0_0])) : Option (Nat × va_E))) (pre0 : t0_0.toInt + 1 ≤ K.toInt) : q_mV l y_She_add prog_11_method_3_code 3 1 0 0 D g [.ref (q k1), .int x2] ws (fun u => q_I (nsh g q) q u ∧ q_un ws u [k1, k1 + 1] ∧ ∃ (u0_0 : Int32), u[k1]? = (some (q k1, .inr (1, [.ref (q (k1 + 1)), .int R, .int u0_0])) : Option (Nat × va_E)) ∧ (t0_0.toInt + 1 ≤ u0_0.toInt) ∧ (u0_0.toInt ≤ t0_0.toInt + 1)) := by
  intro sz
  refine q_into (by decide) (Nat.le_of_ble_eq_true rfl) ?_
  intro p e s m below meth c ls hsz C0 V hl
  have hx := C0.1
  have hb := C0.2.1
  have hfk10 : q_F (0 ≤ R.toInt ∧ R.toInt ≤ 8 * N.toInt ∧ 0 ≤ N.toInt ∧ N.toInt ≤ 1376 ∧ 64 ≤ R.toInt ∧ 64 ≤ K.toInt ∧ K.toInt ≤ 1000000) := hB1.2.2.1
  obtain ⟨yy0_0, hh0, btt0_0⟩ := n_shO hI hB1
  obtain ⟨rfl⟩ : t0_0 = yy0_0 := by have z := Option.some.inj (hT0.symm.trans hh0); simpa using z
  replace btt0_0 : q_F (0 ≤ t0_0.toInt ∧ t0_0.toInt ≤ K.toInt) := btt0_0
  replace pre0 : q_F (t0_0.toInt + 1 ≤ K.toInt) := pre0
  have hF : q_un ws ws [k1, k1 + 1] := q_u0
  have hl : lv_has ls 3 [(0, .ref (q k1)), (1, .int x2)] := hl
  refine lv_aload_n hx hb d_11_3_0 rfl (lv_at hl 0 rfl) ?_
  refine q_get (ci := 1) (j := 2) (v := .int t0_0) C0 V i_She rfl rfl hT0 (by decide) w_54 rfl d_11_3_1 ?_
  refine lv_aload_n hx hb d_11_3_4 rfl (lv_at hl 0 rfl) ?_
  refine q_get (ci := 1) (j := 1) (v := .int R) C0 V i_She rfl rfl hT0 (by decide) w_53 rfl d_11_3_5 ?_
  refine lv_icmp_ge (tgt := 63) hx hb d_11_3_8 (by decide) (fun c4 => ?_) (fun c4 => ?_)
  ·
    have b5 : q_F (R.toInt ≤ t0_0.toInt) := (q_leI c4)
    refine lv_aload_n hx hb d_11_3_63 rfl (lv_at hl 0 rfl) ?_
    refine lv_dup hx hb d_11_3_64 rfl ?_
    refine q_get (ci := 1) (j := 2) (v := .int t0_0) C0 V i_She rfl rfl hT0 (by decide) w_54 rfl d_11_3_65 ?_
    refine lv_iconst (v := 1) hx hb d_11_3_68 (by decide) ?_
    refine lv_iadd hx hb d_11_3_69 ?_
    obtain ⟨a6, e7⟩ := q_nm (t0_0 + 1 : Int32)
    refine q_ti (v := a6) e7 ?_
    have b8 : q_F (a6.toInt = t0_0.toInt + 1) := (by rw [← e7]; show (t0_0 + 1 : Int32).toInt = t0_0.toInt + 1; exact q_addI (x := t0_0.toInt) (y := 1) rfl (by decide) (by have t1 : 0 ≤ t0_0.toInt ∧ t0_0.toInt ≤ K.toInt := btt0_0; have t2 : t0_0.toInt + 1 ≤ K.toInt := pre0; have _ := q_lo32 (x := K); have _ := q_hi32 (x := K); omega) (by have t1 : 0 ≤ t0_0.toInt ∧ t0_0.toInt ≤ K.toInt := btt0_0; have t2 : t0_0.toInt + 1 ≤ K.toInt := pre0; have _ := q_lo32 (x := K); have _ := q_hi32 (x := K); omega))
    refine q_put (ci := 1) (j := 2) (v := .int a6) (ty := .int) C0 V i_She o_She n_She rfl rfl hT0 (by decide) w_54 rfl rfl rfl rfl (Nat.le_of_ble_eq_true rfl) d_11_3_70 (fun H locs w9 hu10 hT0 V => ?_)
    replace hT0 : w9[k1]? = (some (q k1, .inr (1, [.ref (q (k1 + 1)), .int R, .int a6])) : Option (Nat × va_E)) := hT0
    replace hI := n_shO' hI hB1 hu10 hT0 ⟨(by have t1 : 0 ≤ t0_0.toInt ∧ t0_0.toInt ≤ K.toInt := btt0_0; have t2 : a6.toInt = t0_0.toInt + 1 := b8; omega), (by have t1 : t0_0.toInt + 1 ≤ K.toInt := pre0; have t2 : a6.toInt = t0_0.toInt + 1 := b8; omega)⟩
    replace hF := q_us hF hu10 (by simp)
    exact q_retv C0 V (⟨hI, hF, a6, hT0, (show t0_0.toInt + 1 ≤ a6.toInt from (by have t1 : a6.toInt = t0_0.toInt + 1 := b8; omega)), (show a6.toInt ≤ t0_0.toInt + 1 from (by have t1 : a6.toInt = t0_0.toInt + 1 := b8; omega))⟩) d_11_3_73
  ·
    have b11 : q_F (t0_0.toInt < R.toInt) := (q_nleI c4)
    refine lv_bipush (v := 8) hx hb d_11_3_11 (by decide) ?_
    refine lv_aload_n hx hb d_11_3_13 rfl (lv_at hl 0 rfl) ?_
    refine q_get (ci := 1) (j := 2) (v := .int t0_0) C0 V i_She rfl rfl hT0 (by decide) w_54 rfl d_11_3_14 ?_
    refine lv_bipush (v := 7) hx hb d_11_3_17 (by decide) ?_
    refine lv_iand hx hb d_11_3_19 ?_
    obtain ⟨a12, e13⟩ := q_nm (t0_0 &&& 7 : Int32)
    refine q_ti (v := a12) e13 ?_
    have b14 : q_F (0 ≤ a12.toInt ∧ a12.toInt ≤ 7) := (by rw [← e13]; show 0 ≤ (t0_0 &&& 7 : Int32).toInt ∧ (t0_0 &&& 7 : Int32).toInt ≤ 7; exact s_and (by decide))
    refine lv_imul hx hb d_11_3_20 ?_
    obtain ⟨a15, e16⟩ := q_nm (8 * a12 : Int32)
    refine q_ti (v := a15) e16 ?_
    have b17 : q_F (a15.toInt = 8 * a12.toInt) := (by rw [← e16]; show (8 * a12 : Int32).toInt = 8 * a12.toInt; exact q_mulI (x := 8) (y := a12.toInt) (by decide) rfl (by have t1 : 0 ≤ a12.toInt ∧ a12.toInt ≤ 7 := b14; omega) (by have t1 : 0 ≤ a12.toInt ∧ a12.toInt ≤ 7 := b14; omega))
    refine lv_istore_n (lv' := [(2, .int a15), (0, .ref (q k1)), (1, .int x2)]) hx hb d_11_3_21 rfl hl (by decide) rfl (fun ls hl => ?_)
    refine lv_aload_n hx hb d_11_3_22 rfl (lv_at hl 1 rfl) ?_
    refine q_get (ci := 1) (j := 0) (v := .ref (q (k1 + 1))) C0 V i_She rfl rfl hT0 (by decide) w_52 rfl d_11_3_23 ?_
    refine lv_aload_n hx hb d_11_3_26 rfl (lv_at hl 1 rfl) ?_
    refine q_get (ci := 1) (j := 2) (v := .int t0_0) C0 V i_She rfl rfl hT0 (by decide) w_54 rfl d_11_3_27 ?_
    refine lv_iconst (v := 3) hx hb d_11_3_30 (by decide) ?_
    refine lv_ishr hx hb d_11_3_31 ?_
    obtain ⟨a18, e19⟩ := q_nm (t0_0 >>> (3 &&& 31) : Int32)
    refine q_ti (v := a18) e19 ?_
    have b20 : q_F (8 * a18.toInt ≤ t0_0.toInt ∧ t0_0.toInt ≤ 8 * a18.toInt + 7) := (by rw [← e19]; show 8 * (t0_0 >>> (3 &&& 31) : Int32).toInt ≤ t0_0.toInt ∧ t0_0.toInt ≤ 8 * (t0_0 >>> (3 &&& 31) : Int32).toInt + 7; exact n_shr (x := t0_0) (c := 3) 3 (by decide) (by decide) (by have t1 : 0 ≤ t0_0.toInt ∧ t0_0.toInt ≤ K.toInt := btt0_0; omega))
    refine lv_aload_n hx hb d_11_3_32 rfl (lv_at hl 1 rfl) ?_
    refine q_get (ci := 1) (j := 0) (v := .ref (q (k1 + 1))) C0 V i_She rfl rfl hT0 (by decide) w_52 rfl d_11_3_33 ?_
    refine lv_aload_n hx hb d_11_3_36 rfl (lv_at hl 1 rfl) ?_
    refine q_get (ci := 1) (j := 2) (v := .int t0_0) C0 V i_She rfl rfl hT0 (by decide) w_54 rfl d_11_3_37 ?_
    refine lv_iconst (v := 3) hx hb d_11_3_40 (by decide) ?_
    refine lv_ishr hx hb d_11_3_41 ?_
    obtain ⟨a21, e22⟩ := q_nm (t0_0 >>> (3 &&& 31) : Int32)
    refine q_ti (v := a21) e22 ?_
    have b23 : q_F (8 * a21.toInt ≤ t0_0.toInt ∧ t0_0.toInt ≤ 8 * a21.toInt + 7) := (by rw [← e22]; show 8 * (t0_0 >>> (3 &&& 31) : Int32).toInt ≤ t0_0.toInt ∧ t0_0.toInt ≤ 8 * (t0_0 >>> (3 &&& 31) : Int32).toInt + 7; exact n_shr (x := t0_0) (c := 3) 3 (by decide) (by decide) (by have t1 : 0 ≤ t0_0.toInt ∧ t0_0.toInt ≤ K.toInt := btt0_0; omega))
    obtain ⟨f24, hA25⟩ := n_al hI hB1.2.1
    refine q_lald C0 V hA25 (q_ix (x := a21.toInt) rfl (by have t1 : 0 ≤ t0_0.toInt ∧ t0_0.toInt ≤ K.toInt := btt0_0; have t2 : 8 * a21.toInt ≤ t0_0.toInt ∧ t0_0.toInt ≤ 8 * a21.toInt + 7 := b23; omega) (by have t1 : 0 ≤ t0_0.toInt ∧ t0_0.toInt ≤ K.toInt := btt0_0; have t2 : 8 * a21.toInt ≤ t0_0.toInt ∧ t0_0.toInt ≤ 8 * a21.toInt + 7 := b23; have t3 : 0 ≤ R.toInt ∧ R.toInt ≤ 8 * N.toInt ∧ 0 ≤ N.toInt ∧ N.toInt ≤ 1376 ∧ 64 ≤ R.toInt ∧ 64 ≤ K.toInt ∧ K.toInt ≤ 1000000 := hfk10; have t4 : t0_0.toInt < R.toInt := b11; have e9 := q_clI (i := N) rfl (by have t1 : 0 ≤ R.toInt ∧ R.toInt ≤ 8 * N.toInt ∧ 0 ≤ N.toInt ∧ N.toInt ≤ 1376 ∧ 64 ≤ R.toInt ∧ 64 ≤ K.toInt ∧ K.toInt ≤ 1000000 := hfk10; omega); omega)) d_11_3_42 ?_
    obtain ⟨j26, e27⟩ := q_nm (f24 a21.toNatClampNeg : Int64)
    refine q_tl (v := j26) e27 ?_
    refine q_ldc2 C0 rfl w_565 d_11_3_43 ?_
    refine lv_iload_n hx hb d_11_3_46 rfl (lv_at hl 0 rfl) ?_
    refine lv_lshl hx hb d_11_3_47 rfl ?_
    obtain ⟨j28, e29⟩ := q_nm ((255 : Int64) <<< (a15.toInt64 &&& 63) : Int64)
    refine q_tl (v := j28) e29 ?_
    refine q_ldc2 C0 rfl w_566 d_11_3_48 ?_
    refine lv_lxor hx hb d_11_3_51 ?_
    obtain ⟨j30, e31⟩ := q_nm (j28 ^^^ (-1) : Int64)
    refine q_tl (v := j30) e31 ?_
    refine lv_land hx hb d_11_3_52 ?_
    obtain ⟨j32, e33⟩ := q_nm (j26 &&& j30 : Int64)
    refine q_tl (v := j32) e33 ?_
    refine lv_iload_n hx hb d_11_3_53 rfl (lv_at hl 2 rfl) ?_
    refine lv_sipush (v := 255) hx hb d_11_3_54 (by decide) ?_
    refine lv_iand hx hb d_11_3_57 ?_
    obtain ⟨a34, e35⟩ := q_nm (x2 &&& 255 : Int32)
    refine q_ti (v := a34) e35 ?_
    have b36 : q_F (0 ≤ a34.toInt ∧ a34.toInt ≤ 255) := (by rw [← e35]; show 0 ≤ (x2 &&& 255 : Int32).toInt ∧ (x2 &&& 255 : Int32).toInt ≤ 255; exact s_and (by decide))
    refine lv_i2l hx hb d_11_3_58 rfl ?_
    obtain ⟨j37, e38⟩ := q_nm (a34.toInt64 : Int64)
    refine q_tl (v := j37) e38 ?_
    have b39 : q_F (j37.toInt = a34.toInt) := (by rw [← e38]; show (a34.toInt64 : Int64).toInt = a34.toInt; exact q_i2l rfl)
    refine lv_iload_n hx hb d_11_3_59 rfl (lv_at hl 0 rfl) ?_
    refine lv_lshl hx hb d_11_3_60 rfl ?_
    obtain ⟨j40, e41⟩ := q_nm (j37 <<< (a15.toInt64 &&& 63) : Int64)
    refine q_tl (v := j40) e41 ?_
    refine lv_lor hx hb d_11_3_61 ?_
    obtain ⟨j42, e43⟩ := q_nm (j32 ||| j40 : Int64)
    refine q_tl (v := j42) e43 ?_
    refine q_last C0 V hA25 (q_ix (x := a18.toInt) rfl (by have t1 : 0 ≤ t0_0.toInt ∧ t0_0.toInt ≤ K.toInt := btt0_0; have t2 : 8 * a18.toInt ≤ t0_0.toInt ∧ t0_0.toInt ≤ 8 * a18.toInt + 7 := b20; omega) (by have t1 : 0 ≤ t0_0.toInt ∧ t0_0.toInt ≤ K.toInt := btt0_0; have t2 : 8 * a18.toInt ≤ t0_0.toInt ∧ t0_0.toInt ≤ 8 * a18.toInt + 7 := b20; have t3 : 0 ≤ R.toInt ∧ R.toInt ≤ 8 * N.toInt ∧ 0 ≤ N.toInt ∧ N.toInt ≤ 1376 ∧ 64 ≤ R.toInt ∧ 64 ≤ K.toInt ∧ K.toInt ≤ 1000000 := hfk10; have t4 : t0_0.toInt < R.toInt := b11; have e9 := q_clI (i := N) rfl (by have t1 : 0 ≤ R.toInt ∧ R.toInt ≤ 8 * N.toInt ∧ 0 ≤ N.toInt ∧ N.toInt ≤ 1376 ∧ 64 ≤ R.toInt ∧ 64 ≤ K.toInt ∧ K.toInt ≤ 1000000 := hfk10; omega); omega)) d_11_3_62 (fun H locs w44 hu45 hA25 V => ?_)
    replace hI := n_al' hI hB1.2.1 hu45 hA25
    replace hT0 := (hu45 _ (by omega)).trans hT0
    replace hF := q_us hF hu45 (by simp)
    refine lv_aload_n hx hb d_11_3_63 rfl (lv_at hl 1 rfl) ?_
    refine lv_dup hx hb d_11_3_64 rfl ?_
    refine q_get (ci := 1) (j := 2) (v := .int t0_0) C0 V i_She rfl rfl hT0 (by decide) w_54 rfl d_11_3_65 ?_
    refine lv_iconst (v := 1) hx hb d_11_3_68 (by decide) ?_
    refine lv_iadd hx hb d_11_3_69 ?_
    obtain ⟨a46, e47⟩ := q_nm (t0_0 + 1 : Int32)
    refine q_ti (v := a46) e47 ?_
    have b48 : q_F (a46.toInt = t0_0.toInt + 1) := (by rw [← e47]; show (t0_0 + 1 : Int32).toInt = t0_0.toInt + 1; exact q_addI (x := t0_0.toInt) (y := 1) rfl (by decide) (by have t1 : 0 ≤ t0_0.toInt ∧ t0_0.toInt ≤ K.toInt := btt0_0; have t2 : t0_0.toInt + 1 ≤ K.toInt := pre0; have _ := q_lo32 (x := K); have _ := q_hi32 (x := K); omega) (by have t1 : 0 ≤ t0_0.toInt ∧ t0_0.toInt ≤ K.toInt := btt0_0; have t2 : t0_0.toInt + 1 ≤ K.toInt := pre0; have _ := q_lo32 (x := K); have _ := q_hi32 (x := K); omega))
    refine q_put (ci := 1) (j := 2) (v := .int a46) (ty := .int) C0 V i_She o_She n_She rfl rfl hT0 (by decide) w_54 rfl rfl rfl rfl (Nat.le_of_ble_eq_true rfl) d_11_3_70 (fun H locs w49 hu50 hT0 V => ?_)
    replace hT0 : w49[k1]? = (some (q k1, .inr (1, [.ref (q (k1 + 1)), .int R, .int a46])) : Option (Nat × va_E)) := hT0
    replace hI := n_shO' hI hB1 hu50 hT0 ⟨(by have t1 : 0 ≤ t0_0.toInt ∧ t0_0.toInt ≤ K.toInt := btt0_0; have t2 : a46.toInt = t0_0.toInt + 1 := b48; omega), (by have t1 : t0_0.toInt + 1 ≤ K.toInt := pre0; have t2 : a46.toInt = t0_0.toInt + 1 := b48; omega)⟩
    replace hF := q_us hF hu50 (by simp)
    exact q_retv C0 V (⟨hI, hF, a46, hT0, (show t0_0.toInt + 1 ≤ a46.toInt from (by have t1 : a46.toInt = t0_0.toInt + 1 := b48; omega)), (show a46.toInt ≤ t0_0.toInt + 1 from (by have t1 : a46.toInt = t0_0.toInt + 1 := b48; omega))⟩) d_11_3_73
theorem d_11_8_0 : decode prog_11_method_8_code 0 = .ok (.lload_n 1, 1) := by decide +kernel
theorem d_11_8_1 : decode prog_11_method_8_code 1 = .ok (.lconst 0, 1) := by decide +kernel
theorem d_11_8_2 : decode prog_11_method_8_code 2 = .ok (.lcmp, 1) := by decide +kernel
theorem d_11_8_3 : decode prog_11_method_8_code 3 = .ok (.ifCond .lt 23, 3) := by decide +kernel
theorem d_11_8_26 : decode prog_11_method_8_code 26 = .ok (.iconst 0, 1) := by decide +kernel
theorem d_11_8_27 : decode prog_11_method_8_code 27 = .ok (.ireturn, 1) := by decide +kernel
theorem d_11_8_6 : decode prog_11_method_8_code 6 = .ok (.lload_n 1, 1) := by decide +kernel
theorem d_11_8_7 : decode prog_11_method_8_code 7 = .ok (.aload_n 0, 1) := by decide +kernel
theorem d_11_8_8 : decode prog_11_method_8_code 8 = .ok (.getfield 17, 3) := by decide +kernel
theorem d_11_8_11 : decode prog_11_method_8_code 11 = .ok (.i2l, 1) := by decide +kernel
theorem d_11_8_12 : decode prog_11_method_8_code 12 = .ok (.lcmp, 1) := by decide +kernel
theorem d_11_8_13 : decode prog_11_method_8_code 13 = .ok (.ifCond .ge 13, 3) := by decide +kernel
theorem d_11_8_16 : decode prog_11_method_8_code 16 = .ok (.lload_n 1, 1) := by decide +kernel
theorem d_11_8_17 : decode prog_11_method_8_code 17 = .ok (.aload_n 0, 1) := by decide +kernel
theorem d_11_8_18 : decode prog_11_method_8_code 18 = .ok (.getfield 7, 3) := by decide +kernel
theorem d_11_8_21 : decode prog_11_method_8_code 21 = .ok (.i2l, 1) := by decide +kernel
theorem d_11_8_22 : decode prog_11_method_8_code 22 = .ok (.lcmp, 1) := by decide +kernel
theorem d_11_8_23 : decode prog_11_method_8_code 23 = .ok (.ifCond .lt 5, 3) := by decide +kernel
theorem d_11_8_28 : decode prog_11_method_8_code 28 = .ok (.aload_n 0, 1) := by decide +kernel
theorem d_11_8_29 : decode prog_11_method_8_code 29 = .ok (.getfield 13, 3) := by decide +kernel
theorem d_11_8_32 : decode prog_11_method_8_code 32 = .ok (.lload_n 1, 1) := by decide +kernel
theorem d_11_8_33 : decode prog_11_method_8_code 33 = .ok (.l2i, 1) := by decide +kernel
theorem d_11_8_34 : decode prog_11_method_8_code 34 = .ok (.iconst 3, 1) := by decide +kernel
theorem d_11_8_35 : decode prog_11_method_8_code 35 = .ok (.ishr, 1) := by decide +kernel
theorem d_11_8_36 : decode prog_11_method_8_code 36 = .ok (.laload, 1) := by decide +kernel
theorem d_11_8_37 : decode prog_11_method_8_code 37 = .ok (.bipush 8, 2) := by decide +kernel
theorem d_11_8_39 : decode prog_11_method_8_code 39 = .ok (.lload_n 1, 1) := by decide +kernel
theorem d_11_8_40 : decode prog_11_method_8_code 40 = .ok (.l2i, 1) := by decide +kernel
theorem d_11_8_41 : decode prog_11_method_8_code 41 = .ok (.bipush 7, 2) := by decide +kernel
theorem d_11_8_43 : decode prog_11_method_8_code 43 = .ok (.iand, 1) := by decide +kernel
theorem d_11_8_44 : decode prog_11_method_8_code 44 = .ok (.imul, 1) := by decide +kernel
theorem d_11_8_45 : decode prog_11_method_8_code 45 = .ok (.lushr, 1) := by decide +kernel
theorem d_11_8_46 : decode prog_11_method_8_code 46 = .ok (.l2i, 1) := by decide +kernel
theorem d_11_8_47 : decode prog_11_method_8_code 47 = .ok (.sipush 255, 3) := by decide +kernel
theorem d_11_8_50 : decode prog_11_method_8_code 50 = .ok (.iand, 1) := by decide +kernel
theorem d_11_8_51 : decode prog_11_method_8_code 51 = .ok (.ireturn, 1) := by decide +kernel
def y_She_at : MethodName := ⟨"NumberHouse$Sheet", "at", "(J)I"⟩
set_option maxRecDepth 100000 in
set_option maxHeartbeats 4000000 in
theorem T_She_at (l : Launch) (D : va_G) (g : Nat → ClassId) (q : Nat → Nat) (ws : va_W) (k1 : Nat) (R N K : Int32) (hB1 : q_isShe (nsh g q) g q k1 R N K) (x2 : Int64) (hI : q_I (nsh g q) q ws) : q_mI l y_She_at prog_11_method_8_code 3 (.int) 1 0 0 D g [.ref (q k1), .long x2] ws (fun r u => ws = u ∧ (0 ≤ r.toInt) ∧ (r.toInt ≤ 255) ∧ r = n_by ws k1 x2) := by
  intro sz
  refine q_into (by decide) (Nat.le_of_ble_eq_true rfl) ?_
  intro p e s m below meth c ls hsz C0 V hl
  have hx := C0.1
  have hb := C0.2.1
  have hfk10 : q_F (0 ≤ R.toInt ∧ R.toInt ≤ 8 * N.toInt ∧ 0 ≤ N.toInt ∧ N.toInt ≤ 1376 ∧ 64 ≤ R.toInt ∧ 64 ≤ K.toInt ∧ K.toInt ≤ 1000000) := hB1.2.2.1
  have hl : lv_has ls 3 [(0, .ref (q k1)), (1, .long x2)] := hl
  refine lv_lload_n hx hb d_11_8_0 rfl (lv_at hl 1 rfl) ?_
  refine lv_lconst (v := 0) hx hb d_11_8_1 (by decide) ?_
  refine W.lcmp hx hb d_11_8_2 ?_
  obtain ⟨a1, e2⟩ := q_nm (lg_cmp x2 0 : Int32)
  refine q_ti (v := a1) e2 ?_
  have b3 : q_F (-1 ≤ a1.toInt ∧ a1.toInt ≤ 1 ∧ ((a1.toInt = -1 ∧ x2.toInt < 0) ∨ (a1.toInt = 0 ∧ x2.toInt = 0) ∨ (a1.toInt = 1 ∧ 0 < x2.toInt))) := (by rw [← e2]; show -1 ≤ (lg_cmp x2 0 : Int32).toInt ∧ (lg_cmp x2 0 : Int32).toInt ≤ 1 ∧ (((lg_cmp x2 0 : Int32).toInt = -1 ∧ x2.toInt < 0) ∨ ((lg_cmp x2 0 : Int32).toInt = 0 ∧ x2.toInt = 0) ∨ ((lg_cmp x2 0 : Int32).toInt = 1 ∧ 0 < x2.toInt)); exact (by have y1 : (0 : Int64).toInt = 0 := rfl; have z := s_lcmp (a := x2) (b := 0); omega))
  refine lv_if_lt (tgt := 26) hx hb d_11_8_3 (by decide) (fun c4 => ?_) (fun c4 => ?_)
  ·
    have b5 : q_F (a1.toInt < 0) := (q_ltI c4)
    refine lv_iconst (v := 0) hx hb d_11_8_26 (by decide) ?_
    exact q_reti C0 V (⟨rfl, (show 0 ≤ (0 : Int32).toInt from (by have z4 : (0 : Int32).toInt = 0 := rfl; omega)), (show (0 : Int32).toInt ≤ 255 from (by have z4 : (0 : Int32).toInt = 0 := rfl; omega)), (by obtain ⟨fz, hz⟩ := n_al hI hB1.2.1; obtain ⟨yz, ho, -⟩ := n_shO hI hB1; unfold n_by; rw [ho, hz]; exact (if_pos (Or.inl (by have t1 : -1 ≤ a1.toInt ∧ a1.toInt ≤ 1 ∧ ((a1.toInt = -1 ∧ x2.toInt < 0) ∨ (a1.toInt = 0 ∧ x2.toInt = 0) ∨ (a1.toInt = 1 ∧ 0 < x2.toInt)) := b3; have t2 : a1.toInt < 0 := b5; omega))).symm)⟩) d_11_8_27
  ·
    have b6 : q_F (0 ≤ a1.toInt) := (q_nltI c4)
    refine lv_lload_n hx hb d_11_8_6 rfl (lv_at hl 1 rfl) ?_
    refine lv_aload_n hx hb d_11_8_7 rfl (lv_at hl 0 rfl) ?_
    obtain ⟨y8, hO7, b9⟩ := n_shO hI hB1
    replace b9 : q_F (0 ≤ y8.toInt ∧ y8.toInt ≤ K.toInt) := b9
    refine q_get (ci := 1) (j := 2) (v := .int y8) C0 V i_She rfl rfl hO7 (by decide) w_54 rfl d_11_8_8 ?_
    refine lv_i2l hx hb d_11_8_11 rfl ?_
    obtain ⟨j10, e11⟩ := q_nm (y8.toInt64 : Int64)
    refine q_tl (v := j10) e11 ?_
    have b12 : q_F (j10.toInt = y8.toInt) := (by rw [← e11]; show (y8.toInt64 : Int64).toInt = y8.toInt; exact q_i2l rfl)
    refine W.lcmp hx hb d_11_8_12 ?_
    obtain ⟨a13, e14⟩ := q_nm (lg_cmp x2 j10 : Int32)
    refine q_ti (v := a13) e14 ?_
    have b15 : q_F (-1 ≤ a13.toInt ∧ a13.toInt ≤ 1 ∧ ((a13.toInt = -1 ∧ x2.toInt < j10.toInt) ∨ (a13.toInt = 0 ∧ x2.toInt = j10.toInt) ∨ (a13.toInt = 1 ∧ j10.toInt < x2.toInt))) := (by rw [← e14]; show -1 ≤ (lg_cmp x2 j10 : Int32).toInt ∧ (lg_cmp x2 j10 : Int32).toInt ≤ 1 ∧ (((lg_cmp x2 j10 : Int32).toInt = -1 ∧ x2.toInt < j10.toInt) ∨ ((lg_cmp x2 j10 : Int32).toInt = 0 ∧ x2.toInt = j10.toInt) ∨ ((lg_cmp x2 j10 : Int32).toInt = 1 ∧ j10.toInt < x2.toInt)); exact s_lcmp)
    refine lv_if_ge (tgt := 26) hx hb d_11_8_13 (by decide) (fun c16 => ?_) (fun c16 => ?_)
    ·
      have b17 : q_F (0 ≤ a13.toInt) := (q_leI c16)
      refine lv_iconst (v := 0) hx hb d_11_8_26 (by decide) ?_
      exact q_reti C0 V (⟨rfl, (show 0 ≤ (0 : Int32).toInt from (by have z4 : (0 : Int32).toInt = 0 := rfl; omega)), (show (0 : Int32).toInt ≤ 255 from (by have z4 : (0 : Int32).toInt = 0 := rfl; omega)), (by obtain ⟨fz, hz⟩ := n_al hI hB1.2.1; unfold n_by; rw [hO7, hz]; exact (if_pos (Or.inr (Or.inl (by have t1 : j10.toInt = y8.toInt := b12; have t2 : -1 ≤ a13.toInt ∧ a13.toInt ≤ 1 ∧ ((a13.toInt = -1 ∧ x2.toInt < j10.toInt) ∨ (a13.toInt = 0 ∧ x2.toInt = j10.toInt) ∨ (a13.toInt = 1 ∧ j10.toInt < x2.toInt)) := b15; have t3 : 0 ≤ a13.toInt := b17; omega)))).symm)⟩) d_11_8_27
    ·
      have b18 : q_F (a13.toInt < 0) := (q_nleI c16)
      refine lv_lload_n hx hb d_11_8_16 rfl (lv_at hl 1 rfl) ?_
      refine lv_aload_n hx hb d_11_8_17 rfl (lv_at hl 0 rfl) ?_
      refine q_get (ci := 1) (j := 1) (v := .int R) C0 V i_She rfl rfl hO7 (by decide) w_53 rfl d_11_8_18 ?_
      refine lv_i2l hx hb d_11_8_21 rfl ?_
      obtain ⟨j19, e20⟩ := q_nm (R.toInt64 : Int64)
      refine q_tl (v := j19) e20 ?_
      have b21 : q_F (j19.toInt = R.toInt) := (by rw [← e20]; show (R.toInt64 : Int64).toInt = R.toInt; exact q_i2l rfl)
      refine W.lcmp hx hb d_11_8_22 ?_
      obtain ⟨a22, e23⟩ := q_nm (lg_cmp x2 j19 : Int32)
      refine q_ti (v := a22) e23 ?_
      have b24 : q_F (-1 ≤ a22.toInt ∧ a22.toInt ≤ 1 ∧ ((a22.toInt = -1 ∧ x2.toInt < j19.toInt) ∨ (a22.toInt = 0 ∧ x2.toInt = j19.toInt) ∨ (a22.toInt = 1 ∧ j19.toInt < x2.toInt))) := (by rw [← e23]; show -1 ≤ (lg_cmp x2 j19 : Int32).toInt ∧ (lg_cmp x2 j19 : Int32).toInt ≤ 1 ∧ (((lg_cmp x2 j19 : Int32).toInt = -1 ∧ x2.toInt < j19.toInt) ∨ ((lg_cmp x2 j19 : Int32).toInt = 0 ∧ x2.toInt = j19.toInt) ∨ ((lg_cmp x2 j19 : Int32).toInt = 1 ∧ j19.toInt < x2.toInt)); exact s_lcmp)
      refine lv_if_lt (tgt := 28) hx hb d_11_8_23 (by decide) (fun c25 => ?_) (fun c25 => ?_)
      ·
        have b26 : q_F (a22.toInt < 0) := (q_ltI c25)
        refine lv_aload_n hx hb d_11_8_28 rfl (lv_at hl 0 rfl) ?_
        refine q_get (ci := 1) (j := 0) (v := .ref (q (k1 + 1))) C0 V i_She rfl rfl hO7 (by decide) w_52 rfl d_11_8_29 ?_
        refine lv_lload_n hx hb d_11_8_32 rfl (lv_at hl 1 rfl) ?_
        refine lv_l2i hx hb d_11_8_33 rfl ?_
        obtain ⟨a27, e28⟩ := q_nm (x2.toInt32 : Int32)
        refine q_ti (v := a27) e28 ?_
        have b29 : q_F (a27.toInt = x2.toInt) := (by rw [← e28]; show (x2.toInt32 : Int32).toInt = x2.toInt; exact s_l2i (by have t1 : -1 ≤ a1.toInt ∧ a1.toInt ≤ 1 ∧ ((a1.toInt = -1 ∧ x2.toInt < 0) ∨ (a1.toInt = 0 ∧ x2.toInt = 0) ∨ (a1.toInt = 1 ∧ 0 < x2.toInt)) := b3; have t2 : 0 ≤ a1.toInt := b6; have t3 : j19.toInt = R.toInt := b21; have t4 : -1 ≤ a22.toInt ∧ a22.toInt ≤ 1 ∧ ((a22.toInt = -1 ∧ x2.toInt < j19.toInt) ∨ (a22.toInt = 0 ∧ x2.toInt = j19.toInt) ∨ (a22.toInt = 1 ∧ j19.toInt < x2.toInt)) := b24; have t5 : a22.toInt < 0 := b26; have _ := q_lo32 (x := R); have _ := q_hi32 (x := R); omega) (by have t1 : -1 ≤ a1.toInt ∧ a1.toInt ≤ 1 ∧ ((a1.toInt = -1 ∧ x2.toInt < 0) ∨ (a1.toInt = 0 ∧ x2.toInt = 0) ∨ (a1.toInt = 1 ∧ 0 < x2.toInt)) := b3; have t2 : 0 ≤ a1.toInt := b6; have t3 : j19.toInt = R.toInt := b21; have t4 : -1 ≤ a22.toInt ∧ a22.toInt ≤ 1 ∧ ((a22.toInt = -1 ∧ x2.toInt < j19.toInt) ∨ (a22.toInt = 0 ∧ x2.toInt = j19.toInt) ∨ (a22.toInt = 1 ∧ j19.toInt < x2.toInt)) := b24; have t5 : a22.toInt < 0 := b26; have _ := q_lo32 (x := R); have _ := q_hi32 (x := R); omega))
        refine lv_iconst (v := 3) hx hb d_11_8_34 (by decide) ?_
        refine lv_ishr hx hb d_11_8_35 ?_
        obtain ⟨a30, e31⟩ := q_nm (a27 >>> (3 &&& 31) : Int32)
        refine q_ti (v := a30) e31 ?_
        have b32 : q_F (8 * a30.toInt ≤ a27.toInt ∧ a27.toInt ≤ 8 * a30.toInt + 7) := (by rw [← e31]; show 8 * (a27 >>> (3 &&& 31) : Int32).toInt ≤ a27.toInt ∧ a27.toInt ≤ 8 * (a27 >>> (3 &&& 31) : Int32).toInt + 7; exact n_shr (x := a27) (c := 3) 3 (by decide) (by decide) (by have t1 : -1 ≤ a1.toInt ∧ a1.toInt ≤ 1 ∧ ((a1.toInt = -1 ∧ x2.toInt < 0) ∨ (a1.toInt = 0 ∧ x2.toInt = 0) ∨ (a1.toInt = 1 ∧ 0 < x2.toInt)) := b3; have t2 : 0 ≤ a1.toInt := b6; have t3 : a27.toInt = x2.toInt := b29; omega))
        obtain ⟨f33, hA34⟩ := n_al hI hB1.2.1
        refine q_lald C0 V hA34 (q_ix (x := a30.toInt) rfl (by have t1 : -1 ≤ a1.toInt ∧ a1.toInt ≤ 1 ∧ ((a1.toInt = -1 ∧ x2.toInt < 0) ∨ (a1.toInt = 0 ∧ x2.toInt = 0) ∨ (a1.toInt = 1 ∧ 0 < x2.toInt)) := b3; have t2 : 0 ≤ a1.toInt := b6; have t3 : a27.toInt = x2.toInt := b29; have t4 : 8 * a30.toInt ≤ a27.toInt ∧ a27.toInt ≤ 8 * a30.toInt + 7 := b32; omega) (by have t1 : -1 ≤ a1.toInt ∧ a1.toInt ≤ 1 ∧ ((a1.toInt = -1 ∧ x2.toInt < 0) ∨ (a1.toInt = 0 ∧ x2.toInt = 0) ∨ (a1.toInt = 1 ∧ 0 < x2.toInt)) := b3; have t2 : 0 ≤ a1.toInt := b6; have t3 : a27.toInt = x2.toInt := b29; have t4 : 8 * a30.toInt ≤ a27.toInt ∧ a27.toInt ≤ 8 * a30.toInt + 7 := b32; have t5 : 0 ≤ R.toInt ∧ R.toInt ≤ 8 * N.toInt ∧ 0 ≤ N.toInt ∧ N.toInt ≤ 1376 ∧ 64 ≤ R.toInt ∧ 64 ≤ K.toInt ∧ K.toInt ≤ 1000000 := hfk10; have t6 : j19.toInt = R.toInt := b21; have t7 : -1 ≤ a22.toInt ∧ a22.toInt ≤ 1 ∧ ((a22.toInt = -1 ∧ x2.toInt < j19.toInt) ∨ (a22.toInt = 0 ∧ x2.toInt = j19.toInt) ∨ (a22.toInt = 1 ∧ j19.toInt < x2.toInt)) := b24; have t8 : a22.toInt < 0 := b26; have e9 := q_clI (i := N) rfl (by have t1 : 0 ≤ R.toInt ∧ R.toInt ≤ 8 * N.toInt ∧ 0 ≤ N.toInt ∧ N.toInt ≤ 1376 ∧ 64 ≤ R.toInt ∧ 64 ≤ K.toInt ∧ K.toInt ≤ 1000000 := hfk10; omega); omega)) d_11_8_36 ?_
        obtain ⟨j35, e36⟩ := q_nm (f33 a30.toNatClampNeg : Int64)
        refine q_tl (v := j35) e36 ?_
        refine lv_bipush (v := 8) hx hb d_11_8_37 (by decide) ?_
        refine lv_lload_n hx hb d_11_8_39 rfl (lv_at hl 1 rfl) ?_
        refine lv_l2i hx hb d_11_8_40 rfl ?_
        obtain ⟨a37, e38⟩ := q_nm (x2.toInt32 : Int32)
        refine q_ti (v := a37) e38 ?_
        have b39 : q_F (a37.toInt = x2.toInt) := (by rw [← e38]; show (x2.toInt32 : Int32).toInt = x2.toInt; exact s_l2i (by have t1 : a27.toInt = x2.toInt := b29; have _ := q_lo32 (x := a27); have _ := q_hi32 (x := a27); omega) (by have t1 : a27.toInt = x2.toInt := b29; have _ := q_lo32 (x := a27); have _ := q_hi32 (x := a27); omega))
        refine lv_bipush (v := 7) hx hb d_11_8_41 (by decide) ?_
        refine lv_iand hx hb d_11_8_43 ?_
        obtain ⟨a40, e41⟩ := q_nm (a37 &&& 7 : Int32)
        refine q_ti (v := a40) e41 ?_
        have b42 : q_F (0 ≤ a40.toInt ∧ a40.toInt ≤ 7) := (by rw [← e41]; show 0 ≤ (a37 &&& 7 : Int32).toInt ∧ (a37 &&& 7 : Int32).toInt ≤ 7; exact s_and (by decide))
        refine lv_imul hx hb d_11_8_44 ?_
        obtain ⟨a43, e44⟩ := q_nm (8 * a40 : Int32)
        refine q_ti (v := a43) e44 ?_
        have b45 : q_F (a43.toInt = 8 * a40.toInt) := (by rw [← e44]; show (8 * a40 : Int32).toInt = 8 * a40.toInt; exact q_mulI (x := 8) (y := a40.toInt) (by decide) rfl (by have t1 : 0 ≤ a40.toInt ∧ a40.toInt ≤ 7 := b42; omega) (by have t1 : 0 ≤ a40.toInt ∧ a40.toInt ≤ 7 := b42; omega))
        refine lv_lushr hx hb d_11_8_45 rfl ?_
        obtain ⟨j46, e47⟩ := q_nm ((j35.toUInt64 >>> (a43.toInt64.toUInt64 &&& Int64.toUInt64 63)).toInt64 : Int64)
        refine q_tl (v := j46) e47 ?_
        refine lv_l2i hx hb d_11_8_46 rfl ?_
        obtain ⟨a48, e49⟩ := q_nm (j46.toInt32 : Int32)
        refine q_ti (v := a48) e49 ?_
        refine lv_sipush (v := 255) hx hb d_11_8_47 (by decide) ?_
        refine lv_iand hx hb d_11_8_50 ?_
        obtain ⟨a50, e51⟩ := q_nm (a48 &&& 255 : Int32)
        refine q_ti (v := a50) e51 ?_
        have b52 : q_F (0 ≤ a50.toInt ∧ a50.toInt ≤ 255) := (by rw [← e51]; show 0 ≤ (a48 &&& 255 : Int32).toInt ∧ (a48 &&& 255 : Int32).toInt ≤ 255; exact s_and (by decide))
        exact q_reti C0 V (⟨rfl, (show 0 ≤ a50.toInt from (by have t1 : 0 ≤ a50.toInt ∧ a50.toInt ≤ 255 := b52; omega)), (show a50.toInt ≤ 255 from (by have t1 : 0 ≤ a50.toInt ∧ a50.toInt ≤ 255 := b52; omega)), (by have g1 : 0 ≤ x2.toInt := (by have t1 : -1 ≤ a1.toInt ∧ a1.toInt ≤ 1 ∧ ((a1.toInt = -1 ∧ x2.toInt < 0) ∨ (a1.toInt = 0 ∧ x2.toInt = 0) ∨ (a1.toInt = 1 ∧ 0 < x2.toInt)) := b3; have t2 : 0 ≤ a1.toInt := b6; omega); have g2 : x2.toInt + 1 ≤ y8.toInt := (by have t1 : j10.toInt = y8.toInt := b12; have t2 : -1 ≤ a13.toInt ∧ a13.toInt ≤ 1 ∧ ((a13.toInt = -1 ∧ x2.toInt < j10.toInt) ∨ (a13.toInt = 0 ∧ x2.toInt = j10.toInt) ∨ (a13.toInt = 1 ∧ j10.toInt < x2.toInt)) := b15; have t3 : a13.toInt < 0 := b18; omega); have g3 : x2.toInt + 1 ≤ R.toInt := (by have t1 : j19.toInt = R.toInt := b21; have t2 : -1 ≤ a22.toInt ∧ a22.toInt ≤ 1 ∧ ((a22.toInt = -1 ∧ x2.toInt < j19.toInt) ∨ (a22.toInt = 0 ∧ x2.toInt = j19.toInt) ∨ (a22.toInt = 1 ∧ j19.toInt < x2.toInt)) := b24; have t3 : a22.toInt < 0 := b26; omega); unfold n_by; rw [hO7, hA34]; refine Eq.trans ?_ (if_neg (by rintro (h | h | h) <;> omega)).symm; subst e28; subst e31; subst e36; subst e38; subst e41; subst e44; subst e47; subst e49; subst e51; rfl)⟩) d_11_8_51
      ·
        have b53 : q_F (0 ≤ a22.toInt) := (q_nltI c25)
        refine lv_iconst (v := 0) hx hb d_11_8_26 (by decide) ?_
        exact q_reti C0 V (⟨rfl, (show 0 ≤ (0 : Int32).toInt from (by have z4 : (0 : Int32).toInt = 0 := rfl; omega)), (show (0 : Int32).toInt ≤ 255 from (by have z4 : (0 : Int32).toInt = 0 := rfl; omega)), (by obtain ⟨fz, hz⟩ := n_al hI hB1.2.1; unfold n_by; rw [hO7, hz]; exact (if_pos (Or.inr (Or.inr (by have t1 : j19.toInt = R.toInt := b21; have t2 : -1 ≤ a22.toInt ∧ a22.toInt ≤ 1 ∧ ((a22.toInt = -1 ∧ x2.toInt < j19.toInt) ∨ (a22.toInt = 0 ∧ x2.toInt = j19.toInt) ∨ (a22.toInt = 1 ∧ j19.toInt < x2.toInt)) := b24; have t3 : 0 ≤ a22.toInt := b53; omega)))).symm)⟩) d_11_8_27
theorem d_11_9_0 : decode prog_11_method_9_code 0 = .ok (.iload_n 1, 1) := by decide +kernel
theorem d_11_9_1 : decode prog_11_method_9_code 1 = .ok (.ifCond .lt 43, 3) := by decide +kernel
theorem d_11_9_44 : decode prog_11_method_9_code 44 = .ok (.return_, 1) := by decide +kernel
theorem d_11_9_4 : decode prog_11_method_9_code 4 = .ok (.iload_n 1, 1) := by decide +kernel
theorem d_11_9_5 : decode prog_11_method_9_code 5 = .ok (.aload_n 0, 1) := by decide +kernel
theorem d_11_9_6 : decode prog_11_method_9_code 6 = .ok (.getfield 7, 3) := by decide +kernel
theorem d_11_9_9 : decode prog_11_method_9_code 9 = .ok (.if_icmp .ge 35, 3) := by decide +kernel
theorem d_11_9_12 : decode prog_11_method_9_code 12 = .ok (.aload_n 0, 1) := by decide +kernel
theorem d_11_9_13 : decode prog_11_method_9_code 13 = .ok (.getfield 13, 3) := by decide +kernel
theorem d_11_9_16 : decode prog_11_method_9_code 16 = .ok (.iload_n 1, 1) := by decide +kernel
theorem d_11_9_17 : decode prog_11_method_9_code 17 = .ok (.iconst 3, 1) := by decide +kernel
theorem d_11_9_18 : decode prog_11_method_9_code 18 = .ok (.ishr, 1) := by decide +kernel
theorem d_11_9_19 : decode prog_11_method_9_code 19 = .ok (.dup2, 1) := by decide +kernel
theorem d_11_9_20 : decode prog_11_method_9_code 20 = .ok (.laload, 1) := by decide +kernel
theorem d_11_9_21 : decode prog_11_method_9_code 21 = .ok (.aload_n 0, 1) := by decide +kernel
theorem d_11_9_22 : decode prog_11_method_9_code 22 = .ok (.iload_n 1, 1) := by decide +kernel
theorem d_11_9_23 : decode prog_11_method_9_code 23 = .ok (.i2l, 1) := by decide +kernel
theorem d_11_9_24 : decode prog_11_method_9_code 24 = .ok (.invokevirtual 48, 3) := by decide +kernel
set_option maxRecDepth 100000 in
theorem w_482 : (Cond.code ({ cls := "NumberHouse$Sheet", name := "at", desc := "(J)I" } : MethodName) prog_11_method_8_code (3 : Nat) (some .int)) ∈ q_tbl := q_of3 2 rfl (by decide +kernel)
set_option maxRecDepth 100000 in
theorem w_1556 : (Cond.methodLink "NumberHouse$Sheet" (48 : Nat) ({ cls := "NumberHouse$Sheet", name := "at", desc := "(J)I" } : MethodName)) ∈ q_tbl := q_of7 116 rfl (by decide +kernel)
set_option maxRecDepth 100000 in
theorem w_480 : (Cond.instanceMethod ({ cls := "NumberHouse$Sheet", name := "at", desc := "(J)I" } : MethodName)) ∈ q_tbl := q_of3 0 rfl (by decide +kernel)
set_option maxRecDepth 100000 in
theorem w_481 : (Cond.selects "NumberHouse$Sheet" ({ cls := "NumberHouse$Sheet", name := "at", desc := "(J)I" } : MethodName) ({ cls := "NumberHouse$Sheet", name := "at", desc := "(J)I" } : MethodName)) ∈ q_tbl := q_of3 1 rfl (by decide +kernel)
theorem LV_She_48 : q_LV "NumberHouse$Sheet" 48 y_She_at prog_11_method_8_code 3 (some .int) 1 := ⟨w_482, w_2, w_1556, w_480, w_481, ⟨by decide, by decide, by decide +kernel⟩⟩
theorem d_11_9_27 : decode prog_11_method_9_code 27 = .ok (.iload_n 2, 1) := by decide +kernel
theorem d_11_9_28 : decode prog_11_method_9_code 28 = .ok (.sipush 255, 3) := by decide +kernel
theorem d_11_9_31 : decode prog_11_method_9_code 31 = .ok (.iand, 1) := by decide +kernel
theorem d_11_9_32 : decode prog_11_method_9_code 32 = .ok (.ixor, 1) := by decide +kernel
theorem d_11_9_33 : decode prog_11_method_9_code 33 = .ok (.i2l, 1) := by decide +kernel
theorem d_11_9_34 : decode prog_11_method_9_code 34 = .ok (.bipush 8, 2) := by decide +kernel
theorem d_11_9_36 : decode prog_11_method_9_code 36 = .ok (.iload_n 1, 1) := by decide +kernel
theorem d_11_9_37 : decode prog_11_method_9_code 37 = .ok (.bipush 7, 2) := by decide +kernel
theorem d_11_9_39 : decode prog_11_method_9_code 39 = .ok (.iand, 1) := by decide +kernel
theorem d_11_9_40 : decode prog_11_method_9_code 40 = .ok (.imul, 1) := by decide +kernel
theorem d_11_9_41 : decode prog_11_method_9_code 41 = .ok (.lshl, 1) := by decide +kernel
theorem d_11_9_42 : decode prog_11_method_9_code 42 = .ok (.lxor, 1) := by decide +kernel
theorem d_11_9_43 : decode prog_11_method_9_code 43 = .ok (.lastore, 1) := by decide +kernel
def y_She_replace : MethodName := ⟨"NumberHouse$Sheet", "replace", "(II)V"⟩
set_option maxRecDepth 100000 in
set_option maxHeartbeats 4000000 in
theorem T_She_replace (l : Launch) (D : va_G) (g : Nat → ClassId) (q : Nat → Nat) (ws : va_W) (k1 : Nat) (R N K : Int32) (hB1 : q_isShe (nsh g q) g q k1 R N K) (x2 : Int32) (x3 : Int32) (hI : q_I (nsh g q) q ws) (t0_0 : Int32) (hT0 : ws[k1]? = (some (q k1, .inr (1, [.ref (q (k1 + 1)), .int R, .int t0_0])) : Option (Nat × va_E))) : q_mV l y_She_replace prog_11_method_9_code 3 2 0 0 D g [.ref (q k1), .int x2, .int x3] ws (fun u => q_I (nsh g q) q u ∧ q_un ws u [k1 + 1] ∧ True) := by
  intro sz
  refine q_into (by decide) (Nat.le_of_ble_eq_true rfl) ?_
  intro p e s m below meth c ls hsz C0 V hl
  have hx := C0.1
  have hb := C0.2.1
  have hfk10 : q_F (0 ≤ R.toInt ∧ R.toInt ≤ 8 * N.toInt ∧ 0 ≤ N.toInt ∧ N.toInt ≤ 1376 ∧ 64 ≤ R.toInt ∧ 64 ≤ K.toInt ∧ K.toInt ≤ 1000000) := hB1.2.2.1
  obtain ⟨yy0_0, hh0, btt0_0⟩ := n_shO hI hB1
  obtain ⟨rfl⟩ : t0_0 = yy0_0 := by have z := Option.some.inj (hT0.symm.trans hh0); simpa using z
  replace btt0_0 : q_F (0 ≤ t0_0.toInt ∧ t0_0.toInt ≤ K.toInt) := btt0_0
  have hF : q_un ws ws [k1 + 1] := q_u0
  have hl : lv_has ls 3 [(0, .ref (q k1)), (1, .int x2), (2, .int x3)] := hl
  refine lv_iload_n hx hb d_11_9_0 rfl (lv_at hl 1 rfl) ?_
  refine lv_if_lt (tgt := 44) hx hb d_11_9_1 (by decide) (fun c4 => ?_) (fun c4 => ?_)
  ·
    have b5 : q_F (x2.toInt < 0) := (q_ltI c4)
    exact q_retv C0 V (⟨hI, hF, trivial⟩) d_11_9_44
  ·
    have b6 : q_F (0 ≤ x2.toInt) := (q_nltI c4)
    refine lv_iload_n hx hb d_11_9_4 rfl (lv_at hl 1 rfl) ?_
    refine lv_aload_n hx hb d_11_9_5 rfl (lv_at hl 0 rfl) ?_
    refine q_get (ci := 1) (j := 1) (v := .int R) C0 V i_She rfl rfl hT0 (by decide) w_53 rfl d_11_9_6 ?_
    refine lv_icmp_ge (tgt := 44) hx hb d_11_9_9 (by decide) (fun c7 => ?_) (fun c7 => ?_)
    ·
      have b8 : q_F (R.toInt ≤ x2.toInt) := (q_leI c7)
      exact q_retv C0 V (⟨hI, hF, trivial⟩) d_11_9_44
    ·
      have b9 : q_F (x2.toInt < R.toInt) := (q_nleI c7)
      refine lv_aload_n hx hb d_11_9_12 rfl (lv_at hl 0 rfl) ?_
      refine q_get (ci := 1) (j := 0) (v := .ref (q (k1 + 1))) C0 V i_She rfl rfl hT0 (by decide) w_52 rfl d_11_9_13 ?_
      refine lv_iload_n hx hb d_11_9_16 rfl (lv_at hl 1 rfl) ?_
      refine lv_iconst (v := 3) hx hb d_11_9_17 (by decide) ?_
      refine lv_ishr hx hb d_11_9_18 ?_
      obtain ⟨a10, e11⟩ := q_nm (x2 >>> (3 &&& 31) : Int32)
      refine q_ti (v := a10) e11 ?_
      have b12 : q_F (8 * a10.toInt ≤ x2.toInt ∧ x2.toInt ≤ 8 * a10.toInt + 7) := (by rw [← e11]; show 8 * (x2 >>> (3 &&& 31) : Int32).toInt ≤ x2.toInt ∧ x2.toInt ≤ 8 * (x2 >>> (3 &&& 31) : Int32).toInt + 7; exact n_shr (x := x2) (c := 3) 3 (by decide) (by decide) (by have t1 : 0 ≤ x2.toInt := b6; omega))
      refine lv_dup2_11 hx hb d_11_9_19 rfl rfl ?_
      obtain ⟨f13, hA14⟩ := n_al hI hB1.2.1
      refine q_lald C0 V hA14 (q_ix (x := a10.toInt) rfl (by have t1 : 0 ≤ x2.toInt := b6; have t2 : 8 * a10.toInt ≤ x2.toInt ∧ x2.toInt ≤ 8 * a10.toInt + 7 := b12; omega) (by have t1 : 0 ≤ x2.toInt := b6; have t2 : 8 * a10.toInt ≤ x2.toInt ∧ x2.toInt ≤ 8 * a10.toInt + 7 := b12; have t3 : 0 ≤ R.toInt ∧ R.toInt ≤ 8 * N.toInt ∧ 0 ≤ N.toInt ∧ N.toInt ≤ 1376 ∧ 64 ≤ R.toInt ∧ 64 ≤ K.toInt ∧ K.toInt ≤ 1000000 := hfk10; have t4 : x2.toInt < R.toInt := b9; have e9 := q_clI (i := N) rfl (by have t1 : 0 ≤ R.toInt ∧ R.toInt ≤ 8 * N.toInt ∧ 0 ≤ N.toInt ∧ N.toInt ≤ 1376 ∧ 64 ≤ R.toInt ∧ 64 ≤ K.toInt ∧ K.toInt ≤ 1000000 := hfk10; omega); omega)) d_11_9_20 ?_
      obtain ⟨j15, e16⟩ := q_nm (f13 a10.toNatClampNeg : Int64)
      refine q_tl (v := j15) e16 ?_
      refine lv_aload_n hx hb d_11_9_21 rfl (lv_at hl 0 rfl) ?_
      refine lv_iload_n hx hb d_11_9_22 rfl (lv_at hl 1 rfl) ?_
      refine lv_i2l hx hb d_11_9_23 rfl ?_
      obtain ⟨j17, e18⟩ := q_nm (x2.toInt64 : Int64)
      refine q_tl (v := j17) e18 ?_
      have b19 : q_F (j17.toInt = x2.toInt) := (by rw [← e18]; show (x2.toInt64 : Int64).toInt = x2.toInt; exact q_i2l rfl)
      refine q_goi V (q_runV (As := [.long j17]) (rest := [.long j15, .int a10, .ref (q (k1 + 1))]) (d := 1) (mc := 0) (ms := 0) (ci := 1) C0 V rfl LV_She_48 (T_She_at l D g q ws k1 R N K hB1 j17 hI   _) rfl rfl hT0 rfl hl.1 rfl (Nat.le_of_ble_eq_true rfl) ⟨by decide, by decide⟩ ⟨Nat.le_of_ble_eq_true rfl, Nat.le_of_ble_eq_true rfl⟩ d_11_9_24) (fun a22 u20 H locs hp21 V => ?_)
      obtain ⟨rfl, b23, b24, pu25⟩ := hp21
      replace b23 : q_F (0 ≤ a22.toInt) := b23
      replace b24 : q_F (a22.toInt ≤ 255) := b24
      refine lv_iload_n hx hb d_11_9_27 rfl (lv_at hl 2 rfl) ?_
      refine lv_sipush (v := 255) hx hb d_11_9_28 (by decide) ?_
      refine lv_iand hx hb d_11_9_31 ?_
      obtain ⟨a26, e27⟩ := q_nm (x3 &&& 255 : Int32)
      refine q_ti (v := a26) e27 ?_
      have b28 : q_F (0 ≤ a26.toInt ∧ a26.toInt ≤ 255) := (by rw [← e27]; show 0 ≤ (x3 &&& 255 : Int32).toInt ∧ (x3 &&& 255 : Int32).toInt ≤ 255; exact s_and (by decide))
      refine lv_ixor hx hb d_11_9_32 ?_
      obtain ⟨a29, e30⟩ := q_nm (a22 ^^^ a26 : Int32)
      refine q_ti (v := a29) e30 ?_
      have b31 : q_F (0 ≤ a29.toInt ∧ a29.toInt ≤ 255) := (by rw [← e30]; show 0 ≤ (a22 ^^^ a26 : Int32).toInt ∧ (a22 ^^^ a26 : Int32).toInt ≤ 255; exact s_xor' (x := a22) (y := a26) 8 (by decide) 255 (by decide) ⟨(by have t1 : 0 ≤ a22.toInt := b23; have t2 : a22.toInt ≤ 255 := b24; omega), (by have t1 : 0 ≤ a22.toInt := b23; have t2 : a22.toInt ≤ 255 := b24; omega)⟩ ⟨(by have t1 : 0 ≤ a26.toInt ∧ a26.toInt ≤ 255 := b28; omega), (by have t1 : 0 ≤ a26.toInt ∧ a26.toInt ≤ 255 := b28; omega)⟩)
      refine lv_i2l hx hb d_11_9_33 rfl ?_
      obtain ⟨j32, e33⟩ := q_nm (a29.toInt64 : Int64)
      refine q_tl (v := j32) e33 ?_
      have b34 : q_F (j32.toInt = a29.toInt) := (by rw [← e33]; show (a29.toInt64 : Int64).toInt = a29.toInt; exact q_i2l rfl)
      refine lv_bipush (v := 8) hx hb d_11_9_34 (by decide) ?_
      refine lv_iload_n hx hb d_11_9_36 rfl (lv_at hl 1 rfl) ?_
      refine lv_bipush (v := 7) hx hb d_11_9_37 (by decide) ?_
      refine lv_iand hx hb d_11_9_39 ?_
      obtain ⟨a35, e36⟩ := q_nm (x2 &&& 7 : Int32)
      refine q_ti (v := a35) e36 ?_
      have b37 : q_F (0 ≤ a35.toInt ∧ a35.toInt ≤ 7) := (by rw [← e36]; show 0 ≤ (x2 &&& 7 : Int32).toInt ∧ (x2 &&& 7 : Int32).toInt ≤ 7; exact s_and (by decide))
      refine lv_imul hx hb d_11_9_40 ?_
      obtain ⟨a38, e39⟩ := q_nm (8 * a35 : Int32)
      refine q_ti (v := a38) e39 ?_
      have b40 : q_F (a38.toInt = 8 * a35.toInt) := (by rw [← e39]; show (8 * a35 : Int32).toInt = 8 * a35.toInt; exact q_mulI (x := 8) (y := a35.toInt) (by decide) rfl (by have t1 : 0 ≤ a35.toInt ∧ a35.toInt ≤ 7 := b37; omega) (by have t1 : 0 ≤ a35.toInt ∧ a35.toInt ≤ 7 := b37; omega))
      refine lv_lshl hx hb d_11_9_41 rfl ?_
      obtain ⟨j41, e42⟩ := q_nm (j32 <<< (a38.toInt64 &&& 63) : Int64)
      refine q_tl (v := j41) e42 ?_
      refine lv_lxor hx hb d_11_9_42 ?_
      obtain ⟨j43, e44⟩ := q_nm (j15 ^^^ j41 : Int64)
      refine q_tl (v := j43) e44 ?_
      refine q_last C0 V hA14 (q_ix (x := a10.toInt) rfl (by have t1 : 0 ≤ x2.toInt := b6; have t2 : 8 * a10.toInt ≤ x2.toInt ∧ x2.toInt ≤ 8 * a10.toInt + 7 := b12; omega) (by have t1 : 0 ≤ x2.toInt := b6; have t2 : 8 * a10.toInt ≤ x2.toInt ∧ x2.toInt ≤ 8 * a10.toInt + 7 := b12; have t3 : 0 ≤ R.toInt ∧ R.toInt ≤ 8 * N.toInt ∧ 0 ≤ N.toInt ∧ N.toInt ≤ 1376 ∧ 64 ≤ R.toInt ∧ 64 ≤ K.toInt ∧ K.toInt ≤ 1000000 := hfk10; have t4 : x2.toInt < R.toInt := b9; have e9 := q_clI (i := N) rfl (by have t1 : 0 ≤ R.toInt ∧ R.toInt ≤ 8 * N.toInt ∧ 0 ≤ N.toInt ∧ N.toInt ≤ 1376 ∧ 64 ≤ R.toInt ∧ 64 ≤ K.toInt ∧ K.toInt ≤ 1000000 := hfk10; omega); omega)) d_11_9_43 (fun H locs w45 hu46 hA14 V => ?_)
      replace hI := n_al' hI hB1.2.1 hu46 hA14
      replace hT0 := (hu46 _ (by omega)).trans hT0
      replace hF := q_us hF hu46 (by simp)
      exact q_retv C0 V (⟨hI, hF, trivial⟩) d_11_9_44
theorem d_11_10_0 : decode prog_11_method_10_code 0 = .ok (.aload_n 0, 1) := by decide +kernel
theorem d_11_10_1 : decode prog_11_method_10_code 1 = .ok (.aload_n 0, 1) := by decide +kernel
theorem d_11_10_2 : decode prog_11_method_10_code 2 = .ok (.getfield 17, 3) := by decide +kernel
theorem d_11_10_5 : decode prog_11_method_10_code 5 = .ok (.iload_n 1, 1) := by decide +kernel
theorem d_11_10_6 : decode prog_11_method_10_code 6 = .ok (.invokestatic 56, 3) := by decide +kernel
set_option maxRecDepth 100000 in
theorem w_1860 : (Cond.methodLink "NumberHouse$Sheet" (56 : Nat) ({ cls := "java/lang/Math", name := "min", desc := "(II)I" } : MethodName)) ∈ q_tbl := q_of8 180 rfl (by decide +kernel)
theorem d_11_10_9 : decode prog_11_method_10_code 9 = .ok (.putfield 17, 3) := by decide +kernel
theorem d_11_10_12 : decode prog_11_method_10_code 12 = .ok (.return_, 1) := by decide +kernel
def y_She_cut : MethodName := ⟨"NumberHouse$Sheet", "cut", "(I)V"⟩
set_option maxRecDepth 100000 in
set_option maxHeartbeats 4000000 in
theorem T_She_cut (l : Launch) (D : va_G) (g : Nat → ClassId) (q : Nat → Nat) (ws : va_W) (k1 : Nat) (R N K : Int32) (hB1 : q_isShe (nsh g q) g q k1 R N K) (x2 : Int32) (hI : q_I (nsh g q) q ws) (t0_0 : Int32) (hT0 : ws[k1]? = (some (q k1, .inr (1, [.ref (q (k1 + 1)), .int R, .int t0_0])) : Option (Nat × va_E))) (pre0 : 0 ≤ x2.toInt) : q_mV l y_She_cut prog_11_method_10_code 2 2 0 0 D g [.ref (q k1), .int x2] ws (fun u => q_I (nsh g q) q u ∧ q_un ws u [k1] ∧ ∃ (u0_0 : Int32), u[k1]? = (some (q k1, .inr (1, [.ref (q (k1 + 1)), .int R, .int u0_0])) : Option (Nat × va_E)) ∧ (0 ≤ u0_0.toInt) ∧ (u0_0.toInt ≤ x2.toInt) ∧ (u0_0.toInt ≤ t0_0.toInt)) := by
  intro sz
  refine q_into (by decide) (Nat.le_of_ble_eq_true rfl) ?_
  intro p e s m below meth c ls hsz C0 V hl
  have hx := C0.1
  have hb := C0.2.1
  have hfk10 : q_F (0 ≤ R.toInt ∧ R.toInt ≤ 8 * N.toInt ∧ 0 ≤ N.toInt ∧ N.toInt ≤ 1376 ∧ 64 ≤ R.toInt ∧ 64 ≤ K.toInt ∧ K.toInt ≤ 1000000) := hB1.2.2.1
  obtain ⟨yy0_0, hh0, btt0_0⟩ := n_shO hI hB1
  obtain ⟨rfl⟩ : t0_0 = yy0_0 := by have z := Option.some.inj (hT0.symm.trans hh0); simpa using z
  replace btt0_0 : q_F (0 ≤ t0_0.toInt ∧ t0_0.toInt ≤ K.toInt) := btt0_0
  replace pre0 : q_F (0 ≤ x2.toInt) := pre0
  have hF : q_un ws ws [k1] := q_u0
  have hl : lv_has ls 2 [(0, .ref (q k1)), (1, .int x2)] := hl
  refine lv_aload_n hx hb d_11_10_0 rfl (lv_at hl 0 rfl) ?_
  refine lv_aload_n hx hb d_11_10_1 rfl (lv_at hl 0 rfl) ?_
  refine q_get (ci := 1) (j := 2) (v := .int t0_0) C0 V i_She rfl rfl hT0 (by decide) w_54 rfl d_11_10_2 ?_
  refine lv_iload_n hx hb d_11_10_5 rfl (lv_at hl 1 rfl) ?_
  refine q_min C0 hl.1 rfl w_1860 w_774 w_7 w_775 ⟨Nat.le_of_ble_eq_true rfl, Nat.le_of_ble_eq_true rfl⟩ ⟨Nat.le_of_ble_eq_true rfl, Nat.le_of_ble_eq_true rfl⟩ d_11_10_6 ?_
  obtain ⟨a4, e5⟩ := q_nm (if x2 < t0_0 then x2 else t0_0 : Int32)
  refine q_ti (v := a4) e5 ?_
  have b6 : q_F (a4.toInt ≤ t0_0.toInt ∧ a4.toInt ≤ x2.toInt ∧ (a4.toInt = t0_0.toInt ∨ a4.toInt = x2.toInt)) := (by rw [← e5]; show (if x2 < t0_0 then x2 else t0_0 : Int32).toInt ≤ t0_0.toInt ∧ (if x2 < t0_0 then x2 else t0_0 : Int32).toInt ≤ x2.toInt ∧ ((if x2 < t0_0 then x2 else t0_0 : Int32).toInt = t0_0.toInt ∨ (if x2 < t0_0 then x2 else t0_0 : Int32).toInt = x2.toInt); exact s_min (a := t0_0) (b := x2))
  refine q_put (ci := 1) (j := 2) (v := .int a4) (ty := .int) C0 V i_She o_She n_She rfl rfl hT0 (by decide) w_54 rfl rfl rfl rfl (Nat.le_of_ble_eq_true rfl) d_11_10_9 (fun H locs w7 hu8 hT0 V => ?_)
  replace hT0 : w7[k1]? = (some (q k1, .inr (1, [.ref (q (k1 + 1)), .int R, .int a4])) : Option (Nat × va_E)) := hT0
  replace hI := n_shO' hI hB1 hu8 hT0 ⟨(by have t1 : 0 ≤ t0_0.toInt ∧ t0_0.toInt ≤ K.toInt := btt0_0; have t2 : 0 ≤ x2.toInt := pre0; have t3 : a4.toInt ≤ t0_0.toInt ∧ a4.toInt ≤ x2.toInt ∧ (a4.toInt = t0_0.toInt ∨ a4.toInt = x2.toInt) := b6; omega), (by have t1 : 0 ≤ t0_0.toInt ∧ t0_0.toInt ≤ K.toInt := btt0_0; have t2 : a4.toInt ≤ t0_0.toInt ∧ a4.toInt ≤ x2.toInt ∧ (a4.toInt = t0_0.toInt ∨ a4.toInt = x2.toInt) := b6; omega)⟩
  replace hF := q_us hF hu8 (by simp)
  exact q_retv C0 V (⟨hI, hF, a4, hT0, (show 0 ≤ a4.toInt from (by have t1 : 0 ≤ t0_0.toInt ∧ t0_0.toInt ≤ K.toInt := btt0_0; have t2 : 0 ≤ x2.toInt := pre0; have t3 : a4.toInt ≤ t0_0.toInt ∧ a4.toInt ≤ x2.toInt ∧ (a4.toInt = t0_0.toInt ∨ a4.toInt = x2.toInt) := b6; omega)), (show a4.toInt ≤ x2.toInt from (by have t1 : a4.toInt ≤ t0_0.toInt ∧ a4.toInt ≤ x2.toInt ∧ (a4.toInt = t0_0.toInt ∨ a4.toInt = x2.toInt) := b6; omega)), (show a4.toInt ≤ t0_0.toInt from (by have t1 : a4.toInt ≤ t0_0.toInt ∧ a4.toInt ≤ x2.toInt ∧ (a4.toInt = t0_0.toInt ∨ a4.toInt = x2.toInt) := b6; omega))⟩) d_11_10_12
theorem d_11_5_0 : decode prog_11_method_5_code 0 = .ok (.iconst 0, 1) := by decide +kernel
theorem d_11_5_1 : decode prog_11_method_5_code 1 = .ok (.istore_n 3, 1) := by decide +kernel
theorem d_11_5_2 : decode prog_11_method_5_code 2 = .ok (.iload_n 3, 1) := by decide +kernel
theorem d_11_5_3 : decode prog_11_method_5_code 3 = .ok (.iload_n 2, 1) := by decide +kernel
theorem d_11_5_4 : decode prog_11_method_5_code 4 = .ok (.if_icmp .ge 14, 3) := by decide +kernel
theorem d_11_5_18 : decode prog_11_method_5_code 18 = .ok (.return_, 1) := by decide +kernel
theorem d_11_5_7 : decode prog_11_method_5_code 7 = .ok (.aload_n 0, 1) := by decide +kernel
theorem d_11_5_8 : decode prog_11_method_5_code 8 = .ok (.iload_n 1, 1) := by decide +kernel
theorem d_11_5_9 : decode prog_11_method_5_code 9 = .ok (.invokevirtual 34, 3) := by decide +kernel
set_option maxRecDepth 100000 in
theorem w_564 : (Cond.code ({ cls := "NumberHouse$Sheet", name := "add", desc := "(I)V" } : MethodName) prog_11_method_3_code (3 : Nat) (none : Option ClassFile.FieldType)) ∈ q_tbl := q_of3 84 rfl (by decide +kernel)
set_option maxRecDepth 100000 in
theorem w_1587 : (Cond.methodLink "NumberHouse$Sheet" (34 : Nat) ({ cls := "NumberHouse$Sheet", name := "add", desc := "(I)V" } : MethodName)) ∈ q_tbl := q_of7 147 rfl (by decide +kernel)
set_option maxRecDepth 100000 in
theorem w_562 : (Cond.instanceMethod ({ cls := "NumberHouse$Sheet", name := "add", desc := "(I)V" } : MethodName)) ∈ q_tbl := q_of3 82 rfl (by decide +kernel)
set_option maxRecDepth 100000 in
theorem w_563 : (Cond.selects "NumberHouse$Sheet" ({ cls := "NumberHouse$Sheet", name := "add", desc := "(I)V" } : MethodName) ({ cls := "NumberHouse$Sheet", name := "add", desc := "(I)V" } : MethodName)) ∈ q_tbl := q_of3 83 rfl (by decide +kernel)
theorem LV_She_34 : q_LV "NumberHouse$Sheet" 34 y_She_add prog_11_method_3_code 3 none 1 := ⟨w_564, w_2, w_1587, w_562, w_563, ⟨by decide, by decide, by decide +kernel⟩⟩
theorem d_11_5_12 : decode prog_11_method_5_code 12 = .ok (.iinc 3 1, 3) := by decide +kernel
theorem d_11_5_15 : decode prog_11_method_5_code 15 = .ok (.goto (-13), 3) := by decide +kernel
def y_She_addTimes : MethodName := ⟨"NumberHouse$Sheet", "addTimes", "(II)V"⟩
set_option maxRecDepth 100000 in
set_option maxHeartbeats 4000000 in
theorem T_She_addTimes (l : Launch) (D : va_G) (g : Nat → ClassId) (q : Nat → Nat) (ws : va_W) (k1 : Nat) (R N K : Int32) (hB1 : q_isShe (nsh g q) g q k1 R N K) (x2 : Int32) (x3 : Int32) (hI : q_I (nsh g q) q ws) (t0_0 : Int32) (hT0 : ws[k1]? = (some (q k1, .inr (1, [.ref (q (k1 + 1)), .int R, .int t0_0])) : Option (Nat × va_E))) (pre0 : t0_0.toInt + 20000 ≤ K.toInt) (pre1 : x3.toInt ≤ 20000) : q_mV l y_She_addTimes prog_11_method_5_code 4 2 0 0 D g [.ref (q k1), .int x2, .int x3] ws (fun u => q_I (nsh g q) q u ∧ q_un ws u [k1, k1 + 1] ∧ ∃ (u0_0 : Int32), u[k1]? = (some (q k1, .inr (1, [.ref (q (k1 + 1)), .int R, .int u0_0])) : Option (Nat × va_E)) ∧ (x3.toInt ≤ u0_0.toInt) ∧ (t0_0.toInt ≤ u0_0.toInt) ∧ (u0_0.toInt ≤ t0_0.toInt + 20000)) := by
  intro sz
  refine q_into (by decide) (Nat.le_of_ble_eq_true rfl) ?_
  intro p e s m below meth c ls hsz C0 V hl
  have hx := C0.1
  have hb := C0.2.1
  have hfk10 : q_F (0 ≤ R.toInt ∧ R.toInt ≤ 8 * N.toInt ∧ 0 ≤ N.toInt ∧ N.toInt ≤ 1376 ∧ 64 ≤ R.toInt ∧ 64 ≤ K.toInt ∧ K.toInt ≤ 1000000) := hB1.2.2.1
  obtain ⟨yy0_0, hh0, btt0_0⟩ := n_shO hI hB1
  obtain ⟨rfl⟩ : t0_0 = yy0_0 := by have z := Option.some.inj (hT0.symm.trans hh0); simpa using z
  replace btt0_0 : q_F (0 ≤ t0_0.toInt ∧ t0_0.toInt ≤ K.toInt) := btt0_0
  replace pre0 : q_F (t0_0.toInt + 20000 ≤ K.toInt) := pre0
  replace pre1 : q_F (x3.toInt ≤ 20000) := pre1
  have hF : q_un ws ws [k1, k1 + 1] := q_u0
  have hl : lv_has ls 4 [(0, .ref (q k1)), (1, .int x2), (2, .int x3)] := hl
  refine lv_iconst (v := 0) hx hb d_11_5_0 (by decide) ?_
  refine lv_istore_n (lv' := [(3, .int 0), (0, .ref (q k1)), (1, .int x2), (2, .int x3)]) hx hb d_11_5_1 rfl hl (by decide) rfl (fun ls hl => ?_)
  refine q_loop (X := Int32 × Int32) (fun z H locs ls w12 => q_F (z.1.toInt ≤ 20000) ∧ q_F (t0_0.toInt ≤ z.1.toInt + z.2.toInt) ∧ q_F (z.2.toInt ≤ z.1.toInt + t0_0.toInt) ∧ q_F (z.1.toInt + t0_0.toInt ≤ z.2.toInt) ∧ q_Wd D g (va_A ws sz) s w12 H locs ∧ lv_has ls 4 [(3, .int z.1), (0, .ref (q k1)), (1, .int x2), (2, .int x3)] ∧ q_I (nsh g q) q w12 ∧ q_un ws w12 [k1, k1 + 1] ∧ w12[k1]? = (some (q k1, .inr (1, [.ref (q (k1 + 1)), .int R, .int z.2])) : Option (Nat × va_E))) (fun z => (20000 - z.1.toInt).toNat) ?_ ((0 : Int32), (t0_0 : Int32)) _ _ _ ws ⟨(show q_F (0 ≤ 20000) from (show 0 ≤ 20000 from by omega)), (show q_F (t0_0.toInt ≤ 0 + t0_0.toInt) from (show t0_0.toInt ≤ 0 + t0_0.toInt from by omega)), (show q_F (t0_0.toInt ≤ 0 + t0_0.toInt) from (show t0_0.toInt ≤ 0 + t0_0.toInt from by omega)), (show q_F (0 + t0_0.toInt ≤ t0_0.toInt) from (show 0 + t0_0.toInt ≤ t0_0.toInt from by omega)), V, q_lw hl (q_lw1 0 rfl (q_lw1 1 rfl (q_lw1 2 rfl (q_lw1 3 rfl q_lw0)))), hI, hF, hT0⟩
  rintro ⟨lx5, lx6⟩ H locs ls w12 ⟨i7, i8, i9, i10, V, hl, hI, hF, hO13⟩ ih11
  replace i7 : q_F (lx5.toInt ≤ 20000) := i7
  replace i8 : q_F (t0_0.toInt ≤ lx5.toInt + lx6.toInt) := i8
  replace i9 : q_F (lx6.toInt ≤ lx5.toInt + t0_0.toInt) := i9
  replace i10 : q_F (lx5.toInt + t0_0.toInt ≤ lx6.toInt) := i10
  replace hl : lv_has ls 4 [(3, .int lx5), (0, .ref (q k1)), (1, .int x2), (2, .int x3)] := hl
  replace hO13 : w12[k1]? = (some (q k1, .inr (1, [.ref (q (k1 + 1)), .int R, .int lx6])) : Option (Nat × va_E)) := hO13
  refine lv_iload_n hx hb d_11_5_2 rfl (lv_at hl 0 rfl) ?_
  refine lv_iload_n hx hb d_11_5_3 rfl (lv_at hl 3 rfl) ?_
  refine lv_icmp_ge (tgt := 18) hx hb d_11_5_4 (by decide) (fun c14 => ?_) (fun c14 => ?_)
  ·
    have b15 : q_F (x3.toInt ≤ lx5.toInt) := (q_leI c14)
    exact q_retv C0 V (⟨hI, hF, lx6, hO13, (show x3.toInt ≤ lx6.toInt from (by have t1 : 0 ≤ t0_0.toInt ∧ t0_0.toInt ≤ K.toInt := btt0_0; have t2 : lx5.toInt + t0_0.toInt ≤ lx6.toInt := i10; have t3 : x3.toInt ≤ lx5.toInt := b15; omega)), (show t0_0.toInt ≤ lx6.toInt from (by have t1 : t0_0.toInt ≤ lx5.toInt + lx6.toInt := i8; have t2 : lx5.toInt + t0_0.toInt ≤ lx6.toInt := i10; omega)), (show lx6.toInt ≤ t0_0.toInt + 20000 from (by have t1 : lx5.toInt ≤ 20000 := i7; have t2 : lx6.toInt ≤ lx5.toInt + t0_0.toInt := i9; omega))⟩) d_11_5_18
  ·
    have b16 : q_F (lx5.toInt < x3.toInt) := (q_nleI c14)
    refine lv_aload_n hx hb d_11_5_7 rfl (lv_at hl 1 rfl) ?_
    refine lv_iload_n hx hb d_11_5_8 rfl (lv_at hl 2 rfl) ?_
    refine q_gov V (q_runV (As := [.int x2]) (rest := []) (d := 1) (mc := 0) (ms := 0) (ci := 1) C0 V rfl LV_She_34 (T_She_add l D g q w12 k1 R N K hB1 x2 hI lx6 hO13 (by have t1 : t0_0.toInt + 20000 ≤ K.toInt := pre0; have t2 : x3.toInt ≤ 20000 := pre1; have t3 : lx6.toInt ≤ lx5.toInt + t0_0.toInt := i9; have t4 : lx5.toInt < x3.toInt := b16; omega) _) rfl rfl hO13 rfl hl.1 rfl (Nat.le_of_ble_eq_true rfl) ⟨by decide, by decide⟩ ⟨Nat.le_of_ble_eq_true rfl, Nat.le_of_ble_eq_true rfl⟩ d_11_5_9) (fun u17 H locs hp18 V => ?_)
    obtain ⟨hI, hu23, y20, hO19, b21, b22⟩ := hp18
    replace hO19 : u17[k1]? = (some (q k1, .inr (1, [.ref (q (k1 + 1)), .int R, .int y20])) : Option (Nat × va_E)) := hO19
    replace b21 : q_F (lx6.toInt + 1 ≤ y20.toInt) := b21
    replace b22 : q_F (y20.toInt ≤ lx6.toInt + 1) := b22
    replace hF := q_uc hF hu23 (by simp)
    obtain ⟨a24, e25⟩ := q_nm (lx5 + 1 : Int32)
    have b26 : q_F (a24.toInt = lx5.toInt + 1) := (by rw [← e25]; exact q_addI (y := 1) rfl (by decide) (by have t1 : t0_0.toInt ≤ lx5.toInt + lx6.toInt := i8; have t2 : lx6.toInt ≤ lx5.toInt + t0_0.toInt := i9; have t3 : lx5.toInt ≤ 20000 := i7; omega) (by have t1 : t0_0.toInt ≤ lx5.toInt + lx6.toInt := i8; have t2 : lx6.toInt ≤ lx5.toInt + t0_0.toInt := i9; have t3 : lx5.toInt ≤ 20000 := i7; omega))
    refine lv_iinc (v := a24) (lv' := [(3, .int a24), (0, .ref (q k1)), (1, .int x2), (2, .int x3)]) hx hb d_11_5_12 hl (k := 0) rfl (e25) (by decide) rfl (fun ls hl => ?_)
    refine lv_goto (tgt := 2) hx hb d_11_5_15 (by decide) ?_
    exact ih11 ((a24 : Int32), (y20 : Int32)) _ _ _ _ (show (20000 - a24.toInt).toNat < (20000 - lx5.toInt).toNat from by have t1 : a24.toInt = lx5.toInt + 1 := b26; have t2 : lx5.toInt ≤ 20000 := i7; have t3 : x3.toInt ≤ 20000 := pre1; have t4 : lx5.toInt < x3.toInt := b16; omega) ⟨(show q_F (a24.toInt ≤ 20000) from (show a24.toInt ≤ 20000 from by have t1 : x3.toInt ≤ 20000 := pre1; have t2 : lx5.toInt < x3.toInt := b16; have t3 : a24.toInt = lx5.toInt + 1 := b26; omega)), (show q_F (t0_0.toInt ≤ a24.toInt + y20.toInt) from (show t0_0.toInt ≤ a24.toInt + y20.toInt from by have t1 : t0_0.toInt ≤ lx5.toInt + lx6.toInt := i8; have t2 : lx6.toInt + 1 ≤ y20.toInt := b21; have t3 : a24.toInt = lx5.toInt + 1 := b26; omega)), (show q_F (y20.toInt ≤ a24.toInt + t0_0.toInt) from (show y20.toInt ≤ a24.toInt + t0_0.toInt from by have t1 : lx6.toInt ≤ lx5.toInt + t0_0.toInt := i9; have t2 : y20.toInt ≤ lx6.toInt + 1 := b22; have t3 : a24.toInt = lx5.toInt + 1 := b26; omega)), (show q_F (a24.toInt + t0_0.toInt ≤ y20.toInt) from (show a24.toInt + t0_0.toInt ≤ y20.toInt from by have t1 : lx5.toInt + t0_0.toInt ≤ lx6.toInt := i10; have t2 : lx6.toInt + 1 ≤ y20.toInt := b21; have t3 : a24.toInt = lx5.toInt + 1 := b26; omega)), V, q_lw hl (q_lw1 0 rfl (q_lw1 1 rfl (q_lw1 2 rfl (q_lw1 3 rfl q_lw0)))), hI, hF, hO19⟩
theorem d_11_7_0 : decode prog_11_method_7_code 0 = .ok (.iload_n 1, 1) := by decide +kernel
theorem d_11_7_1 : decode prog_11_method_7_code 1 = .ok (.istore_n 2, 1) := by decide +kernel
theorem d_11_7_2 : decode prog_11_method_7_code 2 = .ok (.aload_n 0, 1) := by decide +kernel
theorem d_11_7_3 : decode prog_11_method_7_code 3 = .ok (.getfield 17, 3) := by decide +kernel
theorem d_11_7_6 : decode prog_11_method_7_code 6 = .ok (.iconst 1, 1) := by decide +kernel
theorem d_11_7_7 : decode prog_11_method_7_code 7 = .ok (.isub, 1) := by decide +kernel
theorem d_11_7_8 : decode prog_11_method_7_code 8 = .ok (.istore_n 3, 1) := by decide +kernel
theorem d_11_7_9 : decode prog_11_method_7_code 9 = .ok (.iload_n 2, 1) := by decide +kernel
theorem d_11_7_10 : decode prog_11_method_7_code 10 = .ok (.iload_n 3, 1) := by decide +kernel
theorem d_11_7_11 : decode prog_11_method_7_code 11 = .ok (.if_icmp .ge 38, 3) := by decide +kernel
theorem d_11_7_49 : decode prog_11_method_7_code 49 = .ok (.return_, 1) := by decide +kernel
theorem d_11_7_14 : decode prog_11_method_7_code 14 = .ok (.aload_n 0, 1) := by decide +kernel
theorem d_11_7_15 : decode prog_11_method_7_code 15 = .ok (.iload_n 2, 1) := by decide +kernel
theorem d_11_7_16 : decode prog_11_method_7_code 16 = .ok (.i2l, 1) := by decide +kernel
theorem d_11_7_17 : decode prog_11_method_7_code 17 = .ok (.invokevirtual 48, 3) := by decide +kernel
theorem d_11_7_20 : decode prog_11_method_7_code 20 = .ok (.istore 4, 2) := by decide +kernel
theorem d_11_7_22 : decode prog_11_method_7_code 22 = .ok (.aload_n 0, 1) := by decide +kernel
theorem d_11_7_23 : decode prog_11_method_7_code 23 = .ok (.iload_n 2, 1) := by decide +kernel
theorem d_11_7_24 : decode prog_11_method_7_code 24 = .ok (.aload_n 0, 1) := by decide +kernel
theorem d_11_7_25 : decode prog_11_method_7_code 25 = .ok (.iload_n 3, 1) := by decide +kernel
theorem d_11_7_26 : decode prog_11_method_7_code 26 = .ok (.i2l, 1) := by decide +kernel
theorem d_11_7_27 : decode prog_11_method_7_code 27 = .ok (.invokevirtual 48, 3) := by decide +kernel
theorem d_11_7_30 : decode prog_11_method_7_code 30 = .ok (.invokevirtual 52, 3) := by decide +kernel
set_option maxRecDepth 100000 in
theorem w_1560 : (Cond.code ({ cls := "NumberHouse$Sheet", name := "replace", desc := "(II)V" } : MethodName) prog_11_method_9_code (3 : Nat) (none : Option ClassFile.FieldType)) ∈ q_tbl := q_of7 120 rfl (by decide +kernel)
set_option maxRecDepth 100000 in
theorem w_1557 : (Cond.methodLink "NumberHouse$Sheet" (52 : Nat) ({ cls := "NumberHouse$Sheet", name := "replace", desc := "(II)V" } : MethodName)) ∈ q_tbl := q_of7 117 rfl (by decide +kernel)
set_option maxRecDepth 100000 in
theorem w_1558 : (Cond.instanceMethod ({ cls := "NumberHouse$Sheet", name := "replace", desc := "(II)V" } : MethodName)) ∈ q_tbl := q_of7 118 rfl (by decide +kernel)
set_option maxRecDepth 100000 in
theorem w_1559 : (Cond.selects "NumberHouse$Sheet" ({ cls := "NumberHouse$Sheet", name := "replace", desc := "(II)V" } : MethodName) ({ cls := "NumberHouse$Sheet", name := "replace", desc := "(II)V" } : MethodName)) ∈ q_tbl := q_of7 119 rfl (by decide +kernel)
theorem LV_She_52 : q_LV "NumberHouse$Sheet" 52 y_She_replace prog_11_method_9_code 3 none 2 := ⟨w_1560, w_2, w_1557, w_1558, w_1559, ⟨by decide, by decide, by decide +kernel⟩⟩
theorem d_11_7_33 : decode prog_11_method_7_code 33 = .ok (.aload_n 0, 1) := by decide +kernel
theorem d_11_7_34 : decode prog_11_method_7_code 34 = .ok (.iload_n 3, 1) := by decide +kernel
theorem d_11_7_35 : decode prog_11_method_7_code 35 = .ok (.iload 4, 2) := by decide +kernel
theorem d_11_7_37 : decode prog_11_method_7_code 37 = .ok (.invokevirtual 52, 3) := by decide +kernel
theorem d_11_7_40 : decode prog_11_method_7_code 40 = .ok (.iinc 2 1, 3) := by decide +kernel
theorem d_11_7_43 : decode prog_11_method_7_code 43 = .ok (.iinc 3 (-1), 3) := by decide +kernel
theorem d_11_7_46 : decode prog_11_method_7_code 46 = .ok (.goto (-37), 3) := by decide +kernel
def y_She_turn : MethodName := ⟨"NumberHouse$Sheet", "turn", "(I)V"⟩
set_option maxRecDepth 100000 in
set_option maxHeartbeats 4000000 in
theorem T_She_turn (l : Launch) (D : va_G) (g : Nat → ClassId) (q : Nat → Nat) (ws : va_W) (k1 : Nat) (R N K : Int32) (hB1 : q_isShe (nsh g q) g q k1 R N K) (x2 : Int32) (hI : q_I (nsh g q) q ws) (t0_0 : Int32) (hT0 : ws[k1]? = (some (q k1, .inr (1, [.ref (q (k1 + 1)), .int R, .int t0_0])) : Option (Nat × va_E))) : q_mV l y_She_turn prog_11_method_7_code 5 3 0 0 D g [.ref (q k1), .int x2] ws (fun u => q_I (nsh g q) q u ∧ q_un ws u [k1 + 1] ∧ True) := by
  intro sz
  refine q_into (by decide) (Nat.le_of_ble_eq_true rfl) ?_
  intro p e s m below meth c ls hsz C0 V hl
  have hx := C0.1
  have hb := C0.2.1
  have hfk10 : q_F (0 ≤ R.toInt ∧ R.toInt ≤ 8 * N.toInt ∧ 0 ≤ N.toInt ∧ N.toInt ≤ 1376 ∧ 64 ≤ R.toInt ∧ 64 ≤ K.toInt ∧ K.toInt ≤ 1000000) := hB1.2.2.1
  obtain ⟨yy0_0, hh0, btt0_0⟩ := n_shO hI hB1
  obtain ⟨rfl⟩ : t0_0 = yy0_0 := by have z := Option.some.inj (hT0.symm.trans hh0); simpa using z
  replace btt0_0 : q_F (0 ≤ t0_0.toInt ∧ t0_0.toInt ≤ K.toInt) := btt0_0
  have hF : q_un ws ws [k1 + 1] := q_u0
  have hl : lv_has ls 5 [(0, .ref (q k1)), (1, .int x2)] := hl
  refine lv_iload_n hx hb d_11_7_0 rfl (lv_at hl 1 rfl) ?_
  refine lv_istore_n (lv' := [(2, .int x2), (0, .ref (q k1)), (1, .int x2)]) hx hb d_11_7_1 rfl hl (by decide) rfl (fun ls hl => ?_)
  refine lv_aload_n hx hb d_11_7_2 rfl (lv_at hl 1 rfl) ?_
  refine q_get (ci := 1) (j := 2) (v := .int t0_0) C0 V i_She rfl rfl hT0 (by decide) w_54 rfl d_11_7_3 ?_
  refine lv_iconst (v := 1) hx hb d_11_7_6 (by decide) ?_
  refine lv_isub hx hb d_11_7_7 ?_
  obtain ⟨a4, e5⟩ := q_nm (t0_0 - 1 : Int32)
  refine q_ti (v := a4) e5 ?_
  have b6 : q_F (a4.toInt = t0_0.toInt - 1) := (by rw [← e5]; show (t0_0 - 1 : Int32).toInt = t0_0.toInt - 1; exact q_subI (x := t0_0.toInt) (y := 1) rfl (by decide) (by have t1 : 0 ≤ t0_0.toInt ∧ t0_0.toInt ≤ K.toInt := btt0_0; have _ := q_lo32 (x := K); have _ := q_hi32 (x := K); omega) (by have t1 : 0 ≤ t0_0.toInt ∧ t0_0.toInt ≤ K.toInt := btt0_0; have _ := q_lo32 (x := K); have _ := q_hi32 (x := K); omega))
  refine lv_istore_n (lv' := [(3, .int a4), (2, .int x2), (0, .ref (q k1)), (1, .int x2)]) hx hb d_11_7_8 rfl hl (by decide) rfl (fun ls hl => ?_)
  refine q_loop (X := Int32 × Int32) (fun z H locs ls w13 => q_F (a4.toInt + x2.toInt ≤ z.1.toInt + z.2.toInt) ∧ q_F (z.1.toInt + z.2.toInt ≤ a4.toInt + x2.toInt) ∧ q_F (z.1.toInt + x2.toInt ≤ z.2.toInt + a4.toInt) ∧ q_Wd D g (va_A ws sz) s w13 H locs ∧ lv_has ls 5 [(3, .int z.1), (2, .int z.2), (0, .ref (q k1))] ∧ q_I (nsh g q) q w13 ∧ q_un ws w13 [k1 + 1] ∧ w13[k1]? = (some (q k1, .inr (1, [.ref (q (k1 + 1)), .int R, .int t0_0])) : Option (Nat × va_E))) (fun z => (z.1.toInt - (x2.toInt)).toNat) ?_ ((a4 : Int32), (x2 : Int32)) _ _ _ ws ⟨(show q_F (a4.toInt + x2.toInt ≤ a4.toInt + x2.toInt) from (show a4.toInt + x2.toInt ≤ a4.toInt + x2.toInt from by omega)), (show q_F (a4.toInt + x2.toInt ≤ a4.toInt + x2.toInt) from (show a4.toInt + x2.toInt ≤ a4.toInt + x2.toInt from by omega)), (show q_F (a4.toInt + x2.toInt ≤ x2.toInt + a4.toInt) from (show a4.toInt + x2.toInt ≤ x2.toInt + a4.toInt from by omega)), V, q_lw hl (q_lw1 0 rfl (q_lw1 1 rfl (q_lw1 2 rfl q_lw0))), hI, hF, hT0⟩
  rintro ⟨lx7, lx8⟩ H locs ls w13 ⟨i9, i10, i11, V, hl, hI, hF, hO14⟩ ih12
  replace i9 : q_F (a4.toInt + x2.toInt ≤ lx7.toInt + lx8.toInt) := i9
  replace i10 : q_F (lx7.toInt + lx8.toInt ≤ a4.toInt + x2.toInt) := i10
  replace i11 : q_F (lx7.toInt + x2.toInt ≤ lx8.toInt + a4.toInt) := i11
  replace hl : lv_has ls 5 [(3, .int lx7), (2, .int lx8), (0, .ref (q k1))] := hl
  replace hO14 : w13[k1]? = (some (q k1, .inr (1, [.ref (q (k1 + 1)), .int R, .int t0_0])) : Option (Nat × va_E)) := hO14
  refine lv_iload_n hx hb d_11_7_9 rfl (lv_at hl 1 rfl) ?_
  refine lv_iload_n hx hb d_11_7_10 rfl (lv_at hl 0 rfl) ?_
  refine lv_icmp_ge (tgt := 49) hx hb d_11_7_11 (by decide) (fun c15 => ?_) (fun c15 => ?_)
  ·
    have b16 : q_F (lx7.toInt ≤ lx8.toInt) := (q_leI c15)
    exact q_retv C0 V (⟨hI, hF, trivial⟩) d_11_7_49
  ·
    have b17 : q_F (lx8.toInt < lx7.toInt) := (q_nleI c15)
    refine lv_aload_n hx hb d_11_7_14 rfl (lv_at hl 2 rfl) ?_
    refine lv_iload_n hx hb d_11_7_15 rfl (lv_at hl 1 rfl) ?_
    refine lv_i2l hx hb d_11_7_16 rfl ?_
    obtain ⟨j18, e19⟩ := q_nm (lx8.toInt64 : Int64)
    refine q_tl (v := j18) e19 ?_
    have b20 : q_F (j18.toInt = lx8.toInt) := (by rw [← e19]; show (lx8.toInt64 : Int64).toInt = lx8.toInt; exact q_i2l rfl)
    refine q_goi V (q_runV (As := [.long j18]) (rest := []) (d := 1) (mc := 0) (ms := 0) (ci := 1) C0 V rfl LV_She_48 (T_She_at l D g q w13 k1 R N K hB1 j18 hI   _) rfl rfl hO14 rfl hl.1 rfl (Nat.le_of_ble_eq_true rfl) ⟨by decide, by decide⟩ ⟨Nat.le_of_ble_eq_true rfl, Nat.le_of_ble_eq_true rfl⟩ d_11_7_17) (fun a23 u21 H locs hp22 V => ?_)
    obtain ⟨rfl, b24, b25, pu26⟩ := hp22
    replace b24 : q_F (0 ≤ a23.toInt) := b24
    replace b25 : q_F (a23.toInt ≤ 255) := b25
    refine lv_istore (lv' := [(4, .int a23), (3, .int lx7), (2, .int lx8), (0, .ref (q k1))]) hx hb d_11_7_20 hl (by decide) rfl (fun ls hl => ?_)
    refine lv_aload_n hx hb d_11_7_22 rfl (lv_at hl 3 rfl) ?_
    refine lv_iload_n hx hb d_11_7_23 rfl (lv_at hl 2 rfl) ?_
    refine lv_aload_n hx hb d_11_7_24 rfl (lv_at hl 3 rfl) ?_
    refine lv_iload_n hx hb d_11_7_25 rfl (lv_at hl 1 rfl) ?_
    refine lv_i2l hx hb d_11_7_26 rfl ?_
    obtain ⟨j27, e28⟩ := q_nm (lx7.toInt64 : Int64)
    refine q_tl (v := j27) e28 ?_
    have b29 : q_F (j27.toInt = lx7.toInt) := (by rw [← e28]; show (lx7.toInt64 : Int64).toInt = lx7.toInt; exact q_i2l rfl)
    refine q_goi V (q_runV (As := [.long j27]) (rest := [.int lx8, .ref (q k1)]) (d := 1) (mc := 0) (ms := 0) (ci := 1) C0 V rfl LV_She_48 (T_She_at l D g q w13 k1 R N K hB1 j27 hI   _) rfl rfl hO14 rfl hl.1 rfl (Nat.le_of_ble_eq_true rfl) ⟨by decide, by decide⟩ ⟨Nat.le_of_ble_eq_true rfl, Nat.le_of_ble_eq_true rfl⟩ d_11_7_27) (fun a32 u30 H locs hp31 V => ?_)
    obtain ⟨rfl, b33, b34, pu35⟩ := hp31
    replace b33 : q_F (0 ≤ a32.toInt) := b33
    replace b34 : q_F (a32.toInt ≤ 255) := b34
    refine q_gov V (q_runV (As := [.int lx8, .int a32]) (rest := []) (d := 2) (mc := 0) (ms := 0) (ci := 1) C0 V rfl LV_She_52 (T_She_replace l D g q w13 k1 R N K hB1 lx8 a32 hI t0_0 hO14  _) rfl rfl hO14 rfl hl.1 rfl (Nat.le_of_ble_eq_true rfl) ⟨by decide, by decide⟩ ⟨Nat.le_of_ble_eq_true rfl, Nat.le_of_ble_eq_true rfl⟩ d_11_7_30) (fun u36 H locs hp37 V => ?_)
    obtain ⟨hI, hu38, -⟩ := hp37
    replace hO14 := (hu38 _ (by have z0 := hB1.2.2.2; simp only [List.mem_cons, List.not_mem_nil, or_false, not_or]; omega)).trans hO14
    replace hF := q_uc hF hu38 (by simp)
    refine lv_aload_n hx hb d_11_7_33 rfl (lv_at hl 3 rfl) ?_
    refine lv_iload_n hx hb d_11_7_34 rfl (lv_at hl 1 rfl) ?_
    refine lv_iload hx hb d_11_7_35 (lv_at hl 0 rfl) ?_
    refine q_gov V (q_runV (As := [.int lx7, .int a23]) (rest := []) (d := 2) (mc := 0) (ms := 0) (ci := 1) C0 V rfl LV_She_52 (T_She_replace l D g q u36 k1 R N K hB1 lx7 a23 hI t0_0 hO14  _) rfl rfl hO14 rfl hl.1 rfl (Nat.le_of_ble_eq_true rfl) ⟨by decide, by decide⟩ ⟨Nat.le_of_ble_eq_true rfl, Nat.le_of_ble_eq_true rfl⟩ d_11_7_37) (fun u39 H locs hp40 V => ?_)
    obtain ⟨hI, hu41, -⟩ := hp40
    replace hO14 := (hu41 _ (by have z0 := hB1.2.2.2; simp only [List.mem_cons, List.not_mem_nil, or_false, not_or]; omega)).trans hO14
    replace hF := q_uc hF hu41 (by simp)
    obtain ⟨a42, e43⟩ := q_nm (lx8 + 1 : Int32)
    have b44 : q_F (a42.toInt = lx8.toInt + 1) := (by rw [← e43]; exact q_addI (y := 1) rfl (by decide) (by have _ := q_lo32 (x := lx8); have _ := q_hi32 (x := lx8); have t1 : lx7.toInt + lx8.toInt ≤ a4.toInt + x2.toInt := i10; have t2 : lx7.toInt + x2.toInt ≤ lx8.toInt + a4.toInt := i11; have t3 : lx8.toInt < lx7.toInt := b17; have _ := q_lo32 (x := a4); have _ := q_hi32 (x := a4); omega) (by have _ := q_lo32 (x := lx8); have _ := q_hi32 (x := lx8); have t1 : lx7.toInt + lx8.toInt ≤ a4.toInt + x2.toInt := i10; have t2 : lx7.toInt + x2.toInt ≤ lx8.toInt + a4.toInt := i11; have t3 : lx8.toInt < lx7.toInt := b17; have _ := q_lo32 (x := a4); have _ := q_hi32 (x := a4); omega))
    refine lv_iinc (v := a42) (lv' := [(2, .int a42), (4, .int a23), (3, .int lx7), (0, .ref (q k1))]) hx hb d_11_7_40 hl (k := 2) rfl (e43) (by decide) rfl (fun ls hl => ?_)
    obtain ⟨a45, e46⟩ := q_nm (lx7 + (-1) : Int32)
    have b47 : q_F (a45.toInt = lx7.toInt + (-1)) := (by rw [← e46]; exact q_addI (y := (-1)) rfl (by decide) (by have t1 : lx8.toInt < lx7.toInt := b17; have _ := q_lo32 (x := lx8); have _ := q_hi32 (x := lx8); have t2 : lx7.toInt + lx8.toInt ≤ a4.toInt + x2.toInt := i10; have t3 : lx7.toInt + x2.toInt ≤ lx8.toInt + a4.toInt := i11; have _ := q_lo32 (x := a4); have _ := q_hi32 (x := a4); omega) (by have t1 : lx8.toInt < lx7.toInt := b17; have _ := q_lo32 (x := lx8); have _ := q_hi32 (x := lx8); have t2 : lx7.toInt + lx8.toInt ≤ a4.toInt + x2.toInt := i10; have t3 : lx7.toInt + x2.toInt ≤ lx8.toInt + a4.toInt := i11; have _ := q_lo32 (x := a4); have _ := q_hi32 (x := a4); omega))
    refine lv_iinc (v := a45) (lv' := [(3, .int a45), (2, .int a42), (4, .int a23), (0, .ref (q k1))]) hx hb d_11_7_43 hl (k := 2) rfl (e46) (by decide) rfl (fun ls hl => ?_)
    refine lv_goto (tgt := 9) hx hb d_11_7_46 (by decide) ?_
    exact ih12 ((a45 : Int32), (a42 : Int32)) _ _ _ _ (show (a45.toInt - (x2.toInt)).toNat < (lx7.toInt - (x2.toInt)).toNat from by have t1 : a45.toInt = lx7.toInt + (-1) := b47; have t2 : a4.toInt + x2.toInt ≤ lx7.toInt + lx8.toInt := i9; have t3 : lx7.toInt + x2.toInt ≤ lx8.toInt + a4.toInt := i11; have t4 : lx8.toInt < lx7.toInt := b17; omega) ⟨(show q_F (a4.toInt + x2.toInt ≤ a45.toInt + a42.toInt) from (show a4.toInt + x2.toInt ≤ a45.toInt + a42.toInt from by have t1 : a4.toInt + x2.toInt ≤ lx7.toInt + lx8.toInt := i9; have t2 : a42.toInt = lx8.toInt + 1 := b44; have t3 : a45.toInt = lx7.toInt + (-1) := b47; omega)), (show q_F (a45.toInt + a42.toInt ≤ a4.toInt + x2.toInt) from (show a45.toInt + a42.toInt ≤ a4.toInt + x2.toInt from by have t1 : lx7.toInt + lx8.toInt ≤ a4.toInt + x2.toInt := i10; have t2 : a42.toInt = lx8.toInt + 1 := b44; have t3 : a45.toInt = lx7.toInt + (-1) := b47; omega)), (show q_F (a45.toInt + x2.toInt ≤ a42.toInt + a4.toInt) from (show a45.toInt + x2.toInt ≤ a42.toInt + a4.toInt from by have t1 : lx7.toInt + x2.toInt ≤ lx8.toInt + a4.toInt := i11; have t2 : a42.toInt = lx8.toInt + 1 := b44; have t3 : a45.toInt = lx7.toInt + (-1) := b47; omega)), V, q_lw hl (q_lw1 0 rfl (q_lw1 1 rfl (q_lw1 3 rfl q_lw0))), hI, hF, hO14⟩
