/-! Sheet and Strings, exactly -/
def F_She_clear (R : Int32) (N : Int32) (K : Int32) (t0_0 : Int32) : Int32 := (0 : Int32)
set_option maxRecDepth 100000 in
set_option maxHeartbeats 4000000 in
theorem X_She_clear (l : Launch) (D : va_G) (g : Nat → ClassId) (q : Nat → Nat) (ws : va_W) (k1 : Nat) (R N K : Int32) (hB1 : q_isShe (nsh g q) g q k1 R N K) (hI : q_I (nsh g q) q ws) (t0_0 : Int32) (hT0 : ws[k1]? = (some (q k1, .inr (1, [.ref (q (k1 + 1)), .int R, .int t0_0])) : Option (Nat × va_E))) : q_mV l y_She_clear prog_11_method_2_code 1 1 0 0 D g [.ref (q k1)] ws (fun u => q_I (nsh g q) q u ∧ q_un ws u [k1] ∧ ∃ (u0_0 : Int32), u[k1]? = (some (q k1, .inr (1, [.ref (q (k1 + 1)), .int R, .int u0_0])) : Option (Nat × va_E)) ∧ (0 ≤ u0_0.toInt) ∧ (u0_0.toInt ≤ 0) ∧ u0_0 = (F_She_clear R N K t0_0)) := by
  intro sz
  refine q_into (by decide) (Nat.le_of_ble_eq_true rfl) ?_
  intro p e s m below meth c ls hsz C0 V hl
  have hx := C0.1
  have hb := C0.2.1
  have hfk10 : q_F (0 ≤ R.toInt ∧ R.toInt ≤ 8 * N.toInt ∧ 0 ≤ N.toInt ∧ N.toInt ≤ 1376 ∧ 64 ≤ R.toInt ∧ 64 ≤ K.toInt ∧ K.toInt ≤ 1000000) := hB1.2.2.1
  obtain ⟨yy0_0, hh0, btt0_0⟩ := n_shO hI hB1
  obtain ⟨rfl⟩ : t0_0 = yy0_0 := by have z := Option.some.inj (hT0.symm.trans hh0); simpa using z
  replace btt0_0 : q_F (0 ≤ t0_0.toInt ∧ t0_0.toInt ≤ K.toInt) := btt0_0
  have hF : q_un ws ws [k1] := q_u0
  have hl : lv_has ls 1 [(0, .ref (q k1))] := hl
  refine lv_aload_n hx hb d_11_2_0 rfl (lv_at hl 0 rfl) ?_
  refine lv_iconst (v := 0) hx hb d_11_2_1 (by decide) ?_
  refine q_put (ci := 1) (j := 2) (v := .int 0) (ty := .int) C0 V i_She o_She n_She rfl rfl hT0 (by decide) w_54 rfl rfl rfl rfl (Nat.le_of_ble_eq_true rfl) d_11_2_2 (fun H locs w4 hu5 hT0 V => ?_)
  replace hT0 : w4[k1]? = (some (q k1, .inr (1, [.ref (q (k1 + 1)), .int R, .int 0])) : Option (Nat × va_E)) := hT0
  replace hI := n_shO' hI hB1 hu5 hT0 ⟨(by have z9 : (0 : Int32).toInt = 0 := rfl; omega), (by have z9 : (0 : Int32).toInt = 0 := rfl; have t1 : 0 ≤ R.toInt ∧ R.toInt ≤ 8 * N.toInt ∧ 0 ≤ N.toInt ∧ N.toInt ≤ 1376 ∧ 64 ≤ R.toInt ∧ 64 ≤ K.toInt ∧ K.toInt ≤ 1000000 := hfk10; omega)⟩
  replace hF := q_us hF hu5 (by simp)
  exact q_retv C0 V (⟨hI, hF, 0, hT0, (show 0 ≤ (0 : Int32).toInt from (by have z4 : (0 : Int32).toInt = 0 := rfl; omega)), (show (0 : Int32).toInt ≤ 0 from (by have z4 : (0 : Int32).toInt = 0 := rfl; omega)), (show (0 : Int32) = (F_She_clear R N K t0_0) from (by rw [F_She_clear.eq_1]))⟩) d_11_2_5
def F_She_add (R : Int32) (N : Int32) (K : Int32) (x2 : Int32) (t0_0 : Int32) (t1_0 : (Nat → Int64)) : Int32 × (Nat → Int64) := if R ≤ t0_0 then (((t0_0 + 1 : Int32), t1_0)) else (((t0_0 + 1 : Int32), (vp_updL t1_0 (t0_0 >>> (3 &&& 31) : Int32).toNatClampNeg (((t1_0 (t0_0 >>> (3 &&& 31) : Int32).toNatClampNeg : Int64) &&& (((255 : Int64) <<< ((8 * (t0_0 &&& 7 : Int32) : Int32).toInt64 &&& 63) : Int64) ^^^ (-1) : Int64) : Int64) ||| (((x2 &&& 255 : Int32).toInt64 : Int64) <<< ((8 * (t0_0 &&& 7 : Int32) : Int32).toInt64 &&& 63) : Int64) : Int64) : (Nat → Int64))))
def S_She_add (R : Int32) (N : Int32) (K : Int32) (x2 : Int32) (t0_0 : Int32) (t1_0 : (Nat → Int64)) : Prop := if R ≤ t0_0 then (((t0_0 + 1 : Int32).toInt ≤ K.toInt) ∧ (True)) else (((t0_0 + 1 : Int32).toInt ≤ K.toInt) ∧ (True))
set_option maxRecDepth 100000 in
set_option maxHeartbeats 4000000 in
theorem X_She_add (l : Launch) (D : va_G) (g : Nat → ClassId) (q : Nat → Nat) (ws : va_W) (k1 : Nat) (R N K : Int32) (hB1 : q_isShe (nsh g q) g q k1 R N K) (x2 : Int32) (hI : q_I (nsh g q) q ws) (t0_0 : Int32) (hT0 : ws[k1]? = (some (q k1, .inr (1, [.ref (q (k1 + 1)), .int R, .int t0_0])) : Option (Nat × va_E))) (t1_0 : (Nat → Int64)) (hT1 : ws[k1 + 1]? = (some (q (k1 + 1), .inl (g 1, N.toNatClampNeg, .inr (.inl t1_0))) : Option (Nat × va_E))) (hS : True ∧ S_She_add R N K x2 t0_0 t1_0) : q_mV l y_She_add prog_11_method_3_code 3 1 0 0 D g [.ref (q k1), .int x2] ws (fun u => q_I (nsh g q) q u ∧ q_un ws u [k1, k1 + 1] ∧ ∃ (u0_0 : Int32) (u1_0 : (Nat → Int64)), u[k1]? = (some (q k1, .inr (1, [.ref (q (k1 + 1)), .int R, .int u0_0])) : Option (Nat × va_E)) ∧ u[k1 + 1]? = (some (q (k1 + 1), .inl (g 1, N.toNatClampNeg, .inr (.inl u1_0))) : Option (Nat × va_E)) ∧ (t0_0.toInt + 1 ≤ u0_0.toInt) ∧ (u0_0.toInt ≤ t0_0.toInt + 1) ∧ (u0_0.toInt ≤ K.toInt) ∧ (u0_0, u1_0) = (F_She_add R N K x2 t0_0 t1_0)) := by
  intro sz
  refine q_into (by decide) (Nat.le_of_ble_eq_true rfl) ?_
  intro p e s m below meth c ls hsz C0 V hl
  have hx := C0.1
  have hb := C0.2.1
  have hfk10 : q_F (0 ≤ R.toInt ∧ R.toInt ≤ 8 * N.toInt ∧ 0 ≤ N.toInt ∧ N.toInt ≤ 1376 ∧ 64 ≤ R.toInt ∧ 64 ≤ K.toInt ∧ K.toInt ≤ 1000000) := hB1.2.2.1
  obtain ⟨yy0_0, hh0, btt0_0⟩ := n_shO hI hB1
  obtain ⟨rfl⟩ : t0_0 = yy0_0 := by have z := Option.some.inj (hT0.symm.trans hh0); simpa using z
  replace btt0_0 : q_F (0 ≤ t0_0.toInt ∧ t0_0.toInt ≤ K.toInt) := btt0_0
  have hF : q_un ws ws [k1, k1 + 1] := q_u0
  have hl : lv_has ls 3 [(0, .ref (q k1)), (1, .int x2)] := hl
  refine lv_aload_n hx hb d_11_3_0 rfl (lv_at hl 0 rfl) ?_
  refine q_get (ci := 1) (j := 2) (v := .int t0_0) C0 V i_She rfl rfl hT0 (by decide) w_54 rfl d_11_3_1 ?_
  refine lv_aload_n hx hb d_11_3_4 rfl (lv_at hl 0 rfl) ?_
  refine q_get (ci := 1) (j := 1) (v := .int R) C0 V i_She rfl rfl hT0 (by decide) w_53 rfl d_11_3_5 ?_
  refine lv_icmp_ge (tgt := 63) hx hb d_11_3_8 (by decide) (fun c6 => ?_) (fun c6 => ?_)
  ·
    have b7 : q_F (R.toInt ≤ t0_0.toInt) := (q_leI c6)
    refine lv_aload_n hx hb d_11_3_63 rfl (lv_at hl 0 rfl) ?_
    refine lv_dup hx hb d_11_3_64 rfl ?_
    refine q_get (ci := 1) (j := 2) (v := .int t0_0) C0 V i_She rfl rfl hT0 (by decide) w_54 rfl d_11_3_65 ?_
    refine lv_iconst (v := 1) hx hb d_11_3_68 (by decide) ?_
    refine lv_iadd hx hb d_11_3_69 ?_
    obtain ⟨a8, e9⟩ := q_nm (t0_0 + 1 : Int32)
    refine q_ti (v := a8) e9 ?_
    have b10 : q_F (a8.toInt = t0_0.toInt + 1) := (by rw [← e9]; show (t0_0 + 1 : Int32).toInt = t0_0.toInt + 1; exact q_addI (x := t0_0.toInt) (y := 1) rfl (by decide) (by have t1 : 0 ≤ t0_0.toInt ∧ t0_0.toInt ≤ K.toInt := btt0_0; have t2 : 0 ≤ R.toInt ∧ R.toInt ≤ 8 * N.toInt ∧ 0 ≤ N.toInt ∧ N.toInt ≤ 1376 ∧ 64 ≤ R.toInt ∧ 64 ≤ K.toInt ∧ K.toInt ≤ 1000000 := hfk10; omega) (by have t1 : 0 ≤ t0_0.toInt ∧ t0_0.toInt ≤ K.toInt := btt0_0; have t2 : 0 ≤ R.toInt ∧ R.toInt ≤ 8 * N.toInt ∧ 0 ≤ N.toInt ∧ N.toInt ≤ 1376 ∧ 64 ≤ R.toInt ∧ 64 ≤ K.toInt ∧ K.toInt ≤ 1000000 := hfk10; omega))
    refine q_put (ci := 1) (j := 2) (v := .int a8) (ty := .int) C0 V i_She o_She n_She rfl rfl hT0 (by decide) w_54 rfl rfl rfl rfl (Nat.le_of_ble_eq_true rfl) d_11_3_70 (fun H locs w11 hu12 hT0 V => ?_)
    replace hT0 : w11[k1]? = (some (q k1, .inr (1, [.ref (q (k1 + 1)), .int R, .int a8])) : Option (Nat × va_E)) := hT0
    have ob13 : q_F (a8.toInt ≤ K.toInt) := (by rw [← e9]; have h := hS; rw [S_She_add.eq_1] at h; rw [if_pos c6] at h; exact h.2.1)
    replace hI := n_shO' hI hB1 hu12 hT0 ⟨(by have t1 : 0 ≤ t0_0.toInt ∧ t0_0.toInt ≤ K.toInt := btt0_0; have t2 : a8.toInt = t0_0.toInt + 1 := b10; omega), (by have t1 : a8.toInt ≤ K.toInt := ob13; omega)⟩
    replace hT1 := (hu12 _ (by omega)).trans hT1
    replace hF := q_us hF hu12 (by simp)
    exact q_retv C0 V (⟨hI, hF, a8, t1_0, hT0, hT1, (show t0_0.toInt + 1 ≤ a8.toInt from (by have t1 : a8.toInt = t0_0.toInt + 1 := b10; omega)), (show a8.toInt ≤ t0_0.toInt + 1 from (by have t1 : a8.toInt = t0_0.toInt + 1 := b10; omega)), (show a8.toInt ≤ K.toInt from (by have t1 : a8.toInt ≤ K.toInt := ob13; omega)), (show (a8, t1_0) = (F_She_add R N K x2 t0_0 t1_0) from (by rw [← e9, F_She_add.eq_1, if_pos c6]))⟩) d_11_3_73
  ·
    have b14 : q_F (t0_0.toInt < R.toInt) := (q_nleI c6)
    refine lv_bipush (v := 8) hx hb d_11_3_11 (by decide) ?_
    refine lv_aload_n hx hb d_11_3_13 rfl (lv_at hl 0 rfl) ?_
    refine q_get (ci := 1) (j := 2) (v := .int t0_0) C0 V i_She rfl rfl hT0 (by decide) w_54 rfl d_11_3_14 ?_
    refine lv_bipush (v := 7) hx hb d_11_3_17 (by decide) ?_
    refine lv_iand hx hb d_11_3_19 ?_
    obtain ⟨a15, e16⟩ := q_nm (t0_0 &&& 7 : Int32)
    refine q_ti (v := a15) e16 ?_
    have b17 : q_F (0 ≤ a15.toInt ∧ a15.toInt ≤ 7) := (by rw [← e16]; show 0 ≤ (t0_0 &&& 7 : Int32).toInt ∧ (t0_0 &&& 7 : Int32).toInt ≤ 7; exact s_and (by decide))
    refine lv_imul hx hb d_11_3_20 ?_
    obtain ⟨a18, e19⟩ := q_nm (8 * a15 : Int32)
    refine q_ti (v := a18) e19 ?_
    have b20 : q_F (a18.toInt = 8 * a15.toInt) := (by rw [← e19]; show (8 * a15 : Int32).toInt = 8 * a15.toInt; exact q_mulI (x := 8) (y := a15.toInt) (by decide) rfl (by have t1 : 0 ≤ a15.toInt ∧ a15.toInt ≤ 7 := b17; omega) (by have t1 : 0 ≤ a15.toInt ∧ a15.toInt ≤ 7 := b17; omega))
    refine lv_istore_n (lv' := [(2, .int a18), (0, .ref (q k1)), (1, .int x2)]) hx hb d_11_3_21 rfl hl (by decide) rfl (fun ls hl => ?_)
    refine lv_aload_n hx hb d_11_3_22 rfl (lv_at hl 1 rfl) ?_
    refine q_get (ci := 1) (j := 0) (v := .ref (q (k1 + 1))) C0 V i_She rfl rfl hT0 (by decide) w_52 rfl d_11_3_23 ?_
    refine lv_aload_n hx hb d_11_3_26 rfl (lv_at hl 1 rfl) ?_
    refine q_get (ci := 1) (j := 2) (v := .int t0_0) C0 V i_She rfl rfl hT0 (by decide) w_54 rfl d_11_3_27 ?_
    refine lv_iconst (v := 3) hx hb d_11_3_30 (by decide) ?_
    refine lv_ishr hx hb d_11_3_31 ?_
    obtain ⟨a21, e22⟩ := q_nm (t0_0 >>> (3 &&& 31) : Int32)
    refine q_ti (v := a21) e22 ?_
    have b23 : q_F (8 * a21.toInt ≤ t0_0.toInt ∧ t0_0.toInt ≤ 8 * a21.toInt + 7) := (by rw [← e22]; show 8 * (t0_0 >>> (3 &&& 31) : Int32).toInt ≤ t0_0.toInt ∧ t0_0.toInt ≤ 8 * (t0_0 >>> (3 &&& 31) : Int32).toInt + 7; exact n_shr (x := t0_0) (c := 3) 3 (by decide) (by decide) (by have t1 : 0 ≤ t0_0.toInt ∧ t0_0.toInt ≤ K.toInt := btt0_0; omega))
    refine lv_aload_n hx hb d_11_3_32 rfl (lv_at hl 1 rfl) ?_
    refine q_get (ci := 1) (j := 0) (v := .ref (q (k1 + 1))) C0 V i_She rfl rfl hT0 (by decide) w_52 rfl d_11_3_33 ?_
    refine lv_aload_n hx hb d_11_3_36 rfl (lv_at hl 1 rfl) ?_
    refine q_get (ci := 1) (j := 2) (v := .int t0_0) C0 V i_She rfl rfl hT0 (by decide) w_54 rfl d_11_3_37 ?_
    refine lv_iconst (v := 3) hx hb d_11_3_40 (by decide) ?_
    refine lv_ishr hx hb d_11_3_41 ?_
    obtain ⟨a24, e25⟩ := q_nm (t0_0 >>> (3 &&& 31) : Int32)
    refine q_ti (v := a24) e25 ?_
    have b26 : q_F (8 * a24.toInt ≤ t0_0.toInt ∧ t0_0.toInt ≤ 8 * a24.toInt + 7) := (by rw [← e25]; show 8 * (t0_0 >>> (3 &&& 31) : Int32).toInt ≤ t0_0.toInt ∧ t0_0.toInt ≤ 8 * (t0_0 >>> (3 &&& 31) : Int32).toInt + 7; exact n_shr (x := t0_0) (c := 3) 3 (by decide) (by decide) (by have t1 : 0 ≤ t0_0.toInt ∧ t0_0.toInt ≤ K.toInt := btt0_0; omega))
    refine q_lald C0 V hT1 (q_ix (x := a24.toInt) rfl (by have t1 : 0 ≤ t0_0.toInt ∧ t0_0.toInt ≤ K.toInt := btt0_0; have t2 : 8 * a24.toInt ≤ t0_0.toInt ∧ t0_0.toInt ≤ 8 * a24.toInt + 7 := b26; omega) (by have t1 : 0 ≤ t0_0.toInt ∧ t0_0.toInt ≤ K.toInt := btt0_0; have t2 : 8 * a24.toInt ≤ t0_0.toInt ∧ t0_0.toInt ≤ 8 * a24.toInt + 7 := b26; have t3 : 0 ≤ R.toInt ∧ R.toInt ≤ 8 * N.toInt ∧ 0 ≤ N.toInt ∧ N.toInt ≤ 1376 ∧ 64 ≤ R.toInt ∧ 64 ≤ K.toInt ∧ K.toInt ≤ 1000000 := hfk10; have t4 : t0_0.toInt < R.toInt := b14; have e9 := q_clI (i := N) rfl (by have t1 : 0 ≤ R.toInt ∧ R.toInt ≤ 8 * N.toInt ∧ 0 ≤ N.toInt ∧ N.toInt ≤ 1376 ∧ 64 ≤ R.toInt ∧ 64 ≤ K.toInt ∧ K.toInt ≤ 1000000 := hfk10; omega); omega)) d_11_3_42 ?_
    obtain ⟨j27, e28⟩ := q_nm (t1_0 a24.toNatClampNeg : Int64)
    refine q_tl (v := j27) e28 ?_
    refine q_ldc2 C0 rfl w_565 d_11_3_43 ?_
    refine lv_iload_n hx hb d_11_3_46 rfl (lv_at hl 0 rfl) ?_
    refine lv_lshl hx hb d_11_3_47 rfl ?_
    obtain ⟨j29, e30⟩ := q_nm ((255 : Int64) <<< (a18.toInt64 &&& 63) : Int64)
    refine q_tl (v := j29) e30 ?_
    refine q_ldc2 C0 rfl w_566 d_11_3_48 ?_
    refine lv_lxor hx hb d_11_3_51 ?_
    obtain ⟨j31, e32⟩ := q_nm (j29 ^^^ (-1) : Int64)
    refine q_tl (v := j31) e32 ?_
    refine lv_land hx hb d_11_3_52 ?_
    obtain ⟨j33, e34⟩ := q_nm (j27 &&& j31 : Int64)
    refine q_tl (v := j33) e34 ?_
    refine lv_iload_n hx hb d_11_3_53 rfl (lv_at hl 2 rfl) ?_
    refine lv_sipush (v := 255) hx hb d_11_3_54 (by decide) ?_
    refine lv_iand hx hb d_11_3_57 ?_
    obtain ⟨a35, e36⟩ := q_nm (x2 &&& 255 : Int32)
    refine q_ti (v := a35) e36 ?_
    have b37 : q_F (0 ≤ a35.toInt ∧ a35.toInt ≤ 255) := (by rw [← e36]; show 0 ≤ (x2 &&& 255 : Int32).toInt ∧ (x2 &&& 255 : Int32).toInt ≤ 255; exact s_and (by decide))
    refine lv_i2l hx hb d_11_3_58 rfl ?_
    obtain ⟨j38, e39⟩ := q_nm (a35.toInt64 : Int64)
    refine q_tl (v := j38) e39 ?_
    have b40 : q_F (j38.toInt = a35.toInt) := (by rw [← e39]; show (a35.toInt64 : Int64).toInt = a35.toInt; exact q_i2l rfl)
    refine lv_iload_n hx hb d_11_3_59 rfl (lv_at hl 0 rfl) ?_
    refine lv_lshl hx hb d_11_3_60 rfl ?_
    obtain ⟨j41, e42⟩ := q_nm (j38 <<< (a18.toInt64 &&& 63) : Int64)
    refine q_tl (v := j41) e42 ?_
    refine lv_lor hx hb d_11_3_61 ?_
    obtain ⟨j43, e44⟩ := q_nm (j33 ||| j41 : Int64)
    refine q_tl (v := j43) e44 ?_
    refine q_last C0 V hT1 (q_ix (x := a21.toInt) rfl (by have t1 : 0 ≤ t0_0.toInt ∧ t0_0.toInt ≤ K.toInt := btt0_0; have t2 : 8 * a21.toInt ≤ t0_0.toInt ∧ t0_0.toInt ≤ 8 * a21.toInt + 7 := b23; omega) (by have t1 : 0 ≤ t0_0.toInt ∧ t0_0.toInt ≤ K.toInt := btt0_0; have t2 : 8 * a21.toInt ≤ t0_0.toInt ∧ t0_0.toInt ≤ 8 * a21.toInt + 7 := b23; have t3 : 0 ≤ R.toInt ∧ R.toInt ≤ 8 * N.toInt ∧ 0 ≤ N.toInt ∧ N.toInt ≤ 1376 ∧ 64 ≤ R.toInt ∧ 64 ≤ K.toInt ∧ K.toInt ≤ 1000000 := hfk10; have t4 : t0_0.toInt < R.toInt := b14; have e9 := q_clI (i := N) rfl (by have t1 : 0 ≤ R.toInt ∧ R.toInt ≤ 8 * N.toInt ∧ 0 ≤ N.toInt ∧ N.toInt ≤ 1376 ∧ 64 ≤ R.toInt ∧ 64 ≤ K.toInt ∧ K.toInt ≤ 1000000 := hfk10; omega); omega)) d_11_3_62 (fun H locs w45 hu46 hT1 V => ?_)
    replace hI := n_al' hI hB1.2.1 hu46 hT1
    replace hT0 := (hu46 _ (by omega)).trans hT0
    replace hF := q_us hF hu46 (by simp)
    obtain ⟨f47, e48⟩ := q_nm (vp_updL t1_0 a21.toNatClampNeg j43 : (Nat → Int64))
    rw [e48] at hT1
    refine lv_aload_n hx hb d_11_3_63 rfl (lv_at hl 1 rfl) ?_
    refine lv_dup hx hb d_11_3_64 rfl ?_
    refine q_get (ci := 1) (j := 2) (v := .int t0_0) C0 V i_She rfl rfl hT0 (by decide) w_54 rfl d_11_3_65 ?_
    refine lv_iconst (v := 1) hx hb d_11_3_68 (by decide) ?_
    refine lv_iadd hx hb d_11_3_69 ?_
    obtain ⟨a49, e50⟩ := q_nm (t0_0 + 1 : Int32)
    refine q_ti (v := a49) e50 ?_
    have b51 : q_F (a49.toInt = t0_0.toInt + 1) := (by rw [← e50]; show (t0_0 + 1 : Int32).toInt = t0_0.toInt + 1; exact q_addI (x := t0_0.toInt) (y := 1) rfl (by decide) (by have t1 : 0 ≤ t0_0.toInt ∧ t0_0.toInt ≤ K.toInt := btt0_0; have t2 : t0_0.toInt < R.toInt := b14; have _ := q_lo32 (x := R); have _ := q_hi32 (x := R); omega) (by have t1 : 0 ≤ t0_0.toInt ∧ t0_0.toInt ≤ K.toInt := btt0_0; have t2 : t0_0.toInt < R.toInt := b14; have _ := q_lo32 (x := R); have _ := q_hi32 (x := R); omega))
    refine q_put (ci := 1) (j := 2) (v := .int a49) (ty := .int) C0 V i_She o_She n_She rfl rfl hT0 (by decide) w_54 rfl rfl rfl rfl (Nat.le_of_ble_eq_true rfl) d_11_3_70 (fun H locs w52 hu53 hT0 V => ?_)
    replace hT0 : w52[k1]? = (some (q k1, .inr (1, [.ref (q (k1 + 1)), .int R, .int a49])) : Option (Nat × va_E)) := hT0
    have ob54 : q_F (a49.toInt ≤ K.toInt) := (by rw [← e50]; have h := hS; rw [S_She_add.eq_1] at h; rw [if_neg c6] at h; exact h.2.1)
    replace hI := n_shO' hI hB1 hu53 hT0 ⟨(by have t1 : 0 ≤ t0_0.toInt ∧ t0_0.toInt ≤ K.toInt := btt0_0; have t2 : a49.toInt = t0_0.toInt + 1 := b51; omega), (by have t1 : a49.toInt ≤ K.toInt := ob54; omega)⟩
    replace hT1 := (hu53 _ (by omega)).trans hT1
    replace hF := q_us hF hu53 (by simp)
    exact q_retv C0 V (⟨hI, hF, a49, f47, hT0, hT1, (show t0_0.toInt + 1 ≤ a49.toInt from (by have t1 : a49.toInt = t0_0.toInt + 1 := b51; omega)), (show a49.toInt ≤ t0_0.toInt + 1 from (by have t1 : a49.toInt = t0_0.toInt + 1 := b51; omega)), (show a49.toInt ≤ K.toInt from (by have t1 : a49.toInt ≤ K.toInt := ob54; omega)), (show (a49, f47) = (F_She_add R N K x2 t0_0 t1_0) from (by rw [← e50, ← e48, ← e44, ← e42, ← e39, ← e36, ← e34, ← e32, ← e30, ← e28, ← e25, ← e22, ← e19, ← e16, F_She_add.eq_1, if_neg c6]))⟩) d_11_3_73
def F_She_at (R : Int32) (N : Int32) (K : Int32) (x2 : Int64) (t0_0 : Int32) (t1_0 : (Nat → Int64)) : Int32 := if (lg_cmp x2 0 : Int32) < (0 : Int32) then ((0 : Int32)) else (if (0 : Int32) ≤ (lg_cmp x2 (t0_0.toInt64 : Int64) : Int32) then ((0 : Int32)) else (if (lg_cmp x2 (R.toInt64 : Int64) : Int32) < (0 : Int32) then ((((((t1_0 ((x2.toInt32 : Int32) >>> (3 &&& 31) : Int32).toNatClampNeg : Int64).toUInt64 >>> ((8 * ((x2.toInt32 : Int32) &&& 7 : Int32) : Int32).toInt64.toUInt64 &&& Int64.toUInt64 63)).toInt64 : Int64).toInt32 : Int32) &&& 255 : Int32)) else ((0 : Int32))))
def S_She_at (R : Int32) (N : Int32) (K : Int32) (x2 : Int64) (t0_0 : Int32) (t1_0 : (Nat → Int64)) : Prop := if (lg_cmp x2 0 : Int32) < (0 : Int32) then (True) else (if (0 : Int32) ≤ (lg_cmp x2 (t0_0.toInt64 : Int64) : Int32) then (True) else (if (lg_cmp x2 (R.toInt64 : Int64) : Int32) < (0 : Int32) then ((0 ≤ ((x2.toInt32 : Int32) >>> (3 &&& 31) : Int32).toInt) ∧ ((((x2.toInt32 : Int32) >>> (3 &&& 31) : Int32).toInt + 1 ≤ N.toInt) ∧ (True))) else (True)))
set_option maxRecDepth 100000 in
set_option maxHeartbeats 4000000 in
theorem X_She_at (l : Launch) (D : va_G) (g : Nat → ClassId) (q : Nat → Nat) (ws : va_W) (k1 : Nat) (R N K : Int32) (hB1 : q_isShe (nsh g q) g q k1 R N K) (x2 : Int64) (hI : q_I (nsh g q) q ws) (t0_0 : Int32) (hT0 : ws[k1]? = (some (q k1, .inr (1, [.ref (q (k1 + 1)), .int R, .int t0_0])) : Option (Nat × va_E))) (t1_0 : (Nat → Int64)) (hT1 : ws[k1 + 1]? = (some (q (k1 + 1), .inl (g 1, N.toNatClampNeg, .inr (.inl t1_0))) : Option (Nat × va_E))) (hS : True ∧ S_She_at R N K x2 t0_0 t1_0) : q_mI l y_She_at prog_11_method_8_code 3 (.int) 1 0 0 D g [.ref (q k1), .long x2] ws (fun r u => ws = u ∧ (0 ≤ r.toInt) ∧ (r.toInt ≤ 255) ∧ r = (F_She_at R N K x2 t0_0 t1_0)) := by
  intro sz
  refine q_into (by decide) (Nat.le_of_ble_eq_true rfl) ?_
  intro p e s m below meth c ls hsz C0 V hl
  have hx := C0.1
  have hb := C0.2.1
  have hfk10 : q_F (0 ≤ R.toInt ∧ R.toInt ≤ 8 * N.toInt ∧ 0 ≤ N.toInt ∧ N.toInt ≤ 1376 ∧ 64 ≤ R.toInt ∧ 64 ≤ K.toInt ∧ K.toInt ≤ 1000000) := hB1.2.2.1
  obtain ⟨yy0_0, hh0, btt0_0⟩ := n_shO hI hB1
  obtain ⟨rfl⟩ : t0_0 = yy0_0 := by have z := Option.some.inj (hT0.symm.trans hh0); simpa using z
  replace btt0_0 : q_F (0 ≤ t0_0.toInt ∧ t0_0.toInt ≤ K.toInt) := btt0_0
  have hl : lv_has ls 3 [(0, .ref (q k1)), (1, .long x2)] := hl
  refine lv_lload_n hx hb d_11_8_0 rfl (lv_at hl 1 rfl) ?_
  refine lv_lconst (v := 0) hx hb d_11_8_1 (by decide) ?_
  refine W.lcmp hx hb d_11_8_2 ?_
  obtain ⟨a6, e7⟩ := q_nm (lg_cmp x2 0 : Int32)
  refine q_ti (v := a6) e7 ?_
  have b8 : q_F (-1 ≤ a6.toInt ∧ a6.toInt ≤ 1 ∧ ((a6.toInt = -1 ∧ x2.toInt < 0) ∨ (a6.toInt = 0 ∧ x2.toInt = 0) ∨ (a6.toInt = 1 ∧ 0 < x2.toInt))) := (by rw [← e7]; show -1 ≤ (lg_cmp x2 0 : Int32).toInt ∧ (lg_cmp x2 0 : Int32).toInt ≤ 1 ∧ (((lg_cmp x2 0 : Int32).toInt = -1 ∧ x2.toInt < 0) ∨ ((lg_cmp x2 0 : Int32).toInt = 0 ∧ x2.toInt = 0) ∨ ((lg_cmp x2 0 : Int32).toInt = 1 ∧ 0 < x2.toInt)); exact (by have y1 : (0 : Int64).toInt = 0 := rfl; have z := s_lcmp (a := x2) (b := 0); omega))
  refine lv_if_lt (tgt := 26) hx hb d_11_8_3 (by decide) (fun c9 => ?_) (fun c9 => ?_)
  ·
    have b10 : q_F (a6.toInt < 0) := (q_ltI c9)
    refine lv_iconst (v := 0) hx hb d_11_8_26 (by decide) ?_
    exact q_reti C0 V (⟨rfl, (show 0 ≤ (0 : Int32).toInt from (by have z6 : (0 : Int32).toInt = 0 := rfl; omega)), (show (0 : Int32).toInt ≤ 255 from (by have z6 : (0 : Int32).toInt = 0 := rfl; omega)), (show (0 : Int32) = (F_She_at R N K x2 t0_0 t1_0) from (by have c9x := c9; rw [← e7] at c9x; rw [F_She_at.eq_1, if_pos c9x]))⟩) d_11_8_27
  ·
    have b11 : q_F (0 ≤ a6.toInt) := (q_nltI c9)
    refine lv_lload_n hx hb d_11_8_6 rfl (lv_at hl 1 rfl) ?_
    refine lv_aload_n hx hb d_11_8_7 rfl (lv_at hl 0 rfl) ?_
    refine q_get (ci := 1) (j := 2) (v := .int t0_0) C0 V i_She rfl rfl hT0 (by decide) w_54 rfl d_11_8_8 ?_
    refine lv_i2l hx hb d_11_8_11 rfl ?_
    obtain ⟨j12, e13⟩ := q_nm (t0_0.toInt64 : Int64)
    refine q_tl (v := j12) e13 ?_
    have b14 : q_F (j12.toInt = t0_0.toInt) := (by rw [← e13]; show (t0_0.toInt64 : Int64).toInt = t0_0.toInt; exact q_i2l rfl)
    refine W.lcmp hx hb d_11_8_12 ?_
    obtain ⟨a15, e16⟩ := q_nm (lg_cmp x2 j12 : Int32)
    refine q_ti (v := a15) e16 ?_
    have b17 : q_F (-1 ≤ a15.toInt ∧ a15.toInt ≤ 1 ∧ ((a15.toInt = -1 ∧ x2.toInt < j12.toInt) ∨ (a15.toInt = 0 ∧ x2.toInt = j12.toInt) ∨ (a15.toInt = 1 ∧ j12.toInt < x2.toInt))) := (by rw [← e16]; show -1 ≤ (lg_cmp x2 j12 : Int32).toInt ∧ (lg_cmp x2 j12 : Int32).toInt ≤ 1 ∧ (((lg_cmp x2 j12 : Int32).toInt = -1 ∧ x2.toInt < j12.toInt) ∨ ((lg_cmp x2 j12 : Int32).toInt = 0 ∧ x2.toInt = j12.toInt) ∨ ((lg_cmp x2 j12 : Int32).toInt = 1 ∧ j12.toInt < x2.toInt)); exact s_lcmp)
    refine lv_if_ge (tgt := 26) hx hb d_11_8_13 (by decide) (fun c18 => ?_) (fun c18 => ?_)
    ·
      have b19 : q_F (0 ≤ a15.toInt) := (q_leI c18)
      refine lv_iconst (v := 0) hx hb d_11_8_26 (by decide) ?_
      exact q_reti C0 V (⟨rfl, (show 0 ≤ (0 : Int32).toInt from (by have z6 : (0 : Int32).toInt = 0 := rfl; omega)), (show (0 : Int32).toInt ≤ 255 from (by have z6 : (0 : Int32).toInt = 0 := rfl; omega)), (show (0 : Int32) = (F_She_at R N K x2 t0_0 t1_0) from (by have c9x := c9; rw [← e7] at c9x; have c18x := c18; rw [← e16, ← e13] at c18x; rw [F_She_at.eq_1, if_neg c9x, if_pos c18x]))⟩) d_11_8_27
    ·
      have b20 : q_F (a15.toInt < 0) := (q_nleI c18)
      refine lv_lload_n hx hb d_11_8_16 rfl (lv_at hl 1 rfl) ?_
      refine lv_aload_n hx hb d_11_8_17 rfl (lv_at hl 0 rfl) ?_
      refine q_get (ci := 1) (j := 1) (v := .int R) C0 V i_She rfl rfl hT0 (by decide) w_53 rfl d_11_8_18 ?_
      refine lv_i2l hx hb d_11_8_21 rfl ?_
      obtain ⟨j21, e22⟩ := q_nm (R.toInt64 : Int64)
      refine q_tl (v := j21) e22 ?_
      have b23 : q_F (j21.toInt = R.toInt) := (by rw [← e22]; show (R.toInt64 : Int64).toInt = R.toInt; exact q_i2l rfl)
      refine W.lcmp hx hb d_11_8_22 ?_
      obtain ⟨a24, e25⟩ := q_nm (lg_cmp x2 j21 : Int32)
      refine q_ti (v := a24) e25 ?_
      have b26 : q_F (-1 ≤ a24.toInt ∧ a24.toInt ≤ 1 ∧ ((a24.toInt = -1 ∧ x2.toInt < j21.toInt) ∨ (a24.toInt = 0 ∧ x2.toInt = j21.toInt) ∨ (a24.toInt = 1 ∧ j21.toInt < x2.toInt))) := (by rw [← e25]; show -1 ≤ (lg_cmp x2 j21 : Int32).toInt ∧ (lg_cmp x2 j21 : Int32).toInt ≤ 1 ∧ (((lg_cmp x2 j21 : Int32).toInt = -1 ∧ x2.toInt < j21.toInt) ∨ ((lg_cmp x2 j21 : Int32).toInt = 0 ∧ x2.toInt = j21.toInt) ∨ ((lg_cmp x2 j21 : Int32).toInt = 1 ∧ j21.toInt < x2.toInt)); exact s_lcmp)
      refine lv_if_lt (tgt := 28) hx hb d_11_8_23 (by decide) (fun c27 => ?_) (fun c27 => ?_)
      ·
        have b28 : q_F (a24.toInt < 0) := (q_ltI c27)
        refine lv_aload_n hx hb d_11_8_28 rfl (lv_at hl 0 rfl) ?_
        refine q_get (ci := 1) (j := 0) (v := .ref (q (k1 + 1))) C0 V i_She rfl rfl hT0 (by decide) w_52 rfl d_11_8_29 ?_
        refine lv_lload_n hx hb d_11_8_32 rfl (lv_at hl 1 rfl) ?_
        refine lv_l2i hx hb d_11_8_33 rfl ?_
        obtain ⟨a29, e30⟩ := q_nm (x2.toInt32 : Int32)
        refine q_ti (v := a29) e30 ?_
        have b31 : q_F (a29.toInt = x2.toInt) := (by rw [← e30]; show (x2.toInt32 : Int32).toInt = x2.toInt; exact s_l2i (by have t1 : -1 ≤ a6.toInt ∧ a6.toInt ≤ 1 ∧ ((a6.toInt = -1 ∧ x2.toInt < 0) ∨ (a6.toInt = 0 ∧ x2.toInt = 0) ∨ (a6.toInt = 1 ∧ 0 < x2.toInt)) := b8; have t2 : 0 ≤ a6.toInt := b11; have t3 : j21.toInt = R.toInt := b23; have t4 : -1 ≤ a24.toInt ∧ a24.toInt ≤ 1 ∧ ((a24.toInt = -1 ∧ x2.toInt < j21.toInt) ∨ (a24.toInt = 0 ∧ x2.toInt = j21.toInt) ∨ (a24.toInt = 1 ∧ j21.toInt < x2.toInt)) := b26; have t5 : a24.toInt < 0 := b28; have _ := q_lo32 (x := R); have _ := q_hi32 (x := R); omega) (by have t1 : -1 ≤ a6.toInt ∧ a6.toInt ≤ 1 ∧ ((a6.toInt = -1 ∧ x2.toInt < 0) ∨ (a6.toInt = 0 ∧ x2.toInt = 0) ∨ (a6.toInt = 1 ∧ 0 < x2.toInt)) := b8; have t2 : 0 ≤ a6.toInt := b11; have t3 : j21.toInt = R.toInt := b23; have t4 : -1 ≤ a24.toInt ∧ a24.toInt ≤ 1 ∧ ((a24.toInt = -1 ∧ x2.toInt < j21.toInt) ∨ (a24.toInt = 0 ∧ x2.toInt = j21.toInt) ∨ (a24.toInt = 1 ∧ j21.toInt < x2.toInt)) := b26; have t5 : a24.toInt < 0 := b28; have _ := q_lo32 (x := R); have _ := q_hi32 (x := R); omega))
        refine lv_iconst (v := 3) hx hb d_11_8_34 (by decide) ?_
        refine lv_ishr hx hb d_11_8_35 ?_
        obtain ⟨a32, e33⟩ := q_nm (a29 >>> (3 &&& 31) : Int32)
        refine q_ti (v := a32) e33 ?_
        have b34 : q_F (8 * a32.toInt ≤ a29.toInt ∧ a29.toInt ≤ 8 * a32.toInt + 7) := (by rw [← e33]; show 8 * (a29 >>> (3 &&& 31) : Int32).toInt ≤ a29.toInt ∧ a29.toInt ≤ 8 * (a29 >>> (3 &&& 31) : Int32).toInt + 7; exact n_shr (x := a29) (c := 3) 3 (by decide) (by decide) (by have t1 : -1 ≤ a6.toInt ∧ a6.toInt ≤ 1 ∧ ((a6.toInt = -1 ∧ x2.toInt < 0) ∨ (a6.toInt = 0 ∧ x2.toInt = 0) ∨ (a6.toInt = 1 ∧ 0 < x2.toInt)) := b8; have t2 : 0 ≤ a6.toInt := b11; have t3 : a29.toInt = x2.toInt := b31; omega))
        have ob35 : q_F (0 ≤ a32.toInt) := (by rw [← e33, ← e30]; have h := hS; rw [S_She_at.eq_1] at h; have c9x := c9; rw [← e7] at c9x; rw [if_neg c9x] at h; have c18x := c18; rw [← e16, ← e13] at c18x; rw [if_neg c18x] at h; have c27x := c27; rw [← e25, ← e22] at c27x; rw [if_pos c27x] at h; exact h.2.1)
        have ob36 : q_F (a32.toInt + 1 ≤ N.toInt) := (by rw [← e33, ← e30]; have h := hS; rw [S_She_at.eq_1] at h; have c9x := c9; rw [← e7] at c9x; rw [if_neg c9x] at h; have c18x := c18; rw [← e16, ← e13] at c18x; rw [if_neg c18x] at h; have c27x := c27; rw [← e25, ← e22] at c27x; rw [if_pos c27x] at h; replace h := q_s2 h; exact h.2.1)
        refine q_lald C0 V hT1 (q_ix (x := a32.toInt) rfl (by have t1 : 0 ≤ a32.toInt := ob35; omega) (by have t1 : 0 ≤ a32.toInt := ob35; have t2 : a32.toInt + 1 ≤ N.toInt := ob36; have e9 := q_clI (i := N) rfl (by have t1 : 0 ≤ R.toInt ∧ R.toInt ≤ 8 * N.toInt ∧ 0 ≤ N.toInt ∧ N.toInt ≤ 1376 ∧ 64 ≤ R.toInt ∧ 64 ≤ K.toInt ∧ K.toInt ≤ 1000000 := hfk10; omega); omega)) d_11_8_36 ?_
        obtain ⟨j37, e38⟩ := q_nm (t1_0 a32.toNatClampNeg : Int64)
        refine q_tl (v := j37) e38 ?_
        refine lv_bipush (v := 8) hx hb d_11_8_37 (by decide) ?_
        refine lv_lload_n hx hb d_11_8_39 rfl (lv_at hl 1 rfl) ?_
        refine lv_l2i hx hb d_11_8_40 rfl ?_
        obtain ⟨a39, e40⟩ := q_nm (x2.toInt32 : Int32)
        refine q_ti (v := a39) e40 ?_
        have b41 : q_F (a39.toInt = x2.toInt) := (by rw [← e40]; show (x2.toInt32 : Int32).toInt = x2.toInt; exact s_l2i (by have t1 : a29.toInt = x2.toInt := b31; have _ := q_lo32 (x := a29); have _ := q_hi32 (x := a29); omega) (by have t1 : a29.toInt = x2.toInt := b31; have _ := q_lo32 (x := a29); have _ := q_hi32 (x := a29); omega))
        refine lv_bipush (v := 7) hx hb d_11_8_41 (by decide) ?_
        refine lv_iand hx hb d_11_8_43 ?_
        obtain ⟨a42, e43⟩ := q_nm (a39 &&& 7 : Int32)
        refine q_ti (v := a42) e43 ?_
        have b44 : q_F (0 ≤ a42.toInt ∧ a42.toInt ≤ 7) := (by rw [← e43]; show 0 ≤ (a39 &&& 7 : Int32).toInt ∧ (a39 &&& 7 : Int32).toInt ≤ 7; exact s_and (by decide))
        refine lv_imul hx hb d_11_8_44 ?_
        obtain ⟨a45, e46⟩ := q_nm (8 * a42 : Int32)
        refine q_ti (v := a45) e46 ?_
        have b47 : q_F (a45.toInt = 8 * a42.toInt) := (by rw [← e46]; show (8 * a42 : Int32).toInt = 8 * a42.toInt; exact q_mulI (x := 8) (y := a42.toInt) (by decide) rfl (by have t1 : 0 ≤ a42.toInt ∧ a42.toInt ≤ 7 := b44; omega) (by have t1 : 0 ≤ a42.toInt ∧ a42.toInt ≤ 7 := b44; omega))
        refine lv_lushr hx hb d_11_8_45 rfl ?_
        obtain ⟨j48, e49⟩ := q_nm ((j37.toUInt64 >>> (a45.toInt64.toUInt64 &&& Int64.toUInt64 63)).toInt64 : Int64)
        refine q_tl (v := j48) e49 ?_
        refine lv_l2i hx hb d_11_8_46 rfl ?_
        obtain ⟨a50, e51⟩ := q_nm (j48.toInt32 : Int32)
        refine q_ti (v := a50) e51 ?_
        refine lv_sipush (v := 255) hx hb d_11_8_47 (by decide) ?_
        refine lv_iand hx hb d_11_8_50 ?_
        obtain ⟨a52, e53⟩ := q_nm (a50 &&& 255 : Int32)
        refine q_ti (v := a52) e53 ?_
        have b54 : q_F (0 ≤ a52.toInt ∧ a52.toInt ≤ 255) := (by rw [← e53]; show 0 ≤ (a50 &&& 255 : Int32).toInt ∧ (a50 &&& 255 : Int32).toInt ≤ 255; exact s_and (by decide))
        exact q_reti C0 V (⟨rfl, (show 0 ≤ a52.toInt from (by have t1 : 0 ≤ a52.toInt ∧ a52.toInt ≤ 255 := b54; omega)), (show a52.toInt ≤ 255 from (by have t1 : 0 ≤ a52.toInt ∧ a52.toInt ≤ 255 := b54; omega)), (show a52 = (F_She_at R N K x2 t0_0 t1_0) from (by have c9x := c9; rw [← e7] at c9x; have c18x := c18; rw [← e16, ← e13] at c18x; have c27x := c27; rw [← e25, ← e22] at c27x; rw [← e53, ← e51, ← e49, ← e46, ← e43, ← e40, ← e38, ← e33, ← e30, F_She_at.eq_1, if_neg c9x, if_neg c18x, if_pos c27x]))⟩) d_11_8_51
      ·
        have b55 : q_F (0 ≤ a24.toInt) := (q_nltI c27)
        refine lv_iconst (v := 0) hx hb d_11_8_26 (by decide) ?_
        exact q_reti C0 V (⟨rfl, (show 0 ≤ (0 : Int32).toInt from (by have z6 : (0 : Int32).toInt = 0 := rfl; omega)), (show (0 : Int32).toInt ≤ 255 from (by have z6 : (0 : Int32).toInt = 0 := rfl; omega)), (show (0 : Int32) = (F_She_at R N K x2 t0_0 t1_0) from (by have c9x := c9; rw [← e7] at c9x; have c18x := c18; rw [← e16, ← e13] at c18x; have c27x := c27; rw [← e25, ← e22] at c27x; rw [F_She_at.eq_1, if_neg c9x, if_neg c18x, if_neg c27x]))⟩) d_11_8_27
def F_She_replace (R : Int32) (N : Int32) (K : Int32) (x2 : Int32) (x3 : Int32) (t0_0 : Int32) (t1_0 : (Nat → Int64)) : (Nat → Int64) := if x2 < (0 : Int32) then (t1_0) else (if R ≤ x2 then (t1_0) else ((vp_updL t1_0 (x2 >>> (3 &&& 31) : Int32).toNatClampNeg ((t1_0 (x2 >>> (3 &&& 31) : Int32).toNatClampNeg : Int64) ^^^ (((((F_She_at R N K (x2.toInt64 : Int64) t0_0 t1_0) : Int32) ^^^ (x3 &&& 255 : Int32) : Int32).toInt64 : Int64) <<< ((8 * (x2 &&& 7 : Int32) : Int32).toInt64 &&& 63) : Int64) : Int64) : (Nat → Int64))))
def S_She_replace (R : Int32) (N : Int32) (K : Int32) (x2 : Int32) (x3 : Int32) (t0_0 : Int32) (t1_0 : (Nat → Int64)) : Prop := if x2 < (0 : Int32) then (True) else (if R ≤ x2 then (True) else ((True ∧ S_She_at R N K (x2.toInt64 : Int64) t0_0 t1_0) ∧ (True)))
set_option maxRecDepth 100000 in
set_option maxHeartbeats 4000000 in
theorem X_She_replace (l : Launch) (D : va_G) (g : Nat → ClassId) (q : Nat → Nat) (ws : va_W) (k1 : Nat) (R N K : Int32) (hB1 : q_isShe (nsh g q) g q k1 R N K) (x2 : Int32) (x3 : Int32) (hI : q_I (nsh g q) q ws) (t0_0 : Int32) (hT0 : ws[k1]? = (some (q k1, .inr (1, [.ref (q (k1 + 1)), .int R, .int t0_0])) : Option (Nat × va_E))) (t1_0 : (Nat → Int64)) (hT1 : ws[k1 + 1]? = (some (q (k1 + 1), .inl (g 1, N.toNatClampNeg, .inr (.inl t1_0))) : Option (Nat × va_E))) (hS : True ∧ S_She_replace R N K x2 x3 t0_0 t1_0) : q_mV l y_She_replace prog_11_method_9_code 3 2 0 0 D g [.ref (q k1), .int x2, .int x3] ws (fun u => q_I (nsh g q) q u ∧ q_un ws u [k1 + 1] ∧ ∃ (u1_0 : (Nat → Int64)), u[k1 + 1]? = (some (q (k1 + 1), .inl (g 1, N.toNatClampNeg, .inr (.inl u1_0))) : Option (Nat × va_E)) ∧ u1_0 = (F_She_replace R N K x2 x3 t0_0 t1_0)) := by
  intro sz
  refine q_into (by decide) (Nat.le_of_ble_eq_true rfl) ?_
  intro p e s m below meth c ls hsz C0 V hl
  have hx := C0.1
  have hb := C0.2.1
  have hfk10 : q_F (0 ≤ R.toInt ∧ R.toInt ≤ 8 * N.toInt ∧ 0 ≤ N.toInt ∧ N.toInt ≤ 1376 ∧ 64 ≤ R.toInt ∧ 64 ≤ K.toInt ∧ K.toInt ≤ 1000000) := hB1.2.2.1
  obtain ⟨yy0_0, hh0, btt0_0⟩ := n_shO hI hB1
  obtain ⟨rfl⟩ : t0_0 = yy0_0 := by have z := Option.some.inj (hT0.symm.trans hh0); simpa using z
  replace btt0_0 : q_F (0 ≤ t0_0.toInt ∧ t0_0.toInt ≤ K.toInt) := btt0_0
  have hF : q_un ws ws [k1 + 1] := q_u0
  have hl : lv_has ls 3 [(0, .ref (q k1)), (1, .int x2), (2, .int x3)] := hl
  refine lv_iload_n hx hb d_11_9_0 rfl (lv_at hl 1 rfl) ?_
  refine lv_if_lt (tgt := 44) hx hb d_11_9_1 (by decide) (fun c6 => ?_) (fun c6 => ?_)
  ·
    have b7 : q_F (x2.toInt < 0) := (q_ltI c6)
    exact q_retv C0 V (⟨hI, hF, t1_0, hT1, (show t1_0 = (F_She_replace R N K x2 x3 t0_0 t1_0) from (by rw [F_She_replace.eq_1, if_pos c6]))⟩) d_11_9_44
  ·
    have b8 : q_F (0 ≤ x2.toInt) := (q_nltI c6)
    refine lv_iload_n hx hb d_11_9_4 rfl (lv_at hl 1 rfl) ?_
    refine lv_aload_n hx hb d_11_9_5 rfl (lv_at hl 0 rfl) ?_
    refine q_get (ci := 1) (j := 1) (v := .int R) C0 V i_She rfl rfl hT0 (by decide) w_53 rfl d_11_9_6 ?_
    refine lv_icmp_ge (tgt := 44) hx hb d_11_9_9 (by decide) (fun c9 => ?_) (fun c9 => ?_)
    ·
      have b10 : q_F (R.toInt ≤ x2.toInt) := (q_leI c9)
      exact q_retv C0 V (⟨hI, hF, t1_0, hT1, (show t1_0 = (F_She_replace R N K x2 x3 t0_0 t1_0) from (by rw [F_She_replace.eq_1, if_neg c6, if_pos c9]))⟩) d_11_9_44
    ·
      have b11 : q_F (x2.toInt < R.toInt) := (q_nleI c9)
      refine lv_aload_n hx hb d_11_9_12 rfl (lv_at hl 0 rfl) ?_
      refine q_get (ci := 1) (j := 0) (v := .ref (q (k1 + 1))) C0 V i_She rfl rfl hT0 (by decide) w_52 rfl d_11_9_13 ?_
      refine lv_iload_n hx hb d_11_9_16 rfl (lv_at hl 1 rfl) ?_
      refine lv_iconst (v := 3) hx hb d_11_9_17 (by decide) ?_
      refine lv_ishr hx hb d_11_9_18 ?_
      obtain ⟨a12, e13⟩ := q_nm (x2 >>> (3 &&& 31) : Int32)
      refine q_ti (v := a12) e13 ?_
      have b14 : q_F (8 * a12.toInt ≤ x2.toInt ∧ x2.toInt ≤ 8 * a12.toInt + 7) := (by rw [← e13]; show 8 * (x2 >>> (3 &&& 31) : Int32).toInt ≤ x2.toInt ∧ x2.toInt ≤ 8 * (x2 >>> (3 &&& 31) : Int32).toInt + 7; exact n_shr (x := x2) (c := 3) 3 (by decide) (by decide) (by have t1 : 0 ≤ x2.toInt := b8; omega))
      refine lv_dup2_11 hx hb d_11_9_19 rfl rfl ?_
      refine q_lald C0 V hT1 (q_ix (x := a12.toInt) rfl (by have t1 : 0 ≤ x2.toInt := b8; have t2 : 8 * a12.toInt ≤ x2.toInt ∧ x2.toInt ≤ 8 * a12.toInt + 7 := b14; omega) (by have t1 : 0 ≤ x2.toInt := b8; have t2 : 8 * a12.toInt ≤ x2.toInt ∧ x2.toInt ≤ 8 * a12.toInt + 7 := b14; have t3 : 0 ≤ R.toInt ∧ R.toInt ≤ 8 * N.toInt ∧ 0 ≤ N.toInt ∧ N.toInt ≤ 1376 ∧ 64 ≤ R.toInt ∧ 64 ≤ K.toInt ∧ K.toInt ≤ 1000000 := hfk10; have t4 : x2.toInt < R.toInt := b11; have e9 := q_clI (i := N) rfl (by have t1 : 0 ≤ R.toInt ∧ R.toInt ≤ 8 * N.toInt ∧ 0 ≤ N.toInt ∧ N.toInt ≤ 1376 ∧ 64 ≤ R.toInt ∧ 64 ≤ K.toInt ∧ K.toInt ≤ 1000000 := hfk10; omega); omega)) d_11_9_20 ?_
      obtain ⟨j15, e16⟩ := q_nm (t1_0 a12.toNatClampNeg : Int64)
      refine q_tl (v := j15) e16 ?_
      refine lv_aload_n hx hb d_11_9_21 rfl (lv_at hl 0 rfl) ?_
      refine lv_iload_n hx hb d_11_9_22 rfl (lv_at hl 1 rfl) ?_
      refine lv_i2l hx hb d_11_9_23 rfl ?_
      obtain ⟨j17, e18⟩ := q_nm (x2.toInt64 : Int64)
      refine q_tl (v := j17) e18 ?_
      have b19 : q_F (j17.toInt = x2.toInt) := (by rw [← e18]; show (x2.toInt64 : Int64).toInt = x2.toInt; exact q_i2l rfl)
      have ob20 : True ∧ S_She_at R N K j17 t0_0 t1_0 := (by rw [← e18]; have h := hS; rw [S_She_replace.eq_1] at h; rw [if_neg c6] at h; rw [if_neg c9] at h; with_reducible exact h.2.1)
      refine q_goi V (q_runV (As := [.long j17]) (rest := [.long j15, .int a12, .ref (q (k1 + 1))]) (d := 1) (mc := 0) (ms := 0) (ci := 1) C0 V rfl LV_She_48 (X_She_at l D g q ws k1 R N K hB1 j17 hI t0_0 hT0 t1_0 hT1 ob20 _) rfl rfl hT0 rfl hl.1 rfl (Nat.le_of_ble_eq_true rfl) ⟨by decide, by decide⟩ ⟨Nat.le_of_ble_eq_true rfl, Nat.le_of_ble_eq_true rfl⟩ d_11_9_24) (fun a23 u21 H locs hp22 V => ?_)
      obtain ⟨rfl, b24, b25, hE26⟩ := hp22
      have e27 : a23 = (F_She_at R N K j17 t0_0 t1_0) := hE26
      replace b24 : q_F (0 ≤ a23.toInt) := b24
      replace b25 : q_F (a23.toInt ≤ 255) := b25
      refine lv_iload_n hx hb d_11_9_27 rfl (lv_at hl 2 rfl) ?_
      refine lv_sipush (v := 255) hx hb d_11_9_28 (by decide) ?_
      refine lv_iand hx hb d_11_9_31 ?_
      obtain ⟨a28, e29⟩ := q_nm (x3 &&& 255 : Int32)
      refine q_ti (v := a28) e29 ?_
      have b30 : q_F (0 ≤ a28.toInt ∧ a28.toInt ≤ 255) := (by rw [← e29]; show 0 ≤ (x3 &&& 255 : Int32).toInt ∧ (x3 &&& 255 : Int32).toInt ≤ 255; exact s_and (by decide))
      refine lv_ixor hx hb d_11_9_32 ?_
      obtain ⟨a31, e32⟩ := q_nm (a23 ^^^ a28 : Int32)
      refine q_ti (v := a31) e32 ?_
      have b33 : q_F (0 ≤ a31.toInt ∧ a31.toInt ≤ 255) := (by rw [← e32]; show 0 ≤ (a23 ^^^ a28 : Int32).toInt ∧ (a23 ^^^ a28 : Int32).toInt ≤ 255; exact s_xor' (x := a23) (y := a28) 8 (by decide) 255 (by decide) ⟨(by have t1 : 0 ≤ a23.toInt := b24; have t2 : a23.toInt ≤ 255 := b25; omega), (by have t1 : 0 ≤ a23.toInt := b24; have t2 : a23.toInt ≤ 255 := b25; omega)⟩ ⟨(by have t1 : 0 ≤ a28.toInt ∧ a28.toInt ≤ 255 := b30; omega), (by have t1 : 0 ≤ a28.toInt ∧ a28.toInt ≤ 255 := b30; omega)⟩)
      refine lv_i2l hx hb d_11_9_33 rfl ?_
      obtain ⟨j34, e35⟩ := q_nm (a31.toInt64 : Int64)
      refine q_tl (v := j34) e35 ?_
      have b36 : q_F (j34.toInt = a31.toInt) := (by rw [← e35]; show (a31.toInt64 : Int64).toInt = a31.toInt; exact q_i2l rfl)
      refine lv_bipush (v := 8) hx hb d_11_9_34 (by decide) ?_
      refine lv_iload_n hx hb d_11_9_36 rfl (lv_at hl 1 rfl) ?_
      refine lv_bipush (v := 7) hx hb d_11_9_37 (by decide) ?_
      refine lv_iand hx hb d_11_9_39 ?_
      obtain ⟨a37, e38⟩ := q_nm (x2 &&& 7 : Int32)
      refine q_ti (v := a37) e38 ?_
      have b39 : q_F (0 ≤ a37.toInt ∧ a37.toInt ≤ 7) := (by rw [← e38]; show 0 ≤ (x2 &&& 7 : Int32).toInt ∧ (x2 &&& 7 : Int32).toInt ≤ 7; exact s_and (by decide))
      refine lv_imul hx hb d_11_9_40 ?_
      obtain ⟨a40, e41⟩ := q_nm (8 * a37 : Int32)
      refine q_ti (v := a40) e41 ?_
      have b42 : q_F (a40.toInt = 8 * a37.toInt) := (by rw [← e41]; show (8 * a37 : Int32).toInt = 8 * a37.toInt; exact q_mulI (x := 8) (y := a37.toInt) (by decide) rfl (by have t1 : 0 ≤ a37.toInt ∧ a37.toInt ≤ 7 := b39; omega) (by have t1 : 0 ≤ a37.toInt ∧ a37.toInt ≤ 7 := b39; omega))
      refine lv_lshl hx hb d_11_9_41 rfl ?_
      obtain ⟨j43, e44⟩ := q_nm (j34 <<< (a40.toInt64 &&& 63) : Int64)
      refine q_tl (v := j43) e44 ?_
      refine lv_lxor hx hb d_11_9_42 ?_
      obtain ⟨j45, e46⟩ := q_nm (j15 ^^^ j43 : Int64)
      refine q_tl (v := j45) e46 ?_
      refine q_last C0 V hT1 (q_ix (x := a12.toInt) rfl (by have t1 : 0 ≤ x2.toInt := b8; have t2 : 8 * a12.toInt ≤ x2.toInt ∧ x2.toInt ≤ 8 * a12.toInt + 7 := b14; omega) (by have t1 : 0 ≤ x2.toInt := b8; have t2 : 8 * a12.toInt ≤ x2.toInt ∧ x2.toInt ≤ 8 * a12.toInt + 7 := b14; have t3 : 0 ≤ R.toInt ∧ R.toInt ≤ 8 * N.toInt ∧ 0 ≤ N.toInt ∧ N.toInt ≤ 1376 ∧ 64 ≤ R.toInt ∧ 64 ≤ K.toInt ∧ K.toInt ≤ 1000000 := hfk10; have t4 : x2.toInt < R.toInt := b11; have e9 := q_clI (i := N) rfl (by have t1 : 0 ≤ R.toInt ∧ R.toInt ≤ 8 * N.toInt ∧ 0 ≤ N.toInt ∧ N.toInt ≤ 1376 ∧ 64 ≤ R.toInt ∧ 64 ≤ K.toInt ∧ K.toInt ≤ 1000000 := hfk10; omega); omega)) d_11_9_43 (fun H locs w47 hu48 hT1 V => ?_)
      replace hI := n_al' hI hB1.2.1 hu48 hT1
      replace hT0 := (hu48 _ (by omega)).trans hT0
      replace hF := q_us hF hu48 (by simp)
      obtain ⟨f49, e50⟩ := q_nm (vp_updL t1_0 a12.toNatClampNeg j45 : (Nat → Int64))
      rw [e50] at hT1
      exact q_retv C0 V (⟨hI, hF, f49, hT1, (show f49 = (F_She_replace R N K x2 x3 t0_0 t1_0) from (by rw [← e50, ← e46, ← e44, ← e41, ← e38, ← e35, ← e32, ← e29, e27, ← e18, ← e16, ← e13, F_She_replace.eq_1, if_neg c6, if_neg c9]))⟩) d_11_9_44
def F_She_cut (R : Int32) (N : Int32) (K : Int32) (x2 : Int32) (t0_0 : Int32) : Int32 := (if x2 < t0_0 then x2 else t0_0 : Int32)
def S_She_cut (R : Int32) (N : Int32) (K : Int32) (x2 : Int32) (t0_0 : Int32) : Prop := (0 ≤ (if x2 < t0_0 then x2 else t0_0 : Int32).toInt) ∧ (True)
set_option maxRecDepth 100000 in
set_option maxHeartbeats 4000000 in
theorem X_She_cut (l : Launch) (D : va_G) (g : Nat → ClassId) (q : Nat → Nat) (ws : va_W) (k1 : Nat) (R N K : Int32) (hB1 : q_isShe (nsh g q) g q k1 R N K) (x2 : Int32) (hI : q_I (nsh g q) q ws) (t0_0 : Int32) (hT0 : ws[k1]? = (some (q k1, .inr (1, [.ref (q (k1 + 1)), .int R, .int t0_0])) : Option (Nat × va_E))) (hS : True ∧ S_She_cut R N K x2 t0_0) : q_mV l y_She_cut prog_11_method_10_code 2 2 0 0 D g [.ref (q k1), .int x2] ws (fun u => q_I (nsh g q) q u ∧ q_un ws u [k1] ∧ ∃ (u0_0 : Int32), u[k1]? = (some (q k1, .inr (1, [.ref (q (k1 + 1)), .int R, .int u0_0])) : Option (Nat × va_E)) ∧ (0 ≤ u0_0.toInt) ∧ (u0_0.toInt ≤ x2.toInt) ∧ (u0_0.toInt ≤ t0_0.toInt) ∧ u0_0 = (F_She_cut R N K x2 t0_0)) := by
  intro sz
  refine q_into (by decide) (Nat.le_of_ble_eq_true rfl) ?_
  intro p e s m below meth c ls hsz C0 V hl
  have hx := C0.1
  have hb := C0.2.1
  have hfk10 : q_F (0 ≤ R.toInt ∧ R.toInt ≤ 8 * N.toInt ∧ 0 ≤ N.toInt ∧ N.toInt ≤ 1376 ∧ 64 ≤ R.toInt ∧ 64 ≤ K.toInt ∧ K.toInt ≤ 1000000) := hB1.2.2.1
  obtain ⟨yy0_0, hh0, btt0_0⟩ := n_shO hI hB1
  obtain ⟨rfl⟩ : t0_0 = yy0_0 := by have z := Option.some.inj (hT0.symm.trans hh0); simpa using z
  replace btt0_0 : q_F (0 ≤ t0_0.toInt ∧ t0_0.toInt ≤ K.toInt) := btt0_0
  have hF : q_un ws ws [k1] := q_u0
  have hl : lv_has ls 2 [(0, .ref (q k1)), (1, .int x2)] := hl
  refine lv_aload_n hx hb d_11_10_0 rfl (lv_at hl 0 rfl) ?_
  refine lv_aload_n hx hb d_11_10_1 rfl (lv_at hl 0 rfl) ?_
  refine q_get (ci := 1) (j := 2) (v := .int t0_0) C0 V i_She rfl rfl hT0 (by decide) w_54 rfl d_11_10_2 ?_
  refine lv_iload_n hx hb d_11_10_5 rfl (lv_at hl 1 rfl) ?_
  refine q_min C0 hl.1 rfl w_1860 w_774 w_7 w_775 ⟨Nat.le_of_ble_eq_true rfl, Nat.le_of_ble_eq_true rfl⟩ ⟨Nat.le_of_ble_eq_true rfl, Nat.le_of_ble_eq_true rfl⟩ d_11_10_6 ?_
  obtain ⟨a4, e5⟩ := q_nm (if x2 < t0_0 then x2 else t0_0 : Int32)
  refine q_ti (v := a4) e5 ?_
  have b6 : q_F (a4.toInt ≤ t0_0.toInt ∧ a4.toInt ≤ x2.toInt ∧ (a4.toInt = t0_0.toInt ∨ a4.toInt = x2.toInt)) := (by rw [← e5]; show (if x2 < t0_0 then x2 else t0_0 : Int32).toInt ≤ t0_0.toInt ∧ (if x2 < t0_0 then x2 else t0_0 : Int32).toInt ≤ x2.toInt ∧ ((if x2 < t0_0 then x2 else t0_0 : Int32).toInt = t0_0.toInt ∨ (if x2 < t0_0 then x2 else t0_0 : Int32).toInt = x2.toInt); exact s_min (a := t0_0) (b := x2))
  refine q_put (ci := 1) (j := 2) (v := .int a4) (ty := .int) C0 V i_She o_She n_She rfl rfl hT0 (by decide) w_54 rfl rfl rfl rfl (Nat.le_of_ble_eq_true rfl) d_11_10_9 (fun H locs w7 hu8 hT0 V => ?_)
  replace hT0 : w7[k1]? = (some (q k1, .inr (1, [.ref (q (k1 + 1)), .int R, .int a4])) : Option (Nat × va_E)) := hT0
  have ob9 : q_F (0 ≤ a4.toInt) := (by rw [← e5]; have h := hS; rw [S_She_cut.eq_1] at h; exact h.2.1)
  replace hI := n_shO' hI hB1 hu8 hT0 ⟨(by have t1 : 0 ≤ a4.toInt := ob9; omega), (by have t1 : 0 ≤ t0_0.toInt ∧ t0_0.toInt ≤ K.toInt := btt0_0; have t2 : a4.toInt ≤ t0_0.toInt ∧ a4.toInt ≤ x2.toInt ∧ (a4.toInt = t0_0.toInt ∨ a4.toInt = x2.toInt) := b6; omega)⟩
  replace hF := q_us hF hu8 (by simp)
  exact q_retv C0 V (⟨hI, hF, a4, hT0, (show 0 ≤ a4.toInt from (by have t1 : 0 ≤ a4.toInt := ob9; omega)), (show a4.toInt ≤ x2.toInt from (by have t1 : a4.toInt ≤ t0_0.toInt ∧ a4.toInt ≤ x2.toInt ∧ (a4.toInt = t0_0.toInt ∨ a4.toInt = x2.toInt) := b6; omega)), (show a4.toInt ≤ t0_0.toInt from (by have t1 : a4.toInt ≤ t0_0.toInt ∧ a4.toInt ≤ x2.toInt ∧ (a4.toInt = t0_0.toInt ∨ a4.toInt = x2.toInt) := b6; omega)), (show a4 = (F_She_cut R N K x2 t0_0) from (by rw [← e5, F_She_cut.eq_1]))⟩) d_11_10_12
def F_She_addTimes_c9 (K_F_She_addTimes_L2 : Int32 → Int32 → (Nat → Int64) → (Int32 × (Nat → Int64))) (R : Int32) (N : Int32) (K : Int32) (x2 : Int32) (x3 : Int32) (t0_0 : Int32) (t1_0 : (Nat → Int64)) (lx7 : Int32) (lx8 : Int32) (lx9 : (Nat → Int64)) (p38 : (Int32 × (Nat → Int64))) : Int32 × (Nat → Int64) := K_F_She_addTimes_L2 (lx7 + 1 : Int32) (p38.1 : Int32) (p38.2 : (Nat → Int64))
def F_She_addTimes_L2 (R : Int32) (N : Int32) (K : Int32) (x2 : Int32) (x3 : Int32) (t0_0 : Int32) (t1_0 : (Nat → Int64)) : Nat → Int32 → Int32 → (Nat → Int64) → (Int32 × (Nat → Int64))
  | 0, _, _, _ => default
  | fm + 1, lx7, lx8, lx9 => if x3 ≤ lx7 then ((lx8, lx9)) else (F_She_addTimes_c9 (F_She_addTimes_L2 R N K x2 x3 t0_0 t1_0 fm) R N K x2 x3 t0_0 t1_0 lx7 lx8 lx9 ((F_She_add R N K x2 lx8 lx9) : (Int32 × (Nat → Int64))))
def F_She_addTimes (R : Int32) (N : Int32) (K : Int32) (x2 : Int32) (x3 : Int32) (t0_0 : Int32) (t1_0 : (Nat → Int64)) : Int32 × (Nat → Int64) := F_She_addTimes_L2 R N K x2 x3 t0_0 t1_0 ((1000000 - (0 : Int32).toInt).toNat + 1) 0 t0_0 t1_0
def S_She_addTimes_c9 (K_S_She_addTimes_L2 : Int32 → Int32 → (Nat → Int64) → Prop) (R : Int32) (N : Int32) (K : Int32) (x2 : Int32) (x3 : Int32) (t0_0 : Int32) (t1_0 : (Nat → Int64)) (lx7 : Int32) (lx8 : Int32) (lx9 : (Nat → Int64)) (p38 : (Int32 × (Nat → Int64))) : Prop := K_S_She_addTimes_L2 (lx7 + 1 : Int32) (p38.1 : Int32) (p38.2 : (Nat → Int64))
def S_She_addTimes_L2 (R : Int32) (N : Int32) (K : Int32) (x2 : Int32) (x3 : Int32) (t0_0 : Int32) (t1_0 : (Nat → Int64)) : Nat → Int32 → Int32 → (Nat → Int64) → Prop
  | 0, _, _, _ => False
  | fm + 1, lx7, lx8, lx9 => if x3 ≤ lx7 then (True) else ((True ∧ S_She_add R N K x2 lx8 lx9) ∧ (S_She_addTimes_c9 (S_She_addTimes_L2 R N K x2 x3 t0_0 t1_0 fm) R N K x2 x3 t0_0 t1_0 lx7 lx8 lx9 ((F_She_add R N K x2 lx8 lx9) : (Int32 × (Nat → Int64)))))
def S_She_addTimes (R : Int32) (N : Int32) (K : Int32) (x2 : Int32) (x3 : Int32) (t0_0 : Int32) (t1_0 : (Nat → Int64)) : Prop := S_She_addTimes_L2 R N K x2 x3 t0_0 t1_0 ((1000000 - (0 : Int32).toInt).toNat + 1) 0 t0_0 t1_0
set_option maxRecDepth 100000 in
set_option maxHeartbeats 4000000 in
theorem X_She_addTimes (l : Launch) (D : va_G) (g : Nat → ClassId) (q : Nat → Nat) (ws : va_W) (k1 : Nat) (R N K : Int32) (hB1 : q_isShe (nsh g q) g q k1 R N K) (x2 : Int32) (x3 : Int32) (hI : q_I (nsh g q) q ws) (t0_0 : Int32) (hT0 : ws[k1]? = (some (q k1, .inr (1, [.ref (q (k1 + 1)), .int R, .int t0_0])) : Option (Nat × va_E))) (t1_0 : (Nat → Int64)) (hT1 : ws[k1 + 1]? = (some (q (k1 + 1), .inl (g 1, N.toNatClampNeg, .inr (.inl t1_0))) : Option (Nat × va_E))) (hS : True ∧ S_She_addTimes R N K x2 x3 t0_0 t1_0) : q_mV l y_She_addTimes prog_11_method_5_code 4 2 0 0 D g [.ref (q k1), .int x2, .int x3] ws (fun u => q_I (nsh g q) q u ∧ q_un ws u [k1, k1 + 1] ∧ ∃ (u0_0 : Int32) (u1_0 : (Nat → Int64)), u[k1]? = (some (q k1, .inr (1, [.ref (q (k1 + 1)), .int R, .int u0_0])) : Option (Nat × va_E)) ∧ u[k1 + 1]? = (some (q (k1 + 1), .inl (g 1, N.toNatClampNeg, .inr (.inl u1_0))) : Option (Nat × va_E)) ∧ (x3.toInt ≤ u0_0.toInt) ∧ (t0_0.toInt ≤ u0_0.toInt) ∧ (u0_0.toInt ≤ K.toInt) ∧ (u0_0, u1_0) = (F_She_addTimes R N K x2 x3 t0_0 t1_0)) := by
  intro sz
  refine q_into (by decide) (Nat.le_of_ble_eq_true rfl) ?_
  intro p e s m below meth c ls hsz C0 V hl
  have hx := C0.1
  have hb := C0.2.1
  have hfk10 : q_F (0 ≤ R.toInt ∧ R.toInt ≤ 8 * N.toInt ∧ 0 ≤ N.toInt ∧ N.toInt ≤ 1376 ∧ 64 ≤ R.toInt ∧ 64 ≤ K.toInt ∧ K.toInt ≤ 1000000) := hB1.2.2.1
  obtain ⟨yy0_0, hh0, btt0_0⟩ := n_shO hI hB1
  obtain ⟨rfl⟩ : t0_0 = yy0_0 := by have z := Option.some.inj (hT0.symm.trans hh0); simpa using z
  replace btt0_0 : q_F (0 ≤ t0_0.toInt ∧ t0_0.toInt ≤ K.toInt) := btt0_0
  have hF : q_un ws ws [k1, k1 + 1] := q_u0
  have hl : lv_has ls 4 [(0, .ref (q k1)), (1, .int x2), (2, .int x3)] := hl
  refine lv_iconst (v := 0) hx hb d_11_5_0 (by decide) ?_
  refine lv_istore_n (lv' := [(3, .int 0), (0, .ref (q k1)), (1, .int x2), (2, .int x3)]) hx hb d_11_5_1 rfl hl (by decide) rfl (fun ls hl => ?_)
  refine q_loop (X := Int32 × Int32 × (Nat → Int64)) (fun z H locs ls w15 => q_F (z.2.1.toInt ≤ K.toInt) ∧ q_F (t0_0.toInt ≤ z.1.toInt + z.2.1.toInt) ∧ q_F (z.2.1.toInt ≤ z.1.toInt + t0_0.toInt) ∧ q_F (z.1.toInt + t0_0.toInt ≤ z.2.1.toInt) ∧ q_Wd D g (va_A ws sz) s w15 H locs ∧ lv_has ls 4 [(3, .int z.1), (0, .ref (q k1)), (1, .int x2), (2, .int x3)] ∧ q_I (nsh g q) q w15 ∧ q_un ws w15 [k1, k1 + 1] ∧ w15[k1]? = (some (q k1, .inr (1, [.ref (q (k1 + 1)), .int R, .int z.2.1])) : Option (Nat × va_E)) ∧ w15[k1 + 1]? = (some (q (k1 + 1), .inl (g 1, N.toNatClampNeg, .inr (.inl z.2.2))) : Option (Nat × va_E)) ∧ (∃ n, (1000000 - z.1.toInt).toNat < n ∧ F_She_addTimes_L2 R N K x2 x3 t0_0 t1_0 n z.1 z.2.1 z.2.2 = (F_She_addTimes R N K x2 x3 t0_0 t1_0) ∧ True ∧ S_She_addTimes_L2 R N K x2 x3 t0_0 t1_0 n z.1 z.2.1 z.2.2)) (fun z => (1000000 - z.1.toInt).toNat) ?_ ((0 : Int32), (t0_0 : Int32), (t1_0 : (Nat → Int64))) _ _ _ ws ⟨(show q_F (t0_0.toInt ≤ K.toInt) from (show t0_0.toInt ≤ K.toInt from by have t1 : 0 ≤ t0_0.toInt ∧ t0_0.toInt ≤ K.toInt := btt0_0; omega)), (show q_F (t0_0.toInt ≤ 0 + t0_0.toInt) from (show t0_0.toInt ≤ 0 + t0_0.toInt from by omega)), (show q_F (t0_0.toInt ≤ 0 + t0_0.toInt) from (show t0_0.toInt ≤ 0 + t0_0.toInt from by omega)), (show q_F (0 + t0_0.toInt ≤ t0_0.toInt) from (show 0 + t0_0.toInt ≤ t0_0.toInt from by omega)), V, q_lw hl (q_lw1 0 rfl (q_lw1 1 rfl (q_lw1 2 rfl (q_lw1 3 rfl q_lw0)))), hI, hF, hT0, hT1, ⟨((1000000 - (0 : Int32).toInt).toNat + 1), Nat.lt_succ_self _, (show F_She_addTimes_L2 R N K x2 x3 t0_0 t1_0 ((1000000 - (0 : Int32).toInt).toNat + 1) 0 t0_0 t1_0 = (F_She_addTimes R N K x2 x3 t0_0 t1_0) from (by rw [F_She_addTimes.eq_1])), (show True ∧ S_She_addTimes_L2 R N K x2 x3 t0_0 t1_0 ((1000000 - (0 : Int32).toInt).toNat + 1) 0 t0_0 t1_0 from (by have h := hS; rw [S_She_addTimes.eq_1] at h; with_reducible exact h))⟩⟩
  rintro ⟨lx7, lx8, lx9⟩ H locs ls w15 ⟨i10, i11, i12, i13, V, hl, hI, hF, hO16, hO17, ⟨fu20, hf21, hR18, hS19⟩⟩ ih14
  obtain ⟨fm22, rfl⟩ : ∃ m, fu20 = m + 1 := ⟨fu20 - 1, by omega⟩
  replace i10 : q_F (lx8.toInt ≤ K.toInt) := i10
  replace i11 : q_F (t0_0.toInt ≤ lx7.toInt + lx8.toInt) := i11
  replace i12 : q_F (lx8.toInt ≤ lx7.toInt + t0_0.toInt) := i12
  replace i13 : q_F (lx7.toInt + t0_0.toInt ≤ lx8.toInt) := i13
  replace hl : lv_has ls 4 [(3, .int lx7), (0, .ref (q k1)), (1, .int x2), (2, .int x3)] := hl
  replace hO16 : w15[k1]? = (some (q k1, .inr (1, [.ref (q (k1 + 1)), .int R, .int lx8])) : Option (Nat × va_E)) := hO16
  replace hO17 : w15[k1 + 1]? = (some (q (k1 + 1), .inl (g 1, N.toNatClampNeg, .inr (.inl lx9))) : Option (Nat × va_E)) := hO17
  refine lv_iload_n hx hb d_11_5_2 rfl (lv_at hl 0 rfl) ?_
  refine lv_iload_n hx hb d_11_5_3 rfl (lv_at hl 3 rfl) ?_
  refine lv_icmp_ge (tgt := 18) hx hb d_11_5_4 (by decide) (fun c23 => ?_) (fun c23 => ?_)
  ·
    have b24 : q_F (x3.toInt ≤ lx7.toInt) := (q_leI c23)
    exact q_retv C0 V (⟨hI, hF, lx8, lx9, hO16, hO17, (show x3.toInt ≤ lx8.toInt from (by have t1 : 0 ≤ t0_0.toInt ∧ t0_0.toInt ≤ K.toInt := btt0_0; have t2 : lx7.toInt + t0_0.toInt ≤ lx8.toInt := i13; have t3 : x3.toInt ≤ lx7.toInt := b24; omega)), (show t0_0.toInt ≤ lx8.toInt from (by have t1 : t0_0.toInt ≤ lx7.toInt + lx8.toInt := i11; have t2 : lx7.toInt + t0_0.toInt ≤ lx8.toInt := i13; omega)), (show lx8.toInt ≤ K.toInt from (by have t1 : lx8.toInt ≤ K.toInt := i10; omega)), (show (lx8, lx9) = (F_She_addTimes R N K x2 x3 t0_0 t1_0) from Eq.trans (by rw [F_She_addTimes_L2.eq_2, if_pos c23]) hR18)⟩) d_11_5_18
  ·
    have b25 : q_F (lx7.toInt < x3.toInt) := (q_nleI c23)
    refine lv_aload_n hx hb d_11_5_7 rfl (lv_at hl 1 rfl) ?_
    refine lv_iload_n hx hb d_11_5_8 rfl (lv_at hl 2 rfl) ?_
    have ob26 : True ∧ S_She_add R N K x2 lx8 lx9 := (by have h := hS19; rw [S_She_addTimes_L2.eq_2] at h; rw [if_neg c23] at h; with_reducible exact h.2.1)
    refine q_gov V (q_runV (As := [.int x2]) (rest := []) (d := 1) (mc := 0) (ms := 0) (ci := 1) C0 V rfl LV_She_34 (X_She_add l D g q w15 k1 R N K hB1 x2 hI lx8 hO16 lx9 hO17 ob26 _) rfl rfl hO16 rfl hl.1 rfl (Nat.le_of_ble_eq_true rfl) ⟨by decide, by decide⟩ ⟨Nat.le_of_ble_eq_true rfl, Nat.le_of_ble_eq_true rfl⟩ d_11_5_9) (fun u27 H locs hp28 V => ?_)
    obtain ⟨hI, hu37, y30, f31, hO29, hA32, b33, b34, b35, hE36⟩ := hp28
    replace hO29 : u27[k1]? = (some (q k1, .inr (1, [.ref (q (k1 + 1)), .int R, .int y30])) : Option (Nat × va_E)) := hO29
    replace hA32 : u27[k1 + 1]? = (some (q (k1 + 1), .inl (g 1, N.toNatClampNeg, .inr (.inl f31))) : Option (Nat × va_E)) := hA32
    obtain ⟨p38, e39⟩ : ∃ z, z = (F_She_add R N K x2 lx8 lx9) := ⟨_, rfl⟩
    have e40 : y30 = p38.1 := congrArg (fun z => z.1) (hE36.trans e39.symm)
    have e41 : f31 = p38.2 := congrArg (fun z => z.2) (hE36.trans e39.symm)
    replace b33 : q_F (lx8.toInt + 1 ≤ y30.toInt) := b33
    replace b34 : q_F (y30.toInt ≤ lx8.toInt + 1) := b34
    replace b35 : q_F (y30.toInt ≤ K.toInt) := b35
    replace hF := q_uc hF hu37 (by simp)
    have hR42 := (show F_She_addTimes_c9 (F_She_addTimes_L2 R N K x2 x3 t0_0 t1_0 fm22) R N K x2 x3 t0_0 t1_0 lx7 lx8 lx9 p38 = (F_She_addTimes R N K x2 x3 t0_0 t1_0) from Eq.trans (by rw [e39, F_She_addTimes_L2.eq_2, if_neg c23]) hR18)
    have hS43 := (show True ∧ S_She_addTimes_c9 (S_She_addTimes_L2 R N K x2 x3 t0_0 t1_0 fm22) R N K x2 x3 t0_0 t1_0 lx7 lx8 lx9 p38 from (by rw [e39]; have h := hS19; rw [S_She_addTimes_L2.eq_2] at h; rw [if_neg c23] at h; replace h := q_s2 h; with_reducible exact h))
    obtain ⟨a47, e48⟩ := q_nm (lx7 + 1 : Int32)
    have b49 : q_F (a47.toInt = lx7.toInt + 1) := (by rw [← e48]; exact q_addI (y := 1) rfl (by decide) (by have t1 : t0_0.toInt ≤ lx7.toInt + lx8.toInt := i11; have t2 : lx8.toInt ≤ lx7.toInt + t0_0.toInt := i12; have t3 : lx7.toInt < x3.toInt := b25; have _ := q_lo32 (x := x3); have _ := q_hi32 (x := x3); omega) (by have t1 : t0_0.toInt ≤ lx7.toInt + lx8.toInt := i11; have t2 : lx8.toInt ≤ lx7.toInt + t0_0.toInt := i12; have t3 : lx7.toInt < x3.toInt := b25; have _ := q_lo32 (x := x3); have _ := q_hi32 (x := x3); omega))
    refine lv_iinc (v := a47) (lv' := [(3, .int a47), (0, .ref (q k1)), (1, .int x2), (2, .int x3)]) hx hb d_11_5_12 hl (k := 0) rfl (e48) (by decide) rfl (fun ls hl => ?_)
    refine lv_goto (tgt := 2) hx hb d_11_5_15 (by decide) ?_
    exact ih14 ((a47 : Int32), (y30 : Int32), (f31 : (Nat → Int64))) _ _ _ _ (show (1000000 - a47.toInt).toNat < (1000000 - lx7.toInt).toNat from by have t1 : a47.toInt = lx7.toInt + 1 := b49; have t2 : 0 ≤ R.toInt ∧ R.toInt ≤ 8 * N.toInt ∧ 0 ≤ N.toInt ∧ N.toInt ≤ 1376 ∧ 64 ≤ R.toInt ∧ 64 ≤ K.toInt ∧ K.toInt ≤ 1000000 := hfk10; have t3 : 0 ≤ t0_0.toInt ∧ t0_0.toInt ≤ K.toInt := btt0_0; have t4 : lx8.toInt ≤ K.toInt := i10; have t5 : lx7.toInt + t0_0.toInt ≤ lx8.toInt := i13; have t6 : lx8.toInt + 1 ≤ y30.toInt := b33; have t7 : y30.toInt ≤ K.toInt := b35; omega) ⟨(show q_F (y30.toInt ≤ K.toInt) from (show y30.toInt ≤ K.toInt from by have t1 : y30.toInt ≤ K.toInt := b35; omega)), (show q_F (t0_0.toInt ≤ a47.toInt + y30.toInt) from (show t0_0.toInt ≤ a47.toInt + y30.toInt from by have t1 : t0_0.toInt ≤ lx7.toInt + lx8.toInt := i11; have t2 : lx8.toInt + 1 ≤ y30.toInt := b33; have t3 : a47.toInt = lx7.toInt + 1 := b49; omega)), (show q_F (y30.toInt ≤ a47.toInt + t0_0.toInt) from (show y30.toInt ≤ a47.toInt + t0_0.toInt from by have t1 : lx8.toInt ≤ lx7.toInt + t0_0.toInt := i12; have t2 : y30.toInt ≤ lx8.toInt + 1 := b34; have t3 : a47.toInt = lx7.toInt + 1 := b49; omega)), (show q_F (a47.toInt + t0_0.toInt ≤ y30.toInt) from (show a47.toInt + t0_0.toInt ≤ y30.toInt from by have t1 : lx7.toInt + t0_0.toInt ≤ lx8.toInt := i13; have t2 : lx8.toInt + 1 ≤ y30.toInt := b33; have t3 : a47.toInt = lx7.toInt + 1 := b49; omega)), V, q_lw hl (q_lw1 0 rfl (q_lw1 1 rfl (q_lw1 2 rfl (q_lw1 3 rfl q_lw0)))), hI, hF, hO29, hA32, ⟨fm22, Nat.lt_of_lt_of_le (show (1000000 - a47.toInt).toNat < (1000000 - lx7.toInt).toNat from by have t1 : a47.toInt = lx7.toInt + 1 := b49; have t2 : 0 ≤ R.toInt ∧ R.toInt ≤ 8 * N.toInt ∧ 0 ≤ N.toInt ∧ N.toInt ≤ 1376 ∧ 64 ≤ R.toInt ∧ 64 ≤ K.toInt ∧ K.toInt ≤ 1000000 := hfk10; have t3 : 0 ≤ t0_0.toInt ∧ t0_0.toInt ≤ K.toInt := btt0_0; have t4 : lx8.toInt ≤ K.toInt := i10; have t5 : lx7.toInt + t0_0.toInt ≤ lx8.toInt := i13; have t6 : lx8.toInt + 1 ≤ y30.toInt := b33; have t7 : y30.toInt ≤ K.toInt := b35; omega) (Nat.le_of_lt_succ hf21), (show F_She_addTimes_L2 R N K x2 x3 t0_0 t1_0 fm22 a47 y30 f31 = (F_She_addTimes R N K x2 x3 t0_0 t1_0) from Eq.trans (by rw [← e48, e41, e40, F_She_addTimes_c9.eq_1]) hR42), (show True ∧ S_She_addTimes_L2 R N K x2 x3 t0_0 t1_0 fm22 a47 y30 f31 from (by rw [← e48, e41, e40]; have h := hS43; rw [S_She_addTimes_c9.eq_1] at h; with_reducible exact h))⟩⟩
def F_She_addPower_c41 (K_F_She_addPower_L13 : Int32 → Int32 → Int32 → (Nat → Int64) → (Int32 × (Nat → Int64))) (R : Int32) (N : Int32) (K : Int32) (x2 : Int32) (x3 : Int32) (t0_0 : Int32) (t1_0 : (Nat → Int64)) (a9 : Int32) (lx16 : Int32) (lx17 : Int32) (lx18 : Int32) (lx19 : (Nat → Int64)) (p67 : (Int32 × (Nat → Int64))) : Int32 × (Nat → Int64) := K_F_She_addPower_L13 (lx16 + (-1) : Int32) (if (lx17 / 10 : Int32) < 1 then 1 else (lx17 / 10 : Int32) : Int32) (p67.1 : Int32) (p67.2 : (Nat → Int64))
def F_She_addPower_J30 (K_F_She_addPower_L13 : Int32 → Int32 → Int32 → (Nat → Int64) → (Int32 × (Nat → Int64))) (R : Int32) (N : Int32) (K : Int32) (x2 : Int32) (x3 : Int32) (t0_0 : Int32) (t1_0 : (Nat → Int64)) (a9 : Int32) (lx16 : Int32) (lx17 : Int32) (lx18 : Int32) (lx19 : (Nat → Int64)) : Int32 × (Nat → Int64) := F_She_addPower_c41 K_F_She_addPower_L13 R N K x2 x3 t0_0 t1_0 a9 lx16 lx17 lx18 lx19 ((F_She_add R N K (48 + ((a9 / lx17 : Int32) - (a9 / lx17 : Int32) / 10 * 10 : Int32) : Int32) lx18 lx19) : (Int32 × (Nat → Int64)))
def F_She_addPower_L13 (R : Int32) (N : Int32) (K : Int32) (x2 : Int32) (x3 : Int32) (t0_0 : Int32) (t1_0 : (Nat → Int64)) (a9 : Int32) : Nat → Int32 → Int32 → Int32 → (Nat → Int64) → (Int32 × (Nat → Int64))
  | 0, _, _, _, _ => default
  | fm + 1, lx16, lx17, lx18, lx19 => if lx16 ≤ (0 : Int32) then ((lx18, lx19)) else (if lx16 ≤ x3 then (F_She_addPower_J30 (F_She_addPower_L13 R N K x2 x3 t0_0 t1_0 a9 fm) R N K x2 x3 t0_0 t1_0 a9 lx16 lx17 lx18 lx19) else (if a9 < lx17 then (F_She_addPower_L13 R N K x2 x3 t0_0 t1_0 a9 fm (lx16 + (-1) : Int32) (if (lx17 / 10 : Int32) < 1 then 1 else (lx17 / 10 : Int32) : Int32) lx18 lx19) else (F_She_addPower_J30 (F_She_addPower_L13 R N K x2 x3 t0_0 t1_0 a9 fm) R N K x2 x3 t0_0 t1_0 a9 lx16 lx17 lx18 lx19)))
def F_She_addPower (R : Int32) (N : Int32) (K : Int32) (x2 : Int32) (x3 : Int32) (t0_0 : Int32) (t1_0 : (Nat → Int64)) : Int32 × (Nat → Int64) := F_She_addPower_L13 R N K x2 x3 t0_0 t1_0 ((F_jMath_abs_II x2) : Int32) (((5 : Int32).toInt - ((-1))).toNat + 1) 5 10000 t0_0 t1_0
def S_She_addPower_c41 (K_S_She_addPower_L13 : Int32 → Int32 → Int32 → (Nat → Int64) → Prop) (R : Int32) (N : Int32) (K : Int32) (x2 : Int32) (x3 : Int32) (t0_0 : Int32) (t1_0 : (Nat → Int64)) (a9 : Int32) (lx16 : Int32) (lx17 : Int32) (lx18 : Int32) (lx19 : (Nat → Int64)) (p67 : (Int32 × (Nat → Int64))) : Prop := K_S_She_addPower_L13 (lx16 + (-1) : Int32) (if (lx17 / 10 : Int32) < 1 then 1 else (lx17 / 10 : Int32) : Int32) (p67.1 : Int32) (p67.2 : (Nat → Int64))
def S_She_addPower_J30 (K_S_She_addPower_L13 : Int32 → Int32 → Int32 → (Nat → Int64) → Prop) (R : Int32) (N : Int32) (K : Int32) (x2 : Int32) (x3 : Int32) (t0_0 : Int32) (t1_0 : (Nat → Int64)) (a9 : Int32) (lx16 : Int32) (lx17 : Int32) (lx18 : Int32) (lx19 : (Nat → Int64)) : Prop := (True ∧ S_She_add R N K (48 + ((a9 / lx17 : Int32) - (a9 / lx17 : Int32) / 10 * 10 : Int32) : Int32) lx18 lx19) ∧ (S_She_addPower_c41 K_S_She_addPower_L13 R N K x2 x3 t0_0 t1_0 a9 lx16 lx17 lx18 lx19 ((F_She_add R N K (48 + ((a9 / lx17 : Int32) - (a9 / lx17 : Int32) / 10 * 10 : Int32) : Int32) lx18 lx19) : (Int32 × (Nat → Int64))))
def S_She_addPower_L13 (R : Int32) (N : Int32) (K : Int32) (x2 : Int32) (x3 : Int32) (t0_0 : Int32) (t1_0 : (Nat → Int64)) (a9 : Int32) : Nat → Int32 → Int32 → Int32 → (Nat → Int64) → Prop
  | 0, _, _, _, _ => False
  | fm + 1, lx16, lx17, lx18, lx19 => if lx16 ≤ (0 : Int32) then (True) else (if lx16 ≤ x3 then (S_She_addPower_J30 (S_She_addPower_L13 R N K x2 x3 t0_0 t1_0 a9 fm) R N K x2 x3 t0_0 t1_0 a9 lx16 lx17 lx18 lx19) else (if a9 < lx17 then (S_She_addPower_L13 R N K x2 x3 t0_0 t1_0 a9 fm (lx16 + (-1) : Int32) (if (lx17 / 10 : Int32) < 1 then 1 else (lx17 / 10 : Int32) : Int32) lx18 lx19) else (S_She_addPower_J30 (S_She_addPower_L13 R N K x2 x3 t0_0 t1_0 a9 fm) R N K x2 x3 t0_0 t1_0 a9 lx16 lx17 lx18 lx19)))
def S_She_addPower (R : Int32) (N : Int32) (K : Int32) (x2 : Int32) (x3 : Int32) (t0_0 : Int32) (t1_0 : (Nat → Int64)) : Prop := (0 ≤ x2.toInt + 2147483647) ∧ (S_She_addPower_L13 R N K x2 x3 t0_0 t1_0 ((F_jMath_abs_II x2) : Int32) (((5 : Int32).toInt - ((-1))).toNat + 1) 5 10000 t0_0 t1_0)
set_option maxRecDepth 100000 in
set_option maxHeartbeats 4000000 in
theorem X_She_addPower (l : Launch) (D : va_G) (g : Nat → ClassId) (q : Nat → Nat) (ws : va_W) (k1 : Nat) (R N K : Int32) (hB1 : q_isShe (nsh g q) g q k1 R N K) (x2 : Int32) (x3 : Int32) (hI : q_I (nsh g q) q ws) (t0_0 : Int32) (hT0 : ws[k1]? = (some (q k1, .inr (1, [.ref (q (k1 + 1)), .int R, .int t0_0])) : Option (Nat × va_E))) (t1_0 : (Nat → Int64)) (hT1 : ws[k1 + 1]? = (some (q (k1 + 1), .inl (g 1, N.toNatClampNeg, .inr (.inl t1_0))) : Option (Nat × va_E))) (hS : True ∧ S_She_addPower R N K x2 x3 t0_0 t1_0) : q_mV l y_She_addPower prog_11_method_6_code 6 2 0 0 D g [.ref (q k1), .int x2, .int x3] ws (fun u => q_I (nsh g q) q u ∧ q_un ws u [k1, k1 + 1] ∧ ∃ (u0_0 : Int32) (u1_0 : (Nat → Int64)), u[k1]? = (some (q k1, .inr (1, [.ref (q (k1 + 1)), .int R, .int u0_0])) : Option (Nat × va_E)) ∧ u[k1 + 1]? = (some (q (k1 + 1), .inl (g 1, N.toNatClampNeg, .inr (.inl u1_0))) : Option (Nat × va_E)) ∧ (t0_0.toInt ≤ u0_0.toInt) ∧ (u0_0.toInt ≤ t0_0.toInt + 5) ∧ (u0_0.toInt ≤ K.toInt) ∧ (u0_0, u1_0) = (F_She_addPower R N K x2 x3 t0_0 t1_0)) := by
  intro sz
  refine q_into (by decide) (Nat.le_of_ble_eq_true rfl) ?_
  intro p e s m below meth c ls hsz C0 V hl
  have hx := C0.1
  have hb := C0.2.1
  have hfk10 : q_F (0 ≤ R.toInt ∧ R.toInt ≤ 8 * N.toInt ∧ 0 ≤ N.toInt ∧ N.toInt ≤ 1376 ∧ 64 ≤ R.toInt ∧ 64 ≤ K.toInt ∧ K.toInt ≤ 1000000) := hB1.2.2.1
  obtain ⟨yy0_0, hh0, btt0_0⟩ := n_shO hI hB1
  obtain ⟨rfl⟩ : t0_0 = yy0_0 := by have z := Option.some.inj (hT0.symm.trans hh0); simpa using z
  replace btt0_0 : q_F (0 ≤ t0_0.toInt ∧ t0_0.toInt ≤ K.toInt) := btt0_0
  have hF : q_un ws ws [k1, k1 + 1] := q_u0
  have hl : lv_has ls 6 [(0, .ref (q k1)), (1, .int x2), (2, .int x3)] := hl
  refine lv_iload_n hx hb d_11_6_0 rfl (lv_at hl 1 rfl) ?_
  have ob6 : q_F (0 ≤ x2.toInt + 2147483647) := (by have h := hS; rw [S_She_addPower.eq_1] at h; exact h.2.1)
  refine q_goi V (q_runS (As := [.int x2]) (rest := []) (d := 1) (mc := 0) (ms := 0) C0 V rfl LS_She_38 (X_jMath_abs_II l D g q ws  x2 hI  (by have t1 : 0 ≤ x2.toInt + 2147483647 := ob6; omega) _) rfl hl.1 rfl (Nat.le_of_ble_eq_true rfl) ⟨by decide, by decide⟩ ⟨Nat.le_of_ble_eq_true rfl, Nat.le_of_ble_eq_true rfl⟩ d_11_6_1) (fun a9 u7 H locs hp8 V => ?_)
  obtain ⟨rfl, b10, b11, hE12⟩ := hp8
  have e13 : a9 = (F_jMath_abs_II x2) := hE12
  replace b10 : q_F (0 ≤ a9.toInt) := b10
  replace b11 : q_F (x2.toInt ≤ a9.toInt) := b11
  refine lv_istore_n (lv' := [(3, .int a9), (0, .ref (q k1)), (1, .int x2), (2, .int x3)]) hx hb d_11_6_4 rfl hl (by decide) rfl (fun ls hl => ?_)
  refine lv_sipush (v := 10000) hx hb d_11_6_5 (by decide) ?_
  refine lv_istore (lv' := [(4, .int 10000), (3, .int a9), (0, .ref (q k1)), (1, .int x2), (2, .int x3)]) hx hb d_11_6_8 hl (by decide) rfl (fun ls hl => ?_)
  refine lv_iconst (v := 5) hx hb d_11_6_10 (by decide) ?_
  refine lv_istore (lv' := [(5, .int 5), (4, .int 10000), (3, .int a9), (0, .ref (q k1)), (1, .int x2), (2, .int x3)]) hx hb d_11_6_11 hl (by decide) rfl (fun ls hl => ?_)
  refine q_loop (X := Int32 × Int32 × Int32 × (Nat → Int64)) (fun z H locs ls w27 => q_F (0 ≤ z.1.toInt) ∧ q_F (1 ≤ z.2.1.toInt) ∧ q_F (z.2.2.1.toInt ≤ K.toInt) ∧ q_F (t0_0.toInt ≤ z.2.2.1.toInt) ∧ q_F (z.2.1.toInt ≤ z.1.toInt + 9995) ∧ q_F (z.1.toInt + z.2.2.1.toInt ≤ t0_0.toInt + 5) ∧ q_Wd D g (va_A ws sz) s w27 H locs ∧ lv_has ls 6 [(5, .int z.1), (4, .int z.2.1), (3, .int a9), (0, .ref (q k1)), (2, .int x3)] ∧ q_I (nsh g q) q w27 ∧ q_un ws w27 [k1, k1 + 1] ∧ w27[k1]? = (some (q k1, .inr (1, [.ref (q (k1 + 1)), .int R, .int z.2.2.1])) : Option (Nat × va_E)) ∧ w27[k1 + 1]? = (some (q (k1 + 1), .inl (g 1, N.toNatClampNeg, .inr (.inl z.2.2.2))) : Option (Nat × va_E)) ∧ (∃ n, (z.1.toInt - ((-1))).toNat < n ∧ F_She_addPower_L13 R N K x2 x3 t0_0 t1_0 a9 n z.1 z.2.1 z.2.2.1 z.2.2.2 = (F_She_addPower R N K x2 x3 t0_0 t1_0) ∧ True ∧ S_She_addPower_L13 R N K x2 x3 t0_0 t1_0 a9 n z.1 z.2.1 z.2.2.1 z.2.2.2)) (fun z => (z.1.toInt - ((-1))).toNat) ?_ ((5 : Int32), (10000 : Int32), (t0_0 : Int32), (t1_0 : (Nat → Int64))) _ _ _ ws ⟨(show q_F (0 ≤ 5) from (show 0 ≤ 5 from by omega)), (show q_F (1 ≤ 10000) from (show 1 ≤ 10000 from by omega)), (show q_F (t0_0.toInt ≤ K.toInt) from (show t0_0.toInt ≤ K.toInt from by have t1 : 0 ≤ t0_0.toInt ∧ t0_0.toInt ≤ K.toInt := btt0_0; omega)), (show q_F (t0_0.toInt ≤ t0_0.toInt) from (show t0_0.toInt ≤ t0_0.toInt from by omega)), (show q_F (10000 ≤ 5 + 9995) from (show 10000 ≤ 5 + 9995 from by omega)), (show q_F (5 + t0_0.toInt ≤ t0_0.toInt + 5) from (show 5 + t0_0.toInt ≤ t0_0.toInt + 5 from by omega)), V, q_lw hl (q_lw1 0 rfl (q_lw1 1 rfl (q_lw1 2 rfl (q_lw1 3 rfl (q_lw1 5 rfl q_lw0))))), hI, hF, hT0, hT1, ⟨(((5 : Int32).toInt - ((-1))).toNat + 1), Nat.lt_succ_self _, (show F_She_addPower_L13 R N K x2 x3 t0_0 t1_0 a9 (((5 : Int32).toInt - ((-1))).toNat + 1) 5 10000 t0_0 t1_0 = (F_She_addPower R N K x2 x3 t0_0 t1_0) from (by rw [e13, F_She_addPower.eq_1])), (show True ∧ S_She_addPower_L13 R N K x2 x3 t0_0 t1_0 a9 (((5 : Int32).toInt - ((-1))).toNat + 1) 5 10000 t0_0 t1_0 from (by rw [e13]; have h := hS; rw [S_She_addPower.eq_1] at h; replace h := q_s2 h; with_reducible exact h))⟩⟩
  rintro ⟨lx16, lx17, lx18, lx19⟩ H locs ls w27 ⟨i20, i21, i22, i23, i24, i25, V, hl, hI, hF, hO28, hO29, ⟨fu32, hf33, hR30, hS31⟩⟩ ih26
  obtain ⟨fm34, rfl⟩ : ∃ m, fu32 = m + 1 := ⟨fu32 - 1, by omega⟩
  replace i20 : q_F (0 ≤ lx16.toInt) := i20
  replace i21 : q_F (1 ≤ lx17.toInt) := i21
  replace i22 : q_F (lx18.toInt ≤ K.toInt) := i22
  replace i23 : q_F (t0_0.toInt ≤ lx18.toInt) := i23
  replace i24 : q_F (lx17.toInt ≤ lx16.toInt + 9995) := i24
  replace i25 : q_F (lx16.toInt + lx18.toInt ≤ t0_0.toInt + 5) := i25
  replace hl : lv_has ls 6 [(5, .int lx16), (4, .int lx17), (3, .int a9), (0, .ref (q k1)), (2, .int x3)] := hl
  replace hO28 : w27[k1]? = (some (q k1, .inr (1, [.ref (q (k1 + 1)), .int R, .int lx18])) : Option (Nat × va_E)) := hO28
  replace hO29 : w27[k1 + 1]? = (some (q (k1 + 1), .inl (g 1, N.toNatClampNeg, .inr (.inl lx19))) : Option (Nat × va_E)) := hO29
  refine lv_iload hx hb d_11_6_13 (lv_at hl 0 rfl) ?_
  refine lv_if_le (tgt := 61) hx hb d_11_6_15 (by decide) (fun c35 => ?_) (fun c35 => ?_)
  ·
    have b36 : q_F (lx16.toInt ≤ 0) := (q_leI c35)
    exact q_retv C0 V (⟨hI, hF, lx18, lx19, hO28, hO29, (show t0_0.toInt ≤ lx18.toInt from (by have t1 : t0_0.toInt ≤ lx18.toInt := i23; omega)), (show lx18.toInt ≤ t0_0.toInt + 5 from (by have t1 : 0 ≤ lx16.toInt := i20; have t2 : lx16.toInt + lx18.toInt ≤ t0_0.toInt + 5 := i25; omega)), (show lx18.toInt ≤ K.toInt from (by have t1 : lx18.toInt ≤ K.toInt := i22; omega)), (show (lx18, lx19) = (F_She_addPower R N K x2 x3 t0_0 t1_0) from Eq.trans (by rw [F_She_addPower_L13.eq_2, if_pos c35]) hR30)⟩) d_11_6_61
  ·
    have b37 : q_F (0 < lx16.toInt) := (q_nleI c35)
    refine lv_iload hx hb d_11_6_18 (lv_at hl 0 rfl) ?_
    refine lv_iload_n hx hb d_11_6_20 rfl (lv_at hl 4 rfl) ?_
    refine q_join (X := Unit) (fun z H locs ls _ => q_Wd D g (va_A ws sz) s w27 H locs ∧ lv_has ls 6 [(5, .int lx16), (4, .int lx17), (3, .int a9), (0, .ref (q k1)), (2, .int x3)] ∧ F_She_addPower_J30 (F_She_addPower_L13 R N K x2 x3 t0_0 t1_0 a9 fm34) R N K x2 x3 t0_0 t1_0 a9 lx16 lx17 lx18 lx19 = (F_She_addPower R N K x2 x3 t0_0 t1_0) ∧ True ∧ S_She_addPower_J30 (S_She_addPower_L13 R N K x2 x3 t0_0 t1_0 a9 fm34) R N K x2 x3 t0_0 t1_0 a9 lx16 lx17 lx18 lx19) (fun z => []) 30 0 0 ?_ ?_
    ·
      rintro _ H locs ls _ ⟨V, hl, hR41, hS42⟩
      replace hl : lv_has ls 6 [(5, .int lx16), (4, .int lx17), (3, .int a9), (0, .ref (q k1)), (2, .int x3)] := hl
      refine lv_aload_n hx hb d_11_6_30 rfl (lv_at hl 3 rfl) ?_
      refine lv_bipush (v := 48) hx hb d_11_6_31 (by decide) ?_
      refine lv_iload_n hx hb d_11_6_33 rfl (lv_at hl 2 rfl) ?_
      refine lv_iload hx hb d_11_6_34 (lv_at hl 1 rfl) ?_
      refine lv_idiv hx hb d_11_6_36 (s_nzI (by have t1 : 1 ≤ lx17.toInt := i21; omega)) ?_
      obtain ⟨a46, e47⟩ := q_nm (a9 / lx17 : Int32)
      refine q_ti (v := a46) e47 ?_
      have b48 : q_F (0 ≤ a46.toInt ∧ a46.toInt ≤ a9.toInt) := (by rw [← e47]; show 0 ≤ (a9 / lx17 : Int32).toInt ∧ (a9 / lx17 : Int32).toInt ≤ a9.toInt; exact (by have z := q_divI (a := a9) (b := lx17) (x := a9.toInt) (y := lx17.toInt) rfl rfl (by have t1 : 0 ≤ a9.toInt := b10; omega) (by have t1 : 1 ≤ lx17.toInt := i21; omega); have h1 : 0 ≤ a9.toInt / lx17.toInt := Int.ediv_nonneg (by have t1 : 0 ≤ a9.toInt := b10; omega) (by have t1 : 1 ≤ lx17.toInt := i21; omega); have h2 : a9.toInt / lx17.toInt ≤ a9.toInt := Int.ediv_le_self lx17.toInt (by have t1 : 0 ≤ a9.toInt := b10; omega); exact ⟨by rw [z]; exact h1, by rw [z]; exact h2⟩))
      refine lv_bipush (v := 10) hx hb d_11_6_37 (by decide) ?_
      refine lv_irem hx hb d_11_6_39 (by decide) ?_
      obtain ⟨a49, e50⟩ := q_nm (a46 - a46 / 10 * 10 : Int32)
      refine q_ti (v := a49) e50 ?_
      have b51 : q_F (0 ≤ a49.toInt ∧ a49.toInt ≤ 9 ∧ a49.toInt ≤ a46.toInt) := (by rw [← e50]; show 0 ≤ (a46 - a46 / 10 * 10 : Int32).toInt ∧ (a46 - a46 / 10 * 10 : Int32).toInt ≤ 9 ∧ (a46 - a46 / 10 * 10 : Int32).toInt ≤ a46.toInt; exact (by have z := s_rem' (x := a46) (b := 10) (by have t1 : 0 ≤ a46.toInt ∧ a46.toInt ≤ a9.toInt := b48; omega) (by decide); have z8 : (10 : Int32).toInt = 10 := rfl; omega))
      refine lv_iadd hx hb d_11_6_40 ?_
      obtain ⟨a52, e53⟩ := q_nm (48 + a49 : Int32)
      refine q_ti (v := a52) e53 ?_
      have b54 : q_F (a52.toInt = 48 + a49.toInt) := (by rw [← e53]; show (48 + a49 : Int32).toInt = 48 + a49.toInt; exact q_addI (x := 48) (y := a49.toInt) (by decide) rfl (by have t1 : 0 ≤ a49.toInt ∧ a49.toInt ≤ 9 ∧ a49.toInt ≤ a46.toInt := b51; omega) (by have t1 : 0 ≤ a49.toInt ∧ a49.toInt ≤ 9 ∧ a49.toInt ≤ a46.toInt := b51; omega))
      have ob55 : True ∧ S_She_add R N K a52 lx18 lx19 := (by rw [← e53, ← e50, ← e47]; have h := hS42; rw [S_She_addPower_J30.eq_1] at h; with_reducible exact h.2.1)
      refine q_gov V (q_runV (As := [.int a52]) (rest := []) (d := 1) (mc := 0) (ms := 0) (ci := 1) C0 V rfl LV_She_34 (X_She_add l D g q w27 k1 R N K hB1 a52 hI lx18 hO28 lx19 hO29 ob55 _) rfl rfl hO28 rfl hl.1 rfl (Nat.le_of_ble_eq_true rfl) ⟨by decide, by decide⟩ ⟨Nat.le_of_ble_eq_true rfl, Nat.le_of_ble_eq_true rfl⟩ d_11_6_41) (fun u56 H locs hp57 V => ?_)
      obtain ⟨hI, hu66, y59, f60, hO58, hA61, b62, b63, b64, hE65⟩ := hp57
      replace hO58 : u56[k1]? = (some (q k1, .inr (1, [.ref (q (k1 + 1)), .int R, .int y59])) : Option (Nat × va_E)) := hO58
      replace hA61 : u56[k1 + 1]? = (some (q (k1 + 1), .inl (g 1, N.toNatClampNeg, .inr (.inl f60))) : Option (Nat × va_E)) := hA61
      obtain ⟨p67, e68⟩ : ∃ z, z = (F_She_add R N K a52 lx18 lx19) := ⟨_, rfl⟩
      have e69 : y59 = p67.1 := congrArg (fun z => z.1) (hE65.trans e68.symm)
      have e70 : f60 = p67.2 := congrArg (fun z => z.2) (hE65.trans e68.symm)
      replace b62 : q_F (lx18.toInt + 1 ≤ y59.toInt) := b62
      replace b63 : q_F (y59.toInt ≤ lx18.toInt + 1) := b63
      replace b64 : q_F (y59.toInt ≤ K.toInt) := b64
      replace hF := q_uc hF hu66 (by simp)
      have hR71 := (show F_She_addPower_c41 (F_She_addPower_L13 R N K x2 x3 t0_0 t1_0 a9 fm34) R N K x2 x3 t0_0 t1_0 a9 lx16 lx17 lx18 lx19 p67 = (F_She_addPower R N K x2 x3 t0_0 t1_0) from Eq.trans (by rw [e68, ← e53, ← e50, ← e47, F_She_addPower_J30.eq_1]) hR41)
      have hS72 := (show True ∧ S_She_addPower_c41 (S_She_addPower_L13 R N K x2 x3 t0_0 t1_0 a9 fm34) R N K x2 x3 t0_0 t1_0 a9 lx16 lx17 lx18 lx19 p67 from (by rw [e68, ← e53, ← e50, ← e47]; have h := hS42; rw [S_She_addPower_J30.eq_1] at h; replace h := q_s2 h; with_reducible exact h))
      refine lv_iload hx hb d_11_6_44 (lv_at hl 1 rfl) ?_
      refine lv_bipush (v := 10) hx hb d_11_6_46 (by decide) ?_
      refine lv_idiv hx hb d_11_6_48 (by decide) ?_
      obtain ⟨a76, e77⟩ := q_nm (lx17 / 10 : Int32)
      refine q_ti (v := a76) e77 ?_
      have b78 : q_F (10 * a76.toInt ≤ lx17.toInt ∧ lx17.toInt ≤ 10 * a76.toInt + 9) := (by rw [← e77]; show 10 * (lx17 / 10 : Int32).toInt ≤ lx17.toInt ∧ lx17.toInt ≤ 10 * (lx17 / 10 : Int32).toInt + 9; exact (by have z := q_divI (y := 10) (rfl : lx17.toInt = _) (by decide : (10 : Int32).toInt = 10) (by have t1 : 1 ≤ lx17.toInt := i21; omega) (by decide); omega))
      refine lv_iconst (v := 1) hx hb d_11_6_49 (by decide) ?_
      refine q_max C0 hl.1 rfl w_1588 w_803 w_7 w_804 ⟨Nat.le_of_ble_eq_true rfl, Nat.le_of_ble_eq_true rfl⟩ ⟨Nat.le_of_ble_eq_true rfl, Nat.le_of_ble_eq_true rfl⟩ d_11_6_50 ?_
      obtain ⟨a79, e80⟩ := q_nm (if a76 < 1 then 1 else a76 : Int32)
      refine q_ti (v := a79) e80 ?_
      have b81 : q_F (a76.toInt ≤ a79.toInt ∧ 1 ≤ a79.toInt ∧ (a79.toInt = a76.toInt ∨ a79.toInt = 1)) := (by rw [← e80]; show a76.toInt ≤ (if a76 < 1 then 1 else a76 : Int32).toInt ∧ 1 ≤ (if a76 < 1 then 1 else a76 : Int32).toInt ∧ ((if a76 < 1 then 1 else a76 : Int32).toInt = a76.toInt ∨ (if a76 < 1 then 1 else a76 : Int32).toInt = 1); exact (by have y1 : (1 : Int32).toInt = 1 := rfl; have z := s_max (a := a76) (b := 1); omega))
      refine lv_istore (lv' := [(4, .int a79), (5, .int lx16), (3, .int a9), (0, .ref (q k1)), (2, .int x3)]) hx hb d_11_6_53 hl (by decide) rfl (fun ls hl => ?_)
      obtain ⟨a82, e83⟩ := q_nm (lx16 + (-1) : Int32)
      have b84 : q_F (a82.toInt = lx16.toInt + (-1)) := (by rw [← e83]; exact q_addI (y := (-1)) rfl (by decide) (by have t1 : 0 ≤ lx16.toInt := i20; have _ := q_lo32 (x := lx16); have _ := q_hi32 (x := lx16); omega) (by have t1 : 0 ≤ lx16.toInt := i20; have _ := q_lo32 (x := lx16); have _ := q_hi32 (x := lx16); omega))
      refine lv_iinc (v := a82) (lv' := [(5, .int a82), (4, .int a79), (3, .int a9), (0, .ref (q k1)), (2, .int x3)]) hx hb d_11_6_55 hl (k := 1) rfl (e83) (by decide) rfl (fun ls hl => ?_)
      refine lv_goto (tgt := 13) hx hb d_11_6_58 (by decide) ?_
      exact ih26 ((a82 : Int32), (a79 : Int32), (y59 : Int32), (f60 : (Nat → Int64))) _ _ _ _ (show (a82.toInt - ((-1))).toNat < (lx16.toInt - ((-1))).toNat from by have t1 : a82.toInt = lx16.toInt + (-1) := b84; have t2 : 0 ≤ lx16.toInt := i20; omega) ⟨(show q_F (0 ≤ a82.toInt) from (show 0 ≤ a82.toInt from by have t1 : 0 < lx16.toInt := b37; have t2 : a82.toInt = lx16.toInt + (-1) := b84; omega)), (show q_F (1 ≤ a79.toInt) from (show 1 ≤ a79.toInt from by have t1 : a76.toInt ≤ a79.toInt ∧ 1 ≤ a79.toInt ∧ (a79.toInt = a76.toInt ∨ a79.toInt = 1) := b81; omega)), (show q_F (y59.toInt ≤ K.toInt) from (show y59.toInt ≤ K.toInt from by have t1 : y59.toInt ≤ K.toInt := b64; omega)), (show q_F (t0_0.toInt ≤ y59.toInt) from (show t0_0.toInt ≤ y59.toInt from by have t1 : t0_0.toInt ≤ lx18.toInt := i23; have t2 : lx18.toInt + 1 ≤ y59.toInt := b62; omega)), (show q_F (a79.toInt ≤ a82.toInt + 9995) from (show a79.toInt ≤ a82.toInt + 9995 from by have t1 : 0 ≤ lx16.toInt := i20; have t2 : lx17.toInt ≤ lx16.toInt + 9995 := i24; have t3 : 10 * a76.toInt ≤ lx17.toInt ∧ lx17.toInt ≤ 10 * a76.toInt + 9 := b78; have t4 : a76.toInt ≤ a79.toInt ∧ 1 ≤ a79.toInt ∧ (a79.toInt = a76.toInt ∨ a79.toInt = 1) := b81; have t5 : a82.toInt = lx16.toInt + (-1) := b84; omega)), (show q_F (a82.toInt + y59.toInt ≤ t0_0.toInt + 5) from (show a82.toInt + y59.toInt ≤ t0_0.toInt + 5 from by have t1 : lx16.toInt + lx18.toInt ≤ t0_0.toInt + 5 := i25; have t2 : y59.toInt ≤ lx18.toInt + 1 := b63; have t3 : a82.toInt = lx16.toInt + (-1) := b84; omega)), V, q_lw hl (q_lw1 0 rfl (q_lw1 1 rfl (q_lw1 2 rfl (q_lw1 3 rfl (q_lw1 4 rfl q_lw0))))), hI, hF, hO58, hA61, ⟨fm34, Nat.lt_of_lt_of_le (show (a82.toInt - ((-1))).toNat < (lx16.toInt - ((-1))).toNat from by have t1 : a82.toInt = lx16.toInt + (-1) := b84; have t2 : 0 ≤ lx16.toInt := i20; omega) (Nat.le_of_lt_succ hf33), (show F_She_addPower_L13 R N K x2 x3 t0_0 t1_0 a9 fm34 a82 a79 y59 f60 = (F_She_addPower R N K x2 x3 t0_0 t1_0) from Eq.trans (by rw [← e83, ← e80, ← e77, e70, e69, F_She_addPower_c41.eq_1]) hR71), (show True ∧ S_She_addPower_L13 R N K x2 x3 t0_0 t1_0 a9 fm34 a82 a79 y59 f60 from (by rw [← e83, ← e80, ← e77, e70, e69]; have h := hS72; rw [S_She_addPower_c41.eq_1] at h; with_reducible exact h))⟩⟩
    ·
      intro J40
      refine lv_icmp_le (tgt := 30) hx hb d_11_6_21 (by decide) (fun c85 => ?_) (fun c85 => ?_)
      ·
        have b86 : q_F (lx16.toInt ≤ x3.toInt) := (q_leI c85)
        exact J40 (()) _ _ _ w27 ⟨V, q_lw hl (q_lw1 0 rfl (q_lw1 1 rfl (q_lw1 2 rfl (q_lw1 3 rfl (q_lw1 4 rfl q_lw0))))), (show F_She_addPower_J30 (F_She_addPower_L13 R N K x2 x3 t0_0 t1_0 a9 fm34) R N K x2 x3 t0_0 t1_0 a9 lx16 lx17 lx18 lx19 = (F_She_addPower R N K x2 x3 t0_0 t1_0) from Eq.trans (by rw [F_She_addPower_L13.eq_2, if_neg c35, if_pos c85]) hR30), (show True ∧ S_She_addPower_J30 (S_She_addPower_L13 R N K x2 x3 t0_0 t1_0 a9 fm34) R N K x2 x3 t0_0 t1_0 a9 lx16 lx17 lx18 lx19 from (by have h := hS31; rw [S_She_addPower_L13.eq_2] at h; rw [if_neg c35] at h; rw [if_pos c85] at h; with_reducible exact h))⟩
      ·
        have b87 : q_F (x3.toInt < lx16.toInt) := (q_nleI c85)
        refine lv_iload_n hx hb d_11_6_24 rfl (lv_at hl 2 rfl) ?_
        refine lv_iload hx hb d_11_6_25 (lv_at hl 1 rfl) ?_
        refine lv_icmp_lt (tgt := 44) hx hb d_11_6_27 (by decide) (fun c88 => ?_) (fun c88 => ?_)
        ·
          have b89 : q_F (a9.toInt < lx17.toInt) := (q_ltI c88)
          refine lv_iload hx hb d_11_6_44 (lv_at hl 1 rfl) ?_
          refine lv_bipush (v := 10) hx hb d_11_6_46 (by decide) ?_
          refine lv_idiv hx hb d_11_6_48 (by decide) ?_
          obtain ⟨a90, e91⟩ := q_nm (lx17 / 10 : Int32)
          refine q_ti (v := a90) e91 ?_
          have b92 : q_F (10 * a90.toInt ≤ lx17.toInt ∧ lx17.toInt ≤ 10 * a90.toInt + 9) := (by rw [← e91]; show 10 * (lx17 / 10 : Int32).toInt ≤ lx17.toInt ∧ lx17.toInt ≤ 10 * (lx17 / 10 : Int32).toInt + 9; exact (by have z := q_divI (y := 10) (rfl : lx17.toInt = _) (by decide : (10 : Int32).toInt = 10) (by have t1 : 1 ≤ lx17.toInt := i21; omega) (by decide); omega))
          refine lv_iconst (v := 1) hx hb d_11_6_49 (by decide) ?_
          refine q_max C0 hl.1 rfl w_1588 w_803 w_7 w_804 ⟨Nat.le_of_ble_eq_true rfl, Nat.le_of_ble_eq_true rfl⟩ ⟨Nat.le_of_ble_eq_true rfl, Nat.le_of_ble_eq_true rfl⟩ d_11_6_50 ?_
          obtain ⟨a93, e94⟩ := q_nm (if a90 < 1 then 1 else a90 : Int32)
          refine q_ti (v := a93) e94 ?_
          have b95 : q_F (a90.toInt ≤ a93.toInt ∧ 1 ≤ a93.toInt ∧ (a93.toInt = a90.toInt ∨ a93.toInt = 1)) := (by rw [← e94]; show a90.toInt ≤ (if a90 < 1 then 1 else a90 : Int32).toInt ∧ 1 ≤ (if a90 < 1 then 1 else a90 : Int32).toInt ∧ ((if a90 < 1 then 1 else a90 : Int32).toInt = a90.toInt ∨ (if a90 < 1 then 1 else a90 : Int32).toInt = 1); exact (by have y1 : (1 : Int32).toInt = 1 := rfl; have z := s_max (a := a90) (b := 1); omega))
          refine lv_istore (lv' := [(4, .int a93), (5, .int lx16), (3, .int a9), (0, .ref (q k1)), (2, .int x3)]) hx hb d_11_6_53 hl (by decide) rfl (fun ls hl => ?_)
          obtain ⟨a96, e97⟩ := q_nm (lx16 + (-1) : Int32)
          have b98 : q_F (a96.toInt = lx16.toInt + (-1)) := (by rw [← e97]; exact q_addI (y := (-1)) rfl (by decide) (by have t1 : 0 ≤ lx16.toInt := i20; have _ := q_lo32 (x := lx16); have _ := q_hi32 (x := lx16); omega) (by have t1 : 0 ≤ lx16.toInt := i20; have _ := q_lo32 (x := lx16); have _ := q_hi32 (x := lx16); omega))
          refine lv_iinc (v := a96) (lv' := [(5, .int a96), (4, .int a93), (3, .int a9), (0, .ref (q k1)), (2, .int x3)]) hx hb d_11_6_55 hl (k := 1) rfl (e97) (by decide) rfl (fun ls hl => ?_)
          refine lv_goto (tgt := 13) hx hb d_11_6_58 (by decide) ?_
          exact ih26 ((a96 : Int32), (a93 : Int32), (lx18 : Int32), (lx19 : (Nat → Int64))) _ _ _ _ (show (a96.toInt - ((-1))).toNat < (lx16.toInt - ((-1))).toNat from by have t1 : a96.toInt = lx16.toInt + (-1) := b98; have t2 : 0 ≤ lx16.toInt := i20; omega) ⟨(show q_F (0 ≤ a96.toInt) from (show 0 ≤ a96.toInt from by have t1 : 0 < lx16.toInt := b37; have t2 : a96.toInt = lx16.toInt + (-1) := b98; omega)), (show q_F (1 ≤ a93.toInt) from (show 1 ≤ a93.toInt from by have t1 : a90.toInt ≤ a93.toInt ∧ 1 ≤ a93.toInt ∧ (a93.toInt = a90.toInt ∨ a93.toInt = 1) := b95; omega)), (show q_F (lx18.toInt ≤ K.toInt) from (show lx18.toInt ≤ K.toInt from by have t1 : lx18.toInt ≤ K.toInt := i22; omega)), (show q_F (t0_0.toInt ≤ lx18.toInt) from (show t0_0.toInt ≤ lx18.toInt from by have t1 : t0_0.toInt ≤ lx18.toInt := i23; omega)), (show q_F (a93.toInt ≤ a96.toInt + 9995) from (show a93.toInt ≤ a96.toInt + 9995 from by have t1 : 0 ≤ lx16.toInt := i20; have t2 : lx17.toInt ≤ lx16.toInt + 9995 := i24; have t3 : 10 * a90.toInt ≤ lx17.toInt ∧ lx17.toInt ≤ 10 * a90.toInt + 9 := b92; have t4 : a90.toInt ≤ a93.toInt ∧ 1 ≤ a93.toInt ∧ (a93.toInt = a90.toInt ∨ a93.toInt = 1) := b95; have t5 : a96.toInt = lx16.toInt + (-1) := b98; omega)), (show q_F (a96.toInt + lx18.toInt ≤ t0_0.toInt + 5) from (show a96.toInt + lx18.toInt ≤ t0_0.toInt + 5 from by have t1 : lx16.toInt + lx18.toInt ≤ t0_0.toInt + 5 := i25; have t2 : a96.toInt = lx16.toInt + (-1) := b98; omega)), V, q_lw hl (q_lw1 0 rfl (q_lw1 1 rfl (q_lw1 2 rfl (q_lw1 3 rfl (q_lw1 4 rfl q_lw0))))), hI, hF, hO28, hO29, ⟨fm34, Nat.lt_of_lt_of_le (show (a96.toInt - ((-1))).toNat < (lx16.toInt - ((-1))).toNat from by have t1 : a96.toInt = lx16.toInt + (-1) := b98; have t2 : 0 ≤ lx16.toInt := i20; omega) (Nat.le_of_lt_succ hf33), (show F_She_addPower_L13 R N K x2 x3 t0_0 t1_0 a9 fm34 a96 a93 lx18 lx19 = (F_She_addPower R N K x2 x3 t0_0 t1_0) from Eq.trans (by rw [← e97, ← e94, ← e91, F_She_addPower_L13.eq_2, if_neg c35, if_neg c85, if_pos c88]) hR30), (show True ∧ S_She_addPower_L13 R N K x2 x3 t0_0 t1_0 a9 fm34 a96 a93 lx18 lx19 from (by rw [← e97, ← e94, ← e91]; have h := hS31; rw [S_She_addPower_L13.eq_2] at h; rw [if_neg c35] at h; rw [if_neg c85] at h; rw [if_pos c88] at h; with_reducible exact h))⟩⟩
        ·
          have b99 : q_F (lx17.toInt ≤ a9.toInt) := (q_nltI c88)
          exact J40 (()) _ _ _ w27 ⟨V, q_lw hl (q_lw1 0 rfl (q_lw1 1 rfl (q_lw1 2 rfl (q_lw1 3 rfl (q_lw1 4 rfl q_lw0))))), (show F_She_addPower_J30 (F_She_addPower_L13 R N K x2 x3 t0_0 t1_0 a9 fm34) R N K x2 x3 t0_0 t1_0 a9 lx16 lx17 lx18 lx19 = (F_She_addPower R N K x2 x3 t0_0 t1_0) from Eq.trans (by rw [F_She_addPower_L13.eq_2, if_neg c35, if_neg c85, if_neg c88]) hR30), (show True ∧ S_She_addPower_J30 (S_She_addPower_L13 R N K x2 x3 t0_0 t1_0 a9 fm34) R N K x2 x3 t0_0 t1_0 a9 lx16 lx17 lx18 lx19 from (by have h := hS31; rw [S_She_addPower_L13.eq_2] at h; rw [if_neg c35] at h; rw [if_neg c85] at h; rw [if_neg c88] at h; with_reducible exact h))⟩
def F_She_turn_L9 (R : Int32) (N : Int32) (K : Int32) (x2 : Int32) (t0_0 : Int32) (t1_0 : (Nat → Int64)) : Nat → Int32 → Int32 → (Nat → Int64) → (Nat → Int64)
  | 0, _, _, _ => default
  | fm + 1, lx11, lx12, lx13 => if lx11 ≤ lx12 then (lx13) else (F_She_turn_L9 R N K x2 t0_0 t1_0 fm (lx11 + (-1) : Int32) (lx12 + 1 : Int32) ((F_She_replace R N K lx11 ((F_She_at R N K (lx12.toInt64 : Int64) t0_0 lx13) : Int32) t0_0 ((F_She_replace R N K lx12 ((F_She_at R N K (lx11.toInt64 : Int64) t0_0 lx13) : Int32) t0_0 lx13) : (Nat → Int64))) : (Nat → Int64)))
def F_She_turn (R : Int32) (N : Int32) (K : Int32) (x2 : Int32) (t0_0 : Int32) (t1_0 : (Nat → Int64)) : (Nat → Int64) := F_She_turn_L9 R N K x2 t0_0 t1_0 (((t0_0 - 1 : Int32).toInt - (x2.toInt)).toNat + 1) (t0_0 - 1 : Int32) x2 t1_0
def S_She_turn_L9 (R : Int32) (N : Int32) (K : Int32) (x2 : Int32) (t0_0 : Int32) (t1_0 : (Nat → Int64)) : Nat → Int32 → Int32 → (Nat → Int64) → Prop
  | 0, _, _, _ => False
  | fm + 1, lx11, lx12, lx13 => if lx11 ≤ lx12 then (True) else ((True ∧ S_She_at R N K (lx12.toInt64 : Int64) t0_0 lx13) ∧ ((True ∧ S_She_at R N K (lx11.toInt64 : Int64) t0_0 lx13) ∧ ((True ∧ S_She_replace R N K lx12 ((F_She_at R N K (lx11.toInt64 : Int64) t0_0 lx13) : Int32) t0_0 lx13) ∧ ((True ∧ S_She_replace R N K lx11 ((F_She_at R N K (lx12.toInt64 : Int64) t0_0 lx13) : Int32) t0_0 ((F_She_replace R N K lx12 ((F_She_at R N K (lx11.toInt64 : Int64) t0_0 lx13) : Int32) t0_0 lx13) : (Nat → Int64))) ∧ (S_She_turn_L9 R N K x2 t0_0 t1_0 fm (lx11 + (-1) : Int32) (lx12 + 1 : Int32) ((F_She_replace R N K lx11 ((F_She_at R N K (lx12.toInt64 : Int64) t0_0 lx13) : Int32) t0_0 ((F_She_replace R N K lx12 ((F_She_at R N K (lx11.toInt64 : Int64) t0_0 lx13) : Int32) t0_0 lx13) : (Nat → Int64))) : (Nat → Int64)))))))
def S_She_turn (R : Int32) (N : Int32) (K : Int32) (x2 : Int32) (t0_0 : Int32) (t1_0 : (Nat → Int64)) : Prop := S_She_turn_L9 R N K x2 t0_0 t1_0 (((t0_0 - 1 : Int32).toInt - (x2.toInt)).toNat + 1) (t0_0 - 1 : Int32) x2 t1_0
set_option maxRecDepth 100000 in
set_option maxHeartbeats 4000000 in
theorem X_She_turn (l : Launch) (D : va_G) (g : Nat → ClassId) (q : Nat → Nat) (ws : va_W) (k1 : Nat) (R N K : Int32) (hB1 : q_isShe (nsh g q) g q k1 R N K) (x2 : Int32) (hI : q_I (nsh g q) q ws) (t0_0 : Int32) (hT0 : ws[k1]? = (some (q k1, .inr (1, [.ref (q (k1 + 1)), .int R, .int t0_0])) : Option (Nat × va_E))) (t1_0 : (Nat → Int64)) (hT1 : ws[k1 + 1]? = (some (q (k1 + 1), .inl (g 1, N.toNatClampNeg, .inr (.inl t1_0))) : Option (Nat × va_E))) (hS : True ∧ S_She_turn R N K x2 t0_0 t1_0) : q_mV l y_She_turn prog_11_method_7_code 5 3 0 0 D g [.ref (q k1), .int x2] ws (fun u => q_I (nsh g q) q u ∧ q_un ws u [k1 + 1] ∧ ∃ (u1_0 : (Nat → Int64)), u[k1 + 1]? = (some (q (k1 + 1), .inl (g 1, N.toNatClampNeg, .inr (.inl u1_0))) : Option (Nat × va_E)) ∧ u1_0 = (F_She_turn R N K x2 t0_0 t1_0)) := by
  intro sz
  refine q_into (by decide) (Nat.le_of_ble_eq_true rfl) ?_
  intro p e s m below meth c ls hsz C0 V hl
  have hx := C0.1
  have hb := C0.2.1
  have hfk10 : q_F (0 ≤ R.toInt ∧ R.toInt ≤ 8 * N.toInt ∧ 0 ≤ N.toInt ∧ N.toInt ≤ 1376 ∧ 64 ≤ R.toInt ∧ 64 ≤ K.toInt ∧ K.toInt ≤ 1000000) := hB1.2.2.1
  obtain ⟨yy0_0, hh0, btt0_0⟩ := n_shO hI hB1
  obtain ⟨rfl⟩ : t0_0 = yy0_0 := by have z := Option.some.inj (hT0.symm.trans hh0); simpa using z
  replace btt0_0 : q_F (0 ≤ t0_0.toInt ∧ t0_0.toInt ≤ K.toInt) := btt0_0
  have hF : q_un ws ws [k1 + 1] := q_u0
  have hl : lv_has ls 5 [(0, .ref (q k1)), (1, .int x2)] := hl
  refine lv_iload_n hx hb d_11_7_0 rfl (lv_at hl 1 rfl) ?_
  refine lv_istore_n (lv' := [(2, .int x2), (0, .ref (q k1)), (1, .int x2)]) hx hb d_11_7_1 rfl hl (by decide) rfl (fun ls hl => ?_)
  refine lv_aload_n hx hb d_11_7_2 rfl (lv_at hl 1 rfl) ?_
  refine q_get (ci := 1) (j := 2) (v := .int t0_0) C0 V i_She rfl rfl hT0 (by decide) w_54 rfl d_11_7_3 ?_
  refine lv_iconst (v := 1) hx hb d_11_7_6 (by decide) ?_
  refine lv_isub hx hb d_11_7_7 ?_
  obtain ⟨a6, e7⟩ := q_nm (t0_0 - 1 : Int32)
  refine q_ti (v := a6) e7 ?_
  have b8 : q_F (a6.toInt = t0_0.toInt - 1) := (by rw [← e7]; show (t0_0 - 1 : Int32).toInt = t0_0.toInt - 1; exact q_subI (x := t0_0.toInt) (y := 1) rfl (by decide) (by have t1 : 0 ≤ t0_0.toInt ∧ t0_0.toInt ≤ K.toInt := btt0_0; have _ := q_lo32 (x := K); have _ := q_hi32 (x := K); omega) (by have t1 : 0 ≤ t0_0.toInt ∧ t0_0.toInt ≤ K.toInt := btt0_0; have _ := q_lo32 (x := K); have _ := q_hi32 (x := K); omega))
  refine lv_istore_n (lv' := [(3, .int a6), (2, .int x2), (0, .ref (q k1)), (1, .int x2)]) hx hb d_11_7_8 rfl hl (by decide) rfl (fun ls hl => ?_)
  refine q_loop (X := Int32 × Int32 × (Nat → Int64)) (fun z H locs ls w18 => q_F (a6.toInt + x2.toInt ≤ z.1.toInt + z.2.1.toInt) ∧ q_F (z.1.toInt + z.2.1.toInt ≤ a6.toInt + x2.toInt) ∧ q_F (z.1.toInt + x2.toInt ≤ z.2.1.toInt + a6.toInt) ∧ q_Wd D g (va_A ws sz) s w18 H locs ∧ lv_has ls 5 [(3, .int z.1), (2, .int z.2.1), (0, .ref (q k1))] ∧ q_I (nsh g q) q w18 ∧ q_un ws w18 [k1 + 1] ∧ w18[k1]? = (some (q k1, .inr (1, [.ref (q (k1 + 1)), .int R, .int t0_0])) : Option (Nat × va_E)) ∧ w18[k1 + 1]? = (some (q (k1 + 1), .inl (g 1, N.toNatClampNeg, .inr (.inl z.2.2))) : Option (Nat × va_E)) ∧ (∃ n, (z.1.toInt - (x2.toInt)).toNat < n ∧ F_She_turn_L9 R N K x2 t0_0 t1_0 n z.1 z.2.1 z.2.2 = (F_She_turn R N K x2 t0_0 t1_0) ∧ True ∧ S_She_turn_L9 R N K x2 t0_0 t1_0 n z.1 z.2.1 z.2.2)) (fun z => (z.1.toInt - (x2.toInt)).toNat) ?_ ((a6 : Int32), (x2 : Int32), (t1_0 : (Nat → Int64))) _ _ _ ws ⟨(show q_F (a6.toInt + x2.toInt ≤ a6.toInt + x2.toInt) from (show a6.toInt + x2.toInt ≤ a6.toInt + x2.toInt from by omega)), (show q_F (a6.toInt + x2.toInt ≤ a6.toInt + x2.toInt) from (show a6.toInt + x2.toInt ≤ a6.toInt + x2.toInt from by omega)), (show q_F (a6.toInt + x2.toInt ≤ x2.toInt + a6.toInt) from (show a6.toInt + x2.toInt ≤ x2.toInt + a6.toInt from by omega)), V, q_lw hl (q_lw1 0 rfl (q_lw1 1 rfl (q_lw1 2 rfl q_lw0))), hI, hF, hT0, hT1, ⟨((a6.toInt - (x2.toInt)).toNat + 1), Nat.lt_succ_self _, (show F_She_turn_L9 R N K x2 t0_0 t1_0 ((a6.toInt - (x2.toInt)).toNat + 1) a6 x2 t1_0 = (F_She_turn R N K x2 t0_0 t1_0) from (by rw [← e7, F_She_turn.eq_1])), (show True ∧ S_She_turn_L9 R N K x2 t0_0 t1_0 ((a6.toInt - (x2.toInt)).toNat + 1) a6 x2 t1_0 from (by rw [← e7]; have h := hS; rw [S_She_turn.eq_1] at h; with_reducible exact h))⟩⟩
  rintro ⟨lx11, lx12, lx13⟩ H locs ls w18 ⟨i14, i15, i16, V, hl, hI, hF, hO19, hO20, ⟨fu23, hf24, hR21, hS22⟩⟩ ih17
  obtain ⟨fm25, rfl⟩ : ∃ m, fu23 = m + 1 := ⟨fu23 - 1, by omega⟩
  replace i14 : q_F (a6.toInt + x2.toInt ≤ lx11.toInt + lx12.toInt) := i14
  replace i15 : q_F (lx11.toInt + lx12.toInt ≤ a6.toInt + x2.toInt) := i15
  replace i16 : q_F (lx11.toInt + x2.toInt ≤ lx12.toInt + a6.toInt) := i16
  replace hl : lv_has ls 5 [(3, .int lx11), (2, .int lx12), (0, .ref (q k1))] := hl
  replace hO19 : w18[k1]? = (some (q k1, .inr (1, [.ref (q (k1 + 1)), .int R, .int t0_0])) : Option (Nat × va_E)) := hO19
  replace hO20 : w18[k1 + 1]? = (some (q (k1 + 1), .inl (g 1, N.toNatClampNeg, .inr (.inl lx13))) : Option (Nat × va_E)) := hO20
  refine lv_iload_n hx hb d_11_7_9 rfl (lv_at hl 1 rfl) ?_
  refine lv_iload_n hx hb d_11_7_10 rfl (lv_at hl 0 rfl) ?_
  refine lv_icmp_ge (tgt := 49) hx hb d_11_7_11 (by decide) (fun c26 => ?_) (fun c26 => ?_)
  ·
    have b27 : q_F (lx11.toInt ≤ lx12.toInt) := (q_leI c26)
    exact q_retv C0 V (⟨hI, hF, lx13, hO20, (show lx13 = (F_She_turn R N K x2 t0_0 t1_0) from Eq.trans (by rw [F_She_turn_L9.eq_2, if_pos c26]) hR21)⟩) d_11_7_49
  ·
    have b28 : q_F (lx12.toInt < lx11.toInt) := (q_nleI c26)
    refine lv_aload_n hx hb d_11_7_14 rfl (lv_at hl 2 rfl) ?_
    refine lv_iload_n hx hb d_11_7_15 rfl (lv_at hl 1 rfl) ?_
    refine lv_i2l hx hb d_11_7_16 rfl ?_
    obtain ⟨j29, e30⟩ := q_nm (lx12.toInt64 : Int64)
    refine q_tl (v := j29) e30 ?_
    have b31 : q_F (j29.toInt = lx12.toInt) := (by rw [← e30]; show (lx12.toInt64 : Int64).toInt = lx12.toInt; exact q_i2l rfl)
    have ob32 : True ∧ S_She_at R N K j29 t0_0 lx13 := (by rw [← e30]; have h := hS22; rw [S_She_turn_L9.eq_2] at h; rw [if_neg c26] at h; with_reducible exact h.2.1)
    refine q_goi V (q_runV (As := [.long j29]) (rest := []) (d := 1) (mc := 0) (ms := 0) (ci := 1) C0 V rfl LV_She_48 (X_She_at l D g q w18 k1 R N K hB1 j29 hI t0_0 hO19 lx13 hO20 ob32 _) rfl rfl hO19 rfl hl.1 rfl (Nat.le_of_ble_eq_true rfl) ⟨by decide, by decide⟩ ⟨Nat.le_of_ble_eq_true rfl, Nat.le_of_ble_eq_true rfl⟩ d_11_7_17) (fun a35 u33 H locs hp34 V => ?_)
    obtain ⟨rfl, b36, b37, hE38⟩ := hp34
    have e39 : a35 = (F_She_at R N K j29 t0_0 lx13) := hE38
    replace b36 : q_F (0 ≤ a35.toInt) := b36
    replace b37 : q_F (a35.toInt ≤ 255) := b37
    refine lv_istore (lv' := [(4, .int a35), (3, .int lx11), (2, .int lx12), (0, .ref (q k1))]) hx hb d_11_7_20 hl (by decide) rfl (fun ls hl => ?_)
    refine lv_aload_n hx hb d_11_7_22 rfl (lv_at hl 3 rfl) ?_
    refine lv_iload_n hx hb d_11_7_23 rfl (lv_at hl 2 rfl) ?_
    refine lv_aload_n hx hb d_11_7_24 rfl (lv_at hl 3 rfl) ?_
    refine lv_iload_n hx hb d_11_7_25 rfl (lv_at hl 1 rfl) ?_
    refine lv_i2l hx hb d_11_7_26 rfl ?_
    obtain ⟨j40, e41⟩ := q_nm (lx11.toInt64 : Int64)
    refine q_tl (v := j40) e41 ?_
    have b42 : q_F (j40.toInt = lx11.toInt) := (by rw [← e41]; show (lx11.toInt64 : Int64).toInt = lx11.toInt; exact q_i2l rfl)
    have ob43 : True ∧ S_She_at R N K j40 t0_0 lx13 := (by rw [← e41]; have h := hS22; rw [S_She_turn_L9.eq_2] at h; rw [if_neg c26] at h; replace h := q_s2 h; with_reducible exact h.2.1)
    refine q_goi V (q_runV (As := [.long j40]) (rest := [.int lx12, .ref (q k1)]) (d := 1) (mc := 0) (ms := 0) (ci := 1) C0 V rfl LV_She_48 (X_She_at l D g q w18 k1 R N K hB1 j40 hI t0_0 hO19 lx13 hO20 ob43 _) rfl rfl hO19 rfl hl.1 rfl (Nat.le_of_ble_eq_true rfl) ⟨by decide, by decide⟩ ⟨Nat.le_of_ble_eq_true rfl, Nat.le_of_ble_eq_true rfl⟩ d_11_7_27) (fun a46 u44 H locs hp45 V => ?_)
    obtain ⟨rfl, b47, b48, hE49⟩ := hp45
    have e50 : a46 = (F_She_at R N K j40 t0_0 lx13) := hE49
    replace b47 : q_F (0 ≤ a46.toInt) := b47
    replace b48 : q_F (a46.toInt ≤ 255) := b48
    have ob51 : True ∧ S_She_replace R N K lx12 a46 t0_0 lx13 := (by rw [e50, ← e41]; have h := hS22; rw [S_She_turn_L9.eq_2] at h; rw [if_neg c26] at h; replace h := q_s2 h; replace h := q_s2 h; with_reducible exact h.2.1)
    refine q_gov V (q_runV (As := [.int lx12, .int a46]) (rest := []) (d := 2) (mc := 0) (ms := 0) (ci := 1) C0 V rfl LV_She_52 (X_She_replace l D g q w18 k1 R N K hB1 lx12 a46 hI t0_0 hO19 lx13 hO20 ob51 _) rfl rfl hO19 rfl hl.1 rfl (Nat.le_of_ble_eq_true rfl) ⟨by decide, by decide⟩ ⟨Nat.le_of_ble_eq_true rfl, Nat.le_of_ble_eq_true rfl⟩ d_11_7_30) (fun u52 H locs hp53 V => ?_)
    obtain ⟨hI, hu57, f54, hA55, hE56⟩ := hp53
    replace hA55 : u52[k1 + 1]? = (some (q (k1 + 1), .inl (g 1, N.toNatClampNeg, .inr (.inl f54))) : Option (Nat × va_E)) := hA55
    have e58 : f54 = (F_She_replace R N K lx12 a46 t0_0 lx13) := hE56
    replace hO19 := (hu57 _ (by have z0 := hB1.2.2.2; simp only [List.mem_cons, List.not_mem_nil, or_false, not_or]; omega)).trans hO19
    replace hF := q_uc hF hu57 (by simp)
    refine lv_aload_n hx hb d_11_7_33 rfl (lv_at hl 3 rfl) ?_
    refine lv_iload_n hx hb d_11_7_34 rfl (lv_at hl 1 rfl) ?_
    refine lv_iload hx hb d_11_7_35 (lv_at hl 0 rfl) ?_
    have ob59 : True ∧ S_She_replace R N K lx11 a35 t0_0 f54 := (by rw [e58, e50, ← e41, e39, ← e30]; have h := hS22; rw [S_She_turn_L9.eq_2] at h; rw [if_neg c26] at h; replace h := q_s2 h; replace h := q_s2 h; replace h := q_s2 h; with_reducible exact h.2.1)
    refine q_gov V (q_runV (As := [.int lx11, .int a35]) (rest := []) (d := 2) (mc := 0) (ms := 0) (ci := 1) C0 V rfl LV_She_52 (X_She_replace l D g q u52 k1 R N K hB1 lx11 a35 hI t0_0 hO19 f54 hA55 ob59 _) rfl rfl hO19 rfl hl.1 rfl (Nat.le_of_ble_eq_true rfl) ⟨by decide, by decide⟩ ⟨Nat.le_of_ble_eq_true rfl, Nat.le_of_ble_eq_true rfl⟩ d_11_7_37) (fun u60 H locs hp61 V => ?_)
    obtain ⟨hI, hu65, f62, hA63, hE64⟩ := hp61
    replace hA63 : u60[k1 + 1]? = (some (q (k1 + 1), .inl (g 1, N.toNatClampNeg, .inr (.inl f62))) : Option (Nat × va_E)) := hA63
    have e66 : f62 = (F_She_replace R N K lx11 a35 t0_0 f54) := hE64
    replace hO19 := (hu65 _ (by have z0 := hB1.2.2.2; simp only [List.mem_cons, List.not_mem_nil, or_false, not_or]; omega)).trans hO19
    replace hF := q_uc hF hu65 (by simp)
    obtain ⟨a67, e68⟩ := q_nm (lx12 + 1 : Int32)
    have b69 : q_F (a67.toInt = lx12.toInt + 1) := (by rw [← e68]; exact q_addI (y := 1) rfl (by decide) (by have _ := q_lo32 (x := lx12); have _ := q_hi32 (x := lx12); have t1 : lx11.toInt + lx12.toInt ≤ a6.toInt + x2.toInt := i15; have t2 : lx11.toInt + x2.toInt ≤ lx12.toInt + a6.toInt := i16; have t3 : lx12.toInt < lx11.toInt := b28; have _ := q_lo32 (x := a6); have _ := q_hi32 (x := a6); omega) (by have _ := q_lo32 (x := lx12); have _ := q_hi32 (x := lx12); have t1 : lx11.toInt + lx12.toInt ≤ a6.toInt + x2.toInt := i15; have t2 : lx11.toInt + x2.toInt ≤ lx12.toInt + a6.toInt := i16; have t3 : lx12.toInt < lx11.toInt := b28; have _ := q_lo32 (x := a6); have _ := q_hi32 (x := a6); omega))
    refine lv_iinc (v := a67) (lv' := [(2, .int a67), (4, .int a35), (3, .int lx11), (0, .ref (q k1))]) hx hb d_11_7_40 hl (k := 2) rfl (e68) (by decide) rfl (fun ls hl => ?_)
    obtain ⟨a70, e71⟩ := q_nm (lx11 + (-1) : Int32)
    have b72 : q_F (a70.toInt = lx11.toInt + (-1)) := (by rw [← e71]; exact q_addI (y := (-1)) rfl (by decide) (by have t1 : lx12.toInt < lx11.toInt := b28; have _ := q_lo32 (x := lx12); have _ := q_hi32 (x := lx12); have t2 : lx11.toInt + lx12.toInt ≤ a6.toInt + x2.toInt := i15; have t3 : lx11.toInt + x2.toInt ≤ lx12.toInt + a6.toInt := i16; have _ := q_lo32 (x := a6); have _ := q_hi32 (x := a6); omega) (by have t1 : lx12.toInt < lx11.toInt := b28; have _ := q_lo32 (x := lx12); have _ := q_hi32 (x := lx12); have t2 : lx11.toInt + lx12.toInt ≤ a6.toInt + x2.toInt := i15; have t3 : lx11.toInt + x2.toInt ≤ lx12.toInt + a6.toInt := i16; have _ := q_lo32 (x := a6); have _ := q_hi32 (x := a6); omega))
    refine lv_iinc (v := a70) (lv' := [(3, .int a70), (2, .int a67), (4, .int a35), (0, .ref (q k1))]) hx hb d_11_7_43 hl (k := 2) rfl (e71) (by decide) rfl (fun ls hl => ?_)
    refine lv_goto (tgt := 9) hx hb d_11_7_46 (by decide) ?_
    exact ih17 ((a70 : Int32), (a67 : Int32), (f62 : (Nat → Int64))) _ _ _ _ (show (a70.toInt - (x2.toInt)).toNat < (lx11.toInt - (x2.toInt)).toNat from by have t1 : a70.toInt = lx11.toInt + (-1) := b72; have t2 : a6.toInt + x2.toInt ≤ lx11.toInt + lx12.toInt := i14; have t3 : lx11.toInt + x2.toInt ≤ lx12.toInt + a6.toInt := i16; have t4 : lx12.toInt < lx11.toInt := b28; omega) ⟨(show q_F (a6.toInt + x2.toInt ≤ a70.toInt + a67.toInt) from (show a6.toInt + x2.toInt ≤ a70.toInt + a67.toInt from by have t1 : a6.toInt + x2.toInt ≤ lx11.toInt + lx12.toInt := i14; have t2 : a67.toInt = lx12.toInt + 1 := b69; have t3 : a70.toInt = lx11.toInt + (-1) := b72; omega)), (show q_F (a70.toInt + a67.toInt ≤ a6.toInt + x2.toInt) from (show a70.toInt + a67.toInt ≤ a6.toInt + x2.toInt from by have t1 : lx11.toInt + lx12.toInt ≤ a6.toInt + x2.toInt := i15; have t2 : a67.toInt = lx12.toInt + 1 := b69; have t3 : a70.toInt = lx11.toInt + (-1) := b72; omega)), (show q_F (a70.toInt + x2.toInt ≤ a67.toInt + a6.toInt) from (show a70.toInt + x2.toInt ≤ a67.toInt + a6.toInt from by have t1 : lx11.toInt + x2.toInt ≤ lx12.toInt + a6.toInt := i16; have t2 : a67.toInt = lx12.toInt + 1 := b69; have t3 : a70.toInt = lx11.toInt + (-1) := b72; omega)), V, q_lw hl (q_lw1 0 rfl (q_lw1 1 rfl (q_lw1 3 rfl q_lw0))), hI, hF, hO19, hA63, ⟨fm25, Nat.lt_of_lt_of_le (show (a70.toInt - (x2.toInt)).toNat < (lx11.toInt - (x2.toInt)).toNat from by have t1 : a70.toInt = lx11.toInt + (-1) := b72; have t2 : a6.toInt + x2.toInt ≤ lx11.toInt + lx12.toInt := i14; have t3 : lx11.toInt + x2.toInt ≤ lx12.toInt + a6.toInt := i16; have t4 : lx12.toInt < lx11.toInt := b28; omega) (Nat.le_of_lt_succ hf24), (show F_She_turn_L9 R N K x2 t0_0 t1_0 fm25 a70 a67 f62 = (F_She_turn R N K x2 t0_0 t1_0) from Eq.trans (by rw [← e71, ← e68, e66, e58, e50, ← e41, e39, ← e30, F_She_turn_L9.eq_2, if_neg c26]) hR21), (show True ∧ S_She_turn_L9 R N K x2 t0_0 t1_0 fm25 a70 a67 f62 from (by rw [← e71, ← e68, e66, e58, e50, ← e41, e39, ← e30]; have h := hS22; rw [S_She_turn_L9.eq_2] at h; rw [if_neg c26] at h; replace h := q_s2 h; replace h := q_s2 h; replace h := q_s2 h; replace h := q_s2 h; with_reducible exact h))⟩⟩
def F_jStr_length_19 : Int32 := (36 : Int32)
set_option maxRecDepth 100000 in
set_option maxHeartbeats 4000000 in
theorem X_jStr_length_19 (l : Launch) (D : va_G) (g : Nat → ClassId) (q : Nat → Nat) (ws : va_W) (hI : q_I (nsh g q) q ws) : q_mI l y_jStr_length prog_31_method_54_code 1 (.int) 2 0 0 D g [.ref (g (8 + 2 * 19))] ws (fun r u => ws = u ∧ (36 ≤ r.toInt) ∧ (r.toInt ≤ 36) ∧ r = (F_jStr_length_19)) := by
  intro sz
  refine q_into (by decide) (Nat.le_of_ble_eq_true rfl) ?_
  intro p e s m below meth c ls hsz C0 V hl
  have hx := C0.1
  have hb := C0.2.1
  have hl : lv_has ls 1 [(0, .ref (g (8 + 2 * 19)))] := hl
  refine lv_aload_n hx hb d_31_54_0 rfl (lv_at hl 0 rfl) ?_
  refine q_sval (i := 19) C0 V rfl rfl w_1018 d_31_54_1 ?_
  refine q_slen (i := 19) (v := 36) C0 V rfl (by decide) d_31_54_4 ?_
  refine lv_aload_n hx hb d_31_54_5 rfl (lv_at hl 0 rfl) ?_
  refine q_goi V (q_runVs (As := []) (rest := [.int 36]) (d := 1) (mc := 0) (ms := 0) (i := 19) C0 V rfl LV_jStr_335 (T_jStr_coder_19 l D g q ws   hI   _) rfl rfl rfl hl.1 rfl (Nat.le_of_ble_eq_true rfl) ⟨by decide, by decide⟩ ⟨Nat.le_of_ble_eq_true rfl, Nat.le_of_ble_eq_true rfl⟩ d_31_54_6) (fun a3 u1 H locs hp2 V => ?_)
  obtain ⟨rfl, b4, b5⟩ := hp2
  replace b4 : q_F (0 ≤ a3.toInt) := b4
  replace b5 : q_F (a3.toInt ≤ 0) := b5
  obtain rfl : a3 = (0 : Int32) := q_Ieq (x := a3.toInt) (y := 0) rfl (by decide) (by have t1 : 0 ≤ a3.toInt := b4; have t2 : a3.toInt ≤ 0 := b5; omega)
  refine lv_ishr hx hb d_31_54_9 ?_
  refine q_ti (v := 36) (by decide) ?_
  exact q_reti C0 V (⟨rfl, (show 36 ≤ (36 : Int32).toInt from (by have z0 : (36 : Int32).toInt = 36 := rfl; omega)), (show (36 : Int32).toInt ≤ 36 from (by have z0 : (36 : Int32).toInt = 36 := rfl; omega)), (show (36 : Int32) = (F_jStr_length_19) from (by rw [F_jStr_length_19.eq_1]))⟩) d_31_54_10
def F_jLat_charAt_19 (x2 : Int32) : Int32 := (((((([48, 49, 50, 51, 52, 53, 54, 55, 56, 57, 97, 98, 99, 100, 101, 102, 103, 104, 105, 106, 107, 108, 109, 110, 111, 112, 113, 114, 115, 116, 117, 118, 119, 120, 121, 122] : List Int32).getD x2.toNatClampNeg 0) : Int32) &&& 255 : Int32).toUInt32 % 65536).toInt32 : Int32)
set_option maxRecDepth 100000 in
set_option maxHeartbeats 4000000 in
theorem X_jLat_charAt_19 (l : Launch) (D : va_G) (g : Nat → ClassId) (q : Nat → Nat) (ws : va_W) (x2 : Int32) (hI : q_I (nsh g q) q ws) (pre0 : 0 ≤ x2.toInt) (pre1 : x2.toInt ≤ 35) : q_mI l y_jLat_charAt prog_33_method_2_code 2 (.char) 3 0 0 D g [.ref (g (9 + 2 * 19)), .int x2] ws (fun r u => ws = u ∧ (0 ≤ r.toInt) ∧ (r.toInt ≤ 255) ∧ r = (F_jLat_charAt_19 x2)) := by
  intro sz
  refine q_into (by decide) (Nat.le_of_ble_eq_true rfl) ?_
  intro p e s m below meth c ls hsz C0 V hl
  have hx := C0.1
  have hb := C0.2.1
  replace pre0 : q_F (0 ≤ x2.toInt) := pre0
  replace pre1 : q_F (x2.toInt ≤ 35) := pre1
  have hl : lv_has ls 2 [(0, .ref (g (9 + 2 * 19))), (1, .int x2)] := hl
  refine lv_iload_n hx hb d_33_2_0 rfl (lv_at hl 1 rfl) ?_
  refine lv_aload_n hx hb d_33_2_1 rfl (lv_at hl 0 rfl) ?_
  refine q_slen (i := 19) (v := 36) C0 V rfl (by decide) d_33_2_2 ?_
  refine q_gov V (q_runS (As := [.int x2, .int 36]) (rest := []) (d := 2) (mc := 0) (ms := 0) C0 V rfl LS_jLat_9 (T_jStr_checkIndex l D g q ws  x2 36 hI  (by have y0 : (36 : Int32).toInt = 36 := rfl; have t1 : 0 ≤ x2.toInt := pre0; omega) (by have y0 : (36 : Int32).toInt = 36 := rfl; have t1 : x2.toInt ≤ 35 := pre1; omega) _) rfl hl.1 rfl (Nat.le_of_ble_eq_true rfl) ⟨by decide, by decide⟩ ⟨Nat.le_of_ble_eq_true rfl, Nat.le_of_ble_eq_true rfl⟩ d_33_2_3) (fun u1 H locs hp2 V => ?_)
  obtain ⟨rfl, -⟩ := hp2
  refine lv_aload_n hx hb d_33_2_6 rfl (lv_at hl 0 rfl) ?_
  refine lv_iload_n hx hb d_33_2_7 rfl (lv_at hl 1 rfl) ?_
  refine q_sbal (i := 19) (v := (([48, 49, 50, 51, 52, 53, 54, 55, 56, 57, 97, 98, 99, 100, 101, 102, 103, 104, 105, 106, 107, 108, 109, 110, 111, 112, 113, 114, 115, 116, 117, 118, 119, 120, 121, 122] : List Int32).getD x2.toNatClampNeg 0)) C0 V rfl (show vp_in x2 36 from q_ix (x := x2.toInt) rfl (by have t1 : 0 ≤ x2.toInt := pre0; omega) (by have t1 : 0 ≤ x2.toInt := pre0; have t2 : x2.toInt ≤ 35 := pre1; omega)) rfl d_33_2_8 ?_
  obtain ⟨a4, e5⟩ := q_nm ((([48, 49, 50, 51, 52, 53, 54, 55, 56, 57, 97, 98, 99, 100, 101, 102, 103, 104, 105, 106, 107, 108, 109, 110, 111, 112, 113, 114, 115, 116, 117, 118, 119, 120, 121, 122] : List Int32).getD x2.toNatClampNeg 0) : Int32)
  refine q_ti (v := a4) e5 ?_
  refine lv_sipush (v := 255) hx hb d_33_2_9 (by decide) ?_
  refine lv_iand hx hb d_33_2_12 ?_
  obtain ⟨a6, e7⟩ := q_nm (a4 &&& 255 : Int32)
  refine q_ti (v := a6) e7 ?_
  have b8 : q_F (0 ≤ a6.toInt ∧ a6.toInt ≤ 255) := (by rw [← e7]; show 0 ≤ (a4 &&& 255 : Int32).toInt ∧ (a4 &&& 255 : Int32).toInt ≤ 255; exact s_and (by decide))
  refine lv_i2c hx hb d_33_2_13 rfl ?_
  obtain ⟨a9, e10⟩ := q_nm ((a6.toUInt32 % 65536).toInt32 : Int32)
  refine q_ti (v := a9) e10 ?_
  have b11 : q_F (a9.toInt = a6.toInt) := (by rw [← e10]; show ((a6.toUInt32 % 65536).toInt32 : Int32).toInt = a6.toInt; exact (n_i2c (x := a6)).2.2 (by have t1 : 0 ≤ a6.toInt ∧ a6.toInt ≤ 255 := b8; omega) (by have t1 : 0 ≤ a6.toInt ∧ a6.toInt ≤ 255 := b8; omega))
  exact q_retn C0 V (n_chr (by have t1 : 0 ≤ a6.toInt ∧ a6.toInt ≤ 255 := b8; have t2 : a9.toInt = a6.toInt := b11; omega) (by have t1 : 0 ≤ a6.toInt ∧ a6.toInt ≤ 255 := b8; have t2 : a9.toInt = a6.toInt := b11; omega)) (⟨rfl, (show 0 ≤ a9.toInt from (by have t1 : 0 ≤ a6.toInt ∧ a6.toInt ≤ 255 := b8; have t2 : a9.toInt = a6.toInt := b11; omega)), (show a9.toInt ≤ 255 from (by have t1 : 0 ≤ a6.toInt ∧ a6.toInt ≤ 255 := b8; have t2 : a9.toInt = a6.toInt := b11; omega)), (show a9 = (F_jLat_charAt_19 x2) from (by rw [← e10, ← e7, ← e5, F_jLat_charAt_19.eq_1]))⟩) d_33_2_14
def F_jStr_charAt_19 (x2 : Int32) : Int32 := ((F_jLat_charAt_19 x2) : Int32)
set_option maxRecDepth 100000 in
set_option maxHeartbeats 4000000 in
theorem X_jStr_charAt_19 (l : Launch) (D : va_G) (g : Nat → ClassId) (q : Nat → Nat) (ws : va_W) (x2 : Int32) (hI : q_I (nsh g q) q ws) (pre0 : 0 ≤ x2.toInt) (pre1 : x2.toInt ≤ 35) : q_mI l y_jStr_charAt prog_31_method_56_code 2 (.char) 4 0 0 D g [.ref (g (8 + 2 * 19)), .int x2] ws (fun r u => ws = u ∧ (0 ≤ r.toInt) ∧ (r.toInt ≤ 255) ∧ r = (F_jStr_charAt_19 x2)) := by
  intro sz
  refine q_into (by decide) (Nat.le_of_ble_eq_true rfl) ?_
  intro p e s m below meth c ls hsz C0 V hl
  have hx := C0.1
  have hb := C0.2.1
  replace pre0 : q_F (0 ≤ x2.toInt) := pre0
  replace pre1 : q_F (x2.toInt ≤ 35) := pre1
  have hl : lv_has ls 2 [(0, .ref (g (8 + 2 * 19))), (1, .int x2)] := hl
  refine lv_aload_n hx hb d_31_56_0 rfl (lv_at hl 0 rfl) ?_
  refine q_goi V (q_runVs (As := []) (rest := []) (d := 1) (mc := 0) (ms := 0) (i := 19) C0 V rfl LV_jStr_492 (T_jStr_isLatin1_19 l D g q ws   hI   _) rfl rfl rfl hl.1 rfl (Nat.le_of_ble_eq_true rfl) ⟨by decide, by decide⟩ ⟨Nat.le_of_ble_eq_true rfl, Nat.le_of_ble_eq_true rfl⟩ d_31_56_1) (fun a3 u1 H locs hp2 V => ?_)
  obtain ⟨rfl, b4, b5⟩ := hp2
  replace b4 : q_F (1 ≤ a3.toInt) := b4
  replace b5 : q_F (a3.toInt ≤ 1) := b5
  obtain rfl : a3 = (1 : Int32) := q_Ieq (x := a3.toInt) (y := 1) rfl (by decide) (by have t1 : 1 ≤ a3.toInt := b4; have t2 : a3.toInt ≤ 1 := b5; omega)
  refine lv_if_eq (tgt := 16) hx hb d_31_56_4 (by decide) (fun c7 => absurd c7 (by decide)) (fun c7 => ?_)
  refine lv_aload_n hx hb d_31_56_7 rfl (lv_at hl 0 rfl) ?_
  refine q_sval (i := 19) C0 V rfl rfl w_1018 d_31_56_8 ?_
  refine lv_iload_n hx hb d_31_56_11 rfl (lv_at hl 1 rfl) ?_
  refine q_goi V (q_runS (As := [.ref (g (9 + 2 * 19)), .int x2]) (rest := []) (d := 3) (mc := 0) (ms := 0) C0 V rfl LS_jStr_495 (X_jLat_charAt_19 l D g q ws  x2 hI  (by have t1 : 0 ≤ x2.toInt := pre0; omega) (by have t1 : x2.toInt ≤ 35 := pre1; omega) _) rfl hl.1 rfl (Nat.le_of_ble_eq_true rfl) ⟨by decide, by decide⟩ ⟨Nat.le_of_ble_eq_true rfl, Nat.le_of_ble_eq_true rfl⟩ d_31_56_12) (fun a10 u8 H locs hp9 V => ?_)
  obtain ⟨rfl, b11, b12, hE13⟩ := hp9
  have e14 : a10 = (F_jLat_charAt_19 x2) := hE13
  replace b11 : q_F (0 ≤ a10.toInt) := b11
  replace b12 : q_F (a10.toInt ≤ 255) := b12
  exact q_retn C0 V (n_chr (by have t1 : 0 ≤ a10.toInt := b11; omega) (by have t1 : a10.toInt ≤ 255 := b12; omega)) (⟨rfl, (show 0 ≤ a10.toInt from (by have t1 : 0 ≤ a10.toInt := b11; omega)), (show a10.toInt ≤ 255 from (by have t1 : a10.toInt ≤ 255 := b12; omega)), (show a10 = (F_jStr_charAt_19 x2) from (by rw [e14, F_jStr_charAt_19.eq_1]))⟩) d_31_56_15
def F_jStr_length_20 : Int32 := (3 : Int32)
set_option maxRecDepth 100000 in
set_option maxHeartbeats 4000000 in
theorem X_jStr_length_20 (l : Launch) (D : va_G) (g : Nat → ClassId) (q : Nat → Nat) (ws : va_W) (hI : q_I (nsh g q) q ws) : q_mI l y_jStr_length prog_31_method_54_code 1 (.int) 2 0 0 D g [.ref (g (8 + 2 * 20))] ws (fun r u => ws = u ∧ (3 ≤ r.toInt) ∧ (r.toInt ≤ 3) ∧ r = (F_jStr_length_20)) := by
  intro sz
  refine q_into (by decide) (Nat.le_of_ble_eq_true rfl) ?_
  intro p e s m below meth c ls hsz C0 V hl
  have hx := C0.1
  have hb := C0.2.1
  have hl : lv_has ls 1 [(0, .ref (g (8 + 2 * 20)))] := hl
  refine lv_aload_n hx hb d_31_54_0 rfl (lv_at hl 0 rfl) ?_
  refine q_sval (i := 20) C0 V rfl rfl w_1018 d_31_54_1 ?_
  refine q_slen (i := 20) (v := 3) C0 V rfl (by decide) d_31_54_4 ?_
  refine lv_aload_n hx hb d_31_54_5 rfl (lv_at hl 0 rfl) ?_
  refine q_goi V (q_runVs (As := []) (rest := [.int 3]) (d := 1) (mc := 0) (ms := 0) (i := 20) C0 V rfl LV_jStr_335 (T_jStr_coder_20 l D g q ws   hI   _) rfl rfl rfl hl.1 rfl (Nat.le_of_ble_eq_true rfl) ⟨by decide, by decide⟩ ⟨Nat.le_of_ble_eq_true rfl, Nat.le_of_ble_eq_true rfl⟩ d_31_54_6) (fun a3 u1 H locs hp2 V => ?_)
  obtain ⟨rfl, b4, b5⟩ := hp2
  replace b4 : q_F (0 ≤ a3.toInt) := b4
  replace b5 : q_F (a3.toInt ≤ 0) := b5
  obtain rfl : a3 = (0 : Int32) := q_Ieq (x := a3.toInt) (y := 0) rfl (by decide) (by have t1 : 0 ≤ a3.toInt := b4; have t2 : a3.toInt ≤ 0 := b5; omega)
  refine lv_ishr hx hb d_31_54_9 ?_
  refine q_ti (v := 3) (by decide) ?_
  exact q_reti C0 V (⟨rfl, (show 3 ≤ (3 : Int32).toInt from (by have z0 : (3 : Int32).toInt = 3 := rfl; omega)), (show (3 : Int32).toInt ≤ 3 from (by have z0 : (3 : Int32).toInt = 3 := rfl; omega)), (show (3 : Int32) = (F_jStr_length_20) from (by rw [F_jStr_length_20.eq_1]))⟩) d_31_54_10
def F_jLat_charAt_20 (x2 : Int32) : Int32 := (((((([78, 97, 78] : List Int32).getD x2.toNatClampNeg 0) : Int32) &&& 255 : Int32).toUInt32 % 65536).toInt32 : Int32)
set_option maxRecDepth 100000 in
set_option maxHeartbeats 4000000 in
theorem X_jLat_charAt_20 (l : Launch) (D : va_G) (g : Nat → ClassId) (q : Nat → Nat) (ws : va_W) (x2 : Int32) (hI : q_I (nsh g q) q ws) (pre0 : 0 ≤ x2.toInt) (pre1 : x2.toInt ≤ 2) : q_mI l y_jLat_charAt prog_33_method_2_code 2 (.char) 3 0 0 D g [.ref (g (9 + 2 * 20)), .int x2] ws (fun r u => ws = u ∧ (0 ≤ r.toInt) ∧ (r.toInt ≤ 255) ∧ r = (F_jLat_charAt_20 x2)) := by
  intro sz
  refine q_into (by decide) (Nat.le_of_ble_eq_true rfl) ?_
  intro p e s m below meth c ls hsz C0 V hl
  have hx := C0.1
  have hb := C0.2.1
  replace pre0 : q_F (0 ≤ x2.toInt) := pre0
  replace pre1 : q_F (x2.toInt ≤ 2) := pre1
  have hl : lv_has ls 2 [(0, .ref (g (9 + 2 * 20))), (1, .int x2)] := hl
  refine lv_iload_n hx hb d_33_2_0 rfl (lv_at hl 1 rfl) ?_
  refine lv_aload_n hx hb d_33_2_1 rfl (lv_at hl 0 rfl) ?_
  refine q_slen (i := 20) (v := 3) C0 V rfl (by decide) d_33_2_2 ?_
  refine q_gov V (q_runS (As := [.int x2, .int 3]) (rest := []) (d := 2) (mc := 0) (ms := 0) C0 V rfl LS_jLat_9 (T_jStr_checkIndex l D g q ws  x2 3 hI  (by have y0 : (3 : Int32).toInt = 3 := rfl; have t1 : 0 ≤ x2.toInt := pre0; omega) (by have y0 : (3 : Int32).toInt = 3 := rfl; have t1 : x2.toInt ≤ 2 := pre1; omega) _) rfl hl.1 rfl (Nat.le_of_ble_eq_true rfl) ⟨by decide, by decide⟩ ⟨Nat.le_of_ble_eq_true rfl, Nat.le_of_ble_eq_true rfl⟩ d_33_2_3) (fun u1 H locs hp2 V => ?_)
  obtain ⟨rfl, -⟩ := hp2
  refine lv_aload_n hx hb d_33_2_6 rfl (lv_at hl 0 rfl) ?_
  refine lv_iload_n hx hb d_33_2_7 rfl (lv_at hl 1 rfl) ?_
  refine q_sbal (i := 20) (v := (([78, 97, 78] : List Int32).getD x2.toNatClampNeg 0)) C0 V rfl (show vp_in x2 3 from q_ix (x := x2.toInt) rfl (by have t1 : 0 ≤ x2.toInt := pre0; omega) (by have t1 : 0 ≤ x2.toInt := pre0; have t2 : x2.toInt ≤ 2 := pre1; omega)) rfl d_33_2_8 ?_
  obtain ⟨a4, e5⟩ := q_nm ((([78, 97, 78] : List Int32).getD x2.toNatClampNeg 0) : Int32)
  refine q_ti (v := a4) e5 ?_
  refine lv_sipush (v := 255) hx hb d_33_2_9 (by decide) ?_
  refine lv_iand hx hb d_33_2_12 ?_
  obtain ⟨a6, e7⟩ := q_nm (a4 &&& 255 : Int32)
  refine q_ti (v := a6) e7 ?_
  have b8 : q_F (0 ≤ a6.toInt ∧ a6.toInt ≤ 255) := (by rw [← e7]; show 0 ≤ (a4 &&& 255 : Int32).toInt ∧ (a4 &&& 255 : Int32).toInt ≤ 255; exact s_and (by decide))
  refine lv_i2c hx hb d_33_2_13 rfl ?_
  obtain ⟨a9, e10⟩ := q_nm ((a6.toUInt32 % 65536).toInt32 : Int32)
  refine q_ti (v := a9) e10 ?_
  have b11 : q_F (a9.toInt = a6.toInt) := (by rw [← e10]; show ((a6.toUInt32 % 65536).toInt32 : Int32).toInt = a6.toInt; exact (n_i2c (x := a6)).2.2 (by have t1 : 0 ≤ a6.toInt ∧ a6.toInt ≤ 255 := b8; omega) (by have t1 : 0 ≤ a6.toInt ∧ a6.toInt ≤ 255 := b8; omega))
  exact q_retn C0 V (n_chr (by have t1 : 0 ≤ a6.toInt ∧ a6.toInt ≤ 255 := b8; have t2 : a9.toInt = a6.toInt := b11; omega) (by have t1 : 0 ≤ a6.toInt ∧ a6.toInt ≤ 255 := b8; have t2 : a9.toInt = a6.toInt := b11; omega)) (⟨rfl, (show 0 ≤ a9.toInt from (by have t1 : 0 ≤ a6.toInt ∧ a6.toInt ≤ 255 := b8; have t2 : a9.toInt = a6.toInt := b11; omega)), (show a9.toInt ≤ 255 from (by have t1 : 0 ≤ a6.toInt ∧ a6.toInt ≤ 255 := b8; have t2 : a9.toInt = a6.toInt := b11; omega)), (show a9 = (F_jLat_charAt_20 x2) from (by rw [← e10, ← e7, ← e5, F_jLat_charAt_20.eq_1]))⟩) d_33_2_14
