/-! Sheet and Strings, exactly -/
def F_She_clear (R : Int32) (N : Int32) (K : Int32) (t0_0 : Int32) : Int32 := (0 : Int32)
set_option maxRecDepth 100000 in
set_option maxHeartbeats 4000000 in
theorem X_She_clear (l : Launch) (D : va_G) (g : Nat → ClassId) (q : Nat → Nat) (ws : va_W) (k1 : Nat) (R N K : Int32) (hB1 : q_isShe (nsh g q) g q k1 R N K) (hI : q_I (nsh g q) q ws) (t0_0 : Int32) (hT0 : ws[k1]? = (some (q k1, .inr (1, [.ref (q (k1 + 1)), .int R, .int t0_0])) : Option (Nat × va_E))) : q_mV l y_She_clear prog_11_method_2_code 1 1 0 0 D g [.ref (q k1)] ws (fun u => q_I (nsh g q) q u ∧ q_un ws u [k1] ∧ ∃ (u0_0 : Int32), u[k1]? = (some (q k1, .inr (1, [.ref (q (k1 + 1)), .int R, .int u0_0])) : Option (Nat × va_E)) ∧ (0 ≤ u0_0.toInt) ∧ (u0_0.toInt ≤ 0) ∧ u0_0 = (F_She_clear R N K t0_0)) := by
  intro sz
  refine q_into (by decide) (Nat.le_of_ble_eq_true rfl) ?_
  intro p e s m below meth c ls hsz C0 V hl
  have hx := C0.1
  have hb := C0.2.1
  have hfk10 : q_F (0 ≤ R.toInt ∧ R.toInt ≤ 8 * N.toInt ∧ 0 ≤ N.toInt ∧ N.toInt ≤ 1376 ∧ 64 ≤ R.toInt ∧ 64 ≤ K.toInt ∧ K.toInt ≤ 1000000) := hB1.2.2.1
  have btt0_0 := n_shW hI hB1 hT0
  clear btt0_0
  have hF : q_un ws ws [k1] := q_u0
  have hl : lv_has ls 1 [(0, .ref (q k1))] := hl
  refine lv_aload_n hx hb d_11_2_0 rfl (lv_at hl 0 rfl) ?_
  refine lv_iconst (v := 0) hx hb d_11_2_1 (by decide) ?_
  refine q_put (ci := 1) (j := 2) (v := .int 0) (ty := .int) C0 V i_She o_She n_She rfl rfl hT0 (by decide) w_54 rfl rfl rfl rfl (Nat.le_of_ble_eq_true rfl) d_11_2_2 (fun H locs w4 hu5 hT0 V => ?_)
  replace hT0 : w4[k1]? = (some (q k1, .inr (1, [.ref (q (k1 + 1)), .int R, .int 0])) : Option (Nat × va_E)) := hT0
  replace hI := n_shO' hI hB1 hu5 hT0 ⟨(by have z9 : (0 : Int32).toInt = 0 := rfl; omega), (by have z9 : (0 : Int32).toInt = 0 := rfl; have t1 : 0 ≤ R.toInt ∧ R.toInt ≤ 8 * N.toInt ∧ 0 ≤ N.toInt ∧ N.toInt ≤ 1376 ∧ 64 ≤ R.toInt ∧ 64 ≤ K.toInt ∧ K.toInt ≤ 1000000 := hfk10; omega)⟩
  replace hF := q_us hF hu5 (by simp)
  exact q_retv C0 V (⟨hI, hF, 0, hT0, (show 0 ≤ (0 : Int32).toInt from (by have z4 : (0 : Int32).toInt = 0 := rfl; omega)), (show (0 : Int32).toInt ≤ 0 from (by have z4 : (0 : Int32).toInt = 0 := rfl; omega)), (show (0 : Int32) = (F_She_clear R N K t0_0) from (by rw [F_She_clear.eq_1]))⟩) d_11_2_5
def F_She_add (R : Int32) (N : Int32) (K : Int32) (x2 : Int32) (t0_0 : Int32) (t1_0 : (Nat → Int64)) : Int32 × (Nat → Int64) := if R ≤ t0_0 then (((t0_0 + 1 : Int32), t1_0)) else (((t0_0 + 1 : Int32), (vp_updL t1_0 (t0_0 >>> (3 &&& 31) : Int32).toNatClampNeg (((t1_0 (t0_0 >>> (3 &&& 31) : Int32).toNatClampNeg : Int64) &&& (((255 : Int64) <<< ((8 * (t0_0 &&& 7 : Int32) : Int32).toInt64 &&& 63) : Int64) ^^^ (-1) : Int64) : Int64) ||| (((x2 &&& 255 : Int32).toInt64 : Int64) <<< ((8 * (t0_0 &&& 7 : Int32) : Int32).toInt64 &&& 63) : Int64) : Int64) : (Nat → Int64))))
def S_She_add (R : Int32) (N : Int32) (K : Int32) (x2 : Int32) (t0_0 : Int32) (t1_0 : (Nat → Int64)) : Prop := if R ≤ t0_0 then (((t0_0 + 1 : Int32).toInt ≤ K.toInt) ∧ (True)) else (((t0_0 + 1 : Int32).toInt ≤ K.toInt) ∧ (True))
set_option maxRecDepth 100000 in
set_option maxHeartbeats 4000000 in
theorem X_She_add (l : Launch) (D : va_G) (g : Nat → ClassId) (q : Nat → Nat) (ws : va_W) (k1 : Nat) (R N K : Int32) (hB1 : q_isShe (nsh g q) g q k1 R N K) (x2 : Int32) (hI : q_I (nsh g q) q ws) (t0_0 : Int32) (hT0 : ws[k1]? = (some (q k1, .inr (1, [.ref (q (k1 + 1)), .int R, .int t0_0])) : Option (Nat × va_E))) (t1_0 : (Nat → Int64)) (hT1 : ws[k1 + 1]? = (some (q (k1 + 1), .inl (g 1, N.toNatClampNeg, .inr (.inl t1_0))) : Option (Nat × va_E))) (hS : True ∧ S_She_add R N K x2 t0_0 t1_0) : q_mV l y_She_add prog_11_method_3_code 3 1 0 0 D g [.ref (q k1), .int x2] ws (fun u => q_I (nsh g q) q u ∧ q_un ws u [k1, k1 + 1] ∧ ∃ (u0_0 : Int32) (u1_0 : (Nat → Int64)), u[k1]? = (some (q k1, .inr (1, [.ref (q (k1 + 1)), .int R, .int u0_0])) : Option (Nat × va_E)) ∧ u[k1 + 1]? = (some (q (k1 + 1), .inl (g 1, N.toNatClampNeg, .inr (.inl u1_0))) : Option (Nat × va_E)) ∧ (t0_0.toInt + 1 ≤ u0_0.toInt) ∧ (u0_0.toInt ≤ t0_0.toInt + 1) ∧ (u0_0.toInt ≤ K.toInt) ∧ (u0_0, u1_0) = (F_She_add R N K x2 t0_0 t1_0)) := by
  intro sz
  refine q_into (by decide) (Nat.le_of_ble_eq_true rfl) ?_
  intro p e s m below meth c ls hsz C0 V hl
  have hx := C0.1
  have hb := C0.2.1
  have hfk10 : q_F (0 ≤ R.toInt ∧ R.toInt ≤ 8 * N.toInt ∧ 0 ≤ N.toInt ∧ N.toInt ≤ 1376 ∧ 64 ≤ R.toInt ∧ 64 ≤ K.toInt ∧ K.toInt ≤ 1000000) := hB1.2.2.1
  have btt0_0 := n_shW hI hB1 hT0
  replace btt0_0 : q_F (0 ≤ t0_0.toInt ∧ t0_0.toInt ≤ K.toInt) := btt0_0
  have hF : q_un ws ws [k1, k1 + 1] := q_u0
  have hl : lv_has ls 3 [(0, .ref (q k1)), (1, .int x2)] := hl
  refine lv_aload_n hx hb d_11_3_0 rfl (lv_at hl 0 rfl) ?_
  refine q_get (ci := 1) (j := 2) (v := .int t0_0) C0 V i_She rfl rfl hT0 (by decide) w_54 rfl d_11_3_1 ?_
  refine lv_aload_n hx hb d_11_3_4 rfl (lv_at hl 0 rfl) ?_
  refine q_get (ci := 1) (j := 1) (v := .int R) C0 V i_She rfl rfl hT0 (by decide) w_53 rfl d_11_3_5 ?_
  refine lv_icmp_ge (tgt := 63) hx hb d_11_3_8 (by decide) (fun c6 => ?_) (fun c6 => ?_)
  ·
    refine lv_aload_n hx hb d_11_3_63 rfl (lv_at hl 0 rfl) ?_
    refine lv_dup hx hb d_11_3_64 rfl ?_
    refine q_get (ci := 1) (j := 2) (v := .int t0_0) C0 V i_She rfl rfl hT0 (by decide) w_54 rfl d_11_3_65 ?_
    refine lv_iconst (v := 1) hx hb d_11_3_68 (by decide) ?_
    refine lv_iadd hx hb d_11_3_69 ?_
    obtain ⟨a8, e9⟩ := q_nm (t0_0 + 1 : Int32)
    refine q_ti (v := a8) e9 ?_
    have b10 : q_F (a8.toInt = t0_0.toInt + 1) := (by rw [← e9]; show (t0_0 + 1 : Int32).toInt = t0_0.toInt + 1; exact q_addI (x := t0_0.toInt) (y := 1) rfl (by decide) (by have t1 : 0 ≤ t0_0.toInt ∧ t0_0.toInt ≤ K.toInt := btt0_0; have t2 : 0 ≤ R.toInt ∧ R.toInt ≤ 8 * N.toInt ∧ 0 ≤ N.toInt ∧ N.toInt ≤ 1376 ∧ 64 ≤ R.toInt ∧ 64 ≤ K.toInt ∧ K.toInt ≤ 1000000 := hfk10; omega) (by have t1 : 0 ≤ t0_0.toInt ∧ t0_0.toInt ≤ K.toInt := btt0_0; have t2 : 0 ≤ R.toInt ∧ R.toInt ≤ 8 * N.toInt ∧ 0 ≤ N.toInt ∧ N.toInt ≤ 1376 ∧ 64 ≤ R.toInt ∧ 64 ≤ K.toInt ∧ K.toInt ≤ 1000000 := hfk10; omega))
    refine q_put (ci := 1) (j := 2) (v := .int a8) (ty := .int) C0 V i_She o_She n_She rfl rfl hT0 (by decide) w_54 rfl rfl rfl rfl (Nat.le_of_ble_eq_true rfl) d_11_3_70 (fun H locs w11 hu12 hT0 V => ?_)
    replace hT0 : w11[k1]? = (some (q k1, .inr (1, [.ref (q (k1 + 1)), .int R, .int a8])) : Option (Nat × va_E)) := hT0
    have ob13 : q_F (a8.toInt ≤ K.toInt) := (by rw [← e9]; have h := hS; rw [S_She_add.eq_1] at h; rw [if_pos c6] at h; exact h.2.1)
    replace hI := n_shO' hI hB1 hu12 hT0 ⟨(by have t1 : 0 ≤ t0_0.toInt ∧ t0_0.toInt ≤ K.toInt := btt0_0; have t2 : a8.toInt = t0_0.toInt + 1 := b10; omega), (by first | with_reducible exact q_fe ob13 | (have t1 : a8.toInt ≤ K.toInt := ob13; omega))⟩
    replace hT1 := (hu12 _ (by omega)).trans hT1
    replace hF := q_us hF hu12 (by simp)
    exact q_retv C0 V (⟨hI, hF, a8, t1_0, hT0, hT1, (show t0_0.toInt + 1 ≤ a8.toInt from (by first | with_reducible exact q_fe b10 | (have t1 : a8.toInt = t0_0.toInt + 1 := b10; omega))), (show a8.toInt ≤ t0_0.toInt + 1 from (by first | with_reducible exact q_fe b10 | (have t1 : a8.toInt = t0_0.toInt + 1 := b10; omega))), (show a8.toInt ≤ K.toInt from (by first | with_reducible exact q_fe ob13 | (have t1 : a8.toInt ≤ K.toInt := ob13; omega))), (show (a8, t1_0) = (F_She_add R N K x2 t0_0 t1_0) from (by rw [← e9, F_She_add.eq_1, if_pos c6]))⟩) d_11_3_73
  ·
    have b14 : q_F (t0_0.toInt < R.toInt) := (q_nleI c6)
    refine lv_bipush (v := 8) hx hb d_11_3_11 (by decide) ?_
    refine lv_aload_n hx hb d_11_3_13 rfl (lv_at hl 0 rfl) ?_
    refine q_get (ci := 1) (j := 2) (v := .int t0_0) C0 V i_She rfl rfl hT0 (by decide) w_54 rfl d_11_3_14 ?_
    refine lv_bipush (v := 7) hx hb d_11_3_17 (by decide) ?_
    refine lv_iand hx hb d_11_3_19 ?_
    obtain ⟨a15, e16⟩ := q_nm (t0_0 &&& 7 : Int32)
    refine q_ti (v := a15) e16 ?_
    refine lv_imul hx hb d_11_3_20 ?_
    obtain ⟨a18, e19⟩ := q_nm (8 * a15 : Int32)
    refine q_ti (v := a18) e19 ?_
    refine lv_istore_n (lv' := [(2, .int a18), (0, .ref (q k1)), (1, .int x2)]) hx hb d_11_3_21 rfl hl (by decide) rfl (fun ls hl => ?_)
    refine lv_aload_n hx hb d_11_3_22 rfl (lv_at hl 1 rfl) ?_
    refine q_get (ci := 1) (j := 0) (v := .ref (q (k1 + 1))) C0 V i_She rfl rfl hT0 (by decide) w_52 rfl d_11_3_23 ?_
    refine lv_aload_n hx hb d_11_3_26 rfl (lv_at hl 1 rfl) ?_
    refine q_get (ci := 1) (j := 2) (v := .int t0_0) C0 V i_She rfl rfl hT0 (by decide) w_54 rfl d_11_3_27 ?_
    refine lv_iconst (v := 3) hx hb d_11_3_30 (by decide) ?_
    refine lv_ishr hx hb d_11_3_31 ?_
    obtain ⟨a21, e22⟩ := q_nm (t0_0 >>> (3 &&& 31) : Int32)
    refine q_ti (v := a21) e22 ?_
    have b23 : q_F (8 * a21.toInt ≤ t0_0.toInt ∧ t0_0.toInt ≤ 8 * a21.toInt + 7) := (by rw [← e22]; show 8 * (t0_0 >>> (3 &&& 31) : Int32).toInt ≤ t0_0.toInt ∧ t0_0.toInt ≤ 8 * (t0_0 >>> (3 &&& 31) : Int32).toInt + 7; exact n_shr (x := t0_0) (c := 3) 3 (by decide) (by decide) (by first | with_reducible exact (q_fe btt0_0).2 | with_reducible exact (q_fe btt0_0).1 | (have t1 : 0 ≤ t0_0.toInt ∧ t0_0.toInt ≤ K.toInt := btt0_0; omega)))
    refine lv_aload_n hx hb d_11_3_32 rfl (lv_at hl 1 rfl) ?_
    refine q_get (ci := 1) (j := 0) (v := .ref (q (k1 + 1))) C0 V i_She rfl rfl hT0 (by decide) w_52 rfl d_11_3_33 ?_
    refine lv_aload_n hx hb d_11_3_36 rfl (lv_at hl 1 rfl) ?_
    refine q_get (ci := 1) (j := 2) (v := .int t0_0) C0 V i_She rfl rfl hT0 (by decide) w_54 rfl d_11_3_37 ?_
    refine lv_iconst (v := 3) hx hb d_11_3_40 (by decide) ?_
    refine lv_ishr hx hb d_11_3_41 ?_
    obtain ⟨a24, e25⟩ := q_nm (t0_0 >>> (3 &&& 31) : Int32)
    refine q_ti (v := a24) e25 ?_
    have b26 : q_F (8 * a24.toInt ≤ t0_0.toInt ∧ t0_0.toInt ≤ 8 * a24.toInt + 7) := (by rw [← e25]; show 8 * (t0_0 >>> (3 &&& 31) : Int32).toInt ≤ t0_0.toInt ∧ t0_0.toInt ≤ 8 * (t0_0 >>> (3 &&& 31) : Int32).toInt + 7; exact n_shr (x := t0_0) (c := 3) 3 (by decide) (by decide) (by first | with_reducible exact (q_fe btt0_0).2 | with_reducible exact (q_fe btt0_0).1 | (have t1 : 0 ≤ t0_0.toInt ∧ t0_0.toInt ≤ K.toInt := btt0_0; omega)))
    refine q_lald C0 V hT1 (q_ix (x := a24.toInt) rfl (by have t1 : 0 ≤ t0_0.toInt ∧ t0_0.toInt ≤ K.toInt := btt0_0; have t2 : 8 * a24.toInt ≤ t0_0.toInt ∧ t0_0.toInt ≤ 8 * a24.toInt + 7 := b26; omega) (by have t1 : 0 ≤ t0_0.toInt ∧ t0_0.toInt ≤ K.toInt := btt0_0; have t2 : 8 * a24.toInt ≤ t0_0.toInt ∧ t0_0.toInt ≤ 8 * a24.toInt + 7 := b26; have t3 : 0 ≤ R.toInt ∧ R.toInt ≤ 8 * N.toInt ∧ 0 ≤ N.toInt ∧ N.toInt ≤ 1376 ∧ 64 ≤ R.toInt ∧ 64 ≤ K.toInt ∧ K.toInt ≤ 1000000 := hfk10; have t4 : t0_0.toInt < R.toInt := b14; have e9 := q_clI (i := N) rfl (by have t1 : 0 ≤ R.toInt ∧ R.toInt ≤ 8 * N.toInt ∧ 0 ≤ N.toInt ∧ N.toInt ≤ 1376 ∧ 64 ≤ R.toInt ∧ 64 ≤ K.toInt ∧ K.toInt ≤ 1000000 := hfk10; omega); omega)) d_11_3_42 ?_
    obtain ⟨j27, e28⟩ := q_nm (t1_0 a24.toNatClampNeg : Int64)
    refine q_tl (v := j27) e28 ?_
    refine q_ldc2 C0 rfl w_565 d_11_3_43 ?_
    refine lv_iload_n hx hb d_11_3_46 rfl (lv_at hl 0 rfl) ?_
    refine lv_lshl hx hb d_11_3_47 rfl ?_
    obtain ⟨j29, e30⟩ := q_nm ((255 : Int64) <<< (a18.toInt64 &&& 63) : Int64)
    refine q_tl (v := j29) e30 ?_
    refine q_ldc2 C0 rfl w_566 d_11_3_48 ?_
    refine lv_lxor hx hb d_11_3_51 ?_
    obtain ⟨j31, e32⟩ := q_nm (j29 ^^^ (-1) : Int64)
    refine q_tl (v := j31) e32 ?_
    refine lv_land hx hb d_11_3_52 ?_
    obtain ⟨j33, e34⟩ := q_nm (j27 &&& j31 : Int64)
    refine q_tl (v := j33) e34 ?_
    refine lv_iload_n hx hb d_11_3_53 rfl (lv_at hl 2 rfl) ?_
    refine lv_sipush (v := 255) hx hb d_11_3_54 (by decide) ?_
    refine lv_iand hx hb d_11_3_57 ?_
    obtain ⟨a35, e36⟩ := q_nm (x2 &&& 255 : Int32)
    refine q_ti (v := a35) e36 ?_
    refine lv_i2l hx hb d_11_3_58 rfl ?_
    obtain ⟨j38, e39⟩ := q_nm (a35.toInt64 : Int64)
    refine q_tl (v := j38) e39 ?_
    refine lv_iload_n hx hb d_11_3_59 rfl (lv_at hl 0 rfl) ?_
    refine lv_lshl hx hb d_11_3_60 rfl ?_
    obtain ⟨j41, e42⟩ := q_nm (j38 <<< (a18.toInt64 &&& 63) : Int64)
    refine q_tl (v := j41) e42 ?_
    refine lv_lor hx hb d_11_3_61 ?_
    obtain ⟨j43, e44⟩ := q_nm (j33 ||| j41 : Int64)
    refine q_tl (v := j43) e44 ?_
    refine q_last C0 V hT1 (q_ix (x := a21.toInt) rfl (by have t1 : 0 ≤ t0_0.toInt ∧ t0_0.toInt ≤ K.toInt := btt0_0; have t2 : 8 * a21.toInt ≤ t0_0.toInt ∧ t0_0.toInt ≤ 8 * a21.toInt + 7 := b23; omega) (by have t1 : 0 ≤ t0_0.toInt ∧ t0_0.toInt ≤ K.toInt := btt0_0; have t2 : 8 * a21.toInt ≤ t0_0.toInt ∧ t0_0.toInt ≤ 8 * a21.toInt + 7 := b23; have t3 : 0 ≤ R.toInt ∧ R.toInt ≤ 8 * N.toInt ∧ 0 ≤ N.toInt ∧ N.toInt ≤ 1376 ∧ 64 ≤ R.toInt ∧ 64 ≤ K.toInt ∧ K.toInt ≤ 1000000 := hfk10; have t4 : t0_0.toInt < R.toInt := b14; have e9 := q_clI (i := N) rfl (by have t1 : 0 ≤ R.toInt ∧ R.toInt ≤ 8 * N.toInt ∧ 0 ≤ N.toInt ∧ N.toInt ≤ 1376 ∧ 64 ≤ R.toInt ∧ 64 ≤ K.toInt ∧ K.toInt ≤ 1000000 := hfk10; omega); omega)) d_11_3_62 (fun H locs w45 hu46 hT1 V => ?_)
    replace hI := n_al' hI hB1.2.1 hu46 hT1
    replace hT0 := (hu46 _ (by omega)).trans hT0
    replace hF := q_us hF hu46 (by simp)
    obtain ⟨f47, e48⟩ := q_nm (vp_updL t1_0 a21.toNatClampNeg j43 : (Nat → Int64))
    rw [e48] at hT1
    refine lv_aload_n hx hb d_11_3_63 rfl (lv_at hl 1 rfl) ?_
    refine lv_dup hx hb d_11_3_64 rfl ?_
    refine q_get (ci := 1) (j := 2) (v := .int t0_0) C0 V i_She rfl rfl hT0 (by decide) w_54 rfl d_11_3_65 ?_
    refine lv_iconst (v := 1) hx hb d_11_3_68 (by decide) ?_
    refine lv_iadd hx hb d_11_3_69 ?_
    obtain ⟨a49, e50⟩ := q_nm (t0_0 + 1 : Int32)
    refine q_ti (v := a49) e50 ?_
    have b51 : q_F (a49.toInt = t0_0.toInt + 1) := (by rw [← e50]; show (t0_0 + 1 : Int32).toInt = t0_0.toInt + 1; exact q_addI (x := t0_0.toInt) (y := 1) rfl (by decide) (by have t1 : 0 ≤ t0_0.toInt ∧ t0_0.toInt ≤ K.toInt := btt0_0; have t2 : t0_0.toInt < R.toInt := b14; have _ := q_lo32 (x := R); have _ := q_hi32 (x := R); omega) (by have t1 : 0 ≤ t0_0.toInt ∧ t0_0.toInt ≤ K.toInt := btt0_0; have t2 : t0_0.toInt < R.toInt := b14; have _ := q_lo32 (x := R); have _ := q_hi32 (x := R); omega))
    refine q_put (ci := 1) (j := 2) (v := .int a49) (ty := .int) C0 V i_She o_She n_She rfl rfl hT0 (by decide) w_54 rfl rfl rfl rfl (Nat.le_of_ble_eq_true rfl) d_11_3_70 (fun H locs w52 hu53 hT0 V => ?_)
    replace hT0 : w52[k1]? = (some (q k1, .inr (1, [.ref (q (k1 + 1)), .int R, .int a49])) : Option (Nat × va_E)) := hT0
    have ob54 : q_F (a49.toInt ≤ K.toInt) := (by rw [← e50]; have h := hS; rw [S_She_add.eq_1] at h; rw [if_neg c6] at h; exact h.2.1)
    replace hI := n_shO' hI hB1 hu53 hT0 ⟨(by have t1 : 0 ≤ t0_0.toInt ∧ t0_0.toInt ≤ K.toInt := btt0_0; have t2 : a49.toInt = t0_0.toInt + 1 := b51; omega), (by first | with_reducible exact q_fe ob54 | (have t1 : a49.toInt ≤ K.toInt := ob54; omega))⟩
    replace hT1 := (hu53 _ (by omega)).trans hT1
    replace hF := q_us hF hu53 (by simp)
    exact q_retv C0 V (⟨hI, hF, a49, f47, hT0, hT1, (show t0_0.toInt + 1 ≤ a49.toInt from (by first | with_reducible exact q_fe b51 | (have t1 : a49.toInt = t0_0.toInt + 1 := b51; omega))), (show a49.toInt ≤ t0_0.toInt + 1 from (by first | with_reducible exact q_fe b51 | (have t1 : a49.toInt = t0_0.toInt + 1 := b51; omega))), (show a49.toInt ≤ K.toInt from (by first | with_reducible exact q_fe ob54 | (have t1 : a49.toInt ≤ K.toInt := ob54; omega))), (show (a49, f47) = (F_She_add R N K x2 t0_0 t1_0) from (by rw [← e50, ← e48, ← e44, ← e42, ← e39, ← e36, ← e34, ← e32, ← e30, ← e28, ← e25, ← e22, ← e19, ← e16, F_She_add.eq_1, if_neg c6]))⟩) d_11_3_73
def F_She_at (R : Int32) (N : Int32) (K : Int32) (x2 : Int64) (t0_0 : Int32) (t1_0 : (Nat → Int64)) : Int32 := if (lg_cmp x2 0 : Int32) < (0 : Int32) then ((0 : Int32)) else (if (0 : Int32) ≤ (lg_cmp x2 (t0_0.toInt64 : Int64) : Int32) then ((0 : Int32)) else (if (lg_cmp x2 (R.toInt64 : Int64) : Int32) < (0 : Int32) then ((((((t1_0 ((x2.toInt32 : Int32) >>> (3 &&& 31) : Int32).toNatClampNeg : Int64).toUInt64 >>> ((8 * ((x2.toInt32 : Int32) &&& 7 : Int32) : Int32).toInt64.toUInt64 &&& Int64.toUInt64 63)).toInt64 : Int64).toInt32 : Int32) &&& 255 : Int32)) else ((0 : Int32))))
def S_She_at (R : Int32) (N : Int32) (K : Int32) (x2 : Int64) (t0_0 : Int32) (t1_0 : (Nat → Int64)) : Prop := if (lg_cmp x2 0 : Int32) < (0 : Int32) then (True) else (if (0 : Int32) ≤ (lg_cmp x2 (t0_0.toInt64 : Int64) : Int32) then (True) else (if (lg_cmp x2 (R.toInt64 : Int64) : Int32) < (0 : Int32) then ((0 ≤ ((x2.toInt32 : Int32) >>> (3 &&& 31) : Int32).toInt) ∧ ((((x2.toInt32 : Int32) >>> (3 &&& 31) : Int32).toInt + 1 ≤ N.toInt) ∧ (True))) else (True)))
set_option maxRecDepth 100000 in
set_option maxHeartbeats 4000000 in
theorem X_She_at (l : Launch) (D : va_G) (g : Nat → ClassId) (q : Nat → Nat) (ws : va_W) (k1 : Nat) (R N K : Int32) (hB1 : q_isShe (nsh g q) g q k1 R N K) (x2 : Int64) (hI : q_I (nsh g q) q ws) (t0_0 : Int32) (hT0 : ws[k1]? = (some (q k1, .inr (1, [.ref (q (k1 + 1)), .int R, .int t0_0])) : Option (Nat × va_E))) (t1_0 : (Nat → Int64)) (hT1 : ws[k1 + 1]? = (some (q (k1 + 1), .inl (g 1, N.toNatClampNeg, .inr (.inl t1_0))) : Option (Nat × va_E))) (hS : True ∧ S_She_at R N K x2 t0_0 t1_0) : q_mI l y_She_at prog_11_method_8_code 3 (.int) 1 0 0 D g [.ref (q k1), .long x2] ws (fun r u => ws = u ∧ (0 ≤ r.toInt) ∧ (r.toInt ≤ 255) ∧ r = (F_She_at R N K x2 t0_0 t1_0)) := by
  intro sz
  refine q_into (by decide) (Nat.le_of_ble_eq_true rfl) ?_
  intro p e s m below meth c ls hsz C0 V hl
  have hx := C0.1
  have hb := C0.2.1
  have hfk10 : q_F (0 ≤ R.toInt ∧ R.toInt ≤ 8 * N.toInt ∧ 0 ≤ N.toInt ∧ N.toInt ≤ 1376 ∧ 64 ≤ R.toInt ∧ 64 ≤ K.toInt ∧ K.toInt ≤ 1000000) := hB1.2.2.1
  have btt0_0 := n_shW hI hB1 hT0
  clear btt0_0
  have hl : lv_has ls 3 [(0, .ref (q k1)), (1, .long x2)] := hl
  refine lv_lload_n hx hb d_11_8_0 rfl (lv_at hl 1 rfl) ?_
  refine lv_lconst (v := 0) hx hb d_11_8_1 (by decide) ?_
  refine W.lcmp hx hb d_11_8_2 ?_
  obtain ⟨a6, e7⟩ := q_nm (lg_cmp x2 0 : Int32)
  refine q_ti (v := a6) e7 ?_
  refine lv_if_lt (tgt := 26) hx hb d_11_8_3 (by decide) (fun c9 => ?_) (fun c9 => ?_)
  ·
    refine lv_iconst (v := 0) hx hb d_11_8_26 (by decide) ?_
    exact q_reti C0 V (⟨rfl, (show 0 ≤ (0 : Int32).toInt from (by have z6 : (0 : Int32).toInt = 0 := rfl; omega)), (show (0 : Int32).toInt ≤ 255 from (by have z6 : (0 : Int32).toInt = 0 := rfl; omega)), (show (0 : Int32) = (F_She_at R N K x2 t0_0 t1_0) from (by have c9x := c9; rw [← e7] at c9x; rw [F_She_at.eq_1, if_pos c9x]))⟩) d_11_8_27
  ·
    refine lv_lload_n hx hb d_11_8_6 rfl (lv_at hl 1 rfl) ?_
    refine lv_aload_n hx hb d_11_8_7 rfl (lv_at hl 0 rfl) ?_
    refine q_get (ci := 1) (j := 2) (v := .int t0_0) C0 V i_She rfl rfl hT0 (by decide) w_54 rfl d_11_8_8 ?_
    refine lv_i2l hx hb d_11_8_11 rfl ?_
    obtain ⟨j12, e13⟩ := q_nm (t0_0.toInt64 : Int64)
    refine q_tl (v := j12) e13 ?_
    refine W.lcmp hx hb d_11_8_12 ?_
    obtain ⟨a15, e16⟩ := q_nm (lg_cmp x2 j12 : Int32)
    refine q_ti (v := a15) e16 ?_
    refine lv_if_ge (tgt := 26) hx hb d_11_8_13 (by decide) (fun c18 => ?_) (fun c18 => ?_)
    ·
      refine lv_iconst (v := 0) hx hb d_11_8_26 (by decide) ?_
      exact q_reti C0 V (⟨rfl, (show 0 ≤ (0 : Int32).toInt from (by have z6 : (0 : Int32).toInt = 0 := rfl; omega)), (show (0 : Int32).toInt ≤ 255 from (by have z6 : (0 : Int32).toInt = 0 := rfl; omega)), (show (0 : Int32) = (F_She_at R N K x2 t0_0 t1_0) from (by have c9x := c9; rw [← e7] at c9x; have c18x := c18; rw [← e16, ← e13] at c18x; rw [F_She_at.eq_1, if_neg c9x, if_pos c18x]))⟩) d_11_8_27
    ·
      refine lv_lload_n hx hb d_11_8_16 rfl (lv_at hl 1 rfl) ?_
      refine lv_aload_n hx hb d_11_8_17 rfl (lv_at hl 0 rfl) ?_
      refine q_get (ci := 1) (j := 1) (v := .int R) C0 V i_She rfl rfl hT0 (by decide) w_53 rfl d_11_8_18 ?_
      refine lv_i2l hx hb d_11_8_21 rfl ?_
      obtain ⟨j21, e22⟩ := q_nm (R.toInt64 : Int64)
      refine q_tl (v := j21) e22 ?_
      refine W.lcmp hx hb d_11_8_22 ?_
      obtain ⟨a24, e25⟩ := q_nm (lg_cmp x2 j21 : Int32)
      refine q_ti (v := a24) e25 ?_
      refine lv_if_lt (tgt := 28) hx hb d_11_8_23 (by decide) (fun c27 => ?_) (fun c27 => ?_)
      ·
        refine lv_aload_n hx hb d_11_8_28 rfl (lv_at hl 0 rfl) ?_
        refine q_get (ci := 1) (j := 0) (v := .ref (q (k1 + 1))) C0 V i_She rfl rfl hT0 (by decide) w_52 rfl d_11_8_29 ?_
        refine lv_lload_n hx hb d_11_8_32 rfl (lv_at hl 1 rfl) ?_
        refine lv_l2i hx hb d_11_8_33 rfl ?_
        obtain ⟨a29, e30⟩ := q_nm (x2.toInt32 : Int32)
        refine q_ti (v := a29) e30 ?_
        refine lv_iconst (v := 3) hx hb d_11_8_34 (by decide) ?_
        refine lv_ishr hx hb d_11_8_35 ?_
        obtain ⟨a32, e33⟩ := q_nm (a29 >>> (3 &&& 31) : Int32)
        refine q_ti (v := a32) e33 ?_
        have ob35 : q_F (0 ≤ a32.toInt) := (by rw [← e33, ← e30]; have h := hS; rw [S_She_at.eq_1] at h; have c9x := c9; rw [← e7] at c9x; rw [if_neg c9x] at h; have c18x := c18; rw [← e16, ← e13] at c18x; rw [if_neg c18x] at h; have c27x := c27; rw [← e25, ← e22] at c27x; rw [if_pos c27x] at h; exact h.2.1)
        have ob36 : q_F (a32.toInt + 1 ≤ N.toInt) := (by rw [← e33, ← e30]; have h := hS; rw [S_She_at.eq_1] at h; have c9x := c9; rw [← e7] at c9x; rw [if_neg c9x] at h; have c18x := c18; rw [← e16, ← e13] at c18x; rw [if_neg c18x] at h; have c27x := c27; rw [← e25, ← e22] at c27x; rw [if_pos c27x] at h; replace h := q_s2 h; exact h.2.1)
        refine q_lald C0 V hT1 (q_ix (x := a32.toInt) rfl (by first | with_reducible exact q_fe ob35 | (have t1 : 0 ≤ a32.toInt := ob35; omega)) (by have t1 : 0 ≤ a32.toInt := ob35; have t2 : a32.toInt + 1 ≤ N.toInt := ob36; have e9 := q_clI (i := N) rfl (by have t1 : 0 ≤ R.toInt ∧ R.toInt ≤ 8 * N.toInt ∧ 0 ≤ N.toInt ∧ N.toInt ≤ 1376 ∧ 64 ≤ R.toInt ∧ 64 ≤ K.toInt ∧ K.toInt ≤ 1000000 := hfk10; omega); omega)) d_11_8_36 ?_
        obtain ⟨j37, e38⟩ := q_nm (t1_0 a32.toNatClampNeg : Int64)
        refine q_tl (v := j37) e38 ?_
        refine lv_bipush (v := 8) hx hb d_11_8_37 (by decide) ?_
        refine lv_lload_n hx hb d_11_8_39 rfl (lv_at hl 1 rfl) ?_
        refine lv_l2i hx hb d_11_8_40 rfl ?_
        obtain ⟨a39, e40⟩ := q_nm (x2.toInt32 : Int32)
        refine q_ti (v := a39) e40 ?_
        refine lv_bipush (v := 7) hx hb d_11_8_41 (by decide) ?_
        refine lv_iand hx hb d_11_8_43 ?_
        obtain ⟨a42, e43⟩ := q_nm (a39 &&& 7 : Int32)
        refine q_ti (v := a42) e43 ?_
        refine lv_imul hx hb d_11_8_44 ?_
        obtain ⟨a45, e46⟩ := q_nm (8 * a42 : Int32)
        refine q_ti (v := a45) e46 ?_
        refine lv_lushr hx hb d_11_8_45 rfl ?_
        obtain ⟨j48, e49⟩ := q_nm ((j37.toUInt64 >>> (a45.toInt64.toUInt64 &&& Int64.toUInt64 63)).toInt64 : Int64)
        refine q_tl (v := j48) e49 ?_
        refine lv_l2i hx hb d_11_8_46 rfl ?_
        obtain ⟨a50, e51⟩ := q_nm (j48.toInt32 : Int32)
        refine q_ti (v := a50) e51 ?_
        refine lv_sipush (v := 255) hx hb d_11_8_47 (by decide) ?_
        refine lv_iand hx hb d_11_8_50 ?_
        obtain ⟨a52, e53⟩ := q_nm (a50 &&& 255 : Int32)
        refine q_ti (v := a52) e53 ?_
        have b54 : q_F (0 ≤ a52.toInt ∧ a52.toInt ≤ 255) := (by rw [← e53]; show 0 ≤ (a50 &&& 255 : Int32).toInt ∧ (a50 &&& 255 : Int32).toInt ≤ 255; exact s_and (by decide))
        exact q_reti C0 V (⟨rfl, (show 0 ≤ a52.toInt from (by first | with_reducible exact (q_fe b54).2 | with_reducible exact (q_fe b54).1 | (have t1 : 0 ≤ a52.toInt ∧ a52.toInt ≤ 255 := b54; omega))), (show a52.toInt ≤ 255 from (by first | with_reducible exact (q_fe b54).2 | with_reducible exact (q_fe b54).1 | (have t1 : 0 ≤ a52.toInt ∧ a52.toInt ≤ 255 := b54; omega))), (show a52 = (F_She_at R N K x2 t0_0 t1_0) from (by have c9x := c9; rw [← e7] at c9x; have c18x := c18; rw [← e16, ← e13] at c18x; have c27x := c27; rw [← e25, ← e22] at c27x; rw [← e53, ← e51, ← e49, ← e46, ← e43, ← e40, ← e38, ← e33, ← e30, F_She_at.eq_1, if_neg c9x, if_neg c18x, if_pos c27x]))⟩) d_11_8_51
      ·
        refine lv_iconst (v := 0) hx hb d_11_8_26 (by decide) ?_
        exact q_reti C0 V (⟨rfl, (show 0 ≤ (0 : Int32).toInt from (by have z6 : (0 : Int32).toInt = 0 := rfl; omega)), (show (0 : Int32).toInt ≤ 255 from (by have z6 : (0 : Int32).toInt = 0 := rfl; omega)), (show (0 : Int32) = (F_She_at R N K x2 t0_0 t1_0) from (by have c9x := c9; rw [← e7] at c9x; have c18x := c18; rw [← e16, ← e13] at c18x; have c27x := c27; rw [← e25, ← e22] at c27x; rw [F_She_at.eq_1, if_neg c9x, if_neg c18x, if_neg c27x]))⟩) d_11_8_27
def F_She_replace (R : Int32) (N : Int32) (K : Int32) (x2 : Int32) (x3 : Int32) (t0_0 : Int32) (t1_0 : (Nat → Int64)) : (Nat → Int64) := if x2 < (0 : Int32) then (t1_0) else (if R ≤ x2 then (t1_0) else ((vp_updL t1_0 (x2 >>> (3 &&& 31) : Int32).toNatClampNeg ((t1_0 (x2 >>> (3 &&& 31) : Int32).toNatClampNeg : Int64) ^^^ (((((F_She_at R N K (x2.toInt64 : Int64) t0_0 t1_0) : Int32) ^^^ (x3 &&& 255 : Int32) : Int32).toInt64 : Int64) <<< ((8 * (x2 &&& 7 : Int32) : Int32).toInt64 &&& 63) : Int64) : Int64) : (Nat → Int64))))
def S_She_replace (R : Int32) (N : Int32) (K : Int32) (x2 : Int32) (x3 : Int32) (t0_0 : Int32) (t1_0 : (Nat → Int64)) : Prop := if x2 < (0 : Int32) then (True) else (if R ≤ x2 then (True) else ((True ∧ S_She_at R N K (x2.toInt64 : Int64) t0_0 t1_0) ∧ (True)))
set_option maxRecDepth 100000 in
set_option maxHeartbeats 4000000 in
theorem X_She_replace (l : Launch) (D : va_G) (g : Nat → ClassId) (q : Nat → Nat) (ws : va_W) (k1 : Nat) (R N K : Int32) (hB1 : q_isShe (nsh g q) g q k1 R N K) (x2 : Int32) (x3 : Int32) (hI : q_I (nsh g q) q ws) (t0_0 : Int32) (hT0 : ws[k1]? = (some (q k1, .inr (1, [.ref (q (k1 + 1)), .int R, .int t0_0])) : Option (Nat × va_E))) (t1_0 : (Nat → Int64)) (hT1 : ws[k1 + 1]? = (some (q (k1 + 1), .inl (g 1, N.toNatClampNeg, .inr (.inl t1_0))) : Option (Nat × va_E))) (hS : True ∧ S_She_replace R N K x2 x3 t0_0 t1_0) : q_mV l y_She_replace prog_11_method_9_code 3 2 0 0 D g [.ref (q k1), .int x2, .int x3] ws (fun u => q_I (nsh g q) q u ∧ q_un ws u [k1 + 1] ∧ ∃ (u1_0 : (Nat → Int64)), u[k1 + 1]? = (some (q (k1 + 1), .inl (g 1, N.toNatClampNeg, .inr (.inl u1_0))) : Option (Nat × va_E)) ∧ u1_0 = (F_She_replace R N K x2 x3 t0_0 t1_0)) := by
  intro sz
  refine q_into (by decide) (Nat.le_of_ble_eq_true rfl) ?_
  intro p e s m below meth c ls hsz C0 V hl
  have hx := C0.1
  have hb := C0.2.1
  have hfk10 : q_F (0 ≤ R.toInt ∧ R.toInt ≤ 8 * N.toInt ∧ 0 ≤ N.toInt ∧ N.toInt ≤ 1376 ∧ 64 ≤ R.toInt ∧ 64 ≤ K.toInt ∧ K.toInt ≤ 1000000) := hB1.2.2.1
  have btt0_0 := n_shW hI hB1 hT0
  clear btt0_0
  have hF : q_un ws ws [k1 + 1] := q_u0
  have hl : lv_has ls 3 [(0, .ref (q k1)), (1, .int x2), (2, .int x3)] := hl
  refine lv_iload_n hx hb d_11_9_0 rfl (lv_at hl 1 rfl) ?_
  refine lv_if_lt (tgt := 44) hx hb d_11_9_1 (by decide) (fun c6 => ?_) (fun c6 => ?_)
  ·
    exact q_retv C0 V (⟨hI, hF, t1_0, hT1, (show t1_0 = (F_She_replace R N K x2 x3 t0_0 t1_0) from (by rw [F_She_replace.eq_1, if_pos c6]))⟩) d_11_9_44
  ·
    have b8 : q_F (0 ≤ x2.toInt) := (q_nltI c6)
    refine lv_iload_n hx hb d_11_9_4 rfl (lv_at hl 1 rfl) ?_
    refine lv_aload_n hx hb d_11_9_5 rfl (lv_at hl 0 rfl) ?_
    refine q_get (ci := 1) (j := 1) (v := .int R) C0 V i_She rfl rfl hT0 (by decide) w_53 rfl d_11_9_6 ?_
    refine lv_icmp_ge (tgt := 44) hx hb d_11_9_9 (by decide) (fun c9 => ?_) (fun c9 => ?_)
    ·
      exact q_retv C0 V (⟨hI, hF, t1_0, hT1, (show t1_0 = (F_She_replace R N K x2 x3 t0_0 t1_0) from (by rw [F_She_replace.eq_1, if_neg c6, if_pos c9]))⟩) d_11_9_44
    ·
      have b11 : q_F (x2.toInt < R.toInt) := (q_nleI c9)
      refine lv_aload_n hx hb d_11_9_12 rfl (lv_at hl 0 rfl) ?_
      refine q_get (ci := 1) (j := 0) (v := .ref (q (k1 + 1))) C0 V i_She rfl rfl hT0 (by decide) w_52 rfl d_11_9_13 ?_
      refine lv_iload_n hx hb d_11_9_16 rfl (lv_at hl 1 rfl) ?_
      refine lv_iconst (v := 3) hx hb d_11_9_17 (by decide) ?_
      refine lv_ishr hx hb d_11_9_18 ?_
      obtain ⟨a12, e13⟩ := q_nm (x2 >>> (3 &&& 31) : Int32)
      refine q_ti (v := a12) e13 ?_
      have b14 : q_F (8 * a12.toInt ≤ x2.toInt ∧ x2.toInt ≤ 8 * a12.toInt + 7) := (by rw [← e13]; show 8 * (x2 >>> (3 &&& 31) : Int32).toInt ≤ x2.toInt ∧ x2.toInt ≤ 8 * (x2 >>> (3 &&& 31) : Int32).toInt + 7; exact n_shr (x := x2) (c := 3) 3 (by decide) (by decide) (by first | with_reducible exact q_fe b8 | (have t1 : 0 ≤ x2.toInt := b8; omega)))
      refine lv_dup2_11 hx hb d_11_9_19 rfl rfl ?_
      refine q_lald C0 V hT1 (q_ix (x := a12.toInt) rfl (by have t1 : 0 ≤ x2.toInt := b8; have t2 : 8 * a12.toInt ≤ x2.toInt ∧ x2.toInt ≤ 8 * a12.toInt + 7 := b14; omega) (by have t1 : 0 ≤ x2.toInt := b8; have t2 : 8 * a12.toInt ≤ x2.toInt ∧ x2.toInt ≤ 8 * a12.toInt + 7 := b14; have t3 : 0 ≤ R.toInt ∧ R.toInt ≤ 8 * N.toInt ∧ 0 ≤ N.toInt ∧ N.toInt ≤ 1376 ∧ 64 ≤ R.toInt ∧ 64 ≤ K.toInt ∧ K.toInt ≤ 1000000 := hfk10; have t4 : x2.toInt < R.toInt := b11; have e9 := q_clI (i := N) rfl (by have t1 : 0 ≤ R.toInt ∧ R.toInt ≤ 8 * N.toInt ∧ 0 ≤ N.toInt ∧ N.toInt ≤ 1376 ∧ 64 ≤ R.toInt ∧ 64 ≤ K.toInt ∧ K.toInt ≤ 1000000 := hfk10; omega); omega)) d_11_9_20 ?_
      obtain ⟨j15, e16⟩ := q_nm (t1_0 a12.toNatClampNeg : Int64)
      refine q_tl (v := j15) e16 ?_
      refine lv_aload_n hx hb d_11_9_21 rfl (lv_at hl 0 rfl) ?_
      refine lv_iload_n hx hb d_11_9_22 rfl (lv_at hl 1 rfl) ?_
      refine lv_i2l hx hb d_11_9_23 rfl ?_
      obtain ⟨j17, e18⟩ := q_nm (x2.toInt64 : Int64)
      refine q_tl (v := j17) e18 ?_
      have ob20 : True ∧ S_She_at R N K j17 t0_0 t1_0 := (by rw [← e18]; have h := hS; rw [S_She_replace.eq_1] at h; rw [if_neg c6] at h; rw [if_neg c9] at h; with_reducible exact h.2.1)
      refine q_goi V (q_runV (As := [.long j17]) (rest := [.long j15, .int a12, .ref (q (k1 + 1))]) (d := 1) (mc := 0) (ms := 0) (ci := 1) C0 V rfl LV_She_48 (X_She_at l D g q ws k1 R N K hB1 j17 hI t0_0 hT0 t1_0 hT1 ob20 _) rfl rfl hT0 rfl hl.1 rfl (Nat.le_of_ble_eq_true rfl) ⟨by decide, by decide⟩ ⟨Nat.le_of_ble_eq_true rfl, Nat.le_of_ble_eq_true rfl⟩ d_11_9_24) (fun a23 u21 H locs hp22 V => ?_)
      obtain ⟨rfl, b24, b25, hE26⟩ := hp22
      have e27 : a23 = (F_She_at R N K j17 t0_0 t1_0) := hE26
      clear b24
      clear b25
      refine lv_iload_n hx hb d_11_9_27 rfl (lv_at hl 2 rfl) ?_
      refine lv_sipush (v := 255) hx hb d_11_9_28 (by decide) ?_
      refine lv_iand hx hb d_11_9_31 ?_
      obtain ⟨a28, e29⟩ := q_nm (x3 &&& 255 : Int32)
      refine q_ti (v := a28) e29 ?_
      refine lv_ixor hx hb d_11_9_32 ?_
      obtain ⟨a31, e32⟩ := q_nm (a23 ^^^ a28 : Int32)
      refine q_ti (v := a31) e32 ?_
      refine lv_i2l hx hb d_11_9_33 rfl ?_
      obtain ⟨j34, e35⟩ := q_nm (a31.toInt64 : Int64)
      refine q_tl (v := j34) e35 ?_
      refine lv_bipush (v := 8) hx hb d_11_9_34 (by decide) ?_
      refine lv_iload_n hx hb d_11_9_36 rfl (lv_at hl 1 rfl) ?_
      refine lv_bipush (v := 7) hx hb d_11_9_37 (by decide) ?_
      refine lv_iand hx hb d_11_9_39 ?_
      obtain ⟨a37, e38⟩ := q_nm (x2 &&& 7 : Int32)
      refine q_ti (v := a37) e38 ?_
      refine lv_imul hx hb d_11_9_40 ?_
      obtain ⟨a40, e41⟩ := q_nm (8 * a37 : Int32)
      refine q_ti (v := a40) e41 ?_
      refine lv_lshl hx hb d_11_9_41 rfl ?_
      obtain ⟨j43, e44⟩ := q_nm (j34 <<< (a40.toInt64 &&& 63) : Int64)
      refine q_tl (v := j43) e44 ?_
      refine lv_lxor hx hb d_11_9_42 ?_
      obtain ⟨j45, e46⟩ := q_nm (j15 ^^^ j43 : Int64)
      refine q_tl (v := j45) e46 ?_
      refine q_last C0 V hT1 (q_ix (x := a12.toInt) rfl (by have t1 : 0 ≤ x2.toInt := b8; have t2 : 8 * a12.toInt ≤ x2.toInt ∧ x2.toInt ≤ 8 * a12.toInt + 7 := b14; omega) (by have t1 : 0 ≤ x2.toInt := b8; have t2 : 8 * a12.toInt ≤ x2.toInt ∧ x2.toInt ≤ 8 * a12.toInt + 7 := b14; have t3 : 0 ≤ R.toInt ∧ R.toInt ≤ 8 * N.toInt ∧ 0 ≤ N.toInt ∧ N.toInt ≤ 1376 ∧ 64 ≤ R.toInt ∧ 64 ≤ K.toInt ∧ K.toInt ≤ 1000000 := hfk10; have t4 : x2.toInt < R.toInt := b11; have e9 := q_clI (i := N) rfl (by have t1 : 0 ≤ R.toInt ∧ R.toInt ≤ 8 * N.toInt ∧ 0 ≤ N.toInt ∧ N.toInt ≤ 1376 ∧ 64 ≤ R.toInt ∧ 64 ≤ K.toInt ∧ K.toInt ≤ 1000000 := hfk10; omega); omega)) d_11_9_43 (fun H locs w47 hu48 hT1 V => ?_)
      replace hI := n_al' hI hB1.2.1 hu48 hT1
      replace hF := q_us hF hu48 (by simp)
      obtain ⟨f49, e50⟩ := q_nm (vp_updL t1_0 a12.toNatClampNeg j45 : (Nat → Int64))
      rw [e50] at hT1
      exact q_retv C0 V (⟨hI, hF, f49, hT1, (show f49 = (F_She_replace R N K x2 x3 t0_0 t1_0) from (by rw [← e50, ← e46, ← e44, ← e41, ← e38, ← e35, ← e32, ← e29, e27, ← e18, ← e16, ← e13, F_She_replace.eq_1, if_neg c6, if_neg c9]))⟩) d_11_9_44
def F_She_turn_L9 (R : Int32) (N : Int32) (K : Int32) (x2 : Int32) (t0_0 : Int32) (t1_0 : (Nat → Int64)) : Nat → Int32 → Int32 → (Nat → Int64) → (Nat → Int64)
  | 0, _, _, _ => default
  | fm + 1, lx11, lx12, lx13 => if lx11 ≤ lx12 then (lx13) else (F_She_turn_L9 R N K x2 t0_0 t1_0 fm (lx11 + (-1) : Int32) (lx12 + 1 : Int32) ((F_She_replace R N K lx11 ((F_She_at R N K (lx12.toInt64 : Int64) t0_0 lx13) : Int32) t0_0 ((F_She_replace R N K lx12 ((F_She_at R N K (lx11.toInt64 : Int64) t0_0 lx13) : Int32) t0_0 lx13) : (Nat → Int64))) : (Nat → Int64)))
def F_She_turn (R : Int32) (N : Int32) (K : Int32) (x2 : Int32) (t0_0 : Int32) (t1_0 : (Nat → Int64)) : (Nat → Int64) := F_She_turn_L9 R N K x2 t0_0 t1_0 (((t0_0 - 1 : Int32).toInt - (x2.toInt)).toNat + 1) (t0_0 - 1 : Int32) x2 t1_0
def S_She_turn_L9 (R : Int32) (N : Int32) (K : Int32) (x2 : Int32) (t0_0 : Int32) (t1_0 : (Nat → Int64)) : Nat → Int32 → Int32 → (Nat → Int64) → Prop
  | 0, _, _, _ => False
  | fm + 1, lx11, lx12, lx13 => if lx11 ≤ lx12 then (True) else ((True ∧ S_She_at R N K (lx12.toInt64 : Int64) t0_0 lx13) ∧ ((True ∧ S_She_at R N K (lx11.toInt64 : Int64) t0_0 lx13) ∧ ((True ∧ S_She_replace R N K lx12 ((F_She_at R N K (lx11.toInt64 : Int64) t0_0 lx13) : Int32) t0_0 lx13) ∧ ((True ∧ S_She_replace R N K lx11 ((F_She_at R N K (lx12.toInt64 : Int64) t0_0 lx13) : Int32) t0_0 ((F_She_replace R N K lx12 ((F_She_at R N K (lx11.toInt64 : Int64) t0_0 lx13) : Int32) t0_0 lx13) : (Nat → Int64))) ∧ (S_She_turn_L9 R N K x2 t0_0 t1_0 fm (lx11 + (-1) : Int32) (lx12 + 1 : Int32) ((F_She_replace R N K lx11 ((F_She_at R N K (lx12.toInt64 : Int64) t0_0 lx13) : Int32) t0_0 ((F_She_replace R N K lx12 ((F_She_at R N K (lx11.toInt64 : Int64) t0_0 lx13) : Int32) t0_0 lx13) : (Nat → Int64))) : (Nat → Int64)))))))
def S_She_turn (R : Int32) (N : Int32) (K : Int32) (x2 : Int32) (t0_0 : Int32) (t1_0 : (Nat → Int64)) : Prop := S_She_turn_L9 R N K x2 t0_0 t1_0 (((t0_0 - 1 : Int32).toInt - (x2.toInt)).toNat + 1) (t0_0 - 1 : Int32) x2 t1_0
set_option maxRecDepth 100000 in
set_option maxHeartbeats 4000000 in
theorem X_She_turn (l : Launch) (D : va_G) (g : Nat → ClassId) (q : Nat → Nat) (ws : va_W) (k1 : Nat) (R N K : Int32) (hB1 : q_isShe (nsh g q) g q k1 R N K) (x2 : Int32) (hI : q_I (nsh g q) q ws) (t0_0 : Int32) (hT0 : ws[k1]? = (some (q k1, .inr (1, [.ref (q (k1 + 1)), .int R, .int t0_0])) : Option (Nat × va_E))) (t1_0 : (Nat → Int64)) (hT1 : ws[k1 + 1]? = (some (q (k1 + 1), .inl (g 1, N.toNatClampNeg, .inr (.inl t1_0))) : Option (Nat × va_E))) (hS : True ∧ S_She_turn R N K x2 t0_0 t1_0) : q_mV l y_She_turn prog_11_method_7_code 5 3 0 0 D g [.ref (q k1), .int x2] ws (fun u => q_I (nsh g q) q u ∧ q_un ws u [k1 + 1] ∧ ∃ (u1_0 : (Nat → Int64)), u[k1 + 1]? = (some (q (k1 + 1), .inl (g 1, N.toNatClampNeg, .inr (.inl u1_0))) : Option (Nat × va_E)) ∧ u1_0 = (F_She_turn R N K x2 t0_0 t1_0)) := by
  intro sz
  refine q_into (by decide) (Nat.le_of_ble_eq_true rfl) ?_
  intro p e s m below meth c ls hsz C0 V hl
  have hx := C0.1
  have hb := C0.2.1
  have btt0_0 := n_shW hI hB1 hT0
  clear btt0_0
  have hF : q_un ws ws [k1 + 1] := q_u0
  have hl : lv_has ls 5 [(0, .ref (q k1)), (1, .int x2)] := hl
  refine lv_iload_n hx hb d_11_7_0 rfl (lv_at hl 1 rfl) ?_
  refine lv_istore_n (lv' := [(2, .int x2), (0, .ref (q k1)), (1, .int x2)]) hx hb d_11_7_1 rfl hl (by decide) rfl (fun ls hl => ?_)
  refine lv_aload_n hx hb d_11_7_2 rfl (lv_at hl 1 rfl) ?_
  refine q_get (ci := 1) (j := 2) (v := .int t0_0) C0 V i_She rfl rfl hT0 (by decide) w_54 rfl d_11_7_3 ?_
  refine lv_iconst (v := 1) hx hb d_11_7_6 (by decide) ?_
  refine lv_isub hx hb d_11_7_7 ?_
  obtain ⟨a6, e7⟩ := q_nm (t0_0 - 1 : Int32)
  refine q_ti (v := a6) e7 ?_
  refine lv_istore_n (lv' := [(3, .int a6), (2, .int x2), (0, .ref (q k1)), (1, .int x2)]) hx hb d_11_7_8 rfl hl (by decide) rfl (fun ls hl => ?_)
  refine q_loop (X := Int32 × Int32 × (Nat → Int64)) (fun z H locs ls w18 => q_F (a6.toInt + x2.toInt ≤ z.1.toInt + z.2.1.toInt) ∧ q_F (z.1.toInt + z.2.1.toInt ≤ a6.toInt + x2.toInt) ∧ q_F (z.1.toInt + x2.toInt ≤ z.2.1.toInt + a6.toInt) ∧ q_Wd D g (va_A ws sz) s w18 H locs ∧ lv_has ls 5 [(3, .int z.1), (2, .int z.2.1), (0, .ref (q k1))] ∧ q_I (nsh g q) q w18 ∧ q_un ws w18 [k1 + 1] ∧ w18[k1]? = (some (q k1, .inr (1, [.ref (q (k1 + 1)), .int R, .int t0_0])) : Option (Nat × va_E)) ∧ w18[k1 + 1]? = (some (q (k1 + 1), .inl (g 1, N.toNatClampNeg, .inr (.inl z.2.2))) : Option (Nat × va_E)) ∧ (∃ n, (z.1.toInt - (x2.toInt)).toNat < n ∧ F_She_turn_L9 R N K x2 t0_0 t1_0 n z.1 z.2.1 z.2.2 = (F_She_turn R N K x2 t0_0 t1_0) ∧ True ∧ S_She_turn_L9 R N K x2 t0_0 t1_0 n z.1 z.2.1 z.2.2)) (fun z => (z.1.toInt - (x2.toInt)).toNat) ?_ ((a6 : Int32), (x2 : Int32), (t1_0 : (Nat → Int64))) _ _ _ ws ⟨(show q_F (a6.toInt + x2.toInt ≤ a6.toInt + x2.toInt) from (show a6.toInt + x2.toInt ≤ a6.toInt + x2.toInt from by omega)), (show q_F (a6.toInt + x2.toInt ≤ a6.toInt + x2.toInt) from (show a6.toInt + x2.toInt ≤ a6.toInt + x2.toInt from by omega)), (show q_F (a6.toInt + x2.toInt ≤ x2.toInt + a6.toInt) from (show a6.toInt + x2.toInt ≤ x2.toInt + a6.toInt from by omega)), V, q_lw hl (q_lw1 0 rfl (q_lw1 1 rfl (q_lw1 2 rfl q_lw0))), hI, hF, hT0, hT1, ⟨((a6.toInt - (x2.toInt)).toNat + 1), Nat.lt_succ_self _, (show F_She_turn_L9 R N K x2 t0_0 t1_0 ((a6.toInt - (x2.toInt)).toNat + 1) a6 x2 t1_0 = (F_She_turn R N K x2 t0_0 t1_0) from (by rw [← e7, F_She_turn.eq_1])), (show True ∧ S_She_turn_L9 R N K x2 t0_0 t1_0 ((a6.toInt - (x2.toInt)).toNat + 1) a6 x2 t1_0 from (by rw [← e7]; have h := hS; rw [S_She_turn.eq_1] at h; with_reducible exact h))⟩⟩
  rintro ⟨lx11, lx12, lx13⟩ H locs ls w18 ⟨i14, i15, i16, V, hl, hI, hF, hO19, hO20, ⟨fu23, hf24, hR21, hS22⟩⟩ ih17
  obtain ⟨fm25, rfl⟩ : ∃ m, fu23 = m + 1 := ⟨fu23 - 1, by omega⟩
  replace i14 : q_F (a6.toInt + x2.toInt ≤ lx11.toInt + lx12.toInt) := i14
  replace i15 : q_F (lx11.toInt + lx12.toInt ≤ a6.toInt + x2.toInt) := i15
  replace i16 : q_F (lx11.toInt + x2.toInt ≤ lx12.toInt + a6.toInt) := i16
  replace hl : lv_has ls 5 [(3, .int lx11), (2, .int lx12), (0, .ref (q k1))] := hl
  replace hO19 : w18[k1]? = (some (q k1, .inr (1, [.ref (q (k1 + 1)), .int R, .int t0_0])) : Option (Nat × va_E)) := hO19
  replace hO20 : w18[k1 + 1]? = (some (q (k1 + 1), .inl (g 1, N.toNatClampNeg, .inr (.inl lx13))) : Option (Nat × va_E)) := hO20
  refine lv_iload_n hx hb d_11_7_9 rfl (lv_at hl 1 rfl) ?_
  refine lv_iload_n hx hb d_11_7_10 rfl (lv_at hl 0 rfl) ?_
  refine lv_icmp_ge (tgt := 49) hx hb d_11_7_11 (by decide) (fun c26 => ?_) (fun c26 => ?_)
  ·
    exact q_retv C0 V (⟨hI, hF, lx13, hO20, (show lx13 = (F_She_turn R N K x2 t0_0 t1_0) from Eq.trans (by rw [F_She_turn_L9.eq_2, if_pos c26]) hR21)⟩) d_11_7_49
  ·
    have b28 : q_F (lx12.toInt < lx11.toInt) := (q_nleI c26)
    refine lv_aload_n hx hb d_11_7_14 rfl (lv_at hl 2 rfl) ?_
    refine lv_iload_n hx hb d_11_7_15 rfl (lv_at hl 1 rfl) ?_
    refine lv_i2l hx hb d_11_7_16 rfl ?_
    obtain ⟨j29, e30⟩ := q_nm (lx12.toInt64 : Int64)
    refine q_tl (v := j29) e30 ?_
    have ob32 : True ∧ S_She_at R N K j29 t0_0 lx13 := (by rw [← e30]; have h := hS22; rw [S_She_turn_L9.eq_2] at h; rw [if_neg c26] at h; with_reducible exact h.2.1)
    refine q_goi V (q_runV (As := [.long j29]) (rest := []) (d := 1) (mc := 0) (ms := 0) (ci := 1) C0 V rfl LV_She_48 (X_She_at l D g q w18 k1 R N K hB1 j29 hI t0_0 hO19 lx13 hO20 ob32 _) rfl rfl hO19 rfl hl.1 rfl (Nat.le_of_ble_eq_true rfl) ⟨by decide, by decide⟩ ⟨Nat.le_of_ble_eq_true rfl, Nat.le_of_ble_eq_true rfl⟩ d_11_7_17) (fun a35 u33 H locs hp34 V => ?_)
    obtain ⟨rfl, b36, b37, hE38⟩ := hp34
    have e39 : a35 = (F_She_at R N K j29 t0_0 lx13) := hE38
    clear b36
    clear b37
    refine lv_istore (lv' := [(4, .int a35), (3, .int lx11), (2, .int lx12), (0, .ref (q k1))]) hx hb d_11_7_20 hl (by decide) rfl (fun ls hl => ?_)
    refine lv_aload_n hx hb d_11_7_22 rfl (lv_at hl 3 rfl) ?_
    refine lv_iload_n hx hb d_11_7_23 rfl (lv_at hl 2 rfl) ?_
    refine lv_aload_n hx hb d_11_7_24 rfl (lv_at hl 3 rfl) ?_
    refine lv_iload_n hx hb d_11_7_25 rfl (lv_at hl 1 rfl) ?_
    refine lv_i2l hx hb d_11_7_26 rfl ?_
    obtain ⟨j40, e41⟩ := q_nm (lx11.toInt64 : Int64)
    refine q_tl (v := j40) e41 ?_
    have ob43 : True ∧ S_She_at R N K j40 t0_0 lx13 := (by rw [← e41]; have h := hS22; rw [S_She_turn_L9.eq_2] at h; rw [if_neg c26] at h; replace h := q_s2 h; with_reducible exact h.2.1)
    refine q_goi V (q_runV (As := [.long j40]) (rest := [.int lx12, .ref (q k1)]) (d := 1) (mc := 0) (ms := 0) (ci := 1) C0 V rfl LV_She_48 (X_She_at l D g q w18 k1 R N K hB1 j40 hI t0_0 hO19 lx13 hO20 ob43 _) rfl rfl hO19 rfl hl.1 rfl (Nat.le_of_ble_eq_true rfl) ⟨by decide, by decide⟩ ⟨Nat.le_of_ble_eq_true rfl, Nat.le_of_ble_eq_true rfl⟩ d_11_7_27) (fun a46 u44 H locs hp45 V => ?_)
    obtain ⟨rfl, b47, b48, hE49⟩ := hp45
    have e50 : a46 = (F_She_at R N K j40 t0_0 lx13) := hE49
    clear b47
    clear b48
    have ob51 : True ∧ S_She_replace R N K lx12 a46 t0_0 lx13 := (by rw [e50, ← e41]; have h := hS22; rw [S_She_turn_L9.eq_2] at h; rw [if_neg c26] at h; replace h := q_s2 h; replace h := q_s2 h; with_reducible exact h.2.1)
    refine q_gov V (q_runV (As := [.int lx12, .int a46]) (rest := []) (d := 2) (mc := 0) (ms := 0) (ci := 1) C0 V rfl LV_She_52 (X_She_replace l D g q w18 k1 R N K hB1 lx12 a46 hI t0_0 hO19 lx13 hO20 ob51 _) rfl rfl hO19 rfl hl.1 rfl (Nat.le_of_ble_eq_true rfl) ⟨by decide, by decide⟩ ⟨Nat.le_of_ble_eq_true rfl, Nat.le_of_ble_eq_true rfl⟩ d_11_7_30) (fun u52 H locs hp53 V => ?_)
    obtain ⟨hI, hu57, f54, hA55, hE56⟩ := hp53
    replace hA55 : u52[k1 + 1]? = (some (q (k1 + 1), .inl (g 1, N.toNatClampNeg, .inr (.inl f54))) : Option (Nat × va_E)) := hA55
    have e58 : f54 = (F_She_replace R N K lx12 a46 t0_0 lx13) := hE56
    replace hO19 := (hu57 _ (by have z0 := hB1.2.2.2; simp only [List.mem_cons, List.not_mem_nil, or_false, not_or]; omega)).trans hO19
    replace hF := q_uc hF hu57 (by simp)
    refine lv_aload_n hx hb d_11_7_33 rfl (lv_at hl 3 rfl) ?_
    refine lv_iload_n hx hb d_11_7_34 rfl (lv_at hl 1 rfl) ?_
    refine lv_iload hx hb d_11_7_35 (lv_at hl 0 rfl) ?_
    have ob59 : True ∧ S_She_replace R N K lx11 a35 t0_0 f54 := (by rw [e58, e50, ← e41, e39, ← e30]; have h := hS22; rw [S_She_turn_L9.eq_2] at h; rw [if_neg c26] at h; replace h := q_s2 h; replace h := q_s2 h; replace h := q_s2 h; with_reducible exact h.2.1)
    refine q_gov V (q_runV (As := [.int lx11, .int a35]) (rest := []) (d := 2) (mc := 0) (ms := 0) (ci := 1) C0 V rfl LV_She_52 (X_She_replace l D g q u52 k1 R N K hB1 lx11 a35 hI t0_0 hO19 f54 hA55 ob59 _) rfl rfl hO19 rfl hl.1 rfl (Nat.le_of_ble_eq_true rfl) ⟨by decide, by decide⟩ ⟨Nat.le_of_ble_eq_true rfl, Nat.le_of_ble_eq_true rfl⟩ d_11_7_37) (fun u60 H locs hp61 V => ?_)
    obtain ⟨hI, hu65, f62, hA63, hE64⟩ := hp61
    replace hA63 : u60[k1 + 1]? = (some (q (k1 + 1), .inl (g 1, N.toNatClampNeg, .inr (.inl f62))) : Option (Nat × va_E)) := hA63
    have e66 : f62 = (F_She_replace R N K lx11 a35 t0_0 f54) := hE64
    replace hO19 := (hu65 _ (by have z0 := hB1.2.2.2; simp only [List.mem_cons, List.not_mem_nil, or_false, not_or]; omega)).trans hO19
    replace hF := q_uc hF hu65 (by simp)
    obtain ⟨a67, e68⟩ := q_nm (lx12 + 1 : Int32)
    have b69 : q_F (a67.toInt = lx12.toInt + 1) := (by rw [← e68]; exact q_addI (y := 1) rfl (by decide) (by have _ := q_lo32 (x := lx12); have _ := q_hi32 (x := lx12); have t1 : lx11.toInt + lx12.toInt ≤ a6.toInt + x2.toInt := i15; have t2 : lx11.toInt + x2.toInt ≤ lx12.toInt + a6.toInt := i16; have t3 : lx12.toInt < lx11.toInt := b28; have _ := q_lo32 (x := a6); have _ := q_hi32 (x := a6); omega) (by have _ := q_lo32 (x := lx12); have _ := q_hi32 (x := lx12); have t1 : lx11.toInt + lx12.toInt ≤ a6.toInt + x2.toInt := i15; have t2 : lx11.toInt + x2.toInt ≤ lx12.toInt + a6.toInt := i16; have t3 : lx12.toInt < lx11.toInt := b28; have _ := q_lo32 (x := a6); have _ := q_hi32 (x := a6); omega))
    refine lv_iinc (v := a67) (lv' := [(2, .int a67), (4, .int a35), (3, .int lx11), (0, .ref (q k1))]) hx hb d_11_7_40 hl (k := 2) rfl (e68) (by decide) rfl (fun ls hl => ?_)
    obtain ⟨a70, e71⟩ := q_nm (lx11 + (-1) : Int32)
    have b72 : q_F (a70.toInt = lx11.toInt + (-1)) := (by rw [← e71]; exact q_addI (y := (-1)) rfl (by decide) (by have t1 : lx12.toInt < lx11.toInt := b28; have _ := q_lo32 (x := lx12); have _ := q_hi32 (x := lx12); have t2 : lx11.toInt + lx12.toInt ≤ a6.toInt + x2.toInt := i15; have t3 : lx11.toInt + x2.toInt ≤ lx12.toInt + a6.toInt := i16; have _ := q_lo32 (x := a6); have _ := q_hi32 (x := a6); omega) (by have t1 : lx12.toInt < lx11.toInt := b28; have _ := q_lo32 (x := lx12); have _ := q_hi32 (x := lx12); have t2 : lx11.toInt + lx12.toInt ≤ a6.toInt + x2.toInt := i15; have t3 : lx11.toInt + x2.toInt ≤ lx12.toInt + a6.toInt := i16; have _ := q_lo32 (x := a6); have _ := q_hi32 (x := a6); omega))
    refine lv_iinc (v := a70) (lv' := [(3, .int a70), (2, .int a67), (4, .int a35), (0, .ref (q k1))]) hx hb d_11_7_43 hl (k := 2) rfl (e71) (by decide) rfl (fun ls hl => ?_)
    refine lv_goto (tgt := 9) hx hb d_11_7_46 (by decide) ?_
    exact ih17 ((a70 : Int32), (a67 : Int32), (f62 : (Nat → Int64))) _ _ _ _ (show (a70.toInt - (x2.toInt)).toNat < (lx11.toInt - (x2.toInt)).toNat from by have t1 : a70.toInt = lx11.toInt + (-1) := b72; have t2 : a6.toInt + x2.toInt ≤ lx11.toInt + lx12.toInt := i14; have t3 : lx11.toInt + x2.toInt ≤ lx12.toInt + a6.toInt := i16; have t4 : lx12.toInt < lx11.toInt := b28; omega) ⟨(show q_F (a6.toInt + x2.toInt ≤ a70.toInt + a67.toInt) from (show a6.toInt + x2.toInt ≤ a70.toInt + a67.toInt from by have t1 : a6.toInt + x2.toInt ≤ lx11.toInt + lx12.toInt := i14; have t2 : a67.toInt = lx12.toInt + 1 := b69; have t3 : a70.toInt = lx11.toInt + (-1) := b72; omega)), (show q_F (a70.toInt + a67.toInt ≤ a6.toInt + x2.toInt) from (show a70.toInt + a67.toInt ≤ a6.toInt + x2.toInt from by have t1 : lx11.toInt + lx12.toInt ≤ a6.toInt + x2.toInt := i15; have t2 : a67.toInt = lx12.toInt + 1 := b69; have t3 : a70.toInt = lx11.toInt + (-1) := b72; omega)), (show q_F (a70.toInt + x2.toInt ≤ a67.toInt + a6.toInt) from (show a70.toInt + x2.toInt ≤ a67.toInt + a6.toInt from by have t1 : lx11.toInt + x2.toInt ≤ lx12.toInt + a6.toInt := i16; have t2 : a67.toInt = lx12.toInt + 1 := b69; have t3 : a70.toInt = lx11.toInt + (-1) := b72; omega)), V, q_lw hl (q_lw1 0 rfl (q_lw1 1 rfl (q_lw1 3 rfl q_lw0))), hI, hF, hO19, hA63, ⟨fm25, Nat.lt_of_lt_of_le (show (a70.toInt - (x2.toInt)).toNat < (lx11.toInt - (x2.toInt)).toNat from by have t1 : a70.toInt = lx11.toInt + (-1) := b72; have t2 : a6.toInt + x2.toInt ≤ lx11.toInt + lx12.toInt := i14; have t3 : lx11.toInt + x2.toInt ≤ lx12.toInt + a6.toInt := i16; have t4 : lx12.toInt < lx11.toInt := b28; omega) (Nat.le_of_lt_succ hf24), (show F_She_turn_L9 R N K x2 t0_0 t1_0 fm25 a70 a67 f62 = (F_She_turn R N K x2 t0_0 t1_0) from Eq.trans (by rw [← e71, ← e68, e66, e58, e50, ← e41, e39, ← e30, F_She_turn_L9.eq_2, if_neg c26]) hR21), (show True ∧ S_She_turn_L9 R N K x2 t0_0 t1_0 fm25 a70 a67 f62 from (by rw [← e71, ← e68, e66, e58, e50, ← e41, e39, ← e30]; have h := hS22; rw [S_She_turn_L9.eq_2] at h; rw [if_neg c26] at h; replace h := q_s2 h; replace h := q_s2 h; replace h := q_s2 h; replace h := q_s2 h; with_reducible exact h))⟩⟩
def F_jLat_charAt_19 (x2 : Int32) : Int32 := (((((([48, 49, 50, 51, 52, 53, 54, 55, 56, 57, 97, 98, 99, 100, 101, 102, 103, 104, 105, 106, 107, 108, 109, 110, 111, 112, 113, 114, 115, 116, 117, 118, 119, 120, 121, 122] : List Int32).getD x2.toNatClampNeg 0) : Int32) &&& 255 : Int32).toUInt32 % 65536).toInt32 : Int32)
set_option maxRecDepth 100000 in
set_option maxHeartbeats 4000000 in
theorem X_jLat_charAt_19 (l : Launch) (D : va_G) (g : Nat → ClassId) (q : Nat → Nat) (ws : va_W) (x2 : Int32) (hI : q_I (nsh g q) q ws) (pre0 : 0 ≤ x2.toInt) (pre1 : x2.toInt ≤ 35) : q_mI l y_jLat_charAt prog_33_method_2_code 2 (.char) 3 0 0 D g [.ref (g (9 + 2 * 19)), .int x2] ws (fun r u => ws = u ∧ (0 ≤ r.toInt) ∧ (r.toInt ≤ 255) ∧ r = (F_jLat_charAt_19 x2)) := by
  intro sz
  refine q_into (by decide) (Nat.le_of_ble_eq_true rfl) ?_
  intro p e s m below meth c ls hsz C0 V hl
  have hx := C0.1
  have hb := C0.2.1
  replace pre0 : q_F (0 ≤ x2.toInt) := pre0
  replace pre1 : q_F (x2.toInt ≤ 35) := pre1
  have hl : lv_has ls 2 [(0, .ref (g (9 + 2 * 19))), (1, .int x2)] := hl
  refine lv_iload_n hx hb d_33_2_0 rfl (lv_at hl 1 rfl) ?_
  refine lv_aload_n hx hb d_33_2_1 rfl (lv_at hl 0 rfl) ?_
  refine q_slen (i := 19) (v := 36) C0 V rfl (by decide) d_33_2_2 ?_
  refine q_gov V (q_runS (As := [.int x2, .int 36]) (rest := []) (d := 2) (mc := 0) (ms := 0) C0 V rfl LS_jLat_9 (T_jStr_checkIndex l D g q ws  x2 36 hI  (by have y0 : (36 : Int32).toInt = 36 := rfl; have t1 : 0 ≤ x2.toInt := pre0; omega) (by have y0 : (36 : Int32).toInt = 36 := rfl; have t1 : x2.toInt ≤ 35 := pre1; omega) _) rfl hl.1 rfl (Nat.le_of_ble_eq_true rfl) ⟨by decide, by decide⟩ ⟨Nat.le_of_ble_eq_true rfl, Nat.le_of_ble_eq_true rfl⟩ d_33_2_3) (fun u1 H locs hp2 V => ?_)
  obtain ⟨rfl, -⟩ := hp2
  refine lv_aload_n hx hb d_33_2_6 rfl (lv_at hl 0 rfl) ?_
  refine lv_iload_n hx hb d_33_2_7 rfl (lv_at hl 1 rfl) ?_
  refine q_sbal (i := 19) (v := (([48, 49, 50, 51, 52, 53, 54, 55, 56, 57, 97, 98, 99, 100, 101, 102, 103, 104, 105, 106, 107, 108, 109, 110, 111, 112, 113, 114, 115, 116, 117, 118, 119, 120, 121, 122] : List Int32).getD x2.toNatClampNeg 0)) C0 V rfl (show vp_in x2 36 from q_ix (x := x2.toInt) rfl (by first | with_reducible exact q_fe pre0 | (have t1 : 0 ≤ x2.toInt := pre0; omega)) (by have t1 : 0 ≤ x2.toInt := pre0; have t2 : x2.toInt ≤ 35 := pre1; omega)) rfl d_33_2_8 ?_
  obtain ⟨a4, e5⟩ := q_nm ((([48, 49, 50, 51, 52, 53, 54, 55, 56, 57, 97, 98, 99, 100, 101, 102, 103, 104, 105, 106, 107, 108, 109, 110, 111, 112, 113, 114, 115, 116, 117, 118, 119, 120, 121, 122] : List Int32).getD x2.toNatClampNeg 0) : Int32)
  refine q_ti (v := a4) e5 ?_
  refine lv_sipush (v := 255) hx hb d_33_2_9 (by decide) ?_
  refine lv_iand hx hb d_33_2_12 ?_
  obtain ⟨a6, e7⟩ := q_nm (a4 &&& 255 : Int32)
  refine q_ti (v := a6) e7 ?_
  have b8 : q_F (0 ≤ a6.toInt ∧ a6.toInt ≤ 255) := (by rw [← e7]; show 0 ≤ (a4 &&& 255 : Int32).toInt ∧ (a4 &&& 255 : Int32).toInt ≤ 255; exact s_and (by decide))
  refine lv_i2c hx hb d_33_2_13 rfl ?_
  obtain ⟨a9, e10⟩ := q_nm ((a6.toUInt32 % 65536).toInt32 : Int32)
  refine q_ti (v := a9) e10 ?_
  have b11 : q_F (a9.toInt = a6.toInt) := (by rw [← e10]; show ((a6.toUInt32 % 65536).toInt32 : Int32).toInt = a6.toInt; exact (n_i2c (x := a6)).2.2 (by first | with_reducible exact (q_fe b8).2 | with_reducible exact (q_fe b8).1 | (have t1 : 0 ≤ a6.toInt ∧ a6.toInt ≤ 255 := b8; omega)) (by first | with_reducible exact (q_fe b8).2 | with_reducible exact (q_fe b8).1 | (have t1 : 0 ≤ a6.toInt ∧ a6.toInt ≤ 255 := b8; omega)))
  exact q_retn C0 V (n_chr (by have t1 : 0 ≤ a6.toInt ∧ a6.toInt ≤ 255 := b8; have t2 : a9.toInt = a6.toInt := b11; omega) (by have t1 : 0 ≤ a6.toInt ∧ a6.toInt ≤ 255 := b8; have t2 : a9.toInt = a6.toInt := b11; omega)) (⟨rfl, (show 0 ≤ a9.toInt from (by have t1 : 0 ≤ a6.toInt ∧ a6.toInt ≤ 255 := b8; have t2 : a9.toInt = a6.toInt := b11; omega)), (show a9.toInt ≤ 255 from (by have t1 : 0 ≤ a6.toInt ∧ a6.toInt ≤ 255 := b8; have t2 : a9.toInt = a6.toInt := b11; omega)), (show a9 = (F_jLat_charAt_19 x2) from (by rw [← e10, ← e7, ← e5, F_jLat_charAt_19.eq_1]))⟩) d_33_2_14
def F_jStr_charAt_19 (x2 : Int32) : Int32 := ((F_jLat_charAt_19 x2) : Int32)
set_option maxRecDepth 100000 in
set_option maxHeartbeats 4000000 in
theorem X_jStr_charAt_19 (l : Launch) (D : va_G) (g : Nat → ClassId) (q : Nat → Nat) (ws : va_W) (x2 : Int32) (hI : q_I (nsh g q) q ws) (pre0 : 0 ≤ x2.toInt) (pre1 : x2.toInt ≤ 35) : q_mI l y_jStr_charAt prog_31_method_56_code 2 (.char) 4 0 0 D g [.ref (g (8 + 2 * 19)), .int x2] ws (fun r u => ws = u ∧ (0 ≤ r.toInt) ∧ (r.toInt ≤ 255) ∧ r = (F_jStr_charAt_19 x2)) := by
  intro sz
  refine q_into (by decide) (Nat.le_of_ble_eq_true rfl) ?_
  intro p e s m below meth c ls hsz C0 V hl
  have hx := C0.1
  have hb := C0.2.1
  replace pre0 : q_F (0 ≤ x2.toInt) := pre0
  replace pre1 : q_F (x2.toInt ≤ 35) := pre1
  have hl : lv_has ls 2 [(0, .ref (g (8 + 2 * 19))), (1, .int x2)] := hl
  refine lv_aload_n hx hb d_31_56_0 rfl (lv_at hl 0 rfl) ?_
  refine q_goi V (q_runVs (As := []) (rest := []) (d := 1) (mc := 0) (ms := 0) (i := 19) C0 V rfl LV_jStr_492 (T_jStr_isLatin1_19 l D g q ws   hI   _) rfl rfl rfl hl.1 rfl (Nat.le_of_ble_eq_true rfl) ⟨by decide, by decide⟩ ⟨Nat.le_of_ble_eq_true rfl, Nat.le_of_ble_eq_true rfl⟩ d_31_56_1) (fun a3 u1 H locs hp2 V => ?_)
  obtain ⟨rfl, b4, b5⟩ := hp2
  replace b4 : q_F (1 ≤ a3.toInt) := b4
  replace b5 : q_F (a3.toInt ≤ 1) := b5
  obtain rfl : a3 = (1 : Int32) := q_Ieq (x := a3.toInt) (y := 1) rfl (by decide) (by have t1 : 1 ≤ a3.toInt := b4; have t2 : a3.toInt ≤ 1 := b5; omega)
  refine lv_if_eq (tgt := 16) hx hb d_31_56_4 (by decide) (fun c7 => absurd c7 (by decide)) (fun c7 => ?_)
  refine lv_aload_n hx hb d_31_56_7 rfl (lv_at hl 0 rfl) ?_
  refine q_sval (i := 19) C0 V rfl rfl w_1018 d_31_56_8 ?_
  refine lv_iload_n hx hb d_31_56_11 rfl (lv_at hl 1 rfl) ?_
  refine q_goi V (q_runS (As := [.ref (g (9 + 2 * 19)), .int x2]) (rest := []) (d := 3) (mc := 0) (ms := 0) C0 V rfl LS_jStr_495 (X_jLat_charAt_19 l D g q ws  x2 hI  (by first | with_reducible exact q_fe pre0 | (have t1 : 0 ≤ x2.toInt := pre0; omega)) (by first | with_reducible exact q_fe pre1 | (have t1 : x2.toInt ≤ 35 := pre1; omega)) _) rfl hl.1 rfl (Nat.le_of_ble_eq_true rfl) ⟨by decide, by decide⟩ ⟨Nat.le_of_ble_eq_true rfl, Nat.le_of_ble_eq_true rfl⟩ d_31_56_12) (fun a10 u8 H locs hp9 V => ?_)
  obtain ⟨rfl, b11, b12, hE13⟩ := hp9
  have e14 : a10 = (F_jLat_charAt_19 x2) := hE13
  replace b11 : q_F (0 ≤ a10.toInt) := b11
  replace b12 : q_F (a10.toInt ≤ 255) := b12
  exact q_retn C0 V (n_chr (by first | with_reducible exact q_fe b11 | (have t1 : 0 ≤ a10.toInt := b11; omega)) (by first | with_reducible exact q_fe b12 | (have t1 : a10.toInt ≤ 255 := b12; omega))) (⟨rfl, (show 0 ≤ a10.toInt from (by first | with_reducible exact q_fe b11 | (have t1 : 0 ≤ a10.toInt := b11; omega))), (show a10.toInt ≤ 255 from (by first | with_reducible exact q_fe b12 | (have t1 : a10.toInt ≤ 255 := b12; omega))), (show a10 = (F_jStr_charAt_19 x2) from (by rw [e14, F_jStr_charAt_19.eq_1]))⟩) d_31_56_15
def F_jStr_length_20 : Int32 := (3 : Int32)
set_option maxRecDepth 100000 in
set_option maxHeartbeats 4000000 in
theorem X_jStr_length_20 (l : Launch) (D : va_G) (g : Nat → ClassId) (q : Nat → Nat) (ws : va_W) (hI : q_I (nsh g q) q ws) : q_mI l y_jStr_length prog_31_method_54_code 1 (.int) 2 0 0 D g [.ref (g (8 + 2 * 20))] ws (fun r u => ws = u ∧ (3 ≤ r.toInt) ∧ (r.toInt ≤ 3) ∧ r = (F_jStr_length_20)) := by
  intro sz
  refine q_into (by decide) (Nat.le_of_ble_eq_true rfl) ?_
  intro p e s m below meth c ls hsz C0 V hl
  have hx := C0.1
  have hb := C0.2.1
  have hl : lv_has ls 1 [(0, .ref (g (8 + 2 * 20)))] := hl
  refine lv_aload_n hx hb d_31_54_0 rfl (lv_at hl 0 rfl) ?_
  refine q_sval (i := 20) C0 V rfl rfl w_1018 d_31_54_1 ?_
  refine q_slen (i := 20) (v := 3) C0 V rfl (by decide) d_31_54_4 ?_
  refine lv_aload_n hx hb d_31_54_5 rfl (lv_at hl 0 rfl) ?_
  refine q_goi V (q_runVs (As := []) (rest := [.int 3]) (d := 1) (mc := 0) (ms := 0) (i := 20) C0 V rfl LV_jStr_335 (T_jStr_coder_20 l D g q ws   hI   _) rfl rfl rfl hl.1 rfl (Nat.le_of_ble_eq_true rfl) ⟨by decide, by decide⟩ ⟨Nat.le_of_ble_eq_true rfl, Nat.le_of_ble_eq_true rfl⟩ d_31_54_6) (fun a3 u1 H locs hp2 V => ?_)
  obtain ⟨rfl, b4, b5⟩ := hp2
  replace b4 : q_F (0 ≤ a3.toInt) := b4
  replace b5 : q_F (a3.toInt ≤ 0) := b5
  obtain rfl : a3 = (0 : Int32) := q_Ieq (x := a3.toInt) (y := 0) rfl (by decide) (by have t1 : 0 ≤ a3.toInt := b4; have t2 : a3.toInt ≤ 0 := b5; omega)
  refine lv_ishr hx hb d_31_54_9 ?_
  refine q_ti (v := 3) (by decide) ?_
  exact q_reti C0 V (⟨rfl, (show 3 ≤ (3 : Int32).toInt from (by have z0 : (3 : Int32).toInt = 3 := rfl; omega)), (show (3 : Int32).toInt ≤ 3 from (by have z0 : (3 : Int32).toInt = 3 := rfl; omega)), (show (3 : Int32) = (F_jStr_length_20) from (by rw [F_jStr_length_20.eq_1]))⟩) d_31_54_10
def F_jLat_charAt_20 (x2 : Int32) : Int32 := (((((([78, 97, 78] : List Int32).getD x2.toNatClampNeg 0) : Int32) &&& 255 : Int32).toUInt32 % 65536).toInt32 : Int32)
set_option maxRecDepth 100000 in
set_option maxHeartbeats 4000000 in
theorem X_jLat_charAt_20 (l : Launch) (D : va_G) (g : Nat → ClassId) (q : Nat → Nat) (ws : va_W) (x2 : Int32) (hI : q_I (nsh g q) q ws) (pre0 : 0 ≤ x2.toInt) (pre1 : x2.toInt ≤ 2) : q_mI l y_jLat_charAt prog_33_method_2_code 2 (.char) 3 0 0 D g [.ref (g (9 + 2 * 20)), .int x2] ws (fun r u => ws = u ∧ (0 ≤ r.toInt) ∧ (r.toInt ≤ 255) ∧ r = (F_jLat_charAt_20 x2)) := by
  intro sz
  refine q_into (by decide) (Nat.le_of_ble_eq_true rfl) ?_
  intro p e s m below meth c ls hsz C0 V hl
  have hx := C0.1
  have hb := C0.2.1
  replace pre0 : q_F (0 ≤ x2.toInt) := pre0
  replace pre1 : q_F (x2.toInt ≤ 2) := pre1
  have hl : lv_has ls 2 [(0, .ref (g (9 + 2 * 20))), (1, .int x2)] := hl
  refine lv_iload_n hx hb d_33_2_0 rfl (lv_at hl 1 rfl) ?_
  refine lv_aload_n hx hb d_33_2_1 rfl (lv_at hl 0 rfl) ?_
  refine q_slen (i := 20) (v := 3) C0 V rfl (by decide) d_33_2_2 ?_
  refine q_gov V (q_runS (As := [.int x2, .int 3]) (rest := []) (d := 2) (mc := 0) (ms := 0) C0 V rfl LS_jLat_9 (T_jStr_checkIndex l D g q ws  x2 3 hI  (by have y0 : (3 : Int32).toInt = 3 := rfl; have t1 : 0 ≤ x2.toInt := pre0; omega) (by have y0 : (3 : Int32).toInt = 3 := rfl; have t1 : x2.toInt ≤ 2 := pre1; omega) _) rfl hl.1 rfl (Nat.le_of_ble_eq_true rfl) ⟨by decide, by decide⟩ ⟨Nat.le_of_ble_eq_true rfl, Nat.le_of_ble_eq_true rfl⟩ d_33_2_3) (fun u1 H locs hp2 V => ?_)
  obtain ⟨rfl, -⟩ := hp2
  refine lv_aload_n hx hb d_33_2_6 rfl (lv_at hl 0 rfl) ?_
  refine lv_iload_n hx hb d_33_2_7 rfl (lv_at hl 1 rfl) ?_
  refine q_sbal (i := 20) (v := (([78, 97, 78] : List Int32).getD x2.toNatClampNeg 0)) C0 V rfl (show vp_in x2 3 from q_ix (x := x2.toInt) rfl (by first | with_reducible exact q_fe pre0 | (have t1 : 0 ≤ x2.toInt := pre0; omega)) (by have t1 : 0 ≤ x2.toInt := pre0; have t2 : x2.toInt ≤ 2 := pre1; omega)) rfl d_33_2_8 ?_
  obtain ⟨a4, e5⟩ := q_nm ((([78, 97, 78] : List Int32).getD x2.toNatClampNeg 0) : Int32)
  refine q_ti (v := a4) e5 ?_
  refine lv_sipush (v := 255) hx hb d_33_2_9 (by decide) ?_
  refine lv_iand hx hb d_33_2_12 ?_
  obtain ⟨a6, e7⟩ := q_nm (a4 &&& 255 : Int32)
  refine q_ti (v := a6) e7 ?_
  have b8 : q_F (0 ≤ a6.toInt ∧ a6.toInt ≤ 255) := (by rw [← e7]; show 0 ≤ (a4 &&& 255 : Int32).toInt ∧ (a4 &&& 255 : Int32).toInt ≤ 255; exact s_and (by decide))
  refine lv_i2c hx hb d_33_2_13 rfl ?_
  obtain ⟨a9, e10⟩ := q_nm ((a6.toUInt32 % 65536).toInt32 : Int32)
  refine q_ti (v := a9) e10 ?_
  have b11 : q_F (a9.toInt = a6.toInt) := (by rw [← e10]; show ((a6.toUInt32 % 65536).toInt32 : Int32).toInt = a6.toInt; exact (n_i2c (x := a6)).2.2 (by first | with_reducible exact (q_fe b8).2 | with_reducible exact (q_fe b8).1 | (have t1 : 0 ≤ a6.toInt ∧ a6.toInt ≤ 255 := b8; omega)) (by first | with_reducible exact (q_fe b8).2 | with_reducible exact (q_fe b8).1 | (have t1 : 0 ≤ a6.toInt ∧ a6.toInt ≤ 255 := b8; omega)))
  exact q_retn C0 V (n_chr (by have t1 : 0 ≤ a6.toInt ∧ a6.toInt ≤ 255 := b8; have t2 : a9.toInt = a6.toInt := b11; omega) (by have t1 : 0 ≤ a6.toInt ∧ a6.toInt ≤ 255 := b8; have t2 : a9.toInt = a6.toInt := b11; omega)) (⟨rfl, (show 0 ≤ a9.toInt from (by have t1 : 0 ≤ a6.toInt ∧ a6.toInt ≤ 255 := b8; have t2 : a9.toInt = a6.toInt := b11; omega)), (show a9.toInt ≤ 255 from (by have t1 : 0 ≤ a6.toInt ∧ a6.toInt ≤ 255 := b8; have t2 : a9.toInt = a6.toInt := b11; omega)), (show a9 = (F_jLat_charAt_20 x2) from (by rw [← e10, ← e7, ← e5, F_jLat_charAt_20.eq_1]))⟩) d_33_2_14

def F_jStr_charAt_20 (x2 : Int32) : Int32 := ((F_jLat_charAt_20 x2) : Int32)
set_option maxRecDepth 100000 in
set_option maxHeartbeats 4000000 in
theorem X_jStr_charAt_20 (l : Launch) (D : va_G) (g : Nat → ClassId) (q : Nat → Nat) (ws : va_W) (x2 : Int32) (hI : q_I (nsh g q) q ws) (pre0 : 0 ≤ x2.toInt) (pre1 : x2.toInt ≤ 2) : q_mI l y_jStr_charAt prog_31_method_56_code 2 (.char) 4 0 0 D g [.ref (g (8 + 2 * 20)), .int x2] ws (fun r u => ws = u ∧ (0 ≤ r.toInt) ∧ (r.toInt ≤ 255) ∧ r = (F_jStr_charAt_20 x2)) := by
  intro sz
  refine q_into (by decide) (Nat.le_of_ble_eq_true rfl) ?_
  intro p e s m below meth c ls hsz C0 V hl
  have hx := C0.1
  have hb := C0.2.1
  replace pre0 : q_F (0 ≤ x2.toInt) := pre0
  replace pre1 : q_F (x2.toInt ≤ 2) := pre1
  have hl : lv_has ls 2 [(0, .ref (g (8 + 2 * 20))), (1, .int x2)] := hl
  refine lv_aload_n hx hb d_31_56_0 rfl (lv_at hl 0 rfl) ?_
  refine q_goi V (q_runVs (As := []) (rest := []) (d := 1) (mc := 0) (ms := 0) (i := 20) C0 V rfl LV_jStr_492 (T_jStr_isLatin1_20 l D g q ws   hI   _) rfl rfl rfl hl.1 rfl (Nat.le_of_ble_eq_true rfl) ⟨by decide, by decide⟩ ⟨Nat.le_of_ble_eq_true rfl, Nat.le_of_ble_eq_true rfl⟩ d_31_56_1) (fun a3 u1 H locs hp2 V => ?_)
  obtain ⟨rfl, b4, b5⟩ := hp2
  replace b4 : q_F (1 ≤ a3.toInt) := b4
  replace b5 : q_F (a3.toInt ≤ 1) := b5
  obtain rfl : a3 = (1 : Int32) := q_Ieq (x := a3.toInt) (y := 1) rfl (by decide) (by have t1 : 1 ≤ a3.toInt := b4; have t2 : a3.toInt ≤ 1 := b5; omega)
  refine lv_if_eq (tgt := 16) hx hb d_31_56_4 (by decide) (fun c7 => absurd c7 (by decide)) (fun c7 => ?_)
  refine lv_aload_n hx hb d_31_56_7 rfl (lv_at hl 0 rfl) ?_
  refine q_sval (i := 20) C0 V rfl rfl w_1018 d_31_56_8 ?_
  refine lv_iload_n hx hb d_31_56_11 rfl (lv_at hl 1 rfl) ?_
  refine q_goi V (q_runS (As := [.ref (g (9 + 2 * 20)), .int x2]) (rest := []) (d := 3) (mc := 0) (ms := 0) C0 V rfl LS_jStr_495 (X_jLat_charAt_20 l D g q ws  x2 hI  (by first | with_reducible exact q_fe pre0 | (have t1 : 0 ≤ x2.toInt := pre0; omega)) (by first | with_reducible exact q_fe pre1 | (have t1 : x2.toInt ≤ 2 := pre1; omega)) _) rfl hl.1 rfl (Nat.le_of_ble_eq_true rfl) ⟨by decide, by decide⟩ ⟨Nat.le_of_ble_eq_true rfl, Nat.le_of_ble_eq_true rfl⟩ d_31_56_12) (fun a10 u8 H locs hp9 V => ?_)
  obtain ⟨rfl, b11, b12, hE13⟩ := hp9
  have e14 : a10 = (F_jLat_charAt_20 x2) := hE13
  replace b11 : q_F (0 ≤ a10.toInt) := b11
  replace b12 : q_F (a10.toInt ≤ 255) := b12
  exact q_retn C0 V (n_chr (by first | with_reducible exact q_fe b11 | (have t1 : 0 ≤ a10.toInt := b11; omega)) (by first | with_reducible exact q_fe b12 | (have t1 : a10.toInt ≤ 255 := b12; omega))) (⟨rfl, (show 0 ≤ a10.toInt from (by first | with_reducible exact q_fe b11 | (have t1 : 0 ≤ a10.toInt := b11; omega))), (show a10.toInt ≤ 255 from (by first | with_reducible exact q_fe b12 | (have t1 : a10.toInt ≤ 255 := b12; omega))), (show a10 = (F_jStr_charAt_20 x2) from (by rw [e14, F_jStr_charAt_20.eq_1]))⟩) d_31_56_15
def F_jStr_length_21 : Int32 := (8 : Int32)
set_option maxRecDepth 100000 in
set_option maxHeartbeats 4000000 in
theorem X_jStr_length_21 (l : Launch) (D : va_G) (g : Nat → ClassId) (q : Nat → Nat) (ws : va_W) (hI : q_I (nsh g q) q ws) : q_mI l y_jStr_length prog_31_method_54_code 1 (.int) 2 0 0 D g [.ref (g (8 + 2 * 21))] ws (fun r u => ws = u ∧ (8 ≤ r.toInt) ∧ (r.toInt ≤ 8) ∧ r = (F_jStr_length_21)) := by
  intro sz
  refine q_into (by decide) (Nat.le_of_ble_eq_true rfl) ?_
  intro p e s m below meth c ls hsz C0 V hl
  have hx := C0.1
  have hb := C0.2.1
  have hl : lv_has ls 1 [(0, .ref (g (8 + 2 * 21)))] := hl
  refine lv_aload_n hx hb d_31_54_0 rfl (lv_at hl 0 rfl) ?_
  refine q_sval (i := 21) C0 V rfl rfl w_1018 d_31_54_1 ?_
  refine q_slen (i := 21) (v := 8) C0 V rfl (by decide) d_31_54_4 ?_
  refine lv_aload_n hx hb d_31_54_5 rfl (lv_at hl 0 rfl) ?_
  refine q_goi V (q_runVs (As := []) (rest := [.int 8]) (d := 1) (mc := 0) (ms := 0) (i := 21) C0 V rfl LV_jStr_335 (T_jStr_coder_21 l D g q ws   hI   _) rfl rfl rfl hl.1 rfl (Nat.le_of_ble_eq_true rfl) ⟨by decide, by decide⟩ ⟨Nat.le_of_ble_eq_true rfl, Nat.le_of_ble_eq_true rfl⟩ d_31_54_6) (fun a3 u1 H locs hp2 V => ?_)
  obtain ⟨rfl, b4, b5⟩ := hp2
  replace b4 : q_F (0 ≤ a3.toInt) := b4
  replace b5 : q_F (a3.toInt ≤ 0) := b5
  obtain rfl : a3 = (0 : Int32) := q_Ieq (x := a3.toInt) (y := 0) rfl (by decide) (by have t1 : 0 ≤ a3.toInt := b4; have t2 : a3.toInt ≤ 0 := b5; omega)
  refine lv_ishr hx hb d_31_54_9 ?_
  refine q_ti (v := 8) (by decide) ?_
  exact q_reti C0 V (⟨rfl, (show 8 ≤ (8 : Int32).toInt from (by have z0 : (8 : Int32).toInt = 8 := rfl; omega)), (show (8 : Int32).toInt ≤ 8 from (by have z0 : (8 : Int32).toInt = 8 := rfl; omega)), (show (8 : Int32) = (F_jStr_length_21) from (by rw [F_jStr_length_21.eq_1]))⟩) d_31_54_10
def F_jLat_charAt_21 (x2 : Int32) : Int32 := (((((([73, 110, 102, 105, 110, 105, 116, 121] : List Int32).getD x2.toNatClampNeg 0) : Int32) &&& 255 : Int32).toUInt32 % 65536).toInt32 : Int32)
set_option maxRecDepth 100000 in
set_option maxHeartbeats 4000000 in
theorem X_jLat_charAt_21 (l : Launch) (D : va_G) (g : Nat → ClassId) (q : Nat → Nat) (ws : va_W) (x2 : Int32) (hI : q_I (nsh g q) q ws) (pre0 : 0 ≤ x2.toInt) (pre1 : x2.toInt ≤ 7) : q_mI l y_jLat_charAt prog_33_method_2_code 2 (.char) 3 0 0 D g [.ref (g (9 + 2 * 21)), .int x2] ws (fun r u => ws = u ∧ (0 ≤ r.toInt) ∧ (r.toInt ≤ 255) ∧ r = (F_jLat_charAt_21 x2)) := by
  intro sz
  refine q_into (by decide) (Nat.le_of_ble_eq_true rfl) ?_
  intro p e s m below meth c ls hsz C0 V hl
  have hx := C0.1
  have hb := C0.2.1
  replace pre0 : q_F (0 ≤ x2.toInt) := pre0
  replace pre1 : q_F (x2.toInt ≤ 7) := pre1
  have hl : lv_has ls 2 [(0, .ref (g (9 + 2 * 21))), (1, .int x2)] := hl
  refine lv_iload_n hx hb d_33_2_0 rfl (lv_at hl 1 rfl) ?_
  refine lv_aload_n hx hb d_33_2_1 rfl (lv_at hl 0 rfl) ?_
  refine q_slen (i := 21) (v := 8) C0 V rfl (by decide) d_33_2_2 ?_
  refine q_gov V (q_runS (As := [.int x2, .int 8]) (rest := []) (d := 2) (mc := 0) (ms := 0) C0 V rfl LS_jLat_9 (T_jStr_checkIndex l D g q ws  x2 8 hI  (by have y0 : (8 : Int32).toInt = 8 := rfl; have t1 : 0 ≤ x2.toInt := pre0; omega) (by have y0 : (8 : Int32).toInt = 8 := rfl; have t1 : x2.toInt ≤ 7 := pre1; omega) _) rfl hl.1 rfl (Nat.le_of_ble_eq_true rfl) ⟨by decide, by decide⟩ ⟨Nat.le_of_ble_eq_true rfl, Nat.le_of_ble_eq_true rfl⟩ d_33_2_3) (fun u1 H locs hp2 V => ?_)
  obtain ⟨rfl, -⟩ := hp2
  refine lv_aload_n hx hb d_33_2_6 rfl (lv_at hl 0 rfl) ?_
  refine lv_iload_n hx hb d_33_2_7 rfl (lv_at hl 1 rfl) ?_
  refine q_sbal (i := 21) (v := (([73, 110, 102, 105, 110, 105, 116, 121] : List Int32).getD x2.toNatClampNeg 0)) C0 V rfl (show vp_in x2 8 from q_ix (x := x2.toInt) rfl (by first | with_reducible exact q_fe pre0 | (have t1 : 0 ≤ x2.toInt := pre0; omega)) (by have t1 : 0 ≤ x2.toInt := pre0; have t2 : x2.toInt ≤ 7 := pre1; omega)) rfl d_33_2_8 ?_
  obtain ⟨a4, e5⟩ := q_nm ((([73, 110, 102, 105, 110, 105, 116, 121] : List Int32).getD x2.toNatClampNeg 0) : Int32)
  refine q_ti (v := a4) e5 ?_
  refine lv_sipush (v := 255) hx hb d_33_2_9 (by decide) ?_
  refine lv_iand hx hb d_33_2_12 ?_
  obtain ⟨a6, e7⟩ := q_nm (a4 &&& 255 : Int32)
  refine q_ti (v := a6) e7 ?_
  have b8 : q_F (0 ≤ a6.toInt ∧ a6.toInt ≤ 255) := (by rw [← e7]; show 0 ≤ (a4 &&& 255 : Int32).toInt ∧ (a4 &&& 255 : Int32).toInt ≤ 255; exact s_and (by decide))
  refine lv_i2c hx hb d_33_2_13 rfl ?_
  obtain ⟨a9, e10⟩ := q_nm ((a6.toUInt32 % 65536).toInt32 : Int32)
  refine q_ti (v := a9) e10 ?_
  have b11 : q_F (a9.toInt = a6.toInt) := (by rw [← e10]; show ((a6.toUInt32 % 65536).toInt32 : Int32).toInt = a6.toInt; exact (n_i2c (x := a6)).2.2 (by first | with_reducible exact (q_fe b8).2 | with_reducible exact (q_fe b8).1 | (have t1 : 0 ≤ a6.toInt ∧ a6.toInt ≤ 255 := b8; omega)) (by first | with_reducible exact (q_fe b8).2 | with_reducible exact (q_fe b8).1 | (have t1 : 0 ≤ a6.toInt ∧ a6.toInt ≤ 255 := b8; omega)))
  exact q_retn C0 V (n_chr (by have t1 : 0 ≤ a6.toInt ∧ a6.toInt ≤ 255 := b8; have t2 : a9.toInt = a6.toInt := b11; omega) (by have t1 : 0 ≤ a6.toInt ∧ a6.toInt ≤ 255 := b8; have t2 : a9.toInt = a6.toInt := b11; omega)) (⟨rfl, (show 0 ≤ a9.toInt from (by have t1 : 0 ≤ a6.toInt ∧ a6.toInt ≤ 255 := b8; have t2 : a9.toInt = a6.toInt := b11; omega)), (show a9.toInt ≤ 255 from (by have t1 : 0 ≤ a6.toInt ∧ a6.toInt ≤ 255 := b8; have t2 : a9.toInt = a6.toInt := b11; omega)), (show a9 = (F_jLat_charAt_21 x2) from (by rw [← e10, ← e7, ← e5, F_jLat_charAt_21.eq_1]))⟩) d_33_2_14
def F_jStr_charAt_21 (x2 : Int32) : Int32 := ((F_jLat_charAt_21 x2) : Int32)
set_option maxRecDepth 100000 in
set_option maxHeartbeats 4000000 in
theorem X_jStr_charAt_21 (l : Launch) (D : va_G) (g : Nat → ClassId) (q : Nat → Nat) (ws : va_W) (x2 : Int32) (hI : q_I (nsh g q) q ws) (pre0 : 0 ≤ x2.toInt) (pre1 : x2.toInt ≤ 7) : q_mI l y_jStr_charAt prog_31_method_56_code 2 (.char) 4 0 0 D g [.ref (g (8 + 2 * 21)), .int x2] ws (fun r u => ws = u ∧ (0 ≤ r.toInt) ∧ (r.toInt ≤ 255) ∧ r = (F_jStr_charAt_21 x2)) := by
  intro sz
  refine q_into (by decide) (Nat.le_of_ble_eq_true rfl) ?_
  intro p e s m below meth c ls hsz C0 V hl
  have hx := C0.1
  have hb := C0.2.1
  replace pre0 : q_F (0 ≤ x2.toInt) := pre0
  replace pre1 : q_F (x2.toInt ≤ 7) := pre1
  have hl : lv_has ls 2 [(0, .ref (g (8 + 2 * 21))), (1, .int x2)] := hl
  refine lv_aload_n hx hb d_31_56_0 rfl (lv_at hl 0 rfl) ?_
  refine q_goi V (q_runVs (As := []) (rest := []) (d := 1) (mc := 0) (ms := 0) (i := 21) C0 V rfl LV_jStr_492 (T_jStr_isLatin1_21 l D g q ws   hI   _) rfl rfl rfl hl.1 rfl (Nat.le_of_ble_eq_true rfl) ⟨by decide, by decide⟩ ⟨Nat.le_of_ble_eq_true rfl, Nat.le_of_ble_eq_true rfl⟩ d_31_56_1) (fun a3 u1 H locs hp2 V => ?_)
  obtain ⟨rfl, b4, b5⟩ := hp2
  replace b4 : q_F (1 ≤ a3.toInt) := b4
  replace b5 : q_F (a3.toInt ≤ 1) := b5
  obtain rfl : a3 = (1 : Int32) := q_Ieq (x := a3.toInt) (y := 1) rfl (by decide) (by have t1 : 1 ≤ a3.toInt := b4; have t2 : a3.toInt ≤ 1 := b5; omega)
  refine lv_if_eq (tgt := 16) hx hb d_31_56_4 (by decide) (fun c7 => absurd c7 (by decide)) (fun c7 => ?_)
  refine lv_aload_n hx hb d_31_56_7 rfl (lv_at hl 0 rfl) ?_
  refine q_sval (i := 21) C0 V rfl rfl w_1018 d_31_56_8 ?_
  refine lv_iload_n hx hb d_31_56_11 rfl (lv_at hl 1 rfl) ?_
  refine q_goi V (q_runS (As := [.ref (g (9 + 2 * 21)), .int x2]) (rest := []) (d := 3) (mc := 0) (ms := 0) C0 V rfl LS_jStr_495 (X_jLat_charAt_21 l D g q ws  x2 hI  (by first | with_reducible exact q_fe pre0 | (have t1 : 0 ≤ x2.toInt := pre0; omega)) (by first | with_reducible exact q_fe pre1 | (have t1 : x2.toInt ≤ 7 := pre1; omega)) _) rfl hl.1 rfl (Nat.le_of_ble_eq_true rfl) ⟨by decide, by decide⟩ ⟨Nat.le_of_ble_eq_true rfl, Nat.le_of_ble_eq_true rfl⟩ d_31_56_12) (fun a10 u8 H locs hp9 V => ?_)
  obtain ⟨rfl, b11, b12, hE13⟩ := hp9
  have e14 : a10 = (F_jLat_charAt_21 x2) := hE13
  replace b11 : q_F (0 ≤ a10.toInt) := b11
  replace b12 : q_F (a10.toInt ≤ 255) := b12
  exact q_retn C0 V (n_chr (by first | with_reducible exact q_fe b11 | (have t1 : 0 ≤ a10.toInt := b11; omega)) (by first | with_reducible exact q_fe b12 | (have t1 : a10.toInt ≤ 255 := b12; omega))) (⟨rfl, (show 0 ≤ a10.toInt from (by first | with_reducible exact q_fe b11 | (have t1 : 0 ≤ a10.toInt := b11; omega))), (show a10.toInt ≤ 255 from (by first | with_reducible exact q_fe b12 | (have t1 : a10.toInt ≤ 255 := b12; omega))), (show a10 = (F_jStr_charAt_21 x2) from (by rw [e14, F_jStr_charAt_21.eq_1]))⟩) d_31_56_15
def F_jLat_charAt_22 (x2 : Int32) : Int32 := (((((([48, 49, 50, 51, 52, 53, 54, 55, 56, 57, 97, 98, 99, 100, 101, 102, 103, 104, 105, 106, 107, 108, 109, 110, 111, 112, 113, 114, 115, 116, 117, 118, 119, 120, 121, 122] : List Int32).getD x2.toNatClampNeg 0) : Int32) &&& 255 : Int32).toUInt32 % 65536).toInt32 : Int32)
set_option maxRecDepth 100000 in
set_option maxHeartbeats 4000000 in
theorem X_jLat_charAt_22 (l : Launch) (D : va_G) (g : Nat → ClassId) (q : Nat → Nat) (ws : va_W) (x2 : Int32) (hI : q_I (nsh g q) q ws) (pre0 : 0 ≤ x2.toInt) (pre1 : x2.toInt ≤ 35) : q_mI l y_jLat_charAt prog_33_method_2_code 2 (.char) 3 0 0 D g [.ref (g (9 + 2 * 22)), .int x2] ws (fun r u => ws = u ∧ (0 ≤ r.toInt) ∧ (r.toInt ≤ 255) ∧ r = (F_jLat_charAt_22 x2)) := by
  intro sz
  refine q_into (by decide) (Nat.le_of_ble_eq_true rfl) ?_
  intro p e s m below meth c ls hsz C0 V hl
  have hx := C0.1
  have hb := C0.2.1
  replace pre0 : q_F (0 ≤ x2.toInt) := pre0
  replace pre1 : q_F (x2.toInt ≤ 35) := pre1
  have hl : lv_has ls 2 [(0, .ref (g (9 + 2 * 22))), (1, .int x2)] := hl
  refine lv_iload_n hx hb d_33_2_0 rfl (lv_at hl 1 rfl) ?_
  refine lv_aload_n hx hb d_33_2_1 rfl (lv_at hl 0 rfl) ?_
  refine q_slen (i := 22) (v := 36) C0 V rfl (by decide) d_33_2_2 ?_
  refine q_gov V (q_runS (As := [.int x2, .int 36]) (rest := []) (d := 2) (mc := 0) (ms := 0) C0 V rfl LS_jLat_9 (T_jStr_checkIndex l D g q ws  x2 36 hI  (by have y0 : (36 : Int32).toInt = 36 := rfl; have t1 : 0 ≤ x2.toInt := pre0; omega) (by have y0 : (36 : Int32).toInt = 36 := rfl; have t1 : x2.toInt ≤ 35 := pre1; omega) _) rfl hl.1 rfl (Nat.le_of_ble_eq_true rfl) ⟨by decide, by decide⟩ ⟨Nat.le_of_ble_eq_true rfl, Nat.le_of_ble_eq_true rfl⟩ d_33_2_3) (fun u1 H locs hp2 V => ?_)
  obtain ⟨rfl, -⟩ := hp2
  refine lv_aload_n hx hb d_33_2_6 rfl (lv_at hl 0 rfl) ?_
  refine lv_iload_n hx hb d_33_2_7 rfl (lv_at hl 1 rfl) ?_
  refine q_sbal (i := 22) (v := (([48, 49, 50, 51, 52, 53, 54, 55, 56, 57, 97, 98, 99, 100, 101, 102, 103, 104, 105, 106, 107, 108, 109, 110, 111, 112, 113, 114, 115, 116, 117, 118, 119, 120, 121, 122] : List Int32).getD x2.toNatClampNeg 0)) C0 V rfl (show vp_in x2 36 from q_ix (x := x2.toInt) rfl (by first | with_reducible exact q_fe pre0 | (have t1 : 0 ≤ x2.toInt := pre0; omega)) (by have t1 : 0 ≤ x2.toInt := pre0; have t2 : x2.toInt ≤ 35 := pre1; omega)) rfl d_33_2_8 ?_
  obtain ⟨a4, e5⟩ := q_nm ((([48, 49, 50, 51, 52, 53, 54, 55, 56, 57, 97, 98, 99, 100, 101, 102, 103, 104, 105, 106, 107, 108, 109, 110, 111, 112, 113, 114, 115, 116, 117, 118, 119, 120, 121, 122] : List Int32).getD x2.toNatClampNeg 0) : Int32)
  refine q_ti (v := a4) e5 ?_
  refine lv_sipush (v := 255) hx hb d_33_2_9 (by decide) ?_
  refine lv_iand hx hb d_33_2_12 ?_
  obtain ⟨a6, e7⟩ := q_nm (a4 &&& 255 : Int32)
  refine q_ti (v := a6) e7 ?_
  have b8 : q_F (0 ≤ a6.toInt ∧ a6.toInt ≤ 255) := (by rw [← e7]; show 0 ≤ (a4 &&& 255 : Int32).toInt ∧ (a4 &&& 255 : Int32).toInt ≤ 255; exact s_and (by decide))
  refine lv_i2c hx hb d_33_2_13 rfl ?_
  obtain ⟨a9, e10⟩ := q_nm ((a6.toUInt32 % 65536).toInt32 : Int32)
  refine q_ti (v := a9) e10 ?_
  have b11 : q_F (a9.toInt = a6.toInt) := (by rw [← e10]; show ((a6.toUInt32 % 65536).toInt32 : Int32).toInt = a6.toInt; exact (n_i2c (x := a6)).2.2 (by first | with_reducible exact (q_fe b8).2 | with_reducible exact (q_fe b8).1 | (have t1 : 0 ≤ a6.toInt ∧ a6.toInt ≤ 255 := b8; omega)) (by first | with_reducible exact (q_fe b8).2 | with_reducible exact (q_fe b8).1 | (have t1 : 0 ≤ a6.toInt ∧ a6.toInt ≤ 255 := b8; omega)))
  exact q_retn C0 V (n_chr (by have t1 : 0 ≤ a6.toInt ∧ a6.toInt ≤ 255 := b8; have t2 : a9.toInt = a6.toInt := b11; omega) (by have t1 : 0 ≤ a6.toInt ∧ a6.toInt ≤ 255 := b8; have t2 : a9.toInt = a6.toInt := b11; omega)) (⟨rfl, (show 0 ≤ a9.toInt from (by have t1 : 0 ≤ a6.toInt ∧ a6.toInt ≤ 255 := b8; have t2 : a9.toInt = a6.toInt := b11; omega)), (show a9.toInt ≤ 255 from (by have t1 : 0 ≤ a6.toInt ∧ a6.toInt ≤ 255 := b8; have t2 : a9.toInt = a6.toInt := b11; omega)), (show a9 = (F_jLat_charAt_22 x2) from (by rw [← e10, ← e7, ← e5, F_jLat_charAt_22.eq_1]))⟩) d_33_2_14
def F_jStr_charAt_22 (x2 : Int32) : Int32 := ((F_jLat_charAt_22 x2) : Int32)
set_option maxRecDepth 100000 in
set_option maxHeartbeats 4000000 in
theorem X_jStr_charAt_22 (l : Launch) (D : va_G) (g : Nat → ClassId) (q : Nat → Nat) (ws : va_W) (x2 : Int32) (hI : q_I (nsh g q) q ws) (pre0 : 0 ≤ x2.toInt) (pre1 : x2.toInt ≤ 35) : q_mI l y_jStr_charAt prog_31_method_56_code 2 (.char) 4 0 0 D g [.ref (g (8 + 2 * 22)), .int x2] ws (fun r u => ws = u ∧ (0 ≤ r.toInt) ∧ (r.toInt ≤ 255) ∧ r = (F_jStr_charAt_22 x2)) := by
  intro sz
  refine q_into (by decide) (Nat.le_of_ble_eq_true rfl) ?_
  intro p e s m below meth c ls hsz C0 V hl
  have hx := C0.1
  have hb := C0.2.1
  replace pre0 : q_F (0 ≤ x2.toInt) := pre0
  replace pre1 : q_F (x2.toInt ≤ 35) := pre1
  have hl : lv_has ls 2 [(0, .ref (g (8 + 2 * 22))), (1, .int x2)] := hl
  refine lv_aload_n hx hb d_31_56_0 rfl (lv_at hl 0 rfl) ?_
  refine q_goi V (q_runVs (As := []) (rest := []) (d := 1) (mc := 0) (ms := 0) (i := 22) C0 V rfl LV_jStr_492 (T_jStr_isLatin1_22 l D g q ws   hI   _) rfl rfl rfl hl.1 rfl (Nat.le_of_ble_eq_true rfl) ⟨by decide, by decide⟩ ⟨Nat.le_of_ble_eq_true rfl, Nat.le_of_ble_eq_true rfl⟩ d_31_56_1) (fun a3 u1 H locs hp2 V => ?_)
  obtain ⟨rfl, b4, b5⟩ := hp2
  replace b4 : q_F (1 ≤ a3.toInt) := b4
  replace b5 : q_F (a3.toInt ≤ 1) := b5
  obtain rfl : a3 = (1 : Int32) := q_Ieq (x := a3.toInt) (y := 1) rfl (by decide) (by have t1 : 1 ≤ a3.toInt := b4; have t2 : a3.toInt ≤ 1 := b5; omega)
  refine lv_if_eq (tgt := 16) hx hb d_31_56_4 (by decide) (fun c7 => absurd c7 (by decide)) (fun c7 => ?_)
  refine lv_aload_n hx hb d_31_56_7 rfl (lv_at hl 0 rfl) ?_
  refine q_sval (i := 22) C0 V rfl rfl w_1018 d_31_56_8 ?_
  refine lv_iload_n hx hb d_31_56_11 rfl (lv_at hl 1 rfl) ?_
  refine q_goi V (q_runS (As := [.ref (g (9 + 2 * 22)), .int x2]) (rest := []) (d := 3) (mc := 0) (ms := 0) C0 V rfl LS_jStr_495 (X_jLat_charAt_22 l D g q ws  x2 hI  (by first | with_reducible exact q_fe pre0 | (have t1 : 0 ≤ x2.toInt := pre0; omega)) (by first | with_reducible exact q_fe pre1 | (have t1 : x2.toInt ≤ 35 := pre1; omega)) _) rfl hl.1 rfl (Nat.le_of_ble_eq_true rfl) ⟨by decide, by decide⟩ ⟨Nat.le_of_ble_eq_true rfl, Nat.le_of_ble_eq_true rfl⟩ d_31_56_12) (fun a10 u8 H locs hp9 V => ?_)
  obtain ⟨rfl, b11, b12, hE13⟩ := hp9
  have e14 : a10 = (F_jLat_charAt_22 x2) := hE13
  replace b11 : q_F (0 ≤ a10.toInt) := b11
  replace b12 : q_F (a10.toInt ≤ 255) := b12
  exact q_retn C0 V (n_chr (by first | with_reducible exact q_fe b11 | (have t1 : 0 ≤ a10.toInt := b11; omega)) (by first | with_reducible exact q_fe b12 | (have t1 : a10.toInt ≤ 255 := b12; omega))) (⟨rfl, (show 0 ≤ a10.toInt from (by first | with_reducible exact q_fe b11 | (have t1 : 0 ≤ a10.toInt := b11; omega))), (show a10.toInt ≤ 255 from (by first | with_reducible exact q_fe b12 | (have t1 : a10.toInt ≤ 255 := b12; omega))), (show a10 = (F_jStr_charAt_22 x2) from (by rw [e14, F_jStr_charAt_22.eq_1]))⟩) d_31_56_15
def F_jStr_length_23 : Int32 := (3 : Int32)
set_option maxRecDepth 100000 in
set_option maxHeartbeats 4000000 in
theorem X_jStr_length_23 (l : Launch) (D : va_G) (g : Nat → ClassId) (q : Nat → Nat) (ws : va_W) (hI : q_I (nsh g q) q ws) : q_mI l y_jStr_length prog_31_method_54_code 1 (.int) 2 0 0 D g [.ref (g (8 + 2 * 23))] ws (fun r u => ws = u ∧ (3 ≤ r.toInt) ∧ (r.toInt ≤ 3) ∧ r = (F_jStr_length_23)) := by
  intro sz
  refine q_into (by decide) (Nat.le_of_ble_eq_true rfl) ?_
  intro p e s m below meth c ls hsz C0 V hl
  have hx := C0.1
  have hb := C0.2.1
  have hl : lv_has ls 1 [(0, .ref (g (8 + 2 * 23)))] := hl
  refine lv_aload_n hx hb d_31_54_0 rfl (lv_at hl 0 rfl) ?_
  refine q_sval (i := 23) C0 V rfl rfl w_1018 d_31_54_1 ?_
  refine q_slen (i := 23) (v := 3) C0 V rfl (by decide) d_31_54_4 ?_
  refine lv_aload_n hx hb d_31_54_5 rfl (lv_at hl 0 rfl) ?_
  refine q_goi V (q_runVs (As := []) (rest := [.int 3]) (d := 1) (mc := 0) (ms := 0) (i := 23) C0 V rfl LV_jStr_335 (T_jStr_coder_23 l D g q ws   hI   _) rfl rfl rfl hl.1 rfl (Nat.le_of_ble_eq_true rfl) ⟨by decide, by decide⟩ ⟨Nat.le_of_ble_eq_true rfl, Nat.le_of_ble_eq_true rfl⟩ d_31_54_6) (fun a3 u1 H locs hp2 V => ?_)
  obtain ⟨rfl, b4, b5⟩ := hp2
  replace b4 : q_F (0 ≤ a3.toInt) := b4
  replace b5 : q_F (a3.toInt ≤ 0) := b5
  obtain rfl : a3 = (0 : Int32) := q_Ieq (x := a3.toInt) (y := 0) rfl (by decide) (by have t1 : 0 ≤ a3.toInt := b4; have t2 : a3.toInt ≤ 0 := b5; omega)
  refine lv_ishr hx hb d_31_54_9 ?_
  refine q_ti (v := 3) (by decide) ?_
  exact q_reti C0 V (⟨rfl, (show 3 ≤ (3 : Int32).toInt from (by have z0 : (3 : Int32).toInt = 3 := rfl; omega)), (show (3 : Int32).toInt ≤ 3 from (by have z0 : (3 : Int32).toInt = 3 := rfl; omega)), (show (3 : Int32) = (F_jStr_length_23) from (by rw [F_jStr_length_23.eq_1]))⟩) d_31_54_10
def F_jLat_charAt_23 (x2 : Int32) : Int32 := (((((([78, 97, 78] : List Int32).getD x2.toNatClampNeg 0) : Int32) &&& 255 : Int32).toUInt32 % 65536).toInt32 : Int32)
set_option maxRecDepth 100000 in
set_option maxHeartbeats 4000000 in
theorem X_jLat_charAt_23 (l : Launch) (D : va_G) (g : Nat → ClassId) (q : Nat → Nat) (ws : va_W) (x2 : Int32) (hI : q_I (nsh g q) q ws) (pre0 : 0 ≤ x2.toInt) (pre1 : x2.toInt ≤ 2) : q_mI l y_jLat_charAt prog_33_method_2_code 2 (.char) 3 0 0 D g [.ref (g (9 + 2 * 23)), .int x2] ws (fun r u => ws = u ∧ (0 ≤ r.toInt) ∧ (r.toInt ≤ 255) ∧ r = (F_jLat_charAt_23 x2)) := by
  intro sz
  refine q_into (by decide) (Nat.le_of_ble_eq_true rfl) ?_
  intro p e s m below meth c ls hsz C0 V hl
  have hx := C0.1
  have hb := C0.2.1
  replace pre0 : q_F (0 ≤ x2.toInt) := pre0
  replace pre1 : q_F (x2.toInt ≤ 2) := pre1
  have hl : lv_has ls 2 [(0, .ref (g (9 + 2 * 23))), (1, .int x2)] := hl
  refine lv_iload_n hx hb d_33_2_0 rfl (lv_at hl 1 rfl) ?_
  refine lv_aload_n hx hb d_33_2_1 rfl (lv_at hl 0 rfl) ?_
  refine q_slen (i := 23) (v := 3) C0 V rfl (by decide) d_33_2_2 ?_
  refine q_gov V (q_runS (As := [.int x2, .int 3]) (rest := []) (d := 2) (mc := 0) (ms := 0) C0 V rfl LS_jLat_9 (T_jStr_checkIndex l D g q ws  x2 3 hI  (by have y0 : (3 : Int32).toInt = 3 := rfl; have t1 : 0 ≤ x2.toInt := pre0; omega) (by have y0 : (3 : Int32).toInt = 3 := rfl; have t1 : x2.toInt ≤ 2 := pre1; omega) _) rfl hl.1 rfl (Nat.le_of_ble_eq_true rfl) ⟨by decide, by decide⟩ ⟨Nat.le_of_ble_eq_true rfl, Nat.le_of_ble_eq_true rfl⟩ d_33_2_3) (fun u1 H locs hp2 V => ?_)
  obtain ⟨rfl, -⟩ := hp2
  refine lv_aload_n hx hb d_33_2_6 rfl (lv_at hl 0 rfl) ?_
  refine lv_iload_n hx hb d_33_2_7 rfl (lv_at hl 1 rfl) ?_
  refine q_sbal (i := 23) (v := (([78, 97, 78] : List Int32).getD x2.toNatClampNeg 0)) C0 V rfl (show vp_in x2 3 from q_ix (x := x2.toInt) rfl (by first | with_reducible exact q_fe pre0 | (have t1 : 0 ≤ x2.toInt := pre0; omega)) (by have t1 : 0 ≤ x2.toInt := pre0; have t2 : x2.toInt ≤ 2 := pre1; omega)) rfl d_33_2_8 ?_
  obtain ⟨a4, e5⟩ := q_nm ((([78, 97, 78] : List Int32).getD x2.toNatClampNeg 0) : Int32)
  refine q_ti (v := a4) e5 ?_
  refine lv_sipush (v := 255) hx hb d_33_2_9 (by decide) ?_
  refine lv_iand hx hb d_33_2_12 ?_
  obtain ⟨a6, e7⟩ := q_nm (a4 &&& 255 : Int32)
  refine q_ti (v := a6) e7 ?_
  have b8 : q_F (0 ≤ a6.toInt ∧ a6.toInt ≤ 255) := (by rw [← e7]; show 0 ≤ (a4 &&& 255 : Int32).toInt ∧ (a4 &&& 255 : Int32).toInt ≤ 255; exact s_and (by decide))
  refine lv_i2c hx hb d_33_2_13 rfl ?_
  obtain ⟨a9, e10⟩ := q_nm ((a6.toUInt32 % 65536).toInt32 : Int32)
  refine q_ti (v := a9) e10 ?_
  have b11 : q_F (a9.toInt = a6.toInt) := (by rw [← e10]; show ((a6.toUInt32 % 65536).toInt32 : Int32).toInt = a6.toInt; exact (n_i2c (x := a6)).2.2 (by first | with_reducible exact (q_fe b8).2 | with_reducible exact (q_fe b8).1 | (have t1 : 0 ≤ a6.toInt ∧ a6.toInt ≤ 255 := b8; omega)) (by first | with_reducible exact (q_fe b8).2 | with_reducible exact (q_fe b8).1 | (have t1 : 0 ≤ a6.toInt ∧ a6.toInt ≤ 255 := b8; omega)))
  exact q_retn C0 V (n_chr (by have t1 : 0 ≤ a6.toInt ∧ a6.toInt ≤ 255 := b8; have t2 : a9.toInt = a6.toInt := b11; omega) (by have t1 : 0 ≤ a6.toInt ∧ a6.toInt ≤ 255 := b8; have t2 : a9.toInt = a6.toInt := b11; omega)) (⟨rfl, (show 0 ≤ a9.toInt from (by have t1 : 0 ≤ a6.toInt ∧ a6.toInt ≤ 255 := b8; have t2 : a9.toInt = a6.toInt := b11; omega)), (show a9.toInt ≤ 255 from (by have t1 : 0 ≤ a6.toInt ∧ a6.toInt ≤ 255 := b8; have t2 : a9.toInt = a6.toInt := b11; omega)), (show a9 = (F_jLat_charAt_23 x2) from (by rw [← e10, ← e7, ← e5, F_jLat_charAt_23.eq_1]))⟩) d_33_2_14
def F_jStr_charAt_23 (x2 : Int32) : Int32 := ((F_jLat_charAt_23 x2) : Int32)
set_option maxRecDepth 100000 in
set_option maxHeartbeats 4000000 in
theorem X_jStr_charAt_23 (l : Launch) (D : va_G) (g : Nat → ClassId) (q : Nat → Nat) (ws : va_W) (x2 : Int32) (hI : q_I (nsh g q) q ws) (pre0 : 0 ≤ x2.toInt) (pre1 : x2.toInt ≤ 2) : q_mI l y_jStr_charAt prog_31_method_56_code 2 (.char) 4 0 0 D g [.ref (g (8 + 2 * 23)), .int x2] ws (fun r u => ws = u ∧ (0 ≤ r.toInt) ∧ (r.toInt ≤ 255) ∧ r = (F_jStr_charAt_23 x2)) := by
  intro sz
  refine q_into (by decide) (Nat.le_of_ble_eq_true rfl) ?_
  intro p e s m below meth c ls hsz C0 V hl
  have hx := C0.1
  have hb := C0.2.1
  replace pre0 : q_F (0 ≤ x2.toInt) := pre0
  replace pre1 : q_F (x2.toInt ≤ 2) := pre1
  have hl : lv_has ls 2 [(0, .ref (g (8 + 2 * 23))), (1, .int x2)] := hl
  refine lv_aload_n hx hb d_31_56_0 rfl (lv_at hl 0 rfl) ?_
  refine q_goi V (q_runVs (As := []) (rest := []) (d := 1) (mc := 0) (ms := 0) (i := 23) C0 V rfl LV_jStr_492 (T_jStr_isLatin1_23 l D g q ws   hI   _) rfl rfl rfl hl.1 rfl (Nat.le_of_ble_eq_true rfl) ⟨by decide, by decide⟩ ⟨Nat.le_of_ble_eq_true rfl, Nat.le_of_ble_eq_true rfl⟩ d_31_56_1) (fun a3 u1 H locs hp2 V => ?_)
  obtain ⟨rfl, b4, b5⟩ := hp2
  replace b4 : q_F (1 ≤ a3.toInt) := b4
  replace b5 : q_F (a3.toInt ≤ 1) := b5
  obtain rfl : a3 = (1 : Int32) := q_Ieq (x := a3.toInt) (y := 1) rfl (by decide) (by have t1 : 1 ≤ a3.toInt := b4; have t2 : a3.toInt ≤ 1 := b5; omega)
  refine lv_if_eq (tgt := 16) hx hb d_31_56_4 (by decide) (fun c7 => absurd c7 (by decide)) (fun c7 => ?_)
  refine lv_aload_n hx hb d_31_56_7 rfl (lv_at hl 0 rfl) ?_
  refine q_sval (i := 23) C0 V rfl rfl w_1018 d_31_56_8 ?_
  refine lv_iload_n hx hb d_31_56_11 rfl (lv_at hl 1 rfl) ?_
  refine q_goi V (q_runS (As := [.ref (g (9 + 2 * 23)), .int x2]) (rest := []) (d := 3) (mc := 0) (ms := 0) C0 V rfl LS_jStr_495 (X_jLat_charAt_23 l D g q ws  x2 hI  (by first | with_reducible exact q_fe pre0 | (have t1 : 0 ≤ x2.toInt := pre0; omega)) (by first | with_reducible exact q_fe pre1 | (have t1 : x2.toInt ≤ 2 := pre1; omega)) _) rfl hl.1 rfl (Nat.le_of_ble_eq_true rfl) ⟨by decide, by decide⟩ ⟨Nat.le_of_ble_eq_true rfl, Nat.le_of_ble_eq_true rfl⟩ d_31_56_12) (fun a10 u8 H locs hp9 V => ?_)
  obtain ⟨rfl, b11, b12, hE13⟩ := hp9
  have e14 : a10 = (F_jLat_charAt_23 x2) := hE13
  replace b11 : q_F (0 ≤ a10.toInt) := b11
  replace b12 : q_F (a10.toInt ≤ 255) := b12
  exact q_retn C0 V (n_chr (by first | with_reducible exact q_fe b11 | (have t1 : 0 ≤ a10.toInt := b11; omega)) (by first | with_reducible exact q_fe b12 | (have t1 : a10.toInt ≤ 255 := b12; omega))) (⟨rfl, (show 0 ≤ a10.toInt from (by first | with_reducible exact q_fe b11 | (have t1 : 0 ≤ a10.toInt := b11; omega))), (show a10.toInt ≤ 255 from (by first | with_reducible exact q_fe b12 | (have t1 : a10.toInt ≤ 255 := b12; omega))), (show a10 = (F_jStr_charAt_23 x2) from (by rw [e14, F_jStr_charAt_23.eq_1]))⟩) d_31_56_15
def F_jStr_length_24 : Int32 := (8 : Int32)
set_option maxRecDepth 100000 in
set_option maxHeartbeats 4000000 in
theorem X_jStr_length_24 (l : Launch) (D : va_G) (g : Nat → ClassId) (q : Nat → Nat) (ws : va_W) (hI : q_I (nsh g q) q ws) : q_mI l y_jStr_length prog_31_method_54_code 1 (.int) 2 0 0 D g [.ref (g (8 + 2 * 24))] ws (fun r u => ws = u ∧ (8 ≤ r.toInt) ∧ (r.toInt ≤ 8) ∧ r = (F_jStr_length_24)) := by
  intro sz
  refine q_into (by decide) (Nat.le_of_ble_eq_true rfl) ?_
  intro p e s m below meth c ls hsz C0 V hl
  have hx := C0.1
  have hb := C0.2.1
  have hl : lv_has ls 1 [(0, .ref (g (8 + 2 * 24)))] := hl
  refine lv_aload_n hx hb d_31_54_0 rfl (lv_at hl 0 rfl) ?_
  refine q_sval (i := 24) C0 V rfl rfl w_1018 d_31_54_1 ?_
  refine q_slen (i := 24) (v := 8) C0 V rfl (by decide) d_31_54_4 ?_
  refine lv_aload_n hx hb d_31_54_5 rfl (lv_at hl 0 rfl) ?_
  refine q_goi V (q_runVs (As := []) (rest := [.int 8]) (d := 1) (mc := 0) (ms := 0) (i := 24) C0 V rfl LV_jStr_335 (T_jStr_coder_24 l D g q ws   hI   _) rfl rfl rfl hl.1 rfl (Nat.le_of_ble_eq_true rfl) ⟨by decide, by decide⟩ ⟨Nat.le_of_ble_eq_true rfl, Nat.le_of_ble_eq_true rfl⟩ d_31_54_6) (fun a3 u1 H locs hp2 V => ?_)
  obtain ⟨rfl, b4, b5⟩ := hp2
  replace b4 : q_F (0 ≤ a3.toInt) := b4
  replace b5 : q_F (a3.toInt ≤ 0) := b5
  obtain rfl : a3 = (0 : Int32) := q_Ieq (x := a3.toInt) (y := 0) rfl (by decide) (by have t1 : 0 ≤ a3.toInt := b4; have t2 : a3.toInt ≤ 0 := b5; omega)
  refine lv_ishr hx hb d_31_54_9 ?_
  refine q_ti (v := 8) (by decide) ?_
  exact q_reti C0 V (⟨rfl, (show 8 ≤ (8 : Int32).toInt from (by have z0 : (8 : Int32).toInt = 8 := rfl; omega)), (show (8 : Int32).toInt ≤ 8 from (by have z0 : (8 : Int32).toInt = 8 := rfl; omega)), (show (8 : Int32) = (F_jStr_length_24) from (by rw [F_jStr_length_24.eq_1]))⟩) d_31_54_10
def F_jLat_charAt_24 (x2 : Int32) : Int32 := (((((([73, 110, 102, 105, 110, 105, 116, 121] : List Int32).getD x2.toNatClampNeg 0) : Int32) &&& 255 : Int32).toUInt32 % 65536).toInt32 : Int32)
set_option maxRecDepth 100000 in
set_option maxHeartbeats 4000000 in
theorem X_jLat_charAt_24 (l : Launch) (D : va_G) (g : Nat → ClassId) (q : Nat → Nat) (ws : va_W) (x2 : Int32) (hI : q_I (nsh g q) q ws) (pre0 : 0 ≤ x2.toInt) (pre1 : x2.toInt ≤ 7) : q_mI l y_jLat_charAt prog_33_method_2_code 2 (.char) 3 0 0 D g [.ref (g (9 + 2 * 24)), .int x2] ws (fun r u => ws = u ∧ (0 ≤ r.toInt) ∧ (r.toInt ≤ 255) ∧ r = (F_jLat_charAt_24 x2)) := by
  intro sz
  refine q_into (by decide) (Nat.le_of_ble_eq_true rfl) ?_
  intro p e s m below meth c ls hsz C0 V hl
  have hx := C0.1
  have hb := C0.2.1
  replace pre0 : q_F (0 ≤ x2.toInt) := pre0
  replace pre1 : q_F (x2.toInt ≤ 7) := pre1
  have hl : lv_has ls 2 [(0, .ref (g (9 + 2 * 24))), (1, .int x2)] := hl
  refine lv_iload_n hx hb d_33_2_0 rfl (lv_at hl 1 rfl) ?_
  refine lv_aload_n hx hb d_33_2_1 rfl (lv_at hl 0 rfl) ?_
  refine q_slen (i := 24) (v := 8) C0 V rfl (by decide) d_33_2_2 ?_
  refine q_gov V (q_runS (As := [.int x2, .int 8]) (rest := []) (d := 2) (mc := 0) (ms := 0) C0 V rfl LS_jLat_9 (T_jStr_checkIndex l D g q ws  x2 8 hI  (by have y0 : (8 : Int32).toInt = 8 := rfl; have t1 : 0 ≤ x2.toInt := pre0; omega) (by have y0 : (8 : Int32).toInt = 8 := rfl; have t1 : x2.toInt ≤ 7 := pre1; omega) _) rfl hl.1 rfl (Nat.le_of_ble_eq_true rfl) ⟨by decide, by decide⟩ ⟨Nat.le_of_ble_eq_true rfl, Nat.le_of_ble_eq_true rfl⟩ d_33_2_3) (fun u1 H locs hp2 V => ?_)
  obtain ⟨rfl, -⟩ := hp2
  refine lv_aload_n hx hb d_33_2_6 rfl (lv_at hl 0 rfl) ?_
  refine lv_iload_n hx hb d_33_2_7 rfl (lv_at hl 1 rfl) ?_
  refine q_sbal (i := 24) (v := (([73, 110, 102, 105, 110, 105, 116, 121] : List Int32).getD x2.toNatClampNeg 0)) C0 V rfl (show vp_in x2 8 from q_ix (x := x2.toInt) rfl (by first | with_reducible exact q_fe pre0 | (have t1 : 0 ≤ x2.toInt := pre0; omega)) (by have t1 : 0 ≤ x2.toInt := pre0; have t2 : x2.toInt ≤ 7 := pre1; omega)) rfl d_33_2_8 ?_
  obtain ⟨a4, e5⟩ := q_nm ((([73, 110, 102, 105, 110, 105, 116, 121] : List Int32).getD x2.toNatClampNeg 0) : Int32)
  refine q_ti (v := a4) e5 ?_
  refine lv_sipush (v := 255) hx hb d_33_2_9 (by decide) ?_
  refine lv_iand hx hb d_33_2_12 ?_
  obtain ⟨a6, e7⟩ := q_nm (a4 &&& 255 : Int32)
  refine q_ti (v := a6) e7 ?_
  have b8 : q_F (0 ≤ a6.toInt ∧ a6.toInt ≤ 255) := (by rw [← e7]; show 0 ≤ (a4 &&& 255 : Int32).toInt ∧ (a4 &&& 255 : Int32).toInt ≤ 255; exact s_and (by decide))
  refine lv_i2c hx hb d_33_2_13 rfl ?_
  obtain ⟨a9, e10⟩ := q_nm ((a6.toUInt32 % 65536).toInt32 : Int32)
  refine q_ti (v := a9) e10 ?_
  have b11 : q_F (a9.toInt = a6.toInt) := (by rw [← e10]; show ((a6.toUInt32 % 65536).toInt32 : Int32).toInt = a6.toInt; exact (n_i2c (x := a6)).2.2 (by first | with_reducible exact (q_fe b8).2 | with_reducible exact (q_fe b8).1 | (have t1 : 0 ≤ a6.toInt ∧ a6.toInt ≤ 255 := b8; omega)) (by first | with_reducible exact (q_fe b8).2 | with_reducible exact (q_fe b8).1 | (have t1 : 0 ≤ a6.toInt ∧ a6.toInt ≤ 255 := b8; omega)))
  exact q_retn C0 V (n_chr (by have t1 : 0 ≤ a6.toInt ∧ a6.toInt ≤ 255 := b8; have t2 : a9.toInt = a6.toInt := b11; omega) (by have t1 : 0 ≤ a6.toInt ∧ a6.toInt ≤ 255 := b8; have t2 : a9.toInt = a6.toInt := b11; omega)) (⟨rfl, (show 0 ≤ a9.toInt from (by have t1 : 0 ≤ a6.toInt ∧ a6.toInt ≤ 255 := b8; have t2 : a9.toInt = a6.toInt := b11; omega)), (show a9.toInt ≤ 255 from (by have t1 : 0 ≤ a6.toInt ∧ a6.toInt ≤ 255 := b8; have t2 : a9.toInt = a6.toInt := b11; omega)), (show a9 = (F_jLat_charAt_24 x2) from (by rw [← e10, ← e7, ← e5, F_jLat_charAt_24.eq_1]))⟩) d_33_2_14
def F_jStr_charAt_24 (x2 : Int32) : Int32 := ((F_jLat_charAt_24 x2) : Int32)
set_option maxRecDepth 100000 in
set_option maxHeartbeats 4000000 in
theorem X_jStr_charAt_24 (l : Launch) (D : va_G) (g : Nat → ClassId) (q : Nat → Nat) (ws : va_W) (x2 : Int32) (hI : q_I (nsh g q) q ws) (pre0 : 0 ≤ x2.toInt) (pre1 : x2.toInt ≤ 7) : q_mI l y_jStr_charAt prog_31_method_56_code 2 (.char) 4 0 0 D g [.ref (g (8 + 2 * 24)), .int x2] ws (fun r u => ws = u ∧ (0 ≤ r.toInt) ∧ (r.toInt ≤ 255) ∧ r = (F_jStr_charAt_24 x2)) := by
  intro sz
  refine q_into (by decide) (Nat.le_of_ble_eq_true rfl) ?_
  intro p e s m below meth c ls hsz C0 V hl
  have hx := C0.1
  have hb := C0.2.1
  replace pre0 : q_F (0 ≤ x2.toInt) := pre0
  replace pre1 : q_F (x2.toInt ≤ 7) := pre1
  have hl : lv_has ls 2 [(0, .ref (g (8 + 2 * 24))), (1, .int x2)] := hl
  refine lv_aload_n hx hb d_31_56_0 rfl (lv_at hl 0 rfl) ?_
  refine q_goi V (q_runVs (As := []) (rest := []) (d := 1) (mc := 0) (ms := 0) (i := 24) C0 V rfl LV_jStr_492 (T_jStr_isLatin1_24 l D g q ws   hI   _) rfl rfl rfl hl.1 rfl (Nat.le_of_ble_eq_true rfl) ⟨by decide, by decide⟩ ⟨Nat.le_of_ble_eq_true rfl, Nat.le_of_ble_eq_true rfl⟩ d_31_56_1) (fun a3 u1 H locs hp2 V => ?_)
  obtain ⟨rfl, b4, b5⟩ := hp2
  replace b4 : q_F (1 ≤ a3.toInt) := b4
  replace b5 : q_F (a3.toInt ≤ 1) := b5
  obtain rfl : a3 = (1 : Int32) := q_Ieq (x := a3.toInt) (y := 1) rfl (by decide) (by have t1 : 1 ≤ a3.toInt := b4; have t2 : a3.toInt ≤ 1 := b5; omega)
  refine lv_if_eq (tgt := 16) hx hb d_31_56_4 (by decide) (fun c7 => absurd c7 (by decide)) (fun c7 => ?_)
  refine lv_aload_n hx hb d_31_56_7 rfl (lv_at hl 0 rfl) ?_
  refine q_sval (i := 24) C0 V rfl rfl w_1018 d_31_56_8 ?_
  refine lv_iload_n hx hb d_31_56_11 rfl (lv_at hl 1 rfl) ?_
  refine q_goi V (q_runS (As := [.ref (g (9 + 2 * 24)), .int x2]) (rest := []) (d := 3) (mc := 0) (ms := 0) C0 V rfl LS_jStr_495 (X_jLat_charAt_24 l D g q ws  x2 hI  (by first | with_reducible exact q_fe pre0 | (have t1 : 0 ≤ x2.toInt := pre0; omega)) (by first | with_reducible exact q_fe pre1 | (have t1 : x2.toInt ≤ 7 := pre1; omega)) _) rfl hl.1 rfl (Nat.le_of_ble_eq_true rfl) ⟨by decide, by decide⟩ ⟨Nat.le_of_ble_eq_true rfl, Nat.le_of_ble_eq_true rfl⟩ d_31_56_12) (fun a10 u8 H locs hp9 V => ?_)
  obtain ⟨rfl, b11, b12, hE13⟩ := hp9
  have e14 : a10 = (F_jLat_charAt_24 x2) := hE13
  replace b11 : q_F (0 ≤ a10.toInt) := b11
  replace b12 : q_F (a10.toInt ≤ 255) := b12
  exact q_retn C0 V (n_chr (by first | with_reducible exact q_fe b11 | (have t1 : 0 ≤ a10.toInt := b11; omega)) (by first | with_reducible exact q_fe b12 | (have t1 : a10.toInt ≤ 255 := b12; omega))) (⟨rfl, (show 0 ≤ a10.toInt from (by first | with_reducible exact q_fe b11 | (have t1 : 0 ≤ a10.toInt := b11; omega))), (show a10.toInt ≤ 255 from (by first | with_reducible exact q_fe b12 | (have t1 : a10.toInt ≤ 255 := b12; omega))), (show a10 = (F_jStr_charAt_24 x2) from (by rw [e14, F_jStr_charAt_24.eq_1]))⟩) d_31_56_15

/-! Floats and Reader, exactly -/
def F_jMath_floorDiv_JJJ (x1 : Int64) (x2 : Int64) : Int64 := if (0 : Int32) ≤ (lg_cmp (x1 ^^^ x2 : Int64) 0 : Int32) then ((x1 / x2 : Int64)) else (if (lg_cmp ((x1 / x2 : Int64) * x2 : Int64) x1 : Int32) = (0 : Int32) then ((x1 / x2 : Int64)) else (((x1 / x2 : Int64) - 1 : Int64)))
set_option maxRecDepth 100000 in
set_option maxHeartbeats 4000000 in
theorem X_jMath_floorDiv_JJJ (l : Launch) (D : va_G) (g : Nat → ClassId) (q : Nat → Nat) (ws : va_W) (x1 : Int64) (x2 : Int64) (hI : q_I (nsh g q) q ws) (pre0 : 1 ≤ x2.toInt) : q_mL l y_jMath_floorDiv_JJJ prog_29_method_49_code 6 1 0 0 D g [.long x1, .long x2] ws (fun r u => ws = u ∧ r = (F_jMath_floorDiv_JJJ x1 x2)) := by
  intro sz
  refine q_intoF (by decide +kernel) (Nat.le_of_ble_eq_true rfl) ?_
  intro p e s m below meth c ls hsz C0 V hl
  have hx := C0.1
  have hb := C0.2.1
  replace pre0 : q_F (1 ≤ x2.toInt) := pre0
  have hl : lv_has ls 6 [(0, .long x1), (2, .long x2)] := hl
  refine lv_lload_n hx hb d_29_49_0 rfl (lv_at hl 0 rfl) ?_
  refine lv_lload_n hx hb d_29_49_1 rfl (lv_at hl 1 rfl) ?_
  refine lv_ldiv hx hb d_29_49_2 (s_nzL (by first | with_reducible exact q_fe pre0 | (have t1 : 1 ≤ x2.toInt := pre0; omega))) ?_
  obtain ⟨j1, e2⟩ := q_nm (x1 / x2 : Int64)
  refine q_tl (v := j1) e2 ?_
  refine lv_lstore (lv' := [(4, .long j1), (0, .long x1), (2, .long x2)]) hx hb d_29_49_3 hl (by decide) rfl (fun ls hl => ?_)
  refine lv_lload_n hx hb d_29_49_5 rfl (lv_at hl 1 rfl) ?_
  refine lv_lload_n hx hb d_29_49_6 rfl (lv_at hl 2 rfl) ?_
  refine lv_lxor hx hb d_29_49_7 ?_
  obtain ⟨j3, e4⟩ := q_nm (x1 ^^^ x2 : Int64)
  refine q_tl (v := j3) e4 ?_
  refine lv_lconst (v := 0) hx hb d_29_49_8 (by decide) ?_
  refine W.lcmp hx hb d_29_49_9 ?_
  obtain ⟨a5, e6⟩ := q_nm (lg_cmp j3 0 : Int32)
  refine q_ti (v := a5) e6 ?_
  refine lv_if_ge (tgt := 27) hx hb d_29_49_10 (by decide) (fun c8 => ?_) (fun c8 => ?_)
  ·
    refine lv_lload hx hb d_29_49_27 (lv_at hl 0 rfl) ?_
    exact q_retl C0 V (⟨rfl, (show j1 = (F_jMath_floorDiv_JJJ x1 x2) from (by have c8x := c8; rw [← e6, ← e4] at c8x; rw [← e2, F_jMath_floorDiv_JJJ.eq_1, if_pos c8x]))⟩) d_29_49_29
  ·
    refine lv_lload hx hb d_29_49_13 (lv_at hl 0 rfl) ?_
    refine lv_lload_n hx hb d_29_49_15 rfl (lv_at hl 2 rfl) ?_
    refine lv_lmul hx hb d_29_49_16 ?_
    obtain ⟨j11, e12⟩ := q_nm (j1 * x2 : Int64)
    refine q_tl (v := j11) e12 ?_
    refine lv_lload_n hx hb d_29_49_17 rfl (lv_at hl 1 rfl) ?_
    refine W.lcmp hx hb d_29_49_18 ?_
    obtain ⟨a13, e14⟩ := q_nm (lg_cmp j11 x1 : Int32)
    refine q_ti (v := a13) e14 ?_
    refine lv_if_eq (tgt := 27) hx hb d_29_49_19 (by decide) (fun c16 => ?_) (fun c16 => ?_)
    ·
      refine lv_lload hx hb d_29_49_27 (lv_at hl 0 rfl) ?_
      exact q_retl C0 V (⟨rfl, (show j1 = (F_jMath_floorDiv_JJJ x1 x2) from (by have c8x := c8; rw [← e6, ← e4] at c8x; have c16x := c16; rw [← e14, ← e12, ← e2] at c16x; rw [← e2, F_jMath_floorDiv_JJJ.eq_1, if_neg c8x, if_pos c16x]))⟩) d_29_49_29
    ·
      refine lv_lload hx hb d_29_49_22 (lv_at hl 0 rfl) ?_
      refine lv_lconst (v := 1) hx hb d_29_49_24 (by decide) ?_
      refine lv_lsub hx hb d_29_49_25 ?_
      obtain ⟨j19, e20⟩ := q_nm (j1 - 1 : Int64)
      refine q_tl (v := j19) e20 ?_
      exact q_retl C0 V (⟨rfl, (show j19 = (F_jMath_floorDiv_JJJ x1 x2) from (by have c8x := c8; rw [← e6, ← e4] at c8x; have c16x := c16; rw [← e14, ← e12, ← e2] at c16x; rw [← e20, ← e2, F_jMath_floorDiv_JJJ.eq_1, if_neg c8x, if_neg c16x]))⟩) d_29_49_26
def F_Flo_exponent (A : Int32) (B : Int32) (C : Int32) (x2 : Int64) : Int32 := ((((x2.toUInt64 >>> (A.toInt64.toUInt64 &&& Int64.toUInt64 63)).toInt64 : Int64).toInt32 : Int32) &&& C : Int32)
set_option maxRecDepth 100000 in
set_option maxHeartbeats 4000000 in
theorem X_Flo_exponent (l : Launch) (D : va_G) (g : Nat → ClassId) (q : Nat → Nat) (ws : va_W) (k1 : Nat) (A B C : Int32) (hB1 : q_isFlo (nsh g q) q k1 A B C) (x2 : Int64) (hI : q_I (nsh g q) q ws) : q_mI l y_Flo_exponent prog_7_method_2_code 3 (.int) 1 0 0 D g [.ref (q k1), .long x2] ws (fun r u => ws = u ∧ (0 ≤ r.toInt) ∧ (r.toInt ≤ C.toInt) ∧ r = (F_Flo_exponent A B C x2)) := by
  intro sz
  refine q_into (by decide) (Nat.le_of_ble_eq_true rfl) ?_
  intro p e s m below meth c ls hsz C0 V hl
  have hx := C0.1
  have hb := C0.2.1
  have hfk12 : q_F (255 ≤ C.toInt ∧ C.toInt ≤ 2047) := hB1.2.2.2.1
  have hl : lv_has ls 3 [(0, .ref (q k1)), (1, .long x2)] := hl
  refine lv_lload_n hx hb d_7_2_0 rfl (lv_at hl 1 rfl) ?_
  refine lv_aload_n hx hb d_7_2_1 rfl (lv_at hl 0 rfl) ?_
  obtain ⟨y2, y3, y4, hO1⟩ := n_flO hI hB1
  refine q_get (ci := 6) (j := 0) (v := .int A) C0 V i_Flo rfl rfl hO1 (by decide) w_231 rfl d_7_2_2 ?_
  refine lv_lushr hx hb d_7_2_5 rfl ?_
  obtain ⟨j5, e6⟩ := q_nm ((x2.toUInt64 >>> (A.toInt64.toUInt64 &&& Int64.toUInt64 63)).toInt64 : Int64)
  refine q_tl (v := j5) e6 ?_
  refine lv_l2i hx hb d_7_2_6 rfl ?_
  obtain ⟨a7, e8⟩ := q_nm (j5.toInt32 : Int32)
  refine q_ti (v := a7) e8 ?_
  refine lv_aload_n hx hb d_7_2_7 rfl (lv_at hl 0 rfl) ?_
  refine q_get (ci := 6) (j := 2) (v := .int C) C0 V i_Flo rfl rfl hO1 (by decide) w_234 rfl d_7_2_8 ?_
  refine lv_iand hx hb d_7_2_11 ?_
  obtain ⟨a9, e10⟩ := q_nm (a7 &&& C : Int32)
  refine q_ti (v := a9) e10 ?_
  have b11 : q_F (0 ≤ a9.toInt ∧ a9.toInt ≤ C.toInt) := (by rw [← e10]; show 0 ≤ (a7 &&& C : Int32).toInt ∧ (a7 &&& C : Int32).toInt ≤ C.toInt; exact s_and (m := C) (by first | with_reducible exact (q_fe hfk12).2 | with_reducible exact (q_fe hfk12).1 | (have t1 : 255 ≤ C.toInt ∧ C.toInt ≤ 2047 := hfk12; omega)))
  exact q_reti C0 V (⟨rfl, (show 0 ≤ a9.toInt from (by first | with_reducible exact (q_fe b11).2 | with_reducible exact (q_fe b11).1 | (have t1 : 0 ≤ a9.toInt ∧ a9.toInt ≤ C.toInt := b11; omega))), (show a9.toInt ≤ C.toInt from (by first | with_reducible exact (q_fe b11).2 | with_reducible exact (q_fe b11).1 | (have t1 : 0 ≤ a9.toInt ∧ a9.toInt ≤ C.toInt := b11; omega))), (show a9 = (F_Flo_exponent A B C x2) from (by rw [← e10, ← e8, ← e6, F_Flo_exponent.eq_1]))⟩) d_7_2_12
def F_Flo_fraction (A : Int32) (B : Int32) (C : Int32) (x2 : Int64) : Int64 := (x2 &&& (((1 : Int64) <<< (A.toInt64 &&& 63) : Int64) - 1 : Int64) : Int64)
set_option maxRecDepth 100000 in
set_option maxHeartbeats 4000000 in
theorem X_Flo_fraction (l : Launch) (D : va_G) (g : Nat → ClassId) (q : Nat → Nat) (ws : va_W) (k1 : Nat) (A B C : Int32) (hB1 : q_isFlo (nsh g q) q k1 A B C) (x2 : Int64) (hI : q_I (nsh g q) q ws) : q_mL l y_Flo_fraction prog_7_method_3_code 3 1 0 0 D g [.ref (q k1), .long x2] ws (fun r u => ws = u ∧ r = (F_Flo_fraction A B C x2)) := by
  intro sz
  refine q_into (by decide) (Nat.le_of_ble_eq_true rfl) ?_
  intro p e s m below meth c ls hsz C0 V hl
  have hx := C0.1
  have hb := C0.2.1
  have hl : lv_has ls 3 [(0, .ref (q k1)), (1, .long x2)] := hl
  refine lv_lload_n hx hb d_7_3_0 rfl (lv_at hl 1 rfl) ?_
  refine lv_lconst (v := 1) hx hb d_7_3_1 (by decide) ?_
  refine lv_aload_n hx hb d_7_3_2 rfl (lv_at hl 0 rfl) ?_
  obtain ⟨y2, y3, y4, hO1⟩ := n_flO hI hB1
  refine q_get (ci := 6) (j := 0) (v := .int A) C0 V i_Flo rfl rfl hO1 (by decide) w_231 rfl d_7_3_3 ?_
  refine lv_lshl hx hb d_7_3_6 rfl ?_
  obtain ⟨j5, e6⟩ := q_nm ((1 : Int64) <<< (A.toInt64 &&& 63) : Int64)
  refine q_tl (v := j5) e6 ?_
  refine lv_lconst (v := 1) hx hb d_7_3_7 (by decide) ?_
  refine lv_lsub hx hb d_7_3_8 ?_
  obtain ⟨j7, e8⟩ := q_nm (j5 - 1 : Int64)
  refine q_tl (v := j7) e8 ?_
  refine lv_land hx hb d_7_3_9 ?_
  obtain ⟨j9, e10⟩ := q_nm (x2 &&& j7 : Int64)
  refine q_tl (v := j9) e10 ?_
  exact q_retl C0 V (⟨rfl, (show j9 = (F_Flo_fraction A B C x2) from (by rw [← e10, ← e8, ← e6, F_Flo_fraction.eq_1]))⟩) d_7_3_10
def F_Flo_signBit (A : Int32) (B : Int32) (C : Int32) (x2 : Int32) : Int64 := if x2 = (0 : Int32) then ((0 : Int64)) else ((((C.toInt64 : Int64) + 1 : Int64) <<< (A.toInt64 &&& 63) : Int64))
set_option maxRecDepth 100000 in
set_option maxHeartbeats 4000000 in
theorem X_Flo_signBit (l : Launch) (D : va_G) (g : Nat → ClassId) (q : Nat → Nat) (ws : va_W) (k1 : Nat) (A B C : Int32) (hB1 : q_isFlo (nsh g q) q k1 A B C) (x2 : Int32) (hI : q_I (nsh g q) q ws) (hzx2 : 0 ≤ x2.toInt ∧ x2.toInt ≤ 1) : q_mL l y_Flo_signBit prog_7_method_8_code 2 1 0 0 D g [.ref (q k1), .int x2] ws (fun r u => ws = u ∧ r = (F_Flo_signBit A B C x2)) := by
  intro sz
  refine q_into (by decide) (Nat.le_of_ble_eq_true rfl) ?_
  intro p e s m below meth c ls hsz C0 V hl
  have hx := C0.1
  have hb := C0.2.1
  clear hzx2
  have hl : lv_has ls 2 [(0, .ref (q k1)), (1, .int x2)] := hl
  refine lv_iload_n hx hb d_7_8_0 rfl (lv_at hl 1 rfl) ?_
  refine lv_if_eq (tgt := 19) hx hb d_7_8_1 (by decide) (fun c1 => ?_) (fun c1 => ?_)
  ·
    refine lv_lconst (v := 0) hx hb d_7_8_19 (by decide) ?_
    exact q_retl C0 V (⟨rfl, (show (0 : Int64) = (F_Flo_signBit A B C x2) from (by rw [F_Flo_signBit.eq_1, if_pos c1]))⟩) d_7_8_20
  ·
    refine lv_aload_n hx hb d_7_8_4 rfl (lv_at hl 0 rfl) ?_
    obtain ⟨y5, y6, y7, hO4⟩ := n_flO hI hB1
    refine q_get (ci := 6) (j := 2) (v := .int C) C0 V i_Flo rfl rfl hO4 (by decide) w_234 rfl d_7_8_5 ?_
    refine lv_i2l hx hb d_7_8_8 rfl ?_
    obtain ⟨j8, e9⟩ := q_nm (C.toInt64 : Int64)
    refine q_tl (v := j8) e9 ?_
    refine lv_lconst (v := 1) hx hb d_7_8_9 (by decide) ?_
    refine lv_ladd hx hb d_7_8_10 ?_
    obtain ⟨j11, e12⟩ := q_nm (j8 + 1 : Int64)
    refine q_tl (v := j11) e12 ?_
    refine lv_aload_n hx hb d_7_8_11 rfl (lv_at hl 0 rfl) ?_
    refine q_get (ci := 6) (j := 0) (v := .int A) C0 V i_Flo rfl rfl hO4 (by decide) w_231 rfl d_7_8_12 ?_
    refine lv_lshl hx hb d_7_8_15 rfl ?_
    obtain ⟨j14, e15⟩ := q_nm (j11 <<< (A.toInt64 &&& 63) : Int64)
    refine q_tl (v := j14) e15 ?_
    refine lv_goto (tgt := 20) hx hb d_7_8_16 (by decide) ?_
    exact q_retl C0 V (⟨rfl, (show j14 = (F_Flo_signBit A B C x2) from (by rw [← e15, ← e12, ← e9, F_Flo_signBit.eq_1, if_neg c1]))⟩) d_7_8_20
def F_Flo_isNegative (A : Int32) (B : Int32) (C : Int32) (x2 : Int64) : Int32 := if (lg_cmp (x2 &&& ((F_Flo_signBit A B C (1 : Int32)) : Int64) : Int64) 0 : Int32) = (0 : Int32) then ((0 : Int32)) else ((1 : Int32))
set_option maxRecDepth 100000 in
set_option maxHeartbeats 4000000 in
theorem X_Flo_isNegative (l : Launch) (D : va_G) (g : Nat → ClassId) (q : Nat → Nat) (ws : va_W) (k1 : Nat) (A B C : Int32) (hB1 : q_isFlo (nsh g q) q k1 A B C) (x2 : Int64) (hI : q_I (nsh g q) q ws) : q_mI l y_Flo_isNegative prog_7_method_4_code 3 (.boolean) 2 0 0 D g [.ref (q k1), .long x2] ws (fun r u => ws = u ∧ (0 ≤ r.toInt) ∧ (r.toInt ≤ 1) ∧ r = (F_Flo_isNegative A B C x2)) := by
  intro sz
  refine q_into (by decide) (Nat.le_of_ble_eq_true rfl) ?_
  intro p e s m below meth c ls hsz C0 V hl
  have hx := C0.1
  have hb := C0.2.1
  have hl : lv_has ls 3 [(0, .ref (q k1)), (1, .long x2)] := hl
  refine lv_lload_n hx hb d_7_4_0 rfl (lv_at hl 1 rfl) ?_
  refine lv_aload_n hx hb d_7_4_1 rfl (lv_at hl 0 rfl) ?_
  refine lv_iconst (v := 1) hx hb d_7_4_2 (by decide) ?_
  obtain ⟨y2, y3, y4, hO1⟩ := n_flO hI hB1
  refine q_gol V (q_runV (As := [.int 1]) (rest := [.long x2]) (d := 1) (mc := 0) (ms := 0) (ci := 6) C0 V rfl LV_Flo_23 (X_Flo_signBit l D g q ws k1 A B C hB1 1 hI  ⟨(by have y0 : (1 : Int32).toInt = 1 := rfl; omega), (by have y0 : (1 : Int32).toInt = 1 := rfl; omega)⟩ _) rfl rfl hO1 rfl hl.1 rfl (Nat.le_of_ble_eq_true rfl) ⟨by decide, by decide⟩ ⟨Nat.le_of_ble_eq_true rfl, Nat.le_of_ble_eq_true rfl⟩ d_7_4_3) (fun j7 u5 H locs hp6 V => ?_)
  obtain ⟨rfl, hE8⟩ := hp6
  have e9 : j7 = (F_Flo_signBit A B C (1 : Int32)) := hE8
  refine lv_land hx hb d_7_4_6 ?_
  obtain ⟨j10, e11⟩ := q_nm (x2 &&& j7 : Int64)
  refine q_tl (v := j10) e11 ?_
  refine lv_lconst (v := 0) hx hb d_7_4_7 (by decide) ?_
  refine W.lcmp hx hb d_7_4_8 ?_
  obtain ⟨a12, e13⟩ := q_nm (lg_cmp j10 0 : Int32)
  refine q_ti (v := a12) e13 ?_
  refine lv_if_eq (tgt := 16) hx hb d_7_4_9 (by decide) (fun c15 => ?_) (fun c15 => ?_)
  ·
    refine lv_iconst (v := 0) hx hb d_7_4_16 (by decide) ?_
    exact q_retz C0 V (by decide) (⟨rfl, (show 0 ≤ (0 : Int32).toInt from (by have z4 : (0 : Int32).toInt = 0 := rfl; omega)), (show (0 : Int32).toInt ≤ 1 from (by have z4 : (0 : Int32).toInt = 0 := rfl; omega)), (show (0 : Int32) = (F_Flo_isNegative A B C x2) from (by have c15x := c15; rw [← e13, ← e11, e9] at c15x; rw [F_Flo_isNegative.eq_1, if_pos c15x]))⟩) d_7_4_17
  ·
    refine lv_iconst (v := 1) hx hb d_7_4_12 (by decide) ?_
    refine lv_goto (tgt := 17) hx hb d_7_4_13 (by decide) ?_
    exact q_retz C0 V (by decide) (⟨rfl, (show 0 ≤ (1 : Int32).toInt from (by have z4 : (1 : Int32).toInt = 1 := rfl; omega)), (show (1 : Int32).toInt ≤ 1 from (by have z4 : (1 : Int32).toInt = 1 := rfl; omega)), (show (1 : Int32) = (F_Flo_isNegative A B C x2) from (by have c15x := c15; rw [← e13, ← e11, e9] at c15x; rw [F_Flo_isNegative.eq_1, if_neg c15x]))⟩) d_7_4_17
def F_Flo_isFinite (A : Int32) (B : Int32) (C : Int32) (x2 : Int64) : Int32 := if ((F_Flo_exponent A B C x2) : Int32) = C then ((0 : Int32)) else ((1 : Int32))
set_option maxRecDepth 100000 in
set_option maxHeartbeats 4000000 in
theorem X_Flo_isFinite (l : Launch) (D : va_G) (g : Nat → ClassId) (q : Nat → Nat) (ws : va_W) (k1 : Nat) (A B C : Int32) (hB1 : q_isFlo (nsh g q) q k1 A B C) (x2 : Int64) (hI : q_I (nsh g q) q ws) : q_mI l y_Flo_isFinite prog_7_method_5_code 3 (.boolean) 2 0 0 D g [.ref (q k1), .long x2] ws (fun r u => ws = u ∧ (0 ≤ r.toInt) ∧ (r.toInt ≤ 1) ∧ r = (F_Flo_isFinite A B C x2)) := by
  intro sz
  refine q_into (by decide) (Nat.le_of_ble_eq_true rfl) ?_
  intro p e s m below meth c ls hsz C0 V hl
  have hx := C0.1
  have hb := C0.2.1
  have hl : lv_has ls 3 [(0, .ref (q k1)), (1, .long x2)] := hl
  refine lv_aload_n hx hb d_7_5_0 rfl (lv_at hl 0 rfl) ?_
  refine lv_lload_n hx hb d_7_5_1 rfl (lv_at hl 1 rfl) ?_
  obtain ⟨y2, y3, y4, hO1⟩ := n_flO hI hB1
  refine q_goi V (q_runV (As := [.long x2]) (rest := []) (d := 1) (mc := 0) (ms := 0) (ci := 6) C0 V rfl LV_Flo_27 (X_Flo_exponent l D g q ws k1 A B C hB1 x2 hI   _) rfl rfl hO1 rfl hl.1 rfl (Nat.le_of_ble_eq_true rfl) ⟨by decide, by decide⟩ ⟨Nat.le_of_ble_eq_true rfl, Nat.le_of_ble_eq_true rfl⟩ d_7_5_2) (fun a7 u5 H locs hp6 V => ?_)
  obtain ⟨rfl, b8, b9, hE10⟩ := hp6
  have e11 : a7 = (F_Flo_exponent A B C x2) := hE10
  clear b8
  clear b9
  refine lv_aload_n hx hb d_7_5_5 rfl (lv_at hl 0 rfl) ?_
  refine q_get (ci := 6) (j := 2) (v := .int C) C0 V i_Flo rfl rfl hO1 (by decide) w_234 rfl d_7_5_6 ?_
  refine lv_icmp_eq (tgt := 16) hx hb d_7_5_9 (by decide) (fun c12 => ?_) (fun c12 => ?_)
  ·
    refine lv_iconst (v := 0) hx hb d_7_5_16 (by decide) ?_
    exact q_retz C0 V (by decide) (⟨rfl, (show 0 ≤ (0 : Int32).toInt from (by have z4 : (0 : Int32).toInt = 0 := rfl; omega)), (show (0 : Int32).toInt ≤ 1 from (by have z4 : (0 : Int32).toInt = 0 := rfl; omega)), (show (0 : Int32) = (F_Flo_isFinite A B C x2) from (by have c12x := c12; rw [e11] at c12x; rw [F_Flo_isFinite.eq_1, if_pos c12x]))⟩) d_7_5_17
  ·
    refine lv_iconst (v := 1) hx hb d_7_5_12 (by decide) ?_
    refine lv_goto (tgt := 17) hx hb d_7_5_13 (by decide) ?_
    exact q_retz C0 V (by decide) (⟨rfl, (show 0 ≤ (1 : Int32).toInt from (by have z4 : (1 : Int32).toInt = 1 := rfl; omega)), (show (1 : Int32).toInt ≤ 1 from (by have z4 : (1 : Int32).toInt = 1 := rfl; omega)), (show (1 : Int32) = (F_Flo_isFinite A B C x2) from (by have c12x := c12; rw [e11] at c12x; rw [F_Flo_isFinite.eq_1, if_neg c12x]))⟩) d_7_5_17
def F_Flo_isNoNumber (A : Int32) (B : Int32) (C : Int32) (x2 : Int64) : Int32 := if ((F_Flo_isFinite A B C x2) : Int32) = (0 : Int32) then (if (lg_cmp ((F_Flo_fraction A B C x2) : Int64) 0 : Int32) = (0 : Int32) then ((0 : Int32)) else ((1 : Int32))) else ((0 : Int32))
set_option maxRecDepth 100000 in
set_option maxHeartbeats 4000000 in
theorem X_Flo_isNoNumber (l : Launch) (D : va_G) (g : Nat → ClassId) (q : Nat → Nat) (ws : va_W) (k1 : Nat) (A B C : Int32) (hB1 : q_isFlo (nsh g q) q k1 A B C) (x2 : Int64) (hI : q_I (nsh g q) q ws) : q_mI l y_Flo_isNoNumber prog_7_method_6_code 3 (.boolean) 3 0 0 D g [.ref (q k1), .long x2] ws (fun r u => ws = u ∧ (0 ≤ r.toInt) ∧ (r.toInt ≤ 1) ∧ r = (F_Flo_isNoNumber A B C x2)) := by
  intro sz
  refine q_into (by decide) (Nat.le_of_ble_eq_true rfl) ?_
  intro p e s m below meth c ls hsz C0 V hl
  have hx := C0.1
  have hb := C0.2.1
  have hl : lv_has ls 3 [(0, .ref (q k1)), (1, .long x2)] := hl
  refine lv_aload_n hx hb d_7_6_0 rfl (lv_at hl 0 rfl) ?_
  refine lv_lload_n hx hb d_7_6_1 rfl (lv_at hl 1 rfl) ?_
  obtain ⟨y2, y3, y4, hO1⟩ := n_flO hI hB1
  refine q_goi V (q_runV (As := [.long x2]) (rest := []) (d := 2) (mc := 0) (ms := 0) (ci := 6) C0 V rfl LV_Flo_31 (X_Flo_isFinite l D g q ws k1 A B C hB1 x2 hI   _) rfl rfl hO1 rfl hl.1 rfl (Nat.le_of_ble_eq_true rfl) ⟨by decide, by decide⟩ ⟨Nat.le_of_ble_eq_true rfl, Nat.le_of_ble_eq_true rfl⟩ d_7_6_2) (fun a7 u5 H locs hp6 V => ?_)
  obtain ⟨rfl, b8, b9, hE10⟩ := hp6
  have e11 : a7 = (F_Flo_isFinite A B C x2) := hE10
  clear b8
  clear b9
  refine lv_if_ne (tgt := 22) hx hb d_7_6_5 (by decide) (fun c12 => ?_) (fun c12 => ?_)
  ·
    refine lv_iconst (v := 0) hx hb d_7_6_22 (by decide) ?_
    exact q_retz C0 V (by decide) (⟨rfl, (show 0 ≤ (0 : Int32).toInt from (by have z4 : (0 : Int32).toInt = 0 := rfl; omega)), (show (0 : Int32).toInt ≤ 1 from (by have z4 : (0 : Int32).toInt = 0 := rfl; omega)), (show (0 : Int32) = (F_Flo_isNoNumber A B C x2) from (by have c12x := c12; rw [e11] at c12x; rw [F_Flo_isNoNumber.eq_1, if_neg c12x]))⟩) d_7_6_23
  ·
    refine lv_aload_n hx hb d_7_6_8 rfl (lv_at hl 0 rfl) ?_
    refine lv_lload_n hx hb d_7_6_9 rfl (lv_at hl 1 rfl) ?_
    refine q_gol V (q_runV (As := [.long x2]) (rest := []) (d := 1) (mc := 0) (ms := 0) (ci := 6) C0 V rfl LV_Flo_35 (X_Flo_fraction l D g q ws k1 A B C hB1 x2 hI   _) rfl rfl hO1 rfl hl.1 rfl (Nat.le_of_ble_eq_true rfl) ⟨by decide, by decide⟩ ⟨Nat.le_of_ble_eq_true rfl, Nat.le_of_ble_eq_true rfl⟩ d_7_6_10) (fun j17 u15 H locs hp16 V => ?_)
    obtain ⟨rfl, hE18⟩ := hp16
    have e19 : j17 = (F_Flo_fraction A B C x2) := hE18
    refine lv_lconst (v := 0) hx hb d_7_6_13 (by decide) ?_
    refine W.lcmp hx hb d_7_6_14 ?_
    obtain ⟨a20, e21⟩ := q_nm (lg_cmp j17 0 : Int32)
    refine q_ti (v := a20) e21 ?_
    refine lv_if_eq (tgt := 22) hx hb d_7_6_15 (by decide) (fun c23 => ?_) (fun c23 => ?_)
    ·
      refine lv_iconst (v := 0) hx hb d_7_6_22 (by decide) ?_
      exact q_retz C0 V (by decide) (⟨rfl, (show 0 ≤ (0 : Int32).toInt from (by have z4 : (0 : Int32).toInt = 0 := rfl; omega)), (show (0 : Int32).toInt ≤ 1 from (by have z4 : (0 : Int32).toInt = 0 := rfl; omega)), (show (0 : Int32) = (F_Flo_isNoNumber A B C x2) from (by have c12x := c12; rw [e11] at c12x; have c23x := c23; rw [← e21, e19] at c23x; rw [F_Flo_isNoNumber.eq_1, if_pos c12x, if_pos c23x]))⟩) d_7_6_23
    ·
      refine lv_iconst (v := 1) hx hb d_7_6_18 (by decide) ?_
      refine lv_goto (tgt := 23) hx hb d_7_6_19 (by decide) ?_
      exact q_retz C0 V (by decide) (⟨rfl, (show 0 ≤ (1 : Int32).toInt from (by have z4 : (1 : Int32).toInt = 1 := rfl; omega)), (show (1 : Int32).toInt ≤ 1 from (by have z4 : (1 : Int32).toInt = 1 := rfl; omega)), (show (1 : Int32) = (F_Flo_isNoNumber A B C x2) from (by have c12x := c12; rw [e11] at c12x; have c23x := c23; rw [← e21, e19] at c23x; rw [F_Flo_isNoNumber.eq_1, if_pos c12x, if_neg c23x]))⟩) d_7_6_23
def F_Flo_isZero (A : Int32) (B : Int32) (C : Int32) (x2 : Int64) : Int32 := if ((F_Flo_exponent A B C x2) : Int32) = (0 : Int32) then (if (lg_cmp ((F_Flo_fraction A B C x2) : Int64) 0 : Int32) = (0 : Int32) then ((1 : Int32)) else ((0 : Int32))) else ((0 : Int32))
set_option maxRecDepth 100000 in
set_option maxHeartbeats 4000000 in
theorem X_Flo_isZero (l : Launch) (D : va_G) (g : Nat → ClassId) (q : Nat → Nat) (ws : va_W) (k1 : Nat) (A B C : Int32) (hB1 : q_isFlo (nsh g q) q k1 A B C) (x2 : Int64) (hI : q_I (nsh g q) q ws) : q_mI l y_Flo_isZero prog_7_method_7_code 3 (.boolean) 2 0 0 D g [.ref (q k1), .long x2] ws (fun r u => ws = u ∧ (0 ≤ r.toInt) ∧ (r.toInt ≤ 1) ∧ r = (F_Flo_isZero A B C x2)) := by
  intro sz
  refine q_into (by decide) (Nat.le_of_ble_eq_true rfl) ?_
  intro p e s m below meth c ls hsz C0 V hl
  have hx := C0.1
  have hb := C0.2.1
  have hl : lv_has ls 3 [(0, .ref (q k1)), (1, .long x2)] := hl
  refine lv_aload_n hx hb d_7_7_0 rfl (lv_at hl 0 rfl) ?_
  refine lv_lload_n hx hb d_7_7_1 rfl (lv_at hl 1 rfl) ?_
  obtain ⟨y2, y3, y4, hO1⟩ := n_flO hI hB1
  refine q_goi V (q_runV (As := [.long x2]) (rest := []) (d := 1) (mc := 0) (ms := 0) (ci := 6) C0 V rfl LV_Flo_27 (X_Flo_exponent l D g q ws k1 A B C hB1 x2 hI   _) rfl rfl hO1 rfl hl.1 rfl (Nat.le_of_ble_eq_true rfl) ⟨by decide, by decide⟩ ⟨Nat.le_of_ble_eq_true rfl, Nat.le_of_ble_eq_true rfl⟩ d_7_7_2) (fun a7 u5 H locs hp6 V => ?_)
  obtain ⟨rfl, b8, b9, hE10⟩ := hp6
  have e11 : a7 = (F_Flo_exponent A B C x2) := hE10
  clear b8
  clear b9
  refine lv_if_ne (tgt := 22) hx hb d_7_7_5 (by decide) (fun c12 => ?_) (fun c12 => ?_)
  ·
    refine lv_iconst (v := 0) hx hb d_7_7_22 (by decide) ?_
    exact q_retz C0 V (by decide) (⟨rfl, (show 0 ≤ (0 : Int32).toInt from (by have z4 : (0 : Int32).toInt = 0 := rfl; omega)), (show (0 : Int32).toInt ≤ 1 from (by have z4 : (0 : Int32).toInt = 0 := rfl; omega)), (show (0 : Int32) = (F_Flo_isZero A B C x2) from (by have c12x := c12; rw [e11] at c12x; rw [F_Flo_isZero.eq_1, if_neg c12x]))⟩) d_7_7_23
  ·
    refine lv_aload_n hx hb d_7_7_8 rfl (lv_at hl 0 rfl) ?_
    refine lv_lload_n hx hb d_7_7_9 rfl (lv_at hl 1 rfl) ?_
    refine q_gol V (q_runV (As := [.long x2]) (rest := []) (d := 1) (mc := 0) (ms := 0) (ci := 6) C0 V rfl LV_Flo_35 (X_Flo_fraction l D g q ws k1 A B C hB1 x2 hI   _) rfl rfl hO1 rfl hl.1 rfl (Nat.le_of_ble_eq_true rfl) ⟨by decide, by decide⟩ ⟨Nat.le_of_ble_eq_true rfl, Nat.le_of_ble_eq_true rfl⟩ d_7_7_10) (fun j17 u15 H locs hp16 V => ?_)
    obtain ⟨rfl, hE18⟩ := hp16
    have e19 : j17 = (F_Flo_fraction A B C x2) := hE18
    refine lv_lconst (v := 0) hx hb d_7_7_13 (by decide) ?_
    refine W.lcmp hx hb d_7_7_14 ?_
    obtain ⟨a20, e21⟩ := q_nm (lg_cmp j17 0 : Int32)
    refine q_ti (v := a20) e21 ?_
    refine lv_if_ne (tgt := 22) hx hb d_7_7_15 (by decide) (fun c23 => ?_) (fun c23 => ?_)
    ·
      refine lv_iconst (v := 0) hx hb d_7_7_22 (by decide) ?_
      exact q_retz C0 V (by decide) (⟨rfl, (show 0 ≤ (0 : Int32).toInt from (by have z4 : (0 : Int32).toInt = 0 := rfl; omega)), (show (0 : Int32).toInt ≤ 1 from (by have z4 : (0 : Int32).toInt = 0 := rfl; omega)), (show (0 : Int32) = (F_Flo_isZero A B C x2) from (by have c12x := c12; rw [e11] at c12x; have c23x := c23; rw [← e21, e19] at c23x; rw [F_Flo_isZero.eq_1, if_pos c12x, if_neg c23x]))⟩) d_7_7_23
    ·
      refine lv_iconst (v := 1) hx hb d_7_7_18 (by decide) ?_
      refine lv_goto (tgt := 23) hx hb d_7_7_19 (by decide) ?_
      exact q_retz C0 V (by decide) (⟨rfl, (show 0 ≤ (1 : Int32).toInt from (by have z4 : (1 : Int32).toInt = 1 := rfl; omega)), (show (1 : Int32).toInt ≤ 1 from (by have z4 : (1 : Int32).toInt = 1 := rfl; omega)), (show (1 : Int32) = (F_Flo_isZero A B C x2) from (by have c12x := c12; rw [e11] at c12x; have c23x := c23; rw [← e21, e19] at c23x; rw [F_Flo_isZero.eq_1, if_pos c12x, if_pos c23x]))⟩) d_7_7_23
def F_Flo_infinity (A : Int32) (B : Int32) (C : Int32) : Int64 := ((C.toInt64 : Int64) <<< (A.toInt64 &&& 63) : Int64)
set_option maxRecDepth 100000 in
set_option maxHeartbeats 4000000 in
theorem X_Flo_infinity (l : Launch) (D : va_G) (g : Nat → ClassId) (q : Nat → Nat) (ws : va_W) (k1 : Nat) (A B C : Int32) (hB1 : q_isFlo (nsh g q) q k1 A B C) (hI : q_I (nsh g q) q ws) : q_mL l y_Flo_infinity prog_7_method_9_code 1 1 0 0 D g [.ref (q k1)] ws (fun r u => ws = u ∧ r = (F_Flo_infinity A B C)) := by
  intro sz
  refine q_into (by decide) (Nat.le_of_ble_eq_true rfl) ?_
  intro p e s m below meth c ls hsz C0 V hl
  have hx := C0.1
  have hb := C0.2.1
  have hl : lv_has ls 1 [(0, .ref (q k1))] := hl
  refine lv_aload_n hx hb d_7_9_0 rfl (lv_at hl 0 rfl) ?_
  obtain ⟨y2, y3, y4, hO1⟩ := n_flO hI hB1
  refine q_get (ci := 6) (j := 2) (v := .int C) C0 V i_Flo rfl rfl hO1 (by decide) w_234 rfl d_7_9_1 ?_
  refine lv_i2l hx hb d_7_9_4 rfl ?_
  obtain ⟨j5, e6⟩ := q_nm (C.toInt64 : Int64)
  refine q_tl (v := j5) e6 ?_
  refine lv_aload_n hx hb d_7_9_5 rfl (lv_at hl 0 rfl) ?_
  refine q_get (ci := 6) (j := 0) (v := .int A) C0 V i_Flo rfl rfl hO1 (by decide) w_231 rfl d_7_9_6 ?_
  refine lv_lshl hx hb d_7_9_9 rfl ?_
  obtain ⟨j8, e9⟩ := q_nm (j5 <<< (A.toInt64 &&& 63) : Int64)
  refine q_tl (v := j8) e9 ?_
  exact q_retl C0 V (⟨rfl, (show j8 = (F_Flo_infinity A B C) from (by rw [← e9, ← e6, F_Flo_infinity.eq_1]))⟩) d_7_9_10
def F_Flo_noNumber (A : Int32) (B : Int32) (C : Int32) : Int64 := (((F_Flo_infinity A B C) : Int64) ||| ((1 : Int64) <<< ((A - 1 : Int32).toInt64 &&& 63) : Int64) : Int64)
set_option maxRecDepth 100000 in
set_option maxHeartbeats 4000000 in
theorem X_Flo_noNumber (l : Launch) (D : va_G) (g : Nat → ClassId) (q : Nat → Nat) (ws : va_W) (k1 : Nat) (A B C : Int32) (hB1 : q_isFlo (nsh g q) q k1 A B C) (hI : q_I (nsh g q) q ws) : q_mL l y_Flo_noNumber prog_7_method_10_code 1 2 0 0 D g [.ref (q k1)] ws (fun r u => ws = u ∧ r = (F_Flo_noNumber A B C)) := by
  intro sz
  refine q_into (by decide) (Nat.le_of_ble_eq_true rfl) ?_
  intro p e s m below meth c ls hsz C0 V hl
  have hx := C0.1
  have hb := C0.2.1
  have hl : lv_has ls 1 [(0, .ref (q k1))] := hl
  refine lv_aload_n hx hb d_7_10_0 rfl (lv_at hl 0 rfl) ?_
  obtain ⟨y2, y3, y4, hO1⟩ := n_flO hI hB1
  refine q_gol V (q_runV (As := []) (rest := []) (d := 1) (mc := 0) (ms := 0) (ci := 6) C0 V rfl LV_Flo_39 (X_Flo_infinity l D g q ws k1 A B C hB1  hI   _) rfl rfl hO1 rfl hl.1 rfl (Nat.le_of_ble_eq_true rfl) ⟨by decide, by decide⟩ ⟨Nat.le_of_ble_eq_true rfl, Nat.le_of_ble_eq_true rfl⟩ d_7_10_1) (fun j7 u5 H locs hp6 V => ?_)
  obtain ⟨rfl, hE8⟩ := hp6
  have e9 : j7 = (F_Flo_infinity A B C) := hE8
  refine lv_lconst (v := 1) hx hb d_7_10_4 (by decide) ?_
  refine lv_aload_n hx hb d_7_10_5 rfl (lv_at hl 0 rfl) ?_
  refine q_get (ci := 6) (j := 0) (v := .int A) C0 V i_Flo rfl rfl hO1 (by decide) w_231 rfl d_7_10_6 ?_
  refine lv_iconst (v := 1) hx hb d_7_10_9 (by decide) ?_
  refine lv_isub hx hb d_7_10_10 ?_
  obtain ⟨a10, e11⟩ := q_nm (A - 1 : Int32)
  refine q_ti (v := a10) e11 ?_
  refine lv_lshl hx hb d_7_10_11 rfl ?_
  obtain ⟨j13, e14⟩ := q_nm ((1 : Int64) <<< (a10.toInt64 &&& 63) : Int64)
  refine q_tl (v := j13) e14 ?_
  refine lv_lor hx hb d_7_10_12 ?_
  obtain ⟨j15, e16⟩ := q_nm (j7 ||| j13 : Int64)
  refine q_tl (v := j15) e16 ?_
  exact q_retl C0 V (⟨rfl, (show j15 = (F_Flo_noNumber A B C) from (by rw [← e16, ← e14, ← e11, e9, F_Flo_noNumber.eq_1]))⟩) d_7_10_13
def F_Flo_place (A : Int32) (B : Int32) (C : Int32) (x2 : Int64) : Int64 := if ((F_Flo_isNegative A B C x2) : Int32) = (0 : Int32) then ((x2 &&& (((F_Flo_signBit A B C (1 : Int32)) : Int64) - 1 : Int64) : Int64)) else ((-(x2 &&& (((F_Flo_signBit A B C (1 : Int32)) : Int64) - 1 : Int64) : Int64) : Int64))
set_option maxRecDepth 100000 in
set_option maxHeartbeats 4000000 in
theorem X_Flo_place (l : Launch) (D : va_G) (g : Nat → ClassId) (q : Nat → Nat) (ws : va_W) (k1 : Nat) (A B C : Int32) (hB1 : q_isFlo (nsh g q) q k1 A B C) (x2 : Int64) (hI : q_I (nsh g q) q ws) : q_mL l y_Flo_place prog_7_method_11_code 5 3 0 0 D g [.ref (q k1), .long x2] ws (fun r u => ws = u ∧ r = (F_Flo_place A B C x2)) := by
  intro sz
  refine q_into (by decide) (Nat.le_of_ble_eq_true rfl) ?_
  intro p e s m below meth c ls hsz C0 V hl
  have hx := C0.1
  have hb := C0.2.1
  have hl : lv_has ls 5 [(0, .ref (q k1)), (1, .long x2)] := hl
  refine lv_lload_n hx hb d_7_11_0 rfl (lv_at hl 1 rfl) ?_
  refine lv_aload_n hx hb d_7_11_1 rfl (lv_at hl 0 rfl) ?_
  refine lv_iconst (v := 1) hx hb d_7_11_2 (by decide) ?_
  obtain ⟨y2, y3, y4, hO1⟩ := n_flO hI hB1
  refine q_gol V (q_runV (As := [.int 1]) (rest := [.long x2]) (d := 1) (mc := 0) (ms := 0) (ci := 6) C0 V rfl LV_Flo_23 (X_Flo_signBit l D g q ws k1 A B C hB1 1 hI  ⟨(by have y0 : (1 : Int32).toInt = 1 := rfl; omega), (by have y0 : (1 : Int32).toInt = 1 := rfl; omega)⟩ _) rfl rfl hO1 rfl hl.1 rfl (Nat.le_of_ble_eq_true rfl) ⟨by decide, by decide⟩ ⟨Nat.le_of_ble_eq_true rfl, Nat.le_of_ble_eq_true rfl⟩ d_7_11_3) (fun j7 u5 H locs hp6 V => ?_)
  obtain ⟨rfl, hE8⟩ := hp6
  have e9 : j7 = (F_Flo_signBit A B C (1 : Int32)) := hE8
  refine lv_lconst (v := 1) hx hb d_7_11_6 (by decide) ?_
  refine lv_lsub hx hb d_7_11_7 ?_
  obtain ⟨j10, e11⟩ := q_nm (j7 - 1 : Int64)
  refine q_tl (v := j10) e11 ?_
  refine lv_land hx hb d_7_11_8 ?_
  obtain ⟨j12, e13⟩ := q_nm (x2 &&& j10 : Int64)
  refine q_tl (v := j12) e13 ?_
  refine lv_lstore_n (lv' := [(3, .long j12), (0, .ref (q k1)), (1, .long x2)]) hx hb d_7_11_9 rfl hl (by decide) rfl (fun ls hl => ?_)
  refine lv_aload_n hx hb d_7_11_10 rfl (lv_at hl 1 rfl) ?_
  refine lv_lload_n hx hb d_7_11_11 rfl (lv_at hl 2 rfl) ?_
  refine q_goi V (q_runV (As := [.long x2]) (rest := []) (d := 2) (mc := 0) (ms := 0) (ci := 6) C0 V rfl LV_Flo_43 (X_Flo_isNegative l D g q ws k1 A B C hB1 x2 hI   _) rfl rfl hO1 rfl hl.1 rfl (Nat.le_of_ble_eq_true rfl) ⟨by decide, by decide⟩ ⟨Nat.le_of_ble_eq_true rfl, Nat.le_of_ble_eq_true rfl⟩ d_7_11_12) (fun a16 u14 H locs hp15 V => ?_)
  obtain ⟨rfl, b17, b18, hE19⟩ := hp15
  have e20 : a16 = (F_Flo_isNegative A B C x2) := hE19
  clear b17
  clear b18
  refine lv_if_eq (tgt := 23) hx hb d_7_11_15 (by decide) (fun c21 => ?_) (fun c21 => ?_)
  ·
    refine lv_lload_n hx hb d_7_11_23 rfl (lv_at hl 0 rfl) ?_
    exact q_retl C0 V (⟨rfl, (show j12 = (F_Flo_place A B C x2) from (by have c21x := c21; rw [e20] at c21x; rw [← e13, ← e11, e9, F_Flo_place.eq_1, if_pos c21x]))⟩) d_7_11_24
  ·
    refine lv_lload_n hx hb d_7_11_18 rfl (lv_at hl 0 rfl) ?_
    refine lv_lneg hx hb d_7_11_19 ?_
    obtain ⟨j24, e25⟩ := q_nm (-j12 : Int64)
    refine q_tl (v := j24) e25 ?_
    refine lv_goto (tgt := 24) hx hb d_7_11_20 (by decide) ?_
    exact q_retl C0 V (⟨rfl, (show j24 = (F_Flo_place A B C x2) from (by have c21x := c21; rw [e20] at c21x; rw [← e25, ← e13, ← e11, e9, F_Flo_place.eq_1, if_neg c21x]))⟩) d_7_11_24
def F_Flo_number (A : Int32) (B : Int32) (C : Int32) (x2 : Int64) : Int64 := if ((F_Flo_exponent A B C x2) : Int32) = (0 : Int32) then (((F_Flo_fraction A B C x2) : Int64)) else ((((F_Flo_fraction A B C x2) : Int64) ||| ((1 : Int64) <<< (A.toInt64 &&& 63) : Int64) : Int64))
set_option maxRecDepth 100000 in
set_option maxHeartbeats 4000000 in
theorem X_Flo_number (l : Launch) (D : va_G) (g : Nat → ClassId) (q : Nat → Nat) (ws : va_W) (k1 : Nat) (A B C : Int32) (hB1 : q_isFlo (nsh g q) q k1 A B C) (x2 : Int64) (hI : q_I (nsh g q) q ws) : q_mL l y_Flo_number prog_7_method_12_code 3 2 0 0 D g [.ref (q k1), .long x2] ws (fun r u => ws = u ∧ r = (F_Flo_number A B C x2)) := by
  intro sz
  refine q_into (by decide) (Nat.le_of_ble_eq_true rfl) ?_
  intro p e s m below meth c ls hsz C0 V hl
  have hx := C0.1
  have hb := C0.2.1
  have hl : lv_has ls 3 [(0, .ref (q k1)), (1, .long x2)] := hl
  refine lv_aload_n hx hb d_7_12_0 rfl (lv_at hl 0 rfl) ?_
  refine lv_lload_n hx hb d_7_12_1 rfl (lv_at hl 1 rfl) ?_
  obtain ⟨y2, y3, y4, hO1⟩ := n_flO hI hB1
  refine q_goi V (q_runV (As := [.long x2]) (rest := []) (d := 1) (mc := 0) (ms := 0) (ci := 6) C0 V rfl LV_Flo_27 (X_Flo_exponent l D g q ws k1 A B C hB1 x2 hI   _) rfl rfl hO1 rfl hl.1 rfl (Nat.le_of_ble_eq_true rfl) ⟨by decide, by decide⟩ ⟨Nat.le_of_ble_eq_true rfl, Nat.le_of_ble_eq_true rfl⟩ d_7_12_2) (fun a7 u5 H locs hp6 V => ?_)
  obtain ⟨rfl, b8, b9, hE10⟩ := hp6
  have e11 : a7 = (F_Flo_exponent A B C x2) := hE10
  clear b8
  clear b9
  refine lv_if_ne (tgt := 16) hx hb d_7_12_5 (by decide) (fun c12 => ?_) (fun c12 => ?_)
  ·
    refine lv_aload_n hx hb d_7_12_16 rfl (lv_at hl 0 rfl) ?_
    refine lv_lload_n hx hb d_7_12_17 rfl (lv_at hl 1 rfl) ?_
    refine q_gol V (q_runV (As := [.long x2]) (rest := []) (d := 1) (mc := 0) (ms := 0) (ci := 6) C0 V rfl LV_Flo_35 (X_Flo_fraction l D g q ws k1 A B C hB1 x2 hI   _) rfl rfl hO1 rfl hl.1 rfl (Nat.le_of_ble_eq_true rfl) ⟨by decide, by decide⟩ ⟨Nat.le_of_ble_eq_true rfl, Nat.le_of_ble_eq_true rfl⟩ d_7_12_18) (fun j16 u14 H locs hp15 V => ?_)
    obtain ⟨rfl, hE17⟩ := hp15
    have e18 : j16 = (F_Flo_fraction A B C x2) := hE17
    refine lv_lconst (v := 1) hx hb d_7_12_21 (by decide) ?_
    refine lv_aload_n hx hb d_7_12_22 rfl (lv_at hl 0 rfl) ?_
    refine q_get (ci := 6) (j := 0) (v := .int A) C0 V i_Flo rfl rfl hO1 (by decide) w_231 rfl d_7_12_23 ?_
    refine lv_lshl hx hb d_7_12_26 rfl ?_
    obtain ⟨j19, e20⟩ := q_nm ((1 : Int64) <<< (A.toInt64 &&& 63) : Int64)
    refine q_tl (v := j19) e20 ?_
    refine lv_lor hx hb d_7_12_27 ?_
    obtain ⟨j21, e22⟩ := q_nm (j16 ||| j19 : Int64)
    refine q_tl (v := j21) e22 ?_
    exact q_retl C0 V (⟨rfl, (show j21 = (F_Flo_number A B C x2) from (by have c12x := c12; rw [e11] at c12x; rw [← e22, ← e20, e18, F_Flo_number.eq_1, if_neg c12x]))⟩) d_7_12_28
  ·
    refine lv_aload_n hx hb d_7_12_8 rfl (lv_at hl 0 rfl) ?_
    refine lv_lload_n hx hb d_7_12_9 rfl (lv_at hl 1 rfl) ?_
    refine q_gol V (q_runV (As := [.long x2]) (rest := []) (d := 1) (mc := 0) (ms := 0) (ci := 6) C0 V rfl LV_Flo_35 (X_Flo_fraction l D g q ws k1 A B C hB1 x2 hI   _) rfl rfl hO1 rfl hl.1 rfl (Nat.le_of_ble_eq_true rfl) ⟨by decide, by decide⟩ ⟨Nat.le_of_ble_eq_true rfl, Nat.le_of_ble_eq_true rfl⟩ d_7_12_10) (fun j26 u24 H locs hp25 V => ?_)
    obtain ⟨rfl, hE27⟩ := hp25
    have e28 : j26 = (F_Flo_fraction A B C x2) := hE27
    refine lv_goto (tgt := 28) hx hb d_7_12_13 (by decide) ?_
    exact q_retl C0 V (⟨rfl, (show j26 = (F_Flo_number A B C x2) from (by have c12x := c12; rw [e11] at c12x; rw [e28, F_Flo_number.eq_1, if_pos c12x]))⟩) d_7_12_28
def F_Flo_power (A : Int32) (B : Int32) (C : Int32) (x2 : Int64) : Int32 := ((if ((F_Flo_exponent A B C x2) : Int32) < 1 then 1 else ((F_Flo_exponent A B C x2) : Int32) : Int32) - B : Int32)
set_option maxRecDepth 100000 in
set_option maxHeartbeats 4000000 in
theorem X_Flo_power (l : Launch) (D : va_G) (g : Nat → ClassId) (q : Nat → Nat) (ws : va_W) (k1 : Nat) (A B C : Int32) (hB1 : q_isFlo (nsh g q) q k1 A B C) (x2 : Int64) (hI : q_I (nsh g q) q ws) : q_mI l y_Flo_power prog_7_method_13_code 3 (.int) 2 0 0 D g [.ref (q k1), .long x2] ws (fun r u => ws = u ∧ (0 ≤ r.toInt + 1074) ∧ (r.toInt + 150 ≤ C.toInt) ∧ r = (F_Flo_power A B C x2)) := by
  intro sz
  refine q_into (by decide) (Nat.le_of_ble_eq_true rfl) ?_
  intro p e s m below meth c ls hsz C0 V hl
  have hx := C0.1
  have hb := C0.2.1
  have hfk11 : q_F (150 ≤ B.toInt ∧ B.toInt ≤ 1075) := hB1.2.2.1
  have hfk12 : q_F (255 ≤ C.toInt ∧ C.toInt ≤ 2047) := hB1.2.2.2.1
  have hl : lv_has ls 3 [(0, .ref (q k1)), (1, .long x2)] := hl
  refine lv_aload_n hx hb d_7_13_0 rfl (lv_at hl 0 rfl) ?_
  refine lv_lload_n hx hb d_7_13_1 rfl (lv_at hl 1 rfl) ?_
  obtain ⟨y2, y3, y4, hO1⟩ := n_flO hI hB1
  refine q_goi V (q_runV (As := [.long x2]) (rest := []) (d := 1) (mc := 0) (ms := 0) (ci := 6) C0 V rfl LV_Flo_27 (X_Flo_exponent l D g q ws k1 A B C hB1 x2 hI   _) rfl rfl hO1 rfl hl.1 rfl (Nat.le_of_ble_eq_true rfl) ⟨by decide, by decide⟩ ⟨Nat.le_of_ble_eq_true rfl, Nat.le_of_ble_eq_true rfl⟩ d_7_13_2) (fun a7 u5 H locs hp6 V => ?_)
  obtain ⟨rfl, b8, b9, hE10⟩ := hp6
  have e11 : a7 = (F_Flo_exponent A B C x2) := hE10
  clear b8
  replace b9 : q_F (a7.toInt ≤ C.toInt) := b9
  refine lv_iconst (v := 1) hx hb d_7_13_5 (by decide) ?_
  refine q_max C0 hl.1 rfl w_802 w_803 w_7 w_804 ⟨Nat.le_of_ble_eq_true rfl, Nat.le_of_ble_eq_true rfl⟩ ⟨Nat.le_of_ble_eq_true rfl, Nat.le_of_ble_eq_true rfl⟩ d_7_13_6 ?_
  obtain ⟨a12, e13⟩ := q_nm (if a7 < 1 then 1 else a7 : Int32)
  refine q_ti (v := a12) e13 ?_
  have b14 : q_F (a7.toInt ≤ a12.toInt ∧ 1 ≤ a12.toInt ∧ (a12.toInt = a7.toInt ∨ a12.toInt = 1)) := (by rw [← e13]; show a7.toInt ≤ (if a7 < 1 then 1 else a7 : Int32).toInt ∧ 1 ≤ (if a7 < 1 then 1 else a7 : Int32).toInt ∧ ((if a7 < 1 then 1 else a7 : Int32).toInt = a7.toInt ∨ (if a7 < 1 then 1 else a7 : Int32).toInt = 1); exact (by have y1 : (1 : Int32).toInt = 1 := rfl; have z := s_max (a := a7) (b := 1); omega))
  refine lv_aload_n hx hb d_7_13_9 rfl (lv_at hl 0 rfl) ?_
  refine q_get (ci := 6) (j := 1) (v := .int B) C0 V i_Flo rfl rfl hO1 (by decide) w_233 rfl d_7_13_10 ?_
  refine lv_isub hx hb d_7_13_13 ?_
  obtain ⟨a15, e16⟩ := q_nm (a12 - B : Int32)
  refine q_ti (v := a15) e16 ?_
  have b17 : q_F (a15.toInt = a12.toInt - B.toInt) := (by rw [← e16]; show (a12 - B : Int32).toInt = a12.toInt - B.toInt; exact q_subI (x := a12.toInt) (y := B.toInt) rfl rfl (by have t1 : 150 ≤ B.toInt ∧ B.toInt ≤ 1075 := hfk11; have t2 : a7.toInt ≤ a12.toInt ∧ 1 ≤ a12.toInt ∧ (a12.toInt = a7.toInt ∨ a12.toInt = 1) := b14; have _ := q_lo32 (x := a12); have _ := q_hi32 (x := a12); omega) (by have t1 : 150 ≤ B.toInt ∧ B.toInt ≤ 1075 := hfk11; have t2 : a7.toInt ≤ a12.toInt ∧ 1 ≤ a12.toInt ∧ (a12.toInt = a7.toInt ∨ a12.toInt = 1) := b14; have _ := q_lo32 (x := a12); have _ := q_hi32 (x := a12); omega))
  exact q_reti C0 V (⟨rfl, (show 0 ≤ a15.toInt + 1074 from (by have t1 : 150 ≤ B.toInt ∧ B.toInt ≤ 1075 := hfk11; have t2 : a7.toInt ≤ a12.toInt ∧ 1 ≤ a12.toInt ∧ (a12.toInt = a7.toInt ∨ a12.toInt = 1) := b14; have t3 : a15.toInt = a12.toInt - B.toInt := b17; omega)), (show a15.toInt + 150 ≤ C.toInt from (by have t1 : 150 ≤ B.toInt ∧ B.toInt ≤ 1075 := hfk11; have t2 : 255 ≤ C.toInt ∧ C.toInt ≤ 2047 := hfk12; have t3 : a7.toInt ≤ C.toInt := b9; have t4 : a7.toInt ≤ a12.toInt ∧ 1 ≤ a12.toInt ∧ (a12.toInt = a7.toInt ∨ a12.toInt = 1) := b14; have t5 : a15.toInt = a12.toInt - B.toInt := b17; omega)), (show a15 = (F_Flo_power A B C x2) from (by rw [← e16, ← e13, e11, F_Flo_power.eq_1]))⟩) d_7_13_14
def F_Flo_towardsZero_c41 (A : Int32) (B : Int32) (C : Int32) (x2 : Int64) (t0_0 : Int32) (t0_1 : Int32) (t1_0 : (Nat → Int32)) (a15 : Int32) (p40 : (Int32 × Int32 × (Nat → Int32))) (p64 : (Int32 × Int32 × (Nat → Int32))) (p94 : (Int32 × Int32 × Int32 × (Nat → Int32))) : Int32 × Int32 × (Nat → Int32) := if (p94.2.1 : Int32) ≤ (0 : Int32) then (((p94.2.1 : Int32), (0 : Int32), (p94.2.2.2 : (Nat → Int32)))) else (if ((F_Flo_isNegative A B C x2) : Int32) = (0 : Int32) then (((p94.2.1 : Int32), (0 : Int32), (p94.2.2.2 : (Nat → Int32)))) else (((p94.2.1 : Int32), (1 : Int32), (p94.2.2.2 : (Nat → Int32)))))
def F_Flo_towardsZero_c29 (A : Int32) (B : Int32) (C : Int32) (x2 : Int64) (t0_0 : Int32) (t0_1 : Int32) (t1_0 : (Nat → Int32)) (a15 : Int32) (p40 : (Int32 × Int32 × (Nat → Int32))) (p64 : (Int32 × Int32 × (Nat → Int32))) : Int32 × Int32 × (Nat → Int32) := F_Flo_towardsZero_c41 A B C x2 t0_0 t0_1 t1_0 a15 p40 p64 ((F_Big_shiftRight (220 : Int32) (-a15 : Int32) (p64.1 : Int32) (p64.2.1 : Int32) (p64.2.2 : (Nat → Int32))) : (Int32 × Int32 × Int32 × (Nat → Int32)))
def F_Flo_towardsZero_c18 (A : Int32) (B : Int32) (C : Int32) (x2 : Int64) (t0_0 : Int32) (t0_1 : Int32) (t1_0 : (Nat → Int32)) (a15 : Int32) (p40 : (Int32 × Int32 × (Nat → Int32))) : Int32 × Int32 × (Nat → Int32) := F_Flo_towardsZero_c29 A B C x2 t0_0 t0_1 t1_0 a15 p40 ((F_Big_shiftLeft (220 : Int32) a15 (p40.1 : Int32) (p40.2.1 : Int32) (p40.2.2 : (Nat → Int32))) : (Int32 × Int32 × (Nat → Int32)))
def F_Flo_towardsZero (A : Int32) (B : Int32) (C : Int32) (x2 : Int64) (t0_0 : Int32) (t0_1 : Int32) (t1_0 : (Nat → Int32)) : Int32 × Int32 × (Nat → Int32) := F_Flo_towardsZero_c18 A B C x2 t0_0 t0_1 t1_0 ((F_Flo_power A B C x2) : Int32) ((F_Big_setLong (220 : Int32) ((F_Flo_number A B C x2) : Int64) t0_0 t0_1 t1_0) : (Int32 × Int32 × (Nat → Int32)))
set_option maxRecDepth 100000 in
set_option maxHeartbeats 4000000 in
theorem X_Flo_towardsZero (l : Launch) (D : va_G) (g : Nat → ClassId) (q : Nat → Nat) (ws : va_W) (k1 : Nat) (A B C : Int32) (hB1 : q_isFlo (nsh g q) q k1 A B C) (x2 : Int64) (hI : q_I (nsh g q) q ws) (t0_0 : Int32) (t0_1 : Int32) (hT0 : ws[10]? = (some (q 10, .inr (2, [.ref (q 11), .int t0_0, .int t0_1])) : Option (Nat × va_E))) (t1_0 : (Nat → Int32)) (hT1 : ws[11]? = (some (q 11, .inl (g 0, (220 : Int32).toNatClampNeg, .inl t1_0)) : Option (Nat × va_E))) : q_mV l y_Flo_towardsZero prog_7_method_14_code 4 4 0 0 D g [.ref (q k1), .long x2] ws (fun u => q_I (nsh g q) q u ∧ q_un ws u [10, 11] ∧ ∃ (u0_0 : Int32) (u0_1 : Int32) (u1_0 : (Nat → Int32)), u[10]? = (some (q 10, .inr (2, [.ref (q 11), .int u0_0, .int u0_1])) : Option (Nat × va_E)) ∧ u[11]? = (some (q 11, .inl (g 0, (220 : Int32).toNatClampNeg, .inl u1_0)) : Option (Nat × va_E)) ∧ (u0_0.toInt ≤ 220) ∧ (0 ≤ u0_1.toInt) ∧ (u0_1.toInt ≤ 1) ∧ (u0_1.toInt ≤ u0_0.toInt) ∧ (u0_0, u0_1, u1_0) = (F_Flo_towardsZero A B C x2 t0_0 t0_1 t1_0)) := by
  intro sz
  refine q_into (by decide) (Nat.le_of_ble_eq_true rfl) ?_
  intro p e s m below meth c ls hsz C0 V hl
  have hx := C0.1
  have hb := C0.2.1
  have btt0_1 := (q_bigW hI (n_b10 g q) hT0).2
  clear btt0_1
  have hF : q_un ws ws [10, 11] := q_u0
  have hl : lv_has ls 4 [(0, .ref (q k1)), (1, .long x2)] := hl
  refine lv_aload_n hx hb d_7_14_0 rfl (lv_at hl 0 rfl) ?_
  refine lv_lload_n hx hb d_7_14_1 rfl (lv_at hl 1 rfl) ?_
  obtain ⟨y10, y11, y12, hO9⟩ := n_flO hI hB1
  refine q_goi V (q_runV (As := [.long x2]) (rest := []) (d := 2) (mc := 0) (ms := 0) (ci := 6) C0 V rfl LV_Flo_52 (X_Flo_power l D g q ws k1 A B C hB1 x2 hI   _) rfl rfl hO9 rfl hl.1 rfl (Nat.le_of_ble_eq_true rfl) ⟨by decide, by decide⟩ ⟨Nat.le_of_ble_eq_true rfl, Nat.le_of_ble_eq_true rfl⟩ d_7_14_2) (fun a15 u13 H locs hp14 V => ?_)
  obtain ⟨rfl, b16, b17, hE18⟩ := hp14
  have e19 : a15 = (F_Flo_power A B C x2) := hE18
  clear b16
  clear b17
  refine lv_istore_n (lv' := [(3, .int a15), (0, .ref (q k1)), (1, .long x2)]) hx hb d_7_14_5 rfl hl (by decide) rfl (fun ls hl => ?_)
  refine lv_aload_n hx hb d_7_14_6 rfl (lv_at hl 1 rfl) ?_
  refine q_get (ci := 6) (j := 5) (v := .ref (q 9)) C0 V i_Flo rfl rfl hO9 (by decide) w_241 rfl d_7_14_7 ?_
  have hO20 := n_o9 hI
  refine q_get (ci := 4) (j := 0) (v := .ref (q 10)) C0 V i_Mil rfl rfl hO20 (by decide) w_113 rfl d_7_14_10 ?_
  refine lv_aload_n hx hb d_7_14_13 rfl (lv_at hl 1 rfl) ?_
  refine lv_lload_n hx hb d_7_14_14 rfl (lv_at hl 2 rfl) ?_
  refine q_gol V (q_runV (As := [.long x2]) (rest := [.ref (q 10)]) (d := 2) (mc := 0) (ms := 0) (ci := 6) C0 V rfl LV_Flo_61 (X_Flo_number l D g q ws k1 A B C hB1 x2 hI   _) rfl rfl hO9 rfl hl.1 rfl (Nat.le_of_ble_eq_true rfl) ⟨by decide, by decide⟩ ⟨Nat.le_of_ble_eq_true rfl, Nat.le_of_ble_eq_true rfl⟩ d_7_14_15) (fun j23 u21 H locs hp22 V => ?_)
  obtain ⟨rfl, hE24⟩ := hp22
  have e25 : j23 = (F_Flo_number A B C x2) := hE24
  refine q_gov V (q_runV (As := [.long j23]) (rest := []) (d := 2) (mc := 0) (ms := 0) (ci := 2) C0 V rfl LV_Flo_63 (X_Big_setLong l D g q ws 10 220 (n_b10 g q) (by decide) j23 hI t0_0 t0_1 hT0 t1_0 hT1  _) rfl rfl hT0 rfl hl.1 rfl (Nat.le_of_ble_eq_true rfl) ⟨by decide, by decide⟩ ⟨Nat.le_of_ble_eq_true rfl, Nat.le_of_ble_eq_true rfl⟩ d_7_14_18) (fun u26 H locs hp27 V => ?_)
  obtain ⟨hI, hZ9⟩ := hp27
  obtain ⟨hu39, hZ9⟩ := hZ9
  obtain ⟨y29, hZ9⟩ := hZ9
  obtain ⟨y30, hZ9⟩ := hZ9
  obtain ⟨f31, hZ9⟩ := hZ9
  obtain ⟨hO28, hZ9⟩ := hZ9
  obtain ⟨hA32, hZ9⟩ := hZ9
  replace hZ9 := hZ9.2.2.2.2
  obtain ⟨-, hE38⟩ := hZ9
  replace hO28 : u26[10]? = (some (q 10, .inr (2, [.ref (q 11), .int y29, .int y30])) : Option (Nat × va_E)) := hO28
  replace hA32 : u26[11]? = (some (q 11, .inl (g 0, (220 : Int32).toNatClampNeg, .inl f31)) : Option (Nat × va_E)) := hA32
  obtain ⟨p40, e41⟩ : ∃ z, z = (F_Big_setLong (220 : Int32) j23 t0_0 t0_1 t1_0) := ⟨_, rfl⟩
  have e42 : y29 = p40.1 := congrArg (fun z => z.1) (hE38.trans e41.symm)
  have e43 : y30 = p40.2.1 := congrArg (fun z => z.2.1) (hE38.trans e41.symm)
  have e44 : f31 = p40.2.2 := congrArg (fun z => z.2.2) (hE38.trans e41.symm)
  replace hO9 := (hu39 _ (by have z0 := hB1.2.2.2.2; simp only [List.mem_cons, List.not_mem_nil, or_false, not_or]; omega)).trans hO9
  replace hO20 := (hu39 _ (by decide)).trans hO20
  replace hF := q_uc hF hu39 (by simp)
  have hR45 := (show F_Flo_towardsZero_c18 A B C x2 t0_0 t0_1 t1_0 a15 p40 = (F_Flo_towardsZero A B C x2 t0_0 t0_1 t1_0) from (by rw [e41, e25, e19, F_Flo_towardsZero.eq_1]))
  refine lv_aload_n hx hb d_7_14_21 rfl (lv_at hl 1 rfl) ?_
  refine q_get (ci := 6) (j := 5) (v := .ref (q 9)) C0 V i_Flo rfl rfl hO9 (by decide) w_241 rfl d_7_14_22 ?_
  refine q_get (ci := 4) (j := 0) (v := .ref (q 10)) C0 V i_Mil rfl rfl hO20 (by decide) w_113 rfl d_7_14_25 ?_
  refine lv_iload_n hx hb d_7_14_28 rfl (lv_at hl 0 rfl) ?_
  refine q_gov V (q_runV (As := [.int a15]) (rest := []) (d := 3) (mc := 0) (ms := 0) (ci := 2) C0 V rfl LV_Flo_69 (X_Big_shiftLeft l D g q u26 10 220 (n_b10 g q) (by decide) a15 hI y29 y30 hO28 f31 hA32  _) rfl rfl hO28 rfl hl.1 rfl (Nat.le_of_ble_eq_true rfl) ⟨by decide, by decide⟩ ⟨Nat.le_of_ble_eq_true rfl, Nat.le_of_ble_eq_true rfl⟩ d_7_14_29) (fun u50 H locs hp51 V => ?_)
  obtain ⟨hI, hZ9⟩ := hp51
  obtain ⟨hu63, hZ9⟩ := hZ9
  obtain ⟨y53, hZ9⟩ := hZ9
  obtain ⟨y54, hZ9⟩ := hZ9
  obtain ⟨f55, hZ9⟩ := hZ9
  obtain ⟨hO52, hZ9⟩ := hZ9
  obtain ⟨hA56, hZ9⟩ := hZ9
  replace hZ9 := hZ9.2.2.2
  obtain ⟨b60, hZ9⟩ := hZ9
  obtain ⟨-, hE62⟩ := hZ9
  replace hO52 : u50[10]? = (some (q 10, .inr (2, [.ref (q 11), .int y53, .int y54])) : Option (Nat × va_E)) := hO52
  replace hA56 : u50[11]? = (some (q 11, .inl (g 0, (220 : Int32).toNatClampNeg, .inl f55)) : Option (Nat × va_E)) := hA56
  obtain ⟨p64, e65⟩ : ∃ z, z = (F_Big_shiftLeft (220 : Int32) a15 y29 y30 f31) := ⟨_, rfl⟩
  have e66 : y53 = p64.1 := congrArg (fun z => z.1) (hE62.trans e65.symm)
  have e67 : y54 = p64.2.1 := congrArg (fun z => z.2.1) (hE62.trans e65.symm)
  have e68 : f55 = p64.2.2 := congrArg (fun z => z.2.2) (hE62.trans e65.symm)
  replace b60 : q_F (y53.toInt ≤ 220) := b60
  replace hO9 := (hu63 _ (by have z0 := hB1.2.2.2.2; simp only [List.mem_cons, List.not_mem_nil, or_false, not_or]; omega)).trans hO9
  replace hO20 := (hu63 _ (by decide)).trans hO20
  replace hF := q_uc hF hu63 (by simp)
  have hR69 := (show F_Flo_towardsZero_c29 A B C x2 t0_0 t0_1 t1_0 a15 p40 p64 = (F_Flo_towardsZero A B C x2 t0_0 t0_1 t1_0) from Eq.trans (by rw [e65, e44, e43, e42, F_Flo_towardsZero_c18.eq_1]) hR45)
  refine lv_aload_n hx hb d_7_14_32 rfl (lv_at hl 1 rfl) ?_
  refine q_get (ci := 6) (j := 5) (v := .ref (q 9)) C0 V i_Flo rfl rfl hO9 (by decide) w_241 rfl d_7_14_33 ?_
  refine q_get (ci := 4) (j := 0) (v := .ref (q 10)) C0 V i_Mil rfl rfl hO20 (by decide) w_113 rfl d_7_14_36 ?_
  refine lv_iload_n hx hb d_7_14_39 rfl (lv_at hl 0 rfl) ?_
  refine lv_ineg hx hb d_7_14_40 ?_
  obtain ⟨a74, e75⟩ := q_nm (-a15 : Int32)
  refine q_ti (v := a74) e75 ?_
  refine q_goi V (q_runV (As := [.int a74]) (rest := []) (d := 3) (mc := 0) (ms := 0) (ci := 2) C0 V rfl LV_Flo_73 (X_Big_shiftRight l D g q u50 10 220 (n_b10 g q) (by decide) a74 hI y53 y54 hO52 f55 hA56  _) rfl rfl hO52 rfl hl.1 rfl (Nat.le_of_ble_eq_true rfl) ⟨by decide, by decide⟩ ⟨Nat.le_of_ble_eq_true rfl, Nat.le_of_ble_eq_true rfl⟩ d_7_14_41) (fun a79 u77 H locs hp78 V => ?_)
  obtain ⟨hI, hZ9⟩ := hp78
  obtain ⟨hu93, hZ9⟩ := hZ9
  obtain ⟨y81, hZ9⟩ := hZ9
  obtain ⟨y82, hZ9⟩ := hZ9
  obtain ⟨f83, hZ9⟩ := hZ9
  obtain ⟨hO80, hZ9⟩ := hZ9
  obtain ⟨hA84, hZ9⟩ := hZ9
  replace hZ9 := hZ9.2.2
  obtain ⟨b87, hZ9⟩ := hZ9
  replace hZ9 := hZ9.2.2
  obtain ⟨b90, hZ9⟩ := hZ9
  obtain ⟨-, hE92⟩ := hZ9
  replace hO80 : u77[10]? = (some (q 10, .inr (2, [.ref (q 11), .int y81, .int y82])) : Option (Nat × va_E)) := hO80
  replace hA84 : u77[11]? = (some (q 11, .inl (g 0, (220 : Int32).toNatClampNeg, .inl f83)) : Option (Nat × va_E)) := hA84
  obtain ⟨p94, e95⟩ : ∃ z, z = (F_Big_shiftRight (220 : Int32) a74 y53 y54 f55) := ⟨_, rfl⟩
  have e96 : a79 = p94.1 := congrArg (fun z => z.1) (hE92.trans e95.symm)
  have e97 : y81 = p94.2.1 := congrArg (fun z => z.2.1) (hE92.trans e95.symm)
  have e98 : y82 = p94.2.2.1 := congrArg (fun z => z.2.2.1) (hE92.trans e95.symm)
  have e99 : f83 = p94.2.2.2 := congrArg (fun z => z.2.2.2) (hE92.trans e95.symm)
  replace b87 : q_F (0 ≤ y81.toInt) := b87
  replace b90 : q_F (y81.toInt ≤ y53.toInt) := b90
  replace hO9 := (hu93 _ (by have z0 := hB1.2.2.2.2; simp only [List.mem_cons, List.not_mem_nil, or_false, not_or]; omega)).trans hO9
  replace hO20 := (hu93 _ (by decide)).trans hO20
  replace hF := q_uc hF hu93 (by simp)
  have hR100 := (show F_Flo_towardsZero_c41 A B C x2 t0_0 t0_1 t1_0 a15 p40 p64 p94 = (F_Flo_towardsZero A B C x2 t0_0 t0_1 t1_0) from Eq.trans (by rw [e95, ← e75, e68, e67, e66, F_Flo_towardsZero_c29.eq_1]) hR69)
  refine lv_pop hx hb d_7_14_44 rfl ?_
  refine lv_aload_n hx hb d_7_14_45 rfl (lv_at hl 1 rfl) ?_
  refine q_get (ci := 6) (j := 5) (v := .ref (q 9)) C0 V i_Flo rfl rfl hO9 (by decide) w_241 rfl d_7_14_46 ?_
  refine q_get (ci := 4) (j := 0) (v := .ref (q 10)) C0 V i_Mil rfl rfl hO20 (by decide) w_113 rfl d_7_14_49 ?_
  refine lv_aload_n hx hb d_7_14_52 rfl (lv_at hl 1 rfl) ?_
  refine q_get (ci := 6) (j := 5) (v := .ref (q 9)) C0 V i_Flo rfl rfl hO9 (by decide) w_241 rfl d_7_14_53 ?_
  refine q_get (ci := 4) (j := 0) (v := .ref (q 10)) C0 V i_Mil rfl rfl hO20 (by decide) w_113 rfl d_7_14_56 ?_
  refine q_get (ci := 2) (j := 1) (v := .int y81) C0 V i_Big rfl rfl hO80 (by decide) w_92 rfl d_7_14_59 ?_
  refine lv_if_le (tgt := 77) hx hb d_7_14_62 (by decide) (fun c105 => ?_) (fun c105 => ?_)
  ·
    have b106 : q_F (y81.toInt ≤ 0) := (q_leI c105)
    refine lv_iconst (v := 0) hx hb d_7_14_77 (by decide) ?_
    refine q_put (ci := 2) (j := 2) (v := .int 0) (ty := .boolean) C0 V i_Big o_Big n_Big rfl rfl hO80 (by decide) w_99 rfl rfl rfl rfl (Nat.le_of_ble_eq_true rfl) d_7_14_78 (fun H locs w107 hu108 hO80 V => ?_)
    replace hO80 : w107[10]? = (some (q 10, .inr (2, [.ref (q 11), .int y81, .int 0])) : Option (Nat × va_E)) := hO80
    replace hI := q_bigO' hI (n_b10 g q) hu108 hO80 ⟨(by have zR : (220 : Int32).toInt = 220 := rfl; have t1 : 0 ≤ y81.toInt := b87; omega), (by have zR : (220 : Int32).toInt = 220 := rfl; have t1 : y81.toInt ≤ 0 := b106; omega)⟩ ⟨(by have z9 : (0 : Int32).toInt = 0 := rfl; omega), (by have z9 : (0 : Int32).toInt = 0 := rfl; omega)⟩
    replace hA84 := (hu108 _ (by decide)).trans hA84
    replace hF := q_us hF hu108 (by simp)
    exact q_retv C0 V (⟨hI, hF, y81, 0, f83, hO80, hA84, (show y81.toInt ≤ 220 from (by have z8 : (0 : Int32).toInt = 0 := rfl; have t1 : y81.toInt ≤ 0 := b106; omega)), (show 0 ≤ (0 : Int32).toInt from (by have z8 : (0 : Int32).toInt = 0 := rfl; omega)), (show (0 : Int32).toInt ≤ 1 from (by have z8 : (0 : Int32).toInt = 0 := rfl; omega)), (show (0 : Int32).toInt ≤ y81.toInt from (by have z8 : (0 : Int32).toInt = 0 := rfl; have t1 : 0 ≤ y81.toInt := b87; omega)), (show (y81, (0 : Int32), f83) = (F_Flo_towardsZero A B C x2 t0_0 t0_1 t1_0) from Eq.trans (by have c105x := c105; rw [e97] at c105x; rw [e99, e97, F_Flo_towardsZero_c41.eq_1, if_pos c105x]) hR100)⟩) d_7_14_81
  ·
    have b109 : q_F (0 < y81.toInt) := (q_nleI c105)
    refine lv_aload_n hx hb d_7_14_65 rfl (lv_at hl 1 rfl) ?_
    refine lv_lload_n hx hb d_7_14_66 rfl (lv_at hl 2 rfl) ?_
    refine q_goi V (q_runV (As := [.long x2]) (rest := [.ref (q 10)]) (d := 2) (mc := 0) (ms := 0) (ci := 6) C0 V rfl LV_Flo_43 (X_Flo_isNegative l D g q u77 k1 A B C hB1 x2 hI   _) rfl rfl hO9 rfl hl.1 rfl (Nat.le_of_ble_eq_true rfl) ⟨by decide, by decide⟩ ⟨Nat.le_of_ble_eq_true rfl, Nat.le_of_ble_eq_true rfl⟩ d_7_14_67) (fun a112 u110 H locs hp111 V => ?_)
    obtain ⟨rfl, b113, b114, hE115⟩ := hp111
    have e116 : a112 = (F_Flo_isNegative A B C x2) := hE115
    clear b113
    clear b114
    refine lv_if_eq (tgt := 77) hx hb d_7_14_70 (by decide) (fun c117 => ?_) (fun c117 => ?_)
    ·
      refine lv_iconst (v := 0) hx hb d_7_14_77 (by decide) ?_
      refine q_put (ci := 2) (j := 2) (v := .int 0) (ty := .boolean) C0 V i_Big o_Big n_Big rfl rfl hO80 (by decide) w_99 rfl rfl rfl rfl (Nat.le_of_ble_eq_true rfl) d_7_14_78 (fun H locs w119 hu120 hO80 V => ?_)
      replace hO80 : w119[10]? = (some (q 10, .inr (2, [.ref (q 11), .int y81, .int 0])) : Option (Nat × va_E)) := hO80
      replace hI := q_bigO' hI (n_b10 g q) hu120 hO80 ⟨(by have zR : (220 : Int32).toInt = 220 := rfl; have t1 : 0 ≤ y81.toInt := b87; omega), (by have zR : (220 : Int32).toInt = 220 := rfl; have t1 : y53.toInt ≤ 220 := b60; have t2 : y81.toInt ≤ y53.toInt := b90; omega)⟩ ⟨(by have z9 : (0 : Int32).toInt = 0 := rfl; omega), (by have z9 : (0 : Int32).toInt = 0 := rfl; omega)⟩
      replace hA84 := (hu120 _ (by decide)).trans hA84
      replace hF := q_us hF hu120 (by simp)
      exact q_retv C0 V (⟨hI, hF, y81, 0, f83, hO80, hA84, (show y81.toInt ≤ 220 from (by have z8 : (0 : Int32).toInt = 0 := rfl; have t1 : y53.toInt ≤ 220 := b60; have t2 : y81.toInt ≤ y53.toInt := b90; omega)), (show 0 ≤ (0 : Int32).toInt from (by have z8 : (0 : Int32).toInt = 0 := rfl; omega)), (show (0 : Int32).toInt ≤ 1 from (by have z8 : (0 : Int32).toInt = 0 := rfl; omega)), (show (0 : Int32).toInt ≤ y81.toInt from (by have z8 : (0 : Int32).toInt = 0 := rfl; have t1 : 0 ≤ y81.toInt := b87; omega)), (show (y81, (0 : Int32), f83) = (F_Flo_towardsZero A B C x2 t0_0 t0_1 t1_0) from Eq.trans (by have c105x := c105; rw [e97] at c105x; have c117x := c117; rw [e116] at c117x; rw [e99, e97, F_Flo_towardsZero_c41.eq_1, if_neg c105x, if_pos c117x]) hR100)⟩) d_7_14_81
    ·
      refine lv_iconst (v := 1) hx hb d_7_14_73 (by decide) ?_
      refine lv_goto (tgt := 78) hx hb d_7_14_74 (by decide) ?_
      refine q_put (ci := 2) (j := 2) (v := .int 1) (ty := .boolean) C0 V i_Big o_Big n_Big rfl rfl hO80 (by decide) w_99 rfl rfl rfl rfl (Nat.le_of_ble_eq_true rfl) d_7_14_78 (fun H locs w122 hu123 hO80 V => ?_)
      replace hO80 : w122[10]? = (some (q 10, .inr (2, [.ref (q 11), .int y81, .int 1])) : Option (Nat × va_E)) := hO80
      replace hI := q_bigO' hI (n_b10 g q) hu123 hO80 ⟨(by have zR : (220 : Int32).toInt = 220 := rfl; have t1 : 0 ≤ y81.toInt := b87; omega), (by have zR : (220 : Int32).toInt = 220 := rfl; have t1 : y53.toInt ≤ 220 := b60; have t2 : y81.toInt ≤ y53.toInt := b90; omega)⟩ ⟨(by have z9 : (1 : Int32).toInt = 1 := rfl; omega), (by have z9 : (1 : Int32).toInt = 1 := rfl; omega)⟩
      replace hA84 := (hu123 _ (by decide)).trans hA84
      replace hF := q_us hF hu123 (by simp)
      exact q_retv C0 V (⟨hI, hF, y81, 1, f83, hO80, hA84, (show y81.toInt ≤ 220 from (by have z8 : (1 : Int32).toInt = 1 := rfl; have t1 : y53.toInt ≤ 220 := b60; have t2 : y81.toInt ≤ y53.toInt := b90; omega)), (show 0 ≤ (1 : Int32).toInt from (by have z8 : (1 : Int32).toInt = 1 := rfl; omega)), (show (1 : Int32).toInt ≤ 1 from (by have z8 : (1 : Int32).toInt = 1 := rfl; omega)), (show (1 : Int32).toInt ≤ y81.toInt from (by have z8 : (1 : Int32).toInt = 1 := rfl; have t1 : 0 < y81.toInt := b109; omega)), (show (y81, (1 : Int32), f83) = (F_Flo_towardsZero A B C x2 t0_0 t0_1 t1_0) from Eq.trans (by have c105x := c105; rw [e97] at c105x; have c117x := c117; rw [e116] at c117x; rw [e99, e97, F_Flo_towardsZero_c41.eq_1, if_neg c105x, if_neg c117x]) hR100)⟩) d_7_14_81
def F_Flo_exactly_c80 (A : Int32) (B : Int32) (C : Int32) (x2 : Int64) (t0_0 : Int32) (t0_1 : Int32) (t1_0 : (Nat → Int32)) (a15 : Int32) (p40 : (Int32 × Int32 × (Nat → Int32))) (a65 : Int32) (p85 : (Int32 × Int32 × Int32 × (Nat → Int32))) (p110 : (Int32 × Int32 × (Nat → Int32))) (a126 : Int32) (p142 : (Int32 × Int32 × (Nat → Int32))) : Int32 × Int32 × Int32 × (Nat → Int32) := (a126, (p142.1 : Int32), ((F_Flo_isNegative A B C x2) : Int32), (p142.2.2 : (Nat → Int32)))
def F_Flo_exactly_c62 (A : Int32) (B : Int32) (C : Int32) (x2 : Int64) (t0_0 : Int32) (t0_1 : Int32) (t1_0 : (Nat → Int32)) (a15 : Int32) (p40 : (Int32 × Int32 × (Nat → Int32))) (a65 : Int32) (p85 : (Int32 × Int32 × Int32 × (Nat → Int32))) (p110 : (Int32 × Int32 × (Nat → Int32))) : Int32 × Int32 × Int32 × (Nat → Int32) := F_Flo_exactly_c80 A B C x2 t0_0 t0_1 t1_0 a15 p40 a65 p85 p110 (if 0 < ((-a15 : Int32) - a65 : Int32) then ((-a15 : Int32) - a65 : Int32) else 0 : Int32) ((F_Big_timesFive (220 : Int32) (if 0 < ((-a15 : Int32) - a65 : Int32) then ((-a15 : Int32) - a65 : Int32) else 0 : Int32) (p110.1 : Int32) (p110.2.1 : Int32) (p110.2.2 : (Nat → Int32))) : (Int32 × Int32 × (Nat → Int32)))
def F_Flo_exactly_c55 (A : Int32) (B : Int32) (C : Int32) (x2 : Int64) (t0_0 : Int32) (t0_1 : Int32) (t1_0 : (Nat → Int32)) (a15 : Int32) (p40 : (Int32 × Int32 × (Nat → Int32))) (a65 : Int32) (p85 : (Int32 × Int32 × Int32 × (Nat → Int32))) : Int32 × Int32 × Int32 × (Nat → Int32) := F_Flo_exactly_c62 A B C x2 t0_0 t0_1 t1_0 a15 p40 a65 p85 ((F_Big_shiftLeft (220 : Int32) a15 (p85.2.1 : Int32) (p85.2.2.1 : Int32) (p85.2.2.2 : (Nat → Int32))) : (Int32 × Int32 × (Nat → Int32)))
def F_Flo_exactly_c22 (A : Int32) (B : Int32) (C : Int32) (x2 : Int64) (t0_0 : Int32) (t0_1 : Int32) (t1_0 : (Nat → Int32)) (a15 : Int32) (p40 : (Int32 × Int32 × (Nat → Int32))) : Int32 × Int32 × Int32 × (Nat → Int32) := if (p40.1 : Int32) = (0 : Int32) then (((0 : Int32), (p40.1 : Int32), (p40.2.1 : Int32), (p40.2.2 : (Nat → Int32)))) else (F_Flo_exactly_c55 A B C x2 t0_0 t0_1 t1_0 a15 p40 (if (if 0 < (-a15 : Int32) then (-a15 : Int32) else 0 : Int32) < ((F_Big_lowestOne (220 : Int32) (p40.1 : Int32) (p40.2.1 : Int32) (p40.2.2 : (Nat → Int32))) : Int32) then (if 0 < (-a15 : Int32) then (-a15 : Int32) else 0 : Int32) else ((F_Big_lowestOne (220 : Int32) (p40.1 : Int32) (p40.2.1 : Int32) (p40.2.2 : (Nat → Int32))) : Int32) : Int32) ((F_Big_shiftRight (220 : Int32) (if (if 0 < (-a15 : Int32) then (-a15 : Int32) else 0 : Int32) < ((F_Big_lowestOne (220 : Int32) (p40.1 : Int32) (p40.2.1 : Int32) (p40.2.2 : (Nat → Int32))) : Int32) then (if 0 < (-a15 : Int32) then (-a15 : Int32) else 0 : Int32) else ((F_Big_lowestOne (220 : Int32) (p40.1 : Int32) (p40.2.1 : Int32) (p40.2.2 : (Nat → Int32))) : Int32) : Int32) (p40.1 : Int32) (p40.2.1 : Int32) (p40.2.2 : (Nat → Int32))) : (Int32 × Int32 × Int32 × (Nat → Int32))))
def F_Flo_exactly (A : Int32) (B : Int32) (C : Int32) (x2 : Int64) (t0_0 : Int32) (t0_1 : Int32) (t1_0 : (Nat → Int32)) : Int32 × Int32 × Int32 × (Nat → Int32) := F_Flo_exactly_c22 A B C x2 t0_0 t0_1 t1_0 ((F_Flo_power A B C x2) : Int32) ((F_Big_setLong (220 : Int32) ((F_Flo_number A B C x2) : Int64) t0_0 t0_1 t1_0) : (Int32 × Int32 × (Nat → Int32)))
set_option maxRecDepth 100000 in
set_option maxHeartbeats 4000000 in
theorem X_Flo_exactly (l : Launch) (D : va_G) (g : Nat → ClassId) (q : Nat → Nat) (ws : va_W) (k1 : Nat) (A B C : Int32) (hB1 : q_isFlo (nsh g q) q k1 A B C) (x2 : Int64) (hI : q_I (nsh g q) q ws) (t0_0 : Int32) (t0_1 : Int32) (hT0 : ws[10]? = (some (q 10, .inr (2, [.ref (q 11), .int t0_0, .int t0_1])) : Option (Nat × va_E))) (t1_0 : (Nat → Int32)) (hT1 : ws[11]? = (some (q 11, .inl (g 0, (220 : Int32).toNatClampNeg, .inl t1_0)) : Option (Nat × va_E))) : q_mI l y_Flo_exactly prog_7_method_15_code 7 (.int) 4 0 0 D g [.ref (q k1), .long x2] ws (fun r u => q_I (nsh g q) q u ∧ q_un ws u [10, 11] ∧ ∃ (u0_0 : Int32) (u0_1 : Int32) (u1_0 : (Nat → Int32)), u[10]? = (some (q 10, .inr (2, [.ref (q 11), .int u0_0, .int u0_1])) : Option (Nat × va_E)) ∧ u[11]? = (some (q 11, .inl (g 0, (220 : Int32).toNatClampNeg, .inl u1_0)) : Option (Nat × va_E)) ∧ (0 ≤ r.toInt) ∧ (0 ≤ u0_0.toInt) ∧ (u0_0.toInt ≤ 220) ∧ (0 ≤ u0_1.toInt) ∧ (u0_1.toInt ≤ 1) ∧ (r, u0_0, u0_1, u1_0) = (F_Flo_exactly A B C x2 t0_0 t0_1 t1_0)) := by
  intro sz
  refine q_into (by decide) (Nat.le_of_ble_eq_true rfl) ?_
  intro p e s m below meth c ls hsz C0 V hl
  have hx := C0.1
  have hb := C0.2.1
  have btt0_1 := (q_bigW hI (n_b10 g q) hT0).2
  clear btt0_1
  have hF : q_un ws ws [10, 11] := q_u0
  have hl : lv_has ls 7 [(0, .ref (q k1)), (1, .long x2)] := hl
  refine lv_aload_n hx hb d_7_15_0 rfl (lv_at hl 0 rfl) ?_
  refine lv_lload_n hx hb d_7_15_1 rfl (lv_at hl 1 rfl) ?_
  obtain ⟨y10, y11, y12, hO9⟩ := n_flO hI hB1
  refine q_goi V (q_runV (As := [.long x2]) (rest := []) (d := 2) (mc := 0) (ms := 0) (ci := 6) C0 V rfl LV_Flo_52 (X_Flo_power l D g q ws k1 A B C hB1 x2 hI   _) rfl rfl hO9 rfl hl.1 rfl (Nat.le_of_ble_eq_true rfl) ⟨by decide, by decide⟩ ⟨Nat.le_of_ble_eq_true rfl, Nat.le_of_ble_eq_true rfl⟩ d_7_15_2) (fun a15 u13 H locs hp14 V => ?_)
  obtain ⟨rfl, b16, b17, hE18⟩ := hp14
  have e19 : a15 = (F_Flo_power A B C x2) := hE18
  clear b16
  clear b17
  refine lv_istore_n (lv' := [(3, .int a15), (0, .ref (q k1)), (1, .long x2)]) hx hb d_7_15_5 rfl hl (by decide) rfl (fun ls hl => ?_)
  refine lv_aload_n hx hb d_7_15_6 rfl (lv_at hl 1 rfl) ?_
  refine q_get (ci := 6) (j := 5) (v := .ref (q 9)) C0 V i_Flo rfl rfl hO9 (by decide) w_241 rfl d_7_15_7 ?_
  have hO20 := n_o9 hI
  refine q_get (ci := 4) (j := 0) (v := .ref (q 10)) C0 V i_Mil rfl rfl hO20 (by decide) w_113 rfl d_7_15_10 ?_
  refine lv_astore (lv' := [(4, .ref (q 10)), (3, .int a15), (0, .ref (q k1)), (1, .long x2)]) hx hb d_7_15_13 hl (by decide) rfl (fun ls hl => ?_)
  refine lv_aload hx hb d_7_15_15 (lv_at hl 0 rfl) ?_
  refine lv_aload_n hx hb d_7_15_17 rfl (lv_at hl 2 rfl) ?_
  refine lv_lload_n hx hb d_7_15_18 rfl (lv_at hl 3 rfl) ?_
  refine q_gol V (q_runV (As := [.long x2]) (rest := [.ref (q 10)]) (d := 2) (mc := 0) (ms := 0) (ci := 6) C0 V rfl LV_Flo_61 (X_Flo_number l D g q ws k1 A B C hB1 x2 hI   _) rfl rfl hO9 rfl hl.1 rfl (Nat.le_of_ble_eq_true rfl) ⟨by decide, by decide⟩ ⟨Nat.le_of_ble_eq_true rfl, Nat.le_of_ble_eq_true rfl⟩ d_7_15_19) (fun j23 u21 H locs hp22 V => ?_)
  obtain ⟨rfl, hE24⟩ := hp22
  have e25 : j23 = (F_Flo_number A B C x2) := hE24
  refine q_gov V (q_runV (As := [.long j23]) (rest := []) (d := 2) (mc := 0) (ms := 0) (ci := 2) C0 V rfl LV_Flo_63 (X_Big_setLong l D g q ws 10 220 (n_b10 g q) (by decide) j23 hI t0_0 t0_1 hT0 t1_0 hT1  _) rfl rfl hT0 rfl hl.1 rfl (Nat.le_of_ble_eq_true rfl) ⟨by decide, by decide⟩ ⟨Nat.le_of_ble_eq_true rfl, Nat.le_of_ble_eq_true rfl⟩ d_7_15_22) (fun u26 H locs hp27 V => ?_)
  obtain ⟨hI, hZ9⟩ := hp27
  obtain ⟨hu39, hZ9⟩ := hZ9
  obtain ⟨y29, hZ9⟩ := hZ9
  obtain ⟨y30, hZ9⟩ := hZ9
  obtain ⟨f31, hZ9⟩ := hZ9
  obtain ⟨hO28, hZ9⟩ := hZ9
  obtain ⟨hA32, hZ9⟩ := hZ9
  obtain ⟨b33, hZ9⟩ := hZ9
  obtain ⟨b34, hZ9⟩ := hZ9
  obtain ⟨b35, hZ9⟩ := hZ9
  obtain ⟨b36, hZ9⟩ := hZ9
  obtain ⟨-, hE38⟩ := hZ9
  replace hO28 : u26[10]? = (some (q 10, .inr (2, [.ref (q 11), .int y29, .int y30])) : Option (Nat × va_E)) := hO28
  replace hA32 : u26[11]? = (some (q 11, .inl (g 0, (220 : Int32).toNatClampNeg, .inl f31)) : Option (Nat × va_E)) := hA32
  obtain ⟨p40, e41⟩ : ∃ z, z = (F_Big_setLong (220 : Int32) j23 t0_0 t0_1 t1_0) := ⟨_, rfl⟩
  have e42 : y29 = p40.1 := congrArg (fun z => z.1) (hE38.trans e41.symm)
  have e43 : y30 = p40.2.1 := congrArg (fun z => z.2.1) (hE38.trans e41.symm)
  have e44 : f31 = p40.2.2 := congrArg (fun z => z.2.2) (hE38.trans e41.symm)
  replace b33 : q_F (0 ≤ y29.toInt) := b33
  replace b34 : q_F (y29.toInt ≤ 3) := b34
  replace b35 : q_F (0 ≤ y30.toInt) := b35
  replace b36 : q_F (y30.toInt ≤ 1) := b36
  replace hO9 := (hu39 _ (by have z0 := hB1.2.2.2.2; simp only [List.mem_cons, List.not_mem_nil, or_false, not_or]; omega)).trans hO9
  replace hF := q_uc hF hu39 (by simp)
  have hR45 := (show F_Flo_exactly_c22 A B C x2 t0_0 t0_1 t1_0 a15 p40 = (F_Flo_exactly A B C x2 t0_0 t0_1 t1_0) from (by rw [e41, e25, e19, F_Flo_exactly.eq_1]))
  refine lv_aload hx hb d_7_15_25 (lv_at hl 0 rfl) ?_
  refine q_get (ci := 2) (j := 1) (v := .int y29) C0 V i_Big rfl rfl hO28 (by decide) w_92 rfl d_7_15_27 ?_
  refine lv_if_ne (tgt := 35) hx hb d_7_15_30 (by decide) (fun c50 => ?_) (fun c50 => ?_)
  ·
    refine lv_aload hx hb d_7_15_35 (lv_at hl 0 rfl) ?_
    refine q_goi V (q_runV (As := []) (rest := []) (d := 2) (mc := 0) (ms := 0) (ci := 2) C0 V rfl LV_Flo_84 (X_Big_lowestOne l D g q u26 10 220 (n_b10 g q) (by decide)  hI y29 y30 hO28 f31 hA32  _) rfl rfl hO28 rfl hl.1 rfl (Nat.le_of_ble_eq_true rfl) ⟨by decide, by decide⟩ ⟨Nat.le_of_ble_eq_true rfl, Nat.le_of_ble_eq_true rfl⟩ d_7_15_37) (fun a54 u52 H locs hp53 V => ?_)
    obtain ⟨rfl, b55, b56, hE57⟩ := hp53
    have e58 : a54 = (F_Big_lowestOne (220 : Int32) y29 y30 f31) := hE57
    clear b55
    clear b56
    refine lv_iconst (v := 0) hx hb d_7_15_40 (by decide) ?_
    refine lv_iload_n hx hb d_7_15_41 rfl (lv_at hl 1 rfl) ?_
    refine lv_ineg hx hb d_7_15_42 ?_
    obtain ⟨a59, e60⟩ := q_nm (-a15 : Int32)
    refine q_ti (v := a59) e60 ?_
    refine q_max C0 hl.1 rfl w_802 w_803 w_7 w_804 ⟨Nat.le_of_ble_eq_true rfl, Nat.le_of_ble_eq_true rfl⟩ ⟨Nat.le_of_ble_eq_true rfl, Nat.le_of_ble_eq_true rfl⟩ d_7_15_43 ?_
    obtain ⟨a62, e63⟩ := q_nm (if 0 < a59 then a59 else 0 : Int32)
    refine q_ti (v := a62) e63 ?_
    refine q_min C0 hl.1 rfl w_1516 w_774 w_7 w_775 ⟨Nat.le_of_ble_eq_true rfl, Nat.le_of_ble_eq_true rfl⟩ ⟨Nat.le_of_ble_eq_true rfl, Nat.le_of_ble_eq_true rfl⟩ d_7_15_46 ?_
    obtain ⟨a65, e66⟩ := q_nm (if a62 < a54 then a62 else a54 : Int32)
    refine q_ti (v := a65) e66 ?_
    refine lv_istore (lv' := [(5, .int a65), (4, .ref (q 10)), (3, .int a15), (0, .ref (q k1)), (1, .long x2)]) hx hb d_7_15_49 hl (by decide) rfl (fun ls hl => ?_)
    refine lv_aload hx hb d_7_15_51 (lv_at hl 1 rfl) ?_
    refine lv_iload hx hb d_7_15_53 (lv_at hl 0 rfl) ?_
    refine q_goi V (q_runV (As := [.int a65]) (rest := []) (d := 3) (mc := 0) (ms := 0) (ci := 2) C0 V rfl LV_Flo_73 (X_Big_shiftRight l D g q u26 10 220 (n_b10 g q) (by decide) a65 hI y29 y30 hO28 f31 hA32  _) rfl rfl hO28 rfl hl.1 rfl (Nat.le_of_ble_eq_true rfl) ⟨by decide, by decide⟩ ⟨Nat.le_of_ble_eq_true rfl, Nat.le_of_ble_eq_true rfl⟩ d_7_15_55) (fun a70 u68 H locs hp69 V => ?_)
    obtain ⟨hI, hZ9⟩ := hp69
    obtain ⟨hu84, hZ9⟩ := hZ9
    obtain ⟨y72, hZ9⟩ := hZ9
    obtain ⟨y73, hZ9⟩ := hZ9
    obtain ⟨f74, hZ9⟩ := hZ9
    obtain ⟨hO71, hZ9⟩ := hZ9
    obtain ⟨hA75, hZ9⟩ := hZ9
    replace hZ9 := hZ9.2.2.2.2.2.2
    obtain ⟨-, hE83⟩ := hZ9
    replace hO71 : u68[10]? = (some (q 10, .inr (2, [.ref (q 11), .int y72, .int y73])) : Option (Nat × va_E)) := hO71
    replace hA75 : u68[11]? = (some (q 11, .inl (g 0, (220 : Int32).toNatClampNeg, .inl f74)) : Option (Nat × va_E)) := hA75
    obtain ⟨p85, e86⟩ : ∃ z, z = (F_Big_shiftRight (220 : Int32) a65 y29 y30 f31) := ⟨_, rfl⟩
    have e87 : a70 = p85.1 := congrArg (fun z => z.1) (hE83.trans e86.symm)
    have e88 : y72 = p85.2.1 := congrArg (fun z => z.2.1) (hE83.trans e86.symm)
    have e89 : y73 = p85.2.2.1 := congrArg (fun z => z.2.2.1) (hE83.trans e86.symm)
    have e90 : f74 = p85.2.2.2 := congrArg (fun z => z.2.2.2) (hE83.trans e86.symm)
    replace hO9 := (hu84 _ (by have z0 := hB1.2.2.2.2; simp only [List.mem_cons, List.not_mem_nil, or_false, not_or]; omega)).trans hO9
    replace hF := q_uc hF hu84 (by simp)
    have hR91 := (show F_Flo_exactly_c55 A B C x2 t0_0 t0_1 t1_0 a15 p40 a65 p85 = (F_Flo_exactly A B C x2 t0_0 t0_1 t1_0) from Eq.trans (by have c50x := c50; rw [e42] at c50x; rw [e86, ← e66, ← e63, ← e60, e58, e44, e43, e42, F_Flo_exactly_c22.eq_1, if_neg c50x]) hR45)
    refine lv_pop hx hb d_7_15_58 rfl ?_
    refine lv_aload hx hb d_7_15_59 (lv_at hl 1 rfl) ?_
    refine lv_iload_n hx hb d_7_15_61 rfl (lv_at hl 2 rfl) ?_
    refine q_gov V (q_runV (As := [.int a15]) (rest := []) (d := 3) (mc := 0) (ms := 0) (ci := 2) C0 V rfl LV_Flo_69 (X_Big_shiftLeft l D g q u68 10 220 (n_b10 g q) (by decide) a15 hI y72 y73 hO71 f74 hA75  _) rfl rfl hO71 rfl hl.1 rfl (Nat.le_of_ble_eq_true rfl) ⟨by decide, by decide⟩ ⟨Nat.le_of_ble_eq_true rfl, Nat.le_of_ble_eq_true rfl⟩ d_7_15_62) (fun u96 H locs hp97 V => ?_)
    obtain ⟨hI, hZ9⟩ := hp97
    obtain ⟨hu109, hZ9⟩ := hZ9
    obtain ⟨y99, hZ9⟩ := hZ9
    obtain ⟨y100, hZ9⟩ := hZ9
    obtain ⟨f101, hZ9⟩ := hZ9
    obtain ⟨hO98, hZ9⟩ := hZ9
    obtain ⟨hA102, hZ9⟩ := hZ9
    obtain ⟨b103, hZ9⟩ := hZ9
    replace hZ9 := hZ9.2.2.2
    obtain ⟨-, hE108⟩ := hZ9
    replace hO98 : u96[10]? = (some (q 10, .inr (2, [.ref (q 11), .int y99, .int y100])) : Option (Nat × va_E)) := hO98
    replace hA102 : u96[11]? = (some (q 11, .inl (g 0, (220 : Int32).toNatClampNeg, .inl f101)) : Option (Nat × va_E)) := hA102
    obtain ⟨p110, e111⟩ : ∃ z, z = (F_Big_shiftLeft (220 : Int32) a15 y72 y73 f74) := ⟨_, rfl⟩
    have e112 : y99 = p110.1 := congrArg (fun z => z.1) (hE108.trans e111.symm)
    have e113 : y100 = p110.2.1 := congrArg (fun z => z.2.1) (hE108.trans e111.symm)
    have e114 : f101 = p110.2.2 := congrArg (fun z => z.2.2) (hE108.trans e111.symm)
    replace b103 : q_F (0 ≤ y99.toInt) := b103
    replace hO9 := (hu109 _ (by have z0 := hB1.2.2.2.2; simp only [List.mem_cons, List.not_mem_nil, or_false, not_or]; omega)).trans hO9
    replace hF := q_uc hF hu109 (by simp)
    have hR115 := (show F_Flo_exactly_c62 A B C x2 t0_0 t0_1 t1_0 a15 p40 a65 p85 p110 = (F_Flo_exactly A B C x2 t0_0 t0_1 t1_0) from Eq.trans (by rw [e111, e90, e89, e88, F_Flo_exactly_c55.eq_1]) hR91)
    refine lv_iconst (v := 0) hx hb d_7_15_65 (by decide) ?_
    refine lv_iload_n hx hb d_7_15_66 rfl (lv_at hl 2 rfl) ?_
    refine lv_ineg hx hb d_7_15_67 ?_
    obtain ⟨a120, e121⟩ := q_nm (-a15 : Int32)
    refine q_ti (v := a120) e121 ?_
    refine lv_iload hx hb d_7_15_68 (lv_at hl 0 rfl) ?_
    refine lv_isub hx hb d_7_15_70 ?_
    obtain ⟨a123, e124⟩ := q_nm (a120 - a65 : Int32)
    refine q_ti (v := a123) e124 ?_
    refine q_max C0 hl.1 rfl w_802 w_803 w_7 w_804 ⟨Nat.le_of_ble_eq_true rfl, Nat.le_of_ble_eq_true rfl⟩ ⟨Nat.le_of_ble_eq_true rfl, Nat.le_of_ble_eq_true rfl⟩ d_7_15_71 ?_
    obtain ⟨a126, e127⟩ := q_nm (if 0 < a123 then a123 else 0 : Int32)
    refine q_ti (v := a126) e127 ?_
    have b128 : q_F (0 ≤ a126.toInt ∧ a123.toInt ≤ a126.toInt ∧ (a126.toInt = 0 ∨ a126.toInt = a123.toInt)) := (by rw [← e127]; show 0 ≤ (if 0 < a123 then a123 else 0 : Int32).toInt ∧ a123.toInt ≤ (if 0 < a123 then a123 else 0 : Int32).toInt ∧ ((if 0 < a123 then a123 else 0 : Int32).toInt = 0 ∨ (if 0 < a123 then a123 else 0 : Int32).toInt = a123.toInt); exact (by have y0 : (0 : Int32).toInt = 0 := rfl; have z := s_max (a := 0) (b := a123); omega))
    refine lv_istore (lv' := [(6, .int a126), (5, .int a65), (4, .ref (q 10)), (3, .int a15), (0, .ref (q k1)), (1, .long x2)]) hx hb d_7_15_74 hl (by decide) rfl (fun ls hl => ?_)
    refine lv_aload hx hb d_7_15_76 (lv_at hl 2 rfl) ?_
    refine lv_iload hx hb d_7_15_78 (lv_at hl 0 rfl) ?_
    refine q_gov V (q_runV (As := [.int a126]) (rest := []) (d := 2) (mc := 0) (ms := 0) (ci := 2) C0 V rfl LV_Flo_91 (X_Big_timesFive l D g q u96 10 220 (n_b10 g q) (by decide) a126 hI y99 y100 hO98 f101 hA102  _) rfl rfl hO98 rfl hl.1 rfl (Nat.le_of_ble_eq_true rfl) ⟨by decide, by decide⟩ ⟨Nat.le_of_ble_eq_true rfl, Nat.le_of_ble_eq_true rfl⟩ d_7_15_80) (fun u129 H locs hp130 V => ?_)
    obtain ⟨hI, hZ9⟩ := hp130
    obtain ⟨hu141, hZ9⟩ := hZ9
    obtain ⟨y132, hZ9⟩ := hZ9
    obtain ⟨y133, hZ9⟩ := hZ9
    obtain ⟨f134, hZ9⟩ := hZ9
    obtain ⟨hO131, hZ9⟩ := hZ9
    obtain ⟨hA135, hZ9⟩ := hZ9
    obtain ⟨b136, hZ9⟩ := hZ9
    obtain ⟨b137, hZ9⟩ := hZ9
    replace hZ9 := hZ9.2
    obtain ⟨-, hE140⟩ := hZ9
    replace hO131 : u129[10]? = (some (q 10, .inr (2, [.ref (q 11), .int y132, .int y133])) : Option (Nat × va_E)) := hO131
    replace hA135 : u129[11]? = (some (q 11, .inl (g 0, (220 : Int32).toNatClampNeg, .inl f134)) : Option (Nat × va_E)) := hA135
    obtain ⟨p142, e143⟩ : ∃ z, z = (F_Big_timesFive (220 : Int32) a126 y99 y100 f101) := ⟨_, rfl⟩
    have e144 : y132 = p142.1 := congrArg (fun z => z.1) (hE140.trans e143.symm)
    have e145 : y133 = p142.2.1 := congrArg (fun z => z.2.1) (hE140.trans e143.symm)
    have e146 : f134 = p142.2.2 := congrArg (fun z => z.2.2) (hE140.trans e143.symm)
    replace b136 : q_F (y99.toInt ≤ y132.toInt) := b136
    replace b137 : q_F (y132.toInt ≤ 220) := b137
    replace hO9 := (hu141 _ (by have z0 := hB1.2.2.2.2; simp only [List.mem_cons, List.not_mem_nil, or_false, not_or]; omega)).trans hO9
    replace hF := q_uc hF hu141 (by simp)
    have hR147 := (show F_Flo_exactly_c80 A B C x2 t0_0 t0_1 t1_0 a15 p40 a65 p85 p110 a126 p142 = (F_Flo_exactly A B C x2 t0_0 t0_1 t1_0) from Eq.trans (by rw [e143, ← e127, ← e124, ← e121, e114, e113, e112, F_Flo_exactly_c62.eq_1]) hR115)
    refine lv_aload hx hb d_7_15_83 (lv_at hl 2 rfl) ?_
    refine lv_aload_n hx hb d_7_15_85 rfl (lv_at hl 4 rfl) ?_
    refine lv_lload_n hx hb d_7_15_86 rfl (lv_at hl 5 rfl) ?_
    refine q_goi V (q_runV (As := [.long x2]) (rest := [.ref (q 10)]) (d := 2) (mc := 0) (ms := 0) (ci := 6) C0 V rfl LV_Flo_43 (X_Flo_isNegative l D g q u129 k1 A B C hB1 x2 hI   _) rfl rfl hO9 rfl hl.1 rfl (Nat.le_of_ble_eq_true rfl) ⟨by decide, by decide⟩ ⟨Nat.le_of_ble_eq_true rfl, Nat.le_of_ble_eq_true rfl⟩ d_7_15_87) (fun a154 u152 H locs hp153 V => ?_)
    obtain ⟨rfl, b155, b156, hE157⟩ := hp153
    have e158 : a154 = (F_Flo_isNegative A B C x2) := hE157
    replace b155 : q_F (0 ≤ a154.toInt) := b155
    replace b156 : q_F (a154.toInt ≤ 1) := b156
    refine q_put (ci := 2) (j := 2) (v := .int a154) (ty := .boolean) C0 V i_Big o_Big n_Big rfl rfl hO131 (by decide) w_99 rfl rfl (q_nz01 (q_Ile (x := 0) (y := a154.toInt) (by decide) rfl (by first | with_reducible exact q_fe b155 | (have t1 : 0 ≤ a154.toInt := b155; omega))) (q_Ile (x := a154.toInt) (y := 1) rfl (by decide) (by first | with_reducible exact q_fe b156 | (have t1 : a154.toInt ≤ 1 := b156; omega)))) (q_fz01 (q_Ile (x := 0) (y := a154.toInt) (by decide) rfl (by first | with_reducible exact q_fe b155 | (have t1 : 0 ≤ a154.toInt := b155; omega))) (q_Ile (x := a154.toInt) (y := 1) rfl (by decide) (by first | with_reducible exact q_fe b156 | (have t1 : a154.toInt ≤ 1 := b156; omega)))) (Nat.le_of_ble_eq_true rfl) d_7_15_90 (fun H locs w159 hu160 hO131 V => ?_)
    replace hO131 : w159[10]? = (some (q 10, .inr (2, [.ref (q 11), .int y132, .int a154])) : Option (Nat × va_E)) := hO131
    replace hI := q_bigO' hI (n_b10 g q) hu160 hO131 ⟨(by have zR : (220 : Int32).toInt = 220 := rfl; have t1 : 0 ≤ y99.toInt := b103; have t2 : y99.toInt ≤ y132.toInt := b136; omega), (by have zR : (220 : Int32).toInt = 220 := rfl; have t1 : y132.toInt ≤ 220 := b137; omega)⟩ ⟨(by first | with_reducible exact q_fe b155 | (have t1 : 0 ≤ a154.toInt := b155; omega)), (by first | with_reducible exact q_fe b156 | (have t1 : a154.toInt ≤ 1 := b156; omega))⟩
    replace hA135 := (hu160 _ (by decide)).trans hA135
    replace hF := q_us hF hu160 (by simp)
    refine lv_iload hx hb d_7_15_93 (lv_at hl 0 rfl) ?_
    exact q_reti C0 V (⟨hI, hF, y132, a154, f134, hO131, hA135, (show 0 ≤ a126.toInt from (by have t1 : 0 ≤ a126.toInt ∧ a123.toInt ≤ a126.toInt ∧ (a126.toInt = 0 ∨ a126.toInt = a123.toInt) := b128; omega)), (show 0 ≤ y132.toInt from (by have t1 : 0 ≤ y99.toInt := b103; have t2 : y99.toInt ≤ y132.toInt := b136; omega)), (show y132.toInt ≤ 220 from (by first | with_reducible exact q_fe b137 | (have t1 : y132.toInt ≤ 220 := b137; omega))), (show 0 ≤ a154.toInt from (by first | with_reducible exact q_fe b155 | (have t1 : 0 ≤ a154.toInt := b155; omega))), (show a154.toInt ≤ 1 from (by first | with_reducible exact q_fe b156 | (have t1 : a154.toInt ≤ 1 := b156; omega))), (show (a126, y132, a154, f134) = (F_Flo_exactly A B C x2 t0_0 t0_1 t1_0) from Eq.trans (by rw [e158, e146, e144, F_Flo_exactly_c80.eq_1]) hR147)⟩) d_7_15_95
  ·
    refine lv_iconst (v := 0) hx hb d_7_15_33 (by decide) ?_
    exact q_reti C0 V (⟨hI, hF, y29, y30, f31, hO28, hA32, (show 0 ≤ (0 : Int32).toInt from (by have z7 : (0 : Int32).toInt = 0 := rfl; omega)), (show 0 ≤ y29.toInt from (by have z7 : (0 : Int32).toInt = 0 := rfl; have t1 : 0 ≤ y29.toInt := b33; omega)), (show y29.toInt ≤ 220 from (by have z7 : (0 : Int32).toInt = 0 := rfl; have t1 : y29.toInt ≤ 3 := b34; omega)), (show 0 ≤ y30.toInt from (by have z7 : (0 : Int32).toInt = 0 := rfl; have t1 : 0 ≤ y30.toInt := b35; omega)), (show y30.toInt ≤ 1 from (by have z7 : (0 : Int32).toInt = 0 := rfl; have t1 : y30.toInt ≤ 1 := b36; omega)), (show ((0 : Int32), y29, y30, f31) = (F_Flo_exactly A B C x2 t0_0 t0_1 t1_0) from Eq.trans (by have c50x := c50; rw [e42] at c50x; rw [e44, e43, e42, F_Flo_exactly_c22.eq_1, if_pos c50x]) hR45)⟩) d_7_15_34
def F_Flo_nearest_J208 (K_F_Flo_nearest_L102 : Int32 → Int64 → Int64) (A : Int32) (B : Int32) (C : Int32) (R2 : Int32) (x3 : Int64) (x4 : Int32) (t0_0 : Int32) (t0_1 : Int32) (t1_0 : (Nat → Int32)) (a89 : Int32) (a82 : Int32) (lx96 : Int32) (lx97 : Int64) (lx108 : Int32) (lx119 : Int32) : Int64 := (((((a82 + B : Int32) - 1 : Int32).toInt64 : Int64) <<< (A.toInt64 &&& 63) : Int64) + (lx97 + 1 : Int64) : Int64)
def F_Flo_nearest_J187 (K_F_Flo_nearest_L102 : Int32 → Int64 → Int64) (A : Int32) (B : Int32) (C : Int32) (R2 : Int32) (x3 : Int64) (x4 : Int32) (t0_0 : Int32) (t0_1 : Int32) (t1_0 : (Nat → Int32)) (a89 : Int32) (a82 : Int32) (lx96 : Int32) (lx97 : Int64) (lx108 : Int32) (lx119 : Int32) : Int64 := if lx108 = (0 : Int32) then ((((((a82 + B : Int32) - 1 : Int32).toInt64 : Int64) <<< (A.toInt64 &&& 63) : Int64) + lx97 : Int64)) else (if lx119 = (0 : Int32) then (if (lg_cmp (lx97 &&& 1 : Int64) 1 : Int32) = (0 : Int32) then (F_Flo_nearest_J208 K_F_Flo_nearest_L102 A B C R2 x3 x4 t0_0 t0_1 t1_0 a89 a82 lx96 lx97 lx108 lx119) else ((((((a82 + B : Int32) - 1 : Int32).toInt64 : Int64) <<< (A.toInt64 &&& 63) : Int64) + lx97 : Int64))) else (F_Flo_nearest_J208 K_F_Flo_nearest_L102 A B C R2 x3 x4 t0_0 t0_1 t1_0 a89 a82 lx96 lx97 lx108 lx119))
def F_Flo_nearest_J182 (K_F_Flo_nearest_L102 : Int32 → Int64 → Int64) (A : Int32) (B : Int32) (C : Int32) (R2 : Int32) (x3 : Int64) (x4 : Int32) (t0_0 : Int32) (t0_1 : Int32) (t1_0 : (Nat → Int32)) (a89 : Int32) (a82 : Int32) (lx96 : Int32) (lx97 : Int64) (lx108 : Int32) : Int64 := F_Flo_nearest_J187 K_F_Flo_nearest_L102 A B C R2 x3 x4 t0_0 t0_1 t1_0 a89 a82 lx96 lx97 lx108 1
def F_Flo_nearest_J164 (K_F_Flo_nearest_L102 : Int32 → Int64 → Int64) (A : Int32) (B : Int32) (C : Int32) (R2 : Int32) (x3 : Int64) (x4 : Int32) (t0_0 : Int32) (t0_1 : Int32) (t1_0 : (Nat → Int32)) (a89 : Int32) (a82 : Int32) (lx96 : Int32) (lx97 : Int64) (lx108 : Int32) : Int64 := if x4 = (0 : Int32) then (if (a89 - 1 : Int32) ≤ ((F_Big_lowestOne R2 t0_0 t0_1 t1_0) : Int32) then (F_Flo_nearest_J187 K_F_Flo_nearest_L102 A B C R2 x3 x4 t0_0 t0_1 t1_0 a89 a82 lx96 lx97 lx108 0) else (F_Flo_nearest_J182 K_F_Flo_nearest_L102 A B C R2 x3 x4 t0_0 t0_1 t1_0 a89 a82 lx96 lx97 lx108)) else (F_Flo_nearest_J182 K_F_Flo_nearest_L102 A B C R2 x3 x4 t0_0 t0_1 t1_0 a89 a82 lx96 lx97 lx108)
def F_Flo_nearest_J163 (K_F_Flo_nearest_L102 : Int32 → Int64 → Int64) (A : Int32) (B : Int32) (C : Int32) (R2 : Int32) (x3 : Int64) (x4 : Int32) (t0_0 : Int32) (t0_1 : Int32) (t1_0 : (Nat → Int32)) (a89 : Int32) (a82 : Int32) (lx96 : Int32) (lx97 : Int64) : Int64 := F_Flo_nearest_J164 K_F_Flo_nearest_L102 A B C R2 x3 x4 t0_0 t0_1 t1_0 a89 a82 lx96 lx97 0
def F_Flo_nearest_L102 (A : Int32) (B : Int32) (C : Int32) (R2 : Int32) (x3 : Int64) (x4 : Int32) (t0_0 : Int32) (t0_1 : Int32) (t1_0 : (Nat → Int32)) (a89 : Int32) (a82 : Int32) : Nat → Int32 → Int64 → Int64
  | 0, _, _ => default
  | fm + 1, lx96, lx97 => if lx96 < (0 : Int32) then (if a89 ≤ (0 : Int32) then (F_Flo_nearest_J163 (F_Flo_nearest_L102 A B C R2 x3 x4 t0_0 t0_1 t1_0 a89 a82 fm) A B C R2 x3 x4 t0_0 t0_1 t1_0 a89 a82 lx96 lx97) else (if ((F_Big_bit R2 (a89 - 1 : Int32) t0_0 t0_1 t1_0) : Int32) = (1 : Int32) then (F_Flo_nearest_J164 (F_Flo_nearest_L102 A B C R2 x3 x4 t0_0 t0_1 t1_0 a89 a82 fm) A B C R2 x3 x4 t0_0 t0_1 t1_0 a89 a82 lx96 lx97 1) else (F_Flo_nearest_J163 (F_Flo_nearest_L102 A B C R2 x3 x4 t0_0 t0_1 t1_0 a89 a82 fm) A B C R2 x3 x4 t0_0 t0_1 t1_0 a89 a82 lx96 lx97))) else (if (a89 + lx96 : Int32) < (0 : Int32) then (F_Flo_nearest_L102 A B C R2 x3 x4 t0_0 t0_1 t1_0 a89 a82 fm (lx96 + (-1) : Int32) ((lx97 <<< ((1 : Int32).toInt64 &&& 63) : Int64) ||| 0 : Int64)) else (F_Flo_nearest_L102 A B C R2 x3 x4 t0_0 t0_1 t1_0 a89 a82 fm (lx96 + (-1) : Int32) ((lx97 <<< ((1 : Int32).toInt64 &&& 63) : Int64) ||| (((F_Big_bit R2 (a89 + lx96 : Int32) t0_0 t0_1 t1_0) : Int32).toInt64 : Int64) : Int64)))
def F_Flo_nearest (A : Int32) (B : Int32) (C : Int32) (R2 : Int32) (x3 : Int64) (x4 : Int32) (t0_0 : Int32) (t0_1 : Int32) (t1_0 : (Nat → Int32)) : Int64 := if ((F_Big_bitLength R2 t0_0 t0_1 t1_0) : Int32) = (0 : Int32) then ((0 : Int64)) else (if (0 : Int32) ≤ (lg_cmp ((((F_Big_bitLength R2 t0_0 t0_1 t1_0) : Int32).toInt64 : Int64) + x3 : Int64) (-3000) : Int32) then (if (lg_cmp ((((((F_Big_bitLength R2 t0_0 t0_1 t1_0) : Int32).toInt64 : Int64) + x3 : Int64) - (A.toInt64 : Int64) : Int64) - 1 : Int64) ((C - B : Int32).toInt64 : Int64) : Int32) < (0 : Int32) then (F_Flo_nearest_L102 A B C R2 x3 x4 t0_0 t0_1 t1_0 ((((((F_jMath_max_JJJ ((((((F_Big_bitLength R2 t0_0 t0_1 t1_0) : Int32).toInt64 : Int64) + x3 : Int64) - (A.toInt64 : Int64) : Int64) - 1 : Int64) ((1 - B : Int32).toInt64 : Int64)) : Int64).toInt32 : Int32).toInt64 : Int64) - x3 : Int64).toInt32 : Int32) (((F_jMath_max_JJJ ((((((F_Big_bitLength R2 t0_0 t0_1 t1_0) : Int32).toInt64 : Int64) + x3 : Int64) - (A.toInt64 : Int64) : Int64) - 1 : Int64) ((1 - B : Int32).toInt64 : Int64)) : Int64).toInt32 : Int32) (((A + 1 : Int32).toInt - ((-1))).toNat + 1) (A + 1 : Int32) 0) else (((F_Flo_infinity A B C) : Int64))) else ((0 : Int64)))
set_option maxRecDepth 100000 in
set_option maxHeartbeats 4000000 in
theorem X_Flo_nearest (l : Launch) (D : va_G) (g : Nat → ClassId) (q : Nat → Nat) (ws : va_W) (k1 : Nat) (A B C : Int32) (hB1 : q_isFlo (nsh g q) q k1 A B C) (k2 : Nat) (R2 : Int32) (hB2 : q_isBig (nsh g q) g q k2 R2) (zk2 : (10 ≤ k2 ∧ k2 ≤ 32) ∨ 66 ≤ k2) (x3 : Int64) (x4 : Int32) (hI : q_I (nsh g q) q ws) (t0_0 : Int32) (t0_1 : Int32) (hT0 : ws[k2]? = (some (q k2, .inr (2, [.ref (q (k2 + 1)), .int t0_0, .int t0_1])) : Option (Nat × va_E))) (t1_0 : (Nat → Int32)) (hT1 : ws[k2 + 1]? = (some (q (k2 + 1), .inl (g 0, R2.toNatClampNeg, .inl t1_0)) : Option (Nat × va_E))) (hzx4 : 0 ≤ x4.toInt ∧ x4.toInt ≤ 1) : q_mL l y_Flo_nearest prog_7_method_17_code 12 4 0 0 D g [.ref (q k1), .ref (q k2), .long x3, .int x4] ws (fun r u => ws = u ∧ r = (F_Flo_nearest A B C R2 x3 x4 t0_0 t0_1 t1_0)) := by
  intro sz
  refine q_into (by decide) (Nat.le_of_ble_eq_true rfl) ?_
  intro p e s m below meth c ls hsz C0 V hl
  have hx := C0.1
  have hb := C0.2.1
  have hfk10 : q_F (23 ≤ A.toInt ∧ A.toInt ≤ 52) := hB1.2.1
  replace hzx4 : q_F (0 ≤ x4.toInt ∧ x4.toInt ≤ 1) := hzx4
  have btt0_1 := (q_bigW hI hB2 hT0).2
  clear btt0_1
  have hl : lv_has ls 12 [(0, .ref (q k1)), (1, .ref (q k2)), (2, .long x3), (4, .int x4)] := hl
  refine lv_aload_n hx hb d_7_17_0 rfl (lv_at hl 1 rfl) ?_
  refine q_goi V (q_runV (As := []) (rest := []) (d := 3) (mc := 0) (ms := 0) (ci := 2) C0 V rfl LV_Flo_104 (X_Big_bitLength l D g q ws k2 R2 hB2 zk2  hI t0_0 t0_1 hT0 t1_0 hT1  _) rfl rfl hT0 rfl hl.1 rfl (Nat.le_of_ble_eq_true rfl) ⟨by decide, by decide⟩ ⟨Nat.le_of_ble_eq_true rfl, Nat.le_of_ble_eq_true rfl⟩ d_7_17_1) (fun a11 u9 H locs hp10 V => ?_)
  obtain ⟨rfl, b12, b13, b14, hE15⟩ := hp10
  have e16 : a11 = (F_Big_bitLength R2 t0_0 t0_1 t1_0) := hE15
  clear b12
  clear b13
  clear b14
  refine lv_istore (lv' := [(5, .int a11), (0, .ref (q k1)), (1, .ref (q k2)), (2, .long x3), (4, .int x4)]) hx hb d_7_17_4 hl (by decide) rfl (fun ls hl => ?_)
  refine lv_iload hx hb d_7_17_6 (lv_at hl 0 rfl) ?_
  refine lv_if_eq (tgt := 23) hx hb d_7_17_8 (by decide) (fun c17 => ?_) (fun c17 => ?_)
  ·
    refine lv_lconst (v := 0) hx hb d_7_17_23 (by decide) ?_
    exact q_retl C0 V (⟨rfl, (show (0 : Int64) = (F_Flo_nearest A B C R2 x3 x4 t0_0 t0_1 t1_0) from (by have c17x := c17; rw [e16] at c17x; rw [F_Flo_nearest.eq_1, if_pos c17x]))⟩) d_7_17_24
  ·
    refine lv_iload hx hb d_7_17_11 (lv_at hl 0 rfl) ?_
    refine lv_i2l hx hb d_7_17_13 rfl ?_
    obtain ⟨j20, e21⟩ := q_nm (a11.toInt64 : Int64)
    refine q_tl (v := j20) e21 ?_
    refine lv_lload_n hx hb d_7_17_14 rfl (lv_at hl 3 rfl) ?_
    refine lv_ladd hx hb d_7_17_15 ?_
    obtain ⟨j23, e24⟩ := q_nm (j20 + x3 : Int64)
    refine q_tl (v := j23) e24 ?_
    refine q_ldc2 C0 rfl w_739 d_7_17_16 ?_
    refine W.lcmp hx hb d_7_17_19 ?_
    obtain ⟨a25, e26⟩ := q_nm (lg_cmp j23 (-3000) : Int32)
    refine q_ti (v := a25) e26 ?_
    refine lv_if_ge (tgt := 25) hx hb d_7_17_20 (by decide) (fun c28 => ?_) (fun c28 => ?_)
    ·
      refine lv_iload hx hb d_7_17_25 (lv_at hl 0 rfl) ?_
      refine lv_i2l hx hb d_7_17_27 rfl ?_
      obtain ⟨j30, e31⟩ := q_nm (a11.toInt64 : Int64)
      refine q_tl (v := j30) e31 ?_
      refine lv_lload_n hx hb d_7_17_28 rfl (lv_at hl 3 rfl) ?_
      refine lv_ladd hx hb d_7_17_29 ?_
      obtain ⟨j33, e34⟩ := q_nm (j30 + x3 : Int64)
      refine q_tl (v := j33) e34 ?_
      refine lv_aload_n hx hb d_7_17_30 rfl (lv_at hl 1 rfl) ?_
      obtain ⟨y36, y37, y38, hO35⟩ := n_flO hI hB1
      refine q_get (ci := 6) (j := 0) (v := .int A) C0 V i_Flo rfl rfl hO35 (by decide) w_231 rfl d_7_17_31 ?_
      refine lv_i2l hx hb d_7_17_34 rfl ?_
      obtain ⟨j39, e40⟩ := q_nm (A.toInt64 : Int64)
      refine q_tl (v := j39) e40 ?_
      refine lv_lsub hx hb d_7_17_35 ?_
      obtain ⟨j42, e43⟩ := q_nm (j33 - j39 : Int64)
      refine q_tl (v := j42) e43 ?_
      refine lv_lconst (v := 1) hx hb d_7_17_36 (by decide) ?_
      refine lv_lsub hx hb d_7_17_37 ?_
      obtain ⟨j44, e45⟩ := q_nm (j42 - 1 : Int64)
      refine q_tl (v := j44) e45 ?_
      refine lv_aload_n hx hb d_7_17_38 rfl (lv_at hl 1 rfl) ?_
      refine q_get (ci := 6) (j := 2) (v := .int C) C0 V i_Flo rfl rfl hO35 (by decide) w_234 rfl d_7_17_39 ?_
      refine lv_aload_n hx hb d_7_17_42 rfl (lv_at hl 1 rfl) ?_
      refine q_get (ci := 6) (j := 1) (v := .int B) C0 V i_Flo rfl rfl hO35 (by decide) w_233 rfl d_7_17_43 ?_
      refine lv_isub hx hb d_7_17_46 ?_
      obtain ⟨a46, e47⟩ := q_nm (C - B : Int32)
      refine q_ti (v := a46) e47 ?_
      refine lv_i2l hx hb d_7_17_47 rfl ?_
      obtain ⟨j49, e50⟩ := q_nm (a46.toInt64 : Int64)
      refine q_tl (v := j49) e50 ?_
      refine W.lcmp hx hb d_7_17_48 ?_
      obtain ⟨a52, e53⟩ := q_nm (lg_cmp j44 j49 : Int32)
      refine q_ti (v := a52) e53 ?_
      refine lv_if_lt (tgt := 57) hx hb d_7_17_49 (by decide) (fun c55 => ?_) (fun c55 => ?_)
      ·
        refine lv_iload hx hb d_7_17_57 (lv_at hl 0 rfl) ?_
        refine lv_i2l hx hb d_7_17_59 rfl ?_
        obtain ⟨j57, e58⟩ := q_nm (a11.toInt64 : Int64)
        refine q_tl (v := j57) e58 ?_
        refine lv_lload_n hx hb d_7_17_60 rfl (lv_at hl 3 rfl) ?_
        refine lv_ladd hx hb d_7_17_61 ?_
        obtain ⟨j60, e61⟩ := q_nm (j57 + x3 : Int64)
        refine q_tl (v := j60) e61 ?_
        refine lv_aload_n hx hb d_7_17_62 rfl (lv_at hl 1 rfl) ?_
        refine q_get (ci := 6) (j := 0) (v := .int A) C0 V i_Flo rfl rfl hO35 (by decide) w_231 rfl d_7_17_63 ?_
        refine lv_i2l hx hb d_7_17_66 rfl ?_
        obtain ⟨j62, e63⟩ := q_nm (A.toInt64 : Int64)
        refine q_tl (v := j62) e63 ?_
        refine lv_lsub hx hb d_7_17_67 ?_
        obtain ⟨j65, e66⟩ := q_nm (j60 - j62 : Int64)
        refine q_tl (v := j65) e66 ?_
        refine lv_lconst (v := 1) hx hb d_7_17_68 (by decide) ?_
        refine lv_lsub hx hb d_7_17_69 ?_
        obtain ⟨j67, e68⟩ := q_nm (j65 - 1 : Int64)
        refine q_tl (v := j67) e68 ?_
        refine lv_iconst (v := 1) hx hb d_7_17_70 (by decide) ?_
        refine lv_aload_n hx hb d_7_17_71 rfl (lv_at hl 1 rfl) ?_
        refine q_get (ci := 6) (j := 1) (v := .int B) C0 V i_Flo rfl rfl hO35 (by decide) w_233 rfl d_7_17_72 ?_
        refine lv_isub hx hb d_7_17_75 ?_
        obtain ⟨a69, e70⟩ := q_nm (1 - B : Int32)
        refine q_ti (v := a69) e70 ?_
        refine lv_i2l hx hb d_7_17_76 rfl ?_
        obtain ⟨j72, e73⟩ := q_nm (a69.toInt64 : Int64)
        refine q_tl (v := j72) e73 ?_
        refine q_gol V (q_runS (As := [.long j67, .long j72]) (rest := []) (d := 1) (mc := 0) (ms := 0) C0 V rfl LS_Flo_109 (X_jMath_max_JJJ l D g q ws  j67 j72 hI   _) rfl hl.1 rfl (Nat.le_of_ble_eq_true rfl) ⟨by decide, by decide⟩ ⟨Nat.le_of_ble_eq_true rfl, Nat.le_of_ble_eq_true rfl⟩ d_7_17_77) (fun j77 u75 H locs hp76 V => ?_)
        obtain ⟨rfl, b78, b79, hE80⟩ := hp76
        have e81 : j77 = (F_jMath_max_JJJ j67 j72) := hE80
        clear b78
        clear b79
        refine lv_l2i hx hb d_7_17_80 rfl ?_
        obtain ⟨a82, e83⟩ := q_nm (j77.toInt32 : Int32)
        refine q_ti (v := a82) e83 ?_
        refine lv_istore (lv' := [(6, .int a82), (5, .int a11), (0, .ref (q k1)), (1, .ref (q k2)), (2, .long x3), (4, .int x4)]) hx hb d_7_17_81 hl (by decide) rfl (fun ls hl => ?_)
        refine lv_iload hx hb d_7_17_83 (lv_at hl 0 rfl) ?_
        refine lv_i2l hx hb d_7_17_85 rfl ?_
        obtain ⟨j84, e85⟩ := q_nm (a82.toInt64 : Int64)
        refine q_tl (v := j84) e85 ?_
        refine lv_lload_n hx hb d_7_17_86 rfl (lv_at hl 4 rfl) ?_
        refine lv_lsub hx hb d_7_17_87 ?_
        obtain ⟨j87, e88⟩ := q_nm (j84 - x3 : Int64)
        refine q_tl (v := j87) e88 ?_
        refine lv_l2i hx hb d_7_17_88 rfl ?_
        obtain ⟨a89, e90⟩ := q_nm (j87.toInt32 : Int32)
        refine q_ti (v := a89) e90 ?_
        refine lv_istore (lv' := [(7, .int a89), (6, .int a82), (5, .int a11), (0, .ref (q k1)), (1, .ref (q k2)), (2, .long x3), (4, .int x4)]) hx hb d_7_17_89 hl (by decide) rfl (fun ls hl => ?_)
        refine lv_lconst (v := 0) hx hb d_7_17_91 (by decide) ?_
        refine lv_lstore (lv' := [(8, .long 0), (7, .int a89), (6, .int a82), (5, .int a11), (0, .ref (q k1)), (1, .ref (q k2)), (2, .long x3), (4, .int x4)]) hx hb d_7_17_92 hl (by decide) rfl (fun ls hl => ?_)
        refine lv_aload_n hx hb d_7_17_94 rfl (lv_at hl 4 rfl) ?_
        refine q_get (ci := 6) (j := 0) (v := .int A) C0 V i_Flo rfl rfl hO35 (by decide) w_231 rfl d_7_17_95 ?_
        refine lv_iconst (v := 1) hx hb d_7_17_98 (by decide) ?_
        refine lv_iadd hx hb d_7_17_99 ?_
        obtain ⟨a91, e92⟩ := q_nm (A + 1 : Int32)
        refine q_ti (v := a91) e92 ?_
        have b93 : q_F (a91.toInt = A.toInt + 1) := (by rw [← e92]; show (A + 1 : Int32).toInt = A.toInt + 1; exact q_addI (x := A.toInt) (y := 1) rfl (by decide) (by first | with_reducible exact (q_fe hfk10).2 | with_reducible exact (q_fe hfk10).1 | (have t1 : 23 ≤ A.toInt ∧ A.toInt ≤ 52 := hfk10; omega)) (by first | with_reducible exact (q_fe hfk10).2 | with_reducible exact (q_fe hfk10).1 | (have t1 : 23 ≤ A.toInt ∧ A.toInt ≤ 52 := hfk10; omega)))
        refine lv_istore (lv' := [(10, .int a91), (8, .long 0), (7, .int a89), (6, .int a82), (5, .int a11), (0, .ref (q k1)), (1, .ref (q k2)), (2, .long x3), (4, .int x4)]) hx hb d_7_17_100 hl (by decide) rfl (fun ls hl => ?_)
        refine q_loop (X := Int32 × Int64) (fun z H locs ls _ => q_F (0 ≤ z.1.toInt + 1) ∧ q_F (z.1.toInt ≤ A.toInt + 1) ∧ q_Wd D g (va_A ws sz) s ws H locs ∧ lv_has ls 12 [(10, .int z.1), (8, .long z.2), (7, .int a89), (6, .int a82), (0, .ref (q k1)), (1, .ref (q k2)), (4, .int x4)] ∧ (∃ n, (z.1.toInt - ((-1))).toNat < n ∧ F_Flo_nearest_L102 A B C R2 x3 x4 t0_0 t0_1 t1_0 a89 a82 n z.1 z.2 = (F_Flo_nearest A B C R2 x3 x4 t0_0 t0_1 t1_0))) (fun z => (z.1.toInt - ((-1))).toNat) ?_ ((a91 : Int32), (0 : Int64)) _ _ _ ws ⟨(show q_F (0 ≤ a91.toInt + 1) from (show 0 ≤ a91.toInt + 1 from by have t1 : 23 ≤ A.toInt ∧ A.toInt ≤ 52 := hfk10; have t2 : a91.toInt = A.toInt + 1 := b93; omega)), (show q_F (a91.toInt ≤ A.toInt + 1) from (show a91.toInt ≤ A.toInt + 1 from by have t1 : a91.toInt = A.toInt + 1 := b93; omega)), V, q_lw hl (q_lw1 0 rfl (q_lw1 1 rfl (q_lw1 2 rfl (q_lw1 3 rfl (q_lw1 5 rfl (q_lw1 6 rfl (q_lw1 8 rfl q_lw0))))))), ⟨((a91.toInt - ((-1))).toNat + 1), Nat.lt_succ_self _, (show F_Flo_nearest_L102 A B C R2 x3 x4 t0_0 t0_1 t1_0 a89 a82 ((a91.toInt - ((-1))).toNat + 1) a91 0 = (F_Flo_nearest A B C R2 x3 x4 t0_0 t0_1 t1_0) from (by have c17x := c17; rw [e16] at c17x; have c28x := c28; rw [← e26, ← e24, ← e21, e16] at c28x; have c55x := c55; rw [← e53, ← e50, ← e47, ← e45, ← e43, ← e40, ← e34, ← e31, e16] at c55x; rw [← e92, ← e90, ← e88, ← e85, ← e83, e81, ← e73, ← e70, ← e68, ← e66, ← e63, ← e61, ← e58, e16, F_Flo_nearest.eq_1, if_neg c17x, if_pos c28x, if_pos c55x]))⟩⟩
        rintro ⟨lx96, lx97⟩ H locs ls _ ⟨i98, i99, V, hl, ⟨fu103, hf104, hR101⟩⟩ ih100
        obtain ⟨fm105, rfl⟩ : ∃ m, fu103 = m + 1 := ⟨fu103 - 1, by omega⟩
        replace i98 : q_F (0 ≤ lx96.toInt + 1) := i98
        replace i99 : q_F (lx96.toInt ≤ A.toInt + 1) := i99
        replace hl : lv_has ls 12 [(10, .int lx96), (8, .long lx97), (7, .int a89), (6, .int a82), (0, .ref (q k1)), (1, .ref (q k2)), (4, .int x4)] := hl
        refine lv_iload hx hb d_7_17_102 (lv_at hl 0 rfl) ?_
        refine lv_if_lt (tgt := 142) hx hb d_7_17_104 (by decide) (fun c106 => ?_) (fun c106 => ?_)
        ·
          have b107 : q_F (lx96.toInt < 0) := (q_ltI c106)
          refine lv_iload hx hb d_7_17_142 (lv_at hl 2 rfl) ?_
          refine q_join (X := Int32) (fun z H locs ls _ => q_F (lx96.toInt + 1 ≤ z.toInt) ∧ q_F (z.toInt ≤ lx96.toInt + 2) ∧ q_Wd D g (va_A ws sz) s ws H locs ∧ lv_has ls 12 [(8, .long lx97), (7, .int a89), (6, .int a82), (0, .ref (q k1)), (1, .ref (q k2)), (4, .int x4)] ∧ F_Flo_nearest_J164 (F_Flo_nearest_L102 A B C R2 x3 x4 t0_0 t0_1 t1_0 a89 a82 fm105) A B C R2 x3 x4 t0_0 t0_1 t1_0 a89 a82 lx96 lx97 z = (F_Flo_nearest A B C R2 x3 x4 t0_0 t0_1 t1_0)) (fun z => [.int z]) 164 0 0 ?_ ?_
          ·
            rintro lx108 H locs ls _ ⟨i112, i113, V, hl, hR114⟩
            clear i112
            clear i113
            replace hl : lv_has ls 12 [(8, .long lx97), (7, .int a89), (6, .int a82), (0, .ref (q k1)), (1, .ref (q k2)), (4, .int x4)] := hl
            refine lv_istore (lv' := [(10, .int lx108), (8, .long lx97), (7, .int a89), (6, .int a82), (0, .ref (q k1)), (1, .ref (q k2)), (4, .int x4)]) hx hb d_7_17_164 hl (by decide) rfl (fun ls hl => ?_)
            refine lv_iload hx hb d_7_17_166 (lv_at hl 6 rfl) ?_
            refine q_join (X := Int32) (fun z H locs ls _ => q_F (z.toInt ≤ 1) ∧ q_F (x4.toInt ≤ z.toInt) ∧ q_Wd D g (va_A ws sz) s ws H locs ∧ lv_has ls 12 [(10, .int lx108), (8, .long lx97), (6, .int a82), (0, .ref (q k1))] ∧ F_Flo_nearest_J187 (F_Flo_nearest_L102 A B C R2 x3 x4 t0_0 t0_1 t1_0 a89 a82 fm105) A B C R2 x3 x4 t0_0 t0_1 t1_0 a89 a82 lx96 lx97 lx108 z = (F_Flo_nearest A B C R2 x3 x4 t0_0 t0_1 t1_0)) (fun z => [.int z]) 187 0 0 ?_ ?_
            ·
              rintro lx119 H locs ls _ ⟨i123, i124, V, hl, hR125⟩
              clear i123
              clear i124
              replace hl : lv_has ls 12 [(10, .int lx108), (8, .long lx97), (6, .int a82), (0, .ref (q k1))] := hl
              refine lv_istore (lv' := [(11, .int lx119), (10, .int lx108), (8, .long lx97), (6, .int a82), (0, .ref (q k1))]) hx hb d_7_17_187 hl (by decide) rfl (fun ls hl => ?_)
              refine lv_iload hx hb d_7_17_189 (lv_at hl 1 rfl) ?_
              refine lv_if_eq (tgt := 214) hx hb d_7_17_191 (by decide) (fun c130 => ?_) (fun c130 => ?_)
              ·
                refine lv_iload hx hb d_7_17_214 (lv_at hl 3 rfl) ?_
                refine lv_aload_n hx hb d_7_17_216 rfl (lv_at hl 4 rfl) ?_
                refine q_get (ci := 6) (j := 1) (v := .int B) C0 V i_Flo rfl rfl hO35 (by decide) w_233 rfl d_7_17_217 ?_
                refine lv_iadd hx hb d_7_17_220 ?_
                obtain ⟨a132, e133⟩ := q_nm (a82 + B : Int32)
                refine q_ti (v := a132) e133 ?_
                refine lv_iconst (v := 1) hx hb d_7_17_221 (by decide) ?_
                refine lv_isub hx hb d_7_17_222 ?_
                obtain ⟨a134, e135⟩ := q_nm (a132 - 1 : Int32)
                refine q_ti (v := a134) e135 ?_
                refine lv_i2l hx hb d_7_17_223 rfl ?_
                obtain ⟨j136, e137⟩ := q_nm (a134.toInt64 : Int64)
                refine q_tl (v := j136) e137 ?_
                refine lv_aload_n hx hb d_7_17_224 rfl (lv_at hl 4 rfl) ?_
                refine q_get (ci := 6) (j := 0) (v := .int A) C0 V i_Flo rfl rfl hO35 (by decide) w_231 rfl d_7_17_225 ?_
                refine lv_lshl hx hb d_7_17_228 rfl ?_
                obtain ⟨j139, e140⟩ := q_nm (j136 <<< (A.toInt64 &&& 63) : Int64)
                refine q_tl (v := j139) e140 ?_
                refine lv_lload hx hb d_7_17_229 (lv_at hl 2 rfl) ?_
                refine lv_ladd hx hb d_7_17_231 ?_
                obtain ⟨j141, e142⟩ := q_nm (j139 + lx97 : Int64)
                refine q_tl (v := j141) e142 ?_
                exact q_retl C0 V (⟨rfl, (show j141 = (F_Flo_nearest A B C R2 x3 x4 t0_0 t0_1 t1_0) from Eq.trans (by rw [← e142, ← e140, ← e137, ← e135, ← e133, F_Flo_nearest_J187.eq_1, if_pos c130]) hR125)⟩) d_7_17_232
              ·
                refine lv_iload hx hb d_7_17_194 (lv_at hl 0 rfl) ?_
                refine q_join (X := Unit) (fun z H locs ls _ => q_Wd D g (va_A ws sz) s ws H locs ∧ lv_has ls 12 [(8, .long lx97), (6, .int a82), (0, .ref (q k1))] ∧ F_Flo_nearest_J208 (F_Flo_nearest_L102 A B C R2 x3 x4 t0_0 t0_1 t1_0 a89 a82 fm105) A B C R2 x3 x4 t0_0 t0_1 t1_0 a89 a82 lx96 lx97 lx108 lx119 = (F_Flo_nearest A B C R2 x3 x4 t0_0 t0_1 t1_0)) (fun z => []) 208 0 0 ?_ ?_
                ·
                  rintro _ H locs ls _ ⟨V, hl, hR147⟩
                  replace hl : lv_has ls 12 [(8, .long lx97), (6, .int a82), (0, .ref (q k1))] := hl
                  refine lv_lload hx hb d_7_17_208 (lv_at hl 0 rfl) ?_
                  refine lv_lconst (v := 1) hx hb d_7_17_210 (by decide) ?_
                  refine lv_ladd hx hb d_7_17_211 ?_
                  obtain ⟨j152, e153⟩ := q_nm (lx97 + 1 : Int64)
                  refine q_tl (v := j152) e153 ?_
                  refine lv_lstore (lv' := [(8, .long j152), (6, .int a82), (0, .ref (q k1))]) hx hb d_7_17_212 hl (by decide) rfl (fun ls hl => ?_)
                  refine lv_iload hx hb d_7_17_214 (lv_at hl 1 rfl) ?_
                  refine lv_aload_n hx hb d_7_17_216 rfl (lv_at hl 2 rfl) ?_
                  refine q_get (ci := 6) (j := 1) (v := .int B) C0 V i_Flo rfl rfl hO35 (by decide) w_233 rfl d_7_17_217 ?_
                  refine lv_iadd hx hb d_7_17_220 ?_
                  obtain ⟨a154, e155⟩ := q_nm (a82 + B : Int32)
                  refine q_ti (v := a154) e155 ?_
                  refine lv_iconst (v := 1) hx hb d_7_17_221 (by decide) ?_
                  refine lv_isub hx hb d_7_17_222 ?_
                  obtain ⟨a156, e157⟩ := q_nm (a154 - 1 : Int32)
                  refine q_ti (v := a156) e157 ?_
                  refine lv_i2l hx hb d_7_17_223 rfl ?_
                  obtain ⟨j158, e159⟩ := q_nm (a156.toInt64 : Int64)
                  refine q_tl (v := j158) e159 ?_
                  refine lv_aload_n hx hb d_7_17_224 rfl (lv_at hl 2 rfl) ?_
                  refine q_get (ci := 6) (j := 0) (v := .int A) C0 V i_Flo rfl rfl hO35 (by decide) w_231 rfl d_7_17_225 ?_
                  refine lv_lshl hx hb d_7_17_228 rfl ?_
                  obtain ⟨j161, e162⟩ := q_nm (j158 <<< (A.toInt64 &&& 63) : Int64)
                  refine q_tl (v := j161) e162 ?_
                  refine lv_lload hx hb d_7_17_229 (lv_at hl 0 rfl) ?_
                  refine lv_ladd hx hb d_7_17_231 ?_
                  obtain ⟨j163, e164⟩ := q_nm (j161 + j152 : Int64)
                  refine q_tl (v := j163) e164 ?_
                  exact q_retl C0 V (⟨rfl, (show j163 = (F_Flo_nearest A B C R2 x3 x4 t0_0 t0_1 t1_0) from Eq.trans (by rw [← e164, ← e162, ← e159, ← e157, ← e155, ← e153, F_Flo_nearest_J208.eq_1]) hR147)⟩) d_7_17_232
                ·
                  intro J146
                  refine lv_if_ne (tgt := 208) hx hb d_7_17_196 (by decide) (fun c165 => ?_) (fun c165 => ?_)
                  ·
                    exact J146 (()) _ _ _ ws ⟨V, q_lw hl (q_lw1 2 rfl (q_lw1 3 rfl (q_lw1 4 rfl q_lw0))), (show F_Flo_nearest_J208 (F_Flo_nearest_L102 A B C R2 x3 x4 t0_0 t0_1 t1_0 a89 a82 fm105) A B C R2 x3 x4 t0_0 t0_1 t1_0 a89 a82 lx96 lx97 lx108 lx119 = (F_Flo_nearest A B C R2 x3 x4 t0_0 t0_1 t1_0) from Eq.trans (by rw [F_Flo_nearest_J187.eq_1, if_neg c130, if_neg c165]) hR125)⟩
                  ·
                    refine lv_lload hx hb d_7_17_199 (lv_at hl 2 rfl) ?_
                    refine lv_lconst (v := 1) hx hb d_7_17_201 (by decide) ?_
                    refine lv_land hx hb d_7_17_202 ?_
                    obtain ⟨j168, e169⟩ := q_nm (lx97 &&& 1 : Int64)
                    refine q_tl (v := j168) e169 ?_
                    refine lv_lconst (v := 1) hx hb d_7_17_203 (by decide) ?_
                    refine W.lcmp hx hb d_7_17_204 ?_
                    obtain ⟨a171, e172⟩ := q_nm (lg_cmp j168 1 : Int32)
                    refine q_ti (v := a171) e172 ?_
                    refine lv_if_ne (tgt := 214) hx hb d_7_17_205 (by decide) (fun c174 => ?_) (fun c174 => ?_)
                    ·
                      refine lv_iload hx hb d_7_17_214 (lv_at hl 3 rfl) ?_
                      refine lv_aload_n hx hb d_7_17_216 rfl (lv_at hl 4 rfl) ?_
                      refine q_get (ci := 6) (j := 1) (v := .int B) C0 V i_Flo rfl rfl hO35 (by decide) w_233 rfl d_7_17_217 ?_
                      refine lv_iadd hx hb d_7_17_220 ?_
                      obtain ⟨a176, e177⟩ := q_nm (a82 + B : Int32)
                      refine q_ti (v := a176) e177 ?_
                      refine lv_iconst (v := 1) hx hb d_7_17_221 (by decide) ?_
                      refine lv_isub hx hb d_7_17_222 ?_
                      obtain ⟨a178, e179⟩ := q_nm (a176 - 1 : Int32)
                      refine q_ti (v := a178) e179 ?_
                      refine lv_i2l hx hb d_7_17_223 rfl ?_
                      obtain ⟨j180, e181⟩ := q_nm (a178.toInt64 : Int64)
                      refine q_tl (v := j180) e181 ?_
                      refine lv_aload_n hx hb d_7_17_224 rfl (lv_at hl 4 rfl) ?_
                      refine q_get (ci := 6) (j := 0) (v := .int A) C0 V i_Flo rfl rfl hO35 (by decide) w_231 rfl d_7_17_225 ?_
                      refine lv_lshl hx hb d_7_17_228 rfl ?_
                      obtain ⟨j183, e184⟩ := q_nm (j180 <<< (A.toInt64 &&& 63) : Int64)
                      refine q_tl (v := j183) e184 ?_
                      refine lv_lload hx hb d_7_17_229 (lv_at hl 2 rfl) ?_
                      refine lv_ladd hx hb d_7_17_231 ?_
                      obtain ⟨j185, e186⟩ := q_nm (j183 + lx97 : Int64)
                      refine q_tl (v := j185) e186 ?_
                      exact q_retl C0 V (⟨rfl, (show j185 = (F_Flo_nearest A B C R2 x3 x4 t0_0 t0_1 t1_0) from Eq.trans (by have c174x := c174; rw [← e172, ← e169] at c174x; rw [← e186, ← e184, ← e181, ← e179, ← e177, F_Flo_nearest_J187.eq_1, if_neg c130, if_pos c165, if_neg c174x]) hR125)⟩) d_7_17_232
                    ·
                      exact J146 (()) _ _ _ ws ⟨V, q_lw hl (q_lw1 2 rfl (q_lw1 3 rfl (q_lw1 4 rfl q_lw0))), (show F_Flo_nearest_J208 (F_Flo_nearest_L102 A B C R2 x3 x4 t0_0 t0_1 t1_0 a89 a82 fm105) A B C R2 x3 x4 t0_0 t0_1 t1_0 a89 a82 lx96 lx97 lx108 lx119 = (F_Flo_nearest A B C R2 x3 x4 t0_0 t0_1 t1_0) from Eq.trans (by have c174x := c174; rw [← e172, ← e169] at c174x; rw [F_Flo_nearest_J187.eq_1, if_neg c130, if_pos c165, if_pos c174x]) hR125)⟩
            ·
              intro J122
              refine q_join (X := Unit) (fun z H locs ls _ => q_Wd D g (va_A ws sz) s ws H locs ∧ lv_has ls 12 [(10, .int lx108), (8, .long lx97), (6, .int a82), (0, .ref (q k1))] ∧ F_Flo_nearest_J182 (F_Flo_nearest_L102 A B C R2 x3 x4 t0_0 t0_1 t1_0 a89 a82 fm105) A B C R2 x3 x4 t0_0 t0_1 t1_0 a89 a82 lx96 lx97 lx108 = (F_Flo_nearest A B C R2 x3 x4 t0_0 t0_1 t1_0)) (fun z => []) 182 0 0 ?_ ?_
              ·
                rintro _ H locs ls _ ⟨V, hl, hR191⟩
                replace hl : lv_has ls 12 [(10, .int lx108), (8, .long lx97), (6, .int a82), (0, .ref (q k1))] := hl
                refine lv_iconst (v := 1) hx hb d_7_17_182 (by decide) ?_
                refine lv_goto (tgt := 187) hx hb d_7_17_183 (by decide) ?_
                exact J122 ((1 : Int32)) _ _ _ ws ⟨(show q_F (1 ≤ 1) from (show 1 ≤ 1 from by omega)), (show q_F (x4.toInt ≤ 1) from (show x4.toInt ≤ 1 from by have t1 : 0 ≤ x4.toInt ∧ x4.toInt ≤ 1 := hzx4; omega)), V, q_lw hl (q_lw1 0 rfl (q_lw1 1 rfl (q_lw1 2 rfl (q_lw1 3 rfl q_lw0)))), (show F_Flo_nearest_J187 (F_Flo_nearest_L102 A B C R2 x3 x4 t0_0 t0_1 t1_0 a89 a82 fm105) A B C R2 x3 x4 t0_0 t0_1 t1_0 a89 a82 lx96 lx97 lx108 1 = (F_Flo_nearest A B C R2 x3 x4 t0_0 t0_1 t1_0) from Eq.trans (by rw [F_Flo_nearest_J182.eq_1]) hR191)⟩
              ·
                intro J190
                refine lv_if_ne (tgt := 182) hx hb d_7_17_168 (by decide) (fun c196 => ?_) (fun c196 => ?_)
                ·
                  exact J190 (()) _ _ _ ws ⟨V, q_lw hl (q_lw1 0 rfl (q_lw1 1 rfl (q_lw1 3 rfl (q_lw1 4 rfl q_lw0)))), (show F_Flo_nearest_J182 (F_Flo_nearest_L102 A B C R2 x3 x4 t0_0 t0_1 t1_0 a89 a82 fm105) A B C R2 x3 x4 t0_0 t0_1 t1_0 a89 a82 lx96 lx97 lx108 = (F_Flo_nearest A B C R2 x3 x4 t0_0 t0_1 t1_0) from Eq.trans (by rw [F_Flo_nearest_J164.eq_1, if_neg c196]) hR114)⟩
                ·
                  have b198 : q_F (x4.toInt = 0) := (q_eqI c196)
                  refine lv_aload_n hx hb d_7_17_171 rfl (lv_at hl 5 rfl) ?_
                  refine q_goi V (q_runV (As := []) (rest := []) (d := 2) (mc := 0) (ms := 0) (ci := 2) C0 V rfl LV_Flo_84 (X_Big_lowestOne l D g q ws k2 R2 hB2 zk2  hI t0_0 t0_1 hT0 t1_0 hT1  _) rfl rfl hT0 rfl hl.1 rfl (Nat.le_of_ble_eq_true rfl) ⟨by decide, by decide⟩ ⟨Nat.le_of_ble_eq_true rfl, Nat.le_of_ble_eq_true rfl⟩ d_7_17_172) (fun a201 u199 H locs hp200 V => ?_)
                  obtain ⟨rfl, b202, b203, hE204⟩ := hp200
                  have e205 : a201 = (F_Big_lowestOne R2 t0_0 t0_1 t1_0) := hE204
                  clear b202
                  clear b203
                  refine lv_iload hx hb d_7_17_175 (lv_at hl 2 rfl) ?_
                  refine lv_iconst (v := 1) hx hb d_7_17_177 (by decide) ?_
                  refine lv_isub hx hb d_7_17_178 ?_
                  obtain ⟨a206, e207⟩ := q_nm (a89 - 1 : Int32)
                  refine q_ti (v := a206) e207 ?_
                  refine lv_icmp_ge (tgt := 186) hx hb d_7_17_179 (by decide) (fun c208 => ?_) (fun c208 => ?_)
                  ·
                    refine lv_iconst (v := 0) hx hb d_7_17_186 (by decide) ?_
                    exact J122 ((0 : Int32)) _ _ _ ws ⟨(show q_F (0 ≤ 1) from (show 0 ≤ 1 from by omega)), (show q_F (x4.toInt ≤ 0) from (show x4.toInt ≤ 0 from by have t1 : x4.toInt = 0 := b198; omega)), V, q_lw hl (q_lw1 0 rfl (q_lw1 1 rfl (q_lw1 3 rfl (q_lw1 4 rfl q_lw0)))), (show F_Flo_nearest_J187 (F_Flo_nearest_L102 A B C R2 x3 x4 t0_0 t0_1 t1_0 a89 a82 fm105) A B C R2 x3 x4 t0_0 t0_1 t1_0 a89 a82 lx96 lx97 lx108 0 = (F_Flo_nearest A B C R2 x3 x4 t0_0 t0_1 t1_0) from Eq.trans (by have c208x := c208; rw [← e207, e205] at c208x; rw [F_Flo_nearest_J164.eq_1, if_pos c196, if_pos c208x]) hR114)⟩
                  ·
                    exact J190 (()) _ _ _ ws ⟨V, q_lw hl (q_lw1 0 rfl (q_lw1 1 rfl (q_lw1 3 rfl (q_lw1 4 rfl q_lw0)))), (show F_Flo_nearest_J182 (F_Flo_nearest_L102 A B C R2 x3 x4 t0_0 t0_1 t1_0 a89 a82 fm105) A B C R2 x3 x4 t0_0 t0_1 t1_0 a89 a82 lx96 lx97 lx108 = (F_Flo_nearest A B C R2 x3 x4 t0_0 t0_1 t1_0) from Eq.trans (by have c208x := c208; rw [← e207, e205] at c208x; rw [F_Flo_nearest_J164.eq_1, if_pos c196, if_neg c208x]) hR114)⟩
          ·
            intro J111
            refine q_join (X := Unit) (fun z H locs ls _ => q_Wd D g (va_A ws sz) s ws H locs ∧ lv_has ls 12 [(8, .long lx97), (7, .int a89), (6, .int a82), (0, .ref (q k1)), (1, .ref (q k2)), (4, .int x4)] ∧ F_Flo_nearest_J163 (F_Flo_nearest_L102 A B C R2 x3 x4 t0_0 t0_1 t1_0 a89 a82 fm105) A B C R2 x3 x4 t0_0 t0_1 t1_0 a89 a82 lx96 lx97 = (F_Flo_nearest A B C R2 x3 x4 t0_0 t0_1 t1_0)) (fun z => []) 163 0 0 ?_ ?_
            ·
              rintro _ H locs ls _ ⟨V, hl, hR214⟩
              replace hl : lv_has ls 12 [(8, .long lx97), (7, .int a89), (6, .int a82), (0, .ref (q k1)), (1, .ref (q k2)), (4, .int x4)] := hl
              refine lv_iconst (v := 0) hx hb d_7_17_163 (by decide) ?_
              exact J111 ((0 : Int32)) _ _ _ ws ⟨(show q_F (lx96.toInt + 1 ≤ 0) from (show lx96.toInt + 1 ≤ 0 from by have t1 : lx96.toInt < 0 := b107; omega)), (show q_F (0 ≤ lx96.toInt + 2) from (show 0 ≤ lx96.toInt + 2 from by have t1 : 0 ≤ lx96.toInt + 1 := i98; omega)), V, q_lw hl (q_lw1 0 rfl (q_lw1 1 rfl (q_lw1 2 rfl (q_lw1 3 rfl (q_lw1 4 rfl (q_lw1 5 rfl q_lw0)))))), (show F_Flo_nearest_J164 (F_Flo_nearest_L102 A B C R2 x3 x4 t0_0 t0_1 t1_0 a89 a82 fm105) A B C R2 x3 x4 t0_0 t0_1 t1_0 a89 a82 lx96 lx97 0 = (F_Flo_nearest A B C R2 x3 x4 t0_0 t0_1 t1_0) from Eq.trans (by rw [F_Flo_nearest_J163.eq_1]) hR214)⟩
            ·
              intro J213
              refine lv_if_le (tgt := 163) hx hb d_7_17_144 (by decide) (fun c219 => ?_) (fun c219 => ?_)
              ·
                exact J213 (()) _ _ _ ws ⟨V, q_lw hl (q_lw1 1 rfl (q_lw1 2 rfl (q_lw1 3 rfl (q_lw1 4 rfl (q_lw1 5 rfl (q_lw1 6 rfl q_lw0)))))), (show F_Flo_nearest_J163 (F_Flo_nearest_L102 A B C R2 x3 x4 t0_0 t0_1 t1_0 a89 a82 fm105) A B C R2 x3 x4 t0_0 t0_1 t1_0 a89 a82 lx96 lx97 = (F_Flo_nearest A B C R2 x3 x4 t0_0 t0_1 t1_0) from Eq.trans (by rw [F_Flo_nearest_L102.eq_2, if_pos c106, if_pos c219]) hR101)⟩
              ·
                refine lv_aload_n hx hb d_7_17_147 rfl (lv_at hl 5 rfl) ?_
                refine lv_iload hx hb d_7_17_148 (lv_at hl 2 rfl) ?_
                refine lv_iconst (v := 1) hx hb d_7_17_150 (by decide) ?_
                refine lv_isub hx hb d_7_17_151 ?_
                obtain ⟨a222, e223⟩ := q_nm (a89 - 1 : Int32)
                refine q_ti (v := a222) e223 ?_
                refine q_goi V (q_runV (As := [.int a222]) (rest := []) (d := 2) (mc := 0) (ms := 0) (ci := 2) C0 V rfl LV_Flo_112 (X_Big_bit l D g q ws k2 R2 hB2 zk2 a222 hI t0_0 t0_1 hT0 t1_0 hT1  _) rfl rfl hT0 rfl hl.1 rfl (Nat.le_of_ble_eq_true rfl) ⟨by decide, by decide⟩ ⟨Nat.le_of_ble_eq_true rfl, Nat.le_of_ble_eq_true rfl⟩ d_7_17_152) (fun a227 u225 H locs hp226 V => ?_)
                obtain ⟨rfl, b228, b229, hE230⟩ := hp226
                have e231 : a227 = (F_Big_bit R2 a222 t0_0 t0_1 t1_0) := hE230
                clear b228
                clear b229
                refine lv_iconst (v := 1) hx hb d_7_17_155 (by decide) ?_
                refine lv_icmp_ne (tgt := 163) hx hb d_7_17_156 (by decide) (fun c232 => ?_) (fun c232 => ?_)
                ·
                  exact J213 (()) _ _ _ ws ⟨V, q_lw hl (q_lw1 1 rfl (q_lw1 2 rfl (q_lw1 3 rfl (q_lw1 4 rfl (q_lw1 5 rfl (q_lw1 6 rfl q_lw0)))))), (show F_Flo_nearest_J163 (F_Flo_nearest_L102 A B C R2 x3 x4 t0_0 t0_1 t1_0 a89 a82 fm105) A B C R2 x3 x4 t0_0 t0_1 t1_0 a89 a82 lx96 lx97 = (F_Flo_nearest A B C R2 x3 x4 t0_0 t0_1 t1_0) from Eq.trans (by have c232x := c232; rw [e231, ← e223] at c232x; rw [F_Flo_nearest_L102.eq_2, if_pos c106, if_neg c219, if_neg c232x]) hR101)⟩
                ·
                  refine lv_iconst (v := 1) hx hb d_7_17_159 (by decide) ?_
                  refine lv_goto (tgt := 164) hx hb d_7_17_160 (by decide) ?_
                  exact J111 ((1 : Int32)) _ _ _ ws ⟨(show q_F (lx96.toInt + 1 ≤ 1) from (show lx96.toInt + 1 ≤ 1 from by have t1 : lx96.toInt < 0 := b107; omega)), (show q_F (1 ≤ lx96.toInt + 2) from (show 1 ≤ lx96.toInt + 2 from by have t1 : 0 ≤ lx96.toInt + 1 := i98; omega)), V, q_lw hl (q_lw1 1 rfl (q_lw1 2 rfl (q_lw1 3 rfl (q_lw1 4 rfl (q_lw1 5 rfl (q_lw1 6 rfl q_lw0)))))), (show F_Flo_nearest_J164 (F_Flo_nearest_L102 A B C R2 x3 x4 t0_0 t0_1 t1_0 a89 a82 fm105) A B C R2 x3 x4 t0_0 t0_1 t1_0 a89 a82 lx96 lx97 1 = (F_Flo_nearest A B C R2 x3 x4 t0_0 t0_1 t1_0) from Eq.trans (by have c232x := c232; rw [e231, ← e223] at c232x; rw [F_Flo_nearest_L102.eq_2, if_pos c106, if_neg c219, if_pos c232x]) hR101)⟩
        ·
          have b235 : q_F (0 ≤ lx96.toInt) := (q_nltI c106)
          refine lv_lload hx hb d_7_17_107 (lv_at hl 1 rfl) ?_
          refine lv_iconst (v := 1) hx hb d_7_17_109 (by decide) ?_
          refine lv_lshl hx hb d_7_17_110 rfl ?_
          obtain ⟨j236, e237⟩ := q_nm (lx97 <<< ((1 : Int32).toInt64 &&& 63) : Int64)
          refine q_tl (v := j236) e237 ?_
          refine lv_iload hx hb d_7_17_111 (lv_at hl 2 rfl) ?_
          refine lv_iload hx hb d_7_17_113 (lv_at hl 0 rfl) ?_
          refine lv_iadd hx hb d_7_17_115 ?_
          obtain ⟨a238, e239⟩ := q_nm (a89 + lx96 : Int32)
          refine q_ti (v := a238) e239 ?_
          refine lv_if_lt (tgt := 131) hx hb d_7_17_116 (by decide) (fun c240 => ?_) (fun c240 => ?_)
          ·
            refine lv_iconst (v := 0) hx hb d_7_17_131 (by decide) ?_
            refine lv_i2l hx hb d_7_17_132 rfl ?_
            refine q_tl (v := 0) (by decide) ?_
            refine lv_lor hx hb d_7_17_133 ?_
            obtain ⟨j242, e243⟩ := q_nm (j236 ||| 0 : Int64)
            refine q_tl (v := j242) e243 ?_
            refine lv_lstore (lv' := [(8, .long j242), (10, .int lx96), (7, .int a89), (6, .int a82), (0, .ref (q k1)), (1, .ref (q k2)), (4, .int x4)]) hx hb d_7_17_134 hl (by decide) rfl (fun ls hl => ?_)
            obtain ⟨a244, e245⟩ := q_nm (lx96 + (-1) : Int32)
            have b246 : q_F (a244.toInt = lx96.toInt + (-1)) := (by rw [← e245]; exact q_addI (y := (-1)) rfl (by decide) (by have t1 : 0 ≤ lx96.toInt + 1 := i98; have t2 : lx96.toInt ≤ A.toInt + 1 := i99; have _ := q_lo32 (x := A); have _ := q_hi32 (x := A); omega) (by have t1 : 0 ≤ lx96.toInt + 1 := i98; have t2 : lx96.toInt ≤ A.toInt + 1 := i99; have _ := q_lo32 (x := A); have _ := q_hi32 (x := A); omega))
            refine lv_iinc (v := a244) (lv' := [(10, .int a244), (8, .long j242), (7, .int a89), (6, .int a82), (0, .ref (q k1)), (1, .ref (q k2)), (4, .int x4)]) hx hb d_7_17_136 hl (k := 1) rfl (e245) (by decide) rfl (fun ls hl => ?_)
            refine lv_goto (tgt := 102) hx hb d_7_17_139 (by decide) ?_
            exact ih100 ((a244 : Int32), (j242 : Int64)) _ _ _ ws (show (a244.toInt - ((-1))).toNat < (lx96.toInt - ((-1))).toNat from by have t1 : a244.toInt = lx96.toInt + (-1) := b246; have t2 : 0 ≤ lx96.toInt + 1 := i98; have t3 : 0 ≤ lx96.toInt := b235; omega) ⟨(show q_F (0 ≤ a244.toInt + 1) from (show 0 ≤ a244.toInt + 1 from by have t1 : 0 ≤ lx96.toInt := b235; have t2 : a244.toInt = lx96.toInt + (-1) := b246; omega)), (show q_F (a244.toInt ≤ A.toInt + 1) from (show a244.toInt ≤ A.toInt + 1 from by have t1 : lx96.toInt ≤ A.toInt + 1 := i99; have t2 : a244.toInt = lx96.toInt + (-1) := b246; omega)), V, q_lw hl (q_lw1 0 rfl (q_lw1 1 rfl (q_lw1 2 rfl (q_lw1 3 rfl (q_lw1 4 rfl (q_lw1 5 rfl (q_lw1 6 rfl q_lw0))))))), ⟨fm105, Nat.lt_of_lt_of_le (show (a244.toInt - ((-1))).toNat < (lx96.toInt - ((-1))).toNat from by have t1 : a244.toInt = lx96.toInt + (-1) := b246; have t2 : 0 ≤ lx96.toInt + 1 := i98; have t3 : 0 ≤ lx96.toInt := b235; omega) (Nat.le_of_lt_succ hf104), (show F_Flo_nearest_L102 A B C R2 x3 x4 t0_0 t0_1 t1_0 a89 a82 fm105 a244 j242 = (F_Flo_nearest A B C R2 x3 x4 t0_0 t0_1 t1_0) from Eq.trans (by have c240x := c240; rw [← e239] at c240x; rw [← e245, ← e243, ← e237, F_Flo_nearest_L102.eq_2, if_neg c106, if_pos c240x]) hR101)⟩⟩
          ·
            refine lv_aload_n hx hb d_7_17_119 rfl (lv_at hl 5 rfl) ?_
            refine lv_iload hx hb d_7_17_120 (lv_at hl 2 rfl) ?_
            refine lv_iload hx hb d_7_17_122 (lv_at hl 0 rfl) ?_
            refine lv_iadd hx hb d_7_17_124 ?_
            obtain ⟨a248, e249⟩ := q_nm (a89 + lx96 : Int32)
            refine q_ti (v := a248) e249 ?_
            refine q_goi V (q_runV (As := [.int a248]) (rest := [.long j236]) (d := 2) (mc := 0) (ms := 0) (ci := 2) C0 V rfl LV_Flo_112 (X_Big_bit l D g q ws k2 R2 hB2 zk2 a248 hI t0_0 t0_1 hT0 t1_0 hT1  _) rfl rfl hT0 rfl hl.1 rfl (Nat.le_of_ble_eq_true rfl) ⟨by decide, by decide⟩ ⟨Nat.le_of_ble_eq_true rfl, Nat.le_of_ble_eq_true rfl⟩ d_7_17_125) (fun a252 u250 H locs hp251 V => ?_)
            obtain ⟨rfl, b253, b254, hE255⟩ := hp251
            have e256 : a252 = (F_Big_bit R2 a248 t0_0 t0_1 t1_0) := hE255
            clear b253
            clear b254
            refine lv_goto (tgt := 132) hx hb d_7_17_128 (by decide) ?_
            refine lv_i2l hx hb d_7_17_132 rfl ?_
            obtain ⟨j257, e258⟩ := q_nm (a252.toInt64 : Int64)
            refine q_tl (v := j257) e258 ?_
            refine lv_lor hx hb d_7_17_133 ?_
            obtain ⟨j260, e261⟩ := q_nm (j236 ||| j257 : Int64)
            refine q_tl (v := j260) e261 ?_
            refine lv_lstore (lv' := [(8, .long j260), (10, .int lx96), (7, .int a89), (6, .int a82), (0, .ref (q k1)), (1, .ref (q k2)), (4, .int x4)]) hx hb d_7_17_134 hl (by decide) rfl (fun ls hl => ?_)
            obtain ⟨a262, e263⟩ := q_nm (lx96 + (-1) : Int32)
            have b264 : q_F (a262.toInt = lx96.toInt + (-1)) := (by rw [← e263]; exact q_addI (y := (-1)) rfl (by decide) (by have t1 : 0 ≤ lx96.toInt + 1 := i98; have t2 : lx96.toInt ≤ A.toInt + 1 := i99; have _ := q_lo32 (x := A); have _ := q_hi32 (x := A); omega) (by have t1 : 0 ≤ lx96.toInt + 1 := i98; have t2 : lx96.toInt ≤ A.toInt + 1 := i99; have _ := q_lo32 (x := A); have _ := q_hi32 (x := A); omega))
            refine lv_iinc (v := a262) (lv' := [(10, .int a262), (8, .long j260), (7, .int a89), (6, .int a82), (0, .ref (q k1)), (1, .ref (q k2)), (4, .int x4)]) hx hb d_7_17_136 hl (k := 1) rfl (e263) (by decide) rfl (fun ls hl => ?_)
            refine lv_goto (tgt := 102) hx hb d_7_17_139 (by decide) ?_
            exact ih100 ((a262 : Int32), (j260 : Int64)) _ _ _ ws (show (a262.toInt - ((-1))).toNat < (lx96.toInt - ((-1))).toNat from by have t1 : a262.toInt = lx96.toInt + (-1) := b264; have t2 : 0 ≤ lx96.toInt + 1 := i98; have t3 : 0 ≤ lx96.toInt := b235; omega) ⟨(show q_F (0 ≤ a262.toInt + 1) from (show 0 ≤ a262.toInt + 1 from by have t1 : 0 ≤ lx96.toInt := b235; have t2 : a262.toInt = lx96.toInt + (-1) := b264; omega)), (show q_F (a262.toInt ≤ A.toInt + 1) from (show a262.toInt ≤ A.toInt + 1 from by have t1 : lx96.toInt ≤ A.toInt + 1 := i99; have t2 : a262.toInt = lx96.toInt + (-1) := b264; omega)), V, q_lw hl (q_lw1 0 rfl (q_lw1 1 rfl (q_lw1 2 rfl (q_lw1 3 rfl (q_lw1 4 rfl (q_lw1 5 rfl (q_lw1 6 rfl q_lw0))))))), ⟨fm105, Nat.lt_of_lt_of_le (show (a262.toInt - ((-1))).toNat < (lx96.toInt - ((-1))).toNat from by have t1 : a262.toInt = lx96.toInt + (-1) := b264; have t2 : 0 ≤ lx96.toInt + 1 := i98; have t3 : 0 ≤ lx96.toInt := b235; omega) (Nat.le_of_lt_succ hf104), (show F_Flo_nearest_L102 A B C R2 x3 x4 t0_0 t0_1 t1_0 a89 a82 fm105 a262 j260 = (F_Flo_nearest A B C R2 x3 x4 t0_0 t0_1 t1_0) from Eq.trans (by have c240x := c240; rw [← e239] at c240x; rw [← e263, ← e261, ← e258, e256, ← e249, ← e237, F_Flo_nearest_L102.eq_2, if_neg c106, if_neg c240x]) hR101)⟩⟩
      ·
        refine lv_aload_n hx hb d_7_17_52 rfl (lv_at hl 1 rfl) ?_
        refine q_gol V (q_runV (As := []) (rest := []) (d := 1) (mc := 0) (ms := 0) (ci := 6) C0 V rfl LV_Flo_39 (X_Flo_infinity l D g q ws k1 A B C hB1  hI   _) rfl rfl hO35 rfl hl.1 rfl (Nat.le_of_ble_eq_true rfl) ⟨by decide, by decide⟩ ⟨Nat.le_of_ble_eq_true rfl, Nat.le_of_ble_eq_true rfl⟩ d_7_17_53) (fun j268 u266 H locs hp267 V => ?_)
        obtain ⟨rfl, hE269⟩ := hp267
        have e270 : j268 = (F_Flo_infinity A B C) := hE269
        exact q_retl C0 V (⟨rfl, (show j268 = (F_Flo_nearest A B C R2 x3 x4 t0_0 t0_1 t1_0) from (by have c17x := c17; rw [e16] at c17x; have c28x := c28; rw [← e26, ← e24, ← e21, e16] at c28x; have c55x := c55; rw [← e53, ← e50, ← e47, ← e45, ← e43, ← e40, ← e34, ← e31, e16] at c55x; rw [e270, F_Flo_nearest.eq_1, if_neg c17x, if_pos c28x, if_neg c55x]))⟩) d_7_17_56
    ·
      refine lv_lconst (v := 0) hx hb d_7_17_23 (by decide) ?_
      exact q_retl C0 V (⟨rfl, (show (0 : Int64) = (F_Flo_nearest A B C R2 x3 x4 t0_0 t0_1 t1_0) from (by have c17x := c17; rw [e16] at c17x; have c28x := c28; rw [← e26, ← e24, ← e21, e16] at c28x; rw [F_Flo_nearest.eq_1, if_neg c17x, if_neg c28x]))⟩) d_7_17_24

