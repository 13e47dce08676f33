/-! Sheet, Strings, Digits, exactly -/
def F_She_add_p (R : Int32) (N : Int32) (K : Int32) (x2 : Int32) (t0_0 : Int32) (t1_0 : (Nat → Int64)) : Int32 × (Nat → Int64) := if R ≤ t0_0 then (((t0_0 + 1 : Int32), t1_0)) else (((t0_0 + 1 : Int32), (vp_updL t1_0 (t0_0 >>> (3 &&& 31) : Int32).toNatClampNeg (((t1_0 (t0_0 >>> (3 &&& 31) : Int32).toNatClampNeg : Int64) &&& (((255 : Int64) <<< ((8 * (t0_0 &&& 7 : Int32) : Int32).toInt64 &&& 63) : Int64) ^^^ (-1) : Int64) : Int64) ||| (((x2 &&& 255 : Int32).toInt64 : Int64) <<< ((8 * (t0_0 &&& 7 : Int32) : Int32).toInt64 &&& 63) : Int64) : Int64) : (Nat → Int64))))
set_option maxRecDepth 100000 in
set_option maxHeartbeats 4000000 in
theorem X_She_add_p (l : Launch) (D : va_G) (g : Nat → ClassId) (q : Nat → Nat) (ws : va_W) (k1 : Nat) (R N K : Int32) (hB1 : q_isShe (nsh g q) g q k1 R N K) (x2 : Int32) (hI : q_I (nsh g q) q ws) (t0_0 : Int32) (hT0 : ws[k1]? = (some (q k1, .inr (1, [.ref (q (k1 + 1)), .int R, .int t0_0])) : Option (Nat × va_E))) (t1_0 : (Nat → Int64)) (hT1 : ws[k1 + 1]? = (some (q (k1 + 1), .inl (g 1, N.toNatClampNeg, .inr (.inl t1_0))) : Option (Nat × va_E))) (pre0 : t0_0.toInt + 1 ≤ K.toInt) : q_mV l y_She_add prog_11_method_3_code 3 1 0 0 D g [.ref (q k1), .int x2] ws (fun u => q_I (nsh g q) q u ∧ q_un ws u [k1, k1 + 1] ∧ ∃ (u0_0 : Int32) (u1_0 : (Nat → Int64)), u[k1]? = (some (q k1, .inr (1, [.ref (q (k1 + 1)), .int R, .int u0_0])) : Option (Nat × va_E)) ∧ u[k1 + 1]? = (some (q (k1 + 1), .inl (g 1, N.toNatClampNeg, .inr (.inl u1_0))) : Option (Nat × va_E)) ∧ (t0_0.toInt + 1 ≤ u0_0.toInt) ∧ (u0_0.toInt ≤ t0_0.toInt + 1) ∧ (u0_0, u1_0) = (F_She_add_p R N K x2 t0_0 t1_0)) := by
  intro sz
  refine q_into (by decide) (Nat.le_of_ble_eq_true rfl) ?_
  intro p e s m below meth c ls hsz C0 V hl
  have hx := C0.1
  have hb := C0.2.1
  have hfk10 : q_F (0 ≤ R.toInt ∧ R.toInt ≤ 8 * N.toInt ∧ 0 ≤ N.toInt ∧ N.toInt ≤ 1376 ∧ 64 ≤ R.toInt ∧ 64 ≤ K.toInt ∧ K.toInt ≤ 1000000) := hB1.2.2.1
  have btt0_0 := n_shW hI hB1 hT0
  replace btt0_0 : q_F (0 ≤ t0_0.toInt ∧ t0_0.toInt ≤ K.toInt) := btt0_0
  replace pre0 : q_F (t0_0.toInt + 1 ≤ K.toInt) := pre0
  have hF : q_un ws ws [k1, k1 + 1] := q_u0
  have hl : lv_has ls 3 [(0, .ref (q k1)), (1, .int x2)] := hl
  refine lv_aload_n hx hb d_11_3_0 rfl (lv_at hl 0 rfl) ?_
  refine q_get (ci := 1) (j := 2) (v := .int t0_0) C0 V i_She rfl rfl hT0 (by decide) w_54 rfl d_11_3_1 ?_
  refine lv_aload_n hx hb d_11_3_4 rfl (lv_at hl 0 rfl) ?_
  refine q_get (ci := 1) (j := 1) (v := .int R) C0 V i_She rfl rfl hT0 (by decide) w_53 rfl d_11_3_5 ?_
  refine lv_icmp_ge (tgt := 63) hx hb d_11_3_8 (by decide) (fun c6 => ?_) (fun c6 => ?_)
  ·
    refine lv_aload_n hx hb d_11_3_63 rfl (lv_at hl 0 rfl) ?_
    refine lv_dup hx hb d_11_3_64 rfl ?_
    refine q_get (ci := 1) (j := 2) (v := .int t0_0) C0 V i_She rfl rfl hT0 (by decide) w_54 rfl d_11_3_65 ?_
    refine lv_iconst (v := 1) hx hb d_11_3_68 (by decide) ?_
    refine lv_iadd hx hb d_11_3_69 ?_
    obtain ⟨a8, e9⟩ := q_nm (t0_0 + 1 : Int32)
    refine q_ti (v := a8) e9 ?_
    have b10 : q_F (a8.toInt = t0_0.toInt + 1) := (by rw [← e9]; show (t0_0 + 1 : Int32).toInt = t0_0.toInt + 1; exact q_addI (x := t0_0.toInt) (y := 1) rfl (by decide) (by have t1 : 0 ≤ t0_0.toInt ∧ t0_0.toInt ≤ K.toInt := btt0_0; have t2 : t0_0.toInt + 1 ≤ K.toInt := pre0; have _ := q_lo32 (x := K); have _ := q_hi32 (x := K); omega) (by have t1 : 0 ≤ t0_0.toInt ∧ t0_0.toInt ≤ K.toInt := btt0_0; have t2 : t0_0.toInt + 1 ≤ K.toInt := pre0; have _ := q_lo32 (x := K); have _ := q_hi32 (x := K); omega))
    refine q_put (ci := 1) (j := 2) (v := .int a8) (ty := .int) C0 V i_She o_She n_She rfl rfl hT0 (by decide) w_54 rfl rfl rfl rfl (Nat.le_of_ble_eq_true rfl) d_11_3_70 (fun H locs w11 hu12 hT0 V => ?_)
    replace hT0 : w11[k1]? = (some (q k1, .inr (1, [.ref (q (k1 + 1)), .int R, .int a8])) : Option (Nat × va_E)) := hT0
    replace hI := n_shO' hI hB1 hu12 hT0 ⟨(by have t1 : 0 ≤ t0_0.toInt ∧ t0_0.toInt ≤ K.toInt := btt0_0; have t2 : a8.toInt = t0_0.toInt + 1 := b10; omega), (by have t1 : t0_0.toInt + 1 ≤ K.toInt := pre0; have t2 : a8.toInt = t0_0.toInt + 1 := b10; omega)⟩
    replace hT1 := (hu12 _ (by omega)).trans hT1
    replace hF := q_us hF hu12 (by simp)
    exact q_retv C0 V (⟨hI, hF, a8, t1_0, hT0, hT1, (show t0_0.toInt + 1 ≤ a8.toInt from (by first | with_reducible exact q_fe b10 | (have t1 : a8.toInt = t0_0.toInt + 1 := b10; omega))), (show a8.toInt ≤ t0_0.toInt + 1 from (by first | with_reducible exact q_fe b10 | (have t1 : a8.toInt = t0_0.toInt + 1 := b10; omega))), (show (a8, t1_0) = (F_She_add_p R N K x2 t0_0 t1_0) from (by rw [← e9, F_She_add_p.eq_1, if_pos c6]))⟩) d_11_3_73
  ·
    have b13 : q_F (t0_0.toInt < R.toInt) := (q_nleI c6)
    refine lv_bipush (v := 8) hx hb d_11_3_11 (by decide) ?_
    refine lv_aload_n hx hb d_11_3_13 rfl (lv_at hl 0 rfl) ?_
    refine q_get (ci := 1) (j := 2) (v := .int t0_0) C0 V i_She rfl rfl hT0 (by decide) w_54 rfl d_11_3_14 ?_
    refine lv_bipush (v := 7) hx hb d_11_3_17 (by decide) ?_
    refine lv_iand hx hb d_11_3_19 ?_
    obtain ⟨a14, e15⟩ := q_nm (t0_0 &&& 7 : Int32)
    refine q_ti (v := a14) e15 ?_
    refine lv_imul hx hb d_11_3_20 ?_
    obtain ⟨a17, e18⟩ := q_nm (8 * a14 : Int32)
    refine q_ti (v := a17) e18 ?_
    refine lv_istore_n (lv' := [(2, .int a17), (0, .ref (q k1)), (1, .int x2)]) hx hb d_11_3_21 rfl hl (by decide) rfl (fun ls hl => ?_)
    refine lv_aload_n hx hb d_11_3_22 rfl (lv_at hl 1 rfl) ?_
    refine q_get (ci := 1) (j := 0) (v := .ref (q (k1 + 1))) C0 V i_She rfl rfl hT0 (by decide) w_52 rfl d_11_3_23 ?_
    refine lv_aload_n hx hb d_11_3_26 rfl (lv_at hl 1 rfl) ?_
    refine q_get (ci := 1) (j := 2) (v := .int t0_0) C0 V i_She rfl rfl hT0 (by decide) w_54 rfl d_11_3_27 ?_
    refine lv_iconst (v := 3) hx hb d_11_3_30 (by decide) ?_
    refine lv_ishr hx hb d_11_3_31 ?_
    obtain ⟨a20, e21⟩ := q_nm (t0_0 >>> (3 &&& 31) : Int32)
    refine q_ti (v := a20) e21 ?_
    have b22 : q_F (8 * a20.toInt ≤ t0_0.toInt ∧ t0_0.toInt ≤ 8 * a20.toInt + 7) := (by rw [← e21]; show 8 * (t0_0 >>> (3 &&& 31) : Int32).toInt ≤ t0_0.toInt ∧ t0_0.toInt ≤ 8 * (t0_0 >>> (3 &&& 31) : Int32).toInt + 7; exact n_shr (x := t0_0) (c := 3) 3 (by decide) (by decide) (by first | with_reducible exact (q_fe btt0_0).2 | with_reducible exact (q_fe btt0_0).1 | (have t1 : 0 ≤ t0_0.toInt ∧ t0_0.toInt ≤ K.toInt := btt0_0; omega)))
    refine lv_aload_n hx hb d_11_3_32 rfl (lv_at hl 1 rfl) ?_
    refine q_get (ci := 1) (j := 0) (v := .ref (q (k1 + 1))) C0 V i_She rfl rfl hT0 (by decide) w_52 rfl d_11_3_33 ?_
    refine lv_aload_n hx hb d_11_3_36 rfl (lv_at hl 1 rfl) ?_
    refine q_get (ci := 1) (j := 2) (v := .int t0_0) C0 V i_She rfl rfl hT0 (by decide) w_54 rfl d_11_3_37 ?_
    refine lv_iconst (v := 3) hx hb d_11_3_40 (by decide) ?_
    refine lv_ishr hx hb d_11_3_41 ?_
    obtain ⟨a23, e24⟩ := q_nm (t0_0 >>> (3 &&& 31) : Int32)
    refine q_ti (v := a23) e24 ?_
    have b25 : q_F (8 * a23.toInt ≤ t0_0.toInt ∧ t0_0.toInt ≤ 8 * a23.toInt + 7) := (by rw [← e24]; show 8 * (t0_0 >>> (3 &&& 31) : Int32).toInt ≤ t0_0.toInt ∧ t0_0.toInt ≤ 8 * (t0_0 >>> (3 &&& 31) : Int32).toInt + 7; exact n_shr (x := t0_0) (c := 3) 3 (by decide) (by decide) (by first | with_reducible exact (q_fe btt0_0).2 | with_reducible exact (q_fe btt0_0).1 | (have t1 : 0 ≤ t0_0.toInt ∧ t0_0.toInt ≤ K.toInt := btt0_0; omega)))
    refine q_lald C0 V hT1 (q_ix (x := a23.toInt) rfl (by have t1 : 0 ≤ t0_0.toInt ∧ t0_0.toInt ≤ K.toInt := btt0_0; have t2 : 8 * a23.toInt ≤ t0_0.toInt ∧ t0_0.toInt ≤ 8 * a23.toInt + 7 := b25; omega) (by have t1 : 0 ≤ t0_0.toInt ∧ t0_0.toInt ≤ K.toInt := btt0_0; have t2 : 8 * a23.toInt ≤ t0_0.toInt ∧ t0_0.toInt ≤ 8 * a23.toInt + 7 := b25; have t3 : 0 ≤ R.toInt ∧ R.toInt ≤ 8 * N.toInt ∧ 0 ≤ N.toInt ∧ N.toInt ≤ 1376 ∧ 64 ≤ R.toInt ∧ 64 ≤ K.toInt ∧ K.toInt ≤ 1000000 := hfk10; have t4 : t0_0.toInt < R.toInt := b13; have e9 := q_clI (i := N) rfl (by have t1 : 0 ≤ R.toInt ∧ R.toInt ≤ 8 * N.toInt ∧ 0 ≤ N.toInt ∧ N.toInt ≤ 1376 ∧ 64 ≤ R.toInt ∧ 64 ≤ K.toInt ∧ K.toInt ≤ 1000000 := hfk10; omega); omega)) d_11_3_42 ?_
    obtain ⟨j26, e27⟩ := q_nm (t1_0 a23.toNatClampNeg : Int64)
    refine q_tl (v := j26) e27 ?_
    refine q_ldc2 C0 rfl w_565 d_11_3_43 ?_
    refine lv_iload_n hx hb d_11_3_46 rfl (lv_at hl 0 rfl) ?_
    refine lv_lshl hx hb d_11_3_47 rfl ?_
    obtain ⟨j28, e29⟩ := q_nm ((255 : Int64) <<< (a17.toInt64 &&& 63) : Int64)
    refine q_tl (v := j28) e29 ?_
    refine q_ldc2 C0 rfl w_566 d_11_3_48 ?_
    refine lv_lxor hx hb d_11_3_51 ?_
    obtain ⟨j30, e31⟩ := q_nm (j28 ^^^ (-1) : Int64)
    refine q_tl (v := j30) e31 ?_
    refine lv_land hx hb d_11_3_52 ?_
    obtain ⟨j32, e33⟩ := q_nm (j26 &&& j30 : Int64)
    refine q_tl (v := j32) e33 ?_
    refine lv_iload_n hx hb d_11_3_53 rfl (lv_at hl 2 rfl) ?_
    refine lv_sipush (v := 255) hx hb d_11_3_54 (by decide) ?_
    refine lv_iand hx hb d_11_3_57 ?_
    obtain ⟨a34, e35⟩ := q_nm (x2 &&& 255 : Int32)
    refine q_ti (v := a34) e35 ?_
    refine lv_i2l hx hb d_11_3_58 rfl ?_
    obtain ⟨j37, e38⟩ := q_nm (a34.toInt64 : Int64)
    refine q_tl (v := j37) e38 ?_
    refine lv_iload_n hx hb d_11_3_59 rfl (lv_at hl 0 rfl) ?_
    refine lv_lshl hx hb d_11_3_60 rfl ?_
    obtain ⟨j40, e41⟩ := q_nm (j37 <<< (a17.toInt64 &&& 63) : Int64)
    refine q_tl (v := j40) e41 ?_
    refine lv_lor hx hb d_11_3_61 ?_
    obtain ⟨j42, e43⟩ := q_nm (j32 ||| j40 : Int64)
    refine q_tl (v := j42) e43 ?_
    refine q_last C0 V hT1 (q_ix (x := a20.toInt) rfl (by have t1 : 0 ≤ t0_0.toInt ∧ t0_0.toInt ≤ K.toInt := btt0_0; have t2 : 8 * a20.toInt ≤ t0_0.toInt ∧ t0_0.toInt ≤ 8 * a20.toInt + 7 := b22; omega) (by have t1 : 0 ≤ t0_0.toInt ∧ t0_0.toInt ≤ K.toInt := btt0_0; have t2 : 8 * a20.toInt ≤ t0_0.toInt ∧ t0_0.toInt ≤ 8 * a20.toInt + 7 := b22; have t3 : 0 ≤ R.toInt ∧ R.toInt ≤ 8 * N.toInt ∧ 0 ≤ N.toInt ∧ N.toInt ≤ 1376 ∧ 64 ≤ R.toInt ∧ 64 ≤ K.toInt ∧ K.toInt ≤ 1000000 := hfk10; have t4 : t0_0.toInt < R.toInt := b13; have e9 := q_clI (i := N) rfl (by have t1 : 0 ≤ R.toInt ∧ R.toInt ≤ 8 * N.toInt ∧ 0 ≤ N.toInt ∧ N.toInt ≤ 1376 ∧ 64 ≤ R.toInt ∧ 64 ≤ K.toInt ∧ K.toInt ≤ 1000000 := hfk10; omega); omega)) d_11_3_62 (fun H locs w44 hu45 hT1 V => ?_)
    replace hI := n_al' hI hB1.2.1 hu45 hT1
    replace hT0 := (hu45 _ (by omega)).trans hT0
    replace hF := q_us hF hu45 (by simp)
    obtain ⟨f46, e47⟩ := q_nm (vp_updL t1_0 a20.toNatClampNeg j42 : (Nat → Int64))
    rw [e47] at hT1
    refine lv_aload_n hx hb d_11_3_63 rfl (lv_at hl 1 rfl) ?_
    refine lv_dup hx hb d_11_3_64 rfl ?_
    refine q_get (ci := 1) (j := 2) (v := .int t0_0) C0 V i_She rfl rfl hT0 (by decide) w_54 rfl d_11_3_65 ?_
    refine lv_iconst (v := 1) hx hb d_11_3_68 (by decide) ?_
    refine lv_iadd hx hb d_11_3_69 ?_
    obtain ⟨a48, e49⟩ := q_nm (t0_0 + 1 : Int32)
    refine q_ti (v := a48) e49 ?_
    have b50 : q_F (a48.toInt = t0_0.toInt + 1) := (by rw [← e49]; show (t0_0 + 1 : Int32).toInt = t0_0.toInt + 1; exact q_addI (x := t0_0.toInt) (y := 1) rfl (by decide) (by have t1 : 0 ≤ t0_0.toInt ∧ t0_0.toInt ≤ K.toInt := btt0_0; have t2 : t0_0.toInt + 1 ≤ K.toInt := pre0; have _ := q_lo32 (x := K); have _ := q_hi32 (x := K); omega) (by have t1 : 0 ≤ t0_0.toInt ∧ t0_0.toInt ≤ K.toInt := btt0_0; have t2 : t0_0.toInt + 1 ≤ K.toInt := pre0; have _ := q_lo32 (x := K); have _ := q_hi32 (x := K); omega))
    refine q_put (ci := 1) (j := 2) (v := .int a48) (ty := .int) C0 V i_She o_She n_She rfl rfl hT0 (by decide) w_54 rfl rfl rfl rfl (Nat.le_of_ble_eq_true rfl) d_11_3_70 (fun H locs w51 hu52 hT0 V => ?_)
    replace hT0 : w51[k1]? = (some (q k1, .inr (1, [.ref (q (k1 + 1)), .int R, .int a48])) : Option (Nat × va_E)) := hT0
    replace hI := n_shO' hI hB1 hu52 hT0 ⟨(by have t1 : 0 ≤ t0_0.toInt ∧ t0_0.toInt ≤ K.toInt := btt0_0; have t2 : a48.toInt = t0_0.toInt + 1 := b50; omega), (by have t1 : t0_0.toInt + 1 ≤ K.toInt := pre0; have t2 : a48.toInt = t0_0.toInt + 1 := b50; omega)⟩
    replace hT1 := (hu52 _ (by omega)).trans hT1
    replace hF := q_us hF hu52 (by simp)
    exact q_retv C0 V (⟨hI, hF, a48, f46, hT0, hT1, (show t0_0.toInt + 1 ≤ a48.toInt from (by first | with_reducible exact q_fe b50 | (have t1 : a48.toInt = t0_0.toInt + 1 := b50; omega))), (show a48.toInt ≤ t0_0.toInt + 1 from (by first | with_reducible exact q_fe b50 | (have t1 : a48.toInt = t0_0.toInt + 1 := b50; omega))), (show (a48, f46) = (F_She_add_p R N K x2 t0_0 t1_0) from (by rw [← e49, ← e47, ← e43, ← e41, ← e38, ← e35, ← e33, ← e31, ← e29, ← e27, ← e24, ← e21, ← e18, ← e15, F_She_add_p.eq_1, if_neg c6]))⟩) d_11_3_73
def F_She_at_p (R : Int32) (N : Int32) (K : Int32) (x2 : Int64) (t0_0 : Int32) (t1_0 : (Nat → Int64)) : Int32 := if (lg_cmp x2 0 : Int32) < (0 : Int32) then ((0 : Int32)) else (if (0 : Int32) ≤ (lg_cmp x2 (t0_0.toInt64 : Int64) : Int32) then ((0 : Int32)) else (if (lg_cmp x2 (R.toInt64 : Int64) : Int32) < (0 : Int32) then ((((((t1_0 ((x2.toInt32 : Int32) >>> (3 &&& 31) : Int32).toNatClampNeg : Int64).toUInt64 >>> ((8 * ((x2.toInt32 : Int32) &&& 7 : Int32) : Int32).toInt64.toUInt64 &&& Int64.toUInt64 63)).toInt64 : Int64).toInt32 : Int32) &&& 255 : Int32)) else ((0 : Int32))))
set_option maxRecDepth 100000 in
set_option maxHeartbeats 4000000 in
theorem X_She_at_p (l : Launch) (D : va_G) (g : Nat → ClassId) (q : Nat → Nat) (ws : va_W) (k1 : Nat) (R N K : Int32) (hB1 : q_isShe (nsh g q) g q k1 R N K) (x2 : Int64) (hI : q_I (nsh g q) q ws) (t0_0 : Int32) (hT0 : ws[k1]? = (some (q k1, .inr (1, [.ref (q (k1 + 1)), .int R, .int t0_0])) : Option (Nat × va_E))) (t1_0 : (Nat → Int64)) (hT1 : ws[k1 + 1]? = (some (q (k1 + 1), .inl (g 1, N.toNatClampNeg, .inr (.inl t1_0))) : Option (Nat × va_E))) : q_mI l y_She_at prog_11_method_8_code 3 (.int) 1 0 0 D g [.ref (q k1), .long x2] ws (fun r u => ws = u ∧ (0 ≤ r.toInt) ∧ (r.toInt ≤ 255) ∧ (r.toInt ≤ t0_0.toInt + 254) ∧ r = (F_She_at_p R N K x2 t0_0 t1_0)) := by
  intro sz
  refine q_into (by decide) (Nat.le_of_ble_eq_true rfl) ?_
  intro p e s m below meth c ls hsz C0 V hl
  have hx := C0.1
  have hb := C0.2.1
  have hfk10 : q_F (0 ≤ R.toInt ∧ R.toInt ≤ 8 * N.toInt ∧ 0 ≤ N.toInt ∧ N.toInt ≤ 1376 ∧ 64 ≤ R.toInt ∧ 64 ≤ K.toInt ∧ K.toInt ≤ 1000000) := hB1.2.2.1
  have btt0_0 := n_shW hI hB1 hT0
  replace btt0_0 : q_F (0 ≤ t0_0.toInt ∧ t0_0.toInt ≤ K.toInt) := btt0_0
  have hl : lv_has ls 3 [(0, .ref (q k1)), (1, .long x2)] := hl
  refine lv_lload_n hx hb d_11_8_0 rfl (lv_at hl 1 rfl) ?_
  refine lv_lconst (v := 0) hx hb d_11_8_1 (by decide) ?_
  refine W.lcmp hx hb d_11_8_2 ?_
  obtain ⟨a6, e7⟩ := q_nm (lg_cmp x2 0 : Int32)
  refine q_ti (v := a6) e7 ?_
  have b8 : q_F (-1 ≤ a6.toInt ∧ a6.toInt ≤ 1 ∧ ((a6.toInt = -1 ∧ x2.toInt < 0) ∨ (a6.toInt = 0 ∧ x2.toInt = 0) ∨ (a6.toInt = 1 ∧ 0 < x2.toInt))) := (by rw [← e7]; show -1 ≤ (lg_cmp x2 0 : Int32).toInt ∧ (lg_cmp x2 0 : Int32).toInt ≤ 1 ∧ (((lg_cmp x2 0 : Int32).toInt = -1 ∧ x2.toInt < 0) ∨ ((lg_cmp x2 0 : Int32).toInt = 0 ∧ x2.toInt = 0) ∨ ((lg_cmp x2 0 : Int32).toInt = 1 ∧ 0 < x2.toInt)); exact (by have y1 : (0 : Int64).toInt = 0 := rfl; have z := s_lcmp (a := x2) (b := 0); omega))
  refine lv_if_lt (tgt := 26) hx hb d_11_8_3 (by decide) (fun c9 => ?_) (fun c9 => ?_)
  ·
    refine lv_iconst (v := 0) hx hb d_11_8_26 (by decide) ?_
    exact q_reti C0 V (⟨rfl, (show 0 ≤ (0 : Int32).toInt from (by have z6 : (0 : Int32).toInt = 0 := rfl; omega)), (show (0 : Int32).toInt ≤ 255 from (by have z6 : (0 : Int32).toInt = 0 := rfl; omega)), (show (0 : Int32).toInt ≤ t0_0.toInt + 254 from (by have z6 : (0 : Int32).toInt = 0 := rfl; have t1 : 0 ≤ t0_0.toInt ∧ t0_0.toInt ≤ K.toInt := btt0_0; omega)), (show (0 : Int32) = (F_She_at_p R N K x2 t0_0 t1_0) from (by have c9x := c9; rw [← e7] at c9x; rw [F_She_at_p.eq_1, if_pos c9x]))⟩) d_11_8_27
  ·
    have b11 : q_F (0 ≤ a6.toInt) := (q_nltI c9)
    refine lv_lload_n hx hb d_11_8_6 rfl (lv_at hl 1 rfl) ?_
    refine lv_aload_n hx hb d_11_8_7 rfl (lv_at hl 0 rfl) ?_
    refine q_get (ci := 1) (j := 2) (v := .int t0_0) C0 V i_She rfl rfl hT0 (by decide) w_54 rfl d_11_8_8 ?_
    refine lv_i2l hx hb d_11_8_11 rfl ?_
    obtain ⟨j12, e13⟩ := q_nm (t0_0.toInt64 : Int64)
    refine q_tl (v := j12) e13 ?_
    have b14 : q_F (j12.toInt = t0_0.toInt) := (by rw [← e13]; show (t0_0.toInt64 : Int64).toInt = t0_0.toInt; exact q_i2l rfl)
    refine W.lcmp hx hb d_11_8_12 ?_
    obtain ⟨a15, e16⟩ := q_nm (lg_cmp x2 j12 : Int32)
    refine q_ti (v := a15) e16 ?_
    have b17 : q_F (-1 ≤ a15.toInt ∧ a15.toInt ≤ 1 ∧ ((a15.toInt = -1 ∧ x2.toInt < j12.toInt) ∨ (a15.toInt = 0 ∧ x2.toInt = j12.toInt) ∨ (a15.toInt = 1 ∧ j12.toInt < x2.toInt))) := (by rw [← e16]; show -1 ≤ (lg_cmp x2 j12 : Int32).toInt ∧ (lg_cmp x2 j12 : Int32).toInt ≤ 1 ∧ (((lg_cmp x2 j12 : Int32).toInt = -1 ∧ x2.toInt < j12.toInt) ∨ ((lg_cmp x2 j12 : Int32).toInt = 0 ∧ x2.toInt = j12.toInt) ∨ ((lg_cmp x2 j12 : Int32).toInt = 1 ∧ j12.toInt < x2.toInt)); exact s_lcmp)
    refine lv_if_ge (tgt := 26) hx hb d_11_8_13 (by decide) (fun c18 => ?_) (fun c18 => ?_)
    ·
      refine lv_iconst (v := 0) hx hb d_11_8_26 (by decide) ?_
      exact q_reti C0 V (⟨rfl, (show 0 ≤ (0 : Int32).toInt from (by have z6 : (0 : Int32).toInt = 0 := rfl; omega)), (show (0 : Int32).toInt ≤ 255 from (by have z6 : (0 : Int32).toInt = 0 := rfl; omega)), (show (0 : Int32).toInt ≤ t0_0.toInt + 254 from (by have z6 : (0 : Int32).toInt = 0 := rfl; have t1 : 0 ≤ t0_0.toInt ∧ t0_0.toInt ≤ K.toInt := btt0_0; omega)), (show (0 : Int32) = (F_She_at_p R N K x2 t0_0 t1_0) from (by have c9x := c9; rw [← e7] at c9x; have c18x := c18; rw [← e16, ← e13] at c18x; rw [F_She_at_p.eq_1, if_neg c9x, if_pos c18x]))⟩) d_11_8_27
    ·
      have b20 : q_F (a15.toInt < 0) := (q_nleI c18)
      refine lv_lload_n hx hb d_11_8_16 rfl (lv_at hl 1 rfl) ?_
      refine lv_aload_n hx hb d_11_8_17 rfl (lv_at hl 0 rfl) ?_
      refine q_get (ci := 1) (j := 1) (v := .int R) C0 V i_She rfl rfl hT0 (by decide) w_53 rfl d_11_8_18 ?_
      refine lv_i2l hx hb d_11_8_21 rfl ?_
      obtain ⟨j21, e22⟩ := q_nm (R.toInt64 : Int64)
      refine q_tl (v := j21) e22 ?_
      have b23 : q_F (j21.toInt = R.toInt) := (by rw [← e22]; show (R.toInt64 : Int64).toInt = R.toInt; exact q_i2l rfl)
      refine W.lcmp hx hb d_11_8_22 ?_
      obtain ⟨a24, e25⟩ := q_nm (lg_cmp x2 j21 : Int32)
      refine q_ti (v := a24) e25 ?_
      have b26 : q_F (-1 ≤ a24.toInt ∧ a24.toInt ≤ 1 ∧ ((a24.toInt = -1 ∧ x2.toInt < j21.toInt) ∨ (a24.toInt = 0 ∧ x2.toInt = j21.toInt) ∨ (a24.toInt = 1 ∧ j21.toInt < x2.toInt))) := (by rw [← e25]; show -1 ≤ (lg_cmp x2 j21 : Int32).toInt ∧ (lg_cmp x2 j21 : Int32).toInt ≤ 1 ∧ (((lg_cmp x2 j21 : Int32).toInt = -1 ∧ x2.toInt < j21.toInt) ∨ ((lg_cmp x2 j21 : Int32).toInt = 0 ∧ x2.toInt = j21.toInt) ∨ ((lg_cmp x2 j21 : Int32).toInt = 1 ∧ j21.toInt < x2.toInt)); exact s_lcmp)
      refine lv_if_lt (tgt := 28) hx hb d_11_8_23 (by decide) (fun c27 => ?_) (fun c27 => ?_)
      ·
        have b28 : q_F (a24.toInt < 0) := (q_ltI c27)
        refine lv_aload_n hx hb d_11_8_28 rfl (lv_at hl 0 rfl) ?_
        refine q_get (ci := 1) (j := 0) (v := .ref (q (k1 + 1))) C0 V i_She rfl rfl hT0 (by decide) w_52 rfl d_11_8_29 ?_
        refine lv_lload_n hx hb d_11_8_32 rfl (lv_at hl 1 rfl) ?_
        refine lv_l2i hx hb d_11_8_33 rfl ?_
        obtain ⟨a29, e30⟩ := q_nm (x2.toInt32 : Int32)
        refine q_ti (v := a29) e30 ?_
        have b31 : q_F (a29.toInt = x2.toInt) := (by rw [← e30]; show (x2.toInt32 : Int32).toInt = x2.toInt; exact s_l2i (by have t1 : -1 ≤ a6.toInt ∧ a6.toInt ≤ 1 ∧ ((a6.toInt = -1 ∧ x2.toInt < 0) ∨ (a6.toInt = 0 ∧ x2.toInt = 0) ∨ (a6.toInt = 1 ∧ 0 < x2.toInt)) := b8; have t2 : 0 ≤ a6.toInt := b11; have t3 : j21.toInt = R.toInt := b23; have t4 : -1 ≤ a24.toInt ∧ a24.toInt ≤ 1 ∧ ((a24.toInt = -1 ∧ x2.toInt < j21.toInt) ∨ (a24.toInt = 0 ∧ x2.toInt = j21.toInt) ∨ (a24.toInt = 1 ∧ j21.toInt < x2.toInt)) := b26; have t5 : a24.toInt < 0 := b28; have _ := q_lo32 (x := R); have _ := q_hi32 (x := R); omega) (by have t1 : -1 ≤ a6.toInt ∧ a6.toInt ≤ 1 ∧ ((a6.toInt = -1 ∧ x2.toInt < 0) ∨ (a6.toInt = 0 ∧ x2.toInt = 0) ∨ (a6.toInt = 1 ∧ 0 < x2.toInt)) := b8; have t2 : 0 ≤ a6.toInt := b11; have t3 : j21.toInt = R.toInt := b23; have t4 : -1 ≤ a24.toInt ∧ a24.toInt ≤ 1 ∧ ((a24.toInt = -1 ∧ x2.toInt < j21.toInt) ∨ (a24.toInt = 0 ∧ x2.toInt = j21.toInt) ∨ (a24.toInt = 1 ∧ j21.toInt < x2.toInt)) := b26; have t5 : a24.toInt < 0 := b28; have _ := q_lo32 (x := R); have _ := q_hi32 (x := R); omega))
        refine lv_iconst (v := 3) hx hb d_11_8_34 (by decide) ?_
        refine lv_ishr hx hb d_11_8_35 ?_
        obtain ⟨a32, e33⟩ := q_nm (a29 >>> (3 &&& 31) : Int32)
        refine q_ti (v := a32) e33 ?_
        have b34 : q_F (8 * a32.toInt ≤ a29.toInt ∧ a29.toInt ≤ 8 * a32.toInt + 7) := (by rw [← e33]; show 8 * (a29 >>> (3 &&& 31) : Int32).toInt ≤ a29.toInt ∧ a29.toInt ≤ 8 * (a29 >>> (3 &&& 31) : Int32).toInt + 7; exact n_shr (x := a29) (c := 3) 3 (by decide) (by decide) (by have t1 : -1 ≤ a6.toInt ∧ a6.toInt ≤ 1 ∧ ((a6.toInt = -1 ∧ x2.toInt < 0) ∨ (a6.toInt = 0 ∧ x2.toInt = 0) ∨ (a6.toInt = 1 ∧ 0 < x2.toInt)) := b8; have t2 : 0 ≤ a6.toInt := b11; have t3 : a29.toInt = x2.toInt := b31; omega))
        refine q_lald C0 V hT1 (q_ix (x := a32.toInt) rfl (by have t1 : -1 ≤ a6.toInt ∧ a6.toInt ≤ 1 ∧ ((a6.toInt = -1 ∧ x2.toInt < 0) ∨ (a6.toInt = 0 ∧ x2.toInt = 0) ∨ (a6.toInt = 1 ∧ 0 < x2.toInt)) := b8; have t2 : 0 ≤ a6.toInt := b11; have t3 : a29.toInt = x2.toInt := b31; have t4 : 8 * a32.toInt ≤ a29.toInt ∧ a29.toInt ≤ 8 * a32.toInt + 7 := b34; omega) (by have t1 : -1 ≤ a6.toInt ∧ a6.toInt ≤ 1 ∧ ((a6.toInt = -1 ∧ x2.toInt < 0) ∨ (a6.toInt = 0 ∧ x2.toInt = 0) ∨ (a6.toInt = 1 ∧ 0 < x2.toInt)) := b8; have t2 : 0 ≤ a6.toInt := b11; have t3 : a29.toInt = x2.toInt := b31; have t4 : 8 * a32.toInt ≤ a29.toInt ∧ a29.toInt ≤ 8 * a32.toInt + 7 := b34; have t5 : 0 ≤ R.toInt ∧ R.toInt ≤ 8 * N.toInt ∧ 0 ≤ N.toInt ∧ N.toInt ≤ 1376 ∧ 64 ≤ R.toInt ∧ 64 ≤ K.toInt ∧ K.toInt ≤ 1000000 := hfk10; have t6 : j21.toInt = R.toInt := b23; have t7 : -1 ≤ a24.toInt ∧ a24.toInt ≤ 1 ∧ ((a24.toInt = -1 ∧ x2.toInt < j21.toInt) ∨ (a24.toInt = 0 ∧ x2.toInt = j21.toInt) ∨ (a24.toInt = 1 ∧ j21.toInt < x2.toInt)) := b26; have t8 : a24.toInt < 0 := b28; have e9 := q_clI (i := N) rfl (by have t1 : 0 ≤ R.toInt ∧ R.toInt ≤ 8 * N.toInt ∧ 0 ≤ N.toInt ∧ N.toInt ≤ 1376 ∧ 64 ≤ R.toInt ∧ 64 ≤ K.toInt ∧ K.toInt ≤ 1000000 := hfk10; omega); omega)) d_11_8_36 ?_
        obtain ⟨j35, e36⟩ := q_nm (t1_0 a32.toNatClampNeg : Int64)
        refine q_tl (v := j35) e36 ?_
        refine lv_bipush (v := 8) hx hb d_11_8_37 (by decide) ?_
        refine lv_lload_n hx hb d_11_8_39 rfl (lv_at hl 1 rfl) ?_
        refine lv_l2i hx hb d_11_8_40 rfl ?_
        obtain ⟨a37, e38⟩ := q_nm (x2.toInt32 : Int32)
        refine q_ti (v := a37) e38 ?_
        refine lv_bipush (v := 7) hx hb d_11_8_41 (by decide) ?_
        refine lv_iand hx hb d_11_8_43 ?_
        obtain ⟨a40, e41⟩ := q_nm (a37 &&& 7 : Int32)
        refine q_ti (v := a40) e41 ?_
        refine lv_imul hx hb d_11_8_44 ?_
        obtain ⟨a43, e44⟩ := q_nm (8 * a40 : Int32)
        refine q_ti (v := a43) e44 ?_
        refine lv_lushr hx hb d_11_8_45 rfl ?_
        obtain ⟨j46, e47⟩ := q_nm ((j35.toUInt64 >>> (a43.toInt64.toUInt64 &&& Int64.toUInt64 63)).toInt64 : Int64)
        refine q_tl (v := j46) e47 ?_
        refine lv_l2i hx hb d_11_8_46 rfl ?_
        obtain ⟨a48, e49⟩ := q_nm (j46.toInt32 : Int32)
        refine q_ti (v := a48) e49 ?_
        refine lv_sipush (v := 255) hx hb d_11_8_47 (by decide) ?_
        refine lv_iand hx hb d_11_8_50 ?_
        obtain ⟨a50, e51⟩ := q_nm (a48 &&& 255 : Int32)
        refine q_ti (v := a50) e51 ?_
        have b52 : q_F (0 ≤ a50.toInt ∧ a50.toInt ≤ 255) := (by rw [← e51]; show 0 ≤ (a48 &&& 255 : Int32).toInt ∧ (a48 &&& 255 : Int32).toInt ≤ 255; exact s_and (by decide))
        exact q_reti C0 V (⟨rfl, (show 0 ≤ a50.toInt from (by first | with_reducible exact (q_fe b52).2 | with_reducible exact (q_fe b52).1 | (have t1 : 0 ≤ a50.toInt ∧ a50.toInt ≤ 255 := b52; omega))), (show a50.toInt ≤ 255 from (by first | with_reducible exact (q_fe b52).2 | with_reducible exact (q_fe b52).1 | (have t1 : 0 ≤ a50.toInt ∧ a50.toInt ≤ 255 := b52; omega))), (show a50.toInt ≤ t0_0.toInt + 254 from (by have t1 : -1 ≤ a6.toInt ∧ a6.toInt ≤ 1 ∧ ((a6.toInt = -1 ∧ x2.toInt < 0) ∨ (a6.toInt = 0 ∧ x2.toInt = 0) ∨ (a6.toInt = 1 ∧ 0 < x2.toInt)) := b8; have t2 : 0 ≤ a6.toInt := b11; have t3 : j12.toInt = t0_0.toInt := b14; have t4 : -1 ≤ a15.toInt ∧ a15.toInt ≤ 1 ∧ ((a15.toInt = -1 ∧ x2.toInt < j12.toInt) ∨ (a15.toInt = 0 ∧ x2.toInt = j12.toInt) ∨ (a15.toInt = 1 ∧ j12.toInt < x2.toInt)) := b17; have t5 : a15.toInt < 0 := b20; have t6 : 0 ≤ a50.toInt ∧ a50.toInt ≤ 255 := b52; omega)), (show a50 = (F_She_at_p R N K x2 t0_0 t1_0) from (by have c9x := c9; rw [← e7] at c9x; have c18x := c18; rw [← e16, ← e13] at c18x; have c27x := c27; rw [← e25, ← e22] at c27x; rw [← e51, ← e49, ← e47, ← e44, ← e41, ← e38, ← e36, ← e33, ← e30, F_She_at_p.eq_1, if_neg c9x, if_neg c18x, if_pos c27x]))⟩) d_11_8_51
      ·
        refine lv_iconst (v := 0) hx hb d_11_8_26 (by decide) ?_
        exact q_reti C0 V (⟨rfl, (show 0 ≤ (0 : Int32).toInt from (by have z6 : (0 : Int32).toInt = 0 := rfl; omega)), (show (0 : Int32).toInt ≤ 255 from (by have z6 : (0 : Int32).toInt = 0 := rfl; omega)), (show (0 : Int32).toInt ≤ t0_0.toInt + 254 from (by have z6 : (0 : Int32).toInt = 0 := rfl; have t1 : 0 ≤ t0_0.toInt ∧ t0_0.toInt ≤ K.toInt := btt0_0; omega)), (show (0 : Int32) = (F_She_at_p R N K x2 t0_0 t1_0) from (by have c9x := c9; rw [← e7] at c9x; have c18x := c18; rw [← e16, ← e13] at c18x; have c27x := c27; rw [← e25, ← e22] at c27x; rw [F_She_at_p.eq_1, if_neg c9x, if_neg c18x, if_neg c27x]))⟩) d_11_8_27
def F_She_replace_p (R : Int32) (N : Int32) (K : Int32) (x2 : Int32) (x3 : Int32) (t0_0 : Int32) (t1_0 : (Nat → Int64)) : (Nat → Int64) := if x2 < (0 : Int32) then (t1_0) else (if R ≤ x2 then (t1_0) else ((vp_updL t1_0 (x2 >>> (3 &&& 31) : Int32).toNatClampNeg ((t1_0 (x2 >>> (3 &&& 31) : Int32).toNatClampNeg : Int64) ^^^ (((((F_She_at_p R N K (x2.toInt64 : Int64) t0_0 t1_0) : Int32) ^^^ (x3 &&& 255 : Int32) : Int32).toInt64 : Int64) <<< ((8 * (x2 &&& 7 : Int32) : Int32).toInt64 &&& 63) : Int64) : Int64) : (Nat → Int64))))
set_option maxRecDepth 100000 in
set_option maxHeartbeats 4000000 in
theorem X_She_replace_p (l : Launch) (D : va_G) (g : Nat → ClassId) (q : Nat → Nat) (ws : va_W) (k1 : Nat) (R N K : Int32) (hB1 : q_isShe (nsh g q) g q k1 R N K) (x2 : Int32) (x3 : Int32) (hI : q_I (nsh g q) q ws) (t0_0 : Int32) (hT0 : ws[k1]? = (some (q k1, .inr (1, [.ref (q (k1 + 1)), .int R, .int t0_0])) : Option (Nat × va_E))) (t1_0 : (Nat → Int64)) (hT1 : ws[k1 + 1]? = (some (q (k1 + 1), .inl (g 1, N.toNatClampNeg, .inr (.inl t1_0))) : Option (Nat × va_E))) : q_mV l y_She_replace prog_11_method_9_code 3 2 0 0 D g [.ref (q k1), .int x2, .int x3] ws (fun u => q_I (nsh g q) q u ∧ q_un ws u [k1 + 1] ∧ ∃ (u1_0 : (Nat → Int64)), u[k1 + 1]? = (some (q (k1 + 1), .inl (g 1, N.toNatClampNeg, .inr (.inl u1_0))) : Option (Nat × va_E)) ∧ u1_0 = (F_She_replace_p R N K x2 x3 t0_0 t1_0)) := by
  intro sz
  refine q_into (by decide) (Nat.le_of_ble_eq_true rfl) ?_
  intro p e s m below meth c ls hsz C0 V hl
  have hx := C0.1
  have hb := C0.2.1
  have hfk10 : q_F (0 ≤ R.toInt ∧ R.toInt ≤ 8 * N.toInt ∧ 0 ≤ N.toInt ∧ N.toInt ≤ 1376 ∧ 64 ≤ R.toInt ∧ 64 ≤ K.toInt ∧ K.toInt ≤ 1000000) := hB1.2.2.1
  have btt0_0 := n_shW hI hB1 hT0
  clear btt0_0
  have hF : q_un ws ws [k1 + 1] := q_u0
  have hl : lv_has ls 3 [(0, .ref (q k1)), (1, .int x2), (2, .int x3)] := hl
  refine lv_iload_n hx hb d_11_9_0 rfl (lv_at hl 1 rfl) ?_
  refine lv_if_lt (tgt := 44) hx hb d_11_9_1 (by decide) (fun c6 => ?_) (fun c6 => ?_)
  ·
    exact q_retv C0 V (⟨hI, hF, t1_0, hT1, (show t1_0 = (F_She_replace_p R N K x2 x3 t0_0 t1_0) from (by rw [F_She_replace_p.eq_1, if_pos c6]))⟩) d_11_9_44
  ·
    have b8 : q_F (0 ≤ x2.toInt) := (q_nltI c6)
    refine lv_iload_n hx hb d_11_9_4 rfl (lv_at hl 1 rfl) ?_
    refine lv_aload_n hx hb d_11_9_5 rfl (lv_at hl 0 rfl) ?_
    refine q_get (ci := 1) (j := 1) (v := .int R) C0 V i_She rfl rfl hT0 (by decide) w_53 rfl d_11_9_6 ?_
    refine lv_icmp_ge (tgt := 44) hx hb d_11_9_9 (by decide) (fun c9 => ?_) (fun c9 => ?_)
    ·
      exact q_retv C0 V (⟨hI, hF, t1_0, hT1, (show t1_0 = (F_She_replace_p R N K x2 x3 t0_0 t1_0) from (by rw [F_She_replace_p.eq_1, if_neg c6, if_pos c9]))⟩) d_11_9_44
    ·
      have b11 : q_F (x2.toInt < R.toInt) := (q_nleI c9)
      refine lv_aload_n hx hb d_11_9_12 rfl (lv_at hl 0 rfl) ?_
      refine q_get (ci := 1) (j := 0) (v := .ref (q (k1 + 1))) C0 V i_She rfl rfl hT0 (by decide) w_52 rfl d_11_9_13 ?_
      refine lv_iload_n hx hb d_11_9_16 rfl (lv_at hl 1 rfl) ?_
      refine lv_iconst (v := 3) hx hb d_11_9_17 (by decide) ?_
      refine lv_ishr hx hb d_11_9_18 ?_
      obtain ⟨a12, e13⟩ := q_nm (x2 >>> (3 &&& 31) : Int32)
      refine q_ti (v := a12) e13 ?_
      have b14 : q_F (8 * a12.toInt ≤ x2.toInt ∧ x2.toInt ≤ 8 * a12.toInt + 7) := (by rw [← e13]; show 8 * (x2 >>> (3 &&& 31) : Int32).toInt ≤ x2.toInt ∧ x2.toInt ≤ 8 * (x2 >>> (3 &&& 31) : Int32).toInt + 7; exact n_shr (x := x2) (c := 3) 3 (by decide) (by decide) (by first | with_reducible exact q_fe b8 | (have t1 : 0 ≤ x2.toInt := b8; omega)))
      refine lv_dup2_11 hx hb d_11_9_19 rfl rfl ?_
      refine q_lald C0 V hT1 (q_ix (x := a12.toInt) rfl (by have t1 : 0 ≤ x2.toInt := b8; have t2 : 8 * a12.toInt ≤ x2.toInt ∧ x2.toInt ≤ 8 * a12.toInt + 7 := b14; omega) (by have t1 : 0 ≤ x2.toInt := b8; have t2 : 8 * a12.toInt ≤ x2.toInt ∧ x2.toInt ≤ 8 * a12.toInt + 7 := b14; have t3 : 0 ≤ R.toInt ∧ R.toInt ≤ 8 * N.toInt ∧ 0 ≤ N.toInt ∧ N.toInt ≤ 1376 ∧ 64 ≤ R.toInt ∧ 64 ≤ K.toInt ∧ K.toInt ≤ 1000000 := hfk10; have t4 : x2.toInt < R.toInt := b11; have e9 := q_clI (i := N) rfl (by have t1 : 0 ≤ R.toInt ∧ R.toInt ≤ 8 * N.toInt ∧ 0 ≤ N.toInt ∧ N.toInt ≤ 1376 ∧ 64 ≤ R.toInt ∧ 64 ≤ K.toInt ∧ K.toInt ≤ 1000000 := hfk10; omega); omega)) d_11_9_20 ?_
      obtain ⟨j15, e16⟩ := q_nm (t1_0 a12.toNatClampNeg : Int64)
      refine q_tl (v := j15) e16 ?_
      refine lv_aload_n hx hb d_11_9_21 rfl (lv_at hl 0 rfl) ?_
      refine lv_iload_n hx hb d_11_9_22 rfl (lv_at hl 1 rfl) ?_
      refine lv_i2l hx hb d_11_9_23 rfl ?_
      obtain ⟨j17, e18⟩ := q_nm (x2.toInt64 : Int64)
      refine q_tl (v := j17) e18 ?_
      refine q_goi V (q_runV (As := [.long j17]) (rest := [.long j15, .int a12, .ref (q (k1 + 1))]) (d := 1) (mc := 0) (ms := 0) (ci := 1) C0 V rfl LV_She_48 (X_She_at_p l D g q ws k1 R N K hB1 j17 hI t0_0 hT0 t1_0 hT1  _) rfl rfl hT0 rfl hl.1 rfl (Nat.le_of_ble_eq_true rfl) ⟨by decide, by decide⟩ ⟨Nat.le_of_ble_eq_true rfl, Nat.le_of_ble_eq_true rfl⟩ d_11_9_24) (fun a22 u20 H locs hp21 V => ?_)
      obtain ⟨rfl, b23, b24, b25, hE26⟩ := hp21
      have e27 : a22 = (F_She_at_p R N K j17 t0_0 t1_0) := hE26
      clear b23
      clear b24
      clear b25
      refine lv_iload_n hx hb d_11_9_27 rfl (lv_at hl 2 rfl) ?_
      refine lv_sipush (v := 255) hx hb d_11_9_28 (by decide) ?_
      refine lv_iand hx hb d_11_9_31 ?_
      obtain ⟨a28, e29⟩ := q_nm (x3 &&& 255 : Int32)
      refine q_ti (v := a28) e29 ?_
      refine lv_ixor hx hb d_11_9_32 ?_
      obtain ⟨a31, e32⟩ := q_nm (a22 ^^^ a28 : Int32)
      refine q_ti (v := a31) e32 ?_
      refine lv_i2l hx hb d_11_9_33 rfl ?_
      obtain ⟨j34, e35⟩ := q_nm (a31.toInt64 : Int64)
      refine q_tl (v := j34) e35 ?_
      refine lv_bipush (v := 8) hx hb d_11_9_34 (by decide) ?_
      refine lv_iload_n hx hb d_11_9_36 rfl (lv_at hl 1 rfl) ?_
      refine lv_bipush (v := 7) hx hb d_11_9_37 (by decide) ?_
      refine lv_iand hx hb d_11_9_39 ?_
      obtain ⟨a37, e38⟩ := q_nm (x2 &&& 7 : Int32)
      refine q_ti (v := a37) e38 ?_
      refine lv_imul hx hb d_11_9_40 ?_
      obtain ⟨a40, e41⟩ := q_nm (8 * a37 : Int32)
      refine q_ti (v := a40) e41 ?_
      refine lv_lshl hx hb d_11_9_41 rfl ?_
      obtain ⟨j43, e44⟩ := q_nm (j34 <<< (a40.toInt64 &&& 63) : Int64)
      refine q_tl (v := j43) e44 ?_
      refine lv_lxor hx hb d_11_9_42 ?_
      obtain ⟨j45, e46⟩ := q_nm (j15 ^^^ j43 : Int64)
      refine q_tl (v := j45) e46 ?_
      refine q_last C0 V hT1 (q_ix (x := a12.toInt) rfl (by have t1 : 0 ≤ x2.toInt := b8; have t2 : 8 * a12.toInt ≤ x2.toInt ∧ x2.toInt ≤ 8 * a12.toInt + 7 := b14; omega) (by have t1 : 0 ≤ x2.toInt := b8; have t2 : 8 * a12.toInt ≤ x2.toInt ∧ x2.toInt ≤ 8 * a12.toInt + 7 := b14; have t3 : 0 ≤ R.toInt ∧ R.toInt ≤ 8 * N.toInt ∧ 0 ≤ N.toInt ∧ N.toInt ≤ 1376 ∧ 64 ≤ R.toInt ∧ 64 ≤ K.toInt ∧ K.toInt ≤ 1000000 := hfk10; have t4 : x2.toInt < R.toInt := b11; have e9 := q_clI (i := N) rfl (by have t1 : 0 ≤ R.toInt ∧ R.toInt ≤ 8 * N.toInt ∧ 0 ≤ N.toInt ∧ N.toInt ≤ 1376 ∧ 64 ≤ R.toInt ∧ 64 ≤ K.toInt ∧ K.toInt ≤ 1000000 := hfk10; omega); omega)) d_11_9_43 (fun H locs w47 hu48 hT1 V => ?_)
      replace hI := n_al' hI hB1.2.1 hu48 hT1
      replace hF := q_us hF hu48 (by simp)
      obtain ⟨f49, e50⟩ := q_nm (vp_updL t1_0 a12.toNatClampNeg j45 : (Nat → Int64))
      rw [e50] at hT1
      exact q_retv C0 V (⟨hI, hF, f49, hT1, (show f49 = (F_She_replace_p R N K x2 x3 t0_0 t1_0) from (by rw [← e50, ← e46, ← e44, ← e41, ← e38, ← e35, ← e32, ← e29, e27, ← e18, ← e16, ← e13, F_She_replace_p.eq_1, if_neg c6, if_neg c9]))⟩) d_11_9_44
def F_She_cut_p (R : Int32) (N : Int32) (K : Int32) (x2 : Int32) (t0_0 : Int32) : Int32 := (if x2 < t0_0 then x2 else t0_0 : Int32)
set_option maxRecDepth 100000 in
set_option maxHeartbeats 4000000 in
theorem X_She_cut_p (l : Launch) (D : va_G) (g : Nat → ClassId) (q : Nat → Nat) (ws : va_W) (k1 : Nat) (R N K : Int32) (hB1 : q_isShe (nsh g q) g q k1 R N K) (x2 : Int32) (hI : q_I (nsh g q) q ws) (t0_0 : Int32) (hT0 : ws[k1]? = (some (q k1, .inr (1, [.ref (q (k1 + 1)), .int R, .int t0_0])) : Option (Nat × va_E))) (pre0 : 0 ≤ x2.toInt) : q_mV l y_She_cut prog_11_method_10_code 2 2 0 0 D g [.ref (q k1), .int x2] ws (fun u => q_I (nsh g q) q u ∧ q_un ws u [k1] ∧ ∃ (u0_0 : Int32), u[k1]? = (some (q k1, .inr (1, [.ref (q (k1 + 1)), .int R, .int u0_0])) : Option (Nat × va_E)) ∧ (0 ≤ u0_0.toInt) ∧ (u0_0.toInt ≤ x2.toInt) ∧ (u0_0.toInt ≤ t0_0.toInt) ∧ u0_0 = (F_She_cut_p R N K x2 t0_0)) := by
  intro sz
  refine q_into (by decide) (Nat.le_of_ble_eq_true rfl) ?_
  intro p e s m below meth c ls hsz C0 V hl
  have hx := C0.1
  have hb := C0.2.1
  have btt0_0 := n_shW hI hB1 hT0
  replace btt0_0 : q_F (0 ≤ t0_0.toInt ∧ t0_0.toInt ≤ K.toInt) := btt0_0
  replace pre0 : q_F (0 ≤ x2.toInt) := pre0
  have hF : q_un ws ws [k1] := q_u0
  have hl : lv_has ls 2 [(0, .ref (q k1)), (1, .int x2)] := hl
  refine lv_aload_n hx hb d_11_10_0 rfl (lv_at hl 0 rfl) ?_
  refine lv_aload_n hx hb d_11_10_1 rfl (lv_at hl 0 rfl) ?_
  refine q_get (ci := 1) (j := 2) (v := .int t0_0) C0 V i_She rfl rfl hT0 (by decide) w_54 rfl d_11_10_2 ?_
  refine lv_iload_n hx hb d_11_10_5 rfl (lv_at hl 1 rfl) ?_
  refine q_min C0 hl.1 rfl w_1860 w_774 w_7 w_775 ⟨Nat.le_of_ble_eq_true rfl, Nat.le_of_ble_eq_true rfl⟩ ⟨Nat.le_of_ble_eq_true rfl, Nat.le_of_ble_eq_true rfl⟩ d_11_10_6 ?_
  obtain ⟨a4, e5⟩ := q_nm (if x2 < t0_0 then x2 else t0_0 : Int32)
  refine q_ti (v := a4) e5 ?_
  have b6 : q_F (a4.toInt ≤ t0_0.toInt ∧ a4.toInt ≤ x2.toInt ∧ (a4.toInt = t0_0.toInt ∨ a4.toInt = x2.toInt)) := (by rw [← e5]; show (if x2 < t0_0 then x2 else t0_0 : Int32).toInt ≤ t0_0.toInt ∧ (if x2 < t0_0 then x2 else t0_0 : Int32).toInt ≤ x2.toInt ∧ ((if x2 < t0_0 then x2 else t0_0 : Int32).toInt = t0_0.toInt ∨ (if x2 < t0_0 then x2 else t0_0 : Int32).toInt = x2.toInt); exact s_min (a := t0_0) (b := x2))
  refine q_put (ci := 1) (j := 2) (v := .int a4) (ty := .int) C0 V i_She o_She n_She rfl rfl hT0 (by decide) w_54 rfl rfl rfl rfl (Nat.le_of_ble_eq_true rfl) d_11_10_9 (fun H locs w7 hu8 hT0 V => ?_)
  replace hT0 : w7[k1]? = (some (q k1, .inr (1, [.ref (q (k1 + 1)), .int R, .int a4])) : Option (Nat × va_E)) := hT0
  replace hI := n_shO' hI hB1 hu8 hT0 ⟨(by have t1 : 0 ≤ t0_0.toInt ∧ t0_0.toInt ≤ K.toInt := btt0_0; have t2 : 0 ≤ x2.toInt := pre0; have t3 : a4.toInt ≤ t0_0.toInt ∧ a4.toInt ≤ x2.toInt ∧ (a4.toInt = t0_0.toInt ∨ a4.toInt = x2.toInt) := b6; omega), (by have t1 : 0 ≤ t0_0.toInt ∧ t0_0.toInt ≤ K.toInt := btt0_0; have t2 : a4.toInt ≤ t0_0.toInt ∧ a4.toInt ≤ x2.toInt ∧ (a4.toInt = t0_0.toInt ∨ a4.toInt = x2.toInt) := b6; omega)⟩
  replace hF := q_us hF hu8 (by simp)
  exact q_retv C0 V (⟨hI, hF, a4, hT0, (show 0 ≤ a4.toInt from (by have t1 : 0 ≤ t0_0.toInt ∧ t0_0.toInt ≤ K.toInt := btt0_0; have t2 : 0 ≤ x2.toInt := pre0; have t3 : a4.toInt ≤ t0_0.toInt ∧ a4.toInt ≤ x2.toInt ∧ (a4.toInt = t0_0.toInt ∨ a4.toInt = x2.toInt) := b6; omega)), (show a4.toInt ≤ x2.toInt from (by have t1 : a4.toInt ≤ t0_0.toInt ∧ a4.toInt ≤ x2.toInt ∧ (a4.toInt = t0_0.toInt ∨ a4.toInt = x2.toInt) := b6; omega)), (show a4.toInt ≤ t0_0.toInt from (by have t1 : a4.toInt ≤ t0_0.toInt ∧ a4.toInt ≤ x2.toInt ∧ (a4.toInt = t0_0.toInt ∨ a4.toInt = x2.toInt) := b6; omega)), (show a4 = (F_She_cut_p R N K x2 t0_0) from (by rw [← e5, F_She_cut_p.eq_1]))⟩) d_11_10_12
def F_She_addTimes_p_c9 (K_F_She_addTimes_p_L2 : Int32 → Int32 → (Nat → Int64) → (Int32 × (Nat → Int64))) (R : Int32) (N : Int32) (K : Int32) (x2 : Int32) (x3 : Int32) (t0_0 : Int32) (t1_0 : (Nat → Int64)) (lx7 : Int32) (lx8 : Int32) (lx9 : (Nat → Int64)) (p37 : (Int32 × (Nat → Int64))) : Int32 × (Nat → Int64) := K_F_She_addTimes_p_L2 (lx7 + 1 : Int32) (p37.1 : Int32) (p37.2 : (Nat → Int64))
def F_She_addTimes_p_L2 (R : Int32) (N : Int32) (K : Int32) (x2 : Int32) (x3 : Int32) (t0_0 : Int32) (t1_0 : (Nat → Int64)) : Nat → Int32 → Int32 → (Nat → Int64) → (Int32 × (Nat → Int64))
  | 0, _, _, _ => default
  | fm + 1, lx7, lx8, lx9 => if x3 ≤ lx7 then ((lx8, lx9)) else (F_She_addTimes_p_c9 (F_She_addTimes_p_L2 R N K x2 x3 t0_0 t1_0 fm) R N K x2 x3 t0_0 t1_0 lx7 lx8 lx9 ((F_She_add_p R N K x2 lx8 lx9) : (Int32 × (Nat → Int64))))
def F_She_addTimes_p (R : Int32) (N : Int32) (K : Int32) (x2 : Int32) (x3 : Int32) (t0_0 : Int32) (t1_0 : (Nat → Int64)) : Int32 × (Nat → Int64) := F_She_addTimes_p_L2 R N K x2 x3 t0_0 t1_0 ((10000 - (0 : Int32).toInt).toNat + 1) 0 t0_0 t1_0
set_option maxRecDepth 100000 in
set_option maxHeartbeats 4000000 in
theorem X_She_addTimes_p (l : Launch) (D : va_G) (g : Nat → ClassId) (q : Nat → Nat) (ws : va_W) (k1 : Nat) (R N K : Int32) (hB1 : q_isShe (nsh g q) g q k1 R N K) (x2 : Int32) (x3 : Int32) (hI : q_I (nsh g q) q ws) (t0_0 : Int32) (hT0 : ws[k1]? = (some (q k1, .inr (1, [.ref (q (k1 + 1)), .int R, .int t0_0])) : Option (Nat × va_E))) (t1_0 : (Nat → Int64)) (hT1 : ws[k1 + 1]? = (some (q (k1 + 1), .inl (g 1, N.toNatClampNeg, .inr (.inl t1_0))) : Option (Nat × va_E))) (pre0 : t0_0.toInt + x3.toInt ≤ K.toInt) (pre1 : t0_0.toInt ≤ K.toInt) (pre2 : x3.toInt ≤ 10000) : q_mV l y_She_addTimes prog_11_method_5_code 4 2 0 0 D g [.ref (q k1), .int x2, .int x3] ws (fun u => q_I (nsh g q) q u ∧ q_un ws u [k1, k1 + 1] ∧ ∃ (u0_0 : Int32) (u1_0 : (Nat → Int64)), u[k1]? = (some (q k1, .inr (1, [.ref (q (k1 + 1)), .int R, .int u0_0])) : Option (Nat × va_E)) ∧ u[k1 + 1]? = (some (q (k1 + 1), .inl (g 1, N.toNatClampNeg, .inr (.inl u1_0))) : Option (Nat × va_E)) ∧ (x3.toInt ≤ u0_0.toInt) ∧ (u0_0.toInt ≤ K.toInt) ∧ (t0_0.toInt ≤ u0_0.toInt) ∧ (u0_0.toInt ≤ t0_0.toInt + 10000) ∧ (u0_0, u1_0) = (F_She_addTimes_p R N K x2 x3 t0_0 t1_0)) := by
  intro sz
  refine q_into (by decide) (Nat.le_of_ble_eq_true rfl) ?_
  intro p e s m below meth c ls hsz C0 V hl
  have hx := C0.1
  have hb := C0.2.1
  have btt0_0 := n_shW hI hB1 hT0
  replace btt0_0 : q_F (0 ≤ t0_0.toInt ∧ t0_0.toInt ≤ K.toInt) := btt0_0
  replace pre0 : q_F (t0_0.toInt + x3.toInt ≤ K.toInt) := pre0
  clear pre1
  replace pre2 : q_F (x3.toInt ≤ 10000) := pre2
  have hF : q_un ws ws [k1, k1 + 1] := q_u0
  have hl : lv_has ls 4 [(0, .ref (q k1)), (1, .int x2), (2, .int x3)] := hl
  refine lv_iconst (v := 0) hx hb d_11_5_0 (by decide) ?_
  refine lv_istore_n (lv' := [(3, .int 0), (0, .ref (q k1)), (1, .int x2), (2, .int x3)]) hx hb d_11_5_1 rfl hl (by decide) rfl (fun ls hl => ?_)
  refine q_loop (X := Int32 × Int32 × (Nat → Int64)) (fun z H locs ls w16 => q_F (z.1.toInt ≤ 10000) ∧ q_F (z.2.1.toInt ≤ K.toInt) ∧ q_F (t0_0.toInt ≤ z.1.toInt + z.2.1.toInt) ∧ q_F (z.2.1.toInt ≤ z.1.toInt + t0_0.toInt) ∧ q_F (z.1.toInt + t0_0.toInt ≤ z.2.1.toInt) ∧ q_Wd D g (va_A ws sz) s w16 H locs ∧ lv_has ls 4 [(3, .int z.1), (0, .ref (q k1)), (1, .int x2), (2, .int x3)] ∧ q_I (nsh g q) q w16 ∧ q_un ws w16 [k1, k1 + 1] ∧ w16[k1]? = (some (q k1, .inr (1, [.ref (q (k1 + 1)), .int R, .int z.2.1])) : Option (Nat × va_E)) ∧ w16[k1 + 1]? = (some (q (k1 + 1), .inl (g 1, N.toNatClampNeg, .inr (.inl z.2.2))) : Option (Nat × va_E)) ∧ (∃ n, (10000 - z.1.toInt).toNat < n ∧ F_She_addTimes_p_L2 R N K x2 x3 t0_0 t1_0 n z.1 z.2.1 z.2.2 = (F_She_addTimes_p R N K x2 x3 t0_0 t1_0))) (fun z => (10000 - z.1.toInt).toNat) ?_ ((0 : Int32), (t0_0 : Int32), (t1_0 : (Nat → Int64))) _ _ _ ws ⟨(show q_F (0 ≤ 10000) from (show 0 ≤ 10000 from by omega)), (show q_F (t0_0.toInt ≤ K.toInt) from (show t0_0.toInt ≤ K.toInt from by have t1 : 0 ≤ t0_0.toInt ∧ t0_0.toInt ≤ K.toInt := btt0_0; omega)), (show q_F (t0_0.toInt ≤ 0 + t0_0.toInt) from (show t0_0.toInt ≤ 0 + t0_0.toInt from by omega)), (show q_F (t0_0.toInt ≤ 0 + t0_0.toInt) from (show t0_0.toInt ≤ 0 + t0_0.toInt from by omega)), (show q_F (0 + t0_0.toInt ≤ t0_0.toInt) from (show 0 + t0_0.toInt ≤ t0_0.toInt from by omega)), V, q_lw hl (q_lw1 0 rfl (q_lw1 1 rfl (q_lw1 2 rfl (q_lw1 3 rfl q_lw0)))), hI, hF, hT0, hT1, ⟨((10000 - (0 : Int32).toInt).toNat + 1), Nat.lt_succ_self _, (show F_She_addTimes_p_L2 R N K x2 x3 t0_0 t1_0 ((10000 - (0 : Int32).toInt).toNat + 1) 0 t0_0 t1_0 = (F_She_addTimes_p R N K x2 x3 t0_0 t1_0) from (by rw [F_She_addTimes_p.eq_1]))⟩⟩
  rintro ⟨lx7, lx8, lx9⟩ H locs ls w16 ⟨i10, i11, i12, i13, i14, V, hl, hI, hF, hO17, hO18, ⟨fu21, hf22, hR19⟩⟩ ih15
  obtain ⟨fm23, rfl⟩ : ∃ m, fu21 = m + 1 := ⟨fu21 - 1, by omega⟩
  replace i10 : q_F (lx7.toInt ≤ 10000) := i10
  replace i11 : q_F (lx8.toInt ≤ K.toInt) := i11
  replace i12 : q_F (t0_0.toInt ≤ lx7.toInt + lx8.toInt) := i12
  replace i13 : q_F (lx8.toInt ≤ lx7.toInt + t0_0.toInt) := i13
  replace i14 : q_F (lx7.toInt + t0_0.toInt ≤ lx8.toInt) := i14
  replace hl : lv_has ls 4 [(3, .int lx7), (0, .ref (q k1)), (1, .int x2), (2, .int x3)] := hl
  replace hO17 : w16[k1]? = (some (q k1, .inr (1, [.ref (q (k1 + 1)), .int R, .int lx8])) : Option (Nat × va_E)) := hO17
  replace hO18 : w16[k1 + 1]? = (some (q (k1 + 1), .inl (g 1, N.toNatClampNeg, .inr (.inl lx9))) : Option (Nat × va_E)) := hO18
  refine lv_iload_n hx hb d_11_5_2 rfl (lv_at hl 0 rfl) ?_
  refine lv_iload_n hx hb d_11_5_3 rfl (lv_at hl 3 rfl) ?_
  refine lv_icmp_ge (tgt := 18) hx hb d_11_5_4 (by decide) (fun c24 => ?_) (fun c24 => ?_)
  ·
    have b25 : q_F (x3.toInt ≤ lx7.toInt) := (q_leI c24)
    exact q_retv C0 V (⟨hI, hF, lx8, lx9, hO17, hO18, (show x3.toInt ≤ lx8.toInt from (by have t1 : 0 ≤ t0_0.toInt ∧ t0_0.toInt ≤ K.toInt := btt0_0; have t2 : lx7.toInt + t0_0.toInt ≤ lx8.toInt := i14; have t3 : x3.toInt ≤ lx7.toInt := b25; omega)), (show lx8.toInt ≤ K.toInt from (by first | with_reducible exact q_fe i11 | (have t1 : lx8.toInt ≤ K.toInt := i11; omega))), (show t0_0.toInt ≤ lx8.toInt from (by have t1 : t0_0.toInt ≤ lx7.toInt + lx8.toInt := i12; have t2 : lx7.toInt + t0_0.toInt ≤ lx8.toInt := i14; omega)), (show lx8.toInt ≤ t0_0.toInt + 10000 from (by have t1 : lx7.toInt ≤ 10000 := i10; have t2 : lx8.toInt ≤ lx7.toInt + t0_0.toInt := i13; omega)), (show (lx8, lx9) = (F_She_addTimes_p R N K x2 x3 t0_0 t1_0) from Eq.trans (by rw [F_She_addTimes_p_L2.eq_2, if_pos c24]) hR19)⟩) d_11_5_18
  ·
    have b26 : q_F (lx7.toInt < x3.toInt) := (q_nleI c24)
    refine lv_aload_n hx hb d_11_5_7 rfl (lv_at hl 1 rfl) ?_
    refine lv_iload_n hx hb d_11_5_8 rfl (lv_at hl 2 rfl) ?_
    refine q_gov V (q_runV (As := [.int x2]) (rest := []) (d := 1) (mc := 0) (ms := 0) (ci := 1) C0 V rfl LV_She_34 (X_She_add_p l D g q w16 k1 R N K hB1 x2 hI lx8 hO17 lx9 hO18 (by have t1 : t0_0.toInt + x3.toInt ≤ K.toInt := pre0; have t2 : lx8.toInt ≤ lx7.toInt + t0_0.toInt := i13; have t3 : lx7.toInt < x3.toInt := b26; omega) _) rfl rfl hO17 rfl hl.1 rfl (Nat.le_of_ble_eq_true rfl) ⟨by decide, by decide⟩ ⟨Nat.le_of_ble_eq_true rfl, Nat.le_of_ble_eq_true rfl⟩ d_11_5_9) (fun u27 H locs hp28 V => ?_)
    obtain ⟨hI, hZ9⟩ := hp28
    obtain ⟨hu36, hZ9⟩ := hZ9
    obtain ⟨y30, hZ9⟩ := hZ9
    obtain ⟨f31, hZ9⟩ := hZ9
    obtain ⟨hO29, hZ9⟩ := hZ9
    obtain ⟨hA32, hZ9⟩ := hZ9
    obtain ⟨b33, hZ9⟩ := hZ9
    obtain ⟨b34, hE35⟩ := hZ9
    replace hO29 : u27[k1]? = (some (q k1, .inr (1, [.ref (q (k1 + 1)), .int R, .int y30])) : Option (Nat × va_E)) := hO29
    replace hA32 : u27[k1 + 1]? = (some (q (k1 + 1), .inl (g 1, N.toNatClampNeg, .inr (.inl f31))) : Option (Nat × va_E)) := hA32
    obtain ⟨p37, e38⟩ : ∃ z, z = (F_She_add_p R N K x2 lx8 lx9) := ⟨_, rfl⟩
    have e39 : y30 = p37.1 := congrArg (fun z => z.1) (hE35.trans e38.symm)
    have e40 : f31 = p37.2 := congrArg (fun z => z.2) (hE35.trans e38.symm)
    replace b33 : q_F (lx8.toInt + 1 ≤ y30.toInt) := b33
    replace b34 : q_F (y30.toInt ≤ lx8.toInt + 1) := b34
    replace hF := q_uc hF hu36 (by first | exact (q_sk (q_mi 0 rfl) (q_sk (q_mi 1 rfl) q_s0)) | simp)
    have hR41 := (show F_She_addTimes_p_c9 (F_She_addTimes_p_L2 R N K x2 x3 t0_0 t1_0 fm23) R N K x2 x3 t0_0 t1_0 lx7 lx8 lx9 p37 = (F_She_addTimes_p R N K x2 x3 t0_0 t1_0) from Eq.trans (by rw [e38, F_She_addTimes_p_L2.eq_2, if_neg c24]) hR19)
    obtain ⟨a46, e47⟩ := q_nm (lx7 + 1 : Int32)
    have b48 : q_F (a46.toInt = lx7.toInt + 1) := (by rw [← e47]; exact q_addI (y := 1) rfl (by decide) (by have t1 : t0_0.toInt ≤ lx7.toInt + lx8.toInt := i12; have t2 : lx8.toInt ≤ lx7.toInt + t0_0.toInt := i13; have t3 : lx7.toInt ≤ 10000 := i10; omega) (by have t1 : t0_0.toInt ≤ lx7.toInt + lx8.toInt := i12; have t2 : lx8.toInt ≤ lx7.toInt + t0_0.toInt := i13; have t3 : lx7.toInt ≤ 10000 := i10; omega))
    refine lv_iinc (v := a46) (lv' := [(3, .int a46), (0, .ref (q k1)), (1, .int x2), (2, .int x3)]) hx hb d_11_5_12 hl (k := 0) rfl (e47) (by decide) rfl (fun ls hl => ?_)
    refine lv_goto (tgt := 2) hx hb d_11_5_15 (by decide) ?_
    exact ih15 ((a46 : Int32), (y30 : Int32), (f31 : (Nat → Int64))) _ _ _ _ (show (10000 - a46.toInt).toNat < (10000 - lx7.toInt).toNat from by have t1 : a46.toInt = lx7.toInt + 1 := b48; have t2 : lx7.toInt ≤ 10000 := i10; have t3 : x3.toInt ≤ 10000 := pre2; have t4 : lx7.toInt < x3.toInt := b26; omega) ⟨(show q_F (a46.toInt ≤ 10000) from (show a46.toInt ≤ 10000 from by have t1 : x3.toInt ≤ 10000 := pre2; have t2 : lx7.toInt < x3.toInt := b26; have t3 : a46.toInt = lx7.toInt + 1 := b48; omega)), (show q_F (y30.toInt ≤ K.toInt) from (show y30.toInt ≤ K.toInt from by have t1 : t0_0.toInt + x3.toInt ≤ K.toInt := pre0; have t2 : lx8.toInt ≤ lx7.toInt + t0_0.toInt := i13; have t3 : lx7.toInt < x3.toInt := b26; have t4 : y30.toInt ≤ lx8.toInt + 1 := b34; omega)), (show q_F (t0_0.toInt ≤ a46.toInt + y30.toInt) from (show t0_0.toInt ≤ a46.toInt + y30.toInt from by have t1 : t0_0.toInt ≤ lx7.toInt + lx8.toInt := i12; have t2 : lx8.toInt + 1 ≤ y30.toInt := b33; have t3 : a46.toInt = lx7.toInt + 1 := b48; omega)), (show q_F (y30.toInt ≤ a46.toInt + t0_0.toInt) from (show y30.toInt ≤ a46.toInt + t0_0.toInt from by have t1 : lx8.toInt ≤ lx7.toInt + t0_0.toInt := i13; have t2 : y30.toInt ≤ lx8.toInt + 1 := b34; have t3 : a46.toInt = lx7.toInt + 1 := b48; omega)), (show q_F (a46.toInt + t0_0.toInt ≤ y30.toInt) from (show a46.toInt + t0_0.toInt ≤ y30.toInt from by have t1 : lx7.toInt + t0_0.toInt ≤ lx8.toInt := i14; have t2 : lx8.toInt + 1 ≤ y30.toInt := b33; have t3 : a46.toInt = lx7.toInt + 1 := b48; omega)), V, q_lw hl (q_lw1 0 rfl (q_lw1 1 rfl (q_lw1 2 rfl (q_lw1 3 rfl q_lw0)))), hI, hF, hO29, hA32, ⟨fm23, Nat.lt_of_lt_of_le (show (10000 - a46.toInt).toNat < (10000 - lx7.toInt).toNat from by have t1 : a46.toInt = lx7.toInt + 1 := b48; have t2 : lx7.toInt ≤ 10000 := i10; have t3 : x3.toInt ≤ 10000 := pre2; have t4 : lx7.toInt < x3.toInt := b26; omega) (Nat.le_of_lt_succ hf22), (show F_She_addTimes_p_L2 R N K x2 x3 t0_0 t1_0 fm23 a46 y30 f31 = (F_She_addTimes_p R N K x2 x3 t0_0 t1_0) from Eq.trans (by rw [← e47, e40, e39, F_She_addTimes_p_c9.eq_1]) hR41)⟩⟩
def F_She_addPower_p_c41 (K_F_She_addPower_p_L13 : Int32 → Int32 → Int32 → (Nat → Int64) → (Int32 × (Nat → Int64))) (R : Int32) (N : Int32) (K : Int32) (x2 : Int32) (x3 : Int32) (t0_0 : Int32) (t1_0 : (Nat → Int64)) (a8 : Int32) (lx15 : Int32) (lx16 : Int32) (lx17 : Int32) (lx18 : (Nat → Int64)) (p63 : (Int32 × (Nat → Int64))) : Int32 × (Nat → Int64) := K_F_She_addPower_p_L13 (lx15 + (-1) : Int32) (if (lx16 / 10 : Int32) < 1 then 1 else (lx16 / 10 : Int32) : Int32) (p63.1 : Int32) (p63.2 : (Nat → Int64))
def F_She_addPower_p_J30 (K_F_She_addPower_p_L13 : Int32 → Int32 → Int32 → (Nat → Int64) → (Int32 × (Nat → Int64))) (R : Int32) (N : Int32) (K : Int32) (x2 : Int32) (x3 : Int32) (t0_0 : Int32) (t1_0 : (Nat → Int64)) (a8 : Int32) (lx15 : Int32) (lx16 : Int32) (lx17 : Int32) (lx18 : (Nat → Int64)) : Int32 × (Nat → Int64) := F_She_addPower_p_c41 K_F_She_addPower_p_L13 R N K x2 x3 t0_0 t1_0 a8 lx15 lx16 lx17 lx18 ((F_She_add_p R N K (48 + ((a8 / lx16 : Int32) - (a8 / lx16 : Int32) / 10 * 10 : Int32) : Int32) lx17 lx18) : (Int32 × (Nat → Int64)))
def F_She_addPower_p_L13 (R : Int32) (N : Int32) (K : Int32) (x2 : Int32) (x3 : Int32) (t0_0 : Int32) (t1_0 : (Nat → Int64)) (a8 : Int32) : Nat → Int32 → Int32 → Int32 → (Nat → Int64) → (Int32 × (Nat → Int64))
  | 0, _, _, _, _ => default
  | fm + 1, lx15, lx16, lx17, lx18 => if lx15 ≤ (0 : Int32) then ((lx17, lx18)) else (if lx15 ≤ x3 then (F_She_addPower_p_J30 (F_She_addPower_p_L13 R N K x2 x3 t0_0 t1_0 a8 fm) R N K x2 x3 t0_0 t1_0 a8 lx15 lx16 lx17 lx18) else (if a8 < lx16 then (F_She_addPower_p_L13 R N K x2 x3 t0_0 t1_0 a8 fm (lx15 + (-1) : Int32) (if (lx16 / 10 : Int32) < 1 then 1 else (lx16 / 10 : Int32) : Int32) lx17 lx18) else (F_She_addPower_p_J30 (F_She_addPower_p_L13 R N K x2 x3 t0_0 t1_0 a8 fm) R N K x2 x3 t0_0 t1_0 a8 lx15 lx16 lx17 lx18)))
def F_She_addPower_p (R : Int32) (N : Int32) (K : Int32) (x2 : Int32) (x3 : Int32) (t0_0 : Int32) (t1_0 : (Nat → Int64)) : Int32 × (Nat → Int64) := F_She_addPower_p_L13 R N K x2 x3 t0_0 t1_0 ((F_jMath_abs_II x2) : Int32) (((5 : Int32).toInt - ((-1))).toNat + 1) 5 10000 t0_0 t1_0
set_option maxRecDepth 100000 in
set_option maxHeartbeats 4000000 in
theorem X_She_addPower_p (l : Launch) (D : va_G) (g : Nat → ClassId) (q : Nat → Nat) (ws : va_W) (k1 : Nat) (R N K : Int32) (hB1 : q_isShe (nsh g q) g q k1 R N K) (x2 : Int32) (x3 : Int32) (hI : q_I (nsh g q) q ws) (t0_0 : Int32) (hT0 : ws[k1]? = (some (q k1, .inr (1, [.ref (q (k1 + 1)), .int R, .int t0_0])) : Option (Nat × va_E))) (t1_0 : (Nat → Int64)) (hT1 : ws[k1 + 1]? = (some (q (k1 + 1), .inl (g 1, N.toNatClampNeg, .inr (.inl t1_0))) : Option (Nat × va_E))) (pre0 : t0_0.toInt + 10 ≤ K.toInt) (pre1 : 0 ≤ x2.toInt + 2147483647) : q_mV l y_She_addPower prog_11_method_6_code 6 2 0 0 D g [.ref (q k1), .int x2, .int x3] ws (fun u => q_I (nsh g q) q u ∧ q_un ws u [k1, k1 + 1] ∧ ∃ (u0_0 : Int32) (u1_0 : (Nat → Int64)), u[k1]? = (some (q k1, .inr (1, [.ref (q (k1 + 1)), .int R, .int u0_0])) : Option (Nat × va_E)) ∧ u[k1 + 1]? = (some (q (k1 + 1), .inl (g 1, N.toNatClampNeg, .inr (.inl u1_0))) : Option (Nat × va_E)) ∧ (t0_0.toInt ≤ u0_0.toInt) ∧ (u0_0.toInt ≤ t0_0.toInt + 5) ∧ (u0_0, u1_0) = (F_She_addPower_p R N K x2 x3 t0_0 t1_0)) := by
  intro sz
  refine q_into (by decide) (Nat.le_of_ble_eq_true rfl) ?_
  intro p e s m below meth c ls hsz C0 V hl
  have hx := C0.1
  have hb := C0.2.1
  have btt0_0 := n_shW hI hB1 hT0
  clear btt0_0
  replace pre0 : q_F (t0_0.toInt + 10 ≤ K.toInt) := pre0
  replace pre1 : q_F (0 ≤ x2.toInt + 2147483647) := pre1
  have hF : q_un ws ws [k1, k1 + 1] := q_u0
  have hl : lv_has ls 6 [(0, .ref (q k1)), (1, .int x2), (2, .int x3)] := hl
  refine lv_iload_n hx hb d_11_6_0 rfl (lv_at hl 1 rfl) ?_
  refine q_goi V (q_runS (As := [.int x2]) (rest := []) (d := 1) (mc := 0) (ms := 0) C0 V rfl LS_She_38 (X_jMath_abs_II l D g q ws  x2 hI  (by first | with_reducible exact q_fe pre1 | (have t1 : 0 ≤ x2.toInt + 2147483647 := pre1; omega)) _) rfl hl.1 rfl (Nat.le_of_ble_eq_true rfl) ⟨by decide, by decide⟩ ⟨Nat.le_of_ble_eq_true rfl, Nat.le_of_ble_eq_true rfl⟩ d_11_6_1) (fun a8 u6 H locs hp7 V => ?_)
  obtain ⟨rfl, b9, b10, hE11⟩ := hp7
  have e12 : a8 = (F_jMath_abs_II x2) := hE11
  clear b9
  clear b10
  refine lv_istore_n (lv' := [(3, .int a8), (0, .ref (q k1)), (1, .int x2), (2, .int x3)]) hx hb d_11_6_4 rfl hl (by decide) rfl (fun ls hl => ?_)
  refine lv_sipush (v := 10000) hx hb d_11_6_5 (by decide) ?_
  refine lv_istore (lv' := [(4, .int 10000), (3, .int a8), (0, .ref (q k1)), (1, .int x2), (2, .int x3)]) hx hb d_11_6_8 hl (by decide) rfl (fun ls hl => ?_)
  refine lv_iconst (v := 5) hx hb d_11_6_10 (by decide) ?_
  refine lv_istore (lv' := [(5, .int 5), (4, .int 10000), (3, .int a8), (0, .ref (q k1)), (1, .int x2), (2, .int x3)]) hx hb d_11_6_11 hl (by decide) rfl (fun ls hl => ?_)
  refine q_loop (X := Int32 × Int32 × Int32 × (Nat → Int64)) (fun z H locs ls w25 => q_F (0 ≤ z.1.toInt) ∧ q_F (1 ≤ z.2.1.toInt) ∧ q_F (t0_0.toInt ≤ z.2.2.1.toInt) ∧ q_F (z.2.1.toInt ≤ z.1.toInt + 9995) ∧ q_F (z.1.toInt + z.2.2.1.toInt ≤ t0_0.toInt + 5) ∧ q_Wd D g (va_A ws sz) s w25 H locs ∧ lv_has ls 6 [(5, .int z.1), (4, .int z.2.1), (3, .int a8), (0, .ref (q k1)), (2, .int x3)] ∧ q_I (nsh g q) q w25 ∧ q_un ws w25 [k1, k1 + 1] ∧ w25[k1]? = (some (q k1, .inr (1, [.ref (q (k1 + 1)), .int R, .int z.2.2.1])) : Option (Nat × va_E)) ∧ w25[k1 + 1]? = (some (q (k1 + 1), .inl (g 1, N.toNatClampNeg, .inr (.inl z.2.2.2))) : Option (Nat × va_E)) ∧ (∃ n, (z.1.toInt - ((-1))).toNat < n ∧ F_She_addPower_p_L13 R N K x2 x3 t0_0 t1_0 a8 n z.1 z.2.1 z.2.2.1 z.2.2.2 = (F_She_addPower_p R N K x2 x3 t0_0 t1_0))) (fun z => (z.1.toInt - ((-1))).toNat) ?_ ((5 : Int32), (10000 : Int32), (t0_0 : Int32), (t1_0 : (Nat → Int64))) _ _ _ ws ⟨(show q_F (0 ≤ 5) from (show 0 ≤ 5 from by omega)), (show q_F (1 ≤ 10000) from (show 1 ≤ 10000 from by omega)), (show q_F (t0_0.toInt ≤ t0_0.toInt) from (show t0_0.toInt ≤ t0_0.toInt from by omega)), (show q_F (10000 ≤ 5 + 9995) from (show 10000 ≤ 5 + 9995 from by omega)), (show q_F (5 + t0_0.toInt ≤ t0_0.toInt + 5) from (show 5 + t0_0.toInt ≤ t0_0.toInt + 5 from by omega)), V, q_lw hl (q_lw1 0 rfl (q_lw1 1 rfl (q_lw1 2 rfl (q_lw1 3 rfl (q_lw1 5 rfl q_lw0))))), hI, hF, hT0, hT1, ⟨(((5 : Int32).toInt - ((-1))).toNat + 1), Nat.lt_succ_self _, (show F_She_addPower_p_L13 R N K x2 x3 t0_0 t1_0 a8 (((5 : Int32).toInt - ((-1))).toNat + 1) 5 10000 t0_0 t1_0 = (F_She_addPower_p R N K x2 x3 t0_0 t1_0) from (by rw [e12, F_She_addPower_p.eq_1]))⟩⟩
  rintro ⟨lx15, lx16, lx17, lx18⟩ H locs ls w25 ⟨i19, i20, i21, i22, i23, V, hl, hI, hF, hO26, hO27, ⟨fu30, hf31, hR28⟩⟩ ih24
  obtain ⟨fm32, rfl⟩ : ∃ m, fu30 = m + 1 := ⟨fu30 - 1, by omega⟩
  replace i19 : q_F (0 ≤ lx15.toInt) := i19
  replace i20 : q_F (1 ≤ lx16.toInt) := i20
  replace i21 : q_F (t0_0.toInt ≤ lx17.toInt) := i21
  replace i22 : q_F (lx16.toInt ≤ lx15.toInt + 9995) := i22
  replace i23 : q_F (lx15.toInt + lx17.toInt ≤ t0_0.toInt + 5) := i23
  replace hl : lv_has ls 6 [(5, .int lx15), (4, .int lx16), (3, .int a8), (0, .ref (q k1)), (2, .int x3)] := hl
  replace hO26 : w25[k1]? = (some (q k1, .inr (1, [.ref (q (k1 + 1)), .int R, .int lx17])) : Option (Nat × va_E)) := hO26
  replace hO27 : w25[k1 + 1]? = (some (q (k1 + 1), .inl (g 1, N.toNatClampNeg, .inr (.inl lx18))) : Option (Nat × va_E)) := hO27
  refine lv_iload hx hb d_11_6_13 (lv_at hl 0 rfl) ?_
  refine lv_if_le (tgt := 61) hx hb d_11_6_15 (by decide) (fun c33 => ?_) (fun c33 => ?_)
  ·
    exact q_retv C0 V (⟨hI, hF, lx17, lx18, hO26, hO27, (show t0_0.toInt ≤ lx17.toInt from (by first | with_reducible exact q_fe i21 | (have t1 : t0_0.toInt ≤ lx17.toInt := i21; omega))), (show lx17.toInt ≤ t0_0.toInt + 5 from (by have t1 : 0 ≤ lx15.toInt := i19; have t2 : lx15.toInt + lx17.toInt ≤ t0_0.toInt + 5 := i23; omega)), (show (lx17, lx18) = (F_She_addPower_p R N K x2 x3 t0_0 t1_0) from Eq.trans (by rw [F_She_addPower_p_L13.eq_2, if_pos c33]) hR28)⟩) d_11_6_61
  ·
    have b35 : q_F (0 < lx15.toInt) := (q_nleI c33)
    refine lv_iload hx hb d_11_6_18 (lv_at hl 0 rfl) ?_
    refine lv_iload_n hx hb d_11_6_20 rfl (lv_at hl 4 rfl) ?_
    refine q_join (X := Unit) (fun z H locs ls _ => q_Wd D g (va_A ws sz) s w25 H locs ∧ lv_has ls 6 [(5, .int lx15), (4, .int lx16), (3, .int a8), (0, .ref (q k1)), (2, .int x3)] ∧ F_She_addPower_p_J30 (F_She_addPower_p_L13 R N K x2 x3 t0_0 t1_0 a8 fm32) R N K x2 x3 t0_0 t1_0 a8 lx15 lx16 lx17 lx18 = (F_She_addPower_p R N K x2 x3 t0_0 t1_0)) (fun z => []) 30 0 0 ?_ ?_
    ·
      rintro _ H locs ls _ ⟨V, hl, hR39⟩
      replace hl : lv_has ls 6 [(5, .int lx15), (4, .int lx16), (3, .int a8), (0, .ref (q k1)), (2, .int x3)] := hl
      refine lv_aload_n hx hb d_11_6_30 rfl (lv_at hl 3 rfl) ?_
      refine lv_bipush (v := 48) hx hb d_11_6_31 (by decide) ?_
      refine lv_iload_n hx hb d_11_6_33 rfl (lv_at hl 2 rfl) ?_
      refine lv_iload hx hb d_11_6_34 (lv_at hl 1 rfl) ?_
      refine lv_idiv hx hb d_11_6_36 (s_nzI (by first | with_reducible exact q_fe i20 | (have t1 : 1 ≤ lx16.toInt := i20; omega))) ?_
      obtain ⟨a44, e45⟩ := q_nm (a8 / lx16 : Int32)
      refine q_ti (v := a44) e45 ?_
      refine lv_bipush (v := 10) hx hb d_11_6_37 (by decide) ?_
      refine lv_irem hx hb d_11_6_39 (by decide) ?_
      obtain ⟨a47, e48⟩ := q_nm (a44 - a44 / 10 * 10 : Int32)
      refine q_ti (v := a47) e48 ?_
      refine lv_iadd hx hb d_11_6_40 ?_
      obtain ⟨a50, e51⟩ := q_nm (48 + a47 : Int32)
      refine q_ti (v := a50) e51 ?_
      refine q_gov V (q_runV (As := [.int a50]) (rest := []) (d := 1) (mc := 0) (ms := 0) (ci := 1) C0 V rfl LV_She_34 (X_She_add_p l D g q w25 k1 R N K hB1 a50 hI lx17 hO26 lx18 hO27 (by have t1 : t0_0.toInt + 10 ≤ K.toInt := pre0; have t2 : 0 ≤ lx15.toInt := i19; have t3 : lx15.toInt + lx17.toInt ≤ t0_0.toInt + 5 := i23; omega) _) rfl rfl hO26 rfl hl.1 rfl (Nat.le_of_ble_eq_true rfl) ⟨by decide, by decide⟩ ⟨Nat.le_of_ble_eq_true rfl, Nat.le_of_ble_eq_true rfl⟩ d_11_6_41) (fun u53 H locs hp54 V => ?_)
      obtain ⟨hI, hZ9⟩ := hp54
      obtain ⟨hu62, hZ9⟩ := hZ9
      obtain ⟨y56, hZ9⟩ := hZ9
      obtain ⟨f57, hZ9⟩ := hZ9
      obtain ⟨hO55, hZ9⟩ := hZ9
      obtain ⟨hA58, hZ9⟩ := hZ9
      obtain ⟨b59, hZ9⟩ := hZ9
      obtain ⟨b60, hE61⟩ := hZ9
      replace hO55 : u53[k1]? = (some (q k1, .inr (1, [.ref (q (k1 + 1)), .int R, .int y56])) : Option (Nat × va_E)) := hO55
      replace hA58 : u53[k1 + 1]? = (some (q (k1 + 1), .inl (g 1, N.toNatClampNeg, .inr (.inl f57))) : Option (Nat × va_E)) := hA58
      obtain ⟨p63, e64⟩ : ∃ z, z = (F_She_add_p R N K a50 lx17 lx18) := ⟨_, rfl⟩
      have e65 : y56 = p63.1 := congrArg (fun z => z.1) (hE61.trans e64.symm)
      have e66 : f57 = p63.2 := congrArg (fun z => z.2) (hE61.trans e64.symm)
      replace b59 : q_F (lx17.toInt + 1 ≤ y56.toInt) := b59
      replace b60 : q_F (y56.toInt ≤ lx17.toInt + 1) := b60
      replace hF := q_uc hF hu62 (by first | exact (q_sk (q_mi 0 rfl) (q_sk (q_mi 1 rfl) q_s0)) | simp)
      have hR67 := (show F_She_addPower_p_c41 (F_She_addPower_p_L13 R N K x2 x3 t0_0 t1_0 a8 fm32) R N K x2 x3 t0_0 t1_0 a8 lx15 lx16 lx17 lx18 p63 = (F_She_addPower_p R N K x2 x3 t0_0 t1_0) from Eq.trans (by rw [e64, ← e51, ← e48, ← e45, F_She_addPower_p_J30.eq_1]) hR39)
      refine lv_iload hx hb d_11_6_44 (lv_at hl 1 rfl) ?_
      refine lv_bipush (v := 10) hx hb d_11_6_46 (by decide) ?_
      refine lv_idiv hx hb d_11_6_48 (by decide) ?_
      obtain ⟨a72, e73⟩ := q_nm (lx16 / 10 : Int32)
      refine q_ti (v := a72) e73 ?_
      have b74 : q_F (10 * a72.toInt ≤ lx16.toInt ∧ lx16.toInt ≤ 10 * a72.toInt + 9) := (by rw [← e73]; show 10 * (lx16 / 10 : Int32).toInt ≤ lx16.toInt ∧ lx16.toInt ≤ 10 * (lx16 / 10 : Int32).toInt + 9; exact (by have z := q_divI (y := 10) (rfl : lx16.toInt = _) (by decide : (10 : Int32).toInt = 10) (by first | with_reducible exact q_fe i20 | (have t1 : 1 ≤ lx16.toInt := i20; omega)) (by decide); omega))
      refine lv_iconst (v := 1) hx hb d_11_6_49 (by decide) ?_
      refine q_max C0 hl.1 rfl w_1588 w_803 w_7 w_804 ⟨Nat.le_of_ble_eq_true rfl, Nat.le_of_ble_eq_true rfl⟩ ⟨Nat.le_of_ble_eq_true rfl, Nat.le_of_ble_eq_true rfl⟩ d_11_6_50 ?_
      obtain ⟨a75, e76⟩ := q_nm (if a72 < 1 then 1 else a72 : Int32)
      refine q_ti (v := a75) e76 ?_
      have b77 : q_F (a72.toInt ≤ a75.toInt ∧ 1 ≤ a75.toInt ∧ (a75.toInt = a72.toInt ∨ a75.toInt = 1)) := (by rw [← e76]; show a72.toInt ≤ (if a72 < 1 then 1 else a72 : Int32).toInt ∧ 1 ≤ (if a72 < 1 then 1 else a72 : Int32).toInt ∧ ((if a72 < 1 then 1 else a72 : Int32).toInt = a72.toInt ∨ (if a72 < 1 then 1 else a72 : Int32).toInt = 1); exact (by have y1 : (1 : Int32).toInt = 1 := rfl; have z := s_max (a := a72) (b := 1); omega))
      refine lv_istore (lv' := [(4, .int a75), (5, .int lx15), (3, .int a8), (0, .ref (q k1)), (2, .int x3)]) hx hb d_11_6_53 hl (by decide) rfl (fun ls hl => ?_)
      obtain ⟨a78, e79⟩ := q_nm (lx15 + (-1) : Int32)
      have b80 : q_F (a78.toInt = lx15.toInt + (-1)) := (by rw [← e79]; exact q_addI (y := (-1)) rfl (by decide) (by have t1 : 0 ≤ lx15.toInt := i19; have _ := q_lo32 (x := lx15); have _ := q_hi32 (x := lx15); omega) (by have t1 : 0 ≤ lx15.toInt := i19; have _ := q_lo32 (x := lx15); have _ := q_hi32 (x := lx15); omega))
      refine lv_iinc (v := a78) (lv' := [(5, .int a78), (4, .int a75), (3, .int a8), (0, .ref (q k1)), (2, .int x3)]) hx hb d_11_6_55 hl (k := 1) rfl (e79) (by decide) rfl (fun ls hl => ?_)
      refine lv_goto (tgt := 13) hx hb d_11_6_58 (by decide) ?_
      exact ih24 ((a78 : Int32), (a75 : Int32), (y56 : Int32), (f57 : (Nat → Int64))) _ _ _ _ (show (a78.toInt - ((-1))).toNat < (lx15.toInt - ((-1))).toNat from by have t1 : a78.toInt = lx15.toInt + (-1) := b80; have t2 : 0 ≤ lx15.toInt := i19; omega) ⟨(show q_F (0 ≤ a78.toInt) from (show 0 ≤ a78.toInt from by have t1 : 0 < lx15.toInt := b35; have t2 : a78.toInt = lx15.toInt + (-1) := b80; omega)), (show q_F (1 ≤ a75.toInt) from (show 1 ≤ a75.toInt from by have t1 : a72.toInt ≤ a75.toInt ∧ 1 ≤ a75.toInt ∧ (a75.toInt = a72.toInt ∨ a75.toInt = 1) := b77; omega)), (show q_F (t0_0.toInt ≤ y56.toInt) from (show t0_0.toInt ≤ y56.toInt from by have t1 : t0_0.toInt ≤ lx17.toInt := i21; have t2 : lx17.toInt + 1 ≤ y56.toInt := b59; omega)), (show q_F (a75.toInt ≤ a78.toInt + 9995) from (show a75.toInt ≤ a78.toInt + 9995 from by have t1 : 0 ≤ lx15.toInt := i19; have t2 : lx16.toInt ≤ lx15.toInt + 9995 := i22; have t3 : 10 * a72.toInt ≤ lx16.toInt ∧ lx16.toInt ≤ 10 * a72.toInt + 9 := b74; have t4 : a72.toInt ≤ a75.toInt ∧ 1 ≤ a75.toInt ∧ (a75.toInt = a72.toInt ∨ a75.toInt = 1) := b77; have t5 : a78.toInt = lx15.toInt + (-1) := b80; omega)), (show q_F (a78.toInt + y56.toInt ≤ t0_0.toInt + 5) from (show a78.toInt + y56.toInt ≤ t0_0.toInt + 5 from by have t1 : lx15.toInt + lx17.toInt ≤ t0_0.toInt + 5 := i23; have t2 : y56.toInt ≤ lx17.toInt + 1 := b60; have t3 : a78.toInt = lx15.toInt + (-1) := b80; omega)), V, q_lw hl (q_lw1 0 rfl (q_lw1 1 rfl (q_lw1 2 rfl (q_lw1 3 rfl (q_lw1 4 rfl q_lw0))))), hI, hF, hO55, hA58, ⟨fm32, Nat.lt_of_lt_of_le (show (a78.toInt - ((-1))).toNat < (lx15.toInt - ((-1))).toNat from by have t1 : a78.toInt = lx15.toInt + (-1) := b80; have t2 : 0 ≤ lx15.toInt := i19; omega) (Nat.le_of_lt_succ hf31), (show F_She_addPower_p_L13 R N K x2 x3 t0_0 t1_0 a8 fm32 a78 a75 y56 f57 = (F_She_addPower_p R N K x2 x3 t0_0 t1_0) from Eq.trans (by rw [← e79, ← e76, ← e73, e66, e65, F_She_addPower_p_c41.eq_1]) hR67)⟩⟩
    ·
      intro J38
      refine lv_icmp_le (tgt := 30) hx hb d_11_6_21 (by decide) (fun c81 => ?_) (fun c81 => ?_)
      ·
        exact J38 (()) _ _ _ w25 ⟨V, q_lw hl (q_lw1 0 rfl (q_lw1 1 rfl (q_lw1 2 rfl (q_lw1 3 rfl (q_lw1 4 rfl q_lw0))))), (show F_She_addPower_p_J30 (F_She_addPower_p_L13 R N K x2 x3 t0_0 t1_0 a8 fm32) R N K x2 x3 t0_0 t1_0 a8 lx15 lx16 lx17 lx18 = (F_She_addPower_p R N K x2 x3 t0_0 t1_0) from Eq.trans (by rw [F_She_addPower_p_L13.eq_2, if_neg c33, if_pos c81]) hR28)⟩
      ·
        refine lv_iload_n hx hb d_11_6_24 rfl (lv_at hl 2 rfl) ?_
        refine lv_iload hx hb d_11_6_25 (lv_at hl 1 rfl) ?_
        refine lv_icmp_lt (tgt := 44) hx hb d_11_6_27 (by decide) (fun c84 => ?_) (fun c84 => ?_)
        ·
          refine lv_iload hx hb d_11_6_44 (lv_at hl 1 rfl) ?_
          refine lv_bipush (v := 10) hx hb d_11_6_46 (by decide) ?_
          refine lv_idiv hx hb d_11_6_48 (by decide) ?_
          obtain ⟨a86, e87⟩ := q_nm (lx16 / 10 : Int32)
          refine q_ti (v := a86) e87 ?_
          have b88 : q_F (10 * a86.toInt ≤ lx16.toInt ∧ lx16.toInt ≤ 10 * a86.toInt + 9) := (by rw [← e87]; show 10 * (lx16 / 10 : Int32).toInt ≤ lx16.toInt ∧ lx16.toInt ≤ 10 * (lx16 / 10 : Int32).toInt + 9; exact (by have z := q_divI (y := 10) (rfl : lx16.toInt = _) (by decide : (10 : Int32).toInt = 10) (by first | with_reducible exact q_fe i20 | (have t1 : 1 ≤ lx16.toInt := i20; omega)) (by decide); omega))
          refine lv_iconst (v := 1) hx hb d_11_6_49 (by decide) ?_
          refine q_max C0 hl.1 rfl w_1588 w_803 w_7 w_804 ⟨Nat.le_of_ble_eq_true rfl, Nat.le_of_ble_eq_true rfl⟩ ⟨Nat.le_of_ble_eq_true rfl, Nat.le_of_ble_eq_true rfl⟩ d_11_6_50 ?_
          obtain ⟨a89, e90⟩ := q_nm (if a86 < 1 then 1 else a86 : Int32)
          refine q_ti (v := a89) e90 ?_
          have b91 : q_F (a86.toInt ≤ a89.toInt ∧ 1 ≤ a89.toInt ∧ (a89.toInt = a86.toInt ∨ a89.toInt = 1)) := (by rw [← e90]; show a86.toInt ≤ (if a86 < 1 then 1 else a86 : Int32).toInt ∧ 1 ≤ (if a86 < 1 then 1 else a86 : Int32).toInt ∧ ((if a86 < 1 then 1 else a86 : Int32).toInt = a86.toInt ∨ (if a86 < 1 then 1 else a86 : Int32).toInt = 1); exact (by have y1 : (1 : Int32).toInt = 1 := rfl; have z := s_max (a := a86) (b := 1); omega))
          refine lv_istore (lv' := [(4, .int a89), (5, .int lx15), (3, .int a8), (0, .ref (q k1)), (2, .int x3)]) hx hb d_11_6_53 hl (by decide) rfl (fun ls hl => ?_)
          obtain ⟨a92, e93⟩ := q_nm (lx15 + (-1) : Int32)
          have b94 : q_F (a92.toInt = lx15.toInt + (-1)) := (by rw [← e93]; exact q_addI (y := (-1)) rfl (by decide) (by have t1 : 0 ≤ lx15.toInt := i19; have _ := q_lo32 (x := lx15); have _ := q_hi32 (x := lx15); omega) (by have t1 : 0 ≤ lx15.toInt := i19; have _ := q_lo32 (x := lx15); have _ := q_hi32 (x := lx15); omega))
          refine lv_iinc (v := a92) (lv' := [(5, .int a92), (4, .int a89), (3, .int a8), (0, .ref (q k1)), (2, .int x3)]) hx hb d_11_6_55 hl (k := 1) rfl (e93) (by decide) rfl (fun ls hl => ?_)
          refine lv_goto (tgt := 13) hx hb d_11_6_58 (by decide) ?_
          exact ih24 ((a92 : Int32), (a89 : Int32), (lx17 : Int32), (lx18 : (Nat → Int64))) _ _ _ _ (show (a92.toInt - ((-1))).toNat < (lx15.toInt - ((-1))).toNat from by have t1 : a92.toInt = lx15.toInt + (-1) := b94; have t2 : 0 ≤ lx15.toInt := i19; omega) ⟨(show q_F (0 ≤ a92.toInt) from (show 0 ≤ a92.toInt from by have t1 : 0 < lx15.toInt := b35; have t2 : a92.toInt = lx15.toInt + (-1) := b94; omega)), (show q_F (1 ≤ a89.toInt) from (show 1 ≤ a89.toInt from by have t1 : a86.toInt ≤ a89.toInt ∧ 1 ≤ a89.toInt ∧ (a89.toInt = a86.toInt ∨ a89.toInt = 1) := b91; omega)), (show q_F (t0_0.toInt ≤ lx17.toInt) from (show t0_0.toInt ≤ lx17.toInt from by have t1 : t0_0.toInt ≤ lx17.toInt := i21; omega)), (show q_F (a89.toInt ≤ a92.toInt + 9995) from (show a89.toInt ≤ a92.toInt + 9995 from by have t1 : 0 ≤ lx15.toInt := i19; have t2 : lx16.toInt ≤ lx15.toInt + 9995 := i22; have t3 : 10 * a86.toInt ≤ lx16.toInt ∧ lx16.toInt ≤ 10 * a86.toInt + 9 := b88; have t4 : a86.toInt ≤ a89.toInt ∧ 1 ≤ a89.toInt ∧ (a89.toInt = a86.toInt ∨ a89.toInt = 1) := b91; have t5 : a92.toInt = lx15.toInt + (-1) := b94; omega)), (show q_F (a92.toInt + lx17.toInt ≤ t0_0.toInt + 5) from (show a92.toInt + lx17.toInt ≤ t0_0.toInt + 5 from by have t1 : lx15.toInt + lx17.toInt ≤ t0_0.toInt + 5 := i23; have t2 : a92.toInt = lx15.toInt + (-1) := b94; omega)), V, q_lw hl (q_lw1 0 rfl (q_lw1 1 rfl (q_lw1 2 rfl (q_lw1 3 rfl (q_lw1 4 rfl q_lw0))))), hI, hF, hO26, hO27, ⟨fm32, Nat.lt_of_lt_of_le (show (a92.toInt - ((-1))).toNat < (lx15.toInt - ((-1))).toNat from by have t1 : a92.toInt = lx15.toInt + (-1) := b94; have t2 : 0 ≤ lx15.toInt := i19; omega) (Nat.le_of_lt_succ hf31), (show F_She_addPower_p_L13 R N K x2 x3 t0_0 t1_0 a8 fm32 a92 a89 lx17 lx18 = (F_She_addPower_p R N K x2 x3 t0_0 t1_0) from Eq.trans (by rw [← e93, ← e90, ← e87, F_She_addPower_p_L13.eq_2, if_neg c33, if_neg c81, if_pos c84]) hR28)⟩⟩
        ·
          exact J38 (()) _ _ _ w25 ⟨V, q_lw hl (q_lw1 0 rfl (q_lw1 1 rfl (q_lw1 2 rfl (q_lw1 3 rfl (q_lw1 4 rfl q_lw0))))), (show F_She_addPower_p_J30 (F_She_addPower_p_L13 R N K x2 x3 t0_0 t1_0 a8 fm32) R N K x2 x3 t0_0 t1_0 a8 lx15 lx16 lx17 lx18 = (F_She_addPower_p R N K x2 x3 t0_0 t1_0) from Eq.trans (by rw [F_She_addPower_p_L13.eq_2, if_neg c33, if_neg c81, if_neg c84]) hR28)⟩
def F_jStr_length_12 : Int32 := (5 : Int32)
set_option maxRecDepth 100000 in
set_option maxHeartbeats 4000000 in
theorem X_jStr_length_12 (l : Launch) (D : va_G) (g : Nat → ClassId) (q : Nat → Nat) (ws : va_W) (hI : q_I (nsh g q) q ws) : q_mI l y_jStr_length prog_31_method_54_code 1 (.int) 2 0 0 D g [.ref (g (8 + 2 * 12))] ws (fun r u => ws = u ∧ (5 ≤ r.toInt) ∧ (r.toInt ≤ 5) ∧ r = (F_jStr_length_12)) := by
  intro sz
  refine q_into (by decide) (Nat.le_of_ble_eq_true rfl) ?_
  intro p e s m below meth c ls hsz C0 V hl
  have hx := C0.1
  have hb := C0.2.1
  have hl : lv_has ls 1 [(0, .ref (g (8 + 2 * 12)))] := hl
  refine lv_aload_n hx hb d_31_54_0 rfl (lv_at hl 0 rfl) ?_
  refine q_sval (i := 12) C0 V rfl rfl w_1018 d_31_54_1 ?_
  refine q_slen (i := 12) (v := 5) C0 V rfl (by decide) d_31_54_4 ?_
  refine lv_aload_n hx hb d_31_54_5 rfl (lv_at hl 0 rfl) ?_
  refine q_goi V (q_runVs (As := []) (rest := [.int 5]) (d := 1) (mc := 0) (ms := 0) (i := 12) C0 V rfl LV_jStr_335 (T_jStr_coder_12 l D g q ws   hI   _) rfl rfl rfl hl.1 rfl (Nat.le_of_ble_eq_true rfl) ⟨by decide, by decide⟩ ⟨Nat.le_of_ble_eq_true rfl, Nat.le_of_ble_eq_true rfl⟩ d_31_54_6) (fun a3 u1 H locs hp2 V => ?_)
  obtain ⟨rfl, b4, b5⟩ := hp2
  replace b4 : q_F (0 ≤ a3.toInt) := b4
  replace b5 : q_F (a3.toInt ≤ 0) := b5
  obtain rfl : a3 = (0 : Int32) := q_Ieq (x := a3.toInt) (y := 0) rfl (by decide) (by have t1 : 0 ≤ a3.toInt := b4; have t2 : a3.toInt ≤ 0 := b5; omega)
  refine lv_ishr hx hb d_31_54_9 ?_
  refine q_ti (v := 5) (by decide) ?_
  exact q_reti C0 V (⟨rfl, (show 5 ≤ (5 : Int32).toInt from (by have z0 : (5 : Int32).toInt = 5 := rfl; omega)), (show (5 : Int32).toInt ≤ 5 from (by have z0 : (5 : Int32).toInt = 5 := rfl; omega)), (show (5 : Int32) = (F_jStr_length_12) from (by rw [F_jStr_length_12.eq_1]))⟩) d_31_54_10
def F_jLat_charAt_12 (x2 : Int32) : Int32 := (((((([102, 97, 108, 115, 101] : List Int32).getD x2.toNatClampNeg 0) : Int32) &&& 255 : Int32).toUInt32 % 65536).toInt32 : Int32)
set_option maxRecDepth 100000 in
set_option maxHeartbeats 4000000 in
theorem X_jLat_charAt_12 (l : Launch) (D : va_G) (g : Nat → ClassId) (q : Nat → Nat) (ws : va_W) (x2 : Int32) (hI : q_I (nsh g q) q ws) (pre0 : 0 ≤ x2.toInt) (pre1 : x2.toInt ≤ 4) : q_mI l y_jLat_charAt prog_33_method_2_code 2 (.char) 3 0 0 D g [.ref (g (9 + 2 * 12)), .int x2] ws (fun r u => ws = u ∧ (0 ≤ r.toInt) ∧ (r.toInt ≤ 255) ∧ r = (F_jLat_charAt_12 x2)) := by
  intro sz
  refine q_into (by decide) (Nat.le_of_ble_eq_true rfl) ?_
  intro p e s m below meth c ls hsz C0 V hl
  have hx := C0.1
  have hb := C0.2.1
  replace pre0 : q_F (0 ≤ x2.toInt) := pre0
  replace pre1 : q_F (x2.toInt ≤ 4) := pre1
  have hl : lv_has ls 2 [(0, .ref (g (9 + 2 * 12))), (1, .int x2)] := hl
  refine lv_iload_n hx hb d_33_2_0 rfl (lv_at hl 1 rfl) ?_
  refine lv_aload_n hx hb d_33_2_1 rfl (lv_at hl 0 rfl) ?_
  refine q_slen (i := 12) (v := 5) C0 V rfl (by decide) d_33_2_2 ?_
  refine q_gov V (q_runS (As := [.int x2, .int 5]) (rest := []) (d := 2) (mc := 0) (ms := 0) C0 V rfl LS_jLat_9 (T_jStr_checkIndex l D g q ws  x2 5 hI  (by have y0 : (5 : Int32).toInt = 5 := rfl; have t1 : 0 ≤ x2.toInt := pre0; omega) (by have y0 : (5 : Int32).toInt = 5 := rfl; have t1 : x2.toInt ≤ 4 := pre1; omega) _) rfl hl.1 rfl (Nat.le_of_ble_eq_true rfl) ⟨by decide, by decide⟩ ⟨Nat.le_of_ble_eq_true rfl, Nat.le_of_ble_eq_true rfl⟩ d_33_2_3) (fun u1 H locs hp2 V => ?_)
  obtain ⟨rfl, -⟩ := hp2
  refine lv_aload_n hx hb d_33_2_6 rfl (lv_at hl 0 rfl) ?_
  refine lv_iload_n hx hb d_33_2_7 rfl (lv_at hl 1 rfl) ?_
  refine q_sbal (i := 12) (v := (([102, 97, 108, 115, 101] : List Int32).getD x2.toNatClampNeg 0)) C0 V rfl (show vp_in x2 5 from q_ix (x := x2.toInt) rfl (by first | with_reducible exact q_fe pre0 | (have t1 : 0 ≤ x2.toInt := pre0; omega)) (by have t1 : 0 ≤ x2.toInt := pre0; have t2 : x2.toInt ≤ 4 := pre1; omega)) rfl d_33_2_8 ?_
  obtain ⟨a4, e5⟩ := q_nm ((([102, 97, 108, 115, 101] : List Int32).getD x2.toNatClampNeg 0) : Int32)
  refine q_ti (v := a4) e5 ?_
  refine lv_sipush (v := 255) hx hb d_33_2_9 (by decide) ?_
  refine lv_iand hx hb d_33_2_12 ?_
  obtain ⟨a6, e7⟩ := q_nm (a4 &&& 255 : Int32)
  refine q_ti (v := a6) e7 ?_
  have b8 : q_F (0 ≤ a6.toInt ∧ a6.toInt ≤ 255) := (by rw [← e7]; show 0 ≤ (a4 &&& 255 : Int32).toInt ∧ (a4 &&& 255 : Int32).toInt ≤ 255; exact s_and (by decide))
  refine lv_i2c hx hb d_33_2_13 rfl ?_
  obtain ⟨a9, e10⟩ := q_nm ((a6.toUInt32 % 65536).toInt32 : Int32)
  refine q_ti (v := a9) e10 ?_
  have b11 : q_F (a9.toInt = a6.toInt) := (by rw [← e10]; show ((a6.toUInt32 % 65536).toInt32 : Int32).toInt = a6.toInt; exact (n_i2c (x := a6)).2.2 (by first | with_reducible exact (q_fe b8).2 | with_reducible exact (q_fe b8).1 | (have t1 : 0 ≤ a6.toInt ∧ a6.toInt ≤ 255 := b8; omega)) (by first | with_reducible exact (q_fe b8).2 | with_reducible exact (q_fe b8).1 | (have t1 : 0 ≤ a6.toInt ∧ a6.toInt ≤ 255 := b8; omega)))
  exact q_retn C0 V (n_chr (by have t1 : 0 ≤ a6.toInt ∧ a6.toInt ≤ 255 := b8; have t2 : a9.toInt = a6.toInt := b11; omega) (by have t1 : 0 ≤ a6.toInt ∧ a6.toInt ≤ 255 := b8; have t2 : a9.toInt = a6.toInt := b11; omega)) (⟨rfl, (show 0 ≤ a9.toInt from (by have t1 : 0 ≤ a6.toInt ∧ a6.toInt ≤ 255 := b8; have t2 : a9.toInt = a6.toInt := b11; omega)), (show a9.toInt ≤ 255 from (by have t1 : 0 ≤ a6.toInt ∧ a6.toInt ≤ 255 := b8; have t2 : a9.toInt = a6.toInt := b11; omega)), (show a9 = (F_jLat_charAt_12 x2) from (by rw [← e10, ← e7, ← e5, F_jLat_charAt_12.eq_1]))⟩) d_33_2_14
def F_jStr_charAt_12 (x2 : Int32) : Int32 := ((F_jLat_charAt_12 x2) : Int32)
set_option maxRecDepth 100000 in
set_option maxHeartbeats 4000000 in
theorem X_jStr_charAt_12 (l : Launch) (D : va_G) (g : Nat → ClassId) (q : Nat → Nat) (ws : va_W) (x2 : Int32) (hI : q_I (nsh g q) q ws) (pre0 : 0 ≤ x2.toInt) (pre1 : x2.toInt ≤ 4) : q_mI l y_jStr_charAt prog_31_method_56_code 2 (.char) 4 0 0 D g [.ref (g (8 + 2 * 12)), .int x2] ws (fun r u => ws = u ∧ (0 ≤ r.toInt) ∧ (r.toInt ≤ 255) ∧ r = (F_jStr_charAt_12 x2)) := by
  intro sz
  refine q_into (by decide) (Nat.le_of_ble_eq_true rfl) ?_
  intro p e s m below meth c ls hsz C0 V hl
  have hx := C0.1
  have hb := C0.2.1
  replace pre0 : q_F (0 ≤ x2.toInt) := pre0
  replace pre1 : q_F (x2.toInt ≤ 4) := pre1
  have hl : lv_has ls 2 [(0, .ref (g (8 + 2 * 12))), (1, .int x2)] := hl
  refine lv_aload_n hx hb d_31_56_0 rfl (lv_at hl 0 rfl) ?_
  refine q_goi V (q_runVs (As := []) (rest := []) (d := 1) (mc := 0) (ms := 0) (i := 12) C0 V rfl LV_jStr_492 (T_jStr_isLatin1_12 l D g q ws   hI   _) rfl rfl rfl hl.1 rfl (Nat.le_of_ble_eq_true rfl) ⟨by decide, by decide⟩ ⟨Nat.le_of_ble_eq_true rfl, Nat.le_of_ble_eq_true rfl⟩ d_31_56_1) (fun a3 u1 H locs hp2 V => ?_)
  obtain ⟨rfl, b4, b5⟩ := hp2
  replace b4 : q_F (1 ≤ a3.toInt) := b4
  replace b5 : q_F (a3.toInt ≤ 1) := b5
  obtain rfl : a3 = (1 : Int32) := q_Ieq (x := a3.toInt) (y := 1) rfl (by decide) (by have t1 : 1 ≤ a3.toInt := b4; have t2 : a3.toInt ≤ 1 := b5; omega)
  refine lv_if_eq (tgt := 16) hx hb d_31_56_4 (by decide) (fun c7 => absurd c7 (by decide)) (fun c7 => ?_)
  refine lv_aload_n hx hb d_31_56_7 rfl (lv_at hl 0 rfl) ?_
  refine q_sval (i := 12) C0 V rfl rfl w_1018 d_31_56_8 ?_
  refine lv_iload_n hx hb d_31_56_11 rfl (lv_at hl 1 rfl) ?_
  refine q_goi V (q_runS (As := [.ref (g (9 + 2 * 12)), .int x2]) (rest := []) (d := 3) (mc := 0) (ms := 0) C0 V rfl LS_jStr_495 (X_jLat_charAt_12 l D g q ws  x2 hI  (by first | with_reducible exact q_fe pre0 | (have t1 : 0 ≤ x2.toInt := pre0; omega)) (by first | with_reducible exact q_fe pre1 | (have t1 : x2.toInt ≤ 4 := pre1; omega)) _) rfl hl.1 rfl (Nat.le_of_ble_eq_true rfl) ⟨by decide, by decide⟩ ⟨Nat.le_of_ble_eq_true rfl, Nat.le_of_ble_eq_true rfl⟩ d_31_56_12) (fun a10 u8 H locs hp9 V => ?_)
  obtain ⟨rfl, b11, b12, hE13⟩ := hp9
  have e14 : a10 = (F_jLat_charAt_12 x2) := hE13
  replace b11 : q_F (0 ≤ a10.toInt) := b11
  replace b12 : q_F (a10.toInt ≤ 255) := b12
  exact q_retn C0 V (n_chr (by first | with_reducible exact q_fe b11 | (have t1 : 0 ≤ a10.toInt := b11; omega)) (by first | with_reducible exact q_fe b12 | (have t1 : a10.toInt ≤ 255 := b12; omega))) (⟨rfl, (show 0 ≤ a10.toInt from (by first | with_reducible exact q_fe b11 | (have t1 : 0 ≤ a10.toInt := b11; omega))), (show a10.toInt ≤ 255 from (by first | with_reducible exact q_fe b12 | (have t1 : a10.toInt ≤ 255 := b12; omega))), (show a10 = (F_jStr_charAt_12 x2) from (by rw [e14, F_jStr_charAt_12.eq_1]))⟩) d_31_56_15
def F_She_addText_12_c16 (K_F_She_addText_12_L2 : Int32 → Int32 → (Nat → Int64) → (Int32 × (Nat → Int64))) (R : Int32) (N : Int32) (K : Int32) (t0_0 : Int32) (t1_0 : (Nat → Int64)) (lx7 : Int32) (lx8 : Int32) (lx9 : (Nat → Int64)) (p50 : (Int32 × (Nat → Int64))) : Int32 × (Nat → Int64) := K_F_She_addText_12_L2 (lx7 + 1 : Int32) (p50.1 : Int32) (p50.2 : (Nat → Int64))
def F_She_addText_12_L2 (R : Int32) (N : Int32) (K : Int32) (t0_0 : Int32) (t1_0 : (Nat → Int64)) : Nat → Int32 → Int32 → (Nat → Int64) → (Int32 × (Nat → Int64))
  | 0, _, _, _ => default
  | fm + 1, lx7, lx8, lx9 => if (5 : Int32) ≤ lx7 then ((lx8, lx9)) else (F_She_addText_12_c16 (F_She_addText_12_L2 R N K t0_0 t1_0 fm) R N K t0_0 t1_0 lx7 lx8 lx9 ((F_She_add_p R N K ((F_jStr_charAt_12 lx7) : Int32) lx8 lx9) : (Int32 × (Nat → Int64))))
def F_She_addText_12 (R : Int32) (N : Int32) (K : Int32) (t0_0 : Int32) (t1_0 : (Nat → Int64)) : Int32 × (Nat → Int64) := F_She_addText_12_L2 R N K t0_0 t1_0 ((5 - (0 : Int32).toInt).toNat + 1) 0 t0_0 t1_0
set_option maxRecDepth 100000 in
set_option maxHeartbeats 4000000 in
theorem X_She_addText_12 (l : Launch) (D : va_G) (g : Nat → ClassId) (q : Nat → Nat) (ws : va_W) (k1 : Nat) (R N K : Int32) (hB1 : q_isShe (nsh g q) g q k1 R N K) (hI : q_I (nsh g q) q ws) (t0_0 : Int32) (hT0 : ws[k1]? = (some (q k1, .inr (1, [.ref (q (k1 + 1)), .int R, .int t0_0])) : Option (Nat × va_E))) (t1_0 : (Nat → Int64)) (hT1 : ws[k1 + 1]? = (some (q (k1 + 1), .inl (g 1, N.toNatClampNeg, .inr (.inl t1_0))) : Option (Nat × va_E))) (pre0 : t0_0.toInt + 20 ≤ K.toInt) : q_mV l y_She_addText prog_11_method_4_code 3 5 0 0 D g [.ref (q k1), .ref (g (8 + 2 * 12))] ws (fun u => q_I (nsh g q) q u ∧ q_un ws u [k1, k1 + 1] ∧ ∃ (u0_0 : Int32) (u1_0 : (Nat → Int64)), u[k1]? = (some (q k1, .inr (1, [.ref (q (k1 + 1)), .int R, .int u0_0])) : Option (Nat × va_E)) ∧ u[k1 + 1]? = (some (q (k1 + 1), .inl (g 1, N.toNatClampNeg, .inr (.inl u1_0))) : Option (Nat × va_E)) ∧ (t0_0.toInt + 5 ≤ u0_0.toInt) ∧ (u0_0.toInt ≤ t0_0.toInt + 5) ∧ (u0_0, u1_0) = (F_She_addText_12 R N K t0_0 t1_0)) := by
  intro sz
  refine q_into (by decide) (Nat.le_of_ble_eq_true rfl) ?_
  intro p e s m below meth c ls hsz C0 V hl
  have hx := C0.1
  have hb := C0.2.1
  have btt0_0 := n_shW hI hB1 hT0
  clear btt0_0
  replace pre0 : q_F (t0_0.toInt + 20 ≤ K.toInt) := pre0
  have hF : q_un ws ws [k1, k1 + 1] := q_u0
  have hl : lv_has ls 3 [(0, .ref (q k1)), (1, .ref (g (8 + 2 * 12)))] := hl
  refine lv_iconst (v := 0) hx hb d_11_4_0 (by decide) ?_
  refine lv_istore_n (lv' := [(2, .int 0), (0, .ref (q k1)), (1, .ref (g (8 + 2 * 12)))]) hx hb d_11_4_1 rfl hl (by decide) rfl (fun ls hl => ?_)
  refine q_loop (X := Int32 × Int32 × (Nat → Int64)) (fun z H locs ls w15 => q_F (z.1.toInt ≤ 5) ∧ q_F (t0_0.toInt ≤ z.1.toInt + z.2.1.toInt) ∧ q_F (z.2.1.toInt ≤ z.1.toInt + t0_0.toInt) ∧ q_F (z.1.toInt + t0_0.toInt ≤ z.2.1.toInt) ∧ q_Wd D g (va_A ws sz) s w15 H locs ∧ lv_has ls 3 [(2, .int z.1), (0, .ref (q k1)), (1, .ref (g (8 + 2 * 12)))] ∧ q_I (nsh g q) q w15 ∧ q_un ws w15 [k1, k1 + 1] ∧ w15[k1]? = (some (q k1, .inr (1, [.ref (q (k1 + 1)), .int R, .int z.2.1])) : Option (Nat × va_E)) ∧ w15[k1 + 1]? = (some (q (k1 + 1), .inl (g 1, N.toNatClampNeg, .inr (.inl z.2.2))) : Option (Nat × va_E)) ∧ (∃ n, (5 - z.1.toInt).toNat < n ∧ F_She_addText_12_L2 R N K t0_0 t1_0 n z.1 z.2.1 z.2.2 = (F_She_addText_12 R N K t0_0 t1_0))) (fun z => (5 - z.1.toInt).toNat) ?_ ((0 : Int32), (t0_0 : Int32), (t1_0 : (Nat → Int64))) _ _ _ ws ⟨(show q_F (0 ≤ 5) from (show 0 ≤ 5 from by omega)), (show q_F (t0_0.toInt ≤ 0 + t0_0.toInt) from (show t0_0.toInt ≤ 0 + t0_0.toInt from by omega)), (show q_F (t0_0.toInt ≤ 0 + t0_0.toInt) from (show t0_0.toInt ≤ 0 + t0_0.toInt from by omega)), (show q_F (0 + t0_0.toInt ≤ t0_0.toInt) from (show 0 + t0_0.toInt ≤ t0_0.toInt from by omega)), V, q_lw hl (q_lw1 0 rfl (q_lw1 1 rfl (q_lw1 2 rfl q_lw0))), hI, hF, hT0, hT1, ⟨((5 - (0 : Int32).toInt).toNat + 1), Nat.lt_succ_self _, (show F_She_addText_12_L2 R N K t0_0 t1_0 ((5 - (0 : Int32).toInt).toNat + 1) 0 t0_0 t1_0 = (F_She_addText_12 R N K t0_0 t1_0) from (by rw [F_She_addText_12.eq_1]))⟩⟩
  rintro ⟨lx7, lx8, lx9⟩ H locs ls w15 ⟨i10, i11, i12, i13, V, hl, hI, hF, hO16, hO17, ⟨fu20, hf21, hR18⟩⟩ ih14
  obtain ⟨fm22, rfl⟩ : ∃ m, fu20 = m + 1 := ⟨fu20 - 1, by omega⟩
  replace i10 : q_F (lx7.toInt ≤ 5) := i10
  replace i11 : q_F (t0_0.toInt ≤ lx7.toInt + lx8.toInt) := i11
  replace i12 : q_F (lx8.toInt ≤ lx7.toInt + t0_0.toInt) := i12
  replace i13 : q_F (lx7.toInt + t0_0.toInt ≤ lx8.toInt) := i13
  replace hl : lv_has ls 3 [(2, .int lx7), (0, .ref (q k1)), (1, .ref (g (8 + 2 * 12)))] := hl
  replace hO16 : w15[k1]? = (some (q k1, .inr (1, [.ref (q (k1 + 1)), .int R, .int lx8])) : Option (Nat × va_E)) := hO16
  replace hO17 : w15[k1 + 1]? = (some (q (k1 + 1), .inl (g 1, N.toNatClampNeg, .inr (.inl lx9))) : Option (Nat × va_E)) := hO17
  refine lv_iload_n hx hb d_11_4_2 rfl (lv_at hl 0 rfl) ?_
  refine lv_aload_n hx hb d_11_4_3 rfl (lv_at hl 2 rfl) ?_
  refine q_goi V (q_runVs (As := []) (rest := [.int lx7]) (d := 2) (mc := 0) (ms := 0) (i := 12) C0 V rfl LV_She_24 (X_jStr_length_12 l D g q w15   hI   _) rfl rfl rfl hl.1 rfl (Nat.le_of_ble_eq_true rfl) ⟨by decide, by decide⟩ ⟨Nat.le_of_ble_eq_true rfl, Nat.le_of_ble_eq_true rfl⟩ d_11_4_4) (fun a25 u23 H locs hp24 V => ?_)
  obtain ⟨rfl, b26, b27, hE28⟩ := hp24
  have e29 : a25 = (F_jStr_length_12) := hE28
  replace b26 : q_F (5 ≤ a25.toInt) := b26
  replace b27 : q_F (a25.toInt ≤ 5) := b27
  obtain rfl : a25 = (5 : Int32) := q_Ieq (x := a25.toInt) (y := 5) rfl (by decide) (by have t1 : 5 ≤ a25.toInt := b26; have t2 : a25.toInt ≤ 5 := b27; omega)
  refine lv_icmp_ge (tgt := 25) hx hb d_11_4_7 (by decide) (fun c30 => ?_) (fun c30 => ?_)
  ·
    have b31 : q_F (5 ≤ lx7.toInt) := (q_leI c30)
    exact q_retv C0 V (⟨hI, hF, lx8, lx9, hO16, hO17, (show t0_0.toInt + 5 ≤ lx8.toInt from (by have t1 : lx7.toInt + t0_0.toInt ≤ lx8.toInt := i13; have t2 : 5 ≤ lx7.toInt := b31; omega)), (show lx8.toInt ≤ t0_0.toInt + 5 from (by have t1 : lx7.toInt ≤ 5 := i10; have t2 : lx8.toInt ≤ lx7.toInt + t0_0.toInt := i12; omega)), (show (lx8, lx9) = (F_She_addText_12 R N K t0_0 t1_0) from Eq.trans (by rw [F_She_addText_12_L2.eq_2, if_pos c30]) hR18)⟩) d_11_4_25
  ·
    have b32 : q_F (lx7.toInt < 5) := (q_nleI c30)
    refine lv_aload_n hx hb d_11_4_10 rfl (lv_at hl 1 rfl) ?_
    refine lv_aload_n hx hb d_11_4_11 rfl (lv_at hl 2 rfl) ?_
    refine lv_iload_n hx hb d_11_4_12 rfl (lv_at hl 0 rfl) ?_
    refine q_goi V (q_runVs (As := [.int lx7]) (rest := [.ref (q k1)]) (d := 4) (mc := 0) (ms := 0) (i := 12) C0 V rfl LV_She_30 (X_jStr_charAt_12 l D g q w15  lx7 hI  (by have t1 : t0_0.toInt ≤ lx7.toInt + lx8.toInt := i11; have t2 : lx8.toInt ≤ lx7.toInt + t0_0.toInt := i12; omega) (by first | with_reducible exact q_fe b32 | (have t1 : lx7.toInt < 5 := b32; omega)) _) rfl rfl rfl hl.1 rfl (Nat.le_of_ble_eq_true rfl) ⟨by decide, by decide⟩ ⟨Nat.le_of_ble_eq_true rfl, Nat.le_of_ble_eq_true rfl⟩ d_11_4_13) (fun a35 u33 H locs hp34 V => ?_)
    obtain ⟨rfl, b36, b37, hE38⟩ := hp34
    have e39 : a35 = (F_jStr_charAt_12 lx7) := hE38
    clear b36
    clear b37
    refine q_gov V (q_runV (As := [.int a35]) (rest := []) (d := 1) (mc := 0) (ms := 0) (ci := 1) C0 V rfl LV_She_34 (X_She_add_p l D g q w15 k1 R N K hB1 a35 hI lx8 hO16 lx9 hO17 (by have t1 : t0_0.toInt + 20 ≤ K.toInt := pre0; have t2 : lx7.toInt ≤ 5 := i10; have t3 : lx8.toInt ≤ lx7.toInt + t0_0.toInt := i12; omega) _) rfl rfl hO16 rfl hl.1 rfl (Nat.le_of_ble_eq_true rfl) ⟨by decide, by decide⟩ ⟨Nat.le_of_ble_eq_true rfl, Nat.le_of_ble_eq_true rfl⟩ d_11_4_16) (fun u40 H locs hp41 V => ?_)
    obtain ⟨hI, hZ9⟩ := hp41
    obtain ⟨hu49, hZ9⟩ := hZ9
    obtain ⟨y43, hZ9⟩ := hZ9
    obtain ⟨f44, hZ9⟩ := hZ9
    obtain ⟨hO42, hZ9⟩ := hZ9
    obtain ⟨hA45, hZ9⟩ := hZ9
    obtain ⟨b46, hZ9⟩ := hZ9
    obtain ⟨b47, hE48⟩ := hZ9
    replace hO42 : u40[k1]? = (some (q k1, .inr (1, [.ref (q (k1 + 1)), .int R, .int y43])) : Option (Nat × va_E)) := hO42
    replace hA45 : u40[k1 + 1]? = (some (q (k1 + 1), .inl (g 1, N.toNatClampNeg, .inr (.inl f44))) : Option (Nat × va_E)) := hA45
    obtain ⟨p50, e51⟩ : ∃ z, z = (F_She_add_p R N K a35 lx8 lx9) := ⟨_, rfl⟩
    have e52 : y43 = p50.1 := congrArg (fun z => z.1) (hE48.trans e51.symm)
    have e53 : f44 = p50.2 := congrArg (fun z => z.2) (hE48.trans e51.symm)
    replace b46 : q_F (lx8.toInt + 1 ≤ y43.toInt) := b46
    replace b47 : q_F (y43.toInt ≤ lx8.toInt + 1) := b47
    replace hF := q_uc hF hu49 (by first | exact (q_sk (q_mi 0 rfl) (q_sk (q_mi 1 rfl) q_s0)) | simp)
    have hR54 := (show F_She_addText_12_c16 (F_She_addText_12_L2 R N K t0_0 t1_0 fm22) R N K t0_0 t1_0 lx7 lx8 lx9 p50 = (F_She_addText_12 R N K t0_0 t1_0) from Eq.trans (by rw [e51, e39, F_She_addText_12_L2.eq_2, if_neg c30]) hR18)
    obtain ⟨a59, e60⟩ := q_nm (lx7 + 1 : Int32)
    have b61 : q_F (a59.toInt = lx7.toInt + 1) := (by rw [← e60]; exact q_addI (y := 1) rfl (by decide) (by have t1 : t0_0.toInt ≤ lx7.toInt + lx8.toInt := i11; have t2 : lx8.toInt ≤ lx7.toInt + t0_0.toInt := i12; have t3 : lx7.toInt ≤ 5 := i10; omega) (by have t1 : t0_0.toInt ≤ lx7.toInt + lx8.toInt := i11; have t2 : lx8.toInt ≤ lx7.toInt + t0_0.toInt := i12; have t3 : lx7.toInt ≤ 5 := i10; omega))
    refine lv_iinc (v := a59) (lv' := [(2, .int a59), (0, .ref (q k1)), (1, .ref (g (8 + 2 * 12)))]) hx hb d_11_4_19 hl (k := 0) rfl (e60) (by decide) rfl (fun ls hl => ?_)
    refine lv_goto (tgt := 2) hx hb d_11_4_22 (by decide) ?_
    exact ih14 ((a59 : Int32), (y43 : Int32), (f44 : (Nat → Int64))) _ _ _ _ (show (5 - a59.toInt).toNat < (5 - lx7.toInt).toNat from by have t1 : a59.toInt = lx7.toInt + 1 := b61; have t2 : lx7.toInt ≤ 5 := i10; have t3 : lx7.toInt < 5 := b32; omega) ⟨(show q_F (a59.toInt ≤ 5) from (show a59.toInt ≤ 5 from by have t1 : lx7.toInt < 5 := b32; have t2 : a59.toInt = lx7.toInt + 1 := b61; omega)), (show q_F (t0_0.toInt ≤ a59.toInt + y43.toInt) from (show t0_0.toInt ≤ a59.toInt + y43.toInt from by have t1 : t0_0.toInt ≤ lx7.toInt + lx8.toInt := i11; have t2 : lx8.toInt + 1 ≤ y43.toInt := b46; have t3 : a59.toInt = lx7.toInt + 1 := b61; omega)), (show q_F (y43.toInt ≤ a59.toInt + t0_0.toInt) from (show y43.toInt ≤ a59.toInt + t0_0.toInt from by have t1 : lx8.toInt ≤ lx7.toInt + t0_0.toInt := i12; have t2 : y43.toInt ≤ lx8.toInt + 1 := b47; have t3 : a59.toInt = lx7.toInt + 1 := b61; omega)), (show q_F (a59.toInt + t0_0.toInt ≤ y43.toInt) from (show a59.toInt + t0_0.toInt ≤ y43.toInt from by have t1 : lx7.toInt + t0_0.toInt ≤ lx8.toInt := i13; have t2 : lx8.toInt + 1 ≤ y43.toInt := b46; have t3 : a59.toInt = lx7.toInt + 1 := b61; omega)), V, q_lw hl (q_lw1 0 rfl (q_lw1 1 rfl (q_lw1 2 rfl q_lw0))), hI, hF, hO42, hA45, ⟨fm22, Nat.lt_of_lt_of_le (show (5 - a59.toInt).toNat < (5 - lx7.toInt).toNat from by have t1 : a59.toInt = lx7.toInt + 1 := b61; have t2 : lx7.toInt ≤ 5 := i10; have t3 : lx7.toInt < 5 := b32; omega) (Nat.le_of_lt_succ hf21), (show F_She_addText_12_L2 R N K t0_0 t1_0 fm22 a59 y43 f44 = (F_She_addText_12 R N K t0_0 t1_0) from Eq.trans (by rw [← e60, e53, e52, F_She_addText_12_c16.eq_1]) hR54)⟩⟩
def F_jStr_length_13 : Int32 := (4 : Int32)
set_option maxRecDepth 100000 in
set_option maxHeartbeats 4000000 in
theorem X_jStr_length_13 (l : Launch) (D : va_G) (g : Nat → ClassId) (q : Nat → Nat) (ws : va_W) (hI : q_I (nsh g q) q ws) : q_mI l y_jStr_length prog_31_method_54_code 1 (.int) 2 0 0 D g [.ref (g (8 + 2 * 13))] ws (fun r u => ws = u ∧ (4 ≤ r.toInt) ∧ (r.toInt ≤ 4) ∧ r = (F_jStr_length_13)) := by
  intro sz
  refine q_into (by decide) (Nat.le_of_ble_eq_true rfl) ?_
  intro p e s m below meth c ls hsz C0 V hl
  have hx := C0.1
  have hb := C0.2.1
  have hl : lv_has ls 1 [(0, .ref (g (8 + 2 * 13)))] := hl
  refine lv_aload_n hx hb d_31_54_0 rfl (lv_at hl 0 rfl) ?_
  refine q_sval (i := 13) C0 V rfl rfl w_1018 d_31_54_1 ?_
  refine q_slen (i := 13) (v := 4) C0 V rfl (by decide) d_31_54_4 ?_
  refine lv_aload_n hx hb d_31_54_5 rfl (lv_at hl 0 rfl) ?_
  refine q_goi V (q_runVs (As := []) (rest := [.int 4]) (d := 1) (mc := 0) (ms := 0) (i := 13) C0 V rfl LV_jStr_335 (T_jStr_coder_13 l D g q ws   hI   _) rfl rfl rfl hl.1 rfl (Nat.le_of_ble_eq_true rfl) ⟨by decide, by decide⟩ ⟨Nat.le_of_ble_eq_true rfl, Nat.le_of_ble_eq_true rfl⟩ d_31_54_6) (fun a3 u1 H locs hp2 V => ?_)
  obtain ⟨rfl, b4, b5⟩ := hp2
  replace b4 : q_F (0 ≤ a3.toInt) := b4
  replace b5 : q_F (a3.toInt ≤ 0) := b5
  obtain rfl : a3 = (0 : Int32) := q_Ieq (x := a3.toInt) (y := 0) rfl (by decide) (by have t1 : 0 ≤ a3.toInt := b4; have t2 : a3.toInt ≤ 0 := b5; omega)
  refine lv_ishr hx hb d_31_54_9 ?_
  refine q_ti (v := 4) (by decide) ?_
  exact q_reti C0 V (⟨rfl, (show 4 ≤ (4 : Int32).toInt from (by have z0 : (4 : Int32).toInt = 4 := rfl; omega)), (show (4 : Int32).toInt ≤ 4 from (by have z0 : (4 : Int32).toInt = 4 := rfl; omega)), (show (4 : Int32) = (F_jStr_length_13) from (by rw [F_jStr_length_13.eq_1]))⟩) d_31_54_10
def F_jLat_charAt_13 (x2 : Int32) : Int32 := (((((([116, 114, 117, 101] : List Int32).getD x2.toNatClampNeg 0) : Int32) &&& 255 : Int32).toUInt32 % 65536).toInt32 : Int32)
set_option maxRecDepth 100000 in
set_option maxHeartbeats 4000000 in
theorem X_jLat_charAt_13 (l : Launch) (D : va_G) (g : Nat → ClassId) (q : Nat → Nat) (ws : va_W) (x2 : Int32) (hI : q_I (nsh g q) q ws) (pre0 : 0 ≤ x2.toInt) (pre1 : x2.toInt ≤ 3) : q_mI l y_jLat_charAt prog_33_method_2_code 2 (.char) 3 0 0 D g [.ref (g (9 + 2 * 13)), .int x2] ws (fun r u => ws = u ∧ (0 ≤ r.toInt) ∧ (r.toInt ≤ 255) ∧ r = (F_jLat_charAt_13 x2)) := by
  intro sz
  refine q_into (by decide) (Nat.le_of_ble_eq_true rfl) ?_
  intro p e s m below meth c ls hsz C0 V hl
  have hx := C0.1
  have hb := C0.2.1
  replace pre0 : q_F (0 ≤ x2.toInt) := pre0
  replace pre1 : q_F (x2.toInt ≤ 3) := pre1
  have hl : lv_has ls 2 [(0, .ref (g (9 + 2 * 13))), (1, .int x2)] := hl
  refine lv_iload_n hx hb d_33_2_0 rfl (lv_at hl 1 rfl) ?_
  refine lv_aload_n hx hb d_33_2_1 rfl (lv_at hl 0 rfl) ?_
  refine q_slen (i := 13) (v := 4) C0 V rfl (by decide) d_33_2_2 ?_
  refine q_gov V (q_runS (As := [.int x2, .int 4]) (rest := []) (d := 2) (mc := 0) (ms := 0) C0 V rfl LS_jLat_9 (T_jStr_checkIndex l D g q ws  x2 4 hI  (by have y0 : (4 : Int32).toInt = 4 := rfl; have t1 : 0 ≤ x2.toInt := pre0; omega) (by have y0 : (4 : Int32).toInt = 4 := rfl; have t1 : x2.toInt ≤ 3 := pre1; omega) _) rfl hl.1 rfl (Nat.le_of_ble_eq_true rfl) ⟨by decide, by decide⟩ ⟨Nat.le_of_ble_eq_true rfl, Nat.le_of_ble_eq_true rfl⟩ d_33_2_3) (fun u1 H locs hp2 V => ?_)
  obtain ⟨rfl, -⟩ := hp2
  refine lv_aload_n hx hb d_33_2_6 rfl (lv_at hl 0 rfl) ?_
  refine lv_iload_n hx hb d_33_2_7 rfl (lv_at hl 1 rfl) ?_
  refine q_sbal (i := 13) (v := (([116, 114, 117, 101] : List Int32).getD x2.toNatClampNeg 0)) C0 V rfl (show vp_in x2 4 from q_ix (x := x2.toInt) rfl (by first | with_reducible exact q_fe pre0 | (have t1 : 0 ≤ x2.toInt := pre0; omega)) (by have t1 : 0 ≤ x2.toInt := pre0; have t2 : x2.toInt ≤ 3 := pre1; omega)) rfl d_33_2_8 ?_
  obtain ⟨a4, e5⟩ := q_nm ((([116, 114, 117, 101] : List Int32).getD x2.toNatClampNeg 0) : Int32)
  refine q_ti (v := a4) e5 ?_
  refine lv_sipush (v := 255) hx hb d_33_2_9 (by decide) ?_
  refine lv_iand hx hb d_33_2_12 ?_
  obtain ⟨a6, e7⟩ := q_nm (a4 &&& 255 : Int32)
  refine q_ti (v := a6) e7 ?_
  have b8 : q_F (0 ≤ a6.toInt ∧ a6.toInt ≤ 255) := (by rw [← e7]; show 0 ≤ (a4 &&& 255 : Int32).toInt ∧ (a4 &&& 255 : Int32).toInt ≤ 255; exact s_and (by decide))
  refine lv_i2c hx hb d_33_2_13 rfl ?_
  obtain ⟨a9, e10⟩ := q_nm ((a6.toUInt32 % 65536).toInt32 : Int32)
  refine q_ti (v := a9) e10 ?_
  have b11 : q_F (a9.toInt = a6.toInt) := (by rw [← e10]; show ((a6.toUInt32 % 65536).toInt32 : Int32).toInt = a6.toInt; exact (n_i2c (x := a6)).2.2 (by first | with_reducible exact (q_fe b8).2 | with_reducible exact (q_fe b8).1 | (have t1 : 0 ≤ a6.toInt ∧ a6.toInt ≤ 255 := b8; omega)) (by first | with_reducible exact (q_fe b8).2 | with_reducible exact (q_fe b8).1 | (have t1 : 0 ≤ a6.toInt ∧ a6.toInt ≤ 255 := b8; omega)))
  exact q_retn C0 V (n_chr (by have t1 : 0 ≤ a6.toInt ∧ a6.toInt ≤ 255 := b8; have t2 : a9.toInt = a6.toInt := b11; omega) (by have t1 : 0 ≤ a6.toInt ∧ a6.toInt ≤ 255 := b8; have t2 : a9.toInt = a6.toInt := b11; omega)) (⟨rfl, (show 0 ≤ a9.toInt from (by have t1 : 0 ≤ a6.toInt ∧ a6.toInt ≤ 255 := b8; have t2 : a9.toInt = a6.toInt := b11; omega)), (show a9.toInt ≤ 255 from (by have t1 : 0 ≤ a6.toInt ∧ a6.toInt ≤ 255 := b8; have t2 : a9.toInt = a6.toInt := b11; omega)), (show a9 = (F_jLat_charAt_13 x2) from (by rw [← e10, ← e7, ← e5, F_jLat_charAt_13.eq_1]))⟩) d_33_2_14

def F_jStr_charAt_13 (x2 : Int32) : Int32 := ((F_jLat_charAt_13 x2) : Int32)
set_option maxRecDepth 100000 in
set_option maxHeartbeats 4000000 in
theorem X_jStr_charAt_13 (l : Launch) (D : va_G) (g : Nat → ClassId) (q : Nat → Nat) (ws : va_W) (x2 : Int32) (hI : q_I (nsh g q) q ws) (pre0 : 0 ≤ x2.toInt) (pre1 : x2.toInt ≤ 3) : q_mI l y_jStr_charAt prog_31_method_56_code 2 (.char) 4 0 0 D g [.ref (g (8 + 2 * 13)), .int x2] ws (fun r u => ws = u ∧ (0 ≤ r.toInt) ∧ (r.toInt ≤ 255) ∧ r = (F_jStr_charAt_13 x2)) := by
  intro sz
  refine q_into (by decide) (Nat.le_of_ble_eq_true rfl) ?_
  intro p e s m below meth c ls hsz C0 V hl
  have hx := C0.1
  have hb := C0.2.1
  replace pre0 : q_F (0 ≤ x2.toInt) := pre0
  replace pre1 : q_F (x2.toInt ≤ 3) := pre1
  have hl : lv_has ls 2 [(0, .ref (g (8 + 2 * 13))), (1, .int x2)] := hl
  refine lv_aload_n hx hb d_31_56_0 rfl (lv_at hl 0 rfl) ?_
  refine q_goi V (q_runVs (As := []) (rest := []) (d := 1) (mc := 0) (ms := 0) (i := 13) C0 V rfl LV_jStr_492 (T_jStr_isLatin1_13 l D g q ws   hI   _) rfl rfl rfl hl.1 rfl (Nat.le_of_ble_eq_true rfl) ⟨by decide, by decide⟩ ⟨Nat.le_of_ble_eq_true rfl, Nat.le_of_ble_eq_true rfl⟩ d_31_56_1) (fun a3 u1 H locs hp2 V => ?_)
  obtain ⟨rfl, b4, b5⟩ := hp2
  replace b4 : q_F (1 ≤ a3.toInt) := b4
  replace b5 : q_F (a3.toInt ≤ 1) := b5
  obtain rfl : a3 = (1 : Int32) := q_Ieq (x := a3.toInt) (y := 1) rfl (by decide) (by have t1 : 1 ≤ a3.toInt := b4; have t2 : a3.toInt ≤ 1 := b5; omega)
  refine lv_if_eq (tgt := 16) hx hb d_31_56_4 (by decide) (fun c7 => absurd c7 (by decide)) (fun c7 => ?_)
  refine lv_aload_n hx hb d_31_56_7 rfl (lv_at hl 0 rfl) ?_
  refine q_sval (i := 13) C0 V rfl rfl w_1018 d_31_56_8 ?_
  refine lv_iload_n hx hb d_31_56_11 rfl (lv_at hl 1 rfl) ?_
  refine q_goi V (q_runS (As := [.ref (g (9 + 2 * 13)), .int x2]) (rest := []) (d := 3) (mc := 0) (ms := 0) C0 V rfl LS_jStr_495 (X_jLat_charAt_13 l D g q ws  x2 hI  (by first | with_reducible exact q_fe pre0 | (have t1 : 0 ≤ x2.toInt := pre0; omega)) (by first | with_reducible exact q_fe pre1 | (have t1 : x2.toInt ≤ 3 := pre1; omega)) _) rfl hl.1 rfl (Nat.le_of_ble_eq_true rfl) ⟨by decide, by decide⟩ ⟨Nat.le_of_ble_eq_true rfl, Nat.le_of_ble_eq_true rfl⟩ d_31_56_12) (fun a10 u8 H locs hp9 V => ?_)
  obtain ⟨rfl, b11, b12, hE13⟩ := hp9
  have e14 : a10 = (F_jLat_charAt_13 x2) := hE13
  replace b11 : q_F (0 ≤ a10.toInt) := b11
  replace b12 : q_F (a10.toInt ≤ 255) := b12
  exact q_retn C0 V (n_chr (by first | with_reducible exact q_fe b11 | (have t1 : 0 ≤ a10.toInt := b11; omega)) (by first | with_reducible exact q_fe b12 | (have t1 : a10.toInt ≤ 255 := b12; omega))) (⟨rfl, (show 0 ≤ a10.toInt from (by first | with_reducible exact q_fe b11 | (have t1 : 0 ≤ a10.toInt := b11; omega))), (show a10.toInt ≤ 255 from (by first | with_reducible exact q_fe b12 | (have t1 : a10.toInt ≤ 255 := b12; omega))), (show a10 = (F_jStr_charAt_13 x2) from (by rw [e14, F_jStr_charAt_13.eq_1]))⟩) d_31_56_15
def F_She_addText_13_c16 (K_F_She_addText_13_L2 : Int32 → Int32 → (Nat → Int64) → (Int32 × (Nat → Int64))) (R : Int32) (N : Int32) (K : Int32) (t0_0 : Int32) (t1_0 : (Nat → Int64)) (lx7 : Int32) (lx8 : Int32) (lx9 : (Nat → Int64)) (p50 : (Int32 × (Nat → Int64))) : Int32 × (Nat → Int64) := K_F_She_addText_13_L2 (lx7 + 1 : Int32) (p50.1 : Int32) (p50.2 : (Nat → Int64))
def F_She_addText_13_L2 (R : Int32) (N : Int32) (K : Int32) (t0_0 : Int32) (t1_0 : (Nat → Int64)) : Nat → Int32 → Int32 → (Nat → Int64) → (Int32 × (Nat → Int64))
  | 0, _, _, _ => default
  | fm + 1, lx7, lx8, lx9 => if (4 : Int32) ≤ lx7 then ((lx8, lx9)) else (F_She_addText_13_c16 (F_She_addText_13_L2 R N K t0_0 t1_0 fm) R N K t0_0 t1_0 lx7 lx8 lx9 ((F_She_add_p R N K ((F_jStr_charAt_13 lx7) : Int32) lx8 lx9) : (Int32 × (Nat → Int64))))
def F_She_addText_13 (R : Int32) (N : Int32) (K : Int32) (t0_0 : Int32) (t1_0 : (Nat → Int64)) : Int32 × (Nat → Int64) := F_She_addText_13_L2 R N K t0_0 t1_0 ((4 - (0 : Int32).toInt).toNat + 1) 0 t0_0 t1_0
set_option maxRecDepth 100000 in
set_option maxHeartbeats 4000000 in
theorem X_She_addText_13 (l : Launch) (D : va_G) (g : Nat → ClassId) (q : Nat → Nat) (ws : va_W) (k1 : Nat) (R N K : Int32) (hB1 : q_isShe (nsh g q) g q k1 R N K) (hI : q_I (nsh g q) q ws) (t0_0 : Int32) (hT0 : ws[k1]? = (some (q k1, .inr (1, [.ref (q (k1 + 1)), .int R, .int t0_0])) : Option (Nat × va_E))) (t1_0 : (Nat → Int64)) (hT1 : ws[k1 + 1]? = (some (q (k1 + 1), .inl (g 1, N.toNatClampNeg, .inr (.inl t1_0))) : Option (Nat × va_E))) (pre0 : t0_0.toInt + 20 ≤ K.toInt) : q_mV l y_She_addText prog_11_method_4_code 3 5 0 0 D g [.ref (q k1), .ref (g (8 + 2 * 13))] ws (fun u => q_I (nsh g q) q u ∧ q_un ws u [k1, k1 + 1] ∧ ∃ (u0_0 : Int32) (u1_0 : (Nat → Int64)), u[k1]? = (some (q k1, .inr (1, [.ref (q (k1 + 1)), .int R, .int u0_0])) : Option (Nat × va_E)) ∧ u[k1 + 1]? = (some (q (k1 + 1), .inl (g 1, N.toNatClampNeg, .inr (.inl u1_0))) : Option (Nat × va_E)) ∧ (t0_0.toInt + 4 ≤ u0_0.toInt) ∧ (u0_0.toInt ≤ t0_0.toInt + 4) ∧ (u0_0, u1_0) = (F_She_addText_13 R N K t0_0 t1_0)) := by
  intro sz
  refine q_into (by decide) (Nat.le_of_ble_eq_true rfl) ?_
  intro p e s m below meth c ls hsz C0 V hl
  have hx := C0.1
  have hb := C0.2.1
  have btt0_0 := n_shW hI hB1 hT0
  clear btt0_0
  replace pre0 : q_F (t0_0.toInt + 20 ≤ K.toInt) := pre0
  have hF : q_un ws ws [k1, k1 + 1] := q_u0
  have hl : lv_has ls 3 [(0, .ref (q k1)), (1, .ref (g (8 + 2 * 13)))] := hl
  refine lv_iconst (v := 0) hx hb d_11_4_0 (by decide) ?_
  refine lv_istore_n (lv' := [(2, .int 0), (0, .ref (q k1)), (1, .ref (g (8 + 2 * 13)))]) hx hb d_11_4_1 rfl hl (by decide) rfl (fun ls hl => ?_)
  refine q_loop (X := Int32 × Int32 × (Nat → Int64)) (fun z H locs ls w15 => q_F (z.1.toInt ≤ 4) ∧ q_F (t0_0.toInt ≤ z.1.toInt + z.2.1.toInt) ∧ q_F (z.2.1.toInt ≤ z.1.toInt + t0_0.toInt) ∧ q_F (z.1.toInt + t0_0.toInt ≤ z.2.1.toInt) ∧ q_Wd D g (va_A ws sz) s w15 H locs ∧ lv_has ls 3 [(2, .int z.1), (0, .ref (q k1)), (1, .ref (g (8 + 2 * 13)))] ∧ q_I (nsh g q) q w15 ∧ q_un ws w15 [k1, k1 + 1] ∧ w15[k1]? = (some (q k1, .inr (1, [.ref (q (k1 + 1)), .int R, .int z.2.1])) : Option (Nat × va_E)) ∧ w15[k1 + 1]? = (some (q (k1 + 1), .inl (g 1, N.toNatClampNeg, .inr (.inl z.2.2))) : Option (Nat × va_E)) ∧ (∃ n, (4 - z.1.toInt).toNat < n ∧ F_She_addText_13_L2 R N K t0_0 t1_0 n z.1 z.2.1 z.2.2 = (F_She_addText_13 R N K t0_0 t1_0))) (fun z => (4 - z.1.toInt).toNat) ?_ ((0 : Int32), (t0_0 : Int32), (t1_0 : (Nat → Int64))) _ _ _ ws ⟨(show q_F (0 ≤ 4) from (show 0 ≤ 4 from by omega)), (show q_F (t0_0.toInt ≤ 0 + t0_0.toInt) from (show t0_0.toInt ≤ 0 + t0_0.toInt from by omega)), (show q_F (t0_0.toInt ≤ 0 + t0_0.toInt) from (show t0_0.toInt ≤ 0 + t0_0.toInt from by omega)), (show q_F (0 + t0_0.toInt ≤ t0_0.toInt) from (show 0 + t0_0.toInt ≤ t0_0.toInt from by omega)), V, q_lw hl (q_lw1 0 rfl (q_lw1 1 rfl (q_lw1 2 rfl q_lw0))), hI, hF, hT0, hT1, ⟨((4 - (0 : Int32).toInt).toNat + 1), Nat.lt_succ_self _, (show F_She_addText_13_L2 R N K t0_0 t1_0 ((4 - (0 : Int32).toInt).toNat + 1) 0 t0_0 t1_0 = (F_She_addText_13 R N K t0_0 t1_0) from (by rw [F_She_addText_13.eq_1]))⟩⟩
  rintro ⟨lx7, lx8, lx9⟩ H locs ls w15 ⟨i10, i11, i12, i13, V, hl, hI, hF, hO16, hO17, ⟨fu20, hf21, hR18⟩⟩ ih14
  obtain ⟨fm22, rfl⟩ : ∃ m, fu20 = m + 1 := ⟨fu20 - 1, by omega⟩
  replace i10 : q_F (lx7.toInt ≤ 4) := i10
  replace i11 : q_F (t0_0.toInt ≤ lx7.toInt + lx8.toInt) := i11
  replace i12 : q_F (lx8.toInt ≤ lx7.toInt + t0_0.toInt) := i12
  replace i13 : q_F (lx7.toInt + t0_0.toInt ≤ lx8.toInt) := i13
  replace hl : lv_has ls 3 [(2, .int lx7), (0, .ref (q k1)), (1, .ref (g (8 + 2 * 13)))] := hl
  replace hO16 : w15[k1]? = (some (q k1, .inr (1, [.ref (q (k1 + 1)), .int R, .int lx8])) : Option (Nat × va_E)) := hO16
  replace hO17 : w15[k1 + 1]? = (some (q (k1 + 1), .inl (g 1, N.toNatClampNeg, .inr (.inl lx9))) : Option (Nat × va_E)) := hO17
  refine lv_iload_n hx hb d_11_4_2 rfl (lv_at hl 0 rfl) ?_
  refine lv_aload_n hx hb d_11_4_3 rfl (lv_at hl 2 rfl) ?_
  refine q_goi V (q_runVs (As := []) (rest := [.int lx7]) (d := 2) (mc := 0) (ms := 0) (i := 13) C0 V rfl LV_She_24 (X_jStr_length_13 l D g q w15   hI   _) rfl rfl rfl hl.1 rfl (Nat.le_of_ble_eq_true rfl) ⟨by decide, by decide⟩ ⟨Nat.le_of_ble_eq_true rfl, Nat.le_of_ble_eq_true rfl⟩ d_11_4_4) (fun a25 u23 H locs hp24 V => ?_)
  obtain ⟨rfl, b26, b27, hE28⟩ := hp24
  have e29 : a25 = (F_jStr_length_13) := hE28
  replace b26 : q_F (4 ≤ a25.toInt) := b26
  replace b27 : q_F (a25.toInt ≤ 4) := b27
  obtain rfl : a25 = (4 : Int32) := q_Ieq (x := a25.toInt) (y := 4) rfl (by decide) (by have t1 : 4 ≤ a25.toInt := b26; have t2 : a25.toInt ≤ 4 := b27; omega)
  refine lv_icmp_ge (tgt := 25) hx hb d_11_4_7 (by decide) (fun c30 => ?_) (fun c30 => ?_)
  ·
    have b31 : q_F (4 ≤ lx7.toInt) := (q_leI c30)
    exact q_retv C0 V (⟨hI, hF, lx8, lx9, hO16, hO17, (show t0_0.toInt + 4 ≤ lx8.toInt from (by have t1 : lx7.toInt + t0_0.toInt ≤ lx8.toInt := i13; have t2 : 4 ≤ lx7.toInt := b31; omega)), (show lx8.toInt ≤ t0_0.toInt + 4 from (by have t1 : lx7.toInt ≤ 4 := i10; have t2 : lx8.toInt ≤ lx7.toInt + t0_0.toInt := i12; omega)), (show (lx8, lx9) = (F_She_addText_13 R N K t0_0 t1_0) from Eq.trans (by rw [F_She_addText_13_L2.eq_2, if_pos c30]) hR18)⟩) d_11_4_25
  ·
    have b32 : q_F (lx7.toInt < 4) := (q_nleI c30)
    refine lv_aload_n hx hb d_11_4_10 rfl (lv_at hl 1 rfl) ?_
    refine lv_aload_n hx hb d_11_4_11 rfl (lv_at hl 2 rfl) ?_
    refine lv_iload_n hx hb d_11_4_12 rfl (lv_at hl 0 rfl) ?_
    refine q_goi V (q_runVs (As := [.int lx7]) (rest := [.ref (q k1)]) (d := 4) (mc := 0) (ms := 0) (i := 13) C0 V rfl LV_She_30 (X_jStr_charAt_13 l D g q w15  lx7 hI  (by have t1 : t0_0.toInt ≤ lx7.toInt + lx8.toInt := i11; have t2 : lx8.toInt ≤ lx7.toInt + t0_0.toInt := i12; omega) (by first | with_reducible exact q_fe b32 | (have t1 : lx7.toInt < 4 := b32; omega)) _) rfl rfl rfl hl.1 rfl (Nat.le_of_ble_eq_true rfl) ⟨by decide, by decide⟩ ⟨Nat.le_of_ble_eq_true rfl, Nat.le_of_ble_eq_true rfl⟩ d_11_4_13) (fun a35 u33 H locs hp34 V => ?_)
    obtain ⟨rfl, b36, b37, hE38⟩ := hp34
    have e39 : a35 = (F_jStr_charAt_13 lx7) := hE38
    clear b36
    clear b37
    refine q_gov V (q_runV (As := [.int a35]) (rest := []) (d := 1) (mc := 0) (ms := 0) (ci := 1) C0 V rfl LV_She_34 (X_She_add_p l D g q w15 k1 R N K hB1 a35 hI lx8 hO16 lx9 hO17 (by have t1 : t0_0.toInt + 20 ≤ K.toInt := pre0; have t2 : lx7.toInt ≤ 4 := i10; have t3 : lx8.toInt ≤ lx7.toInt + t0_0.toInt := i12; omega) _) rfl rfl hO16 rfl hl.1 rfl (Nat.le_of_ble_eq_true rfl) ⟨by decide, by decide⟩ ⟨Nat.le_of_ble_eq_true rfl, Nat.le_of_ble_eq_true rfl⟩ d_11_4_16) (fun u40 H locs hp41 V => ?_)
    obtain ⟨hI, hZ9⟩ := hp41
    obtain ⟨hu49, hZ9⟩ := hZ9
    obtain ⟨y43, hZ9⟩ := hZ9
    obtain ⟨f44, hZ9⟩ := hZ9
    obtain ⟨hO42, hZ9⟩ := hZ9
    obtain ⟨hA45, hZ9⟩ := hZ9
    obtain ⟨b46, hZ9⟩ := hZ9
    obtain ⟨b47, hE48⟩ := hZ9
    replace hO42 : u40[k1]? = (some (q k1, .inr (1, [.ref (q (k1 + 1)), .int R, .int y43])) : Option (Nat × va_E)) := hO42
    replace hA45 : u40[k1 + 1]? = (some (q (k1 + 1), .inl (g 1, N.toNatClampNeg, .inr (.inl f44))) : Option (Nat × va_E)) := hA45
    obtain ⟨p50, e51⟩ : ∃ z, z = (F_She_add_p R N K a35 lx8 lx9) := ⟨_, rfl⟩
    have e52 : y43 = p50.1 := congrArg (fun z => z.1) (hE48.trans e51.symm)
    have e53 : f44 = p50.2 := congrArg (fun z => z.2) (hE48.trans e51.symm)
    replace b46 : q_F (lx8.toInt + 1 ≤ y43.toInt) := b46
    replace b47 : q_F (y43.toInt ≤ lx8.toInt + 1) := b47
    replace hF := q_uc hF hu49 (by first | exact (q_sk (q_mi 0 rfl) (q_sk (q_mi 1 rfl) q_s0)) | simp)
    have hR54 := (show F_She_addText_13_c16 (F_She_addText_13_L2 R N K t0_0 t1_0 fm22) R N K t0_0 t1_0 lx7 lx8 lx9 p50 = (F_She_addText_13 R N K t0_0 t1_0) from Eq.trans (by rw [e51, e39, F_She_addText_13_L2.eq_2, if_neg c30]) hR18)
    obtain ⟨a59, e60⟩ := q_nm (lx7 + 1 : Int32)
    have b61 : q_F (a59.toInt = lx7.toInt + 1) := (by rw [← e60]; exact q_addI (y := 1) rfl (by decide) (by have t1 : t0_0.toInt ≤ lx7.toInt + lx8.toInt := i11; have t2 : lx8.toInt ≤ lx7.toInt + t0_0.toInt := i12; have t3 : lx7.toInt ≤ 4 := i10; omega) (by have t1 : t0_0.toInt ≤ lx7.toInt + lx8.toInt := i11; have t2 : lx8.toInt ≤ lx7.toInt + t0_0.toInt := i12; have t3 : lx7.toInt ≤ 4 := i10; omega))
    refine lv_iinc (v := a59) (lv' := [(2, .int a59), (0, .ref (q k1)), (1, .ref (g (8 + 2 * 13)))]) hx hb d_11_4_19 hl (k := 0) rfl (e60) (by decide) rfl (fun ls hl => ?_)
    refine lv_goto (tgt := 2) hx hb d_11_4_22 (by decide) ?_
    exact ih14 ((a59 : Int32), (y43 : Int32), (f44 : (Nat → Int64))) _ _ _ _ (show (4 - a59.toInt).toNat < (4 - lx7.toInt).toNat from by have t1 : a59.toInt = lx7.toInt + 1 := b61; have t2 : lx7.toInt ≤ 4 := i10; have t3 : lx7.toInt < 4 := b32; omega) ⟨(show q_F (a59.toInt ≤ 4) from (show a59.toInt ≤ 4 from by have t1 : lx7.toInt < 4 := b32; have t2 : a59.toInt = lx7.toInt + 1 := b61; omega)), (show q_F (t0_0.toInt ≤ a59.toInt + y43.toInt) from (show t0_0.toInt ≤ a59.toInt + y43.toInt from by have t1 : t0_0.toInt ≤ lx7.toInt + lx8.toInt := i11; have t2 : lx8.toInt + 1 ≤ y43.toInt := b46; have t3 : a59.toInt = lx7.toInt + 1 := b61; omega)), (show q_F (y43.toInt ≤ a59.toInt + t0_0.toInt) from (show y43.toInt ≤ a59.toInt + t0_0.toInt from by have t1 : lx8.toInt ≤ lx7.toInt + t0_0.toInt := i12; have t2 : y43.toInt ≤ lx8.toInt + 1 := b47; have t3 : a59.toInt = lx7.toInt + 1 := b61; omega)), (show q_F (a59.toInt + t0_0.toInt ≤ y43.toInt) from (show a59.toInt + t0_0.toInt ≤ y43.toInt from by have t1 : lx7.toInt + t0_0.toInt ≤ lx8.toInt := i13; have t2 : lx8.toInt + 1 ≤ y43.toInt := b46; have t3 : a59.toInt = lx7.toInt + 1 := b61; omega)), V, q_lw hl (q_lw1 0 rfl (q_lw1 1 rfl (q_lw1 2 rfl q_lw0))), hI, hF, hO42, hA45, ⟨fm22, Nat.lt_of_lt_of_le (show (4 - a59.toInt).toNat < (4 - lx7.toInt).toNat from by have t1 : a59.toInt = lx7.toInt + 1 := b61; have t2 : lx7.toInt ≤ 4 := i10; have t3 : lx7.toInt < 4 := b32; omega) (Nat.le_of_lt_succ hf21), (show F_She_addText_13_L2 R N K t0_0 t1_0 fm22 a59 y43 f44 = (F_She_addText_13 R N K t0_0 t1_0) from Eq.trans (by rw [← e60, e53, e52, F_She_addText_13_c16.eq_1]) hR54)⟩⟩
def F_jStr_length_15 : Int32 := (4 : Int32)
set_option maxRecDepth 100000 in
set_option maxHeartbeats 4000000 in
theorem X_jStr_length_15 (l : Launch) (D : va_G) (g : Nat → ClassId) (q : Nat → Nat) (ws : va_W) (hI : q_I (nsh g q) q ws) : q_mI l y_jStr_length prog_31_method_54_code 1 (.int) 2 0 0 D g [.ref (g (8 + 2 * 15))] ws (fun r u => ws = u ∧ (4 ≤ r.toInt) ∧ (r.toInt ≤ 4) ∧ r = (F_jStr_length_15)) := by
  intro sz
  refine q_into (by decide) (Nat.le_of_ble_eq_true rfl) ?_
  intro p e s m below meth c ls hsz C0 V hl
  have hx := C0.1
  have hb := C0.2.1
  have hl : lv_has ls 1 [(0, .ref (g (8 + 2 * 15)))] := hl
  refine lv_aload_n hx hb d_31_54_0 rfl (lv_at hl 0 rfl) ?_
  refine q_sval (i := 15) C0 V rfl rfl w_1018 d_31_54_1 ?_
  refine q_slen (i := 15) (v := 4) C0 V rfl (by decide) d_31_54_4 ?_
  refine lv_aload_n hx hb d_31_54_5 rfl (lv_at hl 0 rfl) ?_
  refine q_goi V (q_runVs (As := []) (rest := [.int 4]) (d := 1) (mc := 0) (ms := 0) (i := 15) C0 V rfl LV_jStr_335 (T_jStr_coder_15 l D g q ws   hI   _) rfl rfl rfl hl.1 rfl (Nat.le_of_ble_eq_true rfl) ⟨by decide, by decide⟩ ⟨Nat.le_of_ble_eq_true rfl, Nat.le_of_ble_eq_true rfl⟩ d_31_54_6) (fun a3 u1 H locs hp2 V => ?_)
  obtain ⟨rfl, b4, b5⟩ := hp2
  replace b4 : q_F (0 ≤ a3.toInt) := b4
  replace b5 : q_F (a3.toInt ≤ 0) := b5
  obtain rfl : a3 = (0 : Int32) := q_Ieq (x := a3.toInt) (y := 0) rfl (by decide) (by have t1 : 0 ≤ a3.toInt := b4; have t2 : a3.toInt ≤ 0 := b5; omega)
  refine lv_ishr hx hb d_31_54_9 ?_
  refine q_ti (v := 4) (by decide) ?_
  exact q_reti C0 V (⟨rfl, (show 4 ≤ (4 : Int32).toInt from (by have z0 : (4 : Int32).toInt = 4 := rfl; omega)), (show (4 : Int32).toInt ≤ 4 from (by have z0 : (4 : Int32).toInt = 4 := rfl; omega)), (show (4 : Int32) = (F_jStr_length_15) from (by rw [F_jStr_length_15.eq_1]))⟩) d_31_54_10
def F_jLat_charAt_15 (x2 : Int32) : Int32 := (((((([110, 117, 108, 108] : List Int32).getD x2.toNatClampNeg 0) : Int32) &&& 255 : Int32).toUInt32 % 65536).toInt32 : Int32)
set_option maxRecDepth 100000 in
set_option maxHeartbeats 4000000 in
theorem X_jLat_charAt_15 (l : Launch) (D : va_G) (g : Nat → ClassId) (q : Nat → Nat) (ws : va_W) (x2 : Int32) (hI : q_I (nsh g q) q ws) (pre0 : 0 ≤ x2.toInt) (pre1 : x2.toInt ≤ 3) : q_mI l y_jLat_charAt prog_33_method_2_code 2 (.char) 3 0 0 D g [.ref (g (9 + 2 * 15)), .int x2] ws (fun r u => ws = u ∧ (0 ≤ r.toInt) ∧ (r.toInt ≤ 255) ∧ r = (F_jLat_charAt_15 x2)) := by
  intro sz
  refine q_into (by decide) (Nat.le_of_ble_eq_true rfl) ?_
  intro p e s m below meth c ls hsz C0 V hl
  have hx := C0.1
  have hb := C0.2.1
  replace pre0 : q_F (0 ≤ x2.toInt) := pre0
  replace pre1 : q_F (x2.toInt ≤ 3) := pre1
  have hl : lv_has ls 2 [(0, .ref (g (9 + 2 * 15))), (1, .int x2)] := hl
  refine lv_iload_n hx hb d_33_2_0 rfl (lv_at hl 1 rfl) ?_
  refine lv_aload_n hx hb d_33_2_1 rfl (lv_at hl 0 rfl) ?_
  refine q_slen (i := 15) (v := 4) C0 V rfl (by decide) d_33_2_2 ?_
  refine q_gov V (q_runS (As := [.int x2, .int 4]) (rest := []) (d := 2) (mc := 0) (ms := 0) C0 V rfl LS_jLat_9 (T_jStr_checkIndex l D g q ws  x2 4 hI  (by have y0 : (4 : Int32).toInt = 4 := rfl; have t1 : 0 ≤ x2.toInt := pre0; omega) (by have y0 : (4 : Int32).toInt = 4 := rfl; have t1 : x2.toInt ≤ 3 := pre1; omega) _) rfl hl.1 rfl (Nat.le_of_ble_eq_true rfl) ⟨by decide, by decide⟩ ⟨Nat.le_of_ble_eq_true rfl, Nat.le_of_ble_eq_true rfl⟩ d_33_2_3) (fun u1 H locs hp2 V => ?_)
  obtain ⟨rfl, -⟩ := hp2
  refine lv_aload_n hx hb d_33_2_6 rfl (lv_at hl 0 rfl) ?_
  refine lv_iload_n hx hb d_33_2_7 rfl (lv_at hl 1 rfl) ?_
  refine q_sbal (i := 15) (v := (([110, 117, 108, 108] : List Int32).getD x2.toNatClampNeg 0)) C0 V rfl (show vp_in x2 4 from q_ix (x := x2.toInt) rfl (by first | with_reducible exact q_fe pre0 | (have t1 : 0 ≤ x2.toInt := pre0; omega)) (by have t1 : 0 ≤ x2.toInt := pre0; have t2 : x2.toInt ≤ 3 := pre1; omega)) rfl d_33_2_8 ?_
  obtain ⟨a4, e5⟩ := q_nm ((([110, 117, 108, 108] : List Int32).getD x2.toNatClampNeg 0) : Int32)
  refine q_ti (v := a4) e5 ?_
  refine lv_sipush (v := 255) hx hb d_33_2_9 (by decide) ?_
  refine lv_iand hx hb d_33_2_12 ?_
  obtain ⟨a6, e7⟩ := q_nm (a4 &&& 255 : Int32)
  refine q_ti (v := a6) e7 ?_
  have b8 : q_F (0 ≤ a6.toInt ∧ a6.toInt ≤ 255) := (by rw [← e7]; show 0 ≤ (a4 &&& 255 : Int32).toInt ∧ (a4 &&& 255 : Int32).toInt ≤ 255; exact s_and (by decide))
  refine lv_i2c hx hb d_33_2_13 rfl ?_
  obtain ⟨a9, e10⟩ := q_nm ((a6.toUInt32 % 65536).toInt32 : Int32)
  refine q_ti (v := a9) e10 ?_
  have b11 : q_F (a9.toInt = a6.toInt) := (by rw [← e10]; show ((a6.toUInt32 % 65536).toInt32 : Int32).toInt = a6.toInt; exact (n_i2c (x := a6)).2.2 (by first | with_reducible exact (q_fe b8).2 | with_reducible exact (q_fe b8).1 | (have t1 : 0 ≤ a6.toInt ∧ a6.toInt ≤ 255 := b8; omega)) (by first | with_reducible exact (q_fe b8).2 | with_reducible exact (q_fe b8).1 | (have t1 : 0 ≤ a6.toInt ∧ a6.toInt ≤ 255 := b8; omega)))
  exact q_retn C0 V (n_chr (by have t1 : 0 ≤ a6.toInt ∧ a6.toInt ≤ 255 := b8; have t2 : a9.toInt = a6.toInt := b11; omega) (by have t1 : 0 ≤ a6.toInt ∧ a6.toInt ≤ 255 := b8; have t2 : a9.toInt = a6.toInt := b11; omega)) (⟨rfl, (show 0 ≤ a9.toInt from (by have t1 : 0 ≤ a6.toInt ∧ a6.toInt ≤ 255 := b8; have t2 : a9.toInt = a6.toInt := b11; omega)), (show a9.toInt ≤ 255 from (by have t1 : 0 ≤ a6.toInt ∧ a6.toInt ≤ 255 := b8; have t2 : a9.toInt = a6.toInt := b11; omega)), (show a9 = (F_jLat_charAt_15 x2) from (by rw [← e10, ← e7, ← e5, F_jLat_charAt_15.eq_1]))⟩) d_33_2_14
def F_jStr_charAt_15 (x2 : Int32) : Int32 := ((F_jLat_charAt_15 x2) : Int32)
set_option maxRecDepth 100000 in
set_option maxHeartbeats 4000000 in
theorem X_jStr_charAt_15 (l : Launch) (D : va_G) (g : Nat → ClassId) (q : Nat → Nat) (ws : va_W) (x2 : Int32) (hI : q_I (nsh g q) q ws) (pre0 : 0 ≤ x2.toInt) (pre1 : x2.toInt ≤ 3) : q_mI l y_jStr_charAt prog_31_method_56_code 2 (.char) 4 0 0 D g [.ref (g (8 + 2 * 15)), .int x2] ws (fun r u => ws = u ∧ (0 ≤ r.toInt) ∧ (r.toInt ≤ 255) ∧ r = (F_jStr_charAt_15 x2)) := by
  intro sz
  refine q_into (by decide) (Nat.le_of_ble_eq_true rfl) ?_
  intro p e s m below meth c ls hsz C0 V hl
  have hx := C0.1
  have hb := C0.2.1
  replace pre0 : q_F (0 ≤ x2.toInt) := pre0
  replace pre1 : q_F (x2.toInt ≤ 3) := pre1
  have hl : lv_has ls 2 [(0, .ref (g (8 + 2 * 15))), (1, .int x2)] := hl
  refine lv_aload_n hx hb d_31_56_0 rfl (lv_at hl 0 rfl) ?_
  refine q_goi V (q_runVs (As := []) (rest := []) (d := 1) (mc := 0) (ms := 0) (i := 15) C0 V rfl LV_jStr_492 (T_jStr_isLatin1_15 l D g q ws   hI   _) rfl rfl rfl hl.1 rfl (Nat.le_of_ble_eq_true rfl) ⟨by decide, by decide⟩ ⟨Nat.le_of_ble_eq_true rfl, Nat.le_of_ble_eq_true rfl⟩ d_31_56_1) (fun a3 u1 H locs hp2 V => ?_)
  obtain ⟨rfl, b4, b5⟩ := hp2
  replace b4 : q_F (1 ≤ a3.toInt) := b4
  replace b5 : q_F (a3.toInt ≤ 1) := b5
  obtain rfl : a3 = (1 : Int32) := q_Ieq (x := a3.toInt) (y := 1) rfl (by decide) (by have t1 : 1 ≤ a3.toInt := b4; have t2 : a3.toInt ≤ 1 := b5; omega)
  refine lv_if_eq (tgt := 16) hx hb d_31_56_4 (by decide) (fun c7 => absurd c7 (by decide)) (fun c7 => ?_)
  refine lv_aload_n hx hb d_31_56_7 rfl (lv_at hl 0 rfl) ?_
  refine q_sval (i := 15) C0 V rfl rfl w_1018 d_31_56_8 ?_
  refine lv_iload_n hx hb d_31_56_11 rfl (lv_at hl 1 rfl) ?_
  refine q_goi V (q_runS (As := [.ref (g (9 + 2 * 15)), .int x2]) (rest := []) (d := 3) (mc := 0) (ms := 0) C0 V rfl LS_jStr_495 (X_jLat_charAt_15 l D g q ws  x2 hI  (by first | with_reducible exact q_fe pre0 | (have t1 : 0 ≤ x2.toInt := pre0; omega)) (by first | with_reducible exact q_fe pre1 | (have t1 : x2.toInt ≤ 3 := pre1; omega)) _) rfl hl.1 rfl (Nat.le_of_ble_eq_true rfl) ⟨by decide, by decide⟩ ⟨Nat.le_of_ble_eq_true rfl, Nat.le_of_ble_eq_true rfl⟩ d_31_56_12) (fun a10 u8 H locs hp9 V => ?_)
  obtain ⟨rfl, b11, b12, hE13⟩ := hp9
  have e14 : a10 = (F_jLat_charAt_15 x2) := hE13
  replace b11 : q_F (0 ≤ a10.toInt) := b11
  replace b12 : q_F (a10.toInt ≤ 255) := b12
  exact q_retn C0 V (n_chr (by first | with_reducible exact q_fe b11 | (have t1 : 0 ≤ a10.toInt := b11; omega)) (by first | with_reducible exact q_fe b12 | (have t1 : a10.toInt ≤ 255 := b12; omega))) (⟨rfl, (show 0 ≤ a10.toInt from (by first | with_reducible exact q_fe b11 | (have t1 : 0 ≤ a10.toInt := b11; omega))), (show a10.toInt ≤ 255 from (by first | with_reducible exact q_fe b12 | (have t1 : a10.toInt ≤ 255 := b12; omega))), (show a10 = (F_jStr_charAt_15 x2) from (by rw [e14, F_jStr_charAt_15.eq_1]))⟩) d_31_56_15
def F_She_addText_15_c16 (K_F_She_addText_15_L2 : Int32 → Int32 → (Nat → Int64) → (Int32 × (Nat → Int64))) (R : Int32) (N : Int32) (K : Int32) (t0_0 : Int32) (t1_0 : (Nat → Int64)) (lx7 : Int32) (lx8 : Int32) (lx9 : (Nat → Int64)) (p50 : (Int32 × (Nat → Int64))) : Int32 × (Nat → Int64) := K_F_She_addText_15_L2 (lx7 + 1 : Int32) (p50.1 : Int32) (p50.2 : (Nat → Int64))
def F_She_addText_15_L2 (R : Int32) (N : Int32) (K : Int32) (t0_0 : Int32) (t1_0 : (Nat → Int64)) : Nat → Int32 → Int32 → (Nat → Int64) → (Int32 × (Nat → Int64))
  | 0, _, _, _ => default
  | fm + 1, lx7, lx8, lx9 => if (4 : Int32) ≤ lx7 then ((lx8, lx9)) else (F_She_addText_15_c16 (F_She_addText_15_L2 R N K t0_0 t1_0 fm) R N K t0_0 t1_0 lx7 lx8 lx9 ((F_She_add_p R N K ((F_jStr_charAt_15 lx7) : Int32) lx8 lx9) : (Int32 × (Nat → Int64))))
def F_She_addText_15 (R : Int32) (N : Int32) (K : Int32) (t0_0 : Int32) (t1_0 : (Nat → Int64)) : Int32 × (Nat → Int64) := F_She_addText_15_L2 R N K t0_0 t1_0 ((4 - (0 : Int32).toInt).toNat + 1) 0 t0_0 t1_0
set_option maxRecDepth 100000 in
set_option maxHeartbeats 4000000 in
theorem X_She_addText_15 (l : Launch) (D : va_G) (g : Nat → ClassId) (q : Nat → Nat) (ws : va_W) (k1 : Nat) (R N K : Int32) (hB1 : q_isShe (nsh g q) g q k1 R N K) (hI : q_I (nsh g q) q ws) (t0_0 : Int32) (hT0 : ws[k1]? = (some (q k1, .inr (1, [.ref (q (k1 + 1)), .int R, .int t0_0])) : Option (Nat × va_E))) (t1_0 : (Nat → Int64)) (hT1 : ws[k1 + 1]? = (some (q (k1 + 1), .inl (g 1, N.toNatClampNeg, .inr (.inl t1_0))) : Option (Nat × va_E))) (pre0 : t0_0.toInt + 20 ≤ K.toInt) : q_mV l y_She_addText prog_11_method_4_code 3 5 0 0 D g [.ref (q k1), .ref (g (8 + 2 * 15))] ws (fun u => q_I (nsh g q) q u ∧ q_un ws u [k1, k1 + 1] ∧ ∃ (u0_0 : Int32) (u1_0 : (Nat → Int64)), u[k1]? = (some (q k1, .inr (1, [.ref (q (k1 + 1)), .int R, .int u0_0])) : Option (Nat × va_E)) ∧ u[k1 + 1]? = (some (q (k1 + 1), .inl (g 1, N.toNatClampNeg, .inr (.inl u1_0))) : Option (Nat × va_E)) ∧ (t0_0.toInt + 4 ≤ u0_0.toInt) ∧ (u0_0.toInt ≤ t0_0.toInt + 4) ∧ (u0_0, u1_0) = (F_She_addText_15 R N K t0_0 t1_0)) := by
  intro sz
  refine q_into (by decide) (Nat.le_of_ble_eq_true rfl) ?_
  intro p e s m below meth c ls hsz C0 V hl
  have hx := C0.1
  have hb := C0.2.1
  have btt0_0 := n_shW hI hB1 hT0
  clear btt0_0
  replace pre0 : q_F (t0_0.toInt + 20 ≤ K.toInt) := pre0
  have hF : q_un ws ws [k1, k1 + 1] := q_u0
  have hl : lv_has ls 3 [(0, .ref (q k1)), (1, .ref (g (8 + 2 * 15)))] := hl
  refine lv_iconst (v := 0) hx hb d_11_4_0 (by decide) ?_
  refine lv_istore_n (lv' := [(2, .int 0), (0, .ref (q k1)), (1, .ref (g (8 + 2 * 15)))]) hx hb d_11_4_1 rfl hl (by decide) rfl (fun ls hl => ?_)
  refine q_loop (X := Int32 × Int32 × (Nat → Int64)) (fun z H locs ls w15 => q_F (z.1.toInt ≤ 4) ∧ q_F (t0_0.toInt ≤ z.1.toInt + z.2.1.toInt) ∧ q_F (z.2.1.toInt ≤ z.1.toInt + t0_0.toInt) ∧ q_F (z.1.toInt + t0_0.toInt ≤ z.2.1.toInt) ∧ q_Wd D g (va_A ws sz) s w15 H locs ∧ lv_has ls 3 [(2, .int z.1), (0, .ref (q k1)), (1, .ref (g (8 + 2 * 15)))] ∧ q_I (nsh g q) q w15 ∧ q_un ws w15 [k1, k1 + 1] ∧ w15[k1]? = (some (q k1, .inr (1, [.ref (q (k1 + 1)), .int R, .int z.2.1])) : Option (Nat × va_E)) ∧ w15[k1 + 1]? = (some (q (k1 + 1), .inl (g 1, N.toNatClampNeg, .inr (.inl z.2.2))) : Option (Nat × va_E)) ∧ (∃ n, (4 - z.1.toInt).toNat < n ∧ F_She_addText_15_L2 R N K t0_0 t1_0 n z.1 z.2.1 z.2.2 = (F_She_addText_15 R N K t0_0 t1_0))) (fun z => (4 - z.1.toInt).toNat) ?_ ((0 : Int32), (t0_0 : Int32), (t1_0 : (Nat → Int64))) _ _ _ ws ⟨(show q_F (0 ≤ 4) from (show 0 ≤ 4 from by omega)), (show q_F (t0_0.toInt ≤ 0 + t0_0.toInt) from (show t0_0.toInt ≤ 0 + t0_0.toInt from by omega)), (show q_F (t0_0.toInt ≤ 0 + t0_0.toInt) from (show t0_0.toInt ≤ 0 + t0_0.toInt from by omega)), (show q_F (0 + t0_0.toInt ≤ t0_0.toInt) from (show 0 + t0_0.toInt ≤ t0_0.toInt from by omega)), V, q_lw hl (q_lw1 0 rfl (q_lw1 1 rfl (q_lw1 2 rfl q_lw0))), hI, hF, hT0, hT1, ⟨((4 - (0 : Int32).toInt).toNat + 1), Nat.lt_succ_self _, (show F_She_addText_15_L2 R N K t0_0 t1_0 ((4 - (0 : Int32).toInt).toNat + 1) 0 t0_0 t1_0 = (F_She_addText_15 R N K t0_0 t1_0) from (by rw [F_She_addText_15.eq_1]))⟩⟩
  rintro ⟨lx7, lx8, lx9⟩ H locs ls w15 ⟨i10, i11, i12, i13, V, hl, hI, hF, hO16, hO17, ⟨fu20, hf21, hR18⟩⟩ ih14
  obtain ⟨fm22, rfl⟩ : ∃ m, fu20 = m + 1 := ⟨fu20 - 1, by omega⟩
  replace i10 : q_F (lx7.toInt ≤ 4) := i10
  replace i11 : q_F (t0_0.toInt ≤ lx7.toInt + lx8.toInt) := i11
  replace i12 : q_F (lx8.toInt ≤ lx7.toInt + t0_0.toInt) := i12
  replace i13 : q_F (lx7.toInt + t0_0.toInt ≤ lx8.toInt) := i13
  replace hl : lv_has ls 3 [(2, .int lx7), (0, .ref (q k1)), (1, .ref (g (8 + 2 * 15)))] := hl
  replace hO16 : w15[k1]? = (some (q k1, .inr (1, [.ref (q (k1 + 1)), .int R, .int lx8])) : Option (Nat × va_E)) := hO16
  replace hO17 : w15[k1 + 1]? = (some (q (k1 + 1), .inl (g 1, N.toNatClampNeg, .inr (.inl lx9))) : Option (Nat × va_E)) := hO17
  refine lv_iload_n hx hb d_11_4_2 rfl (lv_at hl 0 rfl) ?_
  refine lv_aload_n hx hb d_11_4_3 rfl (lv_at hl 2 rfl) ?_
  refine q_goi V (q_runVs (As := []) (rest := [.int lx7]) (d := 2) (mc := 0) (ms := 0) (i := 15) C0 V rfl LV_She_24 (X_jStr_length_15 l D g q w15   hI   _) rfl rfl rfl hl.1 rfl (Nat.le_of_ble_eq_true rfl) ⟨by decide, by decide⟩ ⟨Nat.le_of_ble_eq_true rfl, Nat.le_of_ble_eq_true rfl⟩ d_11_4_4) (fun a25 u23 H locs hp24 V => ?_)
  obtain ⟨rfl, b26, b27, hE28⟩ := hp24
  have e29 : a25 = (F_jStr_length_15) := hE28
  replace b26 : q_F (4 ≤ a25.toInt) := b26
  replace b27 : q_F (a25.toInt ≤ 4) := b27
  obtain rfl : a25 = (4 : Int32) := q_Ieq (x := a25.toInt) (y := 4) rfl (by decide) (by have t1 : 4 ≤ a25.toInt := b26; have t2 : a25.toInt ≤ 4 := b27; omega)
  refine lv_icmp_ge (tgt := 25) hx hb d_11_4_7 (by decide) (fun c30 => ?_) (fun c30 => ?_)
  ·
    have b31 : q_F (4 ≤ lx7.toInt) := (q_leI c30)
    exact q_retv C0 V (⟨hI, hF, lx8, lx9, hO16, hO17, (show t0_0.toInt + 4 ≤ lx8.toInt from (by have t1 : lx7.toInt + t0_0.toInt ≤ lx8.toInt := i13; have t2 : 4 ≤ lx7.toInt := b31; omega)), (show lx8.toInt ≤ t0_0.toInt + 4 from (by have t1 : lx7.toInt ≤ 4 := i10; have t2 : lx8.toInt ≤ lx7.toInt + t0_0.toInt := i12; omega)), (show (lx8, lx9) = (F_She_addText_15 R N K t0_0 t1_0) from Eq.trans (by rw [F_She_addText_15_L2.eq_2, if_pos c30]) hR18)⟩) d_11_4_25
  ·
    have b32 : q_F (lx7.toInt < 4) := (q_nleI c30)
    refine lv_aload_n hx hb d_11_4_10 rfl (lv_at hl 1 rfl) ?_
    refine lv_aload_n hx hb d_11_4_11 rfl (lv_at hl 2 rfl) ?_
    refine lv_iload_n hx hb d_11_4_12 rfl (lv_at hl 0 rfl) ?_
    refine q_goi V (q_runVs (As := [.int lx7]) (rest := [.ref (q k1)]) (d := 4) (mc := 0) (ms := 0) (i := 15) C0 V rfl LV_She_30 (X_jStr_charAt_15 l D g q w15  lx7 hI  (by have t1 : t0_0.toInt ≤ lx7.toInt + lx8.toInt := i11; have t2 : lx8.toInt ≤ lx7.toInt + t0_0.toInt := i12; omega) (by first | with_reducible exact q_fe b32 | (have t1 : lx7.toInt < 4 := b32; omega)) _) rfl rfl rfl hl.1 rfl (Nat.le_of_ble_eq_true rfl) ⟨by decide, by decide⟩ ⟨Nat.le_of_ble_eq_true rfl, Nat.le_of_ble_eq_true rfl⟩ d_11_4_13) (fun a35 u33 H locs hp34 V => ?_)
    obtain ⟨rfl, b36, b37, hE38⟩ := hp34
    have e39 : a35 = (F_jStr_charAt_15 lx7) := hE38
    clear b36
    clear b37
    refine q_gov V (q_runV (As := [.int a35]) (rest := []) (d := 1) (mc := 0) (ms := 0) (ci := 1) C0 V rfl LV_She_34 (X_She_add_p l D g q w15 k1 R N K hB1 a35 hI lx8 hO16 lx9 hO17 (by have t1 : t0_0.toInt + 20 ≤ K.toInt := pre0; have t2 : lx7.toInt ≤ 4 := i10; have t3 : lx8.toInt ≤ lx7.toInt + t0_0.toInt := i12; omega) _) rfl rfl hO16 rfl hl.1 rfl (Nat.le_of_ble_eq_true rfl) ⟨by decide, by decide⟩ ⟨Nat.le_of_ble_eq_true rfl, Nat.le_of_ble_eq_true rfl⟩ d_11_4_16) (fun u40 H locs hp41 V => ?_)
    obtain ⟨hI, hZ9⟩ := hp41
    obtain ⟨hu49, hZ9⟩ := hZ9
    obtain ⟨y43, hZ9⟩ := hZ9
    obtain ⟨f44, hZ9⟩ := hZ9
    obtain ⟨hO42, hZ9⟩ := hZ9
    obtain ⟨hA45, hZ9⟩ := hZ9
    obtain ⟨b46, hZ9⟩ := hZ9
    obtain ⟨b47, hE48⟩ := hZ9
    replace hO42 : u40[k1]? = (some (q k1, .inr (1, [.ref (q (k1 + 1)), .int R, .int y43])) : Option (Nat × va_E)) := hO42
    replace hA45 : u40[k1 + 1]? = (some (q (k1 + 1), .inl (g 1, N.toNatClampNeg, .inr (.inl f44))) : Option (Nat × va_E)) := hA45
    obtain ⟨p50, e51⟩ : ∃ z, z = (F_She_add_p R N K a35 lx8 lx9) := ⟨_, rfl⟩
    have e52 : y43 = p50.1 := congrArg (fun z => z.1) (hE48.trans e51.symm)
    have e53 : f44 = p50.2 := congrArg (fun z => z.2) (hE48.trans e51.symm)
    replace b46 : q_F (lx8.toInt + 1 ≤ y43.toInt) := b46
    replace b47 : q_F (y43.toInt ≤ lx8.toInt + 1) := b47
    replace hF := q_uc hF hu49 (by first | exact (q_sk (q_mi 0 rfl) (q_sk (q_mi 1 rfl) q_s0)) | simp)
    have hR54 := (show F_She_addText_15_c16 (F_She_addText_15_L2 R N K t0_0 t1_0 fm22) R N K t0_0 t1_0 lx7 lx8 lx9 p50 = (F_She_addText_15 R N K t0_0 t1_0) from Eq.trans (by rw [e51, e39, F_She_addText_15_L2.eq_2, if_neg c30]) hR18)
    obtain ⟨a59, e60⟩ := q_nm (lx7 + 1 : Int32)
    have b61 : q_F (a59.toInt = lx7.toInt + 1) := (by rw [← e60]; exact q_addI (y := 1) rfl (by decide) (by have t1 : t0_0.toInt ≤ lx7.toInt + lx8.toInt := i11; have t2 : lx8.toInt ≤ lx7.toInt + t0_0.toInt := i12; have t3 : lx7.toInt ≤ 4 := i10; omega) (by have t1 : t0_0.toInt ≤ lx7.toInt + lx8.toInt := i11; have t2 : lx8.toInt ≤ lx7.toInt + t0_0.toInt := i12; have t3 : lx7.toInt ≤ 4 := i10; omega))
    refine lv_iinc (v := a59) (lv' := [(2, .int a59), (0, .ref (q k1)), (1, .ref (g (8 + 2 * 15)))]) hx hb d_11_4_19 hl (k := 0) rfl (e60) (by decide) rfl (fun ls hl => ?_)
    refine lv_goto (tgt := 2) hx hb d_11_4_22 (by decide) ?_
    exact ih14 ((a59 : Int32), (y43 : Int32), (f44 : (Nat → Int64))) _ _ _ _ (show (4 - a59.toInt).toNat < (4 - lx7.toInt).toNat from by have t1 : a59.toInt = lx7.toInt + 1 := b61; have t2 : lx7.toInt ≤ 4 := i10; have t3 : lx7.toInt < 4 := b32; omega) ⟨(show q_F (a59.toInt ≤ 4) from (show a59.toInt ≤ 4 from by have t1 : lx7.toInt < 4 := b32; have t2 : a59.toInt = lx7.toInt + 1 := b61; omega)), (show q_F (t0_0.toInt ≤ a59.toInt + y43.toInt) from (show t0_0.toInt ≤ a59.toInt + y43.toInt from by have t1 : t0_0.toInt ≤ lx7.toInt + lx8.toInt := i11; have t2 : lx8.toInt + 1 ≤ y43.toInt := b46; have t3 : a59.toInt = lx7.toInt + 1 := b61; omega)), (show q_F (y43.toInt ≤ a59.toInt + t0_0.toInt) from (show y43.toInt ≤ a59.toInt + t0_0.toInt from by have t1 : lx8.toInt ≤ lx7.toInt + t0_0.toInt := i12; have t2 : y43.toInt ≤ lx8.toInt + 1 := b47; have t3 : a59.toInt = lx7.toInt + 1 := b61; omega)), (show q_F (a59.toInt + t0_0.toInt ≤ y43.toInt) from (show a59.toInt + t0_0.toInt ≤ y43.toInt from by have t1 : lx7.toInt + t0_0.toInt ≤ lx8.toInt := i13; have t2 : lx8.toInt + 1 ≤ y43.toInt := b46; have t3 : a59.toInt = lx7.toInt + 1 := b61; omega)), V, q_lw hl (q_lw1 0 rfl (q_lw1 1 rfl (q_lw1 2 rfl q_lw0))), hI, hF, hO42, hA45, ⟨fm22, Nat.lt_of_lt_of_le (show (4 - a59.toInt).toNat < (4 - lx7.toInt).toNat from by have t1 : a59.toInt = lx7.toInt + 1 := b61; have t2 : lx7.toInt ≤ 4 := i10; have t3 : lx7.toInt < 4 := b32; omega) (Nat.le_of_lt_succ hf21), (show F_She_addText_15_L2 R N K t0_0 t1_0 fm22 a59 y43 f44 = (F_She_addText_15 R N K t0_0 t1_0) from Eq.trans (by rw [← e60, e53, e52, F_She_addText_15_c16.eq_1]) hR54)⟩⟩
def F_jStr_length_17 : Int32 := (1 : Int32)
set_option maxRecDepth 100000 in
set_option maxHeartbeats 4000000 in
theorem X_jStr_length_17 (l : Launch) (D : va_G) (g : Nat → ClassId) (q : Nat → Nat) (ws : va_W) (hI : q_I (nsh g q) q ws) : q_mI l y_jStr_length prog_31_method_54_code 1 (.int) 2 0 0 D g [.ref (g (8 + 2 * 17))] ws (fun r u => ws = u ∧ (1 ≤ r.toInt) ∧ (r.toInt ≤ 1) ∧ r = (F_jStr_length_17)) := by
  intro sz
  refine q_into (by decide) (Nat.le_of_ble_eq_true rfl) ?_
  intro p e s m below meth c ls hsz C0 V hl
  have hx := C0.1
  have hb := C0.2.1
  have hl : lv_has ls 1 [(0, .ref (g (8 + 2 * 17)))] := hl
  refine lv_aload_n hx hb d_31_54_0 rfl (lv_at hl 0 rfl) ?_
  refine q_sval (i := 17) C0 V rfl rfl w_1018 d_31_54_1 ?_
  refine q_slen (i := 17) (v := 1) C0 V rfl (by decide) d_31_54_4 ?_
  refine lv_aload_n hx hb d_31_54_5 rfl (lv_at hl 0 rfl) ?_
  refine q_goi V (q_runVs (As := []) (rest := [.int 1]) (d := 1) (mc := 0) (ms := 0) (i := 17) C0 V rfl LV_jStr_335 (T_jStr_coder_17 l D g q ws   hI   _) rfl rfl rfl hl.1 rfl (Nat.le_of_ble_eq_true rfl) ⟨by decide, by decide⟩ ⟨Nat.le_of_ble_eq_true rfl, Nat.le_of_ble_eq_true rfl⟩ d_31_54_6) (fun a3 u1 H locs hp2 V => ?_)
  obtain ⟨rfl, b4, b5⟩ := hp2
  replace b4 : q_F (0 ≤ a3.toInt) := b4
  replace b5 : q_F (a3.toInt ≤ 0) := b5
  obtain rfl : a3 = (0 : Int32) := q_Ieq (x := a3.toInt) (y := 0) rfl (by decide) (by have t1 : 0 ≤ a3.toInt := b4; have t2 : a3.toInt ≤ 0 := b5; omega)
  refine lv_ishr hx hb d_31_54_9 ?_
  refine q_ti (v := 1) (by decide) ?_
  exact q_reti C0 V (⟨rfl, (show 1 ≤ (1 : Int32).toInt from (by have z0 : (1 : Int32).toInt = 1 := rfl; omega)), (show (1 : Int32).toInt ≤ 1 from (by have z0 : (1 : Int32).toInt = 1 := rfl; omega)), (show (1 : Int32) = (F_jStr_length_17) from (by rw [F_jStr_length_17.eq_1]))⟩) d_31_54_10
def F_jLat_charAt_17 (x2 : Int32) : Int32 := (((((([48] : List Int32).getD x2.toNatClampNeg 0) : Int32) &&& 255 : Int32).toUInt32 % 65536).toInt32 : Int32)
set_option maxRecDepth 100000 in
set_option maxHeartbeats 4000000 in
theorem X_jLat_charAt_17 (l : Launch) (D : va_G) (g : Nat → ClassId) (q : Nat → Nat) (ws : va_W) (x2 : Int32) (hI : q_I (nsh g q) q ws) (pre0 : 0 ≤ x2.toInt) (pre1 : x2.toInt ≤ 0) : q_mI l y_jLat_charAt prog_33_method_2_code 2 (.char) 3 0 0 D g [.ref (g (9 + 2 * 17)), .int x2] ws (fun r u => ws = u ∧ (x2.toInt ≤ r.toInt) ∧ (r.toInt ≤ x2.toInt + 255) ∧ r = (F_jLat_charAt_17 x2)) := by
  intro sz
  refine q_into (by decide) (Nat.le_of_ble_eq_true rfl) ?_
  intro p e s m below meth c ls hsz C0 V hl
  have hx := C0.1
  have hb := C0.2.1
  replace pre0 : q_F (0 ≤ x2.toInt) := pre0
  replace pre1 : q_F (x2.toInt ≤ 0) := pre1
  have hl : lv_has ls 2 [(0, .ref (g (9 + 2 * 17))), (1, .int x2)] := hl
  refine lv_iload_n hx hb d_33_2_0 rfl (lv_at hl 1 rfl) ?_
  refine lv_aload_n hx hb d_33_2_1 rfl (lv_at hl 0 rfl) ?_
  refine q_slen (i := 17) (v := 1) C0 V rfl (by decide) d_33_2_2 ?_
  refine q_gov V (q_runS (As := [.int x2, .int 1]) (rest := []) (d := 2) (mc := 0) (ms := 0) C0 V rfl LS_jLat_9 (T_jStr_checkIndex l D g q ws  x2 1 hI  (by have y0 : (1 : Int32).toInt = 1 := rfl; have t1 : 0 ≤ x2.toInt := pre0; omega) (by have y0 : (1 : Int32).toInt = 1 := rfl; have t1 : x2.toInt ≤ 0 := pre1; omega) _) rfl hl.1 rfl (Nat.le_of_ble_eq_true rfl) ⟨by decide, by decide⟩ ⟨Nat.le_of_ble_eq_true rfl, Nat.le_of_ble_eq_true rfl⟩ d_33_2_3) (fun u1 H locs hp2 V => ?_)
  obtain ⟨rfl, -⟩ := hp2
  refine lv_aload_n hx hb d_33_2_6 rfl (lv_at hl 0 rfl) ?_
  refine lv_iload_n hx hb d_33_2_7 rfl (lv_at hl 1 rfl) ?_
  refine q_sbal (i := 17) (v := (([48] : List Int32).getD x2.toNatClampNeg 0)) C0 V rfl (show vp_in x2 1 from q_ix (x := x2.toInt) rfl (by first | with_reducible exact q_fe pre0 | (have t1 : 0 ≤ x2.toInt := pre0; omega)) (by have t1 : 0 ≤ x2.toInt := pre0; have t2 : x2.toInt ≤ 0 := pre1; omega)) rfl d_33_2_8 ?_
  obtain ⟨a4, e5⟩ := q_nm ((([48] : List Int32).getD x2.toNatClampNeg 0) : Int32)
  refine q_ti (v := a4) e5 ?_
  refine lv_sipush (v := 255) hx hb d_33_2_9 (by decide) ?_
  refine lv_iand hx hb d_33_2_12 ?_
  obtain ⟨a6, e7⟩ := q_nm (a4 &&& 255 : Int32)
  refine q_ti (v := a6) e7 ?_
  have b8 : q_F (0 ≤ a6.toInt ∧ a6.toInt ≤ 255) := (by rw [← e7]; show 0 ≤ (a4 &&& 255 : Int32).toInt ∧ (a4 &&& 255 : Int32).toInt ≤ 255; exact s_and (by decide))
  refine lv_i2c hx hb d_33_2_13 rfl ?_
  obtain ⟨a9, e10⟩ := q_nm ((a6.toUInt32 % 65536).toInt32 : Int32)
  refine q_ti (v := a9) e10 ?_
  have b11 : q_F (a9.toInt = a6.toInt) := (by rw [← e10]; show ((a6.toUInt32 % 65536).toInt32 : Int32).toInt = a6.toInt; exact (n_i2c (x := a6)).2.2 (by first | with_reducible exact (q_fe b8).2 | with_reducible exact (q_fe b8).1 | (have t1 : 0 ≤ a6.toInt ∧ a6.toInt ≤ 255 := b8; omega)) (by first | with_reducible exact (q_fe b8).2 | with_reducible exact (q_fe b8).1 | (have t1 : 0 ≤ a6.toInt ∧ a6.toInt ≤ 255 := b8; omega)))
  exact q_retn C0 V (n_chr (by have t1 : 0 ≤ a6.toInt ∧ a6.toInt ≤ 255 := b8; have t2 : a9.toInt = a6.toInt := b11; omega) (by have t1 : 0 ≤ a6.toInt ∧ a6.toInt ≤ 255 := b8; have t2 : a9.toInt = a6.toInt := b11; omega)) (⟨rfl, (show x2.toInt ≤ a9.toInt from (by have t1 : x2.toInt ≤ 0 := pre1; have t2 : 0 ≤ a6.toInt ∧ a6.toInt ≤ 255 := b8; have t3 : a9.toInt = a6.toInt := b11; omega)), (show a9.toInt ≤ x2.toInt + 255 from (by have t1 : 0 ≤ x2.toInt := pre0; have t2 : 0 ≤ a6.toInt ∧ a6.toInt ≤ 255 := b8; have t3 : a9.toInt = a6.toInt := b11; omega)), (show a9 = (F_jLat_charAt_17 x2) from (by rw [← e10, ← e7, ← e5, F_jLat_charAt_17.eq_1]))⟩) d_33_2_14
def F_jStr_charAt_17 (x2 : Int32) : Int32 := ((F_jLat_charAt_17 x2) : Int32)
set_option maxRecDepth 100000 in
set_option maxHeartbeats 4000000 in
theorem X_jStr_charAt_17 (l : Launch) (D : va_G) (g : Nat → ClassId) (q : Nat → Nat) (ws : va_W) (x2 : Int32) (hI : q_I (nsh g q) q ws) (pre0 : 0 ≤ x2.toInt) (pre1 : x2.toInt ≤ 0) : q_mI l y_jStr_charAt prog_31_method_56_code 2 (.char) 4 0 0 D g [.ref (g (8 + 2 * 17)), .int x2] ws (fun r u => ws = u ∧ (x2.toInt ≤ r.toInt) ∧ (r.toInt ≤ x2.toInt + 255) ∧ r = (F_jStr_charAt_17 x2)) := by
  intro sz
  refine q_into (by decide) (Nat.le_of_ble_eq_true rfl) ?_
  intro p e s m below meth c ls hsz C0 V hl
  have hx := C0.1
  have hb := C0.2.1
  replace pre0 : q_F (0 ≤ x2.toInt) := pre0
  replace pre1 : q_F (x2.toInt ≤ 0) := pre1
  have hl : lv_has ls 2 [(0, .ref (g (8 + 2 * 17))), (1, .int x2)] := hl
  refine lv_aload_n hx hb d_31_56_0 rfl (lv_at hl 0 rfl) ?_
  refine q_goi V (q_runVs (As := []) (rest := []) (d := 1) (mc := 0) (ms := 0) (i := 17) C0 V rfl LV_jStr_492 (T_jStr_isLatin1_17 l D g q ws   hI   _) rfl rfl rfl hl.1 rfl (Nat.le_of_ble_eq_true rfl) ⟨by decide, by decide⟩ ⟨Nat.le_of_ble_eq_true rfl, Nat.le_of_ble_eq_true rfl⟩ d_31_56_1) (fun a3 u1 H locs hp2 V => ?_)
  obtain ⟨rfl, b4, b5⟩ := hp2
  replace b4 : q_F (1 ≤ a3.toInt) := b4
  replace b5 : q_F (a3.toInt ≤ 1) := b5
  obtain rfl : a3 = (1 : Int32) := q_Ieq (x := a3.toInt) (y := 1) rfl (by decide) (by have t1 : 1 ≤ a3.toInt := b4; have t2 : a3.toInt ≤ 1 := b5; omega)
  refine lv_if_eq (tgt := 16) hx hb d_31_56_4 (by decide) (fun c7 => absurd c7 (by decide)) (fun c7 => ?_)
  refine lv_aload_n hx hb d_31_56_7 rfl (lv_at hl 0 rfl) ?_
  refine q_sval (i := 17) C0 V rfl rfl w_1018 d_31_56_8 ?_
  refine lv_iload_n hx hb d_31_56_11 rfl (lv_at hl 1 rfl) ?_
  refine q_goi V (q_runS (As := [.ref (g (9 + 2 * 17)), .int x2]) (rest := []) (d := 3) (mc := 0) (ms := 0) C0 V rfl LS_jStr_495 (X_jLat_charAt_17 l D g q ws  x2 hI  (by first | with_reducible exact q_fe pre0 | (have t1 : 0 ≤ x2.toInt := pre0; omega)) (by first | with_reducible exact q_fe pre1 | (have t1 : x2.toInt ≤ 0 := pre1; omega)) _) rfl hl.1 rfl (Nat.le_of_ble_eq_true rfl) ⟨by decide, by decide⟩ ⟨Nat.le_of_ble_eq_true rfl, Nat.le_of_ble_eq_true rfl⟩ d_31_56_12) (fun a10 u8 H locs hp9 V => ?_)
  obtain ⟨rfl, b11, b12, hE13⟩ := hp9
  have e14 : a10 = (F_jLat_charAt_17 x2) := hE13
  replace b11 : q_F (x2.toInt ≤ a10.toInt) := b11
  replace b12 : q_F (a10.toInt ≤ x2.toInt + 255) := b12
  exact q_retn C0 V (n_chr (by have t1 : 0 ≤ x2.toInt := pre0; have t2 : x2.toInt ≤ a10.toInt := b11; omega) (by have t1 : x2.toInt ≤ 0 := pre1; have t2 : a10.toInt ≤ x2.toInt + 255 := b12; omega)) (⟨rfl, (show x2.toInt ≤ a10.toInt from (by first | with_reducible exact q_fe b11 | (have t1 : x2.toInt ≤ a10.toInt := b11; omega))), (show a10.toInt ≤ x2.toInt + 255 from (by first | with_reducible exact q_fe b12 | (have t1 : a10.toInt ≤ x2.toInt + 255 := b12; omega))), (show a10 = (F_jStr_charAt_17 x2) from (by rw [e14, F_jStr_charAt_17.eq_1]))⟩) d_31_56_15
def F_She_addText_17_c16 (K_F_She_addText_17_L2 : Int32 → Int32 → (Nat → Int64) → (Int32 × (Nat → Int64))) (R : Int32) (N : Int32) (K : Int32) (t0_0 : Int32) (t1_0 : (Nat → Int64)) (lx7 : Int32) (lx8 : Int32) (lx9 : (Nat → Int64)) (p50 : (Int32 × (Nat → Int64))) : Int32 × (Nat → Int64) := K_F_She_addText_17_L2 (lx7 + 1 : Int32) (p50.1 : Int32) (p50.2 : (Nat → Int64))
def F_She_addText_17_L2 (R : Int32) (N : Int32) (K : Int32) (t0_0 : Int32) (t1_0 : (Nat → Int64)) : Nat → Int32 → Int32 → (Nat → Int64) → (Int32 × (Nat → Int64))
  | 0, _, _, _ => default
  | fm + 1, lx7, lx8, lx9 => if (1 : Int32) ≤ lx7 then ((lx8, lx9)) else (F_She_addText_17_c16 (F_She_addText_17_L2 R N K t0_0 t1_0 fm) R N K t0_0 t1_0 lx7 lx8 lx9 ((F_She_add_p R N K ((F_jStr_charAt_17 lx7) : Int32) lx8 lx9) : (Int32 × (Nat → Int64))))
def F_She_addText_17 (R : Int32) (N : Int32) (K : Int32) (t0_0 : Int32) (t1_0 : (Nat → Int64)) : Int32 × (Nat → Int64) := F_She_addText_17_L2 R N K t0_0 t1_0 ((1 - (0 : Int32).toInt).toNat + 1) 0 t0_0 t1_0
set_option maxRecDepth 100000 in
set_option maxHeartbeats 4000000 in
theorem X_She_addText_17 (l : Launch) (D : va_G) (g : Nat → ClassId) (q : Nat → Nat) (ws : va_W) (k1 : Nat) (R N K : Int32) (hB1 : q_isShe (nsh g q) g q k1 R N K) (hI : q_I (nsh g q) q ws) (t0_0 : Int32) (hT0 : ws[k1]? = (some (q k1, .inr (1, [.ref (q (k1 + 1)), .int R, .int t0_0])) : Option (Nat × va_E))) (t1_0 : (Nat → Int64)) (hT1 : ws[k1 + 1]? = (some (q (k1 + 1), .inl (g 1, N.toNatClampNeg, .inr (.inl t1_0))) : Option (Nat × va_E))) (pre0 : t0_0.toInt + 20 ≤ K.toInt) : q_mV l y_She_addText prog_11_method_4_code 3 5 0 0 D g [.ref (q k1), .ref (g (8 + 2 * 17))] ws (fun u => q_I (nsh g q) q u ∧ q_un ws u [k1, k1 + 1] ∧ ∃ (u0_0 : Int32) (u1_0 : (Nat → Int64)), u[k1]? = (some (q k1, .inr (1, [.ref (q (k1 + 1)), .int R, .int u0_0])) : Option (Nat × va_E)) ∧ u[k1 + 1]? = (some (q (k1 + 1), .inl (g 1, N.toNatClampNeg, .inr (.inl u1_0))) : Option (Nat × va_E)) ∧ (t0_0.toInt + 1 ≤ u0_0.toInt) ∧ (u0_0.toInt ≤ t0_0.toInt + 1) ∧ (u0_0, u1_0) = (F_She_addText_17 R N K t0_0 t1_0)) := by
  intro sz
  refine q_into (by decide) (Nat.le_of_ble_eq_true rfl) ?_
  intro p e s m below meth c ls hsz C0 V hl
  have hx := C0.1
  have hb := C0.2.1
  have btt0_0 := n_shW hI hB1 hT0
  clear btt0_0
  replace pre0 : q_F (t0_0.toInt + 20 ≤ K.toInt) := pre0
  have hF : q_un ws ws [k1, k1 + 1] := q_u0
  have hl : lv_has ls 3 [(0, .ref (q k1)), (1, .ref (g (8 + 2 * 17)))] := hl
  refine lv_iconst (v := 0) hx hb d_11_4_0 (by decide) ?_
  refine lv_istore_n (lv' := [(2, .int 0), (0, .ref (q k1)), (1, .ref (g (8 + 2 * 17)))]) hx hb d_11_4_1 rfl hl (by decide) rfl (fun ls hl => ?_)
  refine q_loop (X := Int32 × Int32 × (Nat → Int64)) (fun z H locs ls w15 => q_F (z.1.toInt ≤ 1) ∧ q_F (t0_0.toInt ≤ z.1.toInt + z.2.1.toInt) ∧ q_F (z.2.1.toInt ≤ z.1.toInt + t0_0.toInt) ∧ q_F (z.1.toInt + t0_0.toInt ≤ z.2.1.toInt) ∧ q_Wd D g (va_A ws sz) s w15 H locs ∧ lv_has ls 3 [(2, .int z.1), (0, .ref (q k1)), (1, .ref (g (8 + 2 * 17)))] ∧ q_I (nsh g q) q w15 ∧ q_un ws w15 [k1, k1 + 1] ∧ w15[k1]? = (some (q k1, .inr (1, [.ref (q (k1 + 1)), .int R, .int z.2.1])) : Option (Nat × va_E)) ∧ w15[k1 + 1]? = (some (q (k1 + 1), .inl (g 1, N.toNatClampNeg, .inr (.inl z.2.2))) : Option (Nat × va_E)) ∧ (∃ n, (1 - z.1.toInt).toNat < n ∧ F_She_addText_17_L2 R N K t0_0 t1_0 n z.1 z.2.1 z.2.2 = (F_She_addText_17 R N K t0_0 t1_0))) (fun z => (1 - z.1.toInt).toNat) ?_ ((0 : Int32), (t0_0 : Int32), (t1_0 : (Nat → Int64))) _ _ _ ws ⟨(show q_F (0 ≤ 1) from (show 0 ≤ 1 from by omega)), (show q_F (t0_0.toInt ≤ 0 + t0_0.toInt) from (show t0_0.toInt ≤ 0 + t0_0.toInt from by omega)), (show q_F (t0_0.toInt ≤ 0 + t0_0.toInt) from (show t0_0.toInt ≤ 0 + t0_0.toInt from by omega)), (show q_F (0 + t0_0.toInt ≤ t0_0.toInt) from (show 0 + t0_0.toInt ≤ t0_0.toInt from by omega)), V, q_lw hl (q_lw1 0 rfl (q_lw1 1 rfl (q_lw1 2 rfl q_lw0))), hI, hF, hT0, hT1, ⟨((1 - (0 : Int32).toInt).toNat + 1), Nat.lt_succ_self _, (show F_She_addText_17_L2 R N K t0_0 t1_0 ((1 - (0 : Int32).toInt).toNat + 1) 0 t0_0 t1_0 = (F_She_addText_17 R N K t0_0 t1_0) from (by rw [F_She_addText_17.eq_1]))⟩⟩
  rintro ⟨lx7, lx8, lx9⟩ H locs ls w15 ⟨i10, i11, i12, i13, V, hl, hI, hF, hO16, hO17, ⟨fu20, hf21, hR18⟩⟩ ih14
  obtain ⟨fm22, rfl⟩ : ∃ m, fu20 = m + 1 := ⟨fu20 - 1, by omega⟩
  replace i10 : q_F (lx7.toInt ≤ 1) := i10
  replace i11 : q_F (t0_0.toInt ≤ lx7.toInt + lx8.toInt) := i11
  replace i12 : q_F (lx8.toInt ≤ lx7.toInt + t0_0.toInt) := i12
  replace i13 : q_F (lx7.toInt + t0_0.toInt ≤ lx8.toInt) := i13
  replace hl : lv_has ls 3 [(2, .int lx7), (0, .ref (q k1)), (1, .ref (g (8 + 2 * 17)))] := hl
  replace hO16 : w15[k1]? = (some (q k1, .inr (1, [.ref (q (k1 + 1)), .int R, .int lx8])) : Option (Nat × va_E)) := hO16
  replace hO17 : w15[k1 + 1]? = (some (q (k1 + 1), .inl (g 1, N.toNatClampNeg, .inr (.inl lx9))) : Option (Nat × va_E)) := hO17
  refine lv_iload_n hx hb d_11_4_2 rfl (lv_at hl 0 rfl) ?_
  refine lv_aload_n hx hb d_11_4_3 rfl (lv_at hl 2 rfl) ?_
  refine q_goi V (q_runVs (As := []) (rest := [.int lx7]) (d := 2) (mc := 0) (ms := 0) (i := 17) C0 V rfl LV_She_24 (X_jStr_length_17 l D g q w15   hI   _) rfl rfl rfl hl.1 rfl (Nat.le_of_ble_eq_true rfl) ⟨by decide, by decide⟩ ⟨Nat.le_of_ble_eq_true rfl, Nat.le_of_ble_eq_true rfl⟩ d_11_4_4) (fun a25 u23 H locs hp24 V => ?_)
  obtain ⟨rfl, b26, b27, hE28⟩ := hp24
  have e29 : a25 = (F_jStr_length_17) := hE28
  replace b26 : q_F (1 ≤ a25.toInt) := b26
  replace b27 : q_F (a25.toInt ≤ 1) := b27
  obtain rfl : a25 = (1 : Int32) := q_Ieq (x := a25.toInt) (y := 1) rfl (by decide) (by have t1 : 1 ≤ a25.toInt := b26; have t2 : a25.toInt ≤ 1 := b27; omega)
  refine lv_icmp_ge (tgt := 25) hx hb d_11_4_7 (by decide) (fun c30 => ?_) (fun c30 => ?_)
  ·
    have b31 : q_F (1 ≤ lx7.toInt) := (q_leI c30)
    exact q_retv C0 V (⟨hI, hF, lx8, lx9, hO16, hO17, (show t0_0.toInt + 1 ≤ lx8.toInt from (by have t1 : lx7.toInt + t0_0.toInt ≤ lx8.toInt := i13; have t2 : 1 ≤ lx7.toInt := b31; omega)), (show lx8.toInt ≤ t0_0.toInt + 1 from (by have t1 : lx7.toInt ≤ 1 := i10; have t2 : lx8.toInt ≤ lx7.toInt + t0_0.toInt := i12; omega)), (show (lx8, lx9) = (F_She_addText_17 R N K t0_0 t1_0) from Eq.trans (by rw [F_She_addText_17_L2.eq_2, if_pos c30]) hR18)⟩) d_11_4_25
  ·
    have b32 : q_F (lx7.toInt < 1) := (q_nleI c30)
    refine lv_aload_n hx hb d_11_4_10 rfl (lv_at hl 1 rfl) ?_
    refine lv_aload_n hx hb d_11_4_11 rfl (lv_at hl 2 rfl) ?_
    refine lv_iload_n hx hb d_11_4_12 rfl (lv_at hl 0 rfl) ?_
    refine q_goi V (q_runVs (As := [.int lx7]) (rest := [.ref (q k1)]) (d := 4) (mc := 0) (ms := 0) (i := 17) C0 V rfl LV_She_30 (X_jStr_charAt_17 l D g q w15  lx7 hI  (by have t1 : t0_0.toInt ≤ lx7.toInt + lx8.toInt := i11; have t2 : lx8.toInt ≤ lx7.toInt + t0_0.toInt := i12; omega) (by first | with_reducible exact q_fe b32 | (have t1 : lx7.toInt < 1 := b32; omega)) _) rfl rfl rfl hl.1 rfl (Nat.le_of_ble_eq_true rfl) ⟨by decide, by decide⟩ ⟨Nat.le_of_ble_eq_true rfl, Nat.le_of_ble_eq_true rfl⟩ d_11_4_13) (fun a35 u33 H locs hp34 V => ?_)
    obtain ⟨rfl, b36, b37, hE38⟩ := hp34
    have e39 : a35 = (F_jStr_charAt_17 lx7) := hE38
    clear b36
    clear b37
    refine q_gov V (q_runV (As := [.int a35]) (rest := []) (d := 1) (mc := 0) (ms := 0) (ci := 1) C0 V rfl LV_She_34 (X_She_add_p l D g q w15 k1 R N K hB1 a35 hI lx8 hO16 lx9 hO17 (by have t1 : t0_0.toInt + 20 ≤ K.toInt := pre0; have t2 : lx7.toInt ≤ 1 := i10; have t3 : lx8.toInt ≤ lx7.toInt + t0_0.toInt := i12; omega) _) rfl rfl hO16 rfl hl.1 rfl (Nat.le_of_ble_eq_true rfl) ⟨by decide, by decide⟩ ⟨Nat.le_of_ble_eq_true rfl, Nat.le_of_ble_eq_true rfl⟩ d_11_4_16) (fun u40 H locs hp41 V => ?_)
    obtain ⟨hI, hZ9⟩ := hp41
    obtain ⟨hu49, hZ9⟩ := hZ9
    obtain ⟨y43, hZ9⟩ := hZ9
    obtain ⟨f44, hZ9⟩ := hZ9
    obtain ⟨hO42, hZ9⟩ := hZ9
    obtain ⟨hA45, hZ9⟩ := hZ9
    obtain ⟨b46, hZ9⟩ := hZ9
    obtain ⟨b47, hE48⟩ := hZ9
    replace hO42 : u40[k1]? = (some (q k1, .inr (1, [.ref (q (k1 + 1)), .int R, .int y43])) : Option (Nat × va_E)) := hO42
    replace hA45 : u40[k1 + 1]? = (some (q (k1 + 1), .inl (g 1, N.toNatClampNeg, .inr (.inl f44))) : Option (Nat × va_E)) := hA45
    obtain ⟨p50, e51⟩ : ∃ z, z = (F_She_add_p R N K a35 lx8 lx9) := ⟨_, rfl⟩
    have e52 : y43 = p50.1 := congrArg (fun z => z.1) (hE48.trans e51.symm)
    have e53 : f44 = p50.2 := congrArg (fun z => z.2) (hE48.trans e51.symm)
    replace b46 : q_F (lx8.toInt + 1 ≤ y43.toInt) := b46
    replace b47 : q_F (y43.toInt ≤ lx8.toInt + 1) := b47
    replace hF := q_uc hF hu49 (by first | exact (q_sk (q_mi 0 rfl) (q_sk (q_mi 1 rfl) q_s0)) | simp)
    have hR54 := (show F_She_addText_17_c16 (F_She_addText_17_L2 R N K t0_0 t1_0 fm22) R N K t0_0 t1_0 lx7 lx8 lx9 p50 = (F_She_addText_17 R N K t0_0 t1_0) from Eq.trans (by rw [e51, e39, F_She_addText_17_L2.eq_2, if_neg c30]) hR18)
    obtain ⟨a59, e60⟩ := q_nm (lx7 + 1 : Int32)
    have b61 : q_F (a59.toInt = lx7.toInt + 1) := (by rw [← e60]; exact q_addI (y := 1) rfl (by decide) (by have t1 : t0_0.toInt ≤ lx7.toInt + lx8.toInt := i11; have t2 : lx8.toInt ≤ lx7.toInt + t0_0.toInt := i12; have t3 : lx7.toInt ≤ 1 := i10; omega) (by have t1 : t0_0.toInt ≤ lx7.toInt + lx8.toInt := i11; have t2 : lx8.toInt ≤ lx7.toInt + t0_0.toInt := i12; have t3 : lx7.toInt ≤ 1 := i10; omega))
    refine lv_iinc (v := a59) (lv' := [(2, .int a59), (0, .ref (q k1)), (1, .ref (g (8 + 2 * 17)))]) hx hb d_11_4_19 hl (k := 0) rfl (e60) (by decide) rfl (fun ls hl => ?_)
    refine lv_goto (tgt := 2) hx hb d_11_4_22 (by decide) ?_
    exact ih14 ((a59 : Int32), (y43 : Int32), (f44 : (Nat → Int64))) _ _ _ _ (show (1 - a59.toInt).toNat < (1 - lx7.toInt).toNat from by have t1 : a59.toInt = lx7.toInt + 1 := b61; have t2 : lx7.toInt ≤ 1 := i10; have t3 : lx7.toInt < 1 := b32; omega) ⟨(show q_F (a59.toInt ≤ 1) from (show a59.toInt ≤ 1 from by have t1 : lx7.toInt < 1 := b32; have t2 : a59.toInt = lx7.toInt + 1 := b61; omega)), (show q_F (t0_0.toInt ≤ a59.toInt + y43.toInt) from (show t0_0.toInt ≤ a59.toInt + y43.toInt from by have t1 : t0_0.toInt ≤ lx7.toInt + lx8.toInt := i11; have t2 : lx8.toInt + 1 ≤ y43.toInt := b46; have t3 : a59.toInt = lx7.toInt + 1 := b61; omega)), (show q_F (y43.toInt ≤ a59.toInt + t0_0.toInt) from (show y43.toInt ≤ a59.toInt + t0_0.toInt from by have t1 : lx8.toInt ≤ lx7.toInt + t0_0.toInt := i12; have t2 : y43.toInt ≤ lx8.toInt + 1 := b47; have t3 : a59.toInt = lx7.toInt + 1 := b61; omega)), (show q_F (a59.toInt + t0_0.toInt ≤ y43.toInt) from (show a59.toInt + t0_0.toInt ≤ y43.toInt from by have t1 : lx7.toInt + t0_0.toInt ≤ lx8.toInt := i13; have t2 : lx8.toInt + 1 ≤ y43.toInt := b46; have t3 : a59.toInt = lx7.toInt + 1 := b61; omega)), V, q_lw hl (q_lw1 0 rfl (q_lw1 1 rfl (q_lw1 2 rfl q_lw0))), hI, hF, hO42, hA45, ⟨fm22, Nat.lt_of_lt_of_le (show (1 - a59.toInt).toNat < (1 - lx7.toInt).toNat from by have t1 : a59.toInt = lx7.toInt + 1 := b61; have t2 : lx7.toInt ≤ 1 := i10; have t3 : lx7.toInt < 1 := b32; omega) (Nat.le_of_lt_succ hf21), (show F_She_addText_17_L2 R N K t0_0 t1_0 fm22 a59 y43 f44 = (F_She_addText_17 R N K t0_0 t1_0) from Eq.trans (by rw [← e60, e53, e52, F_She_addText_17_c16.eq_1]) hR54)⟩⟩
def F_jStr_length_18 : Int32 := (2 : Int32)
set_option maxRecDepth 100000 in
set_option maxHeartbeats 4000000 in
theorem X_jStr_length_18 (l : Launch) (D : va_G) (g : Nat → ClassId) (q : Nat → Nat) (ws : va_W) (hI : q_I (nsh g q) q ws) : q_mI l y_jStr_length prog_31_method_54_code 1 (.int) 2 0 0 D g [.ref (g (8 + 2 * 18))] ws (fun r u => ws = u ∧ (2 ≤ r.toInt) ∧ (r.toInt ≤ 2) ∧ r = (F_jStr_length_18)) := by
  intro sz
  refine q_into (by decide) (Nat.le_of_ble_eq_true rfl) ?_
  intro p e s m below meth c ls hsz C0 V hl
  have hx := C0.1
  have hb := C0.2.1
  have hl : lv_has ls 1 [(0, .ref (g (8 + 2 * 18)))] := hl
  refine lv_aload_n hx hb d_31_54_0 rfl (lv_at hl 0 rfl) ?_
  refine q_sval (i := 18) C0 V rfl rfl w_1018 d_31_54_1 ?_
  refine q_slen (i := 18) (v := 2) C0 V rfl (by decide) d_31_54_4 ?_
  refine lv_aload_n hx hb d_31_54_5 rfl (lv_at hl 0 rfl) ?_
  refine q_goi V (q_runVs (As := []) (rest := [.int 2]) (d := 1) (mc := 0) (ms := 0) (i := 18) C0 V rfl LV_jStr_335 (T_jStr_coder_18 l D g q ws   hI   _) rfl rfl rfl hl.1 rfl (Nat.le_of_ble_eq_true rfl) ⟨by decide, by decide⟩ ⟨Nat.le_of_ble_eq_true rfl, Nat.le_of_ble_eq_true rfl⟩ d_31_54_6) (fun a3 u1 H locs hp2 V => ?_)
  obtain ⟨rfl, b4, b5⟩ := hp2
  replace b4 : q_F (0 ≤ a3.toInt) := b4
  replace b5 : q_F (a3.toInt ≤ 0) := b5
  obtain rfl : a3 = (0 : Int32) := q_Ieq (x := a3.toInt) (y := 0) rfl (by decide) (by have t1 : 0 ≤ a3.toInt := b4; have t2 : a3.toInt ≤ 0 := b5; omega)
  refine lv_ishr hx hb d_31_54_9 ?_
  refine q_ti (v := 2) (by decide) ?_
  exact q_reti C0 V (⟨rfl, (show 2 ≤ (2 : Int32).toInt from (by have z0 : (2 : Int32).toInt = 2 := rfl; omega)), (show (2 : Int32).toInt ≤ 2 from (by have z0 : (2 : Int32).toInt = 2 := rfl; omega)), (show (2 : Int32) = (F_jStr_length_18) from (by rw [F_jStr_length_18.eq_1]))⟩) d_31_54_10
def F_jLat_charAt_18 (x2 : Int32) : Int32 := (((((([48, 120] : List Int32).getD x2.toNatClampNeg 0) : Int32) &&& 255 : Int32).toUInt32 % 65536).toInt32 : Int32)
set_option maxRecDepth 100000 in
set_option maxHeartbeats 4000000 in
theorem X_jLat_charAt_18 (l : Launch) (D : va_G) (g : Nat → ClassId) (q : Nat → Nat) (ws : va_W) (x2 : Int32) (hI : q_I (nsh g q) q ws) (pre0 : 0 ≤ x2.toInt) (pre1 : x2.toInt ≤ 1) : q_mI l y_jLat_charAt prog_33_method_2_code 2 (.char) 3 0 0 D g [.ref (g (9 + 2 * 18)), .int x2] ws (fun r u => ws = u ∧ (0 ≤ r.toInt) ∧ (r.toInt ≤ 255) ∧ r = (F_jLat_charAt_18 x2)) := by
  intro sz
  refine q_into (by decide) (Nat.le_of_ble_eq_true rfl) ?_
  intro p e s m below meth c ls hsz C0 V hl
  have hx := C0.1
  have hb := C0.2.1
  replace pre0 : q_F (0 ≤ x2.toInt) := pre0
  replace pre1 : q_F (x2.toInt ≤ 1) := pre1
  have hl : lv_has ls 2 [(0, .ref (g (9 + 2 * 18))), (1, .int x2)] := hl
  refine lv_iload_n hx hb d_33_2_0 rfl (lv_at hl 1 rfl) ?_
  refine lv_aload_n hx hb d_33_2_1 rfl (lv_at hl 0 rfl) ?_
  refine q_slen (i := 18) (v := 2) C0 V rfl (by decide) d_33_2_2 ?_
  refine q_gov V (q_runS (As := [.int x2, .int 2]) (rest := []) (d := 2) (mc := 0) (ms := 0) C0 V rfl LS_jLat_9 (T_jStr_checkIndex l D g q ws  x2 2 hI  (by have y0 : (2 : Int32).toInt = 2 := rfl; have t1 : 0 ≤ x2.toInt := pre0; omega) (by have y0 : (2 : Int32).toInt = 2 := rfl; have t1 : x2.toInt ≤ 1 := pre1; omega) _) rfl hl.1 rfl (Nat.le_of_ble_eq_true rfl) ⟨by decide, by decide⟩ ⟨Nat.le_of_ble_eq_true rfl, Nat.le_of_ble_eq_true rfl⟩ d_33_2_3) (fun u1 H locs hp2 V => ?_)
  obtain ⟨rfl, -⟩ := hp2
  refine lv_aload_n hx hb d_33_2_6 rfl (lv_at hl 0 rfl) ?_
  refine lv_iload_n hx hb d_33_2_7 rfl (lv_at hl 1 rfl) ?_
  refine q_sbal (i := 18) (v := (([48, 120] : List Int32).getD x2.toNatClampNeg 0)) C0 V rfl (show vp_in x2 2 from q_ix (x := x2.toInt) rfl (by first | with_reducible exact q_fe pre0 | (have t1 : 0 ≤ x2.toInt := pre0; omega)) (by have t1 : 0 ≤ x2.toInt := pre0; have t2 : x2.toInt ≤ 1 := pre1; omega)) rfl d_33_2_8 ?_
  obtain ⟨a4, e5⟩ := q_nm ((([48, 120] : List Int32).getD x2.toNatClampNeg 0) : Int32)
  refine q_ti (v := a4) e5 ?_
  refine lv_sipush (v := 255) hx hb d_33_2_9 (by decide) ?_
  refine lv_iand hx hb d_33_2_12 ?_
  obtain ⟨a6, e7⟩ := q_nm (a4 &&& 255 : Int32)
  refine q_ti (v := a6) e7 ?_
  have b8 : q_F (0 ≤ a6.toInt ∧ a6.toInt ≤ 255) := (by rw [← e7]; show 0 ≤ (a4 &&& 255 : Int32).toInt ∧ (a4 &&& 255 : Int32).toInt ≤ 255; exact s_and (by decide))
  refine lv_i2c hx hb d_33_2_13 rfl ?_
  obtain ⟨a9, e10⟩ := q_nm ((a6.toUInt32 % 65536).toInt32 : Int32)
  refine q_ti (v := a9) e10 ?_
  have b11 : q_F (a9.toInt = a6.toInt) := (by rw [← e10]; show ((a6.toUInt32 % 65536).toInt32 : Int32).toInt = a6.toInt; exact (n_i2c (x := a6)).2.2 (by first | with_reducible exact (q_fe b8).2 | with_reducible exact (q_fe b8).1 | (have t1 : 0 ≤ a6.toInt ∧ a6.toInt ≤ 255 := b8; omega)) (by first | with_reducible exact (q_fe b8).2 | with_reducible exact (q_fe b8).1 | (have t1 : 0 ≤ a6.toInt ∧ a6.toInt ≤ 255 := b8; omega)))
  exact q_retn C0 V (n_chr (by have t1 : 0 ≤ a6.toInt ∧ a6.toInt ≤ 255 := b8; have t2 : a9.toInt = a6.toInt := b11; omega) (by have t1 : 0 ≤ a6.toInt ∧ a6.toInt ≤ 255 := b8; have t2 : a9.toInt = a6.toInt := b11; omega)) (⟨rfl, (show 0 ≤ a9.toInt from (by have t1 : 0 ≤ a6.toInt ∧ a6.toInt ≤ 255 := b8; have t2 : a9.toInt = a6.toInt := b11; omega)), (show a9.toInt ≤ 255 from (by have t1 : 0 ≤ a6.toInt ∧ a6.toInt ≤ 255 := b8; have t2 : a9.toInt = a6.toInt := b11; omega)), (show a9 = (F_jLat_charAt_18 x2) from (by rw [← e10, ← e7, ← e5, F_jLat_charAt_18.eq_1]))⟩) d_33_2_14
def F_jStr_charAt_18 (x2 : Int32) : Int32 := ((F_jLat_charAt_18 x2) : Int32)
set_option maxRecDepth 100000 in
set_option maxHeartbeats 4000000 in
theorem X_jStr_charAt_18 (l : Launch) (D : va_G) (g : Nat → ClassId) (q : Nat → Nat) (ws : va_W) (x2 : Int32) (hI : q_I (nsh g q) q ws) (pre0 : 0 ≤ x2.toInt) (pre1 : x2.toInt ≤ 1) : q_mI l y_jStr_charAt prog_31_method_56_code 2 (.char) 4 0 0 D g [.ref (g (8 + 2 * 18)), .int x2] ws (fun r u => ws = u ∧ (0 ≤ r.toInt) ∧ (r.toInt ≤ 255) ∧ r = (F_jStr_charAt_18 x2)) := by
  intro sz
  refine q_into (by decide) (Nat.le_of_ble_eq_true rfl) ?_
  intro p e s m below meth c ls hsz C0 V hl
  have hx := C0.1
  have hb := C0.2.1
  replace pre0 : q_F (0 ≤ x2.toInt) := pre0
  replace pre1 : q_F (x2.toInt ≤ 1) := pre1
  have hl : lv_has ls 2 [(0, .ref (g (8 + 2 * 18))), (1, .int x2)] := hl
  refine lv_aload_n hx hb d_31_56_0 rfl (lv_at hl 0 rfl) ?_
  refine q_goi V (q_runVs (As := []) (rest := []) (d := 1) (mc := 0) (ms := 0) (i := 18) C0 V rfl LV_jStr_492 (T_jStr_isLatin1_18 l D g q ws   hI   _) rfl rfl rfl hl.1 rfl (Nat.le_of_ble_eq_true rfl) ⟨by decide, by decide⟩ ⟨Nat.le_of_ble_eq_true rfl, Nat.le_of_ble_eq_true rfl⟩ d_31_56_1) (fun a3 u1 H locs hp2 V => ?_)
  obtain ⟨rfl, b4, b5⟩ := hp2
  replace b4 : q_F (1 ≤ a3.toInt) := b4
  replace b5 : q_F (a3.toInt ≤ 1) := b5
  obtain rfl : a3 = (1 : Int32) := q_Ieq (x := a3.toInt) (y := 1) rfl (by decide) (by have t1 : 1 ≤ a3.toInt := b4; have t2 : a3.toInt ≤ 1 := b5; omega)
  refine lv_if_eq (tgt := 16) hx hb d_31_56_4 (by decide) (fun c7 => absurd c7 (by decide)) (fun c7 => ?_)
  refine lv_aload_n hx hb d_31_56_7 rfl (lv_at hl 0 rfl) ?_
  refine q_sval (i := 18) C0 V rfl rfl w_1018 d_31_56_8 ?_
  refine lv_iload_n hx hb d_31_56_11 rfl (lv_at hl 1 rfl) ?_
  refine q_goi V (q_runS (As := [.ref (g (9 + 2 * 18)), .int x2]) (rest := []) (d := 3) (mc := 0) (ms := 0) C0 V rfl LS_jStr_495 (X_jLat_charAt_18 l D g q ws  x2 hI  (by first | with_reducible exact q_fe pre0 | (have t1 : 0 ≤ x2.toInt := pre0; omega)) (by first | with_reducible exact q_fe pre1 | (have t1 : x2.toInt ≤ 1 := pre1; omega)) _) rfl hl.1 rfl (Nat.le_of_ble_eq_true rfl) ⟨by decide, by decide⟩ ⟨Nat.le_of_ble_eq_true rfl, Nat.le_of_ble_eq_true rfl⟩ d_31_56_12) (fun a10 u8 H locs hp9 V => ?_)
  obtain ⟨rfl, b11, b12, hE13⟩ := hp9
  have e14 : a10 = (F_jLat_charAt_18 x2) := hE13
  replace b11 : q_F (0 ≤ a10.toInt) := b11
  replace b12 : q_F (a10.toInt ≤ 255) := b12
  exact q_retn C0 V (n_chr (by first | with_reducible exact q_fe b11 | (have t1 : 0 ≤ a10.toInt := b11; omega)) (by first | with_reducible exact q_fe b12 | (have t1 : a10.toInt ≤ 255 := b12; omega))) (⟨rfl, (show 0 ≤ a10.toInt from (by first | with_reducible exact q_fe b11 | (have t1 : 0 ≤ a10.toInt := b11; omega))), (show a10.toInt ≤ 255 from (by first | with_reducible exact q_fe b12 | (have t1 : a10.toInt ≤ 255 := b12; omega))), (show a10 = (F_jStr_charAt_18 x2) from (by rw [e14, F_jStr_charAt_18.eq_1]))⟩) d_31_56_15
def F_She_addText_18_c16 (K_F_She_addText_18_L2 : Int32 → Int32 → (Nat → Int64) → (Int32 × (Nat → Int64))) (R : Int32) (N : Int32) (K : Int32) (t0_0 : Int32) (t1_0 : (Nat → Int64)) (lx7 : Int32) (lx8 : Int32) (lx9 : (Nat → Int64)) (p50 : (Int32 × (Nat → Int64))) : Int32 × (Nat → Int64) := K_F_She_addText_18_L2 (lx7 + 1 : Int32) (p50.1 : Int32) (p50.2 : (Nat → Int64))
def F_She_addText_18_L2 (R : Int32) (N : Int32) (K : Int32) (t0_0 : Int32) (t1_0 : (Nat → Int64)) : Nat → Int32 → Int32 → (Nat → Int64) → (Int32 × (Nat → Int64))
  | 0, _, _, _ => default
  | fm + 1, lx7, lx8, lx9 => if (2 : Int32) ≤ lx7 then ((lx8, lx9)) else (F_She_addText_18_c16 (F_She_addText_18_L2 R N K t0_0 t1_0 fm) R N K t0_0 t1_0 lx7 lx8 lx9 ((F_She_add_p R N K ((F_jStr_charAt_18 lx7) : Int32) lx8 lx9) : (Int32 × (Nat → Int64))))
def F_She_addText_18 (R : Int32) (N : Int32) (K : Int32) (t0_0 : Int32) (t1_0 : (Nat → Int64)) : Int32 × (Nat → Int64) := F_She_addText_18_L2 R N K t0_0 t1_0 ((2 - (0 : Int32).toInt).toNat + 1) 0 t0_0 t1_0
set_option maxRecDepth 100000 in
set_option maxHeartbeats 4000000 in
theorem X_She_addText_18 (l : Launch) (D : va_G) (g : Nat → ClassId) (q : Nat → Nat) (ws : va_W) (k1 : Nat) (R N K : Int32) (hB1 : q_isShe (nsh g q) g q k1 R N K) (hI : q_I (nsh g q) q ws) (t0_0 : Int32) (hT0 : ws[k1]? = (some (q k1, .inr (1, [.ref (q (k1 + 1)), .int R, .int t0_0])) : Option (Nat × va_E))) (t1_0 : (Nat → Int64)) (hT1 : ws[k1 + 1]? = (some (q (k1 + 1), .inl (g 1, N.toNatClampNeg, .inr (.inl t1_0))) : Option (Nat × va_E))) (pre0 : t0_0.toInt + 20 ≤ K.toInt) : q_mV l y_She_addText prog_11_method_4_code 3 5 0 0 D g [.ref (q k1), .ref (g (8 + 2 * 18))] ws (fun u => q_I (nsh g q) q u ∧ q_un ws u [k1, k1 + 1] ∧ ∃ (u0_0 : Int32) (u1_0 : (Nat → Int64)), u[k1]? = (some (q k1, .inr (1, [.ref (q (k1 + 1)), .int R, .int u0_0])) : Option (Nat × va_E)) ∧ u[k1 + 1]? = (some (q (k1 + 1), .inl (g 1, N.toNatClampNeg, .inr (.inl u1_0))) : Option (Nat × va_E)) ∧ (t0_0.toInt + 2 ≤ u0_0.toInt) ∧ (u0_0.toInt ≤ t0_0.toInt + 2) ∧ (u0_0, u1_0) = (F_She_addText_18 R N K t0_0 t1_0)) := by
  intro sz
  refine q_into (by decide) (Nat.le_of_ble_eq_true rfl) ?_
  intro p e s m below meth c ls hsz C0 V hl
  have hx := C0.1
  have hb := C0.2.1
  have btt0_0 := n_shW hI hB1 hT0
  clear btt0_0
  replace pre0 : q_F (t0_0.toInt + 20 ≤ K.toInt) := pre0
  have hF : q_un ws ws [k1, k1 + 1] := q_u0
  have hl : lv_has ls 3 [(0, .ref (q k1)), (1, .ref (g (8 + 2 * 18)))] := hl
  refine lv_iconst (v := 0) hx hb d_11_4_0 (by decide) ?_
  refine lv_istore_n (lv' := [(2, .int 0), (0, .ref (q k1)), (1, .ref (g (8 + 2 * 18)))]) hx hb d_11_4_1 rfl hl (by decide) rfl (fun ls hl => ?_)
  refine q_loop (X := Int32 × Int32 × (Nat → Int64)) (fun z H locs ls w15 => q_F (z.1.toInt ≤ 2) ∧ q_F (t0_0.toInt ≤ z.1.toInt + z.2.1.toInt) ∧ q_F (z.2.1.toInt ≤ z.1.toInt + t0_0.toInt) ∧ q_F (z.1.toInt + t0_0.toInt ≤ z.2.1.toInt) ∧ q_Wd D g (va_A ws sz) s w15 H locs ∧ lv_has ls 3 [(2, .int z.1), (0, .ref (q k1)), (1, .ref (g (8 + 2 * 18)))] ∧ q_I (nsh g q) q w15 ∧ q_un ws w15 [k1, k1 + 1] ∧ w15[k1]? = (some (q k1, .inr (1, [.ref (q (k1 + 1)), .int R, .int z.2.1])) : Option (Nat × va_E)) ∧ w15[k1 + 1]? = (some (q (k1 + 1), .inl (g 1, N.toNatClampNeg, .inr (.inl z.2.2))) : Option (Nat × va_E)) ∧ (∃ n, (2 - z.1.toInt).toNat < n ∧ F_She_addText_18_L2 R N K t0_0 t1_0 n z.1 z.2.1 z.2.2 = (F_She_addText_18 R N K t0_0 t1_0))) (fun z => (2 - z.1.toInt).toNat) ?_ ((0 : Int32), (t0_0 : Int32), (t1_0 : (Nat → Int64))) _ _ _ ws ⟨(show q_F (0 ≤ 2) from (show 0 ≤ 2 from by omega)), (show q_F (t0_0.toInt ≤ 0 + t0_0.toInt) from (show t0_0.toInt ≤ 0 + t0_0.toInt from by omega)), (show q_F (t0_0.toInt ≤ 0 + t0_0.toInt) from (show t0_0.toInt ≤ 0 + t0_0.toInt from by omega)), (show q_F (0 + t0_0.toInt ≤ t0_0.toInt) from (show 0 + t0_0.toInt ≤ t0_0.toInt from by omega)), V, q_lw hl (q_lw1 0 rfl (q_lw1 1 rfl (q_lw1 2 rfl q_lw0))), hI, hF, hT0, hT1, ⟨((2 - (0 : Int32).toInt).toNat + 1), Nat.lt_succ_self _, (show F_She_addText_18_L2 R N K t0_0 t1_0 ((2 - (0 : Int32).toInt).toNat + 1) 0 t0_0 t1_0 = (F_She_addText_18 R N K t0_0 t1_0) from (by rw [F_She_addText_18.eq_1]))⟩⟩
  rintro ⟨lx7, lx8, lx9⟩ H locs ls w15 ⟨i10, i11, i12, i13, V, hl, hI, hF, hO16, hO17, ⟨fu20, hf21, hR18⟩⟩ ih14
  obtain ⟨fm22, rfl⟩ : ∃ m, fu20 = m + 1 := ⟨fu20 - 1, by omega⟩
  replace i10 : q_F (lx7.toInt ≤ 2) := i10
  replace i11 : q_F (t0_0.toInt ≤ lx7.toInt + lx8.toInt) := i11
  replace i12 : q_F (lx8.toInt ≤ lx7.toInt + t0_0.toInt) := i12
  replace i13 : q_F (lx7.toInt + t0_0.toInt ≤ lx8.toInt) := i13
  replace hl : lv_has ls 3 [(2, .int lx7), (0, .ref (q k1)), (1, .ref (g (8 + 2 * 18)))] := hl
  replace hO16 : w15[k1]? = (some (q k1, .inr (1, [.ref (q (k1 + 1)), .int R, .int lx8])) : Option (Nat × va_E)) := hO16
  replace hO17 : w15[k1 + 1]? = (some (q (k1 + 1), .inl (g 1, N.toNatClampNeg, .inr (.inl lx9))) : Option (Nat × va_E)) := hO17
  refine lv_iload_n hx hb d_11_4_2 rfl (lv_at hl 0 rfl) ?_
  refine lv_aload_n hx hb d_11_4_3 rfl (lv_at hl 2 rfl) ?_
  refine q_goi V (q_runVs (As := []) (rest := [.int lx7]) (d := 2) (mc := 0) (ms := 0) (i := 18) C0 V rfl LV_She_24 (X_jStr_length_18 l D g q w15   hI   _) rfl rfl rfl hl.1 rfl (Nat.le_of_ble_eq_true rfl) ⟨by decide, by decide⟩ ⟨Nat.le_of_ble_eq_true rfl, Nat.le_of_ble_eq_true rfl⟩ d_11_4_4) (fun a25 u23 H locs hp24 V => ?_)
  obtain ⟨rfl, b26, b27, hE28⟩ := hp24
  have e29 : a25 = (F_jStr_length_18) := hE28
  replace b26 : q_F (2 ≤ a25.toInt) := b26
  replace b27 : q_F (a25.toInt ≤ 2) := b27
  obtain rfl : a25 = (2 : Int32) := q_Ieq (x := a25.toInt) (y := 2) rfl (by decide) (by have t1 : 2 ≤ a25.toInt := b26; have t2 : a25.toInt ≤ 2 := b27; omega)
  refine lv_icmp_ge (tgt := 25) hx hb d_11_4_7 (by decide) (fun c30 => ?_) (fun c30 => ?_)
  ·
    have b31 : q_F (2 ≤ lx7.toInt) := (q_leI c30)
    exact q_retv C0 V (⟨hI, hF, lx8, lx9, hO16, hO17, (show t0_0.toInt + 2 ≤ lx8.toInt from (by have t1 : lx7.toInt + t0_0.toInt ≤ lx8.toInt := i13; have t2 : 2 ≤ lx7.toInt := b31; omega)), (show lx8.toInt ≤ t0_0.toInt + 2 from (by have t1 : lx7.toInt ≤ 2 := i10; have t2 : lx8.toInt ≤ lx7.toInt + t0_0.toInt := i12; omega)), (show (lx8, lx9) = (F_She_addText_18 R N K t0_0 t1_0) from Eq.trans (by rw [F_She_addText_18_L2.eq_2, if_pos c30]) hR18)⟩) d_11_4_25
  ·
    have b32 : q_F (lx7.toInt < 2) := (q_nleI c30)
    refine lv_aload_n hx hb d_11_4_10 rfl (lv_at hl 1 rfl) ?_
    refine lv_aload_n hx hb d_11_4_11 rfl (lv_at hl 2 rfl) ?_
    refine lv_iload_n hx hb d_11_4_12 rfl (lv_at hl 0 rfl) ?_
    refine q_goi V (q_runVs (As := [.int lx7]) (rest := [.ref (q k1)]) (d := 4) (mc := 0) (ms := 0) (i := 18) C0 V rfl LV_She_30 (X_jStr_charAt_18 l D g q w15  lx7 hI  (by have t1 : t0_0.toInt ≤ lx7.toInt + lx8.toInt := i11; have t2 : lx8.toInt ≤ lx7.toInt + t0_0.toInt := i12; omega) (by first | with_reducible exact q_fe b32 | (have t1 : lx7.toInt < 2 := b32; omega)) _) rfl rfl rfl hl.1 rfl (Nat.le_of_ble_eq_true rfl) ⟨by decide, by decide⟩ ⟨Nat.le_of_ble_eq_true rfl, Nat.le_of_ble_eq_true rfl⟩ d_11_4_13) (fun a35 u33 H locs hp34 V => ?_)
    obtain ⟨rfl, b36, b37, hE38⟩ := hp34
    have e39 : a35 = (F_jStr_charAt_18 lx7) := hE38
    clear b36
    clear b37
    refine q_gov V (q_runV (As := [.int a35]) (rest := []) (d := 1) (mc := 0) (ms := 0) (ci := 1) C0 V rfl LV_She_34 (X_She_add_p l D g q w15 k1 R N K hB1 a35 hI lx8 hO16 lx9 hO17 (by have t1 : t0_0.toInt + 20 ≤ K.toInt := pre0; have t2 : lx7.toInt ≤ 2 := i10; have t3 : lx8.toInt ≤ lx7.toInt + t0_0.toInt := i12; omega) _) rfl rfl hO16 rfl hl.1 rfl (Nat.le_of_ble_eq_true rfl) ⟨by decide, by decide⟩ ⟨Nat.le_of_ble_eq_true rfl, Nat.le_of_ble_eq_true rfl⟩ d_11_4_16) (fun u40 H locs hp41 V => ?_)
    obtain ⟨hI, hZ9⟩ := hp41
    obtain ⟨hu49, hZ9⟩ := hZ9
    obtain ⟨y43, hZ9⟩ := hZ9
    obtain ⟨f44, hZ9⟩ := hZ9
    obtain ⟨hO42, hZ9⟩ := hZ9
    obtain ⟨hA45, hZ9⟩ := hZ9
    obtain ⟨b46, hZ9⟩ := hZ9
    obtain ⟨b47, hE48⟩ := hZ9
    replace hO42 : u40[k1]? = (some (q k1, .inr (1, [.ref (q (k1 + 1)), .int R, .int y43])) : Option (Nat × va_E)) := hO42
    replace hA45 : u40[k1 + 1]? = (some (q (k1 + 1), .inl (g 1, N.toNatClampNeg, .inr (.inl f44))) : Option (Nat × va_E)) := hA45
    obtain ⟨p50, e51⟩ : ∃ z, z = (F_She_add_p R N K a35 lx8 lx9) := ⟨_, rfl⟩
    have e52 : y43 = p50.1 := congrArg (fun z => z.1) (hE48.trans e51.symm)
    have e53 : f44 = p50.2 := congrArg (fun z => z.2) (hE48.trans e51.symm)
    replace b46 : q_F (lx8.toInt + 1 ≤ y43.toInt) := b46
    replace b47 : q_F (y43.toInt ≤ lx8.toInt + 1) := b47
    replace hF := q_uc hF hu49 (by first | exact (q_sk (q_mi 0 rfl) (q_sk (q_mi 1 rfl) q_s0)) | simp)
    have hR54 := (show F_She_addText_18_c16 (F_She_addText_18_L2 R N K t0_0 t1_0 fm22) R N K t0_0 t1_0 lx7 lx8 lx9 p50 = (F_She_addText_18 R N K t0_0 t1_0) from Eq.trans (by rw [e51, e39, F_She_addText_18_L2.eq_2, if_neg c30]) hR18)
    obtain ⟨a59, e60⟩ := q_nm (lx7 + 1 : Int32)
    have b61 : q_F (a59.toInt = lx7.toInt + 1) := (by rw [← e60]; exact q_addI (y := 1) rfl (by decide) (by have t1 : t0_0.toInt ≤ lx7.toInt + lx8.toInt := i11; have t2 : lx8.toInt ≤ lx7.toInt + t0_0.toInt := i12; have t3 : lx7.toInt ≤ 2 := i10; omega) (by have t1 : t0_0.toInt ≤ lx7.toInt + lx8.toInt := i11; have t2 : lx8.toInt ≤ lx7.toInt + t0_0.toInt := i12; have t3 : lx7.toInt ≤ 2 := i10; omega))
    refine lv_iinc (v := a59) (lv' := [(2, .int a59), (0, .ref (q k1)), (1, .ref (g (8 + 2 * 18)))]) hx hb d_11_4_19 hl (k := 0) rfl (e60) (by decide) rfl (fun ls hl => ?_)
    refine lv_goto (tgt := 2) hx hb d_11_4_22 (by decide) ?_
    exact ih14 ((a59 : Int32), (y43 : Int32), (f44 : (Nat → Int64))) _ _ _ _ (show (2 - a59.toInt).toNat < (2 - lx7.toInt).toNat from by have t1 : a59.toInt = lx7.toInt + 1 := b61; have t2 : lx7.toInt ≤ 2 := i10; have t3 : lx7.toInt < 2 := b32; omega) ⟨(show q_F (a59.toInt ≤ 2) from (show a59.toInt ≤ 2 from by have t1 : lx7.toInt < 2 := b32; have t2 : a59.toInt = lx7.toInt + 1 := b61; omega)), (show q_F (t0_0.toInt ≤ a59.toInt + y43.toInt) from (show t0_0.toInt ≤ a59.toInt + y43.toInt from by have t1 : t0_0.toInt ≤ lx7.toInt + lx8.toInt := i11; have t2 : lx8.toInt + 1 ≤ y43.toInt := b46; have t3 : a59.toInt = lx7.toInt + 1 := b61; omega)), (show q_F (y43.toInt ≤ a59.toInt + t0_0.toInt) from (show y43.toInt ≤ a59.toInt + t0_0.toInt from by have t1 : lx8.toInt ≤ lx7.toInt + t0_0.toInt := i12; have t2 : y43.toInt ≤ lx8.toInt + 1 := b47; have t3 : a59.toInt = lx7.toInt + 1 := b61; omega)), (show q_F (a59.toInt + t0_0.toInt ≤ y43.toInt) from (show a59.toInt + t0_0.toInt ≤ y43.toInt from by have t1 : lx7.toInt + t0_0.toInt ≤ lx8.toInt := i13; have t2 : lx8.toInt + 1 ≤ y43.toInt := b46; have t3 : a59.toInt = lx7.toInt + 1 := b61; omega)), V, q_lw hl (q_lw1 0 rfl (q_lw1 1 rfl (q_lw1 2 rfl q_lw0))), hI, hF, hO42, hA45, ⟨fm22, Nat.lt_of_lt_of_le (show (2 - a59.toInt).toNat < (2 - lx7.toInt).toNat from by have t1 : a59.toInt = lx7.toInt + 1 := b61; have t2 : lx7.toInt ≤ 2 := i10; have t3 : lx7.toInt < 2 := b32; omega) (Nat.le_of_lt_succ hf21), (show F_She_addText_18_L2 R N K t0_0 t1_0 fm22 a59 y43 f44 = (F_She_addText_18 R N K t0_0 t1_0) from Eq.trans (by rw [← e60, e53, e52, F_She_addText_18_c16.eq_1]) hR54)⟩⟩
def F_She_addText_23_c16 (K_F_She_addText_23_L2 : Int32 → Int32 → (Nat → Int64) → (Int32 × (Nat → Int64))) (R : Int32) (N : Int32) (K : Int32) (t0_0 : Int32) (t1_0 : (Nat → Int64)) (lx7 : Int32) (lx8 : Int32) (lx9 : (Nat → Int64)) (p50 : (Int32 × (Nat → Int64))) : Int32 × (Nat → Int64) := K_F_She_addText_23_L2 (lx7 + 1 : Int32) (p50.1 : Int32) (p50.2 : (Nat → Int64))
def F_She_addText_23_L2 (R : Int32) (N : Int32) (K : Int32) (t0_0 : Int32) (t1_0 : (Nat → Int64)) : Nat → Int32 → Int32 → (Nat → Int64) → (Int32 × (Nat → Int64))
  | 0, _, _, _ => default
  | fm + 1, lx7, lx8, lx9 => if (3 : Int32) ≤ lx7 then ((lx8, lx9)) else (F_She_addText_23_c16 (F_She_addText_23_L2 R N K t0_0 t1_0 fm) R N K t0_0 t1_0 lx7 lx8 lx9 ((F_She_add_p R N K ((F_jStr_charAt_23 lx7) : Int32) lx8 lx9) : (Int32 × (Nat → Int64))))
def F_She_addText_23 (R : Int32) (N : Int32) (K : Int32) (t0_0 : Int32) (t1_0 : (Nat → Int64)) : Int32 × (Nat → Int64) := F_She_addText_23_L2 R N K t0_0 t1_0 ((3 - (0 : Int32).toInt).toNat + 1) 0 t0_0 t1_0
set_option maxRecDepth 100000 in
set_option maxHeartbeats 4000000 in
theorem X_She_addText_23 (l : Launch) (D : va_G) (g : Nat → ClassId) (q : Nat → Nat) (ws : va_W) (k1 : Nat) (R N K : Int32) (hB1 : q_isShe (nsh g q) g q k1 R N K) (hI : q_I (nsh g q) q ws) (t0_0 : Int32) (hT0 : ws[k1]? = (some (q k1, .inr (1, [.ref (q (k1 + 1)), .int R, .int t0_0])) : Option (Nat × va_E))) (t1_0 : (Nat → Int64)) (hT1 : ws[k1 + 1]? = (some (q (k1 + 1), .inl (g 1, N.toNatClampNeg, .inr (.inl t1_0))) : Option (Nat × va_E))) (pre0 : t0_0.toInt + 20 ≤ K.toInt) : q_mV l y_She_addText prog_11_method_4_code 3 5 0 0 D g [.ref (q k1), .ref (g (8 + 2 * 23))] ws (fun u => q_I (nsh g q) q u ∧ q_un ws u [k1, k1 + 1] ∧ ∃ (u0_0 : Int32) (u1_0 : (Nat → Int64)), u[k1]? = (some (q k1, .inr (1, [.ref (q (k1 + 1)), .int R, .int u0_0])) : Option (Nat × va_E)) ∧ u[k1 + 1]? = (some (q (k1 + 1), .inl (g 1, N.toNatClampNeg, .inr (.inl u1_0))) : Option (Nat × va_E)) ∧ (t0_0.toInt + 3 ≤ u0_0.toInt) ∧ (u0_0.toInt ≤ t0_0.toInt + 3) ∧ (u0_0, u1_0) = (F_She_addText_23 R N K t0_0 t1_0)) := by
  intro sz
  refine q_into (by decide) (Nat.le_of_ble_eq_true rfl) ?_
  intro p e s m below meth c ls hsz C0 V hl
  have hx := C0.1
  have hb := C0.2.1
  have btt0_0 := n_shW hI hB1 hT0
  clear btt0_0
  replace pre0 : q_F (t0_0.toInt + 20 ≤ K.toInt) := pre0
  have hF : q_un ws ws [k1, k1 + 1] := q_u0
  have hl : lv_has ls 3 [(0, .ref (q k1)), (1, .ref (g (8 + 2 * 23)))] := hl
  refine lv_iconst (v := 0) hx hb d_11_4_0 (by decide) ?_
  refine lv_istore_n (lv' := [(2, .int 0), (0, .ref (q k1)), (1, .ref (g (8 + 2 * 23)))]) hx hb d_11_4_1 rfl hl (by decide) rfl (fun ls hl => ?_)
  refine q_loop (X := Int32 × Int32 × (Nat → Int64)) (fun z H locs ls w15 => q_F (z.1.toInt ≤ 3) ∧ q_F (t0_0.toInt ≤ z.1.toInt + z.2.1.toInt) ∧ q_F (z.2.1.toInt ≤ z.1.toInt + t0_0.toInt) ∧ q_F (z.1.toInt + t0_0.toInt ≤ z.2.1.toInt) ∧ q_Wd D g (va_A ws sz) s w15 H locs ∧ lv_has ls 3 [(2, .int z.1), (0, .ref (q k1)), (1, .ref (g (8 + 2 * 23)))] ∧ q_I (nsh g q) q w15 ∧ q_un ws w15 [k1, k1 + 1] ∧ w15[k1]? = (some (q k1, .inr (1, [.ref (q (k1 + 1)), .int R, .int z.2.1])) : Option (Nat × va_E)) ∧ w15[k1 + 1]? = (some (q (k1 + 1), .inl (g 1, N.toNatClampNeg, .inr (.inl z.2.2))) : Option (Nat × va_E)) ∧ (∃ n, (3 - z.1.toInt).toNat < n ∧ F_She_addText_23_L2 R N K t0_0 t1_0 n z.1 z.2.1 z.2.2 = (F_She_addText_23 R N K t0_0 t1_0))) (fun z => (3 - z.1.toInt).toNat) ?_ ((0 : Int32), (t0_0 : Int32), (t1_0 : (Nat → Int64))) _ _ _ ws ⟨(show q_F (0 ≤ 3) from (show 0 ≤ 3 from by omega)), (show q_F (t0_0.toInt ≤ 0 + t0_0.toInt) from (show t0_0.toInt ≤ 0 + t0_0.toInt from by omega)), (show q_F (t0_0.toInt ≤ 0 + t0_0.toInt) from (show t0_0.toInt ≤ 0 + t0_0.toInt from by omega)), (show q_F (0 + t0_0.toInt ≤ t0_0.toInt) from (show 0 + t0_0.toInt ≤ t0_0.toInt from by omega)), V, q_lw hl (q_lw1 0 rfl (q_lw1 1 rfl (q_lw1 2 rfl q_lw0))), hI, hF, hT0, hT1, ⟨((3 - (0 : Int32).toInt).toNat + 1), Nat.lt_succ_self _, (show F_She_addText_23_L2 R N K t0_0 t1_0 ((3 - (0 : Int32).toInt).toNat + 1) 0 t0_0 t1_0 = (F_She_addText_23 R N K t0_0 t1_0) from (by rw [F_She_addText_23.eq_1]))⟩⟩
  rintro ⟨lx7, lx8, lx9⟩ H locs ls w15 ⟨i10, i11, i12, i13, V, hl, hI, hF, hO16, hO17, ⟨fu20, hf21, hR18⟩⟩ ih14
  obtain ⟨fm22, rfl⟩ : ∃ m, fu20 = m + 1 := ⟨fu20 - 1, by omega⟩
  replace i10 : q_F (lx7.toInt ≤ 3) := i10
  replace i11 : q_F (t0_0.toInt ≤ lx7.toInt + lx8.toInt) := i11
  replace i12 : q_F (lx8.toInt ≤ lx7.toInt + t0_0.toInt) := i12
  replace i13 : q_F (lx7.toInt + t0_0.toInt ≤ lx8.toInt) := i13
  replace hl : lv_has ls 3 [(2, .int lx7), (0, .ref (q k1)), (1, .ref (g (8 + 2 * 23)))] := hl
  replace hO16 : w15[k1]? = (some (q k1, .inr (1, [.ref (q (k1 + 1)), .int R, .int lx8])) : Option (Nat × va_E)) := hO16
  replace hO17 : w15[k1 + 1]? = (some (q (k1 + 1), .inl (g 1, N.toNatClampNeg, .inr (.inl lx9))) : Option (Nat × va_E)) := hO17
  refine lv_iload_n hx hb d_11_4_2 rfl (lv_at hl 0 rfl) ?_
  refine lv_aload_n hx hb d_11_4_3 rfl (lv_at hl 2 rfl) ?_
  refine q_goi V (q_runVs (As := []) (rest := [.int lx7]) (d := 2) (mc := 0) (ms := 0) (i := 23) C0 V rfl LV_She_24 (X_jStr_length_23 l D g q w15   hI   _) rfl rfl rfl hl.1 rfl (Nat.le_of_ble_eq_true rfl) ⟨by decide, by decide⟩ ⟨Nat.le_of_ble_eq_true rfl, Nat.le_of_ble_eq_true rfl⟩ d_11_4_4) (fun a25 u23 H locs hp24 V => ?_)
  obtain ⟨rfl, b26, b27, hE28⟩ := hp24
  have e29 : a25 = (F_jStr_length_23) := hE28
  replace b26 : q_F (3 ≤ a25.toInt) := b26
  replace b27 : q_F (a25.toInt ≤ 3) := b27
  obtain rfl : a25 = (3 : Int32) := q_Ieq (x := a25.toInt) (y := 3) rfl (by decide) (by have t1 : 3 ≤ a25.toInt := b26; have t2 : a25.toInt ≤ 3 := b27; omega)
  refine lv_icmp_ge (tgt := 25) hx hb d_11_4_7 (by decide) (fun c30 => ?_) (fun c30 => ?_)
  ·
    have b31 : q_F (3 ≤ lx7.toInt) := (q_leI c30)
    exact q_retv C0 V (⟨hI, hF, lx8, lx9, hO16, hO17, (show t0_0.toInt + 3 ≤ lx8.toInt from (by have t1 : lx7.toInt + t0_0.toInt ≤ lx8.toInt := i13; have t2 : 3 ≤ lx7.toInt := b31; omega)), (show lx8.toInt ≤ t0_0.toInt + 3 from (by have t1 : lx7.toInt ≤ 3 := i10; have t2 : lx8.toInt ≤ lx7.toInt + t0_0.toInt := i12; omega)), (show (lx8, lx9) = (F_She_addText_23 R N K t0_0 t1_0) from Eq.trans (by rw [F_She_addText_23_L2.eq_2, if_pos c30]) hR18)⟩) d_11_4_25
  ·
    have b32 : q_F (lx7.toInt < 3) := (q_nleI c30)
    refine lv_aload_n hx hb d_11_4_10 rfl (lv_at hl 1 rfl) ?_
    refine lv_aload_n hx hb d_11_4_11 rfl (lv_at hl 2 rfl) ?_
    refine lv_iload_n hx hb d_11_4_12 rfl (lv_at hl 0 rfl) ?_
    refine q_goi V (q_runVs (As := [.int lx7]) (rest := [.ref (q k1)]) (d := 4) (mc := 0) (ms := 0) (i := 23) C0 V rfl LV_She_30 (X_jStr_charAt_23 l D g q w15  lx7 hI  (by have t1 : t0_0.toInt ≤ lx7.toInt + lx8.toInt := i11; have t2 : lx8.toInt ≤ lx7.toInt + t0_0.toInt := i12; omega) (by first | with_reducible exact q_fe b32 | (have t1 : lx7.toInt < 3 := b32; omega)) _) rfl rfl rfl hl.1 rfl (Nat.le_of_ble_eq_true rfl) ⟨by decide, by decide⟩ ⟨Nat.le_of_ble_eq_true rfl, Nat.le_of_ble_eq_true rfl⟩ d_11_4_13) (fun a35 u33 H locs hp34 V => ?_)
    obtain ⟨rfl, b36, b37, hE38⟩ := hp34
    have e39 : a35 = (F_jStr_charAt_23 lx7) := hE38
    clear b36
    clear b37
    refine q_gov V (q_runV (As := [.int a35]) (rest := []) (d := 1) (mc := 0) (ms := 0) (ci := 1) C0 V rfl LV_She_34 (X_She_add_p l D g q w15 k1 R N K hB1 a35 hI lx8 hO16 lx9 hO17 (by have t1 : t0_0.toInt + 20 ≤ K.toInt := pre0; have t2 : lx7.toInt ≤ 3 := i10; have t3 : lx8.toInt ≤ lx7.toInt + t0_0.toInt := i12; omega) _) rfl rfl hO16 rfl hl.1 rfl (Nat.le_of_ble_eq_true rfl) ⟨by decide, by decide⟩ ⟨Nat.le_of_ble_eq_true rfl, Nat.le_of_ble_eq_true rfl⟩ d_11_4_16) (fun u40 H locs hp41 V => ?_)
    obtain ⟨hI, hZ9⟩ := hp41
    obtain ⟨hu49, hZ9⟩ := hZ9
    obtain ⟨y43, hZ9⟩ := hZ9
    obtain ⟨f44, hZ9⟩ := hZ9
    obtain ⟨hO42, hZ9⟩ := hZ9
    obtain ⟨hA45, hZ9⟩ := hZ9
    obtain ⟨b46, hZ9⟩ := hZ9
    obtain ⟨b47, hE48⟩ := hZ9
    replace hO42 : u40[k1]? = (some (q k1, .inr (1, [.ref (q (k1 + 1)), .int R, .int y43])) : Option (Nat × va_E)) := hO42
    replace hA45 : u40[k1 + 1]? = (some (q (k1 + 1), .inl (g 1, N.toNatClampNeg, .inr (.inl f44))) : Option (Nat × va_E)) := hA45
    obtain ⟨p50, e51⟩ : ∃ z, z = (F_She_add_p R N K a35 lx8 lx9) := ⟨_, rfl⟩
    have e52 : y43 = p50.1 := congrArg (fun z => z.1) (hE48.trans e51.symm)
    have e53 : f44 = p50.2 := congrArg (fun z => z.2) (hE48.trans e51.symm)
    replace b46 : q_F (lx8.toInt + 1 ≤ y43.toInt) := b46
    replace b47 : q_F (y43.toInt ≤ lx8.toInt + 1) := b47
    replace hF := q_uc hF hu49 (by first | exact (q_sk (q_mi 0 rfl) (q_sk (q_mi 1 rfl) q_s0)) | simp)
    have hR54 := (show F_She_addText_23_c16 (F_She_addText_23_L2 R N K t0_0 t1_0 fm22) R N K t0_0 t1_0 lx7 lx8 lx9 p50 = (F_She_addText_23 R N K t0_0 t1_0) from Eq.trans (by rw [e51, e39, F_She_addText_23_L2.eq_2, if_neg c30]) hR18)
    obtain ⟨a59, e60⟩ := q_nm (lx7 + 1 : Int32)
    have b61 : q_F (a59.toInt = lx7.toInt + 1) := (by rw [← e60]; exact q_addI (y := 1) rfl (by decide) (by have t1 : t0_0.toInt ≤ lx7.toInt + lx8.toInt := i11; have t2 : lx8.toInt ≤ lx7.toInt + t0_0.toInt := i12; have t3 : lx7.toInt ≤ 3 := i10; omega) (by have t1 : t0_0.toInt ≤ lx7.toInt + lx8.toInt := i11; have t2 : lx8.toInt ≤ lx7.toInt + t0_0.toInt := i12; have t3 : lx7.toInt ≤ 3 := i10; omega))
    refine lv_iinc (v := a59) (lv' := [(2, .int a59), (0, .ref (q k1)), (1, .ref (g (8 + 2 * 23)))]) hx hb d_11_4_19 hl (k := 0) rfl (e60) (by decide) rfl (fun ls hl => ?_)
    refine lv_goto (tgt := 2) hx hb d_11_4_22 (by decide) ?_
    exact ih14 ((a59 : Int32), (y43 : Int32), (f44 : (Nat → Int64))) _ _ _ _ (show (3 - a59.toInt).toNat < (3 - lx7.toInt).toNat from by have t1 : a59.toInt = lx7.toInt + 1 := b61; have t2 : lx7.toInt ≤ 3 := i10; have t3 : lx7.toInt < 3 := b32; omega) ⟨(show q_F (a59.toInt ≤ 3) from (show a59.toInt ≤ 3 from by have t1 : lx7.toInt < 3 := b32; have t2 : a59.toInt = lx7.toInt + 1 := b61; omega)), (show q_F (t0_0.toInt ≤ a59.toInt + y43.toInt) from (show t0_0.toInt ≤ a59.toInt + y43.toInt from by have t1 : t0_0.toInt ≤ lx7.toInt + lx8.toInt := i11; have t2 : lx8.toInt + 1 ≤ y43.toInt := b46; have t3 : a59.toInt = lx7.toInt + 1 := b61; omega)), (show q_F (y43.toInt ≤ a59.toInt + t0_0.toInt) from (show y43.toInt ≤ a59.toInt + t0_0.toInt from by have t1 : lx8.toInt ≤ lx7.toInt + t0_0.toInt := i12; have t2 : y43.toInt ≤ lx8.toInt + 1 := b47; have t3 : a59.toInt = lx7.toInt + 1 := b61; omega)), (show q_F (a59.toInt + t0_0.toInt ≤ y43.toInt) from (show a59.toInt + t0_0.toInt ≤ y43.toInt from by have t1 : lx7.toInt + t0_0.toInt ≤ lx8.toInt := i13; have t2 : lx8.toInt + 1 ≤ y43.toInt := b46; have t3 : a59.toInt = lx7.toInt + 1 := b61; omega)), V, q_lw hl (q_lw1 0 rfl (q_lw1 1 rfl (q_lw1 2 rfl q_lw0))), hI, hF, hO42, hA45, ⟨fm22, Nat.lt_of_lt_of_le (show (3 - a59.toInt).toNat < (3 - lx7.toInt).toNat from by have t1 : a59.toInt = lx7.toInt + 1 := b61; have t2 : lx7.toInt ≤ 3 := i10; have t3 : lx7.toInt < 3 := b32; omega) (Nat.le_of_lt_succ hf21), (show F_She_addText_23_L2 R N K t0_0 t1_0 fm22 a59 y43 f44 = (F_She_addText_23 R N K t0_0 t1_0) from Eq.trans (by rw [← e60, e53, e52, F_She_addText_23_c16.eq_1]) hR54)⟩⟩
def F_She_addText_24_c16 (K_F_She_addText_24_L2 : Int32 → Int32 → (Nat → Int64) → (Int32 × (Nat → Int64))) (R : Int32) (N : Int32) (K : Int32) (t0_0 : Int32) (t1_0 : (Nat → Int64)) (lx7 : Int32) (lx8 : Int32) (lx9 : (Nat → Int64)) (p50 : (Int32 × (Nat → Int64))) : Int32 × (Nat → Int64) := K_F_She_addText_24_L2 (lx7 + 1 : Int32) (p50.1 : Int32) (p50.2 : (Nat → Int64))
def F_She_addText_24_L2 (R : Int32) (N : Int32) (K : Int32) (t0_0 : Int32) (t1_0 : (Nat → Int64)) : Nat → Int32 → Int32 → (Nat → Int64) → (Int32 × (Nat → Int64))
  | 0, _, _, _ => default
  | fm + 1, lx7, lx8, lx9 => if (8 : Int32) ≤ lx7 then ((lx8, lx9)) else (F_She_addText_24_c16 (F_She_addText_24_L2 R N K t0_0 t1_0 fm) R N K t0_0 t1_0 lx7 lx8 lx9 ((F_She_add_p R N K ((F_jStr_charAt_24 lx7) : Int32) lx8 lx9) : (Int32 × (Nat → Int64))))
def F_She_addText_24 (R : Int32) (N : Int32) (K : Int32) (t0_0 : Int32) (t1_0 : (Nat → Int64)) : Int32 × (Nat → Int64) := F_She_addText_24_L2 R N K t0_0 t1_0 ((8 - (0 : Int32).toInt).toNat + 1) 0 t0_0 t1_0
set_option maxRecDepth 100000 in
set_option maxHeartbeats 4000000 in
theorem X_She_addText_24 (l : Launch) (D : va_G) (g : Nat → ClassId) (q : Nat → Nat) (ws : va_W) (k1 : Nat) (R N K : Int32) (hB1 : q_isShe (nsh g q) g q k1 R N K) (hI : q_I (nsh g q) q ws) (t0_0 : Int32) (hT0 : ws[k1]? = (some (q k1, .inr (1, [.ref (q (k1 + 1)), .int R, .int t0_0])) : Option (Nat × va_E))) (t1_0 : (Nat → Int64)) (hT1 : ws[k1 + 1]? = (some (q (k1 + 1), .inl (g 1, N.toNatClampNeg, .inr (.inl t1_0))) : Option (Nat × va_E))) (pre0 : t0_0.toInt + 20 ≤ K.toInt) : q_mV l y_She_addText prog_11_method_4_code 3 5 0 0 D g [.ref (q k1), .ref (g (8 + 2 * 24))] ws (fun u => q_I (nsh g q) q u ∧ q_un ws u [k1, k1 + 1] ∧ ∃ (u0_0 : Int32) (u1_0 : (Nat → Int64)), u[k1]? = (some (q k1, .inr (1, [.ref (q (k1 + 1)), .int R, .int u0_0])) : Option (Nat × va_E)) ∧ u[k1 + 1]? = (some (q (k1 + 1), .inl (g 1, N.toNatClampNeg, .inr (.inl u1_0))) : Option (Nat × va_E)) ∧ (t0_0.toInt + 8 ≤ u0_0.toInt) ∧ (u0_0.toInt ≤ t0_0.toInt + 8) ∧ (u0_0, u1_0) = (F_She_addText_24 R N K t0_0 t1_0)) := by
  intro sz
  refine q_into (by decide) (Nat.le_of_ble_eq_true rfl) ?_
  intro p e s m below meth c ls hsz C0 V hl
  have hx := C0.1
  have hb := C0.2.1
  have btt0_0 := n_shW hI hB1 hT0
  clear btt0_0
  replace pre0 : q_F (t0_0.toInt + 20 ≤ K.toInt) := pre0
  have hF : q_un ws ws [k1, k1 + 1] := q_u0
  have hl : lv_has ls 3 [(0, .ref (q k1)), (1, .ref (g (8 + 2 * 24)))] := hl
  refine lv_iconst (v := 0) hx hb d_11_4_0 (by decide) ?_
  refine lv_istore_n (lv' := [(2, .int 0), (0, .ref (q k1)), (1, .ref (g (8 + 2 * 24)))]) hx hb d_11_4_1 rfl hl (by decide) rfl (fun ls hl => ?_)
  refine q_loop (X := Int32 × Int32 × (Nat → Int64)) (fun z H locs ls w15 => q_F (z.1.toInt ≤ 8) ∧ q_F (t0_0.toInt ≤ z.1.toInt + z.2.1.toInt) ∧ q_F (z.2.1.toInt ≤ z.1.toInt + t0_0.toInt) ∧ q_F (z.1.toInt + t0_0.toInt ≤ z.2.1.toInt) ∧ q_Wd D g (va_A ws sz) s w15 H locs ∧ lv_has ls 3 [(2, .int z.1), (0, .ref (q k1)), (1, .ref (g (8 + 2 * 24)))] ∧ q_I (nsh g q) q w15 ∧ q_un ws w15 [k1, k1 + 1] ∧ w15[k1]? = (some (q k1, .inr (1, [.ref (q (k1 + 1)), .int R, .int z.2.1])) : Option (Nat × va_E)) ∧ w15[k1 + 1]? = (some (q (k1 + 1), .inl (g 1, N.toNatClampNeg, .inr (.inl z.2.2))) : Option (Nat × va_E)) ∧ (∃ n, (8 - z.1.toInt).toNat < n ∧ F_She_addText_24_L2 R N K t0_0 t1_0 n z.1 z.2.1 z.2.2 = (F_She_addText_24 R N K t0_0 t1_0))) (fun z => (8 - z.1.toInt).toNat) ?_ ((0 : Int32), (t0_0 : Int32), (t1_0 : (Nat → Int64))) _ _ _ ws ⟨(show q_F (0 ≤ 8) from (show 0 ≤ 8 from by omega)), (show q_F (t0_0.toInt ≤ 0 + t0_0.toInt) from (show t0_0.toInt ≤ 0 + t0_0.toInt from by omega)), (show q_F (t0_0.toInt ≤ 0 + t0_0.toInt) from (show t0_0.toInt ≤ 0 + t0_0.toInt from by omega)), (show q_F (0 + t0_0.toInt ≤ t0_0.toInt) from (show 0 + t0_0.toInt ≤ t0_0.toInt from by omega)), V, q_lw hl (q_lw1 0 rfl (q_lw1 1 rfl (q_lw1 2 rfl q_lw0))), hI, hF, hT0, hT1, ⟨((8 - (0 : Int32).toInt).toNat + 1), Nat.lt_succ_self _, (show F_She_addText_24_L2 R N K t0_0 t1_0 ((8 - (0 : Int32).toInt).toNat + 1) 0 t0_0 t1_0 = (F_She_addText_24 R N K t0_0 t1_0) from (by rw [F_She_addText_24.eq_1]))⟩⟩
  rintro ⟨lx7, lx8, lx9⟩ H locs ls w15 ⟨i10, i11, i12, i13, V, hl, hI, hF, hO16, hO17, ⟨fu20, hf21, hR18⟩⟩ ih14
  obtain ⟨fm22, rfl⟩ : ∃ m, fu20 = m + 1 := ⟨fu20 - 1, by omega⟩
  replace i10 : q_F (lx7.toInt ≤ 8) := i10
  replace i11 : q_F (t0_0.toInt ≤ lx7.toInt + lx8.toInt) := i11
  replace i12 : q_F (lx8.toInt ≤ lx7.toInt + t0_0.toInt) := i12
  replace i13 : q_F (lx7.toInt + t0_0.toInt ≤ lx8.toInt) := i13
  replace hl : lv_has ls 3 [(2, .int lx7), (0, .ref (q k1)), (1, .ref (g (8 + 2 * 24)))] := hl
  replace hO16 : w15[k1]? = (some (q k1, .inr (1, [.ref (q (k1 + 1)), .int R, .int lx8])) : Option (Nat × va_E)) := hO16
  replace hO17 : w15[k1 + 1]? = (some (q (k1 + 1), .inl (g 1, N.toNatClampNeg, .inr (.inl lx9))) : Option (Nat × va_E)) := hO17
  refine lv_iload_n hx hb d_11_4_2 rfl (lv_at hl 0 rfl) ?_
  refine lv_aload_n hx hb d_11_4_3 rfl (lv_at hl 2 rfl) ?_
  refine q_goi V (q_runVs (As := []) (rest := [.int lx7]) (d := 2) (mc := 0) (ms := 0) (i := 24) C0 V rfl LV_She_24 (X_jStr_length_24 l D g q w15   hI   _) rfl rfl rfl hl.1 rfl (Nat.le_of_ble_eq_true rfl) ⟨by decide, by decide⟩ ⟨Nat.le_of_ble_eq_true rfl, Nat.le_of_ble_eq_true rfl⟩ d_11_4_4) (fun a25 u23 H locs hp24 V => ?_)
  obtain ⟨rfl, b26, b27, hE28⟩ := hp24
  have e29 : a25 = (F_jStr_length_24) := hE28
  replace b26 : q_F (8 ≤ a25.toInt) := b26
  replace b27 : q_F (a25.toInt ≤ 8) := b27
  obtain rfl : a25 = (8 : Int32) := q_Ieq (x := a25.toInt) (y := 8) rfl (by decide) (by have t1 : 8 ≤ a25.toInt := b26; have t2 : a25.toInt ≤ 8 := b27; omega)
  refine lv_icmp_ge (tgt := 25) hx hb d_11_4_7 (by decide) (fun c30 => ?_) (fun c30 => ?_)
  ·
    have b31 : q_F (8 ≤ lx7.toInt) := (q_leI c30)
    exact q_retv C0 V (⟨hI, hF, lx8, lx9, hO16, hO17, (show t0_0.toInt + 8 ≤ lx8.toInt from (by have t1 : lx7.toInt + t0_0.toInt ≤ lx8.toInt := i13; have t2 : 8 ≤ lx7.toInt := b31; omega)), (show lx8.toInt ≤ t0_0.toInt + 8 from (by have t1 : lx7.toInt ≤ 8 := i10; have t2 : lx8.toInt ≤ lx7.toInt + t0_0.toInt := i12; omega)), (show (lx8, lx9) = (F_She_addText_24 R N K t0_0 t1_0) from Eq.trans (by rw [F_She_addText_24_L2.eq_2, if_pos c30]) hR18)⟩) d_11_4_25
  ·
    have b32 : q_F (lx7.toInt < 8) := (q_nleI c30)
    refine lv_aload_n hx hb d_11_4_10 rfl (lv_at hl 1 rfl) ?_
    refine lv_aload_n hx hb d_11_4_11 rfl (lv_at hl 2 rfl) ?_
    refine lv_iload_n hx hb d_11_4_12 rfl (lv_at hl 0 rfl) ?_
    refine q_goi V (q_runVs (As := [.int lx7]) (rest := [.ref (q k1)]) (d := 4) (mc := 0) (ms := 0) (i := 24) C0 V rfl LV_She_30 (X_jStr_charAt_24 l D g q w15  lx7 hI  (by have t1 : t0_0.toInt ≤ lx7.toInt + lx8.toInt := i11; have t2 : lx8.toInt ≤ lx7.toInt + t0_0.toInt := i12; omega) (by first | with_reducible exact q_fe b32 | (have t1 : lx7.toInt < 8 := b32; omega)) _) rfl rfl rfl hl.1 rfl (Nat.le_of_ble_eq_true rfl) ⟨by decide, by decide⟩ ⟨Nat.le_of_ble_eq_true rfl, Nat.le_of_ble_eq_true rfl⟩ d_11_4_13) (fun a35 u33 H locs hp34 V => ?_)
    obtain ⟨rfl, b36, b37, hE38⟩ := hp34
    have e39 : a35 = (F_jStr_charAt_24 lx7) := hE38
    clear b36
    clear b37
    refine q_gov V (q_runV (As := [.int a35]) (rest := []) (d := 1) (mc := 0) (ms := 0) (ci := 1) C0 V rfl LV_She_34 (X_She_add_p l D g q w15 k1 R N K hB1 a35 hI lx8 hO16 lx9 hO17 (by have t1 : t0_0.toInt + 20 ≤ K.toInt := pre0; have t2 : lx7.toInt ≤ 8 := i10; have t3 : lx8.toInt ≤ lx7.toInt + t0_0.toInt := i12; omega) _) rfl rfl hO16 rfl hl.1 rfl (Nat.le_of_ble_eq_true rfl) ⟨by decide, by decide⟩ ⟨Nat.le_of_ble_eq_true rfl, Nat.le_of_ble_eq_true rfl⟩ d_11_4_16) (fun u40 H locs hp41 V => ?_)
    obtain ⟨hI, hZ9⟩ := hp41
    obtain ⟨hu49, hZ9⟩ := hZ9
    obtain ⟨y43, hZ9⟩ := hZ9
    obtain ⟨f44, hZ9⟩ := hZ9
    obtain ⟨hO42, hZ9⟩ := hZ9
    obtain ⟨hA45, hZ9⟩ := hZ9
    obtain ⟨b46, hZ9⟩ := hZ9
    obtain ⟨b47, hE48⟩ := hZ9
    replace hO42 : u40[k1]? = (some (q k1, .inr (1, [.ref (q (k1 + 1)), .int R, .int y43])) : Option (Nat × va_E)) := hO42
    replace hA45 : u40[k1 + 1]? = (some (q (k1 + 1), .inl (g 1, N.toNatClampNeg, .inr (.inl f44))) : Option (Nat × va_E)) := hA45
    obtain ⟨p50, e51⟩ : ∃ z, z = (F_She_add_p R N K a35 lx8 lx9) := ⟨_, rfl⟩
    have e52 : y43 = p50.1 := congrArg (fun z => z.1) (hE48.trans e51.symm)
    have e53 : f44 = p50.2 := congrArg (fun z => z.2) (hE48.trans e51.symm)
    replace b46 : q_F (lx8.toInt + 1 ≤ y43.toInt) := b46
    replace b47 : q_F (y43.toInt ≤ lx8.toInt + 1) := b47
    replace hF := q_uc hF hu49 (by first | exact (q_sk (q_mi 0 rfl) (q_sk (q_mi 1 rfl) q_s0)) | simp)
    have hR54 := (show F_She_addText_24_c16 (F_She_addText_24_L2 R N K t0_0 t1_0 fm22) R N K t0_0 t1_0 lx7 lx8 lx9 p50 = (F_She_addText_24 R N K t0_0 t1_0) from Eq.trans (by rw [e51, e39, F_She_addText_24_L2.eq_2, if_neg c30]) hR18)
    obtain ⟨a59, e60⟩ := q_nm (lx7 + 1 : Int32)
    have b61 : q_F (a59.toInt = lx7.toInt + 1) := (by rw [← e60]; exact q_addI (y := 1) rfl (by decide) (by have t1 : t0_0.toInt ≤ lx7.toInt + lx8.toInt := i11; have t2 : lx8.toInt ≤ lx7.toInt + t0_0.toInt := i12; have t3 : lx7.toInt ≤ 8 := i10; omega) (by have t1 : t0_0.toInt ≤ lx7.toInt + lx8.toInt := i11; have t2 : lx8.toInt ≤ lx7.toInt + t0_0.toInt := i12; have t3 : lx7.toInt ≤ 8 := i10; omega))
    refine lv_iinc (v := a59) (lv' := [(2, .int a59), (0, .ref (q k1)), (1, .ref (g (8 + 2 * 24)))]) hx hb d_11_4_19 hl (k := 0) rfl (e60) (by decide) rfl (fun ls hl => ?_)
    refine lv_goto (tgt := 2) hx hb d_11_4_22 (by decide) ?_
    exact ih14 ((a59 : Int32), (y43 : Int32), (f44 : (Nat → Int64))) _ _ _ _ (show (8 - a59.toInt).toNat < (8 - lx7.toInt).toNat from by have t1 : a59.toInt = lx7.toInt + 1 := b61; have t2 : lx7.toInt ≤ 8 := i10; have t3 : lx7.toInt < 8 := b32; omega) ⟨(show q_F (a59.toInt ≤ 8) from (show a59.toInt ≤ 8 from by have t1 : lx7.toInt < 8 := b32; have t2 : a59.toInt = lx7.toInt + 1 := b61; omega)), (show q_F (t0_0.toInt ≤ a59.toInt + y43.toInt) from (show t0_0.toInt ≤ a59.toInt + y43.toInt from by have t1 : t0_0.toInt ≤ lx7.toInt + lx8.toInt := i11; have t2 : lx8.toInt + 1 ≤ y43.toInt := b46; have t3 : a59.toInt = lx7.toInt + 1 := b61; omega)), (show q_F (y43.toInt ≤ a59.toInt + t0_0.toInt) from (show y43.toInt ≤ a59.toInt + t0_0.toInt from by have t1 : lx8.toInt ≤ lx7.toInt + t0_0.toInt := i12; have t2 : y43.toInt ≤ lx8.toInt + 1 := b47; have t3 : a59.toInt = lx7.toInt + 1 := b61; omega)), (show q_F (a59.toInt + t0_0.toInt ≤ y43.toInt) from (show a59.toInt + t0_0.toInt ≤ y43.toInt from by have t1 : lx7.toInt + t0_0.toInt ≤ lx8.toInt := i13; have t2 : lx8.toInt + 1 ≤ y43.toInt := b46; have t3 : a59.toInt = lx7.toInt + 1 := b61; omega)), V, q_lw hl (q_lw1 0 rfl (q_lw1 1 rfl (q_lw1 2 rfl q_lw0))), hI, hF, hO42, hA45, ⟨fm22, Nat.lt_of_lt_of_le (show (8 - a59.toInt).toNat < (8 - lx7.toInt).toNat from by have t1 : a59.toInt = lx7.toInt + 1 := b61; have t2 : lx7.toInt ≤ 8 := i10; have t3 : lx7.toInt < 8 := b32; omega) (Nat.le_of_lt_succ hf21), (show F_She_addText_24_L2 R N K t0_0 t1_0 fm22 a59 y43 f44 = (F_She_addText_24 R N K t0_0 t1_0) from Eq.trans (by rw [← e60, e53, e52, F_She_addText_24_c16.eq_1]) hR54)⟩⟩

