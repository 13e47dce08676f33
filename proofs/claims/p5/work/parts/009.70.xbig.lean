/-! Big, exactly -/
def F_Big_clear (R : Int32) (t0_0 : Int32) (t0_1 : Int32) : Int32 × Int32 := ((0 : Int32), (0 : Int32))
set_option maxRecDepth 100000 in
set_option maxHeartbeats 4000000 in
theorem X_Big_clear (l : Launch) (D : va_G) (g : Nat → ClassId) (q : Nat → Nat) (ws : va_W) (k1 : Nat) (R : Int32) (hB1 : q_isBig (nsh g q) g q k1 R) (zk1 : (10 ≤ k1 ∧ k1 ≤ 32) ∨ 66 ≤ k1) (hI : q_I (nsh g q) q ws) (t0_0 : Int32) (t0_1 : Int32) (hT0 : ws[k1]? = (some (q k1, .inr (2, [.ref (q (k1 + 1)), .int t0_0, .int t0_1])) : Option (Nat × va_E))) : q_mV l y_Big_clear prog_2_method_2_code 1 1 0 0 D g [.ref (q k1)] ws (fun u => q_I (nsh g q) q u ∧ q_un ws u [k1] ∧ ∃ (u0_0 : Int32) (u0_1 : Int32), u[k1]? = (some (q k1, .inr (2, [.ref (q (k1 + 1)), .int u0_0, .int u0_1])) : Option (Nat × va_E)) ∧ (0 ≤ u0_1.toInt) ∧ (u0_1.toInt ≤ 0) ∧ (u0_1.toInt ≤ u0_0.toInt) ∧ (u0_0.toInt ≤ u0_1.toInt) ∧ (u0_0, u0_1) = (F_Big_clear R t0_0 t0_1)) := by
  intro sz
  refine q_into (by decide) (Nat.le_of_ble_eq_true rfl) ?_
  intro p e s m below meth c ls hsz C0 V hl
  have hx := C0.1
  have hb := C0.2.1
  have hfk10 : q_F (0 ≤ R.toInt ∧ R.toInt ≤ 220) := hB1.2.2
  have btt0_1 := (q_bigW hI hB1 hT0).2
  replace btt0_1 : q_F (0 ≤ t0_1.toInt ∧ t0_1.toInt ≤ 1) := btt0_1
  have hF : q_un ws ws [k1] := q_u0
  have hl : lv_has ls 1 [(0, .ref (q k1))] := hl
  refine lv_aload_n hx hb d_2_2_0 rfl (lv_at hl 0 rfl) ?_
  refine lv_iconst (v := 0) hx hb d_2_2_1 (by decide) ?_
  refine q_put (ci := 2) (j := 1) (v := .int 0) (ty := .int) C0 V i_Big o_Big n_Big rfl rfl hT0 (by decide) w_85 rfl rfl rfl rfl (Nat.le_of_ble_eq_true rfl) d_2_2_2 (fun H locs w6 hu7 hT0 V => ?_)
  replace hT0 : w6[k1]? = (some (q k1, .inr (2, [.ref (q (k1 + 1)), .int 0, .int t0_1])) : Option (Nat × va_E)) := hT0
  replace hI := q_bigO' hI hB1 hu7 hT0 ⟨(by have z9 : (0 : Int32).toInt = 0 := rfl; omega), (by have z9 : (0 : Int32).toInt = 0 := rfl; have t1 : 0 ≤ R.toInt ∧ R.toInt ≤ 220 := hfk10; omega)⟩ (by first | with_reducible exact q_fe btt0_1 | exact ⟨(by have t1 : 0 ≤ t0_1.toInt ∧ t0_1.toInt ≤ 1 := btt0_1; omega), (by have t1 : 0 ≤ t0_1.toInt ∧ t0_1.toInt ≤ 1 := btt0_1; omega)⟩)
  replace hF := q_us hF hu7 (by simp)
  refine lv_aload_n hx hb d_2_2_5 rfl (lv_at hl 0 rfl) ?_
  refine lv_iconst (v := 0) hx hb d_2_2_6 (by decide) ?_
  refine q_put (ci := 2) (j := 2) (v := .int 0) (ty := .boolean) C0 V i_Big o_Big n_Big rfl rfl hT0 (by decide) w_94 rfl rfl rfl rfl (Nat.le_of_ble_eq_true rfl) d_2_2_7 (fun H locs w8 hu9 hT0 V => ?_)
  replace hT0 : w8[k1]? = (some (q k1, .inr (2, [.ref (q (k1 + 1)), .int 0, .int 0])) : Option (Nat × va_E)) := hT0
  replace hI := q_bigO' hI hB1 hu9 hT0 ⟨(by have z9 : (0 : Int32).toInt = 0 := rfl; omega), (by have z9 : (0 : Int32).toInt = 0 := rfl; have t1 : 0 ≤ R.toInt ∧ R.toInt ≤ 220 := hfk10; omega)⟩ ⟨(by have z9 : (0 : Int32).toInt = 0 := rfl; omega), (by have z9 : (0 : Int32).toInt = 0 := rfl; omega)⟩
  replace hF := q_us hF hu9 (by simp)
  exact q_retv C0 V (⟨hI, hF, 0, 0, hT0, (show 0 ≤ (0 : Int32).toInt from (by have z3 : (0 : Int32).toInt = 0 := rfl; have z4 : (0 : Int32).toInt = 0 := rfl; omega)), (show (0 : Int32).toInt ≤ 0 from (by have z3 : (0 : Int32).toInt = 0 := rfl; have z4 : (0 : Int32).toInt = 0 := rfl; omega)), (show (0 : Int32).toInt ≤ (0 : Int32).toInt from (by have z3 : (0 : Int32).toInt = 0 := rfl; have z4 : (0 : Int32).toInt = 0 := rfl; omega)), (show (0 : Int32).toInt ≤ (0 : Int32).toInt from (by have z3 : (0 : Int32).toInt = 0 := rfl; have z4 : (0 : Int32).toInt = 0 := rfl; omega)), (show ((0 : Int32), (0 : Int32)) = (F_Big_clear R t0_0 t0_1) from (by rw [F_Big_clear.eq_1]))⟩) d_2_2_10
def F_Big_limb (R : Int32) (x2 : Int32) (t0_0 : Int32) (t0_1 : Int32) (t1_0 : (Nat → Int32)) : Int32 := if x2 < (0 : Int32) then ((0 : Int32)) else (if t0_0 ≤ x2 then ((0 : Int32)) else ((t1_0 x2.toNatClampNeg : Int32)))
set_option maxRecDepth 100000 in
set_option maxHeartbeats 4000000 in
theorem X_Big_limb (l : Launch) (D : va_G) (g : Nat → ClassId) (q : Nat → Nat) (ws : va_W) (k1 : Nat) (R : Int32) (hB1 : q_isBig (nsh g q) g q k1 R) (zk1 : (10 ≤ k1 ∧ k1 ≤ 32) ∨ 66 ≤ k1) (x2 : Int32) (hI : q_I (nsh g q) q ws) (t0_0 : Int32) (t0_1 : Int32) (hT0 : ws[k1]? = (some (q k1, .inr (2, [.ref (q (k1 + 1)), .int t0_0, .int t0_1])) : Option (Nat × va_E))) (t1_0 : (Nat → Int32)) (hT1 : ws[k1 + 1]? = (some (q (k1 + 1), .inl (g 0, R.toNatClampNeg, .inl t1_0)) : Option (Nat × va_E))) : q_mI l y_Big_limb prog_2_method_5_code 2 (.int) 1 0 0 D g [.ref (q k1), .int x2] ws (fun r u => ws = u ∧ r = (F_Big_limb R x2 t0_0 t0_1 t1_0)) := by
  intro sz
  refine q_into (by decide) (Nat.le_of_ble_eq_true rfl) ?_
  intro p e s m below meth c ls hsz C0 V hl
  have hx := C0.1
  have hb := C0.2.1
  have hfk10 : q_F (0 ≤ R.toInt ∧ R.toInt ≤ 220) := hB1.2.2
  have btt0_0 := (q_bigW hI hB1 hT0).1
  replace btt0_0 : q_F (0 ≤ t0_0.toInt ∧ t0_0.toInt ≤ R.toInt) := btt0_0
  have hl : lv_has ls 2 [(0, .ref (q k1)), (1, .int x2)] := hl
  refine lv_iload_n hx hb d_2_5_0 rfl (lv_at hl 1 rfl) ?_
  refine lv_if_lt (tgt := 21) hx hb d_2_5_1 (by decide) (fun c9 => ?_) (fun c9 => ?_)
  ·
    refine lv_iconst (v := 0) hx hb d_2_5_21 (by decide) ?_
    exact q_reti C0 V (⟨rfl, (show (0 : Int32) = (F_Big_limb R x2 t0_0 t0_1 t1_0) from (by rw [F_Big_limb.eq_1, if_pos c9]))⟩) d_2_5_22
  ·
    have b11 : q_F (0 ≤ x2.toInt) := (q_nltI c9)
    refine lv_iload_n hx hb d_2_5_4 rfl (lv_at hl 1 rfl) ?_
    refine lv_aload_n hx hb d_2_5_5 rfl (lv_at hl 0 rfl) ?_
    refine q_get (ci := 2) (j := 1) (v := .int t0_0) C0 V i_Big rfl rfl hT0 (by decide) w_85 rfl d_2_5_6 ?_
    refine lv_icmp_ge (tgt := 21) hx hb d_2_5_9 (by decide) (fun c12 => ?_) (fun c12 => ?_)
    ·
      refine lv_iconst (v := 0) hx hb d_2_5_21 (by decide) ?_
      exact q_reti C0 V (⟨rfl, (show (0 : Int32) = (F_Big_limb R x2 t0_0 t0_1 t1_0) from (by rw [F_Big_limb.eq_1, if_neg c9, if_pos c12]))⟩) d_2_5_22
    ·
      have b14 : q_F (x2.toInt < t0_0.toInt) := (q_nleI c12)
      refine lv_aload_n hx hb d_2_5_12 rfl (lv_at hl 0 rfl) ?_
      refine q_get (ci := 2) (j := 0) (v := .ref (q (k1 + 1))) C0 V i_Big rfl rfl hT0 (by decide) w_84 rfl d_2_5_13 ?_
      refine lv_iload_n hx hb d_2_5_16 rfl (lv_at hl 1 rfl) ?_
      refine q_iald C0 V hT1 (q_ix (x := x2.toInt) rfl (by first | with_reducible exact q_fe b11 | (have t1 : 0 ≤ x2.toInt := b11; omega)) (by have t1 : 0 ≤ x2.toInt := b11; have t2 : 0 ≤ t0_0.toInt ∧ t0_0.toInt ≤ R.toInt := btt0_0; have t3 : x2.toInt < t0_0.toInt := b14; have e9 := q_clI (i := R) rfl (by first | with_reducible exact (q_fe hfk10).2 | with_reducible exact (q_fe hfk10).1 | (have t1 : 0 ≤ R.toInt ∧ R.toInt ≤ 220 := hfk10; omega)); omega)) d_2_5_17 ?_
      obtain ⟨a15, e16⟩ := q_nm (t1_0 x2.toNatClampNeg : Int32)
      refine q_ti (v := a15) e16 ?_
      refine lv_goto (tgt := 22) hx hb d_2_5_18 (by decide) ?_
      exact q_reti C0 V (⟨rfl, (show a15 = (F_Big_limb R x2 t0_0 t0_1 t1_0) from (by subst e16; rw [F_Big_limb.eq_1, if_neg c9, if_neg c12]))⟩) d_2_5_22
def F_Big_push (R : Int32) (x2 : Int32) (t0_0 : Int32) (t0_1 : Int32) (t1_0 : (Nat → Int32)) : Int32 × Int32 × (Nat → Int32) := if R ≤ t0_0 then ((t0_0, t0_1, t1_0)) else (((t0_0 + 1 : Int32), t0_1, (upd t1_0 t0_0.toNatClampNeg x2 : (Nat → Int32))))
set_option maxRecDepth 100000 in
set_option maxHeartbeats 4000000 in
theorem X_Big_push (l : Launch) (D : va_G) (g : Nat → ClassId) (q : Nat → Nat) (ws : va_W) (k1 : Nat) (R : Int32) (hB1 : q_isBig (nsh g q) g q k1 R) (zk1 : (10 ≤ k1 ∧ k1 ≤ 32) ∨ 66 ≤ k1) (x2 : Int32) (hI : q_I (nsh g q) q ws) (t0_0 : Int32) (t0_1 : Int32) (hT0 : ws[k1]? = (some (q k1, .inr (2, [.ref (q (k1 + 1)), .int t0_0, .int t0_1])) : Option (Nat × va_E))) (t1_0 : (Nat → Int32)) (hT1 : ws[k1 + 1]? = (some (q (k1 + 1), .inl (g 0, R.toNatClampNeg, .inl t1_0)) : Option (Nat × va_E))) : q_mV l y_Big_push prog_2_method_6_code 2 1 0 0 D g [.ref (q k1), .int x2] ws (fun u => q_I (nsh g q) q u ∧ q_un ws u [k1, k1 + 1] ∧ ∃ (u0_0 : Int32) (u0_1 : Int32) (u1_0 : (Nat → Int32)), u[k1]? = (some (q k1, .inr (2, [.ref (q (k1 + 1)), .int u0_0, .int u0_1])) : Option (Nat × va_E)) ∧ u[k1 + 1]? = (some (q (k1 + 1), .inl (g 0, R.toNatClampNeg, .inl u1_0)) : Option (Nat × va_E)) ∧ (t0_0.toInt ≤ u0_0.toInt) ∧ (u0_0.toInt ≤ t0_0.toInt + 1) ∧ (R.toInt ≤ u0_0.toInt + 219) ∧ (u0_0.toInt ≤ R.toInt) ∧ (t0_1.toInt ≤ u0_1.toInt) ∧ (u0_1.toInt ≤ t0_1.toInt) ∧ (u0_0, u0_1, u1_0) = (F_Big_push R x2 t0_0 t0_1 t1_0)) := by
  intro sz
  refine q_into (by decide) (Nat.le_of_ble_eq_true rfl) ?_
  intro p e s m below meth c ls hsz C0 V hl
  have hx := C0.1
  have hb := C0.2.1
  have hfk10 : q_F (0 ≤ R.toInt ∧ R.toInt ≤ 220) := hB1.2.2
  obtain ⟨btt0_0, btt0_1⟩ := q_bigW hI hB1 hT0
  replace btt0_0 : q_F (0 ≤ t0_0.toInt ∧ t0_0.toInt ≤ R.toInt) := btt0_0
  replace btt0_1 : q_F (0 ≤ t0_1.toInt ∧ t0_1.toInt ≤ 1) := btt0_1
  have hF : q_un ws ws [k1, k1 + 1] := q_u0
  have hl : lv_has ls 2 [(0, .ref (q k1)), (1, .int x2)] := hl
  refine lv_aload_n hx hb d_2_6_0 rfl (lv_at hl 0 rfl) ?_
  refine q_get (ci := 2) (j := 1) (v := .int t0_0) C0 V i_Big rfl rfl hT0 (by decide) w_85 rfl d_2_6_1 ?_
  refine lv_aload_n hx hb d_2_6_4 rfl (lv_at hl 0 rfl) ?_
  refine q_get (ci := 2) (j := 0) (v := .ref (q (k1 + 1))) C0 V i_Big rfl rfl hT0 (by decide) w_84 rfl d_2_6_5 ?_
  refine q_alen (t := 0) (v := R) C0 V hT1 rfl (s_len (by first | with_reducible exact (q_fe hfk10).2 | with_reducible exact (q_fe hfk10).1 | (have t1 : 0 ≤ R.toInt ∧ R.toInt ≤ 220 := hfk10; omega))) d_2_6_8 ?_
  refine lv_icmp_ge (tgt := 32) hx hb d_2_6_9 (by decide) (fun c9 => ?_) (fun c9 => ?_)
  ·
    have b10 : q_F (R.toInt ≤ t0_0.toInt) := (q_leI c9)
    exact q_retv C0 V (⟨hI, hF, t0_0, t0_1, t1_0, hT0, hT1, (show t0_0.toInt ≤ t0_0.toInt from (by omega)), (show t0_0.toInt ≤ t0_0.toInt + 1 from (by omega)), (show R.toInt ≤ t0_0.toInt + 219 from (by first | with_reducible exact q_fe b10 | (have t1 : R.toInt ≤ t0_0.toInt := b10; omega))), (show t0_0.toInt ≤ R.toInt from (by first | with_reducible exact (q_fe btt0_0).2 | with_reducible exact (q_fe btt0_0).1 | (have t1 : 0 ≤ t0_0.toInt ∧ t0_0.toInt ≤ R.toInt := btt0_0; omega))), (show t0_1.toInt ≤ t0_1.toInt from (by omega)), (show t0_1.toInt ≤ t0_1.toInt from (by omega)), (show (t0_0, t0_1, t1_0) = (F_Big_push R x2 t0_0 t0_1 t1_0) from (by rw [F_Big_push.eq_1, if_pos c9]))⟩) d_2_6_32
  ·
    have b11 : q_F (t0_0.toInt < R.toInt) := (q_nleI c9)
    refine lv_aload_n hx hb d_2_6_12 rfl (lv_at hl 0 rfl) ?_
    refine q_get (ci := 2) (j := 0) (v := .ref (q (k1 + 1))) C0 V i_Big rfl rfl hT0 (by decide) w_84 rfl d_2_6_13 ?_
    refine lv_aload_n hx hb d_2_6_16 rfl (lv_at hl 0 rfl) ?_
    refine q_get (ci := 2) (j := 1) (v := .int t0_0) C0 V i_Big rfl rfl hT0 (by decide) w_85 rfl d_2_6_17 ?_
    refine lv_iload_n hx hb d_2_6_20 rfl (lv_at hl 1 rfl) ?_
    refine q_iast C0 V hT1 (q_ix (x := t0_0.toInt) rfl (by first | with_reducible exact (q_fe btt0_0).2 | with_reducible exact (q_fe btt0_0).1 | (have t1 : 0 ≤ t0_0.toInt ∧ t0_0.toInt ≤ R.toInt := btt0_0; omega)) (by have t1 : 0 ≤ t0_0.toInt ∧ t0_0.toInt ≤ R.toInt := btt0_0; have t2 : t0_0.toInt < R.toInt := b11; have e9 := q_clI (i := R) rfl (by first | with_reducible exact (q_fe hfk10).2 | with_reducible exact (q_fe hfk10).1 | (have t1 : 0 ≤ R.toInt ∧ R.toInt ≤ 220 := hfk10; omega)); omega)) d_2_6_21 (fun H locs w12 hu13 hT1 V => ?_)
    replace hI := q_bigA' hI hB1 hu13 hT1 (q_updB (fun _ => s_bnd) s_bnd)
    replace hT0 := (hu13 _ (by omega)).trans hT0
    replace hF := q_us hF hu13 (by simp)
    obtain ⟨f14, e15⟩ := q_nm (upd t1_0 t0_0.toNatClampNeg x2 : (Nat → Int32))
    rw [e15] at hT1
    refine lv_aload_n hx hb d_2_6_22 rfl (lv_at hl 0 rfl) ?_
    refine lv_dup hx hb d_2_6_23 rfl ?_
    refine q_get (ci := 2) (j := 1) (v := .int t0_0) C0 V i_Big rfl rfl hT0 (by decide) w_85 rfl d_2_6_24 ?_
    refine lv_iconst (v := 1) hx hb d_2_6_27 (by decide) ?_
    refine lv_iadd hx hb d_2_6_28 ?_
    obtain ⟨a16, e17⟩ := q_nm (t0_0 + 1 : Int32)
    refine q_ti (v := a16) e17 ?_
    have b18 : q_F (a16.toInt = t0_0.toInt + 1) := (by rw [← e17]; show (t0_0 + 1 : Int32).toInt = t0_0.toInt + 1; exact q_addI (x := t0_0.toInt) (y := 1) rfl (by decide) (by have t1 : 0 ≤ t0_0.toInt ∧ t0_0.toInt ≤ R.toInt := btt0_0; have t2 : t0_0.toInt < R.toInt := b11; have _ := q_lo32 (x := R); have _ := q_hi32 (x := R); omega) (by have t1 : 0 ≤ t0_0.toInt ∧ t0_0.toInt ≤ R.toInt := btt0_0; have t2 : t0_0.toInt < R.toInt := b11; have _ := q_lo32 (x := R); have _ := q_hi32 (x := R); omega))
    refine q_put (ci := 2) (j := 1) (v := .int a16) (ty := .int) C0 V i_Big o_Big n_Big rfl rfl hT0 (by decide) w_85 rfl rfl rfl rfl (Nat.le_of_ble_eq_true rfl) d_2_6_29 (fun H locs w19 hu20 hT0 V => ?_)
    replace hT0 : w19[k1]? = (some (q k1, .inr (2, [.ref (q (k1 + 1)), .int a16, .int t0_1])) : Option (Nat × va_E)) := hT0
    replace hI := q_bigO' hI hB1 hu20 hT0 ⟨(by have t1 : 0 ≤ t0_0.toInt ∧ t0_0.toInt ≤ R.toInt := btt0_0; have t2 : a16.toInt = t0_0.toInt + 1 := b18; omega), (by have t1 : t0_0.toInt < R.toInt := b11; have t2 : a16.toInt = t0_0.toInt + 1 := b18; omega)⟩ (by first | with_reducible exact q_fe btt0_1 | exact ⟨(by have t1 : 0 ≤ t0_1.toInt ∧ t0_1.toInt ≤ 1 := btt0_1; omega), (by have t1 : 0 ≤ t0_1.toInt ∧ t0_1.toInt ≤ 1 := btt0_1; omega)⟩)
    replace hT1 := (hu20 _ (by omega)).trans hT1
    replace hF := q_us hF hu20 (by simp)
    exact q_retv C0 V (⟨hI, hF, a16, t0_1, f14, hT0, hT1, (show t0_0.toInt ≤ a16.toInt from (by first | with_reducible exact q_fe b18 | (have t1 : a16.toInt = t0_0.toInt + 1 := b18; omega))), (show a16.toInt ≤ t0_0.toInt + 1 from (by first | with_reducible exact q_fe b18 | (have t1 : a16.toInt = t0_0.toInt + 1 := b18; omega))), (show R.toInt ≤ a16.toInt + 219 from (by have t1 : 0 ≤ R.toInt ∧ R.toInt ≤ 220 := hfk10; have t2 : 0 ≤ t0_0.toInt ∧ t0_0.toInt ≤ R.toInt := btt0_0; have t3 : a16.toInt = t0_0.toInt + 1 := b18; omega)), (show a16.toInt ≤ R.toInt from (by have t1 : t0_0.toInt < R.toInt := b11; have t2 : a16.toInt = t0_0.toInt + 1 := b18; omega)), (show t0_1.toInt ≤ t0_1.toInt from (by omega)), (show t0_1.toInt ≤ t0_1.toInt from (by omega)), (show (a16, t0_1, f14) = (F_Big_push R x2 t0_0 t0_1 t1_0) from (by subst e15; subst e17; rw [F_Big_push.eq_1, if_neg c9]))⟩) d_2_6_32
def F_Big_sign (R : Int32) (t0_0 : Int32) (t0_1 : Int32) : Int32 := if t0_0 = (0 : Int32) then ((0 : Int32)) else (if t0_1 = (0 : Int32) then ((1 : Int32)) else ((-1 : Int32)))
set_option maxRecDepth 100000 in
set_option maxHeartbeats 4000000 in
theorem X_Big_sign (l : Launch) (D : va_G) (g : Nat → ClassId) (q : Nat → Nat) (ws : va_W) (k1 : Nat) (R : Int32) (hB1 : q_isBig (nsh g q) g q k1 R) (zk1 : (10 ≤ k1 ∧ k1 ≤ 32) ∨ 66 ≤ k1) (hI : q_I (nsh g q) q ws) (t0_0 : Int32) (t0_1 : Int32) (hT0 : ws[k1]? = (some (q k1, .inr (2, [.ref (q (k1 + 1)), .int t0_0, .int t0_1])) : Option (Nat × va_E))) : q_mI l y_Big_sign prog_2_method_8_code 1 (.int) 1 0 0 D g [.ref (q k1)] ws (fun r u => ws = u ∧ (0 ≤ r.toInt + 1) ∧ (r.toInt ≤ 1) ∧ (r.toInt ≤ t0_0.toInt) ∧ r = (F_Big_sign R t0_0 t0_1)) := by
  intro sz
  refine q_into (by decide) (Nat.le_of_ble_eq_true rfl) ?_
  intro p e s m below meth c ls hsz C0 V hl
  have hx := C0.1
  have hb := C0.2.1
  have btt0_0 := (q_bigW hI hB1 hT0).1
  replace btt0_0 : q_F (0 ≤ t0_0.toInt ∧ t0_0.toInt ≤ R.toInt) := btt0_0
  have hl : lv_has ls 1 [(0, .ref (q k1))] := hl
  refine lv_aload_n hx hb d_2_8_0 rfl (lv_at hl 0 rfl) ?_
  refine q_get (ci := 2) (j := 1) (v := .int t0_0) C0 V i_Big rfl rfl hT0 (by decide) w_85 rfl d_2_8_1 ?_
  refine lv_if_ne (tgt := 11) hx hb d_2_8_4 (by decide) (fun c6 => ?_) (fun c6 => ?_)
  ·
    have b7 : q_F (t0_0.toInt ≠ 0) := (q_neI c6)
    refine lv_aload_n hx hb d_2_8_11 rfl (lv_at hl 0 rfl) ?_
    refine q_get (ci := 2) (j := 2) (v := .int t0_1) C0 V i_Big rfl rfl hT0 (by decide) w_94 rfl d_2_8_12 ?_
    refine lv_if_eq (tgt := 22) hx hb d_2_8_15 (by decide) (fun c8 => ?_) (fun c8 => ?_)
    ·
      refine lv_iconst (v := 1) hx hb d_2_8_22 (by decide) ?_
      exact q_reti C0 V (⟨rfl, (show 0 ≤ (1 : Int32).toInt + 1 from (by have z3 : (1 : Int32).toInt = 1 := rfl; omega)), (show (1 : Int32).toInt ≤ 1 from (by have z3 : (1 : Int32).toInt = 1 := rfl; omega)), (show (1 : Int32).toInt ≤ t0_0.toInt from (by have z3 : (1 : Int32).toInt = 1 := rfl; have t1 : 0 ≤ t0_0.toInt ∧ t0_0.toInt ≤ R.toInt := btt0_0; have t2 : t0_0.toInt ≠ 0 := b7; omega)), (show (1 : Int32) = (F_Big_sign R t0_0 t0_1) from (by rw [F_Big_sign.eq_1, if_neg c6, if_pos c8]))⟩) d_2_8_23
    ·
      refine lv_iconst (v := (-1)) hx hb d_2_8_18 (by decide) ?_
      refine lv_goto (tgt := 23) hx hb d_2_8_19 (by decide) ?_
      exact q_reti C0 V (⟨rfl, (show 0 ≤ (-1 : Int32).toInt + 1 from (by have z3 : (-1 : Int32).toInt = -1 := rfl; omega)), (show (-1 : Int32).toInt ≤ 1 from (by have z3 : (-1 : Int32).toInt = -1 := rfl; omega)), (show (-1 : Int32).toInt ≤ t0_0.toInt from (by have z3 : (-1 : Int32).toInt = -1 := rfl; have t1 : 0 ≤ t0_0.toInt ∧ t0_0.toInt ≤ R.toInt := btt0_0; omega)), (show (-1 : Int32) = (F_Big_sign R t0_0 t0_1) from (by rw [F_Big_sign.eq_1, if_neg c6, if_neg c8]))⟩) d_2_8_23
  ·
    refine lv_iconst (v := 0) hx hb d_2_8_7 (by decide) ?_
    refine lv_goto (tgt := 23) hx hb d_2_8_8 (by decide) ?_
    exact q_reti C0 V (⟨rfl, (show 0 ≤ (0 : Int32).toInt + 1 from (by have z3 : (0 : Int32).toInt = 0 := rfl; omega)), (show (0 : Int32).toInt ≤ 1 from (by have z3 : (0 : Int32).toInt = 0 := rfl; omega)), (show (0 : Int32).toInt ≤ t0_0.toInt from (by have z3 : (0 : Int32).toInt = 0 := rfl; have t1 : 0 ≤ t0_0.toInt ∧ t0_0.toInt ≤ R.toInt := btt0_0; omega)), (show (0 : Int32) = (F_Big_sign R t0_0 t0_1) from (by rw [F_Big_sign.eq_1, if_pos c6]))⟩) d_2_8_23
def F_Big_trim_J26 (K_F_Big_trim_L5 : Int32 → (Int32 × Int32)) (R : Int32) (t0_0 : Int32) (t0_1 : Int32) (t1_0 : (Nat → Int32)) (lx10 : Int32) : Int32 × Int32 := if t0_1 = (0 : Int32) then ((lx10, (0 : Int32))) else (if lx10 ≤ (0 : Int32) then ((lx10, (0 : Int32))) else ((lx10, (1 : Int32))))
def F_Big_trim_L5 (R : Int32) (t0_0 : Int32) (t0_1 : Int32) (t1_0 : (Nat → Int32)) : Nat → Int32 → (Int32 × Int32)
  | 0, _ => default
  | fm + 1, lx10 => if lx10 ≤ (0 : Int32) then (F_Big_trim_J26 (F_Big_trim_L5 R t0_0 t0_1 t1_0 fm) R t0_0 t0_1 t1_0 lx10) else (if (t1_0 (lx10 - 1 : Int32).toNatClampNeg : Int32) = (0 : Int32) then (F_Big_trim_L5 R t0_0 t0_1 t1_0 fm (lx10 + (-1) : Int32)) else (F_Big_trim_J26 (F_Big_trim_L5 R t0_0 t0_1 t1_0 fm) R t0_0 t0_1 t1_0 lx10))
def F_Big_trim (R : Int32) (t0_0 : Int32) (t0_1 : Int32) (t1_0 : (Nat → Int32)) : Int32 × Int32 := F_Big_trim_L5 R t0_0 t0_1 t1_0 ((t0_0.toInt - ((-1))).toNat + 1) t0_0
set_option maxRecDepth 100000 in
set_option maxHeartbeats 4000000 in
theorem X_Big_trim (l : Launch) (D : va_G) (g : Nat → ClassId) (q : Nat → Nat) (ws : va_W) (k1 : Nat) (R : Int32) (hB1 : q_isBig (nsh g q) g q k1 R) (zk1 : (10 ≤ k1 ∧ k1 ≤ 32) ∨ 66 ≤ k1) (hI : q_I (nsh g q) q ws) (t0_0 : Int32) (t0_1 : Int32) (hT0 : ws[k1]? = (some (q k1, .inr (2, [.ref (q (k1 + 1)), .int t0_0, .int t0_1])) : Option (Nat × va_E))) (t1_0 : (Nat → Int32)) (hT1 : ws[k1 + 1]? = (some (q (k1 + 1), .inl (g 0, R.toNatClampNeg, .inl t1_0)) : Option (Nat × va_E))) : q_mV l y_Big_trim prog_2_method_7_code 2 1 0 0 D g [.ref (q k1)] ws (fun u => q_I (nsh g q) q u ∧ q_un ws u [k1] ∧ ∃ (u0_0 : Int32) (u0_1 : Int32), u[k1]? = (some (q k1, .inr (2, [.ref (q (k1 + 1)), .int u0_0, .int u0_1])) : Option (Nat × va_E)) ∧ (0 ≤ u0_1.toInt) ∧ (u0_0.toInt ≤ t0_0.toInt) ∧ (u0_1.toInt ≤ t0_1.toInt) ∧ (u0_1.toInt ≤ u0_0.toInt) ∧ (u0_0, u0_1) = (F_Big_trim R t0_0 t0_1 t1_0)) := by
  intro sz
  refine q_into (by decide) (Nat.le_of_ble_eq_true rfl) ?_
  intro p e s m below meth c ls hsz C0 V hl
  have hx := C0.1
  have hb := C0.2.1
  have hfk10 : q_F (0 ≤ R.toInt ∧ R.toInt ≤ 220) := hB1.2.2
  obtain ⟨btt0_0, btt0_1⟩ := q_bigW hI hB1 hT0
  replace btt0_0 : q_F (0 ≤ t0_0.toInt ∧ t0_0.toInt ≤ R.toInt) := btt0_0
  replace btt0_1 : q_F (0 ≤ t0_1.toInt ∧ t0_1.toInt ≤ 1) := btt0_1
  have hF : q_un ws ws [k1] := q_u0
  have hl : lv_has ls 2 [(0, .ref (q k1))] := hl
  refine lv_aload_n hx hb d_2_7_0 rfl (lv_at hl 0 rfl) ?_
  refine q_get (ci := 2) (j := 1) (v := .int t0_0) C0 V i_Big rfl rfl hT0 (by decide) w_85 rfl d_2_7_1 ?_
  refine lv_istore_n (lv' := [(1, .int t0_0), (0, .ref (q k1))]) hx hb d_2_7_4 rfl hl (by decide) rfl (fun ls hl => ?_)
  refine q_loop (X := Int32) (fun z H locs ls _ => q_F (0 ≤ z.toInt) ∧ q_F (z.toInt ≤ t0_0.toInt) ∧ q_Wd D g (va_A ws sz) s ws H locs ∧ lv_has ls 2 [(1, .int z), (0, .ref (q k1))] ∧ (∃ n, (z.toInt - ((-1))).toNat < n ∧ F_Big_trim_L5 R t0_0 t0_1 t1_0 n z = (F_Big_trim R t0_0 t0_1 t1_0))) (fun z => (z.toInt - ((-1))).toNat) ?_ ((t0_0 : Int32)) _ _ _ ws ⟨(show q_F (0 ≤ t0_0.toInt) from (show 0 ≤ t0_0.toInt from by have t1 : 0 ≤ t0_0.toInt ∧ t0_0.toInt ≤ R.toInt := btt0_0; omega)), (show q_F (t0_0.toInt ≤ t0_0.toInt) from (show t0_0.toInt ≤ t0_0.toInt from by omega)), V, q_lw hl (q_lw1 0 rfl (q_lw1 1 rfl q_lw0)), ⟨((t0_0.toInt - ((-1))).toNat + 1), Nat.lt_succ_self _, (show F_Big_trim_L5 R t0_0 t0_1 t1_0 ((t0_0.toInt - ((-1))).toNat + 1) t0_0 = (F_Big_trim R t0_0 t0_1 t1_0) from (by rw [F_Big_trim.eq_1]))⟩⟩
  rintro lx10 H locs ls _ ⟨i11, i12, V, hl, ⟨fu15, hf16, hR14⟩⟩ ih13
  obtain ⟨fm17, rfl⟩ : ∃ m, fu15 = m + 1 := ⟨fu15 - 1, by omega⟩
  replace i11 : q_F (0 ≤ lx10.toInt) := i11
  replace i12 : q_F (lx10.toInt ≤ t0_0.toInt) := i12
  replace hl : lv_has ls 2 [(1, .int lx10), (0, .ref (q k1))] := hl
  refine lv_iload_n hx hb d_2_7_5 rfl (lv_at hl 0 rfl) ?_
  refine q_join (X := Unit) (fun z H locs ls _ => q_Wd D g (va_A ws sz) s ws H locs ∧ lv_has ls 2 [(1, .int lx10), (0, .ref (q k1))] ∧ F_Big_trim_J26 (F_Big_trim_L5 R t0_0 t0_1 t1_0 fm17) R t0_0 t0_1 t1_0 lx10 = (F_Big_trim R t0_0 t0_1 t1_0)) (fun z => []) 26 0 0 ?_ ?_
  ·
    rintro _ H locs ls _ ⟨V, hl, hR21⟩
    replace hl : lv_has ls 2 [(1, .int lx10), (0, .ref (q k1))] := hl
    refine lv_aload_n hx hb d_2_7_26 rfl (lv_at hl 1 rfl) ?_
    refine lv_iload_n hx hb d_2_7_27 rfl (lv_at hl 0 rfl) ?_
    refine q_put (ci := 2) (j := 1) (v := .int lx10) (ty := .int) C0 V i_Big o_Big n_Big rfl rfl hT0 (by decide) w_85 rfl rfl rfl rfl (Nat.le_of_ble_eq_true rfl) d_2_7_28 (fun H locs w25 hu26 hT0 V => ?_)
    replace hT0 : w25[k1]? = (some (q k1, .inr (2, [.ref (q (k1 + 1)), .int lx10, .int t0_1])) : Option (Nat × va_E)) := hT0
    replace hI := q_bigO' hI hB1 hu26 hT0 ⟨(by first | with_reducible exact q_fe i11 | (have t1 : 0 ≤ lx10.toInt := i11; omega)), (by have t1 : 0 ≤ t0_0.toInt ∧ t0_0.toInt ≤ R.toInt := btt0_0; have t2 : lx10.toInt ≤ t0_0.toInt := i12; omega)⟩ (by first | with_reducible exact q_fe btt0_1 | exact ⟨(by have t1 : 0 ≤ t0_1.toInt ∧ t0_1.toInt ≤ 1 := btt0_1; omega), (by have t1 : 0 ≤ t0_1.toInt ∧ t0_1.toInt ≤ 1 := btt0_1; omega)⟩)
    replace hF := q_us hF hu26 (by simp)
    refine lv_aload_n hx hb d_2_7_31 rfl (lv_at hl 1 rfl) ?_
    refine lv_aload_n hx hb d_2_7_32 rfl (lv_at hl 1 rfl) ?_
    refine q_get (ci := 2) (j := 2) (v := .int t0_1) C0 V i_Big rfl rfl hT0 (by decide) w_94 rfl d_2_7_33 ?_
    refine lv_if_eq (tgt := 47) hx hb d_2_7_36 (by decide) (fun c27 => ?_) (fun c27 => ?_)
    ·
      refine lv_iconst (v := 0) hx hb d_2_7_47 (by decide) ?_
      refine q_put (ci := 2) (j := 2) (v := .int 0) (ty := .boolean) C0 V i_Big o_Big n_Big rfl rfl hT0 (by decide) w_94 rfl rfl rfl rfl (Nat.le_of_ble_eq_true rfl) d_2_7_48 (fun H locs w29 hu30 hT0 V => ?_)
      replace hT0 : w29[k1]? = (some (q k1, .inr (2, [.ref (q (k1 + 1)), .int lx10, .int 0])) : Option (Nat × va_E)) := hT0
      replace hI := q_bigO' hI hB1 hu30 hT0 ⟨(by first | with_reducible exact q_fe i11 | (have t1 : 0 ≤ lx10.toInt := i11; omega)), (by have t1 : 0 ≤ t0_0.toInt ∧ t0_0.toInt ≤ R.toInt := btt0_0; have t2 : lx10.toInt ≤ t0_0.toInt := i12; omega)⟩ ⟨(by have z9 : (0 : Int32).toInt = 0 := rfl; omega), (by have z9 : (0 : Int32).toInt = 0 := rfl; omega)⟩
      replace hF := q_us hF hu30 (by simp)
      exact q_retv C0 V (⟨hI, hF, lx10, 0, hT0, (show 0 ≤ (0 : Int32).toInt from (by have z5 : (0 : Int32).toInt = 0 := rfl; omega)), (show lx10.toInt ≤ t0_0.toInt from (by have z5 : (0 : Int32).toInt = 0 := rfl; have t1 : lx10.toInt ≤ t0_0.toInt := i12; omega)), (show (0 : Int32).toInt ≤ t0_1.toInt from (by have z5 : (0 : Int32).toInt = 0 := rfl; have t1 : 0 ≤ t0_1.toInt ∧ t0_1.toInt ≤ 1 := btt0_1; omega)), (show (0 : Int32).toInt ≤ lx10.toInt from (by have z5 : (0 : Int32).toInt = 0 := rfl; have t1 : 0 ≤ lx10.toInt := i11; omega)), (show (lx10, (0 : Int32)) = (F_Big_trim R t0_0 t0_1 t1_0) from Eq.trans (by rw [F_Big_trim_J26.eq_1, if_pos c27]) hR21)⟩) d_2_7_51
    ·
      have b31 : q_F (t0_1.toInt ≠ 0) := (q_neI c27)
      refine lv_iload_n hx hb d_2_7_39 rfl (lv_at hl 0 rfl) ?_
      refine lv_if_le (tgt := 47) hx hb d_2_7_40 (by decide) (fun c32 => ?_) (fun c32 => ?_)
      ·
        refine lv_iconst (v := 0) hx hb d_2_7_47 (by decide) ?_
        refine q_put (ci := 2) (j := 2) (v := .int 0) (ty := .boolean) C0 V i_Big o_Big n_Big rfl rfl hT0 (by decide) w_94 rfl rfl rfl rfl (Nat.le_of_ble_eq_true rfl) d_2_7_48 (fun H locs w34 hu35 hT0 V => ?_)
        replace hT0 : w34[k1]? = (some (q k1, .inr (2, [.ref (q (k1 + 1)), .int lx10, .int 0])) : Option (Nat × va_E)) := hT0
        replace hI := q_bigO' hI hB1 hu35 hT0 ⟨(by first | with_reducible exact q_fe i11 | (have t1 : 0 ≤ lx10.toInt := i11; omega)), (by have t1 : 0 ≤ t0_0.toInt ∧ t0_0.toInt ≤ R.toInt := btt0_0; have t2 : lx10.toInt ≤ t0_0.toInt := i12; omega)⟩ ⟨(by have z9 : (0 : Int32).toInt = 0 := rfl; omega), (by have z9 : (0 : Int32).toInt = 0 := rfl; omega)⟩
        replace hF := q_us hF hu35 (by simp)
        exact q_retv C0 V (⟨hI, hF, lx10, 0, hT0, (show 0 ≤ (0 : Int32).toInt from (by have z5 : (0 : Int32).toInt = 0 := rfl; omega)), (show lx10.toInt ≤ t0_0.toInt from (by have z5 : (0 : Int32).toInt = 0 := rfl; have t1 : lx10.toInt ≤ t0_0.toInt := i12; omega)), (show (0 : Int32).toInt ≤ t0_1.toInt from (by have z5 : (0 : Int32).toInt = 0 := rfl; have t1 : 0 ≤ t0_1.toInt ∧ t0_1.toInt ≤ 1 := btt0_1; omega)), (show (0 : Int32).toInt ≤ lx10.toInt from (by have z5 : (0 : Int32).toInt = 0 := rfl; have t1 : 0 ≤ lx10.toInt := i11; omega)), (show (lx10, (0 : Int32)) = (F_Big_trim R t0_0 t0_1 t1_0) from Eq.trans (by rw [F_Big_trim_J26.eq_1, if_neg c27, if_pos c32]) hR21)⟩) d_2_7_51
      ·
        have b36 : q_F (0 < lx10.toInt) := (q_nleI c32)
        refine lv_iconst (v := 1) hx hb d_2_7_43 (by decide) ?_
        refine lv_goto (tgt := 48) hx hb d_2_7_44 (by decide) ?_
        refine q_put (ci := 2) (j := 2) (v := .int 1) (ty := .boolean) C0 V i_Big o_Big n_Big rfl rfl hT0 (by decide) w_94 rfl rfl rfl rfl (Nat.le_of_ble_eq_true rfl) d_2_7_48 (fun H locs w37 hu38 hT0 V => ?_)
        replace hT0 : w37[k1]? = (some (q k1, .inr (2, [.ref (q (k1 + 1)), .int lx10, .int 1])) : Option (Nat × va_E)) := hT0
        replace hI := q_bigO' hI hB1 hu38 hT0 ⟨(by first | with_reducible exact q_fe i11 | (have t1 : 0 ≤ lx10.toInt := i11; omega)), (by have t1 : 0 ≤ t0_0.toInt ∧ t0_0.toInt ≤ R.toInt := btt0_0; have t2 : lx10.toInt ≤ t0_0.toInt := i12; omega)⟩ ⟨(by have z9 : (1 : Int32).toInt = 1 := rfl; omega), (by have z9 : (1 : Int32).toInt = 1 := rfl; omega)⟩
        replace hF := q_us hF hu38 (by simp)
        exact q_retv C0 V (⟨hI, hF, lx10, 1, hT0, (show 0 ≤ (1 : Int32).toInt from (by have z5 : (1 : Int32).toInt = 1 := rfl; omega)), (show lx10.toInt ≤ t0_0.toInt from (by have z5 : (1 : Int32).toInt = 1 := rfl; have t1 : lx10.toInt ≤ t0_0.toInt := i12; omega)), (show (1 : Int32).toInt ≤ t0_1.toInt from (by have z5 : (1 : Int32).toInt = 1 := rfl; have t1 : 0 ≤ t0_1.toInt ∧ t0_1.toInt ≤ 1 := btt0_1; have t2 : t0_1.toInt ≠ 0 := b31; omega)), (show (1 : Int32).toInt ≤ lx10.toInt from (by have z5 : (1 : Int32).toInt = 1 := rfl; have t1 : 0 < lx10.toInt := b36; omega)), (show (lx10, (1 : Int32)) = (F_Big_trim R t0_0 t0_1 t1_0) from Eq.trans (by rw [F_Big_trim_J26.eq_1, if_neg c27, if_neg c32]) hR21)⟩) d_2_7_51
  ·
    intro J20
    refine lv_if_le (tgt := 26) hx hb d_2_7_6 (by decide) (fun c39 => ?_) (fun c39 => ?_)
    ·
      exact J20 (()) _ _ _ ws ⟨V, q_lw hl (q_lw1 0 rfl (q_lw1 1 rfl q_lw0)), (show F_Big_trim_J26 (F_Big_trim_L5 R t0_0 t0_1 t1_0 fm17) R t0_0 t0_1 t1_0 lx10 = (F_Big_trim R t0_0 t0_1 t1_0) from Eq.trans (by rw [F_Big_trim_L5.eq_2, if_pos c39]) hR14)⟩
    ·
      have b41 : q_F (0 < lx10.toInt) := (q_nleI c39)
      refine lv_aload_n hx hb d_2_7_9 rfl (lv_at hl 1 rfl) ?_
      refine q_get (ci := 2) (j := 0) (v := .ref (q (k1 + 1))) C0 V i_Big rfl rfl hT0 (by decide) w_84 rfl d_2_7_10 ?_
      refine lv_iload_n hx hb d_2_7_13 rfl (lv_at hl 0 rfl) ?_
      refine lv_iconst (v := 1) hx hb d_2_7_14 (by decide) ?_
      refine lv_isub hx hb d_2_7_15 ?_
      obtain ⟨a42, e43⟩ := q_nm (lx10 - 1 : Int32)
      refine q_ti (v := a42) e43 ?_
      have b44 : q_F (a42.toInt = lx10.toInt - 1) := (by rw [← e43]; show (lx10 - 1 : Int32).toInt = lx10.toInt - 1; exact q_subI (x := lx10.toInt) (y := 1) rfl (by decide) (by have t1 : 0 ≤ lx10.toInt := i11; have _ := q_lo32 (x := lx10); have _ := q_hi32 (x := lx10); omega) (by have t1 : 0 ≤ lx10.toInt := i11; have _ := q_lo32 (x := lx10); have _ := q_hi32 (x := lx10); omega))
      refine q_iald C0 V hT1 (q_ix (x := a42.toInt) rfl (by have t1 : 0 < lx10.toInt := b41; have t2 : a42.toInt = lx10.toInt - 1 := b44; omega) (by have t1 : 0 < lx10.toInt := b41; have t2 : a42.toInt = lx10.toInt - 1 := b44; have t3 : 0 ≤ t0_0.toInt ∧ t0_0.toInt ≤ R.toInt := btt0_0; have t4 : lx10.toInt ≤ t0_0.toInt := i12; have e9 := q_clI (i := R) rfl (by first | with_reducible exact (q_fe hfk10).2 | with_reducible exact (q_fe hfk10).1 | (have t1 : 0 ≤ R.toInt ∧ R.toInt ≤ 220 := hfk10; omega)); omega)) d_2_7_16 ?_
      obtain ⟨a45, e46⟩ := q_nm (t1_0 a42.toNatClampNeg : Int32)
      refine q_ti (v := a45) e46 ?_
      refine lv_if_ne (tgt := 26) hx hb d_2_7_17 (by decide) (fun c47 => ?_) (fun c47 => ?_)
      ·
        exact J20 (()) _ _ _ ws ⟨V, q_lw hl (q_lw1 0 rfl (q_lw1 1 rfl q_lw0)), (show F_Big_trim_J26 (F_Big_trim_L5 R t0_0 t0_1 t1_0 fm17) R t0_0 t0_1 t1_0 lx10 = (F_Big_trim R t0_0 t0_1 t1_0) from Eq.trans (by subst e43; subst e46; rw [F_Big_trim_L5.eq_2, if_neg c39, if_neg c47]) hR14)⟩
      ·
        obtain ⟨a50, e51⟩ := q_nm (lx10 + (-1) : Int32)
        have b52 : q_F (a50.toInt = lx10.toInt + (-1)) := (by rw [← e51]; exact q_addI (y := (-1)) rfl (by decide) (by have t1 : 0 ≤ lx10.toInt := i11; have t2 : a42.toInt = lx10.toInt - 1 := b44; have _ := q_lo32 (x := a42); have _ := q_hi32 (x := a42); omega) (by have t1 : 0 ≤ lx10.toInt := i11; have t2 : a42.toInt = lx10.toInt - 1 := b44; have _ := q_lo32 (x := a42); have _ := q_hi32 (x := a42); omega))
        refine lv_iinc (v := a50) (lv' := [(1, .int a50), (0, .ref (q k1))]) hx hb d_2_7_20 hl (k := 0) rfl (e51) (by decide) rfl (fun ls hl => ?_)
        refine lv_goto (tgt := 5) hx hb d_2_7_23 (by decide) ?_
        exact ih13 ((a50 : Int32)) _ _ _ ws (show (a50.toInt - ((-1))).toNat < (lx10.toInt - ((-1))).toNat from by have t1 : a50.toInt = lx10.toInt + (-1) := b52; have t2 : 0 ≤ lx10.toInt := i11; omega) ⟨(show q_F (0 ≤ a50.toInt) from (show 0 ≤ a50.toInt from by have t1 : 0 < lx10.toInt := b41; have t2 : a50.toInt = lx10.toInt + (-1) := b52; omega)), (show q_F (a50.toInt ≤ t0_0.toInt) from (show a50.toInt ≤ t0_0.toInt from by have t1 : lx10.toInt ≤ t0_0.toInt := i12; have t2 : a50.toInt = lx10.toInt + (-1) := b52; omega)), V, q_lw hl (q_lw1 0 rfl (q_lw1 1 rfl q_lw0)), ⟨fm17, Nat.lt_of_lt_of_le (show (a50.toInt - ((-1))).toNat < (lx10.toInt - ((-1))).toNat from by have t1 : a50.toInt = lx10.toInt + (-1) := b52; have t2 : 0 ≤ lx10.toInt := i11; omega) (Nat.le_of_lt_succ hf16), (show F_Big_trim_L5 R t0_0 t0_1 t1_0 fm17 a50 = (F_Big_trim R t0_0 t0_1 t1_0) from Eq.trans (by subst e43; subst e46; subst e51; rw [F_Big_trim_L5.eq_2, if_neg c39, if_pos c47]) hR14)⟩⟩
def F_Big_isOne (R : Int32) (t0_0 : Int32) (t0_1 : Int32) (t1_0 : (Nat → Int32)) : Int32 := if t0_0 = (1 : Int32) then (if (t1_0 (0 : Int32).toNatClampNeg : Int32) = (1 : Int32) then (if t0_1 = (0 : Int32) then ((1 : Int32)) else ((0 : Int32))) else ((0 : Int32))) else ((0 : Int32))
set_option maxRecDepth 100000 in
set_option maxHeartbeats 4000000 in
theorem X_Big_isOne (l : Launch) (D : va_G) (g : Nat → ClassId) (q : Nat → Nat) (ws : va_W) (k1 : Nat) (R : Int32) (hB1 : q_isBig (nsh g q) g q k1 R) (zk1 : (10 ≤ k1 ∧ k1 ≤ 32) ∨ 66 ≤ k1) (hI : q_I (nsh g q) q ws) (t0_0 : Int32) (t0_1 : Int32) (hT0 : ws[k1]? = (some (q k1, .inr (2, [.ref (q (k1 + 1)), .int t0_0, .int t0_1])) : Option (Nat × va_E))) (t1_0 : (Nat → Int32)) (hT1 : ws[k1 + 1]? = (some (q (k1 + 1), .inl (g 0, R.toNatClampNeg, .inl t1_0)) : Option (Nat × va_E))) : q_mI l y_Big_isOne prog_2_method_9_code 1 (.boolean) 1 0 0 D g [.ref (q k1)] ws (fun r u => ws = u ∧ (0 ≤ r.toInt) ∧ (r.toInt ≤ 1) ∧ (r.toInt ≤ t0_0.toInt) ∧ r = (F_Big_isOne R t0_0 t0_1 t1_0)) := by
  intro sz
  refine q_into (by decide) (Nat.le_of_ble_eq_true rfl) ?_
  intro p e s m below meth c ls hsz C0 V hl
  have hx := C0.1
  have hb := C0.2.1
  have hfk10 : q_F (0 ≤ R.toInt ∧ R.toInt ≤ 220) := hB1.2.2
  have btt0_0 := (q_bigW hI hB1 hT0).1
  replace btt0_0 : q_F (0 ≤ t0_0.toInt ∧ t0_0.toInt ≤ R.toInt) := btt0_0
  have hl : lv_has ls 1 [(0, .ref (q k1))] := hl
  refine lv_aload_n hx hb d_2_9_0 rfl (lv_at hl 0 rfl) ?_
  refine q_get (ci := 2) (j := 1) (v := .int t0_0) C0 V i_Big rfl rfl hT0 (by decide) w_85 rfl d_2_9_1 ?_
  refine lv_iconst (v := 1) hx hb d_2_9_4 (by decide) ?_
  refine lv_icmp_ne (tgt := 29) hx hb d_2_9_5 (by decide) (fun c9 => ?_) (fun c9 => ?_)
  ·
    refine lv_iconst (v := 0) hx hb d_2_9_29 (by decide) ?_
    exact q_retz C0 V (by decide) (⟨rfl, (show 0 ≤ (0 : Int32).toInt from (by have z4 : (0 : Int32).toInt = 0 := rfl; omega)), (show (0 : Int32).toInt ≤ 1 from (by have z4 : (0 : Int32).toInt = 0 := rfl; omega)), (show (0 : Int32).toInt ≤ t0_0.toInt from (by have z4 : (0 : Int32).toInt = 0 := rfl; have t1 : 0 ≤ t0_0.toInt ∧ t0_0.toInt ≤ R.toInt := btt0_0; omega)), (show (0 : Int32) = (F_Big_isOne R t0_0 t0_1 t1_0) from (by rw [F_Big_isOne.eq_1, if_neg c9]))⟩) d_2_9_30
  ·
    have b11 : q_F (t0_0.toInt = 1) := (q_eqI c9)
    refine lv_aload_n hx hb d_2_9_8 rfl (lv_at hl 0 rfl) ?_
    refine q_get (ci := 2) (j := 0) (v := .ref (q (k1 + 1))) C0 V i_Big rfl rfl hT0 (by decide) w_84 rfl d_2_9_9 ?_
    refine lv_iconst (v := 0) hx hb d_2_9_12 (by decide) ?_
    refine q_iald C0 V hT1 (q_ix (x := 0) (by decide) (by omega) (by have t1 : 0 ≤ t0_0.toInt ∧ t0_0.toInt ≤ R.toInt := btt0_0; have t2 : t0_0.toInt = 1 := b11; have e9 := q_clI (i := R) rfl (by first | with_reducible exact (q_fe hfk10).2 | with_reducible exact (q_fe hfk10).1 | (have t1 : 0 ≤ R.toInt ∧ R.toInt ≤ 220 := hfk10; omega)); omega)) d_2_9_13 ?_
    obtain ⟨a12, e13⟩ := q_nm (t1_0 (0 : Int32).toNatClampNeg : Int32)
    refine q_ti (v := a12) e13 ?_
    refine lv_iconst (v := 1) hx hb d_2_9_14 (by decide) ?_
    refine lv_icmp_ne (tgt := 29) hx hb d_2_9_15 (by decide) (fun c14 => ?_) (fun c14 => ?_)
    ·
      refine lv_iconst (v := 0) hx hb d_2_9_29 (by decide) ?_
      exact q_retz C0 V (by decide) (⟨rfl, (show 0 ≤ (0 : Int32).toInt from (by have z4 : (0 : Int32).toInt = 0 := rfl; omega)), (show (0 : Int32).toInt ≤ 1 from (by have z4 : (0 : Int32).toInt = 0 := rfl; omega)), (show (0 : Int32).toInt ≤ t0_0.toInt from (by have z4 : (0 : Int32).toInt = 0 := rfl; have t1 : 0 ≤ t0_0.toInt ∧ t0_0.toInt ≤ R.toInt := btt0_0; omega)), (show (0 : Int32) = (F_Big_isOne R t0_0 t0_1 t1_0) from (by subst e13; rw [F_Big_isOne.eq_1, if_pos c9, if_neg c14]))⟩) d_2_9_30
    ·
      refine lv_aload_n hx hb d_2_9_18 rfl (lv_at hl 0 rfl) ?_
      refine q_get (ci := 2) (j := 2) (v := .int t0_1) C0 V i_Big rfl rfl hT0 (by decide) w_94 rfl d_2_9_19 ?_
      refine lv_if_ne (tgt := 29) hx hb d_2_9_22 (by decide) (fun c17 => ?_) (fun c17 => ?_)
      ·
        refine lv_iconst (v := 0) hx hb d_2_9_29 (by decide) ?_
        exact q_retz C0 V (by decide) (⟨rfl, (show 0 ≤ (0 : Int32).toInt from (by have z4 : (0 : Int32).toInt = 0 := rfl; omega)), (show (0 : Int32).toInt ≤ 1 from (by have z4 : (0 : Int32).toInt = 0 := rfl; omega)), (show (0 : Int32).toInt ≤ t0_0.toInt from (by have z4 : (0 : Int32).toInt = 0 := rfl; have t1 : 0 ≤ t0_0.toInt ∧ t0_0.toInt ≤ R.toInt := btt0_0; omega)), (show (0 : Int32) = (F_Big_isOne R t0_0 t0_1 t1_0) from (by subst e13; rw [F_Big_isOne.eq_1, if_pos c9, if_pos c14, if_neg c17]))⟩) d_2_9_30
      ·
        refine lv_iconst (v := 1) hx hb d_2_9_25 (by decide) ?_
        refine lv_goto (tgt := 30) hx hb d_2_9_26 (by decide) ?_
        exact q_retz C0 V (by decide) (⟨rfl, (show 0 ≤ (1 : Int32).toInt from (by have z4 : (1 : Int32).toInt = 1 := rfl; omega)), (show (1 : Int32).toInt ≤ 1 from (by have z4 : (1 : Int32).toInt = 1 := rfl; omega)), (show (1 : Int32).toInt ≤ t0_0.toInt from (by have z4 : (1 : Int32).toInt = 1 := rfl; have t1 : t0_0.toInt = 1 := b11; omega)), (show (1 : Int32) = (F_Big_isOne R t0_0 t0_1 t1_0) from (by subst e13; rw [F_Big_isOne.eq_1, if_pos c9, if_pos c14, if_pos c17]))⟩) d_2_9_30
def F_Big_lowestLimb_L2 (R : Int32) (t0_0 : Int32) (t0_1 : Int32) (t1_0 : (Nat → Int32)) : Nat → Int32 → Int32
  | 0, _ => default
  | fm + 1, lx10 => if t0_0 ≤ lx10 then (lx10) else (if (t1_0 lx10.toNatClampNeg : Int32) = (0 : Int32) then (F_Big_lowestLimb_L2 R t0_0 t0_1 t1_0 fm (lx10 + 1 : Int32)) else (lx10))
def F_Big_lowestLimb (R : Int32) (t0_0 : Int32) (t0_1 : Int32) (t1_0 : (Nat → Int32)) : Int32 := F_Big_lowestLimb_L2 R t0_0 t0_1 t1_0 ((220 - (0 : Int32).toInt).toNat + 1) 0
set_option maxRecDepth 100000 in
set_option maxHeartbeats 4000000 in
theorem X_Big_lowestLimb (l : Launch) (D : va_G) (g : Nat → ClassId) (q : Nat → Nat) (ws : va_W) (k1 : Nat) (R : Int32) (hB1 : q_isBig (nsh g q) g q k1 R) (zk1 : (10 ≤ k1 ∧ k1 ≤ 32) ∨ 66 ≤ k1) (hI : q_I (nsh g q) q ws) (t0_0 : Int32) (t0_1 : Int32) (hT0 : ws[k1]? = (some (q k1, .inr (2, [.ref (q (k1 + 1)), .int t0_0, .int t0_1])) : Option (Nat × va_E))) (t1_0 : (Nat → Int32)) (hT1 : ws[k1 + 1]? = (some (q (k1 + 1), .inl (g 0, R.toNatClampNeg, .inl t1_0)) : Option (Nat × va_E))) : q_mI l y_Big_lowestLimb prog_2_method_18_code 2 (.int) 1 0 0 D g [.ref (q k1)] ws (fun r u => ws = u ∧ (0 ≤ r.toInt) ∧ (r.toInt ≤ t0_0.toInt) ∧ r = (F_Big_lowestLimb R t0_0 t0_1 t1_0)) := by
  intro sz
  refine q_into (by decide) (Nat.le_of_ble_eq_true rfl) ?_
  intro p e s m below meth c ls hsz C0 V hl
  have hx := C0.1
  have hb := C0.2.1
  have hfk10 : q_F (0 ≤ R.toInt ∧ R.toInt ≤ 220) := hB1.2.2
  have btt0_0 := (q_bigW hI hB1 hT0).1
  replace btt0_0 : q_F (0 ≤ t0_0.toInt ∧ t0_0.toInt ≤ R.toInt) := btt0_0
  have hl : lv_has ls 2 [(0, .ref (q k1))] := hl
  refine lv_iconst (v := 0) hx hb d_2_18_0 (by decide) ?_
  refine lv_istore_n (lv' := [(1, .int 0), (0, .ref (q k1))]) hx hb d_2_18_1 rfl hl (by decide) rfl (fun ls hl => ?_)
  refine q_loop (X := Int32) (fun z H locs ls _ => q_F (0 ≤ z.toInt) ∧ q_F (z.toInt ≤ t0_0.toInt) ∧ q_Wd D g (va_A ws sz) s ws H locs ∧ lv_has ls 2 [(1, .int z), (0, .ref (q k1))] ∧ (∃ n, (220 - z.toInt).toNat < n ∧ F_Big_lowestLimb_L2 R t0_0 t0_1 t1_0 n z = (F_Big_lowestLimb R t0_0 t0_1 t1_0))) (fun z => (220 - z.toInt).toNat) ?_ ((0 : Int32)) _ _ _ ws ⟨(show q_F (0 ≤ 0) from (show 0 ≤ 0 from by omega)), (show q_F (0 ≤ t0_0.toInt) from (show 0 ≤ t0_0.toInt from by have t1 : 0 ≤ t0_0.toInt ∧ t0_0.toInt ≤ R.toInt := btt0_0; omega)), V, q_lw hl (q_lw1 0 rfl (q_lw1 1 rfl q_lw0)), ⟨((220 - (0 : Int32).toInt).toNat + 1), Nat.lt_succ_self _, (show F_Big_lowestLimb_L2 R t0_0 t0_1 t1_0 ((220 - (0 : Int32).toInt).toNat + 1) 0 = (F_Big_lowestLimb R t0_0 t0_1 t1_0) from (by rw [F_Big_lowestLimb.eq_1]))⟩⟩
  rintro lx10 H locs ls _ ⟨i11, i12, V, hl, ⟨fu15, hf16, hR14⟩⟩ ih13
  obtain ⟨fm17, rfl⟩ : ∃ m, fu15 = m + 1 := ⟨fu15 - 1, by omega⟩
  replace i11 : q_F (0 ≤ lx10.toInt) := i11
  replace i12 : q_F (lx10.toInt ≤ t0_0.toInt) := i12
  replace hl : lv_has ls 2 [(1, .int lx10), (0, .ref (q k1))] := hl
  refine lv_iload_n hx hb d_2_18_2 rfl (lv_at hl 0 rfl) ?_
  refine lv_aload_n hx hb d_2_18_3 rfl (lv_at hl 1 rfl) ?_
  refine q_get (ci := 2) (j := 1) (v := .int t0_0) C0 V i_Big rfl rfl hT0 (by decide) w_85 rfl d_2_18_4 ?_
  refine lv_icmp_ge (tgt := 25) hx hb d_2_18_7 (by decide) (fun c18 => ?_) (fun c18 => ?_)
  ·
    refine lv_iload_n hx hb d_2_18_25 rfl (lv_at hl 0 rfl) ?_
    exact q_reti C0 V (⟨rfl, (show 0 ≤ lx10.toInt from (by first | with_reducible exact q_fe i11 | (have t1 : 0 ≤ lx10.toInt := i11; omega))), (show lx10.toInt ≤ t0_0.toInt from (by first | with_reducible exact q_fe i12 | (have t1 : lx10.toInt ≤ t0_0.toInt := i12; omega))), (show lx10 = (F_Big_lowestLimb R t0_0 t0_1 t1_0) from Eq.trans (by rw [F_Big_lowestLimb_L2.eq_2, if_pos c18]) hR14)⟩) d_2_18_26
  ·
    have b20 : q_F (lx10.toInt < t0_0.toInt) := (q_nleI c18)
    refine lv_aload_n hx hb d_2_18_10 rfl (lv_at hl 1 rfl) ?_
    refine q_get (ci := 2) (j := 0) (v := .ref (q (k1 + 1))) C0 V i_Big rfl rfl hT0 (by decide) w_84 rfl d_2_18_11 ?_
    refine lv_iload_n hx hb d_2_18_14 rfl (lv_at hl 0 rfl) ?_
    refine q_iald C0 V hT1 (q_ix (x := lx10.toInt) rfl (by first | with_reducible exact q_fe i11 | (have t1 : 0 ≤ lx10.toInt := i11; omega)) (by have t1 : 0 ≤ lx10.toInt := i11; have t2 : 0 ≤ t0_0.toInt ∧ t0_0.toInt ≤ R.toInt := btt0_0; have t3 : lx10.toInt < t0_0.toInt := b20; have e9 := q_clI (i := R) rfl (by first | with_reducible exact (q_fe hfk10).2 | with_reducible exact (q_fe hfk10).1 | (have t1 : 0 ≤ R.toInt ∧ R.toInt ≤ 220 := hfk10; omega)); omega)) d_2_18_15 ?_
    obtain ⟨a21, e22⟩ := q_nm (t1_0 lx10.toNatClampNeg : Int32)
    refine q_ti (v := a21) e22 ?_
    refine lv_if_ne (tgt := 25) hx hb d_2_18_16 (by decide) (fun c23 => ?_) (fun c23 => ?_)
    ·
      refine lv_iload_n hx hb d_2_18_25 rfl (lv_at hl 0 rfl) ?_
      exact q_reti C0 V (⟨rfl, (show 0 ≤ lx10.toInt from (by first | with_reducible exact q_fe i11 | (have t1 : 0 ≤ lx10.toInt := i11; omega))), (show lx10.toInt ≤ t0_0.toInt from (by first | with_reducible exact q_fe i12 | (have t1 : lx10.toInt ≤ t0_0.toInt := i12; omega))), (show lx10 = (F_Big_lowestLimb R t0_0 t0_1 t1_0) from Eq.trans (by subst e22; rw [F_Big_lowestLimb_L2.eq_2, if_neg c18, if_neg c23]) hR14)⟩) d_2_18_26
    ·
      obtain ⟨a26, e27⟩ := q_nm (lx10 + 1 : Int32)
      have b28 : q_F (a26.toInt = lx10.toInt + 1) := (by rw [← e27]; exact q_addI (y := 1) rfl (by decide) (by have t1 : 0 ≤ lx10.toInt := i11; have t2 : lx10.toInt < t0_0.toInt := b20; have _ := q_lo32 (x := t0_0); have _ := q_hi32 (x := t0_0); omega) (by have t1 : 0 ≤ lx10.toInt := i11; have t2 : lx10.toInt < t0_0.toInt := b20; have _ := q_lo32 (x := t0_0); have _ := q_hi32 (x := t0_0); omega))
      refine lv_iinc (v := a26) (lv' := [(1, .int a26), (0, .ref (q k1))]) hx hb d_2_18_19 hl (k := 0) rfl (e27) (by decide) rfl (fun ls hl => ?_)
      refine lv_goto (tgt := 2) hx hb d_2_18_22 (by decide) ?_
      exact ih13 ((a26 : Int32)) _ _ _ ws (show (220 - a26.toInt).toNat < (220 - lx10.toInt).toNat from by have t1 : a26.toInt = lx10.toInt + 1 := b28; have t2 : 0 ≤ R.toInt ∧ R.toInt ≤ 220 := hfk10; have t3 : 0 ≤ t0_0.toInt ∧ t0_0.toInt ≤ R.toInt := btt0_0; have t4 : lx10.toInt ≤ t0_0.toInt := i12; have t5 : lx10.toInt < t0_0.toInt := b20; omega) ⟨(show q_F (0 ≤ a26.toInt) from (show 0 ≤ a26.toInt from by have t1 : 0 ≤ lx10.toInt := i11; have t2 : a26.toInt = lx10.toInt + 1 := b28; omega)), (show q_F (a26.toInt ≤ t0_0.toInt) from (show a26.toInt ≤ t0_0.toInt from by have t1 : lx10.toInt < t0_0.toInt := b20; have t2 : a26.toInt = lx10.toInt + 1 := b28; omega)), V, q_lw hl (q_lw1 0 rfl (q_lw1 1 rfl q_lw0)), ⟨fm17, Nat.lt_of_lt_of_le (show (220 - a26.toInt).toNat < (220 - lx10.toInt).toNat from by have t1 : a26.toInt = lx10.toInt + 1 := b28; have t2 : 0 ≤ R.toInt ∧ R.toInt ≤ 220 := hfk10; have t3 : 0 ≤ t0_0.toInt ∧ t0_0.toInt ≤ R.toInt := btt0_0; have t4 : lx10.toInt ≤ t0_0.toInt := i12; have t5 : lx10.toInt < t0_0.toInt := b20; omega) (Nat.le_of_lt_succ hf16), (show F_Big_lowestLimb_L2 R t0_0 t0_1 t1_0 fm17 a26 = (F_Big_lowestLimb R t0_0 t0_1 t1_0) from Eq.trans (by subst e22; subst e27; rw [F_Big_lowestLimb_L2.eq_2, if_neg c18, if_pos c23]) hR14)⟩⟩
def F_jInt_compare (x1 : Int32) (x2 : Int32) : Int32 := if x2 ≤ x1 then (if x1 = x2 then ((0 : Int32)) else ((1 : Int32))) else ((-1 : Int32))
set_option maxRecDepth 100000 in
set_option maxHeartbeats 4000000 in
theorem X_jInt_compare (l : Launch) (D : va_G) (g : Nat → ClassId) (q : Nat → Nat) (ws : va_W) (x1 : Int32) (x2 : Int32) (hI : q_I (nsh g q) q ws) : q_mI l y_jInt_compare prog_27_method_40_code 2 (.int) 1 0 0 D g [.int x1, .int x2] ws (fun r u => ws = u ∧ (0 ≤ r.toInt + 1) ∧ (r.toInt ≤ 1) ∧ r = (F_jInt_compare x1 x2)) := by
  intro sz
  refine q_into (by decide) (Nat.le_of_ble_eq_true rfl) ?_
  intro p e s m below meth c ls hsz C0 V hl
  have hx := C0.1
  have hb := C0.2.1
  have hl : lv_has ls 2 [(0, .int x1), (1, .int x2)] := hl
  refine lv_iload_n hx hb d_27_40_0 rfl (lv_at hl 0 rfl) ?_
  refine lv_iload_n hx hb d_27_40_1 rfl (lv_at hl 1 rfl) ?_
  refine lv_icmp_ge (tgt := 9) hx hb d_27_40_2 (by decide) (fun c1 => ?_) (fun c1 => ?_)
  ·
    refine lv_iload_n hx hb d_27_40_9 rfl (lv_at hl 0 rfl) ?_
    refine lv_iload_n hx hb d_27_40_10 rfl (lv_at hl 1 rfl) ?_
    refine lv_icmp_ne (tgt := 18) hx hb d_27_40_11 (by decide) (fun c3 => ?_) (fun c3 => ?_)
    ·
      refine lv_iconst (v := 1) hx hb d_27_40_18 (by decide) ?_
      exact q_reti C0 V (⟨rfl, (show 0 ≤ (1 : Int32).toInt + 1 from (by have z2 : (1 : Int32).toInt = 1 := rfl; omega)), (show (1 : Int32).toInt ≤ 1 from (by have z2 : (1 : Int32).toInt = 1 := rfl; omega)), (show (1 : Int32) = (F_jInt_compare x1 x2) from (by rw [F_jInt_compare.eq_1, if_pos c1, if_neg c3]))⟩) d_27_40_19
    ·
      refine lv_iconst (v := 0) hx hb d_27_40_14 (by decide) ?_
      refine lv_goto (tgt := 19) hx hb d_27_40_15 (by decide) ?_
      exact q_reti C0 V (⟨rfl, (show 0 ≤ (0 : Int32).toInt + 1 from (by have z2 : (0 : Int32).toInt = 0 := rfl; omega)), (show (0 : Int32).toInt ≤ 1 from (by have z2 : (0 : Int32).toInt = 0 := rfl; omega)), (show (0 : Int32) = (F_jInt_compare x1 x2) from (by rw [F_jInt_compare.eq_1, if_pos c1, if_pos c3]))⟩) d_27_40_19
  ·
    refine lv_iconst (v := (-1)) hx hb d_27_40_5 (by decide) ?_
    refine lv_goto (tgt := 19) hx hb d_27_40_6 (by decide) ?_
    exact q_reti C0 V (⟨rfl, (show 0 ≤ (-1 : Int32).toInt + 1 from (by have z2 : (-1 : Int32).toInt = -1 := rfl; omega)), (show (-1 : Int32).toInt ≤ 1 from (by have z2 : (-1 : Int32).toInt = -1 := rfl; omega)), (show (-1 : Int32) = (F_jInt_compare x1 x2) from (by rw [F_jInt_compare.eq_1, if_neg c1]))⟩) d_27_40_19
def F_jInt_bitCount (x1 : Int32) : Int32 := ((((((((x1 - (((x1.toUInt32 >>> ((1 : Int32).toUInt32 &&& Int32.toUInt32 31)).toInt32 : Int32) &&& 1431655765 : Int32) : Int32) &&& 858993459 : Int32) + ((((x1 - (((x1.toUInt32 >>> ((1 : Int32).toUInt32 &&& Int32.toUInt32 31)).toInt32 : Int32) &&& 1431655765 : Int32) : Int32).toUInt32 >>> ((2 : Int32).toUInt32 &&& Int32.toUInt32 31)).toInt32 : Int32) &&& 858993459 : Int32) : Int32) + (((((x1 - (((x1.toUInt32 >>> ((1 : Int32).toUInt32 &&& Int32.toUInt32 31)).toInt32 : Int32) &&& 1431655765 : Int32) : Int32) &&& 858993459 : Int32) + ((((x1 - (((x1.toUInt32 >>> ((1 : Int32).toUInt32 &&& Int32.toUInt32 31)).toInt32 : Int32) &&& 1431655765 : Int32) : Int32).toUInt32 >>> ((2 : Int32).toUInt32 &&& Int32.toUInt32 31)).toInt32 : Int32) &&& 858993459 : Int32) : Int32).toUInt32 >>> ((4 : Int32).toUInt32 &&& Int32.toUInt32 31)).toInt32 : Int32) : Int32) &&& 252645135 : Int32) + (((((((x1 - (((x1.toUInt32 >>> ((1 : Int32).toUInt32 &&& Int32.toUInt32 31)).toInt32 : Int32) &&& 1431655765 : Int32) : Int32) &&& 858993459 : Int32) + ((((x1 - (((x1.toUInt32 >>> ((1 : Int32).toUInt32 &&& Int32.toUInt32 31)).toInt32 : Int32) &&& 1431655765 : Int32) : Int32).toUInt32 >>> ((2 : Int32).toUInt32 &&& Int32.toUInt32 31)).toInt32 : Int32) &&& 858993459 : Int32) : Int32) + (((((x1 - (((x1.toUInt32 >>> ((1 : Int32).toUInt32 &&& Int32.toUInt32 31)).toInt32 : Int32) &&& 1431655765 : Int32) : Int32) &&& 858993459 : Int32) + ((((x1 - (((x1.toUInt32 >>> ((1 : Int32).toUInt32 &&& Int32.toUInt32 31)).toInt32 : Int32) &&& 1431655765 : Int32) : Int32).toUInt32 >>> ((2 : Int32).toUInt32 &&& Int32.toUInt32 31)).toInt32 : Int32) &&& 858993459 : Int32) : Int32).toUInt32 >>> ((4 : Int32).toUInt32 &&& Int32.toUInt32 31)).toInt32 : Int32) : Int32) &&& 252645135 : Int32).toUInt32 >>> ((8 : Int32).toUInt32 &&& Int32.toUInt32 31)).toInt32 : Int32) : Int32) + ((((((((x1 - (((x1.toUInt32 >>> ((1 : Int32).toUInt32 &&& Int32.toUInt32 31)).toInt32 : Int32) &&& 1431655765 : Int32) : Int32) &&& 858993459 : Int32) + ((((x1 - (((x1.toUInt32 >>> ((1 : Int32).toUInt32 &&& Int32.toUInt32 31)).toInt32 : Int32) &&& 1431655765 : Int32) : Int32).toUInt32 >>> ((2 : Int32).toUInt32 &&& Int32.toUInt32 31)).toInt32 : Int32) &&& 858993459 : Int32) : Int32) + (((((x1 - (((x1.toUInt32 >>> ((1 : Int32).toUInt32 &&& Int32.toUInt32 31)).toInt32 : Int32) &&& 1431655765 : Int32) : Int32) &&& 858993459 : Int32) + ((((x1 - (((x1.toUInt32 >>> ((1 : Int32).toUInt32 &&& Int32.toUInt32 31)).toInt32 : Int32) &&& 1431655765 : Int32) : Int32).toUInt32 >>> ((2 : Int32).toUInt32 &&& Int32.toUInt32 31)).toInt32 : Int32) &&& 858993459 : Int32) : Int32).toUInt32 >>> ((4 : Int32).toUInt32 &&& Int32.toUInt32 31)).toInt32 : Int32) : Int32) &&& 252645135 : Int32) + (((((((x1 - (((x1.toUInt32 >>> ((1 : Int32).toUInt32 &&& Int32.toUInt32 31)).toInt32 : Int32) &&& 1431655765 : Int32) : Int32) &&& 858993459 : Int32) + ((((x1 - (((x1.toUInt32 >>> ((1 : Int32).toUInt32 &&& Int32.toUInt32 31)).toInt32 : Int32) &&& 1431655765 : Int32) : Int32).toUInt32 >>> ((2 : Int32).toUInt32 &&& Int32.toUInt32 31)).toInt32 : Int32) &&& 858993459 : Int32) : Int32) + (((((x1 - (((x1.toUInt32 >>> ((1 : Int32).toUInt32 &&& Int32.toUInt32 31)).toInt32 : Int32) &&& 1431655765 : Int32) : Int32) &&& 858993459 : Int32) + ((((x1 - (((x1.toUInt32 >>> ((1 : Int32).toUInt32 &&& Int32.toUInt32 31)).toInt32 : Int32) &&& 1431655765 : Int32) : Int32).toUInt32 >>> ((2 : Int32).toUInt32 &&& Int32.toUInt32 31)).toInt32 : Int32) &&& 858993459 : Int32) : Int32).toUInt32 >>> ((4 : Int32).toUInt32 &&& Int32.toUInt32 31)).toInt32 : Int32) : Int32) &&& 252645135 : Int32).toUInt32 >>> ((8 : Int32).toUInt32 &&& Int32.toUInt32 31)).toInt32 : Int32) : Int32).toUInt32 >>> ((16 : Int32).toUInt32 &&& Int32.toUInt32 31)).toInt32 : Int32) : Int32) &&& 63 : Int32)
set_option maxRecDepth 100000 in
set_option maxHeartbeats 4000000 in
theorem X_jInt_bitCount (l : Launch) (D : va_G) (g : Nat → ClassId) (q : Nat → Nat) (ws : va_W) (x1 : Int32) (hI : q_I (nsh g q) q ws) : q_mI l y_jInt_bitCount prog_27_method_49_code 1 (.int) 1 0 0 D g [.int x1] ws (fun r u => ws = u ∧ (0 ≤ r.toInt) ∧ (r.toInt ≤ 63) ∧ r = (F_jInt_bitCount x1)) := by
  intro sz
  refine q_into (by decide) (Nat.le_of_ble_eq_true rfl) ?_
  intro p e s m below meth c ls hsz C0 V hl
  have hx := C0.1
  have hb := C0.2.1
  have hl : lv_has ls 1 [(0, .int x1)] := hl
  refine lv_iload_n hx hb d_27_49_0 rfl (lv_at hl 0 rfl) ?_
  refine lv_iload_n hx hb d_27_49_1 rfl (lv_at hl 0 rfl) ?_
  refine lv_iconst (v := 1) hx hb d_27_49_2 (by decide) ?_
  refine lv_iushr hx hb d_27_49_3 rfl ?_
  obtain ⟨a1, e2⟩ := q_nm ((x1.toUInt32 >>> ((1 : Int32).toUInt32 &&& Int32.toUInt32 31)).toInt32 : Int32)
  refine q_ti (v := a1) e2 ?_
  refine q_ldcw C0 rfl w_617 d_27_49_4 ?_
  refine lv_iand hx hb d_27_49_7 ?_
  obtain ⟨a4, e5⟩ := q_nm (a1 &&& 1431655765 : Int32)
  refine q_ti (v := a4) e5 ?_
  refine lv_isub hx hb d_27_49_8 ?_
  obtain ⟨a7, e8⟩ := q_nm (x1 - a4 : Int32)
  refine q_ti (v := a7) e8 ?_
  refine lv_istore_n (lv' := [(0, .int a7)]) hx hb d_27_49_9 rfl hl (by decide) rfl (fun ls hl => ?_)
  refine lv_iload_n hx hb d_27_49_10 rfl (lv_at hl 0 rfl) ?_
  refine q_ldcw C0 rfl w_618 d_27_49_11 ?_
  refine lv_iand hx hb d_27_49_14 ?_
  obtain ⟨a9, e10⟩ := q_nm (a7 &&& 858993459 : Int32)
  refine q_ti (v := a9) e10 ?_
  refine lv_iload_n hx hb d_27_49_15 rfl (lv_at hl 0 rfl) ?_
  refine lv_iconst (v := 2) hx hb d_27_49_16 (by decide) ?_
  refine lv_iushr hx hb d_27_49_17 rfl ?_
  obtain ⟨a12, e13⟩ := q_nm ((a7.toUInt32 >>> ((2 : Int32).toUInt32 &&& Int32.toUInt32 31)).toInt32 : Int32)
  refine q_ti (v := a12) e13 ?_
  refine q_ldcw C0 rfl w_618 d_27_49_18 ?_
  refine lv_iand hx hb d_27_49_21 ?_
  obtain ⟨a15, e16⟩ := q_nm (a12 &&& 858993459 : Int32)
  refine q_ti (v := a15) e16 ?_
  refine lv_iadd hx hb d_27_49_22 ?_
  obtain ⟨a18, e19⟩ := q_nm (a9 + a15 : Int32)
  refine q_ti (v := a18) e19 ?_
  refine lv_istore_n (lv' := [(0, .int a18)]) hx hb d_27_49_23 rfl hl (by decide) rfl (fun ls hl => ?_)
  refine lv_iload_n hx hb d_27_49_24 rfl (lv_at hl 0 rfl) ?_
  refine lv_iload_n hx hb d_27_49_25 rfl (lv_at hl 0 rfl) ?_
  refine lv_iconst (v := 4) hx hb d_27_49_26 (by decide) ?_
  refine lv_iushr hx hb d_27_49_27 rfl ?_
  obtain ⟨a21, e22⟩ := q_nm ((a18.toUInt32 >>> ((4 : Int32).toUInt32 &&& Int32.toUInt32 31)).toInt32 : Int32)
  refine q_ti (v := a21) e22 ?_
  refine lv_iadd hx hb d_27_49_28 ?_
  obtain ⟨a24, e25⟩ := q_nm (a18 + a21 : Int32)
  refine q_ti (v := a24) e25 ?_
  refine q_ldcw C0 rfl w_619 d_27_49_29 ?_
  refine lv_iand hx hb d_27_49_32 ?_
  obtain ⟨a27, e28⟩ := q_nm (a24 &&& 252645135 : Int32)
  refine q_ti (v := a27) e28 ?_
  refine lv_istore_n (lv' := [(0, .int a27)]) hx hb d_27_49_33 rfl hl (by decide) rfl (fun ls hl => ?_)
  refine lv_iload_n hx hb d_27_49_34 rfl (lv_at hl 0 rfl) ?_
  refine lv_iload_n hx hb d_27_49_35 rfl (lv_at hl 0 rfl) ?_
  refine lv_bipush (v := 8) hx hb d_27_49_36 (by decide) ?_
  refine lv_iushr hx hb d_27_49_38 rfl ?_
  obtain ⟨a30, e31⟩ := q_nm ((a27.toUInt32 >>> ((8 : Int32).toUInt32 &&& Int32.toUInt32 31)).toInt32 : Int32)
  refine q_ti (v := a30) e31 ?_
  refine lv_iadd hx hb d_27_49_39 ?_
  obtain ⟨a33, e34⟩ := q_nm (a27 + a30 : Int32)
  refine q_ti (v := a33) e34 ?_
  refine lv_istore_n (lv' := [(0, .int a33)]) hx hb d_27_49_40 rfl hl (by decide) rfl (fun ls hl => ?_)
  refine lv_iload_n hx hb d_27_49_41 rfl (lv_at hl 0 rfl) ?_
  refine lv_iload_n hx hb d_27_49_42 rfl (lv_at hl 0 rfl) ?_
  refine lv_bipush (v := 16) hx hb d_27_49_43 (by decide) ?_
  refine lv_iushr hx hb d_27_49_45 rfl ?_
  obtain ⟨a36, e37⟩ := q_nm ((a33.toUInt32 >>> ((16 : Int32).toUInt32 &&& Int32.toUInt32 31)).toInt32 : Int32)
  refine q_ti (v := a36) e37 ?_
  refine lv_iadd hx hb d_27_49_46 ?_
  obtain ⟨a39, e40⟩ := q_nm (a33 + a36 : Int32)
  refine q_ti (v := a39) e40 ?_
  refine lv_istore_n (lv' := [(0, .int a39)]) hx hb d_27_49_47 rfl hl (by decide) rfl (fun ls hl => ?_)
  refine lv_iload_n hx hb d_27_49_48 rfl (lv_at hl 0 rfl) ?_
  refine lv_bipush (v := 63) hx hb d_27_49_49 (by decide) ?_
  refine lv_iand hx hb d_27_49_51 ?_
  obtain ⟨a42, e43⟩ := q_nm (a39 &&& 63 : Int32)
  refine q_ti (v := a42) e43 ?_
  have b44 : q_F (0 ≤ a42.toInt ∧ a42.toInt ≤ 63) := (by rw [← e43]; show 0 ≤ (a39 &&& 63 : Int32).toInt ∧ (a39 &&& 63 : Int32).toInt ≤ 63; exact s_and (by decide))
  exact q_reti C0 V (⟨rfl, (show 0 ≤ a42.toInt from (by first | with_reducible exact (q_fe b44).2 | with_reducible exact (q_fe b44).1 | (have t1 : 0 ≤ a42.toInt ∧ a42.toInt ≤ 63 := b44; omega))), (show a42.toInt ≤ 63 from (by first | with_reducible exact (q_fe b44).2 | with_reducible exact (q_fe b44).1 | (have t1 : 0 ≤ a42.toInt ∧ a42.toInt ≤ 63 := b44; omega))), (show a42 = (F_jInt_bitCount x1) from (by subst e2; subst e5; subst e8; subst e10; subst e13; subst e16; subst e19; subst e22; subst e25; subst e28; subst e31; subst e34; subst e37; subst e40; subst e43; rw [F_jInt_bitCount.eq_1]))⟩) d_27_49_52
def F_Big_bitsOf (x1 : Int32) : Int32 := ((F_jInt_bitCount (((((x1 ||| ((x1.toUInt32 >>> ((1 : Int32).toUInt32 &&& Int32.toUInt32 31)).toInt32 : Int32) : Int32) ||| (((x1 ||| ((x1.toUInt32 >>> ((1 : Int32).toUInt32 &&& Int32.toUInt32 31)).toInt32 : Int32) : Int32).toUInt32 >>> ((2 : Int32).toUInt32 &&& Int32.toUInt32 31)).toInt32 : Int32) : Int32) ||| ((((x1 ||| ((x1.toUInt32 >>> ((1 : Int32).toUInt32 &&& Int32.toUInt32 31)).toInt32 : Int32) : Int32) ||| (((x1 ||| ((x1.toUInt32 >>> ((1 : Int32).toUInt32 &&& Int32.toUInt32 31)).toInt32 : Int32) : Int32).toUInt32 >>> ((2 : Int32).toUInt32 &&& Int32.toUInt32 31)).toInt32 : Int32) : Int32).toUInt32 >>> ((4 : Int32).toUInt32 &&& Int32.toUInt32 31)).toInt32 : Int32) : Int32) ||| (((((x1 ||| ((x1.toUInt32 >>> ((1 : Int32).toUInt32 &&& Int32.toUInt32 31)).toInt32 : Int32) : Int32) ||| (((x1 ||| ((x1.toUInt32 >>> ((1 : Int32).toUInt32 &&& Int32.toUInt32 31)).toInt32 : Int32) : Int32).toUInt32 >>> ((2 : Int32).toUInt32 &&& Int32.toUInt32 31)).toInt32 : Int32) : Int32) ||| ((((x1 ||| ((x1.toUInt32 >>> ((1 : Int32).toUInt32 &&& Int32.toUInt32 31)).toInt32 : Int32) : Int32) ||| (((x1 ||| ((x1.toUInt32 >>> ((1 : Int32).toUInt32 &&& Int32.toUInt32 31)).toInt32 : Int32) : Int32).toUInt32 >>> ((2 : Int32).toUInt32 &&& Int32.toUInt32 31)).toInt32 : Int32) : Int32).toUInt32 >>> ((4 : Int32).toUInt32 &&& Int32.toUInt32 31)).toInt32 : Int32) : Int32).toUInt32 >>> ((8 : Int32).toUInt32 &&& Int32.toUInt32 31)).toInt32 : Int32) : Int32) ||| ((((((x1 ||| ((x1.toUInt32 >>> ((1 : Int32).toUInt32 &&& Int32.toUInt32 31)).toInt32 : Int32) : Int32) ||| (((x1 ||| ((x1.toUInt32 >>> ((1 : Int32).toUInt32 &&& Int32.toUInt32 31)).toInt32 : Int32) : Int32).toUInt32 >>> ((2 : Int32).toUInt32 &&& Int32.toUInt32 31)).toInt32 : Int32) : Int32) ||| ((((x1 ||| ((x1.toUInt32 >>> ((1 : Int32).toUInt32 &&& Int32.toUInt32 31)).toInt32 : Int32) : Int32) ||| (((x1 ||| ((x1.toUInt32 >>> ((1 : Int32).toUInt32 &&& Int32.toUInt32 31)).toInt32 : Int32) : Int32).toUInt32 >>> ((2 : Int32).toUInt32 &&& Int32.toUInt32 31)).toInt32 : Int32) : Int32).toUInt32 >>> ((4 : Int32).toUInt32 &&& Int32.toUInt32 31)).toInt32 : Int32) : Int32) ||| (((((x1 ||| ((x1.toUInt32 >>> ((1 : Int32).toUInt32 &&& Int32.toUInt32 31)).toInt32 : Int32) : Int32) ||| (((x1 ||| ((x1.toUInt32 >>> ((1 : Int32).toUInt32 &&& Int32.toUInt32 31)).toInt32 : Int32) : Int32).toUInt32 >>> ((2 : Int32).toUInt32 &&& Int32.toUInt32 31)).toInt32 : Int32) : Int32) ||| ((((x1 ||| ((x1.toUInt32 >>> ((1 : Int32).toUInt32 &&& Int32.toUInt32 31)).toInt32 : Int32) : Int32) ||| (((x1 ||| ((x1.toUInt32 >>> ((1 : Int32).toUInt32 &&& Int32.toUInt32 31)).toInt32 : Int32) : Int32).toUInt32 >>> ((2 : Int32).toUInt32 &&& Int32.toUInt32 31)).toInt32 : Int32) : Int32).toUInt32 >>> ((4 : Int32).toUInt32 &&& Int32.toUInt32 31)).toInt32 : Int32) : Int32).toUInt32 >>> ((8 : Int32).toUInt32 &&& Int32.toUInt32 31)).toInt32 : Int32) : Int32).toUInt32 >>> ((16 : Int32).toUInt32 &&& Int32.toUInt32 31)).toInt32 : Int32) : Int32)) : Int32)
set_option maxRecDepth 100000 in
set_option maxHeartbeats 4000000 in
theorem X_Big_bitsOf (l : Launch) (D : va_G) (g : Nat → ClassId) (q : Nat → Nat) (ws : va_W) (x1 : Int32) (hI : q_I (nsh g q) q ws) : q_mI l y_Big_bitsOf prog_2_method_13_code 2 (.int) 2 0 0 D g [.int x1] ws (fun r u => ws = u ∧ (0 ≤ r.toInt) ∧ (r.toInt ≤ 63) ∧ r = (F_Big_bitsOf x1)) := by
  intro sz
  refine q_into (by decide) (Nat.le_of_ble_eq_true rfl) ?_
  intro p e s m below meth c ls hsz C0 V hl
  have hx := C0.1
  have hb := C0.2.1
  have hl : lv_has ls 2 [(0, .int x1)] := hl
  refine lv_iload_n hx hb d_2_13_0 rfl (lv_at hl 0 rfl) ?_
  refine lv_iload_n hx hb d_2_13_1 rfl (lv_at hl 0 rfl) ?_
  refine lv_iconst (v := 1) hx hb d_2_13_2 (by decide) ?_
  refine lv_iushr hx hb d_2_13_3 rfl ?_
  obtain ⟨a1, e2⟩ := q_nm ((x1.toUInt32 >>> ((1 : Int32).toUInt32 &&& Int32.toUInt32 31)).toInt32 : Int32)
  refine q_ti (v := a1) e2 ?_
  refine lv_ior hx hb d_2_13_4 ?_
  obtain ⟨a4, e5⟩ := q_nm (x1 ||| a1 : Int32)
  refine q_ti (v := a4) e5 ?_
  refine lv_istore_n (lv' := [(1, .int a4), (0, .int x1)]) hx hb d_2_13_5 rfl hl (by decide) rfl (fun ls hl => ?_)
  refine lv_iload_n hx hb d_2_13_6 rfl (lv_at hl 0 rfl) ?_
  refine lv_iload_n hx hb d_2_13_7 rfl (lv_at hl 0 rfl) ?_
  refine lv_iconst (v := 2) hx hb d_2_13_8 (by decide) ?_
  refine lv_iushr hx hb d_2_13_9 rfl ?_
  obtain ⟨a6, e7⟩ := q_nm ((a4.toUInt32 >>> ((2 : Int32).toUInt32 &&& Int32.toUInt32 31)).toInt32 : Int32)
  refine q_ti (v := a6) e7 ?_
  refine lv_ior hx hb d_2_13_10 ?_
  obtain ⟨a9, e10⟩ := q_nm (a4 ||| a6 : Int32)
  refine q_ti (v := a9) e10 ?_
  refine lv_istore_n (lv' := [(1, .int a9), (0, .int x1)]) hx hb d_2_13_11 rfl hl (by decide) rfl (fun ls hl => ?_)
  refine lv_iload_n hx hb d_2_13_12 rfl (lv_at hl 0 rfl) ?_
  refine lv_iload_n hx hb d_2_13_13 rfl (lv_at hl 0 rfl) ?_
  refine lv_iconst (v := 4) hx hb d_2_13_14 (by decide) ?_
  refine lv_iushr hx hb d_2_13_15 rfl ?_
  obtain ⟨a11, e12⟩ := q_nm ((a9.toUInt32 >>> ((4 : Int32).toUInt32 &&& Int32.toUInt32 31)).toInt32 : Int32)
  refine q_ti (v := a11) e12 ?_
  refine lv_ior hx hb d_2_13_16 ?_
  obtain ⟨a14, e15⟩ := q_nm (a9 ||| a11 : Int32)
  refine q_ti (v := a14) e15 ?_
  refine lv_istore_n (lv' := [(1, .int a14), (0, .int x1)]) hx hb d_2_13_17 rfl hl (by decide) rfl (fun ls hl => ?_)
  refine lv_iload_n hx hb d_2_13_18 rfl (lv_at hl 0 rfl) ?_
  refine lv_iload_n hx hb d_2_13_19 rfl (lv_at hl 0 rfl) ?_
  refine lv_bipush (v := 8) hx hb d_2_13_20 (by decide) ?_
  refine lv_iushr hx hb d_2_13_22 rfl ?_
  obtain ⟨a16, e17⟩ := q_nm ((a14.toUInt32 >>> ((8 : Int32).toUInt32 &&& Int32.toUInt32 31)).toInt32 : Int32)
  refine q_ti (v := a16) e17 ?_
  refine lv_ior hx hb d_2_13_23 ?_
  obtain ⟨a19, e20⟩ := q_nm (a14 ||| a16 : Int32)
  refine q_ti (v := a19) e20 ?_
  refine lv_istore_n (lv' := [(1, .int a19), (0, .int x1)]) hx hb d_2_13_24 rfl hl (by decide) rfl (fun ls hl => ?_)
  refine lv_iload_n hx hb d_2_13_25 rfl (lv_at hl 0 rfl) ?_
  refine lv_iload_n hx hb d_2_13_26 rfl (lv_at hl 0 rfl) ?_
  refine lv_bipush (v := 16) hx hb d_2_13_27 (by decide) ?_
  refine lv_iushr hx hb d_2_13_29 rfl ?_
  obtain ⟨a21, e22⟩ := q_nm ((a19.toUInt32 >>> ((16 : Int32).toUInt32 &&& Int32.toUInt32 31)).toInt32 : Int32)
  refine q_ti (v := a21) e22 ?_
  refine lv_ior hx hb d_2_13_30 ?_
  obtain ⟨a24, e25⟩ := q_nm (a19 ||| a21 : Int32)
  refine q_ti (v := a24) e25 ?_
  refine lv_istore_n (lv' := [(1, .int a24), (0, .int x1)]) hx hb d_2_13_31 rfl hl (by decide) rfl (fun ls hl => ?_)
  refine lv_iload_n hx hb d_2_13_32 rfl (lv_at hl 0 rfl) ?_
  refine q_goi V (q_runS (As := [.int a24]) (rest := []) (d := 1) (mc := 0) (ms := 0) C0 V rfl LS_Big_60 (X_jInt_bitCount l D g q ws  a24 hI   _) rfl hl.1 rfl (Nat.le_of_ble_eq_true rfl) ⟨by decide, by decide⟩ ⟨Nat.le_of_ble_eq_true rfl, Nat.le_of_ble_eq_true rfl⟩ d_2_13_33) (fun a28 u26 H locs hp27 V => ?_)
  obtain ⟨rfl, b29, b30, hE31⟩ := hp27
  have e32 : a28 = (F_jInt_bitCount a24) := hE31
  replace b29 : q_F (0 ≤ a28.toInt) := b29
  replace b30 : q_F (a28.toInt ≤ 63) := b30
  exact q_reti C0 V (⟨rfl, (show 0 ≤ a28.toInt from (by first | with_reducible exact q_fe b29 | (have t1 : 0 ≤ a28.toInt := b29; omega))), (show a28.toInt ≤ 63 from (by first | with_reducible exact q_fe b30 | (have t1 : a28.toInt ≤ 63 := b30; omega))), (show a28 = (F_Big_bitsOf x1) from (by subst e2; subst e5; subst e7; subst e10; subst e12; subst e15; subst e17; subst e20; subst e22; subst e25; subst e32; rw [F_Big_bitsOf.eq_1]))⟩) d_2_13_36
def F_Big_bitLength (R : Int32) (t0_0 : Int32) (t0_1 : Int32) (t1_0 : (Nat → Int32)) : Int32 := if t0_0 = (0 : Int32) then ((0 : Int32)) else ((((t0_0 - 1 : Int32) * 31 : Int32) + ((F_Big_bitsOf (t1_0 (t0_0 - 1 : Int32).toNatClampNeg : Int32)) : Int32) : Int32))
set_option maxRecDepth 100000 in
set_option maxHeartbeats 4000000 in
theorem X_Big_bitLength (l : Launch) (D : va_G) (g : Nat → ClassId) (q : Nat → Nat) (ws : va_W) (k1 : Nat) (R : Int32) (hB1 : q_isBig (nsh g q) g q k1 R) (zk1 : (10 ≤ k1 ∧ k1 ≤ 32) ∨ 66 ≤ k1) (hI : q_I (nsh g q) q ws) (t0_0 : Int32) (t0_1 : Int32) (hT0 : ws[k1]? = (some (q k1, .inr (2, [.ref (q (k1 + 1)), .int t0_0, .int t0_1])) : Option (Nat × va_E))) (t1_0 : (Nat → Int32)) (hT1 : ws[k1 + 1]? = (some (q (k1 + 1), .inl (g 0, R.toNatClampNeg, .inl t1_0)) : Option (Nat × va_E))) : q_mI l y_Big_bitLength prog_2_method_12_code 1 (.int) 3 0 0 D g [.ref (q k1)] ws (fun r u => ws = u ∧ (0 ≤ r.toInt) ∧ (t0_0.toInt ≤ r.toInt + 1) ∧ (r.toInt ≤ t0_0.toInt + 6632) ∧ r = (F_Big_bitLength R t0_0 t0_1 t1_0)) := by
  intro sz
  refine q_into (by decide) (Nat.le_of_ble_eq_true rfl) ?_
  intro p e s m below meth c ls hsz C0 V hl
  have hx := C0.1
  have hb := C0.2.1
  have hfk10 : q_F (0 ≤ R.toInt ∧ R.toInt ≤ 220) := hB1.2.2
  have btt0_0 := (q_bigW hI hB1 hT0).1
  replace btt0_0 : q_F (0 ≤ t0_0.toInt ∧ t0_0.toInt ≤ R.toInt) := btt0_0
  have hl : lv_has ls 1 [(0, .ref (q k1))] := hl
  refine lv_aload_n hx hb d_2_12_0 rfl (lv_at hl 0 rfl) ?_
  refine q_get (ci := 2) (j := 1) (v := .int t0_0) C0 V i_Big rfl rfl hT0 (by decide) w_85 rfl d_2_12_1 ?_
  refine lv_if_ne (tgt := 11) hx hb d_2_12_4 (by decide) (fun c9 => ?_) (fun c9 => ?_)
  ·
    have b10 : q_F (t0_0.toInt ≠ 0) := (q_neI c9)
    refine lv_aload_n hx hb d_2_12_11 rfl (lv_at hl 0 rfl) ?_
    refine q_get (ci := 2) (j := 1) (v := .int t0_0) C0 V i_Big rfl rfl hT0 (by decide) w_85 rfl d_2_12_12 ?_
    refine lv_iconst (v := 1) hx hb d_2_12_15 (by decide) ?_
    refine lv_isub hx hb d_2_12_16 ?_
    obtain ⟨a11, e12⟩ := q_nm (t0_0 - 1 : Int32)
    refine q_ti (v := a11) e12 ?_
    have b13 : q_F (a11.toInt = t0_0.toInt - 1) := (by rw [← e12]; show (t0_0 - 1 : Int32).toInt = t0_0.toInt - 1; exact q_subI (x := t0_0.toInt) (y := 1) rfl (by decide) (by have t1 : 0 ≤ t0_0.toInt ∧ t0_0.toInt ≤ R.toInt := btt0_0; have _ := q_lo32 (x := R); have _ := q_hi32 (x := R); omega) (by have t1 : 0 ≤ t0_0.toInt ∧ t0_0.toInt ≤ R.toInt := btt0_0; have _ := q_lo32 (x := R); have _ := q_hi32 (x := R); omega))
    refine lv_bipush (v := 31) hx hb d_2_12_17 (by decide) ?_
    refine lv_imul hx hb d_2_12_19 ?_
    obtain ⟨a14, e15⟩ := q_nm (a11 * 31 : Int32)
    refine q_ti (v := a14) e15 ?_
    have b16 : q_F (a14.toInt = a11.toInt * 31) := (by rw [← e15]; show (a11 * 31 : Int32).toInt = a11.toInt * 31; exact q_mulI (x := a11.toInt) (y := 31) rfl (by decide) (by have t1 : 0 ≤ t0_0.toInt ∧ t0_0.toInt ≤ R.toInt := btt0_0; have t2 : a11.toInt = t0_0.toInt - 1 := b13; have t3 : 0 ≤ R.toInt ∧ R.toInt ≤ 220 := hfk10; omega) (by have t1 : 0 ≤ t0_0.toInt ∧ t0_0.toInt ≤ R.toInt := btt0_0; have t2 : a11.toInt = t0_0.toInt - 1 := b13; have t3 : 0 ≤ R.toInt ∧ R.toInt ≤ 220 := hfk10; omega))
    refine lv_aload_n hx hb d_2_12_20 rfl (lv_at hl 0 rfl) ?_
    refine q_get (ci := 2) (j := 0) (v := .ref (q (k1 + 1))) C0 V i_Big rfl rfl hT0 (by decide) w_84 rfl d_2_12_21 ?_
    refine lv_aload_n hx hb d_2_12_24 rfl (lv_at hl 0 rfl) ?_
    refine q_get (ci := 2) (j := 1) (v := .int t0_0) C0 V i_Big rfl rfl hT0 (by decide) w_85 rfl d_2_12_25 ?_
    refine lv_iconst (v := 1) hx hb d_2_12_28 (by decide) ?_
    refine lv_isub hx hb d_2_12_29 ?_
    obtain ⟨a17, e18⟩ := q_nm (t0_0 - 1 : Int32)
    refine q_ti (v := a17) e18 ?_
    have b19 : q_F (a17.toInt = t0_0.toInt - 1) := (by rw [← e18]; show (t0_0 - 1 : Int32).toInt = t0_0.toInt - 1; exact q_subI (x := t0_0.toInt) (y := 1) rfl (by decide) (by have t1 : 0 ≤ t0_0.toInt ∧ t0_0.toInt ≤ R.toInt := btt0_0; have _ := q_lo32 (x := R); have _ := q_hi32 (x := R); omega) (by have t1 : 0 ≤ t0_0.toInt ∧ t0_0.toInt ≤ R.toInt := btt0_0; have _ := q_lo32 (x := R); have _ := q_hi32 (x := R); omega))
    refine q_iald C0 V hT1 (q_ix (x := a17.toInt) rfl (by have t1 : 0 ≤ t0_0.toInt ∧ t0_0.toInt ≤ R.toInt := btt0_0; have t2 : t0_0.toInt ≠ 0 := b10; have t3 : a17.toInt = t0_0.toInt - 1 := b19; omega) (by have t1 : 0 ≤ t0_0.toInt ∧ t0_0.toInt ≤ R.toInt := btt0_0; have t2 : t0_0.toInt ≠ 0 := b10; have t3 : a17.toInt = t0_0.toInt - 1 := b19; have e9 := q_clI (i := R) rfl (by first | with_reducible exact (q_fe hfk10).2 | with_reducible exact (q_fe hfk10).1 | (have t1 : 0 ≤ R.toInt ∧ R.toInt ≤ 220 := hfk10; omega)); omega)) d_2_12_30 ?_
    obtain ⟨a20, e21⟩ := q_nm (t1_0 a17.toNatClampNeg : Int32)
    refine q_ti (v := a20) e21 ?_
    refine q_goi V (q_runS (As := [.int a20]) (rest := [.int a14]) (d := 2) (mc := 0) (ms := 0) C0 V rfl LS_Big_57 (X_Big_bitsOf l D g q ws  a20 hI   _) rfl hl.1 rfl (Nat.le_of_ble_eq_true rfl) ⟨by decide, by decide⟩ ⟨Nat.le_of_ble_eq_true rfl, Nat.le_of_ble_eq_true rfl⟩ d_2_12_31) (fun a24 u22 H locs hp23 V => ?_)
    obtain ⟨rfl, b25, b26, hE27⟩ := hp23
    have e28 : a24 = (F_Big_bitsOf a20) := hE27
    replace b25 : q_F (0 ≤ a24.toInt) := b25
    replace b26 : q_F (a24.toInt ≤ 63) := b26
    refine lv_iadd hx hb d_2_12_34 ?_
    obtain ⟨a29, e30⟩ := q_nm (a14 + a24 : Int32)
    refine q_ti (v := a29) e30 ?_
    have b31 : q_F (a29.toInt = a14.toInt + a24.toInt) := (by rw [← e30]; show (a14 + a24 : Int32).toInt = a14.toInt + a24.toInt; exact q_addI (x := a14.toInt) (y := a24.toInt) rfl rfl (by have t1 : 0 ≤ a24.toInt := b25; have _ := q_lo32 (x := a14); have _ := q_hi32 (x := a14); have t2 : 0 ≤ R.toInt ∧ R.toInt ≤ 220 := hfk10; have t3 : 0 ≤ t0_0.toInt ∧ t0_0.toInt ≤ R.toInt := btt0_0; have t4 : a11.toInt = t0_0.toInt - 1 := b13; have t5 : a14.toInt = a11.toInt * 31 := b16; have t6 : a24.toInt ≤ 63 := b26; omega) (by have t1 : 0 ≤ a24.toInt := b25; have _ := q_lo32 (x := a14); have _ := q_hi32 (x := a14); have t2 : 0 ≤ R.toInt ∧ R.toInt ≤ 220 := hfk10; have t3 : 0 ≤ t0_0.toInt ∧ t0_0.toInt ≤ R.toInt := btt0_0; have t4 : a11.toInt = t0_0.toInt - 1 := b13; have t5 : a14.toInt = a11.toInt * 31 := b16; have t6 : a24.toInt ≤ 63 := b26; omega))
    exact q_reti C0 V (⟨rfl, (show 0 ≤ a29.toInt from (by have t1 : 0 ≤ t0_0.toInt ∧ t0_0.toInt ≤ R.toInt := btt0_0; have t2 : t0_0.toInt ≠ 0 := b10; have t3 : a11.toInt = t0_0.toInt - 1 := b13; have t4 : a14.toInt = a11.toInt * 31 := b16; have t5 : 0 ≤ a24.toInt := b25; have t6 : a29.toInt = a14.toInt + a24.toInt := b31; omega)), (show t0_0.toInt ≤ a29.toInt + 1 from (by have t1 : 0 ≤ t0_0.toInt ∧ t0_0.toInt ≤ R.toInt := btt0_0; have t2 : t0_0.toInt ≠ 0 := b10; have t3 : a11.toInt = t0_0.toInt - 1 := b13; have t4 : a14.toInt = a11.toInt * 31 := b16; have t5 : 0 ≤ a24.toInt := b25; have t6 : a29.toInt = a14.toInt + a24.toInt := b31; omega)), (show a29.toInt ≤ t0_0.toInt + 6632 from (by have t1 : 0 ≤ R.toInt ∧ R.toInt ≤ 220 := hfk10; have t2 : 0 ≤ t0_0.toInt ∧ t0_0.toInt ≤ R.toInt := btt0_0; have t3 : a11.toInt = t0_0.toInt - 1 := b13; have t4 : a14.toInt = a11.toInt * 31 := b16; have t5 : a24.toInt ≤ 63 := b26; have t6 : a29.toInt = a14.toInt + a24.toInt := b31; omega)), (show a29 = (F_Big_bitLength R t0_0 t0_1 t1_0) from (by subst e12; subst e15; subst e18; subst e21; subst e28; subst e30; rw [F_Big_bitLength.eq_1, if_neg c9]))⟩) d_2_12_35
  ·
    have b32 : q_F (t0_0.toInt = 0) := (q_eqI c9)
    refine lv_iconst (v := 0) hx hb d_2_12_7 (by decide) ?_
    refine lv_goto (tgt := 35) hx hb d_2_12_8 (by decide) ?_
    exact q_reti C0 V (⟨rfl, (show 0 ≤ (0 : Int32).toInt from (by have z4 : (0 : Int32).toInt = 0 := rfl; omega)), (show t0_0.toInt ≤ (0 : Int32).toInt + 1 from (by have z4 : (0 : Int32).toInt = 0 := rfl; have t1 : t0_0.toInt = 0 := b32; omega)), (show (0 : Int32).toInt ≤ t0_0.toInt + 6632 from (by have z4 : (0 : Int32).toInt = 0 := rfl; have t1 : 0 ≤ t0_0.toInt ∧ t0_0.toInt ≤ R.toInt := btt0_0; omega)), (show (0 : Int32) = (F_Big_bitLength R t0_0 t0_1 t1_0) from (by rw [F_Big_bitLength.eq_1, if_pos c9]))⟩) d_2_12_35
def F_Big_lowestOne_L2 (R : Int32) (t0_0 : Int32) (t0_1 : Int32) (t1_0 : (Nat → Int32)) : Nat → Int32 → Int32
  | 0, _ => default
  | fm + 1, lx10 => if t0_0 ≤ lx10 then ((0 : Int32)) else (if (t1_0 lx10.toNatClampNeg : Int32) = (0 : Int32) then (F_Big_lowestOne_L2 R t0_0 t0_1 t1_0 fm (lx10 + 1 : Int32)) else (((lx10 * 31 : Int32) + ((F_jInt_bitCount (((t1_0 lx10.toNatClampNeg : Int32) &&& (-(t1_0 lx10.toNatClampNeg : Int32) : Int32) : Int32) - 1 : Int32)) : Int32) : Int32)))
def F_Big_lowestOne (R : Int32) (t0_0 : Int32) (t0_1 : Int32) (t1_0 : (Nat → Int32)) : Int32 := F_Big_lowestOne_L2 R t0_0 t0_1 t1_0 ((220 - (0 : Int32).toInt).toNat + 1) 0
set_option maxRecDepth 100000 in
set_option maxHeartbeats 4000000 in
theorem X_Big_lowestOne (l : Launch) (D : va_G) (g : Nat → ClassId) (q : Nat → Nat) (ws : va_W) (k1 : Nat) (R : Int32) (hB1 : q_isBig (nsh g q) g q k1 R) (zk1 : (10 ≤ k1 ∧ k1 ≤ 32) ∨ 66 ≤ k1) (hI : q_I (nsh g q) q ws) (t0_0 : Int32) (t0_1 : Int32) (hT0 : ws[k1]? = (some (q k1, .inr (2, [.ref (q (k1 + 1)), .int t0_0, .int t0_1])) : Option (Nat × va_E))) (t1_0 : (Nat → Int32)) (hT1 : ws[k1 + 1]? = (some (q (k1 + 1), .inl (g 0, R.toNatClampNeg, .inl t1_0)) : Option (Nat × va_E))) : q_mI l y_Big_lowestOne prog_2_method_15_code 2 (.int) 2 0 0 D g [.ref (q k1)] ws (fun r u => ws = u ∧ (0 ≤ r.toInt) ∧ (r.toInt ≤ t0_0.toInt + 6632) ∧ r = (F_Big_lowestOne R t0_0 t0_1 t1_0)) := by
  intro sz
  refine q_into (by decide) (Nat.le_of_ble_eq_true rfl) ?_
  intro p e s m below meth c ls hsz C0 V hl
  have hx := C0.1
  have hb := C0.2.1
  have hfk10 : q_F (0 ≤ R.toInt ∧ R.toInt ≤ 220) := hB1.2.2
  have btt0_0 := (q_bigW hI hB1 hT0).1
  replace btt0_0 : q_F (0 ≤ t0_0.toInt ∧ t0_0.toInt ≤ R.toInt) := btt0_0
  have hl : lv_has ls 2 [(0, .ref (q k1))] := hl
  refine lv_iconst (v := 0) hx hb d_2_15_0 (by decide) ?_
  refine lv_istore_n (lv' := [(1, .int 0), (0, .ref (q k1))]) hx hb d_2_15_1 rfl hl (by decide) rfl (fun ls hl => ?_)
  refine q_loop (X := Int32) (fun z H locs ls _ => q_F (0 ≤ z.toInt) ∧ q_F (z.toInt ≤ t0_0.toInt) ∧ q_Wd D g (va_A ws sz) s ws H locs ∧ lv_has ls 2 [(1, .int z), (0, .ref (q k1))] ∧ (∃ n, (220 - z.toInt).toNat < n ∧ F_Big_lowestOne_L2 R t0_0 t0_1 t1_0 n z = (F_Big_lowestOne R t0_0 t0_1 t1_0))) (fun z => (220 - z.toInt).toNat) ?_ ((0 : Int32)) _ _ _ ws ⟨(show q_F (0 ≤ 0) from (show 0 ≤ 0 from by omega)), (show q_F (0 ≤ t0_0.toInt) from (show 0 ≤ t0_0.toInt from by have t1 : 0 ≤ t0_0.toInt ∧ t0_0.toInt ≤ R.toInt := btt0_0; omega)), V, q_lw hl (q_lw1 0 rfl (q_lw1 1 rfl q_lw0)), ⟨((220 - (0 : Int32).toInt).toNat + 1), Nat.lt_succ_self _, (show F_Big_lowestOne_L2 R t0_0 t0_1 t1_0 ((220 - (0 : Int32).toInt).toNat + 1) 0 = (F_Big_lowestOne R t0_0 t0_1 t1_0) from (by rw [F_Big_lowestOne.eq_1]))⟩⟩
  rintro lx10 H locs ls _ ⟨i11, i12, V, hl, ⟨fu15, hf16, hR14⟩⟩ ih13
  obtain ⟨fm17, rfl⟩ : ∃ m, fu15 = m + 1 := ⟨fu15 - 1, by omega⟩
  replace i11 : q_F (0 ≤ lx10.toInt) := i11
  replace i12 : q_F (lx10.toInt ≤ t0_0.toInt) := i12
  replace hl : lv_has ls 2 [(1, .int lx10), (0, .ref (q k1))] := hl
  refine lv_iload_n hx hb d_2_15_2 rfl (lv_at hl 0 rfl) ?_
  refine lv_aload_n hx hb d_2_15_3 rfl (lv_at hl 1 rfl) ?_
  refine q_get (ci := 2) (j := 1) (v := .int t0_0) C0 V i_Big rfl rfl hT0 (by decide) w_85 rfl d_2_15_4 ?_
  refine lv_icmp_ge (tgt := 50) hx hb d_2_15_7 (by decide) (fun c18 => ?_) (fun c18 => ?_)
  ·
    refine lv_iconst (v := 0) hx hb d_2_15_50 (by decide) ?_
    exact q_reti C0 V (⟨rfl, (show 0 ≤ (0 : Int32).toInt from (by have z4 : (0 : Int32).toInt = 0 := rfl; omega)), (show (0 : Int32).toInt ≤ t0_0.toInt + 6632 from (by have z4 : (0 : Int32).toInt = 0 := rfl; have t1 : 0 ≤ t0_0.toInt ∧ t0_0.toInt ≤ R.toInt := btt0_0; omega)), (show (0 : Int32) = (F_Big_lowestOne R t0_0 t0_1 t1_0) from Eq.trans (by rw [F_Big_lowestOne_L2.eq_2, if_pos c18]) hR14)⟩) d_2_15_51
  ·
    have b20 : q_F (lx10.toInt < t0_0.toInt) := (q_nleI c18)
    refine lv_aload_n hx hb d_2_15_10 rfl (lv_at hl 1 rfl) ?_
    refine q_get (ci := 2) (j := 0) (v := .ref (q (k1 + 1))) C0 V i_Big rfl rfl hT0 (by decide) w_84 rfl d_2_15_11 ?_
    refine lv_iload_n hx hb d_2_15_14 rfl (lv_at hl 0 rfl) ?_
    refine q_iald C0 V hT1 (q_ix (x := lx10.toInt) rfl (by first | with_reducible exact q_fe i11 | (have t1 : 0 ≤ lx10.toInt := i11; omega)) (by have t1 : 0 ≤ lx10.toInt := i11; have t2 : 0 ≤ t0_0.toInt ∧ t0_0.toInt ≤ R.toInt := btt0_0; have t3 : lx10.toInt < t0_0.toInt := b20; have e9 := q_clI (i := R) rfl (by first | with_reducible exact (q_fe hfk10).2 | with_reducible exact (q_fe hfk10).1 | (have t1 : 0 ≤ R.toInt ∧ R.toInt ≤ 220 := hfk10; omega)); omega)) d_2_15_15 ?_
    obtain ⟨a21, e22⟩ := q_nm (t1_0 lx10.toNatClampNeg : Int32)
    refine q_ti (v := a21) e22 ?_
    refine lv_if_eq (tgt := 44) hx hb d_2_15_16 (by decide) (fun c23 => ?_) (fun c23 => ?_)
    ·
      obtain ⟨a25, e26⟩ := q_nm (lx10 + 1 : Int32)
      have b27 : q_F (a25.toInt = lx10.toInt + 1) := (by rw [← e26]; exact q_addI (y := 1) rfl (by decide) (by have t1 : 0 ≤ lx10.toInt := i11; have t2 : lx10.toInt < t0_0.toInt := b20; have _ := q_lo32 (x := t0_0); have _ := q_hi32 (x := t0_0); omega) (by have t1 : 0 ≤ lx10.toInt := i11; have t2 : lx10.toInt < t0_0.toInt := b20; have _ := q_lo32 (x := t0_0); have _ := q_hi32 (x := t0_0); omega))
      refine lv_iinc (v := a25) (lv' := [(1, .int a25), (0, .ref (q k1))]) hx hb d_2_15_44 hl (k := 0) rfl (e26) (by decide) rfl (fun ls hl => ?_)
      refine lv_goto (tgt := 2) hx hb d_2_15_47 (by decide) ?_
      exact ih13 ((a25 : Int32)) _ _ _ ws (show (220 - a25.toInt).toNat < (220 - lx10.toInt).toNat from by have t1 : a25.toInt = lx10.toInt + 1 := b27; have t2 : 0 ≤ R.toInt ∧ R.toInt ≤ 220 := hfk10; have t3 : 0 ≤ t0_0.toInt ∧ t0_0.toInt ≤ R.toInt := btt0_0; have t4 : lx10.toInt ≤ t0_0.toInt := i12; have t5 : lx10.toInt < t0_0.toInt := b20; omega) ⟨(show q_F (0 ≤ a25.toInt) from (show 0 ≤ a25.toInt from by have t1 : 0 ≤ lx10.toInt := i11; have t2 : a25.toInt = lx10.toInt + 1 := b27; omega)), (show q_F (a25.toInt ≤ t0_0.toInt) from (show a25.toInt ≤ t0_0.toInt from by have t1 : lx10.toInt < t0_0.toInt := b20; have t2 : a25.toInt = lx10.toInt + 1 := b27; omega)), V, q_lw hl (q_lw1 0 rfl (q_lw1 1 rfl q_lw0)), ⟨fm17, Nat.lt_of_lt_of_le (show (220 - a25.toInt).toNat < (220 - lx10.toInt).toNat from by have t1 : a25.toInt = lx10.toInt + 1 := b27; have t2 : 0 ≤ R.toInt ∧ R.toInt ≤ 220 := hfk10; have t3 : 0 ≤ t0_0.toInt ∧ t0_0.toInt ≤ R.toInt := btt0_0; have t4 : lx10.toInt ≤ t0_0.toInt := i12; have t5 : lx10.toInt < t0_0.toInt := b20; omega) (Nat.le_of_lt_succ hf16), (show F_Big_lowestOne_L2 R t0_0 t0_1 t1_0 fm17 a25 = (F_Big_lowestOne R t0_0 t0_1 t1_0) from Eq.trans (by subst e22; subst e26; rw [F_Big_lowestOne_L2.eq_2, if_neg c18, if_pos c23]) hR14)⟩⟩
    ·
      refine lv_iload_n hx hb d_2_15_19 rfl (lv_at hl 0 rfl) ?_
      refine lv_bipush (v := 31) hx hb d_2_15_20 (by decide) ?_
      refine lv_imul hx hb d_2_15_22 ?_
      obtain ⟨a29, e30⟩ := q_nm (lx10 * 31 : Int32)
      refine q_ti (v := a29) e30 ?_
      have b31 : q_F (a29.toInt = lx10.toInt * 31) := (by rw [← e30]; show (lx10 * 31 : Int32).toInt = lx10.toInt * 31; exact q_mulI (x := lx10.toInt) (y := 31) rfl (by decide) (by have t1 : 0 ≤ lx10.toInt := i11; have t2 : 0 ≤ R.toInt ∧ R.toInt ≤ 220 := hfk10; have t3 : 0 ≤ t0_0.toInt ∧ t0_0.toInt ≤ R.toInt := btt0_0; have t4 : lx10.toInt ≤ t0_0.toInt := i12; omega) (by have t1 : 0 ≤ lx10.toInt := i11; have t2 : 0 ≤ R.toInt ∧ R.toInt ≤ 220 := hfk10; have t3 : 0 ≤ t0_0.toInt ∧ t0_0.toInt ≤ R.toInt := btt0_0; have t4 : lx10.toInt ≤ t0_0.toInt := i12; omega))
      refine lv_aload_n hx hb d_2_15_23 rfl (lv_at hl 1 rfl) ?_
      refine q_get (ci := 2) (j := 0) (v := .ref (q (k1 + 1))) C0 V i_Big rfl rfl hT0 (by decide) w_84 rfl d_2_15_24 ?_
      refine lv_iload_n hx hb d_2_15_27 rfl (lv_at hl 0 rfl) ?_
      refine q_iald C0 V hT1 (q_ix (x := lx10.toInt) rfl (by first | with_reducible exact q_fe i11 | (have t1 : 0 ≤ lx10.toInt := i11; omega)) (by have t1 : 0 ≤ lx10.toInt := i11; have t2 : 0 ≤ t0_0.toInt ∧ t0_0.toInt ≤ R.toInt := btt0_0; have t3 : lx10.toInt < t0_0.toInt := b20; have e9 := q_clI (i := R) rfl (by first | with_reducible exact (q_fe hfk10).2 | with_reducible exact (q_fe hfk10).1 | (have t1 : 0 ≤ R.toInt ∧ R.toInt ≤ 220 := hfk10; omega)); omega)) d_2_15_28 ?_
      obtain ⟨a32, e33⟩ := q_nm (t1_0 lx10.toNatClampNeg : Int32)
      refine q_ti (v := a32) e33 ?_
      refine lv_aload_n hx hb d_2_15_29 rfl (lv_at hl 1 rfl) ?_
      refine q_get (ci := 2) (j := 0) (v := .ref (q (k1 + 1))) C0 V i_Big rfl rfl hT0 (by decide) w_84 rfl d_2_15_30 ?_
      refine lv_iload_n hx hb d_2_15_33 rfl (lv_at hl 0 rfl) ?_
      refine q_iald C0 V hT1 (q_ix (x := lx10.toInt) rfl (by first | with_reducible exact q_fe i11 | (have t1 : 0 ≤ lx10.toInt := i11; omega)) (by have t1 : 0 ≤ lx10.toInt := i11; have t2 : 0 ≤ t0_0.toInt ∧ t0_0.toInt ≤ R.toInt := btt0_0; have t3 : lx10.toInt < t0_0.toInt := b20; have e9 := q_clI (i := R) rfl (by first | with_reducible exact (q_fe hfk10).2 | with_reducible exact (q_fe hfk10).1 | (have t1 : 0 ≤ R.toInt ∧ R.toInt ≤ 220 := hfk10; omega)); omega)) d_2_15_34 ?_
      obtain ⟨a34, e35⟩ := q_nm (t1_0 lx10.toNatClampNeg : Int32)
      refine q_ti (v := a34) e35 ?_
      refine lv_ineg hx hb d_2_15_35 ?_
      obtain ⟨a36, e37⟩ := q_nm (-a34 : Int32)
      refine q_ti (v := a36) e37 ?_
      refine lv_iand hx hb d_2_15_36 ?_
      obtain ⟨a38, e39⟩ := q_nm (a32 &&& a36 : Int32)
      refine q_ti (v := a38) e39 ?_
      refine lv_iconst (v := 1) hx hb d_2_15_37 (by decide) ?_
      refine lv_isub hx hb d_2_15_38 ?_
      obtain ⟨a40, e41⟩ := q_nm (a38 - 1 : Int32)
      refine q_ti (v := a40) e41 ?_
      refine q_goi V (q_runS (As := [.int a40]) (rest := [.int a29]) (d := 1) (mc := 0) (ms := 0) C0 V rfl LS_Big_60 (X_jInt_bitCount l D g q ws  a40 hI   _) rfl hl.1 rfl (Nat.le_of_ble_eq_true rfl) ⟨by decide, by decide⟩ ⟨Nat.le_of_ble_eq_true rfl, Nat.le_of_ble_eq_true rfl⟩ d_2_15_39) (fun a44 u42 H locs hp43 V => ?_)
      obtain ⟨rfl, b45, b46, hE47⟩ := hp43
      have e48 : a44 = (F_jInt_bitCount a40) := hE47
      replace b45 : q_F (0 ≤ a44.toInt) := b45
      replace b46 : q_F (a44.toInt ≤ 63) := b46
      refine lv_iadd hx hb d_2_15_42 ?_
      obtain ⟨a49, e50⟩ := q_nm (a29 + a44 : Int32)
      refine q_ti (v := a49) e50 ?_
      have b51 : q_F (a49.toInt = a29.toInt + a44.toInt) := (by rw [← e50]; show (a29 + a44 : Int32).toInt = a29.toInt + a44.toInt; exact q_addI (x := a29.toInt) (y := a44.toInt) rfl rfl (by have t1 : 0 ≤ a44.toInt := b45; have _ := q_lo32 (x := a29); have _ := q_hi32 (x := a29); have t2 : 0 ≤ R.toInt ∧ R.toInt ≤ 220 := hfk10; have t3 : 0 ≤ t0_0.toInt ∧ t0_0.toInt ≤ R.toInt := btt0_0; have t4 : lx10.toInt ≤ t0_0.toInt := i12; have t5 : a29.toInt = lx10.toInt * 31 := b31; have t6 : a44.toInt ≤ 63 := b46; omega) (by have t1 : 0 ≤ a44.toInt := b45; have _ := q_lo32 (x := a29); have _ := q_hi32 (x := a29); have t2 : 0 ≤ R.toInt ∧ R.toInt ≤ 220 := hfk10; have t3 : 0 ≤ t0_0.toInt ∧ t0_0.toInt ≤ R.toInt := btt0_0; have t4 : lx10.toInt ≤ t0_0.toInt := i12; have t5 : a29.toInt = lx10.toInt * 31 := b31; have t6 : a44.toInt ≤ 63 := b46; omega))
      exact q_reti C0 V (⟨rfl, (show 0 ≤ a49.toInt from (by have t1 : 0 ≤ lx10.toInt := i11; have t2 : a29.toInt = lx10.toInt * 31 := b31; have t3 : 0 ≤ a44.toInt := b45; have t4 : a49.toInt = a29.toInt + a44.toInt := b51; omega)), (show a49.toInt ≤ t0_0.toInt + 6632 from (by have t1 : 0 ≤ R.toInt ∧ R.toInt ≤ 220 := hfk10; have t2 : 0 ≤ t0_0.toInt ∧ t0_0.toInt ≤ R.toInt := btt0_0; have t3 : lx10.toInt < t0_0.toInt := b20; have t4 : a29.toInt = lx10.toInt * 31 := b31; have t5 : a44.toInt ≤ 63 := b46; have t6 : a49.toInt = a29.toInt + a44.toInt := b51; omega)), (show a49 = (F_Big_lowestOne R t0_0 t0_1 t1_0) from Eq.trans (by subst e22; subst e30; subst e33; subst e35; subst e37; subst e39; subst e41; subst e48; subst e50; rw [F_Big_lowestOne_L2.eq_2, if_neg c18, if_neg c23]) hR14)⟩) d_2_15_43
def F_Big_lengthInBits (R : Int32) (t0_0 : Int32) (t0_1 : Int32) (t1_0 : (Nat → Int32)) : Int32 := if t0_1 = (0 : Int32) then (((F_Big_bitLength R t0_0 t0_1 t1_0) : Int32)) else (if ((F_Big_lowestOne R t0_0 t0_1 t1_0) : Int32) = (((F_Big_bitLength R t0_0 t0_1 t1_0) : Int32) - 1 : Int32) then ((((F_Big_bitLength R t0_0 t0_1 t1_0) : Int32) - 1 : Int32)) else (((F_Big_bitLength R t0_0 t0_1 t1_0) : Int32)))
set_option maxRecDepth 100000 in
set_option maxHeartbeats 4000000 in
theorem X_Big_lengthInBits (l : Launch) (D : va_G) (g : Nat → ClassId) (q : Nat → Nat) (ws : va_W) (k1 : Nat) (R : Int32) (hB1 : q_isBig (nsh g q) g q k1 R) (zk1 : (10 ≤ k1 ∧ k1 ≤ 32) ∨ 66 ≤ k1) (hI : q_I (nsh g q) q ws) (t0_0 : Int32) (t0_1 : Int32) (hT0 : ws[k1]? = (some (q k1, .inr (2, [.ref (q (k1 + 1)), .int t0_0, .int t0_1])) : Option (Nat × va_E))) (t1_0 : (Nat → Int32)) (hT1 : ws[k1 + 1]? = (some (q (k1 + 1), .inl (g 0, R.toNatClampNeg, .inl t1_0)) : Option (Nat × va_E))) : q_mI l y_Big_lengthInBits prog_2_method_14_code 2 (.int) 4 0 0 D g [.ref (q k1)] ws (fun r u => ws = u ∧ (0 ≤ r.toInt) ∧ (t0_0.toInt ≤ r.toInt + 2) ∧ (r.toInt ≤ t0_0.toInt + 6632) ∧ r = (F_Big_lengthInBits R t0_0 t0_1 t1_0)) := by
  intro sz
  refine q_into (by decide) (Nat.le_of_ble_eq_true rfl) ?_
  intro p e s m below meth c ls hsz C0 V hl
  have hx := C0.1
  have hb := C0.2.1
  have btt0_1 := (q_bigW hI hB1 hT0).2
  clear btt0_1
  have hl : lv_has ls 2 [(0, .ref (q k1))] := hl
  refine lv_aload_n hx hb d_2_14_0 rfl (lv_at hl 0 rfl) ?_
  refine q_goi V (q_runV (As := []) (rest := []) (d := 3) (mc := 0) (ms := 0) (ci := 2) C0 V rfl LV_Big_65 (X_Big_bitLength l D g q ws k1 R hB1 zk1  hI t0_0 t0_1 hT0 t1_0 hT1  _) rfl rfl hT0 rfl hl.1 rfl (Nat.le_of_ble_eq_true rfl) ⟨by decide, by decide⟩ ⟨Nat.le_of_ble_eq_true rfl, Nat.le_of_ble_eq_true rfl⟩ d_2_14_1) (fun a11 u9 H locs hp10 V => ?_)
  obtain ⟨rfl, b12, b13, b14, hE15⟩ := hp10
  have e16 : a11 = (F_Big_bitLength R t0_0 t0_1 t1_0) := hE15
  replace b12 : q_F (0 ≤ a11.toInt) := b12
  replace b13 : q_F (t0_0.toInt ≤ a11.toInt + 1) := b13
  replace b14 : q_F (a11.toInt ≤ t0_0.toInt + 6632) := b14
  refine lv_istore_n (lv' := [(1, .int a11), (0, .ref (q k1))]) hx hb d_2_14_4 rfl hl (by decide) rfl (fun ls hl => ?_)
  refine lv_aload_n hx hb d_2_14_5 rfl (lv_at hl 1 rfl) ?_
  refine q_get (ci := 2) (j := 2) (v := .int t0_1) C0 V i_Big rfl rfl hT0 (by decide) w_94 rfl d_2_14_6 ?_
  refine lv_if_eq (tgt := 28) hx hb d_2_14_9 (by decide) (fun c17 => ?_) (fun c17 => ?_)
  ·
    refine lv_iload_n hx hb d_2_14_28 rfl (lv_at hl 0 rfl) ?_
    exact q_reti C0 V (⟨rfl, (show 0 ≤ a11.toInt from (by first | with_reducible exact q_fe b12 | (have t1 : 0 ≤ a11.toInt := b12; omega))), (show t0_0.toInt ≤ a11.toInt + 2 from (by first | with_reducible exact q_fe b13 | (have t1 : t0_0.toInt ≤ a11.toInt + 1 := b13; omega))), (show a11.toInt ≤ t0_0.toInt + 6632 from (by first | with_reducible exact q_fe b14 | (have t1 : a11.toInt ≤ t0_0.toInt + 6632 := b14; omega))), (show a11 = (F_Big_lengthInBits R t0_0 t0_1 t1_0) from (by subst e16; rw [F_Big_lengthInBits.eq_1, if_pos c17]))⟩) d_2_14_29
  ·
    refine lv_aload_n hx hb d_2_14_12 rfl (lv_at hl 1 rfl) ?_
    refine q_goi V (q_runV (As := []) (rest := []) (d := 2) (mc := 0) (ms := 0) (ci := 2) C0 V rfl LV_Big_68 (X_Big_lowestOne l D g q ws k1 R hB1 zk1  hI t0_0 t0_1 hT0 t1_0 hT1  _) rfl rfl hT0 rfl hl.1 rfl (Nat.le_of_ble_eq_true rfl) ⟨by decide, by decide⟩ ⟨Nat.le_of_ble_eq_true rfl, Nat.le_of_ble_eq_true rfl⟩ d_2_14_13) (fun a22 u20 H locs hp21 V => ?_)
    obtain ⟨rfl, b23, b24, hE25⟩ := hp21
    have e26 : a22 = (F_Big_lowestOne R t0_0 t0_1 t1_0) := hE25
    replace b23 : q_F (0 ≤ a22.toInt) := b23
    clear b24
    refine lv_iload_n hx hb d_2_14_16 rfl (lv_at hl 0 rfl) ?_
    refine lv_iconst (v := 1) hx hb d_2_14_17 (by decide) ?_
    refine lv_isub hx hb d_2_14_18 ?_
    obtain ⟨a27, e28⟩ := q_nm (a11 - 1 : Int32)
    refine q_ti (v := a27) e28 ?_
    have b29 : q_F (a27.toInt = a11.toInt - 1) := (by rw [← e28]; show (a11 - 1 : Int32).toInt = a11.toInt - 1; exact q_subI (x := a11.toInt) (y := 1) rfl (by decide) (by have t1 : 0 ≤ a11.toInt := b12; have _ := q_lo32 (x := a11); have _ := q_hi32 (x := a11); omega) (by have t1 : 0 ≤ a11.toInt := b12; have _ := q_lo32 (x := a11); have _ := q_hi32 (x := a11); omega))
    refine lv_icmp_ne (tgt := 28) hx hb d_2_14_19 (by decide) (fun c30 => ?_) (fun c30 => ?_)
    ·
      refine lv_iload_n hx hb d_2_14_28 rfl (lv_at hl 0 rfl) ?_
      exact q_reti C0 V (⟨rfl, (show 0 ≤ a11.toInt from (by first | with_reducible exact q_fe b12 | (have t1 : 0 ≤ a11.toInt := b12; omega))), (show t0_0.toInt ≤ a11.toInt + 2 from (by first | with_reducible exact q_fe b13 | (have t1 : t0_0.toInt ≤ a11.toInt + 1 := b13; omega))), (show a11.toInt ≤ t0_0.toInt + 6632 from (by first | with_reducible exact q_fe b14 | (have t1 : a11.toInt ≤ t0_0.toInt + 6632 := b14; omega))), (show a11 = (F_Big_lengthInBits R t0_0 t0_1 t1_0) from (by subst e16; subst e26; subst e28; rw [F_Big_lengthInBits.eq_1, if_neg c17, if_neg c30]))⟩) d_2_14_29
    ·
      have b32 : q_F (a22.toInt = a27.toInt) := (q_eqI c30)
      refine lv_iload_n hx hb d_2_14_22 rfl (lv_at hl 0 rfl) ?_
      refine lv_iconst (v := 1) hx hb d_2_14_23 (by decide) ?_
      refine lv_isub hx hb d_2_14_24 ?_
      obtain ⟨a33, e34⟩ := q_nm (a11 - 1 : Int32)
      refine q_ti (v := a33) e34 ?_
      have b35 : q_F (a33.toInt = a11.toInt - 1) := (by rw [← e34]; show (a11 - 1 : Int32).toInt = a11.toInt - 1; exact q_subI (x := a11.toInt) (y := 1) rfl (by decide) (by have t1 : 0 ≤ a11.toInt := b12; have _ := q_lo32 (x := a11); have _ := q_hi32 (x := a11); omega) (by have t1 : 0 ≤ a11.toInt := b12; have _ := q_lo32 (x := a11); have _ := q_hi32 (x := a11); omega))
      refine lv_goto (tgt := 29) hx hb d_2_14_25 (by decide) ?_
      exact q_reti C0 V (⟨rfl, (show 0 ≤ a33.toInt from (by have t1 : 0 ≤ a22.toInt := b23; have t2 : a27.toInt = a11.toInt - 1 := b29; have t3 : a22.toInt = a27.toInt := b32; have t4 : a33.toInt = a11.toInt - 1 := b35; omega)), (show t0_0.toInt ≤ a33.toInt + 2 from (by have t1 : t0_0.toInt ≤ a11.toInt + 1 := b13; have t2 : a33.toInt = a11.toInt - 1 := b35; omega)), (show a33.toInt ≤ t0_0.toInt + 6632 from (by have t1 : a11.toInt ≤ t0_0.toInt + 6632 := b14; have t2 : a33.toInt = a11.toInt - 1 := b35; omega)), (show a33 = (F_Big_lengthInBits R t0_0 t0_1 t1_0) from (by subst e16; subst e26; subst e28; subst e34; rw [F_Big_lengthInBits.eq_1, if_neg c17, if_pos c30]))⟩) d_2_14_29
def F_Big_fitsLong (R : Int32) (t0_0 : Int32) (t0_1 : Int32) (t1_0 : (Nat → Int32)) : Int32 := if (63 : Int32) < ((F_Big_lengthInBits R t0_0 t0_1 t1_0) : Int32) then ((0 : Int32)) else ((1 : Int32))
set_option maxRecDepth 100000 in
set_option maxHeartbeats 4000000 in
theorem X_Big_fitsLong (l : Launch) (D : va_G) (g : Nat → ClassId) (q : Nat → Nat) (ws : va_W) (k1 : Nat) (R : Int32) (hB1 : q_isBig (nsh g q) g q k1 R) (zk1 : (10 ≤ k1 ∧ k1 ≤ 32) ∨ 66 ≤ k1) (hI : q_I (nsh g q) q ws) (t0_0 : Int32) (t0_1 : Int32) (hT0 : ws[k1]? = (some (q k1, .inr (2, [.ref (q (k1 + 1)), .int t0_0, .int t0_1])) : Option (Nat × va_E))) (t1_0 : (Nat → Int32)) (hT1 : ws[k1 + 1]? = (some (q (k1 + 1), .inl (g 0, R.toNatClampNeg, .inl t1_0)) : Option (Nat × va_E))) : q_mI l y_Big_fitsLong prog_2_method_11_code 1 (.boolean) 5 0 0 D g [.ref (q k1)] ws (fun r u => ws = u ∧ (0 ≤ r.toInt) ∧ (r.toInt ≤ 1) ∧ r = (F_Big_fitsLong R t0_0 t0_1 t1_0)) := by
  intro sz
  refine q_into (by decide) (Nat.le_of_ble_eq_true rfl) ?_
  intro p e s m below meth c ls hsz C0 V hl
  have hx := C0.1
  have hb := C0.2.1
  have btt0_1 := (q_bigW hI hB1 hT0).2
  clear btt0_1
  have hl : lv_has ls 1 [(0, .ref (q k1))] := hl
  refine lv_aload_n hx hb d_2_11_0 rfl (lv_at hl 0 rfl) ?_
  refine q_goi V (q_runV (As := []) (rest := []) (d := 4) (mc := 0) (ms := 0) (ci := 2) C0 V rfl LV_Big_53 (X_Big_lengthInBits l D g q ws k1 R hB1 zk1  hI t0_0 t0_1 hT0 t1_0 hT1  _) rfl rfl hT0 rfl hl.1 rfl (Nat.le_of_ble_eq_true rfl) ⟨by decide, by decide⟩ ⟨Nat.le_of_ble_eq_true rfl, Nat.le_of_ble_eq_true rfl⟩ d_2_11_1) (fun a11 u9 H locs hp10 V => ?_)
  obtain ⟨rfl, b12, b13, b14, hE15⟩ := hp10
  have e16 : a11 = (F_Big_lengthInBits R t0_0 t0_1 t1_0) := hE15
  clear b12
  clear b13
  clear b14
  refine lv_bipush (v := 63) hx hb d_2_11_4 (by decide) ?_
  refine lv_icmp_gt (tgt := 13) hx hb d_2_11_6 (by decide) (fun c17 => ?_) (fun c17 => ?_)
  ·
    refine lv_iconst (v := 0) hx hb d_2_11_13 (by decide) ?_
    exact q_retz C0 V (by decide) (⟨rfl, (show 0 ≤ (0 : Int32).toInt from (by have z4 : (0 : Int32).toInt = 0 := rfl; omega)), (show (0 : Int32).toInt ≤ 1 from (by have z4 : (0 : Int32).toInt = 0 := rfl; omega)), (show (0 : Int32) = (F_Big_fitsLong R t0_0 t0_1 t1_0) from (by subst e16; rw [F_Big_fitsLong.eq_1, if_pos c17]))⟩) d_2_11_14
  ·
    refine lv_iconst (v := 1) hx hb d_2_11_9 (by decide) ?_
    refine lv_goto (tgt := 14) hx hb d_2_11_10 (by decide) ?_
    exact q_retz C0 V (by decide) (⟨rfl, (show 0 ≤ (1 : Int32).toInt from (by have z4 : (1 : Int32).toInt = 1 := rfl; omega)), (show (1 : Int32).toInt ≤ 1 from (by have z4 : (1 : Int32).toInt = 1 := rfl; omega)), (show (1 : Int32) = (F_Big_fitsLong R t0_0 t0_1 t1_0) from (by subst e16; rw [F_Big_fitsLong.eq_1, if_neg c17]))⟩) d_2_11_14
def F_Big_bit (R : Int32) (x2 : Int32) (t0_0 : Int32) (t0_1 : Int32) (t1_0 : (Nat → Int32)) : Int32 := (((((F_Big_limb R (x2 / 31 : Int32) t0_0 t0_1 t1_0) : Int32).toUInt32 >>> ((x2 - x2 / 31 * 31 : Int32).toUInt32 &&& Int32.toUInt32 31)).toInt32 : Int32) &&& 1 : Int32)
set_option maxRecDepth 100000 in
set_option maxHeartbeats 4000000 in
theorem X_Big_bit (l : Launch) (D : va_G) (g : Nat → ClassId) (q : Nat → Nat) (ws : va_W) (k1 : Nat) (R : Int32) (hB1 : q_isBig (nsh g q) g q k1 R) (zk1 : (10 ≤ k1 ∧ k1 ≤ 32) ∨ 66 ≤ k1) (x2 : Int32) (hI : q_I (nsh g q) q ws) (t0_0 : Int32) (t0_1 : Int32) (hT0 : ws[k1]? = (some (q k1, .inr (2, [.ref (q (k1 + 1)), .int t0_0, .int t0_1])) : Option (Nat × va_E))) (t1_0 : (Nat → Int32)) (hT1 : ws[k1 + 1]? = (some (q (k1 + 1), .inl (g 0, R.toNatClampNeg, .inl t1_0)) : Option (Nat × va_E))) : q_mI l y_Big_bit prog_2_method_17_code 2 (.int) 2 0 0 D g [.ref (q k1), .int x2] ws (fun r u => ws = u ∧ (0 ≤ r.toInt) ∧ (r.toInt ≤ 1) ∧ r = (F_Big_bit R x2 t0_0 t0_1 t1_0)) := by
  intro sz
  refine q_into (by decide) (Nat.le_of_ble_eq_true rfl) ?_
  intro p e s m below meth c ls hsz C0 V hl
  have hx := C0.1
  have hb := C0.2.1
  have btt0_1 := (q_bigW hI hB1 hT0).2
  clear btt0_1
  have hl : lv_has ls 2 [(0, .ref (q k1)), (1, .int x2)] := hl
  refine lv_aload_n hx hb d_2_17_0 rfl (lv_at hl 0 rfl) ?_
  refine lv_iload_n hx hb d_2_17_1 rfl (lv_at hl 1 rfl) ?_
  refine lv_bipush (v := 31) hx hb d_2_17_2 (by decide) ?_
  refine lv_idiv hx hb d_2_17_4 (by decide) ?_
  obtain ⟨a9, e10⟩ := q_nm (x2 / 31 : Int32)
  refine q_ti (v := a9) e10 ?_
  refine q_goi V (q_runV (As := [.int a9]) (rest := []) (d := 1) (mc := 0) (ms := 0) (ci := 2) C0 V rfl LV_Big_49 (X_Big_limb l D g q ws k1 R hB1 zk1 a9 hI t0_0 t0_1 hT0 t1_0 hT1  _) rfl rfl hT0 rfl hl.1 rfl (Nat.le_of_ble_eq_true rfl) ⟨by decide, by decide⟩ ⟨Nat.le_of_ble_eq_true rfl, Nat.le_of_ble_eq_true rfl⟩ d_2_17_5) (fun a14 u12 H locs hp13 V => ?_)
  obtain ⟨rfl, hE15⟩ := hp13
  have e16 : a14 = (F_Big_limb R a9 t0_0 t0_1 t1_0) := hE15
  refine lv_iload_n hx hb d_2_17_8 rfl (lv_at hl 1 rfl) ?_
  refine lv_bipush (v := 31) hx hb d_2_17_9 (by decide) ?_
  refine lv_irem hx hb d_2_17_11 (by decide) ?_
  obtain ⟨a17, e18⟩ := q_nm (x2 - x2 / 31 * 31 : Int32)
  refine q_ti (v := a17) e18 ?_
  refine lv_iushr hx hb d_2_17_12 rfl ?_
  obtain ⟨a19, e20⟩ := q_nm ((a14.toUInt32 >>> (a17.toUInt32 &&& Int32.toUInt32 31)).toInt32 : Int32)
  refine q_ti (v := a19) e20 ?_
  refine lv_iconst (v := 1) hx hb d_2_17_13 (by decide) ?_
  refine lv_iand hx hb d_2_17_14 ?_
  obtain ⟨a21, e22⟩ := q_nm (a19 &&& 1 : Int32)
  refine q_ti (v := a21) e22 ?_
  have b23 : q_F (0 ≤ a21.toInt ∧ a21.toInt ≤ 1) := (by rw [← e22]; show 0 ≤ (a19 &&& 1 : Int32).toInt ∧ (a19 &&& 1 : Int32).toInt ≤ 1; exact s_and (by decide))
  exact q_reti C0 V (⟨rfl, (show 0 ≤ a21.toInt from (by first | with_reducible exact (q_fe b23).2 | with_reducible exact (q_fe b23).1 | (have t1 : 0 ≤ a21.toInt ∧ a21.toInt ≤ 1 := b23; omega))), (show a21.toInt ≤ 1 from (by first | with_reducible exact (q_fe b23).2 | with_reducible exact (q_fe b23).1 | (have t1 : 0 ≤ a21.toInt ∧ a21.toInt ≤ 1 := b23; omega))), (show a21 = (F_Big_bit R x2 t0_0 t0_1 t1_0) from (by subst e10; subst e16; subst e18; subst e20; subst e22; rw [F_Big_bit.eq_1]))⟩) d_2_17_15
def F_Big_compareSize_L30 (R : Int32) (R2 : Int32) (t0_0 : Int32) (t0_1 : Int32) (t1_0 : (Nat → Int32)) (t2_0 : Int32) (t2_1 : Int32) (t3_0 : (Nat → Int32)) : Nat → Int32 → Int32
  | 0, _ => default
  | fm + 1, lx23 => if lx23 < (0 : Int32) then ((0 : Int32)) else (if (t1_0 lx23.toNatClampNeg : Int32) = (t3_0 lx23.toNatClampNeg : Int32) then (F_Big_compareSize_L30 R R2 t0_0 t0_1 t1_0 t2_0 t2_1 t3_0 fm (lx23 + (-1) : Int32)) else (((F_jInt_compare (t1_0 lx23.toNatClampNeg : Int32) (t3_0 lx23.toNatClampNeg : Int32)) : Int32)))
def F_Big_compareSize (R : Int32) (R2 : Int32) (t0_0 : Int32) (t0_1 : Int32) (t1_0 : (Nat → Int32)) (t2_0 : Int32) (t2_1 : Int32) (t3_0 : (Nat → Int32)) : Int32 := if t0_0 = t2_0 then (F_Big_compareSize_L30 R R2 t0_0 t0_1 t1_0 t2_0 t2_1 t3_0 (((t0_0 - 1 : Int32).toInt - ((-1))).toNat + 1) (t0_0 - 1 : Int32)) else (((F_jInt_compare t0_0 t2_0) : Int32))
set_option maxRecDepth 100000 in
set_option maxHeartbeats 4000000 in
theorem X_Big_compareSize (l : Launch) (D : va_G) (g : Nat → ClassId) (q : Nat → Nat) (ws : va_W) (k1 : Nat) (R : Int32) (hB1 : q_isBig (nsh g q) g q k1 R) (zk1 : (10 ≤ k1 ∧ k1 ≤ 32) ∨ 66 ≤ k1) (k2 : Nat) (R2 : Int32) (hB2 : q_isBig (nsh g q) g q k2 R2) (zk2 : (10 ≤ k2 ∧ k2 ≤ 32) ∨ 66 ≤ k2) (hI : q_I (nsh g q) q ws) (t0_0 : Int32) (t0_1 : Int32) (hT0 : ws[k1]? = (some (q k1, .inr (2, [.ref (q (k1 + 1)), .int t0_0, .int t0_1])) : Option (Nat × va_E))) (t1_0 : (Nat → Int32)) (hT1 : ws[k1 + 1]? = (some (q (k1 + 1), .inl (g 0, R.toNatClampNeg, .inl t1_0)) : Option (Nat × va_E))) (t2_0 : Int32) (t2_1 : Int32) (hT2 : ws[k2]? = (some (q k2, .inr (2, [.ref (q (k2 + 1)), .int t2_0, .int t2_1])) : Option (Nat × va_E))) (t3_0 : (Nat → Int32)) (hT3 : ws[k2 + 1]? = (some (q (k2 + 1), .inl (g 0, R2.toNatClampNeg, .inl t3_0)) : Option (Nat × va_E))) : q_mI l y_Big_compareSize prog_2_method_21_code 3 (.int) 2 0 0 D g [.ref (q k1), .ref (q k2)] ws (fun r u => ws = u ∧ (0 ≤ r.toInt + 1) ∧ (r.toInt ≤ 1) ∧ r = (F_Big_compareSize R R2 t0_0 t0_1 t1_0 t2_0 t2_1 t3_0)) := by
  intro sz
  refine q_into (by decide) (Nat.le_of_ble_eq_true rfl) ?_
  intro p e s m below meth c ls hsz C0 V hl
  have hx := C0.1
  have hb := C0.2.1
  have hfk10 : q_F (0 ≤ R.toInt ∧ R.toInt ≤ 220) := hB1.2.2
  have hfk20 : q_F (0 ≤ R2.toInt ∧ R2.toInt ≤ 220) := hB2.2.2
  have btt0_0 := (q_bigW hI hB1 hT0).1
  replace btt0_0 : q_F (0 ≤ t0_0.toInt ∧ t0_0.toInt ≤ R.toInt) := btt0_0
  have btt2_0 := (q_bigW hI hB2 hT2).1
  replace btt2_0 : q_F (0 ≤ t2_0.toInt ∧ t2_0.toInt ≤ R2.toInt) := btt2_0
  have hl : lv_has ls 3 [(0, .ref (q k1)), (1, .ref (q k2))] := hl
  refine lv_aload_n hx hb d_2_21_0 rfl (lv_at hl 0 rfl) ?_
  refine q_get (ci := 2) (j := 1) (v := .int t0_0) C0 V i_Big rfl rfl hT0 (by decide) w_85 rfl d_2_21_1 ?_
  refine lv_aload_n hx hb d_2_21_4 rfl (lv_at hl 1 rfl) ?_
  refine q_get (ci := 2) (j := 1) (v := .int t2_0) C0 V i_Big rfl rfl hT2 (by decide) w_85 rfl d_2_21_5 ?_
  refine lv_icmp_eq (tgt := 23) hx hb d_2_21_8 (by decide) (fun c17 => ?_) (fun c17 => ?_)
  ·
    have b18 : q_F (t0_0.toInt = t2_0.toInt) := (q_eqI c17)
    refine lv_aload_n hx hb d_2_21_23 rfl (lv_at hl 0 rfl) ?_
    refine q_get (ci := 2) (j := 1) (v := .int t0_0) C0 V i_Big rfl rfl hT0 (by decide) w_85 rfl d_2_21_24 ?_
    refine lv_iconst (v := 1) hx hb d_2_21_27 (by decide) ?_
    refine lv_isub hx hb d_2_21_28 ?_
    obtain ⟨a19, e20⟩ := q_nm (t0_0 - 1 : Int32)
    refine q_ti (v := a19) e20 ?_
    have b21 : q_F (a19.toInt = t0_0.toInt - 1) := (by rw [← e20]; show (t0_0 - 1 : Int32).toInt = t0_0.toInt - 1; exact q_subI (x := t0_0.toInt) (y := 1) rfl (by decide) (by have t1 : 0 ≤ t0_0.toInt ∧ t0_0.toInt ≤ R.toInt := btt0_0; have _ := q_lo32 (x := R); have _ := q_hi32 (x := R); omega) (by have t1 : 0 ≤ t0_0.toInt ∧ t0_0.toInt ≤ R.toInt := btt0_0; have _ := q_lo32 (x := R); have _ := q_hi32 (x := R); omega))
    refine lv_istore_n (lv' := [(2, .int a19), (0, .ref (q k1)), (1, .ref (q k2))]) hx hb d_2_21_29 rfl hl (by decide) rfl (fun ls hl => ?_)
    refine q_loop (X := Int32) (fun z H locs ls _ => q_F (0 ≤ z.toInt + 1) ∧ q_F (z.toInt + 1 ≤ t2_0.toInt) ∧ q_Wd D g (va_A ws sz) s ws H locs ∧ lv_has ls 3 [(2, .int z), (0, .ref (q k1)), (1, .ref (q k2))] ∧ (∃ n, (z.toInt - ((-1))).toNat < n ∧ F_Big_compareSize_L30 R R2 t0_0 t0_1 t1_0 t2_0 t2_1 t3_0 n z = (F_Big_compareSize R R2 t0_0 t0_1 t1_0 t2_0 t2_1 t3_0))) (fun z => (z.toInt - ((-1))).toNat) ?_ ((a19 : Int32)) _ _ _ ws ⟨(show q_F (0 ≤ a19.toInt + 1) from (show 0 ≤ a19.toInt + 1 from by have t1 : 0 ≤ t0_0.toInt ∧ t0_0.toInt ≤ R.toInt := btt0_0; have t2 : a19.toInt = t0_0.toInt - 1 := b21; omega)), (show q_F (a19.toInt + 1 ≤ t2_0.toInt) from (show a19.toInt + 1 ≤ t2_0.toInt from by have t1 : t0_0.toInt = t2_0.toInt := b18; have t2 : a19.toInt = t0_0.toInt - 1 := b21; omega)), V, q_lw hl (q_lw1 0 rfl (q_lw1 1 rfl (q_lw1 2 rfl q_lw0))), ⟨((a19.toInt - ((-1))).toNat + 1), Nat.lt_succ_self _, (show F_Big_compareSize_L30 R R2 t0_0 t0_1 t1_0 t2_0 t2_1 t3_0 ((a19.toInt - ((-1))).toNat + 1) a19 = (F_Big_compareSize R R2 t0_0 t0_1 t1_0 t2_0 t2_1 t3_0) from (by subst e20; rw [F_Big_compareSize.eq_1, if_pos c17]))⟩⟩
    rintro lx23 H locs ls _ ⟨i24, i25, V, hl, ⟨fu28, hf29, hR27⟩⟩ ih26
    obtain ⟨fm30, rfl⟩ : ∃ m, fu28 = m + 1 := ⟨fu28 - 1, by omega⟩
    replace i24 : q_F (0 ≤ lx23.toInt + 1) := i24
    replace i25 : q_F (lx23.toInt + 1 ≤ t2_0.toInt) := i25
    replace hl : lv_has ls 3 [(2, .int lx23), (0, .ref (q k1)), (1, .ref (q k2))] := hl
    refine lv_iload_n hx hb d_2_21_30 rfl (lv_at hl 0 rfl) ?_
    refine lv_if_lt (tgt := 71) hx hb d_2_21_31 (by decide) (fun c31 => ?_) (fun c31 => ?_)
    ·
      refine lv_iconst (v := 0) hx hb d_2_21_71 (by decide) ?_
      exact q_reti C0 V (⟨rfl, (show 0 ≤ (0 : Int32).toInt + 1 from (by have z8 : (0 : Int32).toInt = 0 := rfl; omega)), (show (0 : Int32).toInt ≤ 1 from (by have z8 : (0 : Int32).toInt = 0 := rfl; omega)), (show (0 : Int32) = (F_Big_compareSize R R2 t0_0 t0_1 t1_0 t2_0 t2_1 t3_0) from Eq.trans (by subst e20; rw [F_Big_compareSize_L30.eq_2, if_pos c31]) hR27)⟩) d_2_21_72
    ·
      have b33 : q_F (0 ≤ lx23.toInt) := (q_nltI c31)
      refine lv_aload_n hx hb d_2_21_34 rfl (lv_at hl 1 rfl) ?_
      refine q_get (ci := 2) (j := 0) (v := .ref (q (k1 + 1))) C0 V i_Big rfl rfl hT0 (by decide) w_84 rfl d_2_21_35 ?_
      refine lv_iload_n hx hb d_2_21_38 rfl (lv_at hl 0 rfl) ?_
      refine q_iald C0 V hT1 (q_ix (x := lx23.toInt) rfl (by first | with_reducible exact q_fe b33 | (have t1 : 0 ≤ lx23.toInt := b33; omega)) (by have t1 : 0 ≤ lx23.toInt := b33; have t2 : 0 ≤ t0_0.toInt ∧ t0_0.toInt ≤ R.toInt := btt0_0; have t3 : t0_0.toInt = t2_0.toInt := b18; have t4 : lx23.toInt + 1 ≤ t2_0.toInt := i25; have e9 := q_clI (i := R) rfl (by first | with_reducible exact (q_fe hfk10).2 | with_reducible exact (q_fe hfk10).1 | (have t1 : 0 ≤ R.toInt ∧ R.toInt ≤ 220 := hfk10; omega)); omega)) d_2_21_39 ?_
      obtain ⟨a34, e35⟩ := q_nm (t1_0 lx23.toNatClampNeg : Int32)
      refine q_ti (v := a34) e35 ?_
      refine lv_aload_n hx hb d_2_21_40 rfl (lv_at hl 2 rfl) ?_
      refine q_get (ci := 2) (j := 0) (v := .ref (q (k2 + 1))) C0 V i_Big rfl rfl hT2 (by decide) w_84 rfl d_2_21_41 ?_
      refine lv_iload_n hx hb d_2_21_44 rfl (lv_at hl 0 rfl) ?_
      refine q_iald C0 V hT3 (q_ix (x := lx23.toInt) rfl (by first | with_reducible exact q_fe b33 | (have t1 : 0 ≤ lx23.toInt := b33; omega)) (by have t1 : 0 ≤ lx23.toInt := b33; have t2 : 0 ≤ t2_0.toInt ∧ t2_0.toInt ≤ R2.toInt := btt2_0; have t3 : lx23.toInt + 1 ≤ t2_0.toInt := i25; have e9 := q_clI (i := R2) rfl (by first | with_reducible exact (q_fe hfk20).2 | with_reducible exact (q_fe hfk20).1 | (have t1 : 0 ≤ R2.toInt ∧ R2.toInt ≤ 220 := hfk20; omega)); omega)) d_2_21_45 ?_
      obtain ⟨a36, e37⟩ := q_nm (t3_0 lx23.toNatClampNeg : Int32)
      refine q_ti (v := a36) e37 ?_
      refine lv_icmp_eq (tgt := 65) hx hb d_2_21_46 (by decide) (fun c38 => ?_) (fun c38 => ?_)
      ·
        obtain ⟨a40, e41⟩ := q_nm (lx23 + (-1) : Int32)
        have b42 : q_F (a40.toInt = lx23.toInt + (-1)) := (by rw [← e41]; exact q_addI (y := (-1)) rfl (by decide) (by have t1 : 0 ≤ lx23.toInt + 1 := i24; have _ := q_lo32 (x := lx23); have _ := q_hi32 (x := lx23); omega) (by have t1 : 0 ≤ lx23.toInt + 1 := i24; have _ := q_lo32 (x := lx23); have _ := q_hi32 (x := lx23); omega))
        refine lv_iinc (v := a40) (lv' := [(2, .int a40), (0, .ref (q k1)), (1, .ref (q k2))]) hx hb d_2_21_65 hl (k := 0) rfl (e41) (by decide) rfl (fun ls hl => ?_)
        refine lv_goto (tgt := 30) hx hb d_2_21_68 (by decide) ?_
        exact ih26 ((a40 : Int32)) _ _ _ ws (show (a40.toInt - ((-1))).toNat < (lx23.toInt - ((-1))).toNat from by have t1 : a40.toInt = lx23.toInt + (-1) := b42; have t2 : 0 ≤ lx23.toInt + 1 := i24; have t3 : 0 ≤ lx23.toInt := b33; omega) ⟨(show q_F (0 ≤ a40.toInt + 1) from (show 0 ≤ a40.toInt + 1 from by have t1 : 0 ≤ lx23.toInt := b33; have t2 : a40.toInt = lx23.toInt + (-1) := b42; omega)), (show q_F (a40.toInt + 1 ≤ t2_0.toInt) from (show a40.toInt + 1 ≤ t2_0.toInt from by have t1 : lx23.toInt + 1 ≤ t2_0.toInt := i25; have t2 : a40.toInt = lx23.toInt + (-1) := b42; omega)), V, q_lw hl (q_lw1 0 rfl (q_lw1 1 rfl (q_lw1 2 rfl q_lw0))), ⟨fm30, Nat.lt_of_lt_of_le (show (a40.toInt - ((-1))).toNat < (lx23.toInt - ((-1))).toNat from by have t1 : a40.toInt = lx23.toInt + (-1) := b42; have t2 : 0 ≤ lx23.toInt + 1 := i24; have t3 : 0 ≤ lx23.toInt := b33; omega) (Nat.le_of_lt_succ hf29), (show F_Big_compareSize_L30 R R2 t0_0 t0_1 t1_0 t2_0 t2_1 t3_0 fm30 a40 = (F_Big_compareSize R R2 t0_0 t0_1 t1_0 t2_0 t2_1 t3_0) from Eq.trans (by subst e20; subst e35; subst e37; subst e41; rw [F_Big_compareSize_L30.eq_2, if_neg c31, if_pos c38]) hR27)⟩⟩
      ·
        refine lv_aload_n hx hb d_2_21_49 rfl (lv_at hl 1 rfl) ?_
        refine q_get (ci := 2) (j := 0) (v := .ref (q (k1 + 1))) C0 V i_Big rfl rfl hT0 (by decide) w_84 rfl d_2_21_50 ?_
        refine lv_iload_n hx hb d_2_21_53 rfl (lv_at hl 0 rfl) ?_
        refine q_iald C0 V hT1 (q_ix (x := lx23.toInt) rfl (by first | with_reducible exact q_fe b33 | (have t1 : 0 ≤ lx23.toInt := b33; omega)) (by have t1 : 0 ≤ lx23.toInt := b33; have t2 : 0 ≤ t0_0.toInt ∧ t0_0.toInt ≤ R.toInt := btt0_0; have t3 : t0_0.toInt = t2_0.toInt := b18; have t4 : lx23.toInt + 1 ≤ t2_0.toInt := i25; have e9 := q_clI (i := R) rfl (by first | with_reducible exact (q_fe hfk10).2 | with_reducible exact (q_fe hfk10).1 | (have t1 : 0 ≤ R.toInt ∧ R.toInt ≤ 220 := hfk10; omega)); omega)) d_2_21_54 ?_
        obtain ⟨a44, e45⟩ := q_nm (t1_0 lx23.toNatClampNeg : Int32)
        refine q_ti (v := a44) e45 ?_
        refine lv_aload_n hx hb d_2_21_55 rfl (lv_at hl 2 rfl) ?_
        refine q_get (ci := 2) (j := 0) (v := .ref (q (k2 + 1))) C0 V i_Big rfl rfl hT2 (by decide) w_84 rfl d_2_21_56 ?_
        refine lv_iload_n hx hb d_2_21_59 rfl (lv_at hl 0 rfl) ?_
        refine q_iald C0 V hT3 (q_ix (x := lx23.toInt) rfl (by first | with_reducible exact q_fe b33 | (have t1 : 0 ≤ lx23.toInt := b33; omega)) (by have t1 : 0 ≤ lx23.toInt := b33; have t2 : 0 ≤ t2_0.toInt ∧ t2_0.toInt ≤ R2.toInt := btt2_0; have t3 : lx23.toInt + 1 ≤ t2_0.toInt := i25; have e9 := q_clI (i := R2) rfl (by first | with_reducible exact (q_fe hfk20).2 | with_reducible exact (q_fe hfk20).1 | (have t1 : 0 ≤ R2.toInt ∧ R2.toInt ≤ 220 := hfk20; omega)); omega)) d_2_21_60 ?_
        obtain ⟨a46, e47⟩ := q_nm (t3_0 lx23.toNatClampNeg : Int32)
        refine q_ti (v := a46) e47 ?_
        refine q_goi V (q_runS (As := [.int a44, .int a46]) (rest := []) (d := 1) (mc := 0) (ms := 0) C0 V rfl LS_Big_75 (X_jInt_compare l D g q ws  a44 a46 hI   _) rfl hl.1 rfl (Nat.le_of_ble_eq_true rfl) ⟨by decide, by decide⟩ ⟨Nat.le_of_ble_eq_true rfl, Nat.le_of_ble_eq_true rfl⟩ d_2_21_61) (fun a50 u48 H locs hp49 V => ?_)
        obtain ⟨rfl, b51, b52, hE53⟩ := hp49
        have e54 : a50 = (F_jInt_compare a44 a46) := hE53
        replace b51 : q_F (0 ≤ a50.toInt + 1) := b51
        replace b52 : q_F (a50.toInt ≤ 1) := b52
        exact q_reti C0 V (⟨rfl, (show 0 ≤ a50.toInt + 1 from (by first | with_reducible exact q_fe b51 | (have t1 : 0 ≤ a50.toInt + 1 := b51; omega))), (show a50.toInt ≤ 1 from (by first | with_reducible exact q_fe b52 | (have t1 : a50.toInt ≤ 1 := b52; omega))), (show a50 = (F_Big_compareSize R R2 t0_0 t0_1 t1_0 t2_0 t2_1 t3_0) from Eq.trans (by subst e20; subst e35; subst e37; subst e45; subst e47; subst e54; rw [F_Big_compareSize_L30.eq_2, if_neg c31, if_neg c38]) hR27)⟩) d_2_21_64
  ·
    refine lv_aload_n hx hb d_2_21_11 rfl (lv_at hl 0 rfl) ?_
    refine q_get (ci := 2) (j := 1) (v := .int t0_0) C0 V i_Big rfl rfl hT0 (by decide) w_85 rfl d_2_21_12 ?_
    refine lv_aload_n hx hb d_2_21_15 rfl (lv_at hl 1 rfl) ?_
    refine q_get (ci := 2) (j := 1) (v := .int t2_0) C0 V i_Big rfl rfl hT2 (by decide) w_85 rfl d_2_21_16 ?_
    refine q_goi V (q_runS (As := [.int t0_0, .int t2_0]) (rest := []) (d := 1) (mc := 0) (ms := 0) C0 V rfl LS_Big_75 (X_jInt_compare l D g q ws  t0_0 t2_0 hI   _) rfl hl.1 rfl (Nat.le_of_ble_eq_true rfl) ⟨by decide, by decide⟩ ⟨Nat.le_of_ble_eq_true rfl, Nat.le_of_ble_eq_true rfl⟩ d_2_21_19) (fun a58 u56 H locs hp57 V => ?_)
    obtain ⟨rfl, b59, b60, hE61⟩ := hp57
    have e62 : a58 = (F_jInt_compare t0_0 t2_0) := hE61
    replace b59 : q_F (0 ≤ a58.toInt + 1) := b59
    replace b60 : q_F (a58.toInt ≤ 1) := b60
    exact q_reti C0 V (⟨rfl, (show 0 ≤ a58.toInt + 1 from (by first | with_reducible exact q_fe b59 | (have t1 : 0 ≤ a58.toInt + 1 := b59; omega))), (show a58.toInt ≤ 1 from (by first | with_reducible exact q_fe b60 | (have t1 : a58.toInt ≤ 1 := b60; omega))), (show a58 = (F_Big_compareSize R R2 t0_0 t0_1 t1_0 t2_0 t2_1 t3_0) from (by subst e62; rw [F_Big_compareSize.eq_1, if_neg c17]))⟩) d_2_21_22
def F_Big_order (R : Int32) (R2 : Int32) (t0_0 : Int32) (t0_1 : Int32) (t1_0 : (Nat → Int32)) (t2_0 : Int32) (t2_1 : Int32) (t3_0 : (Nat → Int32)) : Int32 := if ((F_Big_sign R t0_0 t0_1) : Int32) = ((F_Big_sign R2 t2_0 t2_1) : Int32) then (if t0_1 = (0 : Int32) then (((F_Big_compareSize R R2 t0_0 t0_1 t1_0 t2_0 t2_1 t3_0) : Int32)) else ((-((F_Big_compareSize R R2 t0_0 t0_1 t1_0 t2_0 t2_1 t3_0) : Int32) : Int32))) else (((F_jInt_compare ((F_Big_sign R t0_0 t0_1) : Int32) ((F_Big_sign R2 t2_0 t2_1) : Int32)) : Int32))
set_option maxRecDepth 100000 in
set_option maxHeartbeats 4000000 in
theorem X_Big_order (l : Launch) (D : va_G) (g : Nat → ClassId) (q : Nat → Nat) (ws : va_W) (k1 : Nat) (R : Int32) (hB1 : q_isBig (nsh g q) g q k1 R) (zk1 : (10 ≤ k1 ∧ k1 ≤ 32) ∨ 66 ≤ k1) (k2 : Nat) (R2 : Int32) (hB2 : q_isBig (nsh g q) g q k2 R2) (zk2 : (10 ≤ k2 ∧ k2 ≤ 32) ∨ 66 ≤ k2) (hI : q_I (nsh g q) q ws) (t0_0 : Int32) (t0_1 : Int32) (hT0 : ws[k1]? = (some (q k1, .inr (2, [.ref (q (k1 + 1)), .int t0_0, .int t0_1])) : Option (Nat × va_E))) (t1_0 : (Nat → Int32)) (hT1 : ws[k1 + 1]? = (some (q (k1 + 1), .inl (g 0, R.toNatClampNeg, .inl t1_0)) : Option (Nat × va_E))) (t2_0 : Int32) (t2_1 : Int32) (hT2 : ws[k2]? = (some (q k2, .inr (2, [.ref (q (k2 + 1)), .int t2_0, .int t2_1])) : Option (Nat × va_E))) (t3_0 : (Nat → Int32)) (hT3 : ws[k2 + 1]? = (some (q (k2 + 1), .inl (g 0, R2.toNatClampNeg, .inl t3_0)) : Option (Nat × va_E))) : q_mI l y_Big_order prog_2_method_20_code 3 (.int) 3 0 0 D g [.ref (q k1), .ref (q k2)] ws (fun r u => ws = u ∧ (0 ≤ r.toInt + 1) ∧ (r.toInt ≤ 1) ∧ r = (F_Big_order R R2 t0_0 t0_1 t1_0 t2_0 t2_1 t3_0)) := by
  intro sz
  refine q_into (by decide) (Nat.le_of_ble_eq_true rfl) ?_
  intro p e s m below meth c ls hsz C0 V hl
  have hx := C0.1
  have hb := C0.2.1
  have btt0_1 := (q_bigW hI hB1 hT0).2
  clear btt0_1
  have btt2_1 := (q_bigW hI hB2 hT2).2
  clear btt2_1
  have hl : lv_has ls 3 [(0, .ref (q k1)), (1, .ref (q k2))] := hl
  refine lv_aload_n hx hb d_2_20_0 rfl (lv_at hl 0 rfl) ?_
  refine q_goi V (q_runV (As := []) (rest := []) (d := 1) (mc := 0) (ms := 0) (ci := 2) C0 V rfl LV_Big_72 (X_Big_sign l D g q ws k1 R hB1 zk1  hI t0_0 t0_1 hT0  _) rfl rfl hT0 rfl hl.1 rfl (Nat.le_of_ble_eq_true rfl) ⟨by decide, by decide⟩ ⟨Nat.le_of_ble_eq_true rfl, Nat.le_of_ble_eq_true rfl⟩ d_2_20_1) (fun a19 u17 H locs hp18 V => ?_)
  obtain ⟨rfl, b20, b21, b22, hE23⟩ := hp18
  have e24 : a19 = (F_Big_sign R t0_0 t0_1) := hE23
  clear b20
  clear b21
  clear b22
  refine lv_aload_n hx hb d_2_20_4 rfl (lv_at hl 1 rfl) ?_
  refine q_goi V (q_runV (As := []) (rest := [.int a19]) (d := 1) (mc := 0) (ms := 0) (ci := 2) C0 V rfl LV_Big_72 (X_Big_sign l D g q ws k2 R2 hB2 zk2  hI t2_0 t2_1 hT2  _) rfl rfl hT2 rfl hl.1 rfl (Nat.le_of_ble_eq_true rfl) ⟨by decide, by decide⟩ ⟨Nat.le_of_ble_eq_true rfl, Nat.le_of_ble_eq_true rfl⟩ d_2_20_5) (fun a27 u25 H locs hp26 V => ?_)
  obtain ⟨rfl, b28, b29, b30, hE31⟩ := hp26
  have e32 : a27 = (F_Big_sign R2 t2_0 t2_1) := hE31
  clear b28
  clear b29
  clear b30
  refine lv_icmp_eq (tgt := 23) hx hb d_2_20_8 (by decide) (fun c33 => ?_) (fun c33 => ?_)
  ·
    refine lv_aload_n hx hb d_2_20_23 rfl (lv_at hl 0 rfl) ?_
    refine lv_aload_n hx hb d_2_20_24 rfl (lv_at hl 1 rfl) ?_
    refine q_goi V (q_runV (As := [.ref (q k2)]) (rest := []) (d := 2) (mc := 0) (ms := 0) (ci := 2) C0 V rfl LV_Big_78 (X_Big_compareSize l D g q ws k1 R hB1 zk1 k2 R2 hB2 zk2  hI t0_0 t0_1 hT0 t1_0 hT1 t2_0 t2_1 hT2 t3_0 hT3  _) rfl rfl hT0 rfl hl.1 rfl (Nat.le_of_ble_eq_true rfl) ⟨by decide, by decide⟩ ⟨Nat.le_of_ble_eq_true rfl, Nat.le_of_ble_eq_true rfl⟩ d_2_20_25) (fun a37 u35 H locs hp36 V => ?_)
    obtain ⟨rfl, b38, b39, hE40⟩ := hp36
    have e41 : a37 = (F_Big_compareSize R R2 t0_0 t0_1 t1_0 t2_0 t2_1 t3_0) := hE40
    replace b38 : q_F (0 ≤ a37.toInt + 1) := b38
    replace b39 : q_F (a37.toInt ≤ 1) := b39
    refine lv_istore_n (lv' := [(2, .int a37), (0, .ref (q k1)), (1, .ref (q k2))]) hx hb d_2_20_28 rfl hl (by decide) rfl (fun ls hl => ?_)
    refine lv_aload_n hx hb d_2_20_29 rfl (lv_at hl 1 rfl) ?_
    refine q_get (ci := 2) (j := 2) (v := .int t0_1) C0 V i_Big rfl rfl hT0 (by decide) w_94 rfl d_2_20_30 ?_
    refine lv_if_eq (tgt := 41) hx hb d_2_20_33 (by decide) (fun c42 => ?_) (fun c42 => ?_)
    ·
      refine lv_iload_n hx hb d_2_20_41 rfl (lv_at hl 0 rfl) ?_
      exact q_reti C0 V (⟨rfl, (show 0 ≤ a37.toInt + 1 from (by first | with_reducible exact q_fe b38 | (have t1 : 0 ≤ a37.toInt + 1 := b38; omega))), (show a37.toInt ≤ 1 from (by first | with_reducible exact q_fe b39 | (have t1 : a37.toInt ≤ 1 := b39; omega))), (show a37 = (F_Big_order R R2 t0_0 t0_1 t1_0 t2_0 t2_1 t3_0) from (by subst e24; subst e32; subst e41; rw [F_Big_order.eq_1, if_pos c33, if_pos c42]))⟩) d_2_20_42
    ·
      refine lv_iload_n hx hb d_2_20_36 rfl (lv_at hl 0 rfl) ?_
      refine lv_ineg hx hb d_2_20_37 ?_
      obtain ⟨a45, e46⟩ := q_nm (-a37 : Int32)
      refine q_ti (v := a45) e46 ?_
      have b47 : q_F (a45.toInt = -a37.toInt) := (by rw [← e46]; show (-a37 : Int32).toInt = -a37.toInt; exact q_negI rfl (by first | with_reducible exact q_fe b38 | (have t1 : 0 ≤ a37.toInt + 1 := b38; omega)))
      refine lv_goto (tgt := 42) hx hb d_2_20_38 (by decide) ?_
      exact q_reti C0 V (⟨rfl, (show 0 ≤ a45.toInt + 1 from (by have t1 : a37.toInt ≤ 1 := b39; have t2 : a45.toInt = -a37.toInt := b47; omega)), (show a45.toInt ≤ 1 from (by have t1 : 0 ≤ a37.toInt + 1 := b38; have t2 : a45.toInt = -a37.toInt := b47; omega)), (show a45 = (F_Big_order R R2 t0_0 t0_1 t1_0 t2_0 t2_1 t3_0) from (by subst e24; subst e32; subst e41; subst e46; rw [F_Big_order.eq_1, if_pos c33, if_neg c42]))⟩) d_2_20_42
  ·
    refine lv_aload_n hx hb d_2_20_11 rfl (lv_at hl 0 rfl) ?_
    refine q_goi V (q_runV (As := []) (rest := []) (d := 1) (mc := 0) (ms := 0) (ci := 2) C0 V rfl LV_Big_72 (X_Big_sign l D g q ws k1 R hB1 zk1  hI t0_0 t0_1 hT0  _) rfl rfl hT0 rfl hl.1 rfl (Nat.le_of_ble_eq_true rfl) ⟨by decide, by decide⟩ ⟨Nat.le_of_ble_eq_true rfl, Nat.le_of_ble_eq_true rfl⟩ d_2_20_12) (fun a51 u49 H locs hp50 V => ?_)
    obtain ⟨rfl, b52, b53, b54, hE55⟩ := hp50
    have e56 : a51 = (F_Big_sign R t0_0 t0_1) := hE55
    clear b52
    clear b53
    clear b54
    refine lv_aload_n hx hb d_2_20_15 rfl (lv_at hl 1 rfl) ?_
    refine q_goi V (q_runV (As := []) (rest := [.int a51]) (d := 1) (mc := 0) (ms := 0) (ci := 2) C0 V rfl LV_Big_72 (X_Big_sign l D g q ws k2 R2 hB2 zk2  hI t2_0 t2_1 hT2  _) rfl rfl hT2 rfl hl.1 rfl (Nat.le_of_ble_eq_true rfl) ⟨by decide, by decide⟩ ⟨Nat.le_of_ble_eq_true rfl, Nat.le_of_ble_eq_true rfl⟩ d_2_20_16) (fun a59 u57 H locs hp58 V => ?_)
    obtain ⟨rfl, b60, b61, b62, hE63⟩ := hp58
    have e64 : a59 = (F_Big_sign R2 t2_0 t2_1) := hE63
    clear b60
    clear b61
    clear b62
    refine q_goi V (q_runS (As := [.int a51, .int a59]) (rest := []) (d := 1) (mc := 0) (ms := 0) C0 V rfl LS_Big_75 (X_jInt_compare l D g q ws  a51 a59 hI   _) rfl hl.1 rfl (Nat.le_of_ble_eq_true rfl) ⟨by decide, by decide⟩ ⟨Nat.le_of_ble_eq_true rfl, Nat.le_of_ble_eq_true rfl⟩ d_2_20_19) (fun a67 u65 H locs hp66 V => ?_)
    obtain ⟨rfl, b68, b69, hE70⟩ := hp66
    have e71 : a67 = (F_jInt_compare a51 a59) := hE70
    replace b68 : q_F (0 ≤ a67.toInt + 1) := b68
    replace b69 : q_F (a67.toInt ≤ 1) := b69
    exact q_reti C0 V (⟨rfl, (show 0 ≤ a67.toInt + 1 from (by first | with_reducible exact q_fe b68 | (have t1 : 0 ≤ a67.toInt + 1 := b68; omega))), (show a67.toInt ≤ 1 from (by first | with_reducible exact q_fe b69 | (have t1 : a67.toInt ≤ 1 := b69; omega))), (show a67 = (F_Big_order R R2 t0_0 t0_1 t1_0 t2_0 t2_1 t3_0) from (by subst e24; subst e32; subst e56; subst e64; subst e71; rw [F_Big_order.eq_1, if_neg c33]))⟩) d_2_20_22
def F_Big_addSize_L25 (R : Int32) (R2 : Int32) (t0_0 : Int32) (t0_1 : Int32) (t1_0 : (Nat → Int32)) (t2_0 : Int32) (t2_1 : Int32) (t3_0 : (Nat → Int32)) (a20 : Int32) : Nat → Int32 → Int32 → (Nat → Int32) → (Int32 × Int32 × (Nat → Int32))
  | 0, _, _, _ => default
  | fm + 1, lx25, lx26, lx27 => if a20 ≤ lx25 then (if lx26 = (0 : Int32) then ((a20, t0_1, lx27)) else ((((F_Big_push R lx26 a20 t0_1 lx27).1 : Int32), ((F_Big_push R lx26 a20 t0_1 lx27).2.1 : Int32), ((F_Big_push R lx26 a20 t0_1 lx27).2.2 : (Nat → Int32))))) else (F_Big_addSize_L25 R R2 t0_0 t0_1 t1_0 t2_0 t2_1 t3_0 a20 fm (lx25 + 1 : Int32) ((((((F_Big_limb R lx25 t0_0 t0_1 lx27) : Int32) + ((F_Big_limb R2 lx25 t2_0 t2_1 t3_0) : Int32) : Int32) + lx26 : Int32).toUInt32 >>> ((31 : Int32).toUInt32 &&& Int32.toUInt32 31)).toInt32 : Int32) (upd lx27 lx25.toNatClampNeg (((((F_Big_limb R lx25 t0_0 t0_1 lx27) : Int32) + ((F_Big_limb R2 lx25 t2_0 t2_1 t3_0) : Int32) : Int32) + lx26 : Int32) &&& 2147483647 : Int32) : (Nat → Int32)))
def F_Big_addSize (R : Int32) (R2 : Int32) (t0_0 : Int32) (t0_1 : Int32) (t1_0 : (Nat → Int32)) (t2_0 : Int32) (t2_1 : Int32) (t3_0 : (Nat → Int32)) : Int32 × Int32 × (Nat → Int32) := F_Big_addSize_L25 R R2 t0_0 t0_1 t1_0 t2_0 t2_1 t3_0 (if R < (if t0_0 < t2_0 then t2_0 else t0_0 : Int32) then R else (if t0_0 < t2_0 then t2_0 else t0_0 : Int32) : Int32) ((220 - (0 : Int32).toInt).toNat + 1) 0 0 t1_0
set_option maxRecDepth 100000 in
set_option maxHeartbeats 4000000 in
theorem X_Big_addSize (l : Launch) (D : va_G) (g : Nat → ClassId) (q : Nat → Nat) (ws : va_W) (k1 : Nat) (R : Int32) (hB1 : q_isBig (nsh g q) g q k1 R) (zk1 : (10 ≤ k1 ∧ k1 ≤ 32) ∨ 66 ≤ k1) (k2 : Nat) (R2 : Int32) (hB2 : q_isBig (nsh g q) g q k2 R2) (zk2 : (10 ≤ k2 ∧ k2 ≤ 32) ∨ 66 ≤ k2) (ne_k1_k2 : k1 ≠ k2) (hI : q_I (nsh g q) q ws) (t0_0 : Int32) (t0_1 : Int32) (hT0 : ws[k1]? = (some (q k1, .inr (2, [.ref (q (k1 + 1)), .int t0_0, .int t0_1])) : Option (Nat × va_E))) (t1_0 : (Nat → Int32)) (hT1 : ws[k1 + 1]? = (some (q (k1 + 1), .inl (g 0, R.toNatClampNeg, .inl t1_0)) : Option (Nat × va_E))) (t2_0 : Int32) (t2_1 : Int32) (hT2 : ws[k2]? = (some (q k2, .inr (2, [.ref (q (k2 + 1)), .int t2_0, .int t2_1])) : Option (Nat × va_E))) (t3_0 : (Nat → Int32)) (hT3 : ws[k2 + 1]? = (some (q (k2 + 1), .inl (g 0, R2.toNatClampNeg, .inl t3_0)) : Option (Nat × va_E))) : q_mV l y_Big_addSize prog_2_method_23_code 6 2 0 0 D g [.ref (q k1), .ref (q k2)] ws (fun u => q_I (nsh g q) q u ∧ q_un ws u [k1, k1 + 1] ∧ ∃ (u0_0 : Int32) (u0_1 : Int32) (u1_0 : (Nat → Int32)), u[k1]? = (some (q k1, .inr (2, [.ref (q (k1 + 1)), .int u0_0, .int u0_1])) : Option (Nat × va_E)) ∧ u[k1 + 1]? = (some (q (k1 + 1), .inl (g 0, R.toNatClampNeg, .inl u1_0)) : Option (Nat × va_E)) ∧ (t0_0.toInt ≤ u0_0.toInt) ∧ (u0_0.toInt ≤ R.toInt) ∧ (t0_1.toInt ≤ u0_1.toInt) ∧ (u0_1.toInt ≤ t0_1.toInt) ∧ (u0_0, u0_1, u1_0) = (F_Big_addSize R R2 t0_0 t0_1 t1_0 t2_0 t2_1 t3_0)) := by
  intro sz
  refine q_into (by decide) (Nat.le_of_ble_eq_true rfl) ?_
  intro p e s m below meth c ls hsz C0 V hl
  have hx := C0.1
  have hb := C0.2.1
  have hfk10 : q_F (0 ≤ R.toInt ∧ R.toInt ≤ 220) := hB1.2.2
  obtain ⟨btt0_0, btt0_1⟩ := q_bigW hI hB1 hT0
  replace btt0_0 : q_F (0 ≤ t0_0.toInt ∧ t0_0.toInt ≤ R.toInt) := btt0_0
  replace btt0_1 : q_F (0 ≤ t0_1.toInt ∧ t0_1.toInt ≤ 1) := btt0_1
  have btt2_1 := (q_bigW hI hB2 hT2).2
  clear btt2_1
  have hF : q_un ws ws [k1, k1 + 1] := q_u0
  have hl : lv_has ls 6 [(0, .ref (q k1)), (1, .ref (q k2))] := hl
  refine lv_aload_n hx hb d_2_23_0 rfl (lv_at hl 0 rfl) ?_
  refine q_get (ci := 2) (j := 1) (v := .int t0_0) C0 V i_Big rfl rfl hT0 (by decide) w_85 rfl d_2_23_1 ?_
  refine lv_aload_n hx hb d_2_23_4 rfl (lv_at hl 1 rfl) ?_
  refine q_get (ci := 2) (j := 1) (v := .int t2_0) C0 V i_Big rfl rfl hT2 (by decide) w_85 rfl d_2_23_5 ?_
  refine q_max C0 hl.1 rfl w_1043 w_803 w_7 w_804 ⟨Nat.le_of_ble_eq_true rfl, Nat.le_of_ble_eq_true rfl⟩ ⟨Nat.le_of_ble_eq_true rfl, Nat.le_of_ble_eq_true rfl⟩ d_2_23_8 ?_
  obtain ⟨a17, e18⟩ := q_nm (if t0_0 < t2_0 then t2_0 else t0_0 : Int32)
  refine q_ti (v := a17) e18 ?_
  have b19 : q_F (t0_0.toInt ≤ a17.toInt ∧ t2_0.toInt ≤ a17.toInt ∧ (a17.toInt = t0_0.toInt ∨ a17.toInt = t2_0.toInt)) := (by rw [← e18]; show t0_0.toInt ≤ (if t0_0 < t2_0 then t2_0 else t0_0 : Int32).toInt ∧ t2_0.toInt ≤ (if t0_0 < t2_0 then t2_0 else t0_0 : Int32).toInt ∧ ((if t0_0 < t2_0 then t2_0 else t0_0 : Int32).toInt = t0_0.toInt ∨ (if t0_0 < t2_0 then t2_0 else t0_0 : Int32).toInt = t2_0.toInt); exact s_max (a := t0_0) (b := t2_0))
  refine lv_aload_n hx hb d_2_23_11 rfl (lv_at hl 0 rfl) ?_
  refine q_get (ci := 2) (j := 0) (v := .ref (q (k1 + 1))) C0 V i_Big rfl rfl hT0 (by decide) w_84 rfl d_2_23_12 ?_
  refine q_alen (t := 0) (v := R) C0 V hT1 rfl (s_len (by first | with_reducible exact (q_fe hfk10).2 | with_reducible exact (q_fe hfk10).1 | (have t1 : 0 ≤ R.toInt ∧ R.toInt ≤ 220 := hfk10; omega))) d_2_23_15 ?_
  refine q_min C0 hl.1 rfl w_773 w_774 w_7 w_775 ⟨Nat.le_of_ble_eq_true rfl, Nat.le_of_ble_eq_true rfl⟩ ⟨Nat.le_of_ble_eq_true rfl, Nat.le_of_ble_eq_true rfl⟩ d_2_23_16 ?_
  obtain ⟨a20, e21⟩ := q_nm (if R < a17 then R else a17 : Int32)
  refine q_ti (v := a20) e21 ?_
  have b22 : q_F (a20.toInt ≤ a17.toInt ∧ a20.toInt ≤ R.toInt ∧ (a20.toInt = a17.toInt ∨ a20.toInt = R.toInt)) := (by rw [← e21]; show (if R < a17 then R else a17 : Int32).toInt ≤ a17.toInt ∧ (if R < a17 then R else a17 : Int32).toInt ≤ R.toInt ∧ ((if R < a17 then R else a17 : Int32).toInt = a17.toInt ∨ (if R < a17 then R else a17 : Int32).toInt = R.toInt); exact s_min (a := a17) (b := R))
  refine lv_istore_n (lv' := [(2, .int a20), (0, .ref (q k1)), (1, .ref (q k2))]) hx hb d_2_23_19 rfl hl (by decide) rfl (fun ls hl => ?_)
  refine lv_iconst (v := 0) hx hb d_2_23_20 (by decide) ?_
  refine lv_istore_n (lv' := [(3, .int 0), (2, .int a20), (0, .ref (q k1)), (1, .ref (q k2))]) hx hb d_2_23_21 rfl hl (by decide) rfl (fun ls hl => ?_)
  refine lv_iconst (v := 0) hx hb d_2_23_22 (by decide) ?_
  refine lv_istore (lv' := [(4, .int 0), (3, .int 0), (2, .int a20), (0, .ref (q k1)), (1, .ref (q k2))]) hx hb d_2_23_23 hl (by decide) rfl (fun ls hl => ?_)
  refine q_loop (X := Int32 × Int32 × (Nat → Int32)) (fun z H locs ls w33 => q_F (0 ≤ z.2.1.toInt) ∧ q_F (z.2.1.toInt ≤ 1) ∧ q_F (z.1.toInt ≤ a20.toInt) ∧ q_F (z.2.1.toInt ≤ z.1.toInt) ∧ q_Wd D g (va_A ws sz) s w33 H locs ∧ lv_has ls 6 [(4, .int z.1), (3, .int z.2.1), (2, .int a20), (0, .ref (q k1)), (1, .ref (q k2))] ∧ q_I (nsh g q) q w33 ∧ q_un ws w33 [k1, k1 + 1] ∧ w33[k1]? = (some (q k1, .inr (2, [.ref (q (k1 + 1)), .int t0_0, .int t0_1])) : Option (Nat × va_E)) ∧ w33[k1 + 1]? = (some (q (k1 + 1), .inl (g 0, R.toNatClampNeg, .inl z.2.2)) : Option (Nat × va_E)) ∧ w33[k2]? = (some (q k2, .inr (2, [.ref (q (k2 + 1)), .int t2_0, .int t2_1])) : Option (Nat × va_E)) ∧ w33[k2 + 1]? = (some (q (k2 + 1), .inl (g 0, R2.toNatClampNeg, .inl t3_0)) : Option (Nat × va_E)) ∧ (∃ n, (220 - z.1.toInt).toNat < n ∧ F_Big_addSize_L25 R R2 t0_0 t0_1 t1_0 t2_0 t2_1 t3_0 a20 n z.1 z.2.1 z.2.2 = (F_Big_addSize R R2 t0_0 t0_1 t1_0 t2_0 t2_1 t3_0))) (fun z => (220 - z.1.toInt).toNat) ?_ ((0 : Int32), (0 : Int32), (t1_0 : (Nat → Int32))) _ _ _ ws ⟨(show q_F (0 ≤ 0) from (show 0 ≤ 0 from by omega)), (show q_F (0 ≤ 1) from (show 0 ≤ 1 from by omega)), (show q_F (0 ≤ a20.toInt) from (show 0 ≤ a20.toInt from by have t1 : 0 ≤ t0_0.toInt ∧ t0_0.toInt ≤ R.toInt := btt0_0; have t2 : t0_0.toInt ≤ a17.toInt ∧ t2_0.toInt ≤ a17.toInt ∧ (a17.toInt = t0_0.toInt ∨ a17.toInt = t2_0.toInt) := b19; have t3 : a20.toInt ≤ a17.toInt ∧ a20.toInt ≤ R.toInt ∧ (a20.toInt = a17.toInt ∨ a20.toInt = R.toInt) := b22; omega)), (show q_F (0 ≤ 0) from (show 0 ≤ 0 from by omega)), V, q_lw hl (q_lw1 0 rfl (q_lw1 1 rfl (q_lw1 2 rfl (q_lw1 3 rfl (q_lw1 4 rfl q_lw0))))), hI, hF, hT0, hT1, hT2, hT3, ⟨((220 - (0 : Int32).toInt).toNat + 1), Nat.lt_succ_self _, (show F_Big_addSize_L25 R R2 t0_0 t0_1 t1_0 t2_0 t2_1 t3_0 a20 ((220 - (0 : Int32).toInt).toNat + 1) 0 0 t1_0 = (F_Big_addSize R R2 t0_0 t0_1 t1_0 t2_0 t2_1 t3_0) from (by subst e18; subst e21; rw [F_Big_addSize.eq_1]))⟩⟩
  rintro ⟨lx25, lx26, lx27⟩ H locs ls w33 ⟨i28, i29, i30, i31, V, hl, hI, hF, hO34, hO35, hO36, hO37, ⟨fu39, hf40, hR38⟩⟩ ih32
  obtain ⟨fm41, rfl⟩ : ∃ m, fu39 = m + 1 := ⟨fu39 - 1, by omega⟩
  replace i28 : q_F (0 ≤ lx26.toInt) := i28
  clear i29
  replace i30 : q_F (lx25.toInt ≤ a20.toInt) := i30
  replace i31 : q_F (lx26.toInt ≤ lx25.toInt) := i31
  replace hl : lv_has ls 6 [(4, .int lx25), (3, .int lx26), (2, .int a20), (0, .ref (q k1)), (1, .ref (q k2))] := hl
  replace hO34 : w33[k1]? = (some (q k1, .inr (2, [.ref (q (k1 + 1)), .int t0_0, .int t0_1])) : Option (Nat × va_E)) := hO34
  replace hO35 : w33[k1 + 1]? = (some (q (k1 + 1), .inl (g 0, R.toNatClampNeg, .inl lx27)) : Option (Nat × va_E)) := hO35
  replace hO36 : w33[k2]? = (some (q k2, .inr (2, [.ref (q (k2 + 1)), .int t2_0, .int t2_1])) : Option (Nat × va_E)) := hO36
  replace hO37 : w33[k2 + 1]? = (some (q (k2 + 1), .inl (g 0, R2.toNatClampNeg, .inl t3_0)) : Option (Nat × va_E)) := hO37
  refine lv_iload hx hb d_2_23_25 (lv_at hl 0 rfl) ?_
  refine lv_iload_n hx hb d_2_23_27 rfl (lv_at hl 2 rfl) ?_
  refine lv_icmp_ge (tgt := 72) hx hb d_2_23_28 (by decide) (fun c42 => ?_) (fun c42 => ?_)
  ·
    refine lv_aload_n hx hb d_2_23_72 rfl (lv_at hl 3 rfl) ?_
    refine lv_iload_n hx hb d_2_23_73 rfl (lv_at hl 2 rfl) ?_
    have ne46 := q_df hO37 hO34
    refine q_put (ci := 2) (j := 1) (v := .int a20) (ty := .int) C0 V i_Big o_Big n_Big rfl rfl hO34 (by decide) w_85 rfl rfl rfl rfl (Nat.le_of_ble_eq_true rfl) d_2_23_74 (fun H locs w44 hu45 hO34 V => ?_)
    replace hO34 : w44[k1]? = (some (q k1, .inr (2, [.ref (q (k1 + 1)), .int a20, .int t0_1])) : Option (Nat × va_E)) := hO34
    replace hI := q_bigO' hI hB1 hu45 hO34 ⟨(by have t1 : 0 ≤ t0_0.toInt ∧ t0_0.toInt ≤ R.toInt := btt0_0; have t2 : t0_0.toInt ≤ a17.toInt ∧ t2_0.toInt ≤ a17.toInt ∧ (a17.toInt = t0_0.toInt ∨ a17.toInt = t2_0.toInt) := b19; have t3 : a20.toInt ≤ a17.toInt ∧ a20.toInt ≤ R.toInt ∧ (a20.toInt = a17.toInt ∨ a20.toInt = R.toInt) := b22; omega), (by have t1 : a20.toInt ≤ a17.toInt ∧ a20.toInt ≤ R.toInt ∧ (a20.toInt = a17.toInt ∨ a20.toInt = R.toInt) := b22; omega)⟩ (by first | with_reducible exact q_fe btt0_1 | exact ⟨(by have t1 : 0 ≤ t0_1.toInt ∧ t0_1.toInt ≤ 1 := btt0_1; omega), (by have t1 : 0 ≤ t0_1.toInt ∧ t0_1.toInt ≤ 1 := btt0_1; omega)⟩)
    replace hO35 := (hu45 _ (by omega)).trans hO35
    replace hO36 := (hu45 _ (by have z := ne_k1_k2; omega)).trans hO36
    replace hO37 := (hu45 _ ne46).trans hO37
    replace hF := q_us hF hu45 (by simp)
    refine lv_iload_n hx hb d_2_23_77 rfl (lv_at hl 1 rfl) ?_
    refine lv_if_eq (tgt := 86) hx hb d_2_23_78 (by decide) (fun c47 => ?_) (fun c47 => ?_)
    ·
      exact q_retv C0 V (⟨hI, hF, a20, t0_1, lx27, hO34, hO35, (show t0_0.toInt ≤ a20.toInt from (by have t1 : 0 ≤ t0_0.toInt ∧ t0_0.toInt ≤ R.toInt := btt0_0; have t2 : t0_0.toInt ≤ a17.toInt ∧ t2_0.toInt ≤ a17.toInt ∧ (a17.toInt = t0_0.toInt ∨ a17.toInt = t2_0.toInt) := b19; have t3 : a20.toInt ≤ a17.toInt ∧ a20.toInt ≤ R.toInt ∧ (a20.toInt = a17.toInt ∨ a20.toInt = R.toInt) := b22; omega)), (show a20.toInt ≤ R.toInt from (by have t1 : a20.toInt ≤ a17.toInt ∧ a20.toInt ≤ R.toInt ∧ (a20.toInt = a17.toInt ∨ a20.toInt = R.toInt) := b22; omega)), (show t0_1.toInt ≤ t0_1.toInt from (by omega)), (show t0_1.toInt ≤ t0_1.toInt from (by omega)), (show (a20, t0_1, lx27) = (F_Big_addSize R R2 t0_0 t0_1 t1_0 t2_0 t2_1 t3_0) from Eq.trans (by subst e18; subst e21; rw [F_Big_addSize_L25.eq_2, if_pos c42, if_pos c47]) hR38)⟩) d_2_23_86
    ·
      refine lv_aload_n hx hb d_2_23_81 rfl (lv_at hl 3 rfl) ?_
      refine lv_iload_n hx hb d_2_23_82 rfl (lv_at hl 1 rfl) ?_
      have ne50 := q_df hO37 hO34
      have ne51 := q_df hO35 hO36
      refine q_gov V (q_runV (As := [.int lx26]) (rest := []) (d := 1) (mc := 0) (ms := 0) (ci := 2) C0 V rfl LV_Big_32 (X_Big_push l D g q w44 k1 R hB1 zk1 lx26 hI a20 t0_1 hO34 lx27 hO35  _) rfl rfl hO34 rfl hl.1 rfl (Nat.le_of_ble_eq_true rfl) ⟨by decide, by decide⟩ ⟨Nat.le_of_ble_eq_true rfl, Nat.le_of_ble_eq_true rfl⟩ d_2_23_83) (fun u52 H locs hp53 V => ?_)
      obtain ⟨hI, hZ9⟩ := hp53
      obtain ⟨hu66, hZ9⟩ := hZ9
      obtain ⟨y55, hZ9⟩ := hZ9
      obtain ⟨y56, hZ9⟩ := hZ9
      obtain ⟨f57, hZ9⟩ := hZ9
      obtain ⟨hO54, hZ9⟩ := hZ9
      obtain ⟨hA58, hZ9⟩ := hZ9
      obtain ⟨b59, hZ9⟩ := hZ9
      replace hZ9 := hZ9.2.2
      obtain ⟨b62, hZ9⟩ := hZ9
      obtain ⟨b63, hZ9⟩ := hZ9
      obtain ⟨b64, hE65⟩ := hZ9
      replace hO54 : u52[k1]? = (some (q k1, .inr (2, [.ref (q (k1 + 1)), .int y55, .int y56])) : Option (Nat × va_E)) := hO54
      replace hA58 : u52[k1 + 1]? = (some (q (k1 + 1), .inl (g 0, R.toNatClampNeg, .inl f57)) : Option (Nat × va_E)) := hA58
      have e67 : y55 = (F_Big_push R lx26 a20 t0_1 lx27).1 := congrArg (fun z => z.1) hE65
      have e68 : y56 = (F_Big_push R lx26 a20 t0_1 lx27).2.1 := congrArg (fun z => z.2.1) hE65
      have e69 : f57 = (F_Big_push R lx26 a20 t0_1 lx27).2.2 := congrArg (fun z => z.2.2) hE65
      replace b59 : q_F (a20.toInt ≤ y55.toInt) := b59
      replace b62 : q_F (y55.toInt ≤ R.toInt) := b62
      replace b63 : q_F (t0_1.toInt ≤ y56.toInt) := b63
      replace b64 : q_F (y56.toInt ≤ t0_1.toInt) := b64
      replace hF := q_uc hF hu66 (by simp)
      exact q_retv C0 V (⟨hI, hF, y55, y56, f57, hO54, hA58, (show t0_0.toInt ≤ y55.toInt from (by have t1 : 0 ≤ t0_0.toInt ∧ t0_0.toInt ≤ R.toInt := btt0_0; have t2 : t0_0.toInt ≤ a17.toInt ∧ t2_0.toInt ≤ a17.toInt ∧ (a17.toInt = t0_0.toInt ∨ a17.toInt = t2_0.toInt) := b19; have t3 : a20.toInt ≤ a17.toInt ∧ a20.toInt ≤ R.toInt ∧ (a20.toInt = a17.toInt ∨ a20.toInt = R.toInt) := b22; have t4 : a20.toInt ≤ y55.toInt := b59; omega)), (show y55.toInt ≤ R.toInt from (by first | with_reducible exact q_fe b62 | (have t1 : y55.toInt ≤ R.toInt := b62; omega))), (show t0_1.toInt ≤ y56.toInt from (by first | with_reducible exact q_fe b63 | (have t1 : t0_1.toInt ≤ y56.toInt := b63; omega))), (show y56.toInt ≤ t0_1.toInt from (by first | with_reducible exact q_fe b64 | (have t1 : y56.toInt ≤ t0_1.toInt := b64; omega))), (show (y55, y56, f57) = (F_Big_addSize R R2 t0_0 t0_1 t1_0 t2_0 t2_1 t3_0) from Eq.trans (by subst e18; subst e21; subst e67; subst e68; subst e69; rw [F_Big_addSize_L25.eq_2, if_pos c42, if_neg c47]) hR38)⟩) d_2_23_86
  ·
    have b70 : q_F (lx25.toInt < a20.toInt) := (q_nleI c42)
    refine lv_aload_n hx hb d_2_23_31 rfl (lv_at hl 3 rfl) ?_
    refine lv_iload hx hb d_2_23_32 (lv_at hl 0 rfl) ?_
    refine q_goi V (q_runV (As := [.int lx25]) (rest := []) (d := 1) (mc := 0) (ms := 0) (ci := 2) C0 V rfl LV_Big_49 (X_Big_limb l D g q w33 k1 R hB1 zk1 lx25 hI t0_0 t0_1 hO34 lx27 hO35  _) rfl rfl hO34 rfl hl.1 rfl (Nat.le_of_ble_eq_true rfl) ⟨by decide, by decide⟩ ⟨Nat.le_of_ble_eq_true rfl, Nat.le_of_ble_eq_true rfl⟩ d_2_23_34) (fun a73 u71 H locs hp72 V => ?_)
    obtain ⟨rfl, hE74⟩ := hp72
    have e75 : a73 = (F_Big_limb R lx25 t0_0 t0_1 lx27) := hE74
    refine lv_aload_n hx hb d_2_23_37 rfl (lv_at hl 4 rfl) ?_
    refine lv_iload hx hb d_2_23_38 (lv_at hl 0 rfl) ?_
    refine q_goi V (q_runV (As := [.int lx25]) (rest := [.int a73]) (d := 1) (mc := 0) (ms := 0) (ci := 2) C0 V rfl LV_Big_49 (X_Big_limb l D g q w33 k2 R2 hB2 zk2 lx25 hI t2_0 t2_1 hO36 t3_0 hO37  _) rfl rfl hO36 rfl hl.1 rfl (Nat.le_of_ble_eq_true rfl) ⟨by decide, by decide⟩ ⟨Nat.le_of_ble_eq_true rfl, Nat.le_of_ble_eq_true rfl⟩ d_2_23_40) (fun a78 u76 H locs hp77 V => ?_)
    obtain ⟨rfl, hE79⟩ := hp77
    have e80 : a78 = (F_Big_limb R2 lx25 t2_0 t2_1 t3_0) := hE79
    refine lv_iadd hx hb d_2_23_43 ?_
    obtain ⟨a81, e82⟩ := q_nm (a73 + a78 : Int32)
    refine q_ti (v := a81) e82 ?_
    refine lv_iload_n hx hb d_2_23_44 rfl (lv_at hl 1 rfl) ?_
    refine lv_iadd hx hb d_2_23_45 ?_
    obtain ⟨a83, e84⟩ := q_nm (a81 + lx26 : Int32)
    refine q_ti (v := a83) e84 ?_
    refine lv_istore (lv' := [(5, .int a83), (4, .int lx25), (3, .int lx26), (2, .int a20), (0, .ref (q k1)), (1, .ref (q k2))]) hx hb d_2_23_46 hl (by decide) rfl (fun ls hl => ?_)
    refine lv_aload_n hx hb d_2_23_48 rfl (lv_at hl 4 rfl) ?_
    refine q_get (ci := 2) (j := 0) (v := .ref (q (k1 + 1))) C0 V i_Big rfl rfl hO34 (by decide) w_84 rfl d_2_23_49 ?_
    refine lv_iload hx hb d_2_23_52 (lv_at hl 1 rfl) ?_
    refine lv_iload hx hb d_2_23_54 (lv_at hl 0 rfl) ?_
    refine q_ldc C0 rfl w_809 d_2_23_56 ?_
    refine lv_iand hx hb d_2_23_58 ?_
    obtain ⟨a85, e86⟩ := q_nm (a83 &&& 2147483647 : Int32)
    refine q_ti (v := a85) e86 ?_
    have ne90 := q_df hO35 hO36
    refine q_iast C0 V hO35 (q_ix (x := lx25.toInt) rfl (by have t1 : 0 ≤ lx26.toInt := i28; have t2 : lx26.toInt ≤ lx25.toInt := i31; omega) (by have t1 : 0 ≤ lx26.toInt := i28; have t2 : lx26.toInt ≤ lx25.toInt := i31; have t3 : a20.toInt ≤ a17.toInt ∧ a20.toInt ≤ R.toInt ∧ (a20.toInt = a17.toInt ∨ a20.toInt = R.toInt) := b22; have t4 : lx25.toInt < a20.toInt := b70; have e9 := q_clI (i := R) rfl (by first | with_reducible exact (q_fe hfk10).2 | with_reducible exact (q_fe hfk10).1 | (have t1 : 0 ≤ R.toInt ∧ R.toInt ≤ 220 := hfk10; omega)); omega)) d_2_23_59 (fun H locs w88 hu89 hO35 V => ?_)
    replace hI := q_bigA' hI hB1 hu89 hO35 (q_updB (fun _ => s_bnd) s_bnd)
    replace hO34 := (hu89 _ (by omega)).trans hO34
    replace hO36 := (hu89 _ (Ne.symm ne90)).trans hO36
    replace hO37 := (hu89 _ (by have z := ne_k1_k2; omega)).trans hO37
    replace hF := q_us hF hu89 (by simp)
    obtain ⟨f91, e92⟩ := q_nm (upd lx27 lx25.toNatClampNeg a85 : (Nat → Int32))
    rw [e92] at hO35
    refine lv_iload hx hb d_2_23_60 (lv_at hl 0 rfl) ?_
    refine lv_bipush (v := 31) hx hb d_2_23_62 (by decide) ?_
    refine lv_iushr hx hb d_2_23_64 rfl ?_
    obtain ⟨a93, e94⟩ := q_nm ((a83.toUInt32 >>> ((31 : Int32).toUInt32 &&& Int32.toUInt32 31)).toInt32 : Int32)
    refine q_ti (v := a93) e94 ?_
    have b95 : q_F (0 ≤ a93.toInt ∧ a93.toInt ≤ 1) := (by rw [← e94]; show 0 ≤ ((a83.toUInt32 >>> ((31 : Int32).toUInt32 &&& Int32.toUInt32 31)).toInt32 : Int32).toInt ∧ ((a83.toUInt32 >>> ((31 : Int32).toUInt32 &&& Int32.toUInt32 31)).toInt32 : Int32).toInt ≤ 1; exact (by have z := s_ushr (x := a83) (c := 31) 31 (by decide) (by decide); omega))
    refine lv_istore_n (lv' := [(3, .int a93), (5, .int a83), (4, .int lx25), (2, .int a20), (0, .ref (q k1)), (1, .ref (q k2))]) hx hb d_2_23_65 rfl hl (by decide) rfl (fun ls hl => ?_)
    obtain ⟨a96, e97⟩ := q_nm (lx25 + 1 : Int32)
    have b98 : q_F (a96.toInt = lx25.toInt + 1) := (by rw [← e97]; exact q_addI (y := 1) rfl (by decide) (by have _ := q_lo32 (x := lx25); have _ := q_hi32 (x := lx25); have t1 : lx25.toInt < a20.toInt := b70; have _ := q_lo32 (x := a20); have _ := q_hi32 (x := a20); omega) (by have _ := q_lo32 (x := lx25); have _ := q_hi32 (x := lx25); have t1 : lx25.toInt < a20.toInt := b70; have _ := q_lo32 (x := a20); have _ := q_hi32 (x := a20); omega))
    refine lv_iinc (v := a96) (lv' := [(4, .int a96), (3, .int a93), (5, .int a83), (2, .int a20), (0, .ref (q k1)), (1, .ref (q k2))]) hx hb d_2_23_66 hl (k := 2) rfl (e97) (by decide) rfl (fun ls hl => ?_)
    refine lv_goto (tgt := 25) hx hb d_2_23_69 (by decide) ?_
    exact ih32 ((a96 : Int32), (a93 : Int32), (f91 : (Nat → Int32))) _ _ _ _ (show (220 - a96.toInt).toNat < (220 - lx25.toInt).toNat from by have t1 : a96.toInt = lx25.toInt + 1 := b98; have t2 : 0 ≤ R.toInt ∧ R.toInt ≤ 220 := hfk10; have t3 : a20.toInt ≤ a17.toInt ∧ a20.toInt ≤ R.toInt ∧ (a20.toInt = a17.toInt ∨ a20.toInt = R.toInt) := b22; have t4 : lx25.toInt ≤ a20.toInt := i30; have t5 : lx25.toInt < a20.toInt := b70; omega) ⟨(show q_F (0 ≤ a93.toInt) from (show 0 ≤ a93.toInt from by have t1 : 0 ≤ a93.toInt ∧ a93.toInt ≤ 1 := b95; omega)), (show q_F (a93.toInt ≤ 1) from (show a93.toInt ≤ 1 from by have t1 : 0 ≤ a93.toInt ∧ a93.toInt ≤ 1 := b95; omega)), (show q_F (a96.toInt ≤ a20.toInt) from (show a96.toInt ≤ a20.toInt from by have t1 : lx25.toInt < a20.toInt := b70; have t2 : a96.toInt = lx25.toInt + 1 := b98; omega)), (show q_F (a93.toInt ≤ a96.toInt) from (show a93.toInt ≤ a96.toInt from by have t1 : 0 ≤ lx26.toInt := i28; have t2 : lx26.toInt ≤ lx25.toInt := i31; have t3 : 0 ≤ a93.toInt ∧ a93.toInt ≤ 1 := b95; have t4 : a96.toInt = lx25.toInt + 1 := b98; omega)), V, q_lw hl (q_lw1 0 rfl (q_lw1 1 rfl (q_lw1 3 rfl (q_lw1 4 rfl (q_lw1 5 rfl q_lw0))))), hI, hF, hO34, hO35, hO36, hO37, ⟨fm41, Nat.lt_of_lt_of_le (show (220 - a96.toInt).toNat < (220 - lx25.toInt).toNat from by have t1 : a96.toInt = lx25.toInt + 1 := b98; have t2 : 0 ≤ R.toInt ∧ R.toInt ≤ 220 := hfk10; have t3 : a20.toInt ≤ a17.toInt ∧ a20.toInt ≤ R.toInt ∧ (a20.toInt = a17.toInt ∨ a20.toInt = R.toInt) := b22; have t4 : lx25.toInt ≤ a20.toInt := i30; have t5 : lx25.toInt < a20.toInt := b70; omega) (Nat.le_of_lt_succ hf40), (show F_Big_addSize_L25 R R2 t0_0 t0_1 t1_0 t2_0 t2_1 t3_0 a20 fm41 a96 a93 f91 = (F_Big_addSize R R2 t0_0 t0_1 t1_0 t2_0 t2_1 t3_0) from Eq.trans (by subst e18; subst e21; subst e75; subst e80; subst e82; subst e84; subst e86; subst e92; subst e94; subst e97; rw [F_Big_addSize_L25.eq_2, if_neg c42]) hR38)⟩⟩
def F_Big_subtractSize_L4 (R : Int32) (R2 : Int32) (t0_0 : Int32) (t0_1 : Int32) (t1_0 : (Nat → Int32)) (t2_0 : Int32) (t2_1 : Int32) (t3_0 : (Nat → Int32)) : Nat → Int32 → Int32 → (Nat → Int32) → (Int32 × Int32 × (Nat → Int32))
  | 0, _, _, _ => default
  | fm + 1, lx19, lx20, lx21 => if t0_0 ≤ lx19 then ((((F_Big_trim R t0_0 t0_1 lx21).1 : Int32), ((F_Big_trim R t0_0 t0_1 lx21).2 : Int32), lx21)) else (F_Big_subtractSize_L4 R R2 t0_0 t0_1 t1_0 t2_0 t2_1 t3_0 fm (lx19 + 1 : Int32) (((((lx21 lx19.toNatClampNeg : Int32) - ((F_Big_limb R2 lx19 t2_0 t2_1 t3_0) : Int32) : Int32) - lx20 : Int32).toUInt32 >>> ((31 : Int32).toUInt32 &&& Int32.toUInt32 31)).toInt32 : Int32) (upd lx21 lx19.toNatClampNeg ((((lx21 lx19.toNatClampNeg : Int32) - ((F_Big_limb R2 lx19 t2_0 t2_1 t3_0) : Int32) : Int32) - lx20 : Int32) &&& 2147483647 : Int32) : (Nat → Int32)))
def F_Big_subtractSize (R : Int32) (R2 : Int32) (t0_0 : Int32) (t0_1 : Int32) (t1_0 : (Nat → Int32)) (t2_0 : Int32) (t2_1 : Int32) (t3_0 : (Nat → Int32)) : Int32 × Int32 × (Nat → Int32) := F_Big_subtractSize_L4 R R2 t0_0 t0_1 t1_0 t2_0 t2_1 t3_0 ((220 - (0 : Int32).toInt).toNat + 1) 0 0 t1_0
set_option maxRecDepth 100000 in
set_option maxHeartbeats 4000000 in
theorem X_Big_subtractSize (l : Launch) (D : va_G) (g : Nat → ClassId) (q : Nat → Nat) (ws : va_W) (k1 : Nat) (R : Int32) (hB1 : q_isBig (nsh g q) g q k1 R) (zk1 : (10 ≤ k1 ∧ k1 ≤ 32) ∨ 66 ≤ k1) (k2 : Nat) (R2 : Int32) (hB2 : q_isBig (nsh g q) g q k2 R2) (zk2 : (10 ≤ k2 ∧ k2 ≤ 32) ∨ 66 ≤ k2) (ne_k1_k2 : k1 ≠ k2) (hI : q_I (nsh g q) q ws) (t0_0 : Int32) (t0_1 : Int32) (hT0 : ws[k1]? = (some (q k1, .inr (2, [.ref (q (k1 + 1)), .int t0_0, .int t0_1])) : Option (Nat × va_E))) (t1_0 : (Nat → Int32)) (hT1 : ws[k1 + 1]? = (some (q (k1 + 1), .inl (g 0, R.toNatClampNeg, .inl t1_0)) : Option (Nat × va_E))) (t2_0 : Int32) (t2_1 : Int32) (hT2 : ws[k2]? = (some (q k2, .inr (2, [.ref (q (k2 + 1)), .int t2_0, .int t2_1])) : Option (Nat × va_E))) (t3_0 : (Nat → Int32)) (hT3 : ws[k2 + 1]? = (some (q (k2 + 1), .inl (g 0, R2.toNatClampNeg, .inl t3_0)) : Option (Nat × va_E))) : q_mV l y_Big_subtractSize prog_2_method_24_code 5 2 0 0 D g [.ref (q k1), .ref (q k2)] ws (fun u => q_I (nsh g q) q u ∧ q_un ws u [k1, k1 + 1] ∧ ∃ (u0_0 : Int32) (u0_1 : Int32) (u1_0 : (Nat → Int32)), u[k1]? = (some (q k1, .inr (2, [.ref (q (k1 + 1)), .int u0_0, .int u0_1])) : Option (Nat × va_E)) ∧ u[k1 + 1]? = (some (q (k1 + 1), .inl (g 0, R.toNatClampNeg, .inl u1_0)) : Option (Nat × va_E)) ∧ (0 ≤ u0_1.toInt) ∧ (u0_0.toInt ≤ t0_0.toInt) ∧ (u0_1.toInt ≤ t0_1.toInt) ∧ (u0_1.toInt ≤ u0_0.toInt) ∧ (u0_0, u0_1, u1_0) = (F_Big_subtractSize R R2 t0_0 t0_1 t1_0 t2_0 t2_1 t3_0)) := by
  intro sz
  refine q_into (by decide) (Nat.le_of_ble_eq_true rfl) ?_
  intro p e s m below meth c ls hsz C0 V hl
  have hx := C0.1
  have hb := C0.2.1
  have hfk10 : q_F (0 ≤ R.toInt ∧ R.toInt ≤ 220) := hB1.2.2
  have btt0_0 := (q_bigW hI hB1 hT0).1
  replace btt0_0 : q_F (0 ≤ t0_0.toInt ∧ t0_0.toInt ≤ R.toInt) := btt0_0
  have btt2_1 := (q_bigW hI hB2 hT2).2
  clear btt2_1
  have hF : q_un ws ws [k1, k1 + 1] := q_u0
  have hl : lv_has ls 5 [(0, .ref (q k1)), (1, .ref (q k2))] := hl
  refine lv_iconst (v := 0) hx hb d_2_24_0 (by decide) ?_
  refine lv_istore_n (lv' := [(2, .int 0), (0, .ref (q k1)), (1, .ref (q k2))]) hx hb d_2_24_1 rfl hl (by decide) rfl (fun ls hl => ?_)
  refine lv_iconst (v := 0) hx hb d_2_24_2 (by decide) ?_
  refine lv_istore_n (lv' := [(3, .int 0), (2, .int 0), (0, .ref (q k1)), (1, .ref (q k2))]) hx hb d_2_24_3 rfl hl (by decide) rfl (fun ls hl => ?_)
  refine q_loop (X := Int32 × Int32 × (Nat → Int32)) (fun z H locs ls w27 => q_F (0 ≤ z.2.1.toInt) ∧ q_F (z.2.1.toInt ≤ 1) ∧ q_F (z.1.toInt ≤ t0_0.toInt) ∧ q_F (z.2.1.toInt ≤ z.1.toInt) ∧ q_Wd D g (va_A ws sz) s w27 H locs ∧ lv_has ls 5 [(3, .int z.1), (2, .int z.2.1), (0, .ref (q k1)), (1, .ref (q k2))] ∧ q_I (nsh g q) q w27 ∧ q_un ws w27 [k1, k1 + 1] ∧ w27[k1]? = (some (q k1, .inr (2, [.ref (q (k1 + 1)), .int t0_0, .int t0_1])) : Option (Nat × va_E)) ∧ w27[k1 + 1]? = (some (q (k1 + 1), .inl (g 0, R.toNatClampNeg, .inl z.2.2)) : Option (Nat × va_E)) ∧ w27[k2]? = (some (q k2, .inr (2, [.ref (q (k2 + 1)), .int t2_0, .int t2_1])) : Option (Nat × va_E)) ∧ w27[k2 + 1]? = (some (q (k2 + 1), .inl (g 0, R2.toNatClampNeg, .inl t3_0)) : Option (Nat × va_E)) ∧ (∃ n, (220 - z.1.toInt).toNat < n ∧ F_Big_subtractSize_L4 R R2 t0_0 t0_1 t1_0 t2_0 t2_1 t3_0 n z.1 z.2.1 z.2.2 = (F_Big_subtractSize R R2 t0_0 t0_1 t1_0 t2_0 t2_1 t3_0))) (fun z => (220 - z.1.toInt).toNat) ?_ ((0 : Int32), (0 : Int32), (t1_0 : (Nat → Int32))) _ _ _ ws ⟨(show q_F (0 ≤ 0) from (show 0 ≤ 0 from by omega)), (show q_F (0 ≤ 1) from (show 0 ≤ 1 from by omega)), (show q_F (0 ≤ t0_0.toInt) from (show 0 ≤ t0_0.toInt from by have t1 : 0 ≤ t0_0.toInt ∧ t0_0.toInt ≤ R.toInt := btt0_0; omega)), (show q_F (0 ≤ 0) from (show 0 ≤ 0 from by omega)), V, q_lw hl (q_lw1 0 rfl (q_lw1 1 rfl (q_lw1 2 rfl (q_lw1 3 rfl q_lw0)))), hI, hF, hT0, hT1, hT2, hT3, ⟨((220 - (0 : Int32).toInt).toNat + 1), Nat.lt_succ_self _, (show F_Big_subtractSize_L4 R R2 t0_0 t0_1 t1_0 t2_0 t2_1 t3_0 ((220 - (0 : Int32).toInt).toNat + 1) 0 0 t1_0 = (F_Big_subtractSize R R2 t0_0 t0_1 t1_0 t2_0 t2_1 t3_0) from (by rw [F_Big_subtractSize.eq_1]))⟩⟩
  rintro ⟨lx19, lx20, lx21⟩ H locs ls w27 ⟨i22, i23, i24, i25, V, hl, hI, hF, hO28, hO29, hO30, hO31, ⟨fu33, hf34, hR32⟩⟩ ih26
  obtain ⟨fm35, rfl⟩ : ∃ m, fu33 = m + 1 := ⟨fu33 - 1, by omega⟩
  replace i22 : q_F (0 ≤ lx20.toInt) := i22
  clear i23
  replace i24 : q_F (lx19.toInt ≤ t0_0.toInt) := i24
  replace i25 : q_F (lx20.toInt ≤ lx19.toInt) := i25
  replace hl : lv_has ls 5 [(3, .int lx19), (2, .int lx20), (0, .ref (q k1)), (1, .ref (q k2))] := hl
  replace hO28 : w27[k1]? = (some (q k1, .inr (2, [.ref (q (k1 + 1)), .int t0_0, .int t0_1])) : Option (Nat × va_E)) := hO28
  replace hO29 : w27[k1 + 1]? = (some (q (k1 + 1), .inl (g 0, R.toNatClampNeg, .inl lx21)) : Option (Nat × va_E)) := hO29
  replace hO30 : w27[k2]? = (some (q k2, .inr (2, [.ref (q (k2 + 1)), .int t2_0, .int t2_1])) : Option (Nat × va_E)) := hO30
  replace hO31 : w27[k2 + 1]? = (some (q (k2 + 1), .inl (g 0, R2.toNatClampNeg, .inl t3_0)) : Option (Nat × va_E)) := hO31
  refine lv_iload_n hx hb d_2_24_4 rfl (lv_at hl 0 rfl) ?_
  refine lv_aload_n hx hb d_2_24_5 rfl (lv_at hl 2 rfl) ?_
  refine q_get (ci := 2) (j := 1) (v := .int t0_0) C0 V i_Big rfl rfl hO28 (by decide) w_85 rfl d_2_24_6 ?_
  refine lv_icmp_ge (tgt := 51) hx hb d_2_24_9 (by decide) (fun c36 => ?_) (fun c36 => ?_)
  ·
    refine lv_aload_n hx hb d_2_24_51 rfl (lv_at hl 2 rfl) ?_
    have ne38 := q_df hO31 hO28
    refine q_gov V (q_runV (As := []) (rest := []) (d := 1) (mc := 0) (ms := 0) (ci := 2) C0 V rfl LV_Big_36 (X_Big_trim l D g q w27 k1 R hB1 zk1  hI t0_0 t0_1 hO28 lx21 hO29  _) rfl rfl hO28 rfl hl.1 rfl (Nat.le_of_ble_eq_true rfl) ⟨by decide, by decide⟩ ⟨Nat.le_of_ble_eq_true rfl, Nat.le_of_ble_eq_true rfl⟩ d_2_24_52) (fun u39 H locs hp40 V => ?_)
    obtain ⟨hI, hZ9⟩ := hp40
    obtain ⟨hu49, hZ9⟩ := hZ9
    obtain ⟨y42, hZ9⟩ := hZ9
    obtain ⟨y43, hZ9⟩ := hZ9
    obtain ⟨hO41, hZ9⟩ := hZ9
    obtain ⟨b44, hZ9⟩ := hZ9
    obtain ⟨b45, hZ9⟩ := hZ9
    obtain ⟨b46, hZ9⟩ := hZ9
    obtain ⟨b47, hE48⟩ := hZ9
    replace hO41 : u39[k1]? = (some (q k1, .inr (2, [.ref (q (k1 + 1)), .int y42, .int y43])) : Option (Nat × va_E)) := hO41
    have e50 : y42 = (F_Big_trim R t0_0 t0_1 lx21).1 := congrArg (fun z => z.1) hE48
    have e51 : y43 = (F_Big_trim R t0_0 t0_1 lx21).2 := congrArg (fun z => z.2) hE48
    replace b44 : q_F (0 ≤ y43.toInt) := b44
    replace b45 : q_F (y42.toInt ≤ t0_0.toInt) := b45
    replace b46 : q_F (y43.toInt ≤ t0_1.toInt) := b46
    replace b47 : q_F (y43.toInt ≤ y42.toInt) := b47
    replace hO29 := (hu49 _ (by have z0 := zk1; simp only [List.mem_cons, List.not_mem_nil, or_false, not_or]; omega)).trans hO29
    replace hF := q_uc hF hu49 (by simp)
    exact q_retv C0 V (⟨hI, hF, y42, y43, lx21, hO41, hO29, (show 0 ≤ y43.toInt from (by first | with_reducible exact q_fe b44 | (have t1 : 0 ≤ y43.toInt := b44; omega))), (show y42.toInt ≤ t0_0.toInt from (by first | with_reducible exact q_fe b45 | (have t1 : y42.toInt ≤ t0_0.toInt := b45; omega))), (show y43.toInt ≤ t0_1.toInt from (by first | with_reducible exact q_fe b46 | (have t1 : y43.toInt ≤ t0_1.toInt := b46; omega))), (show y43.toInt ≤ y42.toInt from (by first | with_reducible exact q_fe b47 | (have t1 : y43.toInt ≤ y42.toInt := b47; omega))), (show (y42, y43, lx21) = (F_Big_subtractSize R R2 t0_0 t0_1 t1_0 t2_0 t2_1 t3_0) from Eq.trans (by subst e50; subst e51; rw [F_Big_subtractSize_L4.eq_2, if_pos c36]) hR32)⟩) d_2_24_55
  ·
    have b52 : q_F (lx19.toInt < t0_0.toInt) := (q_nleI c36)
    refine lv_aload_n hx hb d_2_24_12 rfl (lv_at hl 2 rfl) ?_
    refine q_get (ci := 2) (j := 0) (v := .ref (q (k1 + 1))) C0 V i_Big rfl rfl hO28 (by decide) w_84 rfl d_2_24_13 ?_
    refine lv_iload_n hx hb d_2_24_16 rfl (lv_at hl 0 rfl) ?_
    refine q_iald C0 V hO29 (q_ix (x := lx19.toInt) rfl (by have t1 : 0 ≤ lx20.toInt := i22; have t2 : lx20.toInt ≤ lx19.toInt := i25; omega) (by have t1 : 0 ≤ lx20.toInt := i22; have t2 : lx20.toInt ≤ lx19.toInt := i25; have t3 : 0 ≤ t0_0.toInt ∧ t0_0.toInt ≤ R.toInt := btt0_0; have t4 : lx19.toInt < t0_0.toInt := b52; have e9 := q_clI (i := R) rfl (by first | with_reducible exact (q_fe hfk10).2 | with_reducible exact (q_fe hfk10).1 | (have t1 : 0 ≤ R.toInt ∧ R.toInt ≤ 220 := hfk10; omega)); omega)) d_2_24_17 ?_
    obtain ⟨a53, e54⟩ := q_nm (lx21 lx19.toNatClampNeg : Int32)
    refine q_ti (v := a53) e54 ?_
    refine lv_aload_n hx hb d_2_24_18 rfl (lv_at hl 3 rfl) ?_
    refine lv_iload_n hx hb d_2_24_19 rfl (lv_at hl 0 rfl) ?_
    refine q_goi V (q_runV (As := [.int lx19]) (rest := [.int a53]) (d := 1) (mc := 0) (ms := 0) (ci := 2) C0 V rfl LV_Big_49 (X_Big_limb l D g q w27 k2 R2 hB2 zk2 lx19 hI t2_0 t2_1 hO30 t3_0 hO31  _) rfl rfl hO30 rfl hl.1 rfl (Nat.le_of_ble_eq_true rfl) ⟨by decide, by decide⟩ ⟨Nat.le_of_ble_eq_true rfl, Nat.le_of_ble_eq_true rfl⟩ d_2_24_20) (fun a57 u55 H locs hp56 V => ?_)
    obtain ⟨rfl, hE58⟩ := hp56
    have e59 : a57 = (F_Big_limb R2 lx19 t2_0 t2_1 t3_0) := hE58
    refine lv_isub hx hb d_2_24_23 ?_
    obtain ⟨a60, e61⟩ := q_nm (a53 - a57 : Int32)
    refine q_ti (v := a60) e61 ?_
    refine lv_iload_n hx hb d_2_24_24 rfl (lv_at hl 1 rfl) ?_
    refine lv_isub hx hb d_2_24_25 ?_
    obtain ⟨a62, e63⟩ := q_nm (a60 - lx20 : Int32)
    refine q_ti (v := a62) e63 ?_
    refine lv_istore (lv' := [(4, .int a62), (3, .int lx19), (2, .int lx20), (0, .ref (q k1)), (1, .ref (q k2))]) hx hb d_2_24_26 hl (by decide) rfl (fun ls hl => ?_)
    refine lv_aload_n hx hb d_2_24_28 rfl (lv_at hl 3 rfl) ?_
    refine q_get (ci := 2) (j := 0) (v := .ref (q (k1 + 1))) C0 V i_Big rfl rfl hO28 (by decide) w_84 rfl d_2_24_29 ?_
    refine lv_iload_n hx hb d_2_24_32 rfl (lv_at hl 1 rfl) ?_
    refine lv_iload hx hb d_2_24_33 (lv_at hl 0 rfl) ?_
    refine q_ldc C0 rfl w_809 d_2_24_35 ?_
    refine lv_iand hx hb d_2_24_37 ?_
    obtain ⟨a64, e65⟩ := q_nm (a62 &&& 2147483647 : Int32)
    refine q_ti (v := a64) e65 ?_
    have ne69 := q_df hO29 hO30
    refine q_iast C0 V hO29 (q_ix (x := lx19.toInt) rfl (by have t1 : 0 ≤ lx20.toInt := i22; have t2 : lx20.toInt ≤ lx19.toInt := i25; omega) (by have t1 : 0 ≤ lx20.toInt := i22; have t2 : lx20.toInt ≤ lx19.toInt := i25; have t3 : 0 ≤ t0_0.toInt ∧ t0_0.toInt ≤ R.toInt := btt0_0; have t4 : lx19.toInt < t0_0.toInt := b52; have e9 := q_clI (i := R) rfl (by first | with_reducible exact (q_fe hfk10).2 | with_reducible exact (q_fe hfk10).1 | (have t1 : 0 ≤ R.toInt ∧ R.toInt ≤ 220 := hfk10; omega)); omega)) d_2_24_38 (fun H locs w67 hu68 hO29 V => ?_)
    replace hI := q_bigA' hI hB1 hu68 hO29 (q_updB (fun _ => s_bnd) s_bnd)
    replace hO28 := (hu68 _ (by omega)).trans hO28
    replace hO30 := (hu68 _ (Ne.symm ne69)).trans hO30
    replace hO31 := (hu68 _ (by have z := ne_k1_k2; omega)).trans hO31
    replace hF := q_us hF hu68 (by simp)
    obtain ⟨f70, e71⟩ := q_nm (upd lx21 lx19.toNatClampNeg a64 : (Nat → Int32))
    rw [e71] at hO29
    refine lv_iload hx hb d_2_24_39 (lv_at hl 0 rfl) ?_
    refine lv_bipush (v := 31) hx hb d_2_24_41 (by decide) ?_
    refine lv_iushr hx hb d_2_24_43 rfl ?_
    obtain ⟨a72, e73⟩ := q_nm ((a62.toUInt32 >>> ((31 : Int32).toUInt32 &&& Int32.toUInt32 31)).toInt32 : Int32)
    refine q_ti (v := a72) e73 ?_
    have b74 : q_F (0 ≤ a72.toInt ∧ a72.toInt ≤ 1) := (by rw [← e73]; show 0 ≤ ((a62.toUInt32 >>> ((31 : Int32).toUInt32 &&& Int32.toUInt32 31)).toInt32 : Int32).toInt ∧ ((a62.toUInt32 >>> ((31 : Int32).toUInt32 &&& Int32.toUInt32 31)).toInt32 : Int32).toInt ≤ 1; exact (by have z := s_ushr (x := a62) (c := 31) 31 (by decide) (by decide); omega))
    refine lv_istore_n (lv' := [(2, .int a72), (4, .int a62), (3, .int lx19), (0, .ref (q k1)), (1, .ref (q k2))]) hx hb d_2_24_44 rfl hl (by decide) rfl (fun ls hl => ?_)
    obtain ⟨a75, e76⟩ := q_nm (lx19 + 1 : Int32)
    have b77 : q_F (a75.toInt = lx19.toInt + 1) := (by rw [← e76]; exact q_addI (y := 1) rfl (by decide) (by have _ := q_lo32 (x := lx19); have _ := q_hi32 (x := lx19); have t1 : lx19.toInt < t0_0.toInt := b52; have _ := q_lo32 (x := t0_0); have _ := q_hi32 (x := t0_0); omega) (by have _ := q_lo32 (x := lx19); have _ := q_hi32 (x := lx19); have t1 : lx19.toInt < t0_0.toInt := b52; have _ := q_lo32 (x := t0_0); have _ := q_hi32 (x := t0_0); omega))
    refine lv_iinc (v := a75) (lv' := [(3, .int a75), (2, .int a72), (4, .int a62), (0, .ref (q k1)), (1, .ref (q k2))]) hx hb d_2_24_45 hl (k := 2) rfl (e76) (by decide) rfl (fun ls hl => ?_)
    refine lv_goto (tgt := 4) hx hb d_2_24_48 (by decide) ?_
    exact ih26 ((a75 : Int32), (a72 : Int32), (f70 : (Nat → Int32))) _ _ _ _ (show (220 - a75.toInt).toNat < (220 - lx19.toInt).toNat from by have t1 : a75.toInt = lx19.toInt + 1 := b77; have t2 : 0 ≤ R.toInt ∧ R.toInt ≤ 220 := hfk10; have t3 : 0 ≤ t0_0.toInt ∧ t0_0.toInt ≤ R.toInt := btt0_0; have t4 : lx19.toInt ≤ t0_0.toInt := i24; have t5 : lx19.toInt < t0_0.toInt := b52; omega) ⟨(show q_F (0 ≤ a72.toInt) from (show 0 ≤ a72.toInt from by have t1 : 0 ≤ a72.toInt ∧ a72.toInt ≤ 1 := b74; omega)), (show q_F (a72.toInt ≤ 1) from (show a72.toInt ≤ 1 from by have t1 : 0 ≤ a72.toInt ∧ a72.toInt ≤ 1 := b74; omega)), (show q_F (a75.toInt ≤ t0_0.toInt) from (show a75.toInt ≤ t0_0.toInt from by have t1 : lx19.toInt < t0_0.toInt := b52; have t2 : a75.toInt = lx19.toInt + 1 := b77; omega)), (show q_F (a72.toInt ≤ a75.toInt) from (show a72.toInt ≤ a75.toInt from by have t1 : 0 ≤ lx20.toInt := i22; have t2 : lx20.toInt ≤ lx19.toInt := i25; have t3 : 0 ≤ a72.toInt ∧ a72.toInt ≤ 1 := b74; have t4 : a75.toInt = lx19.toInt + 1 := b77; omega)), V, q_lw hl (q_lw1 0 rfl (q_lw1 1 rfl (q_lw1 3 rfl (q_lw1 4 rfl q_lw0)))), hI, hF, hO28, hO29, hO30, hO31, ⟨fm35, Nat.lt_of_lt_of_le (show (220 - a75.toInt).toNat < (220 - lx19.toInt).toNat from by have t1 : a75.toInt = lx19.toInt + 1 := b77; have t2 : 0 ≤ R.toInt ∧ R.toInt ≤ 220 := hfk10; have t3 : 0 ≤ t0_0.toInt ∧ t0_0.toInt ≤ R.toInt := btt0_0; have t4 : lx19.toInt ≤ t0_0.toInt := i24; have t5 : lx19.toInt < t0_0.toInt := b52; omega) (Nat.le_of_lt_succ hf34), (show F_Big_subtractSize_L4 R R2 t0_0 t0_1 t1_0 t2_0 t2_1 t3_0 fm35 a75 a72 f70 = (F_Big_subtractSize R R2 t0_0 t0_1 t1_0 t2_0 t2_1 t3_0) from Eq.trans (by subst e54; subst e59; subst e61; subst e63; subst e65; subst e71; subst e73; subst e76; rw [F_Big_subtractSize_L4.eq_2, if_neg c36]) hR32)⟩⟩
def F_Big_subtractFrom_L18 (R : Int32) (R2 : Int32) (t0_0 : Int32) (t0_1 : Int32) (t1_0 : (Nat → Int32)) (t2_0 : Int32) (t2_1 : Int32) (t3_0 : (Nat → Int32)) (a17 : Int32) : Nat → Int32 → Int32 → (Nat → Int32) → (Int32 × Int32 × (Nat → Int32))
  | 0, _, _, _ => default
  | fm + 1, lx22, lx23, lx24 => if a17 ≤ lx22 then ((((F_Big_trim R a17 t0_1 lx24).1 : Int32), ((F_Big_trim R a17 t0_1 lx24).2 : Int32), lx24)) else (F_Big_subtractFrom_L18 R R2 t0_0 t0_1 t1_0 t2_0 t2_1 t3_0 a17 fm (lx22 + 1 : Int32) (((((t3_0 lx22.toNatClampNeg : Int32) - ((F_Big_limb R lx22 t0_0 t0_1 lx24) : Int32) : Int32) - lx23 : Int32).toUInt32 >>> ((31 : Int32).toUInt32 &&& Int32.toUInt32 31)).toInt32 : Int32) (upd lx24 lx22.toNatClampNeg ((((t3_0 lx22.toNatClampNeg : Int32) - ((F_Big_limb R lx22 t0_0 t0_1 lx24) : Int32) : Int32) - lx23 : Int32) &&& 2147483647 : Int32) : (Nat → Int32)))
def F_Big_subtractFrom (R : Int32) (R2 : Int32) (t0_0 : Int32) (t0_1 : Int32) (t1_0 : (Nat → Int32)) (t2_0 : Int32) (t2_1 : Int32) (t3_0 : (Nat → Int32)) : Int32 × Int32 × (Nat → Int32) := F_Big_subtractFrom_L18 R R2 t0_0 t0_1 t1_0 t2_0 t2_1 t3_0 (if R < t2_0 then R else t2_0 : Int32) ((220 - (0 : Int32).toInt).toNat + 1) 0 0 t1_0
set_option maxRecDepth 100000 in
set_option maxHeartbeats 4000000 in
theorem X_Big_subtractFrom (l : Launch) (D : va_G) (g : Nat → ClassId) (q : Nat → Nat) (ws : va_W) (k1 : Nat) (R : Int32) (hB1 : q_isBig (nsh g q) g q k1 R) (zk1 : (10 ≤ k1 ∧ k1 ≤ 32) ∨ 66 ≤ k1) (k2 : Nat) (R2 : Int32) (hB2 : q_isBig (nsh g q) g q k2 R2) (zk2 : (10 ≤ k2 ∧ k2 ≤ 32) ∨ 66 ≤ k2) (ne_k1_k2 : k1 ≠ k2) (hI : q_I (nsh g q) q ws) (t0_0 : Int32) (t0_1 : Int32) (hT0 : ws[k1]? = (some (q k1, .inr (2, [.ref (q (k1 + 1)), .int t0_0, .int t0_1])) : Option (Nat × va_E))) (t1_0 : (Nat → Int32)) (hT1 : ws[k1 + 1]? = (some (q (k1 + 1), .inl (g 0, R.toNatClampNeg, .inl t1_0)) : Option (Nat × va_E))) (t2_0 : Int32) (t2_1 : Int32) (hT2 : ws[k2]? = (some (q k2, .inr (2, [.ref (q (k2 + 1)), .int t2_0, .int t2_1])) : Option (Nat × va_E))) (t3_0 : (Nat → Int32)) (hT3 : ws[k2 + 1]? = (some (q (k2 + 1), .inl (g 0, R2.toNatClampNeg, .inl t3_0)) : Option (Nat × va_E))) : q_mV l y_Big_subtractFrom prog_2_method_25_code 6 2 0 0 D g [.ref (q k1), .ref (q k2)] ws (fun u => q_I (nsh g q) q u ∧ q_un ws u [k1, k1 + 1] ∧ ∃ (u0_0 : Int32) (u0_1 : Int32) (u1_0 : (Nat → Int32)), u[k1]? = (some (q k1, .inr (2, [.ref (q (k1 + 1)), .int u0_0, .int u0_1])) : Option (Nat × va_E)) ∧ u[k1 + 1]? = (some (q (k1 + 1), .inl (g 0, R.toNatClampNeg, .inl u1_0)) : Option (Nat × va_E)) ∧ (0 ≤ u0_1.toInt) ∧ (u0_0.toInt ≤ t2_0.toInt) ∧ (u0_0.toInt ≤ R.toInt) ∧ (u0_1.toInt ≤ t0_1.toInt) ∧ (u0_1.toInt ≤ u0_0.toInt) ∧ (u0_0, u0_1, u1_0) = (F_Big_subtractFrom R R2 t0_0 t0_1 t1_0 t2_0 t2_1 t3_0)) := by
  intro sz
  refine q_into (by decide) (Nat.le_of_ble_eq_true rfl) ?_
  intro p e s m below meth c ls hsz C0 V hl
  have hx := C0.1
  have hb := C0.2.1
  have hfk10 : q_F (0 ≤ R.toInt ∧ R.toInt ≤ 220) := hB1.2.2
  have hfk20 : q_F (0 ≤ R2.toInt ∧ R2.toInt ≤ 220) := hB2.2.2
  have btt0_1 := (q_bigW hI hB1 hT0).2
  replace btt0_1 : q_F (0 ≤ t0_1.toInt ∧ t0_1.toInt ≤ 1) := btt0_1
  have btt2_0 := (q_bigW hI hB2 hT2).1
  replace btt2_0 : q_F (0 ≤ t2_0.toInt ∧ t2_0.toInt ≤ R2.toInt) := btt2_0
  have hF : q_un ws ws [k1, k1 + 1] := q_u0
  have hl : lv_has ls 6 [(0, .ref (q k1)), (1, .ref (q k2))] := hl
  refine lv_aload_n hx hb d_2_25_0 rfl (lv_at hl 1 rfl) ?_
  refine q_get (ci := 2) (j := 1) (v := .int t2_0) C0 V i_Big rfl rfl hT2 (by decide) w_85 rfl d_2_25_1 ?_
  refine lv_aload_n hx hb d_2_25_4 rfl (lv_at hl 0 rfl) ?_
  refine q_get (ci := 2) (j := 0) (v := .ref (q (k1 + 1))) C0 V i_Big rfl rfl hT0 (by decide) w_84 rfl d_2_25_5 ?_
  refine q_alen (t := 0) (v := R) C0 V hT1 rfl (s_len (by first | with_reducible exact (q_fe hfk10).2 | with_reducible exact (q_fe hfk10).1 | (have t1 : 0 ≤ R.toInt ∧ R.toInt ≤ 220 := hfk10; omega))) d_2_25_8 ?_
  refine q_min C0 hl.1 rfl w_773 w_774 w_7 w_775 ⟨Nat.le_of_ble_eq_true rfl, Nat.le_of_ble_eq_true rfl⟩ ⟨Nat.le_of_ble_eq_true rfl, Nat.le_of_ble_eq_true rfl⟩ d_2_25_9 ?_
  obtain ⟨a17, e18⟩ := q_nm (if R < t2_0 then R else t2_0 : Int32)
  refine q_ti (v := a17) e18 ?_
  have b19 : q_F (a17.toInt ≤ t2_0.toInt ∧ a17.toInt ≤ R.toInt ∧ (a17.toInt = t2_0.toInt ∨ a17.toInt = R.toInt)) := (by rw [← e18]; show (if R < t2_0 then R else t2_0 : Int32).toInt ≤ t2_0.toInt ∧ (if R < t2_0 then R else t2_0 : Int32).toInt ≤ R.toInt ∧ ((if R < t2_0 then R else t2_0 : Int32).toInt = t2_0.toInt ∨ (if R < t2_0 then R else t2_0 : Int32).toInt = R.toInt); exact s_min (a := t2_0) (b := R))
  refine lv_istore_n (lv' := [(2, .int a17), (0, .ref (q k1)), (1, .ref (q k2))]) hx hb d_2_25_12 rfl hl (by decide) rfl (fun ls hl => ?_)
  refine lv_iconst (v := 0) hx hb d_2_25_13 (by decide) ?_
  refine lv_istore_n (lv' := [(3, .int 0), (2, .int a17), (0, .ref (q k1)), (1, .ref (q k2))]) hx hb d_2_25_14 rfl hl (by decide) rfl (fun ls hl => ?_)
  refine lv_iconst (v := 0) hx hb d_2_25_15 (by decide) ?_
  refine lv_istore (lv' := [(4, .int 0), (3, .int 0), (2, .int a17), (0, .ref (q k1)), (1, .ref (q k2))]) hx hb d_2_25_16 hl (by decide) rfl (fun ls hl => ?_)
  refine q_loop (X := Int32 × Int32 × (Nat → Int32)) (fun z H locs ls w31 => q_F (0 ≤ z.2.1.toInt) ∧ q_F (z.2.1.toInt ≤ 1) ∧ q_F (z.1.toInt ≤ R.toInt) ∧ q_F (z.1.toInt ≤ t2_0.toInt) ∧ q_F (z.2.1.toInt ≤ z.1.toInt) ∧ q_Wd D g (va_A ws sz) s w31 H locs ∧ lv_has ls 6 [(4, .int z.1), (3, .int z.2.1), (2, .int a17), (0, .ref (q k1)), (1, .ref (q k2))] ∧ q_I (nsh g q) q w31 ∧ q_un ws w31 [k1, k1 + 1] ∧ w31[k1]? = (some (q k1, .inr (2, [.ref (q (k1 + 1)), .int t0_0, .int t0_1])) : Option (Nat × va_E)) ∧ w31[k1 + 1]? = (some (q (k1 + 1), .inl (g 0, R.toNatClampNeg, .inl z.2.2)) : Option (Nat × va_E)) ∧ w31[k2]? = (some (q k2, .inr (2, [.ref (q (k2 + 1)), .int t2_0, .int t2_1])) : Option (Nat × va_E)) ∧ w31[k2 + 1]? = (some (q (k2 + 1), .inl (g 0, R2.toNatClampNeg, .inl t3_0)) : Option (Nat × va_E)) ∧ (∃ n, (220 - z.1.toInt).toNat < n ∧ F_Big_subtractFrom_L18 R R2 t0_0 t0_1 t1_0 t2_0 t2_1 t3_0 a17 n z.1 z.2.1 z.2.2 = (F_Big_subtractFrom R R2 t0_0 t0_1 t1_0 t2_0 t2_1 t3_0))) (fun z => (220 - z.1.toInt).toNat) ?_ ((0 : Int32), (0 : Int32), (t1_0 : (Nat → Int32))) _ _ _ ws ⟨(show q_F (0 ≤ 0) from (show 0 ≤ 0 from by omega)), (show q_F (0 ≤ 1) from (show 0 ≤ 1 from by omega)), (show q_F (0 ≤ R.toInt) from (show 0 ≤ R.toInt from by have t1 : 0 ≤ R.toInt ∧ R.toInt ≤ 220 := hfk10; omega)), (show q_F (0 ≤ t2_0.toInt) from (show 0 ≤ t2_0.toInt from by have t1 : 0 ≤ t2_0.toInt ∧ t2_0.toInt ≤ R2.toInt := btt2_0; omega)), (show q_F (0 ≤ 0) from (show 0 ≤ 0 from by omega)), V, q_lw hl (q_lw1 0 rfl (q_lw1 1 rfl (q_lw1 2 rfl (q_lw1 3 rfl (q_lw1 4 rfl q_lw0))))), hI, hF, hT0, hT1, hT2, hT3, ⟨((220 - (0 : Int32).toInt).toNat + 1), Nat.lt_succ_self _, (show F_Big_subtractFrom_L18 R R2 t0_0 t0_1 t1_0 t2_0 t2_1 t3_0 a17 ((220 - (0 : Int32).toInt).toNat + 1) 0 0 t1_0 = (F_Big_subtractFrom R R2 t0_0 t0_1 t1_0 t2_0 t2_1 t3_0) from (by subst e18; rw [F_Big_subtractFrom.eq_1]))⟩⟩
  rintro ⟨lx22, lx23, lx24⟩ H locs ls w31 ⟨i25, i26, i27, i28, i29, V, hl, hI, hF, hO32, hO33, hO34, hO35, ⟨fu37, hf38, hR36⟩⟩ ih30
  obtain ⟨fm39, rfl⟩ : ∃ m, fu37 = m + 1 := ⟨fu37 - 1, by omega⟩
  replace i25 : q_F (0 ≤ lx23.toInt) := i25
  clear i26
  replace i27 : q_F (lx22.toInt ≤ R.toInt) := i27
  clear i28
  replace i29 : q_F (lx23.toInt ≤ lx22.toInt) := i29
  replace hl : lv_has ls 6 [(4, .int lx22), (3, .int lx23), (2, .int a17), (0, .ref (q k1)), (1, .ref (q k2))] := hl
  replace hO32 : w31[k1]? = (some (q k1, .inr (2, [.ref (q (k1 + 1)), .int t0_0, .int t0_1])) : Option (Nat × va_E)) := hO32
  replace hO33 : w31[k1 + 1]? = (some (q (k1 + 1), .inl (g 0, R.toNatClampNeg, .inl lx24)) : Option (Nat × va_E)) := hO33
  replace hO34 : w31[k2]? = (some (q k2, .inr (2, [.ref (q (k2 + 1)), .int t2_0, .int t2_1])) : Option (Nat × va_E)) := hO34
  replace hO35 : w31[k2 + 1]? = (some (q (k2 + 1), .inl (g 0, R2.toNatClampNeg, .inl t3_0)) : Option (Nat × va_E)) := hO35
  refine lv_iload hx hb d_2_25_18 (lv_at hl 0 rfl) ?_
  refine lv_iload_n hx hb d_2_25_20 rfl (lv_at hl 2 rfl) ?_
  refine lv_icmp_ge (tgt := 66) hx hb d_2_25_21 (by decide) (fun c40 => ?_) (fun c40 => ?_)
  ·
    refine lv_aload_n hx hb d_2_25_66 rfl (lv_at hl 3 rfl) ?_
    refine lv_iload_n hx hb d_2_25_67 rfl (lv_at hl 2 rfl) ?_
    have ne44 := q_df hO35 hO32
    refine q_put (ci := 2) (j := 1) (v := .int a17) (ty := .int) C0 V i_Big o_Big n_Big rfl rfl hO32 (by decide) w_85 rfl rfl rfl rfl (Nat.le_of_ble_eq_true rfl) d_2_25_68 (fun H locs w42 hu43 hO32 V => ?_)
    replace hO32 : w42[k1]? = (some (q k1, .inr (2, [.ref (q (k1 + 1)), .int a17, .int t0_1])) : Option (Nat × va_E)) := hO32
    replace hI := q_bigO' hI hB1 hu43 hO32 ⟨(by have t1 : 0 ≤ R.toInt ∧ R.toInt ≤ 220 := hfk10; have t2 : 0 ≤ t2_0.toInt ∧ t2_0.toInt ≤ R2.toInt := btt2_0; have t3 : a17.toInt ≤ t2_0.toInt ∧ a17.toInt ≤ R.toInt ∧ (a17.toInt = t2_0.toInt ∨ a17.toInt = R.toInt) := b19; omega), (by have t1 : a17.toInt ≤ t2_0.toInt ∧ a17.toInt ≤ R.toInt ∧ (a17.toInt = t2_0.toInt ∨ a17.toInt = R.toInt) := b19; omega)⟩ (by first | with_reducible exact q_fe btt0_1 | exact ⟨(by have t1 : 0 ≤ t0_1.toInt ∧ t0_1.toInt ≤ 1 := btt0_1; omega), (by have t1 : 0 ≤ t0_1.toInt ∧ t0_1.toInt ≤ 1 := btt0_1; omega)⟩)
    replace hO33 := (hu43 _ (by omega)).trans hO33
    replace hO35 := (hu43 _ ne44).trans hO35
    replace hF := q_us hF hu43 (by simp)
    refine lv_aload_n hx hb d_2_25_71 rfl (lv_at hl 3 rfl) ?_
    have ne45 := q_df hO35 hO32
    refine q_gov V (q_runV (As := []) (rest := []) (d := 1) (mc := 0) (ms := 0) (ci := 2) C0 V rfl LV_Big_36 (X_Big_trim l D g q w42 k1 R hB1 zk1  hI a17 t0_1 hO32 lx24 hO33  _) rfl rfl hO32 rfl hl.1 rfl (Nat.le_of_ble_eq_true rfl) ⟨by decide, by decide⟩ ⟨Nat.le_of_ble_eq_true rfl, Nat.le_of_ble_eq_true rfl⟩ d_2_25_72) (fun u46 H locs hp47 V => ?_)
    obtain ⟨hI, hZ9⟩ := hp47
    obtain ⟨hu56, hZ9⟩ := hZ9
    obtain ⟨y49, hZ9⟩ := hZ9
    obtain ⟨y50, hZ9⟩ := hZ9
    obtain ⟨hO48, hZ9⟩ := hZ9
    obtain ⟨b51, hZ9⟩ := hZ9
    obtain ⟨b52, hZ9⟩ := hZ9
    obtain ⟨b53, hZ9⟩ := hZ9
    obtain ⟨b54, hE55⟩ := hZ9
    replace hO48 : u46[k1]? = (some (q k1, .inr (2, [.ref (q (k1 + 1)), .int y49, .int y50])) : Option (Nat × va_E)) := hO48
    have e57 : y49 = (F_Big_trim R a17 t0_1 lx24).1 := congrArg (fun z => z.1) hE55
    have e58 : y50 = (F_Big_trim R a17 t0_1 lx24).2 := congrArg (fun z => z.2) hE55
    replace b51 : q_F (0 ≤ y50.toInt) := b51
    replace b52 : q_F (y49.toInt ≤ a17.toInt) := b52
    replace b53 : q_F (y50.toInt ≤ t0_1.toInt) := b53
    replace b54 : q_F (y50.toInt ≤ y49.toInt) := b54
    replace hO33 := (hu56 _ (by have z0 := zk1; simp only [List.mem_cons, List.not_mem_nil, or_false, not_or]; omega)).trans hO33
    replace hF := q_uc hF hu56 (by simp)
    exact q_retv C0 V (⟨hI, hF, y49, y50, lx24, hO48, hO33, (show 0 ≤ y50.toInt from (by first | with_reducible exact q_fe b51 | (have t1 : 0 ≤ y50.toInt := b51; omega))), (show y49.toInt ≤ t2_0.toInt from (by have t1 : a17.toInt ≤ t2_0.toInt ∧ a17.toInt ≤ R.toInt ∧ (a17.toInt = t2_0.toInt ∨ a17.toInt = R.toInt) := b19; have t2 : y49.toInt ≤ a17.toInt := b52; omega)), (show y49.toInt ≤ R.toInt from (by have t1 : a17.toInt ≤ t2_0.toInt ∧ a17.toInt ≤ R.toInt ∧ (a17.toInt = t2_0.toInt ∨ a17.toInt = R.toInt) := b19; have t2 : y49.toInt ≤ a17.toInt := b52; omega)), (show y50.toInt ≤ t0_1.toInt from (by first | with_reducible exact q_fe b53 | (have t1 : y50.toInt ≤ t0_1.toInt := b53; omega))), (show y50.toInt ≤ y49.toInt from (by first | with_reducible exact q_fe b54 | (have t1 : y50.toInt ≤ y49.toInt := b54; omega))), (show (y49, y50, lx24) = (F_Big_subtractFrom R R2 t0_0 t0_1 t1_0 t2_0 t2_1 t3_0) from Eq.trans (by subst e18; subst e57; subst e58; rw [F_Big_subtractFrom_L18.eq_2, if_pos c40]) hR36)⟩) d_2_25_75
  ·
    have b59 : q_F (lx22.toInt < a17.toInt) := (q_nleI c40)
    refine lv_aload_n hx hb d_2_25_24 rfl (lv_at hl 4 rfl) ?_
    refine q_get (ci := 2) (j := 0) (v := .ref (q (k2 + 1))) C0 V i_Big rfl rfl hO34 (by decide) w_84 rfl d_2_25_25 ?_
    refine lv_iload hx hb d_2_25_28 (lv_at hl 0 rfl) ?_
    refine q_iald C0 V hO35 (q_ix (x := lx22.toInt) rfl (by have t1 : 0 ≤ lx23.toInt := i25; have t2 : lx23.toInt ≤ lx22.toInt := i29; omega) (by have t1 : 0 ≤ lx23.toInt := i25; have t2 : lx23.toInt ≤ lx22.toInt := i29; have t3 : 0 ≤ t2_0.toInt ∧ t2_0.toInt ≤ R2.toInt := btt2_0; have t4 : a17.toInt ≤ t2_0.toInt ∧ a17.toInt ≤ R.toInt ∧ (a17.toInt = t2_0.toInt ∨ a17.toInt = R.toInt) := b19; have t5 : lx22.toInt < a17.toInt := b59; have e9 := q_clI (i := R2) rfl (by first | with_reducible exact (q_fe hfk20).2 | with_reducible exact (q_fe hfk20).1 | (have t1 : 0 ≤ R2.toInt ∧ R2.toInt ≤ 220 := hfk20; omega)); omega)) d_2_25_30 ?_
    obtain ⟨a60, e61⟩ := q_nm (t3_0 lx22.toNatClampNeg : Int32)
    refine q_ti (v := a60) e61 ?_
    refine lv_aload_n hx hb d_2_25_31 rfl (lv_at hl 3 rfl) ?_
    refine lv_iload hx hb d_2_25_32 (lv_at hl 0 rfl) ?_
    refine q_goi V (q_runV (As := [.int lx22]) (rest := [.int a60]) (d := 1) (mc := 0) (ms := 0) (ci := 2) C0 V rfl LV_Big_49 (X_Big_limb l D g q w31 k1 R hB1 zk1 lx22 hI t0_0 t0_1 hO32 lx24 hO33  _) rfl rfl hO32 rfl hl.1 rfl (Nat.le_of_ble_eq_true rfl) ⟨by decide, by decide⟩ ⟨Nat.le_of_ble_eq_true rfl, Nat.le_of_ble_eq_true rfl⟩ d_2_25_34) (fun a64 u62 H locs hp63 V => ?_)
    obtain ⟨rfl, hE65⟩ := hp63
    have e66 : a64 = (F_Big_limb R lx22 t0_0 t0_1 lx24) := hE65
    refine lv_isub hx hb d_2_25_37 ?_
    obtain ⟨a67, e68⟩ := q_nm (a60 - a64 : Int32)
    refine q_ti (v := a67) e68 ?_
    refine lv_iload_n hx hb d_2_25_38 rfl (lv_at hl 1 rfl) ?_
    refine lv_isub hx hb d_2_25_39 ?_
    obtain ⟨a69, e70⟩ := q_nm (a67 - lx23 : Int32)
    refine q_ti (v := a69) e70 ?_
    refine lv_istore (lv' := [(5, .int a69), (4, .int lx22), (3, .int lx23), (2, .int a17), (0, .ref (q k1)), (1, .ref (q k2))]) hx hb d_2_25_40 hl (by decide) rfl (fun ls hl => ?_)
    refine lv_aload_n hx hb d_2_25_42 rfl (lv_at hl 4 rfl) ?_
    refine q_get (ci := 2) (j := 0) (v := .ref (q (k1 + 1))) C0 V i_Big rfl rfl hO32 (by decide) w_84 rfl d_2_25_43 ?_
    refine lv_iload hx hb d_2_25_46 (lv_at hl 1 rfl) ?_
    refine lv_iload hx hb d_2_25_48 (lv_at hl 0 rfl) ?_
    refine q_ldc C0 rfl w_809 d_2_25_50 ?_
    refine lv_iand hx hb d_2_25_52 ?_
    obtain ⟨a71, e72⟩ := q_nm (a69 &&& 2147483647 : Int32)
    refine q_ti (v := a71) e72 ?_
    have ne76 := q_df hO33 hO34
    refine q_iast C0 V hO33 (q_ix (x := lx22.toInt) rfl (by have t1 : 0 ≤ lx23.toInt := i25; have t2 : lx23.toInt ≤ lx22.toInt := i29; omega) (by have t1 : 0 ≤ lx23.toInt := i25; have t2 : lx23.toInt ≤ lx22.toInt := i29; have t3 : a17.toInt ≤ t2_0.toInt ∧ a17.toInt ≤ R.toInt ∧ (a17.toInt = t2_0.toInt ∨ a17.toInt = R.toInt) := b19; have t4 : lx22.toInt < a17.toInt := b59; have e9 := q_clI (i := R) rfl (by first | with_reducible exact (q_fe hfk10).2 | with_reducible exact (q_fe hfk10).1 | (have t1 : 0 ≤ R.toInt ∧ R.toInt ≤ 220 := hfk10; omega)); omega)) d_2_25_53 (fun H locs w74 hu75 hO33 V => ?_)
    replace hI := q_bigA' hI hB1 hu75 hO33 (q_updB (fun _ => s_bnd) s_bnd)
    replace hO32 := (hu75 _ (by omega)).trans hO32
    replace hO34 := (hu75 _ (Ne.symm ne76)).trans hO34
    replace hO35 := (hu75 _ (by have z := ne_k1_k2; omega)).trans hO35
    replace hF := q_us hF hu75 (by simp)
    obtain ⟨f77, e78⟩ := q_nm (upd lx24 lx22.toNatClampNeg a71 : (Nat → Int32))
    rw [e78] at hO33
    refine lv_iload hx hb d_2_25_54 (lv_at hl 0 rfl) ?_
    refine lv_bipush (v := 31) hx hb d_2_25_56 (by decide) ?_
    refine lv_iushr hx hb d_2_25_58 rfl ?_
    obtain ⟨a79, e80⟩ := q_nm ((a69.toUInt32 >>> ((31 : Int32).toUInt32 &&& Int32.toUInt32 31)).toInt32 : Int32)
    refine q_ti (v := a79) e80 ?_
    have b81 : q_F (0 ≤ a79.toInt ∧ a79.toInt ≤ 1) := (by rw [← e80]; show 0 ≤ ((a69.toUInt32 >>> ((31 : Int32).toUInt32 &&& Int32.toUInt32 31)).toInt32 : Int32).toInt ∧ ((a69.toUInt32 >>> ((31 : Int32).toUInt32 &&& Int32.toUInt32 31)).toInt32 : Int32).toInt ≤ 1; exact (by have z := s_ushr (x := a69) (c := 31) 31 (by decide) (by decide); omega))
    refine lv_istore_n (lv' := [(3, .int a79), (5, .int a69), (4, .int lx22), (2, .int a17), (0, .ref (q k1)), (1, .ref (q k2))]) hx hb d_2_25_59 rfl hl (by decide) rfl (fun ls hl => ?_)
    obtain ⟨a82, e83⟩ := q_nm (lx22 + 1 : Int32)
    have b84 : q_F (a82.toInt = lx22.toInt + 1) := (by rw [← e83]; exact q_addI (y := 1) rfl (by decide) (by have _ := q_lo32 (x := lx22); have _ := q_hi32 (x := lx22); have t1 : lx22.toInt < a17.toInt := b59; have _ := q_lo32 (x := a17); have _ := q_hi32 (x := a17); omega) (by have _ := q_lo32 (x := lx22); have _ := q_hi32 (x := lx22); have t1 : lx22.toInt < a17.toInt := b59; have _ := q_lo32 (x := a17); have _ := q_hi32 (x := a17); omega))
    refine lv_iinc (v := a82) (lv' := [(4, .int a82), (3, .int a79), (5, .int a69), (2, .int a17), (0, .ref (q k1)), (1, .ref (q k2))]) hx hb d_2_25_60 hl (k := 2) rfl (e83) (by decide) rfl (fun ls hl => ?_)
    refine lv_goto (tgt := 18) hx hb d_2_25_63 (by decide) ?_
    exact ih30 ((a82 : Int32), (a79 : Int32), (f77 : (Nat → Int32))) _ _ _ _ (show (220 - a82.toInt).toNat < (220 - lx22.toInt).toNat from by have t1 : a82.toInt = lx22.toInt + 1 := b84; have t2 : 0 ≤ R.toInt ∧ R.toInt ≤ 220 := hfk10; have t3 : lx22.toInt ≤ R.toInt := i27; have t4 : a17.toInt ≤ t2_0.toInt ∧ a17.toInt ≤ R.toInt ∧ (a17.toInt = t2_0.toInt ∨ a17.toInt = R.toInt) := b19; have t5 : lx22.toInt < a17.toInt := b59; omega) ⟨(show q_F (0 ≤ a79.toInt) from (show 0 ≤ a79.toInt from by have t1 : 0 ≤ a79.toInt ∧ a79.toInt ≤ 1 := b81; omega)), (show q_F (a79.toInt ≤ 1) from (show a79.toInt ≤ 1 from by have t1 : 0 ≤ a79.toInt ∧ a79.toInt ≤ 1 := b81; omega)), (show q_F (a82.toInt ≤ R.toInt) from (show a82.toInt ≤ R.toInt from by have t1 : a17.toInt ≤ t2_0.toInt ∧ a17.toInt ≤ R.toInt ∧ (a17.toInt = t2_0.toInt ∨ a17.toInt = R.toInt) := b19; have t2 : lx22.toInt < a17.toInt := b59; have t3 : a82.toInt = lx22.toInt + 1 := b84; omega)), (show q_F (a82.toInt ≤ t2_0.toInt) from (show a82.toInt ≤ t2_0.toInt from by have t1 : a17.toInt ≤ t2_0.toInt ∧ a17.toInt ≤ R.toInt ∧ (a17.toInt = t2_0.toInt ∨ a17.toInt = R.toInt) := b19; have t2 : lx22.toInt < a17.toInt := b59; have t3 : a82.toInt = lx22.toInt + 1 := b84; omega)), (show q_F (a79.toInt ≤ a82.toInt) from (show a79.toInt ≤ a82.toInt from by have t1 : 0 ≤ lx23.toInt := i25; have t2 : lx23.toInt ≤ lx22.toInt := i29; have t3 : 0 ≤ a79.toInt ∧ a79.toInt ≤ 1 := b81; have t4 : a82.toInt = lx22.toInt + 1 := b84; omega)), V, q_lw hl (q_lw1 0 rfl (q_lw1 1 rfl (q_lw1 3 rfl (q_lw1 4 rfl (q_lw1 5 rfl q_lw0))))), hI, hF, hO32, hO33, hO34, hO35, ⟨fm39, Nat.lt_of_lt_of_le (show (220 - a82.toInt).toNat < (220 - lx22.toInt).toNat from by have t1 : a82.toInt = lx22.toInt + 1 := b84; have t2 : 0 ≤ R.toInt ∧ R.toInt ≤ 220 := hfk10; have t3 : lx22.toInt ≤ R.toInt := i27; have t4 : a17.toInt ≤ t2_0.toInt ∧ a17.toInt ≤ R.toInt ∧ (a17.toInt = t2_0.toInt ∨ a17.toInt = R.toInt) := b19; have t5 : lx22.toInt < a17.toInt := b59; omega) (Nat.le_of_lt_succ hf38), (show F_Big_subtractFrom_L18 R R2 t0_0 t0_1 t1_0 t2_0 t2_1 t3_0 a17 fm39 a82 a79 f77 = (F_Big_subtractFrom R R2 t0_0 t0_1 t1_0 t2_0 t2_1 t3_0) from Eq.trans (by subst e18; subst e61; subst e66; subst e68; subst e70; subst e72; subst e78; subst e80; subst e83; rw [F_Big_subtractFrom_L18.eq_2, if_neg c40]) hR36)⟩⟩
def F_Big_addSigned_J13 (R : Int32) (R2 : Int32) (x3 : Int32) (t0_0 : Int32) (t0_1 : Int32) (t1_0 : (Nat → Int32)) (t2_0 : Int32) (t2_1 : Int32) (t3_0 : (Nat → Int32)) (lx17 : Int32) : Int32 × Int32 × (Nat → Int32) := if t2_0 = (0 : Int32) then ((t0_0, t0_1, t1_0)) else (if t0_0 = (0 : Int32) then ((((F_Big_addSize R R2 t0_0 t0_1 t1_0 t2_0 t2_1 t3_0).1 : Int32), lx17, ((F_Big_addSize R R2 t0_0 t0_1 t1_0 t2_0 t2_1 t3_0).2.2 : (Nat → Int32)))) else (if t0_1 = lx17 then ((((F_Big_addSize R R2 t0_0 t0_1 t1_0 t2_0 t2_1 t3_0).1 : Int32), lx17, ((F_Big_addSize R R2 t0_0 t0_1 t1_0 t2_0 t2_1 t3_0).2.2 : (Nat → Int32)))) else (if ((F_Big_compareSize R R2 t0_0 t0_1 t1_0 t2_0 t2_1 t3_0) : Int32) < (0 : Int32) then ((((F_Big_subtractFrom R R2 t0_0 t0_1 t1_0 t2_0 t2_1 t3_0).1 : Int32), lx17, ((F_Big_subtractFrom R R2 t0_0 t0_1 t1_0 t2_0 t2_1 t3_0).2.2 : (Nat → Int32)))) else ((((F_Big_subtractSize R R2 t0_0 t0_1 t1_0 t2_0 t2_1 t3_0).1 : Int32), ((F_Big_subtractSize R R2 t0_0 t0_1 t1_0 t2_0 t2_1 t3_0).2.1 : Int32), ((F_Big_subtractSize R R2 t0_0 t0_1 t1_0 t2_0 t2_1 t3_0).2.2 : (Nat → Int32)))))))
def F_Big_addSigned (R : Int32) (R2 : Int32) (x3 : Int32) (t0_0 : Int32) (t0_1 : Int32) (t1_0 : (Nat → Int32)) (t2_0 : Int32) (t2_1 : Int32) (t3_0 : (Nat → Int32)) : Int32 × Int32 × (Nat → Int32) := if t2_1 = x3 then (F_Big_addSigned_J13 R R2 x3 t0_0 t0_1 t1_0 t2_0 t2_1 t3_0 0) else (F_Big_addSigned_J13 R R2 x3 t0_0 t0_1 t1_0 t2_0 t2_1 t3_0 1)
set_option maxRecDepth 100000 in
set_option maxHeartbeats 4000000 in
theorem X_Big_addSigned (l : Launch) (D : va_G) (g : Nat → ClassId) (q : Nat → Nat) (ws : va_W) (k1 : Nat) (R : Int32) (hB1 : q_isBig (nsh g q) g q k1 R) (zk1 : (10 ≤ k1 ∧ k1 ≤ 32) ∨ 66 ≤ k1) (k2 : Nat) (R2 : Int32) (hB2 : q_isBig (nsh g q) g q k2 R2) (zk2 : (10 ≤ k2 ∧ k2 ≤ 32) ∨ 66 ≤ k2) (x3 : Int32) (ne_k1_k2 : k1 ≠ k2) (hI : q_I (nsh g q) q ws) (t0_0 : Int32) (t0_1 : Int32) (hT0 : ws[k1]? = (some (q k1, .inr (2, [.ref (q (k1 + 1)), .int t0_0, .int t0_1])) : Option (Nat × va_E))) (t1_0 : (Nat → Int32)) (hT1 : ws[k1 + 1]? = (some (q (k1 + 1), .inl (g 0, R.toNatClampNeg, .inl t1_0)) : Option (Nat × va_E))) (t2_0 : Int32) (t2_1 : Int32) (hT2 : ws[k2]? = (some (q k2, .inr (2, [.ref (q (k2 + 1)), .int t2_0, .int t2_1])) : Option (Nat × va_E))) (t3_0 : (Nat → Int32)) (hT3 : ws[k2 + 1]? = (some (q (k2 + 1), .inl (g 0, R2.toNatClampNeg, .inl t3_0)) : Option (Nat × va_E))) (hzx3 : 0 ≤ x3.toInt ∧ x3.toInt ≤ 1) : q_mV l y_Big_addSigned prog_2_method_22_code 4 3 0 0 D g [.ref (q k1), .ref (q k2), .int x3] ws (fun u => q_I (nsh g q) q u ∧ q_un ws u [k1, k1 + 1] ∧ ∃ (u0_0 : Int32) (u0_1 : Int32) (u1_0 : (Nat → Int32)), u[k1]? = (some (q k1, .inr (2, [.ref (q (k1 + 1)), .int u0_0, .int u0_1])) : Option (Nat × va_E)) ∧ u[k1 + 1]? = (some (q (k1 + 1), .inl (g 0, R.toNatClampNeg, .inl u1_0)) : Option (Nat × va_E)) ∧ (0 ≤ u0_0.toInt) ∧ (0 ≤ u0_1.toInt) ∧ (u0_1.toInt ≤ 1) ∧ (u0_0.toInt ≤ R.toInt) ∧ (u0_0, u0_1, u1_0) = (F_Big_addSigned R R2 x3 t0_0 t0_1 t1_0 t2_0 t2_1 t3_0)) := by
  intro sz
  refine q_into (by decide) (Nat.le_of_ble_eq_true rfl) ?_
  intro p e s m below meth c ls hsz C0 V hl
  have hx := C0.1
  have hb := C0.2.1
  clear hzx3
  obtain ⟨btt0_0, btt0_1⟩ := q_bigW hI hB1 hT0
  replace btt0_0 : q_F (0 ≤ t0_0.toInt ∧ t0_0.toInt ≤ R.toInt) := btt0_0
  replace btt0_1 : q_F (0 ≤ t0_1.toInt ∧ t0_1.toInt ≤ 1) := btt0_1
  have btt2_1 := (q_bigW hI hB2 hT2).2
  clear btt2_1
  have hF : q_un ws ws [k1, k1 + 1] := q_u0
  have hl : lv_has ls 4 [(0, .ref (q k1)), (1, .ref (q k2)), (2, .int x3)] := hl
  refine lv_aload_n hx hb d_2_22_0 rfl (lv_at hl 1 rfl) ?_
  refine q_get (ci := 2) (j := 2) (v := .int t2_1) C0 V i_Big rfl rfl hT2 (by decide) w_94 rfl d_2_22_1 ?_
  refine lv_iload_n hx hb d_2_22_4 rfl (lv_at hl 2 rfl) ?_
  refine q_join (X := Int32) (fun z H locs ls _ => q_F (0 ≤ z.toInt) ∧ q_F (z.toInt ≤ 1) ∧ q_Wd D g (va_A ws sz) s ws H locs ∧ lv_has ls 4 [(0, .ref (q k1)), (1, .ref (q k2))] ∧ F_Big_addSigned_J13 R R2 x3 t0_0 t0_1 t1_0 t2_0 t2_1 t3_0 z = (F_Big_addSigned R R2 x3 t0_0 t0_1 t1_0 t2_0 t2_1 t3_0)) (fun z => [.int z]) 13 0 0 ?_ ?_
  ·
    rintro lx17 H locs ls _ ⟨i23, i24, V, hl, hR25⟩
    replace i23 : q_F (0 ≤ lx17.toInt) := i23
    replace i24 : q_F (lx17.toInt ≤ 1) := i24
    replace hl : lv_has ls 4 [(0, .ref (q k1)), (1, .ref (q k2))] := hl
    refine lv_istore_n (lv' := [(3, .int lx17), (0, .ref (q k1)), (1, .ref (q k2))]) hx hb d_2_22_13 rfl hl (by decide) rfl (fun ls hl => ?_)
    refine lv_aload_n hx hb d_2_22_14 rfl (lv_at hl 2 rfl) ?_
    refine q_get (ci := 2) (j := 1) (v := .int t2_0) C0 V i_Big rfl rfl hT2 (by decide) w_85 rfl d_2_22_15 ?_
    refine lv_if_ne (tgt := 22) hx hb d_2_22_18 (by decide) (fun c29 => ?_) (fun c29 => ?_)
    ·
      refine lv_aload_n hx hb d_2_22_22 rfl (lv_at hl 1 rfl) ?_
      refine q_get (ci := 2) (j := 1) (v := .int t0_0) C0 V i_Big rfl rfl hT0 (by decide) w_85 rfl d_2_22_23 ?_
      refine lv_if_eq (tgt := 37) hx hb d_2_22_26 (by decide) (fun c31 => ?_) (fun c31 => ?_)
      ·
        refine lv_aload_n hx hb d_2_22_37 rfl (lv_at hl 1 rfl) ?_
        refine lv_aload_n hx hb d_2_22_38 rfl (lv_at hl 2 rfl) ?_
        have ne33 := q_df hT3 hT0
        have ne34 := q_df hT1 hT2
        refine q_gov V (q_runV (As := [.ref (q k2)]) (rest := []) (d := 2) (mc := 0) (ms := 0) (ci := 2) C0 V rfl LV_Big_82 (X_Big_addSize l D g q ws k1 R hB1 zk1 k2 R2 hB2 zk2  (by have z := ne_k1_k2; omega) hI t0_0 t0_1 hT0 t1_0 hT1 t2_0 t2_1 hT2 t3_0 hT3  _) rfl rfl hT0 rfl hl.1 rfl (Nat.le_of_ble_eq_true rfl) ⟨by decide, by decide⟩ ⟨Nat.le_of_ble_eq_true rfl, Nat.le_of_ble_eq_true rfl⟩ d_2_22_39) (fun u35 H locs hp36 V => ?_)
        obtain ⟨hI, hZ9⟩ := hp36
        obtain ⟨hu47, hZ9⟩ := hZ9
        obtain ⟨y38, hZ9⟩ := hZ9
        obtain ⟨y39, hZ9⟩ := hZ9
        obtain ⟨f40, hZ9⟩ := hZ9
        obtain ⟨hO37, hZ9⟩ := hZ9
        obtain ⟨hA41, hZ9⟩ := hZ9
        obtain ⟨b42, hZ9⟩ := hZ9
        obtain ⟨b43, hZ9⟩ := hZ9
        replace hZ9 := hZ9.2
        obtain ⟨-, hE46⟩ := hZ9
        replace hO37 : u35[k1]? = (some (q k1, .inr (2, [.ref (q (k1 + 1)), .int y38, .int y39])) : Option (Nat × va_E)) := hO37
        replace hA41 : u35[k1 + 1]? = (some (q (k1 + 1), .inl (g 0, R.toNatClampNeg, .inl f40)) : Option (Nat × va_E)) := hA41
        have e48 : y38 = (F_Big_addSize R R2 t0_0 t0_1 t1_0 t2_0 t2_1 t3_0).1 := congrArg (fun z => z.1) hE46
        have e49 : y39 = (F_Big_addSize R R2 t0_0 t0_1 t1_0 t2_0 t2_1 t3_0).2.1 := congrArg (fun z => z.2.1) hE46
        have e50 : f40 = (F_Big_addSize R R2 t0_0 t0_1 t1_0 t2_0 t2_1 t3_0).2.2 := congrArg (fun z => z.2.2) hE46
        replace b42 : q_F (t0_0.toInt ≤ y38.toInt) := b42
        replace b43 : q_F (y38.toInt ≤ R.toInt) := b43
        replace hT3 := (hu47 _ (q_nc ne33 (q_nc (by have z := ne_k1_k2; omega) List.not_mem_nil))).trans hT3
        replace hF := q_uc hF hu47 (by simp)
        refine lv_aload_n hx hb d_2_22_42 rfl (lv_at hl 1 rfl) ?_
        refine lv_iload_n hx hb d_2_22_43 rfl (lv_at hl 0 rfl) ?_
        have ne53 := q_df hT3 hO37
        refine q_put (ci := 2) (j := 2) (v := .int lx17) (ty := .boolean) C0 V i_Big o_Big n_Big rfl rfl hO37 (by decide) w_94 rfl rfl (q_nz01 (q_Ile (x := 0) (y := lx17.toInt) (by decide) rfl (by first | with_reducible exact q_fe i23 | (have t1 : 0 ≤ lx17.toInt := i23; omega))) (q_Ile (x := lx17.toInt) (y := 1) rfl (by decide) (by first | with_reducible exact q_fe i24 | (have t1 : lx17.toInt ≤ 1 := i24; omega)))) (q_fz01 (q_Ile (x := 0) (y := lx17.toInt) (by decide) rfl (by first | with_reducible exact q_fe i23 | (have t1 : 0 ≤ lx17.toInt := i23; omega))) (q_Ile (x := lx17.toInt) (y := 1) rfl (by decide) (by first | with_reducible exact q_fe i24 | (have t1 : lx17.toInt ≤ 1 := i24; omega)))) (Nat.le_of_ble_eq_true rfl) d_2_22_44 (fun H locs w51 hu52 hO37 V => ?_)
        replace hO37 : w51[k1]? = (some (q k1, .inr (2, [.ref (q (k1 + 1)), .int y38, .int lx17])) : Option (Nat × va_E)) := hO37
        replace hI := q_bigO' hI hB1 hu52 hO37 ⟨(by have t1 : 0 ≤ t0_0.toInt ∧ t0_0.toInt ≤ R.toInt := btt0_0; have t2 : t0_0.toInt ≤ y38.toInt := b42; omega), (by first | with_reducible exact q_fe b43 | (have t1 : y38.toInt ≤ R.toInt := b43; omega))⟩ ⟨(by first | with_reducible exact q_fe i23 | (have t1 : 0 ≤ lx17.toInt := i23; omega)), (by first | with_reducible exact q_fe i24 | (have t1 : lx17.toInt ≤ 1 := i24; omega))⟩
        replace hA41 := (hu52 _ (by omega)).trans hA41
        replace hF := q_us hF hu52 (by simp)
        refine lv_goto (tgt := 76) hx hb d_2_22_47 (by decide) ?_
        exact q_retv C0 V (⟨hI, hF, y38, lx17, f40, hO37, hA41, (show 0 ≤ y38.toInt from (by have t1 : 0 ≤ t0_0.toInt ∧ t0_0.toInt ≤ R.toInt := btt0_0; have t2 : t0_0.toInt ≤ y38.toInt := b42; omega)), (show 0 ≤ lx17.toInt from (by first | with_reducible exact q_fe i23 | (have t1 : 0 ≤ lx17.toInt := i23; omega))), (show lx17.toInt ≤ 1 from (by first | with_reducible exact q_fe i24 | (have t1 : lx17.toInt ≤ 1 := i24; omega))), (show y38.toInt ≤ R.toInt from (by first | with_reducible exact q_fe b43 | (have t1 : y38.toInt ≤ R.toInt := b43; omega))), (show (y38, lx17, f40) = (F_Big_addSigned R R2 x3 t0_0 t0_1 t1_0 t2_0 t2_1 t3_0) from Eq.trans (by subst e48; subst e49; subst e50; rw [F_Big_addSigned_J13.eq_1, if_neg c29, if_pos c31]) hR25)⟩) d_2_22_76
      ·
        refine lv_aload_n hx hb d_2_22_29 rfl (lv_at hl 1 rfl) ?_
        refine q_get (ci := 2) (j := 2) (v := .int t0_1) C0 V i_Big rfl rfl hT0 (by decide) w_94 rfl d_2_22_30 ?_
        refine lv_iload_n hx hb d_2_22_33 rfl (lv_at hl 0 rfl) ?_
        refine lv_icmp_ne (tgt := 50) hx hb d_2_22_34 (by decide) (fun c55 => ?_) (fun c55 => ?_)
        ·
          refine lv_aload_n hx hb d_2_22_50 rfl (lv_at hl 1 rfl) ?_
          refine lv_aload_n hx hb d_2_22_51 rfl (lv_at hl 2 rfl) ?_
          refine q_goi V (q_runV (As := [.ref (q k2)]) (rest := []) (d := 2) (mc := 0) (ms := 0) (ci := 2) C0 V rfl LV_Big_78 (X_Big_compareSize l D g q ws k1 R hB1 zk1 k2 R2 hB2 zk2  hI t0_0 t0_1 hT0 t1_0 hT1 t2_0 t2_1 hT2 t3_0 hT3  _) rfl rfl hT0 rfl hl.1 rfl (Nat.le_of_ble_eq_true rfl) ⟨by decide, by decide⟩ ⟨Nat.le_of_ble_eq_true rfl, Nat.le_of_ble_eq_true rfl⟩ d_2_22_52) (fun a59 u57 H locs hp58 V => ?_)
          obtain ⟨rfl, b60, b61, hE62⟩ := hp58
          have e63 : a59 = (F_Big_compareSize R R2 t0_0 t0_1 t1_0 t2_0 t2_1 t3_0) := hE62
          clear b60
          clear b61
          refine lv_if_lt (tgt := 66) hx hb d_2_22_55 (by decide) (fun c64 => ?_) (fun c64 => ?_)
          ·
            refine lv_aload_n hx hb d_2_22_66 rfl (lv_at hl 1 rfl) ?_
            refine lv_aload_n hx hb d_2_22_67 rfl (lv_at hl 2 rfl) ?_
            have ne66 := q_df hT3 hT0
            have ne67 := q_df hT1 hT2
            refine q_gov V (q_runV (As := [.ref (q k2)]) (rest := []) (d := 2) (mc := 0) (ms := 0) (ci := 2) C0 V rfl LV_Big_89 (X_Big_subtractFrom l D g q ws k1 R hB1 zk1 k2 R2 hB2 zk2  (by have z := ne_k1_k2; omega) hI t0_0 t0_1 hT0 t1_0 hT1 t2_0 t2_1 hT2 t3_0 hT3  _) rfl rfl hT0 rfl hl.1 rfl (Nat.le_of_ble_eq_true rfl) ⟨by decide, by decide⟩ ⟨Nat.le_of_ble_eq_true rfl, Nat.le_of_ble_eq_true rfl⟩ d_2_22_68) (fun u68 H locs hp69 V => ?_)
            obtain ⟨hI, hZ9⟩ := hp69
            obtain ⟨hu81, hZ9⟩ := hZ9
            obtain ⟨y71, hZ9⟩ := hZ9
            obtain ⟨y72, hZ9⟩ := hZ9
            obtain ⟨f73, hZ9⟩ := hZ9
            obtain ⟨hO70, hZ9⟩ := hZ9
            obtain ⟨hA74, hZ9⟩ := hZ9
            obtain ⟨b75, hZ9⟩ := hZ9
            replace hZ9 := hZ9.2
            obtain ⟨b77, hZ9⟩ := hZ9
            replace hZ9 := hZ9.2
            obtain ⟨b79, hE80⟩ := hZ9
            replace hO70 : u68[k1]? = (some (q k1, .inr (2, [.ref (q (k1 + 1)), .int y71, .int y72])) : Option (Nat × va_E)) := hO70
            replace hA74 : u68[k1 + 1]? = (some (q (k1 + 1), .inl (g 0, R.toNatClampNeg, .inl f73)) : Option (Nat × va_E)) := hA74
            have e82 : y71 = (F_Big_subtractFrom R R2 t0_0 t0_1 t1_0 t2_0 t2_1 t3_0).1 := congrArg (fun z => z.1) hE80
            have e83 : y72 = (F_Big_subtractFrom R R2 t0_0 t0_1 t1_0 t2_0 t2_1 t3_0).2.1 := congrArg (fun z => z.2.1) hE80
            have e84 : f73 = (F_Big_subtractFrom R R2 t0_0 t0_1 t1_0 t2_0 t2_1 t3_0).2.2 := congrArg (fun z => z.2.2) hE80
            replace b75 : q_F (0 ≤ y72.toInt) := b75
            replace b77 : q_F (y71.toInt ≤ R.toInt) := b77
            replace b79 : q_F (y72.toInt ≤ y71.toInt) := b79
            replace hT3 := (hu81 _ (q_nc ne66 (q_nc (by have z := ne_k1_k2; omega) List.not_mem_nil))).trans hT3
            replace hF := q_uc hF hu81 (by simp)
            refine lv_aload_n hx hb d_2_22_71 rfl (lv_at hl 1 rfl) ?_
            refine lv_iload_n hx hb d_2_22_72 rfl (lv_at hl 0 rfl) ?_
            have ne87 := q_df hT3 hO70
            refine q_put (ci := 2) (j := 2) (v := .int lx17) (ty := .boolean) C0 V i_Big o_Big n_Big rfl rfl hO70 (by decide) w_94 rfl rfl (q_nz01 (q_Ile (x := 0) (y := lx17.toInt) (by decide) rfl (by first | with_reducible exact q_fe i23 | (have t1 : 0 ≤ lx17.toInt := i23; omega))) (q_Ile (x := lx17.toInt) (y := 1) rfl (by decide) (by first | with_reducible exact q_fe i24 | (have t1 : lx17.toInt ≤ 1 := i24; omega)))) (q_fz01 (q_Ile (x := 0) (y := lx17.toInt) (by decide) rfl (by first | with_reducible exact q_fe i23 | (have t1 : 0 ≤ lx17.toInt := i23; omega))) (q_Ile (x := lx17.toInt) (y := 1) rfl (by decide) (by first | with_reducible exact q_fe i24 | (have t1 : lx17.toInt ≤ 1 := i24; omega)))) (Nat.le_of_ble_eq_true rfl) d_2_22_73 (fun H locs w85 hu86 hO70 V => ?_)
            replace hO70 : w85[k1]? = (some (q k1, .inr (2, [.ref (q (k1 + 1)), .int y71, .int lx17])) : Option (Nat × va_E)) := hO70
            replace hI := q_bigO' hI hB1 hu86 hO70 ⟨(by have t1 : 0 ≤ y72.toInt := b75; have t2 : y72.toInt ≤ y71.toInt := b79; omega), (by first | with_reducible exact q_fe b77 | (have t1 : y71.toInt ≤ R.toInt := b77; omega))⟩ ⟨(by first | with_reducible exact q_fe i23 | (have t1 : 0 ≤ lx17.toInt := i23; omega)), (by first | with_reducible exact q_fe i24 | (have t1 : lx17.toInt ≤ 1 := i24; omega))⟩
            replace hA74 := (hu86 _ (by omega)).trans hA74
            replace hF := q_us hF hu86 (by simp)
            exact q_retv C0 V (⟨hI, hF, y71, lx17, f73, hO70, hA74, (show 0 ≤ y71.toInt from (by have t1 : 0 ≤ y72.toInt := b75; have t2 : y72.toInt ≤ y71.toInt := b79; omega)), (show 0 ≤ lx17.toInt from (by first | with_reducible exact q_fe i23 | (have t1 : 0 ≤ lx17.toInt := i23; omega))), (show lx17.toInt ≤ 1 from (by first | with_reducible exact q_fe i24 | (have t1 : lx17.toInt ≤ 1 := i24; omega))), (show y71.toInt ≤ R.toInt from (by first | with_reducible exact q_fe b77 | (have t1 : y71.toInt ≤ R.toInt := b77; omega))), (show (y71, lx17, f73) = (F_Big_addSigned R R2 x3 t0_0 t0_1 t1_0 t2_0 t2_1 t3_0) from Eq.trans (by subst e63; subst e82; subst e83; subst e84; rw [F_Big_addSigned_J13.eq_1, if_neg c29, if_neg c31, if_neg c55, if_pos c64]) hR25)⟩) d_2_22_76
          ·
            refine lv_aload_n hx hb d_2_22_58 rfl (lv_at hl 1 rfl) ?_
            refine lv_aload_n hx hb d_2_22_59 rfl (lv_at hl 2 rfl) ?_
            have ne89 := q_df hT3 hT0
            have ne90 := q_df hT1 hT2
            refine q_gov V (q_runV (As := [.ref (q k2)]) (rest := []) (d := 2) (mc := 0) (ms := 0) (ci := 2) C0 V rfl LV_Big_86 (X_Big_subtractSize l D g q ws k1 R hB1 zk1 k2 R2 hB2 zk2  (by have z := ne_k1_k2; omega) hI t0_0 t0_1 hT0 t1_0 hT1 t2_0 t2_1 hT2 t3_0 hT3  _) rfl rfl hT0 rfl hl.1 rfl (Nat.le_of_ble_eq_true rfl) ⟨by decide, by decide⟩ ⟨Nat.le_of_ble_eq_true rfl, Nat.le_of_ble_eq_true rfl⟩ d_2_22_60) (fun u91 H locs hp92 V => ?_)
            obtain ⟨hI, hZ9⟩ := hp92
            obtain ⟨hu103, hZ9⟩ := hZ9
            obtain ⟨y94, hZ9⟩ := hZ9
            obtain ⟨y95, hZ9⟩ := hZ9
            obtain ⟨f96, hZ9⟩ := hZ9
            obtain ⟨hO93, hZ9⟩ := hZ9
            obtain ⟨hA97, hZ9⟩ := hZ9
            obtain ⟨b98, hZ9⟩ := hZ9
            obtain ⟨b99, hZ9⟩ := hZ9
            obtain ⟨b100, hZ9⟩ := hZ9
            obtain ⟨b101, hE102⟩ := hZ9
            replace hO93 : u91[k1]? = (some (q k1, .inr (2, [.ref (q (k1 + 1)), .int y94, .int y95])) : Option (Nat × va_E)) := hO93
            replace hA97 : u91[k1 + 1]? = (some (q (k1 + 1), .inl (g 0, R.toNatClampNeg, .inl f96)) : Option (Nat × va_E)) := hA97
            have e104 : y94 = (F_Big_subtractSize R R2 t0_0 t0_1 t1_0 t2_0 t2_1 t3_0).1 := congrArg (fun z => z.1) hE102
            have e105 : y95 = (F_Big_subtractSize R R2 t0_0 t0_1 t1_0 t2_0 t2_1 t3_0).2.1 := congrArg (fun z => z.2.1) hE102
            have e106 : f96 = (F_Big_subtractSize R R2 t0_0 t0_1 t1_0 t2_0 t2_1 t3_0).2.2 := congrArg (fun z => z.2.2) hE102
            replace b98 : q_F (0 ≤ y95.toInt) := b98
            replace b99 : q_F (y94.toInt ≤ t0_0.toInt) := b99
            replace b100 : q_F (y95.toInt ≤ t0_1.toInt) := b100
            replace b101 : q_F (y95.toInt ≤ y94.toInt) := b101
            replace hF := q_uc hF hu103 (by simp)
            refine lv_goto (tgt := 76) hx hb d_2_22_63 (by decide) ?_
            exact q_retv C0 V (⟨hI, hF, y94, y95, f96, hO93, hA97, (show 0 ≤ y94.toInt from (by have t1 : 0 ≤ y95.toInt := b98; have t2 : y95.toInt ≤ y94.toInt := b101; omega)), (show 0 ≤ y95.toInt from (by first | with_reducible exact q_fe b98 | (have t1 : 0 ≤ y95.toInt := b98; omega))), (show y95.toInt ≤ 1 from (by have t1 : 0 ≤ t0_1.toInt ∧ t0_1.toInt ≤ 1 := btt0_1; have t2 : y95.toInt ≤ t0_1.toInt := b100; omega)), (show y94.toInt ≤ R.toInt from (by have t1 : 0 ≤ t0_0.toInt ∧ t0_0.toInt ≤ R.toInt := btt0_0; have t2 : y94.toInt ≤ t0_0.toInt := b99; omega)), (show (y94, y95, f96) = (F_Big_addSigned R R2 x3 t0_0 t0_1 t1_0 t2_0 t2_1 t3_0) from Eq.trans (by subst e63; subst e104; subst e105; subst e106; rw [F_Big_addSigned_J13.eq_1, if_neg c29, if_neg c31, if_neg c55, if_neg c64]) hR25)⟩) d_2_22_76
        ·
          refine lv_aload_n hx hb d_2_22_37 rfl (lv_at hl 1 rfl) ?_
          refine lv_aload_n hx hb d_2_22_38 rfl (lv_at hl 2 rfl) ?_
          have ne108 := q_df hT3 hT0
          have ne109 := q_df hT1 hT2
          refine q_gov V (q_runV (As := [.ref (q k2)]) (rest := []) (d := 2) (mc := 0) (ms := 0) (ci := 2) C0 V rfl LV_Big_82 (X_Big_addSize l D g q ws k1 R hB1 zk1 k2 R2 hB2 zk2  (by have z := ne_k1_k2; omega) hI t0_0 t0_1 hT0 t1_0 hT1 t2_0 t2_1 hT2 t3_0 hT3  _) rfl rfl hT0 rfl hl.1 rfl (Nat.le_of_ble_eq_true rfl) ⟨by decide, by decide⟩ ⟨Nat.le_of_ble_eq_true rfl, Nat.le_of_ble_eq_true rfl⟩ d_2_22_39) (fun u110 H locs hp111 V => ?_)
          obtain ⟨hI, hZ9⟩ := hp111
          obtain ⟨hu122, hZ9⟩ := hZ9
          obtain ⟨y113, hZ9⟩ := hZ9
          obtain ⟨y114, hZ9⟩ := hZ9
          obtain ⟨f115, hZ9⟩ := hZ9
          obtain ⟨hO112, hZ9⟩ := hZ9
          obtain ⟨hA116, hZ9⟩ := hZ9
          obtain ⟨b117, hZ9⟩ := hZ9
          obtain ⟨b118, hZ9⟩ := hZ9
          replace hZ9 := hZ9.2
          obtain ⟨-, hE121⟩ := hZ9
          replace hO112 : u110[k1]? = (some (q k1, .inr (2, [.ref (q (k1 + 1)), .int y113, .int y114])) : Option (Nat × va_E)) := hO112
          replace hA116 : u110[k1 + 1]? = (some (q (k1 + 1), .inl (g 0, R.toNatClampNeg, .inl f115)) : Option (Nat × va_E)) := hA116
          have e123 : y113 = (F_Big_addSize R R2 t0_0 t0_1 t1_0 t2_0 t2_1 t3_0).1 := congrArg (fun z => z.1) hE121
          have e124 : y114 = (F_Big_addSize R R2 t0_0 t0_1 t1_0 t2_0 t2_1 t3_0).2.1 := congrArg (fun z => z.2.1) hE121
          have e125 : f115 = (F_Big_addSize R R2 t0_0 t0_1 t1_0 t2_0 t2_1 t3_0).2.2 := congrArg (fun z => z.2.2) hE121
          replace b117 : q_F (t0_0.toInt ≤ y113.toInt) := b117
          replace b118 : q_F (y113.toInt ≤ R.toInt) := b118
          replace hT3 := (hu122 _ (q_nc ne108 (q_nc (by have z := ne_k1_k2; omega) List.not_mem_nil))).trans hT3
          replace hF := q_uc hF hu122 (by simp)
          refine lv_aload_n hx hb d_2_22_42 rfl (lv_at hl 1 rfl) ?_
          refine lv_iload_n hx hb d_2_22_43 rfl (lv_at hl 0 rfl) ?_
          have ne128 := q_df hT3 hO112
          refine q_put (ci := 2) (j := 2) (v := .int lx17) (ty := .boolean) C0 V i_Big o_Big n_Big rfl rfl hO112 (by decide) w_94 rfl rfl (q_nz01 (q_Ile (x := 0) (y := lx17.toInt) (by decide) rfl (by first | with_reducible exact q_fe i23 | (have t1 : 0 ≤ lx17.toInt := i23; omega))) (q_Ile (x := lx17.toInt) (y := 1) rfl (by decide) (by first | with_reducible exact q_fe i24 | (have t1 : lx17.toInt ≤ 1 := i24; omega)))) (q_fz01 (q_Ile (x := 0) (y := lx17.toInt) (by decide) rfl (by first | with_reducible exact q_fe i23 | (have t1 : 0 ≤ lx17.toInt := i23; omega))) (q_Ile (x := lx17.toInt) (y := 1) rfl (by decide) (by first | with_reducible exact q_fe i24 | (have t1 : lx17.toInt ≤ 1 := i24; omega)))) (Nat.le_of_ble_eq_true rfl) d_2_22_44 (fun H locs w126 hu127 hO112 V => ?_)
          replace hO112 : w126[k1]? = (some (q k1, .inr (2, [.ref (q (k1 + 1)), .int y113, .int lx17])) : Option (Nat × va_E)) := hO112
          replace hI := q_bigO' hI hB1 hu127 hO112 ⟨(by have t1 : 0 ≤ t0_0.toInt ∧ t0_0.toInt ≤ R.toInt := btt0_0; have t2 : t0_0.toInt ≤ y113.toInt := b117; omega), (by first | with_reducible exact q_fe b118 | (have t1 : y113.toInt ≤ R.toInt := b118; omega))⟩ ⟨(by first | with_reducible exact q_fe i23 | (have t1 : 0 ≤ lx17.toInt := i23; omega)), (by first | with_reducible exact q_fe i24 | (have t1 : lx17.toInt ≤ 1 := i24; omega))⟩
          replace hA116 := (hu127 _ (by omega)).trans hA116
          replace hF := q_us hF hu127 (by simp)
          refine lv_goto (tgt := 76) hx hb d_2_22_47 (by decide) ?_
          exact q_retv C0 V (⟨hI, hF, y113, lx17, f115, hO112, hA116, (show 0 ≤ y113.toInt from (by have t1 : 0 ≤ t0_0.toInt ∧ t0_0.toInt ≤ R.toInt := btt0_0; have t2 : t0_0.toInt ≤ y113.toInt := b117; omega)), (show 0 ≤ lx17.toInt from (by first | with_reducible exact q_fe i23 | (have t1 : 0 ≤ lx17.toInt := i23; omega))), (show lx17.toInt ≤ 1 from (by first | with_reducible exact q_fe i24 | (have t1 : lx17.toInt ≤ 1 := i24; omega))), (show y113.toInt ≤ R.toInt from (by first | with_reducible exact q_fe b118 | (have t1 : y113.toInt ≤ R.toInt := b118; omega))), (show (y113, lx17, f115) = (F_Big_addSigned R R2 x3 t0_0 t0_1 t1_0 t2_0 t2_1 t3_0) from Eq.trans (by subst e123; subst e124; subst e125; rw [F_Big_addSigned_J13.eq_1, if_neg c29, if_neg c31, if_pos c55]) hR25)⟩) d_2_22_76
    ·
      exact q_retv C0 V (⟨hI, hF, t0_0, t0_1, t1_0, hT0, hT1, (show 0 ≤ t0_0.toInt from (by first | with_reducible exact (q_fe btt0_0).2 | with_reducible exact (q_fe btt0_0).1 | (have t1 : 0 ≤ t0_0.toInt ∧ t0_0.toInt ≤ R.toInt := btt0_0; omega))), (show 0 ≤ t0_1.toInt from (by first | with_reducible exact (q_fe btt0_1).2 | with_reducible exact (q_fe btt0_1).1 | (have t1 : 0 ≤ t0_1.toInt ∧ t0_1.toInt ≤ 1 := btt0_1; omega))), (show t0_1.toInt ≤ 1 from (by first | with_reducible exact (q_fe btt0_1).2 | with_reducible exact (q_fe btt0_1).1 | (have t1 : 0 ≤ t0_1.toInt ∧ t0_1.toInt ≤ 1 := btt0_1; omega))), (show t0_0.toInt ≤ R.toInt from (by first | with_reducible exact (q_fe btt0_0).2 | with_reducible exact (q_fe btt0_0).1 | (have t1 : 0 ≤ t0_0.toInt ∧ t0_0.toInt ≤ R.toInt := btt0_0; omega))), (show (t0_0, t0_1, t1_0) = (F_Big_addSigned R R2 x3 t0_0 t0_1 t1_0 t2_0 t2_1 t3_0) from Eq.trans (by rw [F_Big_addSigned_J13.eq_1, if_pos c29]) hR25)⟩) d_2_22_21
  ·
    intro J22
    refine lv_icmp_eq (tgt := 12) hx hb d_2_22_5 (by decide) (fun c130 => ?_) (fun c130 => ?_)
    ·
      refine lv_iconst (v := 0) hx hb d_2_22_12 (by decide) ?_
      exact J22 ((0 : Int32)) _ _ _ ws ⟨(show q_F (0 ≤ 0) from (show 0 ≤ 0 from by omega)), (show q_F (0 ≤ 1) from (show 0 ≤ 1 from by omega)), V, q_lw hl (q_lw1 0 rfl (q_lw1 1 rfl q_lw0)), (show F_Big_addSigned_J13 R R2 x3 t0_0 t0_1 t1_0 t2_0 t2_1 t3_0 0 = (F_Big_addSigned R R2 x3 t0_0 t0_1 t1_0 t2_0 t2_1 t3_0) from (by rw [F_Big_addSigned.eq_1, if_pos c130]))⟩
    ·
      refine lv_iconst (v := 1) hx hb d_2_22_8 (by decide) ?_
      refine lv_goto (tgt := 13) hx hb d_2_22_9 (by decide) ?_
      exact J22 ((1 : Int32)) _ _ _ ws ⟨(show q_F (0 ≤ 1) from (show 0 ≤ 1 from by omega)), (show q_F (1 ≤ 1) from (show 1 ≤ 1 from by omega)), V, q_lw hl (q_lw1 0 rfl (q_lw1 1 rfl q_lw0)), (show F_Big_addSigned_J13 R R2 x3 t0_0 t0_1 t1_0 t2_0 t2_1 t3_0 1 = (F_Big_addSigned R R2 x3 t0_0 t0_1 t1_0 t2_0 t2_1 t3_0) from (by rw [F_Big_addSigned.eq_1, if_neg c130]))⟩
def F_Big_copy (R : Int32) (R2 : Int32) (t0_0 : Int32) (t0_1 : Int32) (t1_0 : (Nat → Int32)) (t2_0 : Int32) (t2_1 : Int32) (t3_0 : (Nat → Int32)) : Int32 × Int32 × (Nat → Int32) := ((if R < t2_0 then R else t2_0 : Int32), t2_1, (va_cpy t3_0 t1_0 (0 : Int32).toNatClampNeg (0 : Int32).toNatClampNeg (if R < t2_0 then R else t2_0 : Int32).toNatClampNeg : (Nat → Int32)))
set_option maxRecDepth 100000 in
set_option maxHeartbeats 4000000 in
theorem X_Big_copy (l : Launch) (D : va_G) (g : Nat → ClassId) (q : Nat → Nat) (ws : va_W) (k1 : Nat) (R : Int32) (hB1 : q_isBig (nsh g q) g q k1 R) (zk1 : (10 ≤ k1 ∧ k1 ≤ 32) ∨ 66 ≤ k1) (k2 : Nat) (R2 : Int32) (hB2 : q_isBig (nsh g q) g q k2 R2) (zk2 : (10 ≤ k2 ∧ k2 ≤ 32) ∨ 66 ≤ k2) (ne_k1_k2 : k1 ≠ k2) (hI : q_I (nsh g q) q ws) (t0_0 : Int32) (t0_1 : Int32) (hT0 : ws[k1]? = (some (q k1, .inr (2, [.ref (q (k1 + 1)), .int t0_0, .int t0_1])) : Option (Nat × va_E))) (t1_0 : (Nat → Int32)) (hT1 : ws[k1 + 1]? = (some (q (k1 + 1), .inl (g 0, R.toNatClampNeg, .inl t1_0)) : Option (Nat × va_E))) (t2_0 : Int32) (t2_1 : Int32) (hT2 : ws[k2]? = (some (q k2, .inr (2, [.ref (q (k2 + 1)), .int t2_0, .int t2_1])) : Option (Nat × va_E))) (t3_0 : (Nat → Int32)) (hT3 : ws[k2 + 1]? = (some (q (k2 + 1), .inl (g 0, R2.toNatClampNeg, .inl t3_0)) : Option (Nat × va_E))) : q_mV l y_Big_copy prog_2_method_4_code 2 2 0 0 D g [.ref (q k1), .ref (q k2)] ws (fun u => q_I (nsh g q) q u ∧ q_un ws u [k1, k1 + 1] ∧ ∃ (u0_0 : Int32) (u0_1 : Int32) (u1_0 : (Nat → Int32)), u[k1]? = (some (q k1, .inr (2, [.ref (q (k1 + 1)), .int u0_0, .int u0_1])) : Option (Nat × va_E)) ∧ u[k1 + 1]? = (some (q (k1 + 1), .inl (g 0, R.toNatClampNeg, .inl u1_0)) : Option (Nat × va_E)) ∧ (0 ≤ u0_0.toInt) ∧ (u0_0.toInt ≤ t2_0.toInt) ∧ (u0_0.toInt ≤ R.toInt) ∧ (t2_1.toInt ≤ u0_1.toInt) ∧ (u0_1.toInt ≤ t2_1.toInt) ∧ (u0_0, u0_1, u1_0) = (F_Big_copy R R2 t0_0 t0_1 t1_0 t2_0 t2_1 t3_0)) := by
  intro sz
  refine q_into (by decide) (Nat.le_of_ble_eq_true rfl) ?_
  intro p e s m below meth c ls hsz C0 V hl
  have hx := C0.1
  have hb := C0.2.1
  have hfk10 : q_F (0 ≤ R.toInt ∧ R.toInt ≤ 220) := hB1.2.2
  have hfk20 : q_F (0 ≤ R2.toInt ∧ R2.toInt ≤ 220) := hB2.2.2
  have btt0_1 := (q_bigW hI hB1 hT0).2
  replace btt0_1 : q_F (0 ≤ t0_1.toInt ∧ t0_1.toInt ≤ 1) := btt0_1
  obtain ⟨btt2_0, btt2_1⟩ := q_bigW hI hB2 hT2
  replace btt2_0 : q_F (0 ≤ t2_0.toInt ∧ t2_0.toInt ≤ R2.toInt) := btt2_0
  replace btt2_1 : q_F (0 ≤ t2_1.toInt ∧ t2_1.toInt ≤ 1) := btt2_1
  have hF : q_un ws ws [k1, k1 + 1] := q_u0
  have hl : lv_has ls 2 [(0, .ref (q k1)), (1, .ref (q k2))] := hl
  refine lv_aload_n hx hb d_2_4_0 rfl (lv_at hl 0 rfl) ?_
  refine lv_aload_n hx hb d_2_4_1 rfl (lv_at hl 1 rfl) ?_
  refine q_get (ci := 2) (j := 1) (v := .int t2_0) C0 V i_Big rfl rfl hT2 (by decide) w_85 rfl d_2_4_2 ?_
  refine lv_aload_n hx hb d_2_4_5 rfl (lv_at hl 0 rfl) ?_
  refine q_get (ci := 2) (j := 0) (v := .ref (q (k1 + 1))) C0 V i_Big rfl rfl hT0 (by decide) w_84 rfl d_2_4_6 ?_
  refine q_alen (t := 0) (v := R) C0 V hT1 rfl (s_len (by first | with_reducible exact (q_fe hfk10).2 | with_reducible exact (q_fe hfk10).1 | (have t1 : 0 ≤ R.toInt ∧ R.toInt ≤ 220 := hfk10; omega))) d_2_4_9 ?_
  refine q_min C0 hl.1 rfl w_773 w_774 w_7 w_775 ⟨Nat.le_of_ble_eq_true rfl, Nat.le_of_ble_eq_true rfl⟩ ⟨Nat.le_of_ble_eq_true rfl, Nat.le_of_ble_eq_true rfl⟩ d_2_4_10 ?_
  obtain ⟨a17, e18⟩ := q_nm (if R < t2_0 then R else t2_0 : Int32)
  refine q_ti (v := a17) e18 ?_
  have b19 : q_F (a17.toInt ≤ t2_0.toInt ∧ a17.toInt ≤ R.toInt ∧ (a17.toInt = t2_0.toInt ∨ a17.toInt = R.toInt)) := (by rw [← e18]; show (if R < t2_0 then R else t2_0 : Int32).toInt ≤ t2_0.toInt ∧ (if R < t2_0 then R else t2_0 : Int32).toInt ≤ R.toInt ∧ ((if R < t2_0 then R else t2_0 : Int32).toInt = t2_0.toInt ∨ (if R < t2_0 then R else t2_0 : Int32).toInt = R.toInt); exact s_min (a := t2_0) (b := R))
  have ne22 := q_df hT3 hT0
  refine q_put (ci := 2) (j := 1) (v := .int a17) (ty := .int) C0 V i_Big o_Big n_Big rfl rfl hT0 (by decide) w_85 rfl rfl rfl rfl (Nat.le_of_ble_eq_true rfl) d_2_4_13 (fun H locs w20 hu21 hT0 V => ?_)
  replace hT0 : w20[k1]? = (some (q k1, .inr (2, [.ref (q (k1 + 1)), .int a17, .int t0_1])) : Option (Nat × va_E)) := hT0
  replace hI := q_bigO' hI hB1 hu21 hT0 ⟨(by have t1 : 0 ≤ R.toInt ∧ R.toInt ≤ 220 := hfk10; have t2 : 0 ≤ t2_0.toInt ∧ t2_0.toInt ≤ R2.toInt := btt2_0; have t3 : a17.toInt ≤ t2_0.toInt ∧ a17.toInt ≤ R.toInt ∧ (a17.toInt = t2_0.toInt ∨ a17.toInt = R.toInt) := b19; omega), (by have t1 : a17.toInt ≤ t2_0.toInt ∧ a17.toInt ≤ R.toInt ∧ (a17.toInt = t2_0.toInt ∨ a17.toInt = R.toInt) := b19; omega)⟩ (by first | with_reducible exact q_fe btt0_1 | exact ⟨(by have t1 : 0 ≤ t0_1.toInt ∧ t0_1.toInt ≤ 1 := btt0_1; omega), (by have t1 : 0 ≤ t0_1.toInt ∧ t0_1.toInt ≤ 1 := btt0_1; omega)⟩)
  replace hT1 := (hu21 _ (by omega)).trans hT1
  replace hT2 := (hu21 _ (by have z := ne_k1_k2; omega)).trans hT2
  replace hT3 := (hu21 _ ne22).trans hT3
  replace hF := q_us hF hu21 (by simp)
  refine lv_aload_n hx hb d_2_4_16 rfl (lv_at hl 1 rfl) ?_
  refine q_get (ci := 2) (j := 0) (v := .ref (q (k2 + 1))) C0 V i_Big rfl rfl hT2 (by decide) w_84 rfl d_2_4_17 ?_
  refine lv_iconst (v := 0) hx hb d_2_4_20 (by decide) ?_
  refine lv_aload_n hx hb d_2_4_21 rfl (lv_at hl 0 rfl) ?_
  refine q_get (ci := 2) (j := 0) (v := .ref (q (k1 + 1))) C0 V i_Big rfl rfl hT0 (by decide) w_84 rfl d_2_4_22 ?_
  refine lv_iconst (v := 0) hx hb d_2_4_25 (by decide) ?_
  refine lv_aload_n hx hb d_2_4_26 rfl (lv_at hl 0 rfl) ?_
  refine q_get (ci := 2) (j := 1) (v := .int a17) C0 V i_Big rfl rfl hT0 (by decide) w_85 rfl d_2_4_27 ?_
  have ne25 := q_df hT1 hT2
  refine q_copy C0 V hl.1 rfl w_791 w_793 w_792 w_29 hT3 hT1 (by decide) (by decide) (Int32.not_lt.mpr (q_Ile (x := 0) (y := a17.toInt) (by decide) rfl (by have t1 : 0 ≤ R.toInt ∧ R.toInt ≤ 220 := hfk10; have t2 : 0 ≤ t2_0.toInt ∧ t2_0.toInt ≤ R2.toInt := btt2_0; have t3 : a17.toInt ≤ t2_0.toInt ∧ a17.toInt ≤ R.toInt ∧ (a17.toInt = t2_0.toInt ∨ a17.toInt = R.toInt) := b19; omega))) (by have _ := q_clI (i := a17) rfl (by have t1 : 0 ≤ R.toInt ∧ R.toInt ≤ 220 := hfk10; have t2 : 0 ≤ t2_0.toInt ∧ t2_0.toInt ≤ R2.toInt := btt2_0; have t3 : a17.toInt ≤ t2_0.toInt ∧ a17.toInt ≤ R.toInt ∧ (a17.toInt = t2_0.toInt ∨ a17.toInt = R.toInt) := b19; omega); have _ : (((0 : Int32).toNatClampNeg : Nat) : Int) = 0 := (by decide); have _ := q_clI (i := R2) rfl (by first | with_reducible exact (q_fe hfk20).2 | with_reducible exact (q_fe hfk20).1 | (have t1 : 0 ≤ R2.toInt ∧ R2.toInt ≤ 220 := hfk20; omega)); have t1 : 0 ≤ t2_0.toInt ∧ t2_0.toInt ≤ R2.toInt := btt2_0; have t2 : a17.toInt ≤ t2_0.toInt ∧ a17.toInt ≤ R.toInt ∧ (a17.toInt = t2_0.toInt ∨ a17.toInt = R.toInt) := b19; omega) (by have _ := q_clI (i := a17) rfl (by have t1 : 0 ≤ R.toInt ∧ R.toInt ≤ 220 := hfk10; have t2 : 0 ≤ t2_0.toInt ∧ t2_0.toInt ≤ R2.toInt := btt2_0; have t3 : a17.toInt ≤ t2_0.toInt ∧ a17.toInt ≤ R.toInt ∧ (a17.toInt = t2_0.toInt ∨ a17.toInt = R.toInt) := b19; omega); have _ : (((0 : Int32).toNatClampNeg : Nat) : Int) = 0 := (by decide); have _ := q_clI (i := R) rfl (by first | with_reducible exact (q_fe hfk10).2 | with_reducible exact (q_fe hfk10).1 | (have t1 : 0 ≤ R.toInt ∧ R.toInt ≤ 220 := hfk10; omega)); have t1 : a17.toInt ≤ t2_0.toInt ∧ a17.toInt ≤ R.toInt ∧ (a17.toInt = t2_0.toInt ∨ a17.toInt = R.toInt) := b19; omega) ⟨Nat.le_of_ble_eq_true rfl, Nat.le_of_ble_eq_true rfl⟩ d_2_4_30 (fun H locs w23 hu24 hT1 V => ?_)
  replace hI := q_bigA' hI hB1 hu24 hT1 (s_cpy (fun _ => s_bnd) (fun _ => s_bnd))
  replace hT0 := (hu24 _ (by omega)).trans hT0
  replace hT2 := (hu24 _ (Ne.symm ne25)).trans hT2
  replace hT3 := (hu24 _ (by have z := ne_k1_k2; omega)).trans hT3
  replace hF := q_us hF hu24 (by simp)
  obtain ⟨f26, e27⟩ := q_nm (va_cpy t3_0 t1_0 (0 : Int32).toNatClampNeg (0 : Int32).toNatClampNeg a17.toNatClampNeg : (Nat → Int32))
  rw [e27] at hT1
  refine lv_aload_n hx hb d_2_4_33 rfl (lv_at hl 0 rfl) ?_
  refine lv_aload_n hx hb d_2_4_34 rfl (lv_at hl 1 rfl) ?_
  refine q_get (ci := 2) (j := 2) (v := .int t2_1) C0 V i_Big rfl rfl hT2 (by decide) w_94 rfl d_2_4_35 ?_
  have ne30 := q_df hT3 hT0
  refine q_put (ci := 2) (j := 2) (v := .int t2_1) (ty := .boolean) C0 V i_Big o_Big n_Big rfl rfl hT0 (by decide) w_94 rfl rfl (q_nz01 (q_Ile (x := 0) (y := t2_1.toInt) (by decide) rfl (by first | with_reducible exact (q_fe btt2_1).2 | with_reducible exact (q_fe btt2_1).1 | (have t1 : 0 ≤ t2_1.toInt ∧ t2_1.toInt ≤ 1 := btt2_1; omega))) (q_Ile (x := t2_1.toInt) (y := 1) rfl (by decide) (by first | with_reducible exact (q_fe btt2_1).2 | with_reducible exact (q_fe btt2_1).1 | (have t1 : 0 ≤ t2_1.toInt ∧ t2_1.toInt ≤ 1 := btt2_1; omega)))) (q_fz01 (q_Ile (x := 0) (y := t2_1.toInt) (by decide) rfl (by first | with_reducible exact (q_fe btt2_1).2 | with_reducible exact (q_fe btt2_1).1 | (have t1 : 0 ≤ t2_1.toInt ∧ t2_1.toInt ≤ 1 := btt2_1; omega))) (q_Ile (x := t2_1.toInt) (y := 1) rfl (by decide) (by first | with_reducible exact (q_fe btt2_1).2 | with_reducible exact (q_fe btt2_1).1 | (have t1 : 0 ≤ t2_1.toInt ∧ t2_1.toInt ≤ 1 := btt2_1; omega)))) (Nat.le_of_ble_eq_true rfl) d_2_4_38 (fun H locs w28 hu29 hT0 V => ?_)
  replace hT0 : w28[k1]? = (some (q k1, .inr (2, [.ref (q (k1 + 1)), .int a17, .int t2_1])) : Option (Nat × va_E)) := hT0
  replace hI := q_bigO' hI hB1 hu29 hT0 ⟨(by have t1 : 0 ≤ R.toInt ∧ R.toInt ≤ 220 := hfk10; have t2 : 0 ≤ t2_0.toInt ∧ t2_0.toInt ≤ R2.toInt := btt2_0; have t3 : a17.toInt ≤ t2_0.toInt ∧ a17.toInt ≤ R.toInt ∧ (a17.toInt = t2_0.toInt ∨ a17.toInt = R.toInt) := b19; omega), (by have t1 : a17.toInt ≤ t2_0.toInt ∧ a17.toInt ≤ R.toInt ∧ (a17.toInt = t2_0.toInt ∨ a17.toInt = R.toInt) := b19; omega)⟩ (by first | with_reducible exact q_fe btt2_1 | exact ⟨(by have t1 : 0 ≤ t2_1.toInt ∧ t2_1.toInt ≤ 1 := btt2_1; omega), (by have t1 : 0 ≤ t2_1.toInt ∧ t2_1.toInt ≤ 1 := btt2_1; omega)⟩)
  replace hT1 := (hu29 _ (by omega)).trans hT1
  replace hF := q_us hF hu29 (by simp)
  exact q_retv C0 V (⟨hI, hF, a17, t2_1, f26, hT0, hT1, (show 0 ≤ a17.toInt from (by have t1 : 0 ≤ R.toInt ∧ R.toInt ≤ 220 := hfk10; have t2 : 0 ≤ t2_0.toInt ∧ t2_0.toInt ≤ R2.toInt := btt2_0; have t3 : a17.toInt ≤ t2_0.toInt ∧ a17.toInt ≤ R.toInt ∧ (a17.toInt = t2_0.toInt ∨ a17.toInt = R.toInt) := b19; omega)), (show a17.toInt ≤ t2_0.toInt from (by have t1 : a17.toInt ≤ t2_0.toInt ∧ a17.toInt ≤ R.toInt ∧ (a17.toInt = t2_0.toInt ∨ a17.toInt = R.toInt) := b19; omega)), (show a17.toInt ≤ R.toInt from (by have t1 : a17.toInt ≤ t2_0.toInt ∧ a17.toInt ≤ R.toInt ∧ (a17.toInt = t2_0.toInt ∨ a17.toInt = R.toInt) := b19; omega)), (show t2_1.toInt ≤ t2_1.toInt from (by omega)), (show t2_1.toInt ≤ t2_1.toInt from (by omega)), (show (a17, t2_1, f26) = (F_Big_copy R R2 t0_0 t0_1 t1_0 t2_0 t2_1 t3_0) from (by subst e18; subst e27; rw [F_Big_copy.eq_1]))⟩) d_2_4_41
def F_Big_setLong_L12 (R : Int32) (x2 : Int64) (t0_0 : Int32) (t0_1 : Int32) (t1_0 : (Nat → Int32)) : Nat → Int32 → Int64 → Int32 → Int32 → (Nat → Int32) → (Int32 × Int32 × (Nat → Int32))
  | 0, _, _, _, _, _ => default
  | fm + 1, lx26, lx27, lx28, lx29, lx30 => if (3 : Int32) ≤ lx26 then (if (0 : Int32) ≤ (lg_cmp x2 0 : Int32) then ((((F_Big_trim R lx28 lx29 lx30).1 : Int32), (0 : Int32), lx30)) else ((((F_Big_trim R lx28 lx29 lx30).1 : Int32), (1 : Int32), lx30))) else (F_Big_setLong_L12 R x2 t0_0 t0_1 t1_0 fm (lx26 + 1 : Int32) ((lx27.toUInt64 >>> ((31 : Int32).toInt64.toUInt64 &&& Int64.toUInt64 63)).toInt64 : Int64) ((F_Big_push R ((lx27 &&& 2147483647 : Int64).toInt32 : Int32) lx28 lx29 lx30).1 : Int32) ((F_Big_push R ((lx27 &&& 2147483647 : Int64).toInt32 : Int32) lx28 lx29 lx30).2.1 : Int32) ((F_Big_push R ((lx27 &&& 2147483647 : Int64).toInt32 : Int32) lx28 lx29 lx30).2.2 : (Nat → Int32)))
def F_Big_setLong (R : Int32) (x2 : Int64) (t0_0 : Int32) (t0_1 : Int32) (t1_0 : (Nat → Int32)) : Int32 × Int32 × (Nat → Int32) := F_Big_setLong_L12 R x2 t0_0 t0_1 t1_0 ((3 - (0 : Int32).toInt).toNat + 1) 0 (if 0 < x2 then x2 else -x2 : Int64) ((F_Big_clear R t0_0 t0_1).1 : Int32) ((F_Big_clear R t0_0 t0_1).2 : Int32) t1_0
set_option maxRecDepth 100000 in
set_option maxHeartbeats 4000000 in
theorem X_Big_setLong (l : Launch) (D : va_G) (g : Nat → ClassId) (q : Nat → Nat) (ws : va_W) (k1 : Nat) (R : Int32) (hB1 : q_isBig (nsh g q) g q k1 R) (zk1 : (10 ≤ k1 ∧ k1 ≤ 32) ∨ 66 ≤ k1) (x2 : Int64) (hI : q_I (nsh g q) q ws) (t0_0 : Int32) (t0_1 : Int32) (hT0 : ws[k1]? = (some (q k1, .inr (2, [.ref (q (k1 + 1)), .int t0_0, .int t0_1])) : Option (Nat × va_E))) (t1_0 : (Nat → Int32)) (hT1 : ws[k1 + 1]? = (some (q (k1 + 1), .inl (g 0, R.toNatClampNeg, .inl t1_0)) : Option (Nat × va_E))) : q_mV l y_Big_setLong prog_2_method_3_code 6 2 0 0 D g [.ref (q k1), .long x2] ws (fun u => q_I (nsh g q) q u ∧ q_un ws u [k1, k1 + 1] ∧ ∃ (u0_0 : Int32) (u0_1 : Int32) (u1_0 : (Nat → Int32)), u[k1]? = (some (q k1, .inr (2, [.ref (q (k1 + 1)), .int u0_0, .int u0_1])) : Option (Nat × va_E)) ∧ u[k1 + 1]? = (some (q (k1 + 1), .inl (g 0, R.toNatClampNeg, .inl u1_0)) : Option (Nat × va_E)) ∧ (0 ≤ u0_0.toInt) ∧ (u0_0.toInt ≤ 3) ∧ (0 ≤ u0_1.toInt) ∧ (u0_1.toInt ≤ 1) ∧ (u0_0.toInt ≤ R.toInt) ∧ (u0_0, u0_1, u1_0) = (F_Big_setLong R x2 t0_0 t0_1 t1_0)) := by
  intro sz
  refine q_into (by decide) (Nat.le_of_ble_eq_true rfl) ?_
  intro p e s m below meth c ls hsz C0 V hl
  have hx := C0.1
  have hb := C0.2.1
  have hfk10 : q_F (0 ≤ R.toInt ∧ R.toInt ≤ 220) := hB1.2.2
  have btt0_1 := (q_bigW hI hB1 hT0).2
  clear btt0_1
  have hF : q_un ws ws [k1, k1 + 1] := q_u0
  have hl : lv_has ls 6 [(0, .ref (q k1)), (1, .long x2)] := hl
  refine lv_aload_n hx hb d_2_3_0 rfl (lv_at hl 0 rfl) ?_
  refine q_gov V (q_runV (As := []) (rest := []) (d := 1) (mc := 0) (ms := 0) (ci := 2) C0 V rfl LV_Big_21 (X_Big_clear l D g q ws k1 R hB1 zk1  hI t0_0 t0_1 hT0  _) rfl rfl hT0 rfl hl.1 rfl (Nat.le_of_ble_eq_true rfl) ⟨by decide, by decide⟩ ⟨Nat.le_of_ble_eq_true rfl, Nat.le_of_ble_eq_true rfl⟩ d_2_3_1) (fun u9 H locs hp10 V => ?_)
  obtain ⟨hI, hZ9⟩ := hp10
  obtain ⟨hu19, hZ9⟩ := hZ9
  obtain ⟨y12, hZ9⟩ := hZ9
  obtain ⟨y13, hZ9⟩ := hZ9
  obtain ⟨hO11, hZ9⟩ := hZ9
  replace hZ9 := hZ9.2
  obtain ⟨b15, hZ9⟩ := hZ9
  replace hZ9 := hZ9.2
  obtain ⟨b17, hE18⟩ := hZ9
  replace hO11 : u9[k1]? = (some (q k1, .inr (2, [.ref (q (k1 + 1)), .int y12, .int y13])) : Option (Nat × va_E)) := hO11
  have e20 : y12 = (F_Big_clear R t0_0 t0_1).1 := congrArg (fun z => z.1) hE18
  have e21 : y13 = (F_Big_clear R t0_0 t0_1).2 := congrArg (fun z => z.2) hE18
  replace b15 : q_F (y13.toInt ≤ 0) := b15
  replace b17 : q_F (y12.toInt ≤ y13.toInt) := b17
  replace hT1 := (hu19 _ (by have z0 := zk1; simp only [List.mem_cons, List.not_mem_nil, or_false, not_or]; omega)).trans hT1
  replace hF := q_uc hF hu19 (by simp)
  refine lv_lload_n hx hb d_2_3_4 rfl (lv_at hl 1 rfl) ?_
  refine q_absl C0 hl.1 rfl w_198 w_199 w_7 w_200 ⟨Nat.le_of_ble_eq_true rfl, Nat.le_of_ble_eq_true rfl⟩ ⟨Nat.le_of_ble_eq_true rfl, Nat.le_of_ble_eq_true rfl⟩ d_2_3_5 ?_
  obtain ⟨j22, e23⟩ := q_nm (if 0 < x2 then x2 else -x2 : Int64)
  refine q_tl (v := j22) e23 ?_
  refine lv_lstore_n (lv' := [(3, .long j22), (0, .ref (q k1)), (1, .long x2)]) hx hb d_2_3_8 rfl hl (by decide) rfl (fun ls hl => ?_)
  refine lv_iconst (v := 0) hx hb d_2_3_9 (by decide) ?_
  refine lv_istore (lv' := [(5, .int 0), (3, .long j22), (0, .ref (q k1)), (1, .long x2)]) hx hb d_2_3_10 hl (by decide) rfl (fun ls hl => ?_)
  refine q_loop (X := Int32 × Int64 × Int32 × Int32 × (Nat → Int32)) (fun z H locs ls w38 => q_F (z.1.toInt ≤ 3) ∧ q_F (z.2.2.1.toInt ≤ R.toInt) ∧ q_F (y13.toInt ≤ z.2.2.2.1.toInt) ∧ q_F (z.2.2.2.1.toInt ≤ y13.toInt) ∧ q_F (z.2.2.1.toInt ≤ z.1.toInt + y12.toInt) ∧ q_F (z.2.2.2.1.toInt + y12.toInt ≤ z.2.2.1.toInt + y13.toInt) ∧ q_Wd D g (va_A ws sz) s w38 H locs ∧ lv_has ls 6 [(5, .int z.1), (3, .long z.2.1), (0, .ref (q k1)), (1, .long x2)] ∧ q_I (nsh g q) q w38 ∧ q_un ws w38 [k1, k1 + 1] ∧ w38[k1]? = (some (q k1, .inr (2, [.ref (q (k1 + 1)), .int z.2.2.1, .int z.2.2.2.1])) : Option (Nat × va_E)) ∧ w38[k1 + 1]? = (some (q (k1 + 1), .inl (g 0, R.toNatClampNeg, .inl z.2.2.2.2)) : Option (Nat × va_E)) ∧ (∃ n, (3 - z.1.toInt).toNat < n ∧ F_Big_setLong_L12 R x2 t0_0 t0_1 t1_0 n z.1 z.2.1 z.2.2.1 z.2.2.2.1 z.2.2.2.2 = (F_Big_setLong R x2 t0_0 t0_1 t1_0))) (fun z => (3 - z.1.toInt).toNat) ?_ ((0 : Int32), (j22 : Int64), (y12 : Int32), (y13 : Int32), (t1_0 : (Nat → Int32))) _ _ _ u9 ⟨(show q_F (0 ≤ 3) from (show 0 ≤ 3 from by omega)), (show q_F (y12.toInt ≤ R.toInt) from (show y12.toInt ≤ R.toInt from by have t1 : 0 ≤ R.toInt ∧ R.toInt ≤ 220 := hfk10; have t2 : y13.toInt ≤ 0 := b15; have t3 : y12.toInt ≤ y13.toInt := b17; omega)), (show q_F (y13.toInt ≤ y13.toInt) from (show y13.toInt ≤ y13.toInt from by omega)), (show q_F (y13.toInt ≤ y13.toInt) from (show y13.toInt ≤ y13.toInt from by omega)), (show q_F (y12.toInt ≤ 0 + y12.toInt) from (show y12.toInt ≤ 0 + y12.toInt from by omega)), (show q_F (y13.toInt + y12.toInt ≤ y12.toInt + y13.toInt) from (show y13.toInt + y12.toInt ≤ y12.toInt + y13.toInt from by omega)), V, q_lw hl (q_lw1 0 rfl (q_lw1 1 rfl (q_lw1 2 rfl (q_lw1 3 rfl q_lw0)))), hI, hF, hO11, hT1, ⟨((3 - (0 : Int32).toInt).toNat + 1), Nat.lt_succ_self _, (show F_Big_setLong_L12 R x2 t0_0 t0_1 t1_0 ((3 - (0 : Int32).toInt).toNat + 1) 0 j22 y12 y13 t1_0 = (F_Big_setLong R x2 t0_0 t0_1 t1_0) from (by subst e20; subst e21; subst e23; rw [F_Big_setLong.eq_1]))⟩⟩
  rintro ⟨lx26, lx27, lx28, lx29, lx30⟩ H locs ls w38 ⟨i31, i32, i33, i34, i35, i36, V, hl, hI, hF, hO39, hO40, ⟨fu42, hf43, hR41⟩⟩ ih37
  obtain ⟨fm44, rfl⟩ : ∃ m, fu42 = m + 1 := ⟨fu42 - 1, by omega⟩
  replace i31 : q_F (lx26.toInt ≤ 3) := i31
  replace i32 : q_F (lx28.toInt ≤ R.toInt) := i32
  replace i33 : q_F (y13.toInt ≤ lx29.toInt) := i33
  replace i34 : q_F (lx29.toInt ≤ y13.toInt) := i34
  replace i35 : q_F (lx28.toInt ≤ lx26.toInt + y12.toInt) := i35
  replace i36 : q_F (lx29.toInt + y12.toInt ≤ lx28.toInt + y13.toInt) := i36
  replace hl : lv_has ls 6 [(5, .int lx26), (3, .long lx27), (0, .ref (q k1)), (1, .long x2)] := hl
  replace hO39 : w38[k1]? = (some (q k1, .inr (2, [.ref (q (k1 + 1)), .int lx28, .int lx29])) : Option (Nat × va_E)) := hO39
  replace hO40 : w38[k1 + 1]? = (some (q (k1 + 1), .inl (g 0, R.toNatClampNeg, .inl lx30)) : Option (Nat × va_E)) := hO40
  refine lv_iload hx hb d_2_3_12 (lv_at hl 0 rfl) ?_
  refine lv_iconst (v := 3) hx hb d_2_3_14 (by decide) ?_
  refine lv_icmp_ge (tgt := 39) hx hb d_2_3_15 (by decide) (fun c45 => ?_) (fun c45 => ?_)
  ·
    refine lv_aload_n hx hb d_2_3_39 rfl (lv_at hl 2 rfl) ?_
    refine q_gov V (q_runV (As := []) (rest := []) (d := 1) (mc := 0) (ms := 0) (ci := 2) C0 V rfl LV_Big_36 (X_Big_trim l D g q w38 k1 R hB1 zk1  hI lx28 lx29 hO39 lx30 hO40  _) rfl rfl hO39 rfl hl.1 rfl (Nat.le_of_ble_eq_true rfl) ⟨by decide, by decide⟩ ⟨Nat.le_of_ble_eq_true rfl, Nat.le_of_ble_eq_true rfl⟩ d_2_3_40) (fun u47 H locs hp48 V => ?_)
    obtain ⟨hI, hZ9⟩ := hp48
    obtain ⟨hu57, hZ9⟩ := hZ9
    obtain ⟨y50, hZ9⟩ := hZ9
    obtain ⟨y51, hZ9⟩ := hZ9
    obtain ⟨hO49, hZ9⟩ := hZ9
    obtain ⟨b52, hZ9⟩ := hZ9
    obtain ⟨b53, hZ9⟩ := hZ9
    replace hZ9 := hZ9.2
    obtain ⟨b55, hE56⟩ := hZ9
    replace hO49 : u47[k1]? = (some (q k1, .inr (2, [.ref (q (k1 + 1)), .int y50, .int y51])) : Option (Nat × va_E)) := hO49
    have e58 : y50 = (F_Big_trim R lx28 lx29 lx30).1 := congrArg (fun z => z.1) hE56
    have e59 : y51 = (F_Big_trim R lx28 lx29 lx30).2 := congrArg (fun z => z.2) hE56
    replace b52 : q_F (0 ≤ y51.toInt) := b52
    replace b53 : q_F (y50.toInt ≤ lx28.toInt) := b53
    replace b55 : q_F (y51.toInt ≤ y50.toInt) := b55
    replace hO40 := (hu57 _ (by have z0 := zk1; simp only [List.mem_cons, List.not_mem_nil, or_false, not_or]; omega)).trans hO40
    replace hF := q_uc hF hu57 (by simp)
    refine lv_aload_n hx hb d_2_3_43 rfl (lv_at hl 2 rfl) ?_
    refine lv_lload_n hx hb d_2_3_44 rfl (lv_at hl 3 rfl) ?_
    refine lv_lconst (v := 0) hx hb d_2_3_45 (by decide) ?_
    refine W.lcmp hx hb d_2_3_46 ?_
    obtain ⟨a60, e61⟩ := q_nm (lg_cmp x2 0 : Int32)
    refine q_ti (v := a60) e61 ?_
    refine lv_if_ge (tgt := 54) hx hb d_2_3_47 (by decide) (fun c63 => ?_) (fun c63 => ?_)
    ·
      refine lv_iconst (v := 0) hx hb d_2_3_54 (by decide) ?_
      refine q_put (ci := 2) (j := 2) (v := .int 0) (ty := .boolean) C0 V i_Big o_Big n_Big rfl rfl hO49 (by decide) w_94 rfl rfl rfl rfl (Nat.le_of_ble_eq_true rfl) d_2_3_55 (fun H locs w65 hu66 hO49 V => ?_)
      replace hO49 : w65[k1]? = (some (q k1, .inr (2, [.ref (q (k1 + 1)), .int y50, .int 0])) : Option (Nat × va_E)) := hO49
      replace hI := q_bigO' hI hB1 hu66 hO49 ⟨(by have t1 : 0 ≤ y51.toInt := b52; have t2 : y51.toInt ≤ y50.toInt := b55; omega), (by have t1 : lx28.toInt ≤ R.toInt := i32; have t2 : y50.toInt ≤ lx28.toInt := b53; omega)⟩ ⟨(by have z9 : (0 : Int32).toInt = 0 := rfl; omega), (by have z9 : (0 : Int32).toInt = 0 := rfl; omega)⟩
      replace hO40 := (hu66 _ (by omega)).trans hO40
      replace hF := q_us hF hu66 (by simp)
      exact q_retv C0 V (⟨hI, hF, y50, 0, lx30, hO49, hO40, (show 0 ≤ y50.toInt from (by have z6 : (0 : Int32).toInt = 0 := rfl; have t1 : 0 ≤ y51.toInt := b52; have t2 : y51.toInt ≤ y50.toInt := b55; omega)), (show y50.toInt ≤ 3 from (by have z6 : (0 : Int32).toInt = 0 := rfl; have t1 : y13.toInt ≤ 0 := b15; have t2 : y12.toInt ≤ y13.toInt := b17; have t3 : lx26.toInt ≤ 3 := i31; have t4 : lx28.toInt ≤ lx26.toInt + y12.toInt := i35; have t5 : y50.toInt ≤ lx28.toInt := b53; omega)), (show 0 ≤ (0 : Int32).toInt from (by have z6 : (0 : Int32).toInt = 0 := rfl; omega)), (show (0 : Int32).toInt ≤ 1 from (by have z6 : (0 : Int32).toInt = 0 := rfl; omega)), (show y50.toInt ≤ R.toInt from (by have z6 : (0 : Int32).toInt = 0 := rfl; have t1 : lx28.toInt ≤ R.toInt := i32; have t2 : y50.toInt ≤ lx28.toInt := b53; omega)), (show (y50, (0 : Int32), lx30) = (F_Big_setLong R x2 t0_0 t0_1 t1_0) from Eq.trans (by subst e20; subst e21; subst e23; subst e58; subst e59; subst e61; rw [F_Big_setLong_L12.eq_2, if_pos c45, if_pos c63]) hR41)⟩) d_2_3_58
    ·
      refine lv_iconst (v := 1) hx hb d_2_3_50 (by decide) ?_
      refine lv_goto (tgt := 55) hx hb d_2_3_51 (by decide) ?_
      refine q_put (ci := 2) (j := 2) (v := .int 1) (ty := .boolean) C0 V i_Big o_Big n_Big rfl rfl hO49 (by decide) w_94 rfl rfl rfl rfl (Nat.le_of_ble_eq_true rfl) d_2_3_55 (fun H locs w68 hu69 hO49 V => ?_)
      replace hO49 : w68[k1]? = (some (q k1, .inr (2, [.ref (q (k1 + 1)), .int y50, .int 1])) : Option (Nat × va_E)) := hO49
      replace hI := q_bigO' hI hB1 hu69 hO49 ⟨(by have t1 : 0 ≤ y51.toInt := b52; have t2 : y51.toInt ≤ y50.toInt := b55; omega), (by have t1 : lx28.toInt ≤ R.toInt := i32; have t2 : y50.toInt ≤ lx28.toInt := b53; omega)⟩ ⟨(by have z9 : (1 : Int32).toInt = 1 := rfl; omega), (by have z9 : (1 : Int32).toInt = 1 := rfl; omega)⟩
      replace hO40 := (hu69 _ (by omega)).trans hO40
      replace hF := q_us hF hu69 (by simp)
      exact q_retv C0 V (⟨hI, hF, y50, 1, lx30, hO49, hO40, (show 0 ≤ y50.toInt from (by have z6 : (1 : Int32).toInt = 1 := rfl; have t1 : 0 ≤ y51.toInt := b52; have t2 : y51.toInt ≤ y50.toInt := b55; omega)), (show y50.toInt ≤ 3 from (by have z6 : (1 : Int32).toInt = 1 := rfl; have t1 : y13.toInt ≤ 0 := b15; have t2 : y12.toInt ≤ y13.toInt := b17; have t3 : lx26.toInt ≤ 3 := i31; have t4 : lx28.toInt ≤ lx26.toInt + y12.toInt := i35; have t5 : y50.toInt ≤ lx28.toInt := b53; omega)), (show 0 ≤ (1 : Int32).toInt from (by have z6 : (1 : Int32).toInt = 1 := rfl; omega)), (show (1 : Int32).toInt ≤ 1 from (by have z6 : (1 : Int32).toInt = 1 := rfl; omega)), (show y50.toInt ≤ R.toInt from (by have z6 : (1 : Int32).toInt = 1 := rfl; have t1 : lx28.toInt ≤ R.toInt := i32; have t2 : y50.toInt ≤ lx28.toInt := b53; omega)), (show (y50, (1 : Int32), lx30) = (F_Big_setLong R x2 t0_0 t0_1 t1_0) from Eq.trans (by subst e20; subst e21; subst e23; subst e58; subst e59; subst e61; rw [F_Big_setLong_L12.eq_2, if_pos c45, if_neg c63]) hR41)⟩) d_2_3_58
  ·
    have b70 : q_F (lx26.toInt < 3) := (q_nleI c45)
    refine lv_aload_n hx hb d_2_3_18 rfl (lv_at hl 2 rfl) ?_
    refine lv_lload_n hx hb d_2_3_19 rfl (lv_at hl 1 rfl) ?_
    refine q_ldc2 C0 rfl w_201 d_2_3_20 ?_
    refine lv_land hx hb d_2_3_23 ?_
    obtain ⟨j71, e72⟩ := q_nm (lx27 &&& 2147483647 : Int64)
    refine q_tl (v := j71) e72 ?_
    refine lv_l2i hx hb d_2_3_24 rfl ?_
    obtain ⟨a74, e75⟩ := q_nm (j71.toInt32 : Int32)
    refine q_ti (v := a74) e75 ?_
    refine q_gov V (q_runV (As := [.int a74]) (rest := []) (d := 1) (mc := 0) (ms := 0) (ci := 2) C0 V rfl LV_Big_32 (X_Big_push l D g q w38 k1 R hB1 zk1 a74 hI lx28 lx29 hO39 lx30 hO40  _) rfl rfl hO39 rfl hl.1 rfl (Nat.le_of_ble_eq_true rfl) ⟨by decide, by decide⟩ ⟨Nat.le_of_ble_eq_true rfl, Nat.le_of_ble_eq_true rfl⟩ d_2_3_25) (fun u77 H locs hp78 V => ?_)
    obtain ⟨hI, hZ9⟩ := hp78
    obtain ⟨hu91, hZ9⟩ := hZ9
    obtain ⟨y80, hZ9⟩ := hZ9
    obtain ⟨y81, hZ9⟩ := hZ9
    obtain ⟨f82, hZ9⟩ := hZ9
    obtain ⟨hO79, hZ9⟩ := hZ9
    obtain ⟨hA83, hZ9⟩ := hZ9
    obtain ⟨b84, hZ9⟩ := hZ9
    obtain ⟨b85, hZ9⟩ := hZ9
    replace hZ9 := hZ9.2
    obtain ⟨b87, hZ9⟩ := hZ9
    obtain ⟨b88, hZ9⟩ := hZ9
    obtain ⟨b89, hE90⟩ := hZ9
    replace hO79 : u77[k1]? = (some (q k1, .inr (2, [.ref (q (k1 + 1)), .int y80, .int y81])) : Option (Nat × va_E)) := hO79
    replace hA83 : u77[k1 + 1]? = (some (q (k1 + 1), .inl (g 0, R.toNatClampNeg, .inl f82)) : Option (Nat × va_E)) := hA83
    have e92 : y80 = (F_Big_push R a74 lx28 lx29 lx30).1 := congrArg (fun z => z.1) hE90
    have e93 : y81 = (F_Big_push R a74 lx28 lx29 lx30).2.1 := congrArg (fun z => z.2.1) hE90
    have e94 : f82 = (F_Big_push R a74 lx28 lx29 lx30).2.2 := congrArg (fun z => z.2.2) hE90
    replace b84 : q_F (lx28.toInt ≤ y80.toInt) := b84
    replace b85 : q_F (y80.toInt ≤ lx28.toInt + 1) := b85
    replace b87 : q_F (y80.toInt ≤ R.toInt) := b87
    replace b88 : q_F (lx29.toInt ≤ y81.toInt) := b88
    replace b89 : q_F (y81.toInt ≤ lx29.toInt) := b89
    replace hF := q_uc hF hu91 (by simp)
    refine lv_lload_n hx hb d_2_3_28 rfl (lv_at hl 1 rfl) ?_
    refine lv_bipush (v := 31) hx hb d_2_3_29 (by decide) ?_
    refine lv_lushr hx hb d_2_3_31 rfl ?_
    obtain ⟨j95, e96⟩ := q_nm ((lx27.toUInt64 >>> ((31 : Int32).toInt64.toUInt64 &&& Int64.toUInt64 63)).toInt64 : Int64)
    refine q_tl (v := j95) e96 ?_
    refine lv_lstore_n (lv' := [(3, .long j95), (5, .int lx26), (0, .ref (q k1)), (1, .long x2)]) hx hb d_2_3_32 rfl hl (by decide) rfl (fun ls hl => ?_)
    obtain ⟨a98, e99⟩ := q_nm (lx26 + 1 : Int32)
    have b100 : q_F (a98.toInt = lx26.toInt + 1) := (by rw [← e99]; exact q_addI (y := 1) rfl (by decide) (by have _ := q_lo32 (x := lx26); have _ := q_hi32 (x := lx26); have t1 : lx26.toInt ≤ 3 := i31; omega) (by have _ := q_lo32 (x := lx26); have _ := q_hi32 (x := lx26); have t1 : lx26.toInt ≤ 3 := i31; omega))
    refine lv_iinc (v := a98) (lv' := [(5, .int a98), (3, .long j95), (0, .ref (q k1)), (1, .long x2)]) hx hb d_2_3_33 hl (k := 1) rfl (e99) (by decide) rfl (fun ls hl => ?_)
    refine lv_goto (tgt := 12) hx hb d_2_3_36 (by decide) ?_
    exact ih37 ((a98 : Int32), (j95 : Int64), (y80 : Int32), (y81 : Int32), (f82 : (Nat → Int32))) _ _ _ _ (show (3 - a98.toInt).toNat < (3 - lx26.toInt).toNat from by have t1 : a98.toInt = lx26.toInt + 1 := b100; have t2 : lx26.toInt ≤ 3 := i31; have t3 : lx26.toInt < 3 := b70; omega) ⟨(show q_F (a98.toInt ≤ 3) from (show a98.toInt ≤ 3 from by have t1 : lx26.toInt < 3 := b70; have t2 : a98.toInt = lx26.toInt + 1 := b100; omega)), (show q_F (y80.toInt ≤ R.toInt) from (show y80.toInt ≤ R.toInt from by have t1 : y80.toInt ≤ R.toInt := b87; omega)), (show q_F (y13.toInt ≤ y81.toInt) from (show y13.toInt ≤ y81.toInt from by have t1 : y13.toInt ≤ lx29.toInt := i33; have t2 : lx29.toInt ≤ y81.toInt := b88; omega)), (show q_F (y81.toInt ≤ y13.toInt) from (show y81.toInt ≤ y13.toInt from by have t1 : lx29.toInt ≤ y13.toInt := i34; have t2 : y81.toInt ≤ lx29.toInt := b89; omega)), (show q_F (y80.toInt ≤ a98.toInt + y12.toInt) from (show y80.toInt ≤ a98.toInt + y12.toInt from by have t1 : lx28.toInt ≤ lx26.toInt + y12.toInt := i35; have t2 : y80.toInt ≤ lx28.toInt + 1 := b85; have t3 : a98.toInt = lx26.toInt + 1 := b100; omega)), (show q_F (y81.toInt + y12.toInt ≤ y80.toInt + y13.toInt) from (show y81.toInt + y12.toInt ≤ y80.toInt + y13.toInt from by have t1 : lx29.toInt + y12.toInt ≤ lx28.toInt + y13.toInt := i36; have t2 : lx28.toInt ≤ y80.toInt := b84; have t3 : y81.toInt ≤ lx29.toInt := b89; omega)), V, q_lw hl (q_lw1 0 rfl (q_lw1 1 rfl (q_lw1 2 rfl (q_lw1 3 rfl q_lw0)))), hI, hF, hO79, hA83, ⟨fm44, Nat.lt_of_lt_of_le (show (3 - a98.toInt).toNat < (3 - lx26.toInt).toNat from by have t1 : a98.toInt = lx26.toInt + 1 := b100; have t2 : lx26.toInt ≤ 3 := i31; have t3 : lx26.toInt < 3 := b70; omega) (Nat.le_of_lt_succ hf43), (show F_Big_setLong_L12 R x2 t0_0 t0_1 t1_0 fm44 a98 j95 y80 y81 f82 = (F_Big_setLong R x2 t0_0 t0_1 t1_0) from Eq.trans (by subst e20; subst e21; subst e23; subst e72; subst e75; subst e92; subst e93; subst e94; subst e96; subst e99; rw [F_Big_setLong_L12.eq_2, if_neg c45]) hR41)⟩⟩
def F_Big_multiplySmall_L6 (R : Int32) (x2 : Int32) (x3 : Int32) (t0_0 : Int32) (t0_1 : Int32) (t1_0 : (Nat → Int32)) : Nat → Int32 → Int64 → (Nat → Int32) → (Int32 × Int32 × (Nat → Int32))
  | 0, _, _, _ => default
  | fm + 1, lx14, lx15, lx16 => if t0_0 ≤ lx14 then (if (lg_cmp lx15 0 : Int32) = (0 : Int32) then ((t0_0, t0_1, lx16)) else (if R ≤ t0_0 then ((t0_0, t0_1, lx16)) else (((t0_0 + 1 : Int32), t0_1, (upd lx16 t0_0.toNatClampNeg (lx15.toInt32 : Int32) : (Nat → Int32)))))) else (F_Big_multiplySmall_L6 R x2 x3 t0_0 t0_1 t1_0 fm (lx14 + 1 : Int32) ((((((lx16 lx14.toNatClampNeg : Int32).toInt64 : Int64) * (x2.toInt64 : Int64) : Int64) + lx15 : Int64).toUInt64 >>> ((31 : Int32).toInt64.toUInt64 &&& Int64.toUInt64 63)).toInt64 : Int64) (upd lx16 lx14.toNatClampNeg ((((((lx16 lx14.toNatClampNeg : Int32).toInt64 : Int64) * (x2.toInt64 : Int64) : Int64) + lx15 : Int64) &&& 2147483647 : Int64).toInt32 : Int32) : (Nat → Int32)))
def F_Big_multiplySmall (R : Int32) (x2 : Int32) (x3 : Int32) (t0_0 : Int32) (t0_1 : Int32) (t1_0 : (Nat → Int32)) : Int32 × Int32 × (Nat → Int32) := F_Big_multiplySmall_L6 R x2 x3 t0_0 t0_1 t1_0 ((220 - (0 : Int32).toInt).toNat + 1) 0 (x3.toInt64 : Int64) t1_0
set_option maxRecDepth 100000 in
set_option maxHeartbeats 4000000 in
theorem X_Big_multiplySmall (l : Launch) (D : va_G) (g : Nat → ClassId) (q : Nat → Nat) (ws : va_W) (k1 : Nat) (R : Int32) (hB1 : q_isBig (nsh g q) g q k1 R) (zk1 : (10 ≤ k1 ∧ k1 ≤ 32) ∨ 66 ≤ k1) (x2 : Int32) (x3 : Int32) (hI : q_I (nsh g q) q ws) (t0_0 : Int32) (t0_1 : Int32) (hT0 : ws[k1]? = (some (q k1, .inr (2, [.ref (q (k1 + 1)), .int t0_0, .int t0_1])) : Option (Nat × va_E))) (t1_0 : (Nat → Int32)) (hT1 : ws[k1 + 1]? = (some (q (k1 + 1), .inl (g 0, R.toNatClampNeg, .inl t1_0)) : Option (Nat × va_E))) : q_mV l y_Big_multiplySmall prog_2_method_26_code 8 1 0 0 D g [.ref (q k1), .int x2, .int x3] ws (fun u => q_I (nsh g q) q u ∧ q_un ws u [k1, k1 + 1] ∧ ∃ (u0_0 : Int32) (u0_1 : Int32) (u1_0 : (Nat → Int32)), u[k1]? = (some (q k1, .inr (2, [.ref (q (k1 + 1)), .int u0_0, .int u0_1])) : Option (Nat × va_E)) ∧ u[k1 + 1]? = (some (q (k1 + 1), .inl (g 0, R.toNatClampNeg, .inl u1_0)) : Option (Nat × va_E)) ∧ (t0_0.toInt ≤ u0_0.toInt) ∧ (u0_0.toInt ≤ t0_0.toInt + 1) ∧ (u0_0.toInt ≤ R.toInt) ∧ (t0_1.toInt ≤ u0_1.toInt) ∧ (u0_1.toInt ≤ t0_1.toInt) ∧ (u0_0, u0_1, u1_0) = (F_Big_multiplySmall R x2 x3 t0_0 t0_1 t1_0)) := by
  intro sz
  refine q_into (by decide) (Nat.le_of_ble_eq_true rfl) ?_
  intro p e s m below meth c ls hsz C0 V hl
  have hx := C0.1
  have hb := C0.2.1
  have hfk10 : q_F (0 ≤ R.toInt ∧ R.toInt ≤ 220) := hB1.2.2
  obtain ⟨btt0_0, btt0_1⟩ := q_bigW hI hB1 hT0
  replace btt0_0 : q_F (0 ≤ t0_0.toInt ∧ t0_0.toInt ≤ R.toInt) := btt0_0
  replace btt0_1 : q_F (0 ≤ t0_1.toInt ∧ t0_1.toInt ≤ 1) := btt0_1
  have hF : q_un ws ws [k1, k1 + 1] := q_u0
  have hl : lv_has ls 8 [(0, .ref (q k1)), (1, .int x2), (2, .int x3)] := hl
  refine lv_iload_n hx hb d_2_26_0 rfl (lv_at hl 2 rfl) ?_
  refine lv_i2l hx hb d_2_26_1 rfl ?_
  obtain ⟨j9, e10⟩ := q_nm (x3.toInt64 : Int64)
  refine q_tl (v := j9) e10 ?_
  have b11 : q_F (j9.toInt = x3.toInt) := (by rw [← e10]; show (x3.toInt64 : Int64).toInt = x3.toInt; exact q_i2l rfl)
  refine lv_lstore_n (lv' := [(3, .long j9), (0, .ref (q k1)), (1, .int x2), (2, .int x3)]) hx hb d_2_26_2 rfl hl (by decide) rfl (fun ls hl => ?_)
  refine lv_iconst (v := 0) hx hb d_2_26_3 (by decide) ?_
  refine lv_istore (lv' := [(5, .int 0), (3, .long j9), (0, .ref (q k1)), (1, .int x2), (2, .int x3)]) hx hb d_2_26_4 hl (by decide) rfl (fun ls hl => ?_)
  refine q_loop (X := Int32 × Int64 × (Nat → Int32)) (fun z H locs ls w21 => q_F (0 ≤ z.1.toInt) ∧ q_F (0 ≤ z.2.1.toInt + 2147483648) ∧ q_F (z.1.toInt ≤ t0_0.toInt) ∧ q_Wd D g (va_A ws sz) s w21 H locs ∧ lv_has ls 8 [(5, .int z.1), (3, .long z.2.1), (0, .ref (q k1)), (1, .int x2)] ∧ q_I (nsh g q) q w21 ∧ q_un ws w21 [k1, k1 + 1] ∧ w21[k1]? = (some (q k1, .inr (2, [.ref (q (k1 + 1)), .int t0_0, .int t0_1])) : Option (Nat × va_E)) ∧ w21[k1 + 1]? = (some (q (k1 + 1), .inl (g 0, R.toNatClampNeg, .inl z.2.2)) : Option (Nat × va_E)) ∧ (∃ n, (220 - z.1.toInt).toNat < n ∧ F_Big_multiplySmall_L6 R x2 x3 t0_0 t0_1 t1_0 n z.1 z.2.1 z.2.2 = (F_Big_multiplySmall R x2 x3 t0_0 t0_1 t1_0))) (fun z => (220 - z.1.toInt).toNat) ?_ ((0 : Int32), (j9 : Int64), (t1_0 : (Nat → Int32))) _ _ _ ws ⟨(show q_F (0 ≤ 0) from (show 0 ≤ 0 from by omega)), (show q_F (0 ≤ j9.toInt + 2147483648) from (show 0 ≤ j9.toInt + 2147483648 from by have t1 : j9.toInt = x3.toInt := b11; have _ := q_lo32 (x := x3); have _ := q_hi32 (x := x3); omega)), (show q_F (0 ≤ t0_0.toInt) from (show 0 ≤ t0_0.toInt from by have t1 : 0 ≤ t0_0.toInt ∧ t0_0.toInt ≤ R.toInt := btt0_0; omega)), V, q_lw hl (q_lw1 0 rfl (q_lw1 1 rfl (q_lw1 2 rfl (q_lw1 3 rfl q_lw0)))), hI, hF, hT0, hT1, ⟨((220 - (0 : Int32).toInt).toNat + 1), Nat.lt_succ_self _, (show F_Big_multiplySmall_L6 R x2 x3 t0_0 t0_1 t1_0 ((220 - (0 : Int32).toInt).toNat + 1) 0 j9 t1_0 = (F_Big_multiplySmall R x2 x3 t0_0 t0_1 t1_0) from (by subst e10; rw [F_Big_multiplySmall.eq_1]))⟩⟩
  rintro ⟨lx14, lx15, lx16⟩ H locs ls w21 ⟨i17, i18, i19, V, hl, hI, hF, hO22, hO23, ⟨fu25, hf26, hR24⟩⟩ ih20
  obtain ⟨fm27, rfl⟩ : ∃ m, fu25 = m + 1 := ⟨fu25 - 1, by omega⟩
  replace i17 : q_F (0 ≤ lx14.toInt) := i17
  clear i18
  replace i19 : q_F (lx14.toInt ≤ t0_0.toInt) := i19
  replace hl : lv_has ls 8 [(5, .int lx14), (3, .long lx15), (0, .ref (q k1)), (1, .int x2)] := hl
  replace hO22 : w21[k1]? = (some (q k1, .inr (2, [.ref (q (k1 + 1)), .int t0_0, .int t0_1])) : Option (Nat × va_E)) := hO22
  replace hO23 : w21[k1 + 1]? = (some (q (k1 + 1), .inl (g 0, R.toNatClampNeg, .inl lx16)) : Option (Nat × va_E)) := hO23
  refine lv_iload hx hb d_2_26_6 (lv_at hl 0 rfl) ?_
  refine lv_aload_n hx hb d_2_26_8 rfl (lv_at hl 2 rfl) ?_
  refine q_get (ci := 2) (j := 1) (v := .int t0_0) C0 V i_Big rfl rfl hO22 (by decide) w_85 rfl d_2_26_9 ?_
  refine lv_icmp_ge (tgt := 56) hx hb d_2_26_12 (by decide) (fun c28 => ?_) (fun c28 => ?_)
  ·
    refine lv_lload_n hx hb d_2_26_56 rfl (lv_at hl 1 rfl) ?_
    refine lv_lconst (v := 0) hx hb d_2_26_57 (by decide) ?_
    refine W.lcmp hx hb d_2_26_58 ?_
    obtain ⟨a30, e31⟩ := q_nm (lg_cmp lx15 0 : Int32)
    refine q_ti (v := a30) e31 ?_
    refine lv_if_eq (tgt := 95) hx hb d_2_26_59 (by decide) (fun c33 => ?_) (fun c33 => ?_)
    ·
      exact q_retv C0 V (⟨hI, hF, t0_0, t0_1, lx16, hO22, hO23, (show t0_0.toInt ≤ t0_0.toInt from (by omega)), (show t0_0.toInt ≤ t0_0.toInt + 1 from (by omega)), (show t0_0.toInt ≤ R.toInt from (by first | with_reducible exact (q_fe btt0_0).2 | with_reducible exact (q_fe btt0_0).1 | (have t1 : 0 ≤ t0_0.toInt ∧ t0_0.toInt ≤ R.toInt := btt0_0; omega))), (show t0_1.toInt ≤ t0_1.toInt from (by omega)), (show t0_1.toInt ≤ t0_1.toInt from (by omega)), (show (t0_0, t0_1, lx16) = (F_Big_multiplySmall R x2 x3 t0_0 t0_1 t1_0) from Eq.trans (by subst e10; subst e31; rw [F_Big_multiplySmall_L6.eq_2, if_pos c28, if_pos c33]) hR24)⟩) d_2_26_95
    ·
      refine lv_aload_n hx hb d_2_26_62 rfl (lv_at hl 2 rfl) ?_
      refine q_get (ci := 2) (j := 1) (v := .int t0_0) C0 V i_Big rfl rfl hO22 (by decide) w_85 rfl d_2_26_63 ?_
      refine lv_aload_n hx hb d_2_26_66 rfl (lv_at hl 2 rfl) ?_
      refine q_get (ci := 2) (j := 0) (v := .ref (q (k1 + 1))) C0 V i_Big rfl rfl hO22 (by decide) w_84 rfl d_2_26_67 ?_
      refine q_alen (t := 0) (v := R) C0 V hO23 rfl (s_len (by first | with_reducible exact (q_fe hfk10).2 | with_reducible exact (q_fe hfk10).1 | (have t1 : 0 ≤ R.toInt ∧ R.toInt ≤ 220 := hfk10; omega))) d_2_26_70 ?_
      refine lv_icmp_ge (tgt := 95) hx hb d_2_26_71 (by decide) (fun c36 => ?_) (fun c36 => ?_)
      ·
        exact q_retv C0 V (⟨hI, hF, t0_0, t0_1, lx16, hO22, hO23, (show t0_0.toInt ≤ t0_0.toInt from (by omega)), (show t0_0.toInt ≤ t0_0.toInt + 1 from (by omega)), (show t0_0.toInt ≤ R.toInt from (by first | with_reducible exact (q_fe btt0_0).2 | with_reducible exact (q_fe btt0_0).1 | (have t1 : 0 ≤ t0_0.toInt ∧ t0_0.toInt ≤ R.toInt := btt0_0; omega))), (show t0_1.toInt ≤ t0_1.toInt from (by omega)), (show t0_1.toInt ≤ t0_1.toInt from (by omega)), (show (t0_0, t0_1, lx16) = (F_Big_multiplySmall R x2 x3 t0_0 t0_1 t1_0) from Eq.trans (by subst e10; subst e31; rw [F_Big_multiplySmall_L6.eq_2, if_pos c28, if_neg c33, if_pos c36]) hR24)⟩) d_2_26_95
      ·
        have b38 : q_F (t0_0.toInt < R.toInt) := (q_nleI c36)
        refine lv_aload_n hx hb d_2_26_74 rfl (lv_at hl 2 rfl) ?_
        refine q_get (ci := 2) (j := 0) (v := .ref (q (k1 + 1))) C0 V i_Big rfl rfl hO22 (by decide) w_84 rfl d_2_26_75 ?_
        refine lv_aload_n hx hb d_2_26_78 rfl (lv_at hl 2 rfl) ?_
        refine q_get (ci := 2) (j := 1) (v := .int t0_0) C0 V i_Big rfl rfl hO22 (by decide) w_85 rfl d_2_26_79 ?_
        refine lv_lload_n hx hb d_2_26_82 rfl (lv_at hl 1 rfl) ?_
        refine lv_l2i hx hb d_2_26_83 rfl ?_
        obtain ⟨a39, e40⟩ := q_nm (lx15.toInt32 : Int32)
        refine q_ti (v := a39) e40 ?_
        refine q_iast C0 V hO23 (q_ix (x := t0_0.toInt) rfl (by first | with_reducible exact (q_fe btt0_0).2 | with_reducible exact (q_fe btt0_0).1 | (have t1 : 0 ≤ t0_0.toInt ∧ t0_0.toInt ≤ R.toInt := btt0_0; omega)) (by have t1 : 0 ≤ t0_0.toInt ∧ t0_0.toInt ≤ R.toInt := btt0_0; have t2 : t0_0.toInt < R.toInt := b38; have e9 := q_clI (i := R) rfl (by first | with_reducible exact (q_fe hfk10).2 | with_reducible exact (q_fe hfk10).1 | (have t1 : 0 ≤ R.toInt ∧ R.toInt ≤ 220 := hfk10; omega)); omega)) d_2_26_84 (fun H locs w41 hu42 hO23 V => ?_)
        replace hI := q_bigA' hI hB1 hu42 hO23 (q_updB (fun _ => s_bnd) s_bnd)
        replace hO22 := (hu42 _ (by omega)).trans hO22
        replace hF := q_us hF hu42 (by simp)
        obtain ⟨f43, e44⟩ := q_nm (upd lx16 t0_0.toNatClampNeg a39 : (Nat → Int32))
        rw [e44] at hO23
        refine lv_aload_n hx hb d_2_26_85 rfl (lv_at hl 2 rfl) ?_
        refine lv_dup hx hb d_2_26_86 rfl ?_
        refine q_get (ci := 2) (j := 1) (v := .int t0_0) C0 V i_Big rfl rfl hO22 (by decide) w_85 rfl d_2_26_87 ?_
        refine lv_iconst (v := 1) hx hb d_2_26_90 (by decide) ?_
        refine lv_iadd hx hb d_2_26_91 ?_
        obtain ⟨a45, e46⟩ := q_nm (t0_0 + 1 : Int32)
        refine q_ti (v := a45) e46 ?_
        have b47 : q_F (a45.toInt = t0_0.toInt + 1) := (by rw [← e46]; show (t0_0 + 1 : Int32).toInt = t0_0.toInt + 1; exact q_addI (x := t0_0.toInt) (y := 1) rfl (by decide) (by have t1 : 0 ≤ t0_0.toInt ∧ t0_0.toInt ≤ R.toInt := btt0_0; have t2 : t0_0.toInt < R.toInt := b38; have _ := q_lo32 (x := R); have _ := q_hi32 (x := R); omega) (by have t1 : 0 ≤ t0_0.toInt ∧ t0_0.toInt ≤ R.toInt := btt0_0; have t2 : t0_0.toInt < R.toInt := b38; have _ := q_lo32 (x := R); have _ := q_hi32 (x := R); omega))
        refine q_put (ci := 2) (j := 1) (v := .int a45) (ty := .int) C0 V i_Big o_Big n_Big rfl rfl hO22 (by decide) w_85 rfl rfl rfl rfl (Nat.le_of_ble_eq_true rfl) d_2_26_92 (fun H locs w48 hu49 hO22 V => ?_)
        replace hO22 : w48[k1]? = (some (q k1, .inr (2, [.ref (q (k1 + 1)), .int a45, .int t0_1])) : Option (Nat × va_E)) := hO22
        replace hI := q_bigO' hI hB1 hu49 hO22 ⟨(by have t1 : 0 ≤ t0_0.toInt ∧ t0_0.toInt ≤ R.toInt := btt0_0; have t2 : a45.toInt = t0_0.toInt + 1 := b47; omega), (by have t1 : t0_0.toInt < R.toInt := b38; have t2 : a45.toInt = t0_0.toInt + 1 := b47; omega)⟩ (by first | with_reducible exact q_fe btt0_1 | exact ⟨(by have t1 : 0 ≤ t0_1.toInt ∧ t0_1.toInt ≤ 1 := btt0_1; omega), (by have t1 : 0 ≤ t0_1.toInt ∧ t0_1.toInt ≤ 1 := btt0_1; omega)⟩)
        replace hO23 := (hu49 _ (by omega)).trans hO23
        replace hF := q_us hF hu49 (by simp)
        exact q_retv C0 V (⟨hI, hF, a45, t0_1, f43, hO22, hO23, (show t0_0.toInt ≤ a45.toInt from (by first | with_reducible exact q_fe b47 | (have t1 : a45.toInt = t0_0.toInt + 1 := b47; omega))), (show a45.toInt ≤ t0_0.toInt + 1 from (by first | with_reducible exact q_fe b47 | (have t1 : a45.toInt = t0_0.toInt + 1 := b47; omega))), (show a45.toInt ≤ R.toInt from (by have t1 : t0_0.toInt < R.toInt := b38; have t2 : a45.toInt = t0_0.toInt + 1 := b47; omega)), (show t0_1.toInt ≤ t0_1.toInt from (by omega)), (show t0_1.toInt ≤ t0_1.toInt from (by omega)), (show (a45, t0_1, f43) = (F_Big_multiplySmall R x2 x3 t0_0 t0_1 t1_0) from Eq.trans (by subst e10; subst e31; subst e40; subst e44; subst e46; rw [F_Big_multiplySmall_L6.eq_2, if_pos c28, if_neg c33, if_neg c36]) hR24)⟩) d_2_26_95
  ·
    have b50 : q_F (lx14.toInt < t0_0.toInt) := (q_nleI c28)
    refine lv_aload_n hx hb d_2_26_15 rfl (lv_at hl 2 rfl) ?_
    refine q_get (ci := 2) (j := 0) (v := .ref (q (k1 + 1))) C0 V i_Big rfl rfl hO22 (by decide) w_84 rfl d_2_26_16 ?_
    refine lv_iload hx hb d_2_26_19 (lv_at hl 0 rfl) ?_
    refine q_iald C0 V hO23 (q_ix (x := lx14.toInt) rfl (by first | with_reducible exact q_fe i17 | (have t1 : 0 ≤ lx14.toInt := i17; omega)) (by have t1 : 0 ≤ lx14.toInt := i17; have t2 : 0 ≤ t0_0.toInt ∧ t0_0.toInt ≤ R.toInt := btt0_0; have t3 : lx14.toInt < t0_0.toInt := b50; have e9 := q_clI (i := R) rfl (by first | with_reducible exact (q_fe hfk10).2 | with_reducible exact (q_fe hfk10).1 | (have t1 : 0 ≤ R.toInt ∧ R.toInt ≤ 220 := hfk10; omega)); omega)) d_2_26_21 ?_
    obtain ⟨a51, e52⟩ := q_nm (lx16 lx14.toNatClampNeg : Int32)
    refine q_ti (v := a51) e52 ?_
    refine lv_i2l hx hb d_2_26_22 rfl ?_
    obtain ⟨j53, e54⟩ := q_nm (a51.toInt64 : Int64)
    refine q_tl (v := j53) e54 ?_
    refine lv_iload_n hx hb d_2_26_23 rfl (lv_at hl 3 rfl) ?_
    refine lv_i2l hx hb d_2_26_24 rfl ?_
    obtain ⟨j56, e57⟩ := q_nm (x2.toInt64 : Int64)
    refine q_tl (v := j56) e57 ?_
    refine lv_lmul hx hb d_2_26_25 ?_
    obtain ⟨j59, e60⟩ := q_nm (j53 * j56 : Int64)
    refine q_tl (v := j59) e60 ?_
    refine lv_lload_n hx hb d_2_26_26 rfl (lv_at hl 1 rfl) ?_
    refine lv_ladd hx hb d_2_26_27 ?_
    obtain ⟨j61, e62⟩ := q_nm (j59 + lx15 : Int64)
    refine q_tl (v := j61) e62 ?_
    refine lv_lstore (lv' := [(6, .long j61), (5, .int lx14), (3, .long lx15), (0, .ref (q k1)), (1, .int x2)]) hx hb d_2_26_28 hl (by decide) rfl (fun ls hl => ?_)
    refine lv_aload_n hx hb d_2_26_30 rfl (lv_at hl 3 rfl) ?_
    refine q_get (ci := 2) (j := 0) (v := .ref (q (k1 + 1))) C0 V i_Big rfl rfl hO22 (by decide) w_84 rfl d_2_26_31 ?_
    refine lv_iload hx hb d_2_26_34 (lv_at hl 1 rfl) ?_
    refine lv_lload hx hb d_2_26_36 (lv_at hl 0 rfl) ?_
    refine q_ldc2 C0 rfl w_201 d_2_26_38 ?_
    refine lv_land hx hb d_2_26_41 ?_
    obtain ⟨j63, e64⟩ := q_nm (j61 &&& 2147483647 : Int64)
    refine q_tl (v := j63) e64 ?_
    refine lv_l2i hx hb d_2_26_42 rfl ?_
    obtain ⟨a66, e67⟩ := q_nm (j63.toInt32 : Int32)
    refine q_ti (v := a66) e67 ?_
    refine q_iast C0 V hO23 (q_ix (x := lx14.toInt) rfl (by first | with_reducible exact q_fe i17 | (have t1 : 0 ≤ lx14.toInt := i17; omega)) (by have t1 : 0 ≤ lx14.toInt := i17; have t2 : 0 ≤ t0_0.toInt ∧ t0_0.toInt ≤ R.toInt := btt0_0; have t3 : lx14.toInt < t0_0.toInt := b50; have e9 := q_clI (i := R) rfl (by first | with_reducible exact (q_fe hfk10).2 | with_reducible exact (q_fe hfk10).1 | (have t1 : 0 ≤ R.toInt ∧ R.toInt ≤ 220 := hfk10; omega)); omega)) d_2_26_43 (fun H locs w69 hu70 hO23 V => ?_)
    replace hI := q_bigA' hI hB1 hu70 hO23 (q_updB (fun _ => s_bnd) s_bnd)
    replace hO22 := (hu70 _ (by omega)).trans hO22
    replace hF := q_us hF hu70 (by simp)
    obtain ⟨f71, e72⟩ := q_nm (upd lx16 lx14.toNatClampNeg a66 : (Nat → Int32))
    rw [e72] at hO23
    refine lv_lload hx hb d_2_26_44 (lv_at hl 0 rfl) ?_
    refine lv_bipush (v := 31) hx hb d_2_26_46 (by decide) ?_
    refine lv_lushr hx hb d_2_26_48 rfl ?_
    obtain ⟨j73, e74⟩ := q_nm ((j61.toUInt64 >>> ((31 : Int32).toInt64.toUInt64 &&& Int64.toUInt64 63)).toInt64 : Int64)
    refine q_tl (v := j73) e74 ?_
    have b75 : q_F (0 ≤ j73.toInt ∧ j73.toInt ≤ 8589934591) := (by rw [← e74]; show 0 ≤ ((j61.toUInt64 >>> ((31 : Int32).toInt64.toUInt64 &&& Int64.toUInt64 63)).toInt64 : Int64).toInt ∧ ((j61.toUInt64 >>> ((31 : Int32).toInt64.toUInt64 &&& Int64.toUInt64 63)).toInt64 : Int64).toInt ≤ 8589934591; exact (by have z := s_ushrJ (x := j61) (c := 31) 31 (by decide) (by decide); omega))
    refine lv_lstore_n (lv' := [(3, .long j73), (6, .long j61), (5, .int lx14), (0, .ref (q k1)), (1, .int x2)]) hx hb d_2_26_49 rfl hl (by decide) rfl (fun ls hl => ?_)
    obtain ⟨a76, e77⟩ := q_nm (lx14 + 1 : Int32)
    have b78 : q_F (a76.toInt = lx14.toInt + 1) := (by rw [← e77]; exact q_addI (y := 1) rfl (by decide) (by have t1 : 0 ≤ lx14.toInt := i17; have t2 : lx14.toInt < t0_0.toInt := b50; have _ := q_lo32 (x := t0_0); have _ := q_hi32 (x := t0_0); omega) (by have t1 : 0 ≤ lx14.toInt := i17; have t2 : lx14.toInt < t0_0.toInt := b50; have _ := q_lo32 (x := t0_0); have _ := q_hi32 (x := t0_0); omega))
    refine lv_iinc (v := a76) (lv' := [(5, .int a76), (3, .long j73), (6, .long j61), (0, .ref (q k1)), (1, .int x2)]) hx hb d_2_26_50 hl (k := 2) rfl (e77) (by decide) rfl (fun ls hl => ?_)
    refine lv_goto (tgt := 6) hx hb d_2_26_53 (by decide) ?_
    exact ih20 ((a76 : Int32), (j73 : Int64), (f71 : (Nat → Int32))) _ _ _ _ (show (220 - a76.toInt).toNat < (220 - lx14.toInt).toNat from by have t1 : a76.toInt = lx14.toInt + 1 := b78; have t2 : 0 ≤ R.toInt ∧ R.toInt ≤ 220 := hfk10; have t3 : 0 ≤ t0_0.toInt ∧ t0_0.toInt ≤ R.toInt := btt0_0; have t4 : lx14.toInt ≤ t0_0.toInt := i19; have t5 : lx14.toInt < t0_0.toInt := b50; omega) ⟨(show q_F (0 ≤ a76.toInt) from (show 0 ≤ a76.toInt from by have t1 : 0 ≤ lx14.toInt := i17; have t2 : a76.toInt = lx14.toInt + 1 := b78; omega)), (show q_F (0 ≤ j73.toInt + 2147483648) from (show 0 ≤ j73.toInt + 2147483648 from by have t1 : 0 ≤ j73.toInt ∧ j73.toInt ≤ 8589934591 := b75; omega)), (show q_F (a76.toInt ≤ t0_0.toInt) from (show a76.toInt ≤ t0_0.toInt from by have t1 : lx14.toInt < t0_0.toInt := b50; have t2 : a76.toInt = lx14.toInt + 1 := b78; omega)), V, q_lw hl (q_lw1 0 rfl (q_lw1 1 rfl (q_lw1 3 rfl (q_lw1 4 rfl q_lw0)))), hI, hF, hO22, hO23, ⟨fm27, Nat.lt_of_lt_of_le (show (220 - a76.toInt).toNat < (220 - lx14.toInt).toNat from by have t1 : a76.toInt = lx14.toInt + 1 := b78; have t2 : 0 ≤ R.toInt ∧ R.toInt ≤ 220 := hfk10; have t3 : 0 ≤ t0_0.toInt ∧ t0_0.toInt ≤ R.toInt := btt0_0; have t4 : lx14.toInt ≤ t0_0.toInt := i19; have t5 : lx14.toInt < t0_0.toInt := b50; omega) (Nat.le_of_lt_succ hf26), (show F_Big_multiplySmall_L6 R x2 x3 t0_0 t0_1 t1_0 fm27 a76 j73 f71 = (F_Big_multiplySmall R x2 x3 t0_0 t0_1 t1_0) from Eq.trans (by subst e10; subst e52; subst e54; subst e57; subst e60; subst e62; subst e64; subst e67; subst e72; subst e74; subst e77; rw [F_Big_multiplySmall_L6.eq_2, if_neg c28]) hR24)⟩⟩
def F_Big_divideSmall_L16 (R : Int32) (x2 : Int32) (t0_0 : Int32) (t0_1 : Int32) (t1_0 : (Nat → Int32)) (a9 : Int32) : Nat → Int32 → Int64 → (Nat → Int32) → (Int32 × Int32 × Int32 × (Nat → Int32))
  | 0, _, _, _ => default
  | fm + 1, lx17, lx18, lx19 => if lx17 < (0 : Int32) then (((lx18.toInt32 : Int32), ((F_Big_trim R t0_0 t0_1 lx19).1 : Int32), ((F_Big_trim R t0_0 t0_1 lx19).2 : Int32), lx19)) else (F_Big_divideSmall_L16 R x2 t0_0 t0_1 t1_0 a9 fm (lx17 + (-1) : Int32) (((lx18 <<< ((31 : Int32).toInt64 &&& 63) : Int64) ||| ((lx19 lx17.toNatClampNeg : Int32).toInt64 : Int64) : Int64) - ((lx18 <<< ((31 : Int32).toInt64 &&& 63) : Int64) ||| ((lx19 lx17.toNatClampNeg : Int32).toInt64 : Int64) : Int64) / (a9.toInt64 : Int64) * (a9.toInt64 : Int64) : Int64) (upd lx19 lx17.toNatClampNeg ((((lx18 <<< ((31 : Int32).toInt64 &&& 63) : Int64) ||| ((lx19 lx17.toNatClampNeg : Int32).toInt64 : Int64) : Int64) / (a9.toInt64 : Int64) : Int64).toInt32 : Int32) : (Nat → Int32)))
def F_Big_divideSmall (R : Int32) (x2 : Int32) (t0_0 : Int32) (t0_1 : Int32) (t1_0 : (Nat → Int32)) : Int32 × Int32 × Int32 × (Nat → Int32) := F_Big_divideSmall_L16 R x2 t0_0 t0_1 t1_0 (if x2 < 1 then 1 else x2 : Int32) (((t0_0 - 1 : Int32).toInt - ((-1))).toNat + 1) (t0_0 - 1 : Int32) 0 t1_0
set_option maxRecDepth 100000 in
set_option maxHeartbeats 4000000 in
theorem X_Big_divideSmall (l : Launch) (D : va_G) (g : Nat → ClassId) (q : Nat → Nat) (ws : va_W) (k1 : Nat) (R : Int32) (hB1 : q_isBig (nsh g q) g q k1 R) (zk1 : (10 ≤ k1 ∧ k1 ≤ 32) ∨ 66 ≤ k1) (x2 : Int32) (hI : q_I (nsh g q) q ws) (t0_0 : Int32) (t0_1 : Int32) (hT0 : ws[k1]? = (some (q k1, .inr (2, [.ref (q (k1 + 1)), .int t0_0, .int t0_1])) : Option (Nat × va_E))) (t1_0 : (Nat → Int32)) (hT1 : ws[k1 + 1]? = (some (q (k1 + 1), .inl (g 0, R.toNatClampNeg, .inl t1_0)) : Option (Nat × va_E))) : q_mI l y_Big_divideSmall prog_2_method_27_code 8 (.int) 2 0 0 D g [.ref (q k1), .int x2] ws (fun r u => q_I (nsh g q) q u ∧ q_un ws u [k1, k1 + 1] ∧ ∃ (u0_0 : Int32) (u0_1 : Int32) (u1_0 : (Nat → Int32)), u[k1]? = (some (q k1, .inr (2, [.ref (q (k1 + 1)), .int u0_0, .int u0_1])) : Option (Nat × va_E)) ∧ u[k1 + 1]? = (some (q (k1 + 1), .inl (g 0, R.toNatClampNeg, .inl u1_0)) : Option (Nat × va_E)) ∧ (0 ≤ u0_1.toInt) ∧ (u0_0.toInt ≤ t0_0.toInt) ∧ (u0_1.toInt ≤ t0_1.toInt) ∧ (u0_1.toInt ≤ u0_0.toInt) ∧ (r, u0_0, u0_1, u1_0) = (F_Big_divideSmall R x2 t0_0 t0_1 t1_0)) := by
  intro sz
  refine q_into (by decide) (Nat.le_of_ble_eq_true rfl) ?_
  intro p e s m below meth c ls hsz C0 V hl
  have hx := C0.1
  have hb := C0.2.1
  have hfk10 : q_F (0 ≤ R.toInt ∧ R.toInt ≤ 220) := hB1.2.2
  have btt0_0 := (q_bigW hI hB1 hT0).1
  replace btt0_0 : q_F (0 ≤ t0_0.toInt ∧ t0_0.toInt ≤ R.toInt) := btt0_0
  have hF : q_un ws ws [k1, k1 + 1] := q_u0
  have hl : lv_has ls 8 [(0, .ref (q k1)), (1, .int x2)] := hl
  refine lv_iload_n hx hb d_2_27_0 rfl (lv_at hl 1 rfl) ?_
  refine lv_iconst (v := 1) hx hb d_2_27_1 (by decide) ?_
  refine q_max C0 hl.1 rfl w_1043 w_803 w_7 w_804 ⟨Nat.le_of_ble_eq_true rfl, Nat.le_of_ble_eq_true rfl⟩ ⟨Nat.le_of_ble_eq_true rfl, Nat.le_of_ble_eq_true rfl⟩ d_2_27_2 ?_
  obtain ⟨a9, e10⟩ := q_nm (if x2 < 1 then 1 else x2 : Int32)
  refine q_ti (v := a9) e10 ?_
  have b11 : q_F (x2.toInt ≤ a9.toInt ∧ 1 ≤ a9.toInt ∧ (a9.toInt = x2.toInt ∨ a9.toInt = 1)) := (by rw [← e10]; show x2.toInt ≤ (if x2 < 1 then 1 else x2 : Int32).toInt ∧ 1 ≤ (if x2 < 1 then 1 else x2 : Int32).toInt ∧ ((if x2 < 1 then 1 else x2 : Int32).toInt = x2.toInt ∨ (if x2 < 1 then 1 else x2 : Int32).toInt = 1); exact (by have y1 : (1 : Int32).toInt = 1 := rfl; have z := s_max (a := x2) (b := 1); omega))
  refine lv_istore_n (lv' := [(2, .int a9), (0, .ref (q k1)), (1, .int x2)]) hx hb d_2_27_5 rfl hl (by decide) rfl (fun ls hl => ?_)
  refine lv_lconst (v := 0) hx hb d_2_27_6 (by decide) ?_
  refine lv_lstore_n (lv' := [(3, .long 0), (2, .int a9), (0, .ref (q k1)), (1, .int x2)]) hx hb d_2_27_7 rfl hl (by decide) rfl (fun ls hl => ?_)
  refine lv_aload_n hx hb d_2_27_8 rfl (lv_at hl 2 rfl) ?_
  refine q_get (ci := 2) (j := 1) (v := .int t0_0) C0 V i_Big rfl rfl hT0 (by decide) w_85 rfl d_2_27_9 ?_
  refine lv_iconst (v := 1) hx hb d_2_27_12 (by decide) ?_
  refine lv_isub hx hb d_2_27_13 ?_
  obtain ⟨a12, e13⟩ := q_nm (t0_0 - 1 : Int32)
  refine q_ti (v := a12) e13 ?_
  have b14 : q_F (a12.toInt = t0_0.toInt - 1) := (by rw [← e13]; show (t0_0 - 1 : Int32).toInt = t0_0.toInt - 1; exact q_subI (x := t0_0.toInt) (y := 1) rfl (by decide) (by have t1 : 0 ≤ t0_0.toInt ∧ t0_0.toInt ≤ R.toInt := btt0_0; have _ := q_lo32 (x := R); have _ := q_hi32 (x := R); omega) (by have t1 : 0 ≤ t0_0.toInt ∧ t0_0.toInt ≤ R.toInt := btt0_0; have _ := q_lo32 (x := R); have _ := q_hi32 (x := R); omega))
  refine lv_istore (lv' := [(5, .int a12), (3, .long 0), (2, .int a9), (0, .ref (q k1)), (1, .int x2)]) hx hb d_2_27_14 hl (by decide) rfl (fun ls hl => ?_)
  refine q_loop (X := Int32 × Int64 × (Nat → Int32)) (fun z H locs ls w23 => q_F (0 ≤ z.1.toInt + 1) ∧ q_F (z.1.toInt + 1 ≤ t0_0.toInt) ∧ q_Wd D g (va_A ws sz) s w23 H locs ∧ lv_has ls 8 [(5, .int z.1), (3, .long z.2.1), (2, .int a9), (0, .ref (q k1))] ∧ q_I (nsh g q) q w23 ∧ q_un ws w23 [k1, k1 + 1] ∧ w23[k1]? = (some (q k1, .inr (2, [.ref (q (k1 + 1)), .int t0_0, .int t0_1])) : Option (Nat × va_E)) ∧ w23[k1 + 1]? = (some (q (k1 + 1), .inl (g 0, R.toNatClampNeg, .inl z.2.2)) : Option (Nat × va_E)) ∧ (∃ n, (z.1.toInt - ((-1))).toNat < n ∧ F_Big_divideSmall_L16 R x2 t0_0 t0_1 t1_0 a9 n z.1 z.2.1 z.2.2 = (F_Big_divideSmall R x2 t0_0 t0_1 t1_0))) (fun z => (z.1.toInt - ((-1))).toNat) ?_ ((a12 : Int32), (0 : Int64), (t1_0 : (Nat → Int32))) _ _ _ ws ⟨(show q_F (0 ≤ a12.toInt + 1) from (show 0 ≤ a12.toInt + 1 from by have t1 : 0 ≤ t0_0.toInt ∧ t0_0.toInt ≤ R.toInt := btt0_0; have t2 : a12.toInt = t0_0.toInt - 1 := b14; omega)), (show q_F (a12.toInt + 1 ≤ t0_0.toInt) from (show a12.toInt + 1 ≤ t0_0.toInt from by have t1 : a12.toInt = t0_0.toInt - 1 := b14; omega)), V, q_lw hl (q_lw1 0 rfl (q_lw1 1 rfl (q_lw1 2 rfl (q_lw1 3 rfl q_lw0)))), hI, hF, hT0, hT1, ⟨((a12.toInt - ((-1))).toNat + 1), Nat.lt_succ_self _, (show F_Big_divideSmall_L16 R x2 t0_0 t0_1 t1_0 a9 ((a12.toInt - ((-1))).toNat + 1) a12 0 t1_0 = (F_Big_divideSmall R x2 t0_0 t0_1 t1_0) from (by subst e10; subst e13; rw [F_Big_divideSmall.eq_1]))⟩⟩
  rintro ⟨lx17, lx18, lx19⟩ H locs ls w23 ⟨i20, i21, V, hl, hI, hF, hO24, hO25, ⟨fu27, hf28, hR26⟩⟩ ih22
  obtain ⟨fm29, rfl⟩ : ∃ m, fu27 = m + 1 := ⟨fu27 - 1, by omega⟩
  replace i20 : q_F (0 ≤ lx17.toInt + 1) := i20
  replace i21 : q_F (lx17.toInt + 1 ≤ t0_0.toInt) := i21
  replace hl : lv_has ls 8 [(5, .int lx17), (3, .long lx18), (2, .int a9), (0, .ref (q k1))] := hl
  replace hO24 : w23[k1]? = (some (q k1, .inr (2, [.ref (q (k1 + 1)), .int t0_0, .int t0_1])) : Option (Nat × va_E)) := hO24
  replace hO25 : w23[k1 + 1]? = (some (q (k1 + 1), .inl (g 0, R.toNatClampNeg, .inl lx19)) : Option (Nat × va_E)) := hO25
  refine lv_iload hx hb d_2_27_16 (lv_at hl 0 rfl) ?_
  refine lv_if_lt (tgt := 61) hx hb d_2_27_18 (by decide) (fun c30 => ?_) (fun c30 => ?_)
  ·
    refine lv_aload_n hx hb d_2_27_61 rfl (lv_at hl 3 rfl) ?_
    refine q_gov V (q_runV (As := []) (rest := []) (d := 1) (mc := 0) (ms := 0) (ci := 2) C0 V rfl LV_Big_36 (X_Big_trim l D g q w23 k1 R hB1 zk1  hI t0_0 t0_1 hO24 lx19 hO25  _) rfl rfl hO24 rfl hl.1 rfl (Nat.le_of_ble_eq_true rfl) ⟨by decide, by decide⟩ ⟨Nat.le_of_ble_eq_true rfl, Nat.le_of_ble_eq_true rfl⟩ d_2_27_62) (fun u32 H locs hp33 V => ?_)
    obtain ⟨hI, hZ9⟩ := hp33
    obtain ⟨hu42, hZ9⟩ := hZ9
    obtain ⟨y35, hZ9⟩ := hZ9
    obtain ⟨y36, hZ9⟩ := hZ9
    obtain ⟨hO34, hZ9⟩ := hZ9
    obtain ⟨b37, hZ9⟩ := hZ9
    obtain ⟨b38, hZ9⟩ := hZ9
    obtain ⟨b39, hZ9⟩ := hZ9
    obtain ⟨b40, hE41⟩ := hZ9
    replace hO34 : u32[k1]? = (some (q k1, .inr (2, [.ref (q (k1 + 1)), .int y35, .int y36])) : Option (Nat × va_E)) := hO34
    have e43 : y35 = (F_Big_trim R t0_0 t0_1 lx19).1 := congrArg (fun z => z.1) hE41
    have e44 : y36 = (F_Big_trim R t0_0 t0_1 lx19).2 := congrArg (fun z => z.2) hE41
    replace b37 : q_F (0 ≤ y36.toInt) := b37
    replace b38 : q_F (y35.toInt ≤ t0_0.toInt) := b38
    replace b39 : q_F (y36.toInt ≤ t0_1.toInt) := b39
    replace b40 : q_F (y36.toInt ≤ y35.toInt) := b40
    replace hO25 := (hu42 _ (by have z0 := zk1; simp only [List.mem_cons, List.not_mem_nil, or_false, not_or]; omega)).trans hO25
    replace hF := q_uc hF hu42 (by simp)
    refine lv_lload_n hx hb d_2_27_65 rfl (lv_at hl 1 rfl) ?_
    refine lv_l2i hx hb d_2_27_66 rfl ?_
    obtain ⟨a45, e46⟩ := q_nm (lx18.toInt32 : Int32)
    refine q_ti (v := a45) e46 ?_
    exact q_reti C0 V (⟨hI, hF, y35, y36, lx19, hO34, hO25, (show 0 ≤ y36.toInt from (by first | with_reducible exact q_fe b37 | (have t1 : 0 ≤ y36.toInt := b37; omega))), (show y35.toInt ≤ t0_0.toInt from (by first | with_reducible exact q_fe b38 | (have t1 : y35.toInt ≤ t0_0.toInt := b38; omega))), (show y36.toInt ≤ t0_1.toInt from (by first | with_reducible exact q_fe b39 | (have t1 : y36.toInt ≤ t0_1.toInt := b39; omega))), (show y36.toInt ≤ y35.toInt from (by first | with_reducible exact q_fe b40 | (have t1 : y36.toInt ≤ y35.toInt := b40; omega))), (show (a45, y35, y36, lx19) = (F_Big_divideSmall R x2 t0_0 t0_1 t1_0) from Eq.trans (by subst e10; subst e13; subst e43; subst e44; subst e46; rw [F_Big_divideSmall_L16.eq_2, if_pos c30]) hR26)⟩) d_2_27_67
  ·
    have b47 : q_F (0 ≤ lx17.toInt) := (q_nltI c30)
    refine lv_lload_n hx hb d_2_27_21 rfl (lv_at hl 1 rfl) ?_
    refine lv_bipush (v := 31) hx hb d_2_27_22 (by decide) ?_
    refine lv_lshl hx hb d_2_27_24 rfl ?_
    obtain ⟨j48, e49⟩ := q_nm (lx18 <<< ((31 : Int32).toInt64 &&& 63) : Int64)
    refine q_tl (v := j48) e49 ?_
    refine lv_aload_n hx hb d_2_27_25 rfl (lv_at hl 3 rfl) ?_
    refine q_get (ci := 2) (j := 0) (v := .ref (q (k1 + 1))) C0 V i_Big rfl rfl hO24 (by decide) w_84 rfl d_2_27_26 ?_
    refine lv_iload hx hb d_2_27_29 (lv_at hl 0 rfl) ?_
    refine q_iald C0 V hO25 (q_ix (x := lx17.toInt) rfl (by first | with_reducible exact q_fe b47 | (have t1 : 0 ≤ lx17.toInt := b47; omega)) (by have t1 : 0 ≤ lx17.toInt := b47; have t2 : 0 ≤ t0_0.toInt ∧ t0_0.toInt ≤ R.toInt := btt0_0; have t3 : lx17.toInt + 1 ≤ t0_0.toInt := i21; have e9 := q_clI (i := R) rfl (by first | with_reducible exact (q_fe hfk10).2 | with_reducible exact (q_fe hfk10).1 | (have t1 : 0 ≤ R.toInt ∧ R.toInt ≤ 220 := hfk10; omega)); omega)) d_2_27_31 ?_
    obtain ⟨a50, e51⟩ := q_nm (lx19 lx17.toNatClampNeg : Int32)
    refine q_ti (v := a50) e51 ?_
    refine lv_i2l hx hb d_2_27_32 rfl ?_
    obtain ⟨j52, e53⟩ := q_nm (a50.toInt64 : Int64)
    refine q_tl (v := j52) e53 ?_
    refine lv_lor hx hb d_2_27_33 ?_
    obtain ⟨j55, e56⟩ := q_nm (j48 ||| j52 : Int64)
    refine q_tl (v := j55) e56 ?_
    refine lv_lstore (lv' := [(6, .long j55), (5, .int lx17), (3, .long lx18), (2, .int a9), (0, .ref (q k1))]) hx hb d_2_27_34 hl (by decide) rfl (fun ls hl => ?_)
    refine lv_aload_n hx hb d_2_27_36 rfl (lv_at hl 4 rfl) ?_
    refine q_get (ci := 2) (j := 0) (v := .ref (q (k1 + 1))) C0 V i_Big rfl rfl hO24 (by decide) w_84 rfl d_2_27_37 ?_
    refine lv_iload hx hb d_2_27_40 (lv_at hl 1 rfl) ?_
    refine lv_lload hx hb d_2_27_42 (lv_at hl 0 rfl) ?_
    refine lv_iload_n hx hb d_2_27_44 rfl (lv_at hl 3 rfl) ?_
    refine lv_i2l hx hb d_2_27_45 rfl ?_
    obtain ⟨j57, e58⟩ := q_nm (a9.toInt64 : Int64)
    refine q_tl (v := j57) e58 ?_
    have b59 : q_F (j57.toInt = a9.toInt) := (by rw [← e58]; show (a9.toInt64 : Int64).toInt = a9.toInt; exact q_i2l rfl)
    refine lv_ldiv hx hb d_2_27_46 (s_nzL (by have t1 : x2.toInt ≤ a9.toInt ∧ 1 ≤ a9.toInt ∧ (a9.toInt = x2.toInt ∨ a9.toInt = 1) := b11; have t2 : j57.toInt = a9.toInt := b59; omega)) ?_
    obtain ⟨j60, e61⟩ := q_nm (j55 / j57 : Int64)
    refine q_tl (v := j60) e61 ?_
    refine lv_l2i hx hb d_2_27_47 rfl ?_
    obtain ⟨a62, e63⟩ := q_nm (j60.toInt32 : Int32)
    refine q_ti (v := a62) e63 ?_
    refine q_iast C0 V hO25 (q_ix (x := lx17.toInt) rfl (by first | with_reducible exact q_fe b47 | (have t1 : 0 ≤ lx17.toInt := b47; omega)) (by have t1 : 0 ≤ lx17.toInt := b47; have t2 : 0 ≤ t0_0.toInt ∧ t0_0.toInt ≤ R.toInt := btt0_0; have t3 : lx17.toInt + 1 ≤ t0_0.toInt := i21; have e9 := q_clI (i := R) rfl (by first | with_reducible exact (q_fe hfk10).2 | with_reducible exact (q_fe hfk10).1 | (have t1 : 0 ≤ R.toInt ∧ R.toInt ≤ 220 := hfk10; omega)); omega)) d_2_27_48 (fun H locs w64 hu65 hO25 V => ?_)
    replace hI := q_bigA' hI hB1 hu65 hO25 (q_updB (fun _ => s_bnd) s_bnd)
    replace hO24 := (hu65 _ (by omega)).trans hO24
    replace hF := q_us hF hu65 (by simp)
    obtain ⟨f66, e67⟩ := q_nm (upd lx19 lx17.toNatClampNeg a62 : (Nat → Int32))
    rw [e67] at hO25
    refine lv_lload hx hb d_2_27_49 (lv_at hl 0 rfl) ?_
    refine lv_iload_n hx hb d_2_27_51 rfl (lv_at hl 3 rfl) ?_
    refine lv_i2l hx hb d_2_27_52 rfl ?_
    obtain ⟨j68, e69⟩ := q_nm (a9.toInt64 : Int64)
    refine q_tl (v := j68) e69 ?_
    have b70 : q_F (j68.toInt = a9.toInt) := (by rw [← e69]; show (a9.toInt64 : Int64).toInt = a9.toInt; exact q_i2l rfl)
    refine lv_lrem hx hb d_2_27_53 (s_nzL (by have t1 : x2.toInt ≤ a9.toInt ∧ 1 ≤ a9.toInt ∧ (a9.toInt = x2.toInt ∨ a9.toInt = 1) := b11; have t2 : j68.toInt = a9.toInt := b70; omega)) ?_
    obtain ⟨j71, e72⟩ := q_nm (j55 - j55 / j68 * j68 : Int64)
    refine q_tl (v := j71) e72 ?_
    refine lv_lstore_n (lv' := [(3, .long j71), (6, .long j55), (5, .int lx17), (2, .int a9), (0, .ref (q k1))]) hx hb d_2_27_54 rfl hl (by decide) rfl (fun ls hl => ?_)
    obtain ⟨a73, e74⟩ := q_nm (lx17 + (-1) : Int32)
    have b75 : q_F (a73.toInt = lx17.toInt + (-1)) := (by rw [← e74]; exact q_addI (y := (-1)) rfl (by decide) (by have t1 : 0 ≤ lx17.toInt + 1 := i20; have _ := q_lo32 (x := lx17); have _ := q_hi32 (x := lx17); omega) (by have t1 : 0 ≤ lx17.toInt + 1 := i20; have _ := q_lo32 (x := lx17); have _ := q_hi32 (x := lx17); omega))
    refine lv_iinc (v := a73) (lv' := [(5, .int a73), (3, .long j71), (6, .long j55), (2, .int a9), (0, .ref (q k1))]) hx hb d_2_27_55 hl (k := 2) rfl (e74) (by decide) rfl (fun ls hl => ?_)
    refine lv_goto (tgt := 16) hx hb d_2_27_58 (by decide) ?_
    exact ih22 ((a73 : Int32), (j71 : Int64), (f66 : (Nat → Int32))) _ _ _ _ (show (a73.toInt - ((-1))).toNat < (lx17.toInt - ((-1))).toNat from by have t1 : a73.toInt = lx17.toInt + (-1) := b75; have t2 : 0 ≤ lx17.toInt + 1 := i20; have t3 : 0 ≤ lx17.toInt := b47; omega) ⟨(show q_F (0 ≤ a73.toInt + 1) from (show 0 ≤ a73.toInt + 1 from by have t1 : 0 ≤ lx17.toInt := b47; have t2 : a73.toInt = lx17.toInt + (-1) := b75; omega)), (show q_F (a73.toInt + 1 ≤ t0_0.toInt) from (show a73.toInt + 1 ≤ t0_0.toInt from by have t1 : lx17.toInt + 1 ≤ t0_0.toInt := i21; have t2 : a73.toInt = lx17.toInt + (-1) := b75; omega)), V, q_lw hl (q_lw1 0 rfl (q_lw1 1 rfl (q_lw1 3 rfl (q_lw1 4 rfl q_lw0)))), hI, hF, hO24, hO25, ⟨fm29, Nat.lt_of_lt_of_le (show (a73.toInt - ((-1))).toNat < (lx17.toInt - ((-1))).toNat from by have t1 : a73.toInt = lx17.toInt + (-1) := b75; have t2 : 0 ≤ lx17.toInt + 1 := i20; have t3 : 0 ≤ lx17.toInt := b47; omega) (Nat.le_of_lt_succ hf28), (show F_Big_divideSmall_L16 R x2 t0_0 t0_1 t1_0 a9 fm29 a73 j71 f66 = (F_Big_divideSmall R x2 t0_0 t0_1 t1_0) from Eq.trans (by subst e10; subst e13; subst e49; subst e51; subst e53; subst e56; subst e58; subst e61; subst e63; subst e67; subst e69; subst e72; subst e74; rw [F_Big_divideSmall_L16.eq_2, if_neg c30]) hR26)⟩⟩
def F_Big_timesTen_L2 (R : Int32) (x2 : Int32) (t0_0 : Int32) (t0_1 : Int32) (t1_0 : (Nat → Int32)) : Nat → Int32 → Int32 → Int32 → (Nat → Int32) → (Int32 × Int32 × (Nat → Int32))
  | 0, _, _, _, _ => default
  | fm + 1, lx14, lx15, lx16, lx17 => if lx14 ≤ (0 : Int32) then ((lx15, lx16, lx17)) else (F_Big_timesTen_L2 R x2 t0_0 t0_1 t1_0 fm (lx14 + (-9) : Int32) ((F_Big_multiplySmall R (Int32.ofNat (10 ^ (if 9 < lx14 then 9 else lx14 : Int32).toNatClampNeg) : Int32) (0 : Int32) lx15 lx16 lx17).1 : Int32) ((F_Big_multiplySmall R (Int32.ofNat (10 ^ (if 9 < lx14 then 9 else lx14 : Int32).toNatClampNeg) : Int32) (0 : Int32) lx15 lx16 lx17).2.1 : Int32) ((F_Big_multiplySmall R (Int32.ofNat (10 ^ (if 9 < lx14 then 9 else lx14 : Int32).toNatClampNeg) : Int32) (0 : Int32) lx15 lx16 lx17).2.2 : (Nat → Int32)))
def F_Big_timesTen (R : Int32) (x2 : Int32) (t0_0 : Int32) (t0_1 : Int32) (t1_0 : (Nat → Int32)) : Int32 × Int32 × (Nat → Int32) := F_Big_timesTen_L2 R x2 t0_0 t0_1 t1_0 ((x2.toInt - ((-1))).toNat + 1) x2 t0_0 t0_1 t1_0
set_option maxRecDepth 100000 in
set_option maxHeartbeats 4000000 in
theorem X_Big_timesTen (l : Launch) (D : va_G) (g : Nat → ClassId) (q : Nat → Nat) (ws : va_W) (k1 : Nat) (R : Int32) (hB1 : q_isBig (nsh g q) g q k1 R) (zk1 : (10 ≤ k1 ∧ k1 ≤ 32) ∨ 66 ≤ k1) (x2 : Int32) (hI : q_I (nsh g q) q ws) (t0_0 : Int32) (t0_1 : Int32) (hT0 : ws[k1]? = (some (q k1, .inr (2, [.ref (q (k1 + 1)), .int t0_0, .int t0_1])) : Option (Nat × va_E))) (t1_0 : (Nat → Int32)) (hT1 : ws[k1 + 1]? = (some (q (k1 + 1), .inl (g 0, R.toNatClampNeg, .inl t1_0)) : Option (Nat × va_E))) : q_mV l y_Big_timesTen prog_2_method_28_code 3 2 0 0 D g [.ref (q k1), .int x2] ws (fun u => q_I (nsh g q) q u ∧ q_un ws u [k1, k1 + 1] ∧ ∃ (u0_0 : Int32) (u0_1 : Int32) (u1_0 : (Nat → Int32)), u[k1]? = (some (q k1, .inr (2, [.ref (q (k1 + 1)), .int u0_0, .int u0_1])) : Option (Nat × va_E)) ∧ u[k1 + 1]? = (some (q (k1 + 1), .inl (g 0, R.toNatClampNeg, .inl u1_0)) : Option (Nat × va_E)) ∧ (t0_0.toInt ≤ u0_0.toInt) ∧ (u0_0.toInt ≤ R.toInt) ∧ (t0_1.toInt ≤ u0_1.toInt) ∧ (u0_1.toInt ≤ t0_1.toInt) ∧ (u0_0, u0_1, u1_0) = (F_Big_timesTen R x2 t0_0 t0_1 t1_0)) := by
  intro sz
  refine q_into (by decide) (Nat.le_of_ble_eq_true rfl) ?_
  intro p e s m below meth c ls hsz C0 V hl
  have hx := C0.1
  have hb := C0.2.1
  have btt0_0 := (q_bigW hI hB1 hT0).1
  replace btt0_0 : q_F (0 ≤ t0_0.toInt ∧ t0_0.toInt ≤ R.toInt) := btt0_0
  have hF : q_un ws ws [k1, k1 + 1] := q_u0
  have hl : lv_has ls 3 [(0, .ref (q k1)), (1, .int x2)] := hl
  refine lv_iload_n hx hb d_2_28_0 rfl (lv_at hl 1 rfl) ?_
  refine lv_istore_n (lv' := [(2, .int x2), (0, .ref (q k1)), (1, .int x2)]) hx hb d_2_28_1 rfl hl (by decide) rfl (fun ls hl => ?_)
  refine q_loop (X := Int32 × Int32 × Int32 × (Nat → Int32)) (fun z H locs ls w24 => q_F (z.2.1.toInt ≤ R.toInt) ∧ q_F (t0_1.toInt ≤ z.2.2.1.toInt) ∧ q_F (z.2.2.1.toInt ≤ t0_1.toInt) ∧ q_F (z.2.2.1.toInt + t0_0.toInt ≤ z.2.1.toInt + t0_1.toInt) ∧ q_F (9 * z.2.1.toInt + z.1.toInt ≤ 9 * t0_0.toInt + x2.toInt) ∧ q_Wd D g (va_A ws sz) s w24 H locs ∧ lv_has ls 3 [(2, .int z.1), (0, .ref (q k1))] ∧ q_I (nsh g q) q w24 ∧ q_un ws w24 [k1, k1 + 1] ∧ w24[k1]? = (some (q k1, .inr (2, [.ref (q (k1 + 1)), .int z.2.1, .int z.2.2.1])) : Option (Nat × va_E)) ∧ w24[k1 + 1]? = (some (q (k1 + 1), .inl (g 0, R.toNatClampNeg, .inl z.2.2.2)) : Option (Nat × va_E)) ∧ (∃ n, (z.1.toInt - ((-1))).toNat < n ∧ F_Big_timesTen_L2 R x2 t0_0 t0_1 t1_0 n z.1 z.2.1 z.2.2.1 z.2.2.2 = (F_Big_timesTen R x2 t0_0 t0_1 t1_0))) (fun z => (z.1.toInt - ((-1))).toNat) ?_ ((x2 : Int32), (t0_0 : Int32), (t0_1 : Int32), (t1_0 : (Nat → Int32))) _ _ _ ws ⟨(show q_F (t0_0.toInt ≤ R.toInt) from (show t0_0.toInt ≤ R.toInt from by have t1 : 0 ≤ t0_0.toInt ∧ t0_0.toInt ≤ R.toInt := btt0_0; omega)), (show q_F (t0_1.toInt ≤ t0_1.toInt) from (show t0_1.toInt ≤ t0_1.toInt from by omega)), (show q_F (t0_1.toInt ≤ t0_1.toInt) from (show t0_1.toInt ≤ t0_1.toInt from by omega)), (show q_F (t0_1.toInt + t0_0.toInt ≤ t0_0.toInt + t0_1.toInt) from (show t0_1.toInt + t0_0.toInt ≤ t0_0.toInt + t0_1.toInt from by omega)), (show q_F (9 * t0_0.toInt + x2.toInt ≤ 9 * t0_0.toInt + x2.toInt) from (show 9 * t0_0.toInt + x2.toInt ≤ 9 * t0_0.toInt + x2.toInt from by omega)), V, q_lw hl (q_lw1 0 rfl (q_lw1 1 rfl q_lw0)), hI, hF, hT0, hT1, ⟨((x2.toInt - ((-1))).toNat + 1), Nat.lt_succ_self _, (show F_Big_timesTen_L2 R x2 t0_0 t0_1 t1_0 ((x2.toInt - ((-1))).toNat + 1) x2 t0_0 t0_1 t1_0 = (F_Big_timesTen R x2 t0_0 t0_1 t1_0) from (by rw [F_Big_timesTen.eq_1]))⟩⟩
  rintro ⟨lx14, lx15, lx16, lx17⟩ H locs ls w24 ⟨i18, i19, i20, i21, i22, V, hl, hI, hF, hO25, hO26, ⟨fu28, hf29, hR27⟩⟩ ih23
  obtain ⟨fm30, rfl⟩ : ∃ m, fu28 = m + 1 := ⟨fu28 - 1, by omega⟩
  replace i18 : q_F (lx15.toInt ≤ R.toInt) := i18
  replace i19 : q_F (t0_1.toInt ≤ lx16.toInt) := i19
  replace i20 : q_F (lx16.toInt ≤ t0_1.toInt) := i20
  replace i21 : q_F (lx16.toInt + t0_0.toInt ≤ lx15.toInt + t0_1.toInt) := i21
  replace i22 : q_F (9 * lx15.toInt + lx14.toInt ≤ 9 * t0_0.toInt + x2.toInt) := i22
  replace hl : lv_has ls 3 [(2, .int lx14), (0, .ref (q k1))] := hl
  replace hO25 : w24[k1]? = (some (q k1, .inr (2, [.ref (q (k1 + 1)), .int lx15, .int lx16])) : Option (Nat × va_E)) := hO25
  replace hO26 : w24[k1 + 1]? = (some (q (k1 + 1), .inl (g 0, R.toNatClampNeg, .inl lx17)) : Option (Nat × va_E)) := hO26
  refine lv_iload_n hx hb d_2_28_2 rfl (lv_at hl 0 rfl) ?_
  refine lv_if_le (tgt := 27) hx hb d_2_28_3 (by decide) (fun c31 => ?_) (fun c31 => ?_)
  ·
    exact q_retv C0 V (⟨hI, hF, lx15, lx16, lx17, hO25, hO26, (show t0_0.toInt ≤ lx15.toInt from (by have t1 : t0_1.toInt ≤ lx16.toInt := i19; have t2 : lx16.toInt + t0_0.toInt ≤ lx15.toInt + t0_1.toInt := i21; omega)), (show lx15.toInt ≤ R.toInt from (by first | with_reducible exact q_fe i18 | (have t1 : lx15.toInt ≤ R.toInt := i18; omega))), (show t0_1.toInt ≤ lx16.toInt from (by first | with_reducible exact q_fe i19 | (have t1 : t0_1.toInt ≤ lx16.toInt := i19; omega))), (show lx16.toInt ≤ t0_1.toInt from (by first | with_reducible exact q_fe i20 | (have t1 : lx16.toInt ≤ t0_1.toInt := i20; omega))), (show (lx15, lx16, lx17) = (F_Big_timesTen R x2 t0_0 t0_1 t1_0) from Eq.trans (by rw [F_Big_timesTen_L2.eq_2, if_pos c31]) hR27)⟩) d_2_28_27
  ·
    have b33 : q_F (0 < lx14.toInt) := (q_nleI c31)
    refine lv_aload_n hx hb d_2_28_6 rfl (lv_at hl 1 rfl) ?_
    refine q_tens C0 V rfl w_771 d_2_28_7 (fun t34 hT35 => ?_)
    refine lv_iload_n hx hb d_2_28_10 rfl (lv_at hl 0 rfl) ?_
    refine lv_bipush (v := 9) hx hb d_2_28_11 (by decide) ?_
    refine q_min C0 hl.1 rfl w_773 w_774 w_7 w_775 ⟨Nat.le_of_ble_eq_true rfl, Nat.le_of_ble_eq_true rfl⟩ ⟨Nat.le_of_ble_eq_true rfl, Nat.le_of_ble_eq_true rfl⟩ d_2_28_13 ?_
    obtain ⟨a36, e37⟩ := q_nm (if 9 < lx14 then 9 else lx14 : Int32)
    refine q_ti (v := a36) e37 ?_
    have b38 : q_F (a36.toInt ≤ lx14.toInt ∧ a36.toInt ≤ 9 ∧ (a36.toInt = lx14.toInt ∨ a36.toInt = 9)) := (by rw [← e37]; show (if 9 < lx14 then 9 else lx14 : Int32).toInt ≤ lx14.toInt ∧ (if 9 < lx14 then 9 else lx14 : Int32).toInt ≤ 9 ∧ ((if 9 < lx14 then 9 else lx14 : Int32).toInt = lx14.toInt ∨ (if 9 < lx14 then 9 else lx14 : Int32).toInt = 9); exact (by have y1 : (9 : Int32).toInt = 9 := rfl; have z := s_min (a := lx14) (b := 9); omega))
    refine q_tald (v := .int (Int32.ofNat (10 ^ a36.toNatClampNeg))) C0 V hT35 (q_ix (x := a36.toInt) rfl (by have t1 : 0 < lx14.toInt := b33; have t2 : a36.toInt ≤ lx14.toInt ∧ a36.toInt ≤ 9 ∧ (a36.toInt = lx14.toInt ∨ a36.toInt = 9) := b38; omega) (by have t1 : 0 < lx14.toInt := b33; have t2 : a36.toInt ≤ lx14.toInt ∧ a36.toInt ≤ 9 ∧ (a36.toInt = lx14.toInt ∨ a36.toInt = 9) := b38; omega)) rfl d_2_28_16 ?_
    obtain ⟨a39, e40⟩ := q_nm (Int32.ofNat (10 ^ a36.toNatClampNeg) : Int32)
    refine q_ti (v := a39) e40 ?_
    refine lv_iconst (v := 0) hx hb d_2_28_17 (by decide) ?_
    refine q_gov V (q_runV (As := [.int a39, .int 0]) (rest := []) (d := 1) (mc := 0) (ms := 0) (ci := 2) C0 V rfl LV_Big_98 (X_Big_multiplySmall l D g q w24 k1 R hB1 zk1 a39 0 hI lx15 lx16 hO25 lx17 hO26  _) rfl rfl hO25 rfl hl.1 rfl (Nat.le_of_ble_eq_true rfl) ⟨by decide, by decide⟩ ⟨Nat.le_of_ble_eq_true rfl, Nat.le_of_ble_eq_true rfl⟩ d_2_28_18) (fun u42 H locs hp43 V => ?_)
    obtain ⟨hI, hZ9⟩ := hp43
    obtain ⟨hu55, hZ9⟩ := hZ9
    obtain ⟨y45, hZ9⟩ := hZ9
    obtain ⟨y46, hZ9⟩ := hZ9
    obtain ⟨f47, hZ9⟩ := hZ9
    obtain ⟨hO44, hZ9⟩ := hZ9
    obtain ⟨hA48, hZ9⟩ := hZ9
    obtain ⟨b49, hZ9⟩ := hZ9
    obtain ⟨b50, hZ9⟩ := hZ9
    obtain ⟨b51, hZ9⟩ := hZ9
    obtain ⟨b52, hZ9⟩ := hZ9
    obtain ⟨b53, hE54⟩ := hZ9
    replace hO44 : u42[k1]? = (some (q k1, .inr (2, [.ref (q (k1 + 1)), .int y45, .int y46])) : Option (Nat × va_E)) := hO44
    replace hA48 : u42[k1 + 1]? = (some (q (k1 + 1), .inl (g 0, R.toNatClampNeg, .inl f47)) : Option (Nat × va_E)) := hA48
    have e56 : y45 = (F_Big_multiplySmall R a39 (0 : Int32) lx15 lx16 lx17).1 := congrArg (fun z => z.1) hE54
    have e57 : y46 = (F_Big_multiplySmall R a39 (0 : Int32) lx15 lx16 lx17).2.1 := congrArg (fun z => z.2.1) hE54
    have e58 : f47 = (F_Big_multiplySmall R a39 (0 : Int32) lx15 lx16 lx17).2.2 := congrArg (fun z => z.2.2) hE54
    replace b49 : q_F (lx15.toInt ≤ y45.toInt) := b49
    replace b50 : q_F (y45.toInt ≤ lx15.toInt + 1) := b50
    replace b51 : q_F (y45.toInt ≤ R.toInt) := b51
    replace b52 : q_F (lx16.toInt ≤ y46.toInt) := b52
    replace b53 : q_F (y46.toInt ≤ lx16.toInt) := b53
    replace hF := q_uc hF hu55 (by simp)
    obtain ⟨a59, e60⟩ := q_nm (lx14 + (-9) : Int32)
    have b61 : q_F (a59.toInt = lx14.toInt + (-9)) := (by rw [← e60]; exact q_addI (y := (-9)) rfl (by decide) (by have t1 : 0 < lx14.toInt := b33; have _ := q_lo32 (x := lx14); have _ := q_hi32 (x := lx14); omega) (by have t1 : 0 < lx14.toInt := b33; have _ := q_lo32 (x := lx14); have _ := q_hi32 (x := lx14); omega))
    refine lv_iinc (v := a59) (lv' := [(2, .int a59), (0, .ref (q k1))]) hx hb d_2_28_21 hl (k := 0) rfl (e60) (by decide) rfl (fun ls hl => ?_)
    refine lv_goto (tgt := 2) hx hb d_2_28_24 (by decide) ?_
    exact ih23 ((a59 : Int32), (y45 : Int32), (y46 : Int32), (f47 : (Nat → Int32))) _ _ _ _ (show (a59.toInt - ((-1))).toNat < (lx14.toInt - ((-1))).toNat from by have t1 : a59.toInt = lx14.toInt + (-9) := b61; have t2 : 0 < lx14.toInt := b33; omega) ⟨(show q_F (y45.toInt ≤ R.toInt) from (show y45.toInt ≤ R.toInt from by have t1 : y45.toInt ≤ R.toInt := b51; omega)), (show q_F (t0_1.toInt ≤ y46.toInt) from (show t0_1.toInt ≤ y46.toInt from by have t1 : t0_1.toInt ≤ lx16.toInt := i19; have t2 : lx16.toInt ≤ y46.toInt := b52; omega)), (show q_F (y46.toInt ≤ t0_1.toInt) from (show y46.toInt ≤ t0_1.toInt from by have t1 : lx16.toInt ≤ t0_1.toInt := i20; have t2 : y46.toInt ≤ lx16.toInt := b53; omega)), (show q_F (y46.toInt + t0_0.toInt ≤ y45.toInt + t0_1.toInt) from (show y46.toInt + t0_0.toInt ≤ y45.toInt + t0_1.toInt from by have t1 : lx16.toInt + t0_0.toInt ≤ lx15.toInt + t0_1.toInt := i21; have t2 : lx15.toInt ≤ y45.toInt := b49; have t3 : y46.toInt ≤ lx16.toInt := b53; omega)), (show q_F (9 * y45.toInt + a59.toInt ≤ 9 * t0_0.toInt + x2.toInt) from (show 9 * y45.toInt + a59.toInt ≤ 9 * t0_0.toInt + x2.toInt from by have t1 : 9 * lx15.toInt + lx14.toInt ≤ 9 * t0_0.toInt + x2.toInt := i22; have t2 : y45.toInt ≤ lx15.toInt + 1 := b50; have t3 : a59.toInt = lx14.toInt + (-9) := b61; omega)), V, q_lw hl (q_lw1 0 rfl (q_lw1 1 rfl q_lw0)), hI, hF, hO44, hA48, ⟨fm30, Nat.lt_of_lt_of_le (show (a59.toInt - ((-1))).toNat < (lx14.toInt - ((-1))).toNat from by have t1 : a59.toInt = lx14.toInt + (-9) := b61; have t2 : 0 < lx14.toInt := b33; omega) (Nat.le_of_lt_succ hf29), (show F_Big_timesTen_L2 R x2 t0_0 t0_1 t1_0 fm30 a59 y45 y46 f47 = (F_Big_timesTen R x2 t0_0 t0_1 t1_0) from Eq.trans (by subst e37; subst e40; subst e56; subst e57; subst e58; subst e60; rw [F_Big_timesTen_L2.eq_2, if_neg c31]) hR27)⟩⟩
def F_Big_timesFive_L2 (R : Int32) (x2 : Int32) (t0_0 : Int32) (t0_1 : Int32) (t1_0 : (Nat → Int32)) : Nat → Int32 → Int32 → Int32 → (Nat → Int32) → (Int32 × Int32 × (Nat → Int32))
  | 0, _, _, _, _ => default
  | fm + 1, lx14, lx15, lx16, lx17 => if lx14 ≤ (0 : Int32) then ((lx15, lx16, lx17)) else (F_Big_timesFive_L2 R x2 t0_0 t0_1 t1_0 fm (lx14 + (-13) : Int32) ((F_Big_multiplySmall R (Int32.ofNat (5 ^ (if 13 < lx14 then 13 else lx14 : Int32).toNatClampNeg) : Int32) (0 : Int32) lx15 lx16 lx17).1 : Int32) ((F_Big_multiplySmall R (Int32.ofNat (5 ^ (if 13 < lx14 then 13 else lx14 : Int32).toNatClampNeg) : Int32) (0 : Int32) lx15 lx16 lx17).2.1 : Int32) ((F_Big_multiplySmall R (Int32.ofNat (5 ^ (if 13 < lx14 then 13 else lx14 : Int32).toNatClampNeg) : Int32) (0 : Int32) lx15 lx16 lx17).2.2 : (Nat → Int32)))
def F_Big_timesFive (R : Int32) (x2 : Int32) (t0_0 : Int32) (t0_1 : Int32) (t1_0 : (Nat → Int32)) : Int32 × Int32 × (Nat → Int32) := F_Big_timesFive_L2 R x2 t0_0 t0_1 t1_0 ((x2.toInt - ((-1))).toNat + 1) x2 t0_0 t0_1 t1_0
set_option maxRecDepth 100000 in
set_option maxHeartbeats 4000000 in
theorem X_Big_timesFive (l : Launch) (D : va_G) (g : Nat → ClassId) (q : Nat → Nat) (ws : va_W) (k1 : Nat) (R : Int32) (hB1 : q_isBig (nsh g q) g q k1 R) (zk1 : (10 ≤ k1 ∧ k1 ≤ 32) ∨ 66 ≤ k1) (x2 : Int32) (hI : q_I (nsh g q) q ws) (t0_0 : Int32) (t0_1 : Int32) (hT0 : ws[k1]? = (some (q k1, .inr (2, [.ref (q (k1 + 1)), .int t0_0, .int t0_1])) : Option (Nat × va_E))) (t1_0 : (Nat → Int32)) (hT1 : ws[k1 + 1]? = (some (q (k1 + 1), .inl (g 0, R.toNatClampNeg, .inl t1_0)) : Option (Nat × va_E))) : q_mV l y_Big_timesFive prog_2_method_29_code 3 2 0 0 D g [.ref (q k1), .int x2] ws (fun u => q_I (nsh g q) q u ∧ q_un ws u [k1, k1 + 1] ∧ ∃ (u0_0 : Int32) (u0_1 : Int32) (u1_0 : (Nat → Int32)), u[k1]? = (some (q k1, .inr (2, [.ref (q (k1 + 1)), .int u0_0, .int u0_1])) : Option (Nat × va_E)) ∧ u[k1 + 1]? = (some (q (k1 + 1), .inl (g 0, R.toNatClampNeg, .inl u1_0)) : Option (Nat × va_E)) ∧ (t0_0.toInt ≤ u0_0.toInt) ∧ (u0_0.toInt ≤ R.toInt) ∧ (t0_1.toInt ≤ u0_1.toInt) ∧ (u0_1.toInt ≤ t0_1.toInt) ∧ (u0_0, u0_1, u1_0) = (F_Big_timesFive R x2 t0_0 t0_1 t1_0)) := by
  intro sz
  refine q_into (by decide) (Nat.le_of_ble_eq_true rfl) ?_
  intro p e s m below meth c ls hsz C0 V hl
  have hx := C0.1
  have hb := C0.2.1
  have btt0_0 := (q_bigW hI hB1 hT0).1
  replace btt0_0 : q_F (0 ≤ t0_0.toInt ∧ t0_0.toInt ≤ R.toInt) := btt0_0
  have hF : q_un ws ws [k1, k1 + 1] := q_u0
  have hl : lv_has ls 3 [(0, .ref (q k1)), (1, .int x2)] := hl
  refine lv_iload_n hx hb d_2_29_0 rfl (lv_at hl 1 rfl) ?_
  refine lv_istore_n (lv' := [(2, .int x2), (0, .ref (q k1)), (1, .int x2)]) hx hb d_2_29_1 rfl hl (by decide) rfl (fun ls hl => ?_)
  refine q_loop (X := Int32 × Int32 × Int32 × (Nat → Int32)) (fun z H locs ls w24 => q_F (z.2.1.toInt ≤ R.toInt) ∧ q_F (t0_1.toInt ≤ z.2.2.1.toInt) ∧ q_F (z.2.2.1.toInt ≤ t0_1.toInt) ∧ q_F (z.2.2.1.toInt + t0_0.toInt ≤ z.2.1.toInt + t0_1.toInt) ∧ q_F (13 * z.2.1.toInt + z.1.toInt ≤ 13 * t0_0.toInt + x2.toInt) ∧ q_Wd D g (va_A ws sz) s w24 H locs ∧ lv_has ls 3 [(2, .int z.1), (0, .ref (q k1))] ∧ q_I (nsh g q) q w24 ∧ q_un ws w24 [k1, k1 + 1] ∧ w24[k1]? = (some (q k1, .inr (2, [.ref (q (k1 + 1)), .int z.2.1, .int z.2.2.1])) : Option (Nat × va_E)) ∧ w24[k1 + 1]? = (some (q (k1 + 1), .inl (g 0, R.toNatClampNeg, .inl z.2.2.2)) : Option (Nat × va_E)) ∧ (∃ n, (z.1.toInt - ((-1))).toNat < n ∧ F_Big_timesFive_L2 R x2 t0_0 t0_1 t1_0 n z.1 z.2.1 z.2.2.1 z.2.2.2 = (F_Big_timesFive R x2 t0_0 t0_1 t1_0))) (fun z => (z.1.toInt - ((-1))).toNat) ?_ ((x2 : Int32), (t0_0 : Int32), (t0_1 : Int32), (t1_0 : (Nat → Int32))) _ _ _ ws ⟨(show q_F (t0_0.toInt ≤ R.toInt) from (show t0_0.toInt ≤ R.toInt from by have t1 : 0 ≤ t0_0.toInt ∧ t0_0.toInt ≤ R.toInt := btt0_0; omega)), (show q_F (t0_1.toInt ≤ t0_1.toInt) from (show t0_1.toInt ≤ t0_1.toInt from by omega)), (show q_F (t0_1.toInt ≤ t0_1.toInt) from (show t0_1.toInt ≤ t0_1.toInt from by omega)), (show q_F (t0_1.toInt + t0_0.toInt ≤ t0_0.toInt + t0_1.toInt) from (show t0_1.toInt + t0_0.toInt ≤ t0_0.toInt + t0_1.toInt from by omega)), (show q_F (13 * t0_0.toInt + x2.toInt ≤ 13 * t0_0.toInt + x2.toInt) from (show 13 * t0_0.toInt + x2.toInt ≤ 13 * t0_0.toInt + x2.toInt from by omega)), V, q_lw hl (q_lw1 0 rfl (q_lw1 1 rfl q_lw0)), hI, hF, hT0, hT1, ⟨((x2.toInt - ((-1))).toNat + 1), Nat.lt_succ_self _, (show F_Big_timesFive_L2 R x2 t0_0 t0_1 t1_0 ((x2.toInt - ((-1))).toNat + 1) x2 t0_0 t0_1 t1_0 = (F_Big_timesFive R x2 t0_0 t0_1 t1_0) from (by rw [F_Big_timesFive.eq_1]))⟩⟩
  rintro ⟨lx14, lx15, lx16, lx17⟩ H locs ls w24 ⟨i18, i19, i20, i21, i22, V, hl, hI, hF, hO25, hO26, ⟨fu28, hf29, hR27⟩⟩ ih23
  obtain ⟨fm30, rfl⟩ : ∃ m, fu28 = m + 1 := ⟨fu28 - 1, by omega⟩
  replace i18 : q_F (lx15.toInt ≤ R.toInt) := i18
  replace i19 : q_F (t0_1.toInt ≤ lx16.toInt) := i19
  replace i20 : q_F (lx16.toInt ≤ t0_1.toInt) := i20
  replace i21 : q_F (lx16.toInt + t0_0.toInt ≤ lx15.toInt + t0_1.toInt) := i21
  replace i22 : q_F (13 * lx15.toInt + lx14.toInt ≤ 13 * t0_0.toInt + x2.toInt) := i22
  replace hl : lv_has ls 3 [(2, .int lx14), (0, .ref (q k1))] := hl
  replace hO25 : w24[k1]? = (some (q k1, .inr (2, [.ref (q (k1 + 1)), .int lx15, .int lx16])) : Option (Nat × va_E)) := hO25
  replace hO26 : w24[k1 + 1]? = (some (q (k1 + 1), .inl (g 0, R.toNatClampNeg, .inl lx17)) : Option (Nat × va_E)) := hO26
  refine lv_iload_n hx hb d_2_29_2 rfl (lv_at hl 0 rfl) ?_
  refine lv_if_le (tgt := 27) hx hb d_2_29_3 (by decide) (fun c31 => ?_) (fun c31 => ?_)
  ·
    exact q_retv C0 V (⟨hI, hF, lx15, lx16, lx17, hO25, hO26, (show t0_0.toInt ≤ lx15.toInt from (by have t1 : t0_1.toInt ≤ lx16.toInt := i19; have t2 : lx16.toInt + t0_0.toInt ≤ lx15.toInt + t0_1.toInt := i21; omega)), (show lx15.toInt ≤ R.toInt from (by first | with_reducible exact q_fe i18 | (have t1 : lx15.toInt ≤ R.toInt := i18; omega))), (show t0_1.toInt ≤ lx16.toInt from (by first | with_reducible exact q_fe i19 | (have t1 : t0_1.toInt ≤ lx16.toInt := i19; omega))), (show lx16.toInt ≤ t0_1.toInt from (by first | with_reducible exact q_fe i20 | (have t1 : lx16.toInt ≤ t0_1.toInt := i20; omega))), (show (lx15, lx16, lx17) = (F_Big_timesFive R x2 t0_0 t0_1 t1_0) from Eq.trans (by rw [F_Big_timesFive_L2.eq_2, if_pos c31]) hR27)⟩) d_2_29_27
  ·
    have b33 : q_F (0 < lx14.toInt) := (q_nleI c31)
    refine lv_aload_n hx hb d_2_29_6 rfl (lv_at hl 1 rfl) ?_
    refine q_fives C0 V rfl w_798 d_2_29_7 (fun t34 hT35 => ?_)
    refine lv_iload_n hx hb d_2_29_10 rfl (lv_at hl 0 rfl) ?_
    refine lv_bipush (v := 13) hx hb d_2_29_11 (by decide) ?_
    refine q_min C0 hl.1 rfl w_773 w_774 w_7 w_775 ⟨Nat.le_of_ble_eq_true rfl, Nat.le_of_ble_eq_true rfl⟩ ⟨Nat.le_of_ble_eq_true rfl, Nat.le_of_ble_eq_true rfl⟩ d_2_29_13 ?_
    obtain ⟨a36, e37⟩ := q_nm (if 13 < lx14 then 13 else lx14 : Int32)
    refine q_ti (v := a36) e37 ?_
    have b38 : q_F (a36.toInt ≤ lx14.toInt ∧ a36.toInt ≤ 13 ∧ (a36.toInt = lx14.toInt ∨ a36.toInt = 13)) := (by rw [← e37]; show (if 13 < lx14 then 13 else lx14 : Int32).toInt ≤ lx14.toInt ∧ (if 13 < lx14 then 13 else lx14 : Int32).toInt ≤ 13 ∧ ((if 13 < lx14 then 13 else lx14 : Int32).toInt = lx14.toInt ∨ (if 13 < lx14 then 13 else lx14 : Int32).toInt = 13); exact (by have y1 : (13 : Int32).toInt = 13 := rfl; have z := s_min (a := lx14) (b := 13); omega))
    refine q_tald (v := .int (Int32.ofNat (5 ^ a36.toNatClampNeg))) C0 V hT35 (q_ix (x := a36.toInt) rfl (by have t1 : 0 < lx14.toInt := b33; have t2 : a36.toInt ≤ lx14.toInt ∧ a36.toInt ≤ 13 ∧ (a36.toInt = lx14.toInt ∨ a36.toInt = 13) := b38; omega) (by have t1 : 0 < lx14.toInt := b33; have t2 : a36.toInt ≤ lx14.toInt ∧ a36.toInt ≤ 13 ∧ (a36.toInt = lx14.toInt ∨ a36.toInt = 13) := b38; omega)) rfl d_2_29_16 ?_
    obtain ⟨a39, e40⟩ := q_nm (Int32.ofNat (5 ^ a36.toNatClampNeg) : Int32)
    refine q_ti (v := a39) e40 ?_
    refine lv_iconst (v := 0) hx hb d_2_29_17 (by decide) ?_
    refine q_gov V (q_runV (As := [.int a39, .int 0]) (rest := []) (d := 1) (mc := 0) (ms := 0) (ci := 2) C0 V rfl LV_Big_98 (X_Big_multiplySmall l D g q w24 k1 R hB1 zk1 a39 0 hI lx15 lx16 hO25 lx17 hO26  _) rfl rfl hO25 rfl hl.1 rfl (Nat.le_of_ble_eq_true rfl) ⟨by decide, by decide⟩ ⟨Nat.le_of_ble_eq_true rfl, Nat.le_of_ble_eq_true rfl⟩ d_2_29_18) (fun u42 H locs hp43 V => ?_)
    obtain ⟨hI, hZ9⟩ := hp43
    obtain ⟨hu55, hZ9⟩ := hZ9
    obtain ⟨y45, hZ9⟩ := hZ9
    obtain ⟨y46, hZ9⟩ := hZ9
    obtain ⟨f47, hZ9⟩ := hZ9
    obtain ⟨hO44, hZ9⟩ := hZ9
    obtain ⟨hA48, hZ9⟩ := hZ9
    obtain ⟨b49, hZ9⟩ := hZ9
    obtain ⟨b50, hZ9⟩ := hZ9
    obtain ⟨b51, hZ9⟩ := hZ9
    obtain ⟨b52, hZ9⟩ := hZ9
    obtain ⟨b53, hE54⟩ := hZ9
    replace hO44 : u42[k1]? = (some (q k1, .inr (2, [.ref (q (k1 + 1)), .int y45, .int y46])) : Option (Nat × va_E)) := hO44
    replace hA48 : u42[k1 + 1]? = (some (q (k1 + 1), .inl (g 0, R.toNatClampNeg, .inl f47)) : Option (Nat × va_E)) := hA48
    have e56 : y45 = (F_Big_multiplySmall R a39 (0 : Int32) lx15 lx16 lx17).1 := congrArg (fun z => z.1) hE54
    have e57 : y46 = (F_Big_multiplySmall R a39 (0 : Int32) lx15 lx16 lx17).2.1 := congrArg (fun z => z.2.1) hE54
    have e58 : f47 = (F_Big_multiplySmall R a39 (0 : Int32) lx15 lx16 lx17).2.2 := congrArg (fun z => z.2.2) hE54
    replace b49 : q_F (lx15.toInt ≤ y45.toInt) := b49
    replace b50 : q_F (y45.toInt ≤ lx15.toInt + 1) := b50
    replace b51 : q_F (y45.toInt ≤ R.toInt) := b51
    replace b52 : q_F (lx16.toInt ≤ y46.toInt) := b52
    replace b53 : q_F (y46.toInt ≤ lx16.toInt) := b53
    replace hF := q_uc hF hu55 (by simp)
    obtain ⟨a59, e60⟩ := q_nm (lx14 + (-13) : Int32)
    have b61 : q_F (a59.toInt = lx14.toInt + (-13)) := (by rw [← e60]; exact q_addI (y := (-13)) rfl (by decide) (by have t1 : 0 < lx14.toInt := b33; have _ := q_lo32 (x := lx14); have _ := q_hi32 (x := lx14); omega) (by have t1 : 0 < lx14.toInt := b33; have _ := q_lo32 (x := lx14); have _ := q_hi32 (x := lx14); omega))
    refine lv_iinc (v := a59) (lv' := [(2, .int a59), (0, .ref (q k1))]) hx hb d_2_29_21 hl (k := 0) rfl (e60) (by decide) rfl (fun ls hl => ?_)
    refine lv_goto (tgt := 2) hx hb d_2_29_24 (by decide) ?_
    exact ih23 ((a59 : Int32), (y45 : Int32), (y46 : Int32), (f47 : (Nat → Int32))) _ _ _ _ (show (a59.toInt - ((-1))).toNat < (lx14.toInt - ((-1))).toNat from by have t1 : a59.toInt = lx14.toInt + (-13) := b61; have t2 : 0 < lx14.toInt := b33; omega) ⟨(show q_F (y45.toInt ≤ R.toInt) from (show y45.toInt ≤ R.toInt from by have t1 : y45.toInt ≤ R.toInt := b51; omega)), (show q_F (t0_1.toInt ≤ y46.toInt) from (show t0_1.toInt ≤ y46.toInt from by have t1 : t0_1.toInt ≤ lx16.toInt := i19; have t2 : lx16.toInt ≤ y46.toInt := b52; omega)), (show q_F (y46.toInt ≤ t0_1.toInt) from (show y46.toInt ≤ t0_1.toInt from by have t1 : lx16.toInt ≤ t0_1.toInt := i20; have t2 : y46.toInt ≤ lx16.toInt := b53; omega)), (show q_F (y46.toInt + t0_0.toInt ≤ y45.toInt + t0_1.toInt) from (show y46.toInt + t0_0.toInt ≤ y45.toInt + t0_1.toInt from by have t1 : lx16.toInt + t0_0.toInt ≤ lx15.toInt + t0_1.toInt := i21; have t2 : lx15.toInt ≤ y45.toInt := b49; have t3 : y46.toInt ≤ lx16.toInt := b53; omega)), (show q_F (13 * y45.toInt + a59.toInt ≤ 13 * t0_0.toInt + x2.toInt) from (show 13 * y45.toInt + a59.toInt ≤ 13 * t0_0.toInt + x2.toInt from by have t1 : 13 * lx15.toInt + lx14.toInt ≤ 13 * t0_0.toInt + x2.toInt := i22; have t2 : y45.toInt ≤ lx15.toInt + 1 := b50; have t3 : a59.toInt = lx14.toInt + (-13) := b61; omega)), V, q_lw hl (q_lw1 0 rfl (q_lw1 1 rfl q_lw0)), hI, hF, hO44, hA48, ⟨fm30, Nat.lt_of_lt_of_le (show (a59.toInt - ((-1))).toNat < (lx14.toInt - ((-1))).toNat from by have t1 : a59.toInt = lx14.toInt + (-13) := b61; have t2 : 0 < lx14.toInt := b33; omega) (Nat.le_of_lt_succ hf29), (show F_Big_timesFive_L2 R x2 t0_0 t0_1 t1_0 fm30 a59 y45 y46 f47 = (F_Big_timesFive R x2 t0_0 t0_1 t1_0) from Eq.trans (by subst e37; subst e40; subst e56; subst e57; subst e58; subst e60; rw [F_Big_timesFive_L2.eq_2, if_neg c31]) hR27)⟩⟩
def F_Big_dropFigures_L4 (R : Int32) (x2 : Int32) (t0_0 : Int32) (t0_1 : Int32) (t1_0 : (Nat → Int32)) : Nat → Int32 → Int32 → Int32 → Int32 → (Nat → Int32) → (Int32 × Int32 × Int32 × (Nat → Int32))
  | 0, _, _, _, _, _ => default
  | fm + 1, lx16, lx17, lx18, lx19, lx20 => if lx16 ≤ (0 : Int32) then ((lx17, lx18, lx19, lx20)) else (if lx18 ≤ (0 : Int32) then ((lx17, lx18, lx19, lx20)) else (if ((F_Big_divideSmall R (Int32.ofNat (10 ^ (if 9 < lx16 then 9 else lx16 : Int32).toNatClampNeg) : Int32) lx18 lx19 lx20).1 : Int32) = (0 : Int32) then (F_Big_dropFigures_L4 R x2 t0_0 t0_1 t1_0 fm (lx16 + (-9) : Int32) (lx17 ||| 0 : Int32) ((F_Big_divideSmall R (Int32.ofNat (10 ^ (if 9 < lx16 then 9 else lx16 : Int32).toNatClampNeg) : Int32) lx18 lx19 lx20).2.1 : Int32) ((F_Big_divideSmall R (Int32.ofNat (10 ^ (if 9 < lx16 then 9 else lx16 : Int32).toNatClampNeg) : Int32) lx18 lx19 lx20).2.2.1 : Int32) ((F_Big_divideSmall R (Int32.ofNat (10 ^ (if 9 < lx16 then 9 else lx16 : Int32).toNatClampNeg) : Int32) lx18 lx19 lx20).2.2.2 : (Nat → Int32))) else (F_Big_dropFigures_L4 R x2 t0_0 t0_1 t1_0 fm (lx16 + (-9) : Int32) (lx17 ||| 1 : Int32) ((F_Big_divideSmall R (Int32.ofNat (10 ^ (if 9 < lx16 then 9 else lx16 : Int32).toNatClampNeg) : Int32) lx18 lx19 lx20).2.1 : Int32) ((F_Big_divideSmall R (Int32.ofNat (10 ^ (if 9 < lx16 then 9 else lx16 : Int32).toNatClampNeg) : Int32) lx18 lx19 lx20).2.2.1 : Int32) ((F_Big_divideSmall R (Int32.ofNat (10 ^ (if 9 < lx16 then 9 else lx16 : Int32).toNatClampNeg) : Int32) lx18 lx19 lx20).2.2.2 : (Nat → Int32)))))
def F_Big_dropFigures (R : Int32) (x2 : Int32) (t0_0 : Int32) (t0_1 : Int32) (t1_0 : (Nat → Int32)) : Int32 × Int32 × Int32 × (Nat → Int32) := F_Big_dropFigures_L4 R x2 t0_0 t0_1 t1_0 ((x2.toInt - ((-1))).toNat + 1) x2 0 t0_0 t0_1 t1_0
set_option maxRecDepth 100000 in
set_option maxHeartbeats 4000000 in
theorem X_Big_dropFigures (l : Launch) (D : va_G) (g : Nat → ClassId) (q : Nat → Nat) (ws : va_W) (k1 : Nat) (R : Int32) (hB1 : q_isBig (nsh g q) g q k1 R) (zk1 : (10 ≤ k1 ∧ k1 ≤ 32) ∨ 66 ≤ k1) (x2 : Int32) (hI : q_I (nsh g q) q ws) (t0_0 : Int32) (t0_1 : Int32) (hT0 : ws[k1]? = (some (q k1, .inr (2, [.ref (q (k1 + 1)), .int t0_0, .int t0_1])) : Option (Nat × va_E))) (t1_0 : (Nat → Int32)) (hT1 : ws[k1 + 1]? = (some (q (k1 + 1), .inl (g 0, R.toNatClampNeg, .inl t1_0)) : Option (Nat × va_E))) : q_mI l y_Big_dropFigures prog_2_method_30_code 4 (.boolean) 3 0 0 D g [.ref (q k1), .int x2] ws (fun r u => q_I (nsh g q) q u ∧ q_un ws u [k1, k1 + 1] ∧ ∃ (u0_0 : Int32) (u0_1 : Int32) (u1_0 : (Nat → Int32)), u[k1]? = (some (q k1, .inr (2, [.ref (q (k1 + 1)), .int u0_0, .int u0_1])) : Option (Nat × va_E)) ∧ u[k1 + 1]? = (some (q (k1 + 1), .inl (g 0, R.toNatClampNeg, .inl u1_0)) : Option (Nat × va_E)) ∧ (0 ≤ r.toInt) ∧ (r.toInt ≤ 1) ∧ (0 ≤ u0_0.toInt) ∧ (0 ≤ u0_1.toInt) ∧ (r.toInt ≤ t0_0.toInt) ∧ (u0_0.toInt ≤ t0_0.toInt) ∧ (u0_1.toInt ≤ t0_1.toInt) ∧ (r, u0_0, u0_1, u1_0) = (F_Big_dropFigures R x2 t0_0 t0_1 t1_0)) := by
  intro sz
  refine q_into (by decide) (Nat.le_of_ble_eq_true rfl) ?_
  intro p e s m below meth c ls hsz C0 V hl
  have hx := C0.1
  have hb := C0.2.1
  obtain ⟨btt0_0, btt0_1⟩ := q_bigW hI hB1 hT0
  replace btt0_0 : q_F (0 ≤ t0_0.toInt ∧ t0_0.toInt ≤ R.toInt) := btt0_0
  replace btt0_1 : q_F (0 ≤ t0_1.toInt ∧ t0_1.toInt ≤ 1) := btt0_1
  have hF : q_un ws ws [k1, k1 + 1] := q_u0
  have hl : lv_has ls 4 [(0, .ref (q k1)), (1, .int x2)] := hl
  refine lv_iconst (v := 0) hx hb d_2_30_0 (by decide) ?_
  refine lv_istore_n (lv' := [(2, .int 0), (0, .ref (q k1)), (1, .int x2)]) hx hb d_2_30_1 rfl hl (by decide) rfl (fun ls hl => ?_)
  refine lv_iload_n hx hb d_2_30_2 rfl (lv_at hl 2 rfl) ?_
  refine lv_istore_n (lv' := [(3, .int x2), (2, .int 0), (0, .ref (q k1)), (1, .int x2)]) hx hb d_2_30_3 rfl hl (by decide) rfl (fun ls hl => ?_)
  refine q_loop (X := Int32 × Int32 × Int32 × Int32 × (Nat → Int32)) (fun z H locs ls w33 => q_F (z.2.1.toInt ≤ 1) ∧ q_F (0 ≤ z.2.2.2.1.toInt) ∧ q_F (z.2.1.toInt ≤ t0_0.toInt) ∧ q_F (z.2.2.1.toInt ≤ t0_0.toInt) ∧ q_F (z.2.2.2.1.toInt ≤ t0_1.toInt) ∧ q_F (0 ≤ z.2.1.toInt + z.2.2.2.1.toInt) ∧ q_F (z.2.2.2.1.toInt ≤ z.2.2.1.toInt + 1) ∧ q_F (0 ≤ z.2.2.1.toInt + z.2.2.2.1.toInt) ∧ q_F (z.2.2.2.1.toInt ≤ z.2.1.toInt + t0_1.toInt) ∧ q_F (9 * z.2.1.toInt + z.1.toInt ≤ x2.toInt) ∧ q_F (z.1.toInt + 9 * t0_1.toInt ≤ 9 * z.2.2.2.1.toInt + x2.toInt) ∧ q_Wd D g (va_A ws sz) s w33 H locs ∧ lv_has ls 4 [(3, .int z.1), (2, .int z.2.1), (0, .ref (q k1))] ∧ q_I (nsh g q) q w33 ∧ q_un ws w33 [k1, k1 + 1] ∧ w33[k1]? = (some (q k1, .inr (2, [.ref (q (k1 + 1)), .int z.2.2.1, .int z.2.2.2.1])) : Option (Nat × va_E)) ∧ w33[k1 + 1]? = (some (q (k1 + 1), .inl (g 0, R.toNatClampNeg, .inl z.2.2.2.2)) : Option (Nat × va_E)) ∧ (∃ n, (z.1.toInt - ((-1))).toNat < n ∧ F_Big_dropFigures_L4 R x2 t0_0 t0_1 t1_0 n z.1 z.2.1 z.2.2.1 z.2.2.2.1 z.2.2.2.2 = (F_Big_dropFigures R x2 t0_0 t0_1 t1_0))) (fun z => (z.1.toInt - ((-1))).toNat) ?_ ((x2 : Int32), (0 : Int32), (t0_0 : Int32), (t0_1 : Int32), (t1_0 : (Nat → Int32))) _ _ _ ws ⟨(show q_F (0 ≤ 1) from (show 0 ≤ 1 from by omega)), (show q_F (0 ≤ t0_1.toInt) from (show 0 ≤ t0_1.toInt from by have t1 : 0 ≤ t0_1.toInt ∧ t0_1.toInt ≤ 1 := btt0_1; omega)), (show q_F (0 ≤ t0_0.toInt) from (show 0 ≤ t0_0.toInt from by have t1 : 0 ≤ t0_0.toInt ∧ t0_0.toInt ≤ R.toInt := btt0_0; omega)), (show q_F (t0_0.toInt ≤ t0_0.toInt) from (show t0_0.toInt ≤ t0_0.toInt from by omega)), (show q_F (t0_1.toInt ≤ t0_1.toInt) from (show t0_1.toInt ≤ t0_1.toInt from by omega)), (show q_F (0 ≤ 0 + t0_1.toInt) from (show 0 ≤ 0 + t0_1.toInt from by have t1 : 0 ≤ t0_1.toInt ∧ t0_1.toInt ≤ 1 := btt0_1; omega)), (show q_F (t0_1.toInt ≤ t0_0.toInt + 1) from (show t0_1.toInt ≤ t0_0.toInt + 1 from by have t1 : 0 ≤ t0_0.toInt ∧ t0_0.toInt ≤ R.toInt := btt0_0; have t2 : 0 ≤ t0_1.toInt ∧ t0_1.toInt ≤ 1 := btt0_1; omega)), (show q_F (0 ≤ t0_0.toInt + t0_1.toInt) from (show 0 ≤ t0_0.toInt + t0_1.toInt from by have t1 : 0 ≤ t0_0.toInt ∧ t0_0.toInt ≤ R.toInt := btt0_0; have t2 : 0 ≤ t0_1.toInt ∧ t0_1.toInt ≤ 1 := btt0_1; omega)), (show q_F (t0_1.toInt ≤ 0 + t0_1.toInt) from (show t0_1.toInt ≤ 0 + t0_1.toInt from by omega)), (show q_F (9 * 0 + x2.toInt ≤ x2.toInt) from (show 9 * 0 + x2.toInt ≤ x2.toInt from by omega)), (show q_F (x2.toInt + 9 * t0_1.toInt ≤ 9 * t0_1.toInt + x2.toInt) from (show x2.toInt + 9 * t0_1.toInt ≤ 9 * t0_1.toInt + x2.toInt from by omega)), V, q_lw hl (q_lw1 0 rfl (q_lw1 1 rfl (q_lw1 2 rfl q_lw0))), hI, hF, hT0, hT1, ⟨((x2.toInt - ((-1))).toNat + 1), Nat.lt_succ_self _, (show F_Big_dropFigures_L4 R x2 t0_0 t0_1 t1_0 ((x2.toInt - ((-1))).toNat + 1) x2 0 t0_0 t0_1 t1_0 = (F_Big_dropFigures R x2 t0_0 t0_1 t1_0) from (by rw [F_Big_dropFigures.eq_1]))⟩⟩
  rintro ⟨lx16, lx17, lx18, lx19, lx20⟩ H locs ls w33 ⟨i21, i22, i23, i24, i25, i26, i27, i28, i29, i30, i31, V, hl, hI, hF, hO34, hO35, ⟨fu37, hf38, hR36⟩⟩ ih32
  obtain ⟨fm39, rfl⟩ : ∃ m, fu37 = m + 1 := ⟨fu37 - 1, by omega⟩
  replace i21 : q_F (lx17.toInt ≤ 1) := i21
  replace i22 : q_F (0 ≤ lx19.toInt) := i22
  replace i23 : q_F (lx17.toInt ≤ t0_0.toInt) := i23
  replace i24 : q_F (lx18.toInt ≤ t0_0.toInt) := i24
  replace i25 : q_F (lx19.toInt ≤ t0_1.toInt) := i25
  replace i26 : q_F (0 ≤ lx17.toInt + lx19.toInt) := i26
  replace i27 : q_F (lx19.toInt ≤ lx18.toInt + 1) := i27
  replace i28 : q_F (0 ≤ lx18.toInt + lx19.toInt) := i28
  replace i29 : q_F (lx19.toInt ≤ lx17.toInt + t0_1.toInt) := i29
  replace i30 : q_F (9 * lx17.toInt + lx16.toInt ≤ x2.toInt) := i30
  replace i31 : q_F (lx16.toInt + 9 * t0_1.toInt ≤ 9 * lx19.toInt + x2.toInt) := i31
  replace hl : lv_has ls 4 [(3, .int lx16), (2, .int lx17), (0, .ref (q k1))] := hl
  replace hO34 : w33[k1]? = (some (q k1, .inr (2, [.ref (q (k1 + 1)), .int lx18, .int lx19])) : Option (Nat × va_E)) := hO34
  replace hO35 : w33[k1 + 1]? = (some (q (k1 + 1), .inl (g 0, R.toNatClampNeg, .inl lx20)) : Option (Nat × va_E)) := hO35
  refine lv_iload_n hx hb d_2_30_4 rfl (lv_at hl 0 rfl) ?_
  refine lv_if_le (tgt := 46) hx hb d_2_30_5 (by decide) (fun c40 => ?_) (fun c40 => ?_)
  ·
    refine lv_iload_n hx hb d_2_30_46 rfl (lv_at hl 1 rfl) ?_
    exact q_retz C0 V (q_nz01 (q_Ile (x := 0) (y := lx17.toInt) (by decide) rfl (by have t1 : 0 ≤ t0_1.toInt ∧ t0_1.toInt ≤ 1 := btt0_1; have t2 : 0 ≤ lx17.toInt + lx19.toInt := i26; have t3 : lx19.toInt ≤ lx17.toInt + t0_1.toInt := i29; omega)) (q_Ile (x := lx17.toInt) (y := 1) rfl (by decide) (by first | with_reducible exact q_fe i21 | (have t1 : lx17.toInt ≤ 1 := i21; omega)))) (⟨hI, hF, lx18, lx19, lx20, hO34, hO35, (show 0 ≤ lx17.toInt from (by have t1 : 0 ≤ t0_1.toInt ∧ t0_1.toInt ≤ 1 := btt0_1; have t2 : 0 ≤ lx17.toInt + lx19.toInt := i26; have t3 : lx19.toInt ≤ lx17.toInt + t0_1.toInt := i29; omega)), (show lx17.toInt ≤ 1 from (by first | with_reducible exact q_fe i21 | (have t1 : lx17.toInt ≤ 1 := i21; omega))), (show 0 ≤ lx18.toInt from (by have t1 : lx19.toInt ≤ lx18.toInt + 1 := i27; have t2 : 0 ≤ lx18.toInt + lx19.toInt := i28; omega)), (show 0 ≤ lx19.toInt from (by first | with_reducible exact q_fe i22 | (have t1 : 0 ≤ lx19.toInt := i22; omega))), (show lx17.toInt ≤ t0_0.toInt from (by first | with_reducible exact q_fe i23 | (have t1 : lx17.toInt ≤ t0_0.toInt := i23; omega))), (show lx18.toInt ≤ t0_0.toInt from (by first | with_reducible exact q_fe i24 | (have t1 : lx18.toInt ≤ t0_0.toInt := i24; omega))), (show lx19.toInt ≤ t0_1.toInt from (by first | with_reducible exact q_fe i25 | (have t1 : lx19.toInt ≤ t0_1.toInt := i25; omega))), (show (lx17, lx18, lx19, lx20) = (F_Big_dropFigures R x2 t0_0 t0_1 t1_0) from Eq.trans (by rw [F_Big_dropFigures_L4.eq_2, if_pos c40]) hR36)⟩) d_2_30_47
  ·
    have b42 : q_F (0 < lx16.toInt) := (q_nleI c40)
    refine lv_aload_n hx hb d_2_30_8 rfl (lv_at hl 2 rfl) ?_
    refine q_get (ci := 2) (j := 1) (v := .int lx18) C0 V i_Big rfl rfl hO34 (by decide) w_85 rfl d_2_30_9 ?_
    refine lv_if_le (tgt := 46) hx hb d_2_30_12 (by decide) (fun c43 => ?_) (fun c43 => ?_)
    ·
      refine lv_iload_n hx hb d_2_30_46 rfl (lv_at hl 1 rfl) ?_
      exact q_retz C0 V (q_nz01 (q_Ile (x := 0) (y := lx17.toInt) (by decide) rfl (by have t1 : 0 ≤ t0_1.toInt ∧ t0_1.toInt ≤ 1 := btt0_1; have t2 : 0 ≤ lx17.toInt + lx19.toInt := i26; have t3 : lx19.toInt ≤ lx17.toInt + t0_1.toInt := i29; omega)) (q_Ile (x := lx17.toInt) (y := 1) rfl (by decide) (by first | with_reducible exact q_fe i21 | (have t1 : lx17.toInt ≤ 1 := i21; omega)))) (⟨hI, hF, lx18, lx19, lx20, hO34, hO35, (show 0 ≤ lx17.toInt from (by have t1 : 0 ≤ t0_1.toInt ∧ t0_1.toInt ≤ 1 := btt0_1; have t2 : 0 ≤ lx17.toInt + lx19.toInt := i26; have t3 : lx19.toInt ≤ lx17.toInt + t0_1.toInt := i29; omega)), (show lx17.toInt ≤ 1 from (by first | with_reducible exact q_fe i21 | (have t1 : lx17.toInt ≤ 1 := i21; omega))), (show 0 ≤ lx18.toInt from (by have t1 : lx19.toInt ≤ lx18.toInt + 1 := i27; have t2 : 0 ≤ lx18.toInt + lx19.toInt := i28; omega)), (show 0 ≤ lx19.toInt from (by first | with_reducible exact q_fe i22 | (have t1 : 0 ≤ lx19.toInt := i22; omega))), (show lx17.toInt ≤ t0_0.toInt from (by first | with_reducible exact q_fe i23 | (have t1 : lx17.toInt ≤ t0_0.toInt := i23; omega))), (show lx18.toInt ≤ t0_0.toInt from (by first | with_reducible exact q_fe i24 | (have t1 : lx18.toInt ≤ t0_0.toInt := i24; omega))), (show lx19.toInt ≤ t0_1.toInt from (by first | with_reducible exact q_fe i25 | (have t1 : lx19.toInt ≤ t0_1.toInt := i25; omega))), (show (lx17, lx18, lx19, lx20) = (F_Big_dropFigures R x2 t0_0 t0_1 t1_0) from Eq.trans (by rw [F_Big_dropFigures_L4.eq_2, if_neg c40, if_pos c43]) hR36)⟩) d_2_30_47
    ·
      have b45 : q_F (0 < lx18.toInt) := (q_nleI c43)
      refine lv_iload_n hx hb d_2_30_15 rfl (lv_at hl 1 rfl) ?_
      refine lv_aload_n hx hb d_2_30_16 rfl (lv_at hl 2 rfl) ?_
      refine q_tens C0 V rfl w_771 d_2_30_17 (fun t46 hT47 => ?_)
      refine lv_iload_n hx hb d_2_30_20 rfl (lv_at hl 0 rfl) ?_
      refine lv_bipush (v := 9) hx hb d_2_30_21 (by decide) ?_
      refine q_min C0 hl.1 rfl w_773 w_774 w_7 w_775 ⟨Nat.le_of_ble_eq_true rfl, Nat.le_of_ble_eq_true rfl⟩ ⟨Nat.le_of_ble_eq_true rfl, Nat.le_of_ble_eq_true rfl⟩ d_2_30_23 ?_
      obtain ⟨a48, e49⟩ := q_nm (if 9 < lx16 then 9 else lx16 : Int32)
      refine q_ti (v := a48) e49 ?_
      have b50 : q_F (a48.toInt ≤ lx16.toInt ∧ a48.toInt ≤ 9 ∧ (a48.toInt = lx16.toInt ∨ a48.toInt = 9)) := (by rw [← e49]; show (if 9 < lx16 then 9 else lx16 : Int32).toInt ≤ lx16.toInt ∧ (if 9 < lx16 then 9 else lx16 : Int32).toInt ≤ 9 ∧ ((if 9 < lx16 then 9 else lx16 : Int32).toInt = lx16.toInt ∨ (if 9 < lx16 then 9 else lx16 : Int32).toInt = 9); exact (by have y1 : (9 : Int32).toInt = 9 := rfl; have z := s_min (a := lx16) (b := 9); omega))
      refine q_tald (v := .int (Int32.ofNat (10 ^ a48.toNatClampNeg))) C0 V hT47 (q_ix (x := a48.toInt) rfl (by have t1 : 0 < lx16.toInt := b42; have t2 : a48.toInt ≤ lx16.toInt ∧ a48.toInt ≤ 9 ∧ (a48.toInt = lx16.toInt ∨ a48.toInt = 9) := b50; omega) (by have t1 : 0 < lx16.toInt := b42; have t2 : a48.toInt ≤ lx16.toInt ∧ a48.toInt ≤ 9 ∧ (a48.toInt = lx16.toInt ∨ a48.toInt = 9) := b50; omega)) rfl d_2_30_26 ?_
      obtain ⟨a51, e52⟩ := q_nm (Int32.ofNat (10 ^ a48.toNatClampNeg) : Int32)
      refine q_ti (v := a51) e52 ?_
      refine q_goi V (q_runV (As := [.int a51]) (rest := [.int lx17]) (d := 2) (mc := 0) (ms := 0) (ci := 2) C0 V rfl LV_Big_105 (X_Big_divideSmall l D g q w33 k1 R hB1 zk1 a51 hI lx18 lx19 hO34 lx20 hO35  _) rfl rfl hO34 rfl hl.1 rfl (Nat.le_of_ble_eq_true rfl) ⟨by decide, by decide⟩ ⟨Nat.le_of_ble_eq_true rfl, Nat.le_of_ble_eq_true rfl⟩ d_2_30_27) (fun a56 u54 H locs hp55 V => ?_)
      obtain ⟨hI, hZ9⟩ := hp55
      obtain ⟨hu67, hZ9⟩ := hZ9
      obtain ⟨y58, hZ9⟩ := hZ9
      obtain ⟨y59, hZ9⟩ := hZ9
      obtain ⟨f60, hZ9⟩ := hZ9
      obtain ⟨hO57, hZ9⟩ := hZ9
      obtain ⟨hA61, hZ9⟩ := hZ9
      obtain ⟨b62, hZ9⟩ := hZ9
      obtain ⟨b63, hZ9⟩ := hZ9
      obtain ⟨b64, hZ9⟩ := hZ9
      obtain ⟨b65, hE66⟩ := hZ9
      replace hO57 : u54[k1]? = (some (q k1, .inr (2, [.ref (q (k1 + 1)), .int y58, .int y59])) : Option (Nat × va_E)) := hO57
      replace hA61 : u54[k1 + 1]? = (some (q (k1 + 1), .inl (g 0, R.toNatClampNeg, .inl f60)) : Option (Nat × va_E)) := hA61
      have e68 : a56 = (F_Big_divideSmall R a51 lx18 lx19 lx20).1 := congrArg (fun z => z.1) hE66
      have e69 : y58 = (F_Big_divideSmall R a51 lx18 lx19 lx20).2.1 := congrArg (fun z => z.2.1) hE66
      have e70 : y59 = (F_Big_divideSmall R a51 lx18 lx19 lx20).2.2.1 := congrArg (fun z => z.2.2.1) hE66
      have e71 : f60 = (F_Big_divideSmall R a51 lx18 lx19 lx20).2.2.2 := congrArg (fun z => z.2.2.2) hE66
      replace b62 : q_F (0 ≤ y59.toInt) := b62
      replace b63 : q_F (y58.toInt ≤ lx18.toInt) := b63
      replace b64 : q_F (y59.toInt ≤ lx19.toInt) := b64
      replace b65 : q_F (y59.toInt ≤ y58.toInt) := b65
      replace hF := q_uc hF hu67 (by simp)
      refine lv_if_eq (tgt := 37) hx hb d_2_30_30 (by decide) (fun c72 => ?_) (fun c72 => ?_)
      ·
        refine lv_iconst (v := 0) hx hb d_2_30_37 (by decide) ?_
        refine lv_ior hx hb d_2_30_38 ?_
        obtain ⟨a74, e75⟩ := q_nm (lx17 ||| 0 : Int32)
        refine q_ti (v := a74) e75 ?_
        have b76 : q_F (0 ≤ a74.toInt ∧ a74.toInt ≤ 1) := (by rw [← e75]; show 0 ≤ (lx17 ||| 0 : Int32).toInt ∧ (lx17 ||| 0 : Int32).toInt ≤ 1; exact s_or' (x := lx17) (y := 0) 1 (by decide) 1 (by decide) ⟨(by have t1 : 0 ≤ t0_1.toInt ∧ t0_1.toInt ≤ 1 := btt0_1; have t2 : 0 ≤ lx17.toInt + lx19.toInt := i26; have t3 : lx19.toInt ≤ lx17.toInt + t0_1.toInt := i29; have t4 : lx17.toInt ≤ 1 := i21; omega), (by have t1 : 0 ≤ t0_1.toInt ∧ t0_1.toInt ≤ 1 := btt0_1; have t2 : 0 ≤ lx17.toInt + lx19.toInt := i26; have t3 : lx19.toInt ≤ lx17.toInt + t0_1.toInt := i29; have t4 : lx17.toInt ≤ 1 := i21; omega)⟩ ⟨(by have z7 : (0 : Int32).toInt = 0 := rfl; omega), (by have z7 : (0 : Int32).toInt = 0 := rfl; omega)⟩)
        refine lv_istore_n (lv' := [(2, .int a74), (3, .int lx16), (0, .ref (q k1))]) hx hb d_2_30_39 rfl hl (by decide) rfl (fun ls hl => ?_)
        obtain ⟨a77, e78⟩ := q_nm (lx16 + (-9) : Int32)
        have b79 : q_F (a77.toInt = lx16.toInt + (-9)) := (by rw [← e78]; exact q_addI (y := (-9)) rfl (by decide) (by have t1 : 0 < lx16.toInt := b42; have _ := q_lo32 (x := lx16); have _ := q_hi32 (x := lx16); omega) (by have t1 : 0 < lx16.toInt := b42; have _ := q_lo32 (x := lx16); have _ := q_hi32 (x := lx16); omega))
        refine lv_iinc (v := a77) (lv' := [(3, .int a77), (2, .int a74), (0, .ref (q k1))]) hx hb d_2_30_40 hl (k := 1) rfl (e78) (by decide) rfl (fun ls hl => ?_)
        refine lv_goto (tgt := 4) hx hb d_2_30_43 (by decide) ?_
        exact ih32 ((a77 : Int32), (a74 : Int32), (y58 : Int32), (y59 : Int32), (f60 : (Nat → Int32))) _ _ _ _ (show (a77.toInt - ((-1))).toNat < (lx16.toInt - ((-1))).toNat from by have t1 : a77.toInt = lx16.toInt + (-9) := b79; have t2 : 0 < lx16.toInt := b42; omega) ⟨(show q_F (a74.toInt ≤ 1) from (show a74.toInt ≤ 1 from by have t1 : 0 ≤ a74.toInt ∧ a74.toInt ≤ 1 := b76; omega)), (show q_F (0 ≤ y59.toInt) from (show 0 ≤ y59.toInt from by have t1 : 0 ≤ y59.toInt := b62; omega)), (show q_F (a74.toInt ≤ t0_0.toInt) from (show a74.toInt ≤ t0_0.toInt from by have t1 : lx18.toInt ≤ t0_0.toInt := i24; have t2 : 0 < lx18.toInt := b45; have t3 : 0 ≤ a74.toInt ∧ a74.toInt ≤ 1 := b76; omega)), (show q_F (y58.toInt ≤ t0_0.toInt) from (show y58.toInt ≤ t0_0.toInt from by have t1 : lx18.toInt ≤ t0_0.toInt := i24; have t2 : y58.toInt ≤ lx18.toInt := b63; omega)), (show q_F (y59.toInt ≤ t0_1.toInt) from (show y59.toInt ≤ t0_1.toInt from by have t1 : lx19.toInt ≤ t0_1.toInt := i25; have t2 : y59.toInt ≤ lx19.toInt := b64; omega)), (show q_F (0 ≤ a74.toInt + y59.toInt) from (show 0 ≤ a74.toInt + y59.toInt from by have t1 : 0 ≤ y59.toInt := b62; have t2 : 0 ≤ a74.toInt ∧ a74.toInt ≤ 1 := b76; omega)), (show q_F (y59.toInt ≤ y58.toInt + 1) from (show y59.toInt ≤ y58.toInt + 1 from by have t1 : y59.toInt ≤ y58.toInt := b65; omega)), (show q_F (0 ≤ y58.toInt + y59.toInt) from (show 0 ≤ y58.toInt + y59.toInt from by have t1 : 0 ≤ y59.toInt := b62; have t2 : y59.toInt ≤ y58.toInt := b65; omega)), (show q_F (y59.toInt ≤ a74.toInt + t0_1.toInt) from (show y59.toInt ≤ a74.toInt + t0_1.toInt from by have t1 : lx19.toInt ≤ t0_1.toInt := i25; have t2 : y59.toInt ≤ lx19.toInt := b64; have t3 : 0 ≤ a74.toInt ∧ a74.toInt ≤ 1 := b76; omega)), (show q_F (9 * a74.toInt + a77.toInt ≤ x2.toInt) from (show 9 * a74.toInt + a77.toInt ≤ x2.toInt from by have t1 : 0 ≤ t0_1.toInt ∧ t0_1.toInt ≤ 1 := btt0_1; have t2 : lx17.toInt ≤ 1 := i21; have t3 : 0 ≤ lx17.toInt + lx19.toInt := i26; have t4 : lx19.toInt ≤ lx17.toInt + t0_1.toInt := i29; have t5 : 9 * lx17.toInt + lx16.toInt ≤ x2.toInt := i30; have t6 : 0 ≤ a74.toInt ∧ a74.toInt ≤ 1 := b76; have t7 : a77.toInt = lx16.toInt + (-9) := b79; omega)), (show q_F (a77.toInt + 9 * t0_1.toInt ≤ 9 * y59.toInt + x2.toInt) from (show a77.toInt + 9 * t0_1.toInt ≤ 9 * y59.toInt + x2.toInt from by have t1 : 0 ≤ t0_1.toInt ∧ t0_1.toInt ≤ 1 := btt0_1; have t2 : lx19.toInt ≤ t0_1.toInt := i25; have t3 : lx16.toInt + 9 * t0_1.toInt ≤ 9 * lx19.toInt + x2.toInt := i31; have t4 : 0 ≤ y59.toInt := b62; have t5 : a77.toInt = lx16.toInt + (-9) := b79; omega)), V, q_lw hl (q_lw1 0 rfl (q_lw1 1 rfl (q_lw1 2 rfl q_lw0))), hI, hF, hO57, hA61, ⟨fm39, Nat.lt_of_lt_of_le (show (a77.toInt - ((-1))).toNat < (lx16.toInt - ((-1))).toNat from by have t1 : a77.toInt = lx16.toInt + (-9) := b79; have t2 : 0 < lx16.toInt := b42; omega) (Nat.le_of_lt_succ hf38), (show F_Big_dropFigures_L4 R x2 t0_0 t0_1 t1_0 fm39 a77 a74 y58 y59 f60 = (F_Big_dropFigures R x2 t0_0 t0_1 t1_0) from Eq.trans (by subst e49; subst e52; subst e68; subst e69; subst e70; subst e71; subst e75; subst e78; rw [F_Big_dropFigures_L4.eq_2, if_neg c40, if_neg c43, if_pos c72]) hR36)⟩⟩
      ·
        refine lv_iconst (v := 1) hx hb d_2_30_33 (by decide) ?_
        refine lv_goto (tgt := 38) hx hb d_2_30_34 (by decide) ?_
        refine lv_ior hx hb d_2_30_38 ?_
        obtain ⟨a81, e82⟩ := q_nm (lx17 ||| 1 : Int32)
        refine q_ti (v := a81) e82 ?_
        have b83 : q_F (0 ≤ a81.toInt ∧ a81.toInt ≤ 1) := (by rw [← e82]; show 0 ≤ (lx17 ||| 1 : Int32).toInt ∧ (lx17 ||| 1 : Int32).toInt ≤ 1; exact s_or' (x := lx17) (y := 1) 1 (by decide) 1 (by decide) ⟨(by have t1 : 0 ≤ t0_1.toInt ∧ t0_1.toInt ≤ 1 := btt0_1; have t2 : 0 ≤ lx17.toInt + lx19.toInt := i26; have t3 : lx19.toInt ≤ lx17.toInt + t0_1.toInt := i29; have t4 : lx17.toInt ≤ 1 := i21; omega), (by have t1 : 0 ≤ t0_1.toInt ∧ t0_1.toInt ≤ 1 := btt0_1; have t2 : 0 ≤ lx17.toInt + lx19.toInt := i26; have t3 : lx19.toInt ≤ lx17.toInt + t0_1.toInt := i29; have t4 : lx17.toInt ≤ 1 := i21; omega)⟩ ⟨(by have z7 : (1 : Int32).toInt = 1 := rfl; omega), (by have z7 : (1 : Int32).toInt = 1 := rfl; omega)⟩)
        refine lv_istore_n (lv' := [(2, .int a81), (3, .int lx16), (0, .ref (q k1))]) hx hb d_2_30_39 rfl hl (by decide) rfl (fun ls hl => ?_)
        obtain ⟨a84, e85⟩ := q_nm (lx16 + (-9) : Int32)
        have b86 : q_F (a84.toInt = lx16.toInt + (-9)) := (by rw [← e85]; exact q_addI (y := (-9)) rfl (by decide) (by have t1 : 0 < lx16.toInt := b42; have _ := q_lo32 (x := lx16); have _ := q_hi32 (x := lx16); omega) (by have t1 : 0 < lx16.toInt := b42; have _ := q_lo32 (x := lx16); have _ := q_hi32 (x := lx16); omega))
        refine lv_iinc (v := a84) (lv' := [(3, .int a84), (2, .int a81), (0, .ref (q k1))]) hx hb d_2_30_40 hl (k := 1) rfl (e85) (by decide) rfl (fun ls hl => ?_)
        refine lv_goto (tgt := 4) hx hb d_2_30_43 (by decide) ?_
        exact ih32 ((a84 : Int32), (a81 : Int32), (y58 : Int32), (y59 : Int32), (f60 : (Nat → Int32))) _ _ _ _ (show (a84.toInt - ((-1))).toNat < (lx16.toInt - ((-1))).toNat from by have t1 : a84.toInt = lx16.toInt + (-9) := b86; have t2 : 0 < lx16.toInt := b42; omega) ⟨(show q_F (a81.toInt ≤ 1) from (show a81.toInt ≤ 1 from by have t1 : 0 ≤ a81.toInt ∧ a81.toInt ≤ 1 := b83; omega)), (show q_F (0 ≤ y59.toInt) from (show 0 ≤ y59.toInt from by have t1 : 0 ≤ y59.toInt := b62; omega)), (show q_F (a81.toInt ≤ t0_0.toInt) from (show a81.toInt ≤ t0_0.toInt from by have t1 : lx18.toInt ≤ t0_0.toInt := i24; have t2 : 0 < lx18.toInt := b45; have t3 : 0 ≤ a81.toInt ∧ a81.toInt ≤ 1 := b83; omega)), (show q_F (y58.toInt ≤ t0_0.toInt) from (show y58.toInt ≤ t0_0.toInt from by have t1 : lx18.toInt ≤ t0_0.toInt := i24; have t2 : y58.toInt ≤ lx18.toInt := b63; omega)), (show q_F (y59.toInt ≤ t0_1.toInt) from (show y59.toInt ≤ t0_1.toInt from by have t1 : lx19.toInt ≤ t0_1.toInt := i25; have t2 : y59.toInt ≤ lx19.toInt := b64; omega)), (show q_F (0 ≤ a81.toInt + y59.toInt) from (show 0 ≤ a81.toInt + y59.toInt from by have t1 : 0 ≤ y59.toInt := b62; have t2 : 0 ≤ a81.toInt ∧ a81.toInt ≤ 1 := b83; omega)), (show q_F (y59.toInt ≤ y58.toInt + 1) from (show y59.toInt ≤ y58.toInt + 1 from by have t1 : y59.toInt ≤ y58.toInt := b65; omega)), (show q_F (0 ≤ y58.toInt + y59.toInt) from (show 0 ≤ y58.toInt + y59.toInt from by have t1 : 0 ≤ y59.toInt := b62; have t2 : y59.toInt ≤ y58.toInt := b65; omega)), (show q_F (y59.toInt ≤ a81.toInt + t0_1.toInt) from (show y59.toInt ≤ a81.toInt + t0_1.toInt from by have t1 : lx19.toInt ≤ t0_1.toInt := i25; have t2 : y59.toInt ≤ lx19.toInt := b64; have t3 : 0 ≤ a81.toInt ∧ a81.toInt ≤ 1 := b83; omega)), (show q_F (9 * a81.toInt + a84.toInt ≤ x2.toInt) from (show 9 * a81.toInt + a84.toInt ≤ x2.toInt from by have t1 : 0 ≤ t0_1.toInt ∧ t0_1.toInt ≤ 1 := btt0_1; have t2 : lx17.toInt ≤ 1 := i21; have t3 : 0 ≤ lx17.toInt + lx19.toInt := i26; have t4 : lx19.toInt ≤ lx17.toInt + t0_1.toInt := i29; have t5 : 9 * lx17.toInt + lx16.toInt ≤ x2.toInt := i30; have t6 : 0 ≤ a81.toInt ∧ a81.toInt ≤ 1 := b83; have t7 : a84.toInt = lx16.toInt + (-9) := b86; omega)), (show q_F (a84.toInt + 9 * t0_1.toInt ≤ 9 * y59.toInt + x2.toInt) from (show a84.toInt + 9 * t0_1.toInt ≤ 9 * y59.toInt + x2.toInt from by have t1 : 0 ≤ t0_1.toInt ∧ t0_1.toInt ≤ 1 := btt0_1; have t2 : lx19.toInt ≤ t0_1.toInt := i25; have t3 : lx16.toInt + 9 * t0_1.toInt ≤ 9 * lx19.toInt + x2.toInt := i31; have t4 : 0 ≤ y59.toInt := b62; have t5 : a84.toInt = lx16.toInt + (-9) := b86; omega)), V, q_lw hl (q_lw1 0 rfl (q_lw1 1 rfl (q_lw1 2 rfl q_lw0))), hI, hF, hO57, hA61, ⟨fm39, Nat.lt_of_lt_of_le (show (a84.toInt - ((-1))).toNat < (lx16.toInt - ((-1))).toNat from by have t1 : a84.toInt = lx16.toInt + (-9) := b86; have t2 : 0 < lx16.toInt := b42; omega) (Nat.le_of_lt_succ hf38), (show F_Big_dropFigures_L4 R x2 t0_0 t0_1 t1_0 fm39 a84 a81 y58 y59 f60 = (F_Big_dropFigures R x2 t0_0 t0_1 t1_0) from Eq.trans (by subst e49; subst e52; subst e68; subst e69; subst e70; subst e71; subst e82; subst e85; rw [F_Big_dropFigures_L4.eq_2, if_neg c40, if_neg c43, if_neg c72]) hR36)⟩⟩

