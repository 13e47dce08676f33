/-! Digits and Writer, exactly -/
def F_Dig_figure (x2 : Int32) (t0_0 : Int32) (t0_1 : Int32) (t1_0 : (Nat → Int32)) : Int32 := if x2 < (0 : Int32) then ((0 : Int32)) else (if t0_0 ≤ x2 then ((0 : Int32)) else ((t1_0 x2.toNatClampNeg : Int32)))
set_option maxRecDepth 100000 in
set_option maxHeartbeats 4000000 in
theorem X_Dig_figure (l : Launch) (D : va_G) (g : Nat → ClassId) (q : Nat → Nat) (ws : va_W) (x2 : Int32) (hI : q_I (nsh g q) q ws) (t0_0 : Int32) (t0_1 : Int32) (hT0 : ws[36]? = (some (q 36, .inr (7, [.int t0_0, .int t0_1, .ref (q 37)])) : Option (Nat × va_E))) (t1_0 : (Nat → Int32)) (hT1 : ws[37]? = (some (q 37, .inl (g 2, 1026, .inl t1_0)) : Option (Nat × va_E))) : q_mI l y_Dig_figure prog_5_method_5_code 2 (.int) 1 0 0 D g [.ref (q 36), .int x2] ws (fun r u => ws = u ∧ r = (F_Dig_figure x2 t0_0 t0_1 t1_0)) := by
  intro sz
  refine q_into (by decide) (Nat.le_of_ble_eq_true rfl) ?_
  intro p e s m below meth c ls hsz C0 V hl
  have hx := C0.1
  have hb := C0.2.1
  have btt0_0 := (n_w36 hI hT0).1
  replace btt0_0 : q_F (0 ≤ t0_0.toInt ∧ t0_0.toInt ≤ 1026) := btt0_0
  have hl : lv_has ls 2 [(0, .ref (q 36)), (1, .int x2)] := hl
  refine lv_iload_n hx hb d_5_5_0 rfl (lv_at hl 1 rfl) ?_
  refine lv_if_lt (tgt := 21) hx hb d_5_5_1 (by decide) (fun c9 => ?_) (fun c9 => ?_)
  ·
    refine lv_iconst (v := 0) hx hb d_5_5_21 (by decide) ?_
    exact q_reti C0 V (⟨rfl, (show (0 : Int32) = (F_Dig_figure x2 t0_0 t0_1 t1_0) from (by rw [F_Dig_figure.eq_1, if_pos c9]))⟩) d_5_5_22
  ·
    have b11 : q_F (0 ≤ x2.toInt) := (q_nltI c9)
    refine lv_iload_n hx hb d_5_5_4 rfl (lv_at hl 1 rfl) ?_
    refine lv_aload_n hx hb d_5_5_5 rfl (lv_at hl 0 rfl) ?_
    refine q_get (ci := 7) (j := 0) (v := .int t0_0) C0 V i_Dig rfl rfl hT0 (by decide) w_264 rfl d_5_5_6 ?_
    refine lv_icmp_ge (tgt := 21) hx hb d_5_5_9 (by decide) (fun c12 => ?_) (fun c12 => ?_)
    ·
      refine lv_iconst (v := 0) hx hb d_5_5_21 (by decide) ?_
      exact q_reti C0 V (⟨rfl, (show (0 : Int32) = (F_Dig_figure x2 t0_0 t0_1 t1_0) from (by rw [F_Dig_figure.eq_1, if_neg c9, if_pos c12]))⟩) d_5_5_22
    ·
      have b14 : q_F (x2.toInt < t0_0.toInt) := (q_nleI c12)
      refine lv_aload_n hx hb d_5_5_12 rfl (lv_at hl 0 rfl) ?_
      refine q_get (ci := 7) (j := 2) (v := .ref (q 37)) C0 V i_Dig rfl rfl hT0 (by decide) w_269 rfl d_5_5_13 ?_
      refine lv_iload_n hx hb d_5_5_16 rfl (lv_at hl 1 rfl) ?_
      refine q_bald C0 V hT1 (q_ix (x := x2.toInt) rfl (by first | with_reducible exact q_fe b11 | (have t1 : 0 ≤ x2.toInt := b11; omega)) (by have t1 : 0 ≤ x2.toInt := b11; have t2 : 0 ≤ t0_0.toInt ∧ t0_0.toInt ≤ 1026 := btt0_0; have t3 : x2.toInt < t0_0.toInt := b14; omega)) d_5_5_17 ?_
      obtain ⟨a15, e16⟩ := q_nm (t1_0 x2.toNatClampNeg : Int32)
      refine q_ti (v := a15) e16 ?_
      refine lv_goto (tgt := 22) hx hb d_5_5_18 (by decide) ?_
      exact q_reti C0 V (⟨rfl, (show a15 = (F_Dig_figure x2 t0_0 t0_1 t1_0) from (by rw [← e16, F_Dig_figure.eq_1, if_neg c9, if_neg c12]))⟩) d_5_5_22
def F_Dig_turn_L43 (K_F_Dig_turn_L0 : Int32 → (Int32 × Int32 × (Nat → Int32))) (x2 : Int32) (t0_0 : Int32) (t0_1 : Int32) (t1_0 : (Nat → Int32)) (lx9 : Int32) : Nat → Int32 → Int32 → (Nat → Int32) → (Int32 × Int32 × (Nat → Int32))
  | 0, _, _, _ => default
  | fm + 1, lx34, lx35, lx36 => if lx34 ≤ lx35 then (if lx9 = (0 : Int32) then ((lx9, (0 : Int32), lx36)) else ((lx9, ((lx9 - 1 : Int32) - x2 : Int32), lx36))) else (F_Dig_turn_L43 K_F_Dig_turn_L0 x2 t0_0 t0_1 t1_0 lx9 fm (lx34 + (-1) : Int32) (lx35 + 1 : Int32) (upd (upd lx36 lx35.toNatClampNeg (vp_nar .byte (lx36 lx34.toNatClampNeg : Int32)) : (Nat → Int32)) lx34.toNatClampNeg (vp_nar .byte (lx36 lx35.toNatClampNeg : Int32)) : (Nat → Int32)))
def F_Dig_turn_J34 (K_F_Dig_turn_L0 : Int32 → (Int32 × Int32 × (Nat → Int32))) (x2 : Int32) (t0_0 : Int32) (t0_1 : Int32) (t1_0 : (Nat → Int32)) (lx9 : Int32) : Int32 × Int32 × (Nat → Int32) := F_Dig_turn_L43 K_F_Dig_turn_L0 x2 t0_0 t0_1 t1_0 lx9 (((lx9 - 1 : Int32).toInt - ((-1000000))).toNat + 1) (lx9 - 1 : Int32) 0 t1_0
def F_Dig_turn_L0 (x2 : Int32) (t0_0 : Int32) (t0_1 : Int32) (t1_0 : (Nat → Int32)) : Nat → Int32 → (Int32 × Int32 × (Nat → Int32))
  | 0, _ => default
  | fm + 1, lx9 => if lx9 ≤ (0 : Int32) then (F_Dig_turn_J34 (F_Dig_turn_L0 x2 t0_0 t0_1 t1_0 fm) x2 t0_0 t0_1 t1_0 lx9) else (if (t1_0 (lx9 - 1 : Int32).toNatClampNeg : Int32) = (0 : Int32) then (F_Dig_turn_L0 x2 t0_0 t0_1 t1_0 fm (lx9 - 1 : Int32)) else (F_Dig_turn_J34 (F_Dig_turn_L0 x2 t0_0 t0_1 t1_0 fm) x2 t0_0 t0_1 t1_0 lx9))
def F_Dig_turn (x2 : Int32) (t0_0 : Int32) (t0_1 : Int32) (t1_0 : (Nat → Int32)) : Int32 × Int32 × (Nat → Int32) := F_Dig_turn_L0 x2 t0_0 t0_1 t1_0 ((t0_0.toInt - ((-1000000))).toNat + 1) t0_0
def S_Dig_turn_L43 (K_S_Dig_turn_L0 : Int32 → Prop) (x2 : Int32) (t0_0 : Int32) (t0_1 : Int32) (t1_0 : (Nat → Int32)) (lx9 : Int32) : Nat → Int32 → Int32 → (Nat → Int32) → Prop
  | 0, _, _, _ => False
  | fm + 1, lx34, lx35, lx36 => if lx34 ≤ lx35 then (if lx9 = (0 : Int32) then (True) else ((0 ≤ ((lx9 - 1 : Int32) - x2 : Int32).toInt + 1000000) ∧ ((((lx9 - 1 : Int32) - x2 : Int32).toInt ≤ 1000000) ∧ (True)))) else (S_Dig_turn_L43 K_S_Dig_turn_L0 x2 t0_0 t0_1 t1_0 lx9 fm (lx34 + (-1) : Int32) (lx35 + 1 : Int32) (upd (upd lx36 lx35.toNatClampNeg (vp_nar .byte (lx36 lx34.toNatClampNeg : Int32)) : (Nat → Int32)) lx34.toNatClampNeg (vp_nar .byte (lx36 lx35.toNatClampNeg : Int32)) : (Nat → Int32)))
def S_Dig_turn_J34 (K_S_Dig_turn_L0 : Int32 → Prop) (x2 : Int32) (t0_0 : Int32) (t0_1 : Int32) (t1_0 : (Nat → Int32)) (lx9 : Int32) : Prop := S_Dig_turn_L43 K_S_Dig_turn_L0 x2 t0_0 t0_1 t1_0 lx9 (((lx9 - 1 : Int32).toInt - ((-1000000))).toNat + 1) (lx9 - 1 : Int32) 0 t1_0
def S_Dig_turn_L0 (x2 : Int32) (t0_0 : Int32) (t0_1 : Int32) (t1_0 : (Nat → Int32)) : Nat → Int32 → Prop
  | 0, _ => False
  | fm + 1, lx9 => if lx9 ≤ (0 : Int32) then (S_Dig_turn_J34 (S_Dig_turn_L0 x2 t0_0 t0_1 t1_0 fm) x2 t0_0 t0_1 t1_0 lx9) else (if (t1_0 (lx9 - 1 : Int32).toNatClampNeg : Int32) = (0 : Int32) then (S_Dig_turn_L0 x2 t0_0 t0_1 t1_0 fm (lx9 - 1 : Int32)) else (S_Dig_turn_J34 (S_Dig_turn_L0 x2 t0_0 t0_1 t1_0 fm) x2 t0_0 t0_1 t1_0 lx9))
def S_Dig_turn (x2 : Int32) (t0_0 : Int32) (t0_1 : Int32) (t1_0 : (Nat → Int32)) : Prop := S_Dig_turn_L0 x2 t0_0 t0_1 t1_0 ((t0_0.toInt - ((-1000000))).toNat + 1) t0_0
set_option maxRecDepth 100000 in
set_option maxHeartbeats 4000000 in
theorem X_Dig_turn (l : Launch) (D : va_G) (g : Nat → ClassId) (q : Nat → Nat) (ws : va_W) (x2 : Int32) (hI : q_I (nsh g q) q ws) (t0_0 : Int32) (t0_1 : Int32) (hT0 : ws[36]? = (some (q 36, .inr (7, [.int t0_0, .int t0_1, .ref (q 37)])) : Option (Nat × va_E))) (t1_0 : (Nat → Int32)) (hT1 : ws[37]? = (some (q 37, .inl (g 2, 1026, .inl t1_0)) : Option (Nat × va_E))) (hS : True ∧ S_Dig_turn x2 t0_0 t0_1 t1_0) : q_mV l y_Dig_turn prog_5_method_4_code 5 1 0 0 D g [.ref (q 36), .int x2] ws (fun u => q_I (nsh g q) q u ∧ q_un ws u [36, 37] ∧ ∃ (u0_0 : Int32) (u0_1 : Int32) (u1_0 : (Nat → Int32)), u[36]? = (some (q 36, .inr (7, [.int u0_0, .int u0_1, .ref (q 37)])) : Option (Nat × va_E)) ∧ u[37]? = (some (q 37, .inl (g 2, 1026, .inl u1_0)) : Option (Nat × va_E)) ∧ (0 ≤ u0_0.toInt) ∧ (0 ≤ u0_1.toInt + 1000000) ∧ (u0_1.toInt ≤ 1000000) ∧ (u0_0.toInt ≤ t0_0.toInt) ∧ (u0_1.toInt ≤ u0_0.toInt + 999999) ∧ (u0_0, u0_1, u1_0) = (F_Dig_turn x2 t0_0 t0_1 t1_0)) := by
  intro sz
  refine q_into (by decide) (Nat.le_of_ble_eq_true rfl) ?_
  intro p e s m below meth c ls hsz C0 V hl
  have hx := C0.1
  have hb := C0.2.1
  obtain ⟨btt0_0, btt0_1⟩ := n_w36 hI hT0
  replace btt0_0 : q_F (0 ≤ t0_0.toInt ∧ t0_0.toInt ≤ 1026) := btt0_0
  replace btt0_1 : q_F (-1000000 ≤ t0_1.toInt ∧ t0_1.toInt ≤ 1000000) := btt0_1
  have hF : q_un ws ws [36, 37] := q_u0
  have hl : lv_has ls 5 [(0, .ref (q 36)), (1, .int x2)] := hl
  refine q_loop (X := Int32) (fun z H locs ls w13 => q_F (0 ≤ z.toInt) ∧ q_F (z.toInt ≤ t0_0.toInt) ∧ q_Wd D g (va_A ws sz) s w13 H locs ∧ lv_has ls 5 [(0, .ref (q 36)), (1, .int x2)] ∧ q_I (nsh g q) q w13 ∧ q_un ws w13 [36, 37] ∧ w13[36]? = (some (q 36, .inr (7, [.int z, .int t0_1, .ref (q 37)])) : Option (Nat × va_E)) ∧ w13[37]? = (some (q 37, .inl (g 2, 1026, .inl t1_0)) : Option (Nat × va_E)) ∧ (∃ n, (z.toInt - ((-1000000))).toNat < n ∧ F_Dig_turn_L0 x2 t0_0 t0_1 t1_0 n z = (F_Dig_turn x2 t0_0 t0_1 t1_0) ∧ True ∧ S_Dig_turn_L0 x2 t0_0 t0_1 t1_0 n z)) (fun z => (z.toInt - ((-1000000))).toNat) ?_ ((t0_0 : Int32)) _ _ _ ws ⟨(show q_F (0 ≤ t0_0.toInt) from (show 0 ≤ t0_0.toInt from by have t1 : 0 ≤ t0_0.toInt ∧ t0_0.toInt ≤ 1026 := btt0_0; omega)), (show q_F (t0_0.toInt ≤ t0_0.toInt) from (show t0_0.toInt ≤ t0_0.toInt from by omega)), V, q_lw hl (q_lw1 0 rfl (q_lw1 1 rfl q_lw0)), hI, hF, hT0, hT1, ⟨((t0_0.toInt - ((-1000000))).toNat + 1), Nat.lt_succ_self _, (show F_Dig_turn_L0 x2 t0_0 t0_1 t1_0 ((t0_0.toInt - ((-1000000))).toNat + 1) t0_0 = (F_Dig_turn x2 t0_0 t0_1 t1_0) from (by rw [F_Dig_turn.eq_1])), (show True ∧ S_Dig_turn_L0 x2 t0_0 t0_1 t1_0 ((t0_0.toInt - ((-1000000))).toNat + 1) t0_0 from (by have h := hS; rw [S_Dig_turn.eq_1] at h; with_reducible exact h))⟩⟩
  rintro lx9 H locs ls w13 ⟨i10, i11, V, hl, hI, hF, hO14, hO15, ⟨fu18, hf19, hR16, hS17⟩⟩ ih12
  obtain ⟨fm20, rfl⟩ : ∃ m, fu18 = m + 1 := ⟨fu18 - 1, by omega⟩
  replace i10 : q_F (0 ≤ lx9.toInt) := i10
  replace i11 : q_F (lx9.toInt ≤ t0_0.toInt) := i11
  replace hl : lv_has ls 5 [(0, .ref (q 36)), (1, .int x2)] := hl
  replace hO14 : w13[36]? = (some (q 36, .inr (7, [.int lx9, .int t0_1, .ref (q 37)])) : Option (Nat × va_E)) := hO14
  replace hO15 : w13[37]? = (some (q 37, .inl (g 2, 1026, .inl t1_0)) : Option (Nat × va_E)) := hO15
  refine lv_aload_n hx hb d_5_4_0 rfl (lv_at hl 0 rfl) ?_
  refine q_get (ci := 7) (j := 0) (v := .int lx9) C0 V i_Dig rfl rfl hO14 (by decide) w_264 rfl d_5_4_1 ?_
  refine q_join (X := Unit) (fun z H locs ls _ => q_Wd D g (va_A ws sz) s w13 H locs ∧ lv_has ls 5 [(0, .ref (q 36)), (1, .int x2)] ∧ F_Dig_turn_J34 (F_Dig_turn_L0 x2 t0_0 t0_1 t1_0 fm20) x2 t0_0 t0_1 t1_0 lx9 = (F_Dig_turn x2 t0_0 t0_1 t1_0) ∧ True ∧ S_Dig_turn_J34 (S_Dig_turn_L0 x2 t0_0 t0_1 t1_0 fm20) x2 t0_0 t0_1 t1_0 lx9) (fun z => []) 34 0 0 ?_ ?_
  ·
    rintro _ H locs ls _ ⟨V, hl, hR24, hS25⟩
    replace hl : lv_has ls 5 [(0, .ref (q 36)), (1, .int x2)] := hl
    refine lv_iconst (v := 0) hx hb d_5_4_34 (by decide) ?_
    refine lv_istore_n (lv' := [(2, .int 0), (0, .ref (q 36)), (1, .int x2)]) hx hb d_5_4_35 rfl hl (by decide) rfl (fun ls hl => ?_)
    refine lv_aload_n hx hb d_5_4_36 rfl (lv_at hl 1 rfl) ?_
    refine q_get (ci := 7) (j := 0) (v := .int lx9) C0 V i_Dig rfl rfl hO14 (by decide) w_264 rfl d_5_4_37 ?_
    refine lv_iconst (v := 1) hx hb d_5_4_40 (by decide) ?_
    refine lv_isub hx hb d_5_4_41 ?_
    obtain ⟨a29, e30⟩ := q_nm (lx9 - 1 : Int32)
    refine q_ti (v := a29) e30 ?_
    have b31 : q_F (a29.toInt = lx9.toInt - 1) := (by rw [← e30]; show (lx9 - 1 : Int32).toInt = lx9.toInt - 1; exact q_subI (x := lx9.toInt) (y := 1) rfl (by decide) (by have t1 : 0 ≤ lx9.toInt := i10; have _ := q_lo32 (x := lx9); have _ := q_hi32 (x := lx9); omega) (by have t1 : 0 ≤ lx9.toInt := i10; have _ := q_lo32 (x := lx9); have _ := q_hi32 (x := lx9); omega))
    refine lv_istore_n (lv' := [(3, .int a29), (2, .int 0), (0, .ref (q 36)), (1, .int x2)]) hx hb d_5_4_42 rfl hl (by decide) rfl (fun ls hl => ?_)
    refine q_loop (X := Int32 × Int32 × (Nat → Int32)) (fun z H locs ls w43 => q_F (z.2.1.toInt ≤ z.1.toInt + 1) ∧ q_F (z.1.toInt + z.2.1.toInt ≤ 1025) ∧ q_F (a29.toInt ≤ z.1.toInt + z.2.1.toInt) ∧ q_F (z.1.toInt + z.2.1.toInt ≤ a29.toInt) ∧ q_F (z.1.toInt ≤ z.2.1.toInt + a29.toInt) ∧ q_Wd D g (va_A ws sz) s w43 H locs ∧ lv_has ls 5 [(3, .int z.1), (2, .int z.2.1), (0, .ref (q 36)), (1, .int x2)] ∧ q_I (nsh g q) q w43 ∧ q_un ws w43 [36, 37] ∧ w43[36]? = (some (q 36, .inr (7, [.int lx9, .int t0_1, .ref (q 37)])) : Option (Nat × va_E)) ∧ w43[37]? = (some (q 37, .inl (g 2, 1026, .inl z.2.2)) : Option (Nat × va_E)) ∧ (∃ n, (z.1.toInt - ((-1000000))).toNat < n ∧ F_Dig_turn_L43 (F_Dig_turn_L0 x2 t0_0 t0_1 t1_0 fm20) x2 t0_0 t0_1 t1_0 lx9 n z.1 z.2.1 z.2.2 = (F_Dig_turn x2 t0_0 t0_1 t1_0) ∧ True ∧ S_Dig_turn_L43 (S_Dig_turn_L0 x2 t0_0 t0_1 t1_0 fm20) x2 t0_0 t0_1 t1_0 lx9 n z.1 z.2.1 z.2.2)) (fun z => (z.1.toInt - ((-1000000))).toNat) ?_ ((a29 : Int32), (0 : Int32), (t1_0 : (Nat → Int32))) _ _ _ w13 ⟨(show q_F (0 ≤ a29.toInt + 1) from (show 0 ≤ a29.toInt + 1 from by have t1 : 0 ≤ lx9.toInt := i10; have t2 : a29.toInt = lx9.toInt - 1 := b31; omega)), (show q_F (a29.toInt + 0 ≤ 1025) from (show a29.toInt + 0 ≤ 1025 from by have t1 : 0 ≤ t0_0.toInt ∧ t0_0.toInt ≤ 1026 := btt0_0; have t2 : lx9.toInt ≤ t0_0.toInt := i11; have t3 : a29.toInt = lx9.toInt - 1 := b31; omega)), (show q_F (a29.toInt ≤ a29.toInt + 0) from (show a29.toInt ≤ a29.toInt + 0 from by omega)), (show q_F (a29.toInt + 0 ≤ a29.toInt) from (show a29.toInt + 0 ≤ a29.toInt from by omega)), (show q_F (a29.toInt ≤ 0 + a29.toInt) from (show a29.toInt ≤ 0 + a29.toInt from by omega)), V, q_lw hl (q_lw1 0 rfl (q_lw1 1 rfl (q_lw1 2 rfl (q_lw1 3 rfl q_lw0)))), hI, hF, hO14, hO15, ⟨((a29.toInt - ((-1000000))).toNat + 1), Nat.lt_succ_self _, (show F_Dig_turn_L43 (F_Dig_turn_L0 x2 t0_0 t0_1 t1_0 fm20) x2 t0_0 t0_1 t1_0 lx9 ((a29.toInt - ((-1000000))).toNat + 1) a29 0 t1_0 = (F_Dig_turn x2 t0_0 t0_1 t1_0) from Eq.trans (by rw [← e30, F_Dig_turn_J34.eq_1]) hR24), (show True ∧ S_Dig_turn_L43 (S_Dig_turn_L0 x2 t0_0 t0_1 t1_0 fm20) x2 t0_0 t0_1 t1_0 lx9 ((a29.toInt - ((-1000000))).toNat + 1) a29 0 t1_0 from (by rw [← e30]; have h := hS25; rw [S_Dig_turn_J34.eq_1] at h; with_reducible exact h))⟩⟩
    rintro ⟨lx34, lx35, lx36⟩ H locs ls w43 ⟨i37, i38, i39, i40, i41, V, hl, hI, hF, hO44, hO45, ⟨fu48, hf49, hR46, hS47⟩⟩ ih42
    obtain ⟨fm50, rfl⟩ : ∃ m, fu48 = m + 1 := ⟨fu48 - 1, by omega⟩
    replace i37 : q_F (lx35.toInt ≤ lx34.toInt + 1) := i37
    replace i38 : q_F (lx34.toInt + lx35.toInt ≤ 1025) := i38
    replace i39 : q_F (a29.toInt ≤ lx34.toInt + lx35.toInt) := i39
    replace i40 : q_F (lx34.toInt + lx35.toInt ≤ a29.toInt) := i40
    replace i41 : q_F (lx34.toInt ≤ lx35.toInt + a29.toInt) := i41
    replace hl : lv_has ls 5 [(3, .int lx34), (2, .int lx35), (0, .ref (q 36)), (1, .int x2)] := hl
    replace hO44 : w43[36]? = (some (q 36, .inr (7, [.int lx9, .int t0_1, .ref (q 37)])) : Option (Nat × va_E)) := hO44
    replace hO45 : w43[37]? = (some (q 37, .inl (g 2, 1026, .inl lx36)) : Option (Nat × va_E)) := hO45
    refine lv_iload_n hx hb d_5_4_43 rfl (lv_at hl 1 rfl) ?_
    refine lv_iload_n hx hb d_5_4_44 rfl (lv_at hl 0 rfl) ?_
    refine lv_icmp_ge (tgt := 85) hx hb d_5_4_45 (by decide) (fun c51 => ?_) (fun c51 => ?_)
    ·
      refine lv_aload_n hx hb d_5_4_85 rfl (lv_at hl 2 rfl) ?_
      refine lv_aload_n hx hb d_5_4_86 rfl (lv_at hl 2 rfl) ?_
      refine q_get (ci := 7) (j := 0) (v := .int lx9) C0 V i_Dig rfl rfl hO44 (by decide) w_264 rfl d_5_4_87 ?_
      refine lv_if_ne (tgt := 97) hx hb d_5_4_90 (by decide) (fun c53 => ?_) (fun c53 => ?_)
      ·
        have b54 : q_F (lx9.toInt ≠ 0) := (q_neI c53)
        refine lv_aload_n hx hb d_5_4_97 rfl (lv_at hl 2 rfl) ?_
        refine q_get (ci := 7) (j := 0) (v := .int lx9) C0 V i_Dig rfl rfl hO44 (by decide) w_264 rfl d_5_4_98 ?_
        refine lv_iconst (v := 1) hx hb d_5_4_101 (by decide) ?_
        refine lv_isub hx hb d_5_4_102 ?_
        obtain ⟨a55, e56⟩ := q_nm (lx9 - 1 : Int32)
        refine q_ti (v := a55) e56 ?_
        refine lv_iload_n hx hb d_5_4_103 rfl (lv_at hl 3 rfl) ?_
        refine lv_isub hx hb d_5_4_104 ?_
        obtain ⟨a58, e59⟩ := q_nm (a55 - x2 : Int32)
        refine q_ti (v := a58) e59 ?_
        refine q_put (ci := 7) (j := 1) (v := .int a58) (ty := .int) C0 V i_Dig o_Dig n_Dig rfl rfl hO44 (by decide) w_266 rfl rfl rfl rfl (Nat.le_of_ble_eq_true rfl) d_5_4_105 (fun H locs w60 hu61 hO44 V => ?_)
        replace hO44 : w60[36]? = (some (q 36, .inr (7, [.int lx9, .int a58, .ref (q 37)])) : Option (Nat × va_E)) := hO44
        have ob62 : q_F (0 ≤ a58.toInt + 1000000) := (by rw [← e59, ← e56]; have h := hS47; rw [S_Dig_turn_L43.eq_2] at h; rw [if_pos c51] at h; rw [if_neg c53] at h; exact h.2.1)
        have ob63 : q_F (a58.toInt ≤ 1000000) := (by rw [← e59, ← e56]; have h := hS47; rw [S_Dig_turn_L43.eq_2] at h; rw [if_pos c51] at h; rw [if_neg c53] at h; replace h := q_s2 h; exact h.2.1)
        replace hI := n_p36 hI hu61 hO44 ⟨(by first | with_reducible exact q_fe i10 | (have t1 : 0 ≤ lx9.toInt := i10; omega)), (by have t1 : 0 ≤ t0_0.toInt ∧ t0_0.toInt ≤ 1026 := btt0_0; have t2 : lx9.toInt ≤ t0_0.toInt := i11; omega)⟩ ⟨(by first | with_reducible exact q_fe ob62 | (have t1 : 0 ≤ a58.toInt + 1000000 := ob62; omega)), (by first | with_reducible exact q_fe ob63 | (have t1 : a58.toInt ≤ 1000000 := ob63; omega))⟩
        replace hO45 := (hu61 _ (by decide)).trans hO45
        replace hF := q_us hF hu61 (by simp)
        exact q_retv C0 V (⟨hI, hF, lx9, a58, lx36, hO44, hO45, (show 0 ≤ lx9.toInt from (by first | with_reducible exact q_fe i10 | (have t1 : 0 ≤ lx9.toInt := i10; omega))), (show 0 ≤ a58.toInt + 1000000 from (by first | with_reducible exact q_fe ob62 | (have t1 : 0 ≤ a58.toInt + 1000000 := ob62; omega))), (show a58.toInt ≤ 1000000 from (by first | with_reducible exact q_fe ob63 | (have t1 : a58.toInt ≤ 1000000 := ob63; omega))), (show lx9.toInt ≤ t0_0.toInt from (by first | with_reducible exact q_fe i11 | (have t1 : lx9.toInt ≤ t0_0.toInt := i11; omega))), (show a58.toInt ≤ lx9.toInt + 999999 from (by have t1 : 0 ≤ lx9.toInt := i10; have t2 : lx9.toInt ≠ 0 := b54; have t3 : a58.toInt ≤ 1000000 := ob63; omega)), (show (lx9, a58, lx36) = (F_Dig_turn x2 t0_0 t0_1 t1_0) from Eq.trans (by rw [← e59, ← e56, F_Dig_turn_L43.eq_2, if_pos c51, if_neg c53]) hR46)⟩) d_5_4_108
      ·
        have b64 : q_F (lx9.toInt = 0) := (q_eqI c53)
        refine lv_iconst (v := 0) hx hb d_5_4_93 (by decide) ?_
        refine lv_goto (tgt := 105) hx hb d_5_4_94 (by decide) ?_
        refine q_put (ci := 7) (j := 1) (v := .int 0) (ty := .int) C0 V i_Dig o_Dig n_Dig rfl rfl hO44 (by decide) w_266 rfl rfl rfl rfl (Nat.le_of_ble_eq_true rfl) d_5_4_105 (fun H locs w65 hu66 hO44 V => ?_)
        replace hO44 : w65[36]? = (some (q 36, .inr (7, [.int lx9, .int 0, .ref (q 37)])) : Option (Nat × va_E)) := hO44
        replace hI := n_p36 hI hu66 hO44 ⟨(by first | with_reducible exact q_fe i10 | (have t1 : 0 ≤ lx9.toInt := i10; omega)), (by first | with_reducible exact q_fe b64 | (have t1 : lx9.toInt = 0 := b64; omega))⟩ ⟨(by have z9 : (0 : Int32).toInt = 0 := rfl; omega), (by have z9 : (0 : Int32).toInt = 0 := rfl; omega)⟩
        replace hO45 := (hu66 _ (by decide)).trans hO45
        replace hF := q_us hF hu66 (by simp)
        exact q_retv C0 V (⟨hI, hF, lx9, 0, lx36, hO44, hO45, (show 0 ≤ lx9.toInt from (by have z5 : (0 : Int32).toInt = 0 := rfl; have t1 : 0 ≤ lx9.toInt := i10; omega)), (show 0 ≤ (0 : Int32).toInt + 1000000 from (by have z5 : (0 : Int32).toInt = 0 := rfl; omega)), (show (0 : Int32).toInt ≤ 1000000 from (by have z5 : (0 : Int32).toInt = 0 := rfl; omega)), (show lx9.toInt ≤ t0_0.toInt from (by have z5 : (0 : Int32).toInt = 0 := rfl; have t1 : lx9.toInt ≤ t0_0.toInt := i11; omega)), (show (0 : Int32).toInt ≤ lx9.toInt + 999999 from (by have z5 : (0 : Int32).toInt = 0 := rfl; have t1 : 0 ≤ lx9.toInt := i10; omega)), (show (lx9, (0 : Int32), lx36) = (F_Dig_turn x2 t0_0 t0_1 t1_0) from Eq.trans (by rw [F_Dig_turn_L43.eq_2, if_pos c51, if_pos c53]) hR46)⟩) d_5_4_108
    ·
      have b67 : q_F (lx35.toInt < lx34.toInt) := (q_nleI c51)
      refine lv_aload_n hx hb d_5_4_48 rfl (lv_at hl 2 rfl) ?_
      refine q_get (ci := 7) (j := 2) (v := .ref (q 37)) C0 V i_Dig rfl rfl hO44 (by decide) w_269 rfl d_5_4_49 ?_
      refine lv_iload_n hx hb d_5_4_52 rfl (lv_at hl 1 rfl) ?_
      refine q_bald C0 V hO45 (q_ix (x := lx35.toInt) rfl (by have t1 : a29.toInt ≤ lx34.toInt + lx35.toInt := i39; have t2 : lx34.toInt ≤ lx35.toInt + a29.toInt := i41; omega) (by have t1 : a29.toInt ≤ lx34.toInt + lx35.toInt := i39; have t2 : lx34.toInt ≤ lx35.toInt + a29.toInt := i41; have t3 : lx35.toInt ≤ lx34.toInt + 1 := i37; have t4 : lx34.toInt + lx35.toInt ≤ 1025 := i38; omega)) d_5_4_53 ?_
      obtain ⟨a68, e69⟩ := q_nm (lx36 lx35.toNatClampNeg : Int32)
      refine q_ti (v := a68) e69 ?_
      refine lv_istore (lv' := [(4, .int a68), (3, .int lx34), (2, .int lx35), (0, .ref (q 36)), (1, .int x2)]) hx hb d_5_4_54 hl (by decide) rfl (fun ls hl => ?_)
      refine lv_aload_n hx hb d_5_4_56 rfl (lv_at hl 3 rfl) ?_
      refine q_get (ci := 7) (j := 2) (v := .ref (q 37)) C0 V i_Dig rfl rfl hO44 (by decide) w_269 rfl d_5_4_57 ?_
      refine lv_iload_n hx hb d_5_4_60 rfl (lv_at hl 2 rfl) ?_
      refine lv_aload_n hx hb d_5_4_61 rfl (lv_at hl 3 rfl) ?_
      refine q_get (ci := 7) (j := 2) (v := .ref (q 37)) C0 V i_Dig rfl rfl hO44 (by decide) w_269 rfl d_5_4_62 ?_
      refine lv_iload_n hx hb d_5_4_65 rfl (lv_at hl 1 rfl) ?_
      refine q_bald C0 V hO45 (q_ix (x := lx34.toInt) rfl (by have t1 : a29.toInt ≤ lx34.toInt + lx35.toInt := i39; have t2 : lx34.toInt ≤ lx35.toInt + a29.toInt := i41; have t3 : lx35.toInt < lx34.toInt := b67; omega) (by have t1 : a29.toInt ≤ lx34.toInt + lx35.toInt := i39; have t2 : lx34.toInt ≤ lx35.toInt + a29.toInt := i41; have t3 : lx35.toInt < lx34.toInt := b67; have t4 : lx34.toInt + lx35.toInt ≤ 1025 := i38; omega)) d_5_4_66 ?_
      obtain ⟨a70, e71⟩ := q_nm (lx36 lx34.toNatClampNeg : Int32)
      refine q_ti (v := a70) e71 ?_
      refine q_bast C0 V hO45 (q_ix (x := lx35.toInt) rfl (by have t1 : a29.toInt ≤ lx34.toInt + lx35.toInt := i39; have t2 : lx34.toInt ≤ lx35.toInt + a29.toInt := i41; omega) (by have t1 : a29.toInt ≤ lx34.toInt + lx35.toInt := i39; have t2 : lx34.toInt ≤ lx35.toInt + a29.toInt := i41; have t3 : lx35.toInt ≤ lx34.toInt + 1 := i37; have t4 : lx34.toInt + lx35.toInt ≤ 1025 := i38; omega)) d_5_4_67 (fun H locs w72 hu73 hO45 V => ?_)
      replace hI := n_ai' hI (n_s37 g q) hu73 hO45 (q_updB (fun _ => s_bnd) s_bnd)
      replace hO44 := (hu73 _ (by decide)).trans hO44
      replace hF := q_us hF hu73 (by simp)
      obtain ⟨f74, e75⟩ := q_nm (upd lx36 lx35.toNatClampNeg (vp_nar .byte a70) : (Nat → Int32))
      rw [e75] at hO45
      refine lv_aload_n hx hb d_5_4_68 rfl (lv_at hl 3 rfl) ?_
      refine q_get (ci := 7) (j := 2) (v := .ref (q 37)) C0 V i_Dig rfl rfl hO44 (by decide) w_269 rfl d_5_4_69 ?_
      refine lv_iload_n hx hb d_5_4_72 rfl (lv_at hl 1 rfl) ?_
      refine lv_iload hx hb d_5_4_73 (lv_at hl 0 rfl) ?_
      refine q_bast C0 V hO45 (q_ix (x := lx34.toInt) rfl (by have t1 : a29.toInt ≤ lx34.toInt + lx35.toInt := i39; have t2 : lx34.toInt ≤ lx35.toInt + a29.toInt := i41; have t3 : lx35.toInt < lx34.toInt := b67; omega) (by have t1 : a29.toInt ≤ lx34.toInt + lx35.toInt := i39; have t2 : lx34.toInt ≤ lx35.toInt + a29.toInt := i41; have t3 : lx35.toInt < lx34.toInt := b67; have t4 : lx34.toInt + lx35.toInt ≤ 1025 := i38; omega)) d_5_4_75 (fun H locs w76 hu77 hO45 V => ?_)
      replace hI := n_ai' hI (n_s37 g q) hu77 hO45 (q_updB (fun _ => s_bnd) s_bnd)
      replace hO44 := (hu77 _ (by decide)).trans hO44
      replace hF := q_us hF hu77 (by simp)
      obtain ⟨f78, e79⟩ := q_nm (upd f74 lx34.toNatClampNeg (vp_nar .byte a68) : (Nat → Int32))
      rw [e79] at hO45
      obtain ⟨a80, e81⟩ := q_nm (lx35 + 1 : Int32)
      have b82 : q_F (a80.toInt = lx35.toInt + 1) := (by rw [← e81]; exact q_addI (y := 1) rfl (by decide) (by have t1 : a29.toInt ≤ lx34.toInt + lx35.toInt := i39; have t2 : lx34.toInt ≤ lx35.toInt + a29.toInt := i41; have t3 : lx35.toInt ≤ lx34.toInt + 1 := i37; have t4 : lx34.toInt + lx35.toInt ≤ 1025 := i38; omega) (by have t1 : a29.toInt ≤ lx34.toInt + lx35.toInt := i39; have t2 : lx34.toInt ≤ lx35.toInt + a29.toInt := i41; have t3 : lx35.toInt ≤ lx34.toInt + 1 := i37; have t4 : lx34.toInt + lx35.toInt ≤ 1025 := i38; omega))
      refine lv_iinc (v := a80) (lv' := [(2, .int a80), (4, .int a68), (3, .int lx34), (0, .ref (q 36)), (1, .int x2)]) hx hb d_5_4_76 hl (k := 2) rfl (e81) (by decide) rfl (fun ls hl => ?_)
      obtain ⟨a83, e84⟩ := q_nm (lx34 + (-1) : Int32)
      have b85 : q_F (a83.toInt = lx34.toInt + (-1)) := (by rw [← e84]; exact q_addI (y := (-1)) rfl (by decide) (by have t1 : lx35.toInt ≤ lx34.toInt + 1 := i37; have t2 : a29.toInt ≤ lx34.toInt + lx35.toInt := i39; have t3 : lx34.toInt ≤ lx35.toInt + a29.toInt := i41; have t4 : lx34.toInt + lx35.toInt ≤ 1025 := i38; omega) (by have t1 : lx35.toInt ≤ lx34.toInt + 1 := i37; have t2 : a29.toInt ≤ lx34.toInt + lx35.toInt := i39; have t3 : lx34.toInt ≤ lx35.toInt + a29.toInt := i41; have t4 : lx34.toInt + lx35.toInt ≤ 1025 := i38; omega))
      refine lv_iinc (v := a83) (lv' := [(3, .int a83), (2, .int a80), (4, .int a68), (0, .ref (q 36)), (1, .int x2)]) hx hb d_5_4_79 hl (k := 2) rfl (e84) (by decide) rfl (fun ls hl => ?_)
      refine lv_goto (tgt := 43) hx hb d_5_4_82 (by decide) ?_
      exact ih42 ((a83 : Int32), (a80 : Int32), (f78 : (Nat → Int32))) _ _ _ _ (show (a83.toInt - ((-1000000))).toNat < (lx34.toInt - ((-1000000))).toNat from by have t1 : a83.toInt = lx34.toInt + (-1) := b85; have t2 : lx35.toInt ≤ lx34.toInt + 1 := i37; have t3 : a29.toInt ≤ lx34.toInt + lx35.toInt := i39; have t4 : lx34.toInt ≤ lx35.toInt + a29.toInt := i41; omega) ⟨(show q_F (a80.toInt ≤ a83.toInt + 1) from (show a80.toInt ≤ a83.toInt + 1 from by have t1 : lx35.toInt < lx34.toInt := b67; have t2 : a80.toInt = lx35.toInt + 1 := b82; have t3 : a83.toInt = lx34.toInt + (-1) := b85; omega)), (show q_F (a83.toInt + a80.toInt ≤ 1025) from (show a83.toInt + a80.toInt ≤ 1025 from by have t1 : lx34.toInt + lx35.toInt ≤ 1025 := i38; have t2 : a80.toInt = lx35.toInt + 1 := b82; have t3 : a83.toInt = lx34.toInt + (-1) := b85; omega)), (show q_F (a29.toInt ≤ a83.toInt + a80.toInt) from (show a29.toInt ≤ a83.toInt + a80.toInt from by have t1 : a29.toInt ≤ lx34.toInt + lx35.toInt := i39; have t2 : a80.toInt = lx35.toInt + 1 := b82; have t3 : a83.toInt = lx34.toInt + (-1) := b85; omega)), (show q_F (a83.toInt + a80.toInt ≤ a29.toInt) from (show a83.toInt + a80.toInt ≤ a29.toInt from by have t1 : lx34.toInt + lx35.toInt ≤ a29.toInt := i40; have t2 : a80.toInt = lx35.toInt + 1 := b82; have t3 : a83.toInt = lx34.toInt + (-1) := b85; omega)), (show q_F (a83.toInt ≤ a80.toInt + a29.toInt) from (show a83.toInt ≤ a80.toInt + a29.toInt from by have t1 : lx34.toInt ≤ lx35.toInt + a29.toInt := i41; have t2 : a80.toInt = lx35.toInt + 1 := b82; have t3 : a83.toInt = lx34.toInt + (-1) := b85; omega)), V, q_lw hl (q_lw1 0 rfl (q_lw1 1 rfl (q_lw1 3 rfl (q_lw1 4 rfl q_lw0)))), hI, hF, hO44, hO45, ⟨fm50, Nat.lt_of_lt_of_le (show (a83.toInt - ((-1000000))).toNat < (lx34.toInt - ((-1000000))).toNat from by have t1 : a83.toInt = lx34.toInt + (-1) := b85; have t2 : lx35.toInt ≤ lx34.toInt + 1 := i37; have t3 : a29.toInt ≤ lx34.toInt + lx35.toInt := i39; have t4 : lx34.toInt ≤ lx35.toInt + a29.toInt := i41; omega) (Nat.le_of_lt_succ hf49), (show F_Dig_turn_L43 (F_Dig_turn_L0 x2 t0_0 t0_1 t1_0 fm20) x2 t0_0 t0_1 t1_0 lx9 fm50 a83 a80 f78 = (F_Dig_turn x2 t0_0 t0_1 t1_0) from Eq.trans (by rw [← e84, ← e81, ← e79, ← e75, ← e71, ← e69, F_Dig_turn_L43.eq_2, if_neg c51]) hR46), (show True ∧ S_Dig_turn_L43 (S_Dig_turn_L0 x2 t0_0 t0_1 t1_0 fm20) x2 t0_0 t0_1 t1_0 lx9 fm50 a83 a80 f78 from (by rw [← e84, ← e81, ← e79, ← e75, ← e71, ← e69]; have h := hS47; rw [S_Dig_turn_L43.eq_2] at h; rw [if_neg c51] at h; with_reducible exact h))⟩⟩
  ·
    intro J23
    refine lv_if_le (tgt := 34) hx hb d_5_4_4 (by decide) (fun c86 => ?_) (fun c86 => ?_)
    ·
      exact J23 (()) _ _ _ w13 ⟨V, q_lw hl (q_lw1 0 rfl (q_lw1 1 rfl q_lw0)), (show F_Dig_turn_J34 (F_Dig_turn_L0 x2 t0_0 t0_1 t1_0 fm20) x2 t0_0 t0_1 t1_0 lx9 = (F_Dig_turn x2 t0_0 t0_1 t1_0) from Eq.trans (by rw [F_Dig_turn_L0.eq_2, if_pos c86]) hR16), (show True ∧ S_Dig_turn_J34 (S_Dig_turn_L0 x2 t0_0 t0_1 t1_0 fm20) x2 t0_0 t0_1 t1_0 lx9 from (by have h := hS17; rw [S_Dig_turn_L0.eq_2] at h; rw [if_pos c86] at h; with_reducible exact h))⟩
    ·
      have b88 : q_F (0 < lx9.toInt) := (q_nleI c86)
      refine lv_aload_n hx hb d_5_4_7 rfl (lv_at hl 0 rfl) ?_
      refine q_get (ci := 7) (j := 2) (v := .ref (q 37)) C0 V i_Dig rfl rfl hO14 (by decide) w_269 rfl d_5_4_8 ?_
      refine lv_aload_n hx hb d_5_4_11 rfl (lv_at hl 0 rfl) ?_
      refine q_get (ci := 7) (j := 0) (v := .int lx9) C0 V i_Dig rfl rfl hO14 (by decide) w_264 rfl d_5_4_12 ?_
      refine lv_iconst (v := 1) hx hb d_5_4_15 (by decide) ?_
      refine lv_isub hx hb d_5_4_16 ?_
      obtain ⟨a89, e90⟩ := q_nm (lx9 - 1 : Int32)
      refine q_ti (v := a89) e90 ?_
      have b91 : q_F (a89.toInt = lx9.toInt - 1) := (by rw [← e90]; show (lx9 - 1 : Int32).toInt = lx9.toInt - 1; exact q_subI (x := lx9.toInt) (y := 1) rfl (by decide) (by have t1 : 0 ≤ lx9.toInt := i10; have _ := q_lo32 (x := lx9); have _ := q_hi32 (x := lx9); omega) (by have t1 : 0 ≤ lx9.toInt := i10; have _ := q_lo32 (x := lx9); have _ := q_hi32 (x := lx9); omega))
      refine q_bald C0 V hO15 (q_ix (x := a89.toInt) rfl (by have t1 : 0 < lx9.toInt := b88; have t2 : a89.toInt = lx9.toInt - 1 := b91; omega) (by have t1 : 0 < lx9.toInt := b88; have t2 : a89.toInt = lx9.toInt - 1 := b91; have t3 : 0 ≤ t0_0.toInt ∧ t0_0.toInt ≤ 1026 := btt0_0; have t4 : lx9.toInt ≤ t0_0.toInt := i11; omega)) d_5_4_17 ?_
      obtain ⟨a92, e93⟩ := q_nm (t1_0 a89.toNatClampNeg : Int32)
      refine q_ti (v := a92) e93 ?_
      refine lv_if_ne (tgt := 34) hx hb d_5_4_18 (by decide) (fun c94 => ?_) (fun c94 => ?_)
      ·
        exact J23 (()) _ _ _ w13 ⟨V, q_lw hl (q_lw1 0 rfl (q_lw1 1 rfl q_lw0)), (show F_Dig_turn_J34 (F_Dig_turn_L0 x2 t0_0 t0_1 t1_0 fm20) x2 t0_0 t0_1 t1_0 lx9 = (F_Dig_turn x2 t0_0 t0_1 t1_0) from Eq.trans (by have c94x := c94; rw [← e93, ← e90] at c94x; rw [F_Dig_turn_L0.eq_2, if_neg c86, if_neg c94x]) hR16), (show True ∧ S_Dig_turn_J34 (S_Dig_turn_L0 x2 t0_0 t0_1 t1_0 fm20) x2 t0_0 t0_1 t1_0 lx9 from (by have h := hS17; rw [S_Dig_turn_L0.eq_2] at h; rw [if_neg c86] at h; have c94x := c94; rw [← e93, ← e90] at c94x; rw [if_neg c94x] at h; with_reducible exact h))⟩
      ·
        refine lv_aload_n hx hb d_5_4_21 rfl (lv_at hl 0 rfl) ?_
        refine lv_dup hx hb d_5_4_22 rfl ?_
        refine q_get (ci := 7) (j := 0) (v := .int lx9) C0 V i_Dig rfl rfl hO14 (by decide) w_264 rfl d_5_4_23 ?_
        refine lv_iconst (v := 1) hx hb d_5_4_26 (by decide) ?_
        refine lv_isub hx hb d_5_4_27 ?_
        obtain ⟨a97, e98⟩ := q_nm (lx9 - 1 : Int32)
        refine q_ti (v := a97) e98 ?_
        have b99 : q_F (a97.toInt = lx9.toInt - 1) := (by rw [← e98]; show (lx9 - 1 : Int32).toInt = lx9.toInt - 1; exact q_subI (x := lx9.toInt) (y := 1) rfl (by decide) (by have t1 : 0 ≤ lx9.toInt := i10; have t2 : a89.toInt = lx9.toInt - 1 := b91; have _ := q_lo32 (x := a89); have _ := q_hi32 (x := a89); omega) (by have t1 : 0 ≤ lx9.toInt := i10; have t2 : a89.toInt = lx9.toInt - 1 := b91; have _ := q_lo32 (x := a89); have _ := q_hi32 (x := a89); omega))
        refine q_put (ci := 7) (j := 0) (v := .int a97) (ty := .int) C0 V i_Dig o_Dig n_Dig rfl rfl hO14 (by decide) w_264 rfl rfl rfl rfl (Nat.le_of_ble_eq_true rfl) d_5_4_28 (fun H locs w100 hu101 hO14 V => ?_)
        replace hO14 : w100[36]? = (some (q 36, .inr (7, [.int a97, .int t0_1, .ref (q 37)])) : Option (Nat × va_E)) := hO14
        replace hI := n_p36 hI hu101 hO14 ⟨(by have t1 : 0 < lx9.toInt := b88; have t2 : a97.toInt = lx9.toInt - 1 := b99; omega), (by have t1 : 0 ≤ t0_0.toInt ∧ t0_0.toInt ≤ 1026 := btt0_0; have t2 : lx9.toInt ≤ t0_0.toInt := i11; have t3 : a97.toInt = lx9.toInt - 1 := b99; omega)⟩ (by first | with_reducible exact q_fe btt0_1 | exact ⟨(by have t1 : -1000000 ≤ t0_1.toInt ∧ t0_1.toInt ≤ 1000000 := btt0_1; omega), (by have t1 : -1000000 ≤ t0_1.toInt ∧ t0_1.toInt ≤ 1000000 := btt0_1; omega)⟩)
        replace hO15 := (hu101 _ (by decide)).trans hO15
        replace hF := q_us hF hu101 (by simp)
        refine lv_goto (tgt := 0) hx hb d_5_4_31 (by decide) ?_
        exact ih12 ((a97 : Int32)) _ _ _ _ (show (a97.toInt - ((-1000000))).toNat < (lx9.toInt - ((-1000000))).toNat from by have t1 : a97.toInt = lx9.toInt - 1 := b99; have t2 : 0 ≤ lx9.toInt := i10; omega) ⟨(show q_F (0 ≤ a97.toInt) from (show 0 ≤ a97.toInt from by have t1 : 0 < lx9.toInt := b88; have t2 : a97.toInt = lx9.toInt - 1 := b99; omega)), (show q_F (a97.toInt ≤ t0_0.toInt) from (show a97.toInt ≤ t0_0.toInt from by have t1 : lx9.toInt ≤ t0_0.toInt := i11; have t2 : a97.toInt = lx9.toInt - 1 := b99; omega)), V, q_lw hl (q_lw1 0 rfl (q_lw1 1 rfl q_lw0)), hI, hF, hO14, hO15, ⟨fm20, Nat.lt_of_lt_of_le (show (a97.toInt - ((-1000000))).toNat < (lx9.toInt - ((-1000000))).toNat from by have t1 : a97.toInt = lx9.toInt - 1 := b99; have t2 : 0 ≤ lx9.toInt := i10; omega) (Nat.le_of_lt_succ hf19), (show F_Dig_turn_L0 x2 t0_0 t0_1 t1_0 fm20 a97 = (F_Dig_turn x2 t0_0 t0_1 t1_0) from Eq.trans (by have c94x := c94; rw [← e93, ← e90] at c94x; rw [← e98, F_Dig_turn_L0.eq_2, if_neg c86, if_pos c94x]) hR16), (show True ∧ S_Dig_turn_L0 x2 t0_0 t0_1 t1_0 fm20 a97 from (by rw [← e98]; have h := hS17; rw [S_Dig_turn_L0.eq_2] at h; rw [if_neg c86] at h; have c94x := c94; rw [← e93, ← e90] at c94x; rw [if_pos c94x] at h; with_reducible exact h))⟩⟩
def F_Dig_fill_c84 (K_F_Dig_fill_L7 : Int32 → Int32 → (Nat → Int32) → Int32 → Int32 → (Nat → Int32) → (Int32 × Int32 × (Nat → Int32) × Int32 × Int32 × (Nat → Int32))) (R : Int32) (x3 : Int32) (t0_0 : Int32) (t0_1 : Int32) (t1_0 : (Nat → Int32)) (t2_0 : Int32) (t2_1 : Int32) (t3_0 : (Nat → Int32)) (lx20 : Int32) (lx21 : Int32) (lx22 : (Nat → Int32)) (lx23 : Int32) (lx24 : Int32) (lx25 : (Nat → Int32)) (p63 : (Int32 × Int32 × (Nat → Int32))) : Int32 × Int32 × (Nat → Int32) × Int32 × Int32 × (Nat → Int32) := ((p63.1 : Int32), (p63.2.1 : Int32), (p63.2.2 : (Nat → Int32)), lx23, lx24, lx25)
def F_Dig_fill_c84_3 (K_F_Dig_fill_L7 : Int32 → Int32 → (Nat → Int32) → Int32 → Int32 → (Nat → Int32) → (Int32 × Int32 × (Nat → Int32) × Int32 × Int32 × (Nat → Int32))) (R : Int32) (x3 : Int32) (t0_0 : Int32) (t0_1 : Int32) (t1_0 : (Nat → Int32)) (t2_0 : Int32) (t2_1 : Int32) (t3_0 : (Nat → Int32)) (lx20 : Int32) (lx21 : Int32) (lx22 : (Nat → Int32)) (lx23 : Int32) (lx24 : Int32) (lx25 : (Nat → Int32)) (p91 : (Int32 × Int32 × (Nat → Int32))) : Int32 × Int32 × (Nat → Int32) × Int32 × Int32 × (Nat → Int32) := ((p91.1 : Int32), (p91.2.1 : Int32), (p91.2.2 : (Nat → Int32)), lx23, lx24, lx25)
def F_Dig_fill_L31 (K_F_Dig_fill_L7 : Int32 → Int32 → (Nat → Int32) → Int32 → Int32 → (Nat → Int32) → (Int32 × Int32 × (Nat → Int32) × Int32 × Int32 × (Nat → Int32))) (R : Int32) (x3 : Int32) (t0_0 : Int32) (t0_1 : Int32) (t1_0 : (Nat → Int32)) (t2_0 : Int32) (t2_1 : Int32) (t3_0 : (Nat → Int32)) (lx20 : Int32) (lx21 : Int32) (lx22 : (Nat → Int32)) (lx23 : Int32) (lx24 : Int32) (lx25 : (Nat → Int32)) (p116 : (Int32 × Int32 × Int32 × (Nat → Int32))) (y106 : Int32) (y107 : Int32) (f108 : (Nat → Int32)) : Nat → Int32 → Int32 → Int32 → (Nat → Int32) → (Int32 × Int32 × (Nat → Int32) × Int32 × Int32 × (Nat → Int32))
  | 0, _, _, _, _ => default
  | fm + 1, lx129, lx130, lx131, lx132 => if (9 : Int32) ≤ lx129 then (K_F_Dig_fill_L7 (lx20 + 1 : Int32) lx131 lx132 y106 y107 f108) else (F_Dig_fill_L31 K_F_Dig_fill_L7 R x3 t0_0 t0_1 t1_0 t2_0 t2_1 t3_0 lx20 lx21 lx22 lx23 lx24 lx25 p116 y106 y107 f108 fm (lx129 + 1 : Int32) (lx130 / 10 : Int32) (lx131 + 1 : Int32) (upd lx132 lx131.toNatClampNeg (vp_nar .byte ((lx130 - lx130 / 10 * 10 : Int32).toInt8.toInt32 : Int32)) : (Nat → Int32)))
def F_Dig_fill_c23 (K_F_Dig_fill_L7 : Int32 → Int32 → (Nat → Int32) → Int32 → Int32 → (Nat → Int32) → (Int32 × Int32 × (Nat → Int32) × Int32 × Int32 × (Nat → Int32))) (R : Int32) (x3 : Int32) (t0_0 : Int32) (t0_1 : Int32) (t1_0 : (Nat → Int32)) (t2_0 : Int32) (t2_1 : Int32) (t3_0 : (Nat → Int32)) (lx20 : Int32) (lx21 : Int32) (lx22 : (Nat → Int32)) (lx23 : Int32) (lx24 : Int32) (lx25 : (Nat → Int32)) (p116 : (Int32 × Int32 × Int32 × (Nat → Int32))) : Int32 × Int32 × (Nat → Int32) × Int32 × Int32 × (Nat → Int32) := F_Dig_fill_L31 K_F_Dig_fill_L7 R x3 t0_0 t0_1 t1_0 t2_0 t2_1 t3_0 lx20 lx21 lx22 lx23 lx24 lx25 p116 (p116.2.1 : Int32) (p116.2.2.1 : Int32) (p116.2.2.2 : (Nat → Int32)) ((9 - (0 : Int32).toInt).toNat + 1) 0 (p116.1 : Int32) lx21 lx22
def F_Dig_fill_L7 (R : Int32) (x3 : Int32) (t0_0 : Int32) (t0_1 : Int32) (t1_0 : (Nat → Int32)) (t2_0 : Int32) (t2_1 : Int32) (t3_0 : (Nat → Int32)) : Nat → Int32 → Int32 → (Nat → Int32) → Int32 → Int32 → (Nat → Int32) → (Int32 × Int32 × (Nat → Int32) × Int32 × Int32 × (Nat → Int32))
  | 0, _, _, _, _, _, _ => default
  | fm + 1, lx20, lx21, lx22, lx23, lx24, lx25 => if (114 : Int32) ≤ lx20 then (F_Dig_fill_c84 (F_Dig_fill_L7 R x3 t0_0 t0_1 t1_0 t2_0 t2_1 t3_0 fm) R x3 t0_0 t0_1 t1_0 t2_0 t2_1 t3_0 lx20 lx21 lx22 lx23 lx24 lx25 ((F_Dig_turn x3 lx21 t0_1 lx22) : (Int32 × Int32 × (Nat → Int32)))) else (if lx23 ≤ (0 : Int32) then (F_Dig_fill_c84_3 (F_Dig_fill_L7 R x3 t0_0 t0_1 t1_0 t2_0 t2_1 t3_0 fm) R x3 t0_0 t0_1 t1_0 t2_0 t2_1 t3_0 lx20 lx21 lx22 lx23 lx24 lx25 ((F_Dig_turn x3 lx21 t0_1 lx22) : (Int32 × Int32 × (Nat → Int32)))) else (F_Dig_fill_c23 (F_Dig_fill_L7 R x3 t0_0 t0_1 t1_0 t2_0 t2_1 t3_0 fm) R x3 t0_0 t0_1 t1_0 t2_0 t2_1 t3_0 lx20 lx21 lx22 lx23 lx24 lx25 ((F_Big_divideSmall R (1000000000 : Int32) lx23 lx24 lx25) : (Int32 × Int32 × Int32 × (Nat → Int32)))))
def F_Dig_fill (R : Int32) (x3 : Int32) (t0_0 : Int32) (t0_1 : Int32) (t1_0 : (Nat → Int32)) (t2_0 : Int32) (t2_1 : Int32) (t3_0 : (Nat → Int32)) : Int32 × Int32 × (Nat → Int32) × Int32 × Int32 × (Nat → Int32) := F_Dig_fill_L7 R x3 t0_0 t0_1 t1_0 t2_0 t2_1 t3_0 ((114 - (0 : Int32).toInt).toNat + 1) 0 0 t1_0 t2_0 t2_1 t3_0
def S_Dig_fill_c84 (K_S_Dig_fill_L7 : Int32 → Int32 → (Nat → Int32) → Int32 → Int32 → (Nat → Int32) → Prop) (R : Int32) (x3 : Int32) (t0_0 : Int32) (t0_1 : Int32) (t1_0 : (Nat → Int32)) (t2_0 : Int32) (t2_1 : Int32) (t3_0 : (Nat → Int32)) (lx20 : Int32) (lx21 : Int32) (lx22 : (Nat → Int32)) (lx23 : Int32) (lx24 : Int32) (lx25 : (Nat → Int32)) (p63 : (Int32 × Int32 × (Nat → Int32))) : Prop := True
def S_Dig_fill_c84_3 (K_S_Dig_fill_L7 : Int32 → Int32 → (Nat → Int32) → Int32 → Int32 → (Nat → Int32) → Prop) (R : Int32) (x3 : Int32) (t0_0 : Int32) (t0_1 : Int32) (t1_0 : (Nat → Int32)) (t2_0 : Int32) (t2_1 : Int32) (t3_0 : (Nat → Int32)) (lx20 : Int32) (lx21 : Int32) (lx22 : (Nat → Int32)) (lx23 : Int32) (lx24 : Int32) (lx25 : (Nat → Int32)) (p91 : (Int32 × Int32 × (Nat → Int32))) : Prop := True
def S_Dig_fill_L31 (K_S_Dig_fill_L7 : Int32 → Int32 → (Nat → Int32) → Int32 → Int32 → (Nat → Int32) → Prop) (R : Int32) (x3 : Int32) (t0_0 : Int32) (t0_1 : Int32) (t1_0 : (Nat → Int32)) (t2_0 : Int32) (t2_1 : Int32) (t3_0 : (Nat → Int32)) (lx20 : Int32) (lx21 : Int32) (lx22 : (Nat → Int32)) (lx23 : Int32) (lx24 : Int32) (lx25 : (Nat → Int32)) (p116 : (Int32 × Int32 × Int32 × (Nat → Int32))) (y106 : Int32) (y107 : Int32) (f108 : (Nat → Int32)) : Nat → Int32 → Int32 → Int32 → (Nat → Int32) → Prop
  | 0, _, _, _, _ => False
  | fm + 1, lx129, lx130, lx131, lx132 => if (9 : Int32) ≤ lx129 then (K_S_Dig_fill_L7 (lx20 + 1 : Int32) lx131 lx132 y106 y107 f108) else ((lx131.toInt ≤ 1025) ∧ (S_Dig_fill_L31 K_S_Dig_fill_L7 R x3 t0_0 t0_1 t1_0 t2_0 t2_1 t3_0 lx20 lx21 lx22 lx23 lx24 lx25 p116 y106 y107 f108 fm (lx129 + 1 : Int32) (lx130 / 10 : Int32) (lx131 + 1 : Int32) (upd lx132 lx131.toNatClampNeg (vp_nar .byte ((lx130 - lx130 / 10 * 10 : Int32).toInt8.toInt32 : Int32)) : (Nat → Int32))))
def S_Dig_fill_c23 (K_S_Dig_fill_L7 : Int32 → Int32 → (Nat → Int32) → Int32 → Int32 → (Nat → Int32) → Prop) (R : Int32) (x3 : Int32) (t0_0 : Int32) (t0_1 : Int32) (t1_0 : (Nat → Int32)) (t2_0 : Int32) (t2_1 : Int32) (t3_0 : (Nat → Int32)) (lx20 : Int32) (lx21 : Int32) (lx22 : (Nat → Int32)) (lx23 : Int32) (lx24 : Int32) (lx25 : (Nat → Int32)) (p116 : (Int32 × Int32 × Int32 × (Nat → Int32))) : Prop := S_Dig_fill_L31 K_S_Dig_fill_L7 R x3 t0_0 t0_1 t1_0 t2_0 t2_1 t3_0 lx20 lx21 lx22 lx23 lx24 lx25 p116 (p116.2.1 : Int32) (p116.2.2.1 : Int32) (p116.2.2.2 : (Nat → Int32)) ((9 - (0 : Int32).toInt).toNat + 1) 0 (p116.1 : Int32) lx21 lx22
def S_Dig_fill_L7 (R : Int32) (x3 : Int32) (t0_0 : Int32) (t0_1 : Int32) (t1_0 : (Nat → Int32)) (t2_0 : Int32) (t2_1 : Int32) (t3_0 : (Nat → Int32)) : Nat → Int32 → Int32 → (Nat → Int32) → Int32 → Int32 → (Nat → Int32) → Prop
  | 0, _, _, _, _, _, _ => False
  | fm + 1, lx20, lx21, lx22, lx23, lx24, lx25 => if (114 : Int32) ≤ lx20 then ((True ∧ S_Dig_turn x3 lx21 t0_1 lx22) ∧ (S_Dig_fill_c84 (S_Dig_fill_L7 R x3 t0_0 t0_1 t1_0 t2_0 t2_1 t3_0 fm) R x3 t0_0 t0_1 t1_0 t2_0 t2_1 t3_0 lx20 lx21 lx22 lx23 lx24 lx25 ((F_Dig_turn x3 lx21 t0_1 lx22) : (Int32 × Int32 × (Nat → Int32))))) else (if lx23 ≤ (0 : Int32) then ((True ∧ S_Dig_turn x3 lx21 t0_1 lx22) ∧ (S_Dig_fill_c84_3 (S_Dig_fill_L7 R x3 t0_0 t0_1 t1_0 t2_0 t2_1 t3_0 fm) R x3 t0_0 t0_1 t1_0 t2_0 t2_1 t3_0 lx20 lx21 lx22 lx23 lx24 lx25 ((F_Dig_turn x3 lx21 t0_1 lx22) : (Int32 × Int32 × (Nat → Int32))))) else (S_Dig_fill_c23 (S_Dig_fill_L7 R x3 t0_0 t0_1 t1_0 t2_0 t2_1 t3_0 fm) R x3 t0_0 t0_1 t1_0 t2_0 t2_1 t3_0 lx20 lx21 lx22 lx23 lx24 lx25 ((F_Big_divideSmall R (1000000000 : Int32) lx23 lx24 lx25) : (Int32 × Int32 × Int32 × (Nat → Int32)))))
def S_Dig_fill (R : Int32) (x3 : Int32) (t0_0 : Int32) (t0_1 : Int32) (t1_0 : (Nat → Int32)) (t2_0 : Int32) (t2_1 : Int32) (t3_0 : (Nat → Int32)) : Prop := S_Dig_fill_L7 R x3 t0_0 t0_1 t1_0 t2_0 t2_1 t3_0 ((114 - (0 : Int32).toInt).toNat + 1) 0 0 t1_0 t2_0 t2_1 t3_0
set_option maxRecDepth 100000 in
set_option maxHeartbeats 4000000 in
theorem X_Dig_fill (l : Launch) (D : va_G) (g : Nat → ClassId) (q : Nat → Nat) (ws : va_W) (k2 : Nat) (R : Int32) (hB2 : q_isBig (nsh g q) g q k2 R) (zk2 : (10 ≤ k2 ∧ k2 ≤ 32) ∨ 66 ≤ k2) (x3 : Int32) (hI : q_I (nsh g q) q ws) (t0_0 : Int32) (t0_1 : Int32) (hT0 : ws[36]? = (some (q 36, .inr (7, [.int t0_0, .int t0_1, .ref (q 37)])) : Option (Nat × va_E))) (t1_0 : (Nat → Int32)) (hT1 : ws[37]? = (some (q 37, .inl (g 2, 1026, .inl t1_0)) : Option (Nat × va_E))) (t2_0 : Int32) (t2_1 : Int32) (hT2 : ws[k2]? = (some (q k2, .inr (2, [.ref (q (k2 + 1)), .int t2_0, .int t2_1])) : Option (Nat × va_E))) (t3_0 : (Nat → Int32)) (hT3 : ws[k2 + 1]? = (some (q (k2 + 1), .inl (g 0, R.toNatClampNeg, .inl t3_0)) : Option (Nat × va_E))) (hS : True ∧ S_Dig_fill R x3 t0_0 t0_1 t1_0 t2_0 t2_1 t3_0) : q_mV l y_Dig_fill prog_5_method_2_code 6 3 0 0 D g [.ref (q 36), .ref (q k2), .int x3] ws (fun u => q_I (nsh g q) q u ∧ q_un ws u [36, 37, k2, k2 + 1] ∧ ∃ (u0_0 : Int32) (u0_1 : Int32) (u1_0 : (Nat → Int32)) (u2_0 : Int32) (u2_1 : Int32) (u3_0 : (Nat → Int32)), u[36]? = (some (q 36, .inr (7, [.int u0_0, .int u0_1, .ref (q 37)])) : Option (Nat × va_E)) ∧ u[37]? = (some (q 37, .inl (g 2, 1026, .inl u1_0)) : Option (Nat × va_E)) ∧ u[k2]? = (some (q k2, .inr (2, [.ref (q (k2 + 1)), .int u2_0, .int u2_1])) : Option (Nat × va_E)) ∧ u[k2 + 1]? = (some (q (k2 + 1), .inl (g 0, R.toNatClampNeg, .inl u3_0)) : Option (Nat × va_E)) ∧ (0 ≤ u0_0.toInt) ∧ (u0_0.toInt ≤ 1026) ∧ (0 ≤ u0_1.toInt + 1000000) ∧ (u0_1.toInt ≤ 1000000) ∧ (0 ≤ u2_0.toInt) ∧ (0 ≤ u2_1.toInt) ∧ (u2_0.toInt ≤ t2_0.toInt) ∧ (u2_1.toInt ≤ t2_1.toInt) ∧ (u0_1.toInt ≤ u0_0.toInt + 999999) ∧ (u0_0, u0_1, u1_0, u2_0, u2_1, u3_0) = (F_Dig_fill R x3 t0_0 t0_1 t1_0 t2_0 t2_1 t3_0)) := by
  intro sz
  refine q_into (by decide) (Nat.le_of_ble_eq_true rfl) ?_
  intro p e s m below meth c ls hsz C0 V hl
  have hx := C0.1
  have hb := C0.2.1
  have btt0_1 := (n_w36 hI hT0).2
  replace btt0_1 : q_F (-1000000 ≤ t0_1.toInt ∧ t0_1.toInt ≤ 1000000) := btt0_1
  obtain ⟨btt2_0, btt2_1⟩ := q_bigW hI hB2 hT2
  replace btt2_0 : q_F (0 ≤ t2_0.toInt ∧ t2_0.toInt ≤ R.toInt) := btt2_0
  replace btt2_1 : q_F (0 ≤ t2_1.toInt ∧ t2_1.toInt ≤ 1) := btt2_1
  have hF : q_un ws ws [36, 37, k2, k2 + 1] := q_u0
  have hl : lv_has ls 6 [(0, .ref (q 36)), (1, .ref (q k2)), (2, .int x3)] := hl
  refine lv_aload_n hx hb d_5_2_0 rfl (lv_at hl 0 rfl) ?_
  refine lv_iconst (v := 0) hx hb d_5_2_1 (by decide) ?_
  refine q_put (ci := 7) (j := 0) (v := .int 0) (ty := .int) C0 V i_Dig o_Dig n_Dig rfl rfl hT0 (by decide) w_264 rfl rfl rfl rfl (Nat.le_of_ble_eq_true rfl) d_5_2_2 (fun H locs w17 hu18 hT0 V => ?_)
  replace hT0 : w17[36]? = (some (q 36, .inr (7, [.int 0, .int t0_1, .ref (q 37)])) : Option (Nat × va_E)) := hT0
  replace hI := n_p36 hI hu18 hT0 ⟨(by have z9 : (0 : Int32).toInt = 0 := rfl; omega), (by have z9 : (0 : Int32).toInt = 0 := rfl; omega)⟩ (by first | with_reducible exact q_fe btt0_1 | exact ⟨(by have t1 : -1000000 ≤ t0_1.toInt ∧ t0_1.toInt ≤ 1000000 := btt0_1; omega), (by have t1 : -1000000 ≤ t0_1.toInt ∧ t0_1.toInt ≤ 1000000 := btt0_1; omega)⟩)
  replace hT1 := (hu18 _ (by decide)).trans hT1
  replace hT2 := (hu18 _ (by have z0 := zk2; omega)).trans hT2
  replace hT3 := (hu18 _ (by have z0 := zk2; omega)).trans hT3
  replace hF := q_us hF hu18 (by simp)
  refine lv_iconst (v := 0) hx hb d_5_2_5 (by decide) ?_
  refine lv_istore_n (lv' := [(3, .int 0), (0, .ref (q 36)), (1, .ref (q k2)), (2, .int x3)]) hx hb d_5_2_6 rfl hl (by decide) rfl (fun ls hl => ?_)
  refine q_loop (X := Int32 × Int32 × (Nat → Int32) × Int32 × Int32 × (Nat → Int32)) (fun z H locs ls w36 => q_F (z.1.toInt ≤ 114) ∧ q_F (z.2.1.toInt ≤ 1026) ∧ q_F (0 ≤ z.2.2.2.2.1.toInt) ∧ q_F (z.2.2.2.1.toInt ≤ t2_0.toInt) ∧ q_F (z.2.2.2.2.1.toInt ≤ t2_1.toInt) ∧ q_F (z.1.toInt ≤ z.2.1.toInt) ∧ q_F (z.2.2.2.2.1.toInt ≤ z.2.2.2.1.toInt + 1) ∧ q_F (0 ≤ z.2.2.2.1.toInt + z.2.2.2.2.1.toInt) ∧ q_F (t2_1.toInt ≤ z.1.toInt + z.2.2.2.2.1.toInt) ∧ q_Wd D g (va_A ws sz) s w36 H locs ∧ lv_has ls 6 [(3, .int z.1), (0, .ref (q 36)), (1, .ref (q k2)), (2, .int x3)] ∧ q_I (nsh g q) q w36 ∧ q_un ws w36 [36, 37, k2, k2 + 1] ∧ w36[36]? = (some (q 36, .inr (7, [.int z.2.1, .int t0_1, .ref (q 37)])) : Option (Nat × va_E)) ∧ w36[37]? = (some (q 37, .inl (g 2, 1026, .inl z.2.2.1)) : Option (Nat × va_E)) ∧ w36[k2]? = (some (q k2, .inr (2, [.ref (q (k2 + 1)), .int z.2.2.2.1, .int z.2.2.2.2.1])) : Option (Nat × va_E)) ∧ w36[k2 + 1]? = (some (q (k2 + 1), .inl (g 0, R.toNatClampNeg, .inl z.2.2.2.2.2)) : Option (Nat × va_E)) ∧ (∃ n, (114 - z.1.toInt).toNat < n ∧ F_Dig_fill_L7 R x3 t0_0 t0_1 t1_0 t2_0 t2_1 t3_0 n z.1 z.2.1 z.2.2.1 z.2.2.2.1 z.2.2.2.2.1 z.2.2.2.2.2 = (F_Dig_fill R x3 t0_0 t0_1 t1_0 t2_0 t2_1 t3_0) ∧ True ∧ S_Dig_fill_L7 R x3 t0_0 t0_1 t1_0 t2_0 t2_1 t3_0 n z.1 z.2.1 z.2.2.1 z.2.2.2.1 z.2.2.2.2.1 z.2.2.2.2.2)) (fun z => (114 - z.1.toInt).toNat) ?_ ((0 : Int32), (0 : Int32), (t1_0 : (Nat → Int32)), (t2_0 : Int32), (t2_1 : Int32), (t3_0 : (Nat → Int32))) _ _ _ w17 ⟨(show q_F (0 ≤ 114) from (show 0 ≤ 114 from by omega)), (show q_F (0 ≤ 1026) from (show 0 ≤ 1026 from by omega)), (show q_F (0 ≤ t2_1.toInt) from (show 0 ≤ t2_1.toInt from by have t1 : 0 ≤ t2_1.toInt ∧ t2_1.toInt ≤ 1 := btt2_1; omega)), (show q_F (t2_0.toInt ≤ t2_0.toInt) from (show t2_0.toInt ≤ t2_0.toInt from by omega)), (show q_F (t2_1.toInt ≤ t2_1.toInt) from (show t2_1.toInt ≤ t2_1.toInt from by omega)), (show q_F (0 ≤ 0) from (show 0 ≤ 0 from by omega)), (show q_F (t2_1.toInt ≤ t2_0.toInt + 1) from (show t2_1.toInt ≤ t2_0.toInt + 1 from by have t1 : 0 ≤ t2_0.toInt ∧ t2_0.toInt ≤ R.toInt := btt2_0; have t2 : 0 ≤ t2_1.toInt ∧ t2_1.toInt ≤ 1 := btt2_1; omega)), (show q_F (0 ≤ t2_0.toInt + t2_1.toInt) from (show 0 ≤ t2_0.toInt + t2_1.toInt from by have t1 : 0 ≤ t2_0.toInt ∧ t2_0.toInt ≤ R.toInt := btt2_0; have t2 : 0 ≤ t2_1.toInt ∧ t2_1.toInt ≤ 1 := btt2_1; omega)), (show q_F (t2_1.toInt ≤ 0 + t2_1.toInt) from (show t2_1.toInt ≤ 0 + t2_1.toInt from by omega)), V, q_lw hl (q_lw1 0 rfl (q_lw1 1 rfl (q_lw1 2 rfl (q_lw1 3 rfl q_lw0)))), hI, hF, hT0, hT1, hT2, hT3, ⟨((114 - (0 : Int32).toInt).toNat + 1), Nat.lt_succ_self _, (show F_Dig_fill_L7 R x3 t0_0 t0_1 t1_0 t2_0 t2_1 t3_0 ((114 - (0 : Int32).toInt).toNat + 1) 0 0 t1_0 t2_0 t2_1 t3_0 = (F_Dig_fill R x3 t0_0 t0_1 t1_0 t2_0 t2_1 t3_0) from (by rw [F_Dig_fill.eq_1])), (show True ∧ S_Dig_fill_L7 R x3 t0_0 t0_1 t1_0 t2_0 t2_1 t3_0 ((114 - (0 : Int32).toInt).toNat + 1) 0 0 t1_0 t2_0 t2_1 t3_0 from (by have h := hS; rw [S_Dig_fill.eq_1] at h; with_reducible exact h))⟩⟩
  rintro ⟨lx20, lx21, lx22, lx23, lx24, lx25⟩ H locs ls w36 ⟨i26, i27, i28, i29, i30, i31, i32, i33, i34, V, hl, hI, hF, hO37, hO38, hO39, hO40, ⟨fu43, hf44, hR41, hS42⟩⟩ ih35
  obtain ⟨fm45, rfl⟩ : ∃ m, fu43 = m + 1 := ⟨fu43 - 1, by omega⟩
  replace i26 : q_F (lx20.toInt ≤ 114) := i26
  replace i27 : q_F (lx21.toInt ≤ 1026) := i27
  replace i28 : q_F (0 ≤ lx24.toInt) := i28
  replace i29 : q_F (lx23.toInt ≤ t2_0.toInt) := i29
  replace i30 : q_F (lx24.toInt ≤ t2_1.toInt) := i30
  replace i31 : q_F (lx20.toInt ≤ lx21.toInt) := i31
  replace i32 : q_F (lx24.toInt ≤ lx23.toInt + 1) := i32
  replace i33 : q_F (0 ≤ lx23.toInt + lx24.toInt) := i33
  replace i34 : q_F (t2_1.toInt ≤ lx20.toInt + lx24.toInt) := i34
  replace hl : lv_has ls 6 [(3, .int lx20), (0, .ref (q 36)), (1, .ref (q k2)), (2, .int x3)] := hl
  replace hO37 : w36[36]? = (some (q 36, .inr (7, [.int lx21, .int t0_1, .ref (q 37)])) : Option (Nat × va_E)) := hO37
  replace hO38 : w36[37]? = (some (q 37, .inl (g 2, 1026, .inl lx22)) : Option (Nat × va_E)) := hO38
  replace hO39 : w36[k2]? = (some (q k2, .inr (2, [.ref (q (k2 + 1)), .int lx23, .int lx24])) : Option (Nat × va_E)) := hO39
  replace hO40 : w36[k2 + 1]? = (some (q (k2 + 1), .inl (g 0, R.toNatClampNeg, .inl lx25)) : Option (Nat × va_E)) := hO40
  refine lv_iload_n hx hb d_5_2_7 rfl (lv_at hl 0 rfl) ?_
  refine lv_bipush (v := 114) hx hb d_5_2_8 (by decide) ?_
  refine lv_icmp_ge (tgt := 82) hx hb d_5_2_10 (by decide) (fun c46 => ?_) (fun c46 => ?_)
  ·
    refine lv_aload_n hx hb d_5_2_82 rfl (lv_at hl 1 rfl) ?_
    refine lv_iload_n hx hb d_5_2_83 rfl (lv_at hl 3 rfl) ?_
    have ob48 : True ∧ S_Dig_turn x3 lx21 t0_1 lx22 := (by have h := hS42; rw [S_Dig_fill_L7.eq_2] at h; rw [if_pos c46] at h; with_reducible exact h.2.1)
    refine q_gov V (q_runV (As := [.int x3]) (rest := []) (d := 1) (mc := 0) (ms := 0) (ci := 7) C0 V rfl LV_Dig_27 (X_Dig_turn l D g q w36  x3 hI lx21 t0_1 hO37 lx22 hO38 ob48 _) rfl rfl hO37 rfl hl.1 rfl (Nat.le_of_ble_eq_true rfl) ⟨by decide, by decide⟩ ⟨Nat.le_of_ble_eq_true rfl, Nat.le_of_ble_eq_true rfl⟩ d_5_2_84) (fun u49 H locs hp50 V => ?_)
    obtain ⟨hI, hZ9⟩ := hp50
    obtain ⟨hu62, hZ9⟩ := hZ9
    obtain ⟨y52, hZ9⟩ := hZ9
    obtain ⟨y53, hZ9⟩ := hZ9
    obtain ⟨f54, hZ9⟩ := hZ9
    obtain ⟨hO51, hZ9⟩ := hZ9
    obtain ⟨hA55, hZ9⟩ := hZ9
    obtain ⟨b56, hZ9⟩ := hZ9
    obtain ⟨b57, hZ9⟩ := hZ9
    obtain ⟨b58, hZ9⟩ := hZ9
    obtain ⟨b59, hZ9⟩ := hZ9
    obtain ⟨b60, hE61⟩ := hZ9
    replace hO51 : u49[36]? = (some (q 36, .inr (7, [.int y52, .int y53, .ref (q 37)])) : Option (Nat × va_E)) := hO51
    replace hA55 : u49[37]? = (some (q 37, .inl (g 2, 1026, .inl f54)) : Option (Nat × va_E)) := hA55
    obtain ⟨p63, e64⟩ : ∃ z, z = (F_Dig_turn x3 lx21 t0_1 lx22) := ⟨_, rfl⟩
    have e65 : y52 = p63.1 := congrArg (fun z => z.1) (hE61.trans e64.symm)
    have e66 : y53 = p63.2.1 := congrArg (fun z => z.2.1) (hE61.trans e64.symm)
    have e67 : f54 = p63.2.2 := congrArg (fun z => z.2.2) (hE61.trans e64.symm)
    replace b56 : q_F (0 ≤ y52.toInt) := b56
    replace b57 : q_F (0 ≤ y53.toInt + 1000000) := b57
    replace b58 : q_F (y53.toInt ≤ 1000000) := b58
    replace b59 : q_F (y52.toInt ≤ lx21.toInt) := b59
    replace b60 : q_F (y53.toInt ≤ y52.toInt + 999999) := b60
    replace hO39 := (hu62 _ (by have z0 := zk2; simp only [List.mem_cons, List.not_mem_nil, or_false, not_or]; omega)).trans hO39
    replace hO40 := (hu62 _ (by have z0 := zk2; simp only [List.mem_cons, List.not_mem_nil, or_false, not_or]; omega)).trans hO40
    replace hF := q_uc hF hu62 (by simp)
    have hR68 := (show F_Dig_fill_c84 (F_Dig_fill_L7 R x3 t0_0 t0_1 t1_0 t2_0 t2_1 t3_0 fm45) R x3 t0_0 t0_1 t1_0 t2_0 t2_1 t3_0 lx20 lx21 lx22 lx23 lx24 lx25 p63 = (F_Dig_fill R x3 t0_0 t0_1 t1_0 t2_0 t2_1 t3_0) from Eq.trans (by rw [e64, F_Dig_fill_L7.eq_2, if_pos c46]) hR41)
    have hS69 := (show True ∧ S_Dig_fill_c84 (S_Dig_fill_L7 R x3 t0_0 t0_1 t1_0 t2_0 t2_1 t3_0 fm45) R x3 t0_0 t0_1 t1_0 t2_0 t2_1 t3_0 lx20 lx21 lx22 lx23 lx24 lx25 p63 from (by rw [e64]; have h := hS42; rw [S_Dig_fill_L7.eq_2] at h; rw [if_pos c46] at h; replace h := q_s2 h; with_reducible exact h))
    exact q_retv C0 V (⟨hI, hF, y52, y53, f54, lx23, lx24, lx25, hO51, hA55, hO39, hO40, (show 0 ≤ y52.toInt from (by first | with_reducible exact q_fe b56 | (have t1 : 0 ≤ y52.toInt := b56; omega))), (show y52.toInt ≤ 1026 from (by have t1 : lx21.toInt ≤ 1026 := i27; have t2 : y52.toInt ≤ lx21.toInt := b59; omega)), (show 0 ≤ y53.toInt + 1000000 from (by first | with_reducible exact q_fe b57 | (have t1 : 0 ≤ y53.toInt + 1000000 := b57; omega))), (show y53.toInt ≤ 1000000 from (by first | with_reducible exact q_fe b58 | (have t1 : y53.toInt ≤ 1000000 := b58; omega))), (show 0 ≤ lx23.toInt from (by have t1 : lx24.toInt ≤ lx23.toInt + 1 := i32; have t2 : 0 ≤ lx23.toInt + lx24.toInt := i33; omega)), (show 0 ≤ lx24.toInt from (by first | with_reducible exact q_fe i28 | (have t1 : 0 ≤ lx24.toInt := i28; omega))), (show lx23.toInt ≤ t2_0.toInt from (by first | with_reducible exact q_fe i29 | (have t1 : lx23.toInt ≤ t2_0.toInt := i29; omega))), (show lx24.toInt ≤ t2_1.toInt from (by first | with_reducible exact q_fe i30 | (have t1 : lx24.toInt ≤ t2_1.toInt := i30; omega))), (show y53.toInt ≤ y52.toInt + 999999 from (by first | with_reducible exact q_fe b60 | (have t1 : y53.toInt ≤ y52.toInt + 999999 := b60; omega))), (show (y52, y53, f54, lx23, lx24, lx25) = (F_Dig_fill R x3 t0_0 t0_1 t1_0 t2_0 t2_1 t3_0) from Eq.trans (by rw [e67, e66, e65, F_Dig_fill_c84.eq_1]) hR68)⟩) d_5_2_87
  ·
    have b73 : q_F (lx20.toInt < 114) := (q_nleI c46)
    refine lv_aload_n hx hb d_5_2_13 rfl (lv_at hl 2 rfl) ?_
    refine q_get (ci := 2) (j := 1) (v := .int lx23) C0 V i_Big rfl rfl hO39 (by decide) w_86 rfl d_5_2_14 ?_
    refine lv_if_le (tgt := 82) hx hb d_5_2_17 (by decide) (fun c74 => ?_) (fun c74 => ?_)
    ·
      refine lv_aload_n hx hb d_5_2_82 rfl (lv_at hl 1 rfl) ?_
      refine lv_iload_n hx hb d_5_2_83 rfl (lv_at hl 3 rfl) ?_
      have ob76 : True ∧ S_Dig_turn x3 lx21 t0_1 lx22 := (by have h := hS42; rw [S_Dig_fill_L7.eq_2] at h; rw [if_neg c46] at h; rw [if_pos c74] at h; with_reducible exact h.2.1)
      refine q_gov V (q_runV (As := [.int x3]) (rest := []) (d := 1) (mc := 0) (ms := 0) (ci := 7) C0 V rfl LV_Dig_27 (X_Dig_turn l D g q w36  x3 hI lx21 t0_1 hO37 lx22 hO38 ob76 _) rfl rfl hO37 rfl hl.1 rfl (Nat.le_of_ble_eq_true rfl) ⟨by decide, by decide⟩ ⟨Nat.le_of_ble_eq_true rfl, Nat.le_of_ble_eq_true rfl⟩ d_5_2_84) (fun u77 H locs hp78 V => ?_)
      obtain ⟨hI, hZ9⟩ := hp78
      obtain ⟨hu90, hZ9⟩ := hZ9
      obtain ⟨y80, hZ9⟩ := hZ9
      obtain ⟨y81, hZ9⟩ := hZ9
      obtain ⟨f82, hZ9⟩ := hZ9
      obtain ⟨hO79, hZ9⟩ := hZ9
      obtain ⟨hA83, hZ9⟩ := hZ9
      obtain ⟨b84, hZ9⟩ := hZ9
      obtain ⟨b85, hZ9⟩ := hZ9
      obtain ⟨b86, hZ9⟩ := hZ9
      obtain ⟨b87, hZ9⟩ := hZ9
      obtain ⟨b88, hE89⟩ := hZ9
      replace hO79 : u77[36]? = (some (q 36, .inr (7, [.int y80, .int y81, .ref (q 37)])) : Option (Nat × va_E)) := hO79
      replace hA83 : u77[37]? = (some (q 37, .inl (g 2, 1026, .inl f82)) : Option (Nat × va_E)) := hA83
      obtain ⟨p91, e92⟩ : ∃ z, z = (F_Dig_turn x3 lx21 t0_1 lx22) := ⟨_, rfl⟩
      have e93 : y80 = p91.1 := congrArg (fun z => z.1) (hE89.trans e92.symm)
      have e94 : y81 = p91.2.1 := congrArg (fun z => z.2.1) (hE89.trans e92.symm)
      have e95 : f82 = p91.2.2 := congrArg (fun z => z.2.2) (hE89.trans e92.symm)
      replace b84 : q_F (0 ≤ y80.toInt) := b84
      replace b85 : q_F (0 ≤ y81.toInt + 1000000) := b85
      replace b86 : q_F (y81.toInt ≤ 1000000) := b86
      replace b87 : q_F (y80.toInt ≤ lx21.toInt) := b87
      replace b88 : q_F (y81.toInt ≤ y80.toInt + 999999) := b88
      replace hO39 := (hu90 _ (by have z0 := zk2; simp only [List.mem_cons, List.not_mem_nil, or_false, not_or]; omega)).trans hO39
      replace hO40 := (hu90 _ (by have z0 := zk2; simp only [List.mem_cons, List.not_mem_nil, or_false, not_or]; omega)).trans hO40
      replace hF := q_uc hF hu90 (by simp)
      have hR96 := (show F_Dig_fill_c84_3 (F_Dig_fill_L7 R x3 t0_0 t0_1 t1_0 t2_0 t2_1 t3_0 fm45) R x3 t0_0 t0_1 t1_0 t2_0 t2_1 t3_0 lx20 lx21 lx22 lx23 lx24 lx25 p91 = (F_Dig_fill R x3 t0_0 t0_1 t1_0 t2_0 t2_1 t3_0) from Eq.trans (by rw [e92, F_Dig_fill_L7.eq_2, if_neg c46, if_pos c74]) hR41)
      have hS97 := (show True ∧ S_Dig_fill_c84_3 (S_Dig_fill_L7 R x3 t0_0 t0_1 t1_0 t2_0 t2_1 t3_0 fm45) R x3 t0_0 t0_1 t1_0 t2_0 t2_1 t3_0 lx20 lx21 lx22 lx23 lx24 lx25 p91 from (by rw [e92]; have h := hS42; rw [S_Dig_fill_L7.eq_2] at h; rw [if_neg c46] at h; rw [if_pos c74] at h; replace h := q_s2 h; with_reducible exact h))
      exact q_retv C0 V (⟨hI, hF, y80, y81, f82, lx23, lx24, lx25, hO79, hA83, hO39, hO40, (show 0 ≤ y80.toInt from (by first | with_reducible exact q_fe b84 | (have t1 : 0 ≤ y80.toInt := b84; omega))), (show y80.toInt ≤ 1026 from (by have t1 : lx21.toInt ≤ 1026 := i27; have t2 : y80.toInt ≤ lx21.toInt := b87; omega)), (show 0 ≤ y81.toInt + 1000000 from (by first | with_reducible exact q_fe b85 | (have t1 : 0 ≤ y81.toInt + 1000000 := b85; omega))), (show y81.toInt ≤ 1000000 from (by first | with_reducible exact q_fe b86 | (have t1 : y81.toInt ≤ 1000000 := b86; omega))), (show 0 ≤ lx23.toInt from (by have t1 : lx24.toInt ≤ lx23.toInt + 1 := i32; have t2 : 0 ≤ lx23.toInt + lx24.toInt := i33; omega)), (show 0 ≤ lx24.toInt from (by first | with_reducible exact q_fe i28 | (have t1 : 0 ≤ lx24.toInt := i28; omega))), (show lx23.toInt ≤ t2_0.toInt from (by first | with_reducible exact q_fe i29 | (have t1 : lx23.toInt ≤ t2_0.toInt := i29; omega))), (show lx24.toInt ≤ t2_1.toInt from (by first | with_reducible exact q_fe i30 | (have t1 : lx24.toInt ≤ t2_1.toInt := i30; omega))), (show y81.toInt ≤ y80.toInt + 999999 from (by first | with_reducible exact q_fe b88 | (have t1 : y81.toInt ≤ y80.toInt + 999999 := b88; omega))), (show (y80, y81, f82, lx23, lx24, lx25) = (F_Dig_fill R x3 t0_0 t0_1 t1_0 t2_0 t2_1 t3_0) from Eq.trans (by rw [e95, e94, e93, F_Dig_fill_c84_3.eq_1]) hR96)⟩) d_5_2_87
    ·
      refine lv_aload_n hx hb d_5_2_20 rfl (lv_at hl 2 rfl) ?_
      refine q_ldc C0 rfl w_1142 d_5_2_21 ?_
      refine q_goi V (q_runV (As := [.int 1000000000]) (rest := []) (d := 2) (mc := 0) (ms := 0) (ci := 2) C0 V rfl LV_Dig_23 (X_Big_divideSmall l D g q w36 k2 R hB2 zk2 1000000000 hI lx23 lx24 hO39 lx25 hO40  _) rfl rfl hO39 rfl hl.1 rfl (Nat.le_of_ble_eq_true rfl) ⟨by decide, by decide⟩ ⟨Nat.le_of_ble_eq_true rfl, Nat.le_of_ble_eq_true rfl⟩ d_5_2_23) (fun a104 u102 H locs hp103 V => ?_)
      obtain ⟨hI, hZ9⟩ := hp103
      obtain ⟨hu115, hZ9⟩ := hZ9
      obtain ⟨y106, hZ9⟩ := hZ9
      obtain ⟨y107, hZ9⟩ := hZ9
      obtain ⟨f108, hZ9⟩ := hZ9
      obtain ⟨hO105, hZ9⟩ := hZ9
      obtain ⟨hA109, hZ9⟩ := hZ9
      obtain ⟨b110, hZ9⟩ := hZ9
      obtain ⟨b111, hZ9⟩ := hZ9
      obtain ⟨b112, hZ9⟩ := hZ9
      obtain ⟨b113, hE114⟩ := hZ9
      replace hO105 : u102[k2]? = (some (q k2, .inr (2, [.ref (q (k2 + 1)), .int y106, .int y107])) : Option (Nat × va_E)) := hO105
      replace hA109 : u102[k2 + 1]? = (some (q (k2 + 1), .inl (g 0, R.toNatClampNeg, .inl f108)) : Option (Nat × va_E)) := hA109
      obtain ⟨p116, e117⟩ : ∃ z, z = (F_Big_divideSmall R (1000000000 : Int32) lx23 lx24 lx25) := ⟨_, rfl⟩
      have e118 : a104 = p116.1 := congrArg (fun z => z.1) (hE114.trans e117.symm)
      have e119 : y106 = p116.2.1 := congrArg (fun z => z.2.1) (hE114.trans e117.symm)
      have e120 : y107 = p116.2.2.1 := congrArg (fun z => z.2.2.1) (hE114.trans e117.symm)
      have e121 : f108 = p116.2.2.2 := congrArg (fun z => z.2.2.2) (hE114.trans e117.symm)
      replace b110 : q_F (0 ≤ y107.toInt) := b110
      replace b111 : q_F (y106.toInt ≤ lx23.toInt) := b111
      replace b112 : q_F (y107.toInt ≤ lx24.toInt) := b112
      replace b113 : q_F (y107.toInt ≤ y106.toInt) := b113
      replace hO37 := (hu115 _ (by have z0 := zk2; simp only [List.mem_cons, List.not_mem_nil, or_false, not_or]; omega)).trans hO37
      replace hO38 := (hu115 _ (by have z0 := zk2; simp only [List.mem_cons, List.not_mem_nil, or_false, not_or]; omega)).trans hO38
      replace hF := q_uc hF hu115 (by simp)
      have hR122 := (show F_Dig_fill_c23 (F_Dig_fill_L7 R x3 t0_0 t0_1 t1_0 t2_0 t2_1 t3_0 fm45) R x3 t0_0 t0_1 t1_0 t2_0 t2_1 t3_0 lx20 lx21 lx22 lx23 lx24 lx25 p116 = (F_Dig_fill R x3 t0_0 t0_1 t1_0 t2_0 t2_1 t3_0) from Eq.trans (by rw [e117, F_Dig_fill_L7.eq_2, if_neg c46, if_neg c74]) hR41)
      have hS123 := (show True ∧ S_Dig_fill_c23 (S_Dig_fill_L7 R x3 t0_0 t0_1 t1_0 t2_0 t2_1 t3_0 fm45) R x3 t0_0 t0_1 t1_0 t2_0 t2_1 t3_0 lx20 lx21 lx22 lx23 lx24 lx25 p116 from (by rw [e117]; have h := hS42; rw [S_Dig_fill_L7.eq_2] at h; rw [if_neg c46] at h; rw [if_neg c74] at h; with_reducible exact h))
      refine lv_istore (lv' := [(4, .int a104), (3, .int lx20), (0, .ref (q 36)), (1, .ref (q k2)), (2, .int x3)]) hx hb d_5_2_26 hl (by decide) rfl (fun ls hl => ?_)
      refine lv_iconst (v := 0) hx hb d_5_2_28 (by decide) ?_
      refine lv_istore (lv' := [(5, .int 0), (4, .int a104), (3, .int lx20), (0, .ref (q 36)), (1, .ref (q k2)), (2, .int x3)]) hx hb d_5_2_29 hl (by decide) rfl (fun ls hl => ?_)
      refine q_loop (X := Int32 × Int32 × Int32 × (Nat → Int32)) (fun z H locs ls w140 => q_F (z.1.toInt ≤ 9) ∧ q_F (z.2.2.1.toInt ≤ 1026) ∧ q_F (z.1.toInt ≤ z.2.2.1.toInt) ∧ q_F (lx21.toInt ≤ z.1.toInt + z.2.2.1.toInt) ∧ q_F (z.2.2.1.toInt ≤ z.1.toInt + lx21.toInt) ∧ q_F (z.1.toInt + lx21.toInt ≤ z.2.2.1.toInt) ∧ q_Wd D g (va_A ws sz) s w140 H locs ∧ lv_has ls 6 [(5, .int z.1), (4, .int z.2.1), (3, .int lx20), (0, .ref (q 36)), (1, .ref (q k2)), (2, .int x3)] ∧ q_I (nsh g q) q w140 ∧ q_un ws w140 [36, 37, k2, k2 + 1] ∧ w140[36]? = (some (q 36, .inr (7, [.int z.2.2.1, .int t0_1, .ref (q 37)])) : Option (Nat × va_E)) ∧ w140[37]? = (some (q 37, .inl (g 2, 1026, .inl z.2.2.2)) : Option (Nat × va_E)) ∧ w140[k2]? = (some (q k2, .inr (2, [.ref (q (k2 + 1)), .int y106, .int y107])) : Option (Nat × va_E)) ∧ w140[k2 + 1]? = (some (q (k2 + 1), .inl (g 0, R.toNatClampNeg, .inl f108)) : Option (Nat × va_E)) ∧ (∃ n, (9 - z.1.toInt).toNat < n ∧ F_Dig_fill_L31 (F_Dig_fill_L7 R x3 t0_0 t0_1 t1_0 t2_0 t2_1 t3_0 fm45) R x3 t0_0 t0_1 t1_0 t2_0 t2_1 t3_0 lx20 lx21 lx22 lx23 lx24 lx25 p116 y106 y107 f108 n z.1 z.2.1 z.2.2.1 z.2.2.2 = (F_Dig_fill R x3 t0_0 t0_1 t1_0 t2_0 t2_1 t3_0) ∧ True ∧ S_Dig_fill_L31 (S_Dig_fill_L7 R x3 t0_0 t0_1 t1_0 t2_0 t2_1 t3_0 fm45) R x3 t0_0 t0_1 t1_0 t2_0 t2_1 t3_0 lx20 lx21 lx22 lx23 lx24 lx25 p116 y106 y107 f108 n z.1 z.2.1 z.2.2.1 z.2.2.2)) (fun z => (9 - z.1.toInt).toNat) ?_ ((0 : Int32), (a104 : Int32), (lx21 : Int32), (lx22 : (Nat → Int32))) _ _ _ u102 ⟨(show q_F (0 ≤ 9) from (show 0 ≤ 9 from by omega)), (show q_F (lx21.toInt ≤ 1026) from (show lx21.toInt ≤ 1026 from by have t1 : lx21.toInt ≤ 1026 := i27; omega)), (show q_F (0 ≤ lx21.toInt) from (show 0 ≤ lx21.toInt from by have t1 : lx24.toInt ≤ t2_1.toInt := i30; have t2 : lx20.toInt ≤ lx21.toInt := i31; have t3 : t2_1.toInt ≤ lx20.toInt + lx24.toInt := i34; omega)), (show q_F (lx21.toInt ≤ 0 + lx21.toInt) from (show lx21.toInt ≤ 0 + lx21.toInt from by omega)), (show q_F (lx21.toInt ≤ 0 + lx21.toInt) from (show lx21.toInt ≤ 0 + lx21.toInt from by omega)), (show q_F (0 + lx21.toInt ≤ lx21.toInt) from (show 0 + lx21.toInt ≤ lx21.toInt from by omega)), V, q_lw hl (q_lw1 0 rfl (q_lw1 1 rfl (q_lw1 2 rfl (q_lw1 3 rfl (q_lw1 4 rfl (q_lw1 5 rfl q_lw0)))))), hI, hF, hO37, hO38, hO105, hA109, ⟨((9 - (0 : Int32).toInt).toNat + 1), Nat.lt_succ_self _, (show F_Dig_fill_L31 (F_Dig_fill_L7 R x3 t0_0 t0_1 t1_0 t2_0 t2_1 t3_0 fm45) R x3 t0_0 t0_1 t1_0 t2_0 t2_1 t3_0 lx20 lx21 lx22 lx23 lx24 lx25 p116 y106 y107 f108 ((9 - (0 : Int32).toInt).toNat + 1) 0 a104 lx21 lx22 = (F_Dig_fill R x3 t0_0 t0_1 t1_0 t2_0 t2_1 t3_0) from Eq.trans (by rw [e121, e120, e119, e118, F_Dig_fill_c23.eq_1]) hR122), (show True ∧ S_Dig_fill_L31 (S_Dig_fill_L7 R x3 t0_0 t0_1 t1_0 t2_0 t2_1 t3_0 fm45) R x3 t0_0 t0_1 t1_0 t2_0 t2_1 t3_0 lx20 lx21 lx22 lx23 lx24 lx25 p116 y106 y107 f108 ((9 - (0 : Int32).toInt).toNat + 1) 0 a104 lx21 lx22 from (by rw [e121, e120, e119, e118]; have h := hS123; rw [S_Dig_fill_c23.eq_1] at h; with_reducible exact h))⟩⟩
      rintro ⟨lx129, lx130, lx131, lx132⟩ H locs ls w140 ⟨i133, i134, i135, i136, i137, i138, V, hl, hI, hF, hO141, hO142, hO143, hO144, ⟨fu147, hf148, hR145, hS146⟩⟩ ih139
      obtain ⟨fm149, rfl⟩ : ∃ m, fu147 = m + 1 := ⟨fu147 - 1, by omega⟩
      replace i133 : q_F (lx129.toInt ≤ 9) := i133
      replace i134 : q_F (lx131.toInt ≤ 1026) := i134
      replace i135 : q_F (lx129.toInt ≤ lx131.toInt) := i135
      replace i136 : q_F (lx21.toInt ≤ lx129.toInt + lx131.toInt) := i136
      replace i137 : q_F (lx131.toInt ≤ lx129.toInt + lx21.toInt) := i137
      replace i138 : q_F (lx129.toInt + lx21.toInt ≤ lx131.toInt) := i138
      replace hl : lv_has ls 6 [(5, .int lx129), (4, .int lx130), (3, .int lx20), (0, .ref (q 36)), (1, .ref (q k2)), (2, .int x3)] := hl
      replace hO141 : w140[36]? = (some (q 36, .inr (7, [.int lx131, .int t0_1, .ref (q 37)])) : Option (Nat × va_E)) := hO141
      replace hO142 : w140[37]? = (some (q 37, .inl (g 2, 1026, .inl lx132)) : Option (Nat × va_E)) := hO142
      replace hO143 : w140[k2]? = (some (q k2, .inr (2, [.ref (q (k2 + 1)), .int y106, .int y107])) : Option (Nat × va_E)) := hO143
      replace hO144 : w140[k2 + 1]? = (some (q (k2 + 1), .inl (g 0, R.toNatClampNeg, .inl f108)) : Option (Nat × va_E)) := hO144
      refine lv_iload hx hb d_5_2_31 (lv_at hl 0 rfl) ?_
      refine lv_bipush (v := 9) hx hb d_5_2_33 (by decide) ?_
      refine lv_icmp_ge (tgt := 76) hx hb d_5_2_35 (by decide) (fun c150 => ?_) (fun c150 => ?_)
      ·
        have b151 : q_F (9 ≤ lx129.toInt) := (q_leI c150)
        obtain ⟨a152, e153⟩ := q_nm (lx20 + 1 : Int32)
        have b154 : q_F (a152.toInt = lx20.toInt + 1) := (by rw [← e153]; exact q_addI (y := 1) rfl (by decide) (by have _ := q_lo32 (x := lx20); have _ := q_hi32 (x := lx20); have t1 : lx20.toInt ≤ 114 := i26; omega) (by have _ := q_lo32 (x := lx20); have _ := q_hi32 (x := lx20); have t1 : lx20.toInt ≤ 114 := i26; omega))
        refine lv_iinc (v := a152) (lv' := [(3, .int a152), (5, .int lx129), (4, .int lx130), (0, .ref (q 36)), (1, .ref (q k2)), (2, .int x3)]) hx hb d_5_2_76 hl (k := 2) rfl (e153) (by decide) rfl (fun ls hl => ?_)
        refine lv_goto (tgt := 7) hx hb d_5_2_79 (by decide) ?_
        exact ih35 ((a152 : Int32), (lx131 : Int32), (lx132 : (Nat → Int32)), (y106 : Int32), (y107 : Int32), (f108 : (Nat → Int32))) _ _ _ _ (show (114 - a152.toInt).toNat < (114 - lx20.toInt).toNat from by have t1 : a152.toInt = lx20.toInt + 1 := b154; have t2 : lx20.toInt ≤ 114 := i26; have t3 : lx20.toInt < 114 := b73; omega) ⟨(show q_F (a152.toInt ≤ 114) from (show a152.toInt ≤ 114 from by have t1 : lx20.toInt < 114 := b73; have t2 : a152.toInt = lx20.toInt + 1 := b154; omega)), (show q_F (lx131.toInt ≤ 1026) from (show lx131.toInt ≤ 1026 from by have t1 : lx131.toInt ≤ 1026 := i134; omega)), (show q_F (0 ≤ y107.toInt) from (show 0 ≤ y107.toInt from by have t1 : 0 ≤ y107.toInt := b110; omega)), (show q_F (y106.toInt ≤ t2_0.toInt) from (show y106.toInt ≤ t2_0.toInt from by have t1 : lx23.toInt ≤ t2_0.toInt := i29; have t2 : y106.toInt ≤ lx23.toInt := b111; omega)), (show q_F (y107.toInt ≤ t2_1.toInt) from (show y107.toInt ≤ t2_1.toInt from by have t1 : lx24.toInt ≤ t2_1.toInt := i30; have t2 : y107.toInt ≤ lx24.toInt := b112; omega)), (show q_F (a152.toInt ≤ lx131.toInt) from (show a152.toInt ≤ lx131.toInt from by have t1 : lx20.toInt ≤ lx21.toInt := i31; have t2 : lx129.toInt + lx21.toInt ≤ lx131.toInt := i138; have t3 : 9 ≤ lx129.toInt := b151; have t4 : a152.toInt = lx20.toInt + 1 := b154; omega)), (show q_F (y107.toInt ≤ y106.toInt + 1) from (show y107.toInt ≤ y106.toInt + 1 from by have t1 : y107.toInt ≤ y106.toInt := b113; omega)), (show q_F (0 ≤ y106.toInt + y107.toInt) from (show 0 ≤ y106.toInt + y107.toInt from by have t1 : 0 ≤ y107.toInt := b110; have t2 : y107.toInt ≤ y106.toInt := b113; omega)), (show q_F (t2_1.toInt ≤ a152.toInt + y107.toInt) from (show t2_1.toInt ≤ a152.toInt + y107.toInt from by have t1 : 0 ≤ t2_1.toInt ∧ t2_1.toInt ≤ 1 := btt2_1; have t2 : lx24.toInt ≤ t2_1.toInt := i30; have t3 : t2_1.toInt ≤ lx20.toInt + lx24.toInt := i34; have t4 : 0 ≤ y107.toInt := b110; have t5 : a152.toInt = lx20.toInt + 1 := b154; omega)), V, q_lw hl (q_lw1 0 rfl (q_lw1 3 rfl (q_lw1 4 rfl (q_lw1 5 rfl q_lw0)))), hI, hF, hO141, hO142, hO143, hO144, ⟨fm45, Nat.lt_of_lt_of_le (show (114 - a152.toInt).toNat < (114 - lx20.toInt).toNat from by have t1 : a152.toInt = lx20.toInt + 1 := b154; have t2 : lx20.toInt ≤ 114 := i26; have t3 : lx20.toInt < 114 := b73; omega) (Nat.le_of_lt_succ hf44), (show F_Dig_fill_L7 R x3 t0_0 t0_1 t1_0 t2_0 t2_1 t3_0 fm45 a152 lx131 lx132 y106 y107 f108 = (F_Dig_fill R x3 t0_0 t0_1 t1_0 t2_0 t2_1 t3_0) from Eq.trans (by rw [← e153, F_Dig_fill_L31.eq_2, if_pos c150]) hR145), (show True ∧ S_Dig_fill_L7 R x3 t0_0 t0_1 t1_0 t2_0 t2_1 t3_0 fm45 a152 lx131 lx132 y106 y107 f108 from (by rw [← e153]; have h := hS146; rw [S_Dig_fill_L31.eq_2] at h; rw [if_pos c150] at h; with_reducible exact h))⟩⟩
      ·
        have b155 : q_F (lx129.toInt < 9) := (q_nleI c150)
        refine lv_aload_n hx hb d_5_2_38 rfl (lv_at hl 3 rfl) ?_
        refine q_get (ci := 7) (j := 2) (v := .ref (q 37)) C0 V i_Dig rfl rfl hO141 (by decide) w_269 rfl d_5_2_39 ?_
        refine lv_aload_n hx hb d_5_2_42 rfl (lv_at hl 3 rfl) ?_
        refine q_get (ci := 7) (j := 0) (v := .int lx131) C0 V i_Dig rfl rfl hO141 (by decide) w_264 rfl d_5_2_43 ?_
        refine lv_iload hx hb d_5_2_46 (lv_at hl 1 rfl) ?_
        refine lv_bipush (v := 10) hx hb d_5_2_48 (by decide) ?_
        refine lv_irem hx hb d_5_2_50 (by decide) ?_
        obtain ⟨a156, e157⟩ := q_nm (lx130 - lx130 / 10 * 10 : Int32)
        refine q_ti (v := a156) e157 ?_
        refine lv_i2b hx hb d_5_2_51 rfl ?_
        obtain ⟨a158, e159⟩ := q_nm (a156.toInt8.toInt32 : Int32)
        refine q_ti (v := a158) e159 ?_
        have ob160 : q_F (lx131.toInt ≤ 1025) := (by have h := hS146; rw [S_Dig_fill_L31.eq_2] at h; rw [if_neg c150] at h; exact h.2.1)
        refine q_bast C0 V hO142 (q_ix (x := lx131.toInt) rfl (by have t1 : lx129.toInt ≤ lx131.toInt := i135; have t2 : lx21.toInt ≤ lx129.toInt + lx131.toInt := i136; have t3 : lx131.toInt ≤ lx129.toInt + lx21.toInt := i137; omega) (by have t1 : lx129.toInt ≤ lx131.toInt := i135; have t2 : lx21.toInt ≤ lx129.toInt + lx131.toInt := i136; have t3 : lx131.toInt ≤ lx129.toInt + lx21.toInt := i137; have t4 : lx131.toInt ≤ 1025 := ob160; omega)) d_5_2_52 (fun H locs w161 hu162 hO142 V => ?_)
        replace hI := n_ai' hI (n_s37 g q) hu162 hO142 (q_updB (fun _ => s_bnd) s_bnd)
        replace hO141 := (hu162 _ (by decide)).trans hO141
        replace hO143 := (hu162 _ (by have z0 := zk2; omega)).trans hO143
        replace hO144 := (hu162 _ (by have z0 := zk2; omega)).trans hO144
        replace hF := q_us hF hu162 (by simp)
        obtain ⟨f163, e164⟩ := q_nm (upd lx132 lx131.toNatClampNeg (vp_nar .byte a158) : (Nat → Int32))
        rw [e164] at hO142
        refine lv_iload hx hb d_5_2_53 (lv_at hl 1 rfl) ?_
        refine lv_bipush (v := 10) hx hb d_5_2_55 (by decide) ?_
        refine lv_idiv hx hb d_5_2_57 (by decide) ?_
        obtain ⟨a165, e166⟩ := q_nm (lx130 / 10 : Int32)
        refine q_ti (v := a165) e166 ?_
        refine lv_istore (lv' := [(4, .int a165), (5, .int lx129), (3, .int lx20), (0, .ref (q 36)), (1, .ref (q k2)), (2, .int x3)]) hx hb d_5_2_58 hl (by decide) rfl (fun ls hl => ?_)
        refine lv_aload_n hx hb d_5_2_60 rfl (lv_at hl 3 rfl) ?_
        refine lv_dup hx hb d_5_2_61 rfl ?_
        refine q_get (ci := 7) (j := 0) (v := .int lx131) C0 V i_Dig rfl rfl hO141 (by decide) w_264 rfl d_5_2_62 ?_
        refine lv_iconst (v := 1) hx hb d_5_2_65 (by decide) ?_
        refine lv_iadd hx hb d_5_2_66 ?_
        obtain ⟨a168, e169⟩ := q_nm (lx131 + 1 : Int32)
        refine q_ti (v := a168) e169 ?_
        have b170 : q_F (a168.toInt = lx131.toInt + 1) := (by rw [← e169]; show (lx131 + 1 : Int32).toInt = lx131.toInt + 1; exact q_addI (x := lx131.toInt) (y := 1) rfl (by decide) (by have t1 : lx129.toInt ≤ lx131.toInt := i135; have t2 : lx21.toInt ≤ lx129.toInt + lx131.toInt := i136; have t3 : lx131.toInt ≤ lx129.toInt + lx21.toInt := i137; have t4 : lx131.toInt ≤ 1026 := i134; omega) (by have t1 : lx129.toInt ≤ lx131.toInt := i135; have t2 : lx21.toInt ≤ lx129.toInt + lx131.toInt := i136; have t3 : lx131.toInt ≤ lx129.toInt + lx21.toInt := i137; have t4 : lx131.toInt ≤ 1026 := i134; omega))
        refine q_put (ci := 7) (j := 0) (v := .int a168) (ty := .int) C0 V i_Dig o_Dig n_Dig rfl rfl hO141 (by decide) w_264 rfl rfl rfl rfl (Nat.le_of_ble_eq_true rfl) d_5_2_67 (fun H locs w171 hu172 hO141 V => ?_)
        replace hO141 : w171[36]? = (some (q 36, .inr (7, [.int a168, .int t0_1, .ref (q 37)])) : Option (Nat × va_E)) := hO141
        replace hI := n_p36 hI hu172 hO141 ⟨(by have t1 : lx129.toInt ≤ lx131.toInt := i135; have t2 : lx21.toInt ≤ lx129.toInt + lx131.toInt := i136; have t3 : lx131.toInt ≤ lx129.toInt + lx21.toInt := i137; have t4 : a168.toInt = lx131.toInt + 1 := b170; omega), (by have t1 : lx131.toInt ≤ 1025 := ob160; have t2 : a168.toInt = lx131.toInt + 1 := b170; omega)⟩ (by first | with_reducible exact q_fe btt0_1 | exact ⟨(by have t1 : -1000000 ≤ t0_1.toInt ∧ t0_1.toInt ≤ 1000000 := btt0_1; omega), (by have t1 : -1000000 ≤ t0_1.toInt ∧ t0_1.toInt ≤ 1000000 := btt0_1; omega)⟩)
        replace hO142 := (hu172 _ (by decide)).trans hO142
        replace hO143 := (hu172 _ (by have z0 := zk2; omega)).trans hO143
        replace hO144 := (hu172 _ (by have z0 := zk2; omega)).trans hO144
        replace hF := q_us hF hu172 (by simp)
        obtain ⟨a173, e174⟩ := q_nm (lx129 + 1 : Int32)
        have b175 : q_F (a173.toInt = lx129.toInt + 1) := (by rw [← e174]; exact q_addI (y := 1) rfl (by decide) (by have t1 : lx21.toInt ≤ lx129.toInt + lx131.toInt := i136; have t2 : lx131.toInt ≤ lx129.toInt + lx21.toInt := i137; have t3 : lx129.toInt ≤ 9 := i133; omega) (by have t1 : lx21.toInt ≤ lx129.toInt + lx131.toInt := i136; have t2 : lx131.toInt ≤ lx129.toInt + lx21.toInt := i137; have t3 : lx129.toInt ≤ 9 := i133; omega))
        refine lv_iinc (v := a173) (lv' := [(5, .int a173), (4, .int a165), (3, .int lx20), (0, .ref (q 36)), (1, .ref (q k2)), (2, .int x3)]) hx hb d_5_2_70 hl (k := 1) rfl (e174) (by decide) rfl (fun ls hl => ?_)
        refine lv_goto (tgt := 31) hx hb d_5_2_73 (by decide) ?_
        exact ih139 ((a173 : Int32), (a165 : Int32), (a168 : Int32), (f163 : (Nat → Int32))) _ _ _ _ (show (9 - a173.toInt).toNat < (9 - lx129.toInt).toNat from by have t1 : a173.toInt = lx129.toInt + 1 := b175; have t2 : lx129.toInt ≤ 9 := i133; have t3 : lx129.toInt < 9 := b155; omega) ⟨(show q_F (a173.toInt ≤ 9) from (show a173.toInt ≤ 9 from by have t1 : lx129.toInt < 9 := b155; have t2 : a173.toInt = lx129.toInt + 1 := b175; omega)), (show q_F (a168.toInt ≤ 1026) from (show a168.toInt ≤ 1026 from by have t1 : lx131.toInt ≤ 1025 := ob160; have t2 : a168.toInt = lx131.toInt + 1 := b170; omega)), (show q_F (a173.toInt ≤ a168.toInt) from (show a173.toInt ≤ a168.toInt from by have t1 : lx129.toInt ≤ lx131.toInt := i135; have t2 : a168.toInt = lx131.toInt + 1 := b170; have t3 : a173.toInt = lx129.toInt + 1 := b175; omega)), (show q_F (lx21.toInt ≤ a173.toInt + a168.toInt) from (show lx21.toInt ≤ a173.toInt + a168.toInt from by have t1 : lx21.toInt ≤ lx129.toInt + lx131.toInt := i136; have t2 : a168.toInt = lx131.toInt + 1 := b170; have t3 : a173.toInt = lx129.toInt + 1 := b175; omega)), (show q_F (a168.toInt ≤ a173.toInt + lx21.toInt) from (show a168.toInt ≤ a173.toInt + lx21.toInt from by have t1 : lx131.toInt ≤ lx129.toInt + lx21.toInt := i137; have t2 : a168.toInt = lx131.toInt + 1 := b170; have t3 : a173.toInt = lx129.toInt + 1 := b175; omega)), (show q_F (a173.toInt + lx21.toInt ≤ a168.toInt) from (show a173.toInt + lx21.toInt ≤ a168.toInt from by have t1 : lx129.toInt + lx21.toInt ≤ lx131.toInt := i138; have t2 : a168.toInt = lx131.toInt + 1 := b170; have t3 : a173.toInt = lx129.toInt + 1 := b175; omega)), V, q_lw hl (q_lw1 0 rfl (q_lw1 1 rfl (q_lw1 2 rfl (q_lw1 3 rfl (q_lw1 4 rfl (q_lw1 5 rfl q_lw0)))))), hI, hF, hO141, hO142, hO143, hO144, ⟨fm149, Nat.lt_of_lt_of_le (show (9 - a173.toInt).toNat < (9 - lx129.toInt).toNat from by have t1 : a173.toInt = lx129.toInt + 1 := b175; have t2 : lx129.toInt ≤ 9 := i133; have t3 : lx129.toInt < 9 := b155; omega) (Nat.le_of_lt_succ hf148), (show F_Dig_fill_L31 (F_Dig_fill_L7 R x3 t0_0 t0_1 t1_0 t2_0 t2_1 t3_0 fm45) R x3 t0_0 t0_1 t1_0 t2_0 t2_1 t3_0 lx20 lx21 lx22 lx23 lx24 lx25 p116 y106 y107 f108 fm149 a173 a165 a168 f163 = (F_Dig_fill R x3 t0_0 t0_1 t1_0 t2_0 t2_1 t3_0) from Eq.trans (by rw [← e174, ← e169, ← e166, ← e164, ← e159, ← e157, F_Dig_fill_L31.eq_2, if_neg c150]) hR145), (show True ∧ S_Dig_fill_L31 (S_Dig_fill_L7 R x3 t0_0 t0_1 t1_0 t2_0 t2_1 t3_0 fm45) R x3 t0_0 t0_1 t1_0 t2_0 t2_1 t3_0 lx20 lx21 lx22 lx23 lx24 lx25 p116 y106 y107 f108 fm149 a173 a165 a168 f163 from (by rw [← e174, ← e169, ← e166, ← e164, ← e159, ← e157]; have h := hS146; rw [S_Dig_fill_L31.eq_2] at h; rw [if_neg c150] at h; replace h := q_s2 h; with_reducible exact h))⟩⟩
theorem d_12_11_0 : decode prog_12_method_11_code 0 = .ok (.aload_n 0, 1) := by decide +kernel
theorem d_12_11_1 : decode prog_12_method_11_code 1 = .ok (.getfield 7, 3) := by decide +kernel
theorem d_12_11_4 : decode prog_12_method_11_code 4 = .ok (.invokevirtual 201, 3) := by decide +kernel
set_option maxRecDepth 100000 in
theorem w_1545 : (Cond.methodLink "NumberHouse$Writer" (201 : Nat) ({ cls := "NumberHouse$Sheet", name := "clear", desc := "()V" } : MethodName)) ∈ q_tbl := q_of7 105 rfl (by decide +kernel)
theorem LV_Wri_201 : q_LV "NumberHouse$Writer" 201 y_She_clear prog_11_method_2_code 1 none 0 := ⟨w_474, w_2, w_1545, w_472, w_473, ⟨by decide, by decide, by decide +kernel⟩⟩
theorem d_12_11_7 : decode prog_12_method_11_code 7 = .ok (.iload_n 1, 1) := by decide +kernel
theorem d_12_11_8 : decode prog_12_method_11_code 8 = .ok (.ifCond .eq 12, 3) := by decide +kernel
theorem d_12_11_20 : decode prog_12_method_11_code 20 = .ok (.return_, 1) := by decide +kernel
theorem d_12_11_11 : decode prog_12_method_11_code 11 = .ok (.aload_n 0, 1) := by decide +kernel
theorem d_12_11_12 : decode prog_12_method_11_code 12 = .ok (.getfield 7, 3) := by decide +kernel
theorem d_12_11_15 : decode prog_12_method_11_code 15 = .ok (.bipush 45, 2) := by decide +kernel
theorem d_12_11_17 : decode prog_12_method_11_code 17 = .ok (.invokevirtual 62, 3) := by decide +kernel
set_option maxRecDepth 100000 in
theorem w_1546 : (Cond.methodLink "NumberHouse$Writer" (62 : Nat) ({ cls := "NumberHouse$Sheet", name := "add", desc := "(I)V" } : MethodName)) ∈ q_tbl := q_of7 106 rfl (by decide +kernel)
theorem LV_Wri_62 : q_LV "NumberHouse$Writer" 62 y_She_add prog_11_method_3_code 3 none 1 := ⟨w_564, w_2, w_1546, w_562, w_563, ⟨by decide, by decide, by decide +kernel⟩⟩
def y_Wri_begin : MethodName := ⟨"NumberHouse$Writer", "begin", "(Z)V"⟩
def F_Wri_begin_c17 (x2 : Int32) (t0_0 : Int32) (t1_0 : (Nat → Int64)) (p31 : (Int32 × (Nat → Int64))) : Int32 × (Nat → Int64) := ((p31.1 : Int32), (p31.2 : (Nat → Int64)))
def F_Wri_begin (x2 : Int32) (t0_0 : Int32) (t1_0 : (Nat → Int64)) : Int32 × (Nat → Int64) := if x2 = (0 : Int32) then ((((F_She_clear (11008 : Int32) (1376 : Int32) (1000000 : Int32) t0_0) : Int32), t1_0)) else (F_Wri_begin_c17 x2 t0_0 t1_0 ((F_She_add (11008 : Int32) (1376 : Int32) (1000000 : Int32) (45 : Int32) ((F_She_clear (11008 : Int32) (1376 : Int32) (1000000 : Int32) t0_0) : Int32) t1_0) : (Int32 × (Nat → Int64))))
def S_Wri_begin_c17 (x2 : Int32) (t0_0 : Int32) (t1_0 : (Nat → Int64)) (p31 : (Int32 × (Nat → Int64))) : Prop := True
def S_Wri_begin (x2 : Int32) (t0_0 : Int32) (t1_0 : (Nat → Int64)) : Prop := if x2 = (0 : Int32) then (True) else ((True ∧ S_She_add (11008 : Int32) (1376 : Int32) (1000000 : Int32) (45 : Int32) ((F_She_clear (11008 : Int32) (1376 : Int32) (1000000 : Int32) t0_0) : Int32) t1_0) ∧ (S_Wri_begin_c17 x2 t0_0 t1_0 ((F_She_add (11008 : Int32) (1376 : Int32) (1000000 : Int32) (45 : Int32) ((F_She_clear (11008 : Int32) (1376 : Int32) (1000000 : Int32) t0_0) : Int32) t1_0) : (Int32 × (Nat → Int64)))))
set_option maxRecDepth 100000 in
set_option maxHeartbeats 4000000 in
theorem X_Wri_begin (l : Launch) (D : va_G) (g : Nat → ClassId) (q : Nat → Nat) (ws : va_W) (x2 : Int32) (hI : q_I (nsh g q) q ws) (t0_0 : Int32) (hT0 : ws[3]? = (some (q 3, .inr (1, [.ref (q 4), .int 11008, .int t0_0])) : Option (Nat × va_E))) (t1_0 : (Nat → Int64)) (hT1 : ws[4]? = (some (q 4, .inl (g 1, (1376 : Int32).toNatClampNeg, .inr (.inl t1_0))) : Option (Nat × va_E))) (hzx2 : 0 ≤ x2.toInt ∧ x2.toInt ≤ 1) (hS : True ∧ S_Wri_begin x2 t0_0 t1_0) : q_mV l y_Wri_begin prog_12_method_11_code 2 2 0 0 D g [.ref (q 39), .int x2] ws (fun u => q_I (nsh g q) q u ∧ q_un ws u [3, 4] ∧ ∃ (u0_0 : Int32) (u1_0 : (Nat → Int64)), u[3]? = (some (q 3, .inr (1, [.ref (q 4), .int 11008, .int u0_0])) : Option (Nat × va_E)) ∧ u[4]? = (some (q 4, .inl (g 1, (1376 : Int32).toNatClampNeg, .inr (.inl u1_0))) : Option (Nat × va_E)) ∧ (x2.toInt ≤ u0_0.toInt) ∧ (u0_0.toInt ≤ x2.toInt) ∧ (u0_0, u1_0) = (F_Wri_begin x2 t0_0 t1_0)) := by
  intro sz
  refine q_into (by decide) (Nat.le_of_ble_eq_true rfl) ?_
  intro p e s m below meth c ls hsz C0 V hl
  have hx := C0.1
  have hb := C0.2.1
  replace hzx2 : q_F (0 ≤ x2.toInt ∧ x2.toInt ≤ 1) := hzx2
  have btt0_0 := n_shW hI (n_h3 g q) hT0
  clear btt0_0
  have hF : q_un ws ws [3, 4] := q_u0
  have hl : lv_has ls 2 [(0, .ref (q 39)), (1, .int x2)] := hl
  refine lv_aload_n hx hb d_12_11_0 rfl (lv_at hl 0 rfl) ?_
  have hO6 := n_o39 hI
  refine q_get (ci := 9) (j := 0) (v := .ref (q 3)) C0 V i_Wri rfl rfl hO6 (by decide) w_329 rfl d_12_11_1 ?_
  refine q_gov V (q_runV (As := []) (rest := []) (d := 1) (mc := 0) (ms := 0) (ci := 1) C0 V rfl LV_Wri_201 (X_She_clear l D g q ws 3 11008 1376 1000000 (n_h3 g q)  hI t0_0 hT0  _) rfl rfl hT0 rfl hl.1 rfl (Nat.le_of_ble_eq_true rfl) ⟨by decide, by decide⟩ ⟨Nat.le_of_ble_eq_true rfl, Nat.le_of_ble_eq_true rfl⟩ d_12_11_4) (fun u7 H locs hp8 V => ?_)
  obtain ⟨hI, hZ9⟩ := hp8
  obtain ⟨hu14, hZ9⟩ := hZ9
  obtain ⟨y10, hZ9⟩ := hZ9
  obtain ⟨hO9, hZ9⟩ := hZ9
  obtain ⟨b11, hZ9⟩ := hZ9
  obtain ⟨b12, hE13⟩ := hZ9
  replace hO9 : u7[3]? = (some (q 3, .inr (1, [.ref (q 4), .int 11008, .int y10])) : Option (Nat × va_E)) := hO9
  have e15 : y10 = (F_She_clear (11008 : Int32) (1376 : Int32) (1000000 : Int32) t0_0) := hE13
  replace b11 : q_F (0 ≤ y10.toInt) := b11
  replace b12 : q_F (y10.toInt ≤ 0) := b12
  replace hT1 := (hu14 _ (by decide)).trans hT1
  replace hO6 := (hu14 _ (by decide)).trans hO6
  replace hF := q_uc hF hu14 (by simp)
  refine lv_iload_n hx hb d_12_11_7 rfl (lv_at hl 1 rfl) ?_
  refine lv_if_eq (tgt := 20) hx hb d_12_11_8 (by decide) (fun c16 => ?_) (fun c16 => ?_)
  ·
    have b17 : q_F (x2.toInt = 0) := (q_eqI c16)
    exact q_retv C0 V (⟨hI, hF, y10, t1_0, hO9, hT1, (show x2.toInt ≤ y10.toInt from (by have t1 : 0 ≤ y10.toInt := b11; have t2 : x2.toInt = 0 := b17; omega)), (show y10.toInt ≤ x2.toInt from (by have t1 : 0 ≤ x2.toInt ∧ x2.toInt ≤ 1 := hzx2; have t2 : y10.toInt ≤ 0 := b12; omega)), (show (y10, t1_0) = (F_Wri_begin x2 t0_0 t1_0) from (by rw [e15, F_Wri_begin.eq_1, if_pos c16]))⟩) d_12_11_20
  ·
    have b18 : q_F (x2.toInt ≠ 0) := (q_neI c16)
    refine lv_aload_n hx hb d_12_11_11 rfl (lv_at hl 0 rfl) ?_
    refine q_get (ci := 9) (j := 0) (v := .ref (q 3)) C0 V i_Wri rfl rfl hO6 (by decide) w_329 rfl d_12_11_12 ?_
    refine lv_bipush (v := 45) hx hb d_12_11_15 (by decide) ?_
    have ob19 : True ∧ S_She_add (11008 : Int32) (1376 : Int32) (1000000 : Int32) (45 : Int32) y10 t1_0 := (by rw [e15]; have h := hS; rw [S_Wri_begin.eq_1] at h; rw [if_neg c16] at h; with_reducible exact h.2.1)
    refine q_gov V (q_runV (As := [.int 45]) (rest := []) (d := 1) (mc := 0) (ms := 0) (ci := 1) C0 V rfl LV_Wri_62 (X_She_add l D g q u7 3 11008 1376 1000000 (n_h3 g q) 45 hI y10 hO9 t1_0 hT1 ob19 _) rfl rfl hO9 rfl hl.1 rfl (Nat.le_of_ble_eq_true rfl) ⟨by decide, by decide⟩ ⟨Nat.le_of_ble_eq_true rfl, Nat.le_of_ble_eq_true rfl⟩ d_12_11_17) (fun u20 H locs hp21 V => ?_)
    obtain ⟨hI, hZ9⟩ := hp21
    obtain ⟨hu30, hZ9⟩ := hZ9
    obtain ⟨y23, hZ9⟩ := hZ9
    obtain ⟨f24, hZ9⟩ := hZ9
    obtain ⟨hO22, hZ9⟩ := hZ9
    obtain ⟨hA25, hZ9⟩ := hZ9
    obtain ⟨b26, hZ9⟩ := hZ9
    obtain ⟨b27, hZ9⟩ := hZ9
    obtain ⟨-, hE29⟩ := hZ9
    replace hO22 : u20[3]? = (some (q 3, .inr (1, [.ref (q 4), .int 11008, .int y23])) : Option (Nat × va_E)) := hO22
    replace hA25 : u20[4]? = (some (q 4, .inl (g 1, (1376 : Int32).toNatClampNeg, .inr (.inl f24))) : Option (Nat × va_E)) := hA25
    obtain ⟨p31, e32⟩ : ∃ z, z = (F_She_add (11008 : Int32) (1376 : Int32) (1000000 : Int32) (45 : Int32) y10 t1_0) := ⟨_, rfl⟩
    have e33 : y23 = p31.1 := congrArg (fun z => z.1) (hE29.trans e32.symm)
    have e34 : f24 = p31.2 := congrArg (fun z => z.2) (hE29.trans e32.symm)
    replace b26 : q_F (y10.toInt + 1 ≤ y23.toInt) := b26
    replace b27 : q_F (y23.toInt ≤ y10.toInt + 1) := b27
    replace hF := q_uc hF hu30 (by simp)
    have hR35 := (show F_Wri_begin_c17 x2 t0_0 t1_0 p31 = (F_Wri_begin x2 t0_0 t1_0) from (by rw [e32, e15, F_Wri_begin.eq_1, if_neg c16]))
    have hS36 := (show True ∧ S_Wri_begin_c17 x2 t0_0 t1_0 p31 from (by rw [e32, e15]; have h := hS; rw [S_Wri_begin.eq_1] at h; rw [if_neg c16] at h; replace h := q_s2 h; with_reducible exact h))
    exact q_retv C0 V (⟨hI, hF, y23, f24, hO22, hA25, (show x2.toInt ≤ y23.toInt from (by have t1 : 0 ≤ x2.toInt ∧ x2.toInt ≤ 1 := hzx2; have t2 : 0 ≤ y10.toInt := b11; have t3 : y10.toInt + 1 ≤ y23.toInt := b26; omega)), (show y23.toInt ≤ x2.toInt from (by have t1 : 0 ≤ x2.toInt ∧ x2.toInt ≤ 1 := hzx2; have t2 : y10.toInt ≤ 0 := b12; have t3 : x2.toInt ≠ 0 := b18; have t4 : y23.toInt ≤ y10.toInt + 1 := b27; omega)), (show (y23, f24) = (F_Wri_begin x2 t0_0 t1_0) from Eq.trans (by rw [e34, e33, F_Wri_begin_c17.eq_1]) hR35)⟩) d_12_11_20
theorem d_12_2_0 : decode prog_12_method_2_code 0 = .ok (.aload_n 0, 1) := by decide +kernel
theorem d_12_2_1 : decode prog_12_method_2_code 1 = .ok (.aload_n 1, 1) := by decide +kernel
theorem d_12_2_2 : decode prog_12_method_2_code 2 = .ok (.getfield 21, 3) := by decide +kernel
set_option maxRecDepth 100000 in
theorem w_93 : (Cond.fieldLink "NumberHouse$Writer" (21 : Nat) "NumberHouse$Big" "negative" "Z") ∈ q_tbl := q_of1 93 rfl (by decide +kernel)
theorem d_12_2_5 : decode prog_12_method_2_code 5 = .ok (.invokevirtual 27, 3) := by decide +kernel
set_option maxRecDepth 100000 in
theorem w_1544 : (Cond.code ({ cls := "NumberHouse$Writer", name := "begin", desc := "(Z)V" } : MethodName) prog_12_method_11_code (2 : Nat) (none : Option ClassFile.FieldType)) ∈ q_tbl := q_of7 104 rfl (by decide +kernel)
set_option maxRecDepth 100000 in
theorem w_1541 : (Cond.methodLink "NumberHouse$Writer" (27 : Nat) ({ cls := "NumberHouse$Writer", name := "begin", desc := "(Z)V" } : MethodName)) ∈ q_tbl := q_of7 101 rfl (by decide +kernel)
set_option maxRecDepth 100000 in
theorem w_1543 : (Cond.instanceMethod ({ cls := "NumberHouse$Writer", name := "begin", desc := "(Z)V" } : MethodName)) ∈ q_tbl := q_of7 103 rfl (by decide +kernel)
theorem ws_36 : Cond.selects "NumberHouse$Writer" (⟨"NumberHouse$Writer", "begin", "(Z)V"⟩ : MethodName) (⟨"NumberHouse$Writer", "begin", "(Z)V"⟩ : MethodName) ∈ q_tbl := q_ofs 36 (by decide +kernel) (by decide +kernel)
theorem LV_Wri_27 : q_LV "NumberHouse$Writer" 27 y_Wri_begin prog_12_method_11_code 2 none 1 := ⟨w_1544, w_11, w_1541, w_1543, ws_36, ⟨by decide, by decide, by decide +kernel⟩⟩
theorem d_12_2_8 : decode prog_12_method_2_code 8 = .ok (.aload_n 0, 1) := by decide +kernel
theorem d_12_2_9 : decode prog_12_method_2_code 9 = .ok (.getfield 7, 3) := by decide +kernel
theorem d_12_2_12 : decode prog_12_method_2_code 12 = .ok (.getfield 31, 3) := by decide +kernel
set_option maxRecDepth 100000 in
theorem w_55 : (Cond.fieldLink "NumberHouse$Writer" (31 : Nat) "NumberHouse$Sheet" "size" "I") ∈ q_tbl := q_of1 55 rfl (by decide +kernel)
theorem d_12_2_15 : decode prog_12_method_2_code 15 = .ok (.istore_n 3, 1) := by decide +kernel
theorem d_12_2_16 : decode prog_12_method_2_code 16 = .ok (.iconst 1, 1) := by decide +kernel
theorem d_12_2_17 : decode prog_12_method_2_code 17 = .ok (.istore 4, 2) := by decide +kernel
theorem d_12_2_19 : decode prog_12_method_2_code 19 = .ok (.iload_n 2, 1) := by decide +kernel
theorem d_12_2_20 : decode prog_12_method_2_code 20 = .ok (.istore 5, 2) := by decide +kernel
theorem d_12_2_22 : decode prog_12_method_2_code 22 = .ok (.iload 4, 2) := by decide +kernel
theorem d_12_2_24 : decode prog_12_method_2_code 24 = .ok (.bipush 31, 2) := by decide +kernel
theorem d_12_2_54 : decode prog_12_method_2_code 54 = .ok (.aload_n 0, 1) := by decide +kernel
theorem d_12_2_55 : decode prog_12_method_2_code 55 = .ok (.getfield 13, 3) := by decide +kernel
theorem d_12_2_58 : decode prog_12_method_2_code 58 = .ok (.getfield 39, 3) := by decide +kernel
set_option maxRecDepth 100000 in
theorem w_110 : (Cond.fieldLink "NumberHouse$Writer" (39 : Nat) "NumberHouse$Mill" "number" "LNumberHouse$Big;") ∈ q_tbl := q_of1 110 rfl (by decide +kernel)
theorem d_12_2_61 : decode prog_12_method_2_code 61 = .ok (.aload_n 1, 1) := by decide +kernel
theorem d_12_2_62 : decode prog_12_method_2_code 62 = .ok (.invokevirtual 45, 3) := by decide +kernel
set_option maxRecDepth 100000 in
theorem w_1548 : (Cond.methodLink "NumberHouse$Writer" (45 : Nat) ({ cls := "NumberHouse$Big", name := "copy", desc := "(LNumberHouse$Big;)V" } : MethodName)) ∈ q_tbl := q_of7 108 rfl (by decide +kernel)
theorem LV_Wri_45 : q_LV "NumberHouse$Writer" 45 y_Big_copy prog_2_method_4_code 2 none 1 := ⟨w_790, w_4, w_1548, w_788, w_789, ⟨by decide, by decide, by decide +kernel⟩⟩
theorem d_12_2_65 : decode prog_12_method_2_code 65 = .ok (.iconst 0, 1) := by decide +kernel
theorem d_12_2_66 : decode prog_12_method_2_code 66 = .ok (.istore 6, 2) := by decide +kernel
theorem d_12_2_68 : decode prog_12_method_2_code 68 = .ok (.iload 6, 2) := by decide +kernel
theorem d_12_2_70 : decode prog_12_method_2_code 70 = .ok (.sipush 2100, 3) := by decide +kernel
theorem d_12_2_165 : decode prog_12_method_2_code 165 = .ok (.aload_n 0, 1) := by decide +kernel
theorem d_12_2_166 : decode prog_12_method_2_code 166 = .ok (.getfield 7, 3) := by decide +kernel
theorem d_12_2_169 : decode prog_12_method_2_code 169 = .ok (.getfield 31, 3) := by decide +kernel
theorem d_12_2_172 : decode prog_12_method_2_code 172 = .ok (.iload_n 3, 1) := by decide +kernel
theorem d_12_2_173 : decode prog_12_method_2_code 173 = .ok (.if_icmp .ne 12, 3) := by decide +kernel
theorem d_12_2_185 : decode prog_12_method_2_code 185 = .ok (.aload_n 0, 1) := by decide +kernel
theorem d_12_2_186 : decode prog_12_method_2_code 186 = .ok (.getfield 7, 3) := by decide +kernel
theorem d_12_2_189 : decode prog_12_method_2_code 189 = .ok (.iload_n 3, 1) := by decide +kernel
theorem d_12_2_190 : decode prog_12_method_2_code 190 = .ok (.invokevirtual 66, 3) := by decide +kernel
set_option maxRecDepth 100000 in
theorem w_1555 : (Cond.code ({ cls := "NumberHouse$Sheet", name := "turn", desc := "(I)V" } : MethodName) prog_11_method_7_code (5 : Nat) (none : Option ClassFile.FieldType)) ∈ q_tbl := q_of7 115 rfl (by decide +kernel)
set_option maxRecDepth 100000 in
theorem w_1552 : (Cond.methodLink "NumberHouse$Writer" (66 : Nat) ({ cls := "NumberHouse$Sheet", name := "turn", desc := "(I)V" } : MethodName)) ∈ q_tbl := q_of7 112 rfl (by decide +kernel)
set_option maxRecDepth 100000 in
theorem w_1553 : (Cond.instanceMethod ({ cls := "NumberHouse$Sheet", name := "turn", desc := "(I)V" } : MethodName)) ∈ q_tbl := q_of7 113 rfl (by decide +kernel)
set_option maxRecDepth 100000 in
theorem w_1554 : (Cond.selects "NumberHouse$Sheet" ({ cls := "NumberHouse$Sheet", name := "turn", desc := "(I)V" } : MethodName) ({ cls := "NumberHouse$Sheet", name := "turn", desc := "(I)V" } : MethodName)) ∈ q_tbl := q_of7 114 rfl (by decide +kernel)
theorem LV_Wri_66 : q_LV "NumberHouse$Writer" 66 y_She_turn prog_11_method_7_code 5 none 1 := ⟨w_1555, w_2, w_1552, w_1553, w_1554, ⟨by decide, by decide, by decide +kernel⟩⟩
theorem d_12_2_193 : decode prog_12_method_2_code 193 = .ok (.return_, 1) := by decide +kernel
theorem d_12_2_176 : decode prog_12_method_2_code 176 = .ok (.aload_n 0, 1) := by decide +kernel
theorem d_12_2_177 : decode prog_12_method_2_code 177 = .ok (.getfield 7, 3) := by decide +kernel
theorem d_12_2_180 : decode prog_12_method_2_code 180 = .ok (.bipush 48, 2) := by decide +kernel
theorem d_12_2_182 : decode prog_12_method_2_code 182 = .ok (.invokevirtual 62, 3) := by decide +kernel
theorem d_12_2_73 : decode prog_12_method_2_code 73 = .ok (.if_icmp .ge 92, 3) := by decide +kernel
theorem d_12_2_76 : decode prog_12_method_2_code 76 = .ok (.aload_n 0, 1) := by decide +kernel
theorem d_12_2_77 : decode prog_12_method_2_code 77 = .ok (.getfield 13, 3) := by decide +kernel
theorem d_12_2_80 : decode prog_12_method_2_code 80 = .ok (.getfield 39, 3) := by decide +kernel
theorem d_12_2_83 : decode prog_12_method_2_code 83 = .ok (.getfield 49, 3) := by decide +kernel
set_option maxRecDepth 100000 in
theorem w_87 : (Cond.fieldLink "NumberHouse$Writer" (49 : Nat) "NumberHouse$Big" "size" "I") ∈ q_tbl := q_of1 87 rfl (by decide +kernel)
theorem d_12_2_86 : decode prog_12_method_2_code 86 = .ok (.ifCond .le 79, 3) := by decide +kernel
theorem d_12_2_89 : decode prog_12_method_2_code 89 = .ok (.aload_n 0, 1) := by decide +kernel
theorem d_12_2_90 : decode prog_12_method_2_code 90 = .ok (.getfield 13, 3) := by decide +kernel
theorem d_12_2_93 : decode prog_12_method_2_code 93 = .ok (.getfield 39, 3) := by decide +kernel
theorem d_12_2_96 : decode prog_12_method_2_code 96 = .ok (.iload 5, 2) := by decide +kernel
theorem d_12_2_98 : decode prog_12_method_2_code 98 = .ok (.invokevirtual 50, 3) := by decide +kernel
set_option maxRecDepth 100000 in
theorem w_1549 : (Cond.methodLink "NumberHouse$Writer" (50 : Nat) ({ cls := "NumberHouse$Big", name := "divideSmall", desc := "(I)I" } : MethodName)) ∈ q_tbl := q_of7 109 rfl (by decide +kernel)
theorem LV_Wri_50 : q_LV "NumberHouse$Writer" 50 y_Big_divideSmall prog_2_method_27_code 8 (some .int) 1 := ⟨w_1042, w_4, w_1549, w_1040, w_1041, ⟨by decide, by decide, by decide +kernel⟩⟩
theorem d_12_2_101 : decode prog_12_method_2_code 101 = .ok (.istore 7, 2) := by decide +kernel
theorem d_12_2_103 : decode prog_12_method_2_code 103 = .ok (.iconst 0, 1) := by decide +kernel
theorem d_12_2_104 : decode prog_12_method_2_code 104 = .ok (.istore 8, 2) := by decide +kernel
theorem d_12_2_106 : decode prog_12_method_2_code 106 = .ok (.iload 8, 2) := by decide +kernel
theorem d_12_2_108 : decode prog_12_method_2_code 108 = .ok (.iload 4, 2) := by decide +kernel
theorem d_12_2_110 : decode prog_12_method_2_code 110 = .ok (.if_icmp .ge 49, 3) := by decide +kernel
theorem d_12_2_159 : decode prog_12_method_2_code 159 = .ok (.iinc 6 1, 3) := by decide +kernel
theorem d_12_2_162 : decode prog_12_method_2_code 162 = .ok (.goto (-94), 3) := by decide +kernel
theorem d_12_2_113 : decode prog_12_method_2_code 113 = .ok (.iload 7, 2) := by decide +kernel
theorem d_12_2_131 : decode prog_12_method_2_code 131 = .ok (.aload_n 0, 1) := by decide +kernel
theorem d_12_2_132 : decode prog_12_method_2_code 132 = .ok (.getfield 7, 3) := by decide +kernel
theorem d_12_2_135 : decode prog_12_method_2_code 135 = .ok (.ldc 54, 2) := by decide +kernel
theorem d_12_2_137 : decode prog_12_method_2_code 137 = .ok (.iload 7, 2) := by decide +kernel
theorem d_12_2_139 : decode prog_12_method_2_code 139 = .ok (.iload_n 2, 1) := by decide +kernel
theorem d_12_2_140 : decode prog_12_method_2_code 140 = .ok (.irem, 1) := by decide +kernel
theorem d_12_2_141 : decode prog_12_method_2_code 141 = .ok (.invokevirtual 56, 3) := by decide +kernel
set_option maxRecDepth 100000 in
theorem w_1551 : (Cond.methodLink "NumberHouse$Writer" (56 : Nat) ({ cls := "java/lang/String", name := "charAt", desc := "(I)C" } : MethodName)) ∈ q_tbl := q_of7 111 rfl (by decide +kernel)
theorem LV_Wri_56 : q_LV "NumberHouse$Writer" 56 y_jStr_charAt prog_31_method_56_code 2 (some .char) 1 := ⟨w_668, w_25, w_1551, w_666, w_667, ⟨by decide, by decide, by decide +kernel⟩⟩
theorem d_12_2_144 : decode prog_12_method_2_code 144 = .ok (.invokevirtual 62, 3) := by decide +kernel
theorem d_12_2_147 : decode prog_12_method_2_code 147 = .ok (.iload 7, 2) := by decide +kernel
theorem d_12_2_149 : decode prog_12_method_2_code 149 = .ok (.iload_n 2, 1) := by decide +kernel
theorem d_12_2_150 : decode prog_12_method_2_code 150 = .ok (.idiv, 1) := by decide +kernel
theorem d_12_2_151 : decode prog_12_method_2_code 151 = .ok (.istore 7, 2) := by decide +kernel
theorem d_12_2_153 : decode prog_12_method_2_code 153 = .ok (.iinc 8 1, 3) := by decide +kernel
theorem d_12_2_156 : decode prog_12_method_2_code 156 = .ok (.goto (-50), 3) := by decide +kernel
theorem d_12_2_115 : decode prog_12_method_2_code 115 = .ok (.ifCond .gt 16, 3) := by decide +kernel
theorem d_12_2_118 : decode prog_12_method_2_code 118 = .ok (.aload_n 0, 1) := by decide +kernel
theorem d_12_2_119 : decode prog_12_method_2_code 119 = .ok (.getfield 13, 3) := by decide +kernel
theorem d_12_2_122 : decode prog_12_method_2_code 122 = .ok (.getfield 39, 3) := by decide +kernel
theorem d_12_2_125 : decode prog_12_method_2_code 125 = .ok (.getfield 49, 3) := by decide +kernel
theorem d_12_2_128 : decode prog_12_method_2_code 128 = .ok (.ifCond .le 31, 3) := by decide +kernel
theorem d_12_2_26 : decode prog_12_method_2_code 26 = .ok (.if_icmp .ge 28, 3) := by decide +kernel
theorem d_12_2_29 : decode prog_12_method_2_code 29 = .ok (.iload 5, 2) := by decide +kernel
theorem d_12_2_31 : decode prog_12_method_2_code 31 = .ok (.i2l, 1) := by decide +kernel
theorem d_12_2_32 : decode prog_12_method_2_code 32 = .ok (.iload_n 2, 1) := by decide +kernel
theorem d_12_2_33 : decode prog_12_method_2_code 33 = .ok (.i2l, 1) := by decide +kernel
theorem d_12_2_34 : decode prog_12_method_2_code 34 = .ok (.lmul, 1) := by decide +kernel
theorem d_12_2_35 : decode prog_12_method_2_code 35 = .ok (.ldc2_w 37, 3) := by decide +kernel
set_option maxRecDepth 100000 in
theorem w_1547 : (Cond.constantLong "NumberHouse$Writer" (37 : Nat) (2147483647 : Int64)) ∈ q_tbl := q_of7 107 rfl (by decide +kernel)
theorem d_12_2_38 : decode prog_12_method_2_code 38 = .ok (.lcmp, 1) := by decide +kernel
theorem d_12_2_39 : decode prog_12_method_2_code 39 = .ok (.ifCond .gt 15, 3) := by decide +kernel
theorem d_12_2_42 : decode prog_12_method_2_code 42 = .ok (.iload 5, 2) := by decide +kernel
theorem d_12_2_44 : decode prog_12_method_2_code 44 = .ok (.iload_n 2, 1) := by decide +kernel
theorem d_12_2_45 : decode prog_12_method_2_code 45 = .ok (.imul, 1) := by decide +kernel
theorem d_12_2_46 : decode prog_12_method_2_code 46 = .ok (.istore 5, 2) := by decide +kernel
theorem d_12_2_48 : decode prog_12_method_2_code 48 = .ok (.iinc 4 1, 3) := by decide +kernel
theorem d_12_2_51 : decode prog_12_method_2_code 51 = .ok (.goto (-29), 3) := by decide +kernel
def y_Wri_wholeText : MethodName := ⟨"NumberHouse$Writer", "wholeText", "(LNumberHouse$Big;I)V"⟩
def F_Wri_wholeText_c182 (K_F_Wri_wholeText_L22 : Int32 → Int32 → (Int32 × (Nat → Int64) × Int32 × Int32 × (Nat → Int32))) (K_F_Wri_wholeText_L68 : Int32 → Int32 → Int32 → (Nat → Int32) → Int32 → (Nat → Int64) → (Int32 × (Nat → Int64) × Int32 × Int32 × (Nat → Int32))) (R : Int32) (x3 : Int32) (t0_0 : Int32) (t1_0 : (Nat → Int64)) (t2_0 : Int32) (t2_1 : Int32) (t3_0 : (Nat → Int32)) (t4_0 : Int32) (t4_1 : Int32) (t5_0 : (Nat → Int32)) (p34 : (Int32 × (Nat → Int64))) (y27 : Int32) (f28 : (Nat → Int64)) (lx45 : Int32) (lx46 : Int32) (p82 : (Int32 × Int32 × (Nat → Int32))) (lx93 : Int32) (lx94 : Int32) (lx95 : Int32) (lx96 : (Nat → Int32)) (lx97 : Int32) (lx98 : (Nat → Int64)) (p156 : (Int32 × (Nat → Int64))) : Int32 × (Nat → Int64) × Int32 × Int32 × (Nat → Int32) := ((p156.1 : Int32), ((F_She_turn (11008 : Int32) (1376 : Int32) (1000000 : Int32) y27 (p156.1 : Int32) (p156.2 : (Nat → Int64))) : (Nat → Int64)), lx94, lx95, lx96)
def F_Wri_wholeText_J165 (K_F_Wri_wholeText_L22 : Int32 → Int32 → (Int32 × (Nat → Int64) × Int32 × Int32 × (Nat → Int32))) (K_F_Wri_wholeText_L68 : Int32 → Int32 → Int32 → (Nat → Int32) → Int32 → (Nat → Int64) → (Int32 × (Nat → Int64) × Int32 × Int32 × (Nat → Int32))) (R : Int32) (x3 : Int32) (t0_0 : Int32) (t1_0 : (Nat → Int64)) (t2_0 : Int32) (t2_1 : Int32) (t3_0 : (Nat → Int32)) (t4_0 : Int32) (t4_1 : Int32) (t5_0 : (Nat → Int32)) (p34 : (Int32 × (Nat → Int64))) (y27 : Int32) (f28 : (Nat → Int64)) (lx45 : Int32) (lx46 : Int32) (p82 : (Int32 × Int32 × (Nat → Int32))) (lx93 : Int32) (lx94 : Int32) (lx95 : Int32) (lx96 : (Nat → Int32)) (lx97 : Int32) (lx98 : (Nat → Int64)) : Int32 × (Nat → Int64) × Int32 × Int32 × (Nat → Int32) := if lx97 = y27 then (F_Wri_wholeText_c182 K_F_Wri_wholeText_L22 K_F_Wri_wholeText_L68 R x3 t0_0 t1_0 t2_0 t2_1 t3_0 t4_0 t4_1 t5_0 p34 y27 f28 lx45 lx46 p82 lx93 lx94 lx95 lx96 lx97 lx98 ((F_She_add (11008 : Int32) (1376 : Int32) (1000000 : Int32) (48 : Int32) lx97 lx98) : (Int32 × (Nat → Int64)))) else ((lx97, ((F_She_turn (11008 : Int32) (1376 : Int32) (1000000 : Int32) y27 lx97 lx98) : (Nat → Int64)), lx94, lx95, lx96))
def F_Wri_wholeText_c144 (K_F_Wri_wholeText_L22 : Int32 → Int32 → (Int32 × (Nat → Int64) × Int32 × Int32 × (Nat → Int32))) (K_F_Wri_wholeText_L68 : Int32 → Int32 → Int32 → (Nat → Int32) → Int32 → (Nat → Int64) → (Int32 × (Nat → Int64) × Int32 × Int32 × (Nat → Int32))) (K_F_Wri_wholeText_L106 : Int32 → Int32 → Int32 → (Nat → Int64) → (Int32 × (Nat → Int64) × Int32 × Int32 × (Nat → Int32))) (R : Int32) (x3 : Int32) (t0_0 : Int32) (t1_0 : (Nat → Int64)) (t2_0 : Int32) (t2_1 : Int32) (t3_0 : (Nat → Int32)) (t4_0 : Int32) (t4_1 : Int32) (t5_0 : (Nat → Int32)) (p34 : (Int32 × (Nat → Int64))) (y27 : Int32) (f28 : (Nat → Int64)) (lx45 : Int32) (lx46 : Int32) (p82 : (Int32 × Int32 × (Nat → Int32))) (lx93 : Int32) (lx94 : Int32) (lx95 : Int32) (lx96 : (Nat → Int32)) (lx97 : Int32) (lx98 : (Nat → Int64)) (p195 : (Int32 × Int32 × Int32 × (Nat → Int32))) (y185 : Int32) (y186 : Int32) (f187 : (Nat → Int32)) (lx208 : Int32) (lx209 : Int32) (lx210 : Int32) (lx211 : (Nat → Int64)) (p272 : (Int32 × (Nat → Int64))) : Int32 × (Nat → Int64) × Int32 × Int32 × (Nat → Int32) := K_F_Wri_wholeText_L106 (lx208 + 1 : Int32) (lx209 / x3 : Int32) (p272.1 : Int32) (p272.2 : (Nat → Int64))
def F_Wri_wholeText_J131 (K_F_Wri_wholeText_L22 : Int32 → Int32 → (Int32 × (Nat → Int64) × Int32 × Int32 × (Nat → Int32))) (K_F_Wri_wholeText_L68 : Int32 → Int32 → Int32 → (Nat → Int32) → Int32 → (Nat → Int64) → (Int32 × (Nat → Int64) × Int32 × Int32 × (Nat → Int32))) (K_F_Wri_wholeText_L106 : Int32 → Int32 → Int32 → (Nat → Int64) → (Int32 × (Nat → Int64) × Int32 × Int32 × (Nat → Int32))) (R : Int32) (x3 : Int32) (t0_0 : Int32) (t1_0 : (Nat → Int64)) (t2_0 : Int32) (t2_1 : Int32) (t3_0 : (Nat → Int32)) (t4_0 : Int32) (t4_1 : Int32) (t5_0 : (Nat → Int32)) (p34 : (Int32 × (Nat → Int64))) (y27 : Int32) (f28 : (Nat → Int64)) (lx45 : Int32) (lx46 : Int32) (p82 : (Int32 × Int32 × (Nat → Int32))) (lx93 : Int32) (lx94 : Int32) (lx95 : Int32) (lx96 : (Nat → Int32)) (lx97 : Int32) (lx98 : (Nat → Int64)) (p195 : (Int32 × Int32 × Int32 × (Nat → Int32))) (y185 : Int32) (y186 : Int32) (f187 : (Nat → Int32)) (lx208 : Int32) (lx209 : Int32) (lx210 : Int32) (lx211 : (Nat → Int64)) : Int32 × (Nat → Int64) × Int32 × Int32 × (Nat → Int32) := F_Wri_wholeText_c144 K_F_Wri_wholeText_L22 K_F_Wri_wholeText_L68 K_F_Wri_wholeText_L106 R x3 t0_0 t1_0 t2_0 t2_1 t3_0 t4_0 t4_1 t5_0 p34 y27 f28 lx45 lx46 p82 lx93 lx94 lx95 lx96 lx97 lx98 p195 y185 y186 f187 lx208 lx209 lx210 lx211 ((F_She_add (11008 : Int32) (1376 : Int32) (1000000 : Int32) ((F_jStr_charAt_22 (lx209 - lx209 / x3 * x3 : Int32)) : Int32) lx210 lx211) : (Int32 × (Nat → Int64)))
def F_Wri_wholeText_L106 (K_F_Wri_wholeText_L22 : Int32 → Int32 → (Int32 × (Nat → Int64) × Int32 × Int32 × (Nat → Int32))) (K_F_Wri_wholeText_L68 : Int32 → Int32 → Int32 → (Nat → Int32) → Int32 → (Nat → Int64) → (Int32 × (Nat → Int64) × Int32 × Int32 × (Nat → Int32))) (R : Int32) (x3 : Int32) (t0_0 : Int32) (t1_0 : (Nat → Int64)) (t2_0 : Int32) (t2_1 : Int32) (t3_0 : (Nat → Int32)) (t4_0 : Int32) (t4_1 : Int32) (t5_0 : (Nat → Int32)) (p34 : (Int32 × (Nat → Int64))) (y27 : Int32) (f28 : (Nat → Int64)) (lx45 : Int32) (lx46 : Int32) (p82 : (Int32 × Int32 × (Nat → Int32))) (lx93 : Int32) (lx94 : Int32) (lx95 : Int32) (lx96 : (Nat → Int32)) (lx97 : Int32) (lx98 : (Nat → Int64)) (p195 : (Int32 × Int32 × Int32 × (Nat → Int32))) (y185 : Int32) (y186 : Int32) (f187 : (Nat → Int32)) : Nat → Int32 → Int32 → Int32 → (Nat → Int64) → (Int32 × (Nat → Int64) × Int32 × Int32 × (Nat → Int32))
  | 0, _, _, _, _ => default
  | fm + 1, lx208, lx209, lx210, lx211 => if lx46 ≤ lx208 then (K_F_Wri_wholeText_L68 (lx93 + 1 : Int32) y185 y186 f187 lx210 lx211) else (if (0 : Int32) < lx209 then (F_Wri_wholeText_J131 K_F_Wri_wholeText_L22 K_F_Wri_wholeText_L68 (F_Wri_wholeText_L106 K_F_Wri_wholeText_L22 K_F_Wri_wholeText_L68 R x3 t0_0 t1_0 t2_0 t2_1 t3_0 t4_0 t4_1 t5_0 p34 y27 f28 lx45 lx46 p82 lx93 lx94 lx95 lx96 lx97 lx98 p195 y185 y186 f187 fm) R x3 t0_0 t1_0 t2_0 t2_1 t3_0 t4_0 t4_1 t5_0 p34 y27 f28 lx45 lx46 p82 lx93 lx94 lx95 lx96 lx97 lx98 p195 y185 y186 f187 lx208 lx209 lx210 lx211) else (if y185 ≤ (0 : Int32) then (K_F_Wri_wholeText_L68 (lx93 + 1 : Int32) y185 y186 f187 lx210 lx211) else (F_Wri_wholeText_J131 K_F_Wri_wholeText_L22 K_F_Wri_wholeText_L68 (F_Wri_wholeText_L106 K_F_Wri_wholeText_L22 K_F_Wri_wholeText_L68 R x3 t0_0 t1_0 t2_0 t2_1 t3_0 t4_0 t4_1 t5_0 p34 y27 f28 lx45 lx46 p82 lx93 lx94 lx95 lx96 lx97 lx98 p195 y185 y186 f187 fm) R x3 t0_0 t1_0 t2_0 t2_1 t3_0 t4_0 t4_1 t5_0 p34 y27 f28 lx45 lx46 p82 lx93 lx94 lx95 lx96 lx97 lx98 p195 y185 y186 f187 lx208 lx209 lx210 lx211)))
def F_Wri_wholeText_c98 (K_F_Wri_wholeText_L22 : Int32 → Int32 → (Int32 × (Nat → Int64) × Int32 × Int32 × (Nat → Int32))) (K_F_Wri_wholeText_L68 : Int32 → Int32 → Int32 → (Nat → Int32) → Int32 → (Nat → Int64) → (Int32 × (Nat → Int64) × Int32 × Int32 × (Nat → Int32))) (R : Int32) (x3 : Int32) (t0_0 : Int32) (t1_0 : (Nat → Int64)) (t2_0 : Int32) (t2_1 : Int32) (t3_0 : (Nat → Int32)) (t4_0 : Int32) (t4_1 : Int32) (t5_0 : (Nat → Int32)) (p34 : (Int32 × (Nat → Int64))) (y27 : Int32) (f28 : (Nat → Int64)) (lx45 : Int32) (lx46 : Int32) (p82 : (Int32 × Int32 × (Nat → Int32))) (lx93 : Int32) (lx94 : Int32) (lx95 : Int32) (lx96 : (Nat → Int32)) (lx97 : Int32) (lx98 : (Nat → Int64)) (p195 : (Int32 × Int32 × Int32 × (Nat → Int32))) : Int32 × (Nat → Int64) × Int32 × Int32 × (Nat → Int32) := F_Wri_wholeText_L106 K_F_Wri_wholeText_L22 K_F_Wri_wholeText_L68 R x3 t0_0 t1_0 t2_0 t2_1 t3_0 t4_0 t4_1 t5_0 p34 y27 f28 lx45 lx46 p82 lx93 lx94 lx95 lx96 lx97 lx98 p195 (p195.2.1 : Int32) (p195.2.2.1 : Int32) (p195.2.2.2 : (Nat → Int32)) ((31 - (0 : Int32).toInt).toNat + 1) 0 (p195.1 : Int32) lx97 lx98
def F_Wri_wholeText_L68 (K_F_Wri_wholeText_L22 : Int32 → Int32 → (Int32 × (Nat → Int64) × Int32 × Int32 × (Nat → Int32))) (R : Int32) (x3 : Int32) (t0_0 : Int32) (t1_0 : (Nat → Int64)) (t2_0 : Int32) (t2_1 : Int32) (t3_0 : (Nat → Int32)) (t4_0 : Int32) (t4_1 : Int32) (t5_0 : (Nat → Int32)) (p34 : (Int32 × (Nat → Int64))) (y27 : Int32) (f28 : (Nat → Int64)) (lx45 : Int32) (lx46 : Int32) (p82 : (Int32 × Int32 × (Nat → Int32))) : Nat → Int32 → Int32 → Int32 → (Nat → Int32) → Int32 → (Nat → Int64) → (Int32 × (Nat → Int64) × Int32 × Int32 × (Nat → Int32))
  | 0, _, _, _, _, _, _ => default
  | fm + 1, lx93, lx94, lx95, lx96, lx97, lx98 => if (2100 : Int32) ≤ lx93 then (F_Wri_wholeText_J165 K_F_Wri_wholeText_L22 (F_Wri_wholeText_L68 K_F_Wri_wholeText_L22 R x3 t0_0 t1_0 t2_0 t2_1 t3_0 t4_0 t4_1 t5_0 p34 y27 f28 lx45 lx46 p82 fm) R x3 t0_0 t1_0 t2_0 t2_1 t3_0 t4_0 t4_1 t5_0 p34 y27 f28 lx45 lx46 p82 lx93 lx94 lx95 lx96 lx97 lx98) else (if lx94 ≤ (0 : Int32) then (F_Wri_wholeText_J165 K_F_Wri_wholeText_L22 (F_Wri_wholeText_L68 K_F_Wri_wholeText_L22 R x3 t0_0 t1_0 t2_0 t2_1 t3_0 t4_0 t4_1 t5_0 p34 y27 f28 lx45 lx46 p82 fm) R x3 t0_0 t1_0 t2_0 t2_1 t3_0 t4_0 t4_1 t5_0 p34 y27 f28 lx45 lx46 p82 lx93 lx94 lx95 lx96 lx97 lx98) else (F_Wri_wholeText_c98 K_F_Wri_wholeText_L22 (F_Wri_wholeText_L68 K_F_Wri_wholeText_L22 R x3 t0_0 t1_0 t2_0 t2_1 t3_0 t4_0 t4_1 t5_0 p34 y27 f28 lx45 lx46 p82 fm) R x3 t0_0 t1_0 t2_0 t2_1 t3_0 t4_0 t4_1 t5_0 p34 y27 f28 lx45 lx46 p82 lx93 lx94 lx95 lx96 lx97 lx98 ((F_Big_divideSmall (220 : Int32) lx45 lx94 lx95 lx96) : (Int32 × Int32 × Int32 × (Nat → Int32)))))
def F_Wri_wholeText_c62 (K_F_Wri_wholeText_L22 : Int32 → Int32 → (Int32 × (Nat → Int64) × Int32 × Int32 × (Nat → Int32))) (R : Int32) (x3 : Int32) (t0_0 : Int32) (t1_0 : (Nat → Int64)) (t2_0 : Int32) (t2_1 : Int32) (t3_0 : (Nat → Int32)) (t4_0 : Int32) (t4_1 : Int32) (t5_0 : (Nat → Int32)) (p34 : (Int32 × (Nat → Int64))) (y27 : Int32) (f28 : (Nat → Int64)) (lx45 : Int32) (lx46 : Int32) (p82 : (Int32 × Int32 × (Nat → Int32))) : Int32 × (Nat → Int64) × Int32 × Int32 × (Nat → Int32) := F_Wri_wholeText_L68 K_F_Wri_wholeText_L22 R x3 t0_0 t1_0 t2_0 t2_1 t3_0 t4_0 t4_1 t5_0 p34 y27 f28 lx45 lx46 p82 ((2100 - (0 : Int32).toInt).toNat + 1) 0 (p82.1 : Int32) (p82.2.1 : Int32) (p82.2.2 : (Nat → Int32)) y27 f28
def F_Wri_wholeText_J54 (K_F_Wri_wholeText_L22 : Int32 → Int32 → (Int32 × (Nat → Int64) × Int32 × Int32 × (Nat → Int32))) (R : Int32) (x3 : Int32) (t0_0 : Int32) (t1_0 : (Nat → Int64)) (t2_0 : Int32) (t2_1 : Int32) (t3_0 : (Nat → Int32)) (t4_0 : Int32) (t4_1 : Int32) (t5_0 : (Nat → Int32)) (p34 : (Int32 × (Nat → Int64))) (y27 : Int32) (f28 : (Nat → Int64)) (lx45 : Int32) (lx46 : Int32) : Int32 × (Nat → Int64) × Int32 × Int32 × (Nat → Int32) := F_Wri_wholeText_c62 K_F_Wri_wholeText_L22 R x3 t0_0 t1_0 t2_0 t2_1 t3_0 t4_0 t4_1 t5_0 p34 y27 f28 lx45 lx46 ((F_Big_copy (220 : Int32) R t2_0 t2_1 t3_0 t4_0 t4_1 t5_0) : (Int32 × Int32 × (Nat → Int32)))
def F_Wri_wholeText_L22 (R : Int32) (x3 : Int32) (t0_0 : Int32) (t1_0 : (Nat → Int64)) (t2_0 : Int32) (t2_1 : Int32) (t3_0 : (Nat → Int32)) (t4_0 : Int32) (t4_1 : Int32) (t5_0 : (Nat → Int32)) (p34 : (Int32 × (Nat → Int64))) (y27 : Int32) (f28 : (Nat → Int64)) : Nat → Int32 → Int32 → (Int32 × (Nat → Int64) × Int32 × Int32 × (Nat → Int32))
  | 0, _, _ => default
  | fm + 1, lx45, lx46 => if (31 : Int32) ≤ lx46 then (F_Wri_wholeText_J54 (F_Wri_wholeText_L22 R x3 t0_0 t1_0 t2_0 t2_1 t3_0 t4_0 t4_1 t5_0 p34 y27 f28 fm) R x3 t0_0 t1_0 t2_0 t2_1 t3_0 t4_0 t4_1 t5_0 p34 y27 f28 lx45 lx46) else (if (0 : Int32) < (lg_cmp ((lx45.toInt64 : Int64) * (x3.toInt64 : Int64) : Int64) 2147483647 : Int32) then (F_Wri_wholeText_J54 (F_Wri_wholeText_L22 R x3 t0_0 t1_0 t2_0 t2_1 t3_0 t4_0 t4_1 t5_0 p34 y27 f28 fm) R x3 t0_0 t1_0 t2_0 t2_1 t3_0 t4_0 t4_1 t5_0 p34 y27 f28 lx45 lx46) else (F_Wri_wholeText_L22 R x3 t0_0 t1_0 t2_0 t2_1 t3_0 t4_0 t4_1 t5_0 p34 y27 f28 fm (lx45 * x3 : Int32) (lx46 + 1 : Int32)))
def F_Wri_wholeText_c5 (R : Int32) (x3 : Int32) (t0_0 : Int32) (t1_0 : (Nat → Int64)) (t2_0 : Int32) (t2_1 : Int32) (t3_0 : (Nat → Int32)) (t4_0 : Int32) (t4_1 : Int32) (t5_0 : (Nat → Int32)) (p34 : (Int32 × (Nat → Int64))) : Int32 × (Nat → Int64) × Int32 × Int32 × (Nat → Int32) := F_Wri_wholeText_L22 R x3 t0_0 t1_0 t2_0 t2_1 t3_0 t4_0 t4_1 t5_0 p34 (p34.1 : Int32) (p34.2 : (Nat → Int64)) ((31 - (1 : Int32).toInt).toNat + 1) x3 1
def F_Wri_wholeText (R : Int32) (x3 : Int32) (t0_0 : Int32) (t1_0 : (Nat → Int64)) (t2_0 : Int32) (t2_1 : Int32) (t3_0 : (Nat → Int32)) (t4_0 : Int32) (t4_1 : Int32) (t5_0 : (Nat → Int32)) : Int32 × (Nat → Int64) × Int32 × Int32 × (Nat → Int32) := F_Wri_wholeText_c5 R x3 t0_0 t1_0 t2_0 t2_1 t3_0 t4_0 t4_1 t5_0 ((F_Wri_begin t4_1 t0_0 t1_0) : (Int32 × (Nat → Int64)))
def S_Wri_wholeText_c182 (K_S_Wri_wholeText_L22 : Int32 → Int32 → Prop) (K_S_Wri_wholeText_L68 : Int32 → Int32 → Int32 → (Nat → Int32) → Int32 → (Nat → Int64) → Prop) (R : Int32) (x3 : Int32) (t0_0 : Int32) (t1_0 : (Nat → Int64)) (t2_0 : Int32) (t2_1 : Int32) (t3_0 : (Nat → Int32)) (t4_0 : Int32) (t4_1 : Int32) (t5_0 : (Nat → Int32)) (p34 : (Int32 × (Nat → Int64))) (y27 : Int32) (f28 : (Nat → Int64)) (lx45 : Int32) (lx46 : Int32) (p82 : (Int32 × Int32 × (Nat → Int32))) (lx93 : Int32) (lx94 : Int32) (lx95 : Int32) (lx96 : (Nat → Int32)) (lx97 : Int32) (lx98 : (Nat → Int64)) (p156 : (Int32 × (Nat → Int64))) : Prop := (True ∧ S_She_turn (11008 : Int32) (1376 : Int32) (1000000 : Int32) y27 (p156.1 : Int32) (p156.2 : (Nat → Int64))) ∧ (True)
def S_Wri_wholeText_J165 (K_S_Wri_wholeText_L22 : Int32 → Int32 → Prop) (K_S_Wri_wholeText_L68 : Int32 → Int32 → Int32 → (Nat → Int32) → Int32 → (Nat → Int64) → Prop) (R : Int32) (x3 : Int32) (t0_0 : Int32) (t1_0 : (Nat → Int64)) (t2_0 : Int32) (t2_1 : Int32) (t3_0 : (Nat → Int32)) (t4_0 : Int32) (t4_1 : Int32) (t5_0 : (Nat → Int32)) (p34 : (Int32 × (Nat → Int64))) (y27 : Int32) (f28 : (Nat → Int64)) (lx45 : Int32) (lx46 : Int32) (p82 : (Int32 × Int32 × (Nat → Int32))) (lx93 : Int32) (lx94 : Int32) (lx95 : Int32) (lx96 : (Nat → Int32)) (lx97 : Int32) (lx98 : (Nat → Int64)) : Prop := if lx97 = y27 then ((True ∧ S_She_add (11008 : Int32) (1376 : Int32) (1000000 : Int32) (48 : Int32) lx97 lx98) ∧ (S_Wri_wholeText_c182 K_S_Wri_wholeText_L22 K_S_Wri_wholeText_L68 R x3 t0_0 t1_0 t2_0 t2_1 t3_0 t4_0 t4_1 t5_0 p34 y27 f28 lx45 lx46 p82 lx93 lx94 lx95 lx96 lx97 lx98 ((F_She_add (11008 : Int32) (1376 : Int32) (1000000 : Int32) (48 : Int32) lx97 lx98) : (Int32 × (Nat → Int64))))) else ((True ∧ S_She_turn (11008 : Int32) (1376 : Int32) (1000000 : Int32) y27 lx97 lx98) ∧ (True))
def S_Wri_wholeText_c144 (K_S_Wri_wholeText_L22 : Int32 → Int32 → Prop) (K_S_Wri_wholeText_L68 : Int32 → Int32 → Int32 → (Nat → Int32) → Int32 → (Nat → Int64) → Prop) (K_S_Wri_wholeText_L106 : Int32 → Int32 → Int32 → (Nat → Int64) → Prop) (R : Int32) (x3 : Int32) (t0_0 : Int32) (t1_0 : (Nat → Int64)) (t2_0 : Int32) (t2_1 : Int32) (t3_0 : (Nat → Int32)) (t4_0 : Int32) (t4_1 : Int32) (t5_0 : (Nat → Int32)) (p34 : (Int32 × (Nat → Int64))) (y27 : Int32) (f28 : (Nat → Int64)) (lx45 : Int32) (lx46 : Int32) (p82 : (Int32 × Int32 × (Nat → Int32))) (lx93 : Int32) (lx94 : Int32) (lx95 : Int32) (lx96 : (Nat → Int32)) (lx97 : Int32) (lx98 : (Nat → Int64)) (p195 : (Int32 × Int32 × Int32 × (Nat → Int32))) (y185 : Int32) (y186 : Int32) (f187 : (Nat → Int32)) (lx208 : Int32) (lx209 : Int32) (lx210 : Int32) (lx211 : (Nat → Int64)) (p272 : (Int32 × (Nat → Int64))) : Prop := K_S_Wri_wholeText_L106 (lx208 + 1 : Int32) (lx209 / x3 : Int32) (p272.1 : Int32) (p272.2 : (Nat → Int64))
def S_Wri_wholeText_J131 (K_S_Wri_wholeText_L22 : Int32 → Int32 → Prop) (K_S_Wri_wholeText_L68 : Int32 → Int32 → Int32 → (Nat → Int32) → Int32 → (Nat → Int64) → Prop) (K_S_Wri_wholeText_L106 : Int32 → Int32 → Int32 → (Nat → Int64) → Prop) (R : Int32) (x3 : Int32) (t0_0 : Int32) (t1_0 : (Nat → Int64)) (t2_0 : Int32) (t2_1 : Int32) (t3_0 : (Nat → Int32)) (t4_0 : Int32) (t4_1 : Int32) (t5_0 : (Nat → Int32)) (p34 : (Int32 × (Nat → Int64))) (y27 : Int32) (f28 : (Nat → Int64)) (lx45 : Int32) (lx46 : Int32) (p82 : (Int32 × Int32 × (Nat → Int32))) (lx93 : Int32) (lx94 : Int32) (lx95 : Int32) (lx96 : (Nat → Int32)) (lx97 : Int32) (lx98 : (Nat → Int64)) (p195 : (Int32 × Int32 × Int32 × (Nat → Int32))) (y185 : Int32) (y186 : Int32) (f187 : (Nat → Int32)) (lx208 : Int32) (lx209 : Int32) (lx210 : Int32) (lx211 : (Nat → Int64)) : Prop := (1 ≤ x3.toInt) ∧ ((0 ≤ (lx209 - lx209 / x3 * x3 : Int32).toInt) ∧ (((lx209 - lx209 / x3 * x3 : Int32).toInt ≤ 35) ∧ ((True ∧ S_She_add (11008 : Int32) (1376 : Int32) (1000000 : Int32) ((F_jStr_charAt_22 (lx209 - lx209 / x3 * x3 : Int32)) : Int32) lx210 lx211) ∧ (S_Wri_wholeText_c144 K_S_Wri_wholeText_L22 K_S_Wri_wholeText_L68 K_S_Wri_wholeText_L106 R x3 t0_0 t1_0 t2_0 t2_1 t3_0 t4_0 t4_1 t5_0 p34 y27 f28 lx45 lx46 p82 lx93 lx94 lx95 lx96 lx97 lx98 p195 y185 y186 f187 lx208 lx209 lx210 lx211 ((F_She_add (11008 : Int32) (1376 : Int32) (1000000 : Int32) ((F_jStr_charAt_22 (lx209 - lx209 / x3 * x3 : Int32)) : Int32) lx210 lx211) : (Int32 × (Nat → Int64)))))))
def S_Wri_wholeText_L106 (K_S_Wri_wholeText_L22 : Int32 → Int32 → Prop) (K_S_Wri_wholeText_L68 : Int32 → Int32 → Int32 → (Nat → Int32) → Int32 → (Nat → Int64) → Prop) (R : Int32) (x3 : Int32) (t0_0 : Int32) (t1_0 : (Nat → Int64)) (t2_0 : Int32) (t2_1 : Int32) (t3_0 : (Nat → Int32)) (t4_0 : Int32) (t4_1 : Int32) (t5_0 : (Nat → Int32)) (p34 : (Int32 × (Nat → Int64))) (y27 : Int32) (f28 : (Nat → Int64)) (lx45 : Int32) (lx46 : Int32) (p82 : (Int32 × Int32 × (Nat → Int32))) (lx93 : Int32) (lx94 : Int32) (lx95 : Int32) (lx96 : (Nat → Int32)) (lx97 : Int32) (lx98 : (Nat → Int64)) (p195 : (Int32 × Int32 × Int32 × (Nat → Int32))) (y185 : Int32) (y186 : Int32) (f187 : (Nat → Int32)) : Nat → Int32 → Int32 → Int32 → (Nat → Int64) → Prop
  | 0, _, _, _, _ => False
  | fm + 1, lx208, lx209, lx210, lx211 => if lx46 ≤ lx208 then (K_S_Wri_wholeText_L68 (lx93 + 1 : Int32) y185 y186 f187 lx210 lx211) else (if (0 : Int32) < lx209 then (S_Wri_wholeText_J131 K_S_Wri_wholeText_L22 K_S_Wri_wholeText_L68 (S_Wri_wholeText_L106 K_S_Wri_wholeText_L22 K_S_Wri_wholeText_L68 R x3 t0_0 t1_0 t2_0 t2_1 t3_0 t4_0 t4_1 t5_0 p34 y27 f28 lx45 lx46 p82 lx93 lx94 lx95 lx96 lx97 lx98 p195 y185 y186 f187 fm) R x3 t0_0 t1_0 t2_0 t2_1 t3_0 t4_0 t4_1 t5_0 p34 y27 f28 lx45 lx46 p82 lx93 lx94 lx95 lx96 lx97 lx98 p195 y185 y186 f187 lx208 lx209 lx210 lx211) else (if y185 ≤ (0 : Int32) then (K_S_Wri_wholeText_L68 (lx93 + 1 : Int32) y185 y186 f187 lx210 lx211) else (S_Wri_wholeText_J131 K_S_Wri_wholeText_L22 K_S_Wri_wholeText_L68 (S_Wri_wholeText_L106 K_S_Wri_wholeText_L22 K_S_Wri_wholeText_L68 R x3 t0_0 t1_0 t2_0 t2_1 t3_0 t4_0 t4_1 t5_0 p34 y27 f28 lx45 lx46 p82 lx93 lx94 lx95 lx96 lx97 lx98 p195 y185 y186 f187 fm) R x3 t0_0 t1_0 t2_0 t2_1 t3_0 t4_0 t4_1 t5_0 p34 y27 f28 lx45 lx46 p82 lx93 lx94 lx95 lx96 lx97 lx98 p195 y185 y186 f187 lx208 lx209 lx210 lx211)))
def S_Wri_wholeText_c98 (K_S_Wri_wholeText_L22 : Int32 → Int32 → Prop) (K_S_Wri_wholeText_L68 : Int32 → Int32 → Int32 → (Nat → Int32) → Int32 → (Nat → Int64) → Prop) (R : Int32) (x3 : Int32) (t0_0 : Int32) (t1_0 : (Nat → Int64)) (t2_0 : Int32) (t2_1 : Int32) (t3_0 : (Nat → Int32)) (t4_0 : Int32) (t4_1 : Int32) (t5_0 : (Nat → Int32)) (p34 : (Int32 × (Nat → Int64))) (y27 : Int32) (f28 : (Nat → Int64)) (lx45 : Int32) (lx46 : Int32) (p82 : (Int32 × Int32 × (Nat → Int32))) (lx93 : Int32) (lx94 : Int32) (lx95 : Int32) (lx96 : (Nat → Int32)) (lx97 : Int32) (lx98 : (Nat → Int64)) (p195 : (Int32 × Int32 × Int32 × (Nat → Int32))) : Prop := S_Wri_wholeText_L106 K_S_Wri_wholeText_L22 K_S_Wri_wholeText_L68 R x3 t0_0 t1_0 t2_0 t2_1 t3_0 t4_0 t4_1 t5_0 p34 y27 f28 lx45 lx46 p82 lx93 lx94 lx95 lx96 lx97 lx98 p195 (p195.2.1 : Int32) (p195.2.2.1 : Int32) (p195.2.2.2 : (Nat → Int32)) ((31 - (0 : Int32).toInt).toNat + 1) 0 (p195.1 : Int32) lx97 lx98
def S_Wri_wholeText_L68 (K_S_Wri_wholeText_L22 : Int32 → Int32 → Prop) (R : Int32) (x3 : Int32) (t0_0 : Int32) (t1_0 : (Nat → Int64)) (t2_0 : Int32) (t2_1 : Int32) (t3_0 : (Nat → Int32)) (t4_0 : Int32) (t4_1 : Int32) (t5_0 : (Nat → Int32)) (p34 : (Int32 × (Nat → Int64))) (y27 : Int32) (f28 : (Nat → Int64)) (lx45 : Int32) (lx46 : Int32) (p82 : (Int32 × Int32 × (Nat → Int32))) : Nat → Int32 → Int32 → Int32 → (Nat → Int32) → Int32 → (Nat → Int64) → Prop
  | 0, _, _, _, _, _, _ => False
  | fm + 1, lx93, lx94, lx95, lx96, lx97, lx98 => if (2100 : Int32) ≤ lx93 then (S_Wri_wholeText_J165 K_S_Wri_wholeText_L22 (S_Wri_wholeText_L68 K_S_Wri_wholeText_L22 R x3 t0_0 t1_0 t2_0 t2_1 t3_0 t4_0 t4_1 t5_0 p34 y27 f28 lx45 lx46 p82 fm) R x3 t0_0 t1_0 t2_0 t2_1 t3_0 t4_0 t4_1 t5_0 p34 y27 f28 lx45 lx46 p82 lx93 lx94 lx95 lx96 lx97 lx98) else (if lx94 ≤ (0 : Int32) then (S_Wri_wholeText_J165 K_S_Wri_wholeText_L22 (S_Wri_wholeText_L68 K_S_Wri_wholeText_L22 R x3 t0_0 t1_0 t2_0 t2_1 t3_0 t4_0 t4_1 t5_0 p34 y27 f28 lx45 lx46 p82 fm) R x3 t0_0 t1_0 t2_0 t2_1 t3_0 t4_0 t4_1 t5_0 p34 y27 f28 lx45 lx46 p82 lx93 lx94 lx95 lx96 lx97 lx98) else (S_Wri_wholeText_c98 K_S_Wri_wholeText_L22 (S_Wri_wholeText_L68 K_S_Wri_wholeText_L22 R x3 t0_0 t1_0 t2_0 t2_1 t3_0 t4_0 t4_1 t5_0 p34 y27 f28 lx45 lx46 p82 fm) R x3 t0_0 t1_0 t2_0 t2_1 t3_0 t4_0 t4_1 t5_0 p34 y27 f28 lx45 lx46 p82 lx93 lx94 lx95 lx96 lx97 lx98 ((F_Big_divideSmall (220 : Int32) lx45 lx94 lx95 lx96) : (Int32 × Int32 × Int32 × (Nat → Int32)))))
def S_Wri_wholeText_c62 (K_S_Wri_wholeText_L22 : Int32 → Int32 → Prop) (R : Int32) (x3 : Int32) (t0_0 : Int32) (t1_0 : (Nat → Int64)) (t2_0 : Int32) (t2_1 : Int32) (t3_0 : (Nat → Int32)) (t4_0 : Int32) (t4_1 : Int32) (t5_0 : (Nat → Int32)) (p34 : (Int32 × (Nat → Int64))) (y27 : Int32) (f28 : (Nat → Int64)) (lx45 : Int32) (lx46 : Int32) (p82 : (Int32 × Int32 × (Nat → Int32))) : Prop := S_Wri_wholeText_L68 K_S_Wri_wholeText_L22 R x3 t0_0 t1_0 t2_0 t2_1 t3_0 t4_0 t4_1 t5_0 p34 y27 f28 lx45 lx46 p82 ((2100 - (0 : Int32).toInt).toNat + 1) 0 (p82.1 : Int32) (p82.2.1 : Int32) (p82.2.2 : (Nat → Int32)) y27 f28
def S_Wri_wholeText_J54 (K_S_Wri_wholeText_L22 : Int32 → Int32 → Prop) (R : Int32) (x3 : Int32) (t0_0 : Int32) (t1_0 : (Nat → Int64)) (t2_0 : Int32) (t2_1 : Int32) (t3_0 : (Nat → Int32)) (t4_0 : Int32) (t4_1 : Int32) (t5_0 : (Nat → Int32)) (p34 : (Int32 × (Nat → Int64))) (y27 : Int32) (f28 : (Nat → Int64)) (lx45 : Int32) (lx46 : Int32) : Prop := S_Wri_wholeText_c62 K_S_Wri_wholeText_L22 R x3 t0_0 t1_0 t2_0 t2_1 t3_0 t4_0 t4_1 t5_0 p34 y27 f28 lx45 lx46 ((F_Big_copy (220 : Int32) R t2_0 t2_1 t3_0 t4_0 t4_1 t5_0) : (Int32 × Int32 × (Nat → Int32)))
def S_Wri_wholeText_L22 (R : Int32) (x3 : Int32) (t0_0 : Int32) (t1_0 : (Nat → Int64)) (t2_0 : Int32) (t2_1 : Int32) (t3_0 : (Nat → Int32)) (t4_0 : Int32) (t4_1 : Int32) (t5_0 : (Nat → Int32)) (p34 : (Int32 × (Nat → Int64))) (y27 : Int32) (f28 : (Nat → Int64)) : Nat → Int32 → Int32 → Prop
  | 0, _, _ => False
  | fm + 1, lx45, lx46 => if (31 : Int32) ≤ lx46 then (S_Wri_wholeText_J54 (S_Wri_wholeText_L22 R x3 t0_0 t1_0 t2_0 t2_1 t3_0 t4_0 t4_1 t5_0 p34 y27 f28 fm) R x3 t0_0 t1_0 t2_0 t2_1 t3_0 t4_0 t4_1 t5_0 p34 y27 f28 lx45 lx46) else (if (0 : Int32) < (lg_cmp ((lx45.toInt64 : Int64) * (x3.toInt64 : Int64) : Int64) 2147483647 : Int32) then (S_Wri_wholeText_J54 (S_Wri_wholeText_L22 R x3 t0_0 t1_0 t2_0 t2_1 t3_0 t4_0 t4_1 t5_0 p34 y27 f28 fm) R x3 t0_0 t1_0 t2_0 t2_1 t3_0 t4_0 t4_1 t5_0 p34 y27 f28 lx45 lx46) else (S_Wri_wholeText_L22 R x3 t0_0 t1_0 t2_0 t2_1 t3_0 t4_0 t4_1 t5_0 p34 y27 f28 fm (lx45 * x3 : Int32) (lx46 + 1 : Int32)))
def S_Wri_wholeText_c5 (R : Int32) (x3 : Int32) (t0_0 : Int32) (t1_0 : (Nat → Int64)) (t2_0 : Int32) (t2_1 : Int32) (t3_0 : (Nat → Int32)) (t4_0 : Int32) (t4_1 : Int32) (t5_0 : (Nat → Int32)) (p34 : (Int32 × (Nat → Int64))) : Prop := S_Wri_wholeText_L22 R x3 t0_0 t1_0 t2_0 t2_1 t3_0 t4_0 t4_1 t5_0 p34 (p34.1 : Int32) (p34.2 : (Nat → Int64)) ((31 - (1 : Int32).toInt).toNat + 1) x3 1
def S_Wri_wholeText (R : Int32) (x3 : Int32) (t0_0 : Int32) (t1_0 : (Nat → Int64)) (t2_0 : Int32) (t2_1 : Int32) (t3_0 : (Nat → Int32)) (t4_0 : Int32) (t4_1 : Int32) (t5_0 : (Nat → Int32)) : Prop := (True ∧ S_Wri_begin t4_1 t0_0 t1_0) ∧ (S_Wri_wholeText_c5 R x3 t0_0 t1_0 t2_0 t2_1 t3_0 t4_0 t4_1 t5_0 ((F_Wri_begin t4_1 t0_0 t1_0) : (Int32 × (Nat → Int64))))
set_option maxRecDepth 100000 in
set_option maxHeartbeats 4000000 in
theorem X_Wri_wholeText (l : Launch) (D : va_G) (g : Nat → ClassId) (q : Nat → Nat) (ws : va_W) (k2 : Nat) (R : Int32) (hB2 : q_isBig (nsh g q) g q k2 R) (zk2 : (10 ≤ k2 ∧ k2 ≤ 32) ∨ 66 ≤ k2) (x3 : Int32) (ne_k2_10 : k2 ≠ 10) (ne_k2_11 : k2 ≠ 11) (ne_k2_9 : k2 ≠ 9) (hI : q_I (nsh g q) q ws) (t0_0 : Int32) (hT0 : ws[3]? = (some (q 3, .inr (1, [.ref (q 4), .int 11008, .int t0_0])) : Option (Nat × va_E))) (t1_0 : (Nat → Int64)) (hT1 : ws[4]? = (some (q 4, .inl (g 1, (1376 : Int32).toNatClampNeg, .inr (.inl t1_0))) : Option (Nat × va_E))) (t2_0 : Int32) (t2_1 : Int32) (hT2 : ws[10]? = (some (q 10, .inr (2, [.ref (q 11), .int t2_0, .int t2_1])) : Option (Nat × va_E))) (t3_0 : (Nat → Int32)) (hT3 : ws[11]? = (some (q 11, .inl (g 0, (220 : Int32).toNatClampNeg, .inl t3_0)) : Option (Nat × va_E))) (t4_0 : Int32) (t4_1 : Int32) (hT4 : ws[k2]? = (some (q k2, .inr (2, [.ref (q (k2 + 1)), .int t4_0, .int t4_1])) : Option (Nat × va_E))) (t5_0 : (Nat → Int32)) (hT5 : ws[k2 + 1]? = (some (q (k2 + 1), .inl (g 0, R.toNatClampNeg, .inl t5_0)) : Option (Nat × va_E))) (hS : True ∧ S_Wri_wholeText R x3 t0_0 t1_0 t2_0 t2_1 t3_0 t4_0 t4_1 t5_0) : q_mV l y_Wri_wholeText prog_12_method_2_code 9 5 0 0 D g [.ref (q 39), .ref (q k2), .int x3] ws (fun u => q_I (nsh g q) q u ∧ q_un ws u [3, 4, 10, 11] ∧ ∃ (u0_0 : Int32) (u1_0 : (Nat → Int64)) (u2_0 : Int32) (u2_1 : Int32) (u3_0 : (Nat → Int32)), u[3]? = (some (q 3, .inr (1, [.ref (q 4), .int 11008, .int u0_0])) : Option (Nat × va_E)) ∧ u[4]? = (some (q 4, .inl (g 1, (1376 : Int32).toNatClampNeg, .inr (.inl u1_0))) : Option (Nat × va_E)) ∧ u[10]? = (some (q 10, .inr (2, [.ref (q 11), .int u2_0, .int u2_1])) : Option (Nat × va_E)) ∧ u[11]? = (some (q 11, .inl (g 0, (220 : Int32).toNatClampNeg, .inl u3_0)) : Option (Nat × va_E)) ∧ (0 ≤ u2_0.toInt) ∧ (0 ≤ u2_1.toInt) ∧ (t4_1.toInt + 1 ≤ u0_0.toInt) ∧ (u2_0.toInt ≤ t4_0.toInt) ∧ (u2_1.toInt ≤ t4_1.toInt) ∧ (u0_0, u1_0, u2_0, u2_1, u3_0) = (F_Wri_wholeText R x3 t0_0 t1_0 t2_0 t2_1 t3_0 t4_0 t4_1 t5_0)) := by
  intro sz
  refine q_into (by decide) (Nat.le_of_ble_eq_true rfl) ?_
  intro p e s m below meth c ls hsz C0 V hl
  have hx := C0.1
  have hb := C0.2.1
  have btt0_0 := n_shW hI (n_h3 g q) hT0
  clear btt0_0
  have btt2_1 := (q_bigW hI (n_b10 g q) hT2).2
  clear btt2_1
  have btt4_1 := (q_bigW hI hB2 hT4).2
  replace btt4_1 : q_F (0 ≤ t4_1.toInt ∧ t4_1.toInt ≤ 1) := btt4_1
  have hF : q_un ws ws [3, 4, 10, 11] := q_u0
  have hl : lv_has ls 9 [(0, .ref (q 39)), (1, .ref (q k2)), (2, .int x3)] := hl
  refine lv_aload_n hx hb d_12_2_0 rfl (lv_at hl 0 rfl) ?_
  refine lv_aload_n hx hb d_12_2_1 rfl (lv_at hl 1 rfl) ?_
  refine q_get (ci := 2) (j := 2) (v := .int t4_1) C0 V i_Big rfl rfl hT4 (by decide) w_93 rfl d_12_2_2 ?_
  have ob22 : True ∧ S_Wri_begin t4_1 t0_0 t1_0 := (by have h := hS; rw [S_Wri_wholeText.eq_1] at h; with_reducible exact h.2.1)
  have hO23 := n_o39 hI
  refine q_gov V (q_runV (As := [.int t4_1]) (rest := []) (d := 2) (mc := 0) (ms := 0) (ci := 9) C0 V rfl LV_Wri_27 (X_Wri_begin l D g q ws  t4_1 hI t0_0 hT0 t1_0 hT1 (by first | with_reducible exact q_fe btt4_1 | exact ⟨(by have t1 : 0 ≤ t4_1.toInt ∧ t4_1.toInt ≤ 1 := btt4_1; omega), (by have t1 : 0 ≤ t4_1.toInt ∧ t4_1.toInt ≤ 1 := btt4_1; omega)⟩) ob22 _) rfl rfl hO23 rfl hl.1 rfl (Nat.le_of_ble_eq_true rfl) ⟨by decide, by decide⟩ ⟨Nat.le_of_ble_eq_true rfl, Nat.le_of_ble_eq_true rfl⟩ d_12_2_5) (fun u24 H locs hp25 V => ?_)
  obtain ⟨hI, hZ9⟩ := hp25
  obtain ⟨hu33, hZ9⟩ := hZ9
  obtain ⟨y27, hZ9⟩ := hZ9
  obtain ⟨f28, hZ9⟩ := hZ9
  obtain ⟨hO26, hZ9⟩ := hZ9
  obtain ⟨hA29, hZ9⟩ := hZ9
  obtain ⟨b30, hZ9⟩ := hZ9
  obtain ⟨b31, hE32⟩ := hZ9
  replace hO26 : u24[3]? = (some (q 3, .inr (1, [.ref (q 4), .int 11008, .int y27])) : Option (Nat × va_E)) := hO26
  replace hA29 : u24[4]? = (some (q 4, .inl (g 1, (1376 : Int32).toNatClampNeg, .inr (.inl f28))) : Option (Nat × va_E)) := hA29
  obtain ⟨p34, e35⟩ : ∃ z, z = (F_Wri_begin t4_1 t0_0 t1_0) := ⟨_, rfl⟩
  have e36 : y27 = p34.1 := congrArg (fun z => z.1) (hE32.trans e35.symm)
  have e37 : f28 = p34.2 := congrArg (fun z => z.2) (hE32.trans e35.symm)
  replace b30 : q_F (t4_1.toInt ≤ y27.toInt) := b30
  replace b31 : q_F (y27.toInt ≤ t4_1.toInt) := b31
  replace hT2 := (hu33 _ (by decide)).trans hT2
  replace hT3 := (hu33 _ (by decide)).trans hT3
  replace hT4 := (hu33 _ (by have z0 := zk2; simp only [List.mem_cons, List.not_mem_nil, or_false, not_or]; omega)).trans hT4
  replace hT5 := (hu33 _ (by have z0 := zk2; simp only [List.mem_cons, List.not_mem_nil, or_false, not_or]; omega)).trans hT5
  replace hO23 := (hu33 _ (by decide)).trans hO23
  replace hF := q_uc hF hu33 (by simp)
  have hR38 := (show F_Wri_wholeText_c5 R x3 t0_0 t1_0 t2_0 t2_1 t3_0 t4_0 t4_1 t5_0 p34 = (F_Wri_wholeText R x3 t0_0 t1_0 t2_0 t2_1 t3_0 t4_0 t4_1 t5_0) from (by rw [e35, F_Wri_wholeText.eq_1]))
  have hS39 := (show True ∧ S_Wri_wholeText_c5 R x3 t0_0 t1_0 t2_0 t2_1 t3_0 t4_0 t4_1 t5_0 p34 from (by rw [e35]; have h := hS; rw [S_Wri_wholeText.eq_1] at h; replace h := q_s2 h; with_reducible exact h))
  refine lv_aload_n hx hb d_12_2_8 rfl (lv_at hl 0 rfl) ?_
  refine q_get (ci := 9) (j := 0) (v := .ref (q 3)) C0 V i_Wri rfl rfl hO23 (by decide) w_329 rfl d_12_2_9 ?_
  refine q_get (ci := 1) (j := 2) (v := .int y27) C0 V i_She rfl rfl hO26 (by decide) w_55 rfl d_12_2_12 ?_
  refine lv_istore_n (lv' := [(3, .int y27), (0, .ref (q 39)), (1, .ref (q k2)), (2, .int x3)]) hx hb d_12_2_15 rfl hl (by decide) rfl (fun ls hl => ?_)
  refine lv_iconst (v := 1) hx hb d_12_2_16 (by decide) ?_
  refine lv_istore (lv' := [(4, .int 1), (3, .int y27), (0, .ref (q 39)), (1, .ref (q k2)), (2, .int x3)]) hx hb d_12_2_17 hl (by decide) rfl (fun ls hl => ?_)
  refine lv_iload_n hx hb d_12_2_19 rfl (lv_at hl 4 rfl) ?_
  refine lv_istore (lv' := [(5, .int x3), (4, .int 1), (3, .int y27), (0, .ref (q 39)), (1, .ref (q k2)), (2, .int x3)]) hx hb d_12_2_20 hl (by decide) rfl (fun ls hl => ?_)
  refine q_loop (X := Int32 × Int32) (fun z H locs ls _ => q_F (1 ≤ z.2.toInt) ∧ q_F (z.2.toInt ≤ 31) ∧ q_Wd D g (va_A ws sz) s u24 H locs ∧ lv_has ls 9 [(5, .int z.1), (4, .int z.2), (3, .int y27), (0, .ref (q 39)), (1, .ref (q k2)), (2, .int x3)] ∧ (∃ n, (31 - z.2.toInt).toNat < n ∧ F_Wri_wholeText_L22 R x3 t0_0 t1_0 t2_0 t2_1 t3_0 t4_0 t4_1 t5_0 p34 y27 f28 n z.1 z.2 = (F_Wri_wholeText R x3 t0_0 t1_0 t2_0 t2_1 t3_0 t4_0 t4_1 t5_0) ∧ True ∧ S_Wri_wholeText_L22 R x3 t0_0 t1_0 t2_0 t2_1 t3_0 t4_0 t4_1 t5_0 p34 y27 f28 n z.1 z.2)) (fun z => (31 - z.2.toInt).toNat) ?_ ((x3 : Int32), (1 : Int32)) _ _ _ u24 ⟨(show q_F (1 ≤ 1) from (show 1 ≤ 1 from by omega)), (show q_F (1 ≤ 31) from (show 1 ≤ 31 from by omega)), V, q_lw hl (q_lw1 0 rfl (q_lw1 1 rfl (q_lw1 2 rfl (q_lw1 3 rfl (q_lw1 4 rfl (q_lw1 5 rfl q_lw0)))))), ⟨((31 - (1 : Int32).toInt).toNat + 1), Nat.lt_succ_self _, (show F_Wri_wholeText_L22 R x3 t0_0 t1_0 t2_0 t2_1 t3_0 t4_0 t4_1 t5_0 p34 y27 f28 ((31 - (1 : Int32).toInt).toNat + 1) x3 1 = (F_Wri_wholeText R x3 t0_0 t1_0 t2_0 t2_1 t3_0 t4_0 t4_1 t5_0) from Eq.trans (by rw [e37, e36, F_Wri_wholeText_c5.eq_1]) hR38), (show True ∧ S_Wri_wholeText_L22 R x3 t0_0 t1_0 t2_0 t2_1 t3_0 t4_0 t4_1 t5_0 p34 y27 f28 ((31 - (1 : Int32).toInt).toNat + 1) x3 1 from (by rw [e37, e36]; have h := hS39; rw [S_Wri_wholeText_c5.eq_1] at h; with_reducible exact h))⟩⟩
  rintro ⟨lx45, lx46⟩ H locs ls _ ⟨i47, i48, V, hl, ⟨fu52, hf53, hR50, hS51⟩⟩ ih49
  obtain ⟨fm54, rfl⟩ : ∃ m, fu52 = m + 1 := ⟨fu52 - 1, by omega⟩
  replace i47 : q_F (1 ≤ lx46.toInt) := i47
  replace i48 : q_F (lx46.toInt ≤ 31) := i48
  replace hl : lv_has ls 9 [(5, .int lx45), (4, .int lx46), (3, .int y27), (0, .ref (q 39)), (1, .ref (q k2)), (2, .int x3)] := hl
  refine lv_iload hx hb d_12_2_22 (lv_at hl 1 rfl) ?_
  refine lv_bipush (v := 31) hx hb d_12_2_24 (by decide) ?_
  refine q_join (X := Unit) (fun z H locs ls _ => q_Wd D g (va_A ws sz) s u24 H locs ∧ lv_has ls 9 [(5, .int lx45), (4, .int lx46), (3, .int y27), (0, .ref (q 39)), (1, .ref (q k2)), (2, .int x3)] ∧ F_Wri_wholeText_J54 (F_Wri_wholeText_L22 R x3 t0_0 t1_0 t2_0 t2_1 t3_0 t4_0 t4_1 t5_0 p34 y27 f28 fm54) R x3 t0_0 t1_0 t2_0 t2_1 t3_0 t4_0 t4_1 t5_0 p34 y27 f28 lx45 lx46 = (F_Wri_wholeText R x3 t0_0 t1_0 t2_0 t2_1 t3_0 t4_0 t4_1 t5_0) ∧ True ∧ S_Wri_wholeText_J54 (S_Wri_wholeText_L22 R x3 t0_0 t1_0 t2_0 t2_1 t3_0 t4_0 t4_1 t5_0 p34 y27 f28 fm54) R x3 t0_0 t1_0 t2_0 t2_1 t3_0 t4_0 t4_1 t5_0 p34 y27 f28 lx45 lx46) (fun z => []) 54 0 0 ?_ ?_
  ·
    rintro _ H locs ls _ ⟨V, hl, hR62, hS63⟩
    replace hl : lv_has ls 9 [(5, .int lx45), (4, .int lx46), (3, .int y27), (0, .ref (q 39)), (1, .ref (q k2)), (2, .int x3)] := hl
    refine lv_aload_n hx hb d_12_2_54 rfl (lv_at hl 3 rfl) ?_
    refine q_get (ci := 9) (j := 1) (v := .ref (q 9)) C0 V i_Wri rfl rfl hO23 (by decide) w_330 rfl d_12_2_55 ?_
    have hO67 := n_o9 hI
    refine q_get (ci := 4) (j := 0) (v := .ref (q 10)) C0 V i_Mil rfl rfl hO67 (by decide) w_110 rfl d_12_2_58 ?_
    refine lv_aload_n hx hb d_12_2_61 rfl (lv_at hl 4 rfl) ?_
    refine q_gov V (q_runV (As := [.ref (q k2)]) (rest := []) (d := 2) (mc := 0) (ms := 0) (ci := 2) C0 V rfl LV_Wri_45 (X_Big_copy l D g q u24 10 220 (n_b10 g q) (by decide) k2 R hB2 zk2  (by have z := ne_k2_10; omega) hI t2_0 t2_1 hT2 t3_0 hT3 t4_0 t4_1 hT4 t5_0 hT5  _) rfl rfl hT2 rfl hl.1 rfl (Nat.le_of_ble_eq_true rfl) ⟨by decide, by decide⟩ ⟨Nat.le_of_ble_eq_true rfl, Nat.le_of_ble_eq_true rfl⟩ d_12_2_62) (fun u68 H locs hp69 V => ?_)
    obtain ⟨hI, hZ9⟩ := hp69
    obtain ⟨hu81, hZ9⟩ := hZ9
    obtain ⟨y71, hZ9⟩ := hZ9
    obtain ⟨y72, hZ9⟩ := hZ9
    obtain ⟨f73, hZ9⟩ := hZ9
    obtain ⟨hO70, hZ9⟩ := hZ9
    obtain ⟨hA74, hZ9⟩ := hZ9
    obtain ⟨b75, hZ9⟩ := hZ9
    obtain ⟨b76, hZ9⟩ := hZ9
    replace hZ9 := hZ9.2
    obtain ⟨b78, hZ9⟩ := hZ9
    obtain ⟨b79, hE80⟩ := hZ9
    replace hO70 : u68[10]? = (some (q 10, .inr (2, [.ref (q 11), .int y71, .int y72])) : Option (Nat × va_E)) := hO70
    replace hA74 : u68[11]? = (some (q 11, .inl (g 0, (220 : Int32).toNatClampNeg, .inl f73)) : Option (Nat × va_E)) := hA74
    obtain ⟨p82, e83⟩ : ∃ z, z = (F_Big_copy (220 : Int32) R t2_0 t2_1 t3_0 t4_0 t4_1 t5_0) := ⟨_, rfl⟩
    have e84 : y71 = p82.1 := congrArg (fun z => z.1) (hE80.trans e83.symm)
    have e85 : y72 = p82.2.1 := congrArg (fun z => z.2.1) (hE80.trans e83.symm)
    have e86 : f73 = p82.2.2 := congrArg (fun z => z.2.2) (hE80.trans e83.symm)
    replace b75 : q_F (0 ≤ y71.toInt) := b75
    replace b76 : q_F (y71.toInt ≤ t4_0.toInt) := b76
    replace b78 : q_F (t4_1.toInt ≤ y72.toInt) := b78
    replace b79 : q_F (y72.toInt ≤ t4_1.toInt) := b79
    replace hO26 := (hu81 _ (by decide)).trans hO26
    replace hA29 := (hu81 _ (by decide)).trans hA29
    replace hT4 := (hu81 _ (by have z0 := zk2; simp only [List.mem_cons, List.not_mem_nil, or_false, not_or]; omega)).trans hT4
    replace hT5 := (hu81 _ (by have z0 := zk2; simp only [List.mem_cons, List.not_mem_nil, or_false, not_or]; omega)).trans hT5
    replace hF := q_uc hF hu81 (by simp)
    have hR87 := (show F_Wri_wholeText_c62 (F_Wri_wholeText_L22 R x3 t0_0 t1_0 t2_0 t2_1 t3_0 t4_0 t4_1 t5_0 p34 y27 f28 fm54) R x3 t0_0 t1_0 t2_0 t2_1 t3_0 t4_0 t4_1 t5_0 p34 y27 f28 lx45 lx46 p82 = (F_Wri_wholeText R x3 t0_0 t1_0 t2_0 t2_1 t3_0 t4_0 t4_1 t5_0) from Eq.trans (by rw [e83, F_Wri_wholeText_J54.eq_1]) hR62)
    have hS88 := (show True ∧ S_Wri_wholeText_c62 (S_Wri_wholeText_L22 R x3 t0_0 t1_0 t2_0 t2_1 t3_0 t4_0 t4_1 t5_0 p34 y27 f28 fm54) R x3 t0_0 t1_0 t2_0 t2_1 t3_0 t4_0 t4_1 t5_0 p34 y27 f28 lx45 lx46 p82 from (by rw [e83]; have h := hS63; rw [S_Wri_wholeText_J54.eq_1] at h; with_reducible exact h))
    refine lv_iconst (v := 0) hx hb d_12_2_65 (by decide) ?_
    refine lv_istore (lv' := [(6, .int 0), (5, .int lx45), (4, .int lx46), (3, .int y27), (0, .ref (q 39)), (1, .ref (q k2)), (2, .int x3)]) hx hb d_12_2_66 hl (by decide) rfl (fun ls hl => ?_)
    refine q_loop (X := Int32 × Int32 × Int32 × (Nat → Int32) × Int32 × (Nat → Int64)) (fun z H locs ls w108 => q_F (z.1.toInt ≤ 2100) ∧ q_F (0 ≤ z.2.2.1.toInt) ∧ q_F (z.2.1.toInt ≤ y71.toInt) ∧ q_F (z.2.2.1.toInt ≤ t4_1.toInt) ∧ q_F (t4_1.toInt ≤ z.2.2.2.2.1.toInt) ∧ q_F (z.2.2.1.toInt ≤ z.2.1.toInt + 1) ∧ q_F (0 ≤ z.2.1.toInt + z.2.2.1.toInt) ∧ q_F (y72.toInt ≤ z.1.toInt + z.2.2.1.toInt) ∧ q_Wd D g (va_A ws sz) s w108 H locs ∧ lv_has ls 9 [(6, .int z.1), (5, .int lx45), (4, .int lx46), (3, .int y27), (0, .ref (q 39)), (2, .int x3)] ∧ q_I (nsh g q) q w108 ∧ q_un ws w108 [3, 4, 10, 11] ∧ w108[3]? = (some (q 3, .inr (1, [.ref (q 4), .int 11008, .int z.2.2.2.2.1])) : Option (Nat × va_E)) ∧ w108[4]? = (some (q 4, .inl (g 1, (1376 : Int32).toNatClampNeg, .inr (.inl z.2.2.2.2.2))) : Option (Nat × va_E)) ∧ w108[10]? = (some (q 10, .inr (2, [.ref (q 11), .int z.2.1, .int z.2.2.1])) : Option (Nat × va_E)) ∧ w108[11]? = (some (q 11, .inl (g 0, (220 : Int32).toNatClampNeg, .inl z.2.2.2.1)) : Option (Nat × va_E)) ∧ w108[k2]? = (some (q k2, .inr (2, [.ref (q (k2 + 1)), .int t4_0, .int t4_1])) : Option (Nat × va_E)) ∧ w108[k2 + 1]? = (some (q (k2 + 1), .inl (g 0, R.toNatClampNeg, .inl t5_0)) : Option (Nat × va_E)) ∧ (∃ n, (2100 - z.1.toInt).toNat < n ∧ F_Wri_wholeText_L68 (F_Wri_wholeText_L22 R x3 t0_0 t1_0 t2_0 t2_1 t3_0 t4_0 t4_1 t5_0 p34 y27 f28 fm54) R x3 t0_0 t1_0 t2_0 t2_1 t3_0 t4_0 t4_1 t5_0 p34 y27 f28 lx45 lx46 p82 n z.1 z.2.1 z.2.2.1 z.2.2.2.1 z.2.2.2.2.1 z.2.2.2.2.2 = (F_Wri_wholeText R x3 t0_0 t1_0 t2_0 t2_1 t3_0 t4_0 t4_1 t5_0) ∧ True ∧ S_Wri_wholeText_L68 (S_Wri_wholeText_L22 R x3 t0_0 t1_0 t2_0 t2_1 t3_0 t4_0 t4_1 t5_0 p34 y27 f28 fm54) R x3 t0_0 t1_0 t2_0 t2_1 t3_0 t4_0 t4_1 t5_0 p34 y27 f28 lx45 lx46 p82 n z.1 z.2.1 z.2.2.1 z.2.2.2.1 z.2.2.2.2.1 z.2.2.2.2.2)) (fun z => (2100 - z.1.toInt).toNat) ?_ ((0 : Int32), (y71 : Int32), (y72 : Int32), (f73 : (Nat → Int32)), (y27 : Int32), (f28 : (Nat → Int64))) _ _ _ u68 ⟨(show q_F (0 ≤ 2100) from (show 0 ≤ 2100 from by omega)), (show q_F (0 ≤ y72.toInt) from (show 0 ≤ y72.toInt from by have t1 : 0 ≤ t4_1.toInt ∧ t4_1.toInt ≤ 1 := btt4_1; have t2 : t4_1.toInt ≤ y72.toInt := b78; omega)), (show q_F (y71.toInt ≤ y71.toInt) from (show y71.toInt ≤ y71.toInt from by omega)), (show q_F (y72.toInt ≤ t4_1.toInt) from (show y72.toInt ≤ t4_1.toInt from by have t1 : y72.toInt ≤ t4_1.toInt := b79; omega)), (show q_F (t4_1.toInt ≤ y27.toInt) from (show t4_1.toInt ≤ y27.toInt from by have t1 : t4_1.toInt ≤ y27.toInt := b30; omega)), (show q_F (y72.toInt ≤ y71.toInt + 1) from (show y72.toInt ≤ y71.toInt + 1 from by have t1 : 0 ≤ t4_1.toInt ∧ t4_1.toInt ≤ 1 := btt4_1; have t2 : 0 ≤ y71.toInt := b75; have t3 : y72.toInt ≤ t4_1.toInt := b79; omega)), (show q_F (0 ≤ y71.toInt + y72.toInt) from (show 0 ≤ y71.toInt + y72.toInt from by have t1 : 0 ≤ t4_1.toInt ∧ t4_1.toInt ≤ 1 := btt4_1; have t2 : 0 ≤ y71.toInt := b75; have t3 : t4_1.toInt ≤ y72.toInt := b78; omega)), (show q_F (y72.toInt ≤ 0 + y72.toInt) from (show y72.toInt ≤ 0 + y72.toInt from by omega)), V, q_lw hl (q_lw1 0 rfl (q_lw1 1 rfl (q_lw1 2 rfl (q_lw1 3 rfl (q_lw1 4 rfl (q_lw1 6 rfl q_lw0)))))), hI, hF, hO26, hA29, hO70, hA74, hT4, hT5, ⟨((2100 - (0 : Int32).toInt).toNat + 1), Nat.lt_succ_self _, (show F_Wri_wholeText_L68 (F_Wri_wholeText_L22 R x3 t0_0 t1_0 t2_0 t2_1 t3_0 t4_0 t4_1 t5_0 p34 y27 f28 fm54) R x3 t0_0 t1_0 t2_0 t2_1 t3_0 t4_0 t4_1 t5_0 p34 y27 f28 lx45 lx46 p82 ((2100 - (0 : Int32).toInt).toNat + 1) 0 y71 y72 f73 y27 f28 = (F_Wri_wholeText R x3 t0_0 t1_0 t2_0 t2_1 t3_0 t4_0 t4_1 t5_0) from Eq.trans (by rw [e86, e85, e84, F_Wri_wholeText_c62.eq_1]) hR87), (show True ∧ S_Wri_wholeText_L68 (S_Wri_wholeText_L22 R x3 t0_0 t1_0 t2_0 t2_1 t3_0 t4_0 t4_1 t5_0 p34 y27 f28 fm54) R x3 t0_0 t1_0 t2_0 t2_1 t3_0 t4_0 t4_1 t5_0 p34 y27 f28 lx45 lx46 p82 ((2100 - (0 : Int32).toInt).toNat + 1) 0 y71 y72 f73 y27 f28 from (by rw [e86, e85, e84]; have h := hS88; rw [S_Wri_wholeText_c62.eq_1] at h; with_reducible exact h))⟩⟩
    rintro ⟨lx93, lx94, lx95, lx96, lx97, lx98⟩ H locs ls w108 ⟨i99, i100, i101, i102, i103, i104, i105, i106, V, hl, hI, hF, hO109, hO110, hO111, hO112, hO113, hO114, ⟨fu117, hf118, hR115, hS116⟩⟩ ih107
    obtain ⟨fm119, rfl⟩ : ∃ m, fu117 = m + 1 := ⟨fu117 - 1, by omega⟩
    replace i99 : q_F (lx93.toInt ≤ 2100) := i99
    replace i100 : q_F (0 ≤ lx95.toInt) := i100
    replace i101 : q_F (lx94.toInt ≤ y71.toInt) := i101
    replace i102 : q_F (lx95.toInt ≤ t4_1.toInt) := i102
    replace i103 : q_F (t4_1.toInt ≤ lx97.toInt) := i103
    replace i104 : q_F (lx95.toInt ≤ lx94.toInt + 1) := i104
    replace i105 : q_F (0 ≤ lx94.toInt + lx95.toInt) := i105
    replace i106 : q_F (y72.toInt ≤ lx93.toInt + lx95.toInt) := i106
    replace hl : lv_has ls 9 [(6, .int lx93), (5, .int lx45), (4, .int lx46), (3, .int y27), (0, .ref (q 39)), (2, .int x3)] := hl
    replace hO109 : w108[3]? = (some (q 3, .inr (1, [.ref (q 4), .int 11008, .int lx97])) : Option (Nat × va_E)) := hO109
    replace hO110 : w108[4]? = (some (q 4, .inl (g 1, (1376 : Int32).toNatClampNeg, .inr (.inl lx98))) : Option (Nat × va_E)) := hO110
    replace hO111 : w108[10]? = (some (q 10, .inr (2, [.ref (q 11), .int lx94, .int lx95])) : Option (Nat × va_E)) := hO111
    replace hO112 : w108[11]? = (some (q 11, .inl (g 0, (220 : Int32).toNatClampNeg, .inl lx96)) : Option (Nat × va_E)) := hO112
    replace hO113 : w108[k2]? = (some (q k2, .inr (2, [.ref (q (k2 + 1)), .int t4_0, .int t4_1])) : Option (Nat × va_E)) := hO113
    replace hO114 : w108[k2 + 1]? = (some (q (k2 + 1), .inl (g 0, R.toNatClampNeg, .inl t5_0)) : Option (Nat × va_E)) := hO114
    refine lv_iload hx hb d_12_2_68 (lv_at hl 0 rfl) ?_
    refine lv_sipush (v := 2100) hx hb d_12_2_70 (by decide) ?_
    refine q_join (X := Unit) (fun z H locs ls _ => q_Wd D g (va_A ws sz) s w108 H locs ∧ lv_has ls 9 [(3, .int y27), (0, .ref (q 39))] ∧ F_Wri_wholeText_J165 (F_Wri_wholeText_L22 R x3 t0_0 t1_0 t2_0 t2_1 t3_0 t4_0 t4_1 t5_0 p34 y27 f28 fm54) (F_Wri_wholeText_L68 (F_Wri_wholeText_L22 R x3 t0_0 t1_0 t2_0 t2_1 t3_0 t4_0 t4_1 t5_0 p34 y27 f28 fm54) R x3 t0_0 t1_0 t2_0 t2_1 t3_0 t4_0 t4_1 t5_0 p34 y27 f28 lx45 lx46 p82 fm119) R x3 t0_0 t1_0 t2_0 t2_1 t3_0 t4_0 t4_1 t5_0 p34 y27 f28 lx45 lx46 p82 lx93 lx94 lx95 lx96 lx97 lx98 = (F_Wri_wholeText R x3 t0_0 t1_0 t2_0 t2_1 t3_0 t4_0 t4_1 t5_0) ∧ True ∧ S_Wri_wholeText_J165 (S_Wri_wholeText_L22 R x3 t0_0 t1_0 t2_0 t2_1 t3_0 t4_0 t4_1 t5_0 p34 y27 f28 fm54) (S_Wri_wholeText_L68 (S_Wri_wholeText_L22 R x3 t0_0 t1_0 t2_0 t2_1 t3_0 t4_0 t4_1 t5_0 p34 y27 f28 fm54) R x3 t0_0 t1_0 t2_0 t2_1 t3_0 t4_0 t4_1 t5_0 p34 y27 f28 lx45 lx46 p82 fm119) R x3 t0_0 t1_0 t2_0 t2_1 t3_0 t4_0 t4_1 t5_0 p34 y27 f28 lx45 lx46 p82 lx93 lx94 lx95 lx96 lx97 lx98) (fun z => []) 165 0 0 ?_ ?_
    ·
      rintro _ H locs ls _ ⟨V, hl, hR127, hS128⟩
      replace hl : lv_has ls 9 [(3, .int y27), (0, .ref (q 39))] := hl
      refine lv_aload_n hx hb d_12_2_165 rfl (lv_at hl 1 rfl) ?_
      have hO132 := n_o39 hI
      refine q_get (ci := 9) (j := 0) (v := .ref (q 3)) C0 V i_Wri rfl rfl hO132 (by decide) w_329 rfl d_12_2_166 ?_
      refine q_get (ci := 1) (j := 2) (v := .int lx97) C0 V i_She rfl rfl hO109 (by decide) w_55 rfl d_12_2_169 ?_
      refine lv_iload_n hx hb d_12_2_172 rfl (lv_at hl 0 rfl) ?_
      refine lv_icmp_ne (tgt := 185) hx hb d_12_2_173 (by decide) (fun c133 => ?_) (fun c133 => ?_)
      ·
        have b134 : q_F (lx97.toInt ≠ y27.toInt) := (q_neI c133)
        refine lv_aload_n hx hb d_12_2_185 rfl (lv_at hl 1 rfl) ?_
        refine q_get (ci := 9) (j := 0) (v := .ref (q 3)) C0 V i_Wri rfl rfl hO132 (by decide) w_329 rfl d_12_2_186 ?_
        refine lv_iload_n hx hb d_12_2_189 rfl (lv_at hl 0 rfl) ?_
        have ob135 : True ∧ S_She_turn (11008 : Int32) (1376 : Int32) (1000000 : Int32) y27 lx97 lx98 := (by have h := hS128; rw [S_Wri_wholeText_J165.eq_1] at h; rw [if_neg c133] at h; with_reducible exact h.2.1)
        refine q_gov V (q_runV (As := [.int y27]) (rest := []) (d := 3) (mc := 0) (ms := 0) (ci := 1) C0 V rfl LV_Wri_66 (X_She_turn l D g q w108 3 11008 1376 1000000 (n_h3 g q) y27 hI lx97 hO109 lx98 hO110 ob135 _) rfl rfl hO109 rfl hl.1 rfl (Nat.le_of_ble_eq_true rfl) ⟨by decide, by decide⟩ ⟨Nat.le_of_ble_eq_true rfl, Nat.le_of_ble_eq_true rfl⟩ d_12_2_190) (fun u136 H locs hp137 V => ?_)
        obtain ⟨hI, hu141, f138, hA139, hE140⟩ := hp137
        replace hA139 : u136[4]? = (some (q 4, .inl (g 1, (1376 : Int32).toNatClampNeg, .inr (.inl f138))) : Option (Nat × va_E)) := hA139
        have e142 : f138 = (F_She_turn (11008 : Int32) (1376 : Int32) (1000000 : Int32) y27 lx97 lx98) := hE140
        replace hO109 := (hu141 _ (by decide)).trans hO109
        replace hO111 := (hu141 _ (by decide)).trans hO111
        replace hO112 := (hu141 _ (by decide)).trans hO112
        replace hF := q_uc hF hu141 (by simp)
        exact q_retv C0 V (⟨hI, hF, lx97, f138, lx94, lx95, lx96, hO109, hA139, hO111, hO112, (show 0 ≤ lx94.toInt from (by have t1 : lx95.toInt ≤ lx94.toInt + 1 := i104; have t2 : 0 ≤ lx94.toInt + lx95.toInt := i105; omega)), (show 0 ≤ lx95.toInt from (by first | with_reducible exact q_fe i100 | (have t1 : 0 ≤ lx95.toInt := i100; omega))), (show t4_1.toInt + 1 ≤ lx97.toInt from (by have t1 : t4_1.toInt ≤ y27.toInt := b30; have t2 : y27.toInt ≤ t4_1.toInt := b31; have t3 : t4_1.toInt ≤ lx97.toInt := i103; have t4 : lx97.toInt ≠ y27.toInt := b134; omega)), (show lx94.toInt ≤ t4_0.toInt from (by have t1 : y71.toInt ≤ t4_0.toInt := b76; have t2 : lx94.toInt ≤ y71.toInt := i101; omega)), (show lx95.toInt ≤ t4_1.toInt from (by first | with_reducible exact q_fe i102 | (have t1 : lx95.toInt ≤ t4_1.toInt := i102; omega))), (show (lx97, f138, lx94, lx95, lx96) = (F_Wri_wholeText R x3 t0_0 t1_0 t2_0 t2_1 t3_0 t4_0 t4_1 t5_0) from Eq.trans (by rw [e142, F_Wri_wholeText_J165.eq_1, if_neg c133]) hR127)⟩) d_12_2_193
      ·
        refine lv_aload_n hx hb d_12_2_176 rfl (lv_at hl 1 rfl) ?_
        refine q_get (ci := 9) (j := 0) (v := .ref (q 3)) C0 V i_Wri rfl rfl hO132 (by decide) w_329 rfl d_12_2_177 ?_
        refine lv_bipush (v := 48) hx hb d_12_2_180 (by decide) ?_
        have ob144 : True ∧ S_She_add (11008 : Int32) (1376 : Int32) (1000000 : Int32) (48 : Int32) lx97 lx98 := (by have h := hS128; rw [S_Wri_wholeText_J165.eq_1] at h; rw [if_pos c133] at h; with_reducible exact h.2.1)
        refine q_gov V (q_runV (As := [.int 48]) (rest := []) (d := 1) (mc := 0) (ms := 0) (ci := 1) C0 V rfl LV_Wri_62 (X_She_add l D g q w108 3 11008 1376 1000000 (n_h3 g q) 48 hI lx97 hO109 lx98 hO110 ob144 _) rfl rfl hO109 rfl hl.1 rfl (Nat.le_of_ble_eq_true rfl) ⟨by decide, by decide⟩ ⟨Nat.le_of_ble_eq_true rfl, Nat.le_of_ble_eq_true rfl⟩ d_12_2_182) (fun u145 H locs hp146 V => ?_)
        obtain ⟨hI, hZ9⟩ := hp146
        obtain ⟨hu155, hZ9⟩ := hZ9
        obtain ⟨y148, hZ9⟩ := hZ9
        obtain ⟨f149, hZ9⟩ := hZ9
        obtain ⟨hO147, hZ9⟩ := hZ9
        obtain ⟨hA150, hZ9⟩ := hZ9
        obtain ⟨b151, hZ9⟩ := hZ9
        replace hZ9 := hZ9.2
        obtain ⟨-, hE154⟩ := hZ9
        replace hO147 : u145[3]? = (some (q 3, .inr (1, [.ref (q 4), .int 11008, .int y148])) : Option (Nat × va_E)) := hO147
        replace hA150 : u145[4]? = (some (q 4, .inl (g 1, (1376 : Int32).toNatClampNeg, .inr (.inl f149))) : Option (Nat × va_E)) := hA150
        obtain ⟨p156, e157⟩ : ∃ z, z = (F_She_add (11008 : Int32) (1376 : Int32) (1000000 : Int32) (48 : Int32) lx97 lx98) := ⟨_, rfl⟩
        have e158 : y148 = p156.1 := congrArg (fun z => z.1) (hE154.trans e157.symm)
        have e159 : f149 = p156.2 := congrArg (fun z => z.2) (hE154.trans e157.symm)
        replace b151 : q_F (lx97.toInt + 1 ≤ y148.toInt) := b151
        replace hO111 := (hu155 _ (by decide)).trans hO111
        replace hO112 := (hu155 _ (by decide)).trans hO112
        replace hO132 := (hu155 _ (by decide)).trans hO132
        replace hF := q_uc hF hu155 (by simp)
        have hR160 := (show F_Wri_wholeText_c182 (F_Wri_wholeText_L22 R x3 t0_0 t1_0 t2_0 t2_1 t3_0 t4_0 t4_1 t5_0 p34 y27 f28 fm54) (F_Wri_wholeText_L68 (F_Wri_wholeText_L22 R x3 t0_0 t1_0 t2_0 t2_1 t3_0 t4_0 t4_1 t5_0 p34 y27 f28 fm54) R x3 t0_0 t1_0 t2_0 t2_1 t3_0 t4_0 t4_1 t5_0 p34 y27 f28 lx45 lx46 p82 fm119) R x3 t0_0 t1_0 t2_0 t2_1 t3_0 t4_0 t4_1 t5_0 p34 y27 f28 lx45 lx46 p82 lx93 lx94 lx95 lx96 lx97 lx98 p156 = (F_Wri_wholeText R x3 t0_0 t1_0 t2_0 t2_1 t3_0 t4_0 t4_1 t5_0) from Eq.trans (by rw [e157, F_Wri_wholeText_J165.eq_1, if_pos c133]) hR127)
        have hS161 := (show True ∧ S_Wri_wholeText_c182 (S_Wri_wholeText_L22 R x3 t0_0 t1_0 t2_0 t2_1 t3_0 t4_0 t4_1 t5_0 p34 y27 f28 fm54) (S_Wri_wholeText_L68 (S_Wri_wholeText_L22 R x3 t0_0 t1_0 t2_0 t2_1 t3_0 t4_0 t4_1 t5_0 p34 y27 f28 fm54) R x3 t0_0 t1_0 t2_0 t2_1 t3_0 t4_0 t4_1 t5_0 p34 y27 f28 lx45 lx46 p82 fm119) R x3 t0_0 t1_0 t2_0 t2_1 t3_0 t4_0 t4_1 t5_0 p34 y27 f28 lx45 lx46 p82 lx93 lx94 lx95 lx96 lx97 lx98 p156 from (by rw [e157]; have h := hS128; rw [S_Wri_wholeText_J165.eq_1] at h; rw [if_pos c133] at h; replace h := q_s2 h; with_reducible exact h))
        refine lv_aload_n hx hb d_12_2_185 rfl (lv_at hl 1 rfl) ?_
        refine q_get (ci := 9) (j := 0) (v := .ref (q 3)) C0 V i_Wri rfl rfl hO132 (by decide) w_329 rfl d_12_2_186 ?_
        refine lv_iload_n hx hb d_12_2_189 rfl (lv_at hl 0 rfl) ?_
        have ob165 : True ∧ S_She_turn (11008 : Int32) (1376 : Int32) (1000000 : Int32) y27 y148 f149 := (by rw [e159, e158]; have h := hS161; rw [S_Wri_wholeText_c182.eq_1] at h; with_reducible exact h.2.1)
        refine q_gov V (q_runV (As := [.int y27]) (rest := []) (d := 3) (mc := 0) (ms := 0) (ci := 1) C0 V rfl LV_Wri_66 (X_She_turn l D g q u145 3 11008 1376 1000000 (n_h3 g q) y27 hI y148 hO147 f149 hA150 ob165 _) rfl rfl hO147 rfl hl.1 rfl (Nat.le_of_ble_eq_true rfl) ⟨by decide, by decide⟩ ⟨Nat.le_of_ble_eq_true rfl, Nat.le_of_ble_eq_true rfl⟩ d_12_2_190) (fun u166 H locs hp167 V => ?_)
        obtain ⟨hI, hu171, f168, hA169, hE170⟩ := hp167
        replace hA169 : u166[4]? = (some (q 4, .inl (g 1, (1376 : Int32).toNatClampNeg, .inr (.inl f168))) : Option (Nat × va_E)) := hA169
        have e172 : f168 = (F_She_turn (11008 : Int32) (1376 : Int32) (1000000 : Int32) y27 y148 f149) := hE170
        replace hO147 := (hu171 _ (by decide)).trans hO147
        replace hO111 := (hu171 _ (by decide)).trans hO111
        replace hO112 := (hu171 _ (by decide)).trans hO112
        replace hF := q_uc hF hu171 (by simp)
        exact q_retv C0 V (⟨hI, hF, y148, f168, lx94, lx95, lx96, hO147, hA169, hO111, hO112, (show 0 ≤ lx94.toInt from (by have t1 : lx95.toInt ≤ lx94.toInt + 1 := i104; have t2 : 0 ≤ lx94.toInt + lx95.toInt := i105; omega)), (show 0 ≤ lx95.toInt from (by first | with_reducible exact q_fe i100 | (have t1 : 0 ≤ lx95.toInt := i100; omega))), (show t4_1.toInt + 1 ≤ y148.toInt from (by have t1 : t4_1.toInt ≤ lx97.toInt := i103; have t2 : lx97.toInt + 1 ≤ y148.toInt := b151; omega)), (show lx94.toInt ≤ t4_0.toInt from (by have t1 : y71.toInt ≤ t4_0.toInt := b76; have t2 : lx94.toInt ≤ y71.toInt := i101; omega)), (show lx95.toInt ≤ t4_1.toInt from (by first | with_reducible exact q_fe i102 | (have t1 : lx95.toInt ≤ t4_1.toInt := i102; omega))), (show (y148, f168, lx94, lx95, lx96) = (F_Wri_wholeText R x3 t0_0 t1_0 t2_0 t2_1 t3_0 t4_0 t4_1 t5_0) from Eq.trans (by rw [e172, e159, e158, F_Wri_wholeText_c182.eq_1]) hR160)⟩) d_12_2_193
    ·
      intro J126
      refine lv_icmp_ge (tgt := 165) hx hb d_12_2_73 (by decide) (fun c173 => ?_) (fun c173 => ?_)
      ·
        exact J126 (()) _ _ _ w108 ⟨V, q_lw hl (q_lw1 3 rfl (q_lw1 4 rfl q_lw0)), (show F_Wri_wholeText_J165 (F_Wri_wholeText_L22 R x3 t0_0 t1_0 t2_0 t2_1 t3_0 t4_0 t4_1 t5_0 p34 y27 f28 fm54) (F_Wri_wholeText_L68 (F_Wri_wholeText_L22 R x3 t0_0 t1_0 t2_0 t2_1 t3_0 t4_0 t4_1 t5_0 p34 y27 f28 fm54) R x3 t0_0 t1_0 t2_0 t2_1 t3_0 t4_0 t4_1 t5_0 p34 y27 f28 lx45 lx46 p82 fm119) R x3 t0_0 t1_0 t2_0 t2_1 t3_0 t4_0 t4_1 t5_0 p34 y27 f28 lx45 lx46 p82 lx93 lx94 lx95 lx96 lx97 lx98 = (F_Wri_wholeText R x3 t0_0 t1_0 t2_0 t2_1 t3_0 t4_0 t4_1 t5_0) from Eq.trans (by rw [F_Wri_wholeText_L68.eq_2, if_pos c173]) hR115), (show True ∧ S_Wri_wholeText_J165 (S_Wri_wholeText_L22 R x3 t0_0 t1_0 t2_0 t2_1 t3_0 t4_0 t4_1 t5_0 p34 y27 f28 fm54) (S_Wri_wholeText_L68 (S_Wri_wholeText_L22 R x3 t0_0 t1_0 t2_0 t2_1 t3_0 t4_0 t4_1 t5_0 p34 y27 f28 fm54) R x3 t0_0 t1_0 t2_0 t2_1 t3_0 t4_0 t4_1 t5_0 p34 y27 f28 lx45 lx46 p82 fm119) R x3 t0_0 t1_0 t2_0 t2_1 t3_0 t4_0 t4_1 t5_0 p34 y27 f28 lx45 lx46 p82 lx93 lx94 lx95 lx96 lx97 lx98 from (by have h := hS116; rw [S_Wri_wholeText_L68.eq_2] at h; rw [if_pos c173] at h; with_reducible exact h))⟩
      ·
        have b175 : q_F (lx93.toInt < 2100) := (q_nleI c173)
        refine lv_aload_n hx hb d_12_2_76 rfl (lv_at hl 4 rfl) ?_
        have hO176 := n_o39 hI
        refine q_get (ci := 9) (j := 1) (v := .ref (q 9)) C0 V i_Wri rfl rfl hO176 (by decide) w_330 rfl d_12_2_77 ?_
        have hO177 := n_o9 hI
        refine q_get (ci := 4) (j := 0) (v := .ref (q 10)) C0 V i_Mil rfl rfl hO177 (by decide) w_110 rfl d_12_2_80 ?_
        refine q_get (ci := 2) (j := 1) (v := .int lx94) C0 V i_Big rfl rfl hO111 (by decide) w_87 rfl d_12_2_83 ?_
        refine lv_if_le (tgt := 165) hx hb d_12_2_86 (by decide) (fun c178 => ?_) (fun c178 => ?_)
        ·
          exact J126 (()) _ _ _ w108 ⟨V, q_lw hl (q_lw1 3 rfl (q_lw1 4 rfl q_lw0)), (show F_Wri_wholeText_J165 (F_Wri_wholeText_L22 R x3 t0_0 t1_0 t2_0 t2_1 t3_0 t4_0 t4_1 t5_0 p34 y27 f28 fm54) (F_Wri_wholeText_L68 (F_Wri_wholeText_L22 R x3 t0_0 t1_0 t2_0 t2_1 t3_0 t4_0 t4_1 t5_0 p34 y27 f28 fm54) R x3 t0_0 t1_0 t2_0 t2_1 t3_0 t4_0 t4_1 t5_0 p34 y27 f28 lx45 lx46 p82 fm119) R x3 t0_0 t1_0 t2_0 t2_1 t3_0 t4_0 t4_1 t5_0 p34 y27 f28 lx45 lx46 p82 lx93 lx94 lx95 lx96 lx97 lx98 = (F_Wri_wholeText R x3 t0_0 t1_0 t2_0 t2_1 t3_0 t4_0 t4_1 t5_0) from Eq.trans (by rw [F_Wri_wholeText_L68.eq_2, if_neg c173, if_pos c178]) hR115), (show True ∧ S_Wri_wholeText_J165 (S_Wri_wholeText_L22 R x3 t0_0 t1_0 t2_0 t2_1 t3_0 t4_0 t4_1 t5_0 p34 y27 f28 fm54) (S_Wri_wholeText_L68 (S_Wri_wholeText_L22 R x3 t0_0 t1_0 t2_0 t2_1 t3_0 t4_0 t4_1 t5_0 p34 y27 f28 fm54) R x3 t0_0 t1_0 t2_0 t2_1 t3_0 t4_0 t4_1 t5_0 p34 y27 f28 lx45 lx46 p82 fm119) R x3 t0_0 t1_0 t2_0 t2_1 t3_0 t4_0 t4_1 t5_0 p34 y27 f28 lx45 lx46 p82 lx93 lx94 lx95 lx96 lx97 lx98 from (by have h := hS116; rw [S_Wri_wholeText_L68.eq_2] at h; rw [if_neg c173] at h; rw [if_pos c178] at h; with_reducible exact h))⟩
        ·
          refine lv_aload_n hx hb d_12_2_89 rfl (lv_at hl 4 rfl) ?_
          refine q_get (ci := 9) (j := 1) (v := .ref (q 9)) C0 V i_Wri rfl rfl hO176 (by decide) w_330 rfl d_12_2_90 ?_
          refine q_get (ci := 4) (j := 0) (v := .ref (q 10)) C0 V i_Mil rfl rfl hO177 (by decide) w_110 rfl d_12_2_93 ?_
          refine lv_iload hx hb d_12_2_96 (lv_at hl 1 rfl) ?_
          refine q_goi V (q_runV (As := [.int lx45]) (rest := []) (d := 2) (mc := 0) (ms := 0) (ci := 2) C0 V rfl LV_Wri_50 (X_Big_divideSmall l D g q w108 10 220 (n_b10 g q) (by decide) lx45 hI lx94 lx95 hO111 lx96 hO112  _) rfl rfl hO111 rfl hl.1 rfl (Nat.le_of_ble_eq_true rfl) ⟨by decide, by decide⟩ ⟨Nat.le_of_ble_eq_true rfl, Nat.le_of_ble_eq_true rfl⟩ d_12_2_98) (fun a183 u181 H locs hp182 V => ?_)
          obtain ⟨hI, hZ9⟩ := hp182
          obtain ⟨hu194, hZ9⟩ := hZ9
          obtain ⟨y185, hZ9⟩ := hZ9
          obtain ⟨y186, hZ9⟩ := hZ9
          obtain ⟨f187, hZ9⟩ := hZ9
          obtain ⟨hO184, hZ9⟩ := hZ9
          obtain ⟨hA188, hZ9⟩ := hZ9
          obtain ⟨b189, hZ9⟩ := hZ9
          obtain ⟨b190, hZ9⟩ := hZ9
          obtain ⟨b191, hZ9⟩ := hZ9
          obtain ⟨b192, hE193⟩ := hZ9
          replace hO184 : u181[10]? = (some (q 10, .inr (2, [.ref (q 11), .int y185, .int y186])) : Option (Nat × va_E)) := hO184
          replace hA188 : u181[11]? = (some (q 11, .inl (g 0, (220 : Int32).toNatClampNeg, .inl f187)) : Option (Nat × va_E)) := hA188
          obtain ⟨p195, e196⟩ : ∃ z, z = (F_Big_divideSmall (220 : Int32) lx45 lx94 lx95 lx96) := ⟨_, rfl⟩
          have e197 : a183 = p195.1 := congrArg (fun z => z.1) (hE193.trans e196.symm)
          have e198 : y185 = p195.2.1 := congrArg (fun z => z.2.1) (hE193.trans e196.symm)
          have e199 : y186 = p195.2.2.1 := congrArg (fun z => z.2.2.1) (hE193.trans e196.symm)
          have e200 : f187 = p195.2.2.2 := congrArg (fun z => z.2.2.2) (hE193.trans e196.symm)
          replace b189 : q_F (0 ≤ y186.toInt) := b189
          replace b190 : q_F (y185.toInt ≤ lx94.toInt) := b190
          replace b191 : q_F (y186.toInt ≤ lx95.toInt) := b191
          replace b192 : q_F (y186.toInt ≤ y185.toInt) := b192
          replace hO109 := (hu194 _ (by decide)).trans hO109
          replace hO110 := (hu194 _ (by decide)).trans hO110
          replace hO113 := (hu194 _ (by have z0 := zk2; simp only [List.mem_cons, List.not_mem_nil, or_false, not_or]; omega)).trans hO113
          replace hO114 := (hu194 _ (by have z0 := zk2; simp only [List.mem_cons, List.not_mem_nil, or_false, not_or]; omega)).trans hO114
          replace hF := q_uc hF hu194 (by simp)
          have hR201 := (show F_Wri_wholeText_c98 (F_Wri_wholeText_L22 R x3 t0_0 t1_0 t2_0 t2_1 t3_0 t4_0 t4_1 t5_0 p34 y27 f28 fm54) (F_Wri_wholeText_L68 (F_Wri_wholeText_L22 R x3 t0_0 t1_0 t2_0 t2_1 t3_0 t4_0 t4_1 t5_0 p34 y27 f28 fm54) R x3 t0_0 t1_0 t2_0 t2_1 t3_0 t4_0 t4_1 t5_0 p34 y27 f28 lx45 lx46 p82 fm119) R x3 t0_0 t1_0 t2_0 t2_1 t3_0 t4_0 t4_1 t5_0 p34 y27 f28 lx45 lx46 p82 lx93 lx94 lx95 lx96 lx97 lx98 p195 = (F_Wri_wholeText R x3 t0_0 t1_0 t2_0 t2_1 t3_0 t4_0 t4_1 t5_0) from Eq.trans (by rw [e196, F_Wri_wholeText_L68.eq_2, if_neg c173, if_neg c178]) hR115)
          have hS202 := (show True ∧ S_Wri_wholeText_c98 (S_Wri_wholeText_L22 R x3 t0_0 t1_0 t2_0 t2_1 t3_0 t4_0 t4_1 t5_0 p34 y27 f28 fm54) (S_Wri_wholeText_L68 (S_Wri_wholeText_L22 R x3 t0_0 t1_0 t2_0 t2_1 t3_0 t4_0 t4_1 t5_0 p34 y27 f28 fm54) R x3 t0_0 t1_0 t2_0 t2_1 t3_0 t4_0 t4_1 t5_0 p34 y27 f28 lx45 lx46 p82 fm119) R x3 t0_0 t1_0 t2_0 t2_1 t3_0 t4_0 t4_1 t5_0 p34 y27 f28 lx45 lx46 p82 lx93 lx94 lx95 lx96 lx97 lx98 p195 from (by rw [e196]; have h := hS116; rw [S_Wri_wholeText_L68.eq_2] at h; rw [if_neg c173] at h; rw [if_neg c178] at h; with_reducible exact h))
          refine lv_istore (lv' := [(7, .int a183), (6, .int lx93), (5, .int lx45), (4, .int lx46), (3, .int y27), (0, .ref (q 39)), (2, .int x3)]) hx hb d_12_2_101 hl (by decide) rfl (fun ls hl => ?_)
          refine lv_iconst (v := 0) hx hb d_12_2_103 (by decide) ?_
          refine lv_istore (lv' := [(8, .int 0), (7, .int a183), (6, .int lx93), (5, .int lx45), (4, .int lx46), (3, .int y27), (0, .ref (q 39)), (2, .int x3)]) hx hb d_12_2_104 hl (by decide) rfl (fun ls hl => ?_)
          refine q_loop (X := Int32 × Int32 × Int32 × (Nat → Int64)) (fun z H locs ls w217 => q_F (z.1.toInt ≤ 31) ∧ q_F (lx97.toInt ≤ z.1.toInt + z.2.2.1.toInt) ∧ q_F (z.2.2.1.toInt ≤ z.1.toInt + lx97.toInt) ∧ q_F (z.1.toInt + lx97.toInt ≤ z.2.2.1.toInt) ∧ q_Wd D g (va_A ws sz) s w217 H locs ∧ lv_has ls 9 [(8, .int z.1), (7, .int z.2.1), (6, .int lx93), (5, .int lx45), (4, .int lx46), (3, .int y27), (0, .ref (q 39)), (2, .int x3)] ∧ q_I (nsh g q) q w217 ∧ q_un ws w217 [3, 4, 10, 11] ∧ w217[3]? = (some (q 3, .inr (1, [.ref (q 4), .int 11008, .int z.2.2.1])) : Option (Nat × va_E)) ∧ w217[4]? = (some (q 4, .inl (g 1, (1376 : Int32).toNatClampNeg, .inr (.inl z.2.2.2))) : Option (Nat × va_E)) ∧ w217[10]? = (some (q 10, .inr (2, [.ref (q 11), .int y185, .int y186])) : Option (Nat × va_E)) ∧ w217[11]? = (some (q 11, .inl (g 0, (220 : Int32).toNatClampNeg, .inl f187)) : Option (Nat × va_E)) ∧ w217[k2]? = (some (q k2, .inr (2, [.ref (q (k2 + 1)), .int t4_0, .int t4_1])) : Option (Nat × va_E)) ∧ w217[k2 + 1]? = (some (q (k2 + 1), .inl (g 0, R.toNatClampNeg, .inl t5_0)) : Option (Nat × va_E)) ∧ (∃ n, (31 - z.1.toInt).toNat < n ∧ F_Wri_wholeText_L106 (F_Wri_wholeText_L22 R x3 t0_0 t1_0 t2_0 t2_1 t3_0 t4_0 t4_1 t5_0 p34 y27 f28 fm54) (F_Wri_wholeText_L68 (F_Wri_wholeText_L22 R x3 t0_0 t1_0 t2_0 t2_1 t3_0 t4_0 t4_1 t5_0 p34 y27 f28 fm54) R x3 t0_0 t1_0 t2_0 t2_1 t3_0 t4_0 t4_1 t5_0 p34 y27 f28 lx45 lx46 p82 fm119) R x3 t0_0 t1_0 t2_0 t2_1 t3_0 t4_0 t4_1 t5_0 p34 y27 f28 lx45 lx46 p82 lx93 lx94 lx95 lx96 lx97 lx98 p195 y185 y186 f187 n z.1 z.2.1 z.2.2.1 z.2.2.2 = (F_Wri_wholeText R x3 t0_0 t1_0 t2_0 t2_1 t3_0 t4_0 t4_1 t5_0) ∧ True ∧ S_Wri_wholeText_L106 (S_Wri_wholeText_L22 R x3 t0_0 t1_0 t2_0 t2_1 t3_0 t4_0 t4_1 t5_0 p34 y27 f28 fm54) (S_Wri_wholeText_L68 (S_Wri_wholeText_L22 R x3 t0_0 t1_0 t2_0 t2_1 t3_0 t4_0 t4_1 t5_0 p34 y27 f28 fm54) R x3 t0_0 t1_0 t2_0 t2_1 t3_0 t4_0 t4_1 t5_0 p34 y27 f28 lx45 lx46 p82 fm119) R x3 t0_0 t1_0 t2_0 t2_1 t3_0 t4_0 t4_1 t5_0 p34 y27 f28 lx45 lx46 p82 lx93 lx94 lx95 lx96 lx97 lx98 p195 y185 y186 f187 n z.1 z.2.1 z.2.2.1 z.2.2.2)) (fun z => (31 - z.1.toInt).toNat) ?_ ((0 : Int32), (a183 : Int32), (lx97 : Int32), (lx98 : (Nat → Int64))) _ _ _ u181 ⟨(show q_F (0 ≤ 31) from (show 0 ≤ 31 from by omega)), (show q_F (lx97.toInt ≤ 0 + lx97.toInt) from (show lx97.toInt ≤ 0 + lx97.toInt from by omega)), (show q_F (lx97.toInt ≤ 0 + lx97.toInt) from (show lx97.toInt ≤ 0 + lx97.toInt from by omega)), (show q_F (0 + lx97.toInt ≤ lx97.toInt) from (show 0 + lx97.toInt ≤ lx97.toInt from by omega)), V, q_lw hl (q_lw1 0 rfl (q_lw1 1 rfl (q_lw1 2 rfl (q_lw1 3 rfl (q_lw1 4 rfl (q_lw1 5 rfl (q_lw1 6 rfl (q_lw1 7 rfl q_lw0)))))))), hI, hF, hO109, hO110, hO184, hA188, hO113, hO114, ⟨((31 - (0 : Int32).toInt).toNat + 1), Nat.lt_succ_self _, (show F_Wri_wholeText_L106 (F_Wri_wholeText_L22 R x3 t0_0 t1_0 t2_0 t2_1 t3_0 t4_0 t4_1 t5_0 p34 y27 f28 fm54) (F_Wri_wholeText_L68 (F_Wri_wholeText_L22 R x3 t0_0 t1_0 t2_0 t2_1 t3_0 t4_0 t4_1 t5_0 p34 y27 f28 fm54) R x3 t0_0 t1_0 t2_0 t2_1 t3_0 t4_0 t4_1 t5_0 p34 y27 f28 lx45 lx46 p82 fm119) R x3 t0_0 t1_0 t2_0 t2_1 t3_0 t4_0 t4_1 t5_0 p34 y27 f28 lx45 lx46 p82 lx93 lx94 lx95 lx96 lx97 lx98 p195 y185 y186 f187 ((31 - (0 : Int32).toInt).toNat + 1) 0 a183 lx97 lx98 = (F_Wri_wholeText R x3 t0_0 t1_0 t2_0 t2_1 t3_0 t4_0 t4_1 t5_0) from Eq.trans (by rw [e200, e199, e198, e197, F_Wri_wholeText_c98.eq_1]) hR201), (show True ∧ S_Wri_wholeText_L106 (S_Wri_wholeText_L22 R x3 t0_0 t1_0 t2_0 t2_1 t3_0 t4_0 t4_1 t5_0 p34 y27 f28 fm54) (S_Wri_wholeText_L68 (S_Wri_wholeText_L22 R x3 t0_0 t1_0 t2_0 t2_1 t3_0 t4_0 t4_1 t5_0 p34 y27 f28 fm54) R x3 t0_0 t1_0 t2_0 t2_1 t3_0 t4_0 t4_1 t5_0 p34 y27 f28 lx45 lx46 p82 fm119) R x3 t0_0 t1_0 t2_0 t2_1 t3_0 t4_0 t4_1 t5_0 p34 y27 f28 lx45 lx46 p82 lx93 lx94 lx95 lx96 lx97 lx98 p195 y185 y186 f187 ((31 - (0 : Int32).toInt).toNat + 1) 0 a183 lx97 lx98 from (by rw [e200, e199, e198, e197]; have h := hS202; rw [S_Wri_wholeText_c98.eq_1] at h; with_reducible exact h))⟩⟩
          rintro ⟨lx208, lx209, lx210, lx211⟩ H locs ls w217 ⟨i212, i213, i214, i215, V, hl, hI, hF, hO218, hO219, hO220, hO221, hO222, hO223, ⟨fu226, hf227, hR224, hS225⟩⟩ ih216
          obtain ⟨fm228, rfl⟩ : ∃ m, fu226 = m + 1 := ⟨fu226 - 1, by omega⟩
          replace i212 : q_F (lx208.toInt ≤ 31) := i212
          replace i213 : q_F (lx97.toInt ≤ lx208.toInt + lx210.toInt) := i213
          replace i214 : q_F (lx210.toInt ≤ lx208.toInt + lx97.toInt) := i214
          replace i215 : q_F (lx208.toInt + lx97.toInt ≤ lx210.toInt) := i215
          replace hl : lv_has ls 9 [(8, .int lx208), (7, .int lx209), (6, .int lx93), (5, .int lx45), (4, .int lx46), (3, .int y27), (0, .ref (q 39)), (2, .int x3)] := hl
          replace hO218 : w217[3]? = (some (q 3, .inr (1, [.ref (q 4), .int 11008, .int lx210])) : Option (Nat × va_E)) := hO218
          replace hO219 : w217[4]? = (some (q 4, .inl (g 1, (1376 : Int32).toNatClampNeg, .inr (.inl lx211))) : Option (Nat × va_E)) := hO219
          replace hO220 : w217[10]? = (some (q 10, .inr (2, [.ref (q 11), .int y185, .int y186])) : Option (Nat × va_E)) := hO220
          replace hO221 : w217[11]? = (some (q 11, .inl (g 0, (220 : Int32).toNatClampNeg, .inl f187)) : Option (Nat × va_E)) := hO221
          replace hO222 : w217[k2]? = (some (q k2, .inr (2, [.ref (q (k2 + 1)), .int t4_0, .int t4_1])) : Option (Nat × va_E)) := hO222
          replace hO223 : w217[k2 + 1]? = (some (q (k2 + 1), .inl (g 0, R.toNatClampNeg, .inl t5_0)) : Option (Nat × va_E)) := hO223
          refine lv_iload hx hb d_12_2_106 (lv_at hl 0 rfl) ?_
          refine lv_iload hx hb d_12_2_108 (lv_at hl 4 rfl) ?_
          refine lv_icmp_ge (tgt := 159) hx hb d_12_2_110 (by decide) (fun c229 => ?_) (fun c229 => ?_)
          ·
            obtain ⟨a231, e232⟩ := q_nm (lx93 + 1 : Int32)
            have b233 : q_F (a231.toInt = lx93.toInt + 1) := (by rw [← e232]; exact q_addI (y := 1) rfl (by decide) (by have _ := q_lo32 (x := lx93); have _ := q_hi32 (x := lx93); have t1 : lx93.toInt ≤ 2100 := i99; omega) (by have _ := q_lo32 (x := lx93); have _ := q_hi32 (x := lx93); have t1 : lx93.toInt ≤ 2100 := i99; omega))
            refine lv_iinc (v := a231) (lv' := [(6, .int a231), (8, .int lx208), (7, .int lx209), (5, .int lx45), (4, .int lx46), (3, .int y27), (0, .ref (q 39)), (2, .int x3)]) hx hb d_12_2_159 hl (k := 2) rfl (e232) (by decide) rfl (fun ls hl => ?_)
            refine lv_goto (tgt := 68) hx hb d_12_2_162 (by decide) ?_
            exact ih107 ((a231 : Int32), (y185 : Int32), (y186 : Int32), (f187 : (Nat → Int32)), (lx210 : Int32), (lx211 : (Nat → Int64))) _ _ _ _ (show (2100 - a231.toInt).toNat < (2100 - lx93.toInt).toNat from by have t1 : a231.toInt = lx93.toInt + 1 := b233; have t2 : lx93.toInt ≤ 2100 := i99; have t3 : lx93.toInt < 2100 := b175; omega) ⟨(show q_F (a231.toInt ≤ 2100) from (show a231.toInt ≤ 2100 from by have t1 : lx93.toInt < 2100 := b175; have t2 : a231.toInt = lx93.toInt + 1 := b233; omega)), (show q_F (0 ≤ y186.toInt) from (show 0 ≤ y186.toInt from by have t1 : 0 ≤ y186.toInt := b189; omega)), (show q_F (y185.toInt ≤ y71.toInt) from (show y185.toInt ≤ y71.toInt from by have t1 : lx94.toInt ≤ y71.toInt := i101; have t2 : y185.toInt ≤ lx94.toInt := b190; omega)), (show q_F (y186.toInt ≤ t4_1.toInt) from (show y186.toInt ≤ t4_1.toInt from by have t1 : lx95.toInt ≤ t4_1.toInt := i102; have t2 : y186.toInt ≤ lx95.toInt := b191; omega)), (show q_F (t4_1.toInt ≤ lx210.toInt) from (show t4_1.toInt ≤ lx210.toInt from by have t1 : t4_1.toInt ≤ lx97.toInt := i103; have t2 : lx97.toInt ≤ lx208.toInt + lx210.toInt := i213; have t3 : lx208.toInt + lx97.toInt ≤ lx210.toInt := i215; omega)), (show q_F (y186.toInt ≤ y185.toInt + 1) from (show y186.toInt ≤ y185.toInt + 1 from by have t1 : y186.toInt ≤ y185.toInt := b192; omega)), (show q_F (0 ≤ y185.toInt + y186.toInt) from (show 0 ≤ y185.toInt + y186.toInt from by have t1 : 0 ≤ y186.toInt := b189; have t2 : y186.toInt ≤ y185.toInt := b192; omega)), (show q_F (y72.toInt ≤ a231.toInt + y186.toInt) from (show y72.toInt ≤ a231.toInt + y186.toInt from by have t1 : 0 ≤ t4_1.toInt ∧ t4_1.toInt ≤ 1 := btt4_1; have t2 : lx95.toInt ≤ t4_1.toInt := i102; have t3 : y72.toInt ≤ lx93.toInt + lx95.toInt := i106; have t4 : 0 ≤ y186.toInt := b189; have t5 : a231.toInt = lx93.toInt + 1 := b233; omega)), V, q_lw hl (q_lw1 0 rfl (q_lw1 3 rfl (q_lw1 4 rfl (q_lw1 5 rfl (q_lw1 6 rfl (q_lw1 7 rfl q_lw0)))))), hI, hF, hO218, hO219, hO220, hO221, hO222, hO223, ⟨fm119, Nat.lt_of_lt_of_le (show (2100 - a231.toInt).toNat < (2100 - lx93.toInt).toNat from by have t1 : a231.toInt = lx93.toInt + 1 := b233; have t2 : lx93.toInt ≤ 2100 := i99; have t3 : lx93.toInt < 2100 := b175; omega) (Nat.le_of_lt_succ hf118), (show F_Wri_wholeText_L68 (F_Wri_wholeText_L22 R x3 t0_0 t1_0 t2_0 t2_1 t3_0 t4_0 t4_1 t5_0 p34 y27 f28 fm54) R x3 t0_0 t1_0 t2_0 t2_1 t3_0 t4_0 t4_1 t5_0 p34 y27 f28 lx45 lx46 p82 fm119 a231 y185 y186 f187 lx210 lx211 = (F_Wri_wholeText R x3 t0_0 t1_0 t2_0 t2_1 t3_0 t4_0 t4_1 t5_0) from Eq.trans (by rw [← e232, F_Wri_wholeText_L106.eq_2, if_pos c229]) hR224), (show True ∧ S_Wri_wholeText_L68 (S_Wri_wholeText_L22 R x3 t0_0 t1_0 t2_0 t2_1 t3_0 t4_0 t4_1 t5_0 p34 y27 f28 fm54) R x3 t0_0 t1_0 t2_0 t2_1 t3_0 t4_0 t4_1 t5_0 p34 y27 f28 lx45 lx46 p82 fm119 a231 y185 y186 f187 lx210 lx211 from (by rw [← e232]; have h := hS225; rw [S_Wri_wholeText_L106.eq_2] at h; rw [if_pos c229] at h; with_reducible exact h))⟩⟩
          ·
            have b234 : q_F (lx208.toInt < lx46.toInt) := (q_nleI c229)
            refine lv_iload hx hb d_12_2_113 (lv_at hl 1 rfl) ?_
            refine q_join (X := Unit) (fun z H locs ls _ => q_Wd D g (va_A ws sz) s w217 H locs ∧ lv_has ls 9 [(8, .int lx208), (7, .int lx209), (6, .int lx93), (5, .int lx45), (4, .int lx46), (3, .int y27), (0, .ref (q 39)), (2, .int x3)] ∧ F_Wri_wholeText_J131 (F_Wri_wholeText_L22 R x3 t0_0 t1_0 t2_0 t2_1 t3_0 t4_0 t4_1 t5_0 p34 y27 f28 fm54) (F_Wri_wholeText_L68 (F_Wri_wholeText_L22 R x3 t0_0 t1_0 t2_0 t2_1 t3_0 t4_0 t4_1 t5_0 p34 y27 f28 fm54) R x3 t0_0 t1_0 t2_0 t2_1 t3_0 t4_0 t4_1 t5_0 p34 y27 f28 lx45 lx46 p82 fm119) (F_Wri_wholeText_L106 (F_Wri_wholeText_L22 R x3 t0_0 t1_0 t2_0 t2_1 t3_0 t4_0 t4_1 t5_0 p34 y27 f28 fm54) (F_Wri_wholeText_L68 (F_Wri_wholeText_L22 R x3 t0_0 t1_0 t2_0 t2_1 t3_0 t4_0 t4_1 t5_0 p34 y27 f28 fm54) R x3 t0_0 t1_0 t2_0 t2_1 t3_0 t4_0 t4_1 t5_0 p34 y27 f28 lx45 lx46 p82 fm119) R x3 t0_0 t1_0 t2_0 t2_1 t3_0 t4_0 t4_1 t5_0 p34 y27 f28 lx45 lx46 p82 lx93 lx94 lx95 lx96 lx97 lx98 p195 y185 y186 f187 fm228) R x3 t0_0 t1_0 t2_0 t2_1 t3_0 t4_0 t4_1 t5_0 p34 y27 f28 lx45 lx46 p82 lx93 lx94 lx95 lx96 lx97 lx98 p195 y185 y186 f187 lx208 lx209 lx210 lx211 = (F_Wri_wholeText R x3 t0_0 t1_0 t2_0 t2_1 t3_0 t4_0 t4_1 t5_0) ∧ True ∧ S_Wri_wholeText_J131 (S_Wri_wholeText_L22 R x3 t0_0 t1_0 t2_0 t2_1 t3_0 t4_0 t4_1 t5_0 p34 y27 f28 fm54) (S_Wri_wholeText_L68 (S_Wri_wholeText_L22 R x3 t0_0 t1_0 t2_0 t2_1 t3_0 t4_0 t4_1 t5_0 p34 y27 f28 fm54) R x3 t0_0 t1_0 t2_0 t2_1 t3_0 t4_0 t4_1 t5_0 p34 y27 f28 lx45 lx46 p82 fm119) (S_Wri_wholeText_L106 (S_Wri_wholeText_L22 R x3 t0_0 t1_0 t2_0 t2_1 t3_0 t4_0 t4_1 t5_0 p34 y27 f28 fm54) (S_Wri_wholeText_L68 (S_Wri_wholeText_L22 R x3 t0_0 t1_0 t2_0 t2_1 t3_0 t4_0 t4_1 t5_0 p34 y27 f28 fm54) R x3 t0_0 t1_0 t2_0 t2_1 t3_0 t4_0 t4_1 t5_0 p34 y27 f28 lx45 lx46 p82 fm119) R x3 t0_0 t1_0 t2_0 t2_1 t3_0 t4_0 t4_1 t5_0 p34 y27 f28 lx45 lx46 p82 lx93 lx94 lx95 lx96 lx97 lx98 p195 y185 y186 f187 fm228) R x3 t0_0 t1_0 t2_0 t2_1 t3_0 t4_0 t4_1 t5_0 p34 y27 f28 lx45 lx46 p82 lx93 lx94 lx95 lx96 lx97 lx98 p195 y185 y186 f187 lx208 lx209 lx210 lx211) (fun z => []) 131 0 0 ?_ ?_
            ·
              rintro _ H locs ls _ ⟨V, hl, hR242, hS243⟩
              replace hl : lv_has ls 9 [(8, .int lx208), (7, .int lx209), (6, .int lx93), (5, .int lx45), (4, .int lx46), (3, .int y27), (0, .ref (q 39)), (2, .int x3)] := hl
              refine lv_aload_n hx hb d_12_2_131 rfl (lv_at hl 6 rfl) ?_
              have hO247 := n_o39 hI
              refine q_get (ci := 9) (j := 0) (v := .ref (q 3)) C0 V i_Wri rfl rfl hO247 (by decide) w_329 rfl d_12_2_132 ?_
              refine q_ldcs (i := 22) C0 V rfl rfl d_12_2_135 ?_
              refine lv_iload hx hb d_12_2_137 (lv_at hl 1 rfl) ?_
              refine lv_iload_n hx hb d_12_2_139 rfl (lv_at hl 7 rfl) ?_
              have ob248 : q_F (1 ≤ x3.toInt) := (by have h := hS243; rw [S_Wri_wholeText_J131.eq_1] at h; exact h.2.1)
              refine lv_irem hx hb d_12_2_140 (s_nzI (by first | with_reducible exact q_fe ob248 | (have t1 : 1 ≤ x3.toInt := ob248; omega))) ?_
              obtain ⟨a249, e250⟩ := q_nm (lx209 - lx209 / x3 * x3 : Int32)
              refine q_ti (v := a249) e250 ?_
              have ob251 : q_F (0 ≤ a249.toInt) := (by rw [← e250]; have h := hS243; rw [S_Wri_wholeText_J131.eq_1] at h; replace h := q_s2 h; exact h.2.1)
              have ob252 : q_F (a249.toInt ≤ 35) := (by rw [← e250]; have h := hS243; rw [S_Wri_wholeText_J131.eq_1] at h; replace h := q_s2 h; replace h := q_s2 h; exact h.2.1)
              refine q_goi V (q_runVs (As := [.int a249]) (rest := [.ref (q 3)]) (d := 4) (mc := 0) (ms := 0) (i := 22) C0 V rfl LV_Wri_56 (X_jStr_charAt_22 l D g q w217  a249 hI  (by first | with_reducible exact q_fe ob251 | (have t1 : 0 ≤ a249.toInt := ob251; omega)) (by first | with_reducible exact q_fe ob252 | (have t1 : a249.toInt ≤ 35 := ob252; omega)) _) rfl rfl rfl hl.1 rfl (Nat.le_of_ble_eq_true rfl) ⟨by decide, by decide⟩ ⟨Nat.le_of_ble_eq_true rfl, Nat.le_of_ble_eq_true rfl⟩ d_12_2_141) (fun a255 u253 H locs hp254 V => ?_)
              obtain ⟨rfl, b256, b257, hE258⟩ := hp254
              have e259 : a255 = (F_jStr_charAt_22 a249) := hE258
              clear b256
              clear b257
              have ob260 : True ∧ S_She_add (11008 : Int32) (1376 : Int32) (1000000 : Int32) a255 lx210 lx211 := (by rw [e259, ← e250]; have h := hS243; rw [S_Wri_wholeText_J131.eq_1] at h; replace h := q_s2 h; replace h := q_s2 h; replace h := q_s2 h; with_reducible exact h.2.1)
              refine q_gov V (q_runV (As := [.int a255]) (rest := []) (d := 1) (mc := 0) (ms := 0) (ci := 1) C0 V rfl LV_Wri_62 (X_She_add l D g q w217 3 11008 1376 1000000 (n_h3 g q) a255 hI lx210 hO218 lx211 hO219 ob260 _) rfl rfl hO218 rfl hl.1 rfl (Nat.le_of_ble_eq_true rfl) ⟨by decide, by decide⟩ ⟨Nat.le_of_ble_eq_true rfl, Nat.le_of_ble_eq_true rfl⟩ d_12_2_144) (fun u261 H locs hp262 V => ?_)
              obtain ⟨hI, hZ9⟩ := hp262
              obtain ⟨hu271, hZ9⟩ := hZ9
              obtain ⟨y264, hZ9⟩ := hZ9
              obtain ⟨f265, hZ9⟩ := hZ9
              obtain ⟨hO263, hZ9⟩ := hZ9
              obtain ⟨hA266, hZ9⟩ := hZ9
              obtain ⟨b267, hZ9⟩ := hZ9
              obtain ⟨b268, hZ9⟩ := hZ9
              obtain ⟨-, hE270⟩ := hZ9
              replace hO263 : u261[3]? = (some (q 3, .inr (1, [.ref (q 4), .int 11008, .int y264])) : Option (Nat × va_E)) := hO263
              replace hA266 : u261[4]? = (some (q 4, .inl (g 1, (1376 : Int32).toNatClampNeg, .inr (.inl f265))) : Option (Nat × va_E)) := hA266
              obtain ⟨p272, e273⟩ : ∃ z, z = (F_She_add (11008 : Int32) (1376 : Int32) (1000000 : Int32) a255 lx210 lx211) := ⟨_, rfl⟩
              have e274 : y264 = p272.1 := congrArg (fun z => z.1) (hE270.trans e273.symm)
              have e275 : f265 = p272.2 := congrArg (fun z => z.2) (hE270.trans e273.symm)
              replace b267 : q_F (lx210.toInt + 1 ≤ y264.toInt) := b267
              replace b268 : q_F (y264.toInt ≤ lx210.toInt + 1) := b268
              replace hO220 := (hu271 _ (by decide)).trans hO220
              replace hO221 := (hu271 _ (by decide)).trans hO221
              replace hO222 := (hu271 _ (by have z0 := zk2; simp only [List.mem_cons, List.not_mem_nil, or_false, not_or]; omega)).trans hO222
              replace hO223 := (hu271 _ (by have z0 := zk2; simp only [List.mem_cons, List.not_mem_nil, or_false, not_or]; omega)).trans hO223
              replace hF := q_uc hF hu271 (by simp)
              have hR276 := (show F_Wri_wholeText_c144 (F_Wri_wholeText_L22 R x3 t0_0 t1_0 t2_0 t2_1 t3_0 t4_0 t4_1 t5_0 p34 y27 f28 fm54) (F_Wri_wholeText_L68 (F_Wri_wholeText_L22 R x3 t0_0 t1_0 t2_0 t2_1 t3_0 t4_0 t4_1 t5_0 p34 y27 f28 fm54) R x3 t0_0 t1_0 t2_0 t2_1 t3_0 t4_0 t4_1 t5_0 p34 y27 f28 lx45 lx46 p82 fm119) (F_Wri_wholeText_L106 (F_Wri_wholeText_L22 R x3 t0_0 t1_0 t2_0 t2_1 t3_0 t4_0 t4_1 t5_0 p34 y27 f28 fm54) (F_Wri_wholeText_L68 (F_Wri_wholeText_L22 R x3 t0_0 t1_0 t2_0 t2_1 t3_0 t4_0 t4_1 t5_0 p34 y27 f28 fm54) R x3 t0_0 t1_0 t2_0 t2_1 t3_0 t4_0 t4_1 t5_0 p34 y27 f28 lx45 lx46 p82 fm119) R x3 t0_0 t1_0 t2_0 t2_1 t3_0 t4_0 t4_1 t5_0 p34 y27 f28 lx45 lx46 p82 lx93 lx94 lx95 lx96 lx97 lx98 p195 y185 y186 f187 fm228) R x3 t0_0 t1_0 t2_0 t2_1 t3_0 t4_0 t4_1 t5_0 p34 y27 f28 lx45 lx46 p82 lx93 lx94 lx95 lx96 lx97 lx98 p195 y185 y186 f187 lx208 lx209 lx210 lx211 p272 = (F_Wri_wholeText R x3 t0_0 t1_0 t2_0 t2_1 t3_0 t4_0 t4_1 t5_0) from Eq.trans (by rw [e273, e259, ← e250, F_Wri_wholeText_J131.eq_1]) hR242)
              have hS277 := (show True ∧ S_Wri_wholeText_c144 (S_Wri_wholeText_L22 R x3 t0_0 t1_0 t2_0 t2_1 t3_0 t4_0 t4_1 t5_0 p34 y27 f28 fm54) (S_Wri_wholeText_L68 (S_Wri_wholeText_L22 R x3 t0_0 t1_0 t2_0 t2_1 t3_0 t4_0 t4_1 t5_0 p34 y27 f28 fm54) R x3 t0_0 t1_0 t2_0 t2_1 t3_0 t4_0 t4_1 t5_0 p34 y27 f28 lx45 lx46 p82 fm119) (S_Wri_wholeText_L106 (S_Wri_wholeText_L22 R x3 t0_0 t1_0 t2_0 t2_1 t3_0 t4_0 t4_1 t5_0 p34 y27 f28 fm54) (S_Wri_wholeText_L68 (S_Wri_wholeText_L22 R x3 t0_0 t1_0 t2_0 t2_1 t3_0 t4_0 t4_1 t5_0 p34 y27 f28 fm54) R x3 t0_0 t1_0 t2_0 t2_1 t3_0 t4_0 t4_1 t5_0 p34 y27 f28 lx45 lx46 p82 fm119) R x3 t0_0 t1_0 t2_0 t2_1 t3_0 t4_0 t4_1 t5_0 p34 y27 f28 lx45 lx46 p82 lx93 lx94 lx95 lx96 lx97 lx98 p195 y185 y186 f187 fm228) R x3 t0_0 t1_0 t2_0 t2_1 t3_0 t4_0 t4_1 t5_0 p34 y27 f28 lx45 lx46 p82 lx93 lx94 lx95 lx96 lx97 lx98 p195 y185 y186 f187 lx208 lx209 lx210 lx211 p272 from (by rw [e273, e259, ← e250]; have h := hS243; rw [S_Wri_wholeText_J131.eq_1] at h; replace h := q_s2 h; replace h := q_s2 h; replace h := q_s2 h; replace h := q_s2 h; with_reducible exact h))
              refine lv_iload hx hb d_12_2_147 (lv_at hl 1 rfl) ?_
              refine lv_iload_n hx hb d_12_2_149 rfl (lv_at hl 7 rfl) ?_
              refine lv_idiv hx hb d_12_2_150 (s_nzI (by first | with_reducible exact q_fe ob248 | (have t1 : 1 ≤ x3.toInt := ob248; omega))) ?_
              obtain ⟨a281, e282⟩ := q_nm (lx209 / x3 : Int32)
              refine q_ti (v := a281) e282 ?_
              refine lv_istore (lv' := [(7, .int a281), (8, .int lx208), (6, .int lx93), (5, .int lx45), (4, .int lx46), (3, .int y27), (0, .ref (q 39)), (2, .int x3)]) hx hb d_12_2_151 hl (by decide) rfl (fun ls hl => ?_)
              obtain ⟨a283, e284⟩ := q_nm (lx208 + 1 : Int32)
              have b285 : q_F (a283.toInt = lx208.toInt + 1) := (by rw [← e284]; exact q_addI (y := 1) rfl (by decide) (by have t1 : lx97.toInt ≤ lx208.toInt + lx210.toInt := i213; have t2 : lx210.toInt ≤ lx208.toInt + lx97.toInt := i214; have t3 : lx208.toInt ≤ 31 := i212; omega) (by have t1 : lx97.toInt ≤ lx208.toInt + lx210.toInt := i213; have t2 : lx210.toInt ≤ lx208.toInt + lx97.toInt := i214; have t3 : lx208.toInt ≤ 31 := i212; omega))
              refine lv_iinc (v := a283) (lv' := [(8, .int a283), (7, .int a281), (6, .int lx93), (5, .int lx45), (4, .int lx46), (3, .int y27), (0, .ref (q 39)), (2, .int x3)]) hx hb d_12_2_153 hl (k := 1) rfl (e284) (by decide) rfl (fun ls hl => ?_)
              refine lv_goto (tgt := 106) hx hb d_12_2_156 (by decide) ?_
              exact ih216 ((a283 : Int32), (a281 : Int32), (y264 : Int32), (f265 : (Nat → Int64))) _ _ _ _ (show (31 - a283.toInt).toNat < (31 - lx208.toInt).toNat from by have t1 : a283.toInt = lx208.toInt + 1 := b285; have t2 : lx208.toInt ≤ 31 := i212; have t3 : lx46.toInt ≤ 31 := i48; have t4 : lx208.toInt < lx46.toInt := b234; omega) ⟨(show q_F (a283.toInt ≤ 31) from (show a283.toInt ≤ 31 from by have t1 : lx46.toInt ≤ 31 := i48; have t2 : lx208.toInt < lx46.toInt := b234; have t3 : a283.toInt = lx208.toInt + 1 := b285; omega)), (show q_F (lx97.toInt ≤ a283.toInt + y264.toInt) from (show lx97.toInt ≤ a283.toInt + y264.toInt from by have t1 : lx97.toInt ≤ lx208.toInt + lx210.toInt := i213; have t2 : lx210.toInt + 1 ≤ y264.toInt := b267; have t3 : a283.toInt = lx208.toInt + 1 := b285; omega)), (show q_F (y264.toInt ≤ a283.toInt + lx97.toInt) from (show y264.toInt ≤ a283.toInt + lx97.toInt from by have t1 : lx210.toInt ≤ lx208.toInt + lx97.toInt := i214; have t2 : y264.toInt ≤ lx210.toInt + 1 := b268; have t3 : a283.toInt = lx208.toInt + 1 := b285; omega)), (show q_F (a283.toInt + lx97.toInt ≤ y264.toInt) from (show a283.toInt + lx97.toInt ≤ y264.toInt from by have t1 : lx208.toInt + lx97.toInt ≤ lx210.toInt := i215; have t2 : lx210.toInt + 1 ≤ y264.toInt := b267; have t3 : a283.toInt = lx208.toInt + 1 := b285; omega)), V, q_lw hl (q_lw1 0 rfl (q_lw1 1 rfl (q_lw1 2 rfl (q_lw1 3 rfl (q_lw1 4 rfl (q_lw1 5 rfl (q_lw1 6 rfl (q_lw1 7 rfl q_lw0)))))))), hI, hF, hO263, hA266, hO220, hO221, hO222, hO223, ⟨fm228, Nat.lt_of_lt_of_le (show (31 - a283.toInt).toNat < (31 - lx208.toInt).toNat from by have t1 : a283.toInt = lx208.toInt + 1 := b285; have t2 : lx208.toInt ≤ 31 := i212; have t3 : lx46.toInt ≤ 31 := i48; have t4 : lx208.toInt < lx46.toInt := b234; omega) (Nat.le_of_lt_succ hf227), (show F_Wri_wholeText_L106 (F_Wri_wholeText_L22 R x3 t0_0 t1_0 t2_0 t2_1 t3_0 t4_0 t4_1 t5_0 p34 y27 f28 fm54) (F_Wri_wholeText_L68 (F_Wri_wholeText_L22 R x3 t0_0 t1_0 t2_0 t2_1 t3_0 t4_0 t4_1 t5_0 p34 y27 f28 fm54) R x3 t0_0 t1_0 t2_0 t2_1 t3_0 t4_0 t4_1 t5_0 p34 y27 f28 lx45 lx46 p82 fm119) R x3 t0_0 t1_0 t2_0 t2_1 t3_0 t4_0 t4_1 t5_0 p34 y27 f28 lx45 lx46 p82 lx93 lx94 lx95 lx96 lx97 lx98 p195 y185 y186 f187 fm228 a283 a281 y264 f265 = (F_Wri_wholeText R x3 t0_0 t1_0 t2_0 t2_1 t3_0 t4_0 t4_1 t5_0) from Eq.trans (by rw [← e284, ← e282, e275, e274, F_Wri_wholeText_c144.eq_1]) hR276), (show True ∧ S_Wri_wholeText_L106 (S_Wri_wholeText_L22 R x3 t0_0 t1_0 t2_0 t2_1 t3_0 t4_0 t4_1 t5_0 p34 y27 f28 fm54) (S_Wri_wholeText_L68 (S_Wri_wholeText_L22 R x3 t0_0 t1_0 t2_0 t2_1 t3_0 t4_0 t4_1 t5_0 p34 y27 f28 fm54) R x3 t0_0 t1_0 t2_0 t2_1 t3_0 t4_0 t4_1 t5_0 p34 y27 f28 lx45 lx46 p82 fm119) R x3 t0_0 t1_0 t2_0 t2_1 t3_0 t4_0 t4_1 t5_0 p34 y27 f28 lx45 lx46 p82 lx93 lx94 lx95 lx96 lx97 lx98 p195 y185 y186 f187 fm228 a283 a281 y264 f265 from (by rw [← e284, ← e282, e275, e274]; have h := hS277; rw [S_Wri_wholeText_c144.eq_1] at h; with_reducible exact h))⟩⟩
            ·
              intro J241
              refine lv_if_gt (tgt := 131) hx hb d_12_2_115 (by decide) (fun c286 => ?_) (fun c286 => ?_)
              ·
                exact J241 (()) _ _ _ w217 ⟨V, q_lw hl (q_lw1 0 rfl (q_lw1 1 rfl (q_lw1 2 rfl (q_lw1 3 rfl (q_lw1 4 rfl (q_lw1 5 rfl (q_lw1 6 rfl (q_lw1 7 rfl q_lw0)))))))), (show F_Wri_wholeText_J131 (F_Wri_wholeText_L22 R x3 t0_0 t1_0 t2_0 t2_1 t3_0 t4_0 t4_1 t5_0 p34 y27 f28 fm54) (F_Wri_wholeText_L68 (F_Wri_wholeText_L22 R x3 t0_0 t1_0 t2_0 t2_1 t3_0 t4_0 t4_1 t5_0 p34 y27 f28 fm54) R x3 t0_0 t1_0 t2_0 t2_1 t3_0 t4_0 t4_1 t5_0 p34 y27 f28 lx45 lx46 p82 fm119) (F_Wri_wholeText_L106 (F_Wri_wholeText_L22 R x3 t0_0 t1_0 t2_0 t2_1 t3_0 t4_0 t4_1 t5_0 p34 y27 f28 fm54) (F_Wri_wholeText_L68 (F_Wri_wholeText_L22 R x3 t0_0 t1_0 t2_0 t2_1 t3_0 t4_0 t4_1 t5_0 p34 y27 f28 fm54) R x3 t0_0 t1_0 t2_0 t2_1 t3_0 t4_0 t4_1 t5_0 p34 y27 f28 lx45 lx46 p82 fm119) R x3 t0_0 t1_0 t2_0 t2_1 t3_0 t4_0 t4_1 t5_0 p34 y27 f28 lx45 lx46 p82 lx93 lx94 lx95 lx96 lx97 lx98 p195 y185 y186 f187 fm228) R x3 t0_0 t1_0 t2_0 t2_1 t3_0 t4_0 t4_1 t5_0 p34 y27 f28 lx45 lx46 p82 lx93 lx94 lx95 lx96 lx97 lx98 p195 y185 y186 f187 lx208 lx209 lx210 lx211 = (F_Wri_wholeText R x3 t0_0 t1_0 t2_0 t2_1 t3_0 t4_0 t4_1 t5_0) from Eq.trans (by rw [F_Wri_wholeText_L106.eq_2, if_neg c229, if_pos c286]) hR224), (show True ∧ S_Wri_wholeText_J131 (S_Wri_wholeText_L22 R x3 t0_0 t1_0 t2_0 t2_1 t3_0 t4_0 t4_1 t5_0 p34 y27 f28 fm54) (S_Wri_wholeText_L68 (S_Wri_wholeText_L22 R x3 t0_0 t1_0 t2_0 t2_1 t3_0 t4_0 t4_1 t5_0 p34 y27 f28 fm54) R x3 t0_0 t1_0 t2_0 t2_1 t3_0 t4_0 t4_1 t5_0 p34 y27 f28 lx45 lx46 p82 fm119) (S_Wri_wholeText_L106 (S_Wri_wholeText_L22 R x3 t0_0 t1_0 t2_0 t2_1 t3_0 t4_0 t4_1 t5_0 p34 y27 f28 fm54) (S_Wri_wholeText_L68 (S_Wri_wholeText_L22 R x3 t0_0 t1_0 t2_0 t2_1 t3_0 t4_0 t4_1 t5_0 p34 y27 f28 fm54) R x3 t0_0 t1_0 t2_0 t2_1 t3_0 t4_0 t4_1 t5_0 p34 y27 f28 lx45 lx46 p82 fm119) R x3 t0_0 t1_0 t2_0 t2_1 t3_0 t4_0 t4_1 t5_0 p34 y27 f28 lx45 lx46 p82 lx93 lx94 lx95 lx96 lx97 lx98 p195 y185 y186 f187 fm228) R x3 t0_0 t1_0 t2_0 t2_1 t3_0 t4_0 t4_1 t5_0 p34 y27 f28 lx45 lx46 p82 lx93 lx94 lx95 lx96 lx97 lx98 p195 y185 y186 f187 lx208 lx209 lx210 lx211 from (by have h := hS225; rw [S_Wri_wholeText_L106.eq_2] at h; rw [if_neg c229] at h; rw [if_pos c286] at h; with_reducible exact h))⟩
              ·
                refine lv_aload_n hx hb d_12_2_118 rfl (lv_at hl 6 rfl) ?_
                have hO289 := n_o39 hI
                refine q_get (ci := 9) (j := 1) (v := .ref (q 9)) C0 V i_Wri rfl rfl hO289 (by decide) w_330 rfl d_12_2_119 ?_
                have hO290 := n_o9 hI
                refine q_get (ci := 4) (j := 0) (v := .ref (q 10)) C0 V i_Mil rfl rfl hO290 (by decide) w_110 rfl d_12_2_122 ?_
                refine q_get (ci := 2) (j := 1) (v := .int y185) C0 V i_Big rfl rfl hO220 (by decide) w_87 rfl d_12_2_125 ?_
                refine lv_if_le (tgt := 159) hx hb d_12_2_128 (by decide) (fun c291 => ?_) (fun c291 => ?_)
                ·
                  obtain ⟨a293, e294⟩ := q_nm (lx93 + 1 : Int32)
                  have b295 : q_F (a293.toInt = lx93.toInt + 1) := (by rw [← e294]; exact q_addI (y := 1) rfl (by decide) (by have _ := q_lo32 (x := lx93); have _ := q_hi32 (x := lx93); have t1 : lx93.toInt ≤ 2100 := i99; omega) (by have _ := q_lo32 (x := lx93); have _ := q_hi32 (x := lx93); have t1 : lx93.toInt ≤ 2100 := i99; omega))
                  refine lv_iinc (v := a293) (lv' := [(6, .int a293), (8, .int lx208), (7, .int lx209), (5, .int lx45), (4, .int lx46), (3, .int y27), (0, .ref (q 39)), (2, .int x3)]) hx hb d_12_2_159 hl (k := 2) rfl (e294) (by decide) rfl (fun ls hl => ?_)
                  refine lv_goto (tgt := 68) hx hb d_12_2_162 (by decide) ?_
                  exact ih107 ((a293 : Int32), (y185 : Int32), (y186 : Int32), (f187 : (Nat → Int32)), (lx210 : Int32), (lx211 : (Nat → Int64))) _ _ _ _ (show (2100 - a293.toInt).toNat < (2100 - lx93.toInt).toNat from by have t1 : a293.toInt = lx93.toInt + 1 := b295; have t2 : lx93.toInt ≤ 2100 := i99; have t3 : lx93.toInt < 2100 := b175; omega) ⟨(show q_F (a293.toInt ≤ 2100) from (show a293.toInt ≤ 2100 from by have t1 : lx93.toInt < 2100 := b175; have t2 : a293.toInt = lx93.toInt + 1 := b295; omega)), (show q_F (0 ≤ y186.toInt) from (show 0 ≤ y186.toInt from by have t1 : 0 ≤ y186.toInt := b189; omega)), (show q_F (y185.toInt ≤ y71.toInt) from (show y185.toInt ≤ y71.toInt from by have t1 : lx94.toInt ≤ y71.toInt := i101; have t2 : y185.toInt ≤ lx94.toInt := b190; omega)), (show q_F (y186.toInt ≤ t4_1.toInt) from (show y186.toInt ≤ t4_1.toInt from by have t1 : lx95.toInt ≤ t4_1.toInt := i102; have t2 : y186.toInt ≤ lx95.toInt := b191; omega)), (show q_F (t4_1.toInt ≤ lx210.toInt) from (show t4_1.toInt ≤ lx210.toInt from by have t1 : t4_1.toInt ≤ lx97.toInt := i103; have t2 : lx97.toInt ≤ lx208.toInt + lx210.toInt := i213; have t3 : lx208.toInt + lx97.toInt ≤ lx210.toInt := i215; omega)), (show q_F (y186.toInt ≤ y185.toInt + 1) from (show y186.toInt ≤ y185.toInt + 1 from by have t1 : y186.toInt ≤ y185.toInt := b192; omega)), (show q_F (0 ≤ y185.toInt + y186.toInt) from (show 0 ≤ y185.toInt + y186.toInt from by have t1 : 0 ≤ y186.toInt := b189; have t2 : y186.toInt ≤ y185.toInt := b192; omega)), (show q_F (y72.toInt ≤ a293.toInt + y186.toInt) from (show y72.toInt ≤ a293.toInt + y186.toInt from by have t1 : 0 ≤ t4_1.toInt ∧ t4_1.toInt ≤ 1 := btt4_1; have t2 : lx95.toInt ≤ t4_1.toInt := i102; have t3 : y72.toInt ≤ lx93.toInt + lx95.toInt := i106; have t4 : 0 ≤ y186.toInt := b189; have t5 : a293.toInt = lx93.toInt + 1 := b295; omega)), V, q_lw hl (q_lw1 0 rfl (q_lw1 3 rfl (q_lw1 4 rfl (q_lw1 5 rfl (q_lw1 6 rfl (q_lw1 7 rfl q_lw0)))))), hI, hF, hO218, hO219, hO220, hO221, hO222, hO223, ⟨fm119, Nat.lt_of_lt_of_le (show (2100 - a293.toInt).toNat < (2100 - lx93.toInt).toNat from by have t1 : a293.toInt = lx93.toInt + 1 := b295; have t2 : lx93.toInt ≤ 2100 := i99; have t3 : lx93.toInt < 2100 := b175; omega) (Nat.le_of_lt_succ hf118), (show F_Wri_wholeText_L68 (F_Wri_wholeText_L22 R x3 t0_0 t1_0 t2_0 t2_1 t3_0 t4_0 t4_1 t5_0 p34 y27 f28 fm54) R x3 t0_0 t1_0 t2_0 t2_1 t3_0 t4_0 t4_1 t5_0 p34 y27 f28 lx45 lx46 p82 fm119 a293 y185 y186 f187 lx210 lx211 = (F_Wri_wholeText R x3 t0_0 t1_0 t2_0 t2_1 t3_0 t4_0 t4_1 t5_0) from Eq.trans (by rw [← e294, F_Wri_wholeText_L106.eq_2, if_neg c229, if_neg c286, if_pos c291]) hR224), (show True ∧ S_Wri_wholeText_L68 (S_Wri_wholeText_L22 R x3 t0_0 t1_0 t2_0 t2_1 t3_0 t4_0 t4_1 t5_0 p34 y27 f28 fm54) R x3 t0_0 t1_0 t2_0 t2_1 t3_0 t4_0 t4_1 t5_0 p34 y27 f28 lx45 lx46 p82 fm119 a293 y185 y186 f187 lx210 lx211 from (by rw [← e294]; have h := hS225; rw [S_Wri_wholeText_L106.eq_2] at h; rw [if_neg c229] at h; rw [if_neg c286] at h; rw [if_pos c291] at h; with_reducible exact h))⟩⟩
                ·
                  exact J241 (()) _ _ _ w217 ⟨V, q_lw hl (q_lw1 0 rfl (q_lw1 1 rfl (q_lw1 2 rfl (q_lw1 3 rfl (q_lw1 4 rfl (q_lw1 5 rfl (q_lw1 6 rfl (q_lw1 7 rfl q_lw0)))))))), (show F_Wri_wholeText_J131 (F_Wri_wholeText_L22 R x3 t0_0 t1_0 t2_0 t2_1 t3_0 t4_0 t4_1 t5_0 p34 y27 f28 fm54) (F_Wri_wholeText_L68 (F_Wri_wholeText_L22 R x3 t0_0 t1_0 t2_0 t2_1 t3_0 t4_0 t4_1 t5_0 p34 y27 f28 fm54) R x3 t0_0 t1_0 t2_0 t2_1 t3_0 t4_0 t4_1 t5_0 p34 y27 f28 lx45 lx46 p82 fm119) (F_Wri_wholeText_L106 (F_Wri_wholeText_L22 R x3 t0_0 t1_0 t2_0 t2_1 t3_0 t4_0 t4_1 t5_0 p34 y27 f28 fm54) (F_Wri_wholeText_L68 (F_Wri_wholeText_L22 R x3 t0_0 t1_0 t2_0 t2_1 t3_0 t4_0 t4_1 t5_0 p34 y27 f28 fm54) R x3 t0_0 t1_0 t2_0 t2_1 t3_0 t4_0 t4_1 t5_0 p34 y27 f28 lx45 lx46 p82 fm119) R x3 t0_0 t1_0 t2_0 t2_1 t3_0 t4_0 t4_1 t5_0 p34 y27 f28 lx45 lx46 p82 lx93 lx94 lx95 lx96 lx97 lx98 p195 y185 y186 f187 fm228) R x3 t0_0 t1_0 t2_0 t2_1 t3_0 t4_0 t4_1 t5_0 p34 y27 f28 lx45 lx46 p82 lx93 lx94 lx95 lx96 lx97 lx98 p195 y185 y186 f187 lx208 lx209 lx210 lx211 = (F_Wri_wholeText R x3 t0_0 t1_0 t2_0 t2_1 t3_0 t4_0 t4_1 t5_0) from Eq.trans (by rw [F_Wri_wholeText_L106.eq_2, if_neg c229, if_neg c286, if_neg c291]) hR224), (show True ∧ S_Wri_wholeText_J131 (S_Wri_wholeText_L22 R x3 t0_0 t1_0 t2_0 t2_1 t3_0 t4_0 t4_1 t5_0 p34 y27 f28 fm54) (S_Wri_wholeText_L68 (S_Wri_wholeText_L22 R x3 t0_0 t1_0 t2_0 t2_1 t3_0 t4_0 t4_1 t5_0 p34 y27 f28 fm54) R x3 t0_0 t1_0 t2_0 t2_1 t3_0 t4_0 t4_1 t5_0 p34 y27 f28 lx45 lx46 p82 fm119) (S_Wri_wholeText_L106 (S_Wri_wholeText_L22 R x3 t0_0 t1_0 t2_0 t2_1 t3_0 t4_0 t4_1 t5_0 p34 y27 f28 fm54) (S_Wri_wholeText_L68 (S_Wri_wholeText_L22 R x3 t0_0 t1_0 t2_0 t2_1 t3_0 t4_0 t4_1 t5_0 p34 y27 f28 fm54) R x3 t0_0 t1_0 t2_0 t2_1 t3_0 t4_0 t4_1 t5_0 p34 y27 f28 lx45 lx46 p82 fm119) R x3 t0_0 t1_0 t2_0 t2_1 t3_0 t4_0 t4_1 t5_0 p34 y27 f28 lx45 lx46 p82 lx93 lx94 lx95 lx96 lx97 lx98 p195 y185 y186 f187 fm228) R x3 t0_0 t1_0 t2_0 t2_1 t3_0 t4_0 t4_1 t5_0 p34 y27 f28 lx45 lx46 p82 lx93 lx94 lx95 lx96 lx97 lx98 p195 y185 y186 f187 lx208 lx209 lx210 lx211 from (by have h := hS225; rw [S_Wri_wholeText_L106.eq_2] at h; rw [if_neg c229] at h; rw [if_neg c286] at h; rw [if_neg c291] at h; with_reducible exact h))⟩
  ·
    intro J61
    refine lv_icmp_ge (tgt := 54) hx hb d_12_2_26 (by decide) (fun c297 => ?_) (fun c297 => ?_)
    ·
      exact J61 (()) _ _ _ u24 ⟨V, q_lw hl (q_lw1 0 rfl (q_lw1 1 rfl (q_lw1 2 rfl (q_lw1 3 rfl (q_lw1 4 rfl (q_lw1 5 rfl q_lw0)))))), (show F_Wri_wholeText_J54 (F_Wri_wholeText_L22 R x3 t0_0 t1_0 t2_0 t2_1 t3_0 t4_0 t4_1 t5_0 p34 y27 f28 fm54) R x3 t0_0 t1_0 t2_0 t2_1 t3_0 t4_0 t4_1 t5_0 p34 y27 f28 lx45 lx46 = (F_Wri_wholeText R x3 t0_0 t1_0 t2_0 t2_1 t3_0 t4_0 t4_1 t5_0) from Eq.trans (by rw [F_Wri_wholeText_L22.eq_2, if_pos c297]) hR50), (show True ∧ S_Wri_wholeText_J54 (S_Wri_wholeText_L22 R x3 t0_0 t1_0 t2_0 t2_1 t3_0 t4_0 t4_1 t5_0 p34 y27 f28 fm54) R x3 t0_0 t1_0 t2_0 t2_1 t3_0 t4_0 t4_1 t5_0 p34 y27 f28 lx45 lx46 from (by have h := hS51; rw [S_Wri_wholeText_L22.eq_2] at h; rw [if_pos c297] at h; with_reducible exact h))⟩
    ·
      have b299 : q_F (lx46.toInt < 31) := (q_nleI c297)
      refine lv_iload hx hb d_12_2_29 (lv_at hl 0 rfl) ?_
      refine lv_i2l hx hb d_12_2_31 rfl ?_
      obtain ⟨j300, e301⟩ := q_nm (lx45.toInt64 : Int64)
      refine q_tl (v := j300) e301 ?_
      refine lv_iload_n hx hb d_12_2_32 rfl (lv_at hl 5 rfl) ?_
      refine lv_i2l hx hb d_12_2_33 rfl ?_
      obtain ⟨j303, e304⟩ := q_nm (x3.toInt64 : Int64)
      refine q_tl (v := j303) e304 ?_
      refine lv_lmul hx hb d_12_2_34 ?_
      obtain ⟨j306, e307⟩ := q_nm (j300 * j303 : Int64)
      refine q_tl (v := j306) e307 ?_
      refine q_ldc2 C0 rfl w_1547 d_12_2_35 ?_
      refine W.lcmp hx hb d_12_2_38 ?_
      obtain ⟨a308, e309⟩ := q_nm (lg_cmp j306 2147483647 : Int32)
      refine q_ti (v := a308) e309 ?_
      refine lv_if_gt (tgt := 54) hx hb d_12_2_39 (by decide) (fun c311 => ?_) (fun c311 => ?_)
      ·
        exact J61 (()) _ _ _ u24 ⟨V, q_lw hl (q_lw1 0 rfl (q_lw1 1 rfl (q_lw1 2 rfl (q_lw1 3 rfl (q_lw1 4 rfl (q_lw1 5 rfl q_lw0)))))), (show F_Wri_wholeText_J54 (F_Wri_wholeText_L22 R x3 t0_0 t1_0 t2_0 t2_1 t3_0 t4_0 t4_1 t5_0 p34 y27 f28 fm54) R x3 t0_0 t1_0 t2_0 t2_1 t3_0 t4_0 t4_1 t5_0 p34 y27 f28 lx45 lx46 = (F_Wri_wholeText R x3 t0_0 t1_0 t2_0 t2_1 t3_0 t4_0 t4_1 t5_0) from Eq.trans (by have c311x := c311; rw [← e309, ← e307, ← e304, ← e301] at c311x; rw [F_Wri_wholeText_L22.eq_2, if_neg c297, if_pos c311x]) hR50), (show True ∧ S_Wri_wholeText_J54 (S_Wri_wholeText_L22 R x3 t0_0 t1_0 t2_0 t2_1 t3_0 t4_0 t4_1 t5_0 p34 y27 f28 fm54) R x3 t0_0 t1_0 t2_0 t2_1 t3_0 t4_0 t4_1 t5_0 p34 y27 f28 lx45 lx46 from (by have h := hS51; rw [S_Wri_wholeText_L22.eq_2] at h; rw [if_neg c297] at h; have c311x := c311; rw [← e309, ← e307, ← e304, ← e301] at c311x; rw [if_pos c311x] at h; with_reducible exact h))⟩
      ·
        refine lv_iload hx hb d_12_2_42 (lv_at hl 0 rfl) ?_
        refine lv_iload_n hx hb d_12_2_44 rfl (lv_at hl 5 rfl) ?_
        refine lv_imul hx hb d_12_2_45 ?_
        obtain ⟨a314, e315⟩ := q_nm (lx45 * x3 : Int32)
        refine q_ti (v := a314) e315 ?_
        refine lv_istore (lv' := [(5, .int a314), (4, .int lx46), (3, .int y27), (0, .ref (q 39)), (1, .ref (q k2)), (2, .int x3)]) hx hb d_12_2_46 hl (by decide) rfl (fun ls hl => ?_)
        obtain ⟨a316, e317⟩ := q_nm (lx46 + 1 : Int32)
        have b318 : q_F (a316.toInt = lx46.toInt + 1) := (by rw [← e317]; exact q_addI (y := 1) rfl (by decide) (by have t1 : 1 ≤ lx46.toInt := i47; have t2 : lx46.toInt ≤ 31 := i48; omega) (by have t1 : 1 ≤ lx46.toInt := i47; have t2 : lx46.toInt ≤ 31 := i48; omega))
        refine lv_iinc (v := a316) (lv' := [(4, .int a316), (5, .int a314), (3, .int y27), (0, .ref (q 39)), (1, .ref (q k2)), (2, .int x3)]) hx hb d_12_2_48 hl (k := 1) rfl (e317) (by decide) rfl (fun ls hl => ?_)
        refine lv_goto (tgt := 22) hx hb d_12_2_51 (by decide) ?_
        exact ih49 ((a314 : Int32), (a316 : Int32)) _ _ _ u24 (show (31 - a316.toInt).toNat < (31 - lx46.toInt).toNat from by have t1 : a316.toInt = lx46.toInt + 1 := b318; have t2 : lx46.toInt ≤ 31 := i48; have t3 : lx46.toInt < 31 := b299; omega) ⟨(show q_F (1 ≤ a316.toInt) from (show 1 ≤ a316.toInt from by have t1 : 1 ≤ lx46.toInt := i47; have t2 : a316.toInt = lx46.toInt + 1 := b318; omega)), (show q_F (a316.toInt ≤ 31) from (show a316.toInt ≤ 31 from by have t1 : lx46.toInt < 31 := b299; have t2 : a316.toInt = lx46.toInt + 1 := b318; omega)), V, q_lw hl (q_lw1 1 rfl (q_lw1 0 rfl (q_lw1 2 rfl (q_lw1 3 rfl (q_lw1 4 rfl (q_lw1 5 rfl q_lw0)))))), ⟨fm54, Nat.lt_of_lt_of_le (show (31 - a316.toInt).toNat < (31 - lx46.toInt).toNat from by have t1 : a316.toInt = lx46.toInt + 1 := b318; have t2 : lx46.toInt ≤ 31 := i48; have t3 : lx46.toInt < 31 := b299; omega) (Nat.le_of_lt_succ hf53), (show F_Wri_wholeText_L22 R x3 t0_0 t1_0 t2_0 t2_1 t3_0 t4_0 t4_1 t5_0 p34 y27 f28 fm54 a314 a316 = (F_Wri_wholeText R x3 t0_0 t1_0 t2_0 t2_1 t3_0 t4_0 t4_1 t5_0) from Eq.trans (by have c311x := c311; rw [← e309, ← e307, ← e304, ← e301] at c311x; rw [← e317, ← e315, F_Wri_wholeText_L22.eq_2, if_neg c297, if_neg c311x]) hR50), (show True ∧ S_Wri_wholeText_L22 R x3 t0_0 t1_0 t2_0 t2_1 t3_0 t4_0 t4_1 t5_0 p34 y27 f28 fm54 a314 a316 from (by rw [← e317, ← e315]; have h := hS51; rw [S_Wri_wholeText_L22.eq_2] at h; rw [if_neg c297] at h; have c311x := c311; rw [← e309, ← e307, ← e304, ← e301] at c311x; rw [if_neg c311x] at h; with_reducible exact h))⟩⟩

