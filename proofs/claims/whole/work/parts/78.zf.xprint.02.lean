def F_Dig_stepOutwards_2_J28 (K_F_Dig_stepOutwards_2_L7 : Int32 → (Int32 × Int32 × (Nat → Int32))) (x2 : Int32) (t0_0 : Int32) (t0_1 : Int32) (t1_0 : (Nat → Int32)) (lx13 : Int32) : Int32 × Int32 × (Nat → Int32) := if lx13 < (0 : Int32) then (if x2 ≤ (0 : Int32) then (((1 : Int32), (t0_1 + (1 - x2 : Int32) : Int32), (upd t1_0 (0 : Int32).toNatClampNeg (vp_nar .byte 1) : (Nat → Int32)))) else (((1 : Int32), (t0_1 + 1 : Int32), (upd t1_0 (0 : Int32).toNatClampNeg (vp_nar .byte 1) : (Nat → Int32))))) else (((lx13 + 1 : Int32), t0_1, (upd t1_0 lx13.toNatClampNeg (vp_nar .byte (((t1_0 lx13.toNatClampNeg : Int32) + 1 : Int32).toInt8.toInt32 : Int32)) : (Nat → Int32))))
def F_Dig_stepOutwards_2_L7 (x2 : Int32) (t0_0 : Int32) (t0_1 : Int32) (t1_0 : (Nat → Int32)) : Nat → Int32 → (Int32 × Int32 × (Nat → Int32))
  | 0, _ => default
  | fm + 1, lx13 => if lx13 < (0 : Int32) then (F_Dig_stepOutwards_2_J28 (F_Dig_stepOutwards_2_L7 x2 t0_0 t0_1 t1_0 fm) x2 t0_0 t0_1 t1_0 lx13) else (if (t1_0 lx13.toNatClampNeg : Int32) = (9 : Int32) then (F_Dig_stepOutwards_2_L7 x2 t0_0 t0_1 t1_0 fm (lx13 + (-1) : Int32)) else (F_Dig_stepOutwards_2_J28 (F_Dig_stepOutwards_2_L7 x2 t0_0 t0_1 t1_0 fm) x2 t0_0 t0_1 t1_0 lx13))
def F_Dig_stepOutwards_2 (x2 : Int32) (t0_0 : Int32) (t0_1 : Int32) (t1_0 : (Nat → Int32)) : Int32 × Int32 × (Nat → Int32) := F_Dig_stepOutwards_2_L7 x2 t0_0 t0_1 t1_0 (((t0_0 - 1 : Int32).toInt - ((-1000000))).toNat + 1) (t0_0 - 1 : Int32)
set_option maxRecDepth 100000 in
set_option maxHeartbeats 4000000 in
theorem X_Dig_stepOutwards_2 (l : Launch) (D : va_G) (g : Nat → ClassId) (q : Nat → Nat) (ws : va_W) (x2 : Int32) (hI : q_I (nsh g q) q ws) (t0_0 : Int32) (t0_1 : Int32) (hT0 : ws[36]? = (some (q 36, .inr (7, [.int t0_0, .int t0_1, .ref (q 37)])) : Option (Nat × va_E))) (t1_0 : (Nat → Int32)) (hT1 : ws[37]? = (some (q 37, .inl (g 2, 1026, .inl t1_0)) : Option (Nat × va_E))) (pre0 : 0 ≤ x2.toInt + 200000) (pre1 : x2.toInt ≤ 200000) (pre2 : t0_1.toInt + 1 ≤ x2.toInt) (pre3 : 0 ≤ t0_1.toInt + 100000) (pre4 : t0_1.toInt ≤ 100000) : q_mV l y_Dig_stepOutwards prog_5_method_8_code 3 1 0 0 D g [.ref (q 36), .int x2] ws (fun u => q_I (nsh g q) q u ∧ q_un ws u [36, 37] ∧ ∃ (u0_0 : Int32) (u0_1 : Int32) (u1_0 : (Nat → Int32)), u[36]? = (some (q 36, .inr (7, [.int u0_0, .int u0_1, .ref (q 37)])) : Option (Nat × va_E)) ∧ u[37]? = (some (q 37, .inl (g 2, 1026, .inl u1_0)) : Option (Nat × va_E)) ∧ (1 ≤ u0_0.toInt) ∧ (u0_0.toInt ≤ 1026) ∧ (u0_1.toInt ≤ 100001) ∧ (u0_0.toInt ≤ t0_0.toInt + 1) ∧ (t0_1.toInt ≤ u0_1.toInt) ∧ (u0_1.toInt ≤ t0_1.toInt + 100000) ∧ (u0_0, u0_1, u1_0) = (F_Dig_stepOutwards_2 x2 t0_0 t0_1 t1_0)) := by
  intro sz
  refine q_into (by decide) (Nat.le_of_ble_eq_true rfl) ?_
  intro p e s m below meth c ls hsz C0 V hl
  have hx := C0.1
  have hb := C0.2.1
  obtain ⟨yy0_0, yy0_1, hh0, btt0_0, btt0_1⟩ := n_o36 hI
  obtain ⟨rfl, rfl⟩ : t0_0 = yy0_0 ∧ t0_1 = yy0_1 := by have z := Option.some.inj (hT0.symm.trans hh0); simpa using z
  replace btt0_0 : q_F (0 ≤ t0_0.toInt ∧ t0_0.toInt ≤ 1026) := btt0_0
  replace btt0_1 : q_F (-1000000 ≤ t0_1.toInt ∧ t0_1.toInt ≤ 1000000) := btt0_1
  replace pre0 : q_F (0 ≤ x2.toInt + 200000) := pre0
  replace pre1 : q_F (x2.toInt ≤ 200000) := pre1
  replace pre2 : q_F (t0_1.toInt + 1 ≤ x2.toInt) := pre2
  replace pre3 : q_F (0 ≤ t0_1.toInt + 100000) := pre3
  replace pre4 : q_F (t0_1.toInt ≤ 100000) := pre4
  have hF : q_un ws ws [36, 37] := q_u0
  have hl : lv_has ls 3 [(0, .ref (q 36)), (1, .int x2)] := hl
  refine lv_aload_n hx hb d_5_8_0 rfl (lv_at hl 0 rfl) ?_
  refine q_get (ci := 7) (j := 0) (v := .int t0_0) C0 V i_Dig rfl rfl hT0 (by decide) w_264 rfl d_5_8_1 ?_
  refine lv_iconst (v := 1) hx hb d_5_8_4 (by decide) ?_
  refine lv_isub hx hb d_5_8_5 ?_
  obtain ⟨a9, e10⟩ := q_nm (t0_0 - 1 : Int32)
  refine q_ti (v := a9) e10 ?_
  have b11 : q_F (a9.toInt = t0_0.toInt - 1) := (by rw [← e10]; show (t0_0 - 1 : Int32).toInt = t0_0.toInt - 1; exact q_subI (x := t0_0.toInt) (y := 1) rfl (by decide) (by have t1 : 0 ≤ t0_0.toInt ∧ t0_0.toInt ≤ 1026 := btt0_0; omega) (by have t1 : 0 ≤ t0_0.toInt ∧ t0_0.toInt ≤ 1026 := btt0_0; omega))
  refine lv_istore_n (lv' := [(2, .int a9), (0, .ref (q 36)), (1, .int x2)]) hx hb d_5_8_6 rfl hl (by decide) rfl (fun ls hl => ?_)
  refine q_loop (X := Int32) (fun z H locs ls _ => q_F (0 ≤ z.toInt + 1) ∧ q_F (z.toInt + 1 ≤ t0_0.toInt) ∧ q_Wd D g (va_A ws sz) s ws H locs ∧ lv_has ls 3 [(2, .int z), (0, .ref (q 36)), (1, .int x2)] ∧ (∃ n, (z.toInt - ((-1000000))).toNat < n ∧ F_Dig_stepOutwards_2_L7 x2 t0_0 t0_1 t1_0 n z = (F_Dig_stepOutwards_2 x2 t0_0 t0_1 t1_0))) (fun z => (z.toInt - ((-1000000))).toNat) ?_ ((a9 : Int32)) _ _ _ ws ⟨(show q_F (0 ≤ a9.toInt + 1) from (show 0 ≤ a9.toInt + 1 from by have t1 : 0 ≤ t0_0.toInt ∧ t0_0.toInt ≤ 1026 := btt0_0; have t2 : a9.toInt = t0_0.toInt - 1 := b11; omega)), (show q_F (a9.toInt + 1 ≤ t0_0.toInt) from (show a9.toInt + 1 ≤ t0_0.toInt from by have t1 : a9.toInt = t0_0.toInt - 1 := b11; omega)), V, q_lw hl (q_lw1 0 rfl (q_lw1 1 rfl (q_lw1 2 rfl q_lw0))), ⟨((a9.toInt - ((-1000000))).toNat + 1), Nat.lt_succ_self _, (show F_Dig_stepOutwards_2_L7 x2 t0_0 t0_1 t1_0 ((a9.toInt - ((-1000000))).toNat + 1) a9 = (F_Dig_stepOutwards_2 x2 t0_0 t0_1 t1_0) from (by rw [← e10, F_Dig_stepOutwards_2.eq_1]))⟩⟩
  rintro lx13 H locs ls _ ⟨i14, i15, V, hl, ⟨fu19, hf20, hR17⟩⟩ ih16
  obtain ⟨fm21, rfl⟩ : ∃ m, fu19 = m + 1 := ⟨fu19 - 1, by omega⟩
  replace i14 : q_F (0 ≤ lx13.toInt + 1) := i14
  replace i15 : q_F (lx13.toInt + 1 ≤ t0_0.toInt) := i15
  replace hl : lv_has ls 3 [(2, .int lx13), (0, .ref (q 36)), (1, .int x2)] := hl
  refine lv_iload_n hx hb d_5_8_7 rfl (lv_at hl 0 rfl) ?_
  refine q_join (X := Unit) (fun z H locs ls _ => q_Wd D g (va_A ws sz) s ws H locs ∧ lv_has ls 3 [(2, .int lx13), (0, .ref (q 36)), (1, .int x2)] ∧ F_Dig_stepOutwards_2_J28 (F_Dig_stepOutwards_2_L7 x2 t0_0 t0_1 t1_0 fm21) x2 t0_0 t0_1 t1_0 lx13 = (F_Dig_stepOutwards_2 x2 t0_0 t0_1 t1_0)) (fun z => []) 28 0 0 ?_ ?_
  ·
    rintro _ H locs ls _ ⟨V, hl, hR25⟩
    replace hl : lv_has ls 3 [(2, .int lx13), (0, .ref (q 36)), (1, .int x2)] := hl
    refine lv_iload_n hx hb d_5_8_28 rfl (lv_at hl 0 rfl) ?_
    refine lv_if_lt (tgt := 51) hx hb d_5_8_29 (by decide) (fun c30 => ?_) (fun c30 => ?_)
    ·
      have b31 : q_F (lx13.toInt < 0) := (q_ltI c30)
      refine lv_aload_n hx hb d_5_8_51 rfl (lv_at hl 1 rfl) ?_
      refine lv_dup hx hb d_5_8_52 rfl ?_
      refine q_get (ci := 7) (j := 1) (v := .int t0_1) C0 V i_Dig rfl rfl hT0 (by decide) w_266 rfl d_5_8_53 ?_
      refine lv_iload_n hx hb d_5_8_56 rfl (lv_at hl 2 rfl) ?_
      refine lv_if_le (tgt := 64) hx hb d_5_8_57 (by decide) (fun c32 => ?_) (fun c32 => ?_)
      ·
        have b33 : q_F (x2.toInt ≤ 0) := (q_leI c32)
        refine lv_iconst (v := 1) hx hb d_5_8_64 (by decide) ?_
        refine lv_iload_n hx hb d_5_8_65 rfl (lv_at hl 2 rfl) ?_
        refine lv_isub hx hb d_5_8_66 ?_
        obtain ⟨a34, e35⟩ := q_nm (1 - x2 : Int32)
        refine q_ti (v := a34) e35 ?_
        have b36 : q_F (a34.toInt = 1 - x2.toInt) := (by rw [← e35]; show (1 - x2 : Int32).toInt = 1 - x2.toInt; exact q_subI (x := 1) (y := x2.toInt) (by decide) rfl (by have t1 : x2.toInt ≤ 200000 := pre1; have t2 : 0 ≤ x2.toInt + 200000 := pre0; omega) (by have t1 : x2.toInt ≤ 200000 := pre1; have t2 : 0 ≤ x2.toInt + 200000 := pre0; omega))
        refine lv_iadd hx hb d_5_8_67 ?_
        obtain ⟨a37, e38⟩ := q_nm (t0_1 + a34 : Int32)
        refine q_ti (v := a37) e38 ?_
        have b39 : q_F (a37.toInt = t0_1.toInt + a34.toInt) := (by rw [← e38]; show (t0_1 + a34 : Int32).toInt = t0_1.toInt + a34.toInt; exact q_addI (x := t0_1.toInt) (y := a34.toInt) rfl rfl (by have t1 : -1000000 ≤ t0_1.toInt ∧ t0_1.toInt ≤ 1000000 := btt0_1; have t2 : x2.toInt ≤ 200000 := pre1; have t3 : a34.toInt = 1 - x2.toInt := b36; have t4 : t0_1.toInt + 1 ≤ x2.toInt := pre2; omega) (by have t1 : -1000000 ≤ t0_1.toInt ∧ t0_1.toInt ≤ 1000000 := btt0_1; have t2 : x2.toInt ≤ 200000 := pre1; have t3 : a34.toInt = 1 - x2.toInt := b36; have t4 : t0_1.toInt + 1 ≤ x2.toInt := pre2; omega))
        refine q_put (ci := 7) (j := 1) (v := .int a37) (ty := .int) C0 V i_Dig o_Dig n_Dig rfl rfl hT0 (by decide) w_266 rfl rfl rfl rfl (Nat.le_of_ble_eq_true rfl) d_5_8_68 (fun H locs w40 hu41 hT0 V => ?_)
        replace hT0 : w40[36]? = (some (q 36, .inr (7, [.int t0_0, .int a37, .ref (q 37)])) : Option (Nat × va_E)) := hT0
        replace hI := n_p36 hI hu41 hT0 ⟨(by have t1 : 0 ≤ t0_0.toInt ∧ t0_0.toInt ≤ 1026 := btt0_0; omega), (by have t1 : 0 ≤ t0_0.toInt ∧ t0_0.toInt ≤ 1026 := btt0_0; omega)⟩ ⟨(by have t1 : x2.toInt ≤ 200000 := pre1; have t2 : 0 ≤ t0_1.toInt + 100000 := pre3; have t3 : a34.toInt = 1 - x2.toInt := b36; have t4 : a37.toInt = t0_1.toInt + a34.toInt := b39; omega), (by have t1 : t0_1.toInt + 1 ≤ x2.toInt := pre2; have t2 : a34.toInt = 1 - x2.toInt := b36; have t3 : a37.toInt = t0_1.toInt + a34.toInt := b39; omega)⟩
        replace hT1 := (hu41 _ (by decide)).trans hT1
        replace hF := q_us hF hu41 (by simp)
        refine lv_aload_n hx hb d_5_8_71 rfl (lv_at hl 1 rfl) ?_
        refine q_get (ci := 7) (j := 2) (v := .ref (q 37)) C0 V i_Dig rfl rfl hT0 (by decide) w_269 rfl d_5_8_72 ?_
        refine lv_iconst (v := 0) hx hb d_5_8_75 (by decide) ?_
        refine lv_iconst (v := 1) hx hb d_5_8_76 (by decide) ?_
        refine q_bast C0 V hT1 (q_ix (x := 0) (by decide) (by omega) (by omega)) d_5_8_77 (fun H locs w42 hu43 hT1 V => ?_)
        replace hI := n_ai' hI (n_s37 g q) hu43 hT1 (q_updB (fun _ => s_bnd) s_bnd)
        replace hT0 := (hu43 _ (by decide)).trans hT0
        replace hF := q_us hF hu43 (by simp)
        obtain ⟨f44, e45⟩ := q_nm (upd t1_0 (0 : Int32).toNatClampNeg (vp_nar .byte 1) : (Nat → Int32))
        rw [e45] at hT1
        refine lv_aload_n hx hb d_5_8_78 rfl (lv_at hl 1 rfl) ?_
        refine lv_iconst (v := 1) hx hb d_5_8_79 (by decide) ?_
        refine q_put (ci := 7) (j := 0) (v := .int 1) (ty := .int) C0 V i_Dig o_Dig n_Dig rfl rfl hT0 (by decide) w_264 rfl rfl rfl rfl (Nat.le_of_ble_eq_true rfl) d_5_8_80 (fun H locs w46 hu47 hT0 V => ?_)
        replace hT0 : w46[36]? = (some (q 36, .inr (7, [.int 1, .int a37, .ref (q 37)])) : Option (Nat × va_E)) := hT0
        replace hI := n_p36 hI hu47 hT0 ⟨(by have z9 : (1 : Int32).toInt = 1 := rfl; omega), (by have z9 : (1 : Int32).toInt = 1 := rfl; omega)⟩ ⟨(by have t1 : x2.toInt ≤ 200000 := pre1; have t2 : 0 ≤ t0_1.toInt + 100000 := pre3; have t3 : a34.toInt = 1 - x2.toInt := b36; have t4 : a37.toInt = t0_1.toInt + a34.toInt := b39; omega), (by have t1 : t0_1.toInt + 1 ≤ x2.toInt := pre2; have t2 : a34.toInt = 1 - x2.toInt := b36; have t3 : a37.toInt = t0_1.toInt + a34.toInt := b39; omega)⟩
        replace hT1 := (hu47 _ (by decide)).trans hT1
        replace hF := q_us hF hu47 (by simp)
        exact q_retv C0 V (⟨hI, hF, 1, a37, f44, hT0, hT1, (show 1 ≤ (1 : Int32).toInt from (by have z4 : (1 : Int32).toInt = 1 := rfl; omega)), (show (1 : Int32).toInt ≤ 1026 from (by have z4 : (1 : Int32).toInt = 1 := rfl; omega)), (show a37.toInt ≤ 100001 from (by have z4 : (1 : Int32).toInt = 1 := rfl; have t1 : t0_1.toInt + 1 ≤ x2.toInt := pre2; have t2 : a34.toInt = 1 - x2.toInt := b36; have t3 : a37.toInt = t0_1.toInt + a34.toInt := b39; omega)), (show (1 : Int32).toInt ≤ t0_0.toInt + 1 from (by have z4 : (1 : Int32).toInt = 1 := rfl; have t1 : 0 ≤ t0_0.toInt ∧ t0_0.toInt ≤ 1026 := btt0_0; omega)), (show t0_1.toInt ≤ a37.toInt from (by have z4 : (1 : Int32).toInt = 1 := rfl; have t1 : x2.toInt ≤ 0 := b33; have t2 : a34.toInt = 1 - x2.toInt := b36; have t3 : a37.toInt = t0_1.toInt + a34.toInt := b39; omega)), (show a37.toInt ≤ t0_1.toInt + 100000 from (by have z4 : (1 : Int32).toInt = 1 := rfl; have t1 : t0_1.toInt + 1 ≤ x2.toInt := pre2; have t2 : 0 ≤ t0_1.toInt + 100000 := pre3; have t3 : a34.toInt = 1 - x2.toInt := b36; have t4 : a37.toInt = t0_1.toInt + a34.toInt := b39; omega)), (show ((1 : Int32), a37, f44) = (F_Dig_stepOutwards_2 x2 t0_0 t0_1 t1_0) from Eq.trans (by rw [← e45, ← e38, ← e35, F_Dig_stepOutwards_2_J28.eq_1, if_pos c30, if_pos c32]) hR25)⟩) d_5_8_83
      ·
        have b48 : q_F (0 < x2.toInt) := (q_nleI c32)
        refine lv_iconst (v := 1) hx hb d_5_8_60 (by decide) ?_
        refine lv_goto (tgt := 67) hx hb d_5_8_61 (by decide) ?_
        refine lv_iadd hx hb d_5_8_67 ?_
        obtain ⟨a49, e50⟩ := q_nm (t0_1 + 1 : Int32)
        refine q_ti (v := a49) e50 ?_
        have b51 : q_F (a49.toInt = t0_1.toInt + 1) := (by rw [← e50]; show (t0_1 + 1 : Int32).toInt = t0_1.toInt + 1; exact q_addI (x := t0_1.toInt) (y := 1) rfl (by decide) (by have t1 : -1000000 ≤ t0_1.toInt ∧ t0_1.toInt ≤ 1000000 := btt0_1; omega) (by have t1 : -1000000 ≤ t0_1.toInt ∧ t0_1.toInt ≤ 1000000 := btt0_1; omega))
        refine q_put (ci := 7) (j := 1) (v := .int a49) (ty := .int) C0 V i_Dig o_Dig n_Dig rfl rfl hT0 (by decide) w_266 rfl rfl rfl rfl (Nat.le_of_ble_eq_true rfl) d_5_8_68 (fun H locs w52 hu53 hT0 V => ?_)
        replace hT0 : w52[36]? = (some (q 36, .inr (7, [.int t0_0, .int a49, .ref (q 37)])) : Option (Nat × va_E)) := hT0
        replace hI := n_p36 hI hu53 hT0 ⟨(by have t1 : 0 ≤ t0_0.toInt ∧ t0_0.toInt ≤ 1026 := btt0_0; omega), (by have t1 : 0 ≤ t0_0.toInt ∧ t0_0.toInt ≤ 1026 := btt0_0; omega)⟩ ⟨(by have t1 : -1000000 ≤ t0_1.toInt ∧ t0_1.toInt ≤ 1000000 := btt0_1; have t2 : a49.toInt = t0_1.toInt + 1 := b51; omega), (by have t1 : t0_1.toInt ≤ 100000 := pre4; have t2 : a49.toInt = t0_1.toInt + 1 := b51; omega)⟩
        replace hT1 := (hu53 _ (by decide)).trans hT1
        replace hF := q_us hF hu53 (by simp)
        refine lv_aload_n hx hb d_5_8_71 rfl (lv_at hl 1 rfl) ?_
        refine q_get (ci := 7) (j := 2) (v := .ref (q 37)) C0 V i_Dig rfl rfl hT0 (by decide) w_269 rfl d_5_8_72 ?_
        refine lv_iconst (v := 0) hx hb d_5_8_75 (by decide) ?_
        refine lv_iconst (v := 1) hx hb d_5_8_76 (by decide) ?_
        refine q_bast C0 V hT1 (q_ix (x := 0) (by decide) (by omega) (by omega)) d_5_8_77 (fun H locs w54 hu55 hT1 V => ?_)
        replace hI := n_ai' hI (n_s37 g q) hu55 hT1 (q_updB (fun _ => s_bnd) s_bnd)
        replace hT0 := (hu55 _ (by decide)).trans hT0
        replace hF := q_us hF hu55 (by simp)
        obtain ⟨f56, e57⟩ := q_nm (upd t1_0 (0 : Int32).toNatClampNeg (vp_nar .byte 1) : (Nat → Int32))
        rw [e57] at hT1
        refine lv_aload_n hx hb d_5_8_78 rfl (lv_at hl 1 rfl) ?_
        refine lv_iconst (v := 1) hx hb d_5_8_79 (by decide) ?_
        refine q_put (ci := 7) (j := 0) (v := .int 1) (ty := .int) C0 V i_Dig o_Dig n_Dig rfl rfl hT0 (by decide) w_264 rfl rfl rfl rfl (Nat.le_of_ble_eq_true rfl) d_5_8_80 (fun H locs w58 hu59 hT0 V => ?_)
        replace hT0 : w58[36]? = (some (q 36, .inr (7, [.int 1, .int a49, .ref (q 37)])) : Option (Nat × va_E)) := hT0
        replace hI := n_p36 hI hu59 hT0 ⟨(by have z9 : (1 : Int32).toInt = 1 := rfl; omega), (by have z9 : (1 : Int32).toInt = 1 := rfl; omega)⟩ ⟨(by have t1 : -1000000 ≤ t0_1.toInt ∧ t0_1.toInt ≤ 1000000 := btt0_1; have t2 : a49.toInt = t0_1.toInt + 1 := b51; omega), (by have t1 : t0_1.toInt ≤ 100000 := pre4; have t2 : a49.toInt = t0_1.toInt + 1 := b51; omega)⟩
        replace hT1 := (hu59 _ (by decide)).trans hT1
        replace hF := q_us hF hu59 (by simp)
        exact q_retv C0 V (⟨hI, hF, 1, a49, f56, hT0, hT1, (show 1 ≤ (1 : Int32).toInt from (by have z4 : (1 : Int32).toInt = 1 := rfl; omega)), (show (1 : Int32).toInt ≤ 1026 from (by have z4 : (1 : Int32).toInt = 1 := rfl; omega)), (show a49.toInt ≤ 100001 from (by have z4 : (1 : Int32).toInt = 1 := rfl; have t1 : t0_1.toInt ≤ 100000 := pre4; have t2 : a49.toInt = t0_1.toInt + 1 := b51; omega)), (show (1 : Int32).toInt ≤ t0_0.toInt + 1 from (by have z4 : (1 : Int32).toInt = 1 := rfl; have t1 : 0 ≤ t0_0.toInt ∧ t0_0.toInt ≤ 1026 := btt0_0; omega)), (show t0_1.toInt ≤ a49.toInt from (by have z4 : (1 : Int32).toInt = 1 := rfl; have t1 : a49.toInt = t0_1.toInt + 1 := b51; omega)), (show a49.toInt ≤ t0_1.toInt + 100000 from (by have z4 : (1 : Int32).toInt = 1 := rfl; have t1 : a49.toInt = t0_1.toInt + 1 := b51; omega)), (show ((1 : Int32), a49, f56) = (F_Dig_stepOutwards_2 x2 t0_0 t0_1 t1_0) from Eq.trans (by rw [← e57, ← e50, F_Dig_stepOutwards_2_J28.eq_1, if_pos c30, if_neg c32]) hR25)⟩) d_5_8_83
    ·
      have b60 : q_F (0 ≤ lx13.toInt) := (q_nltI c30)
      refine lv_aload_n hx hb d_5_8_32 rfl (lv_at hl 1 rfl) ?_
      refine q_get (ci := 7) (j := 2) (v := .ref (q 37)) C0 V i_Dig rfl rfl hT0 (by decide) w_269 rfl d_5_8_33 ?_
      refine lv_iload_n hx hb d_5_8_36 rfl (lv_at hl 0 rfl) ?_
      refine lv_dup2_11 hx hb d_5_8_37 rfl rfl ?_
      refine q_bald C0 V hT1 (q_ix (x := lx13.toInt) rfl (by have t1 : 0 ≤ lx13.toInt := b60; omega) (by have t1 : 0 ≤ lx13.toInt := b60; have t2 : 0 ≤ t0_0.toInt ∧ t0_0.toInt ≤ 1026 := btt0_0; have t3 : lx13.toInt + 1 ≤ t0_0.toInt := i15; omega)) d_5_8_38 ?_
      obtain ⟨a61, e62⟩ := q_nm (t1_0 lx13.toNatClampNeg : Int32)
      refine q_ti (v := a61) e62 ?_
      refine lv_iconst (v := 1) hx hb d_5_8_39 (by decide) ?_
      refine lv_iadd hx hb d_5_8_40 ?_
      obtain ⟨a63, e64⟩ := q_nm (a61 + 1 : Int32)
      refine q_ti (v := a63) e64 ?_
      refine lv_i2b hx hb d_5_8_41 rfl ?_
      obtain ⟨a65, e66⟩ := q_nm (a63.toInt8.toInt32 : Int32)
      refine q_ti (v := a65) e66 ?_
      refine q_bast C0 V hT1 (q_ix (x := lx13.toInt) rfl (by have t1 : 0 ≤ lx13.toInt := b60; omega) (by have t1 : 0 ≤ lx13.toInt := b60; have t2 : 0 ≤ t0_0.toInt ∧ t0_0.toInt ≤ 1026 := btt0_0; have t3 : lx13.toInt + 1 ≤ t0_0.toInt := i15; omega)) d_5_8_42 (fun H locs w67 hu68 hT1 V => ?_)
      replace hI := n_ai' hI (n_s37 g q) hu68 hT1 (q_updB (fun _ => s_bnd) s_bnd)
      replace hT0 := (hu68 _ (by decide)).trans hT0
      replace hF := q_us hF hu68 (by simp)
      obtain ⟨f69, e70⟩ := q_nm (upd t1_0 lx13.toNatClampNeg (vp_nar .byte a65) : (Nat → Int32))
      rw [e70] at hT1
      refine lv_aload_n hx hb d_5_8_43 rfl (lv_at hl 1 rfl) ?_
      refine lv_iload_n hx hb d_5_8_44 rfl (lv_at hl 0 rfl) ?_
      refine lv_iconst (v := 1) hx hb d_5_8_45 (by decide) ?_
      refine lv_iadd hx hb d_5_8_46 ?_
      obtain ⟨a71, e72⟩ := q_nm (lx13 + 1 : Int32)
      refine q_ti (v := a71) e72 ?_
      have b73 : q_F (a71.toInt = lx13.toInt + 1) := (by rw [← e72]; show (lx13 + 1 : Int32).toInt = lx13.toInt + 1; exact q_addI (x := lx13.toInt) (y := 1) rfl (by decide) (by have t1 : 0 ≤ lx13.toInt + 1 := i14; have t2 : lx13.toInt + 1 ≤ t0_0.toInt := i15; have _ := q_lo32 (x := t0_0); have _ := q_hi32 (x := t0_0); omega) (by have t1 : 0 ≤ lx13.toInt + 1 := i14; have t2 : lx13.toInt + 1 ≤ t0_0.toInt := i15; have _ := q_lo32 (x := t0_0); have _ := q_hi32 (x := t0_0); omega))
      refine q_put (ci := 7) (j := 0) (v := .int a71) (ty := .int) C0 V i_Dig o_Dig n_Dig rfl rfl hT0 (by decide) w_264 rfl rfl rfl rfl (Nat.le_of_ble_eq_true rfl) d_5_8_47 (fun H locs w74 hu75 hT0 V => ?_)
      replace hT0 : w74[36]? = (some (q 36, .inr (7, [.int a71, .int t0_1, .ref (q 37)])) : Option (Nat × va_E)) := hT0
      replace hI := n_p36 hI hu75 hT0 ⟨(by have t1 : 0 ≤ lx13.toInt + 1 := i14; have t2 : a71.toInt = lx13.toInt + 1 := b73; omega), (by have t1 : 0 ≤ t0_0.toInt ∧ t0_0.toInt ≤ 1026 := btt0_0; have t2 : lx13.toInt + 1 ≤ t0_0.toInt := i15; have t3 : a71.toInt = lx13.toInt + 1 := b73; omega)⟩ ⟨(by have t1 : -1000000 ≤ t0_1.toInt ∧ t0_1.toInt ≤ 1000000 := btt0_1; omega), (by have t1 : -1000000 ≤ t0_1.toInt ∧ t0_1.toInt ≤ 1000000 := btt0_1; omega)⟩
      replace hT1 := (hu75 _ (by decide)).trans hT1
      replace hF := q_us hF hu75 (by simp)
      exact q_retv C0 V (⟨hI, hF, a71, t0_1, f69, hT0, hT1, (show 1 ≤ a71.toInt from (by have t1 : 0 ≤ lx13.toInt := b60; have t2 : a71.toInt = lx13.toInt + 1 := b73; omega)), (show a71.toInt ≤ 1026 from (by have t1 : 0 ≤ t0_0.toInt ∧ t0_0.toInt ≤ 1026 := btt0_0; have t2 : lx13.toInt + 1 ≤ t0_0.toInt := i15; have t3 : a71.toInt = lx13.toInt + 1 := b73; omega)), (show t0_1.toInt ≤ 100001 from (by have t1 : t0_1.toInt ≤ 100000 := pre4; omega)), (show a71.toInt ≤ t0_0.toInt + 1 from (by have t1 : lx13.toInt + 1 ≤ t0_0.toInt := i15; have t2 : a71.toInt = lx13.toInt + 1 := b73; omega)), (show t0_1.toInt ≤ t0_1.toInt from (by omega)), (show t0_1.toInt ≤ t0_1.toInt + 100000 from (by omega)), (show (a71, t0_1, f69) = (F_Dig_stepOutwards_2 x2 t0_0 t0_1 t1_0) from Eq.trans (by rw [← e72, ← e70, ← e66, ← e64, ← e62, F_Dig_stepOutwards_2_J28.eq_1, if_neg c30]) hR25)⟩) d_5_8_50
  ·
    intro J24
    refine lv_if_lt (tgt := 28) hx hb d_5_8_8 (by decide) (fun c76 => ?_) (fun c76 => ?_)
    ·
      have b77 : q_F (lx13.toInt < 0) := (q_ltI c76)
      exact J24 (()) _ _ _ ws ⟨V, q_lw hl (q_lw1 0 rfl (q_lw1 1 rfl (q_lw1 2 rfl q_lw0))), (show F_Dig_stepOutwards_2_J28 (F_Dig_stepOutwards_2_L7 x2 t0_0 t0_1 t1_0 fm21) x2 t0_0 t0_1 t1_0 lx13 = (F_Dig_stepOutwards_2 x2 t0_0 t0_1 t1_0) from Eq.trans (by rw [F_Dig_stepOutwards_2_L7.eq_2, if_pos c76]) hR17)⟩
    ·
      have b78 : q_F (0 ≤ lx13.toInt) := (q_nltI c76)
      refine lv_aload_n hx hb d_5_8_11 rfl (lv_at hl 1 rfl) ?_
      refine q_get (ci := 7) (j := 2) (v := .ref (q 37)) C0 V i_Dig rfl rfl hT0 (by decide) w_269 rfl d_5_8_12 ?_
      refine lv_iload_n hx hb d_5_8_15 rfl (lv_at hl 0 rfl) ?_
      refine q_bald C0 V hT1 (q_ix (x := lx13.toInt) rfl (by have t1 : 0 ≤ lx13.toInt := b78; omega) (by have t1 : 0 ≤ lx13.toInt := b78; have t2 : 0 ≤ t0_0.toInt ∧ t0_0.toInt ≤ 1026 := btt0_0; have t3 : lx13.toInt + 1 ≤ t0_0.toInt := i15; omega)) d_5_8_16 ?_
      obtain ⟨a79, e80⟩ := q_nm (t1_0 lx13.toNatClampNeg : Int32)
      refine q_ti (v := a79) e80 ?_
      refine lv_bipush (v := 9) hx hb d_5_8_17 (by decide) ?_
      refine lv_icmp_ne (tgt := 28) hx hb d_5_8_19 (by decide) (fun c81 => ?_) (fun c81 => ?_)
      ·
        have b82 : q_F (a79.toInt ≠ 9) := (q_neI c81)
        exact J24 (()) _ _ _ ws ⟨V, q_lw hl (q_lw1 0 rfl (q_lw1 1 rfl (q_lw1 2 rfl q_lw0))), (show F_Dig_stepOutwards_2_J28 (F_Dig_stepOutwards_2_L7 x2 t0_0 t0_1 t1_0 fm21) x2 t0_0 t0_1 t1_0 lx13 = (F_Dig_stepOutwards_2 x2 t0_0 t0_1 t1_0) from Eq.trans (by have c81x := c81; rw [← e80] at c81x; rw [F_Dig_stepOutwards_2_L7.eq_2, if_neg c76, if_neg c81x]) hR17)⟩
      ·
        have b83 : q_F (a79.toInt = 9) := (q_eqI c81)
        obtain ⟨a84, e85⟩ := q_nm (lx13 + (-1) : Int32)
        have b86 : q_F (a84.toInt = lx13.toInt + (-1)) := (by rw [← e85]; exact q_addI (y := (-1)) rfl (by decide) (by have t1 : 0 ≤ lx13.toInt + 1 := i14; have _ := q_lo32 (x := lx13); have _ := q_hi32 (x := lx13); omega) (by have t1 : 0 ≤ lx13.toInt + 1 := i14; have _ := q_lo32 (x := lx13); have _ := q_hi32 (x := lx13); omega))
        refine lv_iinc (v := a84) (lv' := [(2, .int a84), (0, .ref (q 36)), (1, .int x2)]) hx hb d_5_8_22 hl (k := 0) rfl (e85) (by decide) rfl (fun ls hl => ?_)
        refine lv_goto (tgt := 7) hx hb d_5_8_25 (by decide) ?_
        exact ih16 ((a84 : Int32)) _ _ _ ws (show (a84.toInt - ((-1000000))).toNat < (lx13.toInt - ((-1000000))).toNat from by have t1 : a84.toInt = lx13.toInt + (-1) := b86; have t2 : 0 ≤ lx13.toInt + 1 := i14; omega) ⟨(show q_F (0 ≤ a84.toInt + 1) from (show 0 ≤ a84.toInt + 1 from by have t1 : 0 ≤ lx13.toInt := b78; have t2 : a84.toInt = lx13.toInt + (-1) := b86; omega)), (show q_F (a84.toInt + 1 ≤ t0_0.toInt) from (show a84.toInt + 1 ≤ t0_0.toInt from by have t1 : lx13.toInt + 1 ≤ t0_0.toInt := i15; have t2 : a84.toInt = lx13.toInt + (-1) := b86; omega)), V, q_lw hl (q_lw1 0 rfl (q_lw1 1 rfl (q_lw1 2 rfl q_lw0))), ⟨fm21, Nat.lt_of_lt_of_le (show (a84.toInt - ((-1000000))).toNat < (lx13.toInt - ((-1000000))).toNat from by have t1 : a84.toInt = lx13.toInt + (-1) := b86; have t2 : 0 ≤ lx13.toInt + 1 := i14; omega) (Nat.le_of_lt_succ hf20), (show F_Dig_stepOutwards_2_L7 x2 t0_0 t0_1 t1_0 fm21 a84 = (F_Dig_stepOutwards_2 x2 t0_0 t0_1 t1_0) from Eq.trans (by have c81x := c81; rw [← e80] at c81x; rw [← e85, F_Dig_stepOutwards_2_L7.eq_2, if_neg c76, if_pos c81x]) hR17)⟩⟩
def F_Dig_round_2_c31 (x2 : Int32) (x3 : Int32) (t0_0 : Int32) (t0_1 : Int32) (t1_0 : (Nat → Int32)) (a13 : Int32) (p46 : (Int32 × Int32 × (Nat → Int32))) : Int32 × Int32 × (Nat → Int32) := ((p46.1 : Int32), (p46.2.1 : Int32), (p46.2.2 : (Nat → Int32)))
def F_Dig_round_2 (x2 : Int32) (x3 : Int32) (t0_0 : Int32) (t0_1 : Int32) (t1_0 : (Nat → Int32)) : Int32 × Int32 × (Nat → Int32) := if x2 < t0_0 then (if ((F_Dig_goesOutwards x2 x3 t0_0 t0_1 t1_0) : Int32) = (0 : Int32) then (if (if x2 < 0 then 0 else x2 : Int32) = (0 : Int32) then (((if x2 < 0 then 0 else x2 : Int32), (0 : Int32), t1_0)) else (((if x2 < 0 then 0 else x2 : Int32), t0_1, t1_0))) else (F_Dig_round_2_c31 x2 x3 t0_0 t0_1 t1_0 ((F_Dig_goesOutwards x2 x3 t0_0 t0_1 t1_0) : Int32) ((F_Dig_stepOutwards_2 x2 (if x2 < 0 then 0 else x2 : Int32) t0_1 t1_0) : (Int32 × Int32 × (Nat → Int32))))) else ((t0_0, t0_1, t1_0))
set_option maxRecDepth 100000 in
set_option maxHeartbeats 4000000 in
theorem X_Dig_round_2 (l : Launch) (D : va_G) (g : Nat → ClassId) (q : Nat → Nat) (ws : va_W) (x2 : Int32) (x3 : Int32) (hI : q_I (nsh g q) q ws) (t0_0 : Int32) (t0_1 : Int32) (hT0 : ws[36]? = (some (q 36, .inr (7, [.int t0_0, .int t0_1, .ref (q 37)])) : Option (Nat × va_E))) (t1_0 : (Nat → Int32)) (hT1 : ws[37]? = (some (q 37, .inl (g 2, 1026, .inl t1_0)) : Option (Nat × va_E))) (pre0 : 0 ≤ x2.toInt + 200000) (pre1 : x2.toInt ≤ 200000) (pre2 : t0_1.toInt + 1 ≤ x2.toInt) (pre3 : 0 ≤ t0_1.toInt + 100000) (pre4 : t0_1.toInt ≤ 100000) : q_mV l y_Dig_round prog_5_method_6_code 4 3 0 0 D g [.ref (q 36), .int x2, .int x3] ws (fun u => q_I (nsh g q) q u ∧ q_un ws u [36, 37] ∧ ∃ (u0_0 : Int32) (u0_1 : Int32) (u1_0 : (Nat → Int32)), u[36]? = (some (q 36, .inr (7, [.int u0_0, .int u0_1, .ref (q 37)])) : Option (Nat × va_E)) ∧ u[37]? = (some (q 37, .inl (g 2, 1026, .inl u1_0)) : Option (Nat × va_E)) ∧ (0 ≤ u0_0.toInt) ∧ (u0_0.toInt ≤ 1026) ∧ (u0_1.toInt ≤ 100001) ∧ (u0_0.toInt ≤ x2.toInt + 100000) ∧ (u0_0.toInt ≤ t0_0.toInt + 1) ∧ (u0_1.toInt ≤ t0_0.toInt + 100000) ∧ (t0_1.toInt ≤ u0_1.toInt) ∧ (u0_1.toInt ≤ t0_1.toInt + 100000) ∧ (u0_1.toInt ≤ u0_0.toInt + 100000) ∧ (u0_0, u0_1, u1_0) = (F_Dig_round_2 x2 x3 t0_0 t0_1 t1_0)) := by
  intro sz
  refine q_into (by decide) (Nat.le_of_ble_eq_true rfl) ?_
  intro p e s m below meth c ls hsz C0 V hl
  have hx := C0.1
  have hb := C0.2.1
  obtain ⟨yy0_0, yy0_1, hh0, btt0_0, btt0_1⟩ := n_o36 hI
  obtain ⟨rfl, rfl⟩ : t0_0 = yy0_0 ∧ t0_1 = yy0_1 := by have z := Option.some.inj (hT0.symm.trans hh0); simpa using z
  replace btt0_0 : q_F (0 ≤ t0_0.toInt ∧ t0_0.toInt ≤ 1026) := btt0_0
  replace btt0_1 : q_F (-1000000 ≤ t0_1.toInt ∧ t0_1.toInt ≤ 1000000) := btt0_1
  replace pre0 : q_F (0 ≤ x2.toInt + 200000) := pre0
  replace pre1 : q_F (x2.toInt ≤ 200000) := pre1
  replace pre2 : q_F (t0_1.toInt + 1 ≤ x2.toInt) := pre2
  replace pre3 : q_F (0 ≤ t0_1.toInt + 100000) := pre3
  replace pre4 : q_F (t0_1.toInt ≤ 100000) := pre4
  have hF : q_un ws ws [36, 37] := q_u0
  have hl : lv_has ls 4 [(0, .ref (q 36)), (1, .int x2), (2, .int x3)] := hl
  refine lv_iload_n hx hb d_5_6_0 rfl (lv_at hl 1 rfl) ?_
  refine lv_aload_n hx hb d_5_6_1 rfl (lv_at hl 0 rfl) ?_
  refine q_get (ci := 7) (j := 0) (v := .int t0_0) C0 V i_Dig rfl rfl hT0 (by decide) w_264 rfl d_5_6_2 ?_
  refine lv_icmp_lt (tgt := 9) hx hb d_5_6_5 (by decide) (fun c9 => ?_) (fun c9 => ?_)
  ·
    have b10 : q_F (x2.toInt < t0_0.toInt) := (q_ltI c9)
    refine lv_aload_n hx hb d_5_6_9 rfl (lv_at hl 0 rfl) ?_
    refine lv_iload_n hx hb d_5_6_10 rfl (lv_at hl 1 rfl) ?_
    refine lv_iload_n hx hb d_5_6_11 rfl (lv_at hl 2 rfl) ?_
    refine q_goi V (q_runV (As := [.int x2, .int x3]) (rest := []) (d := 2) (mc := 0) (ms := 0) (ci := 7) C0 V rfl LV_Dig_36 (X_Dig_goesOutwards l D g q ws  x2 x3 hI t0_0 t0_1 hT0 t1_0 hT1  _) rfl rfl hT0 rfl hl.1 rfl (Nat.le_of_ble_eq_true rfl) ⟨by decide, by decide⟩ ⟨Nat.le_of_ble_eq_true rfl, Nat.le_of_ble_eq_true rfl⟩ d_5_6_12) (fun a13 u11 H locs hp12 V => ?_)
    obtain ⟨rfl, b14, b15, hE16⟩ := hp12
    have e17 : a13 = (F_Dig_goesOutwards x2 x3 t0_0 t0_1 t1_0) := hE16
    replace b14 : q_F (0 ≤ a13.toInt) := b14
    replace b15 : q_F (a13.toInt ≤ 1) := b15
    refine lv_istore_n (lv' := [(3, .int a13), (0, .ref (q 36)), (1, .int x2), (2, .int x3)]) hx hb d_5_6_15 rfl hl (by decide) rfl (fun ls hl => ?_)
    refine lv_aload_n hx hb d_5_6_16 rfl (lv_at hl 1 rfl) ?_
    refine lv_iload_n hx hb d_5_6_17 rfl (lv_at hl 2 rfl) ?_
    refine lv_iconst (v := 0) hx hb d_5_6_18 (by decide) ?_
    refine q_max C0 hl.1 rfl w_1571 w_803 w_7 w_804 ⟨Nat.le_of_ble_eq_true rfl, Nat.le_of_ble_eq_true rfl⟩ ⟨Nat.le_of_ble_eq_true rfl, Nat.le_of_ble_eq_true rfl⟩ d_5_6_19 ?_
    obtain ⟨a18, e19⟩ := q_nm (if x2 < 0 then 0 else x2 : Int32)
    refine q_ti (v := a18) e19 ?_
    have b20 : q_F (x2.toInt ≤ a18.toInt ∧ 0 ≤ a18.toInt ∧ (a18.toInt = x2.toInt ∨ a18.toInt = 0)) := (by rw [← e19]; show x2.toInt ≤ (if x2 < 0 then 0 else x2 : Int32).toInt ∧ 0 ≤ (if x2 < 0 then 0 else x2 : Int32).toInt ∧ ((if x2 < 0 then 0 else x2 : Int32).toInt = x2.toInt ∨ (if x2 < 0 then 0 else x2 : Int32).toInt = 0); exact (by have y1 : (0 : Int32).toInt = 0 := rfl; have z := s_max (a := x2) (b := 0); omega))
    refine q_put (ci := 7) (j := 0) (v := .int a18) (ty := .int) C0 V i_Dig o_Dig n_Dig rfl rfl hT0 (by decide) w_264 rfl rfl rfl rfl (Nat.le_of_ble_eq_true rfl) d_5_6_22 (fun H locs w21 hu22 hT0 V => ?_)
    replace hT0 : w21[36]? = (some (q 36, .inr (7, [.int a18, .int t0_1, .ref (q 37)])) : Option (Nat × va_E)) := hT0
    replace hI := n_p36 hI hu22 hT0 ⟨(by have t1 : x2.toInt ≤ a18.toInt ∧ 0 ≤ a18.toInt ∧ (a18.toInt = x2.toInt ∨ a18.toInt = 0) := b20; omega), (by have t1 : 0 ≤ t0_0.toInt ∧ t0_0.toInt ≤ 1026 := btt0_0; have t2 : x2.toInt < t0_0.toInt := b10; have t3 : x2.toInt ≤ a18.toInt ∧ 0 ≤ a18.toInt ∧ (a18.toInt = x2.toInt ∨ a18.toInt = 0) := b20; omega)⟩ ⟨(by have t1 : -1000000 ≤ t0_1.toInt ∧ t0_1.toInt ≤ 1000000 := btt0_1; omega), (by have t1 : -1000000 ≤ t0_1.toInt ∧ t0_1.toInt ≤ 1000000 := btt0_1; omega)⟩
    replace hT1 := (hu22 _ (by decide)).trans hT1
    replace hF := q_us hF hu22 (by simp)
    refine lv_iload_n hx hb d_5_6_25 rfl (lv_at hl 0 rfl) ?_
    refine lv_if_eq (tgt := 34) hx hb d_5_6_26 (by decide) (fun c23 => ?_) (fun c23 => ?_)
    ·
      have b24 : q_F (a13.toInt = 0) := (q_eqI c23)
      refine lv_aload_n hx hb d_5_6_34 rfl (lv_at hl 1 rfl) ?_
      refine q_get (ci := 7) (j := 0) (v := .int a18) C0 V i_Dig rfl rfl hT0 (by decide) w_264 rfl d_5_6_35 ?_
      refine lv_if_ne (tgt := 46) hx hb d_5_6_38 (by decide) (fun c25 => ?_) (fun c25 => ?_)
      ·
        have b26 : q_F (a18.toInt ≠ 0) := (q_neI c25)
        exact q_retv C0 V (⟨hI, hF, a18, t0_1, t1_0, hT0, hT1, (show 0 ≤ a18.toInt from (by have t1 : x2.toInt ≤ a18.toInt ∧ 0 ≤ a18.toInt ∧ (a18.toInt = x2.toInt ∨ a18.toInt = 0) := b20; omega)), (show a18.toInt ≤ 1026 from (by have t1 : 0 ≤ t0_0.toInt ∧ t0_0.toInt ≤ 1026 := btt0_0; have t2 : x2.toInt < t0_0.toInt := b10; have t3 : x2.toInt ≤ a18.toInt ∧ 0 ≤ a18.toInt ∧ (a18.toInt = x2.toInt ∨ a18.toInt = 0) := b20; omega)), (show t0_1.toInt ≤ 100001 from (by have t1 : t0_1.toInt ≤ 100000 := pre4; omega)), (show a18.toInt ≤ x2.toInt + 100000 from (by have t1 : x2.toInt ≤ a18.toInt ∧ 0 ≤ a18.toInt ∧ (a18.toInt = x2.toInt ∨ a18.toInt = 0) := b20; have t2 : a18.toInt ≠ 0 := b26; omega)), (show a18.toInt ≤ t0_0.toInt + 1 from (by have t1 : 0 ≤ t0_0.toInt ∧ t0_0.toInt ≤ 1026 := btt0_0; have t2 : x2.toInt < t0_0.toInt := b10; have t3 : x2.toInt ≤ a18.toInt ∧ 0 ≤ a18.toInt ∧ (a18.toInt = x2.toInt ∨ a18.toInt = 0) := b20; omega)), (show t0_1.toInt ≤ t0_0.toInt + 100000 from (by have t1 : 0 ≤ t0_0.toInt ∧ t0_0.toInt ≤ 1026 := btt0_0; have t2 : t0_1.toInt ≤ 100000 := pre4; omega)), (show t0_1.toInt ≤ t0_1.toInt from (by omega)), (show t0_1.toInt ≤ t0_1.toInt + 100000 from (by omega)), (show t0_1.toInt ≤ a18.toInt + 100000 from (by have t1 : t0_1.toInt + 1 ≤ x2.toInt := pre2; have t2 : x2.toInt ≤ a18.toInt ∧ 0 ≤ a18.toInt ∧ (a18.toInt = x2.toInt ∨ a18.toInt = 0) := b20; omega)), (show (a18, t0_1, t1_0) = (F_Dig_round_2 x2 x3 t0_0 t0_1 t1_0) from (by have c23x := c23; rw [e17] at c23x; have c25x := c25; rw [← e19] at c25x; rw [← e19, F_Dig_round_2.eq_1, if_pos c9, if_pos c23x, if_neg c25x]))⟩) d_5_6_46
      ·
        have b27 : q_F (a18.toInt = 0) := (q_eqI c25)
        refine lv_aload_n hx hb d_5_6_41 rfl (lv_at hl 1 rfl) ?_
        refine lv_iconst (v := 0) hx hb d_5_6_42 (by decide) ?_
        refine q_put (ci := 7) (j := 1) (v := .int 0) (ty := .int) C0 V i_Dig o_Dig n_Dig rfl rfl hT0 (by decide) w_266 rfl rfl rfl rfl (Nat.le_of_ble_eq_true rfl) d_5_6_43 (fun H locs w28 hu29 hT0 V => ?_)
        replace hT0 : w28[36]? = (some (q 36, .inr (7, [.int a18, .int 0, .ref (q 37)])) : Option (Nat × va_E)) := hT0
        replace hI := n_p36 hI hu29 hT0 ⟨(by have t1 : x2.toInt ≤ a18.toInt ∧ 0 ≤ a18.toInt ∧ (a18.toInt = x2.toInt ∨ a18.toInt = 0) := b20; omega), (by have t1 : a18.toInt = 0 := b27; omega)⟩ ⟨(by have z9 : (0 : Int32).toInt = 0 := rfl; omega), (by have z9 : (0 : Int32).toInt = 0 := rfl; omega)⟩
        replace hT1 := (hu29 _ (by decide)).trans hT1
        replace hF := q_us hF hu29 (by simp)
        exact q_retv C0 V (⟨hI, hF, a18, 0, t1_0, hT0, hT1, (show 0 ≤ a18.toInt from (by have z6 : (0 : Int32).toInt = 0 := rfl; have t1 : x2.toInt ≤ a18.toInt ∧ 0 ≤ a18.toInt ∧ (a18.toInt = x2.toInt ∨ a18.toInt = 0) := b20; omega)), (show a18.toInt ≤ 1026 from (by have z6 : (0 : Int32).toInt = 0 := rfl; have t1 : a18.toInt = 0 := b27; omega)), (show (0 : Int32).toInt ≤ 100001 from (by have z6 : (0 : Int32).toInt = 0 := rfl; omega)), (show a18.toInt ≤ x2.toInt + 100000 from (by have z6 : (0 : Int32).toInt = 0 := rfl; have t1 : t0_1.toInt + 1 ≤ x2.toInt := pre2; have t2 : 0 ≤ t0_1.toInt + 100000 := pre3; have t3 : x2.toInt ≤ a18.toInt ∧ 0 ≤ a18.toInt ∧ (a18.toInt = x2.toInt ∨ a18.toInt = 0) := b20; omega)), (show a18.toInt ≤ t0_0.toInt + 1 from (by have z6 : (0 : Int32).toInt = 0 := rfl; have t1 : 0 ≤ t0_0.toInt ∧ t0_0.toInt ≤ 1026 := btt0_0; have t2 : x2.toInt < t0_0.toInt := b10; have t3 : x2.toInt ≤ a18.toInt ∧ 0 ≤ a18.toInt ∧ (a18.toInt = x2.toInt ∨ a18.toInt = 0) := b20; omega)), (show (0 : Int32).toInt ≤ t0_0.toInt + 100000 from (by have z6 : (0 : Int32).toInt = 0 := rfl; have t1 : 0 ≤ t0_0.toInt ∧ t0_0.toInt ≤ 1026 := btt0_0; omega)), (show t0_1.toInt ≤ (0 : Int32).toInt from (by have z6 : (0 : Int32).toInt = 0 := rfl; have t1 : t0_1.toInt + 1 ≤ x2.toInt := pre2; have t2 : x2.toInt ≤ a18.toInt ∧ 0 ≤ a18.toInt ∧ (a18.toInt = x2.toInt ∨ a18.toInt = 0) := b20; have t3 : a18.toInt = 0 := b27; omega)), (show (0 : Int32).toInt ≤ t0_1.toInt + 100000 from (by have z6 : (0 : Int32).toInt = 0 := rfl; have t1 : 0 ≤ t0_1.toInt + 100000 := pre3; omega)), (show (0 : Int32).toInt ≤ a18.toInt + 100000 from (by have z6 : (0 : Int32).toInt = 0 := rfl; have t1 : x2.toInt ≤ a18.toInt ∧ 0 ≤ a18.toInt ∧ (a18.toInt = x2.toInt ∨ a18.toInt = 0) := b20; omega)), (show (a18, (0 : Int32), t1_0) = (F_Dig_round_2 x2 x3 t0_0 t0_1 t1_0) from (by have c23x := c23; rw [e17] at c23x; have c25x := c25; rw [← e19] at c25x; rw [← e19, F_Dig_round_2.eq_1, if_pos c9, if_pos c23x, if_pos c25x]))⟩) d_5_6_46
    ·
      have b30 : q_F (a13.toInt ≠ 0) := (q_neI c23)
      refine lv_aload_n hx hb d_5_6_29 rfl (lv_at hl 1 rfl) ?_
      refine lv_iload_n hx hb d_5_6_30 rfl (lv_at hl 2 rfl) ?_
      refine q_gov V (q_runV (As := [.int x2]) (rest := []) (d := 1) (mc := 0) (ms := 0) (ci := 7) C0 V rfl LV_Dig_46 (X_Dig_stepOutwards_2 l D g q w21  x2 hI a18 t0_1 hT0 t1_0 hT1 (by have t1 : 0 ≤ x2.toInt + 200000 := pre0; omega) (by have t1 : x2.toInt ≤ 200000 := pre1; omega) (by have t1 : t0_1.toInt + 1 ≤ x2.toInt := pre2; omega) (by have t1 : 0 ≤ t0_1.toInt + 100000 := pre3; omega) (by have t1 : t0_1.toInt ≤ 100000 := pre4; omega) _) rfl rfl hT0 rfl hl.1 rfl (Nat.le_of_ble_eq_true rfl) ⟨by decide, by decide⟩ ⟨Nat.le_of_ble_eq_true rfl, Nat.le_of_ble_eq_true rfl⟩ d_5_6_31) (fun u31 H locs hp32 V => ?_)
      obtain ⟨hI, hu45, y34, y35, f36, hO33, hA37, b38, b39, b40, b41, b42, b43, hE44⟩ := hp32
      replace hO33 : u31[36]? = (some (q 36, .inr (7, [.int y34, .int y35, .ref (q 37)])) : Option (Nat × va_E)) := hO33
      replace hA37 : u31[37]? = (some (q 37, .inl (g 2, 1026, .inl f36)) : Option (Nat × va_E)) := hA37
      obtain ⟨p46, e47⟩ : ∃ z, z = (F_Dig_stepOutwards_2 x2 a18 t0_1 t1_0) := ⟨_, rfl⟩
      have e48 : y34 = p46.1 := congrArg (fun z => z.1) (hE44.trans e47.symm)
      have e49 : y35 = p46.2.1 := congrArg (fun z => z.2.1) (hE44.trans e47.symm)
      have e50 : f36 = p46.2.2 := congrArg (fun z => z.2.2) (hE44.trans e47.symm)
      replace b38 : q_F (1 ≤ y34.toInt) := b38
      replace b39 : q_F (y34.toInt ≤ 1026) := b39
      replace b40 : q_F (y35.toInt ≤ 100001) := b40
      replace b41 : q_F (y34.toInt ≤ a18.toInt + 1) := b41
      replace b42 : q_F (t0_1.toInt ≤ y35.toInt) := b42
      replace b43 : q_F (y35.toInt ≤ t0_1.toInt + 100000) := b43
      replace hF := q_uc hF hu45 (by simp)
      have hR51 := (show F_Dig_round_2_c31 x2 x3 t0_0 t0_1 t1_0 a13 p46 = (F_Dig_round_2 x2 x3 t0_0 t0_1 t1_0) from (by have c23x := c23; rw [e17] at c23x; rw [e47, ← e19, e17, F_Dig_round_2.eq_1, if_pos c9, if_neg c23x]))
      refine lv_aload_n hx hb d_5_6_34 rfl (lv_at hl 1 rfl) ?_
      refine q_get (ci := 7) (j := 0) (v := .int y34) C0 V i_Dig rfl rfl hO33 (by decide) w_264 rfl d_5_6_35 ?_
      refine lv_if_ne (tgt := 46) hx hb d_5_6_38 (by decide) (fun c56 => ?_) (fun c56 => absurd (show y34.toInt = 0 from q_eqI c56) (by have t1 : 1 ≤ y34.toInt := b38; omega))
      exact q_retv C0 V (⟨hI, hF, y34, y35, f36, hO33, hA37, (show 0 ≤ y34.toInt from (by have t1 : 1 ≤ y34.toInt := b38; omega)), (show y34.toInt ≤ 1026 from (by have t1 : y34.toInt ≤ 1026 := b39; omega)), (show y35.toInt ≤ 100001 from (by have t1 : y35.toInt ≤ 100001 := b40; omega)), (show y34.toInt ≤ x2.toInt + 100000 from (by have t1 : t0_1.toInt + 1 ≤ x2.toInt := pre2; have t2 : 0 ≤ t0_1.toInt + 100000 := pre3; have t3 : x2.toInt ≤ a18.toInt ∧ 0 ≤ a18.toInt ∧ (a18.toInt = x2.toInt ∨ a18.toInt = 0) := b20; have t4 : y34.toInt ≤ a18.toInt + 1 := b41; omega)), (show y34.toInt ≤ t0_0.toInt + 1 from (by have t1 : 0 ≤ t0_0.toInt ∧ t0_0.toInt ≤ 1026 := btt0_0; have t2 : x2.toInt < t0_0.toInt := b10; have t3 : x2.toInt ≤ a18.toInt ∧ 0 ≤ a18.toInt ∧ (a18.toInt = x2.toInt ∨ a18.toInt = 0) := b20; have t4 : y34.toInt ≤ a18.toInt + 1 := b41; omega)), (show y35.toInt ≤ t0_0.toInt + 100000 from (by have t1 : t0_1.toInt + 1 ≤ x2.toInt := pre2; have t2 : x2.toInt < t0_0.toInt := b10; have t3 : y35.toInt ≤ t0_1.toInt + 100000 := b43; omega)), (show t0_1.toInt ≤ y35.toInt from (by have t1 : t0_1.toInt ≤ y35.toInt := b42; omega)), (show y35.toInt ≤ t0_1.toInt + 100000 from (by have t1 : y35.toInt ≤ t0_1.toInt + 100000 := b43; omega)), (show y35.toInt ≤ y34.toInt + 100000 from (by have t1 : 1 ≤ y34.toInt := b38; have t2 : y35.toInt ≤ 100001 := b40; omega)), (show (y34, y35, f36) = (F_Dig_round_2 x2 x3 t0_0 t0_1 t1_0) from Eq.trans (by rw [e50, e49, e48, F_Dig_round_2_c31.eq_1]) hR51)⟩) d_5_6_46
  ·
    have b57 : q_F (t0_0.toInt ≤ x2.toInt) := (q_nltI c9)
    exact q_retv C0 V (⟨hI, hF, t0_0, t0_1, t1_0, hT0, hT1, (show 0 ≤ t0_0.toInt from (by have t1 : 0 ≤ t0_0.toInt ∧ t0_0.toInt ≤ 1026 := btt0_0; omega)), (show t0_0.toInt ≤ 1026 from (by have t1 : 0 ≤ t0_0.toInt ∧ t0_0.toInt ≤ 1026 := btt0_0; omega)), (show t0_1.toInt ≤ 100001 from (by have t1 : t0_1.toInt ≤ 100000 := pre4; omega)), (show t0_0.toInt ≤ x2.toInt + 100000 from (by have t1 : t0_0.toInt ≤ x2.toInt := b57; omega)), (show t0_0.toInt ≤ t0_0.toInt + 1 from (by omega)), (show t0_1.toInt ≤ t0_0.toInt + 100000 from (by have t1 : 0 ≤ t0_0.toInt ∧ t0_0.toInt ≤ 1026 := btt0_0; have t2 : t0_1.toInt ≤ 100000 := pre4; omega)), (show t0_1.toInt ≤ t0_1.toInt from (by omega)), (show t0_1.toInt ≤ t0_1.toInt + 100000 from (by omega)), (show t0_1.toInt ≤ t0_0.toInt + 100000 from (by have t1 : 0 ≤ t0_0.toInt ∧ t0_0.toInt ≤ 1026 := btt0_0; have t2 : t0_1.toInt ≤ 100000 := pre4; omega)), (show (t0_0, t0_1, t1_0) = (F_Dig_round_2 x2 x3 t0_0 t0_1 t1_0) from (by rw [F_Dig_round_2.eq_1, if_neg c9]))⟩) d_5_6_8
def F_Dig_stepOutwards_1_J28 (K_F_Dig_stepOutwards_1_L7 : Int32 → (Int32 × Int32 × (Nat → Int32))) (x2 : Int32) (t0_0 : Int32) (t0_1 : Int32) (t1_0 : (Nat → Int32)) (lx13 : Int32) : Int32 × Int32 × (Nat → Int32) := if lx13 < (0 : Int32) then (((1 : Int32), (t0_1 + 1 : Int32), (upd t1_0 (0 : Int32).toNatClampNeg (vp_nar .byte 1) : (Nat → Int32)))) else (((lx13 + 1 : Int32), t0_1, (upd t1_0 lx13.toNatClampNeg (vp_nar .byte (((t1_0 lx13.toNatClampNeg : Int32) + 1 : Int32).toInt8.toInt32 : Int32)) : (Nat → Int32))))
def F_Dig_stepOutwards_1_L7 (x2 : Int32) (t0_0 : Int32) (t0_1 : Int32) (t1_0 : (Nat → Int32)) : Nat → Int32 → (Int32 × Int32 × (Nat → Int32))
  | 0, _ => default
  | fm + 1, lx13 => if lx13 < (0 : Int32) then (F_Dig_stepOutwards_1_J28 (F_Dig_stepOutwards_1_L7 x2 t0_0 t0_1 t1_0 fm) x2 t0_0 t0_1 t1_0 lx13) else (if (t1_0 lx13.toNatClampNeg : Int32) = (9 : Int32) then (F_Dig_stepOutwards_1_L7 x2 t0_0 t0_1 t1_0 fm (lx13 + (-1) : Int32)) else (F_Dig_stepOutwards_1_J28 (F_Dig_stepOutwards_1_L7 x2 t0_0 t0_1 t1_0 fm) x2 t0_0 t0_1 t1_0 lx13))
def F_Dig_stepOutwards_1 (x2 : Int32) (t0_0 : Int32) (t0_1 : Int32) (t1_0 : (Nat → Int32)) : Int32 × Int32 × (Nat → Int32) := F_Dig_stepOutwards_1_L7 x2 t0_0 t0_1 t1_0 (((t0_0 - 1 : Int32).toInt - ((-1000000))).toNat + 1) (t0_0 - 1 : Int32)
set_option maxRecDepth 100000 in
set_option maxHeartbeats 4000000 in
theorem X_Dig_stepOutwards_1 (l : Launch) (D : va_G) (g : Nat → ClassId) (q : Nat → Nat) (ws : va_W) (x2 : Int32) (hI : q_I (nsh g q) q ws) (t0_0 : Int32) (t0_1 : Int32) (hT0 : ws[36]? = (some (q 36, .inr (7, [.int t0_0, .int t0_1, .ref (q 37)])) : Option (Nat × va_E))) (t1_0 : (Nat → Int32)) (hT1 : ws[37]? = (some (q 37, .inl (g 2, 1026, .inl t1_0)) : Option (Nat × va_E))) (pre0 : 1 ≤ x2.toInt) (pre1 : 0 ≤ t0_1.toInt + 200000) (pre2 : t0_1.toInt ≤ 200000) : q_mV l y_Dig_stepOutwards prog_5_method_8_code 3 1 0 0 D g [.ref (q 36), .int x2] ws (fun u => q_I (nsh g q) q u ∧ q_un ws u [36, 37] ∧ ∃ (u0_0 : Int32) (u0_1 : Int32) (u1_0 : (Nat → Int32)), u[36]? = (some (q 36, .inr (7, [.int u0_0, .int u0_1, .ref (q 37)])) : Option (Nat × va_E)) ∧ u[37]? = (some (q 37, .inl (g 2, 1026, .inl u1_0)) : Option (Nat × va_E)) ∧ (1 ≤ u0_0.toInt) ∧ (u0_0.toInt ≤ 1026) ∧ (u0_0.toInt ≤ t0_0.toInt + 1) ∧ (t0_1.toInt ≤ u0_1.toInt) ∧ (u0_1.toInt ≤ t0_1.toInt + 1) ∧ (u0_0, u0_1, u1_0) = (F_Dig_stepOutwards_1 x2 t0_0 t0_1 t1_0)) := by
  intro sz
  refine q_into (by decide) (Nat.le_of_ble_eq_true rfl) ?_
  intro p e s m below meth c ls hsz C0 V hl
  have hx := C0.1
  have hb := C0.2.1
  obtain ⟨yy0_0, yy0_1, hh0, btt0_0, btt0_1⟩ := n_o36 hI
  obtain ⟨rfl, rfl⟩ : t0_0 = yy0_0 ∧ t0_1 = yy0_1 := by have z := Option.some.inj (hT0.symm.trans hh0); simpa using z
  replace btt0_0 : q_F (0 ≤ t0_0.toInt ∧ t0_0.toInt ≤ 1026) := btt0_0
  replace btt0_1 : q_F (-1000000 ≤ t0_1.toInt ∧ t0_1.toInt ≤ 1000000) := btt0_1
  replace pre0 : q_F (1 ≤ x2.toInt) := pre0
  replace pre1 : q_F (0 ≤ t0_1.toInt + 200000) := pre1
  replace pre2 : q_F (t0_1.toInt ≤ 200000) := pre2
  have hF : q_un ws ws [36, 37] := q_u0
  have hl : lv_has ls 3 [(0, .ref (q 36)), (1, .int x2)] := hl
  refine lv_aload_n hx hb d_5_8_0 rfl (lv_at hl 0 rfl) ?_
  refine q_get (ci := 7) (j := 0) (v := .int t0_0) C0 V i_Dig rfl rfl hT0 (by decide) w_264 rfl d_5_8_1 ?_
  refine lv_iconst (v := 1) hx hb d_5_8_4 (by decide) ?_
  refine lv_isub hx hb d_5_8_5 ?_
  obtain ⟨a9, e10⟩ := q_nm (t0_0 - 1 : Int32)
  refine q_ti (v := a9) e10 ?_
  have b11 : q_F (a9.toInt = t0_0.toInt - 1) := (by rw [← e10]; show (t0_0 - 1 : Int32).toInt = t0_0.toInt - 1; exact q_subI (x := t0_0.toInt) (y := 1) rfl (by decide) (by have t1 : 0 ≤ t0_0.toInt ∧ t0_0.toInt ≤ 1026 := btt0_0; omega) (by have t1 : 0 ≤ t0_0.toInt ∧ t0_0.toInt ≤ 1026 := btt0_0; omega))
  refine lv_istore_n (lv' := [(2, .int a9), (0, .ref (q 36)), (1, .int x2)]) hx hb d_5_8_6 rfl hl (by decide) rfl (fun ls hl => ?_)
  refine q_loop (X := Int32) (fun z H locs ls _ => q_F (0 ≤ z.toInt + 1) ∧ q_F (z.toInt + 1 ≤ t0_0.toInt) ∧ q_Wd D g (va_A ws sz) s ws H locs ∧ lv_has ls 3 [(2, .int z), (0, .ref (q 36)), (1, .int x2)] ∧ (∃ n, (z.toInt - ((-1000000))).toNat < n ∧ F_Dig_stepOutwards_1_L7 x2 t0_0 t0_1 t1_0 n z = (F_Dig_stepOutwards_1 x2 t0_0 t0_1 t1_0))) (fun z => (z.toInt - ((-1000000))).toNat) ?_ ((a9 : Int32)) _ _ _ ws ⟨(show q_F (0 ≤ a9.toInt + 1) from (show 0 ≤ a9.toInt + 1 from by have t1 : 0 ≤ t0_0.toInt ∧ t0_0.toInt ≤ 1026 := btt0_0; have t2 : a9.toInt = t0_0.toInt - 1 := b11; omega)), (show q_F (a9.toInt + 1 ≤ t0_0.toInt) from (show a9.toInt + 1 ≤ t0_0.toInt from by have t1 : a9.toInt = t0_0.toInt - 1 := b11; omega)), V, q_lw hl (q_lw1 0 rfl (q_lw1 1 rfl (q_lw1 2 rfl q_lw0))), ⟨((a9.toInt - ((-1000000))).toNat + 1), Nat.lt_succ_self _, (show F_Dig_stepOutwards_1_L7 x2 t0_0 t0_1 t1_0 ((a9.toInt - ((-1000000))).toNat + 1) a9 = (F_Dig_stepOutwards_1 x2 t0_0 t0_1 t1_0) from (by rw [← e10, F_Dig_stepOutwards_1.eq_1]))⟩⟩
  rintro lx13 H locs ls _ ⟨i14, i15, V, hl, ⟨fu19, hf20, hR17⟩⟩ ih16
  obtain ⟨fm21, rfl⟩ : ∃ m, fu19 = m + 1 := ⟨fu19 - 1, by omega⟩
  replace i14 : q_F (0 ≤ lx13.toInt + 1) := i14
  replace i15 : q_F (lx13.toInt + 1 ≤ t0_0.toInt) := i15
  replace hl : lv_has ls 3 [(2, .int lx13), (0, .ref (q 36)), (1, .int x2)] := hl
  refine lv_iload_n hx hb d_5_8_7 rfl (lv_at hl 0 rfl) ?_
  refine q_join (X := Unit) (fun z H locs ls _ => q_Wd D g (va_A ws sz) s ws H locs ∧ lv_has ls 3 [(2, .int lx13), (0, .ref (q 36)), (1, .int x2)] ∧ F_Dig_stepOutwards_1_J28 (F_Dig_stepOutwards_1_L7 x2 t0_0 t0_1 t1_0 fm21) x2 t0_0 t0_1 t1_0 lx13 = (F_Dig_stepOutwards_1 x2 t0_0 t0_1 t1_0)) (fun z => []) 28 0 0 ?_ ?_
  ·
    rintro _ H locs ls _ ⟨V, hl, hR25⟩
    replace hl : lv_has ls 3 [(2, .int lx13), (0, .ref (q 36)), (1, .int x2)] := hl
    refine lv_iload_n hx hb d_5_8_28 rfl (lv_at hl 0 rfl) ?_
    refine lv_if_lt (tgt := 51) hx hb d_5_8_29 (by decide) (fun c30 => ?_) (fun c30 => ?_)
    ·
      have b31 : q_F (lx13.toInt < 0) := (q_ltI c30)
      refine lv_aload_n hx hb d_5_8_51 rfl (lv_at hl 1 rfl) ?_
      refine lv_dup hx hb d_5_8_52 rfl ?_
      refine q_get (ci := 7) (j := 1) (v := .int t0_1) C0 V i_Dig rfl rfl hT0 (by decide) w_266 rfl d_5_8_53 ?_
      refine lv_iload_n hx hb d_5_8_56 rfl (lv_at hl 2 rfl) ?_
      refine lv_if_le (tgt := 64) hx hb d_5_8_57 (by decide) (fun c32 => absurd (show x2.toInt ≤ 0 from q_leI c32) (by have t1 : 1 ≤ x2.toInt := pre0; omega)) (fun c32 => ?_)
      refine lv_iconst (v := 1) hx hb d_5_8_60 (by decide) ?_
      refine lv_goto (tgt := 67) hx hb d_5_8_61 (by decide) ?_
      refine lv_iadd hx hb d_5_8_67 ?_
      obtain ⟨a33, e34⟩ := q_nm (t0_1 + 1 : Int32)
      refine q_ti (v := a33) e34 ?_
      have b35 : q_F (a33.toInt = t0_1.toInt + 1) := (by rw [← e34]; show (t0_1 + 1 : Int32).toInt = t0_1.toInt + 1; exact q_addI (x := t0_1.toInt) (y := 1) rfl (by decide) (by have t1 : -1000000 ≤ t0_1.toInt ∧ t0_1.toInt ≤ 1000000 := btt0_1; omega) (by have t1 : -1000000 ≤ t0_1.toInt ∧ t0_1.toInt ≤ 1000000 := btt0_1; omega))
      refine q_put (ci := 7) (j := 1) (v := .int a33) (ty := .int) C0 V i_Dig o_Dig n_Dig rfl rfl hT0 (by decide) w_266 rfl rfl rfl rfl (Nat.le_of_ble_eq_true rfl) d_5_8_68 (fun H locs w36 hu37 hT0 V => ?_)
      replace hT0 : w36[36]? = (some (q 36, .inr (7, [.int t0_0, .int a33, .ref (q 37)])) : Option (Nat × va_E)) := hT0
      replace hI := n_p36 hI hu37 hT0 ⟨(by have t1 : 0 ≤ t0_0.toInt ∧ t0_0.toInt ≤ 1026 := btt0_0; omega), (by have t1 : 0 ≤ t0_0.toInt ∧ t0_0.toInt ≤ 1026 := btt0_0; omega)⟩ ⟨(by have t1 : -1000000 ≤ t0_1.toInt ∧ t0_1.toInt ≤ 1000000 := btt0_1; have t2 : a33.toInt = t0_1.toInt + 1 := b35; omega), (by have t1 : t0_1.toInt ≤ 200000 := pre2; have t2 : a33.toInt = t0_1.toInt + 1 := b35; omega)⟩
      replace hT1 := (hu37 _ (by decide)).trans hT1
      replace hF := q_us hF hu37 (by simp)
      refine lv_aload_n hx hb d_5_8_71 rfl (lv_at hl 1 rfl) ?_
      refine q_get (ci := 7) (j := 2) (v := .ref (q 37)) C0 V i_Dig rfl rfl hT0 (by decide) w_269 rfl d_5_8_72 ?_
      refine lv_iconst (v := 0) hx hb d_5_8_75 (by decide) ?_
      refine lv_iconst (v := 1) hx hb d_5_8_76 (by decide) ?_
      refine q_bast C0 V hT1 (q_ix (x := 0) (by decide) (by omega) (by omega)) d_5_8_77 (fun H locs w38 hu39 hT1 V => ?_)
      replace hI := n_ai' hI (n_s37 g q) hu39 hT1 (q_updB (fun _ => s_bnd) s_bnd)
      replace hT0 := (hu39 _ (by decide)).trans hT0
      replace hF := q_us hF hu39 (by simp)
      obtain ⟨f40, e41⟩ := q_nm (upd t1_0 (0 : Int32).toNatClampNeg (vp_nar .byte 1) : (Nat → Int32))
      rw [e41] at hT1
      refine lv_aload_n hx hb d_5_8_78 rfl (lv_at hl 1 rfl) ?_
      refine lv_iconst (v := 1) hx hb d_5_8_79 (by decide) ?_
      refine q_put (ci := 7) (j := 0) (v := .int 1) (ty := .int) C0 V i_Dig o_Dig n_Dig rfl rfl hT0 (by decide) w_264 rfl rfl rfl rfl (Nat.le_of_ble_eq_true rfl) d_5_8_80 (fun H locs w42 hu43 hT0 V => ?_)
      replace hT0 : w42[36]? = (some (q 36, .inr (7, [.int 1, .int a33, .ref (q 37)])) : Option (Nat × va_E)) := hT0
      replace hI := n_p36 hI hu43 hT0 ⟨(by have z9 : (1 : Int32).toInt = 1 := rfl; omega), (by have z9 : (1 : Int32).toInt = 1 := rfl; omega)⟩ ⟨(by have t1 : -1000000 ≤ t0_1.toInt ∧ t0_1.toInt ≤ 1000000 := btt0_1; have t2 : a33.toInt = t0_1.toInt + 1 := b35; omega), (by have t1 : t0_1.toInt ≤ 200000 := pre2; have t2 : a33.toInt = t0_1.toInt + 1 := b35; omega)⟩
      replace hT1 := (hu43 _ (by decide)).trans hT1
      replace hF := q_us hF hu43 (by simp)
      exact q_retv C0 V (⟨hI, hF, 1, a33, f40, hT0, hT1, (show 1 ≤ (1 : Int32).toInt from (by have z4 : (1 : Int32).toInt = 1 := rfl; omega)), (show (1 : Int32).toInt ≤ 1026 from (by have z4 : (1 : Int32).toInt = 1 := rfl; omega)), (show (1 : Int32).toInt ≤ t0_0.toInt + 1 from (by have z4 : (1 : Int32).toInt = 1 := rfl; have t1 : 0 ≤ t0_0.toInt ∧ t0_0.toInt ≤ 1026 := btt0_0; omega)), (show t0_1.toInt ≤ a33.toInt from (by have z4 : (1 : Int32).toInt = 1 := rfl; have t1 : a33.toInt = t0_1.toInt + 1 := b35; omega)), (show a33.toInt ≤ t0_1.toInt + 1 from (by have z4 : (1 : Int32).toInt = 1 := rfl; have t1 : a33.toInt = t0_1.toInt + 1 := b35; omega)), (show ((1 : Int32), a33, f40) = (F_Dig_stepOutwards_1 x2 t0_0 t0_1 t1_0) from Eq.trans (by rw [← e41, ← e34, F_Dig_stepOutwards_1_J28.eq_1, if_pos c30]) hR25)⟩) d_5_8_83
    ·
      have b44 : q_F (0 ≤ lx13.toInt) := (q_nltI c30)
      refine lv_aload_n hx hb d_5_8_32 rfl (lv_at hl 1 rfl) ?_
      refine q_get (ci := 7) (j := 2) (v := .ref (q 37)) C0 V i_Dig rfl rfl hT0 (by decide) w_269 rfl d_5_8_33 ?_
      refine lv_iload_n hx hb d_5_8_36 rfl (lv_at hl 0 rfl) ?_
      refine lv_dup2_11 hx hb d_5_8_37 rfl rfl ?_
      refine q_bald C0 V hT1 (q_ix (x := lx13.toInt) rfl (by have t1 : 0 ≤ lx13.toInt := b44; omega) (by have t1 : 0 ≤ lx13.toInt := b44; have t2 : 0 ≤ t0_0.toInt ∧ t0_0.toInt ≤ 1026 := btt0_0; have t3 : lx13.toInt + 1 ≤ t0_0.toInt := i15; omega)) d_5_8_38 ?_
      obtain ⟨a45, e46⟩ := q_nm (t1_0 lx13.toNatClampNeg : Int32)
      refine q_ti (v := a45) e46 ?_
      refine lv_iconst (v := 1) hx hb d_5_8_39 (by decide) ?_
      refine lv_iadd hx hb d_5_8_40 ?_
      obtain ⟨a47, e48⟩ := q_nm (a45 + 1 : Int32)
      refine q_ti (v := a47) e48 ?_
      refine lv_i2b hx hb d_5_8_41 rfl ?_
      obtain ⟨a49, e50⟩ := q_nm (a47.toInt8.toInt32 : Int32)
      refine q_ti (v := a49) e50 ?_
      refine q_bast C0 V hT1 (q_ix (x := lx13.toInt) rfl (by have t1 : 0 ≤ lx13.toInt := b44; omega) (by have t1 : 0 ≤ lx13.toInt := b44; have t2 : 0 ≤ t0_0.toInt ∧ t0_0.toInt ≤ 1026 := btt0_0; have t3 : lx13.toInt + 1 ≤ t0_0.toInt := i15; omega)) d_5_8_42 (fun H locs w51 hu52 hT1 V => ?_)
      replace hI := n_ai' hI (n_s37 g q) hu52 hT1 (q_updB (fun _ => s_bnd) s_bnd)
      replace hT0 := (hu52 _ (by decide)).trans hT0
      replace hF := q_us hF hu52 (by simp)
      obtain ⟨f53, e54⟩ := q_nm (upd t1_0 lx13.toNatClampNeg (vp_nar .byte a49) : (Nat → Int32))
      rw [e54] at hT1
      refine lv_aload_n hx hb d_5_8_43 rfl (lv_at hl 1 rfl) ?_
      refine lv_iload_n hx hb d_5_8_44 rfl (lv_at hl 0 rfl) ?_
      refine lv_iconst (v := 1) hx hb d_5_8_45 (by decide) ?_
      refine lv_iadd hx hb d_5_8_46 ?_
      obtain ⟨a55, e56⟩ := q_nm (lx13 + 1 : Int32)
      refine q_ti (v := a55) e56 ?_
      have b57 : q_F (a55.toInt = lx13.toInt + 1) := (by rw [← e56]; show (lx13 + 1 : Int32).toInt = lx13.toInt + 1; exact q_addI (x := lx13.toInt) (y := 1) rfl (by decide) (by have t1 : 0 ≤ lx13.toInt + 1 := i14; have t2 : lx13.toInt + 1 ≤ t0_0.toInt := i15; have _ := q_lo32 (x := t0_0); have _ := q_hi32 (x := t0_0); omega) (by have t1 : 0 ≤ lx13.toInt + 1 := i14; have t2 : lx13.toInt + 1 ≤ t0_0.toInt := i15; have _ := q_lo32 (x := t0_0); have _ := q_hi32 (x := t0_0); omega))
      refine q_put (ci := 7) (j := 0) (v := .int a55) (ty := .int) C0 V i_Dig o_Dig n_Dig rfl rfl hT0 (by decide) w_264 rfl rfl rfl rfl (Nat.le_of_ble_eq_true rfl) d_5_8_47 (fun H locs w58 hu59 hT0 V => ?_)
      replace hT0 : w58[36]? = (some (q 36, .inr (7, [.int a55, .int t0_1, .ref (q 37)])) : Option (Nat × va_E)) := hT0
      replace hI := n_p36 hI hu59 hT0 ⟨(by have t1 : 0 ≤ lx13.toInt + 1 := i14; have t2 : a55.toInt = lx13.toInt + 1 := b57; omega), (by have t1 : 0 ≤ t0_0.toInt ∧ t0_0.toInt ≤ 1026 := btt0_0; have t2 : lx13.toInt + 1 ≤ t0_0.toInt := i15; have t3 : a55.toInt = lx13.toInt + 1 := b57; omega)⟩ ⟨(by have t1 : -1000000 ≤ t0_1.toInt ∧ t0_1.toInt ≤ 1000000 := btt0_1; omega), (by have t1 : -1000000 ≤ t0_1.toInt ∧ t0_1.toInt ≤ 1000000 := btt0_1; omega)⟩
      replace hT1 := (hu59 _ (by decide)).trans hT1
      replace hF := q_us hF hu59 (by simp)
      exact q_retv C0 V (⟨hI, hF, a55, t0_1, f53, hT0, hT1, (show 1 ≤ a55.toInt from (by have t1 : 0 ≤ lx13.toInt := b44; have t2 : a55.toInt = lx13.toInt + 1 := b57; omega)), (show a55.toInt ≤ 1026 from (by have t1 : 0 ≤ t0_0.toInt ∧ t0_0.toInt ≤ 1026 := btt0_0; have t2 : lx13.toInt + 1 ≤ t0_0.toInt := i15; have t3 : a55.toInt = lx13.toInt + 1 := b57; omega)), (show a55.toInt ≤ t0_0.toInt + 1 from (by have t1 : lx13.toInt + 1 ≤ t0_0.toInt := i15; have t2 : a55.toInt = lx13.toInt + 1 := b57; omega)), (show t0_1.toInt ≤ t0_1.toInt from (by omega)), (show t0_1.toInt ≤ t0_1.toInt + 1 from (by omega)), (show (a55, t0_1, f53) = (F_Dig_stepOutwards_1 x2 t0_0 t0_1 t1_0) from Eq.trans (by rw [← e56, ← e54, ← e50, ← e48, ← e46, F_Dig_stepOutwards_1_J28.eq_1, if_neg c30]) hR25)⟩) d_5_8_50
  ·
    intro J24
    refine lv_if_lt (tgt := 28) hx hb d_5_8_8 (by decide) (fun c60 => ?_) (fun c60 => ?_)
    ·
      have b61 : q_F (lx13.toInt < 0) := (q_ltI c60)
      exact J24 (()) _ _ _ ws ⟨V, q_lw hl (q_lw1 0 rfl (q_lw1 1 rfl (q_lw1 2 rfl q_lw0))), (show F_Dig_stepOutwards_1_J28 (F_Dig_stepOutwards_1_L7 x2 t0_0 t0_1 t1_0 fm21) x2 t0_0 t0_1 t1_0 lx13 = (F_Dig_stepOutwards_1 x2 t0_0 t0_1 t1_0) from Eq.trans (by rw [F_Dig_stepOutwards_1_L7.eq_2, if_pos c60]) hR17)⟩
    ·
      have b62 : q_F (0 ≤ lx13.toInt) := (q_nltI c60)
      refine lv_aload_n hx hb d_5_8_11 rfl (lv_at hl 1 rfl) ?_
      refine q_get (ci := 7) (j := 2) (v := .ref (q 37)) C0 V i_Dig rfl rfl hT0 (by decide) w_269 rfl d_5_8_12 ?_
      refine lv_iload_n hx hb d_5_8_15 rfl (lv_at hl 0 rfl) ?_
      refine q_bald C0 V hT1 (q_ix (x := lx13.toInt) rfl (by have t1 : 0 ≤ lx13.toInt := b62; omega) (by have t1 : 0 ≤ lx13.toInt := b62; have t2 : 0 ≤ t0_0.toInt ∧ t0_0.toInt ≤ 1026 := btt0_0; have t3 : lx13.toInt + 1 ≤ t0_0.toInt := i15; omega)) d_5_8_16 ?_
      obtain ⟨a63, e64⟩ := q_nm (t1_0 lx13.toNatClampNeg : Int32)
      refine q_ti (v := a63) e64 ?_
      refine lv_bipush (v := 9) hx hb d_5_8_17 (by decide) ?_
      refine lv_icmp_ne (tgt := 28) hx hb d_5_8_19 (by decide) (fun c65 => ?_) (fun c65 => ?_)
      ·
        have b66 : q_F (a63.toInt ≠ 9) := (q_neI c65)
        exact J24 (()) _ _ _ ws ⟨V, q_lw hl (q_lw1 0 rfl (q_lw1 1 rfl (q_lw1 2 rfl q_lw0))), (show F_Dig_stepOutwards_1_J28 (F_Dig_stepOutwards_1_L7 x2 t0_0 t0_1 t1_0 fm21) x2 t0_0 t0_1 t1_0 lx13 = (F_Dig_stepOutwards_1 x2 t0_0 t0_1 t1_0) from Eq.trans (by have c65x := c65; rw [← e64] at c65x; rw [F_Dig_stepOutwards_1_L7.eq_2, if_neg c60, if_neg c65x]) hR17)⟩
      ·
        have b67 : q_F (a63.toInt = 9) := (q_eqI c65)
        obtain ⟨a68, e69⟩ := q_nm (lx13 + (-1) : Int32)
        have b70 : q_F (a68.toInt = lx13.toInt + (-1)) := (by rw [← e69]; exact q_addI (y := (-1)) rfl (by decide) (by have t1 : 0 ≤ lx13.toInt + 1 := i14; have _ := q_lo32 (x := lx13); have _ := q_hi32 (x := lx13); omega) (by have t1 : 0 ≤ lx13.toInt + 1 := i14; have _ := q_lo32 (x := lx13); have _ := q_hi32 (x := lx13); omega))
        refine lv_iinc (v := a68) (lv' := [(2, .int a68), (0, .ref (q 36)), (1, .int x2)]) hx hb d_5_8_22 hl (k := 0) rfl (e69) (by decide) rfl (fun ls hl => ?_)
        refine lv_goto (tgt := 7) hx hb d_5_8_25 (by decide) ?_
        exact ih16 ((a68 : Int32)) _ _ _ ws (show (a68.toInt - ((-1000000))).toNat < (lx13.toInt - ((-1000000))).toNat from by have t1 : a68.toInt = lx13.toInt + (-1) := b70; have t2 : 0 ≤ lx13.toInt + 1 := i14; omega) ⟨(show q_F (0 ≤ a68.toInt + 1) from (show 0 ≤ a68.toInt + 1 from by have t1 : 0 ≤ lx13.toInt := b62; have t2 : a68.toInt = lx13.toInt + (-1) := b70; omega)), (show q_F (a68.toInt + 1 ≤ t0_0.toInt) from (show a68.toInt + 1 ≤ t0_0.toInt from by have t1 : lx13.toInt + 1 ≤ t0_0.toInt := i15; have t2 : a68.toInt = lx13.toInt + (-1) := b70; omega)), V, q_lw hl (q_lw1 0 rfl (q_lw1 1 rfl (q_lw1 2 rfl q_lw0))), ⟨fm21, Nat.lt_of_lt_of_le (show (a68.toInt - ((-1000000))).toNat < (lx13.toInt - ((-1000000))).toNat from by have t1 : a68.toInt = lx13.toInt + (-1) := b70; have t2 : 0 ≤ lx13.toInt + 1 := i14; omega) (Nat.le_of_lt_succ hf20), (show F_Dig_stepOutwards_1_L7 x2 t0_0 t0_1 t1_0 fm21 a68 = (F_Dig_stepOutwards_1 x2 t0_0 t0_1 t1_0) from Eq.trans (by have c65x := c65; rw [← e64] at c65x; rw [← e69, F_Dig_stepOutwards_1_L7.eq_2, if_neg c60, if_pos c65x]) hR17)⟩⟩
def F_Dig_round_1_c31 (x2 : Int32) (x3 : Int32) (t0_0 : Int32) (t0_1 : Int32) (t1_0 : (Nat → Int32)) (a13 : Int32) (p41 : (Int32 × Int32 × (Nat → Int32))) : Int32 × Int32 × (Nat → Int32) := ((p41.1 : Int32), (p41.2.1 : Int32), (p41.2.2 : (Nat → Int32)))
def F_Dig_round_1 (x2 : Int32) (x3 : Int32) (t0_0 : Int32) (t0_1 : Int32) (t1_0 : (Nat → Int32)) : Int32 × Int32 × (Nat → Int32) := if x2 < t0_0 then (if ((F_Dig_goesOutwards x2 x3 t0_0 t0_1 t1_0) : Int32) = (0 : Int32) then (((if x2 < 0 then 0 else x2 : Int32), t0_1, t1_0)) else (F_Dig_round_1_c31 x2 x3 t0_0 t0_1 t1_0 ((F_Dig_goesOutwards x2 x3 t0_0 t0_1 t1_0) : Int32) ((F_Dig_stepOutwards_1 x2 (if x2 < 0 then 0 else x2 : Int32) t0_1 t1_0) : (Int32 × Int32 × (Nat → Int32))))) else ((t0_0, t0_1, t1_0))
set_option maxRecDepth 100000 in
set_option maxHeartbeats 4000000 in
theorem X_Dig_round_1 (l : Launch) (D : va_G) (g : Nat → ClassId) (q : Nat → Nat) (ws : va_W) (x2 : Int32) (x3 : Int32) (hI : q_I (nsh g q) q ws) (t0_0 : Int32) (t0_1 : Int32) (hT0 : ws[36]? = (some (q 36, .inr (7, [.int t0_0, .int t0_1, .ref (q 37)])) : Option (Nat × va_E))) (t1_0 : (Nat → Int32)) (hT1 : ws[37]? = (some (q 37, .inl (g 2, 1026, .inl t1_0)) : Option (Nat × va_E))) (pre0 : 1 ≤ x2.toInt) (pre1 : 0 ≤ t0_1.toInt + 200000) (pre2 : t0_1.toInt ≤ 200000) : q_mV l y_Dig_round prog_5_method_6_code 4 3 0 0 D g [.ref (q 36), .int x2, .int x3] ws (fun u => q_I (nsh g q) q u ∧ q_un ws u [36, 37] ∧ ∃ (u0_0 : Int32) (u0_1 : Int32) (u1_0 : (Nat → Int32)), u[36]? = (some (q 36, .inr (7, [.int u0_0, .int u0_1, .ref (q 37)])) : Option (Nat × va_E)) ∧ u[37]? = (some (q 37, .inl (g 2, 1026, .inl u1_0)) : Option (Nat × va_E)) ∧ (0 ≤ u0_0.toInt) ∧ (u0_0.toInt ≤ x2.toInt + 1) ∧ (t0_0.toInt ≤ u0_0.toInt + 1025) ∧ (u0_0.toInt ≤ t0_0.toInt) ∧ (t0_1.toInt ≤ u0_1.toInt) ∧ (u0_1.toInt ≤ t0_1.toInt + 1) ∧ (u0_1.toInt ≤ u0_0.toInt + 200000) ∧ (u0_0, u0_1, u1_0) = (F_Dig_round_1 x2 x3 t0_0 t0_1 t1_0)) := by
  intro sz
  refine q_into (by decide) (Nat.le_of_ble_eq_true rfl) ?_
  intro p e s m below meth c ls hsz C0 V hl
  have hx := C0.1
  have hb := C0.2.1
  obtain ⟨yy0_0, yy0_1, hh0, btt0_0, btt0_1⟩ := n_o36 hI
  obtain ⟨rfl, rfl⟩ : t0_0 = yy0_0 ∧ t0_1 = yy0_1 := by have z := Option.some.inj (hT0.symm.trans hh0); simpa using z
  replace btt0_0 : q_F (0 ≤ t0_0.toInt ∧ t0_0.toInt ≤ 1026) := btt0_0
  replace btt0_1 : q_F (-1000000 ≤ t0_1.toInt ∧ t0_1.toInt ≤ 1000000) := btt0_1
  replace pre0 : q_F (1 ≤ x2.toInt) := pre0
  replace pre1 : q_F (0 ≤ t0_1.toInt + 200000) := pre1
  replace pre2 : q_F (t0_1.toInt ≤ 200000) := pre2
  have hF : q_un ws ws [36, 37] := q_u0
  have hl : lv_has ls 4 [(0, .ref (q 36)), (1, .int x2), (2, .int x3)] := hl
  refine lv_iload_n hx hb d_5_6_0 rfl (lv_at hl 1 rfl) ?_
  refine lv_aload_n hx hb d_5_6_1 rfl (lv_at hl 0 rfl) ?_
  refine q_get (ci := 7) (j := 0) (v := .int t0_0) C0 V i_Dig rfl rfl hT0 (by decide) w_264 rfl d_5_6_2 ?_
  refine lv_icmp_lt (tgt := 9) hx hb d_5_6_5 (by decide) (fun c9 => ?_) (fun c9 => ?_)
  ·
    have b10 : q_F (x2.toInt < t0_0.toInt) := (q_ltI c9)
    refine lv_aload_n hx hb d_5_6_9 rfl (lv_at hl 0 rfl) ?_
    refine lv_iload_n hx hb d_5_6_10 rfl (lv_at hl 1 rfl) ?_
    refine lv_iload_n hx hb d_5_6_11 rfl (lv_at hl 2 rfl) ?_
    refine q_goi V (q_runV (As := [.int x2, .int x3]) (rest := []) (d := 2) (mc := 0) (ms := 0) (ci := 7) C0 V rfl LV_Dig_36 (X_Dig_goesOutwards l D g q ws  x2 x3 hI t0_0 t0_1 hT0 t1_0 hT1  _) rfl rfl hT0 rfl hl.1 rfl (Nat.le_of_ble_eq_true rfl) ⟨by decide, by decide⟩ ⟨Nat.le_of_ble_eq_true rfl, Nat.le_of_ble_eq_true rfl⟩ d_5_6_12) (fun a13 u11 H locs hp12 V => ?_)
    obtain ⟨rfl, b14, b15, hE16⟩ := hp12
    have e17 : a13 = (F_Dig_goesOutwards x2 x3 t0_0 t0_1 t1_0) := hE16
    replace b14 : q_F (0 ≤ a13.toInt) := b14
    replace b15 : q_F (a13.toInt ≤ 1) := b15
    refine lv_istore_n (lv' := [(3, .int a13), (0, .ref (q 36)), (1, .int x2), (2, .int x3)]) hx hb d_5_6_15 rfl hl (by decide) rfl (fun ls hl => ?_)
    refine lv_aload_n hx hb d_5_6_16 rfl (lv_at hl 1 rfl) ?_
    refine lv_iload_n hx hb d_5_6_17 rfl (lv_at hl 2 rfl) ?_
    refine lv_iconst (v := 0) hx hb d_5_6_18 (by decide) ?_
    refine q_max C0 hl.1 rfl w_1571 w_803 w_7 w_804 ⟨Nat.le_of_ble_eq_true rfl, Nat.le_of_ble_eq_true rfl⟩ ⟨Nat.le_of_ble_eq_true rfl, Nat.le_of_ble_eq_true rfl⟩ d_5_6_19 ?_
    obtain ⟨a18, e19⟩ := q_nm (if x2 < 0 then 0 else x2 : Int32)
    refine q_ti (v := a18) e19 ?_
    have b20 : q_F (x2.toInt ≤ a18.toInt ∧ 0 ≤ a18.toInt ∧ (a18.toInt = x2.toInt ∨ a18.toInt = 0)) := (by rw [← e19]; show x2.toInt ≤ (if x2 < 0 then 0 else x2 : Int32).toInt ∧ 0 ≤ (if x2 < 0 then 0 else x2 : Int32).toInt ∧ ((if x2 < 0 then 0 else x2 : Int32).toInt = x2.toInt ∨ (if x2 < 0 then 0 else x2 : Int32).toInt = 0); exact (by have y1 : (0 : Int32).toInt = 0 := rfl; have z := s_max (a := x2) (b := 0); omega))
    refine q_put (ci := 7) (j := 0) (v := .int a18) (ty := .int) C0 V i_Dig o_Dig n_Dig rfl rfl hT0 (by decide) w_264 rfl rfl rfl rfl (Nat.le_of_ble_eq_true rfl) d_5_6_22 (fun H locs w21 hu22 hT0 V => ?_)
    replace hT0 : w21[36]? = (some (q 36, .inr (7, [.int a18, .int t0_1, .ref (q 37)])) : Option (Nat × va_E)) := hT0
    replace hI := n_p36 hI hu22 hT0 ⟨(by have t1 : x2.toInt ≤ a18.toInt ∧ 0 ≤ a18.toInt ∧ (a18.toInt = x2.toInt ∨ a18.toInt = 0) := b20; omega), (by have t1 : 0 ≤ t0_0.toInt ∧ t0_0.toInt ≤ 1026 := btt0_0; have t2 : x2.toInt < t0_0.toInt := b10; have t3 : x2.toInt ≤ a18.toInt ∧ 0 ≤ a18.toInt ∧ (a18.toInt = x2.toInt ∨ a18.toInt = 0) := b20; omega)⟩ ⟨(by have t1 : -1000000 ≤ t0_1.toInt ∧ t0_1.toInt ≤ 1000000 := btt0_1; omega), (by have t1 : -1000000 ≤ t0_1.toInt ∧ t0_1.toInt ≤ 1000000 := btt0_1; omega)⟩
    replace hT1 := (hu22 _ (by decide)).trans hT1
    replace hF := q_us hF hu22 (by simp)
    refine lv_iload_n hx hb d_5_6_25 rfl (lv_at hl 0 rfl) ?_
    refine lv_if_eq (tgt := 34) hx hb d_5_6_26 (by decide) (fun c23 => ?_) (fun c23 => ?_)
    ·
      have b24 : q_F (a13.toInt = 0) := (q_eqI c23)
      refine lv_aload_n hx hb d_5_6_34 rfl (lv_at hl 1 rfl) ?_
      refine q_get (ci := 7) (j := 0) (v := .int a18) C0 V i_Dig rfl rfl hT0 (by decide) w_264 rfl d_5_6_35 ?_
      refine lv_if_ne (tgt := 46) hx hb d_5_6_38 (by decide) (fun c25 => ?_) (fun c25 => absurd (show a18.toInt = 0 from q_eqI c25) (by have t1 : 1 ≤ x2.toInt := pre0; have t2 : x2.toInt ≤ a18.toInt ∧ 0 ≤ a18.toInt ∧ (a18.toInt = x2.toInt ∨ a18.toInt = 0) := b20; omega))
      exact q_retv C0 V (⟨hI, hF, a18, t0_1, t1_0, hT0, hT1, (show 0 ≤ a18.toInt from (by have t1 : x2.toInt ≤ a18.toInt ∧ 0 ≤ a18.toInt ∧ (a18.toInt = x2.toInt ∨ a18.toInt = 0) := b20; omega)), (show a18.toInt ≤ x2.toInt + 1 from (by have t1 : 1 ≤ x2.toInt := pre0; have t2 : x2.toInt ≤ a18.toInt ∧ 0 ≤ a18.toInt ∧ (a18.toInt = x2.toInt ∨ a18.toInt = 0) := b20; omega)), (show t0_0.toInt ≤ a18.toInt + 1025 from (by have t1 : 0 ≤ t0_0.toInt ∧ t0_0.toInt ≤ 1026 := btt0_0; have t2 : 1 ≤ x2.toInt := pre0; have t3 : x2.toInt ≤ a18.toInt ∧ 0 ≤ a18.toInt ∧ (a18.toInt = x2.toInt ∨ a18.toInt = 0) := b20; omega)), (show a18.toInt ≤ t0_0.toInt from (by have t1 : 0 ≤ t0_0.toInt ∧ t0_0.toInt ≤ 1026 := btt0_0; have t2 : x2.toInt < t0_0.toInt := b10; have t3 : x2.toInt ≤ a18.toInt ∧ 0 ≤ a18.toInt ∧ (a18.toInt = x2.toInt ∨ a18.toInt = 0) := b20; omega)), (show t0_1.toInt ≤ t0_1.toInt from (by omega)), (show t0_1.toInt ≤ t0_1.toInt + 1 from (by omega)), (show t0_1.toInt ≤ a18.toInt + 200000 from (by have t1 : t0_1.toInt ≤ 200000 := pre2; have t2 : x2.toInt ≤ a18.toInt ∧ 0 ≤ a18.toInt ∧ (a18.toInt = x2.toInt ∨ a18.toInt = 0) := b20; omega)), (show (a18, t0_1, t1_0) = (F_Dig_round_1 x2 x3 t0_0 t0_1 t1_0) from (by have c23x := c23; rw [e17] at c23x; rw [← e19, F_Dig_round_1.eq_1, if_pos c9, if_pos c23x]))⟩) d_5_6_46
    ·
      have b26 : q_F (a13.toInt ≠ 0) := (q_neI c23)
      refine lv_aload_n hx hb d_5_6_29 rfl (lv_at hl 1 rfl) ?_
      refine lv_iload_n hx hb d_5_6_30 rfl (lv_at hl 2 rfl) ?_
      refine q_gov V (q_runV (As := [.int x2]) (rest := []) (d := 1) (mc := 0) (ms := 0) (ci := 7) C0 V rfl LV_Dig_46 (X_Dig_stepOutwards_1 l D g q w21  x2 hI a18 t0_1 hT0 t1_0 hT1 (by have t1 : 1 ≤ x2.toInt := pre0; omega) (by have t1 : 0 ≤ t0_1.toInt + 200000 := pre1; omega) (by have t1 : t0_1.toInt ≤ 200000 := pre2; omega) _) rfl rfl hT0 rfl hl.1 rfl (Nat.le_of_ble_eq_true rfl) ⟨by decide, by decide⟩ ⟨Nat.le_of_ble_eq_true rfl, Nat.le_of_ble_eq_true rfl⟩ d_5_6_31) (fun u27 H locs hp28 V => ?_)
      obtain ⟨hI, hu40, y30, y31, f32, hO29, hA33, b34, b35, b36, b37, b38, hE39⟩ := hp28
      replace hO29 : u27[36]? = (some (q 36, .inr (7, [.int y30, .int y31, .ref (q 37)])) : Option (Nat × va_E)) := hO29
      replace hA33 : u27[37]? = (some (q 37, .inl (g 2, 1026, .inl f32)) : Option (Nat × va_E)) := hA33
      obtain ⟨p41, e42⟩ : ∃ z, z = (F_Dig_stepOutwards_1 x2 a18 t0_1 t1_0) := ⟨_, rfl⟩
      have e43 : y30 = p41.1 := congrArg (fun z => z.1) (hE39.trans e42.symm)
      have e44 : y31 = p41.2.1 := congrArg (fun z => z.2.1) (hE39.trans e42.symm)
      have e45 : f32 = p41.2.2 := congrArg (fun z => z.2.2) (hE39.trans e42.symm)
      replace b34 : q_F (1 ≤ y30.toInt) := b34
      replace b35 : q_F (y30.toInt ≤ 1026) := b35
      replace b36 : q_F (y30.toInt ≤ a18.toInt + 1) := b36
      replace b37 : q_F (t0_1.toInt ≤ y31.toInt) := b37
      replace b38 : q_F (y31.toInt ≤ t0_1.toInt + 1) := b38
      replace hF := q_uc hF hu40 (by simp)
      have hR46 := (show F_Dig_round_1_c31 x2 x3 t0_0 t0_1 t1_0 a13 p41 = (F_Dig_round_1 x2 x3 t0_0 t0_1 t1_0) from (by have c23x := c23; rw [e17] at c23x; rw [e42, ← e19, e17, F_Dig_round_1.eq_1, if_pos c9, if_neg c23x]))
      refine lv_aload_n hx hb d_5_6_34 rfl (lv_at hl 1 rfl) ?_
      refine q_get (ci := 7) (j := 0) (v := .int y30) C0 V i_Dig rfl rfl hO29 (by decide) w_264 rfl d_5_6_35 ?_
      refine lv_if_ne (tgt := 46) hx hb d_5_6_38 (by decide) (fun c51 => ?_) (fun c51 => absurd (show y30.toInt = 0 from q_eqI c51) (by have t1 : 1 ≤ y30.toInt := b34; omega))
      exact q_retv C0 V (⟨hI, hF, y30, y31, f32, hO29, hA33, (show 0 ≤ y30.toInt from (by have t1 : 1 ≤ y30.toInt := b34; omega)), (show y30.toInt ≤ x2.toInt + 1 from (by have t1 : 1 ≤ x2.toInt := pre0; have t2 : x2.toInt ≤ a18.toInt ∧ 0 ≤ a18.toInt ∧ (a18.toInt = x2.toInt ∨ a18.toInt = 0) := b20; have t3 : y30.toInt ≤ a18.toInt + 1 := b36; omega)), (show t0_0.toInt ≤ y30.toInt + 1025 from (by have t1 : 0 ≤ t0_0.toInt ∧ t0_0.toInt ≤ 1026 := btt0_0; have t2 : 1 ≤ y30.toInt := b34; omega)), (show y30.toInt ≤ t0_0.toInt from (by have t1 : 1 ≤ x2.toInt := pre0; have t2 : x2.toInt < t0_0.toInt := b10; have t3 : x2.toInt ≤ a18.toInt ∧ 0 ≤ a18.toInt ∧ (a18.toInt = x2.toInt ∨ a18.toInt = 0) := b20; have t4 : y30.toInt ≤ a18.toInt + 1 := b36; omega)), (show t0_1.toInt ≤ y31.toInt from (by have t1 : t0_1.toInt ≤ y31.toInt := b37; omega)), (show y31.toInt ≤ t0_1.toInt + 1 from (by have t1 : y31.toInt ≤ t0_1.toInt + 1 := b38; omega)), (show y31.toInt ≤ y30.toInt + 200000 from (by have t1 : t0_1.toInt ≤ 200000 := pre2; have t2 : 1 ≤ y30.toInt := b34; have t3 : y31.toInt ≤ t0_1.toInt + 1 := b38; omega)), (show (y30, y31, f32) = (F_Dig_round_1 x2 x3 t0_0 t0_1 t1_0) from Eq.trans (by rw [e45, e44, e43, F_Dig_round_1_c31.eq_1]) hR46)⟩) d_5_6_46
  ·
    have b52 : q_F (t0_0.toInt ≤ x2.toInt) := (q_nltI c9)
    exact q_retv C0 V (⟨hI, hF, t0_0, t0_1, t1_0, hT0, hT1, (show 0 ≤ t0_0.toInt from (by have t1 : 0 ≤ t0_0.toInt ∧ t0_0.toInt ≤ 1026 := btt0_0; omega)), (show t0_0.toInt ≤ x2.toInt + 1 from (by have t1 : t0_0.toInt ≤ x2.toInt := b52; omega)), (show t0_0.toInt ≤ t0_0.toInt + 1025 from (by omega)), (show t0_0.toInt ≤ t0_0.toInt from (by omega)), (show t0_1.toInt ≤ t0_1.toInt from (by omega)), (show t0_1.toInt ≤ t0_1.toInt + 1 from (by omega)), (show t0_1.toInt ≤ t0_0.toInt + 200000 from (by have t1 : 0 ≤ t0_0.toInt ∧ t0_0.toInt ≤ 1026 := btt0_0; have t2 : t0_1.toInt ≤ 200000 := pre2; omega)), (show (t0_0, t0_1, t1_0) = (F_Dig_round_1 x2 x3 t0_0 t0_1 t1_0) from (by rw [F_Dig_round_1.eq_1, if_neg c9]))⟩) d_5_6_8
