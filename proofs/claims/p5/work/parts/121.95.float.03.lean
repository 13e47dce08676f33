theorem d_17_13_0 : decode prog_17_method_13_code 0 = .ok (.iload_n 1, 1) := by decide +kernel
theorem d_17_13_16 : decode prog_17_method_13_code 16 = .ok (.iload_n 1, 1) := by decide +kernel
theorem d_17_13_17 : decode prog_17_method_13_code 17 = .ok (.ifCond .le 19, 3) := by decide +kernel
theorem d_17_13_36 : decode prog_17_method_13_code 36 = .ok (.iconst (-1), 1) := by decide +kernel
theorem d_17_13_37 : decode prog_17_method_13_code 37 = .ok (.ireturn, 1) := by decide +kernel
theorem d_17_13_20 : decode prog_17_method_13_code 20 = .ok (.aload_n 0, 1) := by decide +kernel
theorem d_17_13_21 : decode prog_17_method_13_code 21 = .ok (.getfield 16, 3) := by decide +kernel
theorem d_17_13_24 : decode prog_17_method_13_code 24 = .ok (.iload_n 1, 1) := by decide +kernel
theorem d_17_13_25 : decode prog_17_method_13_code 25 = .ok (.iconst 1, 1) := by decide +kernel
theorem d_17_13_26 : decode prog_17_method_13_code 26 = .ok (.isub, 1) := by decide +kernel
theorem d_17_13_27 : decode prog_17_method_13_code 27 = .ok (.iaload, 1) := by decide +kernel
theorem d_17_13_28 : decode prog_17_method_13_code 28 = .ok (.iconst 5, 1) := by decide +kernel
theorem d_17_13_29 : decode prog_17_method_13_code 29 = .ok (.if_icmp .le 7, 3) := by decide +kernel
theorem d_17_13_32 : decode prog_17_method_13_code 32 = .ok (.iconst 1, 1) := by decide +kernel
theorem d_17_13_33 : decode prog_17_method_13_code 33 = .ok (.goto 4, 3) := by decide +kernel
theorem d_17_13_1 : decode prog_17_method_13_code 1 = .ok (.ifCond .eq 15, 3) := by decide +kernel
theorem d_17_13_4 : decode prog_17_method_13_code 4 = .ok (.aload_n 0, 1) := by decide +kernel
theorem d_17_13_5 : decode prog_17_method_13_code 5 = .ok (.getfield 16, 3) := by decide +kernel
theorem d_17_13_8 : decode prog_17_method_13_code 8 = .ok (.iload_n 1, 1) := by decide +kernel
theorem d_17_13_9 : decode prog_17_method_13_code 9 = .ok (.iconst 1, 1) := by decide +kernel
theorem d_17_13_10 : decode prog_17_method_13_code 10 = .ok (.isub, 1) := by decide +kernel
theorem d_17_13_11 : decode prog_17_method_13_code 11 = .ok (.iaload, 1) := by decide +kernel
theorem d_17_13_12 : decode prog_17_method_13_code 12 = .ok (.iconst 5, 1) := by decide +kernel
theorem d_17_13_13 : decode prog_17_method_13_code 13 = .ok (.if_icmp .eq 25, 3) := by decide +kernel
theorem d_17_13_38 : decode prog_17_method_13_code 38 = .ok (.iconst 0, 1) := by decide +kernel
theorem d_17_13_39 : decode prog_17_method_13_code 39 = .ok (.istore_n 2, 1) := by decide +kernel
theorem d_17_13_40 : decode prog_17_method_13_code 40 = .ok (.iload_n 2, 1) := by decide +kernel
theorem d_17_13_41 : decode prog_17_method_13_code 41 = .ok (.iload_n 1, 1) := by decide +kernel
theorem d_17_13_42 : decode prog_17_method_13_code 42 = .ok (.iconst 1, 1) := by decide +kernel
theorem d_17_13_43 : decode prog_17_method_13_code 43 = .ok (.isub, 1) := by decide +kernel
theorem d_17_13_44 : decode prog_17_method_13_code 44 = .ok (.if_icmp .ge 20, 3) := by decide +kernel
theorem d_17_13_64 : decode prog_17_method_13_code 64 = .ok (.iconst 0, 1) := by decide +kernel
theorem d_17_13_65 : decode prog_17_method_13_code 65 = .ok (.ireturn, 1) := by decide +kernel
theorem d_17_13_47 : decode prog_17_method_13_code 47 = .ok (.aload_n 0, 1) := by decide +kernel
theorem d_17_13_48 : decode prog_17_method_13_code 48 = .ok (.getfield 16, 3) := by decide +kernel
theorem d_17_13_51 : decode prog_17_method_13_code 51 = .ok (.iload_n 2, 1) := by decide +kernel
theorem d_17_13_52 : decode prog_17_method_13_code 52 = .ok (.iaload, 1) := by decide +kernel
theorem d_17_13_53 : decode prog_17_method_13_code 53 = .ok (.ifCond .eq 5, 3) := by decide +kernel
theorem d_17_13_58 : decode prog_17_method_13_code 58 = .ok (.iinc 2 1, 3) := by decide +kernel
theorem d_17_13_61 : decode prog_17_method_13_code 61 = .ok (.goto (-21), 3) := by decide +kernel
theorem d_17_13_56 : decode prog_17_method_13_code 56 = .ok (.iconst 1, 1) := by decide +kernel
theorem d_17_13_57 : decode prog_17_method_13_code 57 = .ok (.ireturn, 1) := by decide +kernel
def y_FR_half : MethodName := ⟨"NumberHouseModel$FloatRows", "half", "(I)I"⟩
def F_FR_half_J16 (x2 : Int32) (t0_0 : Int32) (t0_1 : Int32) (t0_2 : Int32) (t0_3 : Int32) (t0_4 : Int64) (t0_5 : Int32) (t0_6 : Int32) (t0_7 : Int64) (t0_8 : Int32) (t0_9 : Int64) (t0_10 : Int32) (t1_0 : (Nat → Int32)) : Int32 := if x2 ≤ (0 : Int32) then ((-1 : Int32)) else (if (t1_0 (x2 - 1 : Int32).toNatClampNeg : Int32) ≤ (5 : Int32) then ((-1 : Int32)) else ((1 : Int32)))
def F_FR_half_L40 (x2 : Int32) (t0_0 : Int32) (t0_1 : Int32) (t0_2 : Int32) (t0_3 : Int32) (t0_4 : Int64) (t0_5 : Int32) (t0_6 : Int32) (t0_7 : Int64) (t0_8 : Int32) (t0_9 : Int64) (t0_10 : Int32) (t1_0 : (Nat → Int32)) : Nat → Int32 → Int32
  | 0, _ => default
  | fm + 1, lx49 => if (x2 - 1 : Int32) ≤ lx49 then ((0 : Int32)) else (if (t1_0 lx49.toNatClampNeg : Int32) = (0 : Int32) then (F_FR_half_L40 x2 t0_0 t0_1 t0_2 t0_3 t0_4 t0_5 t0_6 t0_7 t0_8 t0_9 t0_10 t1_0 fm (lx49 + 1 : Int32)) else ((1 : Int32)))
def F_FR_half (x2 : Int32) (t0_0 : Int32) (t0_1 : Int32) (t0_2 : Int32) (t0_3 : Int32) (t0_4 : Int64) (t0_5 : Int32) (t0_6 : Int32) (t0_7 : Int64) (t0_8 : Int32) (t0_9 : Int64) (t0_10 : Int32) (t1_0 : (Nat → Int32)) : Int32 := if x2 = (0 : Int32) then (F_FR_half_J16 x2 t0_0 t0_1 t0_2 t0_3 t0_4 t0_5 t0_6 t0_7 t0_8 t0_9 t0_10 t1_0) else (if (t1_0 (x2 - 1 : Int32).toNatClampNeg : Int32) = (5 : Int32) then (F_FR_half_L40 x2 t0_0 t0_1 t0_2 t0_3 t0_4 t0_5 t0_6 t0_7 t0_8 t0_9 t0_10 t1_0 1000000 0) else (F_FR_half_J16 x2 t0_0 t0_1 t0_2 t0_3 t0_4 t0_5 t0_6 t0_7 t0_8 t0_9 t0_10 t1_0))
def S_FR_half_J16 (x2 : Int32) (t0_0 : Int32) (t0_1 : Int32) (t0_2 : Int32) (t0_3 : Int32) (t0_4 : Int64) (t0_5 : Int32) (t0_6 : Int32) (t0_7 : Int64) (t0_8 : Int32) (t0_9 : Int64) (t0_10 : Int32) (t1_0 : (Nat → Int32)) : Prop := if x2 ≤ (0 : Int32) then (True) else (((x2 - 1 : Int32).toInt ≤ 1403) ∧ (if (t1_0 (x2 - 1 : Int32).toNatClampNeg : Int32) ≤ (5 : Int32) then (True) else (True)))
def S_FR_half_L40 (x2 : Int32) (t0_0 : Int32) (t0_1 : Int32) (t0_2 : Int32) (t0_3 : Int32) (t0_4 : Int64) (t0_5 : Int32) (t0_6 : Int32) (t0_7 : Int64) (t0_8 : Int32) (t0_9 : Int64) (t0_10 : Int32) (t1_0 : (Nat → Int32)) : Nat → Int32 → Prop
  | 0, _ => False
  | fm + 1, lx49 => if (x2 - 1 : Int32) ≤ lx49 then (True) else ((lx49.toInt ≤ 1403) ∧ (if (t1_0 lx49.toNatClampNeg : Int32) = (0 : Int32) then (S_FR_half_L40 x2 t0_0 t0_1 t0_2 t0_3 t0_4 t0_5 t0_6 t0_7 t0_8 t0_9 t0_10 t1_0 fm (lx49 + 1 : Int32)) else (True)))
def S_FR_half (x2 : Int32) (t0_0 : Int32) (t0_1 : Int32) (t0_2 : Int32) (t0_3 : Int32) (t0_4 : Int64) (t0_5 : Int32) (t0_6 : Int32) (t0_7 : Int64) (t0_8 : Int32) (t0_9 : Int64) (t0_10 : Int32) (t1_0 : (Nat → Int32)) : Prop := if x2 = (0 : Int32) then (S_FR_half_J16 x2 t0_0 t0_1 t0_2 t0_3 t0_4 t0_5 t0_6 t0_7 t0_8 t0_9 t0_10 t1_0) else ((0 ≤ (x2 - 1 : Int32).toInt) ∧ (((x2 - 1 : Int32).toInt ≤ 1403) ∧ (if (t1_0 (x2 - 1 : Int32).toNatClampNeg : Int32) = (5 : Int32) then (S_FR_half_L40 x2 t0_0 t0_1 t0_2 t0_3 t0_4 t0_5 t0_6 t0_7 t0_8 t0_9 t0_10 t1_0 1000000 0) else (S_FR_half_J16 x2 t0_0 t0_1 t0_2 t0_3 t0_4 t0_5 t0_6 t0_7 t0_8 t0_9 t0_10 t1_0))))
set_option maxRecDepth 100000 in
set_option maxHeartbeats 4000000 in
theorem X_FR_half (l : Launch) (D : va_G) (g : Nat → ClassId) (q : Nat → Nat) (ws : va_W) (x2 : Int32) (hI : q_I (msh g q) q ws) (t0_0 : Int32) (t0_1 : Int32) (t0_2 : Int32) (t0_3 : Int32) (t0_4 : Int64) (t0_5 : Int32) (t0_6 : Int32) (t0_7 : Int64) (t0_8 : Int32) (t0_9 : Int64) (t0_10 : Int32) (hT0 : ws[145]? = (some (q 145, .inr (15, [.int t0_0, .ref (q 146), .ref (q 147), .ref (q 148), .ref (q 149), .ref (q 150), .ref (q 151), .ref (q 152), .int t0_1, .int t0_2, .int t0_3, .long t0_4, .int t0_5, .int t0_6, .long t0_7, .int t0_8, .long t0_9, .int t0_10])) : Option (Nat × va_E))) (t1_0 : (Nat → Int32)) (hT1 : ws[148]? = (some (q 148, .inl (g 0, (1404 : Int32).toNatClampNeg, .inl t1_0)) : Option (Nat × va_E))) (hS : True ∧ S_FR_half x2 t0_0 t0_1 t0_2 t0_3 t0_4 t0_5 t0_6 t0_7 t0_8 t0_9 t0_10 t1_0) : q_mI l y_FR_half prog_17_method_13_code 3 (.int) 1 0 0 D g [.ref (q 145), .int x2] ws (fun r u => ws = u ∧ (0 ≤ r.toInt + 1) ∧ (r.toInt ≤ 1) ∧ r = (F_FR_half x2 t0_0 t0_1 t0_2 t0_3 t0_4 t0_5 t0_6 t0_7 t0_8 t0_9 t0_10 t1_0)) := by
  intro sz
  refine q_into (by decide) (Nat.le_of_ble_eq_true rfl) ?_
  intro p e s m below meth c ls hsz C0 V hl
  have hx := C0.1
  have hb := C0.2.1
  have btt0_2 := n_w145 hI hT0
  clear btt0_2
  have hl : lv_has ls 3 [(0, .ref (q 145)), (1, .int x2)] := hl
  refine lv_iload_n hx hb d_17_13_0 rfl (lv_at hl 1 rfl) ?_
  refine q_join (X := Unit) (fun z H locs ls _ => q_Wd D g (va_A ws sz) s ws H locs ∧ lv_has ls 3 [(0, .ref (q 145)), (1, .int x2)] ∧ F_FR_half_J16 x2 t0_0 t0_1 t0_2 t0_3 t0_4 t0_5 t0_6 t0_7 t0_8 t0_9 t0_10 t1_0 = (F_FR_half x2 t0_0 t0_1 t0_2 t0_3 t0_4 t0_5 t0_6 t0_7 t0_8 t0_9 t0_10 t1_0) ∧ True ∧ S_FR_half_J16 x2 t0_0 t0_1 t0_2 t0_3 t0_4 t0_5 t0_6 t0_7 t0_8 t0_9 t0_10 t1_0) (fun z => []) 16 0 0 ?_ ?_
  ·
    rintro _ H locs ls _ ⟨V, hl, hR20, hS21⟩
    replace hl : lv_has ls 3 [(0, .ref (q 145)), (1, .int x2)] := hl
    refine lv_iload_n hx hb d_17_13_16 rfl (lv_at hl 1 rfl) ?_
    refine lv_if_le (tgt := 36) hx hb d_17_13_17 (by decide) (fun c25 => ?_) (fun c25 => ?_)
    ·
      refine lv_iconst (v := (-1)) hx hb d_17_13_36 (by decide) ?_
      exact q_reti C0 V (⟨rfl, (show 0 ≤ (-1 : Int32).toInt + 1 from (by have z13 : (-1 : Int32).toInt = -1 := rfl; omega)), (show (-1 : Int32).toInt ≤ 1 from (by have z13 : (-1 : Int32).toInt = -1 := rfl; omega)), (show (-1 : Int32) = (F_FR_half x2 t0_0 t0_1 t0_2 t0_3 t0_4 t0_5 t0_6 t0_7 t0_8 t0_9 t0_10 t1_0) from Eq.trans (by rw [F_FR_half_J16.eq_1, if_pos c25]) hR20)⟩) d_17_13_37
    ·
      have b27 : q_F (0 < x2.toInt) := (q_nleI c25)
      refine lv_aload_n hx hb d_17_13_20 rfl (lv_at hl 0 rfl) ?_
      refine q_get (ci := 15) (j := 3) (v := .ref (q 148)) C0 V i_FR rfl rfl hT0 (by decide) w_2078 rfl d_17_13_21 ?_
      refine lv_iload_n hx hb d_17_13_24 rfl (lv_at hl 1 rfl) ?_
      refine lv_iconst (v := 1) hx hb d_17_13_25 (by decide) ?_
      refine lv_isub hx hb d_17_13_26 ?_
      obtain ⟨a28, e29⟩ := q_nm (x2 - 1 : Int32)
      refine q_ti (v := a28) e29 ?_
      have b30 : q_F (a28.toInt = x2.toInt - 1) := (by rw [← e29]; show (x2 - 1 : Int32).toInt = x2.toInt - 1; exact q_subI (x := x2.toInt) (y := 1) rfl (by decide) (by have t1 : 0 < x2.toInt := b27; have _ := q_lo32 (x := x2); have _ := q_hi32 (x := x2); omega) (by have t1 : 0 < x2.toInt := b27; have _ := q_lo32 (x := x2); have _ := q_hi32 (x := x2); omega))
      have ob31 : q_F (a28.toInt ≤ 1403) := (by rw [← e29]; have h := hS21; rw [S_FR_half_J16.eq_1] at h; rw [if_neg c25] at h; exact h.2.1)
      refine q_iald C0 V hT1 (q_ix (x := a28.toInt) rfl (by have t1 : 0 < x2.toInt := b27; have t2 : a28.toInt = x2.toInt - 1 := b30; omega) (by have t1 : 0 < x2.toInt := b27; have t2 : a28.toInt = x2.toInt - 1 := b30; have t3 : a28.toInt ≤ 1403 := ob31; have e9 : (((1404 : Int32).toNatClampNeg : Nat) : Int) = 1404 := (by decide); omega)) d_17_13_27 ?_
      obtain ⟨a32, e33⟩ := q_nm (t1_0 a28.toNatClampNeg : Int32)
      refine q_ti (v := a32) e33 ?_
      refine lv_iconst (v := 5) hx hb d_17_13_28 (by decide) ?_
      refine lv_icmp_le (tgt := 36) hx hb d_17_13_29 (by decide) (fun c34 => ?_) (fun c34 => ?_)
      ·
        refine lv_iconst (v := (-1)) hx hb d_17_13_36 (by decide) ?_
        exact q_reti C0 V (⟨rfl, (show 0 ≤ (-1 : Int32).toInt + 1 from (by have z13 : (-1 : Int32).toInt = -1 := rfl; omega)), (show (-1 : Int32).toInt ≤ 1 from (by have z13 : (-1 : Int32).toInt = -1 := rfl; omega)), (show (-1 : Int32) = (F_FR_half x2 t0_0 t0_1 t0_2 t0_3 t0_4 t0_5 t0_6 t0_7 t0_8 t0_9 t0_10 t1_0) from Eq.trans (by have c34x := c34; rw [← e33, ← e29] at c34x; rw [F_FR_half_J16.eq_1, if_neg c25, if_pos c34x]) hR20)⟩) d_17_13_37
      ·
        refine lv_iconst (v := 1) hx hb d_17_13_32 (by decide) ?_
        refine lv_goto (tgt := 37) hx hb d_17_13_33 (by decide) ?_
        exact q_reti C0 V (⟨rfl, (show 0 ≤ (1 : Int32).toInt + 1 from (by have z13 : (1 : Int32).toInt = 1 := rfl; omega)), (show (1 : Int32).toInt ≤ 1 from (by have z13 : (1 : Int32).toInt = 1 := rfl; omega)), (show (1 : Int32) = (F_FR_half x2 t0_0 t0_1 t0_2 t0_3 t0_4 t0_5 t0_6 t0_7 t0_8 t0_9 t0_10 t1_0) from Eq.trans (by have c34x := c34; rw [← e33, ← e29] at c34x; rw [F_FR_half_J16.eq_1, if_neg c25, if_neg c34x]) hR20)⟩) d_17_13_37
  ·
    intro J19
    refine lv_if_eq (tgt := 16) hx hb d_17_13_1 (by decide) (fun c37 => ?_) (fun c37 => ?_)
    ·
      exact J19 (()) _ _ _ ws ⟨V, q_lw hl (q_lw1 0 rfl (q_lw1 1 rfl q_lw0)), (show F_FR_half_J16 x2 t0_0 t0_1 t0_2 t0_3 t0_4 t0_5 t0_6 t0_7 t0_8 t0_9 t0_10 t1_0 = (F_FR_half x2 t0_0 t0_1 t0_2 t0_3 t0_4 t0_5 t0_6 t0_7 t0_8 t0_9 t0_10 t1_0) from (by rw [F_FR_half.eq_1, if_pos c37])), (show True ∧ S_FR_half_J16 x2 t0_0 t0_1 t0_2 t0_3 t0_4 t0_5 t0_6 t0_7 t0_8 t0_9 t0_10 t1_0 from (by have h := hS; rw [S_FR_half.eq_1] at h; rw [if_pos c37] at h; with_reducible exact h))⟩
    ·
      refine lv_aload_n hx hb d_17_13_4 rfl (lv_at hl 0 rfl) ?_
      refine q_get (ci := 15) (j := 3) (v := .ref (q 148)) C0 V i_FR rfl rfl hT0 (by decide) w_2078 rfl d_17_13_5 ?_
      refine lv_iload_n hx hb d_17_13_8 rfl (lv_at hl 1 rfl) ?_
      refine lv_iconst (v := 1) hx hb d_17_13_9 (by decide) ?_
      refine lv_isub hx hb d_17_13_10 ?_
      obtain ⟨a40, e41⟩ := q_nm (x2 - 1 : Int32)
      refine q_ti (v := a40) e41 ?_
      have ob42 : q_F (0 ≤ a40.toInt) := (by rw [← e41]; have h := hS; rw [S_FR_half.eq_1] at h; rw [if_neg c37] at h; exact h.2.1)
      have ob43 : q_F (a40.toInt ≤ 1403) := (by rw [← e41]; have h := hS; rw [S_FR_half.eq_1] at h; rw [if_neg c37] at h; replace h := q_s2 h; exact h.2.1)
      refine q_iald C0 V hT1 (q_ix (x := a40.toInt) rfl (by first | with_reducible exact q_fe ob42 | (have t1 : 0 ≤ a40.toInt := ob42; omega)) (by have t1 : 0 ≤ a40.toInt := ob42; have t2 : a40.toInt ≤ 1403 := ob43; have e9 : (((1404 : Int32).toNatClampNeg : Nat) : Int) = 1404 := (by decide); omega)) d_17_13_11 ?_
      obtain ⟨a44, e45⟩ := q_nm (t1_0 a40.toNatClampNeg : Int32)
      refine q_ti (v := a44) e45 ?_
      refine lv_iconst (v := 5) hx hb d_17_13_12 (by decide) ?_
      refine lv_icmp_eq (tgt := 38) hx hb d_17_13_13 (by decide) (fun c46 => ?_) (fun c46 => ?_)
      ·
        refine lv_iconst (v := 0) hx hb d_17_13_38 (by decide) ?_
        refine lv_istore_n (lv' := [(2, .int 0), (0, .ref (q 145)), (1, .int x2)]) hx hb d_17_13_39 rfl hl (by decide) rfl (fun ls hl => ?_)
        refine q_loop (X := Nat × Int32) (fun z H locs ls _ => q_F (0 ≤ z.2.toInt) ∧ q_Wd D g (va_A ws sz) s ws H locs ∧ lv_has ls 3 [(2, .int z.2), (0, .ref (q 145)), (1, .int x2)] ∧ F_FR_half_L40 x2 t0_0 t0_1 t0_2 t0_3 t0_4 t0_5 t0_6 t0_7 t0_8 t0_9 t0_10 t1_0 z.1 z.2 = (F_FR_half x2 t0_0 t0_1 t0_2 t0_3 t0_4 t0_5 t0_6 t0_7 t0_8 t0_9 t0_10 t1_0) ∧ True ∧ S_FR_half_L40 x2 t0_0 t0_1 t0_2 t0_3 t0_4 t0_5 t0_6 t0_7 t0_8 t0_9 t0_10 t1_0 z.1 z.2) (fun z => z.1) ?_ ((1000000 : Nat), (0 : Int32)) _ _ _ ws ⟨(show q_F (0 ≤ 0) from (show 0 ≤ 0 from by omega)), V, q_lw hl (q_lw1 0 rfl (q_lw1 1 rfl (q_lw1 2 rfl q_lw0))), (show F_FR_half_L40 x2 t0_0 t0_1 t0_2 t0_3 t0_4 t0_5 t0_6 t0_7 t0_8 t0_9 t0_10 t1_0 1000000 0 = (F_FR_half x2 t0_0 t0_1 t0_2 t0_3 t0_4 t0_5 t0_6 t0_7 t0_8 t0_9 t0_10 t1_0) from (by have c46x := c46; rw [← e45, ← e41] at c46x; rw [F_FR_half.eq_1, if_neg c37, if_pos c46x])), (show True ∧ S_FR_half_L40 x2 t0_0 t0_1 t0_2 t0_3 t0_4 t0_5 t0_6 t0_7 t0_8 t0_9 t0_10 t1_0 1000000 0 from (by have h := hS; rw [S_FR_half.eq_1] at h; rw [if_neg c37] at h; replace h := q_s2 h; replace h := q_s2 h; have c46x := c46; rw [← e45, ← e41] at c46x; rw [if_pos c46x] at h; with_reducible exact h))⟩
        rintro ⟨fu54, lx49⟩ H locs ls _ ⟨i50, V, hl, hR52, hS53⟩ ih51
        obtain ⟨fm56, rfl⟩ : ∃ m, fu54 = m + 1 := Nat.exists_eq_succ_of_ne_zero (fun e => by subst e; rw [S_FR_half_L40.eq_1] at hS53; exact hS53.2)
        replace i50 : q_F (0 ≤ lx49.toInt) := i50
        replace hl : lv_has ls 3 [(2, .int lx49), (0, .ref (q 145)), (1, .int x2)] := hl
        refine lv_iload_n hx hb d_17_13_40 rfl (lv_at hl 0 rfl) ?_
        refine lv_iload_n hx hb d_17_13_41 rfl (lv_at hl 2 rfl) ?_
        refine lv_iconst (v := 1) hx hb d_17_13_42 (by decide) ?_
        refine lv_isub hx hb d_17_13_43 ?_
        obtain ⟨a57, e58⟩ := q_nm (x2 - 1 : Int32)
        refine q_ti (v := a57) e58 ?_
        refine lv_icmp_ge (tgt := 64) hx hb d_17_13_44 (by decide) (fun c59 => ?_) (fun c59 => ?_)
        ·
          refine lv_iconst (v := 0) hx hb d_17_13_64 (by decide) ?_
          exact q_reti C0 V (⟨rfl, (show 0 ≤ (0 : Int32).toInt + 1 from (by have z13 : (0 : Int32).toInt = 0 := rfl; omega)), (show (0 : Int32).toInt ≤ 1 from (by have z13 : (0 : Int32).toInt = 0 := rfl; omega)), (show (0 : Int32) = (F_FR_half x2 t0_0 t0_1 t0_2 t0_3 t0_4 t0_5 t0_6 t0_7 t0_8 t0_9 t0_10 t1_0) from Eq.trans (by have c59x := c59; rw [← e58] at c59x; rw [F_FR_half_L40.eq_2, if_pos c59x]) hR52)⟩) d_17_13_65
        ·
          refine lv_aload_n hx hb d_17_13_47 rfl (lv_at hl 1 rfl) ?_
          refine q_get (ci := 15) (j := 3) (v := .ref (q 148)) C0 V i_FR rfl rfl hT0 (by decide) w_2078 rfl d_17_13_48 ?_
          refine lv_iload_n hx hb d_17_13_51 rfl (lv_at hl 0 rfl) ?_
          have ob62 : q_F (lx49.toInt ≤ 1403) := (by have h := hS53; rw [S_FR_half_L40.eq_2] at h; have c59x := c59; rw [← e58] at c59x; rw [if_neg c59x] at h; exact h.2.1)
          refine q_iald C0 V hT1 (q_ix (x := lx49.toInt) rfl (by first | with_reducible exact q_fe i50 | (have t1 : 0 ≤ lx49.toInt := i50; omega)) (by have t1 : 0 ≤ lx49.toInt := i50; have t2 : lx49.toInt ≤ 1403 := ob62; have e9 : (((1404 : Int32).toNatClampNeg : Nat) : Int) = 1404 := (by decide); omega)) d_17_13_52 ?_
          obtain ⟨a63, e64⟩ := q_nm (t1_0 lx49.toNatClampNeg : Int32)
          refine q_ti (v := a63) e64 ?_
          refine lv_if_eq (tgt := 58) hx hb d_17_13_53 (by decide) (fun c65 => ?_) (fun c65 => ?_)
          ·
            obtain ⟨a67, e68⟩ := q_nm (lx49 + 1 : Int32)
            have b69 : q_F (a67.toInt = lx49.toInt + 1) := (by rw [← e68]; exact q_addI (y := 1) rfl (by decide) (by have t1 : 0 ≤ lx49.toInt := i50; have t2 : lx49.toInt ≤ 1403 := ob62; omega) (by have t1 : 0 ≤ lx49.toInt := i50; have t2 : lx49.toInt ≤ 1403 := ob62; omega))
            refine lv_iinc (v := a67) (lv' := [(2, .int a67), (0, .ref (q 145)), (1, .int x2)]) hx hb d_17_13_58 hl (k := 0) rfl (e68) (by decide) rfl (fun ls hl => ?_)
            refine lv_goto (tgt := 40) hx hb d_17_13_61 (by decide) ?_
            exact ih51 ((fm56 : Nat), (a67 : Int32)) _ _ _ ws (Nat.lt_succ_self _) ⟨(show q_F (0 ≤ a67.toInt) from (show 0 ≤ a67.toInt from by have t1 : 0 ≤ lx49.toInt := i50; have t2 : a67.toInt = lx49.toInt + 1 := b69; omega)), V, q_lw hl (q_lw1 0 rfl (q_lw1 1 rfl (q_lw1 2 rfl q_lw0))), (show F_FR_half_L40 x2 t0_0 t0_1 t0_2 t0_3 t0_4 t0_5 t0_6 t0_7 t0_8 t0_9 t0_10 t1_0 fm56 a67 = (F_FR_half x2 t0_0 t0_1 t0_2 t0_3 t0_4 t0_5 t0_6 t0_7 t0_8 t0_9 t0_10 t1_0) from Eq.trans (by have c59x := c59; rw [← e58] at c59x; have c65x := c65; rw [← e64] at c65x; rw [← e68, F_FR_half_L40.eq_2, if_neg c59x, if_pos c65x]) hR52), (show True ∧ S_FR_half_L40 x2 t0_0 t0_1 t0_2 t0_3 t0_4 t0_5 t0_6 t0_7 t0_8 t0_9 t0_10 t1_0 fm56 a67 from (by rw [← e68]; have h := hS53; rw [S_FR_half_L40.eq_2] at h; have c59x := c59; rw [← e58] at c59x; rw [if_neg c59x] at h; replace h := q_s2 h; have c65x := c65; rw [← e64] at c65x; rw [if_pos c65x] at h; with_reducible exact h))⟩
          ·
            refine lv_iconst (v := 1) hx hb d_17_13_56 (by decide) ?_
            exact q_reti C0 V (⟨rfl, (show 0 ≤ (1 : Int32).toInt + 1 from (by have z13 : (1 : Int32).toInt = 1 := rfl; omega)), (show (1 : Int32).toInt ≤ 1 from (by have z13 : (1 : Int32).toInt = 1 := rfl; omega)), (show (1 : Int32) = (F_FR_half x2 t0_0 t0_1 t0_2 t0_3 t0_4 t0_5 t0_6 t0_7 t0_8 t0_9 t0_10 t1_0) from Eq.trans (by have c59x := c59; rw [← e58] at c59x; have c65x := c65; rw [← e64] at c65x; rw [F_FR_half_L40.eq_2, if_neg c59x, if_neg c65x]) hR52)⟩) d_17_13_57
      ·
        exact J19 (()) _ _ _ ws ⟨V, q_lw hl (q_lw1 0 rfl (q_lw1 1 rfl q_lw0)), (show F_FR_half_J16 x2 t0_0 t0_1 t0_2 t0_3 t0_4 t0_5 t0_6 t0_7 t0_8 t0_9 t0_10 t1_0 = (F_FR_half x2 t0_0 t0_1 t0_2 t0_3 t0_4 t0_5 t0_6 t0_7 t0_8 t0_9 t0_10 t1_0) from (by have c46x := c46; rw [← e45, ← e41] at c46x; rw [F_FR_half.eq_1, if_neg c37, if_neg c46x])), (show True ∧ S_FR_half_J16 x2 t0_0 t0_1 t0_2 t0_3 t0_4 t0_5 t0_6 t0_7 t0_8 t0_9 t0_10 t1_0 from (by have h := hS; rw [S_FR_half.eq_1] at h; rw [if_neg c37] at h; replace h := q_s2 h; replace h := q_s2 h; have c46x := c46; rw [← e45, ← e41] at c46x; rw [if_neg c46x] at h; with_reducible exact h))⟩
theorem d_17_15_0 : decode prog_17_method_15_code 0 = .ok (.aload_n 0, 1) := by decide +kernel
theorem d_17_15_1 : decode prog_17_method_15_code 1 = .ok (.invokevirtual 89, 3) := by decide +kernel
set_option maxRecDepth 100000 in
theorem w_2603 : (Cond.code ({ cls := "NumberHouseModel$FloatRows", name := "setAll", desc := "()V" } : MethodName) prog_17_method_8_code (1 : Nat) (none : Option ClassFile.FieldType)) ∈ q_tbl := q_of11 203 rfl (by decide +kernel)
set_option maxRecDepth 100000 in
theorem w_2600 : (Cond.methodLink "NumberHouseModel$FloatRows" (89 : Nat) ({ cls := "NumberHouseModel$FloatRows", name := "setAll", desc := "()V" } : MethodName)) ∈ q_tbl := q_of11 200 rfl (by decide +kernel)
set_option maxRecDepth 100000 in
theorem w_2602 : (Cond.instanceMethod ({ cls := "NumberHouseModel$FloatRows", name := "setAll", desc := "()V" } : MethodName)) ∈ q_tbl := q_of11 202 rfl (by decide +kernel)
theorem ws_92 : Cond.selects "NumberHouseModel$FloatRows" (⟨"NumberHouseModel$FloatRows", "setAll", "()V"⟩ : MethodName) (⟨"NumberHouseModel$FloatRows", "setAll", "()V"⟩ : MethodName) ∈ q_tbl := q_ofs 92 (by decide +kernel) (by decide +kernel)
theorem LV_FR_89 : q_LV "NumberHouseModel$FloatRows" 89 y_FR_setAll prog_17_method_8_code 1 none 0 := ⟨w_2603, w_17, w_2600, w_2602, ws_92, ⟨by decide, by decide, by decide +kernel⟩⟩
theorem d_17_15_4 : decode prog_17_method_15_code 4 = .ok (.aload_n 0, 1) := by decide +kernel
theorem d_17_15_5 : decode prog_17_method_15_code 5 = .ok (.invokevirtual 92, 3) := by decide +kernel
set_option maxRecDepth 100000 in
theorem w_2619 : (Cond.code ({ cls := "NumberHouseModel$FloatRows", name := "leastLength", desc := "()I" } : MethodName) prog_17_method_14_code (4 : Nat) (some .int)) ∈ q_tbl := q_of11 219 rfl (by decide +kernel)
set_option maxRecDepth 100000 in
theorem w_2616 : (Cond.methodLink "NumberHouseModel$FloatRows" (92 : Nat) ({ cls := "NumberHouseModel$FloatRows", name := "leastLength", desc := "()I" } : MethodName)) ∈ q_tbl := q_of11 216 rfl (by decide +kernel)
set_option maxRecDepth 100000 in
theorem w_2618 : (Cond.instanceMethod ({ cls := "NumberHouseModel$FloatRows", name := "leastLength", desc := "()I" } : MethodName)) ∈ q_tbl := q_of11 218 rfl (by decide +kernel)
theorem ws_95 : Cond.selects "NumberHouseModel$FloatRows" (⟨"NumberHouseModel$FloatRows", "leastLength", "()I"⟩ : MethodName) (⟨"NumberHouseModel$FloatRows", "leastLength", "()I"⟩ : MethodName) ∈ q_tbl := q_ofs 95 (by decide +kernel) (by decide +kernel)
theorem LV_FR_92 : q_LV "NumberHouseModel$FloatRows" 92 y_FR_leastLength prog_17_method_14_code 4 (some .int) 0 := ⟨w_2619, w_17, w_2616, w_2618, ws_95, ⟨by decide, by decide, by decide +kernel⟩⟩
theorem d_17_15_8 : decode prog_17_method_15_code 8 = .ok (.istore_n 1, 1) := by decide +kernel
theorem d_17_15_9 : decode prog_17_method_15_code 9 = .ok (.iload_n 1, 1) := by decide +kernel
theorem d_17_15_10 : decode prog_17_method_15_code 10 = .ok (.iconst 1, 1) := by decide +kernel
theorem d_17_15_19 : decode prog_17_method_15_code 19 = .ok (.istore_n 1, 1) := by decide +kernel
theorem d_17_15_20 : decode prog_17_method_15_code 20 = .ok (.aload_n 0, 1) := by decide +kernel
theorem d_17_15_21 : decode prog_17_method_15_code 21 = .ok (.aload_n 0, 1) := by decide +kernel
theorem d_17_15_22 : decode prog_17_method_15_code 22 = .ok (.invokevirtual 77, 3) := by decide +kernel
theorem d_17_15_25 : decode prog_17_method_15_code 25 = .ok (.iload_n 1, 1) := by decide +kernel
theorem d_17_15_26 : decode prog_17_method_15_code 26 = .ok (.isub, 1) := by decide +kernel
theorem d_17_15_27 : decode prog_17_method_15_code 27 = .ok (.iconst 1, 1) := by decide +kernel
theorem d_17_15_28 : decode prog_17_method_15_code 28 = .ok (.iadd, 1) := by decide +kernel
theorem d_17_15_29 : decode prog_17_method_15_code 29 = .ok (.putfield 95, 3) := by decide +kernel
set_option maxRecDepth 100000 in
theorem w_2093 : (Cond.fieldLink "NumberHouseModel$FloatRows" (95 : Nat) "NumberHouseModel$FloatRows" "lastPlace" "I") ∈ q_tbl := q_of9 173 rfl (by decide +kernel)
theorem d_17_15_32 : decode prog_17_method_15_code 32 = .ok (.aload_n 0, 1) := by decide +kernel
theorem d_17_15_33 : decode prog_17_method_15_code 33 = .ok (.aload_n 0, 1) := by decide +kernel
theorem d_17_15_34 : decode prog_17_method_15_code 34 = .ok (.getfield 95, 3) := by decide +kernel
theorem d_17_15_37 : decode prog_17_method_15_code 37 = .ok (.iconst 1, 1) := by decide +kernel
theorem d_17_15_38 : decode prog_17_method_15_code 38 = .ok (.invokevirtual 81, 3) := by decide +kernel
theorem d_17_15_41 : decode prog_17_method_15_code 41 = .ok (.aload_n 0, 1) := by decide +kernel
theorem d_17_15_42 : decode prog_17_method_15_code 42 = .ok (.invokevirtual 85, 3) := by decide +kernel
theorem d_17_15_45 : decode prog_17_method_15_code 45 = .ok (.istore_n 2, 1) := by decide +kernel
theorem d_17_15_46 : decode prog_17_method_15_code 46 = .ok (.aload_n 0, 1) := by decide +kernel
theorem d_17_15_47 : decode prog_17_method_15_code 47 = .ok (.aload_n 0, 1) := by decide +kernel
theorem d_17_15_48 : decode prog_17_method_15_code 48 = .ok (.getfield 95, 3) := by decide +kernel
theorem d_17_15_51 : decode prog_17_method_15_code 51 = .ok (.iconst 0, 1) := by decide +kernel
theorem d_17_15_52 : decode prog_17_method_15_code 52 = .ok (.invokevirtual 81, 3) := by decide +kernel
theorem d_17_15_55 : decode prog_17_method_15_code 55 = .ok (.aload_n 0, 1) := by decide +kernel
theorem d_17_15_56 : decode prog_17_method_15_code 56 = .ok (.invokevirtual 85, 3) := by decide +kernel
theorem d_17_15_59 : decode prog_17_method_15_code 59 = .ok (.istore_n 3, 1) := by decide +kernel
theorem d_17_15_60 : decode prog_17_method_15_code 60 = .ok (.aload_n 0, 1) := by decide +kernel
theorem d_17_15_61 : decode prog_17_method_15_code 61 = .ok (.aload_n 0, 1) := by decide +kernel
theorem d_17_15_62 : decode prog_17_method_15_code 62 = .ok (.getfield 95, 3) := by decide +kernel
theorem d_17_15_65 : decode prog_17_method_15_code 65 = .ok (.invokevirtual 98, 3) := by decide +kernel
set_option maxRecDepth 100000 in
theorem w_2638 : (Cond.code ({ cls := "NumberHouseModel$FloatRows", name := "half", desc := "(I)I" } : MethodName) prog_17_method_13_code (3 : Nat) (some .int)) ∈ q_tbl := q_of11 238 rfl (by decide +kernel)
set_option maxRecDepth 100000 in
theorem w_2635 : (Cond.methodLink "NumberHouseModel$FloatRows" (98 : Nat) ({ cls := "NumberHouseModel$FloatRows", name := "half", desc := "(I)I" } : MethodName)) ∈ q_tbl := q_of11 235 rfl (by decide +kernel)
set_option maxRecDepth 100000 in
theorem w_2637 : (Cond.instanceMethod ({ cls := "NumberHouseModel$FloatRows", name := "half", desc := "(I)I" } : MethodName)) ∈ q_tbl := q_of11 237 rfl (by decide +kernel)
theorem ws_99 : Cond.selects "NumberHouseModel$FloatRows" (⟨"NumberHouseModel$FloatRows", "half", "(I)I"⟩ : MethodName) (⟨"NumberHouseModel$FloatRows", "half", "(I)I"⟩ : MethodName) ∈ q_tbl := q_ofs 99 (by decide +kernel) (by decide +kernel)
theorem LV_FR_98 : q_LV "NumberHouseModel$FloatRows" 98 y_FR_half prog_17_method_13_code 3 (some .int) 1 := ⟨w_2638, w_17, w_2635, w_2637, ws_99, ⟨by decide, by decide, by decide +kernel⟩⟩
theorem d_17_15_68 : decode prog_17_method_15_code 68 = .ok (.istore 4, 2) := by decide +kernel
theorem d_17_15_70 : decode prog_17_method_15_code 70 = .ok (.iload_n 2, 1) := by decide +kernel
theorem d_17_15_108 : decode prog_17_method_15_code 108 = .ok (.istore 5, 2) := by decide +kernel
theorem d_17_15_110 : decode prog_17_method_15_code 110 = .ok (.aload_n 0, 1) := by decide +kernel
theorem d_17_15_111 : decode prog_17_method_15_code 111 = .ok (.iload 5, 2) := by decide +kernel
theorem d_17_15_121 : decode prog_17_method_15_code 121 = .ok (.putfield 102, 3) := by decide +kernel
set_option maxRecDepth 100000 in
theorem w_2092 : (Cond.fieldLink "NumberHouseModel$FloatRows" (102 : Nat) "NumberHouseModel$FloatRows" "shortest" "J") ∈ q_tbl := q_of9 172 rfl (by decide +kernel)
theorem d_17_15_124 : decode prog_17_method_15_code 124 = .ok (.lconst 1, 1) := by decide +kernel
theorem d_17_15_125 : decode prog_17_method_15_code 125 = .ok (.lstore 6, 2) := by decide +kernel
theorem d_17_15_127 : decode prog_17_method_15_code 127 = .ok (.aload_n 0, 1) := by decide +kernel
theorem d_17_15_128 : decode prog_17_method_15_code 128 = .ok (.getfield 95, 3) := by decide +kernel
theorem d_17_15_131 : decode prog_17_method_15_code 131 = .ok (.istore 8, 2) := by decide +kernel
theorem d_17_15_133 : decode prog_17_method_15_code 133 = .ok (.iload 8, 2) := by decide +kernel
theorem d_17_15_135 : decode prog_17_method_15_code 135 = .ok (.aload_n 0, 1) := by decide +kernel
theorem d_17_15_136 : decode prog_17_method_15_code 136 = .ok (.invokevirtual 77, 3) := by decide +kernel
theorem d_17_15_139 : decode prog_17_method_15_code 139 = .ok (.if_icmp .gt 37, 3) := by decide +kernel
theorem d_17_15_176 : decode prog_17_method_15_code 176 = .ok (.aload_n 0, 1) := by decide +kernel
theorem d_17_15_177 : decode prog_17_method_15_code 177 = .ok (.getfield 102, 3) := by decide +kernel
theorem d_17_15_180 : decode prog_17_method_15_code 180 = .ok (.ldc2_w 105, 3) := by decide +kernel
set_option maxRecDepth 100000 in
theorem w_2639 : (Cond.constantLong "NumberHouseModel$FloatRows" (105 : Nat) (10 : Int64)) ∈ q_tbl := q_of11 239 rfl (by decide +kernel)
theorem d_17_15_183 : decode prog_17_method_15_code 183 = .ok (.lrem, 1) := by decide +kernel
theorem d_17_15_184 : decode prog_17_method_15_code 184 = .ok (.lconst 0, 1) := by decide +kernel
theorem d_17_15_185 : decode prog_17_method_15_code 185 = .ok (.lcmp, 1) := by decide +kernel
theorem d_17_15_186 : decode prog_17_method_15_code 186 = .ok (.ifCond .ne 28, 3) := by decide +kernel
theorem d_17_15_214 : decode prog_17_method_15_code 214 = .ok (.return_, 1) := by decide +kernel
theorem d_17_15_189 : decode prog_17_method_15_code 189 = .ok (.aload_n 0, 1) := by decide +kernel
theorem d_17_15_190 : decode prog_17_method_15_code 190 = .ok (.aload_n 0, 1) := by decide +kernel
theorem d_17_15_191 : decode prog_17_method_15_code 191 = .ok (.getfield 102, 3) := by decide +kernel
theorem d_17_15_194 : decode prog_17_method_15_code 194 = .ok (.ldc2_w 105, 3) := by decide +kernel
theorem d_17_15_197 : decode prog_17_method_15_code 197 = .ok (.ldiv, 1) := by decide +kernel
theorem d_17_15_198 : decode prog_17_method_15_code 198 = .ok (.putfield 102, 3) := by decide +kernel
theorem d_17_15_201 : decode prog_17_method_15_code 201 = .ok (.aload_n 0, 1) := by decide +kernel
theorem d_17_15_202 : decode prog_17_method_15_code 202 = .ok (.dup, 1) := by decide +kernel
theorem d_17_15_203 : decode prog_17_method_15_code 203 = .ok (.getfield 95, 3) := by decide +kernel
theorem d_17_15_206 : decode prog_17_method_15_code 206 = .ok (.iconst 1, 1) := by decide +kernel
theorem d_17_15_207 : decode prog_17_method_15_code 207 = .ok (.iadd, 1) := by decide +kernel
theorem d_17_15_208 : decode prog_17_method_15_code 208 = .ok (.putfield 95, 3) := by decide +kernel
theorem d_17_15_211 : decode prog_17_method_15_code 211 = .ok (.goto (-35), 3) := by decide +kernel
theorem d_17_15_142 : decode prog_17_method_15_code 142 = .ok (.aload_n 0, 1) := by decide +kernel
theorem d_17_15_143 : decode prog_17_method_15_code 143 = .ok (.aload_n 0, 1) := by decide +kernel
theorem d_17_15_144 : decode prog_17_method_15_code 144 = .ok (.getfield 102, 3) := by decide +kernel
theorem d_17_15_147 : decode prog_17_method_15_code 147 = .ok (.lload 6, 2) := by decide +kernel
theorem d_17_15_149 : decode prog_17_method_15_code 149 = .ok (.aload_n 0, 1) := by decide +kernel
theorem d_17_15_150 : decode prog_17_method_15_code 150 = .ok (.getfield 16, 3) := by decide +kernel
theorem d_17_15_153 : decode prog_17_method_15_code 153 = .ok (.iload 8, 2) := by decide +kernel
theorem d_17_15_155 : decode prog_17_method_15_code 155 = .ok (.iaload, 1) := by decide +kernel
theorem d_17_15_156 : decode prog_17_method_15_code 156 = .ok (.i2l, 1) := by decide +kernel
theorem d_17_15_157 : decode prog_17_method_15_code 157 = .ok (.lmul, 1) := by decide +kernel
theorem d_17_15_158 : decode prog_17_method_15_code 158 = .ok (.ladd, 1) := by decide +kernel
theorem d_17_15_159 : decode prog_17_method_15_code 159 = .ok (.putfield 102, 3) := by decide +kernel
theorem d_17_15_162 : decode prog_17_method_15_code 162 = .ok (.lload 6, 2) := by decide +kernel
theorem d_17_15_164 : decode prog_17_method_15_code 164 = .ok (.ldc2_w 105, 3) := by decide +kernel
theorem d_17_15_167 : decode prog_17_method_15_code 167 = .ok (.lmul, 1) := by decide +kernel
theorem d_17_15_168 : decode prog_17_method_15_code 168 = .ok (.lstore 6, 2) := by decide +kernel
theorem d_17_15_170 : decode prog_17_method_15_code 170 = .ok (.iinc 8 1, 3) := by decide +kernel
theorem d_17_15_173 : decode prog_17_method_15_code 173 = .ok (.goto (-40), 3) := by decide +kernel
theorem d_17_15_113 : decode prog_17_method_15_code 113 = .ok (.ifCond .eq 7, 3) := by decide +kernel
theorem d_17_15_120 : decode prog_17_method_15_code 120 = .ok (.lconst 0, 1) := by decide +kernel
theorem d_17_15_116 : decode prog_17_method_15_code 116 = .ok (.lconst 1, 1) := by decide +kernel
theorem d_17_15_117 : decode prog_17_method_15_code 117 = .ok (.goto 4, 3) := by decide +kernel
theorem d_17_15_107 : decode prog_17_method_15_code 107 = .ok (.iconst 0, 1) := by decide +kernel
theorem d_17_15_71 : decode prog_17_method_15_code 71 = .ok (.ifCond .eq 36, 3) := by decide +kernel
theorem d_17_15_74 : decode prog_17_method_15_code 74 = .ok (.iload_n 3, 1) := by decide +kernel
theorem d_17_15_103 : decode prog_17_method_15_code 103 = .ok (.iconst 1, 1) := by decide +kernel
theorem d_17_15_104 : decode prog_17_method_15_code 104 = .ok (.goto 4, 3) := by decide +kernel
theorem d_17_15_75 : decode prog_17_method_15_code 75 = .ok (.ifCond .eq 28, 3) := by decide +kernel
theorem d_17_15_78 : decode prog_17_method_15_code 78 = .ok (.iload 4, 2) := by decide +kernel
theorem d_17_15_80 : decode prog_17_method_15_code 80 = .ok (.ifCond .gt 23, 3) := by decide +kernel
theorem d_17_15_83 : decode prog_17_method_15_code 83 = .ok (.iload 4, 2) := by decide +kernel
theorem d_17_15_85 : decode prog_17_method_15_code 85 = .ok (.ifCond .ne 22, 3) := by decide +kernel
theorem d_17_15_88 : decode prog_17_method_15_code 88 = .ok (.aload_n 0, 1) := by decide +kernel
theorem d_17_15_89 : decode prog_17_method_15_code 89 = .ok (.getfield 16, 3) := by decide +kernel
theorem d_17_15_92 : decode prog_17_method_15_code 92 = .ok (.aload_n 0, 1) := by decide +kernel
theorem d_17_15_93 : decode prog_17_method_15_code 93 = .ok (.getfield 95, 3) := by decide +kernel
theorem d_17_15_96 : decode prog_17_method_15_code 96 = .ok (.iaload, 1) := by decide +kernel
theorem d_17_15_97 : decode prog_17_method_15_code 97 = .ok (.iconst 2, 1) := by decide +kernel
theorem d_17_15_98 : decode prog_17_method_15_code 98 = .ok (.irem, 1) := by decide +kernel
theorem d_17_15_99 : decode prog_17_method_15_code 99 = .ok (.iconst 1, 1) := by decide +kernel
theorem d_17_15_100 : decode prog_17_method_15_code 100 = .ok (.if_icmp .ne 7, 3) := by decide +kernel
theorem d_17_15_11 : decode prog_17_method_15_code 11 = .ok (.if_icmp .ne 7, 3) := by decide +kernel
theorem d_17_15_18 : decode prog_17_method_15_code 18 = .ok (.iload_n 1, 1) := by decide +kernel
theorem d_17_15_14 : decode prog_17_method_15_code 14 = .ok (.iconst 2, 1) := by decide +kernel
theorem d_17_15_15 : decode prog_17_method_15_code 15 = .ok (.goto 4, 3) := by decide +kernel
def y_FR_findShortest : MethodName := ⟨"NumberHouseModel$FloatRows", "findShortest", "()V"⟩
def F_FR_findShortest_L176 (K_F_FR_findShortest_L133 : Int32 → Int64 → Int64 → (Int32 × Int32 × Int32 × Int32 × Int64 × Int32 × Int32 × Int64 × Int32 × Int64 × Int32 × (Nat → Int32) × (Nat → Int32) × (Nat → Int32) × (Nat → Int32) × (Nat → Int32) × (Nat → Int32))) (t0_0 : Int32) (t0_1 : Int32) (t0_2 : Int32) (t0_3 : Int32) (t0_4 : Int64) (t0_5 : Int32) (t0_6 : Int32) (t0_7 : Int64) (t0_8 : Int32) (t0_9 : Int64) (t0_10 : Int32) (t1_0 : (Nat → Int32)) (t2_0 : (Nat → Int32)) (t3_0 : (Nat → Int32)) (t4_0 : (Nat → Int32)) (t5_0 : (Nat → Int32)) (t6_0 : (Nat → Int32)) (p47 : ((Nat → Int32) × (Nat → Int32) × (Nat → Int32) × (Nat → Int32) × (Nat → Int32))) (f35 : (Nat → Int32)) (f37 : (Nat → Int32)) (f39 : (Nat → Int32)) (f41 : (Nat → Int32)) (f43 : (Nat → Int32)) (p69 : (Int32 × (Nat → Int32))) (f63 : (Nat → Int32)) (lx78 : Int32) (a107 : Int32) (f131 : (Nat → Int32)) (lx152 : Int32) (lx168 : Int64) (lx191 : Int32) (lx192 : Int64) (lx193 : Int64) : Nat → Int64 → Int32 → (Int32 × Int32 × Int32 × Int32 × Int64 × Int32 × Int32 × Int64 × Int32 × Int64 × Int32 × (Nat → Int32) × (Nat → Int32) × (Nat → Int32) × (Nat → Int32) × (Nat → Int32) × (Nat → Int32))
  | 0, _, _ => default
  | fm + 1, lx220, lx221 => if (lg_cmp (lx220 - lx220 / 10 * 10 : Int64) 0 : Int32) = (0 : Int32) then (F_FR_findShortest_L176 K_F_FR_findShortest_L133 t0_0 t0_1 t0_2 t0_3 t0_4 t0_5 t0_6 t0_7 t0_8 t0_9 t0_10 t1_0 t2_0 t3_0 t4_0 t5_0 t6_0 p47 f35 f37 f39 f41 f43 p69 f63 lx78 a107 f131 lx152 lx168 lx191 lx192 lx193 fm (lx220 / 10 : Int64) (lx221 + 1 : Int32)) else ((t0_0, t0_1, t0_2, t0_3, t0_4, t0_5, t0_6, t0_7, t0_8, lx220, lx221, f35, f37, f39, f41, f43, f131))
def F_FR_findShortest_L133 (t0_0 : Int32) (t0_1 : Int32) (t0_2 : Int32) (t0_3 : Int32) (t0_4 : Int64) (t0_5 : Int32) (t0_6 : Int32) (t0_7 : Int64) (t0_8 : Int32) (t0_9 : Int64) (t0_10 : Int32) (t1_0 : (Nat → Int32)) (t2_0 : (Nat → Int32)) (t3_0 : (Nat → Int32)) (t4_0 : (Nat → Int32)) (t5_0 : (Nat → Int32)) (t6_0 : (Nat → Int32)) (p47 : ((Nat → Int32) × (Nat → Int32) × (Nat → Int32) × (Nat → Int32) × (Nat → Int32))) (f35 : (Nat → Int32)) (f37 : (Nat → Int32)) (f39 : (Nat → Int32)) (f41 : (Nat → Int32)) (f43 : (Nat → Int32)) (p69 : (Int32 × (Nat → Int32))) (f63 : (Nat → Int32)) (lx78 : Int32) (a107 : Int32) (f131 : (Nat → Int32)) (lx152 : Int32) (lx168 : Int64) : Nat → Int32 → Int64 → Int64 → (Int32 × Int32 × Int32 × Int32 × Int64 × Int32 × Int32 × Int64 × Int32 × Int64 × Int32 × (Nat → Int32) × (Nat → Int32) × (Nat → Int32) × (Nat → Int32) × (Nat → Int32) × (Nat → Int32))
  | 0, _, _, _ => default
  | fm + 1, lx191, lx192, lx193 => if ((F_FR_top t0_0 t0_1 t0_2 t0_3 t0_4 t0_5 t0_6 t0_7 t0_8 lx193 a107 f39) : Int32) < lx191 then (F_FR_findShortest_L176 (F_FR_findShortest_L133 t0_0 t0_1 t0_2 t0_3 t0_4 t0_5 t0_6 t0_7 t0_8 t0_9 t0_10 t1_0 t2_0 t3_0 t4_0 t5_0 t6_0 p47 f35 f37 f39 f41 f43 p69 f63 lx78 a107 f131 lx152 lx168 fm) t0_0 t0_1 t0_2 t0_3 t0_4 t0_5 t0_6 t0_7 t0_8 t0_9 t0_10 t1_0 t2_0 t3_0 t4_0 t5_0 t6_0 p47 f35 f37 f39 f41 f43 p69 f63 lx78 a107 f131 lx152 lx168 lx191 lx192 lx193 1000000 lx193 a107) else (F_FR_findShortest_L133 t0_0 t0_1 t0_2 t0_3 t0_4 t0_5 t0_6 t0_7 t0_8 t0_9 t0_10 t1_0 t2_0 t3_0 t4_0 t5_0 t6_0 p47 f35 f37 f39 f41 f43 p69 f63 lx78 a107 f131 lx152 lx168 fm (lx191 + 1 : Int32) (lx192 * 10 : Int64) (lx193 + (lx192 * ((f39 lx191.toNatClampNeg : Int32).toInt64 : Int64) : Int64) : Int64))
def F_FR_findShortest_J121 (t0_0 : Int32) (t0_1 : Int32) (t0_2 : Int32) (t0_3 : Int32) (t0_4 : Int64) (t0_5 : Int32) (t0_6 : Int32) (t0_7 : Int64) (t0_8 : Int32) (t0_9 : Int64) (t0_10 : Int32) (t1_0 : (Nat → Int32)) (t2_0 : (Nat → Int32)) (t3_0 : (Nat → Int32)) (t4_0 : (Nat → Int32)) (t5_0 : (Nat → Int32)) (t6_0 : (Nat → Int32)) (p47 : ((Nat → Int32) × (Nat → Int32) × (Nat → Int32) × (Nat → Int32) × (Nat → Int32))) (f35 : (Nat → Int32)) (f37 : (Nat → Int32)) (f39 : (Nat → Int32)) (f41 : (Nat → Int32)) (f43 : (Nat → Int32)) (p69 : (Int32 × (Nat → Int32))) (f63 : (Nat → Int32)) (lx78 : Int32) (a107 : Int32) (f131 : (Nat → Int32)) (lx152 : Int32) (lx168 : Int64) : Int32 × Int32 × Int32 × Int32 × Int64 × Int32 × Int32 × Int64 × Int32 × Int64 × Int32 × (Nat → Int32) × (Nat → Int32) × (Nat → Int32) × (Nat → Int32) × (Nat → Int32) × (Nat → Int32) := F_FR_findShortest_L133 t0_0 t0_1 t0_2 t0_3 t0_4 t0_5 t0_6 t0_7 t0_8 t0_9 t0_10 t1_0 t2_0 t3_0 t4_0 t5_0 t6_0 p47 f35 f37 f39 f41 f43 p69 f63 lx78 a107 f131 lx152 lx168 1000000 a107 1 lx168
def F_FR_findShortest_J108 (t0_0 : Int32) (t0_1 : Int32) (t0_2 : Int32) (t0_3 : Int32) (t0_4 : Int64) (t0_5 : Int32) (t0_6 : Int32) (t0_7 : Int64) (t0_8 : Int32) (t0_9 : Int64) (t0_10 : Int32) (t1_0 : (Nat → Int32)) (t2_0 : (Nat → Int32)) (t3_0 : (Nat → Int32)) (t4_0 : (Nat → Int32)) (t5_0 : (Nat → Int32)) (t6_0 : (Nat → Int32)) (p47 : ((Nat → Int32) × (Nat → Int32) × (Nat → Int32) × (Nat → Int32) × (Nat → Int32))) (f35 : (Nat → Int32)) (f37 : (Nat → Int32)) (f39 : (Nat → Int32)) (f41 : (Nat → Int32)) (f43 : (Nat → Int32)) (p69 : (Int32 × (Nat → Int32))) (f63 : (Nat → Int32)) (lx78 : Int32) (a107 : Int32) (f131 : (Nat → Int32)) (lx152 : Int32) : Int32 × Int32 × Int32 × Int32 × Int64 × Int32 × Int32 × Int64 × Int32 × Int64 × Int32 × (Nat → Int32) × (Nat → Int32) × (Nat → Int32) × (Nat → Int32) × (Nat → Int32) × (Nat → Int32) := if lx152 = (0 : Int32) then (F_FR_findShortest_J121 t0_0 t0_1 t0_2 t0_3 t0_4 t0_5 t0_6 t0_7 t0_8 t0_9 t0_10 t1_0 t2_0 t3_0 t4_0 t5_0 t6_0 p47 f35 f37 f39 f41 f43 p69 f63 lx78 a107 f131 lx152 0) else (F_FR_findShortest_J121 t0_0 t0_1 t0_2 t0_3 t0_4 t0_5 t0_6 t0_7 t0_8 t0_9 t0_10 t1_0 t2_0 t3_0 t4_0 t5_0 t6_0 p47 f35 f37 f39 f41 f43 p69 f63 lx78 a107 f131 lx152 1)
def F_FR_findShortest_J107 (t0_0 : Int32) (t0_1 : Int32) (t0_2 : Int32) (t0_3 : Int32) (t0_4 : Int64) (t0_5 : Int32) (t0_6 : Int32) (t0_7 : Int64) (t0_8 : Int32) (t0_9 : Int64) (t0_10 : Int32) (t1_0 : (Nat → Int32)) (t2_0 : (Nat → Int32)) (t3_0 : (Nat → Int32)) (t4_0 : (Nat → Int32)) (t5_0 : (Nat → Int32)) (t6_0 : (Nat → Int32)) (p47 : ((Nat → Int32) × (Nat → Int32) × (Nat → Int32) × (Nat → Int32) × (Nat → Int32))) (f35 : (Nat → Int32)) (f37 : (Nat → Int32)) (f39 : (Nat → Int32)) (f41 : (Nat → Int32)) (f43 : (Nat → Int32)) (p69 : (Int32 × (Nat → Int32))) (f63 : (Nat → Int32)) (lx78 : Int32) (a107 : Int32) (f131 : (Nat → Int32)) : Int32 × Int32 × Int32 × Int32 × Int64 × Int32 × Int32 × Int64 × Int32 × Int64 × Int32 × (Nat → Int32) × (Nat → Int32) × (Nat → Int32) × (Nat → Int32) × (Nat → Int32) × (Nat → Int32) := F_FR_findShortest_J108 t0_0 t0_1 t0_2 t0_3 t0_4 t0_5 t0_6 t0_7 t0_8 t0_9 t0_10 t1_0 t2_0 t3_0 t4_0 t5_0 t6_0 p47 f35 f37 f39 f41 f43 p69 f63 lx78 a107 f131 0
def F_FR_findShortest_J103 (t0_0 : Int32) (t0_1 : Int32) (t0_2 : Int32) (t0_3 : Int32) (t0_4 : Int64) (t0_5 : Int32) (t0_6 : Int32) (t0_7 : Int64) (t0_8 : Int32) (t0_9 : Int64) (t0_10 : Int32) (t1_0 : (Nat → Int32)) (t2_0 : (Nat → Int32)) (t3_0 : (Nat → Int32)) (t4_0 : (Nat → Int32)) (t5_0 : (Nat → Int32)) (t6_0 : (Nat → Int32)) (p47 : ((Nat → Int32) × (Nat → Int32) × (Nat → Int32) × (Nat → Int32) × (Nat → Int32))) (f35 : (Nat → Int32)) (f37 : (Nat → Int32)) (f39 : (Nat → Int32)) (f41 : (Nat → Int32)) (f43 : (Nat → Int32)) (p69 : (Int32 × (Nat → Int32))) (f63 : (Nat → Int32)) (lx78 : Int32) (a107 : Int32) (f131 : (Nat → Int32)) : Int32 × Int32 × Int32 × Int32 × Int64 × Int32 × Int32 × Int64 × Int32 × Int64 × Int32 × (Nat → Int32) × (Nat → Int32) × (Nat → Int32) × (Nat → Int32) × (Nat → Int32) × (Nat → Int32) := F_FR_findShortest_J108 t0_0 t0_1 t0_2 t0_3 t0_4 t0_5 t0_6 t0_7 t0_8 t0_9 t0_10 t1_0 t2_0 t3_0 t4_0 t5_0 t6_0 p47 f35 f37 f39 f41 f43 p69 f63 lx78 a107 f131 1
def F_FR_findShortest_J19 (t0_0 : Int32) (t0_1 : Int32) (t0_2 : Int32) (t0_3 : Int32) (t0_4 : Int64) (t0_5 : Int32) (t0_6 : Int32) (t0_7 : Int64) (t0_8 : Int32) (t0_9 : Int64) (t0_10 : Int32) (t1_0 : (Nat → Int32)) (t2_0 : (Nat → Int32)) (t3_0 : (Nat → Int32)) (t4_0 : (Nat → Int32)) (t5_0 : (Nat → Int32)) (t6_0 : (Nat → Int32)) (p47 : ((Nat → Int32) × (Nat → Int32) × (Nat → Int32) × (Nat → Int32) × (Nat → Int32))) (f35 : (Nat → Int32)) (f37 : (Nat → Int32)) (f39 : (Nat → Int32)) (f41 : (Nat → Int32)) (f43 : (Nat → Int32)) (p69 : (Int32 × (Nat → Int32))) (f63 : (Nat → Int32)) (lx78 : Int32) : Int32 × Int32 × Int32 × Int32 × Int64 × Int32 × Int32 × Int64 × Int32 × Int64 × Int32 × (Nat → Int32) × (Nat → Int32) × (Nat → Int32) × (Nat → Int32) × (Nat → Int32) × (Nat → Int32) := if ((F_FR_readsBack t0_0 t0_1 t0_2 t0_3 t0_4 t0_5 t0_6 t0_7 t0_8 t0_9 ((((F_FR_top t0_0 t0_1 t0_2 t0_3 t0_4 t0_5 t0_6 t0_7 t0_8 t0_9 t0_10 f39) : Int32) - lx78 : Int32) + 1 : Int32) f41 f43 ((F_FR_cut ((((F_FR_top t0_0 t0_1 t0_2 t0_3 t0_4 t0_5 t0_6 t0_7 t0_8 t0_9 t0_10 f39) : Int32) - lx78 : Int32) + 1 : Int32) (1 : Int32) t0_0 t0_1 t0_2 t0_3 t0_4 t0_5 t0_6 t0_7 t0_8 t0_9 ((((F_FR_top t0_0 t0_1 t0_2 t0_3 t0_4 t0_5 t0_6 t0_7 t0_8 t0_9 t0_10 f39) : Int32) - lx78 : Int32) + 1 : Int32) f39 f63) : (Nat → Int32))) : Int32) = (0 : Int32) then (F_FR_findShortest_J107 t0_0 t0_1 t0_2 t0_3 t0_4 t0_5 t0_6 t0_7 t0_8 t0_9 t0_10 t1_0 t2_0 t3_0 t4_0 t5_0 t6_0 p47 f35 f37 f39 f41 f43 p69 f63 lx78 ((((F_FR_top t0_0 t0_1 t0_2 t0_3 t0_4 t0_5 t0_6 t0_7 t0_8 t0_9 t0_10 f39) : Int32) - lx78 : Int32) + 1 : Int32) ((F_FR_cut ((((F_FR_top t0_0 t0_1 t0_2 t0_3 t0_4 t0_5 t0_6 t0_7 t0_8 t0_9 t0_10 f39) : Int32) - lx78 : Int32) + 1 : Int32) (0 : Int32) t0_0 t0_1 t0_2 t0_3 t0_4 t0_5 t0_6 t0_7 t0_8 t0_9 ((((F_FR_top t0_0 t0_1 t0_2 t0_3 t0_4 t0_5 t0_6 t0_7 t0_8 t0_9 t0_10 f39) : Int32) - lx78 : Int32) + 1 : Int32) f39 ((F_FR_cut ((((F_FR_top t0_0 t0_1 t0_2 t0_3 t0_4 t0_5 t0_6 t0_7 t0_8 t0_9 t0_10 f39) : Int32) - lx78 : Int32) + 1 : Int32) (1 : Int32) t0_0 t0_1 t0_2 t0_3 t0_4 t0_5 t0_6 t0_7 t0_8 t0_9 ((((F_FR_top t0_0 t0_1 t0_2 t0_3 t0_4 t0_5 t0_6 t0_7 t0_8 t0_9 t0_10 f39) : Int32) - lx78 : Int32) + 1 : Int32) f39 f63) : (Nat → Int32))) : (Nat → Int32))) else (if ((F_FR_readsBack t0_0 t0_1 t0_2 t0_3 t0_4 t0_5 t0_6 t0_7 t0_8 t0_9 ((((F_FR_top t0_0 t0_1 t0_2 t0_3 t0_4 t0_5 t0_6 t0_7 t0_8 t0_9 t0_10 f39) : Int32) - lx78 : Int32) + 1 : Int32) f41 f43 ((F_FR_cut ((((F_FR_top t0_0 t0_1 t0_2 t0_3 t0_4 t0_5 t0_6 t0_7 t0_8 t0_9 t0_10 f39) : Int32) - lx78 : Int32) + 1 : Int32) (0 : Int32) t0_0 t0_1 t0_2 t0_3 t0_4 t0_5 t0_6 t0_7 t0_8 t0_9 ((((F_FR_top t0_0 t0_1 t0_2 t0_3 t0_4 t0_5 t0_6 t0_7 t0_8 t0_9 t0_10 f39) : Int32) - lx78 : Int32) + 1 : Int32) f39 ((F_FR_cut ((((F_FR_top t0_0 t0_1 t0_2 t0_3 t0_4 t0_5 t0_6 t0_7 t0_8 t0_9 t0_10 f39) : Int32) - lx78 : Int32) + 1 : Int32) (1 : Int32) t0_0 t0_1 t0_2 t0_3 t0_4 t0_5 t0_6 t0_7 t0_8 t0_9 ((((F_FR_top t0_0 t0_1 t0_2 t0_3 t0_4 t0_5 t0_6 t0_7 t0_8 t0_9 t0_10 f39) : Int32) - lx78 : Int32) + 1 : Int32) f39 f63) : (Nat → Int32))) : (Nat → Int32))) : Int32) = (0 : Int32) then (F_FR_findShortest_J103 t0_0 t0_1 t0_2 t0_3 t0_4 t0_5 t0_6 t0_7 t0_8 t0_9 t0_10 t1_0 t2_0 t3_0 t4_0 t5_0 t6_0 p47 f35 f37 f39 f41 f43 p69 f63 lx78 ((((F_FR_top t0_0 t0_1 t0_2 t0_3 t0_4 t0_5 t0_6 t0_7 t0_8 t0_9 t0_10 f39) : Int32) - lx78 : Int32) + 1 : Int32) ((F_FR_cut ((((F_FR_top t0_0 t0_1 t0_2 t0_3 t0_4 t0_5 t0_6 t0_7 t0_8 t0_9 t0_10 f39) : Int32) - lx78 : Int32) + 1 : Int32) (0 : Int32) t0_0 t0_1 t0_2 t0_3 t0_4 t0_5 t0_6 t0_7 t0_8 t0_9 ((((F_FR_top t0_0 t0_1 t0_2 t0_3 t0_4 t0_5 t0_6 t0_7 t0_8 t0_9 t0_10 f39) : Int32) - lx78 : Int32) + 1 : Int32) f39 ((F_FR_cut ((((F_FR_top t0_0 t0_1 t0_2 t0_3 t0_4 t0_5 t0_6 t0_7 t0_8 t0_9 t0_10 f39) : Int32) - lx78 : Int32) + 1 : Int32) (1 : Int32) t0_0 t0_1 t0_2 t0_3 t0_4 t0_5 t0_6 t0_7 t0_8 t0_9 ((((F_FR_top t0_0 t0_1 t0_2 t0_3 t0_4 t0_5 t0_6 t0_7 t0_8 t0_9 t0_10 f39) : Int32) - lx78 : Int32) + 1 : Int32) f39 f63) : (Nat → Int32))) : (Nat → Int32))) else (if (0 : Int32) < ((F_FR_half ((((F_FR_top t0_0 t0_1 t0_2 t0_3 t0_4 t0_5 t0_6 t0_7 t0_8 t0_9 t0_10 f39) : Int32) - lx78 : Int32) + 1 : Int32) t0_0 t0_1 t0_2 t0_3 t0_4 t0_5 t0_6 t0_7 t0_8 t0_9 ((((F_FR_top t0_0 t0_1 t0_2 t0_3 t0_4 t0_5 t0_6 t0_7 t0_8 t0_9 t0_10 f39) : Int32) - lx78 : Int32) + 1 : Int32) f39) : Int32) then (F_FR_findShortest_J103 t0_0 t0_1 t0_2 t0_3 t0_4 t0_5 t0_6 t0_7 t0_8 t0_9 t0_10 t1_0 t2_0 t3_0 t4_0 t5_0 t6_0 p47 f35 f37 f39 f41 f43 p69 f63 lx78 ((((F_FR_top t0_0 t0_1 t0_2 t0_3 t0_4 t0_5 t0_6 t0_7 t0_8 t0_9 t0_10 f39) : Int32) - lx78 : Int32) + 1 : Int32) ((F_FR_cut ((((F_FR_top t0_0 t0_1 t0_2 t0_3 t0_4 t0_5 t0_6 t0_7 t0_8 t0_9 t0_10 f39) : Int32) - lx78 : Int32) + 1 : Int32) (0 : Int32) t0_0 t0_1 t0_2 t0_3 t0_4 t0_5 t0_6 t0_7 t0_8 t0_9 ((((F_FR_top t0_0 t0_1 t0_2 t0_3 t0_4 t0_5 t0_6 t0_7 t0_8 t0_9 t0_10 f39) : Int32) - lx78 : Int32) + 1 : Int32) f39 ((F_FR_cut ((((F_FR_top t0_0 t0_1 t0_2 t0_3 t0_4 t0_5 t0_6 t0_7 t0_8 t0_9 t0_10 f39) : Int32) - lx78 : Int32) + 1 : Int32) (1 : Int32) t0_0 t0_1 t0_2 t0_3 t0_4 t0_5 t0_6 t0_7 t0_8 t0_9 ((((F_FR_top t0_0 t0_1 t0_2 t0_3 t0_4 t0_5 t0_6 t0_7 t0_8 t0_9 t0_10 f39) : Int32) - lx78 : Int32) + 1 : Int32) f39 f63) : (Nat → Int32))) : (Nat → Int32))) else (if ((F_FR_half ((((F_FR_top t0_0 t0_1 t0_2 t0_3 t0_4 t0_5 t0_6 t0_7 t0_8 t0_9 t0_10 f39) : Int32) - lx78 : Int32) + 1 : Int32) t0_0 t0_1 t0_2 t0_3 t0_4 t0_5 t0_6 t0_7 t0_8 t0_9 ((((F_FR_top t0_0 t0_1 t0_2 t0_3 t0_4 t0_5 t0_6 t0_7 t0_8 t0_9 t0_10 f39) : Int32) - lx78 : Int32) + 1 : Int32) f39) : Int32) = (0 : Int32) then (if ((f39 ((((F_FR_top t0_0 t0_1 t0_2 t0_3 t0_4 t0_5 t0_6 t0_7 t0_8 t0_9 t0_10 f39) : Int32) - lx78 : Int32) + 1 : Int32).toNatClampNeg : Int32) - (f39 ((((F_FR_top t0_0 t0_1 t0_2 t0_3 t0_4 t0_5 t0_6 t0_7 t0_8 t0_9 t0_10 f39) : Int32) - lx78 : Int32) + 1 : Int32).toNatClampNeg : Int32) / 2 * 2 : Int32) = (1 : Int32) then (F_FR_findShortest_J103 t0_0 t0_1 t0_2 t0_3 t0_4 t0_5 t0_6 t0_7 t0_8 t0_9 t0_10 t1_0 t2_0 t3_0 t4_0 t5_0 t6_0 p47 f35 f37 f39 f41 f43 p69 f63 lx78 ((((F_FR_top t0_0 t0_1 t0_2 t0_3 t0_4 t0_5 t0_6 t0_7 t0_8 t0_9 t0_10 f39) : Int32) - lx78 : Int32) + 1 : Int32) ((F_FR_cut ((((F_FR_top t0_0 t0_1 t0_2 t0_3 t0_4 t0_5 t0_6 t0_7 t0_8 t0_9 t0_10 f39) : Int32) - lx78 : Int32) + 1 : Int32) (0 : Int32) t0_0 t0_1 t0_2 t0_3 t0_4 t0_5 t0_6 t0_7 t0_8 t0_9 ((((F_FR_top t0_0 t0_1 t0_2 t0_3 t0_4 t0_5 t0_6 t0_7 t0_8 t0_9 t0_10 f39) : Int32) - lx78 : Int32) + 1 : Int32) f39 ((F_FR_cut ((((F_FR_top t0_0 t0_1 t0_2 t0_3 t0_4 t0_5 t0_6 t0_7 t0_8 t0_9 t0_10 f39) : Int32) - lx78 : Int32) + 1 : Int32) (1 : Int32) t0_0 t0_1 t0_2 t0_3 t0_4 t0_5 t0_6 t0_7 t0_8 t0_9 ((((F_FR_top t0_0 t0_1 t0_2 t0_3 t0_4 t0_5 t0_6 t0_7 t0_8 t0_9 t0_10 f39) : Int32) - lx78 : Int32) + 1 : Int32) f39 f63) : (Nat → Int32))) : (Nat → Int32))) else (F_FR_findShortest_J107 t0_0 t0_1 t0_2 t0_3 t0_4 t0_5 t0_6 t0_7 t0_8 t0_9 t0_10 t1_0 t2_0 t3_0 t4_0 t5_0 t6_0 p47 f35 f37 f39 f41 f43 p69 f63 lx78 ((((F_FR_top t0_0 t0_1 t0_2 t0_3 t0_4 t0_5 t0_6 t0_7 t0_8 t0_9 t0_10 f39) : Int32) - lx78 : Int32) + 1 : Int32) ((F_FR_cut ((((F_FR_top t0_0 t0_1 t0_2 t0_3 t0_4 t0_5 t0_6 t0_7 t0_8 t0_9 t0_10 f39) : Int32) - lx78 : Int32) + 1 : Int32) (0 : Int32) t0_0 t0_1 t0_2 t0_3 t0_4 t0_5 t0_6 t0_7 t0_8 t0_9 ((((F_FR_top t0_0 t0_1 t0_2 t0_3 t0_4 t0_5 t0_6 t0_7 t0_8 t0_9 t0_10 f39) : Int32) - lx78 : Int32) + 1 : Int32) f39 ((F_FR_cut ((((F_FR_top t0_0 t0_1 t0_2 t0_3 t0_4 t0_5 t0_6 t0_7 t0_8 t0_9 t0_10 f39) : Int32) - lx78 : Int32) + 1 : Int32) (1 : Int32) t0_0 t0_1 t0_2 t0_3 t0_4 t0_5 t0_6 t0_7 t0_8 t0_9 ((((F_FR_top t0_0 t0_1 t0_2 t0_3 t0_4 t0_5 t0_6 t0_7 t0_8 t0_9 t0_10 f39) : Int32) - lx78 : Int32) + 1 : Int32) f39 f63) : (Nat → Int32))) : (Nat → Int32)))) else (F_FR_findShortest_J107 t0_0 t0_1 t0_2 t0_3 t0_4 t0_5 t0_6 t0_7 t0_8 t0_9 t0_10 t1_0 t2_0 t3_0 t4_0 t5_0 t6_0 p47 f35 f37 f39 f41 f43 p69 f63 lx78 ((((F_FR_top t0_0 t0_1 t0_2 t0_3 t0_4 t0_5 t0_6 t0_7 t0_8 t0_9 t0_10 f39) : Int32) - lx78 : Int32) + 1 : Int32) ((F_FR_cut ((((F_FR_top t0_0 t0_1 t0_2 t0_3 t0_4 t0_5 t0_6 t0_7 t0_8 t0_9 t0_10 f39) : Int32) - lx78 : Int32) + 1 : Int32) (0 : Int32) t0_0 t0_1 t0_2 t0_3 t0_4 t0_5 t0_6 t0_7 t0_8 t0_9 ((((F_FR_top t0_0 t0_1 t0_2 t0_3 t0_4 t0_5 t0_6 t0_7 t0_8 t0_9 t0_10 f39) : Int32) - lx78 : Int32) + 1 : Int32) f39 ((F_FR_cut ((((F_FR_top t0_0 t0_1 t0_2 t0_3 t0_4 t0_5 t0_6 t0_7 t0_8 t0_9 t0_10 f39) : Int32) - lx78 : Int32) + 1 : Int32) (1 : Int32) t0_0 t0_1 t0_2 t0_3 t0_4 t0_5 t0_6 t0_7 t0_8 t0_9 ((((F_FR_top t0_0 t0_1 t0_2 t0_3 t0_4 t0_5 t0_6 t0_7 t0_8 t0_9 t0_10 f39) : Int32) - lx78 : Int32) + 1 : Int32) f39 f63) : (Nat → Int32))) : (Nat → Int32))))))
def F_FR_findShortest_c5 (t0_0 : Int32) (t0_1 : Int32) (t0_2 : Int32) (t0_3 : Int32) (t0_4 : Int64) (t0_5 : Int32) (t0_6 : Int32) (t0_7 : Int64) (t0_8 : Int32) (t0_9 : Int64) (t0_10 : Int32) (t1_0 : (Nat → Int32)) (t2_0 : (Nat → Int32)) (t3_0 : (Nat → Int32)) (t4_0 : (Nat → Int32)) (t5_0 : (Nat → Int32)) (t6_0 : (Nat → Int32)) (p47 : ((Nat → Int32) × (Nat → Int32) × (Nat → Int32) × (Nat → Int32) × (Nat → Int32))) (f35 : (Nat → Int32)) (f37 : (Nat → Int32)) (f39 : (Nat → Int32)) (f41 : (Nat → Int32)) (f43 : (Nat → Int32)) (p69 : (Int32 × (Nat → Int32))) : Int32 × Int32 × Int32 × Int32 × Int64 × Int32 × Int32 × Int64 × Int32 × Int64 × Int32 × (Nat → Int32) × (Nat → Int32) × (Nat → Int32) × (Nat → Int32) × (Nat → Int32) × (Nat → Int32) := if (p69.1 : Int32) = (1 : Int32) then (F_FR_findShortest_J19 t0_0 t0_1 t0_2 t0_3 t0_4 t0_5 t0_6 t0_7 t0_8 t0_9 t0_10 t1_0 t2_0 t3_0 t4_0 t5_0 t6_0 p47 f35 f37 f39 f41 f43 p69 (p69.2 : (Nat → Int32)) 2) else (F_FR_findShortest_J19 t0_0 t0_1 t0_2 t0_3 t0_4 t0_5 t0_6 t0_7 t0_8 t0_9 t0_10 t1_0 t2_0 t3_0 t4_0 t5_0 t6_0 p47 f35 f37 f39 f41 f43 p69 (p69.2 : (Nat → Int32)) (p69.1 : Int32))
def F_FR_findShortest_c1 (t0_0 : Int32) (t0_1 : Int32) (t0_2 : Int32) (t0_3 : Int32) (t0_4 : Int64) (t0_5 : Int32) (t0_6 : Int32) (t0_7 : Int64) (t0_8 : Int32) (t0_9 : Int64) (t0_10 : Int32) (t1_0 : (Nat → Int32)) (t2_0 : (Nat → Int32)) (t3_0 : (Nat → Int32)) (t4_0 : (Nat → Int32)) (t5_0 : (Nat → Int32)) (t6_0 : (Nat → Int32)) (p47 : ((Nat → Int32) × (Nat → Int32) × (Nat → Int32) × (Nat → Int32) × (Nat → Int32))) : Int32 × Int32 × Int32 × Int32 × Int64 × Int32 × Int32 × Int64 × Int32 × Int64 × Int32 × (Nat → Int32) × (Nat → Int32) × (Nat → Int32) × (Nat → Int32) × (Nat → Int32) × (Nat → Int32) := F_FR_findShortest_c5 t0_0 t0_1 t0_2 t0_3 t0_4 t0_5 t0_6 t0_7 t0_8 t0_9 t0_10 t1_0 t2_0 t3_0 t4_0 t5_0 t6_0 p47 (p47.1 : (Nat → Int32)) (p47.2.1 : (Nat → Int32)) (p47.2.2.1 : (Nat → Int32)) (p47.2.2.2.1 : (Nat → Int32)) (p47.2.2.2.2 : (Nat → Int32)) ((F_FR_leastLength t0_0 t0_1 t0_2 t0_3 t0_4 t0_5 t0_6 t0_7 t0_8 t0_9 t0_10 (p47.2.2.1 : (Nat → Int32)) (p47.2.2.2.1 : (Nat → Int32)) (p47.2.2.2.2 : (Nat → Int32)) t6_0) : (Int32 × (Nat → Int32)))
def F_FR_findShortest (t0_0 : Int32) (t0_1 : Int32) (t0_2 : Int32) (t0_3 : Int32) (t0_4 : Int64) (t0_5 : Int32) (t0_6 : Int32) (t0_7 : Int64) (t0_8 : Int32) (t0_9 : Int64) (t0_10 : Int32) (t1_0 : (Nat → Int32)) (t2_0 : (Nat → Int32)) (t3_0 : (Nat → Int32)) (t4_0 : (Nat → Int32)) (t5_0 : (Nat → Int32)) (t6_0 : (Nat → Int32)) : Int32 × Int32 × Int32 × Int32 × Int64 × Int32 × Int32 × Int64 × Int32 × Int64 × Int32 × (Nat → Int32) × (Nat → Int32) × (Nat → Int32) × (Nat → Int32) × (Nat → Int32) × (Nat → Int32) := F_FR_findShortest_c1 t0_0 t0_1 t0_2 t0_3 t0_4 t0_5 t0_6 t0_7 t0_8 t0_9 t0_10 t1_0 t2_0 t3_0 t4_0 t5_0 t6_0 ((F_FR_setAll t0_0 t0_1 t0_2 t0_3 t0_4 t0_5 t0_6 t0_7 t0_8 t0_9 t0_10 t1_0 t2_0 t3_0 t4_0 t5_0) : ((Nat → Int32) × (Nat → Int32) × (Nat → Int32) × (Nat → Int32) × (Nat → Int32)))
def S_FR_findShortest_L176 (K_S_FR_findShortest_L133 : Int32 → Int64 → Int64 → Prop) (t0_0 : Int32) (t0_1 : Int32) (t0_2 : Int32) (t0_3 : Int32) (t0_4 : Int64) (t0_5 : Int32) (t0_6 : Int32) (t0_7 : Int64) (t0_8 : Int32) (t0_9 : Int64) (t0_10 : Int32) (t1_0 : (Nat → Int32)) (t2_0 : (Nat → Int32)) (t3_0 : (Nat → Int32)) (t4_0 : (Nat → Int32)) (t5_0 : (Nat → Int32)) (t6_0 : (Nat → Int32)) (p47 : ((Nat → Int32) × (Nat → Int32) × (Nat → Int32) × (Nat → Int32) × (Nat → Int32))) (f35 : (Nat → Int32)) (f37 : (Nat → Int32)) (f39 : (Nat → Int32)) (f41 : (Nat → Int32)) (f43 : (Nat → Int32)) (p69 : (Int32 × (Nat → Int32))) (f63 : (Nat → Int32)) (lx78 : Int32) (a107 : Int32) (f131 : (Nat → Int32)) (lx152 : Int32) (lx168 : Int64) (lx191 : Int32) (lx192 : Int64) (lx193 : Int64) : Nat → Int64 → Int32 → Prop
  | 0, _, _ => False
  | fm + 1, lx220, lx221 => if (lg_cmp (lx220 - lx220 / 10 * 10 : Int64) 0 : Int32) = (0 : Int32) then (S_FR_findShortest_L176 K_S_FR_findShortest_L133 t0_0 t0_1 t0_2 t0_3 t0_4 t0_5 t0_6 t0_7 t0_8 t0_9 t0_10 t1_0 t2_0 t3_0 t4_0 t5_0 t6_0 p47 f35 f37 f39 f41 f43 p69 f63 lx78 a107 f131 lx152 lx168 lx191 lx192 lx193 fm (lx220 / 10 : Int64) (lx221 + 1 : Int32)) else (True)
def S_FR_findShortest_L133 (t0_0 : Int32) (t0_1 : Int32) (t0_2 : Int32) (t0_3 : Int32) (t0_4 : Int64) (t0_5 : Int32) (t0_6 : Int32) (t0_7 : Int64) (t0_8 : Int32) (t0_9 : Int64) (t0_10 : Int32) (t1_0 : (Nat → Int32)) (t2_0 : (Nat → Int32)) (t3_0 : (Nat → Int32)) (t4_0 : (Nat → Int32)) (t5_0 : (Nat → Int32)) (t6_0 : (Nat → Int32)) (p47 : ((Nat → Int32) × (Nat → Int32) × (Nat → Int32) × (Nat → Int32) × (Nat → Int32))) (f35 : (Nat → Int32)) (f37 : (Nat → Int32)) (f39 : (Nat → Int32)) (f41 : (Nat → Int32)) (f43 : (Nat → Int32)) (p69 : (Int32 × (Nat → Int32))) (f63 : (Nat → Int32)) (lx78 : Int32) (a107 : Int32) (f131 : (Nat → Int32)) (lx152 : Int32) (lx168 : Int64) : Nat → Int32 → Int64 → Int64 → Prop
  | 0, _, _, _ => False
  | fm + 1, lx191, lx192, lx193 => (True ∧ S_FR_top t0_0 t0_1 t0_2 t0_3 t0_4 t0_5 t0_6 t0_7 t0_8 lx193 a107 f39) ∧ (if ((F_FR_top t0_0 t0_1 t0_2 t0_3 t0_4 t0_5 t0_6 t0_7 t0_8 lx193 a107 f39) : Int32) < lx191 then (S_FR_findShortest_L176 (S_FR_findShortest_L133 t0_0 t0_1 t0_2 t0_3 t0_4 t0_5 t0_6 t0_7 t0_8 t0_9 t0_10 t1_0 t2_0 t3_0 t4_0 t5_0 t6_0 p47 f35 f37 f39 f41 f43 p69 f63 lx78 a107 f131 lx152 lx168 fm) t0_0 t0_1 t0_2 t0_3 t0_4 t0_5 t0_6 t0_7 t0_8 t0_9 t0_10 t1_0 t2_0 t3_0 t4_0 t5_0 t6_0 p47 f35 f37 f39 f41 f43 p69 f63 lx78 a107 f131 lx152 lx168 lx191 lx192 lx193 1000000 lx193 a107) else ((0 ≤ lx191.toInt) ∧ (S_FR_findShortest_L133 t0_0 t0_1 t0_2 t0_3 t0_4 t0_5 t0_6 t0_7 t0_8 t0_9 t0_10 t1_0 t2_0 t3_0 t4_0 t5_0 t6_0 p47 f35 f37 f39 f41 f43 p69 f63 lx78 a107 f131 lx152 lx168 fm (lx191 + 1 : Int32) (lx192 * 10 : Int64) (lx193 + (lx192 * ((f39 lx191.toNatClampNeg : Int32).toInt64 : Int64) : Int64) : Int64))))
def S_FR_findShortest_J121 (t0_0 : Int32) (t0_1 : Int32) (t0_2 : Int32) (t0_3 : Int32) (t0_4 : Int64) (t0_5 : Int32) (t0_6 : Int32) (t0_7 : Int64) (t0_8 : Int32) (t0_9 : Int64) (t0_10 : Int32) (t1_0 : (Nat → Int32)) (t2_0 : (Nat → Int32)) (t3_0 : (Nat → Int32)) (t4_0 : (Nat → Int32)) (t5_0 : (Nat → Int32)) (t6_0 : (Nat → Int32)) (p47 : ((Nat → Int32) × (Nat → Int32) × (Nat → Int32) × (Nat → Int32) × (Nat → Int32))) (f35 : (Nat → Int32)) (f37 : (Nat → Int32)) (f39 : (Nat → Int32)) (f41 : (Nat → Int32)) (f43 : (Nat → Int32)) (p69 : (Int32 × (Nat → Int32))) (f63 : (Nat → Int32)) (lx78 : Int32) (a107 : Int32) (f131 : (Nat → Int32)) (lx152 : Int32) (lx168 : Int64) : Prop := S_FR_findShortest_L133 t0_0 t0_1 t0_2 t0_3 t0_4 t0_5 t0_6 t0_7 t0_8 t0_9 t0_10 t1_0 t2_0 t3_0 t4_0 t5_0 t6_0 p47 f35 f37 f39 f41 f43 p69 f63 lx78 a107 f131 lx152 lx168 1000000 a107 1 lx168
def S_FR_findShortest_J108 (t0_0 : Int32) (t0_1 : Int32) (t0_2 : Int32) (t0_3 : Int32) (t0_4 : Int64) (t0_5 : Int32) (t0_6 : Int32) (t0_7 : Int64) (t0_8 : Int32) (t0_9 : Int64) (t0_10 : Int32) (t1_0 : (Nat → Int32)) (t2_0 : (Nat → Int32)) (t3_0 : (Nat → Int32)) (t4_0 : (Nat → Int32)) (t5_0 : (Nat → Int32)) (t6_0 : (Nat → Int32)) (p47 : ((Nat → Int32) × (Nat → Int32) × (Nat → Int32) × (Nat → Int32) × (Nat → Int32))) (f35 : (Nat → Int32)) (f37 : (Nat → Int32)) (f39 : (Nat → Int32)) (f41 : (Nat → Int32)) (f43 : (Nat → Int32)) (p69 : (Int32 × (Nat → Int32))) (f63 : (Nat → Int32)) (lx78 : Int32) (a107 : Int32) (f131 : (Nat → Int32)) (lx152 : Int32) : Prop := if lx152 = (0 : Int32) then (S_FR_findShortest_J121 t0_0 t0_1 t0_2 t0_3 t0_4 t0_5 t0_6 t0_7 t0_8 t0_9 t0_10 t1_0 t2_0 t3_0 t4_0 t5_0 t6_0 p47 f35 f37 f39 f41 f43 p69 f63 lx78 a107 f131 lx152 0) else (S_FR_findShortest_J121 t0_0 t0_1 t0_2 t0_3 t0_4 t0_5 t0_6 t0_7 t0_8 t0_9 t0_10 t1_0 t2_0 t3_0 t4_0 t5_0 t6_0 p47 f35 f37 f39 f41 f43 p69 f63 lx78 a107 f131 lx152 1)
def S_FR_findShortest_J107 (t0_0 : Int32) (t0_1 : Int32) (t0_2 : Int32) (t0_3 : Int32) (t0_4 : Int64) (t0_5 : Int32) (t0_6 : Int32) (t0_7 : Int64) (t0_8 : Int32) (t0_9 : Int64) (t0_10 : Int32) (t1_0 : (Nat → Int32)) (t2_0 : (Nat → Int32)) (t3_0 : (Nat → Int32)) (t4_0 : (Nat → Int32)) (t5_0 : (Nat → Int32)) (t6_0 : (Nat → Int32)) (p47 : ((Nat → Int32) × (Nat → Int32) × (Nat → Int32) × (Nat → Int32) × (Nat → Int32))) (f35 : (Nat → Int32)) (f37 : (Nat → Int32)) (f39 : (Nat → Int32)) (f41 : (Nat → Int32)) (f43 : (Nat → Int32)) (p69 : (Int32 × (Nat → Int32))) (f63 : (Nat → Int32)) (lx78 : Int32) (a107 : Int32) (f131 : (Nat → Int32)) : Prop := S_FR_findShortest_J108 t0_0 t0_1 t0_2 t0_3 t0_4 t0_5 t0_6 t0_7 t0_8 t0_9 t0_10 t1_0 t2_0 t3_0 t4_0 t5_0 t6_0 p47 f35 f37 f39 f41 f43 p69 f63 lx78 a107 f131 0
def S_FR_findShortest_J103 (t0_0 : Int32) (t0_1 : Int32) (t0_2 : Int32) (t0_3 : Int32) (t0_4 : Int64) (t0_5 : Int32) (t0_6 : Int32) (t0_7 : Int64) (t0_8 : Int32) (t0_9 : Int64) (t0_10 : Int32) (t1_0 : (Nat → Int32)) (t2_0 : (Nat → Int32)) (t3_0 : (Nat → Int32)) (t4_0 : (Nat → Int32)) (t5_0 : (Nat → Int32)) (t6_0 : (Nat → Int32)) (p47 : ((Nat → Int32) × (Nat → Int32) × (Nat → Int32) × (Nat → Int32) × (Nat → Int32))) (f35 : (Nat → Int32)) (f37 : (Nat → Int32)) (f39 : (Nat → Int32)) (f41 : (Nat → Int32)) (f43 : (Nat → Int32)) (p69 : (Int32 × (Nat → Int32))) (f63 : (Nat → Int32)) (lx78 : Int32) (a107 : Int32) (f131 : (Nat → Int32)) : Prop := S_FR_findShortest_J108 t0_0 t0_1 t0_2 t0_3 t0_4 t0_5 t0_6 t0_7 t0_8 t0_9 t0_10 t1_0 t2_0 t3_0 t4_0 t5_0 t6_0 p47 f35 f37 f39 f41 f43 p69 f63 lx78 a107 f131 1
def S_FR_findShortest_J19 (t0_0 : Int32) (t0_1 : Int32) (t0_2 : Int32) (t0_3 : Int32) (t0_4 : Int64) (t0_5 : Int32) (t0_6 : Int32) (t0_7 : Int64) (t0_8 : Int32) (t0_9 : Int64) (t0_10 : Int32) (t1_0 : (Nat → Int32)) (t2_0 : (Nat → Int32)) (t3_0 : (Nat → Int32)) (t4_0 : (Nat → Int32)) (t5_0 : (Nat → Int32)) (t6_0 : (Nat → Int32)) (p47 : ((Nat → Int32) × (Nat → Int32) × (Nat → Int32) × (Nat → Int32) × (Nat → Int32))) (f35 : (Nat → Int32)) (f37 : (Nat → Int32)) (f39 : (Nat → Int32)) (f41 : (Nat → Int32)) (f43 : (Nat → Int32)) (p69 : (Int32 × (Nat → Int32))) (f63 : (Nat → Int32)) (lx78 : Int32) : Prop := (True ∧ S_FR_top t0_0 t0_1 t0_2 t0_3 t0_4 t0_5 t0_6 t0_7 t0_8 t0_9 t0_10 f39) ∧ ((True ∧ S_FR_cut ((((F_FR_top t0_0 t0_1 t0_2 t0_3 t0_4 t0_5 t0_6 t0_7 t0_8 t0_9 t0_10 f39) : Int32) - lx78 : Int32) + 1 : Int32) (1 : Int32) t0_0 t0_1 t0_2 t0_3 t0_4 t0_5 t0_6 t0_7 t0_8 t0_9 ((((F_FR_top t0_0 t0_1 t0_2 t0_3 t0_4 t0_5 t0_6 t0_7 t0_8 t0_9 t0_10 f39) : Int32) - lx78 : Int32) + 1 : Int32) f39 f63) ∧ ((True ∧ S_FR_readsBack t0_0 t0_1 t0_2 t0_3 t0_4 t0_5 t0_6 t0_7 t0_8 t0_9 ((((F_FR_top t0_0 t0_1 t0_2 t0_3 t0_4 t0_5 t0_6 t0_7 t0_8 t0_9 t0_10 f39) : Int32) - lx78 : Int32) + 1 : Int32) f41 f43 ((F_FR_cut ((((F_FR_top t0_0 t0_1 t0_2 t0_3 t0_4 t0_5 t0_6 t0_7 t0_8 t0_9 t0_10 f39) : Int32) - lx78 : Int32) + 1 : Int32) (1 : Int32) t0_0 t0_1 t0_2 t0_3 t0_4 t0_5 t0_6 t0_7 t0_8 t0_9 ((((F_FR_top t0_0 t0_1 t0_2 t0_3 t0_4 t0_5 t0_6 t0_7 t0_8 t0_9 t0_10 f39) : Int32) - lx78 : Int32) + 1 : Int32) f39 f63) : (Nat → Int32))) ∧ ((True ∧ S_FR_cut ((((F_FR_top t0_0 t0_1 t0_2 t0_3 t0_4 t0_5 t0_6 t0_7 t0_8 t0_9 t0_10 f39) : Int32) - lx78 : Int32) + 1 : Int32) (0 : Int32) t0_0 t0_1 t0_2 t0_3 t0_4 t0_5 t0_6 t0_7 t0_8 t0_9 ((((F_FR_top t0_0 t0_1 t0_2 t0_3 t0_4 t0_5 t0_6 t0_7 t0_8 t0_9 t0_10 f39) : Int32) - lx78 : Int32) + 1 : Int32) f39 ((F_FR_cut ((((F_FR_top t0_0 t0_1 t0_2 t0_3 t0_4 t0_5 t0_6 t0_7 t0_8 t0_9 t0_10 f39) : Int32) - lx78 : Int32) + 1 : Int32) (1 : Int32) t0_0 t0_1 t0_2 t0_3 t0_4 t0_5 t0_6 t0_7 t0_8 t0_9 ((((F_FR_top t0_0 t0_1 t0_2 t0_3 t0_4 t0_5 t0_6 t0_7 t0_8 t0_9 t0_10 f39) : Int32) - lx78 : Int32) + 1 : Int32) f39 f63) : (Nat → Int32))) ∧ ((True ∧ S_FR_readsBack t0_0 t0_1 t0_2 t0_3 t0_4 t0_5 t0_6 t0_7 t0_8 t0_9 ((((F_FR_top t0_0 t0_1 t0_2 t0_3 t0_4 t0_5 t0_6 t0_7 t0_8 t0_9 t0_10 f39) : Int32) - lx78 : Int32) + 1 : Int32) f41 f43 ((F_FR_cut ((((F_FR_top t0_0 t0_1 t0_2 t0_3 t0_4 t0_5 t0_6 t0_7 t0_8 t0_9 t0_10 f39) : Int32) - lx78 : Int32) + 1 : Int32) (0 : Int32) t0_0 t0_1 t0_2 t0_3 t0_4 t0_5 t0_6 t0_7 t0_8 t0_9 ((((F_FR_top t0_0 t0_1 t0_2 t0_3 t0_4 t0_5 t0_6 t0_7 t0_8 t0_9 t0_10 f39) : Int32) - lx78 : Int32) + 1 : Int32) f39 ((F_FR_cut ((((F_FR_top t0_0 t0_1 t0_2 t0_3 t0_4 t0_5 t0_6 t0_7 t0_8 t0_9 t0_10 f39) : Int32) - lx78 : Int32) + 1 : Int32) (1 : Int32) t0_0 t0_1 t0_2 t0_3 t0_4 t0_5 t0_6 t0_7 t0_8 t0_9 ((((F_FR_top t0_0 t0_1 t0_2 t0_3 t0_4 t0_5 t0_6 t0_7 t0_8 t0_9 t0_10 f39) : Int32) - lx78 : Int32) + 1 : Int32) f39 f63) : (Nat → Int32))) : (Nat → Int32))) ∧ ((True ∧ S_FR_half ((((F_FR_top t0_0 t0_1 t0_2 t0_3 t0_4 t0_5 t0_6 t0_7 t0_8 t0_9 t0_10 f39) : Int32) - lx78 : Int32) + 1 : Int32) t0_0 t0_1 t0_2 t0_3 t0_4 t0_5 t0_6 t0_7 t0_8 t0_9 ((((F_FR_top t0_0 t0_1 t0_2 t0_3 t0_4 t0_5 t0_6 t0_7 t0_8 t0_9 t0_10 f39) : Int32) - lx78 : Int32) + 1 : Int32) f39) ∧ (if ((F_FR_readsBack t0_0 t0_1 t0_2 t0_3 t0_4 t0_5 t0_6 t0_7 t0_8 t0_9 ((((F_FR_top t0_0 t0_1 t0_2 t0_3 t0_4 t0_5 t0_6 t0_7 t0_8 t0_9 t0_10 f39) : Int32) - lx78 : Int32) + 1 : Int32) f41 f43 ((F_FR_cut ((((F_FR_top t0_0 t0_1 t0_2 t0_3 t0_4 t0_5 t0_6 t0_7 t0_8 t0_9 t0_10 f39) : Int32) - lx78 : Int32) + 1 : Int32) (1 : Int32) t0_0 t0_1 t0_2 t0_3 t0_4 t0_5 t0_6 t0_7 t0_8 t0_9 ((((F_FR_top t0_0 t0_1 t0_2 t0_3 t0_4 t0_5 t0_6 t0_7 t0_8 t0_9 t0_10 f39) : Int32) - lx78 : Int32) + 1 : Int32) f39 f63) : (Nat → Int32))) : Int32) = (0 : Int32) then (S_FR_findShortest_J107 t0_0 t0_1 t0_2 t0_3 t0_4 t0_5 t0_6 t0_7 t0_8 t0_9 t0_10 t1_0 t2_0 t3_0 t4_0 t5_0 t6_0 p47 f35 f37 f39 f41 f43 p69 f63 lx78 ((((F_FR_top t0_0 t0_1 t0_2 t0_3 t0_4 t0_5 t0_6 t0_7 t0_8 t0_9 t0_10 f39) : Int32) - lx78 : Int32) + 1 : Int32) ((F_FR_cut ((((F_FR_top t0_0 t0_1 t0_2 t0_3 t0_4 t0_5 t0_6 t0_7 t0_8 t0_9 t0_10 f39) : Int32) - lx78 : Int32) + 1 : Int32) (0 : Int32) t0_0 t0_1 t0_2 t0_3 t0_4 t0_5 t0_6 t0_7 t0_8 t0_9 ((((F_FR_top t0_0 t0_1 t0_2 t0_3 t0_4 t0_5 t0_6 t0_7 t0_8 t0_9 t0_10 f39) : Int32) - lx78 : Int32) + 1 : Int32) f39 ((F_FR_cut ((((F_FR_top t0_0 t0_1 t0_2 t0_3 t0_4 t0_5 t0_6 t0_7 t0_8 t0_9 t0_10 f39) : Int32) - lx78 : Int32) + 1 : Int32) (1 : Int32) t0_0 t0_1 t0_2 t0_3 t0_4 t0_5 t0_6 t0_7 t0_8 t0_9 ((((F_FR_top t0_0 t0_1 t0_2 t0_3 t0_4 t0_5 t0_6 t0_7 t0_8 t0_9 t0_10 f39) : Int32) - lx78 : Int32) + 1 : Int32) f39 f63) : (Nat → Int32))) : (Nat → Int32))) else (if ((F_FR_readsBack t0_0 t0_1 t0_2 t0_3 t0_4 t0_5 t0_6 t0_7 t0_8 t0_9 ((((F_FR_top t0_0 t0_1 t0_2 t0_3 t0_4 t0_5 t0_6 t0_7 t0_8 t0_9 t0_10 f39) : Int32) - lx78 : Int32) + 1 : Int32) f41 f43 ((F_FR_cut ((((F_FR_top t0_0 t0_1 t0_2 t0_3 t0_4 t0_5 t0_6 t0_7 t0_8 t0_9 t0_10 f39) : Int32) - lx78 : Int32) + 1 : Int32) (0 : Int32) t0_0 t0_1 t0_2 t0_3 t0_4 t0_5 t0_6 t0_7 t0_8 t0_9 ((((F_FR_top t0_0 t0_1 t0_2 t0_3 t0_4 t0_5 t0_6 t0_7 t0_8 t0_9 t0_10 f39) : Int32) - lx78 : Int32) + 1 : Int32) f39 ((F_FR_cut ((((F_FR_top t0_0 t0_1 t0_2 t0_3 t0_4 t0_5 t0_6 t0_7 t0_8 t0_9 t0_10 f39) : Int32) - lx78 : Int32) + 1 : Int32) (1 : Int32) t0_0 t0_1 t0_2 t0_3 t0_4 t0_5 t0_6 t0_7 t0_8 t0_9 ((((F_FR_top t0_0 t0_1 t0_2 t0_3 t0_4 t0_5 t0_6 t0_7 t0_8 t0_9 t0_10 f39) : Int32) - lx78 : Int32) + 1 : Int32) f39 f63) : (Nat → Int32))) : (Nat → Int32))) : Int32) = (0 : Int32) then (S_FR_findShortest_J103 t0_0 t0_1 t0_2 t0_3 t0_4 t0_5 t0_6 t0_7 t0_8 t0_9 t0_10 t1_0 t2_0 t3_0 t4_0 t5_0 t6_0 p47 f35 f37 f39 f41 f43 p69 f63 lx78 ((((F_FR_top t0_0 t0_1 t0_2 t0_3 t0_4 t0_5 t0_6 t0_7 t0_8 t0_9 t0_10 f39) : Int32) - lx78 : Int32) + 1 : Int32) ((F_FR_cut ((((F_FR_top t0_0 t0_1 t0_2 t0_3 t0_4 t0_5 t0_6 t0_7 t0_8 t0_9 t0_10 f39) : Int32) - lx78 : Int32) + 1 : Int32) (0 : Int32) t0_0 t0_1 t0_2 t0_3 t0_4 t0_5 t0_6 t0_7 t0_8 t0_9 ((((F_FR_top t0_0 t0_1 t0_2 t0_3 t0_4 t0_5 t0_6 t0_7 t0_8 t0_9 t0_10 f39) : Int32) - lx78 : Int32) + 1 : Int32) f39 ((F_FR_cut ((((F_FR_top t0_0 t0_1 t0_2 t0_3 t0_4 t0_5 t0_6 t0_7 t0_8 t0_9 t0_10 f39) : Int32) - lx78 : Int32) + 1 : Int32) (1 : Int32) t0_0 t0_1 t0_2 t0_3 t0_4 t0_5 t0_6 t0_7 t0_8 t0_9 ((((F_FR_top t0_0 t0_1 t0_2 t0_3 t0_4 t0_5 t0_6 t0_7 t0_8 t0_9 t0_10 f39) : Int32) - lx78 : Int32) + 1 : Int32) f39 f63) : (Nat → Int32))) : (Nat → Int32))) else (if (0 : Int32) < ((F_FR_half ((((F_FR_top t0_0 t0_1 t0_2 t0_3 t0_4 t0_5 t0_6 t0_7 t0_8 t0_9 t0_10 f39) : Int32) - lx78 : Int32) + 1 : Int32) t0_0 t0_1 t0_2 t0_3 t0_4 t0_5 t0_6 t0_7 t0_8 t0_9 ((((F_FR_top t0_0 t0_1 t0_2 t0_3 t0_4 t0_5 t0_6 t0_7 t0_8 t0_9 t0_10 f39) : Int32) - lx78 : Int32) + 1 : Int32) f39) : Int32) then (S_FR_findShortest_J103 t0_0 t0_1 t0_2 t0_3 t0_4 t0_5 t0_6 t0_7 t0_8 t0_9 t0_10 t1_0 t2_0 t3_0 t4_0 t5_0 t6_0 p47 f35 f37 f39 f41 f43 p69 f63 lx78 ((((F_FR_top t0_0 t0_1 t0_2 t0_3 t0_4 t0_5 t0_6 t0_7 t0_8 t0_9 t0_10 f39) : Int32) - lx78 : Int32) + 1 : Int32) ((F_FR_cut ((((F_FR_top t0_0 t0_1 t0_2 t0_3 t0_4 t0_5 t0_6 t0_7 t0_8 t0_9 t0_10 f39) : Int32) - lx78 : Int32) + 1 : Int32) (0 : Int32) t0_0 t0_1 t0_2 t0_3 t0_4 t0_5 t0_6 t0_7 t0_8 t0_9 ((((F_FR_top t0_0 t0_1 t0_2 t0_3 t0_4 t0_5 t0_6 t0_7 t0_8 t0_9 t0_10 f39) : Int32) - lx78 : Int32) + 1 : Int32) f39 ((F_FR_cut ((((F_FR_top t0_0 t0_1 t0_2 t0_3 t0_4 t0_5 t0_6 t0_7 t0_8 t0_9 t0_10 f39) : Int32) - lx78 : Int32) + 1 : Int32) (1 : Int32) t0_0 t0_1 t0_2 t0_3 t0_4 t0_5 t0_6 t0_7 t0_8 t0_9 ((((F_FR_top t0_0 t0_1 t0_2 t0_3 t0_4 t0_5 t0_6 t0_7 t0_8 t0_9 t0_10 f39) : Int32) - lx78 : Int32) + 1 : Int32) f39 f63) : (Nat → Int32))) : (Nat → Int32))) else (if ((F_FR_half ((((F_FR_top t0_0 t0_1 t0_2 t0_3 t0_4 t0_5 t0_6 t0_7 t0_8 t0_9 t0_10 f39) : Int32) - lx78 : Int32) + 1 : Int32) t0_0 t0_1 t0_2 t0_3 t0_4 t0_5 t0_6 t0_7 t0_8 t0_9 ((((F_FR_top t0_0 t0_1 t0_2 t0_3 t0_4 t0_5 t0_6 t0_7 t0_8 t0_9 t0_10 f39) : Int32) - lx78 : Int32) + 1 : Int32) f39) : Int32) = (0 : Int32) then ((0 ≤ ((((F_FR_top t0_0 t0_1 t0_2 t0_3 t0_4 t0_5 t0_6 t0_7 t0_8 t0_9 t0_10 f39) : Int32) - lx78 : Int32) + 1 : Int32).toInt) ∧ (if ((f39 ((((F_FR_top t0_0 t0_1 t0_2 t0_3 t0_4 t0_5 t0_6 t0_7 t0_8 t0_9 t0_10 f39) : Int32) - lx78 : Int32) + 1 : Int32).toNatClampNeg : Int32) - (f39 ((((F_FR_top t0_0 t0_1 t0_2 t0_3 t0_4 t0_5 t0_6 t0_7 t0_8 t0_9 t0_10 f39) : Int32) - lx78 : Int32) + 1 : Int32).toNatClampNeg : Int32) / 2 * 2 : Int32) = (1 : Int32) then (S_FR_findShortest_J103 t0_0 t0_1 t0_2 t0_3 t0_4 t0_5 t0_6 t0_7 t0_8 t0_9 t0_10 t1_0 t2_0 t3_0 t4_0 t5_0 t6_0 p47 f35 f37 f39 f41 f43 p69 f63 lx78 ((((F_FR_top t0_0 t0_1 t0_2 t0_3 t0_4 t0_5 t0_6 t0_7 t0_8 t0_9 t0_10 f39) : Int32) - lx78 : Int32) + 1 : Int32) ((F_FR_cut ((((F_FR_top t0_0 t0_1 t0_2 t0_3 t0_4 t0_5 t0_6 t0_7 t0_8 t0_9 t0_10 f39) : Int32) - lx78 : Int32) + 1 : Int32) (0 : Int32) t0_0 t0_1 t0_2 t0_3 t0_4 t0_5 t0_6 t0_7 t0_8 t0_9 ((((F_FR_top t0_0 t0_1 t0_2 t0_3 t0_4 t0_5 t0_6 t0_7 t0_8 t0_9 t0_10 f39) : Int32) - lx78 : Int32) + 1 : Int32) f39 ((F_FR_cut ((((F_FR_top t0_0 t0_1 t0_2 t0_3 t0_4 t0_5 t0_6 t0_7 t0_8 t0_9 t0_10 f39) : Int32) - lx78 : Int32) + 1 : Int32) (1 : Int32) t0_0 t0_1 t0_2 t0_3 t0_4 t0_5 t0_6 t0_7 t0_8 t0_9 ((((F_FR_top t0_0 t0_1 t0_2 t0_3 t0_4 t0_5 t0_6 t0_7 t0_8 t0_9 t0_10 f39) : Int32) - lx78 : Int32) + 1 : Int32) f39 f63) : (Nat → Int32))) : (Nat → Int32))) else (S_FR_findShortest_J107 t0_0 t0_1 t0_2 t0_3 t0_4 t0_5 t0_6 t0_7 t0_8 t0_9 t0_10 t1_0 t2_0 t3_0 t4_0 t5_0 t6_0 p47 f35 f37 f39 f41 f43 p69 f63 lx78 ((((F_FR_top t0_0 t0_1 t0_2 t0_3 t0_4 t0_5 t0_6 t0_7 t0_8 t0_9 t0_10 f39) : Int32) - lx78 : Int32) + 1 : Int32) ((F_FR_cut ((((F_FR_top t0_0 t0_1 t0_2 t0_3 t0_4 t0_5 t0_6 t0_7 t0_8 t0_9 t0_10 f39) : Int32) - lx78 : Int32) + 1 : Int32) (0 : Int32) t0_0 t0_1 t0_2 t0_3 t0_4 t0_5 t0_6 t0_7 t0_8 t0_9 ((((F_FR_top t0_0 t0_1 t0_2 t0_3 t0_4 t0_5 t0_6 t0_7 t0_8 t0_9 t0_10 f39) : Int32) - lx78 : Int32) + 1 : Int32) f39 ((F_FR_cut ((((F_FR_top t0_0 t0_1 t0_2 t0_3 t0_4 t0_5 t0_6 t0_7 t0_8 t0_9 t0_10 f39) : Int32) - lx78 : Int32) + 1 : Int32) (1 : Int32) t0_0 t0_1 t0_2 t0_3 t0_4 t0_5 t0_6 t0_7 t0_8 t0_9 ((((F_FR_top t0_0 t0_1 t0_2 t0_3 t0_4 t0_5 t0_6 t0_7 t0_8 t0_9 t0_10 f39) : Int32) - lx78 : Int32) + 1 : Int32) f39 f63) : (Nat → Int32))) : (Nat → Int32))))) else (S_FR_findShortest_J107 t0_0 t0_1 t0_2 t0_3 t0_4 t0_5 t0_6 t0_7 t0_8 t0_9 t0_10 t1_0 t2_0 t3_0 t4_0 t5_0 t6_0 p47 f35 f37 f39 f41 f43 p69 f63 lx78 ((((F_FR_top t0_0 t0_1 t0_2 t0_3 t0_4 t0_5 t0_6 t0_7 t0_8 t0_9 t0_10 f39) : Int32) - lx78 : Int32) + 1 : Int32) ((F_FR_cut ((((F_FR_top t0_0 t0_1 t0_2 t0_3 t0_4 t0_5 t0_6 t0_7 t0_8 t0_9 t0_10 f39) : Int32) - lx78 : Int32) + 1 : Int32) (0 : Int32) t0_0 t0_1 t0_2 t0_3 t0_4 t0_5 t0_6 t0_7 t0_8 t0_9 ((((F_FR_top t0_0 t0_1 t0_2 t0_3 t0_4 t0_5 t0_6 t0_7 t0_8 t0_9 t0_10 f39) : Int32) - lx78 : Int32) + 1 : Int32) f39 ((F_FR_cut ((((F_FR_top t0_0 t0_1 t0_2 t0_3 t0_4 t0_5 t0_6 t0_7 t0_8 t0_9 t0_10 f39) : Int32) - lx78 : Int32) + 1 : Int32) (1 : Int32) t0_0 t0_1 t0_2 t0_3 t0_4 t0_5 t0_6 t0_7 t0_8 t0_9 ((((F_FR_top t0_0 t0_1 t0_2 t0_3 t0_4 t0_5 t0_6 t0_7 t0_8 t0_9 t0_10 f39) : Int32) - lx78 : Int32) + 1 : Int32) f39 f63) : (Nat → Int32))) : (Nat → Int32))))))))))))
def S_FR_findShortest_c5 (t0_0 : Int32) (t0_1 : Int32) (t0_2 : Int32) (t0_3 : Int32) (t0_4 : Int64) (t0_5 : Int32) (t0_6 : Int32) (t0_7 : Int64) (t0_8 : Int32) (t0_9 : Int64) (t0_10 : Int32) (t1_0 : (Nat → Int32)) (t2_0 : (Nat → Int32)) (t3_0 : (Nat → Int32)) (t4_0 : (Nat → Int32)) (t5_0 : (Nat → Int32)) (t6_0 : (Nat → Int32)) (p47 : ((Nat → Int32) × (Nat → Int32) × (Nat → Int32) × (Nat → Int32) × (Nat → Int32))) (f35 : (Nat → Int32)) (f37 : (Nat → Int32)) (f39 : (Nat → Int32)) (f41 : (Nat → Int32)) (f43 : (Nat → Int32)) (p69 : (Int32 × (Nat → Int32))) : Prop := if (p69.1 : Int32) = (1 : Int32) then (S_FR_findShortest_J19 t0_0 t0_1 t0_2 t0_3 t0_4 t0_5 t0_6 t0_7 t0_8 t0_9 t0_10 t1_0 t2_0 t3_0 t4_0 t5_0 t6_0 p47 f35 f37 f39 f41 f43 p69 (p69.2 : (Nat → Int32)) 2) else (S_FR_findShortest_J19 t0_0 t0_1 t0_2 t0_3 t0_4 t0_5 t0_6 t0_7 t0_8 t0_9 t0_10 t1_0 t2_0 t3_0 t4_0 t5_0 t6_0 p47 f35 f37 f39 f41 f43 p69 (p69.2 : (Nat → Int32)) (p69.1 : Int32))
def S_FR_findShortest_c1 (t0_0 : Int32) (t0_1 : Int32) (t0_2 : Int32) (t0_3 : Int32) (t0_4 : Int64) (t0_5 : Int32) (t0_6 : Int32) (t0_7 : Int64) (t0_8 : Int32) (t0_9 : Int64) (t0_10 : Int32) (t1_0 : (Nat → Int32)) (t2_0 : (Nat → Int32)) (t3_0 : (Nat → Int32)) (t4_0 : (Nat → Int32)) (t5_0 : (Nat → Int32)) (t6_0 : (Nat → Int32)) (p47 : ((Nat → Int32) × (Nat → Int32) × (Nat → Int32) × (Nat → Int32) × (Nat → Int32))) : Prop := (True ∧ S_FR_leastLength t0_0 t0_1 t0_2 t0_3 t0_4 t0_5 t0_6 t0_7 t0_8 t0_9 t0_10 (p47.2.2.1 : (Nat → Int32)) (p47.2.2.2.1 : (Nat → Int32)) (p47.2.2.2.2 : (Nat → Int32)) t6_0) ∧ (S_FR_findShortest_c5 t0_0 t0_1 t0_2 t0_3 t0_4 t0_5 t0_6 t0_7 t0_8 t0_9 t0_10 t1_0 t2_0 t3_0 t4_0 t5_0 t6_0 p47 (p47.1 : (Nat → Int32)) (p47.2.1 : (Nat → Int32)) (p47.2.2.1 : (Nat → Int32)) (p47.2.2.2.1 : (Nat → Int32)) (p47.2.2.2.2 : (Nat → Int32)) ((F_FR_leastLength t0_0 t0_1 t0_2 t0_3 t0_4 t0_5 t0_6 t0_7 t0_8 t0_9 t0_10 (p47.2.2.1 : (Nat → Int32)) (p47.2.2.2.1 : (Nat → Int32)) (p47.2.2.2.2 : (Nat → Int32)) t6_0) : (Int32 × (Nat → Int32))))
def S_FR_findShortest (t0_0 : Int32) (t0_1 : Int32) (t0_2 : Int32) (t0_3 : Int32) (t0_4 : Int64) (t0_5 : Int32) (t0_6 : Int32) (t0_7 : Int64) (t0_8 : Int32) (t0_9 : Int64) (t0_10 : Int32) (t1_0 : (Nat → Int32)) (t2_0 : (Nat → Int32)) (t3_0 : (Nat → Int32)) (t4_0 : (Nat → Int32)) (t5_0 : (Nat → Int32)) (t6_0 : (Nat → Int32)) : Prop := (True ∧ S_FR_setAll t0_0 t0_1 t0_2 t0_3 t0_4 t0_5 t0_6 t0_7 t0_8 t0_9 t0_10 t1_0 t2_0 t3_0 t4_0 t5_0) ∧ (S_FR_findShortest_c1 t0_0 t0_1 t0_2 t0_3 t0_4 t0_5 t0_6 t0_7 t0_8 t0_9 t0_10 t1_0 t2_0 t3_0 t4_0 t5_0 t6_0 ((F_FR_setAll t0_0 t0_1 t0_2 t0_3 t0_4 t0_5 t0_6 t0_7 t0_8 t0_9 t0_10 t1_0 t2_0 t3_0 t4_0 t5_0) : ((Nat → Int32) × (Nat → Int32) × (Nat → Int32) × (Nat → Int32) × (Nat → Int32))))
set_option maxRecDepth 100000 in
set_option maxHeartbeats 4000000 in
theorem X_FR_findShortest (l : Launch) (D : va_G) (g : Nat → ClassId) (q : Nat → Nat) (ws : va_W) (hI : q_I (msh g q) q ws) (t0_0 : Int32) (t0_1 : Int32) (t0_2 : Int32) (t0_3 : Int32) (t0_4 : Int64) (t0_5 : Int32) (t0_6 : Int32) (t0_7 : Int64) (t0_8 : Int32) (t0_9 : Int64) (t0_10 : Int32) (hT0 : ws[145]? = (some (q 145, .inr (15, [.int t0_0, .ref (q 146), .ref (q 147), .ref (q 148), .ref (q 149), .ref (q 150), .ref (q 151), .ref (q 152), .int t0_1, .int t0_2, .int t0_3, .long t0_4, .int t0_5, .int t0_6, .long t0_7, .int t0_8, .long t0_9, .int t0_10])) : Option (Nat × va_E))) (t1_0 : (Nat → Int32)) (hT1 : ws[146]? = (some (q 146, .inl (g 0, (156 : Int32).toNatClampNeg, .inl t1_0)) : Option (Nat × va_E))) (t2_0 : (Nat → Int32)) (hT2 : ws[147]? = (some (q 147, .inl (g 0, (156 : Int32).toNatClampNeg, .inl t2_0)) : Option (Nat × va_E))) (t3_0 : (Nat → Int32)) (hT3 : ws[148]? = (some (q 148, .inl (g 0, (1404 : Int32).toNatClampNeg, .inl t3_0)) : Option (Nat × va_E))) (t4_0 : (Nat → Int32)) (hT4 : ws[149]? = (some (q 149, .inl (g 0, (1404 : Int32).toNatClampNeg, .inl t4_0)) : Option (Nat × va_E))) (t5_0 : (Nat → Int32)) (hT5 : ws[150]? = (some (q 150, .inl (g 0, (1404 : Int32).toNatClampNeg, .inl t5_0)) : Option (Nat × va_E))) (t6_0 : (Nat → Int32)) (hT6 : ws[151]? = (some (q 151, .inl (g 0, (1404 : Int32).toNatClampNeg, .inl t6_0)) : Option (Nat × va_E))) (hS : True ∧ S_FR_findShortest t0_0 t0_1 t0_2 t0_3 t0_4 t0_5 t0_6 t0_7 t0_8 t0_9 t0_10 t1_0 t2_0 t3_0 t4_0 t5_0 t6_0) : q_mV l y_FR_findShortest prog_17_method_15_code 9 4 0 0 D g [.ref (q 145)] ws (fun u => q_I (msh g q) q u ∧ q_un ws u [145, 146, 147, 148, 149, 150, 151] ∧ ∃ (u0_0 : Int32) (u0_1 : Int32) (u0_2 : Int32) (u0_3 : Int32) (u0_4 : Int64) (u0_5 : Int32) (u0_6 : Int32) (u0_7 : Int64) (u0_8 : Int32) (u0_9 : Int64) (u0_10 : Int32) (u1_0 : (Nat → Int32)) (u2_0 : (Nat → Int32)) (u3_0 : (Nat → Int32)) (u4_0 : (Nat → Int32)) (u5_0 : (Nat → Int32)) (u6_0 : (Nat → Int32)), u[145]? = (some (q 145, .inr (15, [.int u0_0, .ref (q 146), .ref (q 147), .ref (q 148), .ref (q 149), .ref (q 150), .ref (q 151), .ref (q 152), .int u0_1, .int u0_2, .int u0_3, .long u0_4, .int u0_5, .int u0_6, .long u0_7, .int u0_8, .long u0_9, .int u0_10])) : Option (Nat × va_E)) ∧ u[146]? = (some (q 146, .inl (g 0, (156 : Int32).toNatClampNeg, .inl u1_0)) : Option (Nat × va_E)) ∧ u[147]? = (some (q 147, .inl (g 0, (156 : Int32).toNatClampNeg, .inl u2_0)) : Option (Nat × va_E)) ∧ u[148]? = (some (q 148, .inl (g 0, (1404 : Int32).toNatClampNeg, .inl u3_0)) : Option (Nat × va_E)) ∧ u[149]? = (some (q 149, .inl (g 0, (1404 : Int32).toNatClampNeg, .inl u4_0)) : Option (Nat × va_E)) ∧ u[150]? = (some (q 150, .inl (g 0, (1404 : Int32).toNatClampNeg, .inl u5_0)) : Option (Nat × va_E)) ∧ u[151]? = (some (q 151, .inl (g 0, (1404 : Int32).toNatClampNeg, .inl u6_0)) : Option (Nat × va_E)) ∧ (t0_0.toInt ≤ u0_0.toInt) ∧ (u0_0.toInt ≤ t0_0.toInt) ∧ (t0_1.toInt ≤ u0_1.toInt) ∧ (u0_1.toInt ≤ t0_1.toInt) ∧ (t0_2.toInt ≤ u0_2.toInt) ∧ (u0_2.toInt ≤ t0_2.toInt) ∧ (t0_3.toInt ≤ u0_3.toInt) ∧ (u0_3.toInt ≤ t0_3.toInt) ∧ (t0_4.toInt ≤ u0_4.toInt) ∧ (u0_4.toInt ≤ t0_4.toInt) ∧ (t0_5.toInt ≤ u0_5.toInt) ∧ (u0_5.toInt ≤ t0_5.toInt) ∧ (t0_6.toInt ≤ u0_6.toInt) ∧ (u0_6.toInt ≤ t0_6.toInt) ∧ (t0_7.toInt ≤ u0_7.toInt) ∧ (u0_7.toInt ≤ t0_7.toInt) ∧ (t0_8.toInt ≤ u0_8.toInt) ∧ (u0_8.toInt ≤ t0_8.toInt) ∧ (u0_0, u0_1, u0_2, u0_3, u0_4, u0_5, u0_6, u0_7, u0_8, u0_9, u0_10, u1_0, u2_0, u3_0, u4_0, u5_0, u6_0) = (F_FR_findShortest t0_0 t0_1 t0_2 t0_3 t0_4 t0_5 t0_6 t0_7 t0_8 t0_9 t0_10 t1_0 t2_0 t3_0 t4_0 t5_0 t6_0)) := by
  intro sz
  refine q_into (by decide) (Nat.le_of_ble_eq_true rfl) ?_
  intro p e s m below meth c ls hsz C0 V hl
  have hx := C0.1
  have hb := C0.2.1
  have btt0_2 := n_w145 hI hT0
  replace btt0_2 : q_F (0 ≤ t0_2.toInt ∧ t0_2.toInt ≤ 1) := btt0_2
  have hF : q_un ws ws [145, 146, 147, 148, 149, 150, 151] := q_u0
  have hl : lv_has ls 9 [(0, .ref (q 145))] := hl
  refine lv_aload_n hx hb d_17_15_0 rfl (lv_at hl 0 rfl) ?_
  have ob32 : True ∧ S_FR_setAll t0_0 t0_1 t0_2 t0_3 t0_4 t0_5 t0_6 t0_7 t0_8 t0_9 t0_10 t1_0 t2_0 t3_0 t4_0 t5_0 := (by have h := hS; rw [S_FR_findShortest.eq_1] at h; with_reducible exact h.2.1)
  refine q_gov V (q_runV (As := []) (rest := []) (d := 2) (mc := 0) (ms := 0) (ci := 15) C0 V rfl LV_FR_89 (X_FR_setAll l D g q ws   hI t0_0 t0_1 t0_2 t0_3 t0_4 t0_5 t0_6 t0_7 t0_8 t0_9 t0_10 hT0 t1_0 hT1 t2_0 hT2 t3_0 hT3 t4_0 hT4 t5_0 hT5 ob32 _) rfl rfl hT0 rfl hl.1 rfl (Nat.le_of_ble_eq_true rfl) ⟨by decide, by decide⟩ ⟨Nat.le_of_ble_eq_true rfl, Nat.le_of_ble_eq_true rfl⟩ d_17_15_1) (fun u33 H locs hp34 V => ?_)
  obtain ⟨hI, hZ9⟩ := hp34
  obtain ⟨hu46, hZ9⟩ := hZ9
  obtain ⟨f35, hZ9⟩ := hZ9
  obtain ⟨f37, hZ9⟩ := hZ9
  obtain ⟨f39, hZ9⟩ := hZ9
  obtain ⟨f41, hZ9⟩ := hZ9
  obtain ⟨f43, hZ9⟩ := hZ9
  obtain ⟨hA36, hZ9⟩ := hZ9
  obtain ⟨hA38, hZ9⟩ := hZ9
  obtain ⟨hA40, hZ9⟩ := hZ9
  obtain ⟨hA42, hZ9⟩ := hZ9
  obtain ⟨hA44, hE45⟩ := hZ9
  replace hA36 : u33[146]? = (some (q 146, .inl (g 0, (156 : Int32).toNatClampNeg, .inl f35)) : Option (Nat × va_E)) := hA36
  replace hA38 : u33[147]? = (some (q 147, .inl (g 0, (156 : Int32).toNatClampNeg, .inl f37)) : Option (Nat × va_E)) := hA38
  replace hA40 : u33[148]? = (some (q 148, .inl (g 0, (1404 : Int32).toNatClampNeg, .inl f39)) : Option (Nat × va_E)) := hA40
  replace hA42 : u33[149]? = (some (q 149, .inl (g 0, (1404 : Int32).toNatClampNeg, .inl f41)) : Option (Nat × va_E)) := hA42
  replace hA44 : u33[150]? = (some (q 150, .inl (g 0, (1404 : Int32).toNatClampNeg, .inl f43)) : Option (Nat × va_E)) := hA44
  obtain ⟨p47, e48⟩ : ∃ z, z = (F_FR_setAll t0_0 t0_1 t0_2 t0_3 t0_4 t0_5 t0_6 t0_7 t0_8 t0_9 t0_10 t1_0 t2_0 t3_0 t4_0 t5_0) := ⟨_, rfl⟩
  have e49 : f35 = p47.1 := congrArg (fun z => z.1) (hE45.trans e48.symm)
  have e50 : f37 = p47.2.1 := congrArg (fun z => z.2.1) (hE45.trans e48.symm)
  have e51 : f39 = p47.2.2.1 := congrArg (fun z => z.2.2.1) (hE45.trans e48.symm)
  have e52 : f41 = p47.2.2.2.1 := congrArg (fun z => z.2.2.2.1) (hE45.trans e48.symm)
  have e53 : f43 = p47.2.2.2.2 := congrArg (fun z => z.2.2.2.2) (hE45.trans e48.symm)
  replace hT0 := (hu46 _ (by decide)).trans hT0
  replace hT6 := (hu46 _ (by decide)).trans hT6
  replace hF := q_uc hF hu46 (by simp)
  have hR54 := (show F_FR_findShortest_c1 t0_0 t0_1 t0_2 t0_3 t0_4 t0_5 t0_6 t0_7 t0_8 t0_9 t0_10 t1_0 t2_0 t3_0 t4_0 t5_0 t6_0 p47 = (F_FR_findShortest t0_0 t0_1 t0_2 t0_3 t0_4 t0_5 t0_6 t0_7 t0_8 t0_9 t0_10 t1_0 t2_0 t3_0 t4_0 t5_0 t6_0) from (by rw [e48, F_FR_findShortest.eq_1]))
  have hS55 := (show True ∧ S_FR_findShortest_c1 t0_0 t0_1 t0_2 t0_3 t0_4 t0_5 t0_6 t0_7 t0_8 t0_9 t0_10 t1_0 t2_0 t3_0 t4_0 t5_0 t6_0 p47 from (by rw [e48]; have h := hS; rw [S_FR_findShortest.eq_1] at h; replace h := q_s2 h; with_reducible exact h))
  refine lv_aload_n hx hb d_17_15_4 rfl (lv_at hl 0 rfl) ?_
  have ob59 : True ∧ S_FR_leastLength t0_0 t0_1 t0_2 t0_3 t0_4 t0_5 t0_6 t0_7 t0_8 t0_9 t0_10 f39 f41 f43 t6_0 := (by rw [e53, e52, e51]; have h := hS55; rw [S_FR_findShortest_c1.eq_1] at h; with_reducible exact h.2.1)
  refine q_goi V (q_runV (As := []) (rest := []) (d := 3) (mc := 0) (ms := 0) (ci := 15) C0 V rfl LV_FR_92 (X_FR_leastLength l D g q u33   hI t0_0 t0_1 t0_2 t0_3 t0_4 t0_5 t0_6 t0_7 t0_8 t0_9 t0_10 hT0 f39 hA40 f41 hA42 f43 hA44 t6_0 hT6 ob59 _) rfl rfl hT0 rfl hl.1 rfl (Nat.le_of_ble_eq_true rfl) ⟨by decide, by decide⟩ ⟨Nat.le_of_ble_eq_true rfl, Nat.le_of_ble_eq_true rfl⟩ d_17_15_5) (fun a62 u60 H locs hp61 V => ?_)
  obtain ⟨hI, hZ9⟩ := hp61
  obtain ⟨hu68, hZ9⟩ := hZ9
  obtain ⟨f63, hZ9⟩ := hZ9
  obtain ⟨hA64, hZ9⟩ := hZ9
  obtain ⟨b65, hZ9⟩ := hZ9
  obtain ⟨b66, hE67⟩ := hZ9
  replace hA64 : u60[151]? = (some (q 151, .inl (g 0, (1404 : Int32).toNatClampNeg, .inl f63)) : Option (Nat × va_E)) := hA64
  obtain ⟨p69, e70⟩ : ∃ z, z = (F_FR_leastLength t0_0 t0_1 t0_2 t0_3 t0_4 t0_5 t0_6 t0_7 t0_8 t0_9 t0_10 f39 f41 f43 t6_0) := ⟨_, rfl⟩
  have e71 : a62 = p69.1 := congrArg (fun z => z.1) (hE67.trans e70.symm)
  have e72 : f63 = p69.2 := congrArg (fun z => z.2) (hE67.trans e70.symm)
  replace b65 : q_F (1 ≤ a62.toInt) := b65
  replace b66 : q_F (a62.toInt ≤ 17) := b66
  replace hT0 := (hu68 _ (by decide)).trans hT0
  replace hA36 := (hu68 _ (by decide)).trans hA36
  replace hA38 := (hu68 _ (by decide)).trans hA38
  replace hA40 := (hu68 _ (by decide)).trans hA40
  replace hA42 := (hu68 _ (by decide)).trans hA42
  replace hA44 := (hu68 _ (by decide)).trans hA44
  replace hF := q_uc hF hu68 (by simp)
  have hR73 := (show F_FR_findShortest_c5 t0_0 t0_1 t0_2 t0_3 t0_4 t0_5 t0_6 t0_7 t0_8 t0_9 t0_10 t1_0 t2_0 t3_0 t4_0 t5_0 t6_0 p47 f35 f37 f39 f41 f43 p69 = (F_FR_findShortest t0_0 t0_1 t0_2 t0_3 t0_4 t0_5 t0_6 t0_7 t0_8 t0_9 t0_10 t1_0 t2_0 t3_0 t4_0 t5_0 t6_0) from Eq.trans (by rw [e70, e53, e52, e51, e50, e49, F_FR_findShortest_c1.eq_1]) hR54)
  have hS74 := (show True ∧ S_FR_findShortest_c5 t0_0 t0_1 t0_2 t0_3 t0_4 t0_5 t0_6 t0_7 t0_8 t0_9 t0_10 t1_0 t2_0 t3_0 t4_0 t5_0 t6_0 p47 f35 f37 f39 f41 f43 p69 from (by rw [e70, e53, e52, e51, e50, e49]; have h := hS55; rw [S_FR_findShortest_c1.eq_1] at h; replace h := q_s2 h; with_reducible exact h))
  refine lv_istore_n (lv' := [(1, .int a62), (0, .ref (q 145))]) hx hb d_17_15_8 rfl hl (by decide) rfl (fun ls hl => ?_)
  refine lv_iload_n hx hb d_17_15_9 rfl (lv_at hl 0 rfl) ?_
  refine lv_iconst (v := 1) hx hb d_17_15_10 (by decide) ?_
  refine q_join (X := Int32) (fun z H locs ls _ => q_F (2 ≤ z.toInt) ∧ q_F (z.toInt ≤ 17) ∧ q_F (a62.toInt ≤ z.toInt) ∧ q_F (z.toInt ≤ a62.toInt + 1) ∧ q_Wd D g (va_A ws sz) s u60 H locs ∧ lv_has ls 9 [(0, .ref (q 145))] ∧ F_FR_findShortest_J19 t0_0 t0_1 t0_2 t0_3 t0_4 t0_5 t0_6 t0_7 t0_8 t0_9 t0_10 t1_0 t2_0 t3_0 t4_0 t5_0 t6_0 p47 f35 f37 f39 f41 f43 p69 f63 z = (F_FR_findShortest t0_0 t0_1 t0_2 t0_3 t0_4 t0_5 t0_6 t0_7 t0_8 t0_9 t0_10 t1_0 t2_0 t3_0 t4_0 t5_0 t6_0) ∧ True ∧ S_FR_findShortest_J19 t0_0 t0_1 t0_2 t0_3 t0_4 t0_5 t0_6 t0_7 t0_8 t0_9 t0_10 t1_0 t2_0 t3_0 t4_0 t5_0 t6_0 p47 f35 f37 f39 f41 f43 p69 f63 z) (fun z => [.int z]) 19 0 0 ?_ ?_
  ·
    rintro lx78 H locs ls _ hZ9
    obtain ⟨i87, hZ9⟩ := hZ9
    obtain ⟨i88, hZ9⟩ := hZ9
    replace hZ9 := hZ9.2.2
    obtain ⟨V, hZ9⟩ := hZ9
    obtain ⟨hl, hZ9⟩ := hZ9
    obtain ⟨hR91, hS92⟩ := hZ9
    replace i87 : q_F (2 ≤ lx78.toInt) := i87
    replace i88 : q_F (lx78.toInt ≤ 17) := i88
    replace hl : lv_has ls 9 [(0, .ref (q 145))] := hl
    refine lv_istore_n (lv' := [(1, .int lx78), (0, .ref (q 145))]) hx hb d_17_15_19 rfl hl (by decide) rfl (fun ls hl => ?_)
    refine lv_aload_n hx hb d_17_15_20 rfl (lv_at hl 1 rfl) ?_
    refine lv_aload_n hx hb d_17_15_21 rfl (lv_at hl 1 rfl) ?_
    have ob96 : True ∧ S_FR_top t0_0 t0_1 t0_2 t0_3 t0_4 t0_5 t0_6 t0_7 t0_8 t0_9 t0_10 f39 := (by have h := hS92; rw [S_FR_findShortest_J19.eq_1] at h; with_reducible exact h.2.1)
    refine q_goi V (q_runV (As := []) (rest := [.ref (q 145)]) (d := 1) (mc := 0) (ms := 0) (ci := 15) C0 V rfl LV_FR_77 (X_FR_top l D g q u60   hI t0_0 t0_1 t0_2 t0_3 t0_4 t0_5 t0_6 t0_7 t0_8 t0_9 t0_10 hT0 f39 hA40 ob96 _) rfl rfl hT0 rfl hl.1 rfl (Nat.le_of_ble_eq_true rfl) ⟨by decide, by decide⟩ ⟨Nat.le_of_ble_eq_true rfl, Nat.le_of_ble_eq_true rfl⟩ d_17_15_22) (fun a99 u97 H locs hp98 V => ?_)
    obtain ⟨rfl, b100, b101, hE102⟩ := hp98
    have e103 : a99 = (F_FR_top t0_0 t0_1 t0_2 t0_3 t0_4 t0_5 t0_6 t0_7 t0_8 t0_9 t0_10 f39) := hE102
    replace b100 : q_F (0 ≤ a99.toInt) := b100
    replace b101 : q_F (a99.toInt ≤ 1403) := b101
    refine lv_iload_n hx hb d_17_15_25 rfl (lv_at hl 0 rfl) ?_
    refine lv_isub hx hb d_17_15_26 ?_
    obtain ⟨a104, e105⟩ := q_nm (a99 - lx78 : Int32)
    refine q_ti (v := a104) e105 ?_
    have b106 : q_F (a104.toInt = a99.toInt - lx78.toInt) := (by rw [← e105]; show (a99 - lx78 : Int32).toInt = a99.toInt - lx78.toInt; exact q_subI (x := a99.toInt) (y := lx78.toInt) rfl rfl (by have t1 : lx78.toInt ≤ 17 := i88; have t2 : 0 ≤ a99.toInt := b100; have t3 : 2 ≤ lx78.toInt := i87; have t4 : a99.toInt ≤ 1403 := b101; omega) (by have t1 : lx78.toInt ≤ 17 := i88; have t2 : 0 ≤ a99.toInt := b100; have t3 : 2 ≤ lx78.toInt := i87; have t4 : a99.toInt ≤ 1403 := b101; omega))
    refine lv_iconst (v := 1) hx hb d_17_15_27 (by decide) ?_
    refine lv_iadd hx hb d_17_15_28 ?_
    obtain ⟨a107, e108⟩ := q_nm (a104 + 1 : Int32)
    refine q_ti (v := a107) e108 ?_
    have b109 : q_F (a107.toInt = a104.toInt + 1) := (by rw [← e108]; show (a104 + 1 : Int32).toInt = a104.toInt + 1; exact q_addI (x := a104.toInt) (y := 1) rfl (by decide) (by have _ := q_lo32 (x := a104); have _ := q_hi32 (x := a104); have t1 : 2 ≤ lx78.toInt := i87; have t2 : a99.toInt ≤ 1403 := b101; have t3 : a104.toInt = a99.toInt - lx78.toInt := b106; omega) (by have _ := q_lo32 (x := a104); have _ := q_hi32 (x := a104); have t1 : 2 ≤ lx78.toInt := i87; have t2 : a99.toInt ≤ 1403 := b101; have t3 : a104.toInt = a99.toInt - lx78.toInt := b106; omega))
    refine q_put (ci := 15) (j := 17) (v := .int a107) (ty := .int) C0 V i_FR o_FR n_FR rfl rfl hT0 (by decide) w_2093 rfl rfl rfl rfl (Nat.le_of_ble_eq_true rfl) d_17_15_29 (fun H locs w110 hu111 hT0 V => ?_)
    replace hT0 : w110[145]? = (some (q 145, .inr (15, [.int t0_0, .ref (q 146), .ref (q 147), .ref (q 148), .ref (q 149), .ref (q 150), .ref (q 151), .ref (q 152), .int t0_1, .int t0_2, .int t0_3, .long t0_4, .int t0_5, .int t0_6, .long t0_7, .int t0_8, .long t0_9, .int a107])) : Option (Nat × va_E)) := hT0
    replace hI := n_p145 hI hu111 hT0 (by first | with_reducible exact q_fe btt0_2 | exact ⟨(by have t1 : 0 ≤ t0_2.toInt ∧ t0_2.toInt ≤ 1 := btt0_2; omega), (by have t1 : 0 ≤ t0_2.toInt ∧ t0_2.toInt ≤ 1 := btt0_2; omega)⟩)
    replace hA36 := (hu111 _ (by decide)).trans hA36
    replace hA38 := (hu111 _ (by decide)).trans hA38
    replace hA40 := (hu111 _ (by decide)).trans hA40
    replace hA42 := (hu111 _ (by decide)).trans hA42
    replace hA44 := (hu111 _ (by decide)).trans hA44
    replace hA64 := (hu111 _ (by decide)).trans hA64
    replace hF := q_us hF hu111 (by simp)
    refine lv_aload_n hx hb d_17_15_32 rfl (lv_at hl 1 rfl) ?_
    refine lv_aload_n hx hb d_17_15_33 rfl (lv_at hl 1 rfl) ?_
    refine q_get (ci := 15) (j := 17) (v := .int a107) C0 V i_FR rfl rfl hT0 (by decide) w_2093 rfl d_17_15_34 ?_
    refine lv_iconst (v := 1) hx hb d_17_15_37 (by decide) ?_
    have ob112 : True ∧ S_FR_cut a107 (1 : Int32) t0_0 t0_1 t0_2 t0_3 t0_4 t0_5 t0_6 t0_7 t0_8 t0_9 a107 f39 f63 := (by rw [← e108, ← e105, e103]; have h := hS92; rw [S_FR_findShortest_J19.eq_1] at h; replace h := q_s2 h; with_reducible exact h.2.1)
    refine q_gov V (q_runV (As := [.int a107, .int 1]) (rest := []) (d := 1) (mc := 0) (ms := 0) (ci := 15) C0 V rfl LV_FR_81 (X_FR_cut l D g q w110  a107 1 hI t0_0 t0_1 t0_2 t0_3 t0_4 t0_5 t0_6 t0_7 t0_8 t0_9 a107 hT0 f39 hA40 f63 hA64 ⟨(by have y0 : (1 : Int32).toInt = 1 := rfl; omega), (by have y0 : (1 : Int32).toInt = 1 := rfl; omega)⟩ ob112 _) rfl rfl hT0 rfl hl.1 rfl (Nat.le_of_ble_eq_true rfl) ⟨by decide, by decide⟩ ⟨Nat.le_of_ble_eq_true rfl, Nat.le_of_ble_eq_true rfl⟩ d_17_15_38) (fun u113 H locs hp114 V => ?_)
    obtain ⟨hI, hu118, f115, hA116, hE117⟩ := hp114
    replace hA116 : u113[151]? = (some (q 151, .inl (g 0, (1404 : Int32).toNatClampNeg, .inl f115)) : Option (Nat × va_E)) := hA116
    have e119 : f115 = (F_FR_cut a107 (1 : Int32) t0_0 t0_1 t0_2 t0_3 t0_4 t0_5 t0_6 t0_7 t0_8 t0_9 a107 f39 f63) := hE117
    replace hT0 := (hu118 _ (by decide)).trans hT0
    replace hA36 := (hu118 _ (by decide)).trans hA36
    replace hA38 := (hu118 _ (by decide)).trans hA38
    replace hA40 := (hu118 _ (by decide)).trans hA40
    replace hA42 := (hu118 _ (by decide)).trans hA42
    replace hA44 := (hu118 _ (by decide)).trans hA44
    replace hF := q_uc hF hu118 (by simp)
    refine lv_aload_n hx hb d_17_15_41 rfl (lv_at hl 1 rfl) ?_
    have ob120 : True ∧ S_FR_readsBack t0_0 t0_1 t0_2 t0_3 t0_4 t0_5 t0_6 t0_7 t0_8 t0_9 a107 f41 f43 f115 := (by rw [e119, ← e108, ← e105, e103]; have h := hS92; rw [S_FR_findShortest_J19.eq_1] at h; replace h := q_s2 h; replace h := q_s2 h; with_reducible exact h.2.1)
    refine q_goi V (q_runV (As := []) (rest := []) (d := 2) (mc := 0) (ms := 0) (ci := 15) C0 V rfl LV_FR_85 (X_FR_readsBack l D g q u113   hI t0_0 t0_1 t0_2 t0_3 t0_4 t0_5 t0_6 t0_7 t0_8 t0_9 a107 hT0 f41 hA42 f43 hA44 f115 hA116 ob120 _) rfl rfl hT0 rfl hl.1 rfl (Nat.le_of_ble_eq_true rfl) ⟨by decide, by decide⟩ ⟨Nat.le_of_ble_eq_true rfl, Nat.le_of_ble_eq_true rfl⟩ d_17_15_42) (fun a123 u121 H locs hp122 V => ?_)
    obtain ⟨rfl, b124, b125, hE126⟩ := hp122
    have e127 : a123 = (F_FR_readsBack t0_0 t0_1 t0_2 t0_3 t0_4 t0_5 t0_6 t0_7 t0_8 t0_9 a107 f41 f43 f115) := hE126
    replace b124 : q_F (0 ≤ a123.toInt) := b124
    replace b125 : q_F (a123.toInt ≤ 1) := b125
    refine lv_istore_n (lv' := [(2, .int a123), (1, .int lx78), (0, .ref (q 145))]) hx hb d_17_15_45 rfl hl (by decide) rfl (fun ls hl => ?_)
    refine lv_aload_n hx hb d_17_15_46 rfl (lv_at hl 2 rfl) ?_
    refine lv_aload_n hx hb d_17_15_47 rfl (lv_at hl 2 rfl) ?_
    refine q_get (ci := 15) (j := 17) (v := .int a107) C0 V i_FR rfl rfl hT0 (by decide) w_2093 rfl d_17_15_48 ?_
    refine lv_iconst (v := 0) hx hb d_17_15_51 (by decide) ?_
    have ob128 : True ∧ S_FR_cut a107 (0 : Int32) t0_0 t0_1 t0_2 t0_3 t0_4 t0_5 t0_6 t0_7 t0_8 t0_9 a107 f39 f115 := (by rw [e119, ← e108, ← e105, e103]; have h := hS92; rw [S_FR_findShortest_J19.eq_1] at h; replace h := q_s2 h; replace h := q_s2 h; replace h := q_s2 h; with_reducible exact h.2.1)
    refine q_gov V (q_runV (As := [.int a107, .int 0]) (rest := []) (d := 1) (mc := 0) (ms := 0) (ci := 15) C0 V rfl LV_FR_81 (X_FR_cut l D g q u113  a107 0 hI t0_0 t0_1 t0_2 t0_3 t0_4 t0_5 t0_6 t0_7 t0_8 t0_9 a107 hT0 f39 hA40 f115 hA116 ⟨(by have y0 : (0 : Int32).toInt = 0 := rfl; omega), (by have y0 : (0 : Int32).toInt = 0 := rfl; omega)⟩ ob128 _) rfl rfl hT0 rfl hl.1 rfl (Nat.le_of_ble_eq_true rfl) ⟨by decide, by decide⟩ ⟨Nat.le_of_ble_eq_true rfl, Nat.le_of_ble_eq_true rfl⟩ d_17_15_52) (fun u129 H locs hp130 V => ?_)
    obtain ⟨hI, hu134, f131, hA132, hE133⟩ := hp130
    replace hA132 : u129[151]? = (some (q 151, .inl (g 0, (1404 : Int32).toNatClampNeg, .inl f131)) : Option (Nat × va_E)) := hA132
    have e135 : f131 = (F_FR_cut a107 (0 : Int32) t0_0 t0_1 t0_2 t0_3 t0_4 t0_5 t0_6 t0_7 t0_8 t0_9 a107 f39 f115) := hE133
    replace hT0 := (hu134 _ (by decide)).trans hT0
    replace hA36 := (hu134 _ (by decide)).trans hA36
    replace hA38 := (hu134 _ (by decide)).trans hA38
    replace hA40 := (hu134 _ (by decide)).trans hA40
    replace hA42 := (hu134 _ (by decide)).trans hA42
    replace hA44 := (hu134 _ (by decide)).trans hA44
    replace hF := q_uc hF hu134 (by simp)
    refine lv_aload_n hx hb d_17_15_55 rfl (lv_at hl 2 rfl) ?_
    have ob136 : True ∧ S_FR_readsBack t0_0 t0_1 t0_2 t0_3 t0_4 t0_5 t0_6 t0_7 t0_8 t0_9 a107 f41 f43 f131 := (by rw [e135, e119, ← e108, ← e105, e103]; have h := hS92; rw [S_FR_findShortest_J19.eq_1] at h; replace h := q_s2 h; replace h := q_s2 h; replace h := q_s2 h; replace h := q_s2 h; with_reducible exact h.2.1)
    refine q_goi V (q_runV (As := []) (rest := []) (d := 2) (mc := 0) (ms := 0) (ci := 15) C0 V rfl LV_FR_85 (X_FR_readsBack l D g q u129   hI t0_0 t0_1 t0_2 t0_3 t0_4 t0_5 t0_6 t0_7 t0_8 t0_9 a107 hT0 f41 hA42 f43 hA44 f131 hA132 ob136 _) rfl rfl hT0 rfl hl.1 rfl (Nat.le_of_ble_eq_true rfl) ⟨by decide, by decide⟩ ⟨Nat.le_of_ble_eq_true rfl, Nat.le_of_ble_eq_true rfl⟩ d_17_15_56) (fun a139 u137 H locs hp138 V => ?_)
    obtain ⟨rfl, b140, b141, hE142⟩ := hp138
    have e143 : a139 = (F_FR_readsBack t0_0 t0_1 t0_2 t0_3 t0_4 t0_5 t0_6 t0_7 t0_8 t0_9 a107 f41 f43 f131) := hE142
    clear b140
    clear b141
    refine lv_istore_n (lv' := [(3, .int a139), (2, .int a123), (1, .int lx78), (0, .ref (q 145))]) hx hb d_17_15_59 rfl hl (by decide) rfl (fun ls hl => ?_)
    refine lv_aload_n hx hb d_17_15_60 rfl (lv_at hl 3 rfl) ?_
    refine lv_aload_n hx hb d_17_15_61 rfl (lv_at hl 3 rfl) ?_
    refine q_get (ci := 15) (j := 17) (v := .int a107) C0 V i_FR rfl rfl hT0 (by decide) w_2093 rfl d_17_15_62 ?_
    have ob144 : True ∧ S_FR_half a107 t0_0 t0_1 t0_2 t0_3 t0_4 t0_5 t0_6 t0_7 t0_8 t0_9 a107 f39 := (by rw [← e108, ← e105, e103]; have h := hS92; rw [S_FR_findShortest_J19.eq_1] at h; replace h := q_s2 h; replace h := q_s2 h; replace h := q_s2 h; replace h := q_s2 h; replace h := q_s2 h; with_reducible exact h.2.1)
    refine q_goi V (q_runV (As := [.int a107]) (rest := []) (d := 1) (mc := 0) (ms := 0) (ci := 15) C0 V rfl LV_FR_98 (X_FR_half l D g q u129  a107 hI t0_0 t0_1 t0_2 t0_3 t0_4 t0_5 t0_6 t0_7 t0_8 t0_9 a107 hT0 f39 hA40 ob144 _) rfl rfl hT0 rfl hl.1 rfl (Nat.le_of_ble_eq_true rfl) ⟨by decide, by decide⟩ ⟨Nat.le_of_ble_eq_true rfl, Nat.le_of_ble_eq_true rfl⟩ d_17_15_65) (fun a147 u145 H locs hp146 V => ?_)
    obtain ⟨rfl, b148, b149, hE150⟩ := hp146
    have e151 : a147 = (F_FR_half a107 t0_0 t0_1 t0_2 t0_3 t0_4 t0_5 t0_6 t0_7 t0_8 t0_9 a107 f39) := hE150
    clear b148
    clear b149
    refine lv_istore (lv' := [(4, .int a147), (3, .int a139), (2, .int a123), (1, .int lx78), (0, .ref (q 145))]) hx hb d_17_15_68 hl (by decide) rfl (fun ls hl => ?_)
    refine lv_iload_n hx hb d_17_15_70 rfl (lv_at hl 2 rfl) ?_
    refine q_join (X := Int32) (fun z H locs ls _ => q_F (0 ≤ z.toInt) ∧ q_F (z.toInt ≤ a123.toInt) ∧ q_Wd D g (va_A ws sz) s u129 H locs ∧ lv_has ls 9 [(0, .ref (q 145))] ∧ F_FR_findShortest_J108 t0_0 t0_1 t0_2 t0_3 t0_4 t0_5 t0_6 t0_7 t0_8 t0_9 t0_10 t1_0 t2_0 t3_0 t4_0 t5_0 t6_0 p47 f35 f37 f39 f41 f43 p69 f63 lx78 a107 f131 z = (F_FR_findShortest t0_0 t0_1 t0_2 t0_3 t0_4 t0_5 t0_6 t0_7 t0_8 t0_9 t0_10 t1_0 t2_0 t3_0 t4_0 t5_0 t6_0) ∧ True ∧ S_FR_findShortest_J108 t0_0 t0_1 t0_2 t0_3 t0_4 t0_5 t0_6 t0_7 t0_8 t0_9 t0_10 t1_0 t2_0 t3_0 t4_0 t5_0 t6_0 p47 f35 f37 f39 f41 f43 p69 f63 lx78 a107 f131 z) (fun z => [.int z]) 108 0 0 ?_ ?_
    ·
      rintro lx152 H locs ls _ hZ9
      obtain ⟨i161, hZ9⟩ := hZ9
      obtain ⟨i162, hZ9⟩ := hZ9
      obtain ⟨V, hZ9⟩ := hZ9
      obtain ⟨hl, hZ9⟩ := hZ9
      obtain ⟨hR163, hS164⟩ := hZ9
      replace i161 : q_F (0 ≤ lx152.toInt) := i161
      replace i162 : q_F (lx152.toInt ≤ a123.toInt) := i162
      replace hl : lv_has ls 9 [(0, .ref (q 145))] := hl
      refine lv_istore (lv' := [(5, .int lx152), (0, .ref (q 145))]) hx hb d_17_15_108 hl (by decide) rfl (fun ls hl => ?_)
      refine lv_aload_n hx hb d_17_15_110 rfl (lv_at hl 1 rfl) ?_
      refine lv_iload hx hb d_17_15_111 (lv_at hl 0 rfl) ?_
      refine q_join (X := Int64) (fun z H locs ls _ => q_F (lx152.toInt ≤ z.toInt) ∧ q_F (z.toInt ≤ lx152.toInt) ∧ q_Wd D g (va_A ws sz) s u129 H locs ∧ lv_has ls 9 [(0, .ref (q 145))] ∧ F_FR_findShortest_J121 t0_0 t0_1 t0_2 t0_3 t0_4 t0_5 t0_6 t0_7 t0_8 t0_9 t0_10 t1_0 t2_0 t3_0 t4_0 t5_0 t6_0 p47 f35 f37 f39 f41 f43 p69 f63 lx78 a107 f131 lx152 z = (F_FR_findShortest t0_0 t0_1 t0_2 t0_3 t0_4 t0_5 t0_6 t0_7 t0_8 t0_9 t0_10 t1_0 t2_0 t3_0 t4_0 t5_0 t6_0) ∧ True ∧ S_FR_findShortest_J121 t0_0 t0_1 t0_2 t0_3 t0_4 t0_5 t0_6 t0_7 t0_8 t0_9 t0_10 t1_0 t2_0 t3_0 t4_0 t5_0 t6_0 p47 f35 f37 f39 f41 f43 p69 f63 lx78 a107 f131 lx152 z) (fun z => [.long z, .ref (q 145)]) 121 0 0 ?_ ?_
      ·
        rintro lx168 H locs ls _ hZ9
        replace hZ9 := hZ9.2.2
        obtain ⟨V, hZ9⟩ := hZ9
        obtain ⟨hl, hZ9⟩ := hZ9
        obtain ⟨hR179, hS180⟩ := hZ9
        replace hl : lv_has ls 9 [(0, .ref (q 145))] := hl
        refine q_put (ci := 15) (j := 16) (v := .long lx168) (ty := .long) C0 V i_FR o_FR n_FR rfl rfl hT0 (by decide) w_2092 rfl rfl rfl rfl (Nat.le_of_ble_eq_true rfl) d_17_15_121 (fun H locs w184 hu185 hT0 V => ?_)
        replace hT0 : w184[145]? = (some (q 145, .inr (15, [.int t0_0, .ref (q 146), .ref (q 147), .ref (q 148), .ref (q 149), .ref (q 150), .ref (q 151), .ref (q 152), .int t0_1, .int t0_2, .int t0_3, .long t0_4, .int t0_5, .int t0_6, .long t0_7, .int t0_8, .long lx168, .int a107])) : Option (Nat × va_E)) := hT0
        replace hI := n_p145 hI hu185 hT0 (by first | with_reducible exact q_fe btt0_2 | exact ⟨(by have t1 : 0 ≤ t0_2.toInt ∧ t0_2.toInt ≤ 1 := btt0_2; omega), (by have t1 : 0 ≤ t0_2.toInt ∧ t0_2.toInt ≤ 1 := btt0_2; omega)⟩)
        replace hA36 := (hu185 _ (by decide)).trans hA36
        replace hA38 := (hu185 _ (by decide)).trans hA38
        replace hA40 := (hu185 _ (by decide)).trans hA40
        replace hA42 := (hu185 _ (by decide)).trans hA42
        replace hA44 := (hu185 _ (by decide)).trans hA44
        replace hA132 := (hu185 _ (by decide)).trans hA132
        replace hF := q_us hF hu185 (by simp)
        refine lv_lconst (v := 1) hx hb d_17_15_124 (by decide) ?_
        refine lv_lstore (lv' := [(6, .long 1), (0, .ref (q 145))]) hx hb d_17_15_125 hl (by decide) rfl (fun ls hl => ?_)
        refine lv_aload_n hx hb d_17_15_127 rfl (lv_at hl 1 rfl) ?_
        refine q_get (ci := 15) (j := 17) (v := .int a107) C0 V i_FR rfl rfl hT0 (by decide) w_2093 rfl d_17_15_128 ?_
        refine lv_istore (lv' := [(8, .int a107), (6, .long 1), (0, .ref (q 145))]) hx hb d_17_15_131 hl (by decide) rfl (fun ls hl => ?_)
        refine q_loop (X := Nat × Int32 × Int64 × Int64) (fun z H locs ls w197 => q_F (0 ≤ z.2.1.toInt + 16) ∧ q_F (a107.toInt ≤ z.2.1.toInt) ∧ q_Wd D g (va_A ws sz) s w197 H locs ∧ lv_has ls 9 [(8, .int z.2.1), (6, .long z.2.2.1), (0, .ref (q 145))] ∧ q_I (msh g q) q w197 ∧ q_un ws w197 [145, 146, 147, 148, 149, 150, 151] ∧ w197[145]? = (some (q 145, .inr (15, [.int t0_0, .ref (q 146), .ref (q 147), .ref (q 148), .ref (q 149), .ref (q 150), .ref (q 151), .ref (q 152), .int t0_1, .int t0_2, .int t0_3, .long t0_4, .int t0_5, .int t0_6, .long t0_7, .int t0_8, .long z.2.2.2, .int a107])) : Option (Nat × va_E)) ∧ w197[146]? = (some (q 146, .inl (g 0, (156 : Int32).toNatClampNeg, .inl f35)) : Option (Nat × va_E)) ∧ w197[147]? = (some (q 147, .inl (g 0, (156 : Int32).toNatClampNeg, .inl f37)) : Option (Nat × va_E)) ∧ w197[148]? = (some (q 148, .inl (g 0, (1404 : Int32).toNatClampNeg, .inl f39)) : Option (Nat × va_E)) ∧ w197[149]? = (some (q 149, .inl (g 0, (1404 : Int32).toNatClampNeg, .inl f41)) : Option (Nat × va_E)) ∧ w197[150]? = (some (q 150, .inl (g 0, (1404 : Int32).toNatClampNeg, .inl f43)) : Option (Nat × va_E)) ∧ w197[151]? = (some (q 151, .inl (g 0, (1404 : Int32).toNatClampNeg, .inl f131)) : Option (Nat × va_E)) ∧ F_FR_findShortest_L133 t0_0 t0_1 t0_2 t0_3 t0_4 t0_5 t0_6 t0_7 t0_8 t0_9 t0_10 t1_0 t2_0 t3_0 t4_0 t5_0 t6_0 p47 f35 f37 f39 f41 f43 p69 f63 lx78 a107 f131 lx152 lx168 z.1 z.2.1 z.2.2.1 z.2.2.2 = (F_FR_findShortest t0_0 t0_1 t0_2 t0_3 t0_4 t0_5 t0_6 t0_7 t0_8 t0_9 t0_10 t1_0 t2_0 t3_0 t4_0 t5_0 t6_0) ∧ True ∧ S_FR_findShortest_L133 t0_0 t0_1 t0_2 t0_3 t0_4 t0_5 t0_6 t0_7 t0_8 t0_9 t0_10 t1_0 t2_0 t3_0 t4_0 t5_0 t6_0 p47 f35 f37 f39 f41 f43 p69 f63 lx78 a107 f131 lx152 lx168 z.1 z.2.1 z.2.2.1 z.2.2.2) (fun z => z.1) ?_ ((1000000 : Nat), (a107 : Int32), (1 : Int64), (lx168 : Int64)) _ _ _ w184 ⟨(show q_F (0 ≤ a107.toInt + 16) from (show 0 ≤ a107.toInt + 16 from by have t1 : lx78.toInt ≤ 17 := i88; have t2 : 0 ≤ a99.toInt := b100; have t3 : a104.toInt = a99.toInt - lx78.toInt := b106; have t4 : a107.toInt = a104.toInt + 1 := b109; omega)), (show q_F (a107.toInt ≤ a107.toInt) from (show a107.toInt ≤ a107.toInt from by omega)), V, q_lw hl (q_lw1 0 rfl (q_lw1 1 rfl (q_lw1 2 rfl q_lw0))), hI, hF, hT0, hA36, hA38, hA40, hA42, hA44, hA132, (show F_FR_findShortest_L133 t0_0 t0_1 t0_2 t0_3 t0_4 t0_5 t0_6 t0_7 t0_8 t0_9 t0_10 t1_0 t2_0 t3_0 t4_0 t5_0 t6_0 p47 f35 f37 f39 f41 f43 p69 f63 lx78 a107 f131 lx152 lx168 1000000 a107 1 lx168 = (F_FR_findShortest t0_0 t0_1 t0_2 t0_3 t0_4 t0_5 t0_6 t0_7 t0_8 t0_9 t0_10 t1_0 t2_0 t3_0 t4_0 t5_0 t6_0) from Eq.trans (by rw [F_FR_findShortest_J121.eq_1]) hR179), (show True ∧ S_FR_findShortest_L133 t0_0 t0_1 t0_2 t0_3 t0_4 t0_5 t0_6 t0_7 t0_8 t0_9 t0_10 t1_0 t2_0 t3_0 t4_0 t5_0 t6_0 p47 f35 f37 f39 f41 f43 p69 f63 lx78 a107 f131 lx152 lx168 1000000 a107 1 lx168 from (by have h := hS180; rw [S_FR_findShortest_J121.eq_1] at h; with_reducible exact h))⟩
        rintro ⟨fu207, lx191, lx192, lx193⟩ H locs ls w197 ⟨i194, i195, V, hl, hI, hF, hO198, hO199, hO200, hO201, hO202, hO203, hO204, hR205, hS206⟩ ih196
        obtain ⟨fm209, rfl⟩ : ∃ m, fu207 = m + 1 := Nat.exists_eq_succ_of_ne_zero (fun e => by subst e; rw [S_FR_findShortest_L133.eq_1] at hS206; exact hS206.2)
        replace i194 : q_F (0 ≤ lx191.toInt + 16) := i194
        replace i195 : q_F (a107.toInt ≤ lx191.toInt) := i195
        replace hl : lv_has ls 9 [(8, .int lx191), (6, .long lx192), (0, .ref (q 145))] := hl
        replace hO198 : w197[145]? = (some (q 145, .inr (15, [.int t0_0, .ref (q 146), .ref (q 147), .ref (q 148), .ref (q 149), .ref (q 150), .ref (q 151), .ref (q 152), .int t0_1, .int t0_2, .int t0_3, .long t0_4, .int t0_5, .int t0_6, .long t0_7, .int t0_8, .long lx193, .int a107])) : Option (Nat × va_E)) := hO198
        replace hO199 : w197[146]? = (some (q 146, .inl (g 0, (156 : Int32).toNatClampNeg, .inl f35)) : Option (Nat × va_E)) := hO199
        replace hO200 : w197[147]? = (some (q 147, .inl (g 0, (156 : Int32).toNatClampNeg, .inl f37)) : Option (Nat × va_E)) := hO200
        replace hO201 : w197[148]? = (some (q 148, .inl (g 0, (1404 : Int32).toNatClampNeg, .inl f39)) : Option (Nat × va_E)) := hO201
        replace hO202 : w197[149]? = (some (q 149, .inl (g 0, (1404 : Int32).toNatClampNeg, .inl f41)) : Option (Nat × va_E)) := hO202
        replace hO203 : w197[150]? = (some (q 150, .inl (g 0, (1404 : Int32).toNatClampNeg, .inl f43)) : Option (Nat × va_E)) := hO203
        replace hO204 : w197[151]? = (some (q 151, .inl (g 0, (1404 : Int32).toNatClampNeg, .inl f131)) : Option (Nat × va_E)) := hO204
        refine lv_iload hx hb d_17_15_133 (lv_at hl 0 rfl) ?_
        refine lv_aload_n hx hb d_17_15_135 rfl (lv_at hl 2 rfl) ?_
        have ob210 : True ∧ S_FR_top t0_0 t0_1 t0_2 t0_3 t0_4 t0_5 t0_6 t0_7 t0_8 lx193 a107 f39 := (by have h := hS206; rw [S_FR_findShortest_L133.eq_2] at h; with_reducible exact h.2.1)
        refine q_goi V (q_runV (As := []) (rest := [.int lx191]) (d := 1) (mc := 0) (ms := 0) (ci := 15) C0 V rfl LV_FR_77 (X_FR_top l D g q w197   hI t0_0 t0_1 t0_2 t0_3 t0_4 t0_5 t0_6 t0_7 t0_8 lx193 a107 hO198 f39 hO201 ob210 _) rfl rfl hO198 rfl hl.1 rfl (Nat.le_of_ble_eq_true rfl) ⟨by decide, by decide⟩ ⟨Nat.le_of_ble_eq_true rfl, Nat.le_of_ble_eq_true rfl⟩ d_17_15_136) (fun a213 u211 H locs hp212 V => ?_)
        obtain ⟨rfl, b214, b215, hE216⟩ := hp212
        have e217 : a213 = (F_FR_top t0_0 t0_1 t0_2 t0_3 t0_4 t0_5 t0_6 t0_7 t0_8 lx193 a107 f39) := hE216
        clear b214
        replace b215 : q_F (a213.toInt ≤ 1403) := b215
        refine lv_icmp_gt (tgt := 176) hx hb d_17_15_139 (by decide) (fun c218 => ?_) (fun c218 => ?_)
        ·
          refine q_loop (X := Nat × Int64 × Int32) (fun z H locs ls w223 => q_Wd D g (va_A ws sz) s w223 H locs ∧ lv_has ls 9 [(0, .ref (q 145))] ∧ q_I (msh g q) q w223 ∧ q_un ws w223 [145, 146, 147, 148, 149, 150, 151] ∧ w223[145]? = (some (q 145, .inr (15, [.int t0_0, .ref (q 146), .ref (q 147), .ref (q 148), .ref (q 149), .ref (q 150), .ref (q 151), .ref (q 152), .int t0_1, .int t0_2, .int t0_3, .long t0_4, .int t0_5, .int t0_6, .long t0_7, .int t0_8, .long z.2.1, .int z.2.2])) : Option (Nat × va_E)) ∧ w223[146]? = (some (q 146, .inl (g 0, (156 : Int32).toNatClampNeg, .inl f35)) : Option (Nat × va_E)) ∧ w223[147]? = (some (q 147, .inl (g 0, (156 : Int32).toNatClampNeg, .inl f37)) : Option (Nat × va_E)) ∧ w223[148]? = (some (q 148, .inl (g 0, (1404 : Int32).toNatClampNeg, .inl f39)) : Option (Nat × va_E)) ∧ w223[149]? = (some (q 149, .inl (g 0, (1404 : Int32).toNatClampNeg, .inl f41)) : Option (Nat × va_E)) ∧ w223[150]? = (some (q 150, .inl (g 0, (1404 : Int32).toNatClampNeg, .inl f43)) : Option (Nat × va_E)) ∧ w223[151]? = (some (q 151, .inl (g 0, (1404 : Int32).toNatClampNeg, .inl f131)) : Option (Nat × va_E)) ∧ F_FR_findShortest_L176 (F_FR_findShortest_L133 t0_0 t0_1 t0_2 t0_3 t0_4 t0_5 t0_6 t0_7 t0_8 t0_9 t0_10 t1_0 t2_0 t3_0 t4_0 t5_0 t6_0 p47 f35 f37 f39 f41 f43 p69 f63 lx78 a107 f131 lx152 lx168 fm209) t0_0 t0_1 t0_2 t0_3 t0_4 t0_5 t0_6 t0_7 t0_8 t0_9 t0_10 t1_0 t2_0 t3_0 t4_0 t5_0 t6_0 p47 f35 f37 f39 f41 f43 p69 f63 lx78 a107 f131 lx152 lx168 lx191 lx192 lx193 z.1 z.2.1 z.2.2 = (F_FR_findShortest t0_0 t0_1 t0_2 t0_3 t0_4 t0_5 t0_6 t0_7 t0_8 t0_9 t0_10 t1_0 t2_0 t3_0 t4_0 t5_0 t6_0) ∧ True ∧ S_FR_findShortest_L176 (S_FR_findShortest_L133 t0_0 t0_1 t0_2 t0_3 t0_4 t0_5 t0_6 t0_7 t0_8 t0_9 t0_10 t1_0 t2_0 t3_0 t4_0 t5_0 t6_0 p47 f35 f37 f39 f41 f43 p69 f63 lx78 a107 f131 lx152 lx168 fm209) t0_0 t0_1 t0_2 t0_3 t0_4 t0_5 t0_6 t0_7 t0_8 t0_9 t0_10 t1_0 t2_0 t3_0 t4_0 t5_0 t6_0 p47 f35 f37 f39 f41 f43 p69 f63 lx78 a107 f131 lx152 lx168 lx191 lx192 lx193 z.1 z.2.1 z.2.2) (fun z => z.1) ?_ ((1000000 : Nat), (lx193 : Int64), (a107 : Int32)) _ _ _ w197 ⟨V, q_lw hl (q_lw1 2 rfl q_lw0), hI, hF, hO198, hO199, hO200, hO201, hO202, hO203, hO204, (show F_FR_findShortest_L176 (F_FR_findShortest_L133 t0_0 t0_1 t0_2 t0_3 t0_4 t0_5 t0_6 t0_7 t0_8 t0_9 t0_10 t1_0 t2_0 t3_0 t4_0 t5_0 t6_0 p47 f35 f37 f39 f41 f43 p69 f63 lx78 a107 f131 lx152 lx168 fm209) t0_0 t0_1 t0_2 t0_3 t0_4 t0_5 t0_6 t0_7 t0_8 t0_9 t0_10 t1_0 t2_0 t3_0 t4_0 t5_0 t6_0 p47 f35 f37 f39 f41 f43 p69 f63 lx78 a107 f131 lx152 lx168 lx191 lx192 lx193 1000000 lx193 a107 = (F_FR_findShortest t0_0 t0_1 t0_2 t0_3 t0_4 t0_5 t0_6 t0_7 t0_8 t0_9 t0_10 t1_0 t2_0 t3_0 t4_0 t5_0 t6_0) from Eq.trans (by have c218x := c218; rw [e217] at c218x; rw [F_FR_findShortest_L133.eq_2, if_pos c218x]) hR205), (show True ∧ S_FR_findShortest_L176 (S_FR_findShortest_L133 t0_0 t0_1 t0_2 t0_3 t0_4 t0_5 t0_6 t0_7 t0_8 t0_9 t0_10 t1_0 t2_0 t3_0 t4_0 t5_0 t6_0 p47 f35 f37 f39 f41 f43 p69 f63 lx78 a107 f131 lx152 lx168 fm209) t0_0 t0_1 t0_2 t0_3 t0_4 t0_5 t0_6 t0_7 t0_8 t0_9 t0_10 t1_0 t2_0 t3_0 t4_0 t5_0 t6_0 p47 f35 f37 f39 f41 f43 p69 f63 lx78 a107 f131 lx152 lx168 lx191 lx192 lx193 1000000 lx193 a107 from (by have h := hS206; rw [S_FR_findShortest_L133.eq_2] at h; replace h := q_s2 h; have c218x := c218; rw [e217] at c218x; rw [if_pos c218x] at h; with_reducible exact h))⟩
          rintro ⟨fu233, lx220, lx221⟩ H locs ls w223 ⟨V, hl, hI, hF, hO224, hO225, hO226, hO227, hO228, hO229, hO230, hR231, hS232⟩ ih222
          obtain ⟨fm235, rfl⟩ : ∃ m, fu233 = m + 1 := Nat.exists_eq_succ_of_ne_zero (fun e => by subst e; rw [S_FR_findShortest_L176.eq_1] at hS232; exact hS232.2)
          replace hl : lv_has ls 9 [(0, .ref (q 145))] := hl
          replace hO224 : w223[145]? = (some (q 145, .inr (15, [.int t0_0, .ref (q 146), .ref (q 147), .ref (q 148), .ref (q 149), .ref (q 150), .ref (q 151), .ref (q 152), .int t0_1, .int t0_2, .int t0_3, .long t0_4, .int t0_5, .int t0_6, .long t0_7, .int t0_8, .long lx220, .int lx221])) : Option (Nat × va_E)) := hO224
          replace hO225 : w223[146]? = (some (q 146, .inl (g 0, (156 : Int32).toNatClampNeg, .inl f35)) : Option (Nat × va_E)) := hO225
          replace hO226 : w223[147]? = (some (q 147, .inl (g 0, (156 : Int32).toNatClampNeg, .inl f37)) : Option (Nat × va_E)) := hO226
          replace hO227 : w223[148]? = (some (q 148, .inl (g 0, (1404 : Int32).toNatClampNeg, .inl f39)) : Option (Nat × va_E)) := hO227
          replace hO228 : w223[149]? = (some (q 149, .inl (g 0, (1404 : Int32).toNatClampNeg, .inl f41)) : Option (Nat × va_E)) := hO228
          replace hO229 : w223[150]? = (some (q 150, .inl (g 0, (1404 : Int32).toNatClampNeg, .inl f43)) : Option (Nat × va_E)) := hO229
          replace hO230 : w223[151]? = (some (q 151, .inl (g 0, (1404 : Int32).toNatClampNeg, .inl f131)) : Option (Nat × va_E)) := hO230
          refine lv_aload_n hx hb d_17_15_176 rfl (lv_at hl 0 rfl) ?_
          refine q_get (ci := 15) (j := 16) (v := .long lx220) C0 V i_FR rfl rfl hO224 (by decide) w_2092 rfl d_17_15_177 ?_
          refine q_ldc2 C0 rfl w_2639 d_17_15_180 ?_
          refine lv_lrem hx hb d_17_15_183 (by decide) ?_
          obtain ⟨j236, e237⟩ := q_nm (lx220 - lx220 / 10 * 10 : Int64)
          refine q_tl (v := j236) e237 ?_
          refine lv_lconst (v := 0) hx hb d_17_15_184 (by decide) ?_
          refine W.lcmp hx hb d_17_15_185 ?_
          obtain ⟨a238, e239⟩ := q_nm (lg_cmp j236 0 : Int32)
          refine q_ti (v := a238) e239 ?_
          refine lv_if_ne (tgt := 214) hx hb d_17_15_186 (by decide) (fun c241 => ?_) (fun c241 => ?_)
          ·
            exact q_retv C0 V (⟨hI, hF, t0_0, t0_1, t0_2, t0_3, t0_4, t0_5, t0_6, t0_7, t0_8, lx220, lx221, f35, f37, f39, f41, f43, f131, hO224, hO225, hO226, hO227, hO228, hO229, hO230, (show t0_0.toInt ≤ t0_0.toInt from (by omega)), (show t0_0.toInt ≤ t0_0.toInt from (by omega)), (show t0_1.toInt ≤ t0_1.toInt from (by omega)), (show t0_1.toInt ≤ t0_1.toInt from (by omega)), (show t0_2.toInt ≤ t0_2.toInt from (by omega)), (show t0_2.toInt ≤ t0_2.toInt from (by omega)), (show t0_3.toInt ≤ t0_3.toInt from (by omega)), (show t0_3.toInt ≤ t0_3.toInt from (by omega)), (show t0_4.toInt ≤ t0_4.toInt from (by omega)), (show t0_4.toInt ≤ t0_4.toInt from (by omega)), (show t0_5.toInt ≤ t0_5.toInt from (by omega)), (show t0_5.toInt ≤ t0_5.toInt from (by omega)), (show t0_6.toInt ≤ t0_6.toInt from (by omega)), (show t0_6.toInt ≤ t0_6.toInt from (by omega)), (show t0_7.toInt ≤ t0_7.toInt from (by omega)), (show t0_7.toInt ≤ t0_7.toInt from (by omega)), (show t0_8.toInt ≤ t0_8.toInt from (by omega)), (show t0_8.toInt ≤ t0_8.toInt from (by omega)), (show (t0_0, t0_1, t0_2, t0_3, t0_4, t0_5, t0_6, t0_7, t0_8, lx220, lx221, f35, f37, f39, f41, f43, f131) = (F_FR_findShortest t0_0 t0_1 t0_2 t0_3 t0_4 t0_5 t0_6 t0_7 t0_8 t0_9 t0_10 t1_0 t2_0 t3_0 t4_0 t5_0 t6_0) from Eq.trans (by have c241x := c241; rw [← e239, ← e237] at c241x; rw [F_FR_findShortest_L176.eq_2, if_neg c241x]) hR231)⟩) d_17_15_214
          ·
            refine lv_aload_n hx hb d_17_15_189 rfl (lv_at hl 0 rfl) ?_
            refine lv_aload_n hx hb d_17_15_190 rfl (lv_at hl 0 rfl) ?_
            refine q_get (ci := 15) (j := 16) (v := .long lx220) C0 V i_FR rfl rfl hO224 (by decide) w_2092 rfl d_17_15_191 ?_
            refine q_ldc2 C0 rfl w_2639 d_17_15_194 ?_
            refine lv_ldiv hx hb d_17_15_197 (by decide) ?_
            obtain ⟨j244, e245⟩ := q_nm (lx220 / 10 : Int64)
            refine q_tl (v := j244) e245 ?_
            refine q_put (ci := 15) (j := 16) (v := .long j244) (ty := .long) C0 V i_FR o_FR n_FR rfl rfl hO224 (by decide) w_2092 rfl rfl rfl rfl (Nat.le_of_ble_eq_true rfl) d_17_15_198 (fun H locs w246 hu247 hO224 V => ?_)
            replace hO224 : w246[145]? = (some (q 145, .inr (15, [.int t0_0, .ref (q 146), .ref (q 147), .ref (q 148), .ref (q 149), .ref (q 150), .ref (q 151), .ref (q 152), .int t0_1, .int t0_2, .int t0_3, .long t0_4, .int t0_5, .int t0_6, .long t0_7, .int t0_8, .long j244, .int lx221])) : Option (Nat × va_E)) := hO224
            replace hI := n_p145 hI hu247 hO224 (by first | with_reducible exact q_fe btt0_2 | exact ⟨(by have t1 : 0 ≤ t0_2.toInt ∧ t0_2.toInt ≤ 1 := btt0_2; omega), (by have t1 : 0 ≤ t0_2.toInt ∧ t0_2.toInt ≤ 1 := btt0_2; omega)⟩)
            replace hO225 := (hu247 _ (by decide)).trans hO225
            replace hO226 := (hu247 _ (by decide)).trans hO226
            replace hO227 := (hu247 _ (by decide)).trans hO227
            replace hO228 := (hu247 _ (by decide)).trans hO228
            replace hO229 := (hu247 _ (by decide)).trans hO229
            replace hO230 := (hu247 _ (by decide)).trans hO230
            replace hF := q_us hF hu247 (by simp)
            refine lv_aload_n hx hb d_17_15_201 rfl (lv_at hl 0 rfl) ?_
            refine lv_dup hx hb d_17_15_202 rfl ?_
            refine q_get (ci := 15) (j := 17) (v := .int lx221) C0 V i_FR rfl rfl hO224 (by decide) w_2093 rfl d_17_15_203 ?_
            refine lv_iconst (v := 1) hx hb d_17_15_206 (by decide) ?_
            refine lv_iadd hx hb d_17_15_207 ?_
            obtain ⟨a248, e249⟩ := q_nm (lx221 + 1 : Int32)
            refine q_ti (v := a248) e249 ?_
            refine q_put (ci := 15) (j := 17) (v := .int a248) (ty := .int) C0 V i_FR o_FR n_FR rfl rfl hO224 (by decide) w_2093 rfl rfl rfl rfl (Nat.le_of_ble_eq_true rfl) d_17_15_208 (fun H locs w250 hu251 hO224 V => ?_)
            replace hO224 : w250[145]? = (some (q 145, .inr (15, [.int t0_0, .ref (q 146), .ref (q 147), .ref (q 148), .ref (q 149), .ref (q 150), .ref (q 151), .ref (q 152), .int t0_1, .int t0_2, .int t0_3, .long t0_4, .int t0_5, .int t0_6, .long t0_7, .int t0_8, .long j244, .int a248])) : Option (Nat × va_E)) := hO224
            replace hI := n_p145 hI hu251 hO224 (by first | with_reducible exact q_fe btt0_2 | exact ⟨(by have t1 : 0 ≤ t0_2.toInt ∧ t0_2.toInt ≤ 1 := btt0_2; omega), (by have t1 : 0 ≤ t0_2.toInt ∧ t0_2.toInt ≤ 1 := btt0_2; omega)⟩)
            replace hO225 := (hu251 _ (by decide)).trans hO225
            replace hO226 := (hu251 _ (by decide)).trans hO226
            replace hO227 := (hu251 _ (by decide)).trans hO227
            replace hO228 := (hu251 _ (by decide)).trans hO228
            replace hO229 := (hu251 _ (by decide)).trans hO229
            replace hO230 := (hu251 _ (by decide)).trans hO230
            replace hF := q_us hF hu251 (by simp)
            refine lv_goto (tgt := 176) hx hb d_17_15_211 (by decide) ?_
            exact ih222 ((fm235 : Nat), (j244 : Int64), (a248 : Int32)) _ _ _ _ (Nat.lt_succ_self _) ⟨V, q_lw hl (q_lw1 0 rfl q_lw0), hI, hF, hO224, hO225, hO226, hO227, hO228, hO229, hO230, (show F_FR_findShortest_L176 (F_FR_findShortest_L133 t0_0 t0_1 t0_2 t0_3 t0_4 t0_5 t0_6 t0_7 t0_8 t0_9 t0_10 t1_0 t2_0 t3_0 t4_0 t5_0 t6_0 p47 f35 f37 f39 f41 f43 p69 f63 lx78 a107 f131 lx152 lx168 fm209) t0_0 t0_1 t0_2 t0_3 t0_4 t0_5 t0_6 t0_7 t0_8 t0_9 t0_10 t1_0 t2_0 t3_0 t4_0 t5_0 t6_0 p47 f35 f37 f39 f41 f43 p69 f63 lx78 a107 f131 lx152 lx168 lx191 lx192 lx193 fm235 j244 a248 = (F_FR_findShortest t0_0 t0_1 t0_2 t0_3 t0_4 t0_5 t0_6 t0_7 t0_8 t0_9 t0_10 t1_0 t2_0 t3_0 t4_0 t5_0 t6_0) from Eq.trans (by have c241x := c241; rw [← e239, ← e237] at c241x; rw [← e249, ← e245, F_FR_findShortest_L176.eq_2, if_pos c241x]) hR231), (show True ∧ S_FR_findShortest_L176 (S_FR_findShortest_L133 t0_0 t0_1 t0_2 t0_3 t0_4 t0_5 t0_6 t0_7 t0_8 t0_9 t0_10 t1_0 t2_0 t3_0 t4_0 t5_0 t6_0 p47 f35 f37 f39 f41 f43 p69 f63 lx78 a107 f131 lx152 lx168 fm209) t0_0 t0_1 t0_2 t0_3 t0_4 t0_5 t0_6 t0_7 t0_8 t0_9 t0_10 t1_0 t2_0 t3_0 t4_0 t5_0 t6_0 p47 f35 f37 f39 f41 f43 p69 f63 lx78 a107 f131 lx152 lx168 lx191 lx192 lx193 fm235 j244 a248 from (by rw [← e249, ← e245]; have h := hS232; rw [S_FR_findShortest_L176.eq_2] at h; have c241x := c241; rw [← e239, ← e237] at c241x; rw [if_pos c241x] at h; with_reducible exact h))⟩
        ·
          have b252 : q_F (lx191.toInt ≤ a213.toInt) := (q_nltI c218)
          refine lv_aload_n hx hb d_17_15_142 rfl (lv_at hl 2 rfl) ?_
          refine lv_aload_n hx hb d_17_15_143 rfl (lv_at hl 2 rfl) ?_
          refine q_get (ci := 15) (j := 16) (v := .long lx193) C0 V i_FR rfl rfl hO198 (by decide) w_2092 rfl d_17_15_144 ?_
          refine lv_lload hx hb d_17_15_147 (lv_at hl 1 rfl) ?_
          refine lv_aload_n hx hb d_17_15_149 rfl (lv_at hl 2 rfl) ?_
          refine q_get (ci := 15) (j := 3) (v := .ref (q 148)) C0 V i_FR rfl rfl hO198 (by decide) w_2078 rfl d_17_15_150 ?_
          refine lv_iload hx hb d_17_15_153 (lv_at hl 0 rfl) ?_
          have ob253 : q_F (0 ≤ lx191.toInt) := (by have h := hS206; rw [S_FR_findShortest_L133.eq_2] at h; replace h := q_s2 h; have c218x := c218; rw [e217] at c218x; rw [if_neg c218x] at h; exact h.2.1)
          refine q_iald C0 V hO201 (q_ix (x := lx191.toInt) rfl (by first | with_reducible exact q_fe ob253 | (have t1 : 0 ≤ lx191.toInt := ob253; omega)) (by have t1 : 0 ≤ lx191.toInt := ob253; have t2 : a213.toInt ≤ 1403 := b215; have t3 : lx191.toInt ≤ a213.toInt := b252; have e9 : (((1404 : Int32).toNatClampNeg : Nat) : Int) = 1404 := (by decide); omega)) d_17_15_155 ?_
          obtain ⟨a254, e255⟩ := q_nm (f39 lx191.toNatClampNeg : Int32)
          refine q_ti (v := a254) e255 ?_
          refine lv_i2l hx hb d_17_15_156 rfl ?_
          obtain ⟨j256, e257⟩ := q_nm (a254.toInt64 : Int64)
          refine q_tl (v := j256) e257 ?_
          refine lv_lmul hx hb d_17_15_157 ?_
          obtain ⟨j259, e260⟩ := q_nm (lx192 * j256 : Int64)
          refine q_tl (v := j259) e260 ?_
          refine lv_ladd hx hb d_17_15_158 ?_
          obtain ⟨j261, e262⟩ := q_nm (lx193 + j259 : Int64)
          refine q_tl (v := j261) e262 ?_
          refine q_put (ci := 15) (j := 16) (v := .long j261) (ty := .long) C0 V i_FR o_FR n_FR rfl rfl hO198 (by decide) w_2092 rfl rfl rfl rfl (Nat.le_of_ble_eq_true rfl) d_17_15_159 (fun H locs w263 hu264 hO198 V => ?_)
          replace hO198 : w263[145]? = (some (q 145, .inr (15, [.int t0_0, .ref (q 146), .ref (q 147), .ref (q 148), .ref (q 149), .ref (q 150), .ref (q 151), .ref (q 152), .int t0_1, .int t0_2, .int t0_3, .long t0_4, .int t0_5, .int t0_6, .long t0_7, .int t0_8, .long j261, .int a107])) : Option (Nat × va_E)) := hO198
          replace hI := n_p145 hI hu264 hO198 (by first | with_reducible exact q_fe btt0_2 | exact ⟨(by have t1 : 0 ≤ t0_2.toInt ∧ t0_2.toInt ≤ 1 := btt0_2; omega), (by have t1 : 0 ≤ t0_2.toInt ∧ t0_2.toInt ≤ 1 := btt0_2; omega)⟩)
          replace hO199 := (hu264 _ (by decide)).trans hO199
          replace hO200 := (hu264 _ (by decide)).trans hO200
          replace hO201 := (hu264 _ (by decide)).trans hO201
          replace hO202 := (hu264 _ (by decide)).trans hO202
          replace hO203 := (hu264 _ (by decide)).trans hO203
          replace hO204 := (hu264 _ (by decide)).trans hO204
          replace hF := q_us hF hu264 (by simp)
          refine lv_lload hx hb d_17_15_162 (lv_at hl 1 rfl) ?_
          refine q_ldc2 C0 rfl w_2639 d_17_15_164 ?_
          refine lv_lmul hx hb d_17_15_167 ?_
          obtain ⟨j265, e266⟩ := q_nm (lx192 * 10 : Int64)
          refine q_tl (v := j265) e266 ?_
          refine lv_lstore (lv' := [(6, .long j265), (8, .int lx191), (0, .ref (q 145))]) hx hb d_17_15_168 hl (by decide) rfl (fun ls hl => ?_)
          obtain ⟨a267, e268⟩ := q_nm (lx191 + 1 : Int32)
          have b269 : q_F (a267.toInt = lx191.toInt + 1) := (by rw [← e268]; exact q_addI (y := 1) rfl (by decide) (by have t1 : 0 ≤ lx191.toInt + 16 := i194; have t2 : a213.toInt ≤ 1403 := b215; have t3 : lx191.toInt ≤ a213.toInt := b252; omega) (by have t1 : 0 ≤ lx191.toInt + 16 := i194; have t2 : a213.toInt ≤ 1403 := b215; have t3 : lx191.toInt ≤ a213.toInt := b252; omega))
          refine lv_iinc (v := a267) (lv' := [(8, .int a267), (6, .long j265), (0, .ref (q 145))]) hx hb d_17_15_170 hl (k := 1) rfl (e268) (by decide) rfl (fun ls hl => ?_)
          refine lv_goto (tgt := 133) hx hb d_17_15_173 (by decide) ?_
          exact ih196 ((fm209 : Nat), (a267 : Int32), (j265 : Int64), (j261 : Int64)) _ _ _ _ (Nat.lt_succ_self _) ⟨(show q_F (0 ≤ a267.toInt + 16) from (show 0 ≤ a267.toInt + 16 from by have t1 : 0 ≤ lx191.toInt + 16 := i194; have t2 : a267.toInt = lx191.toInt + 1 := b269; omega)), (show q_F (a107.toInt ≤ a267.toInt) from (show a107.toInt ≤ a267.toInt from by have t1 : a107.toInt ≤ lx191.toInt := i195; have t2 : a267.toInt = lx191.toInt + 1 := b269; omega)), V, q_lw hl (q_lw1 0 rfl (q_lw1 1 rfl (q_lw1 2 rfl q_lw0))), hI, hF, hO198, hO199, hO200, hO201, hO202, hO203, hO204, (show F_FR_findShortest_L133 t0_0 t0_1 t0_2 t0_3 t0_4 t0_5 t0_6 t0_7 t0_8 t0_9 t0_10 t1_0 t2_0 t3_0 t4_0 t5_0 t6_0 p47 f35 f37 f39 f41 f43 p69 f63 lx78 a107 f131 lx152 lx168 fm209 a267 j265 j261 = (F_FR_findShortest t0_0 t0_1 t0_2 t0_3 t0_4 t0_5 t0_6 t0_7 t0_8 t0_9 t0_10 t1_0 t2_0 t3_0 t4_0 t5_0 t6_0) from Eq.trans (by have c218x := c218; rw [e217] at c218x; rw [← e268, ← e266, ← e262, ← e260, ← e257, ← e255, F_FR_findShortest_L133.eq_2, if_neg c218x]) hR205), (show True ∧ S_FR_findShortest_L133 t0_0 t0_1 t0_2 t0_3 t0_4 t0_5 t0_6 t0_7 t0_8 t0_9 t0_10 t1_0 t2_0 t3_0 t4_0 t5_0 t6_0 p47 f35 f37 f39 f41 f43 p69 f63 lx78 a107 f131 lx152 lx168 fm209 a267 j265 j261 from (by rw [← e268, ← e266, ← e262, ← e260, ← e257, ← e255]; have h := hS206; rw [S_FR_findShortest_L133.eq_2] at h; replace h := q_s2 h; have c218x := c218; rw [e217] at c218x; rw [if_neg c218x] at h; replace h := q_s2 h; with_reducible exact h))⟩
      ·
        intro J176
        refine lv_if_eq (tgt := 120) hx hb d_17_15_113 (by decide) (fun c270 => ?_) (fun c270 => ?_)
        ·
          have b271 : q_F (lx152.toInt = 0) := (q_eqI c270)
          refine lv_lconst (v := 0) hx hb d_17_15_120 (by decide) ?_
          exact J176 ((0 : Int64)) _ _ _ u129 ⟨(show q_F (lx152.toInt ≤ 0) from (show lx152.toInt ≤ 0 from by have t1 : lx152.toInt = 0 := b271; omega)), (show q_F (0 ≤ lx152.toInt) from (show 0 ≤ lx152.toInt from by have t1 : 0 ≤ lx152.toInt := i161; omega)), V, q_lw hl (q_lw1 1 rfl q_lw0), (show F_FR_findShortest_J121 t0_0 t0_1 t0_2 t0_3 t0_4 t0_5 t0_6 t0_7 t0_8 t0_9 t0_10 t1_0 t2_0 t3_0 t4_0 t5_0 t6_0 p47 f35 f37 f39 f41 f43 p69 f63 lx78 a107 f131 lx152 0 = (F_FR_findShortest t0_0 t0_1 t0_2 t0_3 t0_4 t0_5 t0_6 t0_7 t0_8 t0_9 t0_10 t1_0 t2_0 t3_0 t4_0 t5_0 t6_0) from Eq.trans (by rw [F_FR_findShortest_J108.eq_1, if_pos c270]) hR163), (show True ∧ S_FR_findShortest_J121 t0_0 t0_1 t0_2 t0_3 t0_4 t0_5 t0_6 t0_7 t0_8 t0_9 t0_10 t1_0 t2_0 t3_0 t4_0 t5_0 t6_0 p47 f35 f37 f39 f41 f43 p69 f63 lx78 a107 f131 lx152 0 from (by have h := hS164; rw [S_FR_findShortest_J108.eq_1] at h; rw [if_pos c270] at h; with_reducible exact h))⟩
        ·
          have b272 : q_F (lx152.toInt ≠ 0) := (q_neI c270)
          refine lv_lconst (v := 1) hx hb d_17_15_116 (by decide) ?_
          refine lv_goto (tgt := 121) hx hb d_17_15_117 (by decide) ?_
          exact J176 ((1 : Int64)) _ _ _ u129 ⟨(show q_F (lx152.toInt ≤ 1) from (show lx152.toInt ≤ 1 from by have t1 : a123.toInt ≤ 1 := b125; have t2 : lx152.toInt ≤ a123.toInt := i162; omega)), (show q_F (1 ≤ lx152.toInt) from (show 1 ≤ lx152.toInt from by have t1 : 0 ≤ lx152.toInt := i161; have t2 : lx152.toInt ≠ 0 := b272; omega)), V, q_lw hl (q_lw1 1 rfl q_lw0), (show F_FR_findShortest_J121 t0_0 t0_1 t0_2 t0_3 t0_4 t0_5 t0_6 t0_7 t0_8 t0_9 t0_10 t1_0 t2_0 t3_0 t4_0 t5_0 t6_0 p47 f35 f37 f39 f41 f43 p69 f63 lx78 a107 f131 lx152 1 = (F_FR_findShortest t0_0 t0_1 t0_2 t0_3 t0_4 t0_5 t0_6 t0_7 t0_8 t0_9 t0_10 t1_0 t2_0 t3_0 t4_0 t5_0 t6_0) from Eq.trans (by rw [F_FR_findShortest_J108.eq_1, if_neg c270]) hR163), (show True ∧ S_FR_findShortest_J121 t0_0 t0_1 t0_2 t0_3 t0_4 t0_5 t0_6 t0_7 t0_8 t0_9 t0_10 t1_0 t2_0 t3_0 t4_0 t5_0 t6_0 p47 f35 f37 f39 f41 f43 p69 f63 lx78 a107 f131 lx152 1 from (by have h := hS164; rw [S_FR_findShortest_J108.eq_1] at h; rw [if_neg c270] at h; with_reducible exact h))⟩
    ·
      intro J160
      refine q_join (X := Unit) (fun z H locs ls _ => q_Wd D g (va_A ws sz) s u129 H locs ∧ lv_has ls 9 [(0, .ref (q 145))] ∧ F_FR_findShortest_J107 t0_0 t0_1 t0_2 t0_3 t0_4 t0_5 t0_6 t0_7 t0_8 t0_9 t0_10 t1_0 t2_0 t3_0 t4_0 t5_0 t6_0 p47 f35 f37 f39 f41 f43 p69 f63 lx78 a107 f131 = (F_FR_findShortest t0_0 t0_1 t0_2 t0_3 t0_4 t0_5 t0_6 t0_7 t0_8 t0_9 t0_10 t1_0 t2_0 t3_0 t4_0 t5_0 t6_0) ∧ True ∧ S_FR_findShortest_J107 t0_0 t0_1 t0_2 t0_3 t0_4 t0_5 t0_6 t0_7 t0_8 t0_9 t0_10 t1_0 t2_0 t3_0 t4_0 t5_0 t6_0 p47 f35 f37 f39 f41 f43 p69 f63 lx78 a107 f131) (fun z => []) 107 0 0 ?_ ?_
      ·
        rintro _ H locs ls _ ⟨V, hl, hR281, hS282⟩
        replace hl : lv_has ls 9 [(0, .ref (q 145))] := hl
        refine lv_iconst (v := 0) hx hb d_17_15_107 (by decide) ?_
        exact J160 ((0 : Int32)) _ _ _ u129 ⟨(show q_F (0 ≤ 0) from (show 0 ≤ 0 from by omega)), (show q_F (0 ≤ a123.toInt) from (show 0 ≤ a123.toInt from by have t1 : 0 ≤ a123.toInt := b124; omega)), V, q_lw hl (q_lw1 0 rfl q_lw0), (show F_FR_findShortest_J108 t0_0 t0_1 t0_2 t0_3 t0_4 t0_5 t0_6 t0_7 t0_8 t0_9 t0_10 t1_0 t2_0 t3_0 t4_0 t5_0 t6_0 p47 f35 f37 f39 f41 f43 p69 f63 lx78 a107 f131 0 = (F_FR_findShortest t0_0 t0_1 t0_2 t0_3 t0_4 t0_5 t0_6 t0_7 t0_8 t0_9 t0_10 t1_0 t2_0 t3_0 t4_0 t5_0 t6_0) from Eq.trans (by rw [F_FR_findShortest_J107.eq_1]) hR281), (show True ∧ S_FR_findShortest_J108 t0_0 t0_1 t0_2 t0_3 t0_4 t0_5 t0_6 t0_7 t0_8 t0_9 t0_10 t1_0 t2_0 t3_0 t4_0 t5_0 t6_0 p47 f35 f37 f39 f41 f43 p69 f63 lx78 a107 f131 0 from (by have h := hS282; rw [S_FR_findShortest_J107.eq_1] at h; with_reducible exact h))⟩
      ·
        intro J280
        refine lv_if_eq (tgt := 107) hx hb d_17_15_71 (by decide) (fun c286 => ?_) (fun c286 => ?_)
        ·
          exact J280 (()) _ _ _ u129 ⟨V, q_lw hl (q_lw1 4 rfl q_lw0), (show F_FR_findShortest_J107 t0_0 t0_1 t0_2 t0_3 t0_4 t0_5 t0_6 t0_7 t0_8 t0_9 t0_10 t1_0 t2_0 t3_0 t4_0 t5_0 t6_0 p47 f35 f37 f39 f41 f43 p69 f63 lx78 a107 f131 = (F_FR_findShortest t0_0 t0_1 t0_2 t0_3 t0_4 t0_5 t0_6 t0_7 t0_8 t0_9 t0_10 t1_0 t2_0 t3_0 t4_0 t5_0 t6_0) from Eq.trans (by have c286x := c286; rw [e127, e119, ← e108, ← e105, e103] at c286x; rw [e135, e119, ← e108, ← e105, e103, F_FR_findShortest_J19.eq_1, if_pos c286x]) hR91), (show True ∧ S_FR_findShortest_J107 t0_0 t0_1 t0_2 t0_3 t0_4 t0_5 t0_6 t0_7 t0_8 t0_9 t0_10 t1_0 t2_0 t3_0 t4_0 t5_0 t6_0 p47 f35 f37 f39 f41 f43 p69 f63 lx78 a107 f131 from (by rw [e135, e119, ← e108, ← e105, e103]; have h := hS92; rw [S_FR_findShortest_J19.eq_1] at h; replace h := q_s2 h; replace h := q_s2 h; replace h := q_s2 h; replace h := q_s2 h; replace h := q_s2 h; replace h := q_s2 h; have c286x := c286; rw [e127, e119, ← e108, ← e105, e103] at c286x; rw [if_pos c286x] at h; with_reducible exact h))⟩
        ·
          have b288 : q_F (a123.toInt ≠ 0) := (q_neI c286)
          refine lv_iload_n hx hb d_17_15_74 rfl (lv_at hl 1 rfl) ?_
          refine q_join (X := Unit) (fun z H locs ls _ => q_Wd D g (va_A ws sz) s u129 H locs ∧ lv_has ls 9 [(0, .ref (q 145))] ∧ F_FR_findShortest_J103 t0_0 t0_1 t0_2 t0_3 t0_4 t0_5 t0_6 t0_7 t0_8 t0_9 t0_10 t1_0 t2_0 t3_0 t4_0 t5_0 t6_0 p47 f35 f37 f39 f41 f43 p69 f63 lx78 a107 f131 = (F_FR_findShortest t0_0 t0_1 t0_2 t0_3 t0_4 t0_5 t0_6 t0_7 t0_8 t0_9 t0_10 t1_0 t2_0 t3_0 t4_0 t5_0 t6_0) ∧ True ∧ S_FR_findShortest_J103 t0_0 t0_1 t0_2 t0_3 t0_4 t0_5 t0_6 t0_7 t0_8 t0_9 t0_10 t1_0 t2_0 t3_0 t4_0 t5_0 t6_0 p47 f35 f37 f39 f41 f43 p69 f63 lx78 a107 f131) (fun z => []) 103 0 0 ?_ ?_
          ·
            rintro _ H locs ls _ ⟨V, hl, hR297, hS298⟩
            replace hl : lv_has ls 9 [(0, .ref (q 145))] := hl
            refine lv_iconst (v := 1) hx hb d_17_15_103 (by decide) ?_
            refine lv_goto (tgt := 108) hx hb d_17_15_104 (by decide) ?_
            exact J160 ((1 : Int32)) _ _ _ u129 ⟨(show q_F (0 ≤ 1) from (show 0 ≤ 1 from by omega)), (show q_F (1 ≤ a123.toInt) from (show 1 ≤ a123.toInt from by have t1 : 0 ≤ a123.toInt := b124; have t2 : a123.toInt ≠ 0 := b288; omega)), V, q_lw hl (q_lw1 0 rfl q_lw0), (show F_FR_findShortest_J108 t0_0 t0_1 t0_2 t0_3 t0_4 t0_5 t0_6 t0_7 t0_8 t0_9 t0_10 t1_0 t2_0 t3_0 t4_0 t5_0 t6_0 p47 f35 f37 f39 f41 f43 p69 f63 lx78 a107 f131 1 = (F_FR_findShortest t0_0 t0_1 t0_2 t0_3 t0_4 t0_5 t0_6 t0_7 t0_8 t0_9 t0_10 t1_0 t2_0 t3_0 t4_0 t5_0 t6_0) from Eq.trans (by rw [F_FR_findShortest_J103.eq_1]) hR297), (show True ∧ S_FR_findShortest_J108 t0_0 t0_1 t0_2 t0_3 t0_4 t0_5 t0_6 t0_7 t0_8 t0_9 t0_10 t1_0 t2_0 t3_0 t4_0 t5_0 t6_0 p47 f35 f37 f39 f41 f43 p69 f63 lx78 a107 f131 1 from (by have h := hS298; rw [S_FR_findShortest_J103.eq_1] at h; with_reducible exact h))⟩
          ·
            intro J296
            refine lv_if_eq (tgt := 103) hx hb d_17_15_75 (by decide) (fun c302 => ?_) (fun c302 => ?_)
            ·
              exact J296 (()) _ _ _ u129 ⟨V, q_lw hl (q_lw1 4 rfl q_lw0), (show F_FR_findShortest_J103 t0_0 t0_1 t0_2 t0_3 t0_4 t0_5 t0_6 t0_7 t0_8 t0_9 t0_10 t1_0 t2_0 t3_0 t4_0 t5_0 t6_0 p47 f35 f37 f39 f41 f43 p69 f63 lx78 a107 f131 = (F_FR_findShortest t0_0 t0_1 t0_2 t0_3 t0_4 t0_5 t0_6 t0_7 t0_8 t0_9 t0_10 t1_0 t2_0 t3_0 t4_0 t5_0 t6_0) from Eq.trans (by have c286x := c286; rw [e127, e119, ← e108, ← e105, e103] at c286x; have c302x := c302; rw [e143, e135, e119, ← e108, ← e105, e103] at c302x; rw [e135, e119, ← e108, ← e105, e103, F_FR_findShortest_J19.eq_1, if_neg c286x, if_pos c302x]) hR91), (show True ∧ S_FR_findShortest_J103 t0_0 t0_1 t0_2 t0_3 t0_4 t0_5 t0_6 t0_7 t0_8 t0_9 t0_10 t1_0 t2_0 t3_0 t4_0 t5_0 t6_0 p47 f35 f37 f39 f41 f43 p69 f63 lx78 a107 f131 from (by rw [e135, e119, ← e108, ← e105, e103]; have h := hS92; rw [S_FR_findShortest_J19.eq_1] at h; replace h := q_s2 h; replace h := q_s2 h; replace h := q_s2 h; replace h := q_s2 h; replace h := q_s2 h; replace h := q_s2 h; have c286x := c286; rw [e127, e119, ← e108, ← e105, e103] at c286x; rw [if_neg c286x] at h; have c302x := c302; rw [e143, e135, e119, ← e108, ← e105, e103] at c302x; rw [if_pos c302x] at h; with_reducible exact h))⟩
            ·
              refine lv_iload hx hb d_17_15_78 (lv_at hl 0 rfl) ?_
              refine lv_if_gt (tgt := 103) hx hb d_17_15_80 (by decide) (fun c305 => ?_) (fun c305 => ?_)
              ·
                exact J296 (()) _ _ _ u129 ⟨V, q_lw hl (q_lw1 4 rfl q_lw0), (show F_FR_findShortest_J103 t0_0 t0_1 t0_2 t0_3 t0_4 t0_5 t0_6 t0_7 t0_8 t0_9 t0_10 t1_0 t2_0 t3_0 t4_0 t5_0 t6_0 p47 f35 f37 f39 f41 f43 p69 f63 lx78 a107 f131 = (F_FR_findShortest t0_0 t0_1 t0_2 t0_3 t0_4 t0_5 t0_6 t0_7 t0_8 t0_9 t0_10 t1_0 t2_0 t3_0 t4_0 t5_0 t6_0) from Eq.trans (by have c286x := c286; rw [e127, e119, ← e108, ← e105, e103] at c286x; have c302x := c302; rw [e143, e135, e119, ← e108, ← e105, e103] at c302x; have c305x := c305; rw [e151, ← e108, ← e105, e103] at c305x; rw [e135, e119, ← e108, ← e105, e103, F_FR_findShortest_J19.eq_1, if_neg c286x, if_neg c302x, if_pos c305x]) hR91), (show True ∧ S_FR_findShortest_J103 t0_0 t0_1 t0_2 t0_3 t0_4 t0_5 t0_6 t0_7 t0_8 t0_9 t0_10 t1_0 t2_0 t3_0 t4_0 t5_0 t6_0 p47 f35 f37 f39 f41 f43 p69 f63 lx78 a107 f131 from (by rw [e135, e119, ← e108, ← e105, e103]; have h := hS92; rw [S_FR_findShortest_J19.eq_1] at h; replace h := q_s2 h; replace h := q_s2 h; replace h := q_s2 h; replace h := q_s2 h; replace h := q_s2 h; replace h := q_s2 h; have c286x := c286; rw [e127, e119, ← e108, ← e105, e103] at c286x; rw [if_neg c286x] at h; have c302x := c302; rw [e143, e135, e119, ← e108, ← e105, e103] at c302x; rw [if_neg c302x] at h; have c305x := c305; rw [e151, ← e108, ← e105, e103] at c305x; rw [if_pos c305x] at h; with_reducible exact h))⟩
              ·
                refine lv_iload hx hb d_17_15_83 (lv_at hl 0 rfl) ?_
                refine lv_if_ne (tgt := 107) hx hb d_17_15_85 (by decide) (fun c308 => ?_) (fun c308 => ?_)
                ·
                  exact J280 (()) _ _ _ u129 ⟨V, q_lw hl (q_lw1 4 rfl q_lw0), (show F_FR_findShortest_J107 t0_0 t0_1 t0_2 t0_3 t0_4 t0_5 t0_6 t0_7 t0_8 t0_9 t0_10 t1_0 t2_0 t3_0 t4_0 t5_0 t6_0 p47 f35 f37 f39 f41 f43 p69 f63 lx78 a107 f131 = (F_FR_findShortest t0_0 t0_1 t0_2 t0_3 t0_4 t0_5 t0_6 t0_7 t0_8 t0_9 t0_10 t1_0 t2_0 t3_0 t4_0 t5_0 t6_0) from Eq.trans (by have c286x := c286; rw [e127, e119, ← e108, ← e105, e103] at c286x; have c302x := c302; rw [e143, e135, e119, ← e108, ← e105, e103] at c302x; have c305x := c305; rw [e151, ← e108, ← e105, e103] at c305x; have c308x := c308; rw [e151, ← e108, ← e105, e103] at c308x; rw [e135, e119, ← e108, ← e105, e103, F_FR_findShortest_J19.eq_1, if_neg c286x, if_neg c302x, if_neg c305x, if_neg c308x]) hR91), (show True ∧ S_FR_findShortest_J107 t0_0 t0_1 t0_2 t0_3 t0_4 t0_5 t0_6 t0_7 t0_8 t0_9 t0_10 t1_0 t2_0 t3_0 t4_0 t5_0 t6_0 p47 f35 f37 f39 f41 f43 p69 f63 lx78 a107 f131 from (by rw [e135, e119, ← e108, ← e105, e103]; have h := hS92; rw [S_FR_findShortest_J19.eq_1] at h; replace h := q_s2 h; replace h := q_s2 h; replace h := q_s2 h; replace h := q_s2 h; replace h := q_s2 h; replace h := q_s2 h; have c286x := c286; rw [e127, e119, ← e108, ← e105, e103] at c286x; rw [if_neg c286x] at h; have c302x := c302; rw [e143, e135, e119, ← e108, ← e105, e103] at c302x; rw [if_neg c302x] at h; have c305x := c305; rw [e151, ← e108, ← e105, e103] at c305x; rw [if_neg c305x] at h; have c308x := c308; rw [e151, ← e108, ← e105, e103] at c308x; rw [if_neg c308x] at h; with_reducible exact h))⟩
                ·
                  refine lv_aload_n hx hb d_17_15_88 rfl (lv_at hl 4 rfl) ?_
                  refine q_get (ci := 15) (j := 3) (v := .ref (q 148)) C0 V i_FR rfl rfl hT0 (by decide) w_2078 rfl d_17_15_89 ?_
                  refine lv_aload_n hx hb d_17_15_92 rfl (lv_at hl 4 rfl) ?_
                  refine q_get (ci := 15) (j := 17) (v := .int a107) C0 V i_FR rfl rfl hT0 (by decide) w_2093 rfl d_17_15_93 ?_
                  have ob311 : q_F (0 ≤ a107.toInt) := (by rw [← e108, ← e105, e103]; have h := hS92; rw [S_FR_findShortest_J19.eq_1] at h; replace h := q_s2 h; replace h := q_s2 h; replace h := q_s2 h; replace h := q_s2 h; replace h := q_s2 h; replace h := q_s2 h; have c286x := c286; rw [e127, e119, ← e108, ← e105, e103] at c286x; rw [if_neg c286x] at h; have c302x := c302; rw [e143, e135, e119, ← e108, ← e105, e103] at c302x; rw [if_neg c302x] at h; have c305x := c305; rw [e151, ← e108, ← e105, e103] at c305x; rw [if_neg c305x] at h; have c308x := c308; rw [e151, ← e108, ← e105, e103] at c308x; rw [if_pos c308x] at h; exact h.2.1)
                  refine q_iald C0 V hA40 (q_ix (x := a107.toInt) rfl (by first | with_reducible exact q_fe ob311 | (have t1 : 0 ≤ a107.toInt := ob311; omega)) (by have t1 : 0 ≤ a107.toInt := ob311; have t2 : 2 ≤ lx78.toInt := i87; have t3 : a99.toInt ≤ 1403 := b101; have t4 : a104.toInt = a99.toInt - lx78.toInt := b106; have t5 : a107.toInt = a104.toInt + 1 := b109; have e9 : (((1404 : Int32).toNatClampNeg : Nat) : Int) = 1404 := (by decide); omega)) d_17_15_96 ?_
                  obtain ⟨a312, e313⟩ := q_nm (f39 a107.toNatClampNeg : Int32)
                  refine q_ti (v := a312) e313 ?_
                  refine lv_iconst (v := 2) hx hb d_17_15_97 (by decide) ?_
                  refine lv_irem hx hb d_17_15_98 (by decide) ?_
                  obtain ⟨a314, e315⟩ := q_nm (a312 - a312 / 2 * 2 : Int32)
                  refine q_ti (v := a314) e315 ?_
                  refine lv_iconst (v := 1) hx hb d_17_15_99 (by decide) ?_
                  refine lv_icmp_ne (tgt := 107) hx hb d_17_15_100 (by decide) (fun c316 => ?_) (fun c316 => ?_)
                  ·
                    exact J280 (()) _ _ _ u129 ⟨V, q_lw hl (q_lw1 4 rfl q_lw0), (show F_FR_findShortest_J107 t0_0 t0_1 t0_2 t0_3 t0_4 t0_5 t0_6 t0_7 t0_8 t0_9 t0_10 t1_0 t2_0 t3_0 t4_0 t5_0 t6_0 p47 f35 f37 f39 f41 f43 p69 f63 lx78 a107 f131 = (F_FR_findShortest t0_0 t0_1 t0_2 t0_3 t0_4 t0_5 t0_6 t0_7 t0_8 t0_9 t0_10 t1_0 t2_0 t3_0 t4_0 t5_0 t6_0) from Eq.trans (by have c286x := c286; rw [e127, e119, ← e108, ← e105, e103] at c286x; have c302x := c302; rw [e143, e135, e119, ← e108, ← e105, e103] at c302x; have c305x := c305; rw [e151, ← e108, ← e105, e103] at c305x; have c308x := c308; rw [e151, ← e108, ← e105, e103] at c308x; have c316x := c316; rw [← e315, ← e313, ← e108, ← e105, e103] at c316x; rw [e135, e119, ← e108, ← e105, e103, F_FR_findShortest_J19.eq_1, if_neg c286x, if_neg c302x, if_neg c305x, if_pos c308x, if_neg c316x]) hR91), (show True ∧ S_FR_findShortest_J107 t0_0 t0_1 t0_2 t0_3 t0_4 t0_5 t0_6 t0_7 t0_8 t0_9 t0_10 t1_0 t2_0 t3_0 t4_0 t5_0 t6_0 p47 f35 f37 f39 f41 f43 p69 f63 lx78 a107 f131 from (by rw [e135, e119, ← e108, ← e105, e103]; have h := hS92; rw [S_FR_findShortest_J19.eq_1] at h; replace h := q_s2 h; replace h := q_s2 h; replace h := q_s2 h; replace h := q_s2 h; replace h := q_s2 h; replace h := q_s2 h; have c286x := c286; rw [e127, e119, ← e108, ← e105, e103] at c286x; rw [if_neg c286x] at h; have c302x := c302; rw [e143, e135, e119, ← e108, ← e105, e103] at c302x; rw [if_neg c302x] at h; have c305x := c305; rw [e151, ← e108, ← e105, e103] at c305x; rw [if_neg c305x] at h; have c308x := c308; rw [e151, ← e108, ← e105, e103] at c308x; rw [if_pos c308x] at h; replace h := q_s2 h; have c316x := c316; rw [← e315, ← e313, ← e108, ← e105, e103] at c316x; rw [if_neg c316x] at h; with_reducible exact h))⟩
                  ·
                    exact J296 (()) _ _ _ u129 ⟨V, q_lw hl (q_lw1 4 rfl q_lw0), (show F_FR_findShortest_J103 t0_0 t0_1 t0_2 t0_3 t0_4 t0_5 t0_6 t0_7 t0_8 t0_9 t0_10 t1_0 t2_0 t3_0 t4_0 t5_0 t6_0 p47 f35 f37 f39 f41 f43 p69 f63 lx78 a107 f131 = (F_FR_findShortest t0_0 t0_1 t0_2 t0_3 t0_4 t0_5 t0_6 t0_7 t0_8 t0_9 t0_10 t1_0 t2_0 t3_0 t4_0 t5_0 t6_0) from Eq.trans (by have c286x := c286; rw [e127, e119, ← e108, ← e105, e103] at c286x; have c302x := c302; rw [e143, e135, e119, ← e108, ← e105, e103] at c302x; have c305x := c305; rw [e151, ← e108, ← e105, e103] at c305x; have c308x := c308; rw [e151, ← e108, ← e105, e103] at c308x; have c316x := c316; rw [← e315, ← e313, ← e108, ← e105, e103] at c316x; rw [e135, e119, ← e108, ← e105, e103, F_FR_findShortest_J19.eq_1, if_neg c286x, if_neg c302x, if_neg c305x, if_pos c308x, if_pos c316x]) hR91), (show True ∧ S_FR_findShortest_J103 t0_0 t0_1 t0_2 t0_3 t0_4 t0_5 t0_6 t0_7 t0_8 t0_9 t0_10 t1_0 t2_0 t3_0 t4_0 t5_0 t6_0 p47 f35 f37 f39 f41 f43 p69 f63 lx78 a107 f131 from (by rw [e135, e119, ← e108, ← e105, e103]; have h := hS92; rw [S_FR_findShortest_J19.eq_1] at h; replace h := q_s2 h; replace h := q_s2 h; replace h := q_s2 h; replace h := q_s2 h; replace h := q_s2 h; replace h := q_s2 h; have c286x := c286; rw [e127, e119, ← e108, ← e105, e103] at c286x; rw [if_neg c286x] at h; have c302x := c302; rw [e143, e135, e119, ← e108, ← e105, e103] at c302x; rw [if_neg c302x] at h; have c305x := c305; rw [e151, ← e108, ← e105, e103] at c305x; rw [if_neg c305x] at h; have c308x := c308; rw [e151, ← e108, ← e105, e103] at c308x; rw [if_pos c308x] at h; replace h := q_s2 h; have c316x := c316; rw [← e315, ← e313, ← e108, ← e105, e103] at c316x; rw [if_pos c316x] at h; with_reducible exact h))⟩
  ·
    intro J86
    refine lv_icmp_ne (tgt := 18) hx hb d_17_15_11 (by decide) (fun c319 => ?_) (fun c319 => ?_)
    ·
      have b320 : q_F (a62.toInt ≠ 1) := (q_neI c319)
      refine lv_iload_n hx hb d_17_15_18 rfl (lv_at hl 0 rfl) ?_
      exact J86 ((a62 : Int32)) _ _ _ u60 ⟨(show q_F (2 ≤ a62.toInt) from (show 2 ≤ a62.toInt from by have t1 : 1 ≤ a62.toInt := b65; have t2 : a62.toInt ≠ 1 := b320; omega)), (show q_F (a62.toInt ≤ 17) from (show a62.toInt ≤ 17 from by have t1 : a62.toInt ≤ 17 := b66; omega)), (show q_F (a62.toInt ≤ a62.toInt) from (show a62.toInt ≤ a62.toInt from by omega)), (show q_F (a62.toInt ≤ a62.toInt + 1) from (show a62.toInt ≤ a62.toInt + 1 from by omega)), V, q_lw hl (q_lw1 1 rfl q_lw0), (show F_FR_findShortest_J19 t0_0 t0_1 t0_2 t0_3 t0_4 t0_5 t0_6 t0_7 t0_8 t0_9 t0_10 t1_0 t2_0 t3_0 t4_0 t5_0 t6_0 p47 f35 f37 f39 f41 f43 p69 f63 a62 = (F_FR_findShortest t0_0 t0_1 t0_2 t0_3 t0_4 t0_5 t0_6 t0_7 t0_8 t0_9 t0_10 t1_0 t2_0 t3_0 t4_0 t5_0 t6_0) from Eq.trans (by have c319x := c319; rw [e71] at c319x; rw [e72, e71, F_FR_findShortest_c5.eq_1, if_neg c319x]) hR73), (show True ∧ S_FR_findShortest_J19 t0_0 t0_1 t0_2 t0_3 t0_4 t0_5 t0_6 t0_7 t0_8 t0_9 t0_10 t1_0 t2_0 t3_0 t4_0 t5_0 t6_0 p47 f35 f37 f39 f41 f43 p69 f63 a62 from (by rw [e72, e71]; have h := hS74; rw [S_FR_findShortest_c5.eq_1] at h; have c319x := c319; rw [e71] at c319x; rw [if_neg c319x] at h; with_reducible exact h))⟩
    ·
      have b321 : q_F (a62.toInt = 1) := (q_eqI c319)
      refine lv_iconst (v := 2) hx hb d_17_15_14 (by decide) ?_
      refine lv_goto (tgt := 19) hx hb d_17_15_15 (by decide) ?_
      exact J86 ((2 : Int32)) _ _ _ u60 ⟨(show q_F (2 ≤ 2) from (show 2 ≤ 2 from by omega)), (show q_F (2 ≤ 17) from (show 2 ≤ 17 from by omega)), (show q_F (a62.toInt ≤ 2) from (show a62.toInt ≤ 2 from by have t1 : a62.toInt = 1 := b321; omega)), (show q_F (2 ≤ a62.toInt + 1) from (show 2 ≤ a62.toInt + 1 from by have t1 : 1 ≤ a62.toInt := b65; omega)), V, q_lw hl (q_lw1 1 rfl q_lw0), (show F_FR_findShortest_J19 t0_0 t0_1 t0_2 t0_3 t0_4 t0_5 t0_6 t0_7 t0_8 t0_9 t0_10 t1_0 t2_0 t3_0 t4_0 t5_0 t6_0 p47 f35 f37 f39 f41 f43 p69 f63 2 = (F_FR_findShortest t0_0 t0_1 t0_2 t0_3 t0_4 t0_5 t0_6 t0_7 t0_8 t0_9 t0_10 t1_0 t2_0 t3_0 t4_0 t5_0 t6_0) from Eq.trans (by have c319x := c319; rw [e71] at c319x; rw [e72, F_FR_findShortest_c5.eq_1, if_pos c319x]) hR73), (show True ∧ S_FR_findShortest_J19 t0_0 t0_1 t0_2 t0_3 t0_4 t0_5 t0_6 t0_7 t0_8 t0_9 t0_10 t1_0 t2_0 t3_0 t4_0 t5_0 t6_0 p47 f35 f37 f39 f41 f43 p69 f63 2 from (by rw [e72]; have h := hS74; rw [S_FR_findShortest_c5.eq_1] at h; have c319x := c319; rw [e71] at c319x; rw [if_pos c319x] at h; with_reducible exact h))⟩

theorem d_17_33_0 : decode prog_17_method_33_code 0 = .ok (.aload_n 0, 1) := by decide +kernel
theorem d_17_33_1 : decode prog_17_method_33_code 1 = .ok (.lload_n 1, 1) := by decide +kernel
theorem d_17_33_2 : decode prog_17_method_33_code 2 = .ok (.iload_n 3, 1) := by decide +kernel
theorem d_17_33_19 : decode prog_17_method_33_code 19 = .ok (.invokevirtual 126, 3) := by decide +kernel
set_option maxRecDepth 100000 in
theorem w_2591 : (Cond.code ({ cls := "NumberHouseModel$FloatRows", name := "open", desc := "(JZ)V" } : MethodName) prog_17_method_4_code (4 : Nat) (none : Option ClassFile.FieldType)) ∈ q_tbl := q_of11 191 rfl (by decide +kernel)
set_option maxRecDepth 100000 in
theorem w_2588 : (Cond.methodLink "NumberHouseModel$FloatRows" (126 : Nat) ({ cls := "NumberHouseModel$FloatRows", name := "open", desc := "(JZ)V" } : MethodName)) ∈ q_tbl := q_of11 188 rfl (by decide +kernel)
set_option maxRecDepth 100000 in
theorem w_2590 : (Cond.instanceMethod ({ cls := "NumberHouseModel$FloatRows", name := "open", desc := "(JZ)V" } : MethodName)) ∈ q_tbl := q_of11 190 rfl (by decide +kernel)
theorem ws_89 : Cond.selects "NumberHouseModel$FloatRows" (⟨"NumberHouseModel$FloatRows", "open", "(JZ)V"⟩ : MethodName) (⟨"NumberHouseModel$FloatRows", "open", "(JZ)V"⟩ : MethodName) ∈ q_tbl := q_ofs 89 (by decide +kernel) (by decide +kernel)
theorem LV_FR_126 : q_LV "NumberHouseModel$FloatRows" 126 y_FR_open prog_17_method_4_code 4 none 2 := ⟨w_2591, w_17, w_2588, w_2590, ws_89, ⟨by decide, by decide, by decide +kernel⟩⟩
theorem d_17_33_22 : decode prog_17_method_33_code 22 = .ok (.aload_n 0, 1) := by decide +kernel
theorem d_17_33_23 : decode prog_17_method_33_code 23 = .ok (.lload_n 1, 1) := by decide +kernel
theorem d_17_33_24 : decode prog_17_method_33_code 24 = .ok (.iload_n 3, 1) := by decide +kernel
theorem d_17_33_25 : decode prog_17_method_33_code 25 = .ok (.invokestatic 122, 3) := by decide +kernel
set_option maxRecDepth 100000 in
theorem w_2587 : (Cond.code ({ cls := "NumberHouseModel$FloatRows", name := "isWrong", desc := "(JZ)Z" } : MethodName) prog_17_method_3_code (3 : Nat) (some .boolean)) ∈ q_tbl := q_of11 187 rfl (by decide +kernel)
set_option maxRecDepth 100000 in
theorem w_2585 : (Cond.methodLink "NumberHouseModel$FloatRows" (122 : Nat) ({ cls := "NumberHouseModel$FloatRows", name := "isWrong", desc := "(JZ)Z" } : MethodName)) ∈ q_tbl := q_of11 185 rfl (by decide +kernel)
set_option maxRecDepth 100000 in
theorem w_2586 : (Cond.static ({ cls := "NumberHouseModel$FloatRows", name := "isWrong", desc := "(JZ)Z" } : MethodName)) ∈ q_tbl := q_of11 186 rfl (by decide +kernel)
theorem LS_FR_122 : q_LS "NumberHouseModel$FloatRows" 122 y_FR_isWrong prog_17_method_3_code 3 (some .boolean) 2 := ⟨w_2587, w_17, w_2585, w_2586, ⟨by decide, by decide, by decide +kernel⟩⟩
theorem d_17_33_47 : decode prog_17_method_33_code 47 = .ok (.putfield 31, 3) := by decide +kernel
set_option maxRecDepth 100000 in
theorem w_2074 : (Cond.fieldLink "NumberHouseModel$FloatRows" (31 : Nat) "NumberHouseModel$FloatRows" "thrown" "I") ∈ q_tbl := q_of9 154 rfl (by decide +kernel)
theorem d_17_33_50 : decode prog_17_method_33_code 50 = .ok (.aload_n 0, 1) := by decide +kernel
theorem d_17_33_51 : decode prog_17_method_33_code 51 = .ok (.getfield 31, 3) := by decide +kernel
theorem d_17_33_54 : decode prog_17_method_33_code 54 = .ok (.ifCond .gt 12, 3) := by decide +kernel
theorem d_17_33_66 : decode prog_17_method_33_code 66 = .ok (.lconst 0, 1) := by decide +kernel
theorem d_17_33_67 : decode prog_17_method_33_code 67 = .ok (.lreturn, 1) := by decide +kernel
theorem d_17_33_57 : decode prog_17_method_33_code 57 = .ok (.aload_n 0, 1) := by decide +kernel
theorem d_17_33_58 : decode prog_17_method_33_code 58 = .ok (.getfield 52, 3) := by decide +kernel
theorem d_17_33_61 : decode prog_17_method_33_code 61 = .ok (.lconst 0, 1) := by decide +kernel
theorem d_17_33_62 : decode prog_17_method_33_code 62 = .ok (.lcmp, 1) := by decide +kernel
theorem d_17_33_63 : decode prog_17_method_33_code 63 = .ok (.ifCond .ne 5, 3) := by decide +kernel
theorem d_17_33_68 : decode prog_17_method_33_code 68 = .ok (.aload_n 0, 1) := by decide +kernel
theorem d_17_33_69 : decode prog_17_method_33_code 69 = .ok (.invokevirtual 136, 3) := by decide +kernel
set_option maxRecDepth 100000 in
theorem w_2599 : (Cond.code ({ cls := "NumberHouseModel$FloatRows", name := "findShortest", desc := "()V" } : MethodName) prog_17_method_15_code (9 : Nat) (none : Option ClassFile.FieldType)) ∈ q_tbl := q_of11 199 rfl (by decide +kernel)
set_option maxRecDepth 100000 in
theorem w_2596 : (Cond.methodLink "NumberHouseModel$FloatRows" (136 : Nat) ({ cls := "NumberHouseModel$FloatRows", name := "findShortest", desc := "()V" } : MethodName)) ∈ q_tbl := q_of11 196 rfl (by decide +kernel)
set_option maxRecDepth 100000 in
theorem w_2598 : (Cond.instanceMethod ({ cls := "NumberHouseModel$FloatRows", name := "findShortest", desc := "()V" } : MethodName)) ∈ q_tbl := q_of11 198 rfl (by decide +kernel)
theorem ws_91 : Cond.selects "NumberHouseModel$FloatRows" (⟨"NumberHouseModel$FloatRows", "findShortest", "()V"⟩ : MethodName) (⟨"NumberHouseModel$FloatRows", "findShortest", "()V"⟩ : MethodName) ∈ q_tbl := q_ofs 91 (by decide +kernel) (by decide +kernel)
theorem LV_FR_136 : q_LV "NumberHouseModel$FloatRows" 136 y_FR_findShortest prog_17_method_15_code 9 none 0 := ⟨w_2599, w_17, w_2596, w_2598, ws_91, ⟨by decide, by decide, by decide +kernel⟩⟩
theorem d_17_33_72 : decode prog_17_method_33_code 72 = .ok (.aload_n 0, 1) := by decide +kernel
theorem d_17_33_73 : decode prog_17_method_33_code 73 = .ok (.getfield 102, 3) := by decide +kernel
theorem d_17_33_76 : decode prog_17_method_33_code 76 = .ok (.lreturn, 1) := by decide +kernel
theorem d_17_33_28 : decode prog_17_method_33_code 28 = .ok (.ifCond .eq 7, 3) := by decide +kernel
theorem d_17_33_35 : decode prog_17_method_33_code 35 = .ok (.aload_n 0, 1) := by decide +kernel
theorem d_17_33_36 : decode prog_17_method_33_code 36 = .ok (.invokevirtual 130, 3) := by decide +kernel
set_option maxRecDepth 100000 in
theorem w_2595 : (Cond.code ({ cls := "NumberHouseModel$FloatRows", name := "isFinite", desc := "()Z" } : MethodName) prog_17_method_5_code (1 : Nat) (some .boolean)) ∈ q_tbl := q_of11 195 rfl (by decide +kernel)
set_option maxRecDepth 100000 in
theorem w_2592 : (Cond.methodLink "NumberHouseModel$FloatRows" (130 : Nat) ({ cls := "NumberHouseModel$FloatRows", name := "isFinite", desc := "()Z" } : MethodName)) ∈ q_tbl := q_of11 192 rfl (by decide +kernel)
set_option maxRecDepth 100000 in
theorem w_2594 : (Cond.instanceMethod ({ cls := "NumberHouseModel$FloatRows", name := "isFinite", desc := "()Z" } : MethodName)) ∈ q_tbl := q_of11 194 rfl (by decide +kernel)
theorem ws_90 : Cond.selects "NumberHouseModel$FloatRows" (⟨"NumberHouseModel$FloatRows", "isFinite", "()Z"⟩ : MethodName) (⟨"NumberHouseModel$FloatRows", "isFinite", "()Z"⟩ : MethodName) ∈ q_tbl := q_ofs 90 (by decide +kernel) (by decide +kernel)
theorem LV_FR_130 : q_LV "NumberHouseModel$FloatRows" 130 y_FR_isFinite prog_17_method_5_code 1 (some .boolean) 0 := ⟨w_2595, w_17, w_2592, w_2594, ws_90, ⟨by decide, by decide, by decide +kernel⟩⟩
theorem d_17_33_39 : decode prog_17_method_33_code 39 = .ok (.ifCond .ne 7, 3) := by decide +kernel
theorem d_17_33_46 : decode prog_17_method_33_code 46 = .ok (.iconst 0, 1) := by decide +kernel
theorem d_17_33_42 : decode prog_17_method_33_code 42 = .ok (.iconst 2, 1) := by decide +kernel
theorem d_17_33_43 : decode prog_17_method_33_code 43 = .ok (.goto 4, 3) := by decide +kernel
theorem d_17_33_31 : decode prog_17_method_33_code 31 = .ok (.iconst 1, 1) := by decide +kernel
theorem d_17_33_32 : decode prog_17_method_33_code 32 = .ok (.goto 15, 3) := by decide +kernel
theorem d_17_33_18 : decode prog_17_method_33_code 18 = .ok (.iconst 0, 1) := by decide +kernel
theorem d_17_33_3 : decode prog_17_method_33_code 3 = .ok (.ifCond .eq 15, 3) := by decide +kernel
theorem d_17_33_6 : decode prog_17_method_33_code 6 = .ok (.lload_n 1, 1) := by decide +kernel
theorem d_17_33_7 : decode prog_17_method_33_code 7 = .ok (.iload_n 3, 1) := by decide +kernel
theorem d_17_33_8 : decode prog_17_method_33_code 8 = .ok (.invokestatic 122, 3) := by decide +kernel
theorem d_17_33_11 : decode prog_17_method_33_code 11 = .ok (.ifCond .ne 7, 3) := by decide +kernel
theorem d_17_33_14 : decode prog_17_method_33_code 14 = .ok (.iconst 1, 1) := by decide +kernel
theorem d_17_33_15 : decode prog_17_method_33_code 15 = .ok (.goto 4, 3) := by decide +kernel
def y_FR_digits : MethodName := ⟨"NumberHouseModel$FloatRows", "digits", "(JZ)J"⟩
def F_FR_digits_c69 (x2 : Int64) (x3 : Int32) (t0_0 : Int32) (t0_1 : Int32) (t0_2 : Int32) (t0_3 : Int32) (t0_4 : Int64) (t0_5 : Int32) (t0_6 : Int32) (t0_7 : Int64) (t0_8 : Int32) (t0_9 : Int64) (t0_10 : Int32) (t1_0 : (Nat → Int32)) (t2_0 : (Nat → Int32)) (t3_0 : (Nat → Int32)) (t4_0 : (Nat → Int32)) (t5_0 : (Nat → Int32)) (t6_0 : (Nat → Int32)) (lx32 : Int32) (p85 : (Int32 × Int32 × Int32 × Int32 × Int64 × Int32 × Int32 × Int64 × Int32 × Int64 × Int32)) (y51 : Int32) (y52 : Int32) (y53 : Int32) (y54 : Int32) (y55 : Int64) (y56 : Int32) (y57 : Int32) (y58 : Int64) (y59 : Int32) (y60 : Int64) (y61 : Int32) (lx110 : Int32) (p183 : (Int32 × Int32 × Int32 × Int32 × Int64 × Int32 × Int32 × Int64 × Int32 × Int64 × Int32 × (Nat → Int32) × (Nat → Int32) × (Nat → Int32) × (Nat → Int32) × (Nat → Int32) × (Nat → Int32))) : Int64 × Int32 × Int32 × Int32 × Int32 × Int64 × Int32 × Int32 × Int64 × Int32 × Int64 × Int32 × (Nat → Int32) × (Nat → Int32) × (Nat → Int32) × (Nat → Int32) × (Nat → Int32) × (Nat → Int32) := ((p183.2.2.2.2.2.2.2.2.2.1 : Int64), (p183.1 : Int32), (p183.2.1 : Int32), (p183.2.2.1 : Int32), (p183.2.2.2.1 : Int32), (p183.2.2.2.2.1 : Int64), (p183.2.2.2.2.2.1 : Int32), (p183.2.2.2.2.2.2.1 : Int32), (p183.2.2.2.2.2.2.2.1 : Int64), (p183.2.2.2.2.2.2.2.2.1 : Int32), (p183.2.2.2.2.2.2.2.2.2.1 : Int64), (p183.2.2.2.2.2.2.2.2.2.2.1 : Int32), (p183.2.2.2.2.2.2.2.2.2.2.2.1 : (Nat → Int32)), (p183.2.2.2.2.2.2.2.2.2.2.2.2.1 : (Nat → Int32)), (p183.2.2.2.2.2.2.2.2.2.2.2.2.2.1 : (Nat → Int32)), (p183.2.2.2.2.2.2.2.2.2.2.2.2.2.2.1 : (Nat → Int32)), (p183.2.2.2.2.2.2.2.2.2.2.2.2.2.2.2.1 : (Nat → Int32)), (p183.2.2.2.2.2.2.2.2.2.2.2.2.2.2.2.2 : (Nat → Int32)))
def F_FR_digits_J47 (x2 : Int64) (x3 : Int32) (t0_0 : Int32) (t0_1 : Int32) (t0_2 : Int32) (t0_3 : Int32) (t0_4 : Int64) (t0_5 : Int32) (t0_6 : Int32) (t0_7 : Int64) (t0_8 : Int32) (t0_9 : Int64) (t0_10 : Int32) (t1_0 : (Nat → Int32)) (t2_0 : (Nat → Int32)) (t3_0 : (Nat → Int32)) (t4_0 : (Nat → Int32)) (t5_0 : (Nat → Int32)) (t6_0 : (Nat → Int32)) (lx32 : Int32) (p85 : (Int32 × Int32 × Int32 × Int32 × Int64 × Int32 × Int32 × Int64 × Int32 × Int64 × Int32)) (y51 : Int32) (y52 : Int32) (y53 : Int32) (y54 : Int32) (y55 : Int64) (y56 : Int32) (y57 : Int32) (y58 : Int64) (y59 : Int32) (y60 : Int64) (y61 : Int32) (lx110 : Int32) : Int64 × Int32 × Int32 × Int32 × Int32 × Int64 × Int32 × Int32 × Int64 × Int32 × Int64 × Int32 × (Nat → Int32) × (Nat → Int32) × (Nat → Int32) × (Nat → Int32) × (Nat → Int32) × (Nat → Int32) := if (0 : Int32) < lx110 then (((0 : Int64), lx110, y52, y53, y54, y55, y56, y57, y58, y59, y60, y61, t1_0, t2_0, t3_0, t4_0, t5_0, t6_0)) else (if (lg_cmp y58 0 : Int32) = (0 : Int32) then (((0 : Int64), lx110, y52, y53, y54, y55, y56, y57, y58, y59, y60, y61, t1_0, t2_0, t3_0, t4_0, t5_0, t6_0)) else (F_FR_digits_c69 x2 x3 t0_0 t0_1 t0_2 t0_3 t0_4 t0_5 t0_6 t0_7 t0_8 t0_9 t0_10 t1_0 t2_0 t3_0 t4_0 t5_0 t6_0 lx32 p85 y51 y52 y53 y54 y55 y56 y57 y58 y59 y60 y61 lx110 ((F_FR_findShortest lx110 y52 y53 y54 y55 y56 y57 y58 y59 y60 y61 t1_0 t2_0 t3_0 t4_0 t5_0 t6_0) : (Int32 × Int32 × Int32 × Int32 × Int64 × Int32 × Int32 × Int64 × Int32 × Int64 × Int32 × (Nat → Int32) × (Nat → Int32) × (Nat → Int32) × (Nat → Int32) × (Nat → Int32) × (Nat → Int32)))))
def F_FR_digits_c19 (x2 : Int64) (x3 : Int32) (t0_0 : Int32) (t0_1 : Int32) (t0_2 : Int32) (t0_3 : Int32) (t0_4 : Int64) (t0_5 : Int32) (t0_6 : Int32) (t0_7 : Int64) (t0_8 : Int32) (t0_9 : Int64) (t0_10 : Int32) (t1_0 : (Nat → Int32)) (t2_0 : (Nat → Int32)) (t3_0 : (Nat → Int32)) (t4_0 : (Nat → Int32)) (t5_0 : (Nat → Int32)) (t6_0 : (Nat → Int32)) (lx32 : Int32) (p85 : (Int32 × Int32 × Int32 × Int32 × Int64 × Int32 × Int32 × Int64 × Int32 × Int64 × Int32)) : Int64 × Int32 × Int32 × Int32 × Int32 × Int64 × Int32 × Int32 × Int64 × Int32 × Int64 × Int32 × (Nat → Int32) × (Nat → Int32) × (Nat → Int32) × (Nat → Int32) × (Nat → Int32) × (Nat → Int32) := if ((F_FR_isWrong x2 x3) : Int32) = (0 : Int32) then (if ((F_FR_isFinite (p85.1 : Int32) (p85.2.1 : Int32) (p85.2.2.1 : Int32) (p85.2.2.2.1 : Int32) (p85.2.2.2.2.1 : Int64) (p85.2.2.2.2.2.1 : Int32) (p85.2.2.2.2.2.2.1 : Int32) (p85.2.2.2.2.2.2.2.1 : Int64) (p85.2.2.2.2.2.2.2.2.1 : Int32) (p85.2.2.2.2.2.2.2.2.2.1 : Int64) (p85.2.2.2.2.2.2.2.2.2.2 : Int32)) : Int32) = (0 : Int32) then (F_FR_digits_J47 x2 x3 t0_0 t0_1 t0_2 t0_3 t0_4 t0_5 t0_6 t0_7 t0_8 t0_9 t0_10 t1_0 t2_0 t3_0 t4_0 t5_0 t6_0 lx32 p85 (p85.1 : Int32) (p85.2.1 : Int32) (p85.2.2.1 : Int32) (p85.2.2.2.1 : Int32) (p85.2.2.2.2.1 : Int64) (p85.2.2.2.2.2.1 : Int32) (p85.2.2.2.2.2.2.1 : Int32) (p85.2.2.2.2.2.2.2.1 : Int64) (p85.2.2.2.2.2.2.2.2.1 : Int32) (p85.2.2.2.2.2.2.2.2.2.1 : Int64) (p85.2.2.2.2.2.2.2.2.2.2 : Int32) 2) else (F_FR_digits_J47 x2 x3 t0_0 t0_1 t0_2 t0_3 t0_4 t0_5 t0_6 t0_7 t0_8 t0_9 t0_10 t1_0 t2_0 t3_0 t4_0 t5_0 t6_0 lx32 p85 (p85.1 : Int32) (p85.2.1 : Int32) (p85.2.2.1 : Int32) (p85.2.2.2.1 : Int32) (p85.2.2.2.2.1 : Int64) (p85.2.2.2.2.2.1 : Int32) (p85.2.2.2.2.2.2.1 : Int32) (p85.2.2.2.2.2.2.2.1 : Int64) (p85.2.2.2.2.2.2.2.2.1 : Int32) (p85.2.2.2.2.2.2.2.2.2.1 : Int64) (p85.2.2.2.2.2.2.2.2.2.2 : Int32) 0)) else (F_FR_digits_J47 x2 x3 t0_0 t0_1 t0_2 t0_3 t0_4 t0_5 t0_6 t0_7 t0_8 t0_9 t0_10 t1_0 t2_0 t3_0 t4_0 t5_0 t6_0 lx32 p85 (p85.1 : Int32) (p85.2.1 : Int32) (p85.2.2.1 : Int32) (p85.2.2.2.1 : Int32) (p85.2.2.2.2.1 : Int64) (p85.2.2.2.2.2.1 : Int32) (p85.2.2.2.2.2.2.1 : Int32) (p85.2.2.2.2.2.2.2.1 : Int64) (p85.2.2.2.2.2.2.2.2.1 : Int32) (p85.2.2.2.2.2.2.2.2.2.1 : Int64) (p85.2.2.2.2.2.2.2.2.2.2 : Int32) 1)
def F_FR_digits_J19 (x2 : Int64) (x3 : Int32) (t0_0 : Int32) (t0_1 : Int32) (t0_2 : Int32) (t0_3 : Int32) (t0_4 : Int64) (t0_5 : Int32) (t0_6 : Int32) (t0_7 : Int64) (t0_8 : Int32) (t0_9 : Int64) (t0_10 : Int32) (t1_0 : (Nat → Int32)) (t2_0 : (Nat → Int32)) (t3_0 : (Nat → Int32)) (t4_0 : (Nat → Int32)) (t5_0 : (Nat → Int32)) (t6_0 : (Nat → Int32)) (lx32 : Int32) : Int64 × Int32 × Int32 × Int32 × Int32 × Int64 × Int32 × Int32 × Int64 × Int32 × Int64 × Int32 × (Nat → Int32) × (Nat → Int32) × (Nat → Int32) × (Nat → Int32) × (Nat → Int32) × (Nat → Int32) := F_FR_digits_c19 x2 x3 t0_0 t0_1 t0_2 t0_3 t0_4 t0_5 t0_6 t0_7 t0_8 t0_9 t0_10 t1_0 t2_0 t3_0 t4_0 t5_0 t6_0 lx32 ((F_FR_open x2 lx32 t0_0 t0_1 t0_2 t0_3 t0_4 t0_5 t0_6 t0_7 t0_8 t0_9 t0_10) : (Int32 × Int32 × Int32 × Int32 × Int64 × Int32 × Int32 × Int64 × Int32 × Int64 × Int32))
def F_FR_digits_J18 (x2 : Int64) (x3 : Int32) (t0_0 : Int32) (t0_1 : Int32) (t0_2 : Int32) (t0_3 : Int32) (t0_4 : Int64) (t0_5 : Int32) (t0_6 : Int32) (t0_7 : Int64) (t0_8 : Int32) (t0_9 : Int64) (t0_10 : Int32) (t1_0 : (Nat → Int32)) (t2_0 : (Nat → Int32)) (t3_0 : (Nat → Int32)) (t4_0 : (Nat → Int32)) (t5_0 : (Nat → Int32)) (t6_0 : (Nat → Int32)) : Int64 × Int32 × Int32 × Int32 × Int32 × Int64 × Int32 × Int32 × Int64 × Int32 × Int64 × Int32 × (Nat → Int32) × (Nat → Int32) × (Nat → Int32) × (Nat → Int32) × (Nat → Int32) × (Nat → Int32) := F_FR_digits_J19 x2 x3 t0_0 t0_1 t0_2 t0_3 t0_4 t0_5 t0_6 t0_7 t0_8 t0_9 t0_10 t1_0 t2_0 t3_0 t4_0 t5_0 t6_0 0
def F_FR_digits (x2 : Int64) (x3 : Int32) (t0_0 : Int32) (t0_1 : Int32) (t0_2 : Int32) (t0_3 : Int32) (t0_4 : Int64) (t0_5 : Int32) (t0_6 : Int32) (t0_7 : Int64) (t0_8 : Int32) (t0_9 : Int64) (t0_10 : Int32) (t1_0 : (Nat → Int32)) (t2_0 : (Nat → Int32)) (t3_0 : (Nat → Int32)) (t4_0 : (Nat → Int32)) (t5_0 : (Nat → Int32)) (t6_0 : (Nat → Int32)) : Int64 × Int32 × Int32 × Int32 × Int32 × Int64 × Int32 × Int32 × Int64 × Int32 × Int64 × Int32 × (Nat → Int32) × (Nat → Int32) × (Nat → Int32) × (Nat → Int32) × (Nat → Int32) × (Nat → Int32) := if x3 = (0 : Int32) then (F_FR_digits_J18 x2 x3 t0_0 t0_1 t0_2 t0_3 t0_4 t0_5 t0_6 t0_7 t0_8 t0_9 t0_10 t1_0 t2_0 t3_0 t4_0 t5_0 t6_0) else (if ((F_FR_isWrong x2 x3) : Int32) = (0 : Int32) then (F_FR_digits_J19 x2 x3 t0_0 t0_1 t0_2 t0_3 t0_4 t0_5 t0_6 t0_7 t0_8 t0_9 t0_10 t1_0 t2_0 t3_0 t4_0 t5_0 t6_0 1) else (F_FR_digits_J18 x2 x3 t0_0 t0_1 t0_2 t0_3 t0_4 t0_5 t0_6 t0_7 t0_8 t0_9 t0_10 t1_0 t2_0 t3_0 t4_0 t5_0 t6_0))
def S_FR_digits_c69 (x2 : Int64) (x3 : Int32) (t0_0 : Int32) (t0_1 : Int32) (t0_2 : Int32) (t0_3 : Int32) (t0_4 : Int64) (t0_5 : Int32) (t0_6 : Int32) (t0_7 : Int64) (t0_8 : Int32) (t0_9 : Int64) (t0_10 : Int32) (t1_0 : (Nat → Int32)) (t2_0 : (Nat → Int32)) (t3_0 : (Nat → Int32)) (t4_0 : (Nat → Int32)) (t5_0 : (Nat → Int32)) (t6_0 : (Nat → Int32)) (lx32 : Int32) (p85 : (Int32 × Int32 × Int32 × Int32 × Int64 × Int32 × Int32 × Int64 × Int32 × Int64 × Int32)) (y51 : Int32) (y52 : Int32) (y53 : Int32) (y54 : Int32) (y55 : Int64) (y56 : Int32) (y57 : Int32) (y58 : Int64) (y59 : Int32) (y60 : Int64) (y61 : Int32) (lx110 : Int32) (p183 : (Int32 × Int32 × Int32 × Int32 × Int64 × Int32 × Int32 × Int64 × Int32 × Int64 × Int32 × (Nat → Int32) × (Nat → Int32) × (Nat → Int32) × (Nat → Int32) × (Nat → Int32) × (Nat → Int32))) : Prop := True
def S_FR_digits_J47 (x2 : Int64) (x3 : Int32) (t0_0 : Int32) (t0_1 : Int32) (t0_2 : Int32) (t0_3 : Int32) (t0_4 : Int64) (t0_5 : Int32) (t0_6 : Int32) (t0_7 : Int64) (t0_8 : Int32) (t0_9 : Int64) (t0_10 : Int32) (t1_0 : (Nat → Int32)) (t2_0 : (Nat → Int32)) (t3_0 : (Nat → Int32)) (t4_0 : (Nat → Int32)) (t5_0 : (Nat → Int32)) (t6_0 : (Nat → Int32)) (lx32 : Int32) (p85 : (Int32 × Int32 × Int32 × Int32 × Int64 × Int32 × Int32 × Int64 × Int32 × Int64 × Int32)) (y51 : Int32) (y52 : Int32) (y53 : Int32) (y54 : Int32) (y55 : Int64) (y56 : Int32) (y57 : Int32) (y58 : Int64) (y59 : Int32) (y60 : Int64) (y61 : Int32) (lx110 : Int32) : Prop := if (0 : Int32) < lx110 then (True) else (if (lg_cmp y58 0 : Int32) = (0 : Int32) then (True) else ((True ∧ S_FR_findShortest lx110 y52 y53 y54 y55 y56 y57 y58 y59 y60 y61 t1_0 t2_0 t3_0 t4_0 t5_0 t6_0) ∧ (S_FR_digits_c69 x2 x3 t0_0 t0_1 t0_2 t0_3 t0_4 t0_5 t0_6 t0_7 t0_8 t0_9 t0_10 t1_0 t2_0 t3_0 t4_0 t5_0 t6_0 lx32 p85 y51 y52 y53 y54 y55 y56 y57 y58 y59 y60 y61 lx110 ((F_FR_findShortest lx110 y52 y53 y54 y55 y56 y57 y58 y59 y60 y61 t1_0 t2_0 t3_0 t4_0 t5_0 t6_0) : (Int32 × Int32 × Int32 × Int32 × Int64 × Int32 × Int32 × Int64 × Int32 × Int64 × Int32 × (Nat → Int32) × (Nat → Int32) × (Nat → Int32) × (Nat → Int32) × (Nat → Int32) × (Nat → Int32))))))
def S_FR_digits_c19 (x2 : Int64) (x3 : Int32) (t0_0 : Int32) (t0_1 : Int32) (t0_2 : Int32) (t0_3 : Int32) (t0_4 : Int64) (t0_5 : Int32) (t0_6 : Int32) (t0_7 : Int64) (t0_8 : Int32) (t0_9 : Int64) (t0_10 : Int32) (t1_0 : (Nat → Int32)) (t2_0 : (Nat → Int32)) (t3_0 : (Nat → Int32)) (t4_0 : (Nat → Int32)) (t5_0 : (Nat → Int32)) (t6_0 : (Nat → Int32)) (lx32 : Int32) (p85 : (Int32 × Int32 × Int32 × Int32 × Int64 × Int32 × Int32 × Int64 × Int32 × Int64 × Int32)) : Prop := if ((F_FR_isWrong x2 x3) : Int32) = (0 : Int32) then (if ((F_FR_isFinite (p85.1 : Int32) (p85.2.1 : Int32) (p85.2.2.1 : Int32) (p85.2.2.2.1 : Int32) (p85.2.2.2.2.1 : Int64) (p85.2.2.2.2.2.1 : Int32) (p85.2.2.2.2.2.2.1 : Int32) (p85.2.2.2.2.2.2.2.1 : Int64) (p85.2.2.2.2.2.2.2.2.1 : Int32) (p85.2.2.2.2.2.2.2.2.2.1 : Int64) (p85.2.2.2.2.2.2.2.2.2.2 : Int32)) : Int32) = (0 : Int32) then (S_FR_digits_J47 x2 x3 t0_0 t0_1 t0_2 t0_3 t0_4 t0_5 t0_6 t0_7 t0_8 t0_9 t0_10 t1_0 t2_0 t3_0 t4_0 t5_0 t6_0 lx32 p85 (p85.1 : Int32) (p85.2.1 : Int32) (p85.2.2.1 : Int32) (p85.2.2.2.1 : Int32) (p85.2.2.2.2.1 : Int64) (p85.2.2.2.2.2.1 : Int32) (p85.2.2.2.2.2.2.1 : Int32) (p85.2.2.2.2.2.2.2.1 : Int64) (p85.2.2.2.2.2.2.2.2.1 : Int32) (p85.2.2.2.2.2.2.2.2.2.1 : Int64) (p85.2.2.2.2.2.2.2.2.2.2 : Int32) 2) else (S_FR_digits_J47 x2 x3 t0_0 t0_1 t0_2 t0_3 t0_4 t0_5 t0_6 t0_7 t0_8 t0_9 t0_10 t1_0 t2_0 t3_0 t4_0 t5_0 t6_0 lx32 p85 (p85.1 : Int32) (p85.2.1 : Int32) (p85.2.2.1 : Int32) (p85.2.2.2.1 : Int32) (p85.2.2.2.2.1 : Int64) (p85.2.2.2.2.2.1 : Int32) (p85.2.2.2.2.2.2.1 : Int32) (p85.2.2.2.2.2.2.2.1 : Int64) (p85.2.2.2.2.2.2.2.2.1 : Int32) (p85.2.2.2.2.2.2.2.2.2.1 : Int64) (p85.2.2.2.2.2.2.2.2.2.2 : Int32) 0)) else (S_FR_digits_J47 x2 x3 t0_0 t0_1 t0_2 t0_3 t0_4 t0_5 t0_6 t0_7 t0_8 t0_9 t0_10 t1_0 t2_0 t3_0 t4_0 t5_0 t6_0 lx32 p85 (p85.1 : Int32) (p85.2.1 : Int32) (p85.2.2.1 : Int32) (p85.2.2.2.1 : Int32) (p85.2.2.2.2.1 : Int64) (p85.2.2.2.2.2.1 : Int32) (p85.2.2.2.2.2.2.1 : Int32) (p85.2.2.2.2.2.2.2.1 : Int64) (p85.2.2.2.2.2.2.2.2.1 : Int32) (p85.2.2.2.2.2.2.2.2.2.1 : Int64) (p85.2.2.2.2.2.2.2.2.2.2 : Int32) 1)
def S_FR_digits_J19 (x2 : Int64) (x3 : Int32) (t0_0 : Int32) (t0_1 : Int32) (t0_2 : Int32) (t0_3 : Int32) (t0_4 : Int64) (t0_5 : Int32) (t0_6 : Int32) (t0_7 : Int64) (t0_8 : Int32) (t0_9 : Int64) (t0_10 : Int32) (t1_0 : (Nat → Int32)) (t2_0 : (Nat → Int32)) (t3_0 : (Nat → Int32)) (t4_0 : (Nat → Int32)) (t5_0 : (Nat → Int32)) (t6_0 : (Nat → Int32)) (lx32 : Int32) : Prop := S_FR_digits_c19 x2 x3 t0_0 t0_1 t0_2 t0_3 t0_4 t0_5 t0_6 t0_7 t0_8 t0_9 t0_10 t1_0 t2_0 t3_0 t4_0 t5_0 t6_0 lx32 ((F_FR_open x2 lx32 t0_0 t0_1 t0_2 t0_3 t0_4 t0_5 t0_6 t0_7 t0_8 t0_9 t0_10) : (Int32 × Int32 × Int32 × Int32 × Int64 × Int32 × Int32 × Int64 × Int32 × Int64 × Int32))
def S_FR_digits_J18 (x2 : Int64) (x3 : Int32) (t0_0 : Int32) (t0_1 : Int32) (t0_2 : Int32) (t0_3 : Int32) (t0_4 : Int64) (t0_5 : Int32) (t0_6 : Int32) (t0_7 : Int64) (t0_8 : Int32) (t0_9 : Int64) (t0_10 : Int32) (t1_0 : (Nat → Int32)) (t2_0 : (Nat → Int32)) (t3_0 : (Nat → Int32)) (t4_0 : (Nat → Int32)) (t5_0 : (Nat → Int32)) (t6_0 : (Nat → Int32)) : Prop := S_FR_digits_J19 x2 x3 t0_0 t0_1 t0_2 t0_3 t0_4 t0_5 t0_6 t0_7 t0_8 t0_9 t0_10 t1_0 t2_0 t3_0 t4_0 t5_0 t6_0 0
def S_FR_digits (x2 : Int64) (x3 : Int32) (t0_0 : Int32) (t0_1 : Int32) (t0_2 : Int32) (t0_3 : Int32) (t0_4 : Int64) (t0_5 : Int32) (t0_6 : Int32) (t0_7 : Int64) (t0_8 : Int32) (t0_9 : Int64) (t0_10 : Int32) (t1_0 : (Nat → Int32)) (t2_0 : (Nat → Int32)) (t3_0 : (Nat → Int32)) (t4_0 : (Nat → Int32)) (t5_0 : (Nat → Int32)) (t6_0 : (Nat → Int32)) : Prop := if x3 = (0 : Int32) then (S_FR_digits_J18 x2 x3 t0_0 t0_1 t0_2 t0_3 t0_4 t0_5 t0_6 t0_7 t0_8 t0_9 t0_10 t1_0 t2_0 t3_0 t4_0 t5_0 t6_0) else (if ((F_FR_isWrong x2 x3) : Int32) = (0 : Int32) then (S_FR_digits_J19 x2 x3 t0_0 t0_1 t0_2 t0_3 t0_4 t0_5 t0_6 t0_7 t0_8 t0_9 t0_10 t1_0 t2_0 t3_0 t4_0 t5_0 t6_0 1) else (S_FR_digits_J18 x2 x3 t0_0 t0_1 t0_2 t0_3 t0_4 t0_5 t0_6 t0_7 t0_8 t0_9 t0_10 t1_0 t2_0 t3_0 t4_0 t5_0 t6_0))
set_option maxRecDepth 100000 in
set_option maxHeartbeats 4000000 in
theorem X_FR_digits (l : Launch) (D : va_G) (g : Nat → ClassId) (q : Nat → Nat) (ws : va_W) (x2 : Int64) (x3 : Int32) (hI : q_I (msh g q) q ws) (t0_0 : Int32) (t0_1 : Int32) (t0_2 : Int32) (t0_3 : Int32) (t0_4 : Int64) (t0_5 : Int32) (t0_6 : Int32) (t0_7 : Int64) (t0_8 : Int32) (t0_9 : Int64) (t0_10 : Int32) (hT0 : ws[145]? = (some (q 145, .inr (15, [.int t0_0, .ref (q 146), .ref (q 147), .ref (q 148), .ref (q 149), .ref (q 150), .ref (q 151), .ref (q 152), .int t0_1, .int t0_2, .int t0_3, .long t0_4, .int t0_5, .int t0_6, .long t0_7, .int t0_8, .long t0_9, .int t0_10])) : Option (Nat × va_E))) (t1_0 : (Nat → Int32)) (hT1 : ws[146]? = (some (q 146, .inl (g 0, (156 : Int32).toNatClampNeg, .inl t1_0)) : Option (Nat × va_E))) (t2_0 : (Nat → Int32)) (hT2 : ws[147]? = (some (q 147, .inl (g 0, (156 : Int32).toNatClampNeg, .inl t2_0)) : Option (Nat × va_E))) (t3_0 : (Nat → Int32)) (hT3 : ws[148]? = (some (q 148, .inl (g 0, (1404 : Int32).toNatClampNeg, .inl t3_0)) : Option (Nat × va_E))) (t4_0 : (Nat → Int32)) (hT4 : ws[149]? = (some (q 149, .inl (g 0, (1404 : Int32).toNatClampNeg, .inl t4_0)) : Option (Nat × va_E))) (t5_0 : (Nat → Int32)) (hT5 : ws[150]? = (some (q 150, .inl (g 0, (1404 : Int32).toNatClampNeg, .inl t5_0)) : Option (Nat × va_E))) (t6_0 : (Nat → Int32)) (hT6 : ws[151]? = (some (q 151, .inl (g 0, (1404 : Int32).toNatClampNeg, .inl t6_0)) : Option (Nat × va_E))) (hzx3 : 0 ≤ x3.toInt ∧ x3.toInt ≤ 1) (hS : True ∧ S_FR_digits x2 x3 t0_0 t0_1 t0_2 t0_3 t0_4 t0_5 t0_6 t0_7 t0_8 t0_9 t0_10 t1_0 t2_0 t3_0 t4_0 t5_0 t6_0) : q_mL l y_FR_digits prog_17_method_33_code 4 5 0 0 D g [.ref (q 145), .long x2, .int x3] ws (fun r u => q_I (msh g q) q u ∧ q_un ws u [145, 146, 147, 148, 149, 150, 151] ∧ ∃ (u0_0 : Int32) (u0_1 : Int32) (u0_2 : Int32) (u0_3 : Int32) (u0_4 : Int64) (u0_5 : Int32) (u0_6 : Int32) (u0_7 : Int64) (u0_8 : Int32) (u0_9 : Int64) (u0_10 : Int32) (u1_0 : (Nat → Int32)) (u2_0 : (Nat → Int32)) (u3_0 : (Nat → Int32)) (u4_0 : (Nat → Int32)) (u5_0 : (Nat → Int32)) (u6_0 : (Nat → Int32)), u[145]? = (some (q 145, .inr (15, [.int u0_0, .ref (q 146), .ref (q 147), .ref (q 148), .ref (q 149), .ref (q 150), .ref (q 151), .ref (q 152), .int u0_1, .int u0_2, .int u0_3, .long u0_4, .int u0_5, .int u0_6, .long u0_7, .int u0_8, .long u0_9, .int u0_10])) : Option (Nat × va_E)) ∧ u[146]? = (some (q 146, .inl (g 0, (156 : Int32).toNatClampNeg, .inl u1_0)) : Option (Nat × va_E)) ∧ u[147]? = (some (q 147, .inl (g 0, (156 : Int32).toNatClampNeg, .inl u2_0)) : Option (Nat × va_E)) ∧ u[148]? = (some (q 148, .inl (g 0, (1404 : Int32).toNatClampNeg, .inl u3_0)) : Option (Nat × va_E)) ∧ u[149]? = (some (q 149, .inl (g 0, (1404 : Int32).toNatClampNeg, .inl u4_0)) : Option (Nat × va_E)) ∧ u[150]? = (some (q 150, .inl (g 0, (1404 : Int32).toNatClampNeg, .inl u5_0)) : Option (Nat × va_E)) ∧ u[151]? = (some (q 151, .inl (g 0, (1404 : Int32).toNatClampNeg, .inl u6_0)) : Option (Nat × va_E)) ∧ (0 ≤ u0_0.toInt) ∧ (u0_0.toInt ≤ 2) ∧ (0 ≤ u0_2.toInt) ∧ (u0_2.toInt ≤ 1) ∧ (0 ≤ u0_3.toInt) ∧ (23 ≤ u0_5.toInt) ∧ (u0_5.toInt ≤ 52) ∧ (255 ≤ u0_6.toInt) ∧ (u0_6.toInt ≤ 2047) ∧ (0 ≤ u0_8.toInt + 1074) ∧ (t0_1.toInt ≤ u0_1.toInt) ∧ (u0_1.toInt ≤ t0_1.toInt) ∧ (u0_8.toInt ≤ x3.toInt + 1896) ∧ (u0_3.toInt ≤ u0_6.toInt) ∧ (u0_8.toInt + 149 ≤ u0_3.toInt) ∧ (u0_3.toInt ≤ u0_8.toInt + 1075) ∧ (u0_8.toInt + 150 ≤ u0_6.toInt) ∧ (r, u0_0, u0_1, u0_2, u0_3, u0_4, u0_5, u0_6, u0_7, u0_8, u0_9, u0_10, u1_0, u2_0, u3_0, u4_0, u5_0, u6_0) = (F_FR_digits x2 x3 t0_0 t0_1 t0_2 t0_3 t0_4 t0_5 t0_6 t0_7 t0_8 t0_9 t0_10 t1_0 t2_0 t3_0 t4_0 t5_0 t6_0)) := by
  intro sz
  refine q_into (by decide) (Nat.le_of_ble_eq_true rfl) ?_
  intro p e s m below meth c ls hsz C0 V hl
  have hx := C0.1
  have hb := C0.2.1
  replace hzx3 : q_F (0 ≤ x3.toInt ∧ x3.toInt ≤ 1) := hzx3
  have btt0_2 := n_w145 hI hT0
  clear btt0_2
  have hF : q_un ws ws [145, 146, 147, 148, 149, 150, 151] := q_u0
  have hl : lv_has ls 4 [(0, .ref (q 145)), (1, .long x2), (3, .int x3)] := hl
  refine lv_aload_n hx hb d_17_33_0 rfl (lv_at hl 0 rfl) ?_
  refine lv_lload_n hx hb d_17_33_1 rfl (lv_at hl 1 rfl) ?_
  refine lv_iload_n hx hb d_17_33_2 rfl (lv_at hl 2 rfl) ?_
  refine q_join (X := Int32) (fun z H locs ls _ => q_F (0 ≤ z.toInt) ∧ q_F (z.toInt ≤ x3.toInt) ∧ q_Wd D g (va_A ws sz) s ws H locs ∧ lv_has ls 4 [(0, .ref (q 145)), (1, .long x2), (3, .int x3)] ∧ F_FR_digits_J19 x2 x3 t0_0 t0_1 t0_2 t0_3 t0_4 t0_5 t0_6 t0_7 t0_8 t0_9 t0_10 t1_0 t2_0 t3_0 t4_0 t5_0 t6_0 z = (F_FR_digits x2 x3 t0_0 t0_1 t0_2 t0_3 t0_4 t0_5 t0_6 t0_7 t0_8 t0_9 t0_10 t1_0 t2_0 t3_0 t4_0 t5_0 t6_0) ∧ True ∧ S_FR_digits_J19 x2 x3 t0_0 t0_1 t0_2 t0_3 t0_4 t0_5 t0_6 t0_7 t0_8 t0_9 t0_10 t1_0 t2_0 t3_0 t4_0 t5_0 t6_0 z) (fun z => [.int z, .long x2, .ref (q 145)]) 19 0 0 ?_ ?_
  ·
    rintro lx32 H locs ls _ hZ9
    obtain ⟨i41, hZ9⟩ := hZ9
    obtain ⟨i42, hZ9⟩ := hZ9
    obtain ⟨V, hZ9⟩ := hZ9
    obtain ⟨hl, hZ9⟩ := hZ9
    obtain ⟨hR43, hS44⟩ := hZ9
    replace i41 : q_F (0 ≤ lx32.toInt) := i41
    replace i42 : q_F (lx32.toInt ≤ x3.toInt) := i42
    replace hl : lv_has ls 4 [(0, .ref (q 145)), (1, .long x2), (3, .int x3)] := hl
    refine q_gov V (q_runV (As := [.long x2, .int lx32]) (rest := []) (d := 1) (mc := 0) (ms := 0) (ci := 15) C0 V rfl LV_FR_126 (X_FR_open l D g q ws  x2 lx32 hI t0_0 t0_1 t0_2 t0_3 t0_4 t0_5 t0_6 t0_7 t0_8 t0_9 t0_10 hT0 ⟨(by first | with_reducible exact q_fe i41 | (have t1 : 0 ≤ lx32.toInt := i41; omega)), (by have t1 : 0 ≤ x3.toInt ∧ x3.toInt ≤ 1 := hzx3; have t2 : lx32.toInt ≤ x3.toInt := i42; omega)⟩ _) rfl rfl hT0 rfl hl.1 rfl (Nat.le_of_ble_eq_true rfl) ⟨by decide, by decide⟩ ⟨Nat.le_of_ble_eq_true rfl, Nat.le_of_ble_eq_true rfl⟩ d_17_33_19) (fun u48 H locs hp49 V => ?_)
    obtain ⟨hI, hZ9⟩ := hp49
    obtain ⟨hu84, hZ9⟩ := hZ9
    obtain ⟨y51, hZ9⟩ := hZ9
    obtain ⟨y52, hZ9⟩ := hZ9
    obtain ⟨y53, hZ9⟩ := hZ9
    obtain ⟨y54, hZ9⟩ := hZ9
    obtain ⟨y55, hZ9⟩ := hZ9
    obtain ⟨y56, hZ9⟩ := hZ9
    obtain ⟨y57, hZ9⟩ := hZ9
    obtain ⟨y58, hZ9⟩ := hZ9
    obtain ⟨y59, hZ9⟩ := hZ9
    obtain ⟨y60, hZ9⟩ := hZ9
    obtain ⟨y61, hZ9⟩ := hZ9
    obtain ⟨hO50, hZ9⟩ := hZ9
    obtain ⟨b62, hZ9⟩ := hZ9
    obtain ⟨b63, hZ9⟩ := hZ9
    obtain ⟨b64, hZ9⟩ := hZ9
    obtain ⟨b65, hZ9⟩ := hZ9
    obtain ⟨b66, hZ9⟩ := hZ9
    obtain ⟨b67, hZ9⟩ := hZ9
    obtain ⟨b68, hZ9⟩ := hZ9
    replace hZ9 := hZ9.2.2
    obtain ⟨b71, hZ9⟩ := hZ9
    obtain ⟨b72, hZ9⟩ := hZ9
    obtain ⟨b73, hZ9⟩ := hZ9
    obtain ⟨b74, hZ9⟩ := hZ9
    replace hZ9 := hZ9.2.2.2.2
    obtain ⟨b79, hZ9⟩ := hZ9
    obtain ⟨b80, hZ9⟩ := hZ9
    obtain ⟨b81, hZ9⟩ := hZ9
    obtain ⟨b82, hE83⟩ := hZ9
    replace hO50 : u48[145]? = (some (q 145, .inr (15, [.int y51, .ref (q 146), .ref (q 147), .ref (q 148), .ref (q 149), .ref (q 150), .ref (q 151), .ref (q 152), .int y52, .int y53, .int y54, .long y55, .int y56, .int y57, .long y58, .int y59, .long y60, .int y61])) : Option (Nat × va_E)) := hO50
    obtain ⟨p85, e86⟩ : ∃ z, z = (F_FR_open x2 lx32 t0_0 t0_1 t0_2 t0_3 t0_4 t0_5 t0_6 t0_7 t0_8 t0_9 t0_10) := ⟨_, rfl⟩
    have e87 : y51 = p85.1 := congrArg (fun z => z.1) (hE83.trans e86.symm)
    have e88 : y52 = p85.2.1 := congrArg (fun z => z.2.1) (hE83.trans e86.symm)
    have e89 : y53 = p85.2.2.1 := congrArg (fun z => z.2.2.1) (hE83.trans e86.symm)
    have e90 : y54 = p85.2.2.2.1 := congrArg (fun z => z.2.2.2.1) (hE83.trans e86.symm)
    have e91 : y55 = p85.2.2.2.2.1 := congrArg (fun z => z.2.2.2.2.1) (hE83.trans e86.symm)
    have e92 : y56 = p85.2.2.2.2.2.1 := congrArg (fun z => z.2.2.2.2.2.1) (hE83.trans e86.symm)
    have e93 : y57 = p85.2.2.2.2.2.2.1 := congrArg (fun z => z.2.2.2.2.2.2.1) (hE83.trans e86.symm)
    have e94 : y58 = p85.2.2.2.2.2.2.2.1 := congrArg (fun z => z.2.2.2.2.2.2.2.1) (hE83.trans e86.symm)
    have e95 : y59 = p85.2.2.2.2.2.2.2.2.1 := congrArg (fun z => z.2.2.2.2.2.2.2.2.1) (hE83.trans e86.symm)
    have e96 : y60 = p85.2.2.2.2.2.2.2.2.2.1 := congrArg (fun z => z.2.2.2.2.2.2.2.2.2.1) (hE83.trans e86.symm)
    have e97 : y61 = p85.2.2.2.2.2.2.2.2.2.2 := congrArg (fun z => z.2.2.2.2.2.2.2.2.2.2) (hE83.trans e86.symm)
    replace b62 : q_F (0 ≤ y53.toInt) := b62
    replace b63 : q_F (y53.toInt ≤ 1) := b63
    replace b64 : q_F (0 ≤ y54.toInt) := b64
    replace b65 : q_F (23 ≤ y56.toInt) := b65
    replace b66 : q_F (y56.toInt ≤ 52) := b66
    replace b67 : q_F (255 ≤ y57.toInt) := b67
    replace b68 : q_F (y57.toInt ≤ 2047) := b68
    replace b71 : q_F (t0_1.toInt ≤ y52.toInt) := b71
    replace b72 : q_F (y52.toInt ≤ t0_1.toInt) := b72
    replace b73 : q_F (lx32.toInt ≤ y59.toInt + 1074) := b73
    replace b74 : q_F (y59.toInt ≤ lx32.toInt + 1896) := b74
    replace b79 : q_F (y54.toInt ≤ y57.toInt) := b79
    replace b80 : q_F (y59.toInt + 149 ≤ y54.toInt) := b80
    replace b81 : q_F (y54.toInt ≤ y59.toInt + 1075) := b81
    replace b82 : q_F (y59.toInt + 150 ≤ y57.toInt) := b82
    replace hT1 := (hu84 _ (by decide)).trans hT1
    replace hT2 := (hu84 _ (by decide)).trans hT2
    replace hT3 := (hu84 _ (by decide)).trans hT3
    replace hT4 := (hu84 _ (by decide)).trans hT4
    replace hT5 := (hu84 _ (by decide)).trans hT5
    replace hT6 := (hu84 _ (by decide)).trans hT6
    replace hF := q_uc hF hu84 (by simp)
    have hR98 := (show F_FR_digits_c19 x2 x3 t0_0 t0_1 t0_2 t0_3 t0_4 t0_5 t0_6 t0_7 t0_8 t0_9 t0_10 t1_0 t2_0 t3_0 t4_0 t5_0 t6_0 lx32 p85 = (F_FR_digits x2 x3 t0_0 t0_1 t0_2 t0_3 t0_4 t0_5 t0_6 t0_7 t0_8 t0_9 t0_10 t1_0 t2_0 t3_0 t4_0 t5_0 t6_0) from Eq.trans (by rw [e86, F_FR_digits_J19.eq_1]) hR43)
    have hS99 := (show True ∧ S_FR_digits_c19 x2 x3 t0_0 t0_1 t0_2 t0_3 t0_4 t0_5 t0_6 t0_7 t0_8 t0_9 t0_10 t1_0 t2_0 t3_0 t4_0 t5_0 t6_0 lx32 p85 from (by rw [e86]; have h := hS44; rw [S_FR_digits_J19.eq_1] at h; with_reducible exact h))
    refine lv_aload_n hx hb d_17_33_22 rfl (lv_at hl 0 rfl) ?_
    refine lv_lload_n hx hb d_17_33_23 rfl (lv_at hl 1 rfl) ?_
    refine lv_iload_n hx hb d_17_33_24 rfl (lv_at hl 2 rfl) ?_
    refine q_goi V (q_runS (As := [.long x2, .int x3]) (rest := [.ref (q 145)]) (d := 1) (mc := 0) (ms := 0) C0 V rfl LS_FR_122 (X_FR_isWrong l D g q u48  x2 x3 hI  (by first | with_reducible exact q_fe hzx3 | exact ⟨(by have t1 : 0 ≤ x3.toInt ∧ x3.toInt ≤ 1 := hzx3; omega), (by have t1 : 0 ≤ x3.toInt ∧ x3.toInt ≤ 1 := hzx3; omega)⟩) _) rfl hl.1 rfl (Nat.le_of_ble_eq_true rfl) ⟨by decide, by decide⟩ ⟨Nat.le_of_ble_eq_true rfl, Nat.le_of_ble_eq_true rfl⟩ d_17_33_25) (fun a105 u103 H locs hp104 V => ?_)
    obtain ⟨rfl, b106, b107, hE108⟩ := hp104
    have e109 : a105 = (F_FR_isWrong x2 x3) := hE108
    clear b106
    clear b107
    refine q_join (X := Int32) (fun z H locs ls _ => q_F (0 ≤ z.toInt) ∧ q_F (z.toInt ≤ 2) ∧ q_Wd D g (va_A ws sz) s u48 H locs ∧ lv_has ls 4 [(0, .ref (q 145))] ∧ F_FR_digits_J47 x2 x3 t0_0 t0_1 t0_2 t0_3 t0_4 t0_5 t0_6 t0_7 t0_8 t0_9 t0_10 t1_0 t2_0 t3_0 t4_0 t5_0 t6_0 lx32 p85 y51 y52 y53 y54 y55 y56 y57 y58 y59 y60 y61 z = (F_FR_digits x2 x3 t0_0 t0_1 t0_2 t0_3 t0_4 t0_5 t0_6 t0_7 t0_8 t0_9 t0_10 t1_0 t2_0 t3_0 t4_0 t5_0 t6_0) ∧ True ∧ S_FR_digits_J47 x2 x3 t0_0 t0_1 t0_2 t0_3 t0_4 t0_5 t0_6 t0_7 t0_8 t0_9 t0_10 t1_0 t2_0 t3_0 t4_0 t5_0 t6_0 lx32 p85 y51 y52 y53 y54 y55 y56 y57 y58 y59 y60 y61 z) (fun z => [.int z, .ref (q 145)]) 47 0 0 ?_ ?_
    ·
      rintro lx110 H locs ls _ hZ9
      obtain ⟨i119, hZ9⟩ := hZ9
      obtain ⟨i120, hZ9⟩ := hZ9
      obtain ⟨V, hZ9⟩ := hZ9
      obtain ⟨hl, hZ9⟩ := hZ9
      obtain ⟨hR121, hS122⟩ := hZ9
      replace i119 : q_F (0 ≤ lx110.toInt) := i119
      replace i120 : q_F (lx110.toInt ≤ 2) := i120
      replace hl : lv_has ls 4 [(0, .ref (q 145))] := hl
      refine q_put (ci := 15) (j := 0) (v := .int lx110) (ty := .int) C0 V i_FR o_FR n_FR rfl rfl hO50 (by decide) w_2074 rfl rfl rfl rfl (Nat.le_of_ble_eq_true rfl) d_17_33_47 (fun H locs w126 hu127 hO50 V => ?_)
      replace hO50 : w126[145]? = (some (q 145, .inr (15, [.int lx110, .ref (q 146), .ref (q 147), .ref (q 148), .ref (q 149), .ref (q 150), .ref (q 151), .ref (q 152), .int y52, .int y53, .int y54, .long y55, .int y56, .int y57, .long y58, .int y59, .long y60, .int y61])) : Option (Nat × va_E)) := hO50
      replace hI := n_p145 hI hu127 hO50 ⟨(by first | with_reducible exact q_fe b62 | (have t1 : 0 ≤ y53.toInt := b62; omega)), (by first | with_reducible exact q_fe b63 | (have t1 : y53.toInt ≤ 1 := b63; omega))⟩
      replace hT1 := (hu127 _ (by decide)).trans hT1
      replace hT2 := (hu127 _ (by decide)).trans hT2
      replace hT3 := (hu127 _ (by decide)).trans hT3
      replace hT4 := (hu127 _ (by decide)).trans hT4
      replace hT5 := (hu127 _ (by decide)).trans hT5
      replace hT6 := (hu127 _ (by decide)).trans hT6
      replace hF := q_us hF hu127 (by simp)
      refine lv_aload_n hx hb d_17_33_50 rfl (lv_at hl 0 rfl) ?_
      refine q_get (ci := 15) (j := 0) (v := .int lx110) C0 V i_FR rfl rfl hO50 (by decide) w_2074 rfl d_17_33_51 ?_
      refine lv_if_gt (tgt := 66) hx hb d_17_33_54 (by decide) (fun c128 => ?_) (fun c128 => ?_)
      ·
        refine lv_lconst (v := 0) hx hb d_17_33_66 (by decide) ?_
        exact q_retl C0 V (⟨hI, hF, lx110, y52, y53, y54, y55, y56, y57, y58, y59, y60, y61, t1_0, t2_0, t3_0, t4_0, t5_0, t6_0, hO50, hT1, hT2, hT3, hT4, hT5, hT6, (show 0 ≤ lx110.toInt from (by have z19 : (0 : Int64).toInt = 0 := rfl; have t1 : 0 ≤ lx110.toInt := i119; omega)), (show lx110.toInt ≤ 2 from (by have z19 : (0 : Int64).toInt = 0 := rfl; have t1 : lx110.toInt ≤ 2 := i120; omega)), (show 0 ≤ y53.toInt from (by have z19 : (0 : Int64).toInt = 0 := rfl; have t1 : 0 ≤ y53.toInt := b62; omega)), (show y53.toInt ≤ 1 from (by have z19 : (0 : Int64).toInt = 0 := rfl; have t1 : y53.toInt ≤ 1 := b63; omega)), (show 0 ≤ y54.toInt from (by have z19 : (0 : Int64).toInt = 0 := rfl; have t1 : 0 ≤ y54.toInt := b64; omega)), (show 23 ≤ y56.toInt from (by have z19 : (0 : Int64).toInt = 0 := rfl; have t1 : 23 ≤ y56.toInt := b65; omega)), (show y56.toInt ≤ 52 from (by have z19 : (0 : Int64).toInt = 0 := rfl; have t1 : y56.toInt ≤ 52 := b66; omega)), (show 255 ≤ y57.toInt from (by have z19 : (0 : Int64).toInt = 0 := rfl; have t1 : 255 ≤ y57.toInt := b67; omega)), (show y57.toInt ≤ 2047 from (by have z19 : (0 : Int64).toInt = 0 := rfl; have t1 : y57.toInt ≤ 2047 := b68; omega)), (show 0 ≤ y59.toInt + 1074 from (by have z19 : (0 : Int64).toInt = 0 := rfl; have t1 : 0 ≤ lx32.toInt := i41; have t2 : lx32.toInt ≤ y59.toInt + 1074 := b73; omega)), (show t0_1.toInt ≤ y52.toInt from (by have z19 : (0 : Int64).toInt = 0 := rfl; have t1 : t0_1.toInt ≤ y52.toInt := b71; omega)), (show y52.toInt ≤ t0_1.toInt from (by have z19 : (0 : Int64).toInt = 0 := rfl; have t1 : y52.toInt ≤ t0_1.toInt := b72; omega)), (show y59.toInt ≤ x3.toInt + 1896 from (by have z19 : (0 : Int64).toInt = 0 := rfl; have t1 : lx32.toInt ≤ x3.toInt := i42; have t2 : y59.toInt ≤ lx32.toInt + 1896 := b74; omega)), (show y54.toInt ≤ y57.toInt from (by have z19 : (0 : Int64).toInt = 0 := rfl; have t1 : y54.toInt ≤ y57.toInt := b79; omega)), (show y59.toInt + 149 ≤ y54.toInt from (by have z19 : (0 : Int64).toInt = 0 := rfl; have t1 : y59.toInt + 149 ≤ y54.toInt := b80; omega)), (show y54.toInt ≤ y59.toInt + 1075 from (by have z19 : (0 : Int64).toInt = 0 := rfl; have t1 : y54.toInt ≤ y59.toInt + 1075 := b81; omega)), (show y59.toInt + 150 ≤ y57.toInt from (by have z19 : (0 : Int64).toInt = 0 := rfl; have t1 : y59.toInt + 150 ≤ y57.toInt := b82; omega)), (show ((0 : Int64), lx110, y52, y53, y54, y55, y56, y57, y58, y59, y60, y61, t1_0, t2_0, t3_0, t4_0, t5_0, t6_0) = (F_FR_digits x2 x3 t0_0 t0_1 t0_2 t0_3 t0_4 t0_5 t0_6 t0_7 t0_8 t0_9 t0_10 t1_0 t2_0 t3_0 t4_0 t5_0 t6_0) from Eq.trans (by rw [F_FR_digits_J47.eq_1, if_pos c128]) hR121)⟩) d_17_33_67
      ·
        refine lv_aload_n hx hb d_17_33_57 rfl (lv_at hl 0 rfl) ?_
        refine q_get (ci := 15) (j := 14) (v := .long y58) C0 V i_FR rfl rfl hO50 (by decide) w_2090 rfl d_17_33_58 ?_
        refine lv_lconst (v := 0) hx hb d_17_33_61 (by decide) ?_
        refine W.lcmp hx hb d_17_33_62 ?_
        obtain ⟨a131, e132⟩ := q_nm (lg_cmp y58 0 : Int32)
        refine q_ti (v := a131) e132 ?_
        refine lv_if_ne (tgt := 68) hx hb d_17_33_63 (by decide) (fun c134 => ?_) (fun c134 => ?_)
        ·
          refine lv_aload_n hx hb d_17_33_68 rfl (lv_at hl 0 rfl) ?_
          have ob136 : True ∧ S_FR_findShortest lx110 y52 y53 y54 y55 y56 y57 y58 y59 y60 y61 t1_0 t2_0 t3_0 t4_0 t5_0 t6_0 := (by have h := hS122; rw [S_FR_digits_J47.eq_1] at h; rw [if_neg c128] at h; have c134x := c134; rw [← e132] at c134x; rw [if_neg c134x] at h; with_reducible exact h.2.1)
          refine q_gov V (q_runV (As := []) (rest := []) (d := 4) (mc := 0) (ms := 0) (ci := 15) C0 V rfl LV_FR_136 (X_FR_findShortest l D g q w126   hI lx110 y52 y53 y54 y55 y56 y57 y58 y59 y60 y61 hO50 t1_0 hT1 t2_0 hT2 t3_0 hT3 t4_0 hT4 t5_0 hT5 t6_0 hT6 ob136 _) rfl rfl hO50 rfl hl.1 rfl (Nat.le_of_ble_eq_true rfl) ⟨by decide, by decide⟩ ⟨Nat.le_of_ble_eq_true rfl, Nat.le_of_ble_eq_true rfl⟩ d_17_33_69) (fun u137 H locs hp138 V => ?_)
          obtain ⟨hI, hZ9⟩ := hp138
          obtain ⟨hu182, hZ9⟩ := hZ9
          obtain ⟨y140, hZ9⟩ := hZ9
          obtain ⟨y141, hZ9⟩ := hZ9
          obtain ⟨y142, hZ9⟩ := hZ9
          obtain ⟨y143, hZ9⟩ := hZ9
          obtain ⟨y144, hZ9⟩ := hZ9
          obtain ⟨y145, hZ9⟩ := hZ9
          obtain ⟨y146, hZ9⟩ := hZ9
          obtain ⟨y147, hZ9⟩ := hZ9
          obtain ⟨y148, hZ9⟩ := hZ9
          obtain ⟨y149, hZ9⟩ := hZ9
          obtain ⟨y150, hZ9⟩ := hZ9
          obtain ⟨f151, hZ9⟩ := hZ9
          obtain ⟨f153, hZ9⟩ := hZ9
          obtain ⟨f155, hZ9⟩ := hZ9
          obtain ⟨f157, hZ9⟩ := hZ9
          obtain ⟨f159, hZ9⟩ := hZ9
          obtain ⟨f161, hZ9⟩ := hZ9
          obtain ⟨hO139, hZ9⟩ := hZ9
          obtain ⟨hA152, hZ9⟩ := hZ9
          obtain ⟨hA154, hZ9⟩ := hZ9
          obtain ⟨hA156, hZ9⟩ := hZ9
          obtain ⟨hA158, hZ9⟩ := hZ9
          obtain ⟨hA160, hZ9⟩ := hZ9
          obtain ⟨hA162, hZ9⟩ := hZ9
          obtain ⟨b163, hZ9⟩ := hZ9
          obtain ⟨b164, hZ9⟩ := hZ9
          obtain ⟨b165, hZ9⟩ := hZ9
          obtain ⟨b166, hZ9⟩ := hZ9
          obtain ⟨b167, hZ9⟩ := hZ9
          obtain ⟨b168, hZ9⟩ := hZ9
          obtain ⟨b169, hZ9⟩ := hZ9
          obtain ⟨b170, hZ9⟩ := hZ9
          replace hZ9 := hZ9.2.2
          obtain ⟨b173, hZ9⟩ := hZ9
          obtain ⟨b174, hZ9⟩ := hZ9
          obtain ⟨b175, hZ9⟩ := hZ9
          obtain ⟨b176, hZ9⟩ := hZ9
          replace hZ9 := hZ9.2.2
          obtain ⟨b179, hZ9⟩ := hZ9
          obtain ⟨b180, hE181⟩ := hZ9
          replace hO139 : u137[145]? = (some (q 145, .inr (15, [.int y140, .ref (q 146), .ref (q 147), .ref (q 148), .ref (q 149), .ref (q 150), .ref (q 151), .ref (q 152), .int y141, .int y142, .int y143, .long y144, .int y145, .int y146, .long y147, .int y148, .long y149, .int y150])) : Option (Nat × va_E)) := hO139
          replace hA152 : u137[146]? = (some (q 146, .inl (g 0, (156 : Int32).toNatClampNeg, .inl f151)) : Option (Nat × va_E)) := hA152
          replace hA154 : u137[147]? = (some (q 147, .inl (g 0, (156 : Int32).toNatClampNeg, .inl f153)) : Option (Nat × va_E)) := hA154
          replace hA156 : u137[148]? = (some (q 148, .inl (g 0, (1404 : Int32).toNatClampNeg, .inl f155)) : Option (Nat × va_E)) := hA156
          replace hA158 : u137[149]? = (some (q 149, .inl (g 0, (1404 : Int32).toNatClampNeg, .inl f157)) : Option (Nat × va_E)) := hA158
          replace hA160 : u137[150]? = (some (q 150, .inl (g 0, (1404 : Int32).toNatClampNeg, .inl f159)) : Option (Nat × va_E)) := hA160
          replace hA162 : u137[151]? = (some (q 151, .inl (g 0, (1404 : Int32).toNatClampNeg, .inl f161)) : Option (Nat × va_E)) := hA162
          obtain ⟨p183, e184⟩ : ∃ z, z = (F_FR_findShortest lx110 y52 y53 y54 y55 y56 y57 y58 y59 y60 y61 t1_0 t2_0 t3_0 t4_0 t5_0 t6_0) := ⟨_, rfl⟩
          have e185 : y140 = p183.1 := congrArg (fun z => z.1) (hE181.trans e184.symm)
          have e186 : y141 = p183.2.1 := congrArg (fun z => z.2.1) (hE181.trans e184.symm)
          have e187 : y142 = p183.2.2.1 := congrArg (fun z => z.2.2.1) (hE181.trans e184.symm)
          have e188 : y143 = p183.2.2.2.1 := congrArg (fun z => z.2.2.2.1) (hE181.trans e184.symm)
          have e189 : y144 = p183.2.2.2.2.1 := congrArg (fun z => z.2.2.2.2.1) (hE181.trans e184.symm)
          have e190 : y145 = p183.2.2.2.2.2.1 := congrArg (fun z => z.2.2.2.2.2.1) (hE181.trans e184.symm)
          have e191 : y146 = p183.2.2.2.2.2.2.1 := congrArg (fun z => z.2.2.2.2.2.2.1) (hE181.trans e184.symm)
          have e192 : y147 = p183.2.2.2.2.2.2.2.1 := congrArg (fun z => z.2.2.2.2.2.2.2.1) (hE181.trans e184.symm)
          have e193 : y148 = p183.2.2.2.2.2.2.2.2.1 := congrArg (fun z => z.2.2.2.2.2.2.2.2.1) (hE181.trans e184.symm)
          have e194 : y149 = p183.2.2.2.2.2.2.2.2.2.1 := congrArg (fun z => z.2.2.2.2.2.2.2.2.2.1) (hE181.trans e184.symm)
          have e195 : y150 = p183.2.2.2.2.2.2.2.2.2.2.1 := congrArg (fun z => z.2.2.2.2.2.2.2.2.2.2.1) (hE181.trans e184.symm)
          have e196 : f151 = p183.2.2.2.2.2.2.2.2.2.2.2.1 := congrArg (fun z => z.2.2.2.2.2.2.2.2.2.2.2.1) (hE181.trans e184.symm)
          have e197 : f153 = p183.2.2.2.2.2.2.2.2.2.2.2.2.1 := congrArg (fun z => z.2.2.2.2.2.2.2.2.2.2.2.2.1) (hE181.trans e184.symm)
          have e198 : f155 = p183.2.2.2.2.2.2.2.2.2.2.2.2.2.1 := congrArg (fun z => z.2.2.2.2.2.2.2.2.2.2.2.2.2.1) (hE181.trans e184.symm)
          have e199 : f157 = p183.2.2.2.2.2.2.2.2.2.2.2.2.2.2.1 := congrArg (fun z => z.2.2.2.2.2.2.2.2.2.2.2.2.2.2.1) (hE181.trans e184.symm)
          have e200 : f159 = p183.2.2.2.2.2.2.2.2.2.2.2.2.2.2.2.1 := congrArg (fun z => z.2.2.2.2.2.2.2.2.2.2.2.2.2.2.2.1) (hE181.trans e184.symm)
          have e201 : f161 = p183.2.2.2.2.2.2.2.2.2.2.2.2.2.2.2.2 := congrArg (fun z => z.2.2.2.2.2.2.2.2.2.2.2.2.2.2.2.2) (hE181.trans e184.symm)
          replace b163 : q_F (lx110.toInt ≤ y140.toInt) := b163
          replace b164 : q_F (y140.toInt ≤ lx110.toInt) := b164
          replace b165 : q_F (y52.toInt ≤ y141.toInt) := b165
          replace b166 : q_F (y141.toInt ≤ y52.toInt) := b166
          replace b167 : q_F (y53.toInt ≤ y142.toInt) := b167
          replace b168 : q_F (y142.toInt ≤ y53.toInt) := b168
          replace b169 : q_F (y54.toInt ≤ y143.toInt) := b169
          replace b170 : q_F (y143.toInt ≤ y54.toInt) := b170
          replace b173 : q_F (y56.toInt ≤ y145.toInt) := b173
          replace b174 : q_F (y145.toInt ≤ y56.toInt) := b174
          replace b175 : q_F (y57.toInt ≤ y146.toInt) := b175
          replace b176 : q_F (y146.toInt ≤ y57.toInt) := b176
          replace b179 : q_F (y59.toInt ≤ y148.toInt) := b179
          replace b180 : q_F (y148.toInt ≤ y59.toInt) := b180
          replace hF := q_uc hF hu182 (by simp)
          have hR202 := (show F_FR_digits_c69 x2 x3 t0_0 t0_1 t0_2 t0_3 t0_4 t0_5 t0_6 t0_7 t0_8 t0_9 t0_10 t1_0 t2_0 t3_0 t4_0 t5_0 t6_0 lx32 p85 y51 y52 y53 y54 y55 y56 y57 y58 y59 y60 y61 lx110 p183 = (F_FR_digits x2 x3 t0_0 t0_1 t0_2 t0_3 t0_4 t0_5 t0_6 t0_7 t0_8 t0_9 t0_10 t1_0 t2_0 t3_0 t4_0 t5_0 t6_0) from Eq.trans (by have c134x := c134; rw [← e132] at c134x; rw [e184, F_FR_digits_J47.eq_1, if_neg c128, if_neg c134x]) hR121)
          have hS203 := (show True ∧ S_FR_digits_c69 x2 x3 t0_0 t0_1 t0_2 t0_3 t0_4 t0_5 t0_6 t0_7 t0_8 t0_9 t0_10 t1_0 t2_0 t3_0 t4_0 t5_0 t6_0 lx32 p85 y51 y52 y53 y54 y55 y56 y57 y58 y59 y60 y61 lx110 p183 from (by rw [e184]; have h := hS122; rw [S_FR_digits_J47.eq_1] at h; rw [if_neg c128] at h; have c134x := c134; rw [← e132] at c134x; rw [if_neg c134x] at h; replace h := q_s2 h; with_reducible exact h))
          refine lv_aload_n hx hb d_17_33_72 rfl (lv_at hl 0 rfl) ?_
          refine q_get (ci := 15) (j := 16) (v := .long y149) C0 V i_FR rfl rfl hO139 (by decide) w_2092 rfl d_17_33_73 ?_
          exact q_retl C0 V (⟨hI, hF, y140, y141, y142, y143, y144, y145, y146, y147, y148, y149, y150, f151, f153, f155, f157, f159, f161, hO139, hA152, hA154, hA156, hA158, hA160, hA162, (show 0 ≤ y140.toInt from (by have t1 : 0 ≤ lx110.toInt := i119; have t2 : lx110.toInt ≤ y140.toInt := b163; omega)), (show y140.toInt ≤ 2 from (by have t1 : lx110.toInt ≤ 2 := i120; have t2 : y140.toInt ≤ lx110.toInt := b164; omega)), (show 0 ≤ y142.toInt from (by have t1 : 0 ≤ y53.toInt := b62; have t2 : y53.toInt ≤ y142.toInt := b167; omega)), (show y142.toInt ≤ 1 from (by have t1 : y53.toInt ≤ 1 := b63; have t2 : y142.toInt ≤ y53.toInt := b168; omega)), (show 0 ≤ y143.toInt from (by have t1 : 0 ≤ y54.toInt := b64; have t2 : y54.toInt ≤ y143.toInt := b169; omega)), (show 23 ≤ y145.toInt from (by have t1 : 23 ≤ y56.toInt := b65; have t2 : y56.toInt ≤ y145.toInt := b173; omega)), (show y145.toInt ≤ 52 from (by have t1 : y56.toInt ≤ 52 := b66; have t2 : y145.toInt ≤ y56.toInt := b174; omega)), (show 255 ≤ y146.toInt from (by have t1 : 255 ≤ y57.toInt := b67; have t2 : y57.toInt ≤ y146.toInt := b175; omega)), (show y146.toInt ≤ 2047 from (by have t1 : y57.toInt ≤ 2047 := b68; have t2 : y146.toInt ≤ y57.toInt := b176; omega)), (show 0 ≤ y148.toInt + 1074 from (by have t1 : 0 ≤ lx32.toInt := i41; have t2 : lx32.toInt ≤ y59.toInt + 1074 := b73; have t3 : y59.toInt ≤ y148.toInt := b179; omega)), (show t0_1.toInt ≤ y141.toInt from (by have t1 : t0_1.toInt ≤ y52.toInt := b71; have t2 : y52.toInt ≤ y141.toInt := b165; omega)), (show y141.toInt ≤ t0_1.toInt from (by have t1 : y52.toInt ≤ t0_1.toInt := b72; have t2 : y141.toInt ≤ y52.toInt := b166; omega)), (show y148.toInt ≤ x3.toInt + 1896 from (by have t1 : lx32.toInt ≤ x3.toInt := i42; have t2 : y59.toInt ≤ lx32.toInt + 1896 := b74; have t3 : y148.toInt ≤ y59.toInt := b180; omega)), (show y143.toInt ≤ y146.toInt from (by have t1 : y54.toInt ≤ y57.toInt := b79; have t2 : y143.toInt ≤ y54.toInt := b170; have t3 : y57.toInt ≤ y146.toInt := b175; omega)), (show y148.toInt + 149 ≤ y143.toInt from (by have t1 : y59.toInt + 149 ≤ y54.toInt := b80; have t2 : y54.toInt ≤ y143.toInt := b169; have t3 : y148.toInt ≤ y59.toInt := b180; omega)), (show y143.toInt ≤ y148.toInt + 1075 from (by have t1 : y54.toInt ≤ y59.toInt + 1075 := b81; have t2 : y143.toInt ≤ y54.toInt := b170; have t3 : y59.toInt ≤ y148.toInt := b179; omega)), (show y148.toInt + 150 ≤ y146.toInt from (by have t1 : y59.toInt + 150 ≤ y57.toInt := b82; have t2 : y57.toInt ≤ y146.toInt := b175; have t3 : y148.toInt ≤ y59.toInt := b180; omega)), (show (y149, y140, y141, y142, y143, y144, y145, y146, y147, y148, y149, y150, f151, f153, f155, f157, f159, f161) = (F_FR_digits x2 x3 t0_0 t0_1 t0_2 t0_3 t0_4 t0_5 t0_6 t0_7 t0_8 t0_9 t0_10 t1_0 t2_0 t3_0 t4_0 t5_0 t6_0) from Eq.trans (by rw [e201, e200, e199, e198, e197, e196, e195, e194, e193, e192, e191, e190, e189, e188, e187, e186, e185, F_FR_digits_c69.eq_1]) hR202)⟩) d_17_33_76
        ·
          refine lv_lconst (v := 0) hx hb d_17_33_66 (by decide) ?_
          exact q_retl C0 V (⟨hI, hF, lx110, y52, y53, y54, y55, y56, y57, y58, y59, y60, y61, t1_0, t2_0, t3_0, t4_0, t5_0, t6_0, hO50, hT1, hT2, hT3, hT4, hT5, hT6, (show 0 ≤ lx110.toInt from (by have z19 : (0 : Int64).toInt = 0 := rfl; have t1 : 0 ≤ lx110.toInt := i119; omega)), (show lx110.toInt ≤ 2 from (by have z19 : (0 : Int64).toInt = 0 := rfl; have t1 : lx110.toInt ≤ 2 := i120; omega)), (show 0 ≤ y53.toInt from (by have z19 : (0 : Int64).toInt = 0 := rfl; have t1 : 0 ≤ y53.toInt := b62; omega)), (show y53.toInt ≤ 1 from (by have z19 : (0 : Int64).toInt = 0 := rfl; have t1 : y53.toInt ≤ 1 := b63; omega)), (show 0 ≤ y54.toInt from (by have z19 : (0 : Int64).toInt = 0 := rfl; have t1 : 0 ≤ y54.toInt := b64; omega)), (show 23 ≤ y56.toInt from (by have z19 : (0 : Int64).toInt = 0 := rfl; have t1 : 23 ≤ y56.toInt := b65; omega)), (show y56.toInt ≤ 52 from (by have z19 : (0 : Int64).toInt = 0 := rfl; have t1 : y56.toInt ≤ 52 := b66; omega)), (show 255 ≤ y57.toInt from (by have z19 : (0 : Int64).toInt = 0 := rfl; have t1 : 255 ≤ y57.toInt := b67; omega)), (show y57.toInt ≤ 2047 from (by have z19 : (0 : Int64).toInt = 0 := rfl; have t1 : y57.toInt ≤ 2047 := b68; omega)), (show 0 ≤ y59.toInt + 1074 from (by have z19 : (0 : Int64).toInt = 0 := rfl; have t1 : 0 ≤ lx32.toInt := i41; have t2 : lx32.toInt ≤ y59.toInt + 1074 := b73; omega)), (show t0_1.toInt ≤ y52.toInt from (by have z19 : (0 : Int64).toInt = 0 := rfl; have t1 : t0_1.toInt ≤ y52.toInt := b71; omega)), (show y52.toInt ≤ t0_1.toInt from (by have z19 : (0 : Int64).toInt = 0 := rfl; have t1 : y52.toInt ≤ t0_1.toInt := b72; omega)), (show y59.toInt ≤ x3.toInt + 1896 from (by have z19 : (0 : Int64).toInt = 0 := rfl; have t1 : lx32.toInt ≤ x3.toInt := i42; have t2 : y59.toInt ≤ lx32.toInt + 1896 := b74; omega)), (show y54.toInt ≤ y57.toInt from (by have z19 : (0 : Int64).toInt = 0 := rfl; have t1 : y54.toInt ≤ y57.toInt := b79; omega)), (show y59.toInt + 149 ≤ y54.toInt from (by have z19 : (0 : Int64).toInt = 0 := rfl; have t1 : y59.toInt + 149 ≤ y54.toInt := b80; omega)), (show y54.toInt ≤ y59.toInt + 1075 from (by have z19 : (0 : Int64).toInt = 0 := rfl; have t1 : y54.toInt ≤ y59.toInt + 1075 := b81; omega)), (show y59.toInt + 150 ≤ y57.toInt from (by have z19 : (0 : Int64).toInt = 0 := rfl; have t1 : y59.toInt + 150 ≤ y57.toInt := b82; omega)), (show ((0 : Int64), lx110, y52, y53, y54, y55, y56, y57, y58, y59, y60, y61, t1_0, t2_0, t3_0, t4_0, t5_0, t6_0) = (F_FR_digits x2 x3 t0_0 t0_1 t0_2 t0_3 t0_4 t0_5 t0_6 t0_7 t0_8 t0_9 t0_10 t1_0 t2_0 t3_0 t4_0 t5_0 t6_0) from Eq.trans (by have c134x := c134; rw [← e132] at c134x; rw [F_FR_digits_J47.eq_1, if_neg c128, if_pos c134x]) hR121)⟩) d_17_33_67
    ·
      intro J118
      refine lv_if_eq (tgt := 35) hx hb d_17_33_28 (by decide) (fun c208 => ?_) (fun c208 => ?_)
      ·
        refine lv_aload_n hx hb d_17_33_35 rfl (lv_at hl 0 rfl) ?_
        refine q_goi V (q_runV (As := []) (rest := [.ref (q 145)]) (d := 1) (mc := 0) (ms := 0) (ci := 15) C0 V rfl LV_FR_130 (X_FR_isFinite l D g q u48   hI y51 y52 y53 y54 y55 y56 y57 y58 y59 y60 y61 hO50  _) rfl rfl hO50 rfl hl.1 rfl (Nat.le_of_ble_eq_true rfl) ⟨by decide, by decide⟩ ⟨Nat.le_of_ble_eq_true rfl, Nat.le_of_ble_eq_true rfl⟩ d_17_33_36) (fun a212 u210 H locs hp211 V => ?_)
        obtain ⟨rfl, b213, b214, hE215⟩ := hp211
        have e216 : a212 = (F_FR_isFinite y51 y52 y53 y54 y55 y56 y57 y58 y59 y60 y61) := hE215
        clear b213
        clear b214
        refine lv_if_ne (tgt := 46) hx hb d_17_33_39 (by decide) (fun c217 => ?_) (fun c217 => ?_)
        ·
          refine lv_iconst (v := 0) hx hb d_17_33_46 (by decide) ?_
          exact J118 ((0 : Int32)) _ _ _ u48 ⟨(show q_F (0 ≤ 0) from (show 0 ≤ 0 from by omega)), (show q_F (0 ≤ 2) from (show 0 ≤ 2 from by omega)), V, q_lw hl (q_lw1 0 rfl q_lw0), (show F_FR_digits_J47 x2 x3 t0_0 t0_1 t0_2 t0_3 t0_4 t0_5 t0_6 t0_7 t0_8 t0_9 t0_10 t1_0 t2_0 t3_0 t4_0 t5_0 t6_0 lx32 p85 y51 y52 y53 y54 y55 y56 y57 y58 y59 y60 y61 0 = (F_FR_digits x2 x3 t0_0 t0_1 t0_2 t0_3 t0_4 t0_5 t0_6 t0_7 t0_8 t0_9 t0_10 t1_0 t2_0 t3_0 t4_0 t5_0 t6_0) from Eq.trans (by have c208x := c208; rw [e109] at c208x; have c217x := c217; rw [e216, e97, e96, e95, e94, e93, e92, e91, e90, e89, e88, e87] at c217x; rw [e97, e96, e95, e94, e93, e92, e91, e90, e89, e88, e87, F_FR_digits_c19.eq_1, if_pos c208x, if_neg c217x]) hR98), (show True ∧ S_FR_digits_J47 x2 x3 t0_0 t0_1 t0_2 t0_3 t0_4 t0_5 t0_6 t0_7 t0_8 t0_9 t0_10 t1_0 t2_0 t3_0 t4_0 t5_0 t6_0 lx32 p85 y51 y52 y53 y54 y55 y56 y57 y58 y59 y60 y61 0 from (by rw [e97, e96, e95, e94, e93, e92, e91, e90, e89, e88, e87]; have h := hS99; rw [S_FR_digits_c19.eq_1] at h; have c208x := c208; rw [e109] at c208x; rw [if_pos c208x] at h; have c217x := c217; rw [e216, e97, e96, e95, e94, e93, e92, e91, e90, e89, e88, e87] at c217x; rw [if_neg c217x] at h; with_reducible exact h))⟩
        ·
          refine lv_iconst (v := 2) hx hb d_17_33_42 (by decide) ?_
          refine lv_goto (tgt := 47) hx hb d_17_33_43 (by decide) ?_
          exact J118 ((2 : Int32)) _ _ _ u48 ⟨(show q_F (0 ≤ 2) from (show 0 ≤ 2 from by omega)), (show q_F (2 ≤ 2) from (show 2 ≤ 2 from by omega)), V, q_lw hl (q_lw1 0 rfl q_lw0), (show F_FR_digits_J47 x2 x3 t0_0 t0_1 t0_2 t0_3 t0_4 t0_5 t0_6 t0_7 t0_8 t0_9 t0_10 t1_0 t2_0 t3_0 t4_0 t5_0 t6_0 lx32 p85 y51 y52 y53 y54 y55 y56 y57 y58 y59 y60 y61 2 = (F_FR_digits x2 x3 t0_0 t0_1 t0_2 t0_3 t0_4 t0_5 t0_6 t0_7 t0_8 t0_9 t0_10 t1_0 t2_0 t3_0 t4_0 t5_0 t6_0) from Eq.trans (by have c208x := c208; rw [e109] at c208x; have c217x := c217; rw [e216, e97, e96, e95, e94, e93, e92, e91, e90, e89, e88, e87] at c217x; rw [e97, e96, e95, e94, e93, e92, e91, e90, e89, e88, e87, F_FR_digits_c19.eq_1, if_pos c208x, if_pos c217x]) hR98), (show True ∧ S_FR_digits_J47 x2 x3 t0_0 t0_1 t0_2 t0_3 t0_4 t0_5 t0_6 t0_7 t0_8 t0_9 t0_10 t1_0 t2_0 t3_0 t4_0 t5_0 t6_0 lx32 p85 y51 y52 y53 y54 y55 y56 y57 y58 y59 y60 y61 2 from (by rw [e97, e96, e95, e94, e93, e92, e91, e90, e89, e88, e87]; have h := hS99; rw [S_FR_digits_c19.eq_1] at h; have c208x := c208; rw [e109] at c208x; rw [if_pos c208x] at h; have c217x := c217; rw [e216, e97, e96, e95, e94, e93, e92, e91, e90, e89, e88, e87] at c217x; rw [if_pos c217x] at h; with_reducible exact h))⟩
      ·
        refine lv_iconst (v := 1) hx hb d_17_33_31 (by decide) ?_
        refine lv_goto (tgt := 47) hx hb d_17_33_32 (by decide) ?_
        exact J118 ((1 : Int32)) _ _ _ u48 ⟨(show q_F (0 ≤ 1) from (show 0 ≤ 1 from by omega)), (show q_F (1 ≤ 2) from (show 1 ≤ 2 from by omega)), V, q_lw hl (q_lw1 0 rfl q_lw0), (show F_FR_digits_J47 x2 x3 t0_0 t0_1 t0_2 t0_3 t0_4 t0_5 t0_6 t0_7 t0_8 t0_9 t0_10 t1_0 t2_0 t3_0 t4_0 t5_0 t6_0 lx32 p85 y51 y52 y53 y54 y55 y56 y57 y58 y59 y60 y61 1 = (F_FR_digits x2 x3 t0_0 t0_1 t0_2 t0_3 t0_4 t0_5 t0_6 t0_7 t0_8 t0_9 t0_10 t1_0 t2_0 t3_0 t4_0 t5_0 t6_0) from Eq.trans (by have c208x := c208; rw [e109] at c208x; rw [e97, e96, e95, e94, e93, e92, e91, e90, e89, e88, e87, F_FR_digits_c19.eq_1, if_neg c208x]) hR98), (show True ∧ S_FR_digits_J47 x2 x3 t0_0 t0_1 t0_2 t0_3 t0_4 t0_5 t0_6 t0_7 t0_8 t0_9 t0_10 t1_0 t2_0 t3_0 t4_0 t5_0 t6_0 lx32 p85 y51 y52 y53 y54 y55 y56 y57 y58 y59 y60 y61 1 from (by rw [e97, e96, e95, e94, e93, e92, e91, e90, e89, e88, e87]; have h := hS99; rw [S_FR_digits_c19.eq_1] at h; have c208x := c208; rw [e109] at c208x; rw [if_neg c208x] at h; with_reducible exact h))⟩
  ·
    intro J40
    refine q_join (X := Unit) (fun z H locs ls _ => q_Wd D g (va_A ws sz) s ws H locs ∧ lv_has ls 4 [(0, .ref (q 145)), (1, .long x2), (3, .int x3)] ∧ F_FR_digits_J18 x2 x3 t0_0 t0_1 t0_2 t0_3 t0_4 t0_5 t0_6 t0_7 t0_8 t0_9 t0_10 t1_0 t2_0 t3_0 t4_0 t5_0 t6_0 = (F_FR_digits x2 x3 t0_0 t0_1 t0_2 t0_3 t0_4 t0_5 t0_6 t0_7 t0_8 t0_9 t0_10 t1_0 t2_0 t3_0 t4_0 t5_0 t6_0) ∧ True ∧ S_FR_digits_J18 x2 x3 t0_0 t0_1 t0_2 t0_3 t0_4 t0_5 t0_6 t0_7 t0_8 t0_9 t0_10 t1_0 t2_0 t3_0 t4_0 t5_0 t6_0) (fun z => [.long x2, .ref (q 145)]) 18 0 0 ?_ ?_
    ·
      rintro _ H locs ls _ ⟨V, hl, hR229, hS230⟩
      replace hl : lv_has ls 4 [(0, .ref (q 145)), (1, .long x2), (3, .int x3)] := hl
      refine lv_iconst (v := 0) hx hb d_17_33_18 (by decide) ?_
      exact J40 ((0 : Int32)) _ _ _ ws ⟨(show q_F (0 ≤ 0) from (show 0 ≤ 0 from by omega)), (show q_F (0 ≤ x3.toInt) from (show 0 ≤ x3.toInt from by have t1 : 0 ≤ x3.toInt ∧ x3.toInt ≤ 1 := hzx3; omega)), V, q_lw hl (q_lw1 0 rfl (q_lw1 1 rfl (q_lw1 2 rfl q_lw0))), (show F_FR_digits_J19 x2 x3 t0_0 t0_1 t0_2 t0_3 t0_4 t0_5 t0_6 t0_7 t0_8 t0_9 t0_10 t1_0 t2_0 t3_0 t4_0 t5_0 t6_0 0 = (F_FR_digits x2 x3 t0_0 t0_1 t0_2 t0_3 t0_4 t0_5 t0_6 t0_7 t0_8 t0_9 t0_10 t1_0 t2_0 t3_0 t4_0 t5_0 t6_0) from Eq.trans (by rw [F_FR_digits_J18.eq_1]) hR229), (show True ∧ S_FR_digits_J19 x2 x3 t0_0 t0_1 t0_2 t0_3 t0_4 t0_5 t0_6 t0_7 t0_8 t0_9 t0_10 t1_0 t2_0 t3_0 t4_0 t5_0 t6_0 0 from (by have h := hS230; rw [S_FR_digits_J18.eq_1] at h; with_reducible exact h))⟩
    ·
      intro J228
      refine lv_if_eq (tgt := 18) hx hb d_17_33_3 (by decide) (fun c234 => ?_) (fun c234 => ?_)
      ·
        exact J228 (()) _ _ _ ws ⟨V, q_lw hl (q_lw1 0 rfl (q_lw1 1 rfl (q_lw1 2 rfl q_lw0))), (show F_FR_digits_J18 x2 x3 t0_0 t0_1 t0_2 t0_3 t0_4 t0_5 t0_6 t0_7 t0_8 t0_9 t0_10 t1_0 t2_0 t3_0 t4_0 t5_0 t6_0 = (F_FR_digits x2 x3 t0_0 t0_1 t0_2 t0_3 t0_4 t0_5 t0_6 t0_7 t0_8 t0_9 t0_10 t1_0 t2_0 t3_0 t4_0 t5_0 t6_0) from (by rw [F_FR_digits.eq_1, if_pos c234])), (show True ∧ S_FR_digits_J18 x2 x3 t0_0 t0_1 t0_2 t0_3 t0_4 t0_5 t0_6 t0_7 t0_8 t0_9 t0_10 t1_0 t2_0 t3_0 t4_0 t5_0 t6_0 from (by have h := hS; rw [S_FR_digits.eq_1] at h; rw [if_pos c234] at h; with_reducible exact h))⟩
      ·
        have b236 : q_F (x3.toInt ≠ 0) := (q_neI c234)
        refine lv_lload_n hx hb d_17_33_6 rfl (lv_at hl 1 rfl) ?_
        refine lv_iload_n hx hb d_17_33_7 rfl (lv_at hl 2 rfl) ?_
        refine q_goi V (q_runS (As := [.long x2, .int x3]) (rest := [.long x2, .ref (q 145)]) (d := 1) (mc := 0) (ms := 0) C0 V rfl LS_FR_122 (X_FR_isWrong l D g q ws  x2 x3 hI  (by first | with_reducible exact q_fe hzx3 | exact ⟨(by have t1 : 0 ≤ x3.toInt ∧ x3.toInt ≤ 1 := hzx3; omega), (by have t1 : 0 ≤ x3.toInt ∧ x3.toInt ≤ 1 := hzx3; omega)⟩) _) rfl hl.1 rfl (Nat.le_of_ble_eq_true rfl) ⟨by decide, by decide⟩ ⟨Nat.le_of_ble_eq_true rfl, Nat.le_of_ble_eq_true rfl⟩ d_17_33_8) (fun a239 u237 H locs hp238 V => ?_)
        obtain ⟨rfl, b240, b241, hE242⟩ := hp238
        have e243 : a239 = (F_FR_isWrong x2 x3) := hE242
        clear b240
        clear b241
        refine lv_if_ne (tgt := 18) hx hb d_17_33_11 (by decide) (fun c244 => ?_) (fun c244 => ?_)
        ·
          exact J228 (()) _ _ _ ws ⟨V, q_lw hl (q_lw1 0 rfl (q_lw1 1 rfl (q_lw1 2 rfl q_lw0))), (show F_FR_digits_J18 x2 x3 t0_0 t0_1 t0_2 t0_3 t0_4 t0_5 t0_6 t0_7 t0_8 t0_9 t0_10 t1_0 t2_0 t3_0 t4_0 t5_0 t6_0 = (F_FR_digits x2 x3 t0_0 t0_1 t0_2 t0_3 t0_4 t0_5 t0_6 t0_7 t0_8 t0_9 t0_10 t1_0 t2_0 t3_0 t4_0 t5_0 t6_0) from (by have c244x := c244; rw [e243] at c244x; rw [F_FR_digits.eq_1, if_neg c234, if_neg c244x])), (show True ∧ S_FR_digits_J18 x2 x3 t0_0 t0_1 t0_2 t0_3 t0_4 t0_5 t0_6 t0_7 t0_8 t0_9 t0_10 t1_0 t2_0 t3_0 t4_0 t5_0 t6_0 from (by have h := hS; rw [S_FR_digits.eq_1] at h; rw [if_neg c234] at h; have c244x := c244; rw [e243] at c244x; rw [if_neg c244x] at h; with_reducible exact h))⟩
        ·
          refine lv_iconst (v := 1) hx hb d_17_33_14 (by decide) ?_
          refine lv_goto (tgt := 19) hx hb d_17_33_15 (by decide) ?_
          exact J40 ((1 : Int32)) _ _ _ ws ⟨(show q_F (0 ≤ 1) from (show 0 ≤ 1 from by omega)), (show q_F (1 ≤ x3.toInt) from (show 1 ≤ x3.toInt from by have t1 : 0 ≤ x3.toInt ∧ x3.toInt ≤ 1 := hzx3; have t2 : x3.toInt ≠ 0 := b236; omega)), V, q_lw hl (q_lw1 0 rfl (q_lw1 1 rfl (q_lw1 2 rfl q_lw0))), (show F_FR_digits_J19 x2 x3 t0_0 t0_1 t0_2 t0_3 t0_4 t0_5 t0_6 t0_7 t0_8 t0_9 t0_10 t1_0 t2_0 t3_0 t4_0 t5_0 t6_0 1 = (F_FR_digits x2 x3 t0_0 t0_1 t0_2 t0_3 t0_4 t0_5 t0_6 t0_7 t0_8 t0_9 t0_10 t1_0 t2_0 t3_0 t4_0 t5_0 t6_0) from (by have c244x := c244; rw [e243] at c244x; rw [F_FR_digits.eq_1, if_neg c234, if_pos c244x])), (show True ∧ S_FR_digits_J19 x2 x3 t0_0 t0_1 t0_2 t0_3 t0_4 t0_5 t0_6 t0_7 t0_8 t0_9 t0_10 t1_0 t2_0 t3_0 t4_0 t5_0 t6_0 1 from (by have h := hS; rw [S_FR_digits.eq_1] at h; rw [if_neg c234] at h; have c244x := c244; rw [e243] at c244x; rw [if_pos c244x] at h; with_reducible exact h))⟩
theorem d_17_34_0 : decode prog_17_method_34_code 0 = .ok (.aload_n 0, 1) := by decide +kernel
theorem d_17_34_1 : decode prog_17_method_34_code 1 = .ok (.lload_n 1, 1) := by decide +kernel
theorem d_17_34_2 : decode prog_17_method_34_code 2 = .ok (.iload_n 3, 1) := by decide +kernel
theorem d_17_34_19 : decode prog_17_method_34_code 19 = .ok (.invokevirtual 126, 3) := by decide +kernel
theorem d_17_34_22 : decode prog_17_method_34_code 22 = .ok (.aload_n 0, 1) := by decide +kernel
theorem d_17_34_23 : decode prog_17_method_34_code 23 = .ok (.lload_n 1, 1) := by decide +kernel
theorem d_17_34_24 : decode prog_17_method_34_code 24 = .ok (.iload_n 3, 1) := by decide +kernel
theorem d_17_34_25 : decode prog_17_method_34_code 25 = .ok (.invokestatic 122, 3) := by decide +kernel
theorem d_17_34_47 : decode prog_17_method_34_code 47 = .ok (.putfield 31, 3) := by decide +kernel
theorem d_17_34_50 : decode prog_17_method_34_code 50 = .ok (.aload_n 0, 1) := by decide +kernel
theorem d_17_34_51 : decode prog_17_method_34_code 51 = .ok (.getfield 31, 3) := by decide +kernel
theorem d_17_34_54 : decode prog_17_method_34_code 54 = .ok (.ifCond .gt 12, 3) := by decide +kernel
theorem d_17_34_66 : decode prog_17_method_34_code 66 = .ok (.iconst 0, 1) := by decide +kernel
theorem d_17_34_67 : decode prog_17_method_34_code 67 = .ok (.ireturn, 1) := by decide +kernel
theorem d_17_34_57 : decode prog_17_method_34_code 57 = .ok (.aload_n 0, 1) := by decide +kernel
theorem d_17_34_58 : decode prog_17_method_34_code 58 = .ok (.getfield 52, 3) := by decide +kernel
theorem d_17_34_61 : decode prog_17_method_34_code 61 = .ok (.lconst 0, 1) := by decide +kernel
theorem d_17_34_62 : decode prog_17_method_34_code 62 = .ok (.lcmp, 1) := by decide +kernel
theorem d_17_34_63 : decode prog_17_method_34_code 63 = .ok (.ifCond .ne 5, 3) := by decide +kernel
theorem d_17_34_68 : decode prog_17_method_34_code 68 = .ok (.aload_n 0, 1) := by decide +kernel
theorem d_17_34_69 : decode prog_17_method_34_code 69 = .ok (.invokevirtual 136, 3) := by decide +kernel
theorem d_17_34_72 : decode prog_17_method_34_code 72 = .ok (.aload_n 0, 1) := by decide +kernel
theorem d_17_34_73 : decode prog_17_method_34_code 73 = .ok (.getfield 95, 3) := by decide +kernel
theorem d_17_34_76 : decode prog_17_method_34_code 76 = .ok (.sipush 1080, 3) := by decide +kernel
theorem d_17_34_79 : decode prog_17_method_34_code 79 = .ok (.isub, 1) := by decide +kernel
theorem d_17_34_80 : decode prog_17_method_34_code 80 = .ok (.ireturn, 1) := by decide +kernel
theorem d_17_34_28 : decode prog_17_method_34_code 28 = .ok (.ifCond .eq 7, 3) := by decide +kernel
theorem d_17_34_35 : decode prog_17_method_34_code 35 = .ok (.aload_n 0, 1) := by decide +kernel
theorem d_17_34_36 : decode prog_17_method_34_code 36 = .ok (.invokevirtual 130, 3) := by decide +kernel
theorem d_17_34_39 : decode prog_17_method_34_code 39 = .ok (.ifCond .ne 7, 3) := by decide +kernel
theorem d_17_34_46 : decode prog_17_method_34_code 46 = .ok (.iconst 0, 1) := by decide +kernel
theorem d_17_34_42 : decode prog_17_method_34_code 42 = .ok (.iconst 2, 1) := by decide +kernel
theorem d_17_34_43 : decode prog_17_method_34_code 43 = .ok (.goto 4, 3) := by decide +kernel
theorem d_17_34_31 : decode prog_17_method_34_code 31 = .ok (.iconst 1, 1) := by decide +kernel
theorem d_17_34_32 : decode prog_17_method_34_code 32 = .ok (.goto 15, 3) := by decide +kernel
theorem d_17_34_18 : decode prog_17_method_34_code 18 = .ok (.iconst 0, 1) := by decide +kernel
theorem d_17_34_3 : decode prog_17_method_34_code 3 = .ok (.ifCond .eq 15, 3) := by decide +kernel
theorem d_17_34_6 : decode prog_17_method_34_code 6 = .ok (.lload_n 1, 1) := by decide +kernel
theorem d_17_34_7 : decode prog_17_method_34_code 7 = .ok (.iload_n 3, 1) := by decide +kernel
theorem d_17_34_8 : decode prog_17_method_34_code 8 = .ok (.invokestatic 122, 3) := by decide +kernel
theorem d_17_34_11 : decode prog_17_method_34_code 11 = .ok (.ifCond .ne 7, 3) := by decide +kernel
theorem d_17_34_14 : decode prog_17_method_34_code 14 = .ok (.iconst 1, 1) := by decide +kernel
theorem d_17_34_15 : decode prog_17_method_34_code 15 = .ok (.goto 4, 3) := by decide +kernel
def y_FR_power : MethodName := ⟨"NumberHouseModel$FloatRows", "power", "(JZ)I"⟩
def F_FR_power_c69 (x2 : Int64) (x3 : Int32) (t0_0 : Int32) (t0_1 : Int32) (t0_2 : Int32) (t0_3 : Int32) (t0_4 : Int64) (t0_5 : Int32) (t0_6 : Int32) (t0_7 : Int64) (t0_8 : Int32) (t0_9 : Int64) (t0_10 : Int32) (t1_0 : (Nat → Int32)) (t2_0 : (Nat → Int32)) (t3_0 : (Nat → Int32)) (t4_0 : (Nat → Int32)) (t5_0 : (Nat → Int32)) (t6_0 : (Nat → Int32)) (lx32 : Int32) (p85 : (Int32 × Int32 × Int32 × Int32 × Int64 × Int32 × Int32 × Int64 × Int32 × Int64 × Int32)) (y51 : Int32) (y52 : Int32) (y53 : Int32) (y54 : Int32) (y55 : Int64) (y56 : Int32) (y57 : Int32) (y58 : Int64) (y59 : Int32) (y60 : Int64) (y61 : Int32) (lx110 : Int32) (p183 : (Int32 × Int32 × Int32 × Int32 × Int64 × Int32 × Int32 × Int64 × Int32 × Int64 × Int32 × (Nat → Int32) × (Nat → Int32) × (Nat → Int32) × (Nat → Int32) × (Nat → Int32) × (Nat → Int32))) : Int32 × Int32 × Int32 × Int32 × Int32 × Int64 × Int32 × Int32 × Int64 × Int32 × Int64 × Int32 × (Nat → Int32) × (Nat → Int32) × (Nat → Int32) × (Nat → Int32) × (Nat → Int32) × (Nat → Int32) := (((p183.2.2.2.2.2.2.2.2.2.2.1 : Int32) - 1080 : Int32), (p183.1 : Int32), (p183.2.1 : Int32), (p183.2.2.1 : Int32), (p183.2.2.2.1 : Int32), (p183.2.2.2.2.1 : Int64), (p183.2.2.2.2.2.1 : Int32), (p183.2.2.2.2.2.2.1 : Int32), (p183.2.2.2.2.2.2.2.1 : Int64), (p183.2.2.2.2.2.2.2.2.1 : Int32), (p183.2.2.2.2.2.2.2.2.2.1 : Int64), (p183.2.2.2.2.2.2.2.2.2.2.1 : Int32), (p183.2.2.2.2.2.2.2.2.2.2.2.1 : (Nat → Int32)), (p183.2.2.2.2.2.2.2.2.2.2.2.2.1 : (Nat → Int32)), (p183.2.2.2.2.2.2.2.2.2.2.2.2.2.1 : (Nat → Int32)), (p183.2.2.2.2.2.2.2.2.2.2.2.2.2.2.1 : (Nat → Int32)), (p183.2.2.2.2.2.2.2.2.2.2.2.2.2.2.2.1 : (Nat → Int32)), (p183.2.2.2.2.2.2.2.2.2.2.2.2.2.2.2.2 : (Nat → Int32)))
def F_FR_power_J47 (x2 : Int64) (x3 : Int32) (t0_0 : Int32) (t0_1 : Int32) (t0_2 : Int32) (t0_3 : Int32) (t0_4 : Int64) (t0_5 : Int32) (t0_6 : Int32) (t0_7 : Int64) (t0_8 : Int32) (t0_9 : Int64) (t0_10 : Int32) (t1_0 : (Nat → Int32)) (t2_0 : (Nat → Int32)) (t3_0 : (Nat → Int32)) (t4_0 : (Nat → Int32)) (t5_0 : (Nat → Int32)) (t6_0 : (Nat → Int32)) (lx32 : Int32) (p85 : (Int32 × Int32 × Int32 × Int32 × Int64 × Int32 × Int32 × Int64 × Int32 × Int64 × Int32)) (y51 : Int32) (y52 : Int32) (y53 : Int32) (y54 : Int32) (y55 : Int64) (y56 : Int32) (y57 : Int32) (y58 : Int64) (y59 : Int32) (y60 : Int64) (y61 : Int32) (lx110 : Int32) : Int32 × Int32 × Int32 × Int32 × Int32 × Int64 × Int32 × Int32 × Int64 × Int32 × Int64 × Int32 × (Nat → Int32) × (Nat → Int32) × (Nat → Int32) × (Nat → Int32) × (Nat → Int32) × (Nat → Int32) := if (0 : Int32) < lx110 then (((0 : Int32), lx110, y52, y53, y54, y55, y56, y57, y58, y59, y60, y61, t1_0, t2_0, t3_0, t4_0, t5_0, t6_0)) else (if (lg_cmp y58 0 : Int32) = (0 : Int32) then (((0 : Int32), lx110, y52, y53, y54, y55, y56, y57, y58, y59, y60, y61, t1_0, t2_0, t3_0, t4_0, t5_0, t6_0)) else (F_FR_power_c69 x2 x3 t0_0 t0_1 t0_2 t0_3 t0_4 t0_5 t0_6 t0_7 t0_8 t0_9 t0_10 t1_0 t2_0 t3_0 t4_0 t5_0 t6_0 lx32 p85 y51 y52 y53 y54 y55 y56 y57 y58 y59 y60 y61 lx110 ((F_FR_findShortest lx110 y52 y53 y54 y55 y56 y57 y58 y59 y60 y61 t1_0 t2_0 t3_0 t4_0 t5_0 t6_0) : (Int32 × Int32 × Int32 × Int32 × Int64 × Int32 × Int32 × Int64 × Int32 × Int64 × Int32 × (Nat → Int32) × (Nat → Int32) × (Nat → Int32) × (Nat → Int32) × (Nat → Int32) × (Nat → Int32)))))
def F_FR_power_c19 (x2 : Int64) (x3 : Int32) (t0_0 : Int32) (t0_1 : Int32) (t0_2 : Int32) (t0_3 : Int32) (t0_4 : Int64) (t0_5 : Int32) (t0_6 : Int32) (t0_7 : Int64) (t0_8 : Int32) (t0_9 : Int64) (t0_10 : Int32) (t1_0 : (Nat → Int32)) (t2_0 : (Nat → Int32)) (t3_0 : (Nat → Int32)) (t4_0 : (Nat → Int32)) (t5_0 : (Nat → Int32)) (t6_0 : (Nat → Int32)) (lx32 : Int32) (p85 : (Int32 × Int32 × Int32 × Int32 × Int64 × Int32 × Int32 × Int64 × Int32 × Int64 × Int32)) : Int32 × Int32 × Int32 × Int32 × Int32 × Int64 × Int32 × Int32 × Int64 × Int32 × Int64 × Int32 × (Nat → Int32) × (Nat → Int32) × (Nat → Int32) × (Nat → Int32) × (Nat → Int32) × (Nat → Int32) := if ((F_FR_isWrong x2 x3) : Int32) = (0 : Int32) then (if ((F_FR_isFinite (p85.1 : Int32) (p85.2.1 : Int32) (p85.2.2.1 : Int32) (p85.2.2.2.1 : Int32) (p85.2.2.2.2.1 : Int64) (p85.2.2.2.2.2.1 : Int32) (p85.2.2.2.2.2.2.1 : Int32) (p85.2.2.2.2.2.2.2.1 : Int64) (p85.2.2.2.2.2.2.2.2.1 : Int32) (p85.2.2.2.2.2.2.2.2.2.1 : Int64) (p85.2.2.2.2.2.2.2.2.2.2 : Int32)) : Int32) = (0 : Int32) then (F_FR_power_J47 x2 x3 t0_0 t0_1 t0_2 t0_3 t0_4 t0_5 t0_6 t0_7 t0_8 t0_9 t0_10 t1_0 t2_0 t3_0 t4_0 t5_0 t6_0 lx32 p85 (p85.1 : Int32) (p85.2.1 : Int32) (p85.2.2.1 : Int32) (p85.2.2.2.1 : Int32) (p85.2.2.2.2.1 : Int64) (p85.2.2.2.2.2.1 : Int32) (p85.2.2.2.2.2.2.1 : Int32) (p85.2.2.2.2.2.2.2.1 : Int64) (p85.2.2.2.2.2.2.2.2.1 : Int32) (p85.2.2.2.2.2.2.2.2.2.1 : Int64) (p85.2.2.2.2.2.2.2.2.2.2 : Int32) 2) else (F_FR_power_J47 x2 x3 t0_0 t0_1 t0_2 t0_3 t0_4 t0_5 t0_6 t0_7 t0_8 t0_9 t0_10 t1_0 t2_0 t3_0 t4_0 t5_0 t6_0 lx32 p85 (p85.1 : Int32) (p85.2.1 : Int32) (p85.2.2.1 : Int32) (p85.2.2.2.1 : Int32) (p85.2.2.2.2.1 : Int64) (p85.2.2.2.2.2.1 : Int32) (p85.2.2.2.2.2.2.1 : Int32) (p85.2.2.2.2.2.2.2.1 : Int64) (p85.2.2.2.2.2.2.2.2.1 : Int32) (p85.2.2.2.2.2.2.2.2.2.1 : Int64) (p85.2.2.2.2.2.2.2.2.2.2 : Int32) 0)) else (F_FR_power_J47 x2 x3 t0_0 t0_1 t0_2 t0_3 t0_4 t0_5 t0_6 t0_7 t0_8 t0_9 t0_10 t1_0 t2_0 t3_0 t4_0 t5_0 t6_0 lx32 p85 (p85.1 : Int32) (p85.2.1 : Int32) (p85.2.2.1 : Int32) (p85.2.2.2.1 : Int32) (p85.2.2.2.2.1 : Int64) (p85.2.2.2.2.2.1 : Int32) (p85.2.2.2.2.2.2.1 : Int32) (p85.2.2.2.2.2.2.2.1 : Int64) (p85.2.2.2.2.2.2.2.2.1 : Int32) (p85.2.2.2.2.2.2.2.2.2.1 : Int64) (p85.2.2.2.2.2.2.2.2.2.2 : Int32) 1)
def F_FR_power_J19 (x2 : Int64) (x3 : Int32) (t0_0 : Int32) (t0_1 : Int32) (t0_2 : Int32) (t0_3 : Int32) (t0_4 : Int64) (t0_5 : Int32) (t0_6 : Int32) (t0_7 : Int64) (t0_8 : Int32) (t0_9 : Int64) (t0_10 : Int32) (t1_0 : (Nat → Int32)) (t2_0 : (Nat → Int32)) (t3_0 : (Nat → Int32)) (t4_0 : (Nat → Int32)) (t5_0 : (Nat → Int32)) (t6_0 : (Nat → Int32)) (lx32 : Int32) : Int32 × Int32 × Int32 × Int32 × Int32 × Int64 × Int32 × Int32 × Int64 × Int32 × Int64 × Int32 × (Nat → Int32) × (Nat → Int32) × (Nat → Int32) × (Nat → Int32) × (Nat → Int32) × (Nat → Int32) := F_FR_power_c19 x2 x3 t0_0 t0_1 t0_2 t0_3 t0_4 t0_5 t0_6 t0_7 t0_8 t0_9 t0_10 t1_0 t2_0 t3_0 t4_0 t5_0 t6_0 lx32 ((F_FR_open x2 lx32 t0_0 t0_1 t0_2 t0_3 t0_4 t0_5 t0_6 t0_7 t0_8 t0_9 t0_10) : (Int32 × Int32 × Int32 × Int32 × Int64 × Int32 × Int32 × Int64 × Int32 × Int64 × Int32))
def F_FR_power_J18 (x2 : Int64) (x3 : Int32) (t0_0 : Int32) (t0_1 : Int32) (t0_2 : Int32) (t0_3 : Int32) (t0_4 : Int64) (t0_5 : Int32) (t0_6 : Int32) (t0_7 : Int64) (t0_8 : Int32) (t0_9 : Int64) (t0_10 : Int32) (t1_0 : (Nat → Int32)) (t2_0 : (Nat → Int32)) (t3_0 : (Nat → Int32)) (t4_0 : (Nat → Int32)) (t5_0 : (Nat → Int32)) (t6_0 : (Nat → Int32)) : Int32 × Int32 × Int32 × Int32 × Int32 × Int64 × Int32 × Int32 × Int64 × Int32 × Int64 × Int32 × (Nat → Int32) × (Nat → Int32) × (Nat → Int32) × (Nat → Int32) × (Nat → Int32) × (Nat → Int32) := F_FR_power_J19 x2 x3 t0_0 t0_1 t0_2 t0_3 t0_4 t0_5 t0_6 t0_7 t0_8 t0_9 t0_10 t1_0 t2_0 t3_0 t4_0 t5_0 t6_0 0
def F_FR_power (x2 : Int64) (x3 : Int32) (t0_0 : Int32) (t0_1 : Int32) (t0_2 : Int32) (t0_3 : Int32) (t0_4 : Int64) (t0_5 : Int32) (t0_6 : Int32) (t0_7 : Int64) (t0_8 : Int32) (t0_9 : Int64) (t0_10 : Int32) (t1_0 : (Nat → Int32)) (t2_0 : (Nat → Int32)) (t3_0 : (Nat → Int32)) (t4_0 : (Nat → Int32)) (t5_0 : (Nat → Int32)) (t6_0 : (Nat → Int32)) : Int32 × Int32 × Int32 × Int32 × Int32 × Int64 × Int32 × Int32 × Int64 × Int32 × Int64 × Int32 × (Nat → Int32) × (Nat → Int32) × (Nat → Int32) × (Nat → Int32) × (Nat → Int32) × (Nat → Int32) := if x3 = (0 : Int32) then (F_FR_power_J18 x2 x3 t0_0 t0_1 t0_2 t0_3 t0_4 t0_5 t0_6 t0_7 t0_8 t0_9 t0_10 t1_0 t2_0 t3_0 t4_0 t5_0 t6_0) else (if ((F_FR_isWrong x2 x3) : Int32) = (0 : Int32) then (F_FR_power_J19 x2 x3 t0_0 t0_1 t0_2 t0_3 t0_4 t0_5 t0_6 t0_7 t0_8 t0_9 t0_10 t1_0 t2_0 t3_0 t4_0 t5_0 t6_0 1) else (F_FR_power_J18 x2 x3 t0_0 t0_1 t0_2 t0_3 t0_4 t0_5 t0_6 t0_7 t0_8 t0_9 t0_10 t1_0 t2_0 t3_0 t4_0 t5_0 t6_0))
def S_FR_power_c69 (x2 : Int64) (x3 : Int32) (t0_0 : Int32) (t0_1 : Int32) (t0_2 : Int32) (t0_3 : Int32) (t0_4 : Int64) (t0_5 : Int32) (t0_6 : Int32) (t0_7 : Int64) (t0_8 : Int32) (t0_9 : Int64) (t0_10 : Int32) (t1_0 : (Nat → Int32)) (t2_0 : (Nat → Int32)) (t3_0 : (Nat → Int32)) (t4_0 : (Nat → Int32)) (t5_0 : (Nat → Int32)) (t6_0 : (Nat → Int32)) (lx32 : Int32) (p85 : (Int32 × Int32 × Int32 × Int32 × Int64 × Int32 × Int32 × Int64 × Int32 × Int64 × Int32)) (y51 : Int32) (y52 : Int32) (y53 : Int32) (y54 : Int32) (y55 : Int64) (y56 : Int32) (y57 : Int32) (y58 : Int64) (y59 : Int32) (y60 : Int64) (y61 : Int32) (lx110 : Int32) (p183 : (Int32 × Int32 × Int32 × Int32 × Int64 × Int32 × Int32 × Int64 × Int32 × Int64 × Int32 × (Nat → Int32) × (Nat → Int32) × (Nat → Int32) × (Nat → Int32) × (Nat → Int32) × (Nat → Int32))) : Prop := True
def S_FR_power_J47 (x2 : Int64) (x3 : Int32) (t0_0 : Int32) (t0_1 : Int32) (t0_2 : Int32) (t0_3 : Int32) (t0_4 : Int64) (t0_5 : Int32) (t0_6 : Int32) (t0_7 : Int64) (t0_8 : Int32) (t0_9 : Int64) (t0_10 : Int32) (t1_0 : (Nat → Int32)) (t2_0 : (Nat → Int32)) (t3_0 : (Nat → Int32)) (t4_0 : (Nat → Int32)) (t5_0 : (Nat → Int32)) (t6_0 : (Nat → Int32)) (lx32 : Int32) (p85 : (Int32 × Int32 × Int32 × Int32 × Int64 × Int32 × Int32 × Int64 × Int32 × Int64 × Int32)) (y51 : Int32) (y52 : Int32) (y53 : Int32) (y54 : Int32) (y55 : Int64) (y56 : Int32) (y57 : Int32) (y58 : Int64) (y59 : Int32) (y60 : Int64) (y61 : Int32) (lx110 : Int32) : Prop := if (0 : Int32) < lx110 then (True) else (if (lg_cmp y58 0 : Int32) = (0 : Int32) then (True) else ((True ∧ S_FR_findShortest lx110 y52 y53 y54 y55 y56 y57 y58 y59 y60 y61 t1_0 t2_0 t3_0 t4_0 t5_0 t6_0) ∧ (S_FR_power_c69 x2 x3 t0_0 t0_1 t0_2 t0_3 t0_4 t0_5 t0_6 t0_7 t0_8 t0_9 t0_10 t1_0 t2_0 t3_0 t4_0 t5_0 t6_0 lx32 p85 y51 y52 y53 y54 y55 y56 y57 y58 y59 y60 y61 lx110 ((F_FR_findShortest lx110 y52 y53 y54 y55 y56 y57 y58 y59 y60 y61 t1_0 t2_0 t3_0 t4_0 t5_0 t6_0) : (Int32 × Int32 × Int32 × Int32 × Int64 × Int32 × Int32 × Int64 × Int32 × Int64 × Int32 × (Nat → Int32) × (Nat → Int32) × (Nat → Int32) × (Nat → Int32) × (Nat → Int32) × (Nat → Int32))))))
def S_FR_power_c19 (x2 : Int64) (x3 : Int32) (t0_0 : Int32) (t0_1 : Int32) (t0_2 : Int32) (t0_3 : Int32) (t0_4 : Int64) (t0_5 : Int32) (t0_6 : Int32) (t0_7 : Int64) (t0_8 : Int32) (t0_9 : Int64) (t0_10 : Int32) (t1_0 : (Nat → Int32)) (t2_0 : (Nat → Int32)) (t3_0 : (Nat → Int32)) (t4_0 : (Nat → Int32)) (t5_0 : (Nat → Int32)) (t6_0 : (Nat → Int32)) (lx32 : Int32) (p85 : (Int32 × Int32 × Int32 × Int32 × Int64 × Int32 × Int32 × Int64 × Int32 × Int64 × Int32)) : Prop := if ((F_FR_isWrong x2 x3) : Int32) = (0 : Int32) then (if ((F_FR_isFinite (p85.1 : Int32) (p85.2.1 : Int32) (p85.2.2.1 : Int32) (p85.2.2.2.1 : Int32) (p85.2.2.2.2.1 : Int64) (p85.2.2.2.2.2.1 : Int32) (p85.2.2.2.2.2.2.1 : Int32) (p85.2.2.2.2.2.2.2.1 : Int64) (p85.2.2.2.2.2.2.2.2.1 : Int32) (p85.2.2.2.2.2.2.2.2.2.1 : Int64) (p85.2.2.2.2.2.2.2.2.2.2 : Int32)) : Int32) = (0 : Int32) then (S_FR_power_J47 x2 x3 t0_0 t0_1 t0_2 t0_3 t0_4 t0_5 t0_6 t0_7 t0_8 t0_9 t0_10 t1_0 t2_0 t3_0 t4_0 t5_0 t6_0 lx32 p85 (p85.1 : Int32) (p85.2.1 : Int32) (p85.2.2.1 : Int32) (p85.2.2.2.1 : Int32) (p85.2.2.2.2.1 : Int64) (p85.2.2.2.2.2.1 : Int32) (p85.2.2.2.2.2.2.1 : Int32) (p85.2.2.2.2.2.2.2.1 : Int64) (p85.2.2.2.2.2.2.2.2.1 : Int32) (p85.2.2.2.2.2.2.2.2.2.1 : Int64) (p85.2.2.2.2.2.2.2.2.2.2 : Int32) 2) else (S_FR_power_J47 x2 x3 t0_0 t0_1 t0_2 t0_3 t0_4 t0_5 t0_6 t0_7 t0_8 t0_9 t0_10 t1_0 t2_0 t3_0 t4_0 t5_0 t6_0 lx32 p85 (p85.1 : Int32) (p85.2.1 : Int32) (p85.2.2.1 : Int32) (p85.2.2.2.1 : Int32) (p85.2.2.2.2.1 : Int64) (p85.2.2.2.2.2.1 : Int32) (p85.2.2.2.2.2.2.1 : Int32) (p85.2.2.2.2.2.2.2.1 : Int64) (p85.2.2.2.2.2.2.2.2.1 : Int32) (p85.2.2.2.2.2.2.2.2.2.1 : Int64) (p85.2.2.2.2.2.2.2.2.2.2 : Int32) 0)) else (S_FR_power_J47 x2 x3 t0_0 t0_1 t0_2 t0_3 t0_4 t0_5 t0_6 t0_7 t0_8 t0_9 t0_10 t1_0 t2_0 t3_0 t4_0 t5_0 t6_0 lx32 p85 (p85.1 : Int32) (p85.2.1 : Int32) (p85.2.2.1 : Int32) (p85.2.2.2.1 : Int32) (p85.2.2.2.2.1 : Int64) (p85.2.2.2.2.2.1 : Int32) (p85.2.2.2.2.2.2.1 : Int32) (p85.2.2.2.2.2.2.2.1 : Int64) (p85.2.2.2.2.2.2.2.2.1 : Int32) (p85.2.2.2.2.2.2.2.2.2.1 : Int64) (p85.2.2.2.2.2.2.2.2.2.2 : Int32) 1)
def S_FR_power_J19 (x2 : Int64) (x3 : Int32) (t0_0 : Int32) (t0_1 : Int32) (t0_2 : Int32) (t0_3 : Int32) (t0_4 : Int64) (t0_5 : Int32) (t0_6 : Int32) (t0_7 : Int64) (t0_8 : Int32) (t0_9 : Int64) (t0_10 : Int32) (t1_0 : (Nat → Int32)) (t2_0 : (Nat → Int32)) (t3_0 : (Nat → Int32)) (t4_0 : (Nat → Int32)) (t5_0 : (Nat → Int32)) (t6_0 : (Nat → Int32)) (lx32 : Int32) : Prop := S_FR_power_c19 x2 x3 t0_0 t0_1 t0_2 t0_3 t0_4 t0_5 t0_6 t0_7 t0_8 t0_9 t0_10 t1_0 t2_0 t3_0 t4_0 t5_0 t6_0 lx32 ((F_FR_open x2 lx32 t0_0 t0_1 t0_2 t0_3 t0_4 t0_5 t0_6 t0_7 t0_8 t0_9 t0_10) : (Int32 × Int32 × Int32 × Int32 × Int64 × Int32 × Int32 × Int64 × Int32 × Int64 × Int32))
def S_FR_power_J18 (x2 : Int64) (x3 : Int32) (t0_0 : Int32) (t0_1 : Int32) (t0_2 : Int32) (t0_3 : Int32) (t0_4 : Int64) (t0_5 : Int32) (t0_6 : Int32) (t0_7 : Int64) (t0_8 : Int32) (t0_9 : Int64) (t0_10 : Int32) (t1_0 : (Nat → Int32)) (t2_0 : (Nat → Int32)) (t3_0 : (Nat → Int32)) (t4_0 : (Nat → Int32)) (t5_0 : (Nat → Int32)) (t6_0 : (Nat → Int32)) : Prop := S_FR_power_J19 x2 x3 t0_0 t0_1 t0_2 t0_3 t0_4 t0_5 t0_6 t0_7 t0_8 t0_9 t0_10 t1_0 t2_0 t3_0 t4_0 t5_0 t6_0 0
def S_FR_power (x2 : Int64) (x3 : Int32) (t0_0 : Int32) (t0_1 : Int32) (t0_2 : Int32) (t0_3 : Int32) (t0_4 : Int64) (t0_5 : Int32) (t0_6 : Int32) (t0_7 : Int64) (t0_8 : Int32) (t0_9 : Int64) (t0_10 : Int32) (t1_0 : (Nat → Int32)) (t2_0 : (Nat → Int32)) (t3_0 : (Nat → Int32)) (t4_0 : (Nat → Int32)) (t5_0 : (Nat → Int32)) (t6_0 : (Nat → Int32)) : Prop := if x3 = (0 : Int32) then (S_FR_power_J18 x2 x3 t0_0 t0_1 t0_2 t0_3 t0_4 t0_5 t0_6 t0_7 t0_8 t0_9 t0_10 t1_0 t2_0 t3_0 t4_0 t5_0 t6_0) else (if ((F_FR_isWrong x2 x3) : Int32) = (0 : Int32) then (S_FR_power_J19 x2 x3 t0_0 t0_1 t0_2 t0_3 t0_4 t0_5 t0_6 t0_7 t0_8 t0_9 t0_10 t1_0 t2_0 t3_0 t4_0 t5_0 t6_0 1) else (S_FR_power_J18 x2 x3 t0_0 t0_1 t0_2 t0_3 t0_4 t0_5 t0_6 t0_7 t0_8 t0_9 t0_10 t1_0 t2_0 t3_0 t4_0 t5_0 t6_0))
set_option maxRecDepth 100000 in
set_option maxHeartbeats 4000000 in
theorem X_FR_power (l : Launch) (D : va_G) (g : Nat → ClassId) (q : Nat → Nat) (ws : va_W) (x2 : Int64) (x3 : Int32) (hI : q_I (msh g q) q ws) (t0_0 : Int32) (t0_1 : Int32) (t0_2 : Int32) (t0_3 : Int32) (t0_4 : Int64) (t0_5 : Int32) (t0_6 : Int32) (t0_7 : Int64) (t0_8 : Int32) (t0_9 : Int64) (t0_10 : Int32) (hT0 : ws[145]? = (some (q 145, .inr (15, [.int t0_0, .ref (q 146), .ref (q 147), .ref (q 148), .ref (q 149), .ref (q 150), .ref (q 151), .ref (q 152), .int t0_1, .int t0_2, .int t0_3, .long t0_4, .int t0_5, .int t0_6, .long t0_7, .int t0_8, .long t0_9, .int t0_10])) : Option (Nat × va_E))) (t1_0 : (Nat → Int32)) (hT1 : ws[146]? = (some (q 146, .inl (g 0, (156 : Int32).toNatClampNeg, .inl t1_0)) : Option (Nat × va_E))) (t2_0 : (Nat → Int32)) (hT2 : ws[147]? = (some (q 147, .inl (g 0, (156 : Int32).toNatClampNeg, .inl t2_0)) : Option (Nat × va_E))) (t3_0 : (Nat → Int32)) (hT3 : ws[148]? = (some (q 148, .inl (g 0, (1404 : Int32).toNatClampNeg, .inl t3_0)) : Option (Nat × va_E))) (t4_0 : (Nat → Int32)) (hT4 : ws[149]? = (some (q 149, .inl (g 0, (1404 : Int32).toNatClampNeg, .inl t4_0)) : Option (Nat × va_E))) (t5_0 : (Nat → Int32)) (hT5 : ws[150]? = (some (q 150, .inl (g 0, (1404 : Int32).toNatClampNeg, .inl t5_0)) : Option (Nat × va_E))) (t6_0 : (Nat → Int32)) (hT6 : ws[151]? = (some (q 151, .inl (g 0, (1404 : Int32).toNatClampNeg, .inl t6_0)) : Option (Nat × va_E))) (hzx3 : 0 ≤ x3.toInt ∧ x3.toInt ≤ 1) (hS : True ∧ S_FR_power x2 x3 t0_0 t0_1 t0_2 t0_3 t0_4 t0_5 t0_6 t0_7 t0_8 t0_9 t0_10 t1_0 t2_0 t3_0 t4_0 t5_0 t6_0) : q_mI l y_FR_power prog_17_method_34_code 4 (.int) 5 0 0 D g [.ref (q 145), .long x2, .int x3] ws (fun r u => q_I (msh g q) q u ∧ q_un ws u [145, 146, 147, 148, 149, 150, 151] ∧ ∃ (u0_0 : Int32) (u0_1 : Int32) (u0_2 : Int32) (u0_3 : Int32) (u0_4 : Int64) (u0_5 : Int32) (u0_6 : Int32) (u0_7 : Int64) (u0_8 : Int32) (u0_9 : Int64) (u0_10 : Int32) (u1_0 : (Nat → Int32)) (u2_0 : (Nat → Int32)) (u3_0 : (Nat → Int32)) (u4_0 : (Nat → Int32)) (u5_0 : (Nat → Int32)) (u6_0 : (Nat → Int32)), u[145]? = (some (q 145, .inr (15, [.int u0_0, .ref (q 146), .ref (q 147), .ref (q 148), .ref (q 149), .ref (q 150), .ref (q 151), .ref (q 152), .int u0_1, .int u0_2, .int u0_3, .long u0_4, .int u0_5, .int u0_6, .long u0_7, .int u0_8, .long u0_9, .int u0_10])) : Option (Nat × va_E)) ∧ u[146]? = (some (q 146, .inl (g 0, (156 : Int32).toNatClampNeg, .inl u1_0)) : Option (Nat × va_E)) ∧ u[147]? = (some (q 147, .inl (g 0, (156 : Int32).toNatClampNeg, .inl u2_0)) : Option (Nat × va_E)) ∧ u[148]? = (some (q 148, .inl (g 0, (1404 : Int32).toNatClampNeg, .inl u3_0)) : Option (Nat × va_E)) ∧ u[149]? = (some (q 149, .inl (g 0, (1404 : Int32).toNatClampNeg, .inl u4_0)) : Option (Nat × va_E)) ∧ u[150]? = (some (q 150, .inl (g 0, (1404 : Int32).toNatClampNeg, .inl u5_0)) : Option (Nat × va_E)) ∧ u[151]? = (some (q 151, .inl (g 0, (1404 : Int32).toNatClampNeg, .inl u6_0)) : Option (Nat × va_E)) ∧ (0 ≤ u0_0.toInt) ∧ (u0_0.toInt ≤ 2) ∧ (0 ≤ u0_2.toInt) ∧ (u0_2.toInt ≤ 1) ∧ (0 ≤ u0_3.toInt) ∧ (23 ≤ u0_5.toInt) ∧ (u0_5.toInt ≤ 52) ∧ (255 ≤ u0_6.toInt) ∧ (u0_6.toInt ≤ 2047) ∧ (0 ≤ u0_8.toInt + 1074) ∧ (t0_1.toInt ≤ u0_1.toInt) ∧ (u0_1.toInt ≤ t0_1.toInt) ∧ (u0_8.toInt ≤ x3.toInt + 1896) ∧ (u0_3.toInt ≤ u0_6.toInt) ∧ (u0_8.toInt + 149 ≤ u0_3.toInt) ∧ (u0_3.toInt ≤ u0_8.toInt + 1075) ∧ (u0_8.toInt + 150 ≤ u0_6.toInt) ∧ (r, u0_0, u0_1, u0_2, u0_3, u0_4, u0_5, u0_6, u0_7, u0_8, u0_9, u0_10, u1_0, u2_0, u3_0, u4_0, u5_0, u6_0) = (F_FR_power x2 x3 t0_0 t0_1 t0_2 t0_3 t0_4 t0_5 t0_6 t0_7 t0_8 t0_9 t0_10 t1_0 t2_0 t3_0 t4_0 t5_0 t6_0)) := by
  intro sz
  refine q_into (by decide) (Nat.le_of_ble_eq_true rfl) ?_
  intro p e s m below meth c ls hsz C0 V hl
  have hx := C0.1
  have hb := C0.2.1
  replace hzx3 : q_F (0 ≤ x3.toInt ∧ x3.toInt ≤ 1) := hzx3
  have btt0_2 := n_w145 hI hT0
  clear btt0_2
  have hF : q_un ws ws [145, 146, 147, 148, 149, 150, 151] := q_u0
  have hl : lv_has ls 4 [(0, .ref (q 145)), (1, .long x2), (3, .int x3)] := hl
  refine lv_aload_n hx hb d_17_34_0 rfl (lv_at hl 0 rfl) ?_
  refine lv_lload_n hx hb d_17_34_1 rfl (lv_at hl 1 rfl) ?_
  refine lv_iload_n hx hb d_17_34_2 rfl (lv_at hl 2 rfl) ?_
  refine q_join (X := Int32) (fun z H locs ls _ => q_F (0 ≤ z.toInt) ∧ q_F (z.toInt ≤ x3.toInt) ∧ q_Wd D g (va_A ws sz) s ws H locs ∧ lv_has ls 4 [(0, .ref (q 145)), (1, .long x2), (3, .int x3)] ∧ F_FR_power_J19 x2 x3 t0_0 t0_1 t0_2 t0_3 t0_4 t0_5 t0_6 t0_7 t0_8 t0_9 t0_10 t1_0 t2_0 t3_0 t4_0 t5_0 t6_0 z = (F_FR_power x2 x3 t0_0 t0_1 t0_2 t0_3 t0_4 t0_5 t0_6 t0_7 t0_8 t0_9 t0_10 t1_0 t2_0 t3_0 t4_0 t5_0 t6_0) ∧ True ∧ S_FR_power_J19 x2 x3 t0_0 t0_1 t0_2 t0_3 t0_4 t0_5 t0_6 t0_7 t0_8 t0_9 t0_10 t1_0 t2_0 t3_0 t4_0 t5_0 t6_0 z) (fun z => [.int z, .long x2, .ref (q 145)]) 19 0 0 ?_ ?_
  ·
    rintro lx32 H locs ls _ hZ9
    obtain ⟨i41, hZ9⟩ := hZ9
    obtain ⟨i42, hZ9⟩ := hZ9
    obtain ⟨V, hZ9⟩ := hZ9
    obtain ⟨hl, hZ9⟩ := hZ9
    obtain ⟨hR43, hS44⟩ := hZ9
    replace i41 : q_F (0 ≤ lx32.toInt) := i41
    replace i42 : q_F (lx32.toInt ≤ x3.toInt) := i42
    replace hl : lv_has ls 4 [(0, .ref (q 145)), (1, .long x2), (3, .int x3)] := hl
    refine q_gov V (q_runV (As := [.long x2, .int lx32]) (rest := []) (d := 1) (mc := 0) (ms := 0) (ci := 15) C0 V rfl LV_FR_126 (X_FR_open l D g q ws  x2 lx32 hI t0_0 t0_1 t0_2 t0_3 t0_4 t0_5 t0_6 t0_7 t0_8 t0_9 t0_10 hT0 ⟨(by first | with_reducible exact q_fe i41 | (have t1 : 0 ≤ lx32.toInt := i41; omega)), (by have t1 : 0 ≤ x3.toInt ∧ x3.toInt ≤ 1 := hzx3; have t2 : lx32.toInt ≤ x3.toInt := i42; omega)⟩ _) rfl rfl hT0 rfl hl.1 rfl (Nat.le_of_ble_eq_true rfl) ⟨by decide, by decide⟩ ⟨Nat.le_of_ble_eq_true rfl, Nat.le_of_ble_eq_true rfl⟩ d_17_34_19) (fun u48 H locs hp49 V => ?_)
    obtain ⟨hI, hZ9⟩ := hp49
    obtain ⟨hu84, hZ9⟩ := hZ9
    obtain ⟨y51, hZ9⟩ := hZ9
    obtain ⟨y52, hZ9⟩ := hZ9
    obtain ⟨y53, hZ9⟩ := hZ9
    obtain ⟨y54, hZ9⟩ := hZ9
    obtain ⟨y55, hZ9⟩ := hZ9
    obtain ⟨y56, hZ9⟩ := hZ9
    obtain ⟨y57, hZ9⟩ := hZ9
    obtain ⟨y58, hZ9⟩ := hZ9
    obtain ⟨y59, hZ9⟩ := hZ9
    obtain ⟨y60, hZ9⟩ := hZ9
    obtain ⟨y61, hZ9⟩ := hZ9
    obtain ⟨hO50, hZ9⟩ := hZ9
    obtain ⟨b62, hZ9⟩ := hZ9
    obtain ⟨b63, hZ9⟩ := hZ9
    obtain ⟨b64, hZ9⟩ := hZ9
    obtain ⟨b65, hZ9⟩ := hZ9
    obtain ⟨b66, hZ9⟩ := hZ9
    obtain ⟨b67, hZ9⟩ := hZ9
    obtain ⟨b68, hZ9⟩ := hZ9
    replace hZ9 := hZ9.2.2
    obtain ⟨b71, hZ9⟩ := hZ9
    obtain ⟨b72, hZ9⟩ := hZ9
    obtain ⟨b73, hZ9⟩ := hZ9
    obtain ⟨b74, hZ9⟩ := hZ9
    replace hZ9 := hZ9.2.2.2.2
    obtain ⟨b79, hZ9⟩ := hZ9
    obtain ⟨b80, hZ9⟩ := hZ9
    obtain ⟨b81, hZ9⟩ := hZ9
    obtain ⟨b82, hE83⟩ := hZ9
    replace hO50 : u48[145]? = (some (q 145, .inr (15, [.int y51, .ref (q 146), .ref (q 147), .ref (q 148), .ref (q 149), .ref (q 150), .ref (q 151), .ref (q 152), .int y52, .int y53, .int y54, .long y55, .int y56, .int y57, .long y58, .int y59, .long y60, .int y61])) : Option (Nat × va_E)) := hO50
    obtain ⟨p85, e86⟩ : ∃ z, z = (F_FR_open x2 lx32 t0_0 t0_1 t0_2 t0_3 t0_4 t0_5 t0_6 t0_7 t0_8 t0_9 t0_10) := ⟨_, rfl⟩
    have e87 : y51 = p85.1 := congrArg (fun z => z.1) (hE83.trans e86.symm)
    have e88 : y52 = p85.2.1 := congrArg (fun z => z.2.1) (hE83.trans e86.symm)
    have e89 : y53 = p85.2.2.1 := congrArg (fun z => z.2.2.1) (hE83.trans e86.symm)
    have e90 : y54 = p85.2.2.2.1 := congrArg (fun z => z.2.2.2.1) (hE83.trans e86.symm)
    have e91 : y55 = p85.2.2.2.2.1 := congrArg (fun z => z.2.2.2.2.1) (hE83.trans e86.symm)
    have e92 : y56 = p85.2.2.2.2.2.1 := congrArg (fun z => z.2.2.2.2.2.1) (hE83.trans e86.symm)
    have e93 : y57 = p85.2.2.2.2.2.2.1 := congrArg (fun z => z.2.2.2.2.2.2.1) (hE83.trans e86.symm)
    have e94 : y58 = p85.2.2.2.2.2.2.2.1 := congrArg (fun z => z.2.2.2.2.2.2.2.1) (hE83.trans e86.symm)
    have e95 : y59 = p85.2.2.2.2.2.2.2.2.1 := congrArg (fun z => z.2.2.2.2.2.2.2.2.1) (hE83.trans e86.symm)
    have e96 : y60 = p85.2.2.2.2.2.2.2.2.2.1 := congrArg (fun z => z.2.2.2.2.2.2.2.2.2.1) (hE83.trans e86.symm)
    have e97 : y61 = p85.2.2.2.2.2.2.2.2.2.2 := congrArg (fun z => z.2.2.2.2.2.2.2.2.2.2) (hE83.trans e86.symm)
    replace b62 : q_F (0 ≤ y53.toInt) := b62
    replace b63 : q_F (y53.toInt ≤ 1) := b63
    replace b64 : q_F (0 ≤ y54.toInt) := b64
    replace b65 : q_F (23 ≤ y56.toInt) := b65
    replace b66 : q_F (y56.toInt ≤ 52) := b66
    replace b67 : q_F (255 ≤ y57.toInt) := b67
    replace b68 : q_F (y57.toInt ≤ 2047) := b68
    replace b71 : q_F (t0_1.toInt ≤ y52.toInt) := b71
    replace b72 : q_F (y52.toInt ≤ t0_1.toInt) := b72
    replace b73 : q_F (lx32.toInt ≤ y59.toInt + 1074) := b73
    replace b74 : q_F (y59.toInt ≤ lx32.toInt + 1896) := b74
    replace b79 : q_F (y54.toInt ≤ y57.toInt) := b79
    replace b80 : q_F (y59.toInt + 149 ≤ y54.toInt) := b80
    replace b81 : q_F (y54.toInt ≤ y59.toInt + 1075) := b81
    replace b82 : q_F (y59.toInt + 150 ≤ y57.toInt) := b82
    replace hT1 := (hu84 _ (by decide)).trans hT1
    replace hT2 := (hu84 _ (by decide)).trans hT2
    replace hT3 := (hu84 _ (by decide)).trans hT3
    replace hT4 := (hu84 _ (by decide)).trans hT4
    replace hT5 := (hu84 _ (by decide)).trans hT5
    replace hT6 := (hu84 _ (by decide)).trans hT6
    replace hF := q_uc hF hu84 (by simp)
    have hR98 := (show F_FR_power_c19 x2 x3 t0_0 t0_1 t0_2 t0_3 t0_4 t0_5 t0_6 t0_7 t0_8 t0_9 t0_10 t1_0 t2_0 t3_0 t4_0 t5_0 t6_0 lx32 p85 = (F_FR_power x2 x3 t0_0 t0_1 t0_2 t0_3 t0_4 t0_5 t0_6 t0_7 t0_8 t0_9 t0_10 t1_0 t2_0 t3_0 t4_0 t5_0 t6_0) from Eq.trans (by rw [e86, F_FR_power_J19.eq_1]) hR43)
    have hS99 := (show True ∧ S_FR_power_c19 x2 x3 t0_0 t0_1 t0_2 t0_3 t0_4 t0_5 t0_6 t0_7 t0_8 t0_9 t0_10 t1_0 t2_0 t3_0 t4_0 t5_0 t6_0 lx32 p85 from (by rw [e86]; have h := hS44; rw [S_FR_power_J19.eq_1] at h; with_reducible exact h))
    refine lv_aload_n hx hb d_17_34_22 rfl (lv_at hl 0 rfl) ?_
    refine lv_lload_n hx hb d_17_34_23 rfl (lv_at hl 1 rfl) ?_
    refine lv_iload_n hx hb d_17_34_24 rfl (lv_at hl 2 rfl) ?_
    refine q_goi V (q_runS (As := [.long x2, .int x3]) (rest := [.ref (q 145)]) (d := 1) (mc := 0) (ms := 0) C0 V rfl LS_FR_122 (X_FR_isWrong l D g q u48  x2 x3 hI  (by first | with_reducible exact q_fe hzx3 | exact ⟨(by have t1 : 0 ≤ x3.toInt ∧ x3.toInt ≤ 1 := hzx3; omega), (by have t1 : 0 ≤ x3.toInt ∧ x3.toInt ≤ 1 := hzx3; omega)⟩) _) rfl hl.1 rfl (Nat.le_of_ble_eq_true rfl) ⟨by decide, by decide⟩ ⟨Nat.le_of_ble_eq_true rfl, Nat.le_of_ble_eq_true rfl⟩ d_17_34_25) (fun a105 u103 H locs hp104 V => ?_)
    obtain ⟨rfl, b106, b107, hE108⟩ := hp104
    have e109 : a105 = (F_FR_isWrong x2 x3) := hE108
    clear b106
    clear b107
    refine q_join (X := Int32) (fun z H locs ls _ => q_F (0 ≤ z.toInt) ∧ q_F (z.toInt ≤ 2) ∧ q_Wd D g (va_A ws sz) s u48 H locs ∧ lv_has ls 4 [(0, .ref (q 145))] ∧ F_FR_power_J47 x2 x3 t0_0 t0_1 t0_2 t0_3 t0_4 t0_5 t0_6 t0_7 t0_8 t0_9 t0_10 t1_0 t2_0 t3_0 t4_0 t5_0 t6_0 lx32 p85 y51 y52 y53 y54 y55 y56 y57 y58 y59 y60 y61 z = (F_FR_power x2 x3 t0_0 t0_1 t0_2 t0_3 t0_4 t0_5 t0_6 t0_7 t0_8 t0_9 t0_10 t1_0 t2_0 t3_0 t4_0 t5_0 t6_0) ∧ True ∧ S_FR_power_J47 x2 x3 t0_0 t0_1 t0_2 t0_3 t0_4 t0_5 t0_6 t0_7 t0_8 t0_9 t0_10 t1_0 t2_0 t3_0 t4_0 t5_0 t6_0 lx32 p85 y51 y52 y53 y54 y55 y56 y57 y58 y59 y60 y61 z) (fun z => [.int z, .ref (q 145)]) 47 0 0 ?_ ?_
    ·
      rintro lx110 H locs ls _ hZ9
      obtain ⟨i119, hZ9⟩ := hZ9
      obtain ⟨i120, hZ9⟩ := hZ9
      obtain ⟨V, hZ9⟩ := hZ9
      obtain ⟨hl, hZ9⟩ := hZ9
      obtain ⟨hR121, hS122⟩ := hZ9
      replace i119 : q_F (0 ≤ lx110.toInt) := i119
      replace i120 : q_F (lx110.toInt ≤ 2) := i120
      replace hl : lv_has ls 4 [(0, .ref (q 145))] := hl
      refine q_put (ci := 15) (j := 0) (v := .int lx110) (ty := .int) C0 V i_FR o_FR n_FR rfl rfl hO50 (by decide) w_2074 rfl rfl rfl rfl (Nat.le_of_ble_eq_true rfl) d_17_34_47 (fun H locs w126 hu127 hO50 V => ?_)
      replace hO50 : w126[145]? = (some (q 145, .inr (15, [.int lx110, .ref (q 146), .ref (q 147), .ref (q 148), .ref (q 149), .ref (q 150), .ref (q 151), .ref (q 152), .int y52, .int y53, .int y54, .long y55, .int y56, .int y57, .long y58, .int y59, .long y60, .int y61])) : Option (Nat × va_E)) := hO50
      replace hI := n_p145 hI hu127 hO50 ⟨(by first | with_reducible exact q_fe b62 | (have t1 : 0 ≤ y53.toInt := b62; omega)), (by first | with_reducible exact q_fe b63 | (have t1 : y53.toInt ≤ 1 := b63; omega))⟩
      replace hT1 := (hu127 _ (by decide)).trans hT1
      replace hT2 := (hu127 _ (by decide)).trans hT2
      replace hT3 := (hu127 _ (by decide)).trans hT3
      replace hT4 := (hu127 _ (by decide)).trans hT4
      replace hT5 := (hu127 _ (by decide)).trans hT5
      replace hT6 := (hu127 _ (by decide)).trans hT6
      replace hF := q_us hF hu127 (by simp)
      refine lv_aload_n hx hb d_17_34_50 rfl (lv_at hl 0 rfl) ?_
      refine q_get (ci := 15) (j := 0) (v := .int lx110) C0 V i_FR rfl rfl hO50 (by decide) w_2074 rfl d_17_34_51 ?_
      refine lv_if_gt (tgt := 66) hx hb d_17_34_54 (by decide) (fun c128 => ?_) (fun c128 => ?_)
      ·
        refine lv_iconst (v := 0) hx hb d_17_34_66 (by decide) ?_
        exact q_reti C0 V (⟨hI, hF, lx110, y52, y53, y54, y55, y56, y57, y58, y59, y60, y61, t1_0, t2_0, t3_0, t4_0, t5_0, t6_0, hO50, hT1, hT2, hT3, hT4, hT5, hT6, (show 0 ≤ lx110.toInt from (by have z19 : (0 : Int32).toInt = 0 := rfl; have t1 : 0 ≤ lx110.toInt := i119; omega)), (show lx110.toInt ≤ 2 from (by have z19 : (0 : Int32).toInt = 0 := rfl; have t1 : lx110.toInt ≤ 2 := i120; omega)), (show 0 ≤ y53.toInt from (by have z19 : (0 : Int32).toInt = 0 := rfl; have t1 : 0 ≤ y53.toInt := b62; omega)), (show y53.toInt ≤ 1 from (by have z19 : (0 : Int32).toInt = 0 := rfl; have t1 : y53.toInt ≤ 1 := b63; omega)), (show 0 ≤ y54.toInt from (by have z19 : (0 : Int32).toInt = 0 := rfl; have t1 : 0 ≤ y54.toInt := b64; omega)), (show 23 ≤ y56.toInt from (by have z19 : (0 : Int32).toInt = 0 := rfl; have t1 : 23 ≤ y56.toInt := b65; omega)), (show y56.toInt ≤ 52 from (by have z19 : (0 : Int32).toInt = 0 := rfl; have t1 : y56.toInt ≤ 52 := b66; omega)), (show 255 ≤ y57.toInt from (by have z19 : (0 : Int32).toInt = 0 := rfl; have t1 : 255 ≤ y57.toInt := b67; omega)), (show y57.toInt ≤ 2047 from (by have z19 : (0 : Int32).toInt = 0 := rfl; have t1 : y57.toInt ≤ 2047 := b68; omega)), (show 0 ≤ y59.toInt + 1074 from (by have z19 : (0 : Int32).toInt = 0 := rfl; have t1 : 0 ≤ lx32.toInt := i41; have t2 : lx32.toInt ≤ y59.toInt + 1074 := b73; omega)), (show t0_1.toInt ≤ y52.toInt from (by have z19 : (0 : Int32).toInt = 0 := rfl; have t1 : t0_1.toInt ≤ y52.toInt := b71; omega)), (show y52.toInt ≤ t0_1.toInt from (by have z19 : (0 : Int32).toInt = 0 := rfl; have t1 : y52.toInt ≤ t0_1.toInt := b72; omega)), (show y59.toInt ≤ x3.toInt + 1896 from (by have z19 : (0 : Int32).toInt = 0 := rfl; have t1 : lx32.toInt ≤ x3.toInt := i42; have t2 : y59.toInt ≤ lx32.toInt + 1896 := b74; omega)), (show y54.toInt ≤ y57.toInt from (by have z19 : (0 : Int32).toInt = 0 := rfl; have t1 : y54.toInt ≤ y57.toInt := b79; omega)), (show y59.toInt + 149 ≤ y54.toInt from (by have z19 : (0 : Int32).toInt = 0 := rfl; have t1 : y59.toInt + 149 ≤ y54.toInt := b80; omega)), (show y54.toInt ≤ y59.toInt + 1075 from (by have z19 : (0 : Int32).toInt = 0 := rfl; have t1 : y54.toInt ≤ y59.toInt + 1075 := b81; omega)), (show y59.toInt + 150 ≤ y57.toInt from (by have z19 : (0 : Int32).toInt = 0 := rfl; have t1 : y59.toInt + 150 ≤ y57.toInt := b82; omega)), (show ((0 : Int32), lx110, y52, y53, y54, y55, y56, y57, y58, y59, y60, y61, t1_0, t2_0, t3_0, t4_0, t5_0, t6_0) = (F_FR_power x2 x3 t0_0 t0_1 t0_2 t0_3 t0_4 t0_5 t0_6 t0_7 t0_8 t0_9 t0_10 t1_0 t2_0 t3_0 t4_0 t5_0 t6_0) from Eq.trans (by rw [F_FR_power_J47.eq_1, if_pos c128]) hR121)⟩) d_17_34_67
      ·
        refine lv_aload_n hx hb d_17_34_57 rfl (lv_at hl 0 rfl) ?_
        refine q_get (ci := 15) (j := 14) (v := .long y58) C0 V i_FR rfl rfl hO50 (by decide) w_2090 rfl d_17_34_58 ?_
        refine lv_lconst (v := 0) hx hb d_17_34_61 (by decide) ?_
        refine W.lcmp hx hb d_17_34_62 ?_
        obtain ⟨a131, e132⟩ := q_nm (lg_cmp y58 0 : Int32)
        refine q_ti (v := a131) e132 ?_
        refine lv_if_ne (tgt := 68) hx hb d_17_34_63 (by decide) (fun c134 => ?_) (fun c134 => ?_)
        ·
          refine lv_aload_n hx hb d_17_34_68 rfl (lv_at hl 0 rfl) ?_
          have ob136 : True ∧ S_FR_findShortest lx110 y52 y53 y54 y55 y56 y57 y58 y59 y60 y61 t1_0 t2_0 t3_0 t4_0 t5_0 t6_0 := (by have h := hS122; rw [S_FR_power_J47.eq_1] at h; rw [if_neg c128] at h; have c134x := c134; rw [← e132] at c134x; rw [if_neg c134x] at h; with_reducible exact h.2.1)
          refine q_gov V (q_runV (As := []) (rest := []) (d := 4) (mc := 0) (ms := 0) (ci := 15) C0 V rfl LV_FR_136 (X_FR_findShortest l D g q w126   hI lx110 y52 y53 y54 y55 y56 y57 y58 y59 y60 y61 hO50 t1_0 hT1 t2_0 hT2 t3_0 hT3 t4_0 hT4 t5_0 hT5 t6_0 hT6 ob136 _) rfl rfl hO50 rfl hl.1 rfl (Nat.le_of_ble_eq_true rfl) ⟨by decide, by decide⟩ ⟨Nat.le_of_ble_eq_true rfl, Nat.le_of_ble_eq_true rfl⟩ d_17_34_69) (fun u137 H locs hp138 V => ?_)
          obtain ⟨hI, hZ9⟩ := hp138
          obtain ⟨hu182, hZ9⟩ := hZ9
          obtain ⟨y140, hZ9⟩ := hZ9
          obtain ⟨y141, hZ9⟩ := hZ9
          obtain ⟨y142, hZ9⟩ := hZ9
          obtain ⟨y143, hZ9⟩ := hZ9
          obtain ⟨y144, hZ9⟩ := hZ9
          obtain ⟨y145, hZ9⟩ := hZ9
          obtain ⟨y146, hZ9⟩ := hZ9
          obtain ⟨y147, hZ9⟩ := hZ9
          obtain ⟨y148, hZ9⟩ := hZ9
          obtain ⟨y149, hZ9⟩ := hZ9
          obtain ⟨y150, hZ9⟩ := hZ9
          obtain ⟨f151, hZ9⟩ := hZ9
          obtain ⟨f153, hZ9⟩ := hZ9
          obtain ⟨f155, hZ9⟩ := hZ9
          obtain ⟨f157, hZ9⟩ := hZ9
          obtain ⟨f159, hZ9⟩ := hZ9
          obtain ⟨f161, hZ9⟩ := hZ9
          obtain ⟨hO139, hZ9⟩ := hZ9
          obtain ⟨hA152, hZ9⟩ := hZ9
          obtain ⟨hA154, hZ9⟩ := hZ9
          obtain ⟨hA156, hZ9⟩ := hZ9
          obtain ⟨hA158, hZ9⟩ := hZ9
          obtain ⟨hA160, hZ9⟩ := hZ9
          obtain ⟨hA162, hZ9⟩ := hZ9
          obtain ⟨b163, hZ9⟩ := hZ9
          obtain ⟨b164, hZ9⟩ := hZ9
          obtain ⟨b165, hZ9⟩ := hZ9
          obtain ⟨b166, hZ9⟩ := hZ9
          obtain ⟨b167, hZ9⟩ := hZ9
          obtain ⟨b168, hZ9⟩ := hZ9
          obtain ⟨b169, hZ9⟩ := hZ9
          obtain ⟨b170, hZ9⟩ := hZ9
          replace hZ9 := hZ9.2.2
          obtain ⟨b173, hZ9⟩ := hZ9
          obtain ⟨b174, hZ9⟩ := hZ9
          obtain ⟨b175, hZ9⟩ := hZ9
          obtain ⟨b176, hZ9⟩ := hZ9
          replace hZ9 := hZ9.2.2
          obtain ⟨b179, hZ9⟩ := hZ9
          obtain ⟨b180, hE181⟩ := hZ9
          replace hO139 : u137[145]? = (some (q 145, .inr (15, [.int y140, .ref (q 146), .ref (q 147), .ref (q 148), .ref (q 149), .ref (q 150), .ref (q 151), .ref (q 152), .int y141, .int y142, .int y143, .long y144, .int y145, .int y146, .long y147, .int y148, .long y149, .int y150])) : Option (Nat × va_E)) := hO139
          replace hA152 : u137[146]? = (some (q 146, .inl (g 0, (156 : Int32).toNatClampNeg, .inl f151)) : Option (Nat × va_E)) := hA152
          replace hA154 : u137[147]? = (some (q 147, .inl (g 0, (156 : Int32).toNatClampNeg, .inl f153)) : Option (Nat × va_E)) := hA154
          replace hA156 : u137[148]? = (some (q 148, .inl (g 0, (1404 : Int32).toNatClampNeg, .inl f155)) : Option (Nat × va_E)) := hA156
          replace hA158 : u137[149]? = (some (q 149, .inl (g 0, (1404 : Int32).toNatClampNeg, .inl f157)) : Option (Nat × va_E)) := hA158
          replace hA160 : u137[150]? = (some (q 150, .inl (g 0, (1404 : Int32).toNatClampNeg, .inl f159)) : Option (Nat × va_E)) := hA160
          replace hA162 : u137[151]? = (some (q 151, .inl (g 0, (1404 : Int32).toNatClampNeg, .inl f161)) : Option (Nat × va_E)) := hA162
          obtain ⟨p183, e184⟩ : ∃ z, z = (F_FR_findShortest lx110 y52 y53 y54 y55 y56 y57 y58 y59 y60 y61 t1_0 t2_0 t3_0 t4_0 t5_0 t6_0) := ⟨_, rfl⟩
          have e185 : y140 = p183.1 := congrArg (fun z => z.1) (hE181.trans e184.symm)
          have e186 : y141 = p183.2.1 := congrArg (fun z => z.2.1) (hE181.trans e184.symm)
          have e187 : y142 = p183.2.2.1 := congrArg (fun z => z.2.2.1) (hE181.trans e184.symm)
          have e188 : y143 = p183.2.2.2.1 := congrArg (fun z => z.2.2.2.1) (hE181.trans e184.symm)
          have e189 : y144 = p183.2.2.2.2.1 := congrArg (fun z => z.2.2.2.2.1) (hE181.trans e184.symm)
          have e190 : y145 = p183.2.2.2.2.2.1 := congrArg (fun z => z.2.2.2.2.2.1) (hE181.trans e184.symm)
          have e191 : y146 = p183.2.2.2.2.2.2.1 := congrArg (fun z => z.2.2.2.2.2.2.1) (hE181.trans e184.symm)
          have e192 : y147 = p183.2.2.2.2.2.2.2.1 := congrArg (fun z => z.2.2.2.2.2.2.2.1) (hE181.trans e184.symm)
          have e193 : y148 = p183.2.2.2.2.2.2.2.2.1 := congrArg (fun z => z.2.2.2.2.2.2.2.2.1) (hE181.trans e184.symm)
          have e194 : y149 = p183.2.2.2.2.2.2.2.2.2.1 := congrArg (fun z => z.2.2.2.2.2.2.2.2.2.1) (hE181.trans e184.symm)
          have e195 : y150 = p183.2.2.2.2.2.2.2.2.2.2.1 := congrArg (fun z => z.2.2.2.2.2.2.2.2.2.2.1) (hE181.trans e184.symm)
          have e196 : f151 = p183.2.2.2.2.2.2.2.2.2.2.2.1 := congrArg (fun z => z.2.2.2.2.2.2.2.2.2.2.2.1) (hE181.trans e184.symm)
          have e197 : f153 = p183.2.2.2.2.2.2.2.2.2.2.2.2.1 := congrArg (fun z => z.2.2.2.2.2.2.2.2.2.2.2.2.1) (hE181.trans e184.symm)
          have e198 : f155 = p183.2.2.2.2.2.2.2.2.2.2.2.2.2.1 := congrArg (fun z => z.2.2.2.2.2.2.2.2.2.2.2.2.2.1) (hE181.trans e184.symm)
          have e199 : f157 = p183.2.2.2.2.2.2.2.2.2.2.2.2.2.2.1 := congrArg (fun z => z.2.2.2.2.2.2.2.2.2.2.2.2.2.2.1) (hE181.trans e184.symm)
          have e200 : f159 = p183.2.2.2.2.2.2.2.2.2.2.2.2.2.2.2.1 := congrArg (fun z => z.2.2.2.2.2.2.2.2.2.2.2.2.2.2.2.1) (hE181.trans e184.symm)
          have e201 : f161 = p183.2.2.2.2.2.2.2.2.2.2.2.2.2.2.2.2 := congrArg (fun z => z.2.2.2.2.2.2.2.2.2.2.2.2.2.2.2.2) (hE181.trans e184.symm)
          replace b163 : q_F (lx110.toInt ≤ y140.toInt) := b163
          replace b164 : q_F (y140.toInt ≤ lx110.toInt) := b164
          replace b165 : q_F (y52.toInt ≤ y141.toInt) := b165
          replace b166 : q_F (y141.toInt ≤ y52.toInt) := b166
          replace b167 : q_F (y53.toInt ≤ y142.toInt) := b167
          replace b168 : q_F (y142.toInt ≤ y53.toInt) := b168
          replace b169 : q_F (y54.toInt ≤ y143.toInt) := b169
          replace b170 : q_F (y143.toInt ≤ y54.toInt) := b170
          replace b173 : q_F (y56.toInt ≤ y145.toInt) := b173
          replace b174 : q_F (y145.toInt ≤ y56.toInt) := b174
          replace b175 : q_F (y57.toInt ≤ y146.toInt) := b175
          replace b176 : q_F (y146.toInt ≤ y57.toInt) := b176
          replace b179 : q_F (y59.toInt ≤ y148.toInt) := b179
          replace b180 : q_F (y148.toInt ≤ y59.toInt) := b180
          replace hF := q_uc hF hu182 (by simp)
          have hR202 := (show F_FR_power_c69 x2 x3 t0_0 t0_1 t0_2 t0_3 t0_4 t0_5 t0_6 t0_7 t0_8 t0_9 t0_10 t1_0 t2_0 t3_0 t4_0 t5_0 t6_0 lx32 p85 y51 y52 y53 y54 y55 y56 y57 y58 y59 y60 y61 lx110 p183 = (F_FR_power x2 x3 t0_0 t0_1 t0_2 t0_3 t0_4 t0_5 t0_6 t0_7 t0_8 t0_9 t0_10 t1_0 t2_0 t3_0 t4_0 t5_0 t6_0) from Eq.trans (by have c134x := c134; rw [← e132] at c134x; rw [e184, F_FR_power_J47.eq_1, if_neg c128, if_neg c134x]) hR121)
          have hS203 := (show True ∧ S_FR_power_c69 x2 x3 t0_0 t0_1 t0_2 t0_3 t0_4 t0_5 t0_6 t0_7 t0_8 t0_9 t0_10 t1_0 t2_0 t3_0 t4_0 t5_0 t6_0 lx32 p85 y51 y52 y53 y54 y55 y56 y57 y58 y59 y60 y61 lx110 p183 from (by rw [e184]; have h := hS122; rw [S_FR_power_J47.eq_1] at h; rw [if_neg c128] at h; have c134x := c134; rw [← e132] at c134x; rw [if_neg c134x] at h; replace h := q_s2 h; with_reducible exact h))
          refine lv_aload_n hx hb d_17_34_72 rfl (lv_at hl 0 rfl) ?_
          refine q_get (ci := 15) (j := 17) (v := .int y150) C0 V i_FR rfl rfl hO139 (by decide) w_2093 rfl d_17_34_73 ?_
          refine lv_sipush (v := 1080) hx hb d_17_34_76 (by decide) ?_
          refine lv_isub hx hb d_17_34_79 ?_
          obtain ⟨a207, e208⟩ := q_nm (y150 - 1080 : Int32)
          refine q_ti (v := a207) e208 ?_
          exact q_reti C0 V (⟨hI, hF, y140, y141, y142, y143, y144, y145, y146, y147, y148, y149, y150, f151, f153, f155, f157, f159, f161, hO139, hA152, hA154, hA156, hA158, hA160, hA162, (show 0 ≤ y140.toInt from (by have t1 : 0 ≤ lx110.toInt := i119; have t2 : lx110.toInt ≤ y140.toInt := b163; omega)), (show y140.toInt ≤ 2 from (by have t1 : lx110.toInt ≤ 2 := i120; have t2 : y140.toInt ≤ lx110.toInt := b164; omega)), (show 0 ≤ y142.toInt from (by have t1 : 0 ≤ y53.toInt := b62; have t2 : y53.toInt ≤ y142.toInt := b167; omega)), (show y142.toInt ≤ 1 from (by have t1 : y53.toInt ≤ 1 := b63; have t2 : y142.toInt ≤ y53.toInt := b168; omega)), (show 0 ≤ y143.toInt from (by have t1 : 0 ≤ y54.toInt := b64; have t2 : y54.toInt ≤ y143.toInt := b169; omega)), (show 23 ≤ y145.toInt from (by have t1 : 23 ≤ y56.toInt := b65; have t2 : y56.toInt ≤ y145.toInt := b173; omega)), (show y145.toInt ≤ 52 from (by have t1 : y56.toInt ≤ 52 := b66; have t2 : y145.toInt ≤ y56.toInt := b174; omega)), (show 255 ≤ y146.toInt from (by have t1 : 255 ≤ y57.toInt := b67; have t2 : y57.toInt ≤ y146.toInt := b175; omega)), (show y146.toInt ≤ 2047 from (by have t1 : y57.toInt ≤ 2047 := b68; have t2 : y146.toInt ≤ y57.toInt := b176; omega)), (show 0 ≤ y148.toInt + 1074 from (by have t1 : 0 ≤ lx32.toInt := i41; have t2 : lx32.toInt ≤ y59.toInt + 1074 := b73; have t3 : y59.toInt ≤ y148.toInt := b179; omega)), (show t0_1.toInt ≤ y141.toInt from (by have t1 : t0_1.toInt ≤ y52.toInt := b71; have t2 : y52.toInt ≤ y141.toInt := b165; omega)), (show y141.toInt ≤ t0_1.toInt from (by have t1 : y52.toInt ≤ t0_1.toInt := b72; have t2 : y141.toInt ≤ y52.toInt := b166; omega)), (show y148.toInt ≤ x3.toInt + 1896 from (by have t1 : lx32.toInt ≤ x3.toInt := i42; have t2 : y59.toInt ≤ lx32.toInt + 1896 := b74; have t3 : y148.toInt ≤ y59.toInt := b180; omega)), (show y143.toInt ≤ y146.toInt from (by have t1 : y54.toInt ≤ y57.toInt := b79; have t2 : y143.toInt ≤ y54.toInt := b170; have t3 : y57.toInt ≤ y146.toInt := b175; omega)), (show y148.toInt + 149 ≤ y143.toInt from (by have t1 : y59.toInt + 149 ≤ y54.toInt := b80; have t2 : y54.toInt ≤ y143.toInt := b169; have t3 : y148.toInt ≤ y59.toInt := b180; omega)), (show y143.toInt ≤ y148.toInt + 1075 from (by have t1 : y54.toInt ≤ y59.toInt + 1075 := b81; have t2 : y143.toInt ≤ y54.toInt := b170; have t3 : y59.toInt ≤ y148.toInt := b179; omega)), (show y148.toInt + 150 ≤ y146.toInt from (by have t1 : y59.toInt + 150 ≤ y57.toInt := b82; have t2 : y57.toInt ≤ y146.toInt := b175; have t3 : y148.toInt ≤ y59.toInt := b180; omega)), (show (a207, y140, y141, y142, y143, y144, y145, y146, y147, y148, y149, y150, f151, f153, f155, f157, f159, f161) = (F_FR_power x2 x3 t0_0 t0_1 t0_2 t0_3 t0_4 t0_5 t0_6 t0_7 t0_8 t0_9 t0_10 t1_0 t2_0 t3_0 t4_0 t5_0 t6_0) from Eq.trans (by rw [← e208, e201, e200, e199, e198, e197, e196, e195, e194, e193, e192, e191, e190, e189, e188, e187, e186, e185, F_FR_power_c69.eq_1]) hR202)⟩) d_17_34_80
        ·
          refine lv_iconst (v := 0) hx hb d_17_34_66 (by decide) ?_
          exact q_reti C0 V (⟨hI, hF, lx110, y52, y53, y54, y55, y56, y57, y58, y59, y60, y61, t1_0, t2_0, t3_0, t4_0, t5_0, t6_0, hO50, hT1, hT2, hT3, hT4, hT5, hT6, (show 0 ≤ lx110.toInt from (by have z19 : (0 : Int32).toInt = 0 := rfl; have t1 : 0 ≤ lx110.toInt := i119; omega)), (show lx110.toInt ≤ 2 from (by have z19 : (0 : Int32).toInt = 0 := rfl; have t1 : lx110.toInt ≤ 2 := i120; omega)), (show 0 ≤ y53.toInt from (by have z19 : (0 : Int32).toInt = 0 := rfl; have t1 : 0 ≤ y53.toInt := b62; omega)), (show y53.toInt ≤ 1 from (by have z19 : (0 : Int32).toInt = 0 := rfl; have t1 : y53.toInt ≤ 1 := b63; omega)), (show 0 ≤ y54.toInt from (by have z19 : (0 : Int32).toInt = 0 := rfl; have t1 : 0 ≤ y54.toInt := b64; omega)), (show 23 ≤ y56.toInt from (by have z19 : (0 : Int32).toInt = 0 := rfl; have t1 : 23 ≤ y56.toInt := b65; omega)), (show y56.toInt ≤ 52 from (by have z19 : (0 : Int32).toInt = 0 := rfl; have t1 : y56.toInt ≤ 52 := b66; omega)), (show 255 ≤ y57.toInt from (by have z19 : (0 : Int32).toInt = 0 := rfl; have t1 : 255 ≤ y57.toInt := b67; omega)), (show y57.toInt ≤ 2047 from (by have z19 : (0 : Int32).toInt = 0 := rfl; have t1 : y57.toInt ≤ 2047 := b68; omega)), (show 0 ≤ y59.toInt + 1074 from (by have z19 : (0 : Int32).toInt = 0 := rfl; have t1 : 0 ≤ lx32.toInt := i41; have t2 : lx32.toInt ≤ y59.toInt + 1074 := b73; omega)), (show t0_1.toInt ≤ y52.toInt from (by have z19 : (0 : Int32).toInt = 0 := rfl; have t1 : t0_1.toInt ≤ y52.toInt := b71; omega)), (show y52.toInt ≤ t0_1.toInt from (by have z19 : (0 : Int32).toInt = 0 := rfl; have t1 : y52.toInt ≤ t0_1.toInt := b72; omega)), (show y59.toInt ≤ x3.toInt + 1896 from (by have z19 : (0 : Int32).toInt = 0 := rfl; have t1 : lx32.toInt ≤ x3.toInt := i42; have t2 : y59.toInt ≤ lx32.toInt + 1896 := b74; omega)), (show y54.toInt ≤ y57.toInt from (by have z19 : (0 : Int32).toInt = 0 := rfl; have t1 : y54.toInt ≤ y57.toInt := b79; omega)), (show y59.toInt + 149 ≤ y54.toInt from (by have z19 : (0 : Int32).toInt = 0 := rfl; have t1 : y59.toInt + 149 ≤ y54.toInt := b80; omega)), (show y54.toInt ≤ y59.toInt + 1075 from (by have z19 : (0 : Int32).toInt = 0 := rfl; have t1 : y54.toInt ≤ y59.toInt + 1075 := b81; omega)), (show y59.toInt + 150 ≤ y57.toInt from (by have z19 : (0 : Int32).toInt = 0 := rfl; have t1 : y59.toInt + 150 ≤ y57.toInt := b82; omega)), (show ((0 : Int32), lx110, y52, y53, y54, y55, y56, y57, y58, y59, y60, y61, t1_0, t2_0, t3_0, t4_0, t5_0, t6_0) = (F_FR_power x2 x3 t0_0 t0_1 t0_2 t0_3 t0_4 t0_5 t0_6 t0_7 t0_8 t0_9 t0_10 t1_0 t2_0 t3_0 t4_0 t5_0 t6_0) from Eq.trans (by have c134x := c134; rw [← e132] at c134x; rw [F_FR_power_J47.eq_1, if_neg c128, if_pos c134x]) hR121)⟩) d_17_34_67
    ·
      intro J118
      refine lv_if_eq (tgt := 35) hx hb d_17_34_28 (by decide) (fun c210 => ?_) (fun c210 => ?_)
      ·
        refine lv_aload_n hx hb d_17_34_35 rfl (lv_at hl 0 rfl) ?_
        refine q_goi V (q_runV (As := []) (rest := [.ref (q 145)]) (d := 1) (mc := 0) (ms := 0) (ci := 15) C0 V rfl LV_FR_130 (X_FR_isFinite l D g q u48   hI y51 y52 y53 y54 y55 y56 y57 y58 y59 y60 y61 hO50  _) rfl rfl hO50 rfl hl.1 rfl (Nat.le_of_ble_eq_true rfl) ⟨by decide, by decide⟩ ⟨Nat.le_of_ble_eq_true rfl, Nat.le_of_ble_eq_true rfl⟩ d_17_34_36) (fun a214 u212 H locs hp213 V => ?_)
        obtain ⟨rfl, b215, b216, hE217⟩ := hp213
        have e218 : a214 = (F_FR_isFinite y51 y52 y53 y54 y55 y56 y57 y58 y59 y60 y61) := hE217
        clear b215
        clear b216
        refine lv_if_ne (tgt := 46) hx hb d_17_34_39 (by decide) (fun c219 => ?_) (fun c219 => ?_)
        ·
          refine lv_iconst (v := 0) hx hb d_17_34_46 (by decide) ?_
          exact J118 ((0 : Int32)) _ _ _ u48 ⟨(show q_F (0 ≤ 0) from (show 0 ≤ 0 from by omega)), (show q_F (0 ≤ 2) from (show 0 ≤ 2 from by omega)), V, q_lw hl (q_lw1 0 rfl q_lw0), (show F_FR_power_J47 x2 x3 t0_0 t0_1 t0_2 t0_3 t0_4 t0_5 t0_6 t0_7 t0_8 t0_9 t0_10 t1_0 t2_0 t3_0 t4_0 t5_0 t6_0 lx32 p85 y51 y52 y53 y54 y55 y56 y57 y58 y59 y60 y61 0 = (F_FR_power x2 x3 t0_0 t0_1 t0_2 t0_3 t0_4 t0_5 t0_6 t0_7 t0_8 t0_9 t0_10 t1_0 t2_0 t3_0 t4_0 t5_0 t6_0) from Eq.trans (by have c210x := c210; rw [e109] at c210x; have c219x := c219; rw [e218, e97, e96, e95, e94, e93, e92, e91, e90, e89, e88, e87] at c219x; rw [e97, e96, e95, e94, e93, e92, e91, e90, e89, e88, e87, F_FR_power_c19.eq_1, if_pos c210x, if_neg c219x]) hR98), (show True ∧ S_FR_power_J47 x2 x3 t0_0 t0_1 t0_2 t0_3 t0_4 t0_5 t0_6 t0_7 t0_8 t0_9 t0_10 t1_0 t2_0 t3_0 t4_0 t5_0 t6_0 lx32 p85 y51 y52 y53 y54 y55 y56 y57 y58 y59 y60 y61 0 from (by rw [e97, e96, e95, e94, e93, e92, e91, e90, e89, e88, e87]; have h := hS99; rw [S_FR_power_c19.eq_1] at h; have c210x := c210; rw [e109] at c210x; rw [if_pos c210x] at h; have c219x := c219; rw [e218, e97, e96, e95, e94, e93, e92, e91, e90, e89, e88, e87] at c219x; rw [if_neg c219x] at h; with_reducible exact h))⟩
        ·
          refine lv_iconst (v := 2) hx hb d_17_34_42 (by decide) ?_
          refine lv_goto (tgt := 47) hx hb d_17_34_43 (by decide) ?_
          exact J118 ((2 : Int32)) _ _ _ u48 ⟨(show q_F (0 ≤ 2) from (show 0 ≤ 2 from by omega)), (show q_F (2 ≤ 2) from (show 2 ≤ 2 from by omega)), V, q_lw hl (q_lw1 0 rfl q_lw0), (show F_FR_power_J47 x2 x3 t0_0 t0_1 t0_2 t0_3 t0_4 t0_5 t0_6 t0_7 t0_8 t0_9 t0_10 t1_0 t2_0 t3_0 t4_0 t5_0 t6_0 lx32 p85 y51 y52 y53 y54 y55 y56 y57 y58 y59 y60 y61 2 = (F_FR_power x2 x3 t0_0 t0_1 t0_2 t0_3 t0_4 t0_5 t0_6 t0_7 t0_8 t0_9 t0_10 t1_0 t2_0 t3_0 t4_0 t5_0 t6_0) from Eq.trans (by have c210x := c210; rw [e109] at c210x; have c219x := c219; rw [e218, e97, e96, e95, e94, e93, e92, e91, e90, e89, e88, e87] at c219x; rw [e97, e96, e95, e94, e93, e92, e91, e90, e89, e88, e87, F_FR_power_c19.eq_1, if_pos c210x, if_pos c219x]) hR98), (show True ∧ S_FR_power_J47 x2 x3 t0_0 t0_1 t0_2 t0_3 t0_4 t0_5 t0_6 t0_7 t0_8 t0_9 t0_10 t1_0 t2_0 t3_0 t4_0 t5_0 t6_0 lx32 p85 y51 y52 y53 y54 y55 y56 y57 y58 y59 y60 y61 2 from (by rw [e97, e96, e95, e94, e93, e92, e91, e90, e89, e88, e87]; have h := hS99; rw [S_FR_power_c19.eq_1] at h; have c210x := c210; rw [e109] at c210x; rw [if_pos c210x] at h; have c219x := c219; rw [e218, e97, e96, e95, e94, e93, e92, e91, e90, e89, e88, e87] at c219x; rw [if_pos c219x] at h; with_reducible exact h))⟩
      ·
        refine lv_iconst (v := 1) hx hb d_17_34_31 (by decide) ?_
        refine lv_goto (tgt := 47) hx hb d_17_34_32 (by decide) ?_
        exact J118 ((1 : Int32)) _ _ _ u48 ⟨(show q_F (0 ≤ 1) from (show 0 ≤ 1 from by omega)), (show q_F (1 ≤ 2) from (show 1 ≤ 2 from by omega)), V, q_lw hl (q_lw1 0 rfl q_lw0), (show F_FR_power_J47 x2 x3 t0_0 t0_1 t0_2 t0_3 t0_4 t0_5 t0_6 t0_7 t0_8 t0_9 t0_10 t1_0 t2_0 t3_0 t4_0 t5_0 t6_0 lx32 p85 y51 y52 y53 y54 y55 y56 y57 y58 y59 y60 y61 1 = (F_FR_power x2 x3 t0_0 t0_1 t0_2 t0_3 t0_4 t0_5 t0_6 t0_7 t0_8 t0_9 t0_10 t1_0 t2_0 t3_0 t4_0 t5_0 t6_0) from Eq.trans (by have c210x := c210; rw [e109] at c210x; rw [e97, e96, e95, e94, e93, e92, e91, e90, e89, e88, e87, F_FR_power_c19.eq_1, if_neg c210x]) hR98), (show True ∧ S_FR_power_J47 x2 x3 t0_0 t0_1 t0_2 t0_3 t0_4 t0_5 t0_6 t0_7 t0_8 t0_9 t0_10 t1_0 t2_0 t3_0 t4_0 t5_0 t6_0 lx32 p85 y51 y52 y53 y54 y55 y56 y57 y58 y59 y60 y61 1 from (by rw [e97, e96, e95, e94, e93, e92, e91, e90, e89, e88, e87]; have h := hS99; rw [S_FR_power_c19.eq_1] at h; have c210x := c210; rw [e109] at c210x; rw [if_neg c210x] at h; with_reducible exact h))⟩
  ·
    intro J40
    refine q_join (X := Unit) (fun z H locs ls _ => q_Wd D g (va_A ws sz) s ws H locs ∧ lv_has ls 4 [(0, .ref (q 145)), (1, .long x2), (3, .int x3)] ∧ F_FR_power_J18 x2 x3 t0_0 t0_1 t0_2 t0_3 t0_4 t0_5 t0_6 t0_7 t0_8 t0_9 t0_10 t1_0 t2_0 t3_0 t4_0 t5_0 t6_0 = (F_FR_power x2 x3 t0_0 t0_1 t0_2 t0_3 t0_4 t0_5 t0_6 t0_7 t0_8 t0_9 t0_10 t1_0 t2_0 t3_0 t4_0 t5_0 t6_0) ∧ True ∧ S_FR_power_J18 x2 x3 t0_0 t0_1 t0_2 t0_3 t0_4 t0_5 t0_6 t0_7 t0_8 t0_9 t0_10 t1_0 t2_0 t3_0 t4_0 t5_0 t6_0) (fun z => [.long x2, .ref (q 145)]) 18 0 0 ?_ ?_
    ·
      rintro _ H locs ls _ ⟨V, hl, hR231, hS232⟩
      replace hl : lv_has ls 4 [(0, .ref (q 145)), (1, .long x2), (3, .int x3)] := hl
      refine lv_iconst (v := 0) hx hb d_17_34_18 (by decide) ?_
      exact J40 ((0 : Int32)) _ _ _ ws ⟨(show q_F (0 ≤ 0) from (show 0 ≤ 0 from by omega)), (show q_F (0 ≤ x3.toInt) from (show 0 ≤ x3.toInt from by have t1 : 0 ≤ x3.toInt ∧ x3.toInt ≤ 1 := hzx3; omega)), V, q_lw hl (q_lw1 0 rfl (q_lw1 1 rfl (q_lw1 2 rfl q_lw0))), (show F_FR_power_J19 x2 x3 t0_0 t0_1 t0_2 t0_3 t0_4 t0_5 t0_6 t0_7 t0_8 t0_9 t0_10 t1_0 t2_0 t3_0 t4_0 t5_0 t6_0 0 = (F_FR_power x2 x3 t0_0 t0_1 t0_2 t0_3 t0_4 t0_5 t0_6 t0_7 t0_8 t0_9 t0_10 t1_0 t2_0 t3_0 t4_0 t5_0 t6_0) from Eq.trans (by rw [F_FR_power_J18.eq_1]) hR231), (show True ∧ S_FR_power_J19 x2 x3 t0_0 t0_1 t0_2 t0_3 t0_4 t0_5 t0_6 t0_7 t0_8 t0_9 t0_10 t1_0 t2_0 t3_0 t4_0 t5_0 t6_0 0 from (by have h := hS232; rw [S_FR_power_J18.eq_1] at h; with_reducible exact h))⟩
    ·
      intro J230
      refine lv_if_eq (tgt := 18) hx hb d_17_34_3 (by decide) (fun c236 => ?_) (fun c236 => ?_)
      ·
        exact J230 (()) _ _ _ ws ⟨V, q_lw hl (q_lw1 0 rfl (q_lw1 1 rfl (q_lw1 2 rfl q_lw0))), (show F_FR_power_J18 x2 x3 t0_0 t0_1 t0_2 t0_3 t0_4 t0_5 t0_6 t0_7 t0_8 t0_9 t0_10 t1_0 t2_0 t3_0 t4_0 t5_0 t6_0 = (F_FR_power x2 x3 t0_0 t0_1 t0_2 t0_3 t0_4 t0_5 t0_6 t0_7 t0_8 t0_9 t0_10 t1_0 t2_0 t3_0 t4_0 t5_0 t6_0) from (by rw [F_FR_power.eq_1, if_pos c236])), (show True ∧ S_FR_power_J18 x2 x3 t0_0 t0_1 t0_2 t0_3 t0_4 t0_5 t0_6 t0_7 t0_8 t0_9 t0_10 t1_0 t2_0 t3_0 t4_0 t5_0 t6_0 from (by have h := hS; rw [S_FR_power.eq_1] at h; rw [if_pos c236] at h; with_reducible exact h))⟩
      ·
        have b238 : q_F (x3.toInt ≠ 0) := (q_neI c236)
        refine lv_lload_n hx hb d_17_34_6 rfl (lv_at hl 1 rfl) ?_
        refine lv_iload_n hx hb d_17_34_7 rfl (lv_at hl 2 rfl) ?_
        refine q_goi V (q_runS (As := [.long x2, .int x3]) (rest := [.long x2, .ref (q 145)]) (d := 1) (mc := 0) (ms := 0) C0 V rfl LS_FR_122 (X_FR_isWrong l D g q ws  x2 x3 hI  (by first | with_reducible exact q_fe hzx3 | exact ⟨(by have t1 : 0 ≤ x3.toInt ∧ x3.toInt ≤ 1 := hzx3; omega), (by have t1 : 0 ≤ x3.toInt ∧ x3.toInt ≤ 1 := hzx3; omega)⟩) _) rfl hl.1 rfl (Nat.le_of_ble_eq_true rfl) ⟨by decide, by decide⟩ ⟨Nat.le_of_ble_eq_true rfl, Nat.le_of_ble_eq_true rfl⟩ d_17_34_8) (fun a241 u239 H locs hp240 V => ?_)
        obtain ⟨rfl, b242, b243, hE244⟩ := hp240
        have e245 : a241 = (F_FR_isWrong x2 x3) := hE244
        clear b242
        clear b243
        refine lv_if_ne (tgt := 18) hx hb d_17_34_11 (by decide) (fun c246 => ?_) (fun c246 => ?_)
        ·
          exact J230 (()) _ _ _ ws ⟨V, q_lw hl (q_lw1 0 rfl (q_lw1 1 rfl (q_lw1 2 rfl q_lw0))), (show F_FR_power_J18 x2 x3 t0_0 t0_1 t0_2 t0_3 t0_4 t0_5 t0_6 t0_7 t0_8 t0_9 t0_10 t1_0 t2_0 t3_0 t4_0 t5_0 t6_0 = (F_FR_power x2 x3 t0_0 t0_1 t0_2 t0_3 t0_4 t0_5 t0_6 t0_7 t0_8 t0_9 t0_10 t1_0 t2_0 t3_0 t4_0 t5_0 t6_0) from (by have c246x := c246; rw [e245] at c246x; rw [F_FR_power.eq_1, if_neg c236, if_neg c246x])), (show True ∧ S_FR_power_J18 x2 x3 t0_0 t0_1 t0_2 t0_3 t0_4 t0_5 t0_6 t0_7 t0_8 t0_9 t0_10 t1_0 t2_0 t3_0 t4_0 t5_0 t6_0 from (by have h := hS; rw [S_FR_power.eq_1] at h; rw [if_neg c236] at h; have c246x := c246; rw [e245] at c246x; rw [if_neg c246x] at h; with_reducible exact h))⟩
        ·
          refine lv_iconst (v := 1) hx hb d_17_34_14 (by decide) ?_
          refine lv_goto (tgt := 19) hx hb d_17_34_15 (by decide) ?_
          exact J40 ((1 : Int32)) _ _ _ ws ⟨(show q_F (0 ≤ 1) from (show 0 ≤ 1 from by omega)), (show q_F (1 ≤ x3.toInt) from (show 1 ≤ x3.toInt from by have t1 : 0 ≤ x3.toInt ∧ x3.toInt ≤ 1 := hzx3; have t2 : x3.toInt ≠ 0 := b238; omega)), V, q_lw hl (q_lw1 0 rfl (q_lw1 1 rfl (q_lw1 2 rfl q_lw0))), (show F_FR_power_J19 x2 x3 t0_0 t0_1 t0_2 t0_3 t0_4 t0_5 t0_6 t0_7 t0_8 t0_9 t0_10 t1_0 t2_0 t3_0 t4_0 t5_0 t6_0 1 = (F_FR_power x2 x3 t0_0 t0_1 t0_2 t0_3 t0_4 t0_5 t0_6 t0_7 t0_8 t0_9 t0_10 t1_0 t2_0 t3_0 t4_0 t5_0 t6_0) from (by have c246x := c246; rw [e245] at c246x; rw [F_FR_power.eq_1, if_neg c236, if_pos c246x])), (show True ∧ S_FR_power_J19 x2 x3 t0_0 t0_1 t0_2 t0_3 t0_4 t0_5 t0_6 t0_7 t0_8 t0_9 t0_10 t1_0 t2_0 t3_0 t4_0 t5_0 t6_0 1 from (by have h := hS; rw [S_FR_power.eq_1] at h; rw [if_neg c236] at h; have c246x := c246; rw [e245] at c246x; rw [if_pos c246x] at h; with_reducible exact h))⟩

