theorem d_17_9_0 : decode prog_17_method_9_code 0 = .ok (.sipush 1403, 3) := by decide +kernel
theorem d_17_9_3 : decode prog_17_method_9_code 3 = .ok (.istore_n 1, 1) := by decide +kernel
theorem d_17_9_4 : decode prog_17_method_9_code 4 = .ok (.aload_n 0, 1) := by decide +kernel
theorem d_17_9_5 : decode prog_17_method_9_code 5 = .ok (.getfield 16, 3) := by decide +kernel
theorem d_17_9_8 : decode prog_17_method_9_code 8 = .ok (.iload_n 1, 1) := by decide +kernel
theorem d_17_9_9 : decode prog_17_method_9_code 9 = .ok (.iaload, 1) := by decide +kernel
theorem d_17_9_10 : decode prog_17_method_9_code 10 = .ok (.ifCond .ne 9, 3) := by decide +kernel
theorem d_17_9_19 : decode prog_17_method_9_code 19 = .ok (.iload_n 1, 1) := by decide +kernel
theorem d_17_9_20 : decode prog_17_method_9_code 20 = .ok (.ireturn, 1) := by decide +kernel
theorem d_17_9_13 : decode prog_17_method_9_code 13 = .ok (.iinc 1 (-1), 3) := by decide +kernel
theorem d_17_9_16 : decode prog_17_method_9_code 16 = .ok (.goto (-12), 3) := by decide +kernel
def y_FR_top : MethodName := ⟨"NumberHouseModel$FloatRows", "top", "()I"⟩
def F_FR_top_L4 (t0_0 : Int32) (t0_1 : Int32) (t0_2 : Int32) (t0_3 : Int32) (t0_4 : Int64) (t0_5 : Int32) (t0_6 : Int32) (t0_7 : Int64) (t0_8 : Int32) (t0_9 : Int64) (t0_10 : Int32) (t1_0 : (Nat → Int32)) : Nat → Int32 → Int32
  | 0, _ => default
  | fm + 1, lx18 => if (t1_0 lx18.toNatClampNeg : Int32) = (0 : Int32) then (F_FR_top_L4 t0_0 t0_1 t0_2 t0_3 t0_4 t0_5 t0_6 t0_7 t0_8 t0_9 t0_10 t1_0 fm (lx18 + (-1) : Int32)) else (lx18)
def F_FR_top (t0_0 : Int32) (t0_1 : Int32) (t0_2 : Int32) (t0_3 : Int32) (t0_4 : Int64) (t0_5 : Int32) (t0_6 : Int32) (t0_7 : Int64) (t0_8 : Int32) (t0_9 : Int64) (t0_10 : Int32) (t1_0 : (Nat → Int32)) : Int32 := F_FR_top_L4 t0_0 t0_1 t0_2 t0_3 t0_4 t0_5 t0_6 t0_7 t0_8 t0_9 t0_10 t1_0 (((1403 : Int32).toInt - ((-1))).toNat + 1) 1403
def S_FR_top_L4 (t0_0 : Int32) (t0_1 : Int32) (t0_2 : Int32) (t0_3 : Int32) (t0_4 : Int64) (t0_5 : Int32) (t0_6 : Int32) (t0_7 : Int64) (t0_8 : Int32) (t0_9 : Int64) (t0_10 : Int32) (t1_0 : (Nat → Int32)) : Nat → Int32 → Prop
  | 0, _ => False
  | fm + 1, lx18 => (0 ≤ lx18.toInt) ∧ (if (t1_0 lx18.toNatClampNeg : Int32) = (0 : Int32) then (S_FR_top_L4 t0_0 t0_1 t0_2 t0_3 t0_4 t0_5 t0_6 t0_7 t0_8 t0_9 t0_10 t1_0 fm (lx18 + (-1) : Int32)) else (True))
def S_FR_top (t0_0 : Int32) (t0_1 : Int32) (t0_2 : Int32) (t0_3 : Int32) (t0_4 : Int64) (t0_5 : Int32) (t0_6 : Int32) (t0_7 : Int64) (t0_8 : Int32) (t0_9 : Int64) (t0_10 : Int32) (t1_0 : (Nat → Int32)) : Prop := S_FR_top_L4 t0_0 t0_1 t0_2 t0_3 t0_4 t0_5 t0_6 t0_7 t0_8 t0_9 t0_10 t1_0 (((1403 : Int32).toInt - ((-1))).toNat + 1) 1403
set_option maxRecDepth 100000 in
set_option maxHeartbeats 4000000 in
theorem X_FR_top (l : Launch) (D : va_G) (g : Nat → ClassId) (q : Nat → Nat) (ws : va_W) (hI : q_I (msh g q) q ws) (t0_0 : Int32) (t0_1 : Int32) (t0_2 : Int32) (t0_3 : Int32) (t0_4 : Int64) (t0_5 : Int32) (t0_6 : Int32) (t0_7 : Int64) (t0_8 : Int32) (t0_9 : Int64) (t0_10 : Int32) (hT0 : ws[145]? = (some (q 145, .inr (15, [.int t0_0, .ref (q 146), .ref (q 147), .ref (q 148), .ref (q 149), .ref (q 150), .ref (q 151), .ref (q 152), .int t0_1, .int t0_2, .int t0_3, .long t0_4, .int t0_5, .int t0_6, .long t0_7, .int t0_8, .long t0_9, .int t0_10])) : Option (Nat × va_E))) (t1_0 : (Nat → Int32)) (hT1 : ws[148]? = (some (q 148, .inl (g 0, (1404 : Int32).toNatClampNeg, .inl t1_0)) : Option (Nat × va_E))) (hS : True ∧ S_FR_top t0_0 t0_1 t0_2 t0_3 t0_4 t0_5 t0_6 t0_7 t0_8 t0_9 t0_10 t1_0) : q_mI l y_FR_top prog_17_method_9_code 2 (.int) 1 0 0 D g [.ref (q 145)] ws (fun r u => ws = u ∧ (0 ≤ r.toInt) ∧ (r.toInt ≤ 1403) ∧ r = (F_FR_top t0_0 t0_1 t0_2 t0_3 t0_4 t0_5 t0_6 t0_7 t0_8 t0_9 t0_10 t1_0)) := by
  intro sz
  refine q_into (by decide) (Nat.le_of_ble_eq_true rfl) ?_
  intro p e s m below meth c ls hsz C0 V hl
  have hx := C0.1
  have hb := C0.2.1
  obtain ⟨yy0_0, yy0_1, yy0_2, yy0_3, yy0_4, yy0_5, yy0_6, yy0_7, yy0_8, yy0_9, yy0_10, hh0, btt0_2⟩ := n_o145 hI
  obtain ⟨rfl, rfl, rfl, rfl, rfl, rfl, rfl, rfl, rfl, rfl, rfl⟩ : t0_0 = yy0_0 ∧ t0_1 = yy0_1 ∧ t0_2 = yy0_2 ∧ t0_3 = yy0_3 ∧ t0_4 = yy0_4 ∧ t0_5 = yy0_5 ∧ t0_6 = yy0_6 ∧ t0_7 = yy0_7 ∧ t0_8 = yy0_8 ∧ t0_9 = yy0_9 ∧ t0_10 = yy0_10 := by have z := Option.some.inj (hT0.symm.trans hh0); simpa using z
  replace btt0_2 : q_F (0 ≤ t0_2.toInt ∧ t0_2.toInt ≤ 1) := btt0_2
  have hl : lv_has ls 2 [(0, .ref (q 145))] := hl
  refine lv_sipush (v := 1403) hx hb d_17_9_0 (by decide) ?_
  refine lv_istore_n (lv' := [(1, .int 1403), (0, .ref (q 145))]) hx hb d_17_9_3 rfl hl (by decide) rfl (fun ls hl => ?_)
  refine q_loop (X := Int32) (fun z H locs ls _ => q_F (z.toInt ≤ 1403) ∧ q_F (0 ≤ z.toInt + 1) ∧ q_Wd D g (va_A ws sz) s ws H locs ∧ lv_has ls 2 [(1, .int z), (0, .ref (q 145))] ∧ (∃ n, (z.toInt - ((-1))).toNat < n ∧ F_FR_top_L4 t0_0 t0_1 t0_2 t0_3 t0_4 t0_5 t0_6 t0_7 t0_8 t0_9 t0_10 t1_0 n z = (F_FR_top t0_0 t0_1 t0_2 t0_3 t0_4 t0_5 t0_6 t0_7 t0_8 t0_9 t0_10 t1_0) ∧ True ∧ S_FR_top_L4 t0_0 t0_1 t0_2 t0_3 t0_4 t0_5 t0_6 t0_7 t0_8 t0_9 t0_10 t1_0 n z)) (fun z => (z.toInt - ((-1))).toNat) ?_ ((1403 : Int32)) _ _ _ ws ⟨(show q_F (1403 ≤ 1403) from (show 1403 ≤ 1403 from by omega)), (show q_F (0 ≤ 1403 + 1) from (show 0 ≤ 1403 + 1 from by omega)), V, q_lw hl (q_lw1 0 rfl (q_lw1 1 rfl q_lw0)), ⟨(((1403 : Int32).toInt - ((-1))).toNat + 1), Nat.lt_succ_self _, (show F_FR_top_L4 t0_0 t0_1 t0_2 t0_3 t0_4 t0_5 t0_6 t0_7 t0_8 t0_9 t0_10 t1_0 (((1403 : Int32).toInt - ((-1))).toNat + 1) 1403 = (F_FR_top t0_0 t0_1 t0_2 t0_3 t0_4 t0_5 t0_6 t0_7 t0_8 t0_9 t0_10 t1_0) from (by rw [F_FR_top.eq_1])), (show True ∧ S_FR_top_L4 t0_0 t0_1 t0_2 t0_3 t0_4 t0_5 t0_6 t0_7 t0_8 t0_9 t0_10 t1_0 (((1403 : Int32).toInt - ((-1))).toNat + 1) 1403 from (by have h := hS; rw [S_FR_top.eq_1] at h; with_reducible exact h))⟩⟩
  rintro lx18 H locs ls _ ⟨i19, i20, V, hl, ⟨fu24, hf25, hR22, hS23⟩⟩ ih21
  obtain ⟨fm26, rfl⟩ : ∃ m, fu24 = m + 1 := ⟨fu24 - 1, by omega⟩
  replace i19 : q_F (lx18.toInt ≤ 1403) := i19
  replace i20 : q_F (0 ≤ lx18.toInt + 1) := i20
  replace hl : lv_has ls 2 [(1, .int lx18), (0, .ref (q 145))] := hl
  refine lv_aload_n hx hb d_17_9_4 rfl (lv_at hl 1 rfl) ?_
  refine q_get (ci := 15) (j := 3) (v := .ref (q 148)) C0 V i_FR rfl rfl hT0 (by decide) w_2078 rfl d_17_9_5 ?_
  refine lv_iload_n hx hb d_17_9_8 rfl (lv_at hl 0 rfl) ?_
  have ob27 : q_F (0 ≤ lx18.toInt) := (by have h := hS23; rw [S_FR_top_L4.eq_2] at h; exact h.2.1)
  refine q_iald C0 V hT1 (q_ix (x := lx18.toInt) rfl (by have t1 : 0 ≤ lx18.toInt := ob27; omega) (by have t1 : 0 ≤ lx18.toInt := ob27; have t2 : lx18.toInt ≤ 1403 := i19; have e9 : (((1404 : Int32).toNatClampNeg : Nat) : Int) = 1404 := (by decide); omega)) d_17_9_9 ?_
  obtain ⟨a28, e29⟩ := q_nm (t1_0 lx18.toNatClampNeg : Int32)
  refine q_ti (v := a28) e29 ?_
  refine lv_if_ne (tgt := 19) hx hb d_17_9_10 (by decide) (fun c30 => ?_) (fun c30 => ?_)
  ·
    have b31 : q_F (a28.toInt ≠ 0) := (q_neI c30)
    refine lv_iload_n hx hb d_17_9_19 rfl (lv_at hl 0 rfl) ?_
    exact q_reti C0 V (⟨rfl, (show 0 ≤ lx18.toInt from (by have t1 : 0 ≤ lx18.toInt := ob27; omega)), (show lx18.toInt ≤ 1403 from (by have t1 : lx18.toInt ≤ 1403 := i19; omega)), (show lx18 = (F_FR_top t0_0 t0_1 t0_2 t0_3 t0_4 t0_5 t0_6 t0_7 t0_8 t0_9 t0_10 t1_0) from Eq.trans (by have c30x := c30; rw [← e29] at c30x; rw [F_FR_top_L4.eq_2, if_neg c30x]) hR22)⟩) d_17_9_20
  ·
    have b32 : q_F (a28.toInt = 0) := (q_eqI c30)
    obtain ⟨a33, e34⟩ := q_nm (lx18 + (-1) : Int32)
    have b35 : q_F (a33.toInt = lx18.toInt + (-1)) := (by rw [← e34]; exact q_addI (y := (-1)) rfl (by decide) (by have t1 : 0 ≤ lx18.toInt + 1 := i20; have t2 : lx18.toInt ≤ 1403 := i19; omega) (by have t1 : 0 ≤ lx18.toInt + 1 := i20; have t2 : lx18.toInt ≤ 1403 := i19; omega))
    refine lv_iinc (v := a33) (lv' := [(1, .int a33), (0, .ref (q 145))]) hx hb d_17_9_13 hl (k := 0) rfl (e34) (by decide) rfl (fun ls hl => ?_)
    refine lv_goto (tgt := 4) hx hb d_17_9_16 (by decide) ?_
    exact ih21 ((a33 : Int32)) _ _ _ ws (show (a33.toInt - ((-1))).toNat < (lx18.toInt - ((-1))).toNat from by have t1 : a33.toInt = lx18.toInt + (-1) := b35; have t2 : 0 ≤ lx18.toInt + 1 := i20; have t3 : 0 ≤ lx18.toInt := ob27; omega) ⟨(show q_F (a33.toInt ≤ 1403) from (show a33.toInt ≤ 1403 from by have t1 : lx18.toInt ≤ 1403 := i19; have t2 : a33.toInt = lx18.toInt + (-1) := b35; omega)), (show q_F (0 ≤ a33.toInt + 1) from (show 0 ≤ a33.toInt + 1 from by have t1 : 0 ≤ lx18.toInt := ob27; have t2 : a33.toInt = lx18.toInt + (-1) := b35; omega)), V, q_lw hl (q_lw1 0 rfl (q_lw1 1 rfl q_lw0)), ⟨fm26, Nat.lt_of_lt_of_le (show (a33.toInt - ((-1))).toNat < (lx18.toInt - ((-1))).toNat from by have t1 : a33.toInt = lx18.toInt + (-1) := b35; have t2 : 0 ≤ lx18.toInt + 1 := i20; have t3 : 0 ≤ lx18.toInt := ob27; omega) (Nat.le_of_lt_succ hf25), (show F_FR_top_L4 t0_0 t0_1 t0_2 t0_3 t0_4 t0_5 t0_6 t0_7 t0_8 t0_9 t0_10 t1_0 fm26 a33 = (F_FR_top t0_0 t0_1 t0_2 t0_3 t0_4 t0_5 t0_6 t0_7 t0_8 t0_9 t0_10 t1_0) from Eq.trans (by have c30x := c30; rw [← e29] at c30x; rw [← e34, F_FR_top_L4.eq_2, if_pos c30x]) hR22), (show True ∧ S_FR_top_L4 t0_0 t0_1 t0_2 t0_3 t0_4 t0_5 t0_6 t0_7 t0_8 t0_9 t0_10 t1_0 fm26 a33 from (by rw [← e34]; have h := hS23; rw [S_FR_top_L4.eq_2] at h; replace h := q_s2 h; have c30x := c30; rw [← e29] at c30x; rw [if_pos c30x] at h; with_reducible exact h))⟩⟩
theorem d_17_11_0 : decode prog_17_method_11_code 0 = .ok (.iconst 0, 1) := by decide +kernel
theorem d_17_11_1 : decode prog_17_method_11_code 1 = .ok (.istore_n 3, 1) := by decide +kernel
theorem d_17_11_2 : decode prog_17_method_11_code 2 = .ok (.iload_n 3, 1) := by decide +kernel
theorem d_17_11_3 : decode prog_17_method_11_code 3 = .ok (.sipush 1404, 3) := by decide +kernel
theorem d_17_11_6 : decode prog_17_method_11_code 6 = .ok (.if_icmp .ge 30, 3) := by decide +kernel
theorem d_17_11_36 : decode prog_17_method_11_code 36 = .ok (.iload_n 1, 1) := by decide +kernel
theorem d_17_11_37 : decode prog_17_method_11_code 37 = .ok (.istore_n 3, 1) := by decide +kernel
theorem d_17_11_38 : decode prog_17_method_11_code 38 = .ok (.iload_n 2, 1) := by decide +kernel
theorem d_17_11_39 : decode prog_17_method_11_code 39 = .ok (.istore 4, 2) := by decide +kernel
theorem d_17_11_41 : decode prog_17_method_11_code 41 = .ok (.iload 4, 2) := by decide +kernel
theorem d_17_11_43 : decode prog_17_method_11_code 43 = .ok (.ifCond .eq 54, 3) := by decide +kernel
theorem d_17_11_97 : decode prog_17_method_11_code 97 = .ok (.return_, 1) := by decide +kernel
theorem d_17_11_46 : decode prog_17_method_11_code 46 = .ok (.aload_n 0, 1) := by decide +kernel
theorem d_17_11_47 : decode prog_17_method_11_code 47 = .ok (.getfield 25, 3) := by decide +kernel
theorem d_17_11_50 : decode prog_17_method_11_code 50 = .ok (.iload_n 3, 1) := by decide +kernel
theorem d_17_11_51 : decode prog_17_method_11_code 51 = .ok (.aload_n 0, 1) := by decide +kernel
theorem d_17_11_52 : decode prog_17_method_11_code 52 = .ok (.getfield 25, 3) := by decide +kernel
theorem d_17_11_55 : decode prog_17_method_11_code 55 = .ok (.iload_n 3, 1) := by decide +kernel
theorem d_17_11_56 : decode prog_17_method_11_code 56 = .ok (.iaload, 1) := by decide +kernel
theorem d_17_11_57 : decode prog_17_method_11_code 57 = .ok (.bipush 9, 2) := by decide +kernel
theorem d_17_11_74 : decode prog_17_method_11_code 74 = .ok (.iastore, 1) := by decide +kernel
theorem d_17_11_75 : decode prog_17_method_11_code 75 = .ok (.aload_n 0, 1) := by decide +kernel
theorem d_17_11_76 : decode prog_17_method_11_code 76 = .ok (.getfield 25, 3) := by decide +kernel
theorem d_17_11_79 : decode prog_17_method_11_code 79 = .ok (.iload_n 3, 1) := by decide +kernel
theorem d_17_11_80 : decode prog_17_method_11_code 80 = .ok (.iaload, 1) := by decide +kernel
theorem d_17_11_81 : decode prog_17_method_11_code 81 = .ok (.ifCond .ne 7, 3) := by decide +kernel
theorem d_17_11_88 : decode prog_17_method_11_code 88 = .ok (.iconst 0, 1) := by decide +kernel
theorem d_17_11_89 : decode prog_17_method_11_code 89 = .ok (.istore 4, 2) := by decide +kernel
theorem d_17_11_91 : decode prog_17_method_11_code 91 = .ok (.iinc 3 1, 3) := by decide +kernel
theorem d_17_11_94 : decode prog_17_method_11_code 94 = .ok (.goto (-53), 3) := by decide +kernel
theorem d_17_11_84 : decode prog_17_method_11_code 84 = .ok (.iconst 1, 1) := by decide +kernel
theorem d_17_11_85 : decode prog_17_method_11_code 85 = .ok (.goto 4, 3) := by decide +kernel
theorem d_17_11_59 : decode prog_17_method_11_code 59 = .ok (.if_icmp .ne 7, 3) := by decide +kernel
theorem d_17_11_66 : decode prog_17_method_11_code 66 = .ok (.aload_n 0, 1) := by decide +kernel
theorem d_17_11_67 : decode prog_17_method_11_code 67 = .ok (.getfield 25, 3) := by decide +kernel
theorem d_17_11_70 : decode prog_17_method_11_code 70 = .ok (.iload_n 3, 1) := by decide +kernel
theorem d_17_11_71 : decode prog_17_method_11_code 71 = .ok (.iaload, 1) := by decide +kernel
theorem d_17_11_72 : decode prog_17_method_11_code 72 = .ok (.iconst 1, 1) := by decide +kernel
theorem d_17_11_73 : decode prog_17_method_11_code 73 = .ok (.iadd, 1) := by decide +kernel
theorem d_17_11_62 : decode prog_17_method_11_code 62 = .ok (.iconst 0, 1) := by decide +kernel
theorem d_17_11_63 : decode prog_17_method_11_code 63 = .ok (.goto 11, 3) := by decide +kernel
theorem d_17_11_9 : decode prog_17_method_11_code 9 = .ok (.aload_n 0, 1) := by decide +kernel
theorem d_17_11_10 : decode prog_17_method_11_code 10 = .ok (.getfield 25, 3) := by decide +kernel
theorem d_17_11_13 : decode prog_17_method_11_code 13 = .ok (.iload_n 3, 1) := by decide +kernel
theorem d_17_11_14 : decode prog_17_method_11_code 14 = .ok (.iload_n 3, 1) := by decide +kernel
theorem d_17_11_15 : decode prog_17_method_11_code 15 = .ok (.iload_n 1, 1) := by decide +kernel
theorem d_17_11_16 : decode prog_17_method_11_code 16 = .ok (.if_icmp .ge 7, 3) := by decide +kernel
theorem d_17_11_23 : decode prog_17_method_11_code 23 = .ok (.aload_n 0, 1) := by decide +kernel
theorem d_17_11_24 : decode prog_17_method_11_code 24 = .ok (.getfield 16, 3) := by decide +kernel
theorem d_17_11_27 : decode prog_17_method_11_code 27 = .ok (.iload_n 3, 1) := by decide +kernel
theorem d_17_11_28 : decode prog_17_method_11_code 28 = .ok (.iaload, 1) := by decide +kernel
theorem d_17_11_29 : decode prog_17_method_11_code 29 = .ok (.iastore, 1) := by decide +kernel
theorem d_17_11_30 : decode prog_17_method_11_code 30 = .ok (.iinc 3 1, 3) := by decide +kernel
theorem d_17_11_33 : decode prog_17_method_11_code 33 = .ok (.goto (-31), 3) := by decide +kernel
theorem d_17_11_19 : decode prog_17_method_11_code 19 = .ok (.iconst 0, 1) := by decide +kernel
theorem d_17_11_20 : decode prog_17_method_11_code 20 = .ok (.goto 9, 3) := by decide +kernel
def y_FR_cut : MethodName := ⟨"NumberHouseModel$FloatRows", "cut", "(IZ)V"⟩
def F_FR_cut_J74 (K_F_FR_cut_L2 : Int32 → (Nat → Int32) → (Nat → Int32)) (K_F_FR_cut_L41 : Int32 → Int32 → (Nat → Int32) → (Nat → Int32)) (x2 : Int32) (x3 : Int32) (t0_0 : Int32) (t0_1 : Int32) (t0_2 : Int32) (t0_3 : Int32) (t0_4 : Int64) (t0_5 : Int32) (t0_6 : Int32) (t0_7 : Int64) (t0_8 : Int32) (t0_9 : Int64) (t0_10 : Int32) (t1_0 : (Nat → Int32)) (t2_0 : (Nat → Int32)) (lx21 : Int32) (lx22 : (Nat → Int32)) (lx39 : Int32) (lx40 : Int32) (lx41 : (Nat → Int32)) (lx62 : Int32) : (Nat → Int32) := if ((upd lx41 lx40.toNatClampNeg lx62 : (Nat → Int32)) lx40.toNatClampNeg : Int32) = (0 : Int32) then (K_F_FR_cut_L41 1 (lx40 + 1 : Int32) (upd lx41 lx40.toNatClampNeg lx62 : (Nat → Int32))) else (K_F_FR_cut_L41 0 (lx40 + 1 : Int32) (upd lx41 lx40.toNatClampNeg lx62 : (Nat → Int32)))
def F_FR_cut_L41 (K_F_FR_cut_L2 : Int32 → (Nat → Int32) → (Nat → Int32)) (x2 : Int32) (x3 : Int32) (t0_0 : Int32) (t0_1 : Int32) (t0_2 : Int32) (t0_3 : Int32) (t0_4 : Int64) (t0_5 : Int32) (t0_6 : Int32) (t0_7 : Int64) (t0_8 : Int32) (t0_9 : Int64) (t0_10 : Int32) (t1_0 : (Nat → Int32)) (t2_0 : (Nat → Int32)) (lx21 : Int32) (lx22 : (Nat → Int32)) : Nat → Int32 → Int32 → (Nat → Int32) → (Nat → Int32)
  | 0, _, _, _ => default
  | fm + 1, lx39, lx40, lx41 => if lx39 = (0 : Int32) then (lx41) else (if (lx41 lx40.toNatClampNeg : Int32) = (9 : Int32) then (F_FR_cut_J74 K_F_FR_cut_L2 (F_FR_cut_L41 K_F_FR_cut_L2 x2 x3 t0_0 t0_1 t0_2 t0_3 t0_4 t0_5 t0_6 t0_7 t0_8 t0_9 t0_10 t1_0 t2_0 lx21 lx22 fm) x2 x3 t0_0 t0_1 t0_2 t0_3 t0_4 t0_5 t0_6 t0_7 t0_8 t0_9 t0_10 t1_0 t2_0 lx21 lx22 lx39 lx40 lx41 0) else (F_FR_cut_J74 K_F_FR_cut_L2 (F_FR_cut_L41 K_F_FR_cut_L2 x2 x3 t0_0 t0_1 t0_2 t0_3 t0_4 t0_5 t0_6 t0_7 t0_8 t0_9 t0_10 t1_0 t2_0 lx21 lx22 fm) x2 x3 t0_0 t0_1 t0_2 t0_3 t0_4 t0_5 t0_6 t0_7 t0_8 t0_9 t0_10 t1_0 t2_0 lx21 lx22 lx39 lx40 lx41 ((lx41 lx40.toNatClampNeg : Int32) + 1 : Int32)))
def F_FR_cut_L2 (x2 : Int32) (x3 : Int32) (t0_0 : Int32) (t0_1 : Int32) (t0_2 : Int32) (t0_3 : Int32) (t0_4 : Int64) (t0_5 : Int32) (t0_6 : Int32) (t0_7 : Int64) (t0_8 : Int32) (t0_9 : Int64) (t0_10 : Int32) (t1_0 : (Nat → Int32)) (t2_0 : (Nat → Int32)) : Nat → Int32 → (Nat → Int32) → (Nat → Int32)
  | 0, _, _ => default
  | fm + 1, lx21, lx22 => if (1404 : Int32) ≤ lx21 then (F_FR_cut_L41 (F_FR_cut_L2 x2 x3 t0_0 t0_1 t0_2 t0_3 t0_4 t0_5 t0_6 t0_7 t0_8 t0_9 t0_10 t1_0 t2_0 fm) x2 x3 t0_0 t0_1 t0_2 t0_3 t0_4 t0_5 t0_6 t0_7 t0_8 t0_9 t0_10 t1_0 t2_0 lx21 lx22 1000000 x3 x2 lx22) else (if x2 ≤ lx21 then (F_FR_cut_L2 x2 x3 t0_0 t0_1 t0_2 t0_3 t0_4 t0_5 t0_6 t0_7 t0_8 t0_9 t0_10 t1_0 t2_0 fm (lx21 + 1 : Int32) (upd lx22 lx21.toNatClampNeg (t1_0 lx21.toNatClampNeg : Int32) : (Nat → Int32))) else (F_FR_cut_L2 x2 x3 t0_0 t0_1 t0_2 t0_3 t0_4 t0_5 t0_6 t0_7 t0_8 t0_9 t0_10 t1_0 t2_0 fm (lx21 + 1 : Int32) (upd lx22 lx21.toNatClampNeg 0 : (Nat → Int32))))
def F_FR_cut (x2 : Int32) (x3 : Int32) (t0_0 : Int32) (t0_1 : Int32) (t0_2 : Int32) (t0_3 : Int32) (t0_4 : Int64) (t0_5 : Int32) (t0_6 : Int32) (t0_7 : Int64) (t0_8 : Int32) (t0_9 : Int64) (t0_10 : Int32) (t1_0 : (Nat → Int32)) (t2_0 : (Nat → Int32)) : (Nat → Int32) := F_FR_cut_L2 x2 x3 t0_0 t0_1 t0_2 t0_3 t0_4 t0_5 t0_6 t0_7 t0_8 t0_9 t0_10 t1_0 t2_0 ((1404 - (0 : Int32).toInt).toNat + 1) 0 t2_0
def S_FR_cut_J74 (K_S_FR_cut_L2 : Int32 → (Nat → Int32) → Prop) (K_S_FR_cut_L41 : Int32 → Int32 → (Nat → Int32) → Prop) (x2 : Int32) (x3 : Int32) (t0_0 : Int32) (t0_1 : Int32) (t0_2 : Int32) (t0_3 : Int32) (t0_4 : Int64) (t0_5 : Int32) (t0_6 : Int32) (t0_7 : Int64) (t0_8 : Int32) (t0_9 : Int64) (t0_10 : Int32) (t1_0 : (Nat → Int32)) (t2_0 : (Nat → Int32)) (lx21 : Int32) (lx22 : (Nat → Int32)) (lx39 : Int32) (lx40 : Int32) (lx41 : (Nat → Int32)) (lx62 : Int32) : Prop := if ((upd lx41 lx40.toNatClampNeg lx62 : (Nat → Int32)) lx40.toNatClampNeg : Int32) = (0 : Int32) then (K_S_FR_cut_L41 1 (lx40 + 1 : Int32) (upd lx41 lx40.toNatClampNeg lx62 : (Nat → Int32))) else (K_S_FR_cut_L41 0 (lx40 + 1 : Int32) (upd lx41 lx40.toNatClampNeg lx62 : (Nat → Int32)))
def S_FR_cut_L41 (K_S_FR_cut_L2 : Int32 → (Nat → Int32) → Prop) (x2 : Int32) (x3 : Int32) (t0_0 : Int32) (t0_1 : Int32) (t0_2 : Int32) (t0_3 : Int32) (t0_4 : Int64) (t0_5 : Int32) (t0_6 : Int32) (t0_7 : Int64) (t0_8 : Int32) (t0_9 : Int64) (t0_10 : Int32) (t1_0 : (Nat → Int32)) (t2_0 : (Nat → Int32)) (lx21 : Int32) (lx22 : (Nat → Int32)) : Nat → Int32 → Int32 → (Nat → Int32) → Prop
  | 0, _, _, _ => False
  | fm + 1, lx39, lx40, lx41 => if lx39 = (0 : Int32) then (True) else ((0 ≤ lx40.toInt) ∧ ((lx40.toInt ≤ 1403) ∧ (if (lx41 lx40.toNatClampNeg : Int32) = (9 : Int32) then (S_FR_cut_J74 K_S_FR_cut_L2 (S_FR_cut_L41 K_S_FR_cut_L2 x2 x3 t0_0 t0_1 t0_2 t0_3 t0_4 t0_5 t0_6 t0_7 t0_8 t0_9 t0_10 t1_0 t2_0 lx21 lx22 fm) x2 x3 t0_0 t0_1 t0_2 t0_3 t0_4 t0_5 t0_6 t0_7 t0_8 t0_9 t0_10 t1_0 t2_0 lx21 lx22 lx39 lx40 lx41 0) else (S_FR_cut_J74 K_S_FR_cut_L2 (S_FR_cut_L41 K_S_FR_cut_L2 x2 x3 t0_0 t0_1 t0_2 t0_3 t0_4 t0_5 t0_6 t0_7 t0_8 t0_9 t0_10 t1_0 t2_0 lx21 lx22 fm) x2 x3 t0_0 t0_1 t0_2 t0_3 t0_4 t0_5 t0_6 t0_7 t0_8 t0_9 t0_10 t1_0 t2_0 lx21 lx22 lx39 lx40 lx41 ((lx41 lx40.toNatClampNeg : Int32) + 1 : Int32)))))
def S_FR_cut_L2 (x2 : Int32) (x3 : Int32) (t0_0 : Int32) (t0_1 : Int32) (t0_2 : Int32) (t0_3 : Int32) (t0_4 : Int64) (t0_5 : Int32) (t0_6 : Int32) (t0_7 : Int64) (t0_8 : Int32) (t0_9 : Int64) (t0_10 : Int32) (t1_0 : (Nat → Int32)) (t2_0 : (Nat → Int32)) : Nat → Int32 → (Nat → Int32) → Prop
  | 0, _, _ => False
  | fm + 1, lx21, lx22 => if (1404 : Int32) ≤ lx21 then (S_FR_cut_L41 (S_FR_cut_L2 x2 x3 t0_0 t0_1 t0_2 t0_3 t0_4 t0_5 t0_6 t0_7 t0_8 t0_9 t0_10 t1_0 t2_0 fm) x2 x3 t0_0 t0_1 t0_2 t0_3 t0_4 t0_5 t0_6 t0_7 t0_8 t0_9 t0_10 t1_0 t2_0 lx21 lx22 1000000 x3 x2 lx22) else (if x2 ≤ lx21 then (S_FR_cut_L2 x2 x3 t0_0 t0_1 t0_2 t0_3 t0_4 t0_5 t0_6 t0_7 t0_8 t0_9 t0_10 t1_0 t2_0 fm (lx21 + 1 : Int32) (upd lx22 lx21.toNatClampNeg (t1_0 lx21.toNatClampNeg : Int32) : (Nat → Int32))) else (S_FR_cut_L2 x2 x3 t0_0 t0_1 t0_2 t0_3 t0_4 t0_5 t0_6 t0_7 t0_8 t0_9 t0_10 t1_0 t2_0 fm (lx21 + 1 : Int32) (upd lx22 lx21.toNatClampNeg 0 : (Nat → Int32))))
def S_FR_cut (x2 : Int32) (x3 : Int32) (t0_0 : Int32) (t0_1 : Int32) (t0_2 : Int32) (t0_3 : Int32) (t0_4 : Int64) (t0_5 : Int32) (t0_6 : Int32) (t0_7 : Int64) (t0_8 : Int32) (t0_9 : Int64) (t0_10 : Int32) (t1_0 : (Nat → Int32)) (t2_0 : (Nat → Int32)) : Prop := S_FR_cut_L2 x2 x3 t0_0 t0_1 t0_2 t0_3 t0_4 t0_5 t0_6 t0_7 t0_8 t0_9 t0_10 t1_0 t2_0 ((1404 - (0 : Int32).toInt).toNat + 1) 0 t2_0
set_option maxRecDepth 100000 in
set_option maxHeartbeats 4000000 in
theorem X_FR_cut (l : Launch) (D : va_G) (g : Nat → ClassId) (q : Nat → Nat) (ws : va_W) (x2 : Int32) (x3 : Int32) (hI : q_I (msh g q) q ws) (t0_0 : Int32) (t0_1 : Int32) (t0_2 : Int32) (t0_3 : Int32) (t0_4 : Int64) (t0_5 : Int32) (t0_6 : Int32) (t0_7 : Int64) (t0_8 : Int32) (t0_9 : Int64) (t0_10 : Int32) (hT0 : ws[145]? = (some (q 145, .inr (15, [.int t0_0, .ref (q 146), .ref (q 147), .ref (q 148), .ref (q 149), .ref (q 150), .ref (q 151), .ref (q 152), .int t0_1, .int t0_2, .int t0_3, .long t0_4, .int t0_5, .int t0_6, .long t0_7, .int t0_8, .long t0_9, .int t0_10])) : Option (Nat × va_E))) (t1_0 : (Nat → Int32)) (hT1 : ws[148]? = (some (q 148, .inl (g 0, (1404 : Int32).toNatClampNeg, .inl t1_0)) : Option (Nat × va_E))) (t2_0 : (Nat → Int32)) (hT2 : ws[151]? = (some (q 151, .inl (g 0, (1404 : Int32).toNatClampNeg, .inl t2_0)) : Option (Nat × va_E))) (hzx3 : 0 ≤ x3.toInt ∧ x3.toInt ≤ 1) (hS : True ∧ S_FR_cut x2 x3 t0_0 t0_1 t0_2 t0_3 t0_4 t0_5 t0_6 t0_7 t0_8 t0_9 t0_10 t1_0 t2_0) : q_mV l y_FR_cut prog_17_method_11_code 5 1 0 0 D g [.ref (q 145), .int x2, .int x3] ws (fun u => q_I (msh g q) q u ∧ q_un ws u [151] ∧ ∃ (u2_0 : (Nat → Int32)), u[151]? = (some (q 151, .inl (g 0, (1404 : Int32).toNatClampNeg, .inl u2_0)) : Option (Nat × va_E)) ∧ u2_0 = (F_FR_cut x2 x3 t0_0 t0_1 t0_2 t0_3 t0_4 t0_5 t0_6 t0_7 t0_8 t0_9 t0_10 t1_0 t2_0)) := by
  intro sz
  refine q_into (by decide) (Nat.le_of_ble_eq_true rfl) ?_
  intro p e s m below meth c ls hsz C0 V hl
  have hx := C0.1
  have hb := C0.2.1
  replace hzx3 : q_F (0 ≤ x3.toInt ∧ x3.toInt ≤ 1) := hzx3
  obtain ⟨yy0_0, yy0_1, yy0_2, yy0_3, yy0_4, yy0_5, yy0_6, yy0_7, yy0_8, yy0_9, yy0_10, hh0, btt0_2⟩ := n_o145 hI
  obtain ⟨rfl, rfl, rfl, rfl, rfl, rfl, rfl, rfl, rfl, rfl, rfl⟩ : t0_0 = yy0_0 ∧ t0_1 = yy0_1 ∧ t0_2 = yy0_2 ∧ t0_3 = yy0_3 ∧ t0_4 = yy0_4 ∧ t0_5 = yy0_5 ∧ t0_6 = yy0_6 ∧ t0_7 = yy0_7 ∧ t0_8 = yy0_8 ∧ t0_9 = yy0_9 ∧ t0_10 = yy0_10 := by have z := Option.some.inj (hT0.symm.trans hh0); simpa using z
  replace btt0_2 : q_F (0 ≤ t0_2.toInt ∧ t0_2.toInt ≤ 1) := btt0_2
  have hF : q_un ws ws [151] := q_u0
  have hl : lv_has ls 5 [(0, .ref (q 145)), (1, .int x2), (2, .int x3)] := hl
  refine lv_iconst (v := 0) hx hb d_17_11_0 (by decide) ?_
  refine lv_istore_n (lv' := [(3, .int 0), (0, .ref (q 145)), (1, .int x2), (2, .int x3)]) hx hb d_17_11_1 rfl hl (by decide) rfl (fun ls hl => ?_)
  refine q_loop (X := Int32 × (Nat → Int32)) (fun z H locs ls w26 => q_F (0 ≤ z.1.toInt) ∧ q_F (z.1.toInt ≤ 1404) ∧ q_Wd D g (va_A ws sz) s w26 H locs ∧ lv_has ls 5 [(3, .int z.1), (0, .ref (q 145)), (1, .int x2), (2, .int x3)] ∧ q_I (msh g q) q w26 ∧ q_un ws w26 [151] ∧ w26[145]? = (some (q 145, .inr (15, [.int t0_0, .ref (q 146), .ref (q 147), .ref (q 148), .ref (q 149), .ref (q 150), .ref (q 151), .ref (q 152), .int t0_1, .int t0_2, .int t0_3, .long t0_4, .int t0_5, .int t0_6, .long t0_7, .int t0_8, .long t0_9, .int t0_10])) : Option (Nat × va_E)) ∧ w26[148]? = (some (q 148, .inl (g 0, (1404 : Int32).toNatClampNeg, .inl t1_0)) : Option (Nat × va_E)) ∧ w26[151]? = (some (q 151, .inl (g 0, (1404 : Int32).toNatClampNeg, .inl z.2)) : Option (Nat × va_E)) ∧ (∃ n, (1404 - z.1.toInt).toNat < n ∧ F_FR_cut_L2 x2 x3 t0_0 t0_1 t0_2 t0_3 t0_4 t0_5 t0_6 t0_7 t0_8 t0_9 t0_10 t1_0 t2_0 n z.1 z.2 = (F_FR_cut x2 x3 t0_0 t0_1 t0_2 t0_3 t0_4 t0_5 t0_6 t0_7 t0_8 t0_9 t0_10 t1_0 t2_0) ∧ True ∧ S_FR_cut_L2 x2 x3 t0_0 t0_1 t0_2 t0_3 t0_4 t0_5 t0_6 t0_7 t0_8 t0_9 t0_10 t1_0 t2_0 n z.1 z.2)) (fun z => (1404 - z.1.toInt).toNat) ?_ ((0 : Int32), (t2_0 : (Nat → Int32))) _ _ _ ws ⟨(show q_F (0 ≤ 0) from (show 0 ≤ 0 from by omega)), (show q_F (0 ≤ 1404) from (show 0 ≤ 1404 from by omega)), V, q_lw hl (q_lw1 0 rfl (q_lw1 1 rfl (q_lw1 2 rfl (q_lw1 3 rfl q_lw0)))), hI, hF, hT0, hT1, hT2, ⟨((1404 - (0 : Int32).toInt).toNat + 1), Nat.lt_succ_self _, (show F_FR_cut_L2 x2 x3 t0_0 t0_1 t0_2 t0_3 t0_4 t0_5 t0_6 t0_7 t0_8 t0_9 t0_10 t1_0 t2_0 ((1404 - (0 : Int32).toInt).toNat + 1) 0 t2_0 = (F_FR_cut x2 x3 t0_0 t0_1 t0_2 t0_3 t0_4 t0_5 t0_6 t0_7 t0_8 t0_9 t0_10 t1_0 t2_0) from (by rw [F_FR_cut.eq_1])), (show True ∧ S_FR_cut_L2 x2 x3 t0_0 t0_1 t0_2 t0_3 t0_4 t0_5 t0_6 t0_7 t0_8 t0_9 t0_10 t1_0 t2_0 ((1404 - (0 : Int32).toInt).toNat + 1) 0 t2_0 from (by have h := hS; rw [S_FR_cut.eq_1] at h; with_reducible exact h))⟩⟩
  rintro ⟨lx21, lx22⟩ H locs ls w26 ⟨i23, i24, V, hl, hI, hF, hO27, hO28, hO29, ⟨fu32, hf33, hR30, hS31⟩⟩ ih25
  obtain ⟨fm34, rfl⟩ : ∃ m, fu32 = m + 1 := ⟨fu32 - 1, by omega⟩
  replace i23 : q_F (0 ≤ lx21.toInt) := i23
  replace i24 : q_F (lx21.toInt ≤ 1404) := i24
  replace hl : lv_has ls 5 [(3, .int lx21), (0, .ref (q 145)), (1, .int x2), (2, .int x3)] := hl
  replace hO27 : w26[145]? = (some (q 145, .inr (15, [.int t0_0, .ref (q 146), .ref (q 147), .ref (q 148), .ref (q 149), .ref (q 150), .ref (q 151), .ref (q 152), .int t0_1, .int t0_2, .int t0_3, .long t0_4, .int t0_5, .int t0_6, .long t0_7, .int t0_8, .long t0_9, .int t0_10])) : Option (Nat × va_E)) := hO27
  replace hO28 : w26[148]? = (some (q 148, .inl (g 0, (1404 : Int32).toNatClampNeg, .inl t1_0)) : Option (Nat × va_E)) := hO28
  replace hO29 : w26[151]? = (some (q 151, .inl (g 0, (1404 : Int32).toNatClampNeg, .inl lx22)) : Option (Nat × va_E)) := hO29
  refine lv_iload_n hx hb d_17_11_2 rfl (lv_at hl 0 rfl) ?_
  refine lv_sipush (v := 1404) hx hb d_17_11_3 (by decide) ?_
  refine lv_icmp_ge (tgt := 36) hx hb d_17_11_6 (by decide) (fun c35 => ?_) (fun c35 => ?_)
  ·
    have b36 : q_F (1404 ≤ lx21.toInt) := (q_leI c35)
    refine lv_iload_n hx hb d_17_11_36 rfl (lv_at hl 2 rfl) ?_
    refine lv_istore_n (lv' := [(3, .int x2), (0, .ref (q 145)), (1, .int x2), (2, .int x3)]) hx hb d_17_11_37 rfl hl (by decide) rfl (fun ls hl => ?_)
    refine lv_iload_n hx hb d_17_11_38 rfl (lv_at hl 3 rfl) ?_
    refine lv_istore (lv' := [(4, .int x3), (3, .int x2), (0, .ref (q 145)), (1, .int x2), (2, .int x3)]) hx hb d_17_11_39 hl (by decide) rfl (fun ls hl => ?_)
    refine q_loop (X := Nat × Int32 × Int32 × (Nat → Int32)) (fun z H locs ls w46 => q_F (0 ≤ z.2.1.toInt) ∧ q_F (z.2.1.toInt ≤ x3.toInt) ∧ q_F (x3.toInt + x2.toInt ≤ z.2.1.toInt + z.2.2.1.toInt) ∧ q_Wd D g (va_A ws sz) s w46 H locs ∧ lv_has ls 5 [(4, .int z.2.1), (3, .int z.2.2.1), (0, .ref (q 145))] ∧ q_I (msh g q) q w46 ∧ q_un ws w46 [151] ∧ w46[145]? = (some (q 145, .inr (15, [.int t0_0, .ref (q 146), .ref (q 147), .ref (q 148), .ref (q 149), .ref (q 150), .ref (q 151), .ref (q 152), .int t0_1, .int t0_2, .int t0_3, .long t0_4, .int t0_5, .int t0_6, .long t0_7, .int t0_8, .long t0_9, .int t0_10])) : Option (Nat × va_E)) ∧ w46[148]? = (some (q 148, .inl (g 0, (1404 : Int32).toNatClampNeg, .inl t1_0)) : Option (Nat × va_E)) ∧ w46[151]? = (some (q 151, .inl (g 0, (1404 : Int32).toNatClampNeg, .inl z.2.2.2)) : Option (Nat × va_E)) ∧ F_FR_cut_L41 (F_FR_cut_L2 x2 x3 t0_0 t0_1 t0_2 t0_3 t0_4 t0_5 t0_6 t0_7 t0_8 t0_9 t0_10 t1_0 t2_0 fm34) x2 x3 t0_0 t0_1 t0_2 t0_3 t0_4 t0_5 t0_6 t0_7 t0_8 t0_9 t0_10 t1_0 t2_0 lx21 lx22 z.1 z.2.1 z.2.2.1 z.2.2.2 = (F_FR_cut x2 x3 t0_0 t0_1 t0_2 t0_3 t0_4 t0_5 t0_6 t0_7 t0_8 t0_9 t0_10 t1_0 t2_0) ∧ True ∧ S_FR_cut_L41 (S_FR_cut_L2 x2 x3 t0_0 t0_1 t0_2 t0_3 t0_4 t0_5 t0_6 t0_7 t0_8 t0_9 t0_10 t1_0 t2_0 fm34) x2 x3 t0_0 t0_1 t0_2 t0_3 t0_4 t0_5 t0_6 t0_7 t0_8 t0_9 t0_10 t1_0 t2_0 lx21 lx22 z.1 z.2.1 z.2.2.1 z.2.2.2) (fun z => z.1) ?_ ((1000000 : Nat), (x3 : Int32), (x2 : Int32), (lx22 : (Nat → Int32))) _ _ _ w26 ⟨(show q_F (0 ≤ x3.toInt) from (show 0 ≤ x3.toInt from by have t1 : 0 ≤ x3.toInt ∧ x3.toInt ≤ 1 := hzx3; omega)), (show q_F (x3.toInt ≤ x3.toInt) from (show x3.toInt ≤ x3.toInt from by omega)), (show q_F (x3.toInt + x2.toInt ≤ x3.toInt + x2.toInt) from (show x3.toInt + x2.toInt ≤ x3.toInt + x2.toInt from by omega)), V, q_lw hl (q_lw1 0 rfl (q_lw1 1 rfl (q_lw1 2 rfl q_lw0))), hI, hF, hO27, hO28, hO29, (show F_FR_cut_L41 (F_FR_cut_L2 x2 x3 t0_0 t0_1 t0_2 t0_3 t0_4 t0_5 t0_6 t0_7 t0_8 t0_9 t0_10 t1_0 t2_0 fm34) x2 x3 t0_0 t0_1 t0_2 t0_3 t0_4 t0_5 t0_6 t0_7 t0_8 t0_9 t0_10 t1_0 t2_0 lx21 lx22 1000000 x3 x2 lx22 = (F_FR_cut x2 x3 t0_0 t0_1 t0_2 t0_3 t0_4 t0_5 t0_6 t0_7 t0_8 t0_9 t0_10 t1_0 t2_0) from Eq.trans (by rw [F_FR_cut_L2.eq_2, if_pos c35]) hR30), (show True ∧ S_FR_cut_L41 (S_FR_cut_L2 x2 x3 t0_0 t0_1 t0_2 t0_3 t0_4 t0_5 t0_6 t0_7 t0_8 t0_9 t0_10 t1_0 t2_0 fm34) x2 x3 t0_0 t0_1 t0_2 t0_3 t0_4 t0_5 t0_6 t0_7 t0_8 t0_9 t0_10 t1_0 t2_0 lx21 lx22 1000000 x3 x2 lx22 from (by have h := hS31; rw [S_FR_cut_L2.eq_2] at h; rw [if_pos c35] at h; with_reducible exact h))⟩
    rintro ⟨fu52, lx39, lx40, lx41⟩ H locs ls w46 ⟨i42, i43, i44, V, hl, hI, hF, hO47, hO48, hO49, hR50, hS51⟩ ih45
    obtain ⟨fm54, rfl⟩ : ∃ m, fu52 = m + 1 := Nat.exists_eq_succ_of_ne_zero (fun e => by subst e; rw [S_FR_cut_L41.eq_1] at hS51; exact hS51.2)
    replace i42 : q_F (0 ≤ lx39.toInt) := i42
    replace i43 : q_F (lx39.toInt ≤ x3.toInt) := i43
    replace i44 : q_F (x3.toInt + x2.toInt ≤ lx39.toInt + lx40.toInt) := i44
    replace hl : lv_has ls 5 [(4, .int lx39), (3, .int lx40), (0, .ref (q 145))] := hl
    replace hO47 : w46[145]? = (some (q 145, .inr (15, [.int t0_0, .ref (q 146), .ref (q 147), .ref (q 148), .ref (q 149), .ref (q 150), .ref (q 151), .ref (q 152), .int t0_1, .int t0_2, .int t0_3, .long t0_4, .int t0_5, .int t0_6, .long t0_7, .int t0_8, .long t0_9, .int t0_10])) : Option (Nat × va_E)) := hO47
    replace hO48 : w46[148]? = (some (q 148, .inl (g 0, (1404 : Int32).toNatClampNeg, .inl t1_0)) : Option (Nat × va_E)) := hO48
    replace hO49 : w46[151]? = (some (q 151, .inl (g 0, (1404 : Int32).toNatClampNeg, .inl lx41)) : Option (Nat × va_E)) := hO49
    refine lv_iload hx hb d_17_11_41 (lv_at hl 0 rfl) ?_
    refine lv_if_eq (tgt := 97) hx hb d_17_11_43 (by decide) (fun c55 => ?_) (fun c55 => ?_)
    ·
      have b56 : q_F (lx39.toInt = 0) := (q_eqI c55)
      exact q_retv C0 V (⟨hI, hF, lx41, hO49, (show lx41 = (F_FR_cut x2 x3 t0_0 t0_1 t0_2 t0_3 t0_4 t0_5 t0_6 t0_7 t0_8 t0_9 t0_10 t1_0 t2_0) from Eq.trans (by rw [F_FR_cut_L41.eq_2, if_pos c55]) hR50)⟩) d_17_11_97
    ·
      have b57 : q_F (lx39.toInt ≠ 0) := (q_neI c55)
      refine lv_aload_n hx hb d_17_11_46 rfl (lv_at hl 2 rfl) ?_
      refine q_get (ci := 15) (j := 6) (v := .ref (q 151)) C0 V i_FR rfl rfl hO47 (by decide) w_2081 rfl d_17_11_47 ?_
      refine lv_iload_n hx hb d_17_11_50 rfl (lv_at hl 1 rfl) ?_
      refine lv_aload_n hx hb d_17_11_51 rfl (lv_at hl 2 rfl) ?_
      refine q_get (ci := 15) (j := 6) (v := .ref (q 151)) C0 V i_FR rfl rfl hO47 (by decide) w_2081 rfl d_17_11_52 ?_
      refine lv_iload_n hx hb d_17_11_55 rfl (lv_at hl 1 rfl) ?_
      have ob58 : q_F (0 ≤ lx40.toInt) := (by have h := hS51; rw [S_FR_cut_L41.eq_2] at h; rw [if_neg c55] at h; exact h.2.1)
      have ob59 : q_F (lx40.toInt ≤ 1403) := (by have h := hS51; rw [S_FR_cut_L41.eq_2] at h; rw [if_neg c55] at h; replace h := q_s2 h; exact h.2.1)
      refine q_iald C0 V hO49 (q_ix (x := lx40.toInt) rfl (by have t1 : 0 ≤ lx40.toInt := ob58; omega) (by have t1 : 0 ≤ lx40.toInt := ob58; have t2 : lx40.toInt ≤ 1403 := ob59; have e9 : (((1404 : Int32).toNatClampNeg : Nat) : Int) = 1404 := (by decide); omega)) d_17_11_56 ?_
      obtain ⟨a60, e61⟩ := q_nm (lx41 lx40.toNatClampNeg : Int32)
      refine q_ti (v := a60) e61 ?_
      refine lv_bipush (v := 9) hx hb d_17_11_57 (by decide) ?_
      refine q_join (X := Int32) (fun z H locs ls _ => q_Wd D g (va_A ws sz) s w46 H locs ∧ lv_has ls 5 [(3, .int lx40), (0, .ref (q 145))] ∧ F_FR_cut_J74 (F_FR_cut_L2 x2 x3 t0_0 t0_1 t0_2 t0_3 t0_4 t0_5 t0_6 t0_7 t0_8 t0_9 t0_10 t1_0 t2_0 fm34) (F_FR_cut_L41 (F_FR_cut_L2 x2 x3 t0_0 t0_1 t0_2 t0_3 t0_4 t0_5 t0_6 t0_7 t0_8 t0_9 t0_10 t1_0 t2_0 fm34) x2 x3 t0_0 t0_1 t0_2 t0_3 t0_4 t0_5 t0_6 t0_7 t0_8 t0_9 t0_10 t1_0 t2_0 lx21 lx22 fm54) x2 x3 t0_0 t0_1 t0_2 t0_3 t0_4 t0_5 t0_6 t0_7 t0_8 t0_9 t0_10 t1_0 t2_0 lx21 lx22 lx39 lx40 lx41 z = (F_FR_cut x2 x3 t0_0 t0_1 t0_2 t0_3 t0_4 t0_5 t0_6 t0_7 t0_8 t0_9 t0_10 t1_0 t2_0) ∧ True ∧ S_FR_cut_J74 (S_FR_cut_L2 x2 x3 t0_0 t0_1 t0_2 t0_3 t0_4 t0_5 t0_6 t0_7 t0_8 t0_9 t0_10 t1_0 t2_0 fm34) (S_FR_cut_L41 (S_FR_cut_L2 x2 x3 t0_0 t0_1 t0_2 t0_3 t0_4 t0_5 t0_6 t0_7 t0_8 t0_9 t0_10 t1_0 t2_0 fm34) x2 x3 t0_0 t0_1 t0_2 t0_3 t0_4 t0_5 t0_6 t0_7 t0_8 t0_9 t0_10 t1_0 t2_0 lx21 lx22 fm54) x2 x3 t0_0 t0_1 t0_2 t0_3 t0_4 t0_5 t0_6 t0_7 t0_8 t0_9 t0_10 t1_0 t2_0 lx21 lx22 lx39 lx40 lx41 z) (fun z => [.int z, .int lx40, .ref (q 151)]) 74 0 0 ?_ ?_
      ·
        rintro lx62 H locs ls _ ⟨V, hl, hR67, hS68⟩
        replace hl : lv_has ls 5 [(3, .int lx40), (0, .ref (q 145))] := hl
        refine q_iast C0 V hO49 (q_ix (x := lx40.toInt) rfl (by have t1 : 0 ≤ lx40.toInt := ob58; omega) (by have t1 : 0 ≤ lx40.toInt := ob58; have t2 : lx40.toInt ≤ 1403 := ob59; have e9 : (((1404 : Int32).toNatClampNeg : Nat) : Int) = 1404 := (by decide); omega)) d_17_11_74 (fun H locs w72 hu73 hO49 V => ?_)
        replace hI := n_ai' hI (n_r151 g q).1 hu73 hO49 (q_updB (fun _ => s_bnd) s_bnd)
        replace hO47 := (hu73 _ (by decide)).trans hO47
        replace hO48 := (hu73 _ (by decide)).trans hO48
        replace hF := q_us hF hu73 (by simp)
        obtain ⟨f74, e75⟩ := q_nm (upd lx41 lx40.toNatClampNeg lx62 : (Nat → Int32))
        rw [e75] at hO49
        refine lv_aload_n hx hb d_17_11_75 rfl (lv_at hl 1 rfl) ?_
        refine q_get (ci := 15) (j := 6) (v := .ref (q 151)) C0 V i_FR rfl rfl hO47 (by decide) w_2081 rfl d_17_11_76 ?_
        refine lv_iload_n hx hb d_17_11_79 rfl (lv_at hl 0 rfl) ?_
        refine q_iald C0 V hO49 (q_ix (x := lx40.toInt) rfl (by have t1 : 0 ≤ lx40.toInt := ob58; omega) (by have t1 : 0 ≤ lx40.toInt := ob58; have t2 : lx40.toInt ≤ 1403 := ob59; have e9 : (((1404 : Int32).toNatClampNeg : Nat) : Int) = 1404 := (by decide); omega)) d_17_11_80 ?_
        obtain ⟨a76, e77⟩ := q_nm (f74 lx40.toNatClampNeg : Int32)
        refine q_ti (v := a76) e77 ?_
        refine lv_if_ne (tgt := 88) hx hb d_17_11_81 (by decide) (fun c78 => ?_) (fun c78 => ?_)
        ·
          have b79 : q_F (a76.toInt ≠ 0) := (q_neI c78)
          refine lv_iconst (v := 0) hx hb d_17_11_88 (by decide) ?_
          refine lv_istore (lv' := [(4, .int 0), (3, .int lx40), (0, .ref (q 145))]) hx hb d_17_11_89 hl (by decide) rfl (fun ls hl => ?_)
          obtain ⟨a80, e81⟩ := q_nm (lx40 + 1 : Int32)
          have b82 : q_F (a80.toInt = lx40.toInt + 1) := (by rw [← e81]; exact q_addI (y := 1) rfl (by decide) (by have t1 : 0 ≤ lx40.toInt := ob58; have t2 : lx40.toInt ≤ 1403 := ob59; omega) (by have t1 : 0 ≤ lx40.toInt := ob58; have t2 : lx40.toInt ≤ 1403 := ob59; omega))
          refine lv_iinc (v := a80) (lv' := [(3, .int a80), (4, .int 0), (0, .ref (q 145))]) hx hb d_17_11_91 hl (k := 1) rfl (e81) (by decide) rfl (fun ls hl => ?_)
          refine lv_goto (tgt := 41) hx hb d_17_11_94 (by decide) ?_
          exact ih45 ((fm54 : Nat), (0 : Int32), (a80 : Int32), (f74 : (Nat → Int32))) _ _ _ _ (Nat.lt_succ_self _) ⟨(show q_F (0 ≤ 0) from (show 0 ≤ 0 from by omega)), (show q_F (0 ≤ x3.toInt) from (show 0 ≤ x3.toInt from by have t1 : 0 ≤ x3.toInt ∧ x3.toInt ≤ 1 := hzx3; omega)), (show q_F (x3.toInt + x2.toInt ≤ 0 + a80.toInt) from (show x3.toInt + x2.toInt ≤ 0 + a80.toInt from by have t1 : 0 ≤ x3.toInt ∧ x3.toInt ≤ 1 := hzx3; have t2 : lx39.toInt ≤ x3.toInt := i43; have t3 : x3.toInt + x2.toInt ≤ lx39.toInt + lx40.toInt := i44; have t4 : a80.toInt = lx40.toInt + 1 := b82; omega)), V, q_lw hl (q_lw1 1 rfl (q_lw1 0 rfl (q_lw1 2 rfl q_lw0))), hI, hF, hO47, hO48, hO49, (show F_FR_cut_L41 (F_FR_cut_L2 x2 x3 t0_0 t0_1 t0_2 t0_3 t0_4 t0_5 t0_6 t0_7 t0_8 t0_9 t0_10 t1_0 t2_0 fm34) x2 x3 t0_0 t0_1 t0_2 t0_3 t0_4 t0_5 t0_6 t0_7 t0_8 t0_9 t0_10 t1_0 t2_0 lx21 lx22 fm54 0 a80 f74 = (F_FR_cut x2 x3 t0_0 t0_1 t0_2 t0_3 t0_4 t0_5 t0_6 t0_7 t0_8 t0_9 t0_10 t1_0 t2_0) from Eq.trans (by have c78x := c78; rw [← e77, ← e75] at c78x; rw [← e81, ← e75, F_FR_cut_J74.eq_1, if_neg c78x]) hR67), (show True ∧ S_FR_cut_L41 (S_FR_cut_L2 x2 x3 t0_0 t0_1 t0_2 t0_3 t0_4 t0_5 t0_6 t0_7 t0_8 t0_9 t0_10 t1_0 t2_0 fm34) x2 x3 t0_0 t0_1 t0_2 t0_3 t0_4 t0_5 t0_6 t0_7 t0_8 t0_9 t0_10 t1_0 t2_0 lx21 lx22 fm54 0 a80 f74 from (by rw [← e81, ← e75]; have h := hS68; rw [S_FR_cut_J74.eq_1] at h; have c78x := c78; rw [← e77, ← e75] at c78x; rw [if_neg c78x] at h; with_reducible exact h))⟩
        ·
          have b83 : q_F (a76.toInt = 0) := (q_eqI c78)
          refine lv_iconst (v := 1) hx hb d_17_11_84 (by decide) ?_
          refine lv_goto (tgt := 89) hx hb d_17_11_85 (by decide) ?_
          refine lv_istore (lv' := [(4, .int 1), (3, .int lx40), (0, .ref (q 145))]) hx hb d_17_11_89 hl (by decide) rfl (fun ls hl => ?_)
          obtain ⟨a84, e85⟩ := q_nm (lx40 + 1 : Int32)
          have b86 : q_F (a84.toInt = lx40.toInt + 1) := (by rw [← e85]; exact q_addI (y := 1) rfl (by decide) (by have t1 : 0 ≤ lx40.toInt := ob58; have t2 : lx40.toInt ≤ 1403 := ob59; omega) (by have t1 : 0 ≤ lx40.toInt := ob58; have t2 : lx40.toInt ≤ 1403 := ob59; omega))
          refine lv_iinc (v := a84) (lv' := [(3, .int a84), (4, .int 1), (0, .ref (q 145))]) hx hb d_17_11_91 hl (k := 1) rfl (e85) (by decide) rfl (fun ls hl => ?_)
          refine lv_goto (tgt := 41) hx hb d_17_11_94 (by decide) ?_
          exact ih45 ((fm54 : Nat), (1 : Int32), (a84 : Int32), (f74 : (Nat → Int32))) _ _ _ _ (Nat.lt_succ_self _) ⟨(show q_F (0 ≤ 1) from (show 0 ≤ 1 from by omega)), (show q_F (1 ≤ x3.toInt) from (show 1 ≤ x3.toInt from by have t1 : 0 ≤ lx39.toInt := i42; have t2 : lx39.toInt ≤ x3.toInt := i43; have t3 : lx39.toInt ≠ 0 := b57; omega)), (show q_F (x3.toInt + x2.toInt ≤ 1 + a84.toInt) from (show x3.toInt + x2.toInt ≤ 1 + a84.toInt from by have t1 : 0 ≤ x3.toInt ∧ x3.toInt ≤ 1 := hzx3; have t2 : lx39.toInt ≤ x3.toInt := i43; have t3 : x3.toInt + x2.toInt ≤ lx39.toInt + lx40.toInt := i44; have t4 : a84.toInt = lx40.toInt + 1 := b86; omega)), V, q_lw hl (q_lw1 1 rfl (q_lw1 0 rfl (q_lw1 2 rfl q_lw0))), hI, hF, hO47, hO48, hO49, (show F_FR_cut_L41 (F_FR_cut_L2 x2 x3 t0_0 t0_1 t0_2 t0_3 t0_4 t0_5 t0_6 t0_7 t0_8 t0_9 t0_10 t1_0 t2_0 fm34) x2 x3 t0_0 t0_1 t0_2 t0_3 t0_4 t0_5 t0_6 t0_7 t0_8 t0_9 t0_10 t1_0 t2_0 lx21 lx22 fm54 1 a84 f74 = (F_FR_cut x2 x3 t0_0 t0_1 t0_2 t0_3 t0_4 t0_5 t0_6 t0_7 t0_8 t0_9 t0_10 t1_0 t2_0) from Eq.trans (by have c78x := c78; rw [← e77, ← e75] at c78x; rw [← e85, ← e75, F_FR_cut_J74.eq_1, if_pos c78x]) hR67), (show True ∧ S_FR_cut_L41 (S_FR_cut_L2 x2 x3 t0_0 t0_1 t0_2 t0_3 t0_4 t0_5 t0_6 t0_7 t0_8 t0_9 t0_10 t1_0 t2_0 fm34) x2 x3 t0_0 t0_1 t0_2 t0_3 t0_4 t0_5 t0_6 t0_7 t0_8 t0_9 t0_10 t1_0 t2_0 lx21 lx22 fm54 1 a84 f74 from (by rw [← e85, ← e75]; have h := hS68; rw [S_FR_cut_J74.eq_1] at h; have c78x := c78; rw [← e77, ← e75] at c78x; rw [if_pos c78x] at h; with_reducible exact h))⟩
      ·
        intro J66
        refine lv_icmp_ne (tgt := 66) hx hb d_17_11_59 (by decide) (fun c87 => ?_) (fun c87 => ?_)
        ·
          have b88 : q_F (a60.toInt ≠ 9) := (q_neI c87)
          refine lv_aload_n hx hb d_17_11_66 rfl (lv_at hl 2 rfl) ?_
          refine q_get (ci := 15) (j := 6) (v := .ref (q 151)) C0 V i_FR rfl rfl hO47 (by decide) w_2081 rfl d_17_11_67 ?_
          refine lv_iload_n hx hb d_17_11_70 rfl (lv_at hl 1 rfl) ?_
          refine q_iald C0 V hO49 (q_ix (x := lx40.toInt) rfl (by have t1 : 0 ≤ lx40.toInt := ob58; omega) (by have t1 : 0 ≤ lx40.toInt := ob58; have t2 : lx40.toInt ≤ 1403 := ob59; have e9 : (((1404 : Int32).toNatClampNeg : Nat) : Int) = 1404 := (by decide); omega)) d_17_11_71 ?_
          obtain ⟨a89, e90⟩ := q_nm (lx41 lx40.toNatClampNeg : Int32)
          refine q_ti (v := a89) e90 ?_
          refine lv_iconst (v := 1) hx hb d_17_11_72 (by decide) ?_
          refine lv_iadd hx hb d_17_11_73 ?_
          obtain ⟨a91, e92⟩ := q_nm (a89 + 1 : Int32)
          refine q_ti (v := a91) e92 ?_
          exact J66 ((a91 : Int32)) _ _ _ w46 ⟨V, q_lw hl (q_lw1 1 rfl (q_lw1 2 rfl q_lw0)), (show F_FR_cut_J74 (F_FR_cut_L2 x2 x3 t0_0 t0_1 t0_2 t0_3 t0_4 t0_5 t0_6 t0_7 t0_8 t0_9 t0_10 t1_0 t2_0 fm34) (F_FR_cut_L41 (F_FR_cut_L2 x2 x3 t0_0 t0_1 t0_2 t0_3 t0_4 t0_5 t0_6 t0_7 t0_8 t0_9 t0_10 t1_0 t2_0 fm34) x2 x3 t0_0 t0_1 t0_2 t0_3 t0_4 t0_5 t0_6 t0_7 t0_8 t0_9 t0_10 t1_0 t2_0 lx21 lx22 fm54) x2 x3 t0_0 t0_1 t0_2 t0_3 t0_4 t0_5 t0_6 t0_7 t0_8 t0_9 t0_10 t1_0 t2_0 lx21 lx22 lx39 lx40 lx41 a91 = (F_FR_cut x2 x3 t0_0 t0_1 t0_2 t0_3 t0_4 t0_5 t0_6 t0_7 t0_8 t0_9 t0_10 t1_0 t2_0) from Eq.trans (by have c87x := c87; rw [← e61] at c87x; rw [← e92, ← e90, F_FR_cut_L41.eq_2, if_neg c55, if_neg c87x]) hR50), (show True ∧ S_FR_cut_J74 (S_FR_cut_L2 x2 x3 t0_0 t0_1 t0_2 t0_3 t0_4 t0_5 t0_6 t0_7 t0_8 t0_9 t0_10 t1_0 t2_0 fm34) (S_FR_cut_L41 (S_FR_cut_L2 x2 x3 t0_0 t0_1 t0_2 t0_3 t0_4 t0_5 t0_6 t0_7 t0_8 t0_9 t0_10 t1_0 t2_0 fm34) x2 x3 t0_0 t0_1 t0_2 t0_3 t0_4 t0_5 t0_6 t0_7 t0_8 t0_9 t0_10 t1_0 t2_0 lx21 lx22 fm54) x2 x3 t0_0 t0_1 t0_2 t0_3 t0_4 t0_5 t0_6 t0_7 t0_8 t0_9 t0_10 t1_0 t2_0 lx21 lx22 lx39 lx40 lx41 a91 from (by rw [← e92, ← e90]; have h := hS51; rw [S_FR_cut_L41.eq_2] at h; rw [if_neg c55] at h; replace h := q_s2 h; replace h := q_s2 h; have c87x := c87; rw [← e61] at c87x; rw [if_neg c87x] at h; with_reducible exact h))⟩
        ·
          have b93 : q_F (a60.toInt = 9) := (q_eqI c87)
          refine lv_iconst (v := 0) hx hb d_17_11_62 (by decide) ?_
          refine lv_goto (tgt := 74) hx hb d_17_11_63 (by decide) ?_
          exact J66 ((0 : Int32)) _ _ _ w46 ⟨V, q_lw hl (q_lw1 1 rfl (q_lw1 2 rfl q_lw0)), (show F_FR_cut_J74 (F_FR_cut_L2 x2 x3 t0_0 t0_1 t0_2 t0_3 t0_4 t0_5 t0_6 t0_7 t0_8 t0_9 t0_10 t1_0 t2_0 fm34) (F_FR_cut_L41 (F_FR_cut_L2 x2 x3 t0_0 t0_1 t0_2 t0_3 t0_4 t0_5 t0_6 t0_7 t0_8 t0_9 t0_10 t1_0 t2_0 fm34) x2 x3 t0_0 t0_1 t0_2 t0_3 t0_4 t0_5 t0_6 t0_7 t0_8 t0_9 t0_10 t1_0 t2_0 lx21 lx22 fm54) x2 x3 t0_0 t0_1 t0_2 t0_3 t0_4 t0_5 t0_6 t0_7 t0_8 t0_9 t0_10 t1_0 t2_0 lx21 lx22 lx39 lx40 lx41 0 = (F_FR_cut x2 x3 t0_0 t0_1 t0_2 t0_3 t0_4 t0_5 t0_6 t0_7 t0_8 t0_9 t0_10 t1_0 t2_0) from Eq.trans (by have c87x := c87; rw [← e61] at c87x; rw [F_FR_cut_L41.eq_2, if_neg c55, if_pos c87x]) hR50), (show True ∧ S_FR_cut_J74 (S_FR_cut_L2 x2 x3 t0_0 t0_1 t0_2 t0_3 t0_4 t0_5 t0_6 t0_7 t0_8 t0_9 t0_10 t1_0 t2_0 fm34) (S_FR_cut_L41 (S_FR_cut_L2 x2 x3 t0_0 t0_1 t0_2 t0_3 t0_4 t0_5 t0_6 t0_7 t0_8 t0_9 t0_10 t1_0 t2_0 fm34) x2 x3 t0_0 t0_1 t0_2 t0_3 t0_4 t0_5 t0_6 t0_7 t0_8 t0_9 t0_10 t1_0 t2_0 lx21 lx22 fm54) x2 x3 t0_0 t0_1 t0_2 t0_3 t0_4 t0_5 t0_6 t0_7 t0_8 t0_9 t0_10 t1_0 t2_0 lx21 lx22 lx39 lx40 lx41 0 from (by have h := hS51; rw [S_FR_cut_L41.eq_2] at h; rw [if_neg c55] at h; replace h := q_s2 h; replace h := q_s2 h; have c87x := c87; rw [← e61] at c87x; rw [if_pos c87x] at h; with_reducible exact h))⟩
  ·
    have b94 : q_F (lx21.toInt < 1404) := (q_nleI c35)
    refine lv_aload_n hx hb d_17_11_9 rfl (lv_at hl 1 rfl) ?_
    refine q_get (ci := 15) (j := 6) (v := .ref (q 151)) C0 V i_FR rfl rfl hO27 (by decide) w_2081 rfl d_17_11_10 ?_
    refine lv_iload_n hx hb d_17_11_13 rfl (lv_at hl 0 rfl) ?_
    refine lv_iload_n hx hb d_17_11_14 rfl (lv_at hl 0 rfl) ?_
    refine lv_iload_n hx hb d_17_11_15 rfl (lv_at hl 2 rfl) ?_
    refine lv_icmp_ge (tgt := 23) hx hb d_17_11_16 (by decide) (fun c95 => ?_) (fun c95 => ?_)
    ·
      have b96 : q_F (x2.toInt ≤ lx21.toInt) := (q_leI c95)
      refine lv_aload_n hx hb d_17_11_23 rfl (lv_at hl 1 rfl) ?_
      refine q_get (ci := 15) (j := 3) (v := .ref (q 148)) C0 V i_FR rfl rfl hO27 (by decide) w_2078 rfl d_17_11_24 ?_
      refine lv_iload_n hx hb d_17_11_27 rfl (lv_at hl 0 rfl) ?_
      refine q_iald C0 V hO28 (q_ix (x := lx21.toInt) rfl (by have t1 : 0 ≤ lx21.toInt := i23; omega) (by have t1 : 0 ≤ lx21.toInt := i23; have t2 : lx21.toInt < 1404 := b94; have e9 : (((1404 : Int32).toNatClampNeg : Nat) : Int) = 1404 := (by decide); omega)) d_17_11_28 ?_
      obtain ⟨a97, e98⟩ := q_nm (t1_0 lx21.toNatClampNeg : Int32)
      refine q_ti (v := a97) e98 ?_
      refine q_iast C0 V hO29 (q_ix (x := lx21.toInt) rfl (by have t1 : 0 ≤ lx21.toInt := i23; omega) (by have t1 : 0 ≤ lx21.toInt := i23; have t2 : lx21.toInt < 1404 := b94; have e9 : (((1404 : Int32).toNatClampNeg : Nat) : Int) = 1404 := (by decide); omega)) d_17_11_29 (fun H locs w99 hu100 hO29 V => ?_)
      replace hI := n_ai' hI (n_r151 g q).1 hu100 hO29 (q_updB (fun _ => s_bnd) s_bnd)
      replace hO27 := (hu100 _ (by decide)).trans hO27
      replace hO28 := (hu100 _ (by decide)).trans hO28
      replace hF := q_us hF hu100 (by simp)
      obtain ⟨f101, e102⟩ := q_nm (upd lx22 lx21.toNatClampNeg a97 : (Nat → Int32))
      rw [e102] at hO29
      obtain ⟨a103, e104⟩ := q_nm (lx21 + 1 : Int32)
      have b105 : q_F (a103.toInt = lx21.toInt + 1) := (by rw [← e104]; exact q_addI (y := 1) rfl (by decide) (by have t1 : 0 ≤ lx21.toInt := i23; have t2 : lx21.toInt ≤ 1404 := i24; omega) (by have t1 : 0 ≤ lx21.toInt := i23; have t2 : lx21.toInt ≤ 1404 := i24; omega))
      refine lv_iinc (v := a103) (lv' := [(3, .int a103), (0, .ref (q 145)), (1, .int x2), (2, .int x3)]) hx hb d_17_11_30 hl (k := 0) rfl (e104) (by decide) rfl (fun ls hl => ?_)
      refine lv_goto (tgt := 2) hx hb d_17_11_33 (by decide) ?_
      exact ih25 ((a103 : Int32), (f101 : (Nat → Int32))) _ _ _ _ (show (1404 - a103.toInt).toNat < (1404 - lx21.toInt).toNat from by have t1 : a103.toInt = lx21.toInt + 1 := b105; have t2 : lx21.toInt ≤ 1404 := i24; have t3 : lx21.toInt < 1404 := b94; omega) ⟨(show q_F (0 ≤ a103.toInt) from (show 0 ≤ a103.toInt from by have t1 : 0 ≤ lx21.toInt := i23; have t2 : a103.toInt = lx21.toInt + 1 := b105; omega)), (show q_F (a103.toInt ≤ 1404) from (show a103.toInt ≤ 1404 from by have t1 : lx21.toInt < 1404 := b94; have t2 : a103.toInt = lx21.toInt + 1 := b105; omega)), V, q_lw hl (q_lw1 0 rfl (q_lw1 1 rfl (q_lw1 2 rfl (q_lw1 3 rfl q_lw0)))), hI, hF, hO27, hO28, hO29, ⟨fm34, Nat.lt_of_lt_of_le (show (1404 - a103.toInt).toNat < (1404 - lx21.toInt).toNat from by have t1 : a103.toInt = lx21.toInt + 1 := b105; have t2 : lx21.toInt ≤ 1404 := i24; have t3 : lx21.toInt < 1404 := b94; omega) (Nat.le_of_lt_succ hf33), (show F_FR_cut_L2 x2 x3 t0_0 t0_1 t0_2 t0_3 t0_4 t0_5 t0_6 t0_7 t0_8 t0_9 t0_10 t1_0 t2_0 fm34 a103 f101 = (F_FR_cut x2 x3 t0_0 t0_1 t0_2 t0_3 t0_4 t0_5 t0_6 t0_7 t0_8 t0_9 t0_10 t1_0 t2_0) from Eq.trans (by rw [← e104, ← e102, ← e98, F_FR_cut_L2.eq_2, if_neg c35, if_pos c95]) hR30), (show True ∧ S_FR_cut_L2 x2 x3 t0_0 t0_1 t0_2 t0_3 t0_4 t0_5 t0_6 t0_7 t0_8 t0_9 t0_10 t1_0 t2_0 fm34 a103 f101 from (by rw [← e104, ← e102, ← e98]; have h := hS31; rw [S_FR_cut_L2.eq_2] at h; rw [if_neg c35] at h; rw [if_pos c95] at h; with_reducible exact h))⟩⟩
    ·
      have b106 : q_F (lx21.toInt < x2.toInt) := (q_nleI c95)
      refine lv_iconst (v := 0) hx hb d_17_11_19 (by decide) ?_
      refine lv_goto (tgt := 29) hx hb d_17_11_20 (by decide) ?_
      refine q_iast C0 V hO29 (q_ix (x := lx21.toInt) rfl (by have t1 : 0 ≤ lx21.toInt := i23; omega) (by have t1 : 0 ≤ lx21.toInt := i23; have t2 : lx21.toInt < 1404 := b94; have e9 : (((1404 : Int32).toNatClampNeg : Nat) : Int) = 1404 := (by decide); omega)) d_17_11_29 (fun H locs w107 hu108 hO29 V => ?_)
      replace hI := n_ai' hI (n_r151 g q).1 hu108 hO29 (q_updB (fun _ => s_bnd) s_bnd)
      replace hO27 := (hu108 _ (by decide)).trans hO27
      replace hO28 := (hu108 _ (by decide)).trans hO28
      replace hF := q_us hF hu108 (by simp)
      obtain ⟨f109, e110⟩ := q_nm (upd lx22 lx21.toNatClampNeg 0 : (Nat → Int32))
      rw [e110] at hO29
      obtain ⟨a111, e112⟩ := q_nm (lx21 + 1 : Int32)
      have b113 : q_F (a111.toInt = lx21.toInt + 1) := (by rw [← e112]; exact q_addI (y := 1) rfl (by decide) (by have t1 : 0 ≤ lx21.toInt := i23; have t2 : lx21.toInt ≤ 1404 := i24; omega) (by have t1 : 0 ≤ lx21.toInt := i23; have t2 : lx21.toInt ≤ 1404 := i24; omega))
      refine lv_iinc (v := a111) (lv' := [(3, .int a111), (0, .ref (q 145)), (1, .int x2), (2, .int x3)]) hx hb d_17_11_30 hl (k := 0) rfl (e112) (by decide) rfl (fun ls hl => ?_)
      refine lv_goto (tgt := 2) hx hb d_17_11_33 (by decide) ?_
      exact ih25 ((a111 : Int32), (f109 : (Nat → Int32))) _ _ _ _ (show (1404 - a111.toInt).toNat < (1404 - lx21.toInt).toNat from by have t1 : a111.toInt = lx21.toInt + 1 := b113; have t2 : lx21.toInt ≤ 1404 := i24; have t3 : lx21.toInt < 1404 := b94; omega) ⟨(show q_F (0 ≤ a111.toInt) from (show 0 ≤ a111.toInt from by have t1 : 0 ≤ lx21.toInt := i23; have t2 : a111.toInt = lx21.toInt + 1 := b113; omega)), (show q_F (a111.toInt ≤ 1404) from (show a111.toInt ≤ 1404 from by have t1 : lx21.toInt < 1404 := b94; have t2 : a111.toInt = lx21.toInt + 1 := b113; omega)), V, q_lw hl (q_lw1 0 rfl (q_lw1 1 rfl (q_lw1 2 rfl (q_lw1 3 rfl q_lw0)))), hI, hF, hO27, hO28, hO29, ⟨fm34, Nat.lt_of_lt_of_le (show (1404 - a111.toInt).toNat < (1404 - lx21.toInt).toNat from by have t1 : a111.toInt = lx21.toInt + 1 := b113; have t2 : lx21.toInt ≤ 1404 := i24; have t3 : lx21.toInt < 1404 := b94; omega) (Nat.le_of_lt_succ hf33), (show F_FR_cut_L2 x2 x3 t0_0 t0_1 t0_2 t0_3 t0_4 t0_5 t0_6 t0_7 t0_8 t0_9 t0_10 t1_0 t2_0 fm34 a111 f109 = (F_FR_cut x2 x3 t0_0 t0_1 t0_2 t0_3 t0_4 t0_5 t0_6 t0_7 t0_8 t0_9 t0_10 t1_0 t2_0) from Eq.trans (by rw [← e112, ← e110, F_FR_cut_L2.eq_2, if_neg c35, if_neg c95]) hR30), (show True ∧ S_FR_cut_L2 x2 x3 t0_0 t0_1 t0_2 t0_3 t0_4 t0_5 t0_6 t0_7 t0_8 t0_9 t0_10 t1_0 t2_0 fm34 a111 f109 from (by rw [← e112, ← e110]; have h := hS31; rw [S_FR_cut_L2.eq_2] at h; rw [if_neg c35] at h; rw [if_neg c95] at h; with_reducible exact h))⟩⟩
theorem d_17_10_0 : decode prog_17_method_10_code 0 = .ok (.sipush 1403, 3) := by decide +kernel
theorem d_17_10_3 : decode prog_17_method_10_code 3 = .ok (.istore_n 2, 1) := by decide +kernel
theorem d_17_10_4 : decode prog_17_method_10_code 4 = .ok (.iload_n 2, 1) := by decide +kernel
theorem d_17_10_23 : decode prog_17_method_10_code 23 = .ok (.iload_n 2, 1) := by decide +kernel
theorem d_17_10_24 : decode prog_17_method_10_code 24 = .ok (.ifCond .ge 7, 3) := by decide +kernel
theorem d_17_10_31 : decode prog_17_method_10_code 31 = .ok (.aload_n 0, 1) := by decide +kernel
theorem d_17_10_32 : decode prog_17_method_10_code 32 = .ok (.iload_n 2, 1) := by decide +kernel
theorem d_17_10_33 : decode prog_17_method_10_code 33 = .ok (.iaload, 1) := by decide +kernel
theorem d_17_10_34 : decode prog_17_method_10_code 34 = .ok (.aload_n 1, 1) := by decide +kernel
theorem d_17_10_35 : decode prog_17_method_10_code 35 = .ok (.iload_n 2, 1) := by decide +kernel
theorem d_17_10_36 : decode prog_17_method_10_code 36 = .ok (.iaload, 1) := by decide +kernel
theorem d_17_10_37 : decode prog_17_method_10_code 37 = .ok (.if_icmp .ge 7, 3) := by decide +kernel
theorem d_17_10_44 : decode prog_17_method_10_code 44 = .ok (.iconst 1, 1) := by decide +kernel
theorem d_17_10_45 : decode prog_17_method_10_code 45 = .ok (.ireturn, 1) := by decide +kernel
theorem d_17_10_40 : decode prog_17_method_10_code 40 = .ok (.iconst (-1), 1) := by decide +kernel
theorem d_17_10_41 : decode prog_17_method_10_code 41 = .ok (.goto 4, 3) := by decide +kernel
theorem d_17_10_27 : decode prog_17_method_10_code 27 = .ok (.iconst 0, 1) := by decide +kernel
theorem d_17_10_28 : decode prog_17_method_10_code 28 = .ok (.goto 17, 3) := by decide +kernel
theorem d_17_10_5 : decode prog_17_method_10_code 5 = .ok (.ifCond .lt 18, 3) := by decide +kernel
theorem d_17_10_8 : decode prog_17_method_10_code 8 = .ok (.aload_n 0, 1) := by decide +kernel
theorem d_17_10_9 : decode prog_17_method_10_code 9 = .ok (.iload_n 2, 1) := by decide +kernel
theorem d_17_10_10 : decode prog_17_method_10_code 10 = .ok (.iaload, 1) := by decide +kernel
theorem d_17_10_11 : decode prog_17_method_10_code 11 = .ok (.aload_n 1, 1) := by decide +kernel
theorem d_17_10_12 : decode prog_17_method_10_code 12 = .ok (.iload_n 2, 1) := by decide +kernel
theorem d_17_10_13 : decode prog_17_method_10_code 13 = .ok (.iaload, 1) := by decide +kernel
theorem d_17_10_14 : decode prog_17_method_10_code 14 = .ok (.if_icmp .ne 9, 3) := by decide +kernel
theorem d_17_10_17 : decode prog_17_method_10_code 17 = .ok (.iinc 2 (-1), 3) := by decide +kernel
theorem d_17_10_20 : decode prog_17_method_10_code 20 = .ok (.goto (-16), 3) := by decide +kernel
def y_FR_compare : MethodName := ⟨"NumberHouseModel$FloatRows", "compare", "([I[I)I"⟩
def F_FR_compare_J23 (K_F_FR_compare_L4 : Int32 → Int32) (N1 : Int32) (N2 : Int32) (t0_0 : (Nat → Int32)) (t1_0 : (Nat → Int32)) (lx8 : Int32) : Int32 := if (0 : Int32) ≤ lx8 then (if (t1_0 lx8.toNatClampNeg : Int32) ≤ (t0_0 lx8.toNatClampNeg : Int32) then ((1 : Int32)) else ((-1 : Int32))) else ((0 : Int32))
def F_FR_compare_L4 (N1 : Int32) (N2 : Int32) (t0_0 : (Nat → Int32)) (t1_0 : (Nat → Int32)) : Nat → Int32 → Int32
  | 0, _ => default
  | fm + 1, lx8 => if lx8 < (0 : Int32) then (F_FR_compare_J23 (F_FR_compare_L4 N1 N2 t0_0 t1_0 fm) N1 N2 t0_0 t1_0 lx8) else (if (t0_0 lx8.toNatClampNeg : Int32) = (t1_0 lx8.toNatClampNeg : Int32) then (F_FR_compare_L4 N1 N2 t0_0 t1_0 fm (lx8 + (-1) : Int32)) else (F_FR_compare_J23 (F_FR_compare_L4 N1 N2 t0_0 t1_0 fm) N1 N2 t0_0 t1_0 lx8))
def F_FR_compare (N1 : Int32) (N2 : Int32) (t0_0 : (Nat → Int32)) (t1_0 : (Nat → Int32)) : Int32 := F_FR_compare_L4 N1 N2 t0_0 t1_0 (((1403 : Int32).toInt - ((-1))).toNat + 1) 1403
def S_FR_compare_J23 (K_S_FR_compare_L4 : Int32 → Prop) (N1 : Int32) (N2 : Int32) (t0_0 : (Nat → Int32)) (t1_0 : (Nat → Int32)) (lx8 : Int32) : Prop := if (0 : Int32) ≤ lx8 then ((lx8.toInt + 1 ≤ N1.toInt) ∧ ((lx8.toInt + 1 ≤ N2.toInt) ∧ (if (t1_0 lx8.toNatClampNeg : Int32) ≤ (t0_0 lx8.toNatClampNeg : Int32) then (True) else (True)))) else (True)
def S_FR_compare_L4 (N1 : Int32) (N2 : Int32) (t0_0 : (Nat → Int32)) (t1_0 : (Nat → Int32)) : Nat → Int32 → Prop
  | 0, _ => False
  | fm + 1, lx8 => if lx8 < (0 : Int32) then (S_FR_compare_J23 (S_FR_compare_L4 N1 N2 t0_0 t1_0 fm) N1 N2 t0_0 t1_0 lx8) else ((lx8.toInt + 1 ≤ N1.toInt) ∧ ((lx8.toInt + 1 ≤ N2.toInt) ∧ (if (t0_0 lx8.toNatClampNeg : Int32) = (t1_0 lx8.toNatClampNeg : Int32) then (S_FR_compare_L4 N1 N2 t0_0 t1_0 fm (lx8 + (-1) : Int32)) else (S_FR_compare_J23 (S_FR_compare_L4 N1 N2 t0_0 t1_0 fm) N1 N2 t0_0 t1_0 lx8))))
def S_FR_compare (N1 : Int32) (N2 : Int32) (t0_0 : (Nat → Int32)) (t1_0 : (Nat → Int32)) : Prop := S_FR_compare_L4 N1 N2 t0_0 t1_0 (((1403 : Int32).toInt - ((-1))).toNat + 1) 1403
set_option maxRecDepth 100000 in
set_option maxHeartbeats 4000000 in
theorem X_FR_compare (l : Launch) (D : va_G) (g : Nat → ClassId) (q : Nat → Nat) (ws : va_W) (k1 : Nat) (N1 : Int32) (hB1 : q_isRow (msh g q) g k1 N1) (k2 : Nat) (N2 : Int32) (hB2 : q_isRow (msh g q) g k2 N2) (ne_k1_k2 : k1 ≠ k2) (hI : q_I (msh g q) q ws) (t0_0 : (Nat → Int32)) (hT0 : ws[k1]? = (some (q k1, .inl (g 0, N1.toNatClampNeg, .inl t0_0)) : Option (Nat × va_E))) (t1_0 : (Nat → Int32)) (hT1 : ws[k2]? = (some (q k2, .inl (g 0, N2.toNatClampNeg, .inl t1_0)) : Option (Nat × va_E))) (hS : True ∧ S_FR_compare N1 N2 t0_0 t1_0) : q_mI l y_FR_compare prog_17_method_10_code 3 (.int) 1 0 0 D g [.ref (q k1), .ref (q k2)] ws (fun r u => ws = u ∧ (0 ≤ r.toInt + 1) ∧ (r.toInt ≤ 1) ∧ (r.toInt ≤ N1.toInt) ∧ (r.toInt ≤ N2.toInt) ∧ r = (F_FR_compare N1 N2 t0_0 t1_0)) := by
  intro sz
  refine q_into (by decide) (Nat.le_of_ble_eq_true rfl) ?_
  intro p e s m below meth c ls hsz C0 V hl
  have hx := C0.1
  have hb := C0.2.1
  have hfk10 : q_F (0 ≤ N1.toInt ∧ N1.toInt ≤ 20200) := hB1.2
  have hfk20 : q_F (0 ≤ N2.toInt ∧ N2.toInt ≤ 20200) := hB2.2
  have hl : lv_has ls 3 [(0, .ref (q k1)), (1, .ref (q k2))] := hl
  refine lv_sipush (v := 1403) hx hb d_17_10_0 (by decide) ?_
  refine lv_istore_n (lv' := [(2, .int 1403), (0, .ref (q k1)), (1, .ref (q k2))]) hx hb d_17_10_3 rfl hl (by decide) rfl (fun ls hl => ?_)
  refine q_loop (X := Int32) (fun z H locs ls _ => q_F (z.toInt ≤ 1403) ∧ q_F (0 ≤ z.toInt + 1) ∧ q_Wd D g (va_A ws sz) s ws H locs ∧ lv_has ls 3 [(2, .int z), (0, .ref (q k1)), (1, .ref (q k2))] ∧ (∃ n, (z.toInt - ((-1))).toNat < n ∧ F_FR_compare_L4 N1 N2 t0_0 t1_0 n z = (F_FR_compare N1 N2 t0_0 t1_0) ∧ True ∧ S_FR_compare_L4 N1 N2 t0_0 t1_0 n z)) (fun z => (z.toInt - ((-1))).toNat) ?_ ((1403 : Int32)) _ _ _ ws ⟨(show q_F (1403 ≤ 1403) from (show 1403 ≤ 1403 from by omega)), (show q_F (0 ≤ 1403 + 1) from (show 0 ≤ 1403 + 1 from by omega)), V, q_lw hl (q_lw1 0 rfl (q_lw1 1 rfl (q_lw1 2 rfl q_lw0))), ⟨(((1403 : Int32).toInt - ((-1))).toNat + 1), Nat.lt_succ_self _, (show F_FR_compare_L4 N1 N2 t0_0 t1_0 (((1403 : Int32).toInt - ((-1))).toNat + 1) 1403 = (F_FR_compare N1 N2 t0_0 t1_0) from (by rw [F_FR_compare.eq_1])), (show True ∧ S_FR_compare_L4 N1 N2 t0_0 t1_0 (((1403 : Int32).toInt - ((-1))).toNat + 1) 1403 from (by have h := hS; rw [S_FR_compare.eq_1] at h; with_reducible exact h))⟩⟩
  rintro lx8 H locs ls _ ⟨i9, i10, V, hl, ⟨fu14, hf15, hR12, hS13⟩⟩ ih11
  obtain ⟨fm16, rfl⟩ : ∃ m, fu14 = m + 1 := ⟨fu14 - 1, by omega⟩
  replace i9 : q_F (lx8.toInt ≤ 1403) := i9
  replace i10 : q_F (0 ≤ lx8.toInt + 1) := i10
  replace hl : lv_has ls 3 [(2, .int lx8), (0, .ref (q k1)), (1, .ref (q k2))] := hl
  refine lv_iload_n hx hb d_17_10_4 rfl (lv_at hl 0 rfl) ?_
  refine q_join (X := Unit) (fun z H locs ls _ => q_Wd D g (va_A ws sz) s ws H locs ∧ lv_has ls 3 [(2, .int lx8), (0, .ref (q k1)), (1, .ref (q k2))] ∧ F_FR_compare_J23 (F_FR_compare_L4 N1 N2 t0_0 t1_0 fm16) N1 N2 t0_0 t1_0 lx8 = (F_FR_compare N1 N2 t0_0 t1_0) ∧ True ∧ S_FR_compare_J23 (S_FR_compare_L4 N1 N2 t0_0 t1_0 fm16) N1 N2 t0_0 t1_0 lx8) (fun z => []) 23 0 0 ?_ ?_
  ·
    rintro _ H locs ls _ ⟨V, hl, hR20, hS21⟩
    replace hl : lv_has ls 3 [(2, .int lx8), (0, .ref (q k1)), (1, .ref (q k2))] := hl
    refine lv_iload_n hx hb d_17_10_23 rfl (lv_at hl 0 rfl) ?_
    refine lv_if_ge (tgt := 31) hx hb d_17_10_24 (by decide) (fun c25 => ?_) (fun c25 => ?_)
    ·
      have b26 : q_F (0 ≤ lx8.toInt) := (q_leI c25)
      refine lv_aload_n hx hb d_17_10_31 rfl (lv_at hl 1 rfl) ?_
      refine lv_iload_n hx hb d_17_10_32 rfl (lv_at hl 0 rfl) ?_
      have ob27 : q_F (lx8.toInt + 1 ≤ N1.toInt) := (by have h := hS21; rw [S_FR_compare_J23.eq_1] at h; rw [if_pos c25] at h; exact h.2.1)
      refine q_iald C0 V hT0 (q_ix (x := lx8.toInt) rfl (by have t1 : 0 ≤ lx8.toInt := b26; omega) (by have t1 : 0 ≤ lx8.toInt := b26; have t2 : lx8.toInt + 1 ≤ N1.toInt := ob27; have e9 := q_clI (i := N1) rfl (by have t1 : 0 ≤ N1.toInt ∧ N1.toInt ≤ 20200 := hfk10; omega); omega)) d_17_10_33 ?_
      obtain ⟨a28, e29⟩ := q_nm (t0_0 lx8.toNatClampNeg : Int32)
      refine q_ti (v := a28) e29 ?_
      refine lv_aload_n hx hb d_17_10_34 rfl (lv_at hl 2 rfl) ?_
      refine lv_iload_n hx hb d_17_10_35 rfl (lv_at hl 0 rfl) ?_
      have ob30 : q_F (lx8.toInt + 1 ≤ N2.toInt) := (by have h := hS21; rw [S_FR_compare_J23.eq_1] at h; rw [if_pos c25] at h; replace h := q_s2 h; exact h.2.1)
      refine q_iald C0 V hT1 (q_ix (x := lx8.toInt) rfl (by have t1 : 0 ≤ lx8.toInt := b26; omega) (by have t1 : 0 ≤ lx8.toInt := b26; have t2 : lx8.toInt + 1 ≤ N2.toInt := ob30; have e9 := q_clI (i := N2) rfl (by have t1 : 0 ≤ N2.toInt ∧ N2.toInt ≤ 20200 := hfk20; omega); omega)) d_17_10_36 ?_
      obtain ⟨a31, e32⟩ := q_nm (t1_0 lx8.toNatClampNeg : Int32)
      refine q_ti (v := a31) e32 ?_
      refine lv_icmp_ge (tgt := 44) hx hb d_17_10_37 (by decide) (fun c33 => ?_) (fun c33 => ?_)
      ·
        have b34 : q_F (a31.toInt ≤ a28.toInt) := (q_leI c33)
        refine lv_iconst (v := 1) hx hb d_17_10_44 (by decide) ?_
        exact q_reti C0 V (⟨rfl, (show 0 ≤ (1 : Int32).toInt + 1 from (by have z4 : (1 : Int32).toInt = 1 := rfl; omega)), (show (1 : Int32).toInt ≤ 1 from (by have z4 : (1 : Int32).toInt = 1 := rfl; omega)), (show (1 : Int32).toInt ≤ N1.toInt from (by have z4 : (1 : Int32).toInt = 1 := rfl; have t1 : 0 ≤ lx8.toInt := b26; have t2 : lx8.toInt + 1 ≤ N1.toInt := ob27; omega)), (show (1 : Int32).toInt ≤ N2.toInt from (by have z4 : (1 : Int32).toInt = 1 := rfl; have t1 : 0 ≤ lx8.toInt := b26; have t2 : lx8.toInt + 1 ≤ N2.toInt := ob30; omega)), (show (1 : Int32) = (F_FR_compare N1 N2 t0_0 t1_0) from Eq.trans (by have c33x := c33; rw [← e32, ← e29] at c33x; rw [F_FR_compare_J23.eq_1, if_pos c25, if_pos c33x]) hR20)⟩) d_17_10_45
      ·
        have b35 : q_F (a28.toInt < a31.toInt) := (q_nleI c33)
        refine lv_iconst (v := (-1)) hx hb d_17_10_40 (by decide) ?_
        refine lv_goto (tgt := 45) hx hb d_17_10_41 (by decide) ?_
        exact q_reti C0 V (⟨rfl, (show 0 ≤ (-1 : Int32).toInt + 1 from (by have z4 : (-1 : Int32).toInt = -1 := rfl; omega)), (show (-1 : Int32).toInt ≤ 1 from (by have z4 : (-1 : Int32).toInt = -1 := rfl; omega)), (show (-1 : Int32).toInt ≤ N1.toInt from (by have z4 : (-1 : Int32).toInt = -1 := rfl; have t1 : 0 ≤ N1.toInt ∧ N1.toInt ≤ 20200 := hfk10; omega)), (show (-1 : Int32).toInt ≤ N2.toInt from (by have z4 : (-1 : Int32).toInt = -1 := rfl; have t1 : 0 ≤ N2.toInt ∧ N2.toInt ≤ 20200 := hfk20; omega)), (show (-1 : Int32) = (F_FR_compare N1 N2 t0_0 t1_0) from Eq.trans (by have c33x := c33; rw [← e32, ← e29] at c33x; rw [F_FR_compare_J23.eq_1, if_pos c25, if_neg c33x]) hR20)⟩) d_17_10_45
    ·
      have b36 : q_F (lx8.toInt < 0) := (q_nleI c25)
      refine lv_iconst (v := 0) hx hb d_17_10_27 (by decide) ?_
      refine lv_goto (tgt := 45) hx hb d_17_10_28 (by decide) ?_
      exact q_reti C0 V (⟨rfl, (show 0 ≤ (0 : Int32).toInt + 1 from (by have z4 : (0 : Int32).toInt = 0 := rfl; omega)), (show (0 : Int32).toInt ≤ 1 from (by have z4 : (0 : Int32).toInt = 0 := rfl; omega)), (show (0 : Int32).toInt ≤ N1.toInt from (by have z4 : (0 : Int32).toInt = 0 := rfl; have t1 : 0 ≤ N1.toInt ∧ N1.toInt ≤ 20200 := hfk10; omega)), (show (0 : Int32).toInt ≤ N2.toInt from (by have z4 : (0 : Int32).toInt = 0 := rfl; have t1 : 0 ≤ N2.toInt ∧ N2.toInt ≤ 20200 := hfk20; omega)), (show (0 : Int32) = (F_FR_compare N1 N2 t0_0 t1_0) from Eq.trans (by rw [F_FR_compare_J23.eq_1, if_neg c25]) hR20)⟩) d_17_10_45
  ·
    intro J19
    refine lv_if_lt (tgt := 23) hx hb d_17_10_5 (by decide) (fun c37 => ?_) (fun c37 => ?_)
    ·
      have b38 : q_F (lx8.toInt < 0) := (q_ltI c37)
      exact J19 (()) _ _ _ ws ⟨V, q_lw hl (q_lw1 0 rfl (q_lw1 1 rfl (q_lw1 2 rfl q_lw0))), (show F_FR_compare_J23 (F_FR_compare_L4 N1 N2 t0_0 t1_0 fm16) N1 N2 t0_0 t1_0 lx8 = (F_FR_compare N1 N2 t0_0 t1_0) from Eq.trans (by rw [F_FR_compare_L4.eq_2, if_pos c37]) hR12), (show True ∧ S_FR_compare_J23 (S_FR_compare_L4 N1 N2 t0_0 t1_0 fm16) N1 N2 t0_0 t1_0 lx8 from (by have h := hS13; rw [S_FR_compare_L4.eq_2] at h; rw [if_pos c37] at h; with_reducible exact h))⟩
    ·
      have b39 : q_F (0 ≤ lx8.toInt) := (q_nltI c37)
      refine lv_aload_n hx hb d_17_10_8 rfl (lv_at hl 1 rfl) ?_
      refine lv_iload_n hx hb d_17_10_9 rfl (lv_at hl 0 rfl) ?_
      have ob40 : q_F (lx8.toInt + 1 ≤ N1.toInt) := (by have h := hS13; rw [S_FR_compare_L4.eq_2] at h; rw [if_neg c37] at h; exact h.2.1)
      refine q_iald C0 V hT0 (q_ix (x := lx8.toInt) rfl (by have t1 : 0 ≤ lx8.toInt := b39; omega) (by have t1 : 0 ≤ lx8.toInt := b39; have t2 : lx8.toInt + 1 ≤ N1.toInt := ob40; have e9 := q_clI (i := N1) rfl (by have t1 : 0 ≤ N1.toInt ∧ N1.toInt ≤ 20200 := hfk10; omega); omega)) d_17_10_10 ?_
      obtain ⟨a41, e42⟩ := q_nm (t0_0 lx8.toNatClampNeg : Int32)
      refine q_ti (v := a41) e42 ?_
      refine lv_aload_n hx hb d_17_10_11 rfl (lv_at hl 2 rfl) ?_
      refine lv_iload_n hx hb d_17_10_12 rfl (lv_at hl 0 rfl) ?_
      have ob43 : q_F (lx8.toInt + 1 ≤ N2.toInt) := (by have h := hS13; rw [S_FR_compare_L4.eq_2] at h; rw [if_neg c37] at h; replace h := q_s2 h; exact h.2.1)
      refine q_iald C0 V hT1 (q_ix (x := lx8.toInt) rfl (by have t1 : 0 ≤ lx8.toInt := b39; omega) (by have t1 : 0 ≤ lx8.toInt := b39; have t2 : lx8.toInt + 1 ≤ N2.toInt := ob43; have e9 := q_clI (i := N2) rfl (by have t1 : 0 ≤ N2.toInt ∧ N2.toInt ≤ 20200 := hfk20; omega); omega)) d_17_10_13 ?_
      obtain ⟨a44, e45⟩ := q_nm (t1_0 lx8.toNatClampNeg : Int32)
      refine q_ti (v := a44) e45 ?_
      refine lv_icmp_ne (tgt := 23) hx hb d_17_10_14 (by decide) (fun c46 => ?_) (fun c46 => ?_)
      ·
        have b47 : q_F (a41.toInt ≠ a44.toInt) := (q_neI c46)
        exact J19 (()) _ _ _ ws ⟨V, q_lw hl (q_lw1 0 rfl (q_lw1 1 rfl (q_lw1 2 rfl q_lw0))), (show F_FR_compare_J23 (F_FR_compare_L4 N1 N2 t0_0 t1_0 fm16) N1 N2 t0_0 t1_0 lx8 = (F_FR_compare N1 N2 t0_0 t1_0) from Eq.trans (by have c46x := c46; rw [← e45, ← e42] at c46x; rw [F_FR_compare_L4.eq_2, if_neg c37, if_neg c46x]) hR12), (show True ∧ S_FR_compare_J23 (S_FR_compare_L4 N1 N2 t0_0 t1_0 fm16) N1 N2 t0_0 t1_0 lx8 from (by have h := hS13; rw [S_FR_compare_L4.eq_2] at h; rw [if_neg c37] at h; replace h := q_s2 h; replace h := q_s2 h; have c46x := c46; rw [← e45, ← e42] at c46x; rw [if_neg c46x] at h; with_reducible exact h))⟩
      ·
        have b48 : q_F (a41.toInt = a44.toInt) := (q_eqI c46)
        obtain ⟨a49, e50⟩ := q_nm (lx8 + (-1) : Int32)
        have b51 : q_F (a49.toInt = lx8.toInt + (-1)) := (by rw [← e50]; exact q_addI (y := (-1)) rfl (by decide) (by have t1 : 0 ≤ lx8.toInt + 1 := i10; have t2 : lx8.toInt ≤ 1403 := i9; omega) (by have t1 : 0 ≤ lx8.toInt + 1 := i10; have t2 : lx8.toInt ≤ 1403 := i9; omega))
        refine lv_iinc (v := a49) (lv' := [(2, .int a49), (0, .ref (q k1)), (1, .ref (q k2))]) hx hb d_17_10_17 hl (k := 0) rfl (e50) (by decide) rfl (fun ls hl => ?_)
        refine lv_goto (tgt := 4) hx hb d_17_10_20 (by decide) ?_
        exact ih11 ((a49 : Int32)) _ _ _ ws (show (a49.toInt - ((-1))).toNat < (lx8.toInt - ((-1))).toNat from by have t1 : a49.toInt = lx8.toInt + (-1) := b51; have t2 : 0 ≤ lx8.toInt + 1 := i10; have t3 : 0 ≤ lx8.toInt := b39; omega) ⟨(show q_F (a49.toInt ≤ 1403) from (show a49.toInt ≤ 1403 from by have t1 : lx8.toInt ≤ 1403 := i9; have t2 : a49.toInt = lx8.toInt + (-1) := b51; omega)), (show q_F (0 ≤ a49.toInt + 1) from (show 0 ≤ a49.toInt + 1 from by have t1 : 0 ≤ lx8.toInt := b39; have t2 : a49.toInt = lx8.toInt + (-1) := b51; omega)), V, q_lw hl (q_lw1 0 rfl (q_lw1 1 rfl (q_lw1 2 rfl q_lw0))), ⟨fm16, Nat.lt_of_lt_of_le (show (a49.toInt - ((-1))).toNat < (lx8.toInt - ((-1))).toNat from by have t1 : a49.toInt = lx8.toInt + (-1) := b51; have t2 : 0 ≤ lx8.toInt + 1 := i10; have t3 : 0 ≤ lx8.toInt := b39; omega) (Nat.le_of_lt_succ hf15), (show F_FR_compare_L4 N1 N2 t0_0 t1_0 fm16 a49 = (F_FR_compare N1 N2 t0_0 t1_0) from Eq.trans (by have c46x := c46; rw [← e45, ← e42] at c46x; rw [← e50, F_FR_compare_L4.eq_2, if_neg c37, if_pos c46x]) hR12), (show True ∧ S_FR_compare_L4 N1 N2 t0_0 t1_0 fm16 a49 from (by rw [← e50]; have h := hS13; rw [S_FR_compare_L4.eq_2] at h; rw [if_neg c37] at h; replace h := q_s2 h; replace h := q_s2 h; have c46x := c46; rw [← e45, ← e42] at c46x; rw [if_pos c46x] at h; with_reducible exact h))⟩⟩
theorem d_17_12_0 : decode prog_17_method_12_code 0 = .ok (.aload_n 0, 1) := by decide +kernel
theorem d_17_12_1 : decode prog_17_method_12_code 1 = .ok (.getfield 48, 3) := by decide +kernel
theorem d_17_12_4 : decode prog_17_method_12_code 4 = .ok (.ldc2_w 71, 3) := by decide +kernel
theorem d_17_12_7 : decode prog_17_method_12_code 7 = .ok (.lrem, 1) := by decide +kernel
theorem d_17_12_8 : decode prog_17_method_12_code 8 = .ok (.lconst 0, 1) := by decide +kernel
theorem d_17_12_9 : decode prog_17_method_12_code 9 = .ok (.lcmp, 1) := by decide +kernel
theorem d_17_12_18 : decode prog_17_method_12_code 18 = .ok (.istore_n 1, 1) := by decide +kernel
theorem d_17_12_19 : decode prog_17_method_12_code 19 = .ok (.aload_n 0, 1) := by decide +kernel
theorem d_17_12_20 : decode prog_17_method_12_code 20 = .ok (.getfield 25, 3) := by decide +kernel
theorem d_17_12_23 : decode prog_17_method_12_code 23 = .ok (.aload_n 0, 1) := by decide +kernel
theorem d_17_12_24 : decode prog_17_method_12_code 24 = .ok (.getfield 19, 3) := by decide +kernel
theorem d_17_12_27 : decode prog_17_method_12_code 27 = .ok (.invokestatic 73, 3) := by decide +kernel
set_option maxRecDepth 100000 in
theorem w_2634 : (Cond.code ({ cls := "NumberHouseModel$FloatRows", name := "compare", desc := "([I[I)I" } : MethodName) prog_17_method_10_code (3 : Nat) (some .int)) ∈ q_tbl := q_of11 234 rfl (by decide +kernel)
set_option maxRecDepth 100000 in
theorem w_2632 : (Cond.methodLink "NumberHouseModel$FloatRows" (73 : Nat) ({ cls := "NumberHouseModel$FloatRows", name := "compare", desc := "([I[I)I" } : MethodName)) ∈ q_tbl := q_of11 232 rfl (by decide +kernel)
set_option maxRecDepth 100000 in
theorem w_2633 : (Cond.static ({ cls := "NumberHouseModel$FloatRows", name := "compare", desc := "([I[I)I" } : MethodName)) ∈ q_tbl := q_of11 233 rfl (by decide +kernel)
theorem LS_FR_73 : q_LS "NumberHouseModel$FloatRows" 73 y_FR_compare prog_17_method_10_code 3 (some .int) 2 := ⟨w_2634, w_17, w_2632, w_2633, ⟨by decide, by decide, by decide +kernel⟩⟩
theorem d_17_12_30 : decode prog_17_method_12_code 30 = .ok (.istore_n 2, 1) := by decide +kernel
theorem d_17_12_31 : decode prog_17_method_12_code 31 = .ok (.aload_n 0, 1) := by decide +kernel
theorem d_17_12_32 : decode prog_17_method_12_code 32 = .ok (.getfield 25, 3) := by decide +kernel
theorem d_17_12_35 : decode prog_17_method_12_code 35 = .ok (.aload_n 0, 1) := by decide +kernel
theorem d_17_12_36 : decode prog_17_method_12_code 36 = .ok (.getfield 22, 3) := by decide +kernel
theorem d_17_12_39 : decode prog_17_method_12_code 39 = .ok (.invokestatic 73, 3) := by decide +kernel
theorem d_17_12_42 : decode prog_17_method_12_code 42 = .ok (.istore_n 3, 1) := by decide +kernel
theorem d_17_12_43 : decode prog_17_method_12_code 43 = .ok (.iload_n 2, 1) := by decide +kernel
theorem d_17_12_55 : decode prog_17_method_12_code 55 = .ok (.iload_n 3, 1) := by decide +kernel
theorem d_17_12_56 : decode prog_17_method_12_code 56 = .ok (.ifCond .lt 11, 3) := by decide +kernel
theorem d_17_12_67 : decode prog_17_method_12_code 67 = .ok (.iconst 1, 1) := by decide +kernel
theorem d_17_12_68 : decode prog_17_method_12_code 68 = .ok (.goto 4, 3) := by decide +kernel
theorem d_17_12_72 : decode prog_17_method_12_code 72 = .ok (.ireturn, 1) := by decide +kernel
theorem d_17_12_59 : decode prog_17_method_12_code 59 = .ok (.iload_n 3, 1) := by decide +kernel
theorem d_17_12_60 : decode prog_17_method_12_code 60 = .ok (.ifCond .ne 11, 3) := by decide +kernel
theorem d_17_12_71 : decode prog_17_method_12_code 71 = .ok (.iconst 0, 1) := by decide +kernel
theorem d_17_12_63 : decode prog_17_method_12_code 63 = .ok (.iload_n 1, 1) := by decide +kernel
theorem d_17_12_64 : decode prog_17_method_12_code 64 = .ok (.ifCond .eq 7, 3) := by decide +kernel
theorem d_17_12_44 : decode prog_17_method_12_code 44 = .ok (.ifCond .gt 11, 3) := by decide +kernel
theorem d_17_12_47 : decode prog_17_method_12_code 47 = .ok (.iload_n 2, 1) := by decide +kernel
theorem d_17_12_48 : decode prog_17_method_12_code 48 = .ok (.ifCond .ne 23, 3) := by decide +kernel
theorem d_17_12_51 : decode prog_17_method_12_code 51 = .ok (.iload_n 1, 1) := by decide +kernel
theorem d_17_12_52 : decode prog_17_method_12_code 52 = .ok (.ifCond .eq 19, 3) := by decide +kernel
theorem d_17_12_10 : decode prog_17_method_12_code 10 = .ok (.ifCond .ne 7, 3) := by decide +kernel
theorem d_17_12_17 : decode prog_17_method_12_code 17 = .ok (.iconst 0, 1) := by decide +kernel
theorem d_17_12_13 : decode prog_17_method_12_code 13 = .ok (.iconst 1, 1) := by decide +kernel
theorem d_17_12_14 : decode prog_17_method_12_code 14 = .ok (.goto 4, 3) := by decide +kernel
def y_FR_readsBack : MethodName := ⟨"NumberHouseModel$FloatRows", "readsBack", "()Z"⟩
def F_FR_readsBack_J55 (t0_0 : Int32) (t0_1 : Int32) (t0_2 : Int32) (t0_3 : Int32) (t0_4 : Int64) (t0_5 : Int32) (t0_6 : Int32) (t0_7 : Int64) (t0_8 : Int32) (t0_9 : Int64) (t0_10 : Int32) (t1_0 : (Nat → Int32)) (t2_0 : (Nat → Int32)) (t3_0 : (Nat → Int32)) (lx28 : Int32) (a54 : Int32) : Int32 := if a54 < (0 : Int32) then ((1 : Int32)) else (if a54 = (0 : Int32) then (if lx28 = (0 : Int32) then ((0 : Int32)) else ((1 : Int32))) else ((0 : Int32)))
def F_FR_readsBack_J18 (t0_0 : Int32) (t0_1 : Int32) (t0_2 : Int32) (t0_3 : Int32) (t0_4 : Int64) (t0_5 : Int32) (t0_6 : Int32) (t0_7 : Int64) (t0_8 : Int32) (t0_9 : Int64) (t0_10 : Int32) (t1_0 : (Nat → Int32)) (t2_0 : (Nat → Int32)) (t3_0 : (Nat → Int32)) (lx28 : Int32) : Int32 := if (0 : Int32) < ((F_FR_compare (1404 : Int32) (1404 : Int32) t3_0 t1_0) : Int32) then (F_FR_readsBack_J55 t0_0 t0_1 t0_2 t0_3 t0_4 t0_5 t0_6 t0_7 t0_8 t0_9 t0_10 t1_0 t2_0 t3_0 lx28 ((F_FR_compare (1404 : Int32) (1404 : Int32) t3_0 t2_0) : Int32)) else (if ((F_FR_compare (1404 : Int32) (1404 : Int32) t3_0 t1_0) : Int32) = (0 : Int32) then (if lx28 = (0 : Int32) then ((0 : Int32)) else (F_FR_readsBack_J55 t0_0 t0_1 t0_2 t0_3 t0_4 t0_5 t0_6 t0_7 t0_8 t0_9 t0_10 t1_0 t2_0 t3_0 lx28 ((F_FR_compare (1404 : Int32) (1404 : Int32) t3_0 t2_0) : Int32))) else ((0 : Int32)))
def F_FR_readsBack (t0_0 : Int32) (t0_1 : Int32) (t0_2 : Int32) (t0_3 : Int32) (t0_4 : Int64) (t0_5 : Int32) (t0_6 : Int32) (t0_7 : Int64) (t0_8 : Int32) (t0_9 : Int64) (t0_10 : Int32) (t1_0 : (Nat → Int32)) (t2_0 : (Nat → Int32)) (t3_0 : (Nat → Int32)) : Int32 := if (lg_cmp (t0_4 - t0_4 / 2 * 2 : Int64) 0 : Int32) = (0 : Int32) then (F_FR_readsBack_J18 t0_0 t0_1 t0_2 t0_3 t0_4 t0_5 t0_6 t0_7 t0_8 t0_9 t0_10 t1_0 t2_0 t3_0 1) else (F_FR_readsBack_J18 t0_0 t0_1 t0_2 t0_3 t0_4 t0_5 t0_6 t0_7 t0_8 t0_9 t0_10 t1_0 t2_0 t3_0 0)
def S_FR_readsBack_J55 (t0_0 : Int32) (t0_1 : Int32) (t0_2 : Int32) (t0_3 : Int32) (t0_4 : Int64) (t0_5 : Int32) (t0_6 : Int32) (t0_7 : Int64) (t0_8 : Int32) (t0_9 : Int64) (t0_10 : Int32) (t1_0 : (Nat → Int32)) (t2_0 : (Nat → Int32)) (t3_0 : (Nat → Int32)) (lx28 : Int32) (a54 : Int32) : Prop := if a54 < (0 : Int32) then (True) else (if a54 = (0 : Int32) then (if lx28 = (0 : Int32) then (True) else (True)) else (True))
def S_FR_readsBack_J18 (t0_0 : Int32) (t0_1 : Int32) (t0_2 : Int32) (t0_3 : Int32) (t0_4 : Int64) (t0_5 : Int32) (t0_6 : Int32) (t0_7 : Int64) (t0_8 : Int32) (t0_9 : Int64) (t0_10 : Int32) (t1_0 : (Nat → Int32)) (t2_0 : (Nat → Int32)) (t3_0 : (Nat → Int32)) (lx28 : Int32) : Prop := (True ∧ S_FR_compare (1404 : Int32) (1404 : Int32) t3_0 t1_0) ∧ ((True ∧ S_FR_compare (1404 : Int32) (1404 : Int32) t3_0 t2_0) ∧ (if (0 : Int32) < ((F_FR_compare (1404 : Int32) (1404 : Int32) t3_0 t1_0) : Int32) then (S_FR_readsBack_J55 t0_0 t0_1 t0_2 t0_3 t0_4 t0_5 t0_6 t0_7 t0_8 t0_9 t0_10 t1_0 t2_0 t3_0 lx28 ((F_FR_compare (1404 : Int32) (1404 : Int32) t3_0 t2_0) : Int32)) else (if ((F_FR_compare (1404 : Int32) (1404 : Int32) t3_0 t1_0) : Int32) = (0 : Int32) then (if lx28 = (0 : Int32) then (True) else (S_FR_readsBack_J55 t0_0 t0_1 t0_2 t0_3 t0_4 t0_5 t0_6 t0_7 t0_8 t0_9 t0_10 t1_0 t2_0 t3_0 lx28 ((F_FR_compare (1404 : Int32) (1404 : Int32) t3_0 t2_0) : Int32))) else (True))))
def S_FR_readsBack (t0_0 : Int32) (t0_1 : Int32) (t0_2 : Int32) (t0_3 : Int32) (t0_4 : Int64) (t0_5 : Int32) (t0_6 : Int32) (t0_7 : Int64) (t0_8 : Int32) (t0_9 : Int64) (t0_10 : Int32) (t1_0 : (Nat → Int32)) (t2_0 : (Nat → Int32)) (t3_0 : (Nat → Int32)) : Prop := if (lg_cmp (t0_4 - t0_4 / 2 * 2 : Int64) 0 : Int32) = (0 : Int32) then (S_FR_readsBack_J18 t0_0 t0_1 t0_2 t0_3 t0_4 t0_5 t0_6 t0_7 t0_8 t0_9 t0_10 t1_0 t2_0 t3_0 1) else (S_FR_readsBack_J18 t0_0 t0_1 t0_2 t0_3 t0_4 t0_5 t0_6 t0_7 t0_8 t0_9 t0_10 t1_0 t2_0 t3_0 0)
set_option maxRecDepth 100000 in
set_option maxHeartbeats 4000000 in
theorem X_FR_readsBack (l : Launch) (D : va_G) (g : Nat → ClassId) (q : Nat → Nat) (ws : va_W) (hI : q_I (msh g q) q ws) (t0_0 : Int32) (t0_1 : Int32) (t0_2 : Int32) (t0_3 : Int32) (t0_4 : Int64) (t0_5 : Int32) (t0_6 : Int32) (t0_7 : Int64) (t0_8 : Int32) (t0_9 : Int64) (t0_10 : Int32) (hT0 : ws[145]? = (some (q 145, .inr (15, [.int t0_0, .ref (q 146), .ref (q 147), .ref (q 148), .ref (q 149), .ref (q 150), .ref (q 151), .ref (q 152), .int t0_1, .int t0_2, .int t0_3, .long t0_4, .int t0_5, .int t0_6, .long t0_7, .int t0_8, .long t0_9, .int t0_10])) : Option (Nat × va_E))) (t1_0 : (Nat → Int32)) (hT1 : ws[149]? = (some (q 149, .inl (g 0, (1404 : Int32).toNatClampNeg, .inl t1_0)) : Option (Nat × va_E))) (t2_0 : (Nat → Int32)) (hT2 : ws[150]? = (some (q 150, .inl (g 0, (1404 : Int32).toNatClampNeg, .inl t2_0)) : Option (Nat × va_E))) (t3_0 : (Nat → Int32)) (hT3 : ws[151]? = (some (q 151, .inl (g 0, (1404 : Int32).toNatClampNeg, .inl t3_0)) : Option (Nat × va_E))) (hS : True ∧ S_FR_readsBack t0_0 t0_1 t0_2 t0_3 t0_4 t0_5 t0_6 t0_7 t0_8 t0_9 t0_10 t1_0 t2_0 t3_0) : q_mI l y_FR_readsBack prog_17_method_12_code 4 (.boolean) 2 0 0 D g [.ref (q 145)] ws (fun r u => ws = u ∧ (0 ≤ r.toInt) ∧ (r.toInt ≤ 1) ∧ r = (F_FR_readsBack t0_0 t0_1 t0_2 t0_3 t0_4 t0_5 t0_6 t0_7 t0_8 t0_9 t0_10 t1_0 t2_0 t3_0)) := by
  intro sz
  refine q_into (by decide) (Nat.le_of_ble_eq_true rfl) ?_
  intro p e s m below meth c ls hsz C0 V hl
  have hx := C0.1
  have hb := C0.2.1
  obtain ⟨yy0_0, yy0_1, yy0_2, yy0_3, yy0_4, yy0_5, yy0_6, yy0_7, yy0_8, yy0_9, yy0_10, hh0, btt0_2⟩ := n_o145 hI
  obtain ⟨rfl, rfl, rfl, rfl, rfl, rfl, rfl, rfl, rfl, rfl, rfl⟩ : t0_0 = yy0_0 ∧ t0_1 = yy0_1 ∧ t0_2 = yy0_2 ∧ t0_3 = yy0_3 ∧ t0_4 = yy0_4 ∧ t0_5 = yy0_5 ∧ t0_6 = yy0_6 ∧ t0_7 = yy0_7 ∧ t0_8 = yy0_8 ∧ t0_9 = yy0_9 ∧ t0_10 = yy0_10 := by have z := Option.some.inj (hT0.symm.trans hh0); simpa using z
  replace btt0_2 : q_F (0 ≤ t0_2.toInt ∧ t0_2.toInt ≤ 1) := btt0_2
  have hl : lv_has ls 4 [(0, .ref (q 145))] := hl
  refine lv_aload_n hx hb d_17_12_0 rfl (lv_at hl 0 rfl) ?_
  refine q_get (ci := 15) (j := 11) (v := .long t0_4) C0 V i_FR rfl rfl hT0 (by decide) w_2087 rfl d_17_12_1 ?_
  refine q_ldc2 C0 rfl w_2615 d_17_12_4 ?_
  refine lv_lrem hx hb d_17_12_7 (by decide) ?_
  obtain ⟨j23, e24⟩ := q_nm (t0_4 - t0_4 / 2 * 2 : Int64)
  refine q_tl (v := j23) e24 ?_
  refine lv_lconst (v := 0) hx hb d_17_12_8 (by decide) ?_
  refine W.lcmp hx hb d_17_12_9 ?_
  obtain ⟨a25, e26⟩ := q_nm (lg_cmp j23 0 : Int32)
  refine q_ti (v := a25) e26 ?_
  have b27 : q_F (-1 ≤ a25.toInt ∧ a25.toInt ≤ 1 ∧ ((a25.toInt = -1 ∧ j23.toInt < 0) ∨ (a25.toInt = 0 ∧ j23.toInt = 0) ∨ (a25.toInt = 1 ∧ 0 < j23.toInt))) := (by rw [← e26]; show -1 ≤ (lg_cmp j23 0 : Int32).toInt ∧ (lg_cmp j23 0 : Int32).toInt ≤ 1 ∧ (((lg_cmp j23 0 : Int32).toInt = -1 ∧ j23.toInt < 0) ∨ ((lg_cmp j23 0 : Int32).toInt = 0 ∧ j23.toInt = 0) ∨ ((lg_cmp j23 0 : Int32).toInt = 1 ∧ 0 < j23.toInt)); exact (by have y1 : (0 : Int64).toInt = 0 := rfl; have z := s_lcmp (a := j23) (b := 0); omega))
  refine q_join (X := Int32) (fun z H locs ls _ => q_F (0 ≤ z.toInt) ∧ q_F (z.toInt ≤ 1) ∧ q_Wd D g (va_A ws sz) s ws H locs ∧ lv_has ls 4 [(0, .ref (q 145))] ∧ F_FR_readsBack_J18 t0_0 t0_1 t0_2 t0_3 t0_4 t0_5 t0_6 t0_7 t0_8 t0_9 t0_10 t1_0 t2_0 t3_0 z = (F_FR_readsBack t0_0 t0_1 t0_2 t0_3 t0_4 t0_5 t0_6 t0_7 t0_8 t0_9 t0_10 t1_0 t2_0 t3_0) ∧ True ∧ S_FR_readsBack_J18 t0_0 t0_1 t0_2 t0_3 t0_4 t0_5 t0_6 t0_7 t0_8 t0_9 t0_10 t1_0 t2_0 t3_0 z) (fun z => [.int z]) 18 0 0 ?_ ?_
  ·
    rintro lx28 H locs ls _ ⟨i34, i35, V, hl, hR36, hS37⟩
    replace i34 : q_F (0 ≤ lx28.toInt) := i34
    replace i35 : q_F (lx28.toInt ≤ 1) := i35
    replace hl : lv_has ls 4 [(0, .ref (q 145))] := hl
    refine lv_istore_n (lv' := [(1, .int lx28), (0, .ref (q 145))]) hx hb d_17_12_18 rfl hl (by decide) rfl (fun ls hl => ?_)
    refine lv_aload_n hx hb d_17_12_19 rfl (lv_at hl 1 rfl) ?_
    refine q_get (ci := 15) (j := 6) (v := .ref (q 151)) C0 V i_FR rfl rfl hT0 (by decide) w_2081 rfl d_17_12_20 ?_
    refine lv_aload_n hx hb d_17_12_23 rfl (lv_at hl 1 rfl) ?_
    refine q_get (ci := 15) (j := 4) (v := .ref (q 149)) C0 V i_FR rfl rfl hT0 (by decide) w_2079 rfl d_17_12_24 ?_
    have ob41 : True ∧ S_FR_compare (1404 : Int32) (1404 : Int32) t3_0 t1_0 := (by have h := hS37; rw [S_FR_readsBack_J18.eq_1] at h; with_reducible exact h.2.1)
    refine q_goi V (q_runS (As := [.ref (q 151), .ref (q 149)]) (rest := []) (d := 1) (mc := 0) (ms := 0) C0 V rfl LS_FR_73 (X_FR_compare l D g q ws 151 1404 (n_r151 g q) 149 1404 (n_r149 g q)  (by decide) hI t3_0 hT3 t1_0 hT1 ob41 _) rfl hl.1 rfl (Nat.le_of_ble_eq_true rfl) ⟨by decide, by decide⟩ ⟨Nat.le_of_ble_eq_true rfl, Nat.le_of_ble_eq_true rfl⟩ d_17_12_27) (fun a44 u42 H locs hp43 V => ?_)
    obtain ⟨rfl, b45, b46, b47, b48, hE49⟩ := hp43
    have e50 : a44 = (F_FR_compare (1404 : Int32) (1404 : Int32) t3_0 t1_0) := hE49
    replace b45 : q_F (0 ≤ a44.toInt + 1) := b45
    replace b46 : q_F (a44.toInt ≤ 1) := b46
    replace b47 : q_F (a44.toInt ≤ 1404) := b47
    replace b48 : q_F (a44.toInt ≤ 1404) := b48
    refine lv_istore_n (lv' := [(2, .int a44), (1, .int lx28), (0, .ref (q 145))]) hx hb d_17_12_30 rfl hl (by decide) rfl (fun ls hl => ?_)
    refine lv_aload_n hx hb d_17_12_31 rfl (lv_at hl 2 rfl) ?_
    refine q_get (ci := 15) (j := 6) (v := .ref (q 151)) C0 V i_FR rfl rfl hT0 (by decide) w_2081 rfl d_17_12_32 ?_
    refine lv_aload_n hx hb d_17_12_35 rfl (lv_at hl 2 rfl) ?_
    refine q_get (ci := 15) (j := 5) (v := .ref (q 150)) C0 V i_FR rfl rfl hT0 (by decide) w_2080 rfl d_17_12_36 ?_
    have ob51 : True ∧ S_FR_compare (1404 : Int32) (1404 : Int32) t3_0 t2_0 := (by have h := hS37; rw [S_FR_readsBack_J18.eq_1] at h; replace h := q_s2 h; with_reducible exact h.2.1)
    refine q_goi V (q_runS (As := [.ref (q 151), .ref (q 150)]) (rest := []) (d := 1) (mc := 0) (ms := 0) C0 V rfl LS_FR_73 (X_FR_compare l D g q ws 151 1404 (n_r151 g q) 150 1404 (n_r150 g q)  (by decide) hI t3_0 hT3 t2_0 hT2 ob51 _) rfl hl.1 rfl (Nat.le_of_ble_eq_true rfl) ⟨by decide, by decide⟩ ⟨Nat.le_of_ble_eq_true rfl, Nat.le_of_ble_eq_true rfl⟩ d_17_12_39) (fun a54 u52 H locs hp53 V => ?_)
    obtain ⟨rfl, b55, b56, b57, b58, hE59⟩ := hp53
    have e60 : a54 = (F_FR_compare (1404 : Int32) (1404 : Int32) t3_0 t2_0) := hE59
    replace b55 : q_F (0 ≤ a54.toInt + 1) := b55
    replace b56 : q_F (a54.toInt ≤ 1) := b56
    replace b57 : q_F (a54.toInt ≤ 1404) := b57
    replace b58 : q_F (a54.toInt ≤ 1404) := b58
    refine lv_istore_n (lv' := [(3, .int a54), (2, .int a44), (1, .int lx28), (0, .ref (q 145))]) hx hb d_17_12_42 rfl hl (by decide) rfl (fun ls hl => ?_)
    refine lv_iload_n hx hb d_17_12_43 rfl (lv_at hl 1 rfl) ?_
    refine q_join (X := Unit) (fun z H locs ls _ => q_Wd D g (va_A ws sz) s ws H locs ∧ lv_has ls 4 [(3, .int a54), (1, .int lx28)] ∧ F_FR_readsBack_J55 t0_0 t0_1 t0_2 t0_3 t0_4 t0_5 t0_6 t0_7 t0_8 t0_9 t0_10 t1_0 t2_0 t3_0 lx28 a54 = (F_FR_readsBack t0_0 t0_1 t0_2 t0_3 t0_4 t0_5 t0_6 t0_7 t0_8 t0_9 t0_10 t1_0 t2_0 t3_0) ∧ True ∧ S_FR_readsBack_J55 t0_0 t0_1 t0_2 t0_3 t0_4 t0_5 t0_6 t0_7 t0_8 t0_9 t0_10 t1_0 t2_0 t3_0 lx28 a54) (fun z => []) 55 0 0 ?_ ?_
    ·
      rintro _ H locs ls _ ⟨V, hl, hR66, hS67⟩
      replace hl : lv_has ls 4 [(3, .int a54), (1, .int lx28)] := hl
      refine lv_iload_n hx hb d_17_12_55 rfl (lv_at hl 0 rfl) ?_
      refine lv_if_lt (tgt := 67) hx hb d_17_12_56 (by decide) (fun c71 => ?_) (fun c71 => ?_)
      ·
        have b72 : q_F (a54.toInt < 0) := (q_ltI c71)
        refine lv_iconst (v := 1) hx hb d_17_12_67 (by decide) ?_
        refine lv_goto (tgt := 72) hx hb d_17_12_68 (by decide) ?_
        exact q_retz C0 V (by decide) (⟨rfl, (show 0 ≤ (1 : Int32).toInt from (by have z14 : (1 : Int32).toInt = 1 := rfl; omega)), (show (1 : Int32).toInt ≤ 1 from (by have z14 : (1 : Int32).toInt = 1 := rfl; omega)), (show (1 : Int32) = (F_FR_readsBack t0_0 t0_1 t0_2 t0_3 t0_4 t0_5 t0_6 t0_7 t0_8 t0_9 t0_10 t1_0 t2_0 t3_0) from Eq.trans (by rw [F_FR_readsBack_J55.eq_1, if_pos c71]) hR66)⟩) d_17_12_72
      ·
        have b73 : q_F (0 ≤ a54.toInt) := (q_nltI c71)
        refine lv_iload_n hx hb d_17_12_59 rfl (lv_at hl 0 rfl) ?_
        refine lv_if_ne (tgt := 71) hx hb d_17_12_60 (by decide) (fun c74 => ?_) (fun c74 => ?_)
        ·
          have b75 : q_F (a54.toInt ≠ 0) := (q_neI c74)
          refine lv_iconst (v := 0) hx hb d_17_12_71 (by decide) ?_
          exact q_retz C0 V (by decide) (⟨rfl, (show 0 ≤ (0 : Int32).toInt from (by have z14 : (0 : Int32).toInt = 0 := rfl; omega)), (show (0 : Int32).toInt ≤ 1 from (by have z14 : (0 : Int32).toInt = 0 := rfl; omega)), (show (0 : Int32) = (F_FR_readsBack t0_0 t0_1 t0_2 t0_3 t0_4 t0_5 t0_6 t0_7 t0_8 t0_9 t0_10 t1_0 t2_0 t3_0) from Eq.trans (by rw [F_FR_readsBack_J55.eq_1, if_neg c71, if_neg c74]) hR66)⟩) d_17_12_72
        ·
          have b76 : q_F (a54.toInt = 0) := (q_eqI c74)
          refine lv_iload_n hx hb d_17_12_63 rfl (lv_at hl 1 rfl) ?_
          refine lv_if_eq (tgt := 71) hx hb d_17_12_64 (by decide) (fun c77 => ?_) (fun c77 => ?_)
          ·
            have b78 : q_F (lx28.toInt = 0) := (q_eqI c77)
            refine lv_iconst (v := 0) hx hb d_17_12_71 (by decide) ?_
            exact q_retz C0 V (by decide) (⟨rfl, (show 0 ≤ (0 : Int32).toInt from (by have z14 : (0 : Int32).toInt = 0 := rfl; omega)), (show (0 : Int32).toInt ≤ 1 from (by have z14 : (0 : Int32).toInt = 0 := rfl; omega)), (show (0 : Int32) = (F_FR_readsBack t0_0 t0_1 t0_2 t0_3 t0_4 t0_5 t0_6 t0_7 t0_8 t0_9 t0_10 t1_0 t2_0 t3_0) from Eq.trans (by rw [F_FR_readsBack_J55.eq_1, if_neg c71, if_pos c74, if_pos c77]) hR66)⟩) d_17_12_72
          ·
            have b79 : q_F (lx28.toInt ≠ 0) := (q_neI c77)
            refine lv_iconst (v := 1) hx hb d_17_12_67 (by decide) ?_
            refine lv_goto (tgt := 72) hx hb d_17_12_68 (by decide) ?_
            exact q_retz C0 V (by decide) (⟨rfl, (show 0 ≤ (1 : Int32).toInt from (by have z14 : (1 : Int32).toInt = 1 := rfl; omega)), (show (1 : Int32).toInt ≤ 1 from (by have z14 : (1 : Int32).toInt = 1 := rfl; omega)), (show (1 : Int32) = (F_FR_readsBack t0_0 t0_1 t0_2 t0_3 t0_4 t0_5 t0_6 t0_7 t0_8 t0_9 t0_10 t1_0 t2_0 t3_0) from Eq.trans (by rw [F_FR_readsBack_J55.eq_1, if_neg c71, if_pos c74, if_neg c77]) hR66)⟩) d_17_12_72
    ·
      intro J65
      refine lv_if_gt (tgt := 55) hx hb d_17_12_44 (by decide) (fun c80 => ?_) (fun c80 => ?_)
      ·
        have b81 : q_F (0 < a44.toInt) := (q_ltI c80)
        exact J65 (()) _ _ _ ws ⟨V, q_lw hl (q_lw1 0 rfl (q_lw1 2 rfl q_lw0)), (show F_FR_readsBack_J55 t0_0 t0_1 t0_2 t0_3 t0_4 t0_5 t0_6 t0_7 t0_8 t0_9 t0_10 t1_0 t2_0 t3_0 lx28 a54 = (F_FR_readsBack t0_0 t0_1 t0_2 t0_3 t0_4 t0_5 t0_6 t0_7 t0_8 t0_9 t0_10 t1_0 t2_0 t3_0) from Eq.trans (by have c80x := c80; rw [e50] at c80x; rw [e60, F_FR_readsBack_J18.eq_1, if_pos c80x]) hR36), (show True ∧ S_FR_readsBack_J55 t0_0 t0_1 t0_2 t0_3 t0_4 t0_5 t0_6 t0_7 t0_8 t0_9 t0_10 t1_0 t2_0 t3_0 lx28 a54 from (by rw [e60]; have h := hS37; rw [S_FR_readsBack_J18.eq_1] at h; replace h := q_s2 h; replace h := q_s2 h; have c80x := c80; rw [e50] at c80x; rw [if_pos c80x] at h; with_reducible exact h))⟩
      ·
        have b82 : q_F (a44.toInt ≤ 0) := (q_nltI c80)
        refine lv_iload_n hx hb d_17_12_47 rfl (lv_at hl 1 rfl) ?_
        refine lv_if_ne (tgt := 71) hx hb d_17_12_48 (by decide) (fun c83 => ?_) (fun c83 => ?_)
        ·
          have b84 : q_F (a44.toInt ≠ 0) := (q_neI c83)
          refine lv_iconst (v := 0) hx hb d_17_12_71 (by decide) ?_
          exact q_retz C0 V (by decide) (⟨rfl, (show 0 ≤ (0 : Int32).toInt from (by have z14 : (0 : Int32).toInt = 0 := rfl; omega)), (show (0 : Int32).toInt ≤ 1 from (by have z14 : (0 : Int32).toInt = 0 := rfl; omega)), (show (0 : Int32) = (F_FR_readsBack t0_0 t0_1 t0_2 t0_3 t0_4 t0_5 t0_6 t0_7 t0_8 t0_9 t0_10 t1_0 t2_0 t3_0) from Eq.trans (by have c80x := c80; rw [e50] at c80x; have c83x := c83; rw [e50] at c83x; rw [F_FR_readsBack_J18.eq_1, if_neg c80x, if_neg c83x]) hR36)⟩) d_17_12_72
        ·
          have b85 : q_F (a44.toInt = 0) := (q_eqI c83)
          refine lv_iload_n hx hb d_17_12_51 rfl (lv_at hl 2 rfl) ?_
          refine lv_if_eq (tgt := 71) hx hb d_17_12_52 (by decide) (fun c86 => ?_) (fun c86 => ?_)
          ·
            have b87 : q_F (lx28.toInt = 0) := (q_eqI c86)
            refine lv_iconst (v := 0) hx hb d_17_12_71 (by decide) ?_
            exact q_retz C0 V (by decide) (⟨rfl, (show 0 ≤ (0 : Int32).toInt from (by have z14 : (0 : Int32).toInt = 0 := rfl; omega)), (show (0 : Int32).toInt ≤ 1 from (by have z14 : (0 : Int32).toInt = 0 := rfl; omega)), (show (0 : Int32) = (F_FR_readsBack t0_0 t0_1 t0_2 t0_3 t0_4 t0_5 t0_6 t0_7 t0_8 t0_9 t0_10 t1_0 t2_0 t3_0) from Eq.trans (by have c80x := c80; rw [e50] at c80x; have c83x := c83; rw [e50] at c83x; rw [F_FR_readsBack_J18.eq_1, if_neg c80x, if_pos c83x, if_pos c86]) hR36)⟩) d_17_12_72
          ·
            have b88 : q_F (lx28.toInt ≠ 0) := (q_neI c86)
            exact J65 (()) _ _ _ ws ⟨V, q_lw hl (q_lw1 0 rfl (q_lw1 2 rfl q_lw0)), (show F_FR_readsBack_J55 t0_0 t0_1 t0_2 t0_3 t0_4 t0_5 t0_6 t0_7 t0_8 t0_9 t0_10 t1_0 t2_0 t3_0 lx28 a54 = (F_FR_readsBack t0_0 t0_1 t0_2 t0_3 t0_4 t0_5 t0_6 t0_7 t0_8 t0_9 t0_10 t1_0 t2_0 t3_0) from Eq.trans (by have c80x := c80; rw [e50] at c80x; have c83x := c83; rw [e50] at c83x; rw [e60, F_FR_readsBack_J18.eq_1, if_neg c80x, if_pos c83x, if_neg c86]) hR36), (show True ∧ S_FR_readsBack_J55 t0_0 t0_1 t0_2 t0_3 t0_4 t0_5 t0_6 t0_7 t0_8 t0_9 t0_10 t1_0 t2_0 t3_0 lx28 a54 from (by rw [e60]; have h := hS37; rw [S_FR_readsBack_J18.eq_1] at h; replace h := q_s2 h; replace h := q_s2 h; have c80x := c80; rw [e50] at c80x; rw [if_neg c80x] at h; have c83x := c83; rw [e50] at c83x; rw [if_pos c83x] at h; rw [if_neg c86] at h; with_reducible exact h))⟩
  ·
    intro J33
    refine lv_if_ne (tgt := 17) hx hb d_17_12_10 (by decide) (fun c89 => ?_) (fun c89 => ?_)
    ·
      have b90 : q_F (a25.toInt ≠ 0) := (q_neI c89)
      refine lv_iconst (v := 0) hx hb d_17_12_17 (by decide) ?_
      exact J33 ((0 : Int32)) _ _ _ ws ⟨(show q_F (0 ≤ 0) from (show 0 ≤ 0 from by omega)), (show q_F (0 ≤ 1) from (show 0 ≤ 1 from by omega)), V, q_lw hl (q_lw1 0 rfl q_lw0), (show F_FR_readsBack_J18 t0_0 t0_1 t0_2 t0_3 t0_4 t0_5 t0_6 t0_7 t0_8 t0_9 t0_10 t1_0 t2_0 t3_0 0 = (F_FR_readsBack t0_0 t0_1 t0_2 t0_3 t0_4 t0_5 t0_6 t0_7 t0_8 t0_9 t0_10 t1_0 t2_0 t3_0) from (by have c89x := c89; rw [← e26, ← e24] at c89x; rw [F_FR_readsBack.eq_1, if_neg c89x])), (show True ∧ S_FR_readsBack_J18 t0_0 t0_1 t0_2 t0_3 t0_4 t0_5 t0_6 t0_7 t0_8 t0_9 t0_10 t1_0 t2_0 t3_0 0 from (by have h := hS; rw [S_FR_readsBack.eq_1] at h; have c89x := c89; rw [← e26, ← e24] at c89x; rw [if_neg c89x] at h; with_reducible exact h))⟩
    ·
      have b91 : q_F (a25.toInt = 0) := (q_eqI c89)
      refine lv_iconst (v := 1) hx hb d_17_12_13 (by decide) ?_
      refine lv_goto (tgt := 18) hx hb d_17_12_14 (by decide) ?_
      exact J33 ((1 : Int32)) _ _ _ ws ⟨(show q_F (0 ≤ 1) from (show 0 ≤ 1 from by omega)), (show q_F (1 ≤ 1) from (show 1 ≤ 1 from by omega)), V, q_lw hl (q_lw1 0 rfl q_lw0), (show F_FR_readsBack_J18 t0_0 t0_1 t0_2 t0_3 t0_4 t0_5 t0_6 t0_7 t0_8 t0_9 t0_10 t1_0 t2_0 t3_0 1 = (F_FR_readsBack t0_0 t0_1 t0_2 t0_3 t0_4 t0_5 t0_6 t0_7 t0_8 t0_9 t0_10 t1_0 t2_0 t3_0) from (by have c89x := c89; rw [← e26, ← e24] at c89x; rw [F_FR_readsBack.eq_1, if_pos c89x])), (show True ∧ S_FR_readsBack_J18 t0_0 t0_1 t0_2 t0_3 t0_4 t0_5 t0_6 t0_7 t0_8 t0_9 t0_10 t1_0 t2_0 t3_0 1 from (by have h := hS; rw [S_FR_readsBack.eq_1] at h; have c89x := c89; rw [← e26, ← e24] at c89x; rw [if_pos c89x] at h; with_reducible exact h))⟩
theorem d_17_14_0 : decode prog_17_method_14_code 0 = .ok (.aload_n 0, 1) := by decide +kernel
theorem d_17_14_1 : decode prog_17_method_14_code 1 = .ok (.invokevirtual 77, 3) := by decide +kernel
set_option maxRecDepth 100000 in
theorem w_2623 : (Cond.code ({ cls := "NumberHouseModel$FloatRows", name := "top", desc := "()I" } : MethodName) prog_17_method_9_code (2 : Nat) (some .int)) ∈ q_tbl := q_of11 223 rfl (by decide +kernel)
set_option maxRecDepth 100000 in
theorem w_2620 : (Cond.methodLink "NumberHouseModel$FloatRows" (77 : Nat) ({ cls := "NumberHouseModel$FloatRows", name := "top", desc := "()I" } : MethodName)) ∈ q_tbl := q_of11 220 rfl (by decide +kernel)
set_option maxRecDepth 100000 in
theorem w_2622 : (Cond.instanceMethod ({ cls := "NumberHouseModel$FloatRows", name := "top", desc := "()I" } : MethodName)) ∈ q_tbl := q_of11 222 rfl (by decide +kernel)
theorem ws_96 : Cond.selects "NumberHouseModel$FloatRows" (⟨"NumberHouseModel$FloatRows", "top", "()I"⟩ : MethodName) (⟨"NumberHouseModel$FloatRows", "top", "()I"⟩ : MethodName) ∈ q_tbl := q_ofs 96 (by decide +kernel) (by decide +kernel)
theorem LV_FR_77 : q_LV "NumberHouseModel$FloatRows" 77 y_FR_top prog_17_method_9_code 2 (some .int) 0 := ⟨w_2623, w_17, w_2620, w_2622, ws_96, ⟨by decide, by decide, by decide +kernel⟩⟩
theorem d_17_14_4 : decode prog_17_method_14_code 4 = .ok (.istore_n 1, 1) := by decide +kernel
theorem d_17_14_5 : decode prog_17_method_14_code 5 = .ok (.iconst 1, 1) := by decide +kernel
theorem d_17_14_6 : decode prog_17_method_14_code 6 = .ok (.istore_n 2, 1) := by decide +kernel
theorem d_17_14_7 : decode prog_17_method_14_code 7 = .ok (.iload_n 2, 1) := by decide +kernel
theorem d_17_14_8 : decode prog_17_method_14_code 8 = .ok (.bipush 17, 2) := by decide +kernel
theorem d_17_14_10 : decode prog_17_method_14_code 10 = .ok (.if_icmp .ge 47, 3) := by decide +kernel
theorem d_17_14_57 : decode prog_17_method_14_code 57 = .ok (.bipush 17, 2) := by decide +kernel
theorem d_17_14_59 : decode prog_17_method_14_code 59 = .ok (.ireturn, 1) := by decide +kernel
theorem d_17_14_13 : decode prog_17_method_14_code 13 = .ok (.aload_n 0, 1) := by decide +kernel
theorem d_17_14_14 : decode prog_17_method_14_code 14 = .ok (.iload_n 1, 1) := by decide +kernel
theorem d_17_14_15 : decode prog_17_method_14_code 15 = .ok (.iload_n 2, 1) := by decide +kernel
theorem d_17_14_16 : decode prog_17_method_14_code 16 = .ok (.isub, 1) := by decide +kernel
theorem d_17_14_17 : decode prog_17_method_14_code 17 = .ok (.iconst 1, 1) := by decide +kernel
theorem d_17_14_18 : decode prog_17_method_14_code 18 = .ok (.iadd, 1) := by decide +kernel
theorem d_17_14_19 : decode prog_17_method_14_code 19 = .ok (.iconst 0, 1) := by decide +kernel
theorem d_17_14_20 : decode prog_17_method_14_code 20 = .ok (.invokevirtual 81, 3) := by decide +kernel
set_option maxRecDepth 100000 in
theorem w_2627 : (Cond.code ({ cls := "NumberHouseModel$FloatRows", name := "cut", desc := "(IZ)V" } : MethodName) prog_17_method_11_code (5 : Nat) (none : Option ClassFile.FieldType)) ∈ q_tbl := q_of11 227 rfl (by decide +kernel)
set_option maxRecDepth 100000 in
theorem w_2624 : (Cond.methodLink "NumberHouseModel$FloatRows" (81 : Nat) ({ cls := "NumberHouseModel$FloatRows", name := "cut", desc := "(IZ)V" } : MethodName)) ∈ q_tbl := q_of11 224 rfl (by decide +kernel)
set_option maxRecDepth 100000 in
theorem w_2626 : (Cond.instanceMethod ({ cls := "NumberHouseModel$FloatRows", name := "cut", desc := "(IZ)V" } : MethodName)) ∈ q_tbl := q_of11 226 rfl (by decide +kernel)
theorem ws_97 : Cond.selects "NumberHouseModel$FloatRows" (⟨"NumberHouseModel$FloatRows", "cut", "(IZ)V"⟩ : MethodName) (⟨"NumberHouseModel$FloatRows", "cut", "(IZ)V"⟩ : MethodName) ∈ q_tbl := q_ofs 97 (by decide +kernel) (by decide +kernel)
theorem LV_FR_81 : q_LV "NumberHouseModel$FloatRows" 81 y_FR_cut prog_17_method_11_code 5 none 2 := ⟨w_2627, w_17, w_2624, w_2626, ws_97, ⟨by decide, by decide, by decide +kernel⟩⟩
theorem d_17_14_23 : decode prog_17_method_14_code 23 = .ok (.aload_n 0, 1) := by decide +kernel
theorem d_17_14_24 : decode prog_17_method_14_code 24 = .ok (.invokevirtual 85, 3) := by decide +kernel
set_option maxRecDepth 100000 in
theorem w_2631 : (Cond.code ({ cls := "NumberHouseModel$FloatRows", name := "readsBack", desc := "()Z" } : MethodName) prog_17_method_12_code (4 : Nat) (some .boolean)) ∈ q_tbl := q_of11 231 rfl (by decide +kernel)
set_option maxRecDepth 100000 in
theorem w_2628 : (Cond.methodLink "NumberHouseModel$FloatRows" (85 : Nat) ({ cls := "NumberHouseModel$FloatRows", name := "readsBack", desc := "()Z" } : MethodName)) ∈ q_tbl := q_of11 228 rfl (by decide +kernel)
set_option maxRecDepth 100000 in
theorem w_2630 : (Cond.instanceMethod ({ cls := "NumberHouseModel$FloatRows", name := "readsBack", desc := "()Z" } : MethodName)) ∈ q_tbl := q_of11 230 rfl (by decide +kernel)
theorem ws_98 : Cond.selects "NumberHouseModel$FloatRows" (⟨"NumberHouseModel$FloatRows", "readsBack", "()Z"⟩ : MethodName) (⟨"NumberHouseModel$FloatRows", "readsBack", "()Z"⟩ : MethodName) ∈ q_tbl := q_ofs 98 (by decide +kernel) (by decide +kernel)
theorem LV_FR_85 : q_LV "NumberHouseModel$FloatRows" 85 y_FR_readsBack prog_17_method_12_code 4 (some .boolean) 0 := ⟨w_2631, w_17, w_2628, w_2630, ws_98, ⟨by decide, by decide, by decide +kernel⟩⟩
theorem d_17_14_27 : decode prog_17_method_14_code 27 = .ok (.istore_n 3, 1) := by decide +kernel
theorem d_17_14_28 : decode prog_17_method_14_code 28 = .ok (.aload_n 0, 1) := by decide +kernel
theorem d_17_14_29 : decode prog_17_method_14_code 29 = .ok (.iload_n 1, 1) := by decide +kernel
theorem d_17_14_30 : decode prog_17_method_14_code 30 = .ok (.iload_n 2, 1) := by decide +kernel
theorem d_17_14_31 : decode prog_17_method_14_code 31 = .ok (.isub, 1) := by decide +kernel
theorem d_17_14_32 : decode prog_17_method_14_code 32 = .ok (.iconst 1, 1) := by decide +kernel
theorem d_17_14_33 : decode prog_17_method_14_code 33 = .ok (.iadd, 1) := by decide +kernel
theorem d_17_14_34 : decode prog_17_method_14_code 34 = .ok (.iconst 1, 1) := by decide +kernel
theorem d_17_14_35 : decode prog_17_method_14_code 35 = .ok (.invokevirtual 81, 3) := by decide +kernel
theorem d_17_14_38 : decode prog_17_method_14_code 38 = .ok (.iload_n 3, 1) := by decide +kernel
theorem d_17_14_39 : decode prog_17_method_14_code 39 = .ok (.ifCond .ne 10, 3) := by decide +kernel
theorem d_17_14_49 : decode prog_17_method_14_code 49 = .ok (.iload_n 2, 1) := by decide +kernel
theorem d_17_14_50 : decode prog_17_method_14_code 50 = .ok (.ireturn, 1) := by decide +kernel
theorem d_17_14_42 : decode prog_17_method_14_code 42 = .ok (.aload_n 0, 1) := by decide +kernel
theorem d_17_14_43 : decode prog_17_method_14_code 43 = .ok (.invokevirtual 85, 3) := by decide +kernel
theorem d_17_14_46 : decode prog_17_method_14_code 46 = .ok (.ifCond .eq 5, 3) := by decide +kernel
theorem d_17_14_51 : decode prog_17_method_14_code 51 = .ok (.iinc 2 1, 3) := by decide +kernel
theorem d_17_14_54 : decode prog_17_method_14_code 54 = .ok (.goto (-47), 3) := by decide +kernel
def y_FR_leastLength : MethodName := ⟨"NumberHouseModel$FloatRows", "leastLength", "()I"⟩
def F_FR_leastLength_L7 (t0_0 : Int32) (t0_1 : Int32) (t0_2 : Int32) (t0_3 : Int32) (t0_4 : Int64) (t0_5 : Int32) (t0_6 : Int32) (t0_7 : Int64) (t0_8 : Int32) (t0_9 : Int64) (t0_10 : Int32) (t1_0 : (Nat → Int32)) (t2_0 : (Nat → Int32)) (t3_0 : (Nat → Int32)) (t4_0 : (Nat → Int32)) (a29 : Int32) : Nat → Int32 → (Nat → Int32) → (Int32 × (Nat → Int32))
  | 0, _, _ => default
  | fm + 1, lx35, lx36 => if (17 : Int32) ≤ lx35 then (((17 : Int32), lx36)) else (if ((F_FR_readsBack t0_0 t0_1 t0_2 t0_3 t0_4 t0_5 t0_6 t0_7 t0_8 t0_9 t0_10 t2_0 t3_0 ((F_FR_cut ((a29 - lx35 : Int32) + 1 : Int32) (0 : Int32) t0_0 t0_1 t0_2 t0_3 t0_4 t0_5 t0_6 t0_7 t0_8 t0_9 t0_10 t1_0 lx36) : (Nat → Int32))) : Int32) = (0 : Int32) then (if ((F_FR_readsBack t0_0 t0_1 t0_2 t0_3 t0_4 t0_5 t0_6 t0_7 t0_8 t0_9 t0_10 t2_0 t3_0 ((F_FR_cut ((a29 - lx35 : Int32) + 1 : Int32) (1 : Int32) t0_0 t0_1 t0_2 t0_3 t0_4 t0_5 t0_6 t0_7 t0_8 t0_9 t0_10 t1_0 ((F_FR_cut ((a29 - lx35 : Int32) + 1 : Int32) (0 : Int32) t0_0 t0_1 t0_2 t0_3 t0_4 t0_5 t0_6 t0_7 t0_8 t0_9 t0_10 t1_0 lx36) : (Nat → Int32))) : (Nat → Int32))) : Int32) = (0 : Int32) then (F_FR_leastLength_L7 t0_0 t0_1 t0_2 t0_3 t0_4 t0_5 t0_6 t0_7 t0_8 t0_9 t0_10 t1_0 t2_0 t3_0 t4_0 a29 fm (lx35 + 1 : Int32) ((F_FR_cut ((a29 - lx35 : Int32) + 1 : Int32) (1 : Int32) t0_0 t0_1 t0_2 t0_3 t0_4 t0_5 t0_6 t0_7 t0_8 t0_9 t0_10 t1_0 ((F_FR_cut ((a29 - lx35 : Int32) + 1 : Int32) (0 : Int32) t0_0 t0_1 t0_2 t0_3 t0_4 t0_5 t0_6 t0_7 t0_8 t0_9 t0_10 t1_0 lx36) : (Nat → Int32))) : (Nat → Int32))) else ((lx35, ((F_FR_cut ((a29 - lx35 : Int32) + 1 : Int32) (1 : Int32) t0_0 t0_1 t0_2 t0_3 t0_4 t0_5 t0_6 t0_7 t0_8 t0_9 t0_10 t1_0 ((F_FR_cut ((a29 - lx35 : Int32) + 1 : Int32) (0 : Int32) t0_0 t0_1 t0_2 t0_3 t0_4 t0_5 t0_6 t0_7 t0_8 t0_9 t0_10 t1_0 lx36) : (Nat → Int32))) : (Nat → Int32))))) else ((lx35, ((F_FR_cut ((a29 - lx35 : Int32) + 1 : Int32) (1 : Int32) t0_0 t0_1 t0_2 t0_3 t0_4 t0_5 t0_6 t0_7 t0_8 t0_9 t0_10 t1_0 ((F_FR_cut ((a29 - lx35 : Int32) + 1 : Int32) (0 : Int32) t0_0 t0_1 t0_2 t0_3 t0_4 t0_5 t0_6 t0_7 t0_8 t0_9 t0_10 t1_0 lx36) : (Nat → Int32))) : (Nat → Int32)))))
def F_FR_leastLength (t0_0 : Int32) (t0_1 : Int32) (t0_2 : Int32) (t0_3 : Int32) (t0_4 : Int64) (t0_5 : Int32) (t0_6 : Int32) (t0_7 : Int64) (t0_8 : Int32) (t0_9 : Int64) (t0_10 : Int32) (t1_0 : (Nat → Int32)) (t2_0 : (Nat → Int32)) (t3_0 : (Nat → Int32)) (t4_0 : (Nat → Int32)) : Int32 × (Nat → Int32) := F_FR_leastLength_L7 t0_0 t0_1 t0_2 t0_3 t0_4 t0_5 t0_6 t0_7 t0_8 t0_9 t0_10 t1_0 t2_0 t3_0 t4_0 ((F_FR_top t0_0 t0_1 t0_2 t0_3 t0_4 t0_5 t0_6 t0_7 t0_8 t0_9 t0_10 t1_0) : Int32) ((17 - (1 : Int32).toInt).toNat + 1) 1 t4_0
def S_FR_leastLength_L7 (t0_0 : Int32) (t0_1 : Int32) (t0_2 : Int32) (t0_3 : Int32) (t0_4 : Int64) (t0_5 : Int32) (t0_6 : Int32) (t0_7 : Int64) (t0_8 : Int32) (t0_9 : Int64) (t0_10 : Int32) (t1_0 : (Nat → Int32)) (t2_0 : (Nat → Int32)) (t3_0 : (Nat → Int32)) (t4_0 : (Nat → Int32)) (a29 : Int32) : Nat → Int32 → (Nat → Int32) → Prop
  | 0, _, _ => False
  | fm + 1, lx35, lx36 => if (17 : Int32) ≤ lx35 then (True) else ((True ∧ S_FR_cut ((a29 - lx35 : Int32) + 1 : Int32) (0 : Int32) t0_0 t0_1 t0_2 t0_3 t0_4 t0_5 t0_6 t0_7 t0_8 t0_9 t0_10 t1_0 lx36) ∧ ((True ∧ S_FR_readsBack t0_0 t0_1 t0_2 t0_3 t0_4 t0_5 t0_6 t0_7 t0_8 t0_9 t0_10 t2_0 t3_0 ((F_FR_cut ((a29 - lx35 : Int32) + 1 : Int32) (0 : Int32) t0_0 t0_1 t0_2 t0_3 t0_4 t0_5 t0_6 t0_7 t0_8 t0_9 t0_10 t1_0 lx36) : (Nat → Int32))) ∧ ((True ∧ S_FR_cut ((a29 - lx35 : Int32) + 1 : Int32) (1 : Int32) t0_0 t0_1 t0_2 t0_3 t0_4 t0_5 t0_6 t0_7 t0_8 t0_9 t0_10 t1_0 ((F_FR_cut ((a29 - lx35 : Int32) + 1 : Int32) (0 : Int32) t0_0 t0_1 t0_2 t0_3 t0_4 t0_5 t0_6 t0_7 t0_8 t0_9 t0_10 t1_0 lx36) : (Nat → Int32))) ∧ (if ((F_FR_readsBack t0_0 t0_1 t0_2 t0_3 t0_4 t0_5 t0_6 t0_7 t0_8 t0_9 t0_10 t2_0 t3_0 ((F_FR_cut ((a29 - lx35 : Int32) + 1 : Int32) (0 : Int32) t0_0 t0_1 t0_2 t0_3 t0_4 t0_5 t0_6 t0_7 t0_8 t0_9 t0_10 t1_0 lx36) : (Nat → Int32))) : Int32) = (0 : Int32) then ((True ∧ S_FR_readsBack t0_0 t0_1 t0_2 t0_3 t0_4 t0_5 t0_6 t0_7 t0_8 t0_9 t0_10 t2_0 t3_0 ((F_FR_cut ((a29 - lx35 : Int32) + 1 : Int32) (1 : Int32) t0_0 t0_1 t0_2 t0_3 t0_4 t0_5 t0_6 t0_7 t0_8 t0_9 t0_10 t1_0 ((F_FR_cut ((a29 - lx35 : Int32) + 1 : Int32) (0 : Int32) t0_0 t0_1 t0_2 t0_3 t0_4 t0_5 t0_6 t0_7 t0_8 t0_9 t0_10 t1_0 lx36) : (Nat → Int32))) : (Nat → Int32))) ∧ (if ((F_FR_readsBack t0_0 t0_1 t0_2 t0_3 t0_4 t0_5 t0_6 t0_7 t0_8 t0_9 t0_10 t2_0 t3_0 ((F_FR_cut ((a29 - lx35 : Int32) + 1 : Int32) (1 : Int32) t0_0 t0_1 t0_2 t0_3 t0_4 t0_5 t0_6 t0_7 t0_8 t0_9 t0_10 t1_0 ((F_FR_cut ((a29 - lx35 : Int32) + 1 : Int32) (0 : Int32) t0_0 t0_1 t0_2 t0_3 t0_4 t0_5 t0_6 t0_7 t0_8 t0_9 t0_10 t1_0 lx36) : (Nat → Int32))) : (Nat → Int32))) : Int32) = (0 : Int32) then (S_FR_leastLength_L7 t0_0 t0_1 t0_2 t0_3 t0_4 t0_5 t0_6 t0_7 t0_8 t0_9 t0_10 t1_0 t2_0 t3_0 t4_0 a29 fm (lx35 + 1 : Int32) ((F_FR_cut ((a29 - lx35 : Int32) + 1 : Int32) (1 : Int32) t0_0 t0_1 t0_2 t0_3 t0_4 t0_5 t0_6 t0_7 t0_8 t0_9 t0_10 t1_0 ((F_FR_cut ((a29 - lx35 : Int32) + 1 : Int32) (0 : Int32) t0_0 t0_1 t0_2 t0_3 t0_4 t0_5 t0_6 t0_7 t0_8 t0_9 t0_10 t1_0 lx36) : (Nat → Int32))) : (Nat → Int32))) else (True))) else (True)))))
def S_FR_leastLength (t0_0 : Int32) (t0_1 : Int32) (t0_2 : Int32) (t0_3 : Int32) (t0_4 : Int64) (t0_5 : Int32) (t0_6 : Int32) (t0_7 : Int64) (t0_8 : Int32) (t0_9 : Int64) (t0_10 : Int32) (t1_0 : (Nat → Int32)) (t2_0 : (Nat → Int32)) (t3_0 : (Nat → Int32)) (t4_0 : (Nat → Int32)) : Prop := (True ∧ S_FR_top t0_0 t0_1 t0_2 t0_3 t0_4 t0_5 t0_6 t0_7 t0_8 t0_9 t0_10 t1_0) ∧ (S_FR_leastLength_L7 t0_0 t0_1 t0_2 t0_3 t0_4 t0_5 t0_6 t0_7 t0_8 t0_9 t0_10 t1_0 t2_0 t3_0 t4_0 ((F_FR_top t0_0 t0_1 t0_2 t0_3 t0_4 t0_5 t0_6 t0_7 t0_8 t0_9 t0_10 t1_0) : Int32) ((17 - (1 : Int32).toInt).toNat + 1) 1 t4_0)
set_option maxRecDepth 100000 in
set_option maxHeartbeats 4000000 in
theorem X_FR_leastLength (l : Launch) (D : va_G) (g : Nat → ClassId) (q : Nat → Nat) (ws : va_W) (hI : q_I (msh g q) q ws) (t0_0 : Int32) (t0_1 : Int32) (t0_2 : Int32) (t0_3 : Int32) (t0_4 : Int64) (t0_5 : Int32) (t0_6 : Int32) (t0_7 : Int64) (t0_8 : Int32) (t0_9 : Int64) (t0_10 : Int32) (hT0 : ws[145]? = (some (q 145, .inr (15, [.int t0_0, .ref (q 146), .ref (q 147), .ref (q 148), .ref (q 149), .ref (q 150), .ref (q 151), .ref (q 152), .int t0_1, .int t0_2, .int t0_3, .long t0_4, .int t0_5, .int t0_6, .long t0_7, .int t0_8, .long t0_9, .int t0_10])) : Option (Nat × va_E))) (t1_0 : (Nat → Int32)) (hT1 : ws[148]? = (some (q 148, .inl (g 0, (1404 : Int32).toNatClampNeg, .inl t1_0)) : Option (Nat × va_E))) (t2_0 : (Nat → Int32)) (hT2 : ws[149]? = (some (q 149, .inl (g 0, (1404 : Int32).toNatClampNeg, .inl t2_0)) : Option (Nat × va_E))) (t3_0 : (Nat → Int32)) (hT3 : ws[150]? = (some (q 150, .inl (g 0, (1404 : Int32).toNatClampNeg, .inl t3_0)) : Option (Nat × va_E))) (t4_0 : (Nat → Int32)) (hT4 : ws[151]? = (some (q 151, .inl (g 0, (1404 : Int32).toNatClampNeg, .inl t4_0)) : Option (Nat × va_E))) (hS : True ∧ S_FR_leastLength t0_0 t0_1 t0_2 t0_3 t0_4 t0_5 t0_6 t0_7 t0_8 t0_9 t0_10 t1_0 t2_0 t3_0 t4_0) : q_mI l y_FR_leastLength prog_17_method_14_code 4 (.int) 3 0 0 D g [.ref (q 145)] ws (fun r u => q_I (msh g q) q u ∧ q_un ws u [151] ∧ ∃ (u4_0 : (Nat → Int32)), u[151]? = (some (q 151, .inl (g 0, (1404 : Int32).toNatClampNeg, .inl u4_0)) : Option (Nat × va_E)) ∧ (1 ≤ r.toInt) ∧ (r.toInt ≤ 17) ∧ (r, u4_0) = (F_FR_leastLength t0_0 t0_1 t0_2 t0_3 t0_4 t0_5 t0_6 t0_7 t0_8 t0_9 t0_10 t1_0 t2_0 t3_0 t4_0)) := by
  intro sz
  refine q_into (by decide) (Nat.le_of_ble_eq_true rfl) ?_
  intro p e s m below meth c ls hsz C0 V hl
  have hx := C0.1
  have hb := C0.2.1
  obtain ⟨yy0_0, yy0_1, yy0_2, yy0_3, yy0_4, yy0_5, yy0_6, yy0_7, yy0_8, yy0_9, yy0_10, hh0, btt0_2⟩ := n_o145 hI
  obtain ⟨rfl, rfl, rfl, rfl, rfl, rfl, rfl, rfl, rfl, rfl, rfl⟩ : t0_0 = yy0_0 ∧ t0_1 = yy0_1 ∧ t0_2 = yy0_2 ∧ t0_3 = yy0_3 ∧ t0_4 = yy0_4 ∧ t0_5 = yy0_5 ∧ t0_6 = yy0_6 ∧ t0_7 = yy0_7 ∧ t0_8 = yy0_8 ∧ t0_9 = yy0_9 ∧ t0_10 = yy0_10 := by have z := Option.some.inj (hT0.symm.trans hh0); simpa using z
  replace btt0_2 : q_F (0 ≤ t0_2.toInt ∧ t0_2.toInt ≤ 1) := btt0_2
  have hF : q_un ws ws [151] := q_u0
  have hl : lv_has ls 4 [(0, .ref (q 145))] := hl
  refine lv_aload_n hx hb d_17_14_0 rfl (lv_at hl 0 rfl) ?_
  have ob26 : True ∧ S_FR_top t0_0 t0_1 t0_2 t0_3 t0_4 t0_5 t0_6 t0_7 t0_8 t0_9 t0_10 t1_0 := (by have h := hS; rw [S_FR_leastLength.eq_1] at h; with_reducible exact h.2.1)
  refine q_goi V (q_runV (As := []) (rest := []) (d := 1) (mc := 0) (ms := 0) (ci := 15) C0 V rfl LV_FR_77 (X_FR_top l D g q ws   hI t0_0 t0_1 t0_2 t0_3 t0_4 t0_5 t0_6 t0_7 t0_8 t0_9 t0_10 hT0 t1_0 hT1 ob26 _) rfl rfl hT0 rfl hl.1 rfl (Nat.le_of_ble_eq_true rfl) ⟨by decide, by decide⟩ ⟨Nat.le_of_ble_eq_true rfl, Nat.le_of_ble_eq_true rfl⟩ d_17_14_1) (fun a29 u27 H locs hp28 V => ?_)
  obtain ⟨rfl, b30, b31, hE32⟩ := hp28
  have e33 : a29 = (F_FR_top t0_0 t0_1 t0_2 t0_3 t0_4 t0_5 t0_6 t0_7 t0_8 t0_9 t0_10 t1_0) := hE32
  replace b30 : q_F (0 ≤ a29.toInt) := b30
  replace b31 : q_F (a29.toInt ≤ 1403) := b31
  refine lv_istore_n (lv' := [(1, .int a29), (0, .ref (q 145))]) hx hb d_17_14_4 rfl hl (by decide) rfl (fun ls hl => ?_)
  refine lv_iconst (v := 1) hx hb d_17_14_5 (by decide) ?_
  refine lv_istore_n (lv' := [(2, .int 1), (1, .int a29), (0, .ref (q 145))]) hx hb d_17_14_6 rfl hl (by decide) rfl (fun ls hl => ?_)
  refine q_loop (X := Int32 × (Nat → Int32)) (fun z H locs ls w40 => q_F (1 ≤ z.1.toInt) ∧ q_F (z.1.toInt ≤ 17) ∧ q_Wd D g (va_A ws sz) s w40 H locs ∧ lv_has ls 4 [(2, .int z.1), (1, .int a29), (0, .ref (q 145))] ∧ q_I (msh g q) q w40 ∧ q_un ws w40 [151] ∧ w40[145]? = (some (q 145, .inr (15, [.int t0_0, .ref (q 146), .ref (q 147), .ref (q 148), .ref (q 149), .ref (q 150), .ref (q 151), .ref (q 152), .int t0_1, .int t0_2, .int t0_3, .long t0_4, .int t0_5, .int t0_6, .long t0_7, .int t0_8, .long t0_9, .int t0_10])) : Option (Nat × va_E)) ∧ w40[148]? = (some (q 148, .inl (g 0, (1404 : Int32).toNatClampNeg, .inl t1_0)) : Option (Nat × va_E)) ∧ w40[149]? = (some (q 149, .inl (g 0, (1404 : Int32).toNatClampNeg, .inl t2_0)) : Option (Nat × va_E)) ∧ w40[150]? = (some (q 150, .inl (g 0, (1404 : Int32).toNatClampNeg, .inl t3_0)) : Option (Nat × va_E)) ∧ w40[151]? = (some (q 151, .inl (g 0, (1404 : Int32).toNatClampNeg, .inl z.2)) : Option (Nat × va_E)) ∧ (∃ n, (17 - z.1.toInt).toNat < n ∧ F_FR_leastLength_L7 t0_0 t0_1 t0_2 t0_3 t0_4 t0_5 t0_6 t0_7 t0_8 t0_9 t0_10 t1_0 t2_0 t3_0 t4_0 a29 n z.1 z.2 = (F_FR_leastLength t0_0 t0_1 t0_2 t0_3 t0_4 t0_5 t0_6 t0_7 t0_8 t0_9 t0_10 t1_0 t2_0 t3_0 t4_0) ∧ True ∧ S_FR_leastLength_L7 t0_0 t0_1 t0_2 t0_3 t0_4 t0_5 t0_6 t0_7 t0_8 t0_9 t0_10 t1_0 t2_0 t3_0 t4_0 a29 n z.1 z.2)) (fun z => (17 - z.1.toInt).toNat) ?_ ((1 : Int32), (t4_0 : (Nat → Int32))) _ _ _ ws ⟨(show q_F (1 ≤ 1) from (show 1 ≤ 1 from by omega)), (show q_F (1 ≤ 17) from (show 1 ≤ 17 from by omega)), V, q_lw hl (q_lw1 0 rfl (q_lw1 1 rfl (q_lw1 2 rfl q_lw0))), hI, hF, hT0, hT1, hT2, hT3, hT4, ⟨((17 - (1 : Int32).toInt).toNat + 1), Nat.lt_succ_self _, (show F_FR_leastLength_L7 t0_0 t0_1 t0_2 t0_3 t0_4 t0_5 t0_6 t0_7 t0_8 t0_9 t0_10 t1_0 t2_0 t3_0 t4_0 a29 ((17 - (1 : Int32).toInt).toNat + 1) 1 t4_0 = (F_FR_leastLength t0_0 t0_1 t0_2 t0_3 t0_4 t0_5 t0_6 t0_7 t0_8 t0_9 t0_10 t1_0 t2_0 t3_0 t4_0) from (by rw [e33, F_FR_leastLength.eq_1])), (show True ∧ S_FR_leastLength_L7 t0_0 t0_1 t0_2 t0_3 t0_4 t0_5 t0_6 t0_7 t0_8 t0_9 t0_10 t1_0 t2_0 t3_0 t4_0 a29 ((17 - (1 : Int32).toInt).toNat + 1) 1 t4_0 from (by rw [e33]; have h := hS; rw [S_FR_leastLength.eq_1] at h; replace h := q_s2 h; with_reducible exact h))⟩⟩
  rintro ⟨lx35, lx36⟩ H locs ls w40 ⟨i37, i38, V, hl, hI, hF, hO41, hO42, hO43, hO44, hO45, ⟨fu48, hf49, hR46, hS47⟩⟩ ih39
  obtain ⟨fm50, rfl⟩ : ∃ m, fu48 = m + 1 := ⟨fu48 - 1, by omega⟩
  replace i37 : q_F (1 ≤ lx35.toInt) := i37
  replace i38 : q_F (lx35.toInt ≤ 17) := i38
  replace hl : lv_has ls 4 [(2, .int lx35), (1, .int a29), (0, .ref (q 145))] := hl
  replace hO41 : w40[145]? = (some (q 145, .inr (15, [.int t0_0, .ref (q 146), .ref (q 147), .ref (q 148), .ref (q 149), .ref (q 150), .ref (q 151), .ref (q 152), .int t0_1, .int t0_2, .int t0_3, .long t0_4, .int t0_5, .int t0_6, .long t0_7, .int t0_8, .long t0_9, .int t0_10])) : Option (Nat × va_E)) := hO41
  replace hO42 : w40[148]? = (some (q 148, .inl (g 0, (1404 : Int32).toNatClampNeg, .inl t1_0)) : Option (Nat × va_E)) := hO42
  replace hO43 : w40[149]? = (some (q 149, .inl (g 0, (1404 : Int32).toNatClampNeg, .inl t2_0)) : Option (Nat × va_E)) := hO43
  replace hO44 : w40[150]? = (some (q 150, .inl (g 0, (1404 : Int32).toNatClampNeg, .inl t3_0)) : Option (Nat × va_E)) := hO44
  replace hO45 : w40[151]? = (some (q 151, .inl (g 0, (1404 : Int32).toNatClampNeg, .inl lx36)) : Option (Nat × va_E)) := hO45
  refine lv_iload_n hx hb d_17_14_7 rfl (lv_at hl 0 rfl) ?_
  refine lv_bipush (v := 17) hx hb d_17_14_8 (by decide) ?_
  refine lv_icmp_ge (tgt := 57) hx hb d_17_14_10 (by decide) (fun c51 => ?_) (fun c51 => ?_)
  ·
    have b52 : q_F (17 ≤ lx35.toInt) := (q_leI c51)
    refine lv_bipush (v := 17) hx hb d_17_14_57 (by decide) ?_
    exact q_reti C0 V (⟨hI, hF, lx36, hO45, (show 1 ≤ (17 : Int32).toInt from (by have z15 : (17 : Int32).toInt = 17 := rfl; omega)), (show (17 : Int32).toInt ≤ 17 from (by have z15 : (17 : Int32).toInt = 17 := rfl; omega)), (show ((17 : Int32), lx36) = (F_FR_leastLength t0_0 t0_1 t0_2 t0_3 t0_4 t0_5 t0_6 t0_7 t0_8 t0_9 t0_10 t1_0 t2_0 t3_0 t4_0) from Eq.trans (by rw [F_FR_leastLength_L7.eq_2, if_pos c51]) hR46)⟩) d_17_14_59
  ·
    have b53 : q_F (lx35.toInt < 17) := (q_nleI c51)
    refine lv_aload_n hx hb d_17_14_13 rfl (lv_at hl 2 rfl) ?_
    refine lv_iload_n hx hb d_17_14_14 rfl (lv_at hl 1 rfl) ?_
    refine lv_iload_n hx hb d_17_14_15 rfl (lv_at hl 0 rfl) ?_
    refine lv_isub hx hb d_17_14_16 ?_
    obtain ⟨a54, e55⟩ := q_nm (a29 - lx35 : Int32)
    refine q_ti (v := a54) e55 ?_
    have b56 : q_F (a54.toInt = a29.toInt - lx35.toInt) := (by rw [← e55]; show (a29 - lx35 : Int32).toInt = a29.toInt - lx35.toInt; exact q_subI (x := a29.toInt) (y := lx35.toInt) rfl rfl (by have t1 : 0 ≤ a29.toInt := b30; have t2 : lx35.toInt ≤ 17 := i38; have t3 : a29.toInt ≤ 1403 := b31; have t4 : 1 ≤ lx35.toInt := i37; omega) (by have t1 : 0 ≤ a29.toInt := b30; have t2 : lx35.toInt ≤ 17 := i38; have t3 : a29.toInt ≤ 1403 := b31; have t4 : 1 ≤ lx35.toInt := i37; omega))
    refine lv_iconst (v := 1) hx hb d_17_14_17 (by decide) ?_
    refine lv_iadd hx hb d_17_14_18 ?_
    obtain ⟨a57, e58⟩ := q_nm (a54 + 1 : Int32)
    refine q_ti (v := a57) e58 ?_
    have b59 : q_F (a57.toInt = a54.toInt + 1) := (by rw [← e58]; show (a54 + 1 : Int32).toInt = a54.toInt + 1; exact q_addI (x := a54.toInt) (y := 1) rfl (by decide) (by have _ := q_lo32 (x := a54); have _ := q_hi32 (x := a54); have t1 : a29.toInt ≤ 1403 := b31; have t2 : 1 ≤ lx35.toInt := i37; have t3 : a54.toInt = a29.toInt - lx35.toInt := b56; omega) (by have _ := q_lo32 (x := a54); have _ := q_hi32 (x := a54); have t1 : a29.toInt ≤ 1403 := b31; have t2 : 1 ≤ lx35.toInt := i37; have t3 : a54.toInt = a29.toInt - lx35.toInt := b56; omega))
    refine lv_iconst (v := 0) hx hb d_17_14_19 (by decide) ?_
    have ob60 : True ∧ S_FR_cut a57 (0 : Int32) t0_0 t0_1 t0_2 t0_3 t0_4 t0_5 t0_6 t0_7 t0_8 t0_9 t0_10 t1_0 lx36 := (by rw [← e58, ← e55]; have h := hS47; rw [S_FR_leastLength_L7.eq_2] at h; rw [if_neg c51] at h; with_reducible exact h.2.1)
    refine q_gov V (q_runV (As := [.int a57, .int 0]) (rest := []) (d := 1) (mc := 0) (ms := 0) (ci := 15) C0 V rfl LV_FR_81 (X_FR_cut l D g q w40  a57 0 hI t0_0 t0_1 t0_2 t0_3 t0_4 t0_5 t0_6 t0_7 t0_8 t0_9 t0_10 hO41 t1_0 hO42 lx36 hO45 ⟨(by have y0 : (0 : Int32).toInt = 0 := rfl; omega), (by have y0 : (0 : Int32).toInt = 0 := rfl; omega)⟩ ob60 _) rfl rfl hO41 rfl hl.1 rfl (Nat.le_of_ble_eq_true rfl) ⟨by decide, by decide⟩ ⟨Nat.le_of_ble_eq_true rfl, Nat.le_of_ble_eq_true rfl⟩ d_17_14_20) (fun u61 H locs hp62 V => ?_)
    obtain ⟨hI, hu66, f63, hA64, hE65⟩ := hp62
    replace hA64 : u61[151]? = (some (q 151, .inl (g 0, (1404 : Int32).toNatClampNeg, .inl f63)) : Option (Nat × va_E)) := hA64
    have e67 : f63 = (F_FR_cut a57 (0 : Int32) t0_0 t0_1 t0_2 t0_3 t0_4 t0_5 t0_6 t0_7 t0_8 t0_9 t0_10 t1_0 lx36) := hE65
    replace hO41 := (hu66 _ (by decide)).trans hO41
    replace hO42 := (hu66 _ (by decide)).trans hO42
    replace hO43 := (hu66 _ (by decide)).trans hO43
    replace hO44 := (hu66 _ (by decide)).trans hO44
    replace hF := q_uc hF hu66 (by simp)
    refine lv_aload_n hx hb d_17_14_23 rfl (lv_at hl 2 rfl) ?_
    have ob68 : True ∧ S_FR_readsBack t0_0 t0_1 t0_2 t0_3 t0_4 t0_5 t0_6 t0_7 t0_8 t0_9 t0_10 t2_0 t3_0 f63 := (by rw [e67, ← e58, ← e55]; have h := hS47; rw [S_FR_leastLength_L7.eq_2] at h; rw [if_neg c51] at h; replace h := q_s2 h; with_reducible exact h.2.1)
    refine q_goi V (q_runV (As := []) (rest := []) (d := 2) (mc := 0) (ms := 0) (ci := 15) C0 V rfl LV_FR_85 (X_FR_readsBack l D g q u61   hI t0_0 t0_1 t0_2 t0_3 t0_4 t0_5 t0_6 t0_7 t0_8 t0_9 t0_10 hO41 t2_0 hO43 t3_0 hO44 f63 hA64 ob68 _) rfl rfl hO41 rfl hl.1 rfl (Nat.le_of_ble_eq_true rfl) ⟨by decide, by decide⟩ ⟨Nat.le_of_ble_eq_true rfl, Nat.le_of_ble_eq_true rfl⟩ d_17_14_24) (fun a71 u69 H locs hp70 V => ?_)
    obtain ⟨rfl, b72, b73, hE74⟩ := hp70
    have e75 : a71 = (F_FR_readsBack t0_0 t0_1 t0_2 t0_3 t0_4 t0_5 t0_6 t0_7 t0_8 t0_9 t0_10 t2_0 t3_0 f63) := hE74
    replace b72 : q_F (0 ≤ a71.toInt) := b72
    replace b73 : q_F (a71.toInt ≤ 1) := b73
    refine lv_istore_n (lv' := [(3, .int a71), (2, .int lx35), (1, .int a29), (0, .ref (q 145))]) hx hb d_17_14_27 rfl hl (by decide) rfl (fun ls hl => ?_)
    refine lv_aload_n hx hb d_17_14_28 rfl (lv_at hl 3 rfl) ?_
    refine lv_iload_n hx hb d_17_14_29 rfl (lv_at hl 2 rfl) ?_
    refine lv_iload_n hx hb d_17_14_30 rfl (lv_at hl 1 rfl) ?_
    refine lv_isub hx hb d_17_14_31 ?_
    obtain ⟨a76, e77⟩ := q_nm (a29 - lx35 : Int32)
    refine q_ti (v := a76) e77 ?_
    have b78 : q_F (a76.toInt = a29.toInt - lx35.toInt) := (by rw [← e77]; show (a29 - lx35 : Int32).toInt = a29.toInt - lx35.toInt; exact q_subI (x := a29.toInt) (y := lx35.toInt) rfl rfl (by have t1 : 0 ≤ a29.toInt := b30; have t2 : lx35.toInt ≤ 17 := i38; have t3 : a29.toInt ≤ 1403 := b31; have t4 : 1 ≤ lx35.toInt := i37; omega) (by have t1 : 0 ≤ a29.toInt := b30; have t2 : lx35.toInt ≤ 17 := i38; have t3 : a29.toInt ≤ 1403 := b31; have t4 : 1 ≤ lx35.toInt := i37; omega))
    refine lv_iconst (v := 1) hx hb d_17_14_32 (by decide) ?_
    refine lv_iadd hx hb d_17_14_33 ?_
    obtain ⟨a79, e80⟩ := q_nm (a76 + 1 : Int32)
    refine q_ti (v := a79) e80 ?_
    have b81 : q_F (a79.toInt = a76.toInt + 1) := (by rw [← e80]; show (a76 + 1 : Int32).toInt = a76.toInt + 1; exact q_addI (x := a76.toInt) (y := 1) rfl (by decide) (by have _ := q_lo32 (x := a76); have _ := q_hi32 (x := a76); have t1 : a29.toInt ≤ 1403 := b31; have t2 : 1 ≤ lx35.toInt := i37; have t3 : a76.toInt = a29.toInt - lx35.toInt := b78; omega) (by have _ := q_lo32 (x := a76); have _ := q_hi32 (x := a76); have t1 : a29.toInt ≤ 1403 := b31; have t2 : 1 ≤ lx35.toInt := i37; have t3 : a76.toInt = a29.toInt - lx35.toInt := b78; omega))
    refine lv_iconst (v := 1) hx hb d_17_14_34 (by decide) ?_
    have ob82 : True ∧ S_FR_cut a79 (1 : Int32) t0_0 t0_1 t0_2 t0_3 t0_4 t0_5 t0_6 t0_7 t0_8 t0_9 t0_10 t1_0 f63 := (by rw [← e80, ← e77, e67, ← e58, ← e55]; have h := hS47; rw [S_FR_leastLength_L7.eq_2] at h; rw [if_neg c51] at h; replace h := q_s2 h; replace h := q_s2 h; with_reducible exact h.2.1)
    refine q_gov V (q_runV (As := [.int a79, .int 1]) (rest := []) (d := 1) (mc := 0) (ms := 0) (ci := 15) C0 V rfl LV_FR_81 (X_FR_cut l D g q u61  a79 1 hI t0_0 t0_1 t0_2 t0_3 t0_4 t0_5 t0_6 t0_7 t0_8 t0_9 t0_10 hO41 t1_0 hO42 f63 hA64 ⟨(by have y0 : (1 : Int32).toInt = 1 := rfl; omega), (by have y0 : (1 : Int32).toInt = 1 := rfl; omega)⟩ ob82 _) rfl rfl hO41 rfl hl.1 rfl (Nat.le_of_ble_eq_true rfl) ⟨by decide, by decide⟩ ⟨Nat.le_of_ble_eq_true rfl, Nat.le_of_ble_eq_true rfl⟩ d_17_14_35) (fun u83 H locs hp84 V => ?_)
    obtain ⟨hI, hu88, f85, hA86, hE87⟩ := hp84
    replace hA86 : u83[151]? = (some (q 151, .inl (g 0, (1404 : Int32).toNatClampNeg, .inl f85)) : Option (Nat × va_E)) := hA86
    have e89 : f85 = (F_FR_cut a79 (1 : Int32) t0_0 t0_1 t0_2 t0_3 t0_4 t0_5 t0_6 t0_7 t0_8 t0_9 t0_10 t1_0 f63) := hE87
    replace hO41 := (hu88 _ (by decide)).trans hO41
    replace hO42 := (hu88 _ (by decide)).trans hO42
    replace hO43 := (hu88 _ (by decide)).trans hO43
    replace hO44 := (hu88 _ (by decide)).trans hO44
    replace hF := q_uc hF hu88 (by simp)
    refine lv_iload_n hx hb d_17_14_38 rfl (lv_at hl 0 rfl) ?_
    refine lv_if_ne (tgt := 49) hx hb d_17_14_39 (by decide) (fun c90 => ?_) (fun c90 => ?_)
    ·
      have b91 : q_F (a71.toInt ≠ 0) := (q_neI c90)
      refine lv_iload_n hx hb d_17_14_49 rfl (lv_at hl 1 rfl) ?_
      exact q_reti C0 V (⟨hI, hF, f85, hA86, (show 1 ≤ lx35.toInt from (by have t1 : 1 ≤ lx35.toInt := i37; omega)), (show lx35.toInt ≤ 17 from (by have t1 : lx35.toInt ≤ 17 := i38; omega)), (show (lx35, f85) = (F_FR_leastLength t0_0 t0_1 t0_2 t0_3 t0_4 t0_5 t0_6 t0_7 t0_8 t0_9 t0_10 t1_0 t2_0 t3_0 t4_0) from Eq.trans (by have c90x := c90; rw [e75, e67, ← e58, ← e55] at c90x; rw [e89, ← e80, ← e77, e67, ← e58, ← e55, F_FR_leastLength_L7.eq_2, if_neg c51, if_neg c90x]) hR46)⟩) d_17_14_50
    ·
      have b92 : q_F (a71.toInt = 0) := (q_eqI c90)
      refine lv_aload_n hx hb d_17_14_42 rfl (lv_at hl 3 rfl) ?_
      have ob93 : True ∧ S_FR_readsBack t0_0 t0_1 t0_2 t0_3 t0_4 t0_5 t0_6 t0_7 t0_8 t0_9 t0_10 t2_0 t3_0 f85 := (by rw [e89, ← e80, ← e77, e67, ← e58, ← e55]; have h := hS47; rw [S_FR_leastLength_L7.eq_2] at h; rw [if_neg c51] at h; replace h := q_s2 h; replace h := q_s2 h; replace h := q_s2 h; have c90x := c90; rw [e75, e67, ← e58, ← e55] at c90x; rw [if_pos c90x] at h; with_reducible exact h.2.1)
      refine q_goi V (q_runV (As := []) (rest := []) (d := 2) (mc := 0) (ms := 0) (ci := 15) C0 V rfl LV_FR_85 (X_FR_readsBack l D g q u83   hI t0_0 t0_1 t0_2 t0_3 t0_4 t0_5 t0_6 t0_7 t0_8 t0_9 t0_10 hO41 t2_0 hO43 t3_0 hO44 f85 hA86 ob93 _) rfl rfl hO41 rfl hl.1 rfl (Nat.le_of_ble_eq_true rfl) ⟨by decide, by decide⟩ ⟨Nat.le_of_ble_eq_true rfl, Nat.le_of_ble_eq_true rfl⟩ d_17_14_43) (fun a96 u94 H locs hp95 V => ?_)
      obtain ⟨rfl, b97, b98, hE99⟩ := hp95
      have e100 : a96 = (F_FR_readsBack t0_0 t0_1 t0_2 t0_3 t0_4 t0_5 t0_6 t0_7 t0_8 t0_9 t0_10 t2_0 t3_0 f85) := hE99
      replace b97 : q_F (0 ≤ a96.toInt) := b97
      replace b98 : q_F (a96.toInt ≤ 1) := b98
      refine lv_if_eq (tgt := 51) hx hb d_17_14_46 (by decide) (fun c101 => ?_) (fun c101 => ?_)
      ·
        have b102 : q_F (a96.toInt = 0) := (q_eqI c101)
        obtain ⟨a103, e104⟩ := q_nm (lx35 + 1 : Int32)
        have b105 : q_F (a103.toInt = lx35.toInt + 1) := (by rw [← e104]; exact q_addI (y := 1) rfl (by decide) (by have t1 : 1 ≤ lx35.toInt := i37; have t2 : lx35.toInt ≤ 17 := i38; omega) (by have t1 : 1 ≤ lx35.toInt := i37; have t2 : lx35.toInt ≤ 17 := i38; omega))
        refine lv_iinc (v := a103) (lv' := [(2, .int a103), (3, .int a71), (1, .int a29), (0, .ref (q 145))]) hx hb d_17_14_51 hl (k := 1) rfl (e104) (by decide) rfl (fun ls hl => ?_)
        refine lv_goto (tgt := 7) hx hb d_17_14_54 (by decide) ?_
        exact ih39 ((a103 : Int32), (f85 : (Nat → Int32))) _ _ _ _ (show (17 - a103.toInt).toNat < (17 - lx35.toInt).toNat from by have t1 : a103.toInt = lx35.toInt + 1 := b105; have t2 : lx35.toInt ≤ 17 := i38; have t3 : lx35.toInt < 17 := b53; omega) ⟨(show q_F (1 ≤ a103.toInt) from (show 1 ≤ a103.toInt from by have t1 : 1 ≤ lx35.toInt := i37; have t2 : a103.toInt = lx35.toInt + 1 := b105; omega)), (show q_F (a103.toInt ≤ 17) from (show a103.toInt ≤ 17 from by have t1 : lx35.toInt < 17 := b53; have t2 : a103.toInt = lx35.toInt + 1 := b105; omega)), V, q_lw hl (q_lw1 0 rfl (q_lw1 2 rfl (q_lw1 3 rfl q_lw0))), hI, hF, hO41, hO42, hO43, hO44, hA86, ⟨fm50, Nat.lt_of_lt_of_le (show (17 - a103.toInt).toNat < (17 - lx35.toInt).toNat from by have t1 : a103.toInt = lx35.toInt + 1 := b105; have t2 : lx35.toInt ≤ 17 := i38; have t3 : lx35.toInt < 17 := b53; omega) (Nat.le_of_lt_succ hf49), (show F_FR_leastLength_L7 t0_0 t0_1 t0_2 t0_3 t0_4 t0_5 t0_6 t0_7 t0_8 t0_9 t0_10 t1_0 t2_0 t3_0 t4_0 a29 fm50 a103 f85 = (F_FR_leastLength t0_0 t0_1 t0_2 t0_3 t0_4 t0_5 t0_6 t0_7 t0_8 t0_9 t0_10 t1_0 t2_0 t3_0 t4_0) from Eq.trans (by have c90x := c90; rw [e75, e67, ← e58, ← e55] at c90x; have c101x := c101; rw [e100, e89, ← e80, ← e77, e67, ← e58, ← e55] at c101x; rw [← e104, e89, ← e80, ← e77, e67, ← e58, ← e55, F_FR_leastLength_L7.eq_2, if_neg c51, if_pos c90x, if_pos c101x]) hR46), (show True ∧ S_FR_leastLength_L7 t0_0 t0_1 t0_2 t0_3 t0_4 t0_5 t0_6 t0_7 t0_8 t0_9 t0_10 t1_0 t2_0 t3_0 t4_0 a29 fm50 a103 f85 from (by rw [← e104, e89, ← e80, ← e77, e67, ← e58, ← e55]; have h := hS47; rw [S_FR_leastLength_L7.eq_2] at h; rw [if_neg c51] at h; replace h := q_s2 h; replace h := q_s2 h; replace h := q_s2 h; have c90x := c90; rw [e75, e67, ← e58, ← e55] at c90x; rw [if_pos c90x] at h; replace h := q_s2 h; have c101x := c101; rw [e100, e89, ← e80, ← e77, e67, ← e58, ← e55] at c101x; rw [if_pos c101x] at h; with_reducible exact h))⟩⟩
      ·
        have b106 : q_F (a96.toInt ≠ 0) := (q_neI c101)
        refine lv_iload_n hx hb d_17_14_49 rfl (lv_at hl 1 rfl) ?_
        exact q_reti C0 V (⟨hI, hF, f85, hA86, (show 1 ≤ lx35.toInt from (by have t1 : 1 ≤ lx35.toInt := i37; omega)), (show lx35.toInt ≤ 17 from (by have t1 : lx35.toInt ≤ 17 := i38; omega)), (show (lx35, f85) = (F_FR_leastLength t0_0 t0_1 t0_2 t0_3 t0_4 t0_5 t0_6 t0_7 t0_8 t0_9 t0_10 t1_0 t2_0 t3_0 t4_0) from Eq.trans (by have c90x := c90; rw [e75, e67, ← e58, ← e55] at c90x; have c101x := c101; rw [e100, e89, ← e80, ← e77, e67, ← e58, ← e55] at c101x; rw [e89, ← e80, ← e77, e67, ← e58, ← e55, F_FR_leastLength_L7.eq_2, if_neg c51, if_pos c90x, if_neg c101x]) hR46)⟩) d_17_14_50
