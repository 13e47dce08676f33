/-! WholeRows, exactly: rows -/
theorem d_19_3_0 : decode prog_19_method_3_code 0 = .ok (.iload_n 0, 1) := by decide +kernel
theorem d_19_3_1 : decode prog_19_method_3_code 1 = .ok (.ifCond .lt 9, 3) := by decide +kernel
theorem d_19_3_10 : decode prog_19_method_3_code 10 = .ok (.iconst 1, 1) := by decide +kernel
theorem d_19_3_11 : decode prog_19_method_3_code 11 = .ok (.goto 4, 3) := by decide +kernel
theorem d_19_3_15 : decode prog_19_method_3_code 15 = .ok (.ireturn, 1) := by decide +kernel
theorem d_19_3_4 : decode prog_19_method_3_code 4 = .ok (.iload_n 0, 1) := by decide +kernel
theorem d_19_3_5 : decode prog_19_method_3_code 5 = .ok (.bipush 11, 2) := by decide +kernel
theorem d_19_3_7 : decode prog_19_method_3_code 7 = .ok (.if_icmp .lt 7, 3) := by decide +kernel
theorem d_19_3_14 : decode prog_19_method_3_code 14 = .ok (.iconst 0, 1) := by decide +kernel
def y_WR_no : MethodName := ⟨"NumberHouseModel$WholeRows", "no", "(I)Z"⟩
def F_WR_no (x1 : Int32) : Int32 := if x1 < (0 : Int32) then ((1 : Int32)) else (if x1 < (11 : Int32) then ((0 : Int32)) else ((1 : Int32)))
set_option maxRecDepth 100000 in
set_option maxHeartbeats 4000000 in
theorem X_WR_no (l : Launch) (D : va_G) (g : Nat → ClassId) (q : Nat → Nat) (ws : va_W) (x1 : Int32) (hI : q_I (msh g q) q ws) : q_mI l y_WR_no prog_19_method_3_code 1 (.boolean) 1 0 0 D g [.int x1] ws (fun r u => ws = u ∧ (0 ≤ r.toInt) ∧ (r.toInt ≤ 1) ∧ r = (F_WR_no x1)) := by
  intro sz
  refine q_into (by decide) (Nat.le_of_ble_eq_true rfl) ?_
  intro p e s m below meth c ls hsz C0 V hl
  have hx := C0.1
  have hb := C0.2.1
  have hl : lv_has ls 1 [(0, .int x1)] := hl
  refine lv_iload_n hx hb d_19_3_0 rfl (lv_at hl 0 rfl) ?_
  refine lv_if_lt (tgt := 10) hx hb d_19_3_1 (by decide) (fun c1 => ?_) (fun c1 => ?_)
  ·
    refine lv_iconst (v := 1) hx hb d_19_3_10 (by decide) ?_
    refine lv_goto (tgt := 15) hx hb d_19_3_11 (by decide) ?_
    exact q_retz C0 V (by decide) (⟨rfl, (show 0 ≤ (1 : Int32).toInt from (by have z1 : (1 : Int32).toInt = 1 := rfl; omega)), (show (1 : Int32).toInt ≤ 1 from (by have z1 : (1 : Int32).toInt = 1 := rfl; omega)), (show (1 : Int32) = (F_WR_no x1) from (by rw [F_WR_no.eq_1, if_pos c1]))⟩) d_19_3_15
  ·
    refine lv_iload_n hx hb d_19_3_4 rfl (lv_at hl 0 rfl) ?_
    refine lv_bipush (v := 11) hx hb d_19_3_5 (by decide) ?_
    refine lv_icmp_lt (tgt := 14) hx hb d_19_3_7 (by decide) (fun c4 => ?_) (fun c4 => ?_)
    ·
      refine lv_iconst (v := 0) hx hb d_19_3_14 (by decide) ?_
      exact q_retz C0 V (by decide) (⟨rfl, (show 0 ≤ (0 : Int32).toInt from (by have z1 : (0 : Int32).toInt = 0 := rfl; omega)), (show (0 : Int32).toInt ≤ 1 from (by have z1 : (0 : Int32).toInt = 0 := rfl; omega)), (show (0 : Int32) = (F_WR_no x1) from (by rw [F_WR_no.eq_1, if_neg c1, if_pos c4]))⟩) d_19_3_15
    ·
      refine lv_iconst (v := 1) hx hb d_19_3_10 (by decide) ?_
      refine lv_goto (tgt := 15) hx hb d_19_3_11 (by decide) ?_
      exact q_retz C0 V (by decide) (⟨rfl, (show 0 ≤ (1 : Int32).toInt from (by have z1 : (1 : Int32).toInt = 1 := rfl; omega)), (show (1 : Int32).toInt ≤ 1 from (by have z1 : (1 : Int32).toInt = 1 := rfl; omega)), (show (1 : Int32) = (F_WR_no x1) from (by rw [F_WR_no.eq_1, if_neg c1, if_neg c4]))⟩) d_19_3_15
theorem d_19_4_0 : decode prog_19_method_4_code 0 = .ok (.iconst 0, 1) := by decide +kernel
theorem d_19_4_1 : decode prog_19_method_4_code 1 = .ok (.istore_n 1, 1) := by decide +kernel
theorem d_19_4_2 : decode prog_19_method_4_code 2 = .ok (.iload_n 1, 1) := by decide +kernel
theorem d_19_4_3 : decode prog_19_method_4_code 3 = .ok (.aload_n 0, 1) := by decide +kernel
theorem d_19_4_4 : decode prog_19_method_4_code 4 = .ok (.arraylength, 1) := by decide +kernel
theorem d_19_4_5 : decode prog_19_method_4_code 5 = .ok (.if_icmp .ge 13, 3) := by decide +kernel
theorem d_19_4_18 : decode prog_19_method_4_code 18 = .ok (.return_, 1) := by decide +kernel
theorem d_19_4_8 : decode prog_19_method_4_code 8 = .ok (.aload_n 0, 1) := by decide +kernel
theorem d_19_4_9 : decode prog_19_method_4_code 9 = .ok (.iload_n 1, 1) := by decide +kernel
theorem d_19_4_10 : decode prog_19_method_4_code 10 = .ok (.iconst 0, 1) := by decide +kernel
theorem d_19_4_11 : decode prog_19_method_4_code 11 = .ok (.iastore, 1) := by decide +kernel
theorem d_19_4_12 : decode prog_19_method_4_code 12 = .ok (.iinc 1 1, 3) := by decide +kernel
theorem d_19_4_15 : decode prog_19_method_4_code 15 = .ok (.goto (-13), 3) := by decide +kernel
def y_WR_clear : MethodName := ⟨"NumberHouseModel$WholeRows", "clear", "([I)V"⟩
def F_WR_clear_L2 (N1 : Int32) (t0_0 : (Nat → Int32)) : Nat → Int32 → (Nat → Int32) → (Nat → Int32)
  | 0, _, _ => default
  | fm + 1, lx5, lx6 => if N1 ≤ lx5 then (lx6) else (F_WR_clear_L2 N1 t0_0 fm (lx5 + 1 : Int32) (upd lx6 lx5.toNatClampNeg 0 : (Nat → Int32)))
def F_WR_clear (N1 : Int32) (t0_0 : (Nat → Int32)) : (Nat → Int32) := F_WR_clear_L2 N1 t0_0 ((20200 - (0 : Int32).toInt).toNat + 1) 0 t0_0
set_option maxRecDepth 100000 in
set_option maxHeartbeats 4000000 in
theorem X_WR_clear (l : Launch) (D : va_G) (g : Nat → ClassId) (q : Nat → Nat) (ws : va_W) (k1 : Nat) (N1 : Int32) (hB1 : q_isRow (msh g q) g k1 N1) (hI : q_I (msh g q) q ws) (t0_0 : (Nat → Int32)) (hT0 : ws[k1]? = (some (q k1, .inl (g 0, N1.toNatClampNeg, .inl t0_0)) : Option (Nat × va_E))) : q_mV l y_WR_clear prog_19_method_4_code 2 1 0 0 D g [.ref (q k1)] ws (fun u => q_I (msh g q) q u ∧ q_un ws u [k1] ∧ ∃ (u0_0 : (Nat → Int32)), u[k1]? = (some (q k1, .inl (g 0, N1.toNatClampNeg, .inl u0_0)) : Option (Nat × va_E)) ∧ u0_0 = (F_WR_clear N1 t0_0)) := by
  intro sz
  refine q_into (by decide) (Nat.le_of_ble_eq_true rfl) ?_
  intro p e s m below meth c ls hsz C0 V hl
  have hx := C0.1
  have hb := C0.2.1
  have hfk10 : q_F (0 ≤ N1.toInt ∧ N1.toInt ≤ 20200) := hB1.2
  have hF : q_un ws ws [k1] := q_u0
  have hl : lv_has ls 2 [(0, .ref (q k1))] := hl
  refine lv_iconst (v := 0) hx hb d_19_4_0 (by decide) ?_
  refine lv_istore_n (lv' := [(1, .int 0), (0, .ref (q k1))]) hx hb d_19_4_1 rfl hl (by decide) rfl (fun ls hl => ?_)
  refine q_loop (X := Int32 × (Nat → Int32)) (fun z H locs ls w10 => q_F (0 ≤ z.1.toInt) ∧ q_F (z.1.toInt ≤ N1.toInt) ∧ q_Wd D g (va_A ws sz) s w10 H locs ∧ lv_has ls 2 [(1, .int z.1), (0, .ref (q k1))] ∧ q_I (msh g q) q w10 ∧ q_un ws w10 [k1] ∧ w10[k1]? = (some (q k1, .inl (g 0, N1.toNatClampNeg, .inl z.2)) : Option (Nat × va_E)) ∧ (∃ n, (20200 - z.1.toInt).toNat < n ∧ F_WR_clear_L2 N1 t0_0 n z.1 z.2 = (F_WR_clear N1 t0_0))) (fun z => (20200 - z.1.toInt).toNat) ?_ ((0 : Int32), (t0_0 : (Nat → Int32))) _ _ _ ws ⟨(show q_F (0 ≤ 0) from (show 0 ≤ 0 from by omega)), (show q_F (0 ≤ N1.toInt) from (show 0 ≤ N1.toInt from by have t1 : 0 ≤ N1.toInt ∧ N1.toInt ≤ 20200 := hfk10; omega)), V, q_lw hl (q_lw1 0 rfl (q_lw1 1 rfl q_lw0)), hI, hF, hT0, ⟨((20200 - (0 : Int32).toInt).toNat + 1), Nat.lt_succ_self _, (show F_WR_clear_L2 N1 t0_0 ((20200 - (0 : Int32).toInt).toNat + 1) 0 t0_0 = (F_WR_clear N1 t0_0) from (by rw [F_WR_clear.eq_1]))⟩⟩
  rintro ⟨lx5, lx6⟩ H locs ls w10 ⟨i7, i8, V, hl, hI, hF, hO11, ⟨fu14, hf15, hR12⟩⟩ ih9
  obtain ⟨fm16, rfl⟩ : ∃ m, fu14 = m + 1 := ⟨fu14 - 1, by omega⟩
  replace i7 : q_F (0 ≤ lx5.toInt) := i7
  replace i8 : q_F (lx5.toInt ≤ N1.toInt) := i8
  replace hl : lv_has ls 2 [(1, .int lx5), (0, .ref (q k1))] := hl
  replace hO11 : w10[k1]? = (some (q k1, .inl (g 0, N1.toNatClampNeg, .inl lx6)) : Option (Nat × va_E)) := hO11
  refine lv_iload_n hx hb d_19_4_2 rfl (lv_at hl 0 rfl) ?_
  refine lv_aload_n hx hb d_19_4_3 rfl (lv_at hl 1 rfl) ?_
  refine q_alen (t := 0) (v := N1) C0 V hO11 rfl (s_len (by first | with_reducible exact (q_fe hfk10).2 | with_reducible exact (q_fe hfk10).1 | (have t1 : 0 ≤ N1.toInt ∧ N1.toInt ≤ 20200 := hfk10; omega))) d_19_4_4 ?_
  refine lv_icmp_ge (tgt := 18) hx hb d_19_4_5 (by decide) (fun c17 => ?_) (fun c17 => ?_)
  ·
    exact q_retv C0 V (⟨hI, hF, lx6, hO11, (show lx6 = (F_WR_clear N1 t0_0) from Eq.trans (by rw [F_WR_clear_L2.eq_2, if_pos c17]) hR12)⟩) d_19_4_18
  ·
    have b19 : q_F (lx5.toInt < N1.toInt) := (q_nleI c17)
    refine lv_aload_n hx hb d_19_4_8 rfl (lv_at hl 1 rfl) ?_
    refine lv_iload_n hx hb d_19_4_9 rfl (lv_at hl 0 rfl) ?_
    refine lv_iconst (v := 0) hx hb d_19_4_10 (by decide) ?_
    refine q_iast C0 V hO11 (q_ix (x := lx5.toInt) rfl (by first | with_reducible exact q_fe i7 | (have t1 : 0 ≤ lx5.toInt := i7; omega)) (by have t1 : 0 ≤ lx5.toInt := i7; have t2 : lx5.toInt < N1.toInt := b19; have e9 := q_clI (i := N1) rfl (by first | with_reducible exact (q_fe hfk10).2 | with_reducible exact (q_fe hfk10).1 | (have t1 : 0 ≤ N1.toInt ∧ N1.toInt ≤ 20200 := hfk10; omega)); omega)) d_19_4_11 (fun H locs w20 hu21 hO11 V => ?_)
    replace hI := n_ai' hI hB1.1 hu21 hO11 (q_updB (fun _ => s_bnd) s_bnd)
    replace hF := q_us hF hu21 (by simp)
    obtain ⟨f22, e23⟩ := q_nm (upd lx6 lx5.toNatClampNeg 0 : (Nat → Int32))
    rw [e23] at hO11
    obtain ⟨a24, e25⟩ := q_nm (lx5 + 1 : Int32)
    have b26 : q_F (a24.toInt = lx5.toInt + 1) := (by rw [← e25]; exact q_addI (y := 1) rfl (by decide) (by have t1 : 0 ≤ lx5.toInt := i7; have t2 : lx5.toInt < N1.toInt := b19; have _ := q_lo32 (x := N1); have _ := q_hi32 (x := N1); omega) (by have t1 : 0 ≤ lx5.toInt := i7; have t2 : lx5.toInt < N1.toInt := b19; have _ := q_lo32 (x := N1); have _ := q_hi32 (x := N1); omega))
    refine lv_iinc (v := a24) (lv' := [(1, .int a24), (0, .ref (q k1))]) hx hb d_19_4_12 hl (k := 0) rfl (e25) (by decide) rfl (fun ls hl => ?_)
    refine lv_goto (tgt := 2) hx hb d_19_4_15 (by decide) ?_
    exact ih9 ((a24 : Int32), (f22 : (Nat → Int32))) _ _ _ _ (show (20200 - a24.toInt).toNat < (20200 - lx5.toInt).toNat from by have t1 : a24.toInt = lx5.toInt + 1 := b26; have t2 : 0 ≤ N1.toInt ∧ N1.toInt ≤ 20200 := hfk10; have t3 : lx5.toInt ≤ N1.toInt := i8; have t4 : lx5.toInt < N1.toInt := b19; omega) ⟨(show q_F (0 ≤ a24.toInt) from (show 0 ≤ a24.toInt from by have t1 : 0 ≤ lx5.toInt := i7; have t2 : a24.toInt = lx5.toInt + 1 := b26; omega)), (show q_F (a24.toInt ≤ N1.toInt) from (show a24.toInt ≤ N1.toInt from by have t1 : lx5.toInt < N1.toInt := b19; have t2 : a24.toInt = lx5.toInt + 1 := b26; omega)), V, q_lw hl (q_lw1 0 rfl (q_lw1 1 rfl q_lw0)), hI, hF, hO11, ⟨fm16, Nat.lt_of_lt_of_le (show (20200 - a24.toInt).toNat < (20200 - lx5.toInt).toNat from by have t1 : a24.toInt = lx5.toInt + 1 := b26; have t2 : 0 ≤ N1.toInt ∧ N1.toInt ≤ 20200 := hfk10; have t3 : lx5.toInt ≤ N1.toInt := i8; have t4 : lx5.toInt < N1.toInt := b19; omega) (Nat.le_of_lt_succ hf15), (show F_WR_clear_L2 N1 t0_0 fm16 a24 f22 = (F_WR_clear N1 t0_0) from Eq.trans (by rw [← e25, ← e23, F_WR_clear_L2.eq_2, if_neg c17]) hR12)⟩⟩
theorem d_19_5_0 : decode prog_19_method_5_code 0 = .ok (.iconst 0, 1) := by decide +kernel
theorem d_19_5_1 : decode prog_19_method_5_code 1 = .ok (.istore_n 2, 1) := by decide +kernel
theorem d_19_5_2 : decode prog_19_method_5_code 2 = .ok (.iload_n 2, 1) := by decide +kernel
theorem d_19_5_3 : decode prog_19_method_5_code 3 = .ok (.aload_n 1, 1) := by decide +kernel
theorem d_19_5_4 : decode prog_19_method_5_code 4 = .ok (.arraylength, 1) := by decide +kernel
theorem d_19_5_5 : decode prog_19_method_5_code 5 = .ok (.if_icmp .ge 25, 3) := by decide +kernel
theorem d_19_5_30 : decode prog_19_method_5_code 30 = .ok (.return_, 1) := by decide +kernel
theorem d_19_5_8 : decode prog_19_method_5_code 8 = .ok (.aload_n 1, 1) := by decide +kernel
theorem d_19_5_9 : decode prog_19_method_5_code 9 = .ok (.iload_n 2, 1) := by decide +kernel
theorem d_19_5_10 : decode prog_19_method_5_code 10 = .ok (.iload_n 2, 1) := by decide +kernel
theorem d_19_5_11 : decode prog_19_method_5_code 11 = .ok (.aload_n 0, 1) := by decide +kernel
theorem d_19_5_12 : decode prog_19_method_5_code 12 = .ok (.arraylength, 1) := by decide +kernel
theorem d_19_5_13 : decode prog_19_method_5_code 13 = .ok (.if_icmp .ge 9, 3) := by decide +kernel
theorem d_19_5_22 : decode prog_19_method_5_code 22 = .ok (.iconst 0, 1) := by decide +kernel
theorem d_19_5_23 : decode prog_19_method_5_code 23 = .ok (.iastore, 1) := by decide +kernel
theorem d_19_5_24 : decode prog_19_method_5_code 24 = .ok (.iinc 2 1, 3) := by decide +kernel
theorem d_19_5_27 : decode prog_19_method_5_code 27 = .ok (.goto (-25), 3) := by decide +kernel
theorem d_19_5_16 : decode prog_19_method_5_code 16 = .ok (.aload_n 0, 1) := by decide +kernel
theorem d_19_5_17 : decode prog_19_method_5_code 17 = .ok (.iload_n 2, 1) := by decide +kernel
theorem d_19_5_18 : decode prog_19_method_5_code 18 = .ok (.iaload, 1) := by decide +kernel
theorem d_19_5_19 : decode prog_19_method_5_code 19 = .ok (.goto 4, 3) := by decide +kernel
def y_WR_copy : MethodName := ⟨"NumberHouseModel$WholeRows", "copy", "([I[I)V"⟩
def F_WR_copy_L2 (N1 : Int32) (N2 : Int32) (t0_0 : (Nat → Int32)) (t1_0 : (Nat → Int32)) : Nat → Int32 → (Nat → Int32) → (Nat → Int32)
  | 0, _, _ => default
  | fm + 1, lx8, lx9 => if N2 ≤ lx8 then (lx9) else (if N1 ≤ lx8 then (F_WR_copy_L2 N1 N2 t0_0 t1_0 fm (lx8 + 1 : Int32) (upd lx9 lx8.toNatClampNeg 0 : (Nat → Int32))) else (F_WR_copy_L2 N1 N2 t0_0 t1_0 fm (lx8 + 1 : Int32) (upd lx9 lx8.toNatClampNeg (t0_0 lx8.toNatClampNeg : Int32) : (Nat → Int32))))
def F_WR_copy (N1 : Int32) (N2 : Int32) (t0_0 : (Nat → Int32)) (t1_0 : (Nat → Int32)) : (Nat → Int32) := F_WR_copy_L2 N1 N2 t0_0 t1_0 ((20200 - (0 : Int32).toInt).toNat + 1) 0 t1_0
set_option maxRecDepth 100000 in
set_option maxHeartbeats 4000000 in
theorem X_WR_copy (l : Launch) (D : va_G) (g : Nat → ClassId) (q : Nat → Nat) (ws : va_W) (k1 : Nat) (N1 : Int32) (hB1 : q_isRow (msh g q) g k1 N1) (k2 : Nat) (N2 : Int32) (hB2 : q_isRow (msh g q) g k2 N2) (ne_k1_k2 : k1 ≠ k2) (hI : q_I (msh g q) q ws) (t0_0 : (Nat → Int32)) (hT0 : ws[k1]? = (some (q k1, .inl (g 0, N1.toNatClampNeg, .inl t0_0)) : Option (Nat × va_E))) (t1_0 : (Nat → Int32)) (hT1 : ws[k2]? = (some (q k2, .inl (g 0, N2.toNatClampNeg, .inl t1_0)) : Option (Nat × va_E))) : q_mV l y_WR_copy prog_19_method_5_code 3 1 0 0 D g [.ref (q k1), .ref (q k2)] ws (fun u => q_I (msh g q) q u ∧ q_un ws u [k2] ∧ ∃ (u1_0 : (Nat → Int32)), u[k2]? = (some (q k2, .inl (g 0, N2.toNatClampNeg, .inl u1_0)) : Option (Nat × va_E)) ∧ u1_0 = (F_WR_copy N1 N2 t0_0 t1_0)) := by
  intro sz
  refine q_into (by decide) (Nat.le_of_ble_eq_true rfl) ?_
  intro p e s m below meth c ls hsz C0 V hl
  have hx := C0.1
  have hb := C0.2.1
  have hfk10 : q_F (0 ≤ N1.toInt ∧ N1.toInt ≤ 20200) := hB1.2
  have hfk20 : q_F (0 ≤ N2.toInt ∧ N2.toInt ≤ 20200) := hB2.2
  have hF : q_un ws ws [k2] := q_u0
  have hl : lv_has ls 3 [(0, .ref (q k1)), (1, .ref (q k2))] := hl
  refine lv_iconst (v := 0) hx hb d_19_5_0 (by decide) ?_
  refine lv_istore_n (lv' := [(2, .int 0), (0, .ref (q k1)), (1, .ref (q k2))]) hx hb d_19_5_1 rfl hl (by decide) rfl (fun ls hl => ?_)
  refine q_loop (X := Int32 × (Nat → Int32)) (fun z H locs ls w13 => q_F (0 ≤ z.1.toInt) ∧ q_F (z.1.toInt ≤ N2.toInt) ∧ q_Wd D g (va_A ws sz) s w13 H locs ∧ lv_has ls 3 [(2, .int z.1), (0, .ref (q k1)), (1, .ref (q k2))] ∧ q_I (msh g q) q w13 ∧ q_un ws w13 [k2] ∧ w13[k1]? = (some (q k1, .inl (g 0, N1.toNatClampNeg, .inl t0_0)) : Option (Nat × va_E)) ∧ w13[k2]? = (some (q k2, .inl (g 0, N2.toNatClampNeg, .inl z.2)) : Option (Nat × va_E)) ∧ (∃ n, (20200 - z.1.toInt).toNat < n ∧ F_WR_copy_L2 N1 N2 t0_0 t1_0 n z.1 z.2 = (F_WR_copy N1 N2 t0_0 t1_0))) (fun z => (20200 - z.1.toInt).toNat) ?_ ((0 : Int32), (t1_0 : (Nat → Int32))) _ _ _ ws ⟨(show q_F (0 ≤ 0) from (show 0 ≤ 0 from by omega)), (show q_F (0 ≤ N2.toInt) from (show 0 ≤ N2.toInt from by have t1 : 0 ≤ N2.toInt ∧ N2.toInt ≤ 20200 := hfk20; omega)), V, q_lw hl (q_lw1 0 rfl (q_lw1 1 rfl (q_lw1 2 rfl q_lw0))), hI, hF, hT0, hT1, ⟨((20200 - (0 : Int32).toInt).toNat + 1), Nat.lt_succ_self _, (show F_WR_copy_L2 N1 N2 t0_0 t1_0 ((20200 - (0 : Int32).toInt).toNat + 1) 0 t1_0 = (F_WR_copy N1 N2 t0_0 t1_0) from (by rw [F_WR_copy.eq_1]))⟩⟩
  rintro ⟨lx8, lx9⟩ H locs ls w13 ⟨i10, i11, V, hl, hI, hF, hO14, hO15, ⟨fu18, hf19, hR16⟩⟩ ih12
  obtain ⟨fm20, rfl⟩ : ∃ m, fu18 = m + 1 := ⟨fu18 - 1, by omega⟩
  replace i10 : q_F (0 ≤ lx8.toInt) := i10
  replace i11 : q_F (lx8.toInt ≤ N2.toInt) := i11
  replace hl : lv_has ls 3 [(2, .int lx8), (0, .ref (q k1)), (1, .ref (q k2))] := hl
  replace hO14 : w13[k1]? = (some (q k1, .inl (g 0, N1.toNatClampNeg, .inl t0_0)) : Option (Nat × va_E)) := hO14
  replace hO15 : w13[k2]? = (some (q k2, .inl (g 0, N2.toNatClampNeg, .inl lx9)) : Option (Nat × va_E)) := hO15
  refine lv_iload_n hx hb d_19_5_2 rfl (lv_at hl 0 rfl) ?_
  refine lv_aload_n hx hb d_19_5_3 rfl (lv_at hl 2 rfl) ?_
  refine q_alen (t := 0) (v := N2) C0 V hO15 rfl (s_len (by first | with_reducible exact (q_fe hfk20).2 | with_reducible exact (q_fe hfk20).1 | (have t1 : 0 ≤ N2.toInt ∧ N2.toInt ≤ 20200 := hfk20; omega))) d_19_5_4 ?_
  refine lv_icmp_ge (tgt := 30) hx hb d_19_5_5 (by decide) (fun c21 => ?_) (fun c21 => ?_)
  ·
    exact q_retv C0 V (⟨hI, hF, lx9, hO15, (show lx9 = (F_WR_copy N1 N2 t0_0 t1_0) from Eq.trans (by rw [F_WR_copy_L2.eq_2, if_pos c21]) hR16)⟩) d_19_5_30
  ·
    have b23 : q_F (lx8.toInt < N2.toInt) := (q_nleI c21)
    refine lv_aload_n hx hb d_19_5_8 rfl (lv_at hl 2 rfl) ?_
    refine lv_iload_n hx hb d_19_5_9 rfl (lv_at hl 0 rfl) ?_
    refine lv_iload_n hx hb d_19_5_10 rfl (lv_at hl 0 rfl) ?_
    refine lv_aload_n hx hb d_19_5_11 rfl (lv_at hl 1 rfl) ?_
    refine q_alen (t := 0) (v := N1) C0 V hO14 rfl (s_len (by first | with_reducible exact (q_fe hfk10).2 | with_reducible exact (q_fe hfk10).1 | (have t1 : 0 ≤ N1.toInt ∧ N1.toInt ≤ 20200 := hfk10; omega))) d_19_5_12 ?_
    refine lv_icmp_ge (tgt := 22) hx hb d_19_5_13 (by decide) (fun c24 => ?_) (fun c24 => ?_)
    ·
      refine lv_iconst (v := 0) hx hb d_19_5_22 (by decide) ?_
      refine q_iast C0 V hO15 (q_ix (x := lx8.toInt) rfl (by first | with_reducible exact q_fe i10 | (have t1 : 0 ≤ lx8.toInt := i10; omega)) (by have t1 : 0 ≤ lx8.toInt := i10; have t2 : lx8.toInt < N2.toInt := b23; have e9 := q_clI (i := N2) rfl (by first | with_reducible exact (q_fe hfk20).2 | with_reducible exact (q_fe hfk20).1 | (have t1 : 0 ≤ N2.toInt ∧ N2.toInt ≤ 20200 := hfk20; omega)); omega)) d_19_5_23 (fun H locs w26 hu27 hO15 V => ?_)
      replace hI := n_ai' hI hB2.1 hu27 hO15 (q_updB (fun _ => s_bnd) s_bnd)
      replace hO14 := (hu27 _ (by have z := ne_k1_k2; omega)).trans hO14
      replace hF := q_us hF hu27 (by simp)
      obtain ⟨f28, e29⟩ := q_nm (upd lx9 lx8.toNatClampNeg 0 : (Nat → Int32))
      rw [e29] at hO15
      obtain ⟨a30, e31⟩ := q_nm (lx8 + 1 : Int32)
      have b32 : q_F (a30.toInt = lx8.toInt + 1) := (by rw [← e31]; exact q_addI (y := 1) rfl (by decide) (by have t1 : 0 ≤ lx8.toInt := i10; have t2 : lx8.toInt < N2.toInt := b23; have _ := q_lo32 (x := N2); have _ := q_hi32 (x := N2); omega) (by have t1 : 0 ≤ lx8.toInt := i10; have t2 : lx8.toInt < N2.toInt := b23; have _ := q_lo32 (x := N2); have _ := q_hi32 (x := N2); omega))
      refine lv_iinc (v := a30) (lv' := [(2, .int a30), (0, .ref (q k1)), (1, .ref (q k2))]) hx hb d_19_5_24 hl (k := 0) rfl (e31) (by decide) rfl (fun ls hl => ?_)
      refine lv_goto (tgt := 2) hx hb d_19_5_27 (by decide) ?_
      exact ih12 ((a30 : Int32), (f28 : (Nat → Int32))) _ _ _ _ (show (20200 - a30.toInt).toNat < (20200 - lx8.toInt).toNat from by have t1 : a30.toInt = lx8.toInt + 1 := b32; have t2 : 0 ≤ N2.toInt ∧ N2.toInt ≤ 20200 := hfk20; have t3 : lx8.toInt ≤ N2.toInt := i11; have t4 : lx8.toInt < N2.toInt := b23; omega) ⟨(show q_F (0 ≤ a30.toInt) from (show 0 ≤ a30.toInt from by have t1 : 0 ≤ lx8.toInt := i10; have t2 : a30.toInt = lx8.toInt + 1 := b32; omega)), (show q_F (a30.toInt ≤ N2.toInt) from (show a30.toInt ≤ N2.toInt from by have t1 : lx8.toInt < N2.toInt := b23; have t2 : a30.toInt = lx8.toInt + 1 := b32; omega)), V, q_lw hl (q_lw1 0 rfl (q_lw1 1 rfl (q_lw1 2 rfl q_lw0))), hI, hF, hO14, hO15, ⟨fm20, Nat.lt_of_lt_of_le (show (20200 - a30.toInt).toNat < (20200 - lx8.toInt).toNat from by have t1 : a30.toInt = lx8.toInt + 1 := b32; have t2 : 0 ≤ N2.toInt ∧ N2.toInt ≤ 20200 := hfk20; have t3 : lx8.toInt ≤ N2.toInt := i11; have t4 : lx8.toInt < N2.toInt := b23; omega) (Nat.le_of_lt_succ hf19), (show F_WR_copy_L2 N1 N2 t0_0 t1_0 fm20 a30 f28 = (F_WR_copy N1 N2 t0_0 t1_0) from Eq.trans (by rw [← e31, ← e29, F_WR_copy_L2.eq_2, if_neg c21, if_pos c24]) hR16)⟩⟩
    ·
      have b33 : q_F (lx8.toInt < N1.toInt) := (q_nleI c24)
      refine lv_aload_n hx hb d_19_5_16 rfl (lv_at hl 1 rfl) ?_
      refine lv_iload_n hx hb d_19_5_17 rfl (lv_at hl 0 rfl) ?_
      refine q_iald C0 V hO14 (q_ix (x := lx8.toInt) rfl (by first | with_reducible exact q_fe i10 | (have t1 : 0 ≤ lx8.toInt := i10; omega)) (by have t1 : 0 ≤ lx8.toInt := i10; have t2 : lx8.toInt < N1.toInt := b33; have e9 := q_clI (i := N1) rfl (by first | with_reducible exact (q_fe hfk10).2 | with_reducible exact (q_fe hfk10).1 | (have t1 : 0 ≤ N1.toInt ∧ N1.toInt ≤ 20200 := hfk10; omega)); omega)) d_19_5_18 ?_
      obtain ⟨a34, e35⟩ := q_nm (t0_0 lx8.toNatClampNeg : Int32)
      refine q_ti (v := a34) e35 ?_
      refine lv_goto (tgt := 23) hx hb d_19_5_19 (by decide) ?_
      refine q_iast C0 V hO15 (q_ix (x := lx8.toInt) rfl (by first | with_reducible exact q_fe i10 | (have t1 : 0 ≤ lx8.toInt := i10; omega)) (by have t1 : 0 ≤ lx8.toInt := i10; have t2 : lx8.toInt < N2.toInt := b23; have e9 := q_clI (i := N2) rfl (by first | with_reducible exact (q_fe hfk20).2 | with_reducible exact (q_fe hfk20).1 | (have t1 : 0 ≤ N2.toInt ∧ N2.toInt ≤ 20200 := hfk20; omega)); omega)) d_19_5_23 (fun H locs w36 hu37 hO15 V => ?_)
      replace hI := n_ai' hI hB2.1 hu37 hO15 (q_updB (fun _ => s_bnd) s_bnd)
      replace hO14 := (hu37 _ (by have z := ne_k1_k2; omega)).trans hO14
      replace hF := q_us hF hu37 (by simp)
      obtain ⟨f38, e39⟩ := q_nm (upd lx9 lx8.toNatClampNeg a34 : (Nat → Int32))
      rw [e39] at hO15
      obtain ⟨a40, e41⟩ := q_nm (lx8 + 1 : Int32)
      have b42 : q_F (a40.toInt = lx8.toInt + 1) := (by rw [← e41]; exact q_addI (y := 1) rfl (by decide) (by have t1 : 0 ≤ lx8.toInt := i10; have t2 : lx8.toInt < N1.toInt := b33; have _ := q_lo32 (x := N1); have _ := q_hi32 (x := N1); omega) (by have t1 : 0 ≤ lx8.toInt := i10; have t2 : lx8.toInt < N1.toInt := b33; have _ := q_lo32 (x := N1); have _ := q_hi32 (x := N1); omega))
      refine lv_iinc (v := a40) (lv' := [(2, .int a40), (0, .ref (q k1)), (1, .ref (q k2))]) hx hb d_19_5_24 hl (k := 0) rfl (e41) (by decide) rfl (fun ls hl => ?_)
      refine lv_goto (tgt := 2) hx hb d_19_5_27 (by decide) ?_
      exact ih12 ((a40 : Int32), (f38 : (Nat → Int32))) _ _ _ _ (show (20200 - a40.toInt).toNat < (20200 - lx8.toInt).toNat from by have t1 : a40.toInt = lx8.toInt + 1 := b42; have t2 : 0 ≤ N2.toInt ∧ N2.toInt ≤ 20200 := hfk20; have t3 : lx8.toInt ≤ N2.toInt := i11; have t4 : lx8.toInt < N2.toInt := b23; omega) ⟨(show q_F (0 ≤ a40.toInt) from (show 0 ≤ a40.toInt from by have t1 : 0 ≤ lx8.toInt := i10; have t2 : a40.toInt = lx8.toInt + 1 := b42; omega)), (show q_F (a40.toInt ≤ N2.toInt) from (show a40.toInt ≤ N2.toInt from by have t1 : lx8.toInt < N2.toInt := b23; have t2 : a40.toInt = lx8.toInt + 1 := b42; omega)), V, q_lw hl (q_lw1 0 rfl (q_lw1 1 rfl (q_lw1 2 rfl q_lw0))), hI, hF, hO14, hO15, ⟨fm20, Nat.lt_of_lt_of_le (show (20200 - a40.toInt).toNat < (20200 - lx8.toInt).toNat from by have t1 : a40.toInt = lx8.toInt + 1 := b42; have t2 : 0 ≤ N2.toInt ∧ N2.toInt ≤ 20200 := hfk20; have t3 : lx8.toInt ≤ N2.toInt := i11; have t4 : lx8.toInt < N2.toInt := b23; omega) (Nat.le_of_lt_succ hf19), (show F_WR_copy_L2 N1 N2 t0_0 t1_0 fm20 a40 f38 = (F_WR_copy N1 N2 t0_0 t1_0) from Eq.trans (by rw [← e41, ← e39, ← e35, F_WR_copy_L2.eq_2, if_neg c21, if_neg c24]) hR16)⟩⟩
theorem d_19_7_0 : decode prog_19_method_7_code 0 = .ok (.aload_n 0, 1) := by decide +kernel
theorem d_19_7_1 : decode prog_19_method_7_code 1 = .ok (.arraylength, 1) := by decide +kernel
theorem d_19_7_2 : decode prog_19_method_7_code 2 = .ok (.istore_n 1, 1) := by decide +kernel
theorem d_19_7_3 : decode prog_19_method_7_code 3 = .ok (.iload_n 1, 1) := by decide +kernel
theorem d_19_7_4 : decode prog_19_method_7_code 4 = .ok (.ifCond .le 17, 3) := by decide +kernel
theorem d_19_7_21 : decode prog_19_method_7_code 21 = .ok (.iload_n 1, 1) := by decide +kernel
theorem d_19_7_22 : decode prog_19_method_7_code 22 = .ok (.ireturn, 1) := by decide +kernel
theorem d_19_7_7 : decode prog_19_method_7_code 7 = .ok (.aload_n 0, 1) := by decide +kernel
theorem d_19_7_8 : decode prog_19_method_7_code 8 = .ok (.iload_n 1, 1) := by decide +kernel
theorem d_19_7_9 : decode prog_19_method_7_code 9 = .ok (.iconst 1, 1) := by decide +kernel
theorem d_19_7_10 : decode prog_19_method_7_code 10 = .ok (.isub, 1) := by decide +kernel
theorem d_19_7_11 : decode prog_19_method_7_code 11 = .ok (.iaload, 1) := by decide +kernel
theorem d_19_7_12 : decode prog_19_method_7_code 12 = .ok (.ifCond .ne 9, 3) := by decide +kernel
theorem d_19_7_15 : decode prog_19_method_7_code 15 = .ok (.iinc 1 (-1), 3) := by decide +kernel
theorem d_19_7_18 : decode prog_19_method_7_code 18 = .ok (.goto (-15), 3) := by decide +kernel
def y_WR_size : MethodName := ⟨"NumberHouseModel$WholeRows", "size", "([I)I"⟩
def F_WR_size_L3 (N1 : Int32) (t0_0 : (Nat → Int32)) : Nat → Int32 → Int32
  | 0, _ => default
  | fm + 1, lx5 => if lx5 ≤ (0 : Int32) then (lx5) else (if (t0_0 (lx5 - 1 : Int32).toNatClampNeg : Int32) = (0 : Int32) then (F_WR_size_L3 N1 t0_0 fm (lx5 + (-1) : Int32)) else (lx5))
def F_WR_size (N1 : Int32) (t0_0 : (Nat → Int32)) : Int32 := F_WR_size_L3 N1 t0_0 ((N1.toInt - ((-1))).toNat + 1) N1
set_option maxRecDepth 100000 in
set_option maxHeartbeats 4000000 in
theorem X_WR_size (l : Launch) (D : va_G) (g : Nat → ClassId) (q : Nat → Nat) (ws : va_W) (k1 : Nat) (N1 : Int32) (hB1 : q_isRow (msh g q) g k1 N1) (hI : q_I (msh g q) q ws) (t0_0 : (Nat → Int32)) (hT0 : ws[k1]? = (some (q k1, .inl (g 0, N1.toNatClampNeg, .inl t0_0)) : Option (Nat × va_E))) : q_mI l y_WR_size prog_19_method_7_code 2 (.int) 1 0 0 D g [.ref (q k1)] ws (fun r u => ws = u ∧ (0 ≤ r.toInt) ∧ (r.toInt ≤ N1.toInt) ∧ r = (F_WR_size N1 t0_0)) := by
  intro sz
  refine q_into (by decide) (Nat.le_of_ble_eq_true rfl) ?_
  intro p e s m below meth c ls hsz C0 V hl
  have hx := C0.1
  have hb := C0.2.1
  have hfk10 : q_F (0 ≤ N1.toInt ∧ N1.toInt ≤ 20200) := hB1.2
  have hl : lv_has ls 2 [(0, .ref (q k1))] := hl
  refine lv_aload_n hx hb d_19_7_0 rfl (lv_at hl 0 rfl) ?_
  refine q_alen (t := 0) (v := N1) C0 V hT0 rfl (s_len (by first | with_reducible exact (q_fe hfk10).2 | with_reducible exact (q_fe hfk10).1 | (have t1 : 0 ≤ N1.toInt ∧ N1.toInt ≤ 20200 := hfk10; omega))) d_19_7_1 ?_
  refine lv_istore_n (lv' := [(1, .int N1), (0, .ref (q k1))]) hx hb d_19_7_2 rfl hl (by decide) rfl (fun ls hl => ?_)
  refine q_loop (X := Int32) (fun z H locs ls _ => q_F (0 ≤ z.toInt) ∧ q_F (z.toInt ≤ N1.toInt) ∧ q_Wd D g (va_A ws sz) s ws H locs ∧ lv_has ls 2 [(1, .int z), (0, .ref (q k1))] ∧ (∃ n, (z.toInt - ((-1))).toNat < n ∧ F_WR_size_L3 N1 t0_0 n z = (F_WR_size N1 t0_0))) (fun z => (z.toInt - ((-1))).toNat) ?_ ((N1 : Int32)) _ _ _ ws ⟨(show q_F (0 ≤ N1.toInt) from (show 0 ≤ N1.toInt from by have t1 : 0 ≤ N1.toInt ∧ N1.toInt ≤ 20200 := hfk10; omega)), (show q_F (N1.toInt ≤ N1.toInt) from (show N1.toInt ≤ N1.toInt from by omega)), V, q_lw hl (q_lw1 0 rfl (q_lw1 1 rfl q_lw0)), ⟨((N1.toInt - ((-1))).toNat + 1), Nat.lt_succ_self _, (show F_WR_size_L3 N1 t0_0 ((N1.toInt - ((-1))).toNat + 1) N1 = (F_WR_size N1 t0_0) from (by rw [F_WR_size.eq_1]))⟩⟩
  rintro lx5 H locs ls _ ⟨i6, i7, V, hl, ⟨fu11, hf12, hR9⟩⟩ ih8
  obtain ⟨fm13, rfl⟩ : ∃ m, fu11 = m + 1 := ⟨fu11 - 1, by omega⟩
  replace i6 : q_F (0 ≤ lx5.toInt) := i6
  replace i7 : q_F (lx5.toInt ≤ N1.toInt) := i7
  replace hl : lv_has ls 2 [(1, .int lx5), (0, .ref (q k1))] := hl
  refine lv_iload_n hx hb d_19_7_3 rfl (lv_at hl 0 rfl) ?_
  refine lv_if_le (tgt := 21) hx hb d_19_7_4 (by decide) (fun c14 => ?_) (fun c14 => ?_)
  ·
    refine lv_iload_n hx hb d_19_7_21 rfl (lv_at hl 0 rfl) ?_
    exact q_reti C0 V (⟨rfl, (show 0 ≤ lx5.toInt from (by first | with_reducible exact q_fe i6 | (have t1 : 0 ≤ lx5.toInt := i6; omega))), (show lx5.toInt ≤ N1.toInt from (by first | with_reducible exact q_fe i7 | (have t1 : lx5.toInt ≤ N1.toInt := i7; omega))), (show lx5 = (F_WR_size N1 t0_0) from Eq.trans (by rw [F_WR_size_L3.eq_2, if_pos c14]) hR9)⟩) d_19_7_22
  ·
    have b16 : q_F (0 < lx5.toInt) := (q_nleI c14)
    refine lv_aload_n hx hb d_19_7_7 rfl (lv_at hl 1 rfl) ?_
    refine lv_iload_n hx hb d_19_7_8 rfl (lv_at hl 0 rfl) ?_
    refine lv_iconst (v := 1) hx hb d_19_7_9 (by decide) ?_
    refine lv_isub hx hb d_19_7_10 ?_
    obtain ⟨a17, e18⟩ := q_nm (lx5 - 1 : Int32)
    refine q_ti (v := a17) e18 ?_
    have b19 : q_F (a17.toInt = lx5.toInt - 1) := (by rw [← e18]; show (lx5 - 1 : Int32).toInt = lx5.toInt - 1; exact q_subI (x := lx5.toInt) (y := 1) rfl (by decide) (by have t1 : 0 ≤ lx5.toInt := i6; have t2 : lx5.toInt ≤ N1.toInt := i7; have _ := q_lo32 (x := N1); have _ := q_hi32 (x := N1); omega) (by have t1 : 0 ≤ lx5.toInt := i6; have t2 : lx5.toInt ≤ N1.toInt := i7; have _ := q_lo32 (x := N1); have _ := q_hi32 (x := N1); omega))
    refine q_iald C0 V hT0 (q_ix (x := a17.toInt) rfl (by have t1 : 0 < lx5.toInt := b16; have t2 : a17.toInt = lx5.toInt - 1 := b19; omega) (by have t1 : 0 < lx5.toInt := b16; have t2 : a17.toInt = lx5.toInt - 1 := b19; have t3 : lx5.toInt ≤ N1.toInt := i7; have e9 := q_clI (i := N1) rfl (by first | with_reducible exact (q_fe hfk10).2 | with_reducible exact (q_fe hfk10).1 | (have t1 : 0 ≤ N1.toInt ∧ N1.toInt ≤ 20200 := hfk10; omega)); omega)) d_19_7_11 ?_
    obtain ⟨a20, e21⟩ := q_nm (t0_0 a17.toNatClampNeg : Int32)
    refine q_ti (v := a20) e21 ?_
    refine lv_if_ne (tgt := 21) hx hb d_19_7_12 (by decide) (fun c22 => ?_) (fun c22 => ?_)
    ·
      refine lv_iload_n hx hb d_19_7_21 rfl (lv_at hl 0 rfl) ?_
      exact q_reti C0 V (⟨rfl, (show 0 ≤ lx5.toInt from (by first | with_reducible exact q_fe i6 | (have t1 : 0 ≤ lx5.toInt := i6; omega))), (show lx5.toInt ≤ N1.toInt from (by first | with_reducible exact q_fe i7 | (have t1 : lx5.toInt ≤ N1.toInt := i7; omega))), (show lx5 = (F_WR_size N1 t0_0) from Eq.trans (by have c22x := c22; rw [← e21, ← e18] at c22x; rw [F_WR_size_L3.eq_2, if_neg c14, if_neg c22x]) hR9)⟩) d_19_7_22
    ·
      obtain ⟨a25, e26⟩ := q_nm (lx5 + (-1) : Int32)
      have b27 : q_F (a25.toInt = lx5.toInt + (-1)) := (by rw [← e26]; exact q_addI (y := (-1)) rfl (by decide) (by have t1 : 0 ≤ lx5.toInt := i6; have t2 : lx5.toInt ≤ N1.toInt := i7; have _ := q_lo32 (x := N1); have _ := q_hi32 (x := N1); omega) (by have t1 : 0 ≤ lx5.toInt := i6; have t2 : lx5.toInt ≤ N1.toInt := i7; have _ := q_lo32 (x := N1); have _ := q_hi32 (x := N1); omega))
      refine lv_iinc (v := a25) (lv' := [(1, .int a25), (0, .ref (q k1))]) hx hb d_19_7_15 hl (k := 0) rfl (e26) (by decide) rfl (fun ls hl => ?_)
      refine lv_goto (tgt := 3) hx hb d_19_7_18 (by decide) ?_
      exact ih8 ((a25 : Int32)) _ _ _ ws (show (a25.toInt - ((-1))).toNat < (lx5.toInt - ((-1))).toNat from by have t1 : a25.toInt = lx5.toInt + (-1) := b27; have t2 : 0 ≤ lx5.toInt := i6; omega) ⟨(show q_F (0 ≤ a25.toInt) from (show 0 ≤ a25.toInt from by have t1 : 0 < lx5.toInt := b16; have t2 : a25.toInt = lx5.toInt + (-1) := b27; omega)), (show q_F (a25.toInt ≤ N1.toInt) from (show a25.toInt ≤ N1.toInt from by have t1 : lx5.toInt ≤ N1.toInt := i7; have t2 : a25.toInt = lx5.toInt + (-1) := b27; omega)), V, q_lw hl (q_lw1 0 rfl (q_lw1 1 rfl q_lw0)), ⟨fm13, Nat.lt_of_lt_of_le (show (a25.toInt - ((-1))).toNat < (lx5.toInt - ((-1))).toNat from by have t1 : a25.toInt = lx5.toInt + (-1) := b27; have t2 : 0 ≤ lx5.toInt := i6; omega) (Nat.le_of_lt_succ hf12), (show F_WR_size_L3 N1 t0_0 fm13 a25 = (F_WR_size N1 t0_0) from Eq.trans (by have c22x := c22; rw [← e21, ← e18] at c22x; rw [← e26, F_WR_size_L3.eq_2, if_neg c14, if_pos c22x]) hR9)⟩⟩
theorem d_19_9_0 : decode prog_19_method_9_code 0 = .ok (.aload_n 0, 1) := by decide +kernel
theorem d_19_9_1 : decode prog_19_method_9_code 1 = .ok (.arraylength, 1) := by decide +kernel
theorem d_19_9_2 : decode prog_19_method_9_code 2 = .ok (.iconst 1, 1) := by decide +kernel
theorem d_19_9_3 : decode prog_19_method_9_code 3 = .ok (.isub, 1) := by decide +kernel
theorem d_19_9_4 : decode prog_19_method_9_code 4 = .ok (.istore_n 2, 1) := by decide +kernel
theorem d_19_9_5 : decode prog_19_method_9_code 5 = .ok (.iload_n 2, 1) := by decide +kernel
theorem d_19_9_6 : decode prog_19_method_9_code 6 = .ok (.ifCond .lt 33, 3) := by decide +kernel
theorem d_19_9_39 : decode prog_19_method_9_code 39 = .ok (.iconst 0, 1) := by decide +kernel
theorem d_19_9_40 : decode prog_19_method_9_code 40 = .ok (.ireturn, 1) := by decide +kernel
theorem d_19_9_9 : decode prog_19_method_9_code 9 = .ok (.aload_n 0, 1) := by decide +kernel
theorem d_19_9_10 : decode prog_19_method_9_code 10 = .ok (.iload_n 2, 1) := by decide +kernel
theorem d_19_9_11 : decode prog_19_method_9_code 11 = .ok (.iaload, 1) := by decide +kernel
theorem d_19_9_12 : decode prog_19_method_9_code 12 = .ok (.aload_n 1, 1) := by decide +kernel
theorem d_19_9_13 : decode prog_19_method_9_code 13 = .ok (.iload_n 2, 1) := by decide +kernel
theorem d_19_9_14 : decode prog_19_method_9_code 14 = .ok (.iaload, 1) := by decide +kernel
theorem d_19_9_15 : decode prog_19_method_9_code 15 = .ok (.if_icmp .eq 18, 3) := by decide +kernel
theorem d_19_9_33 : decode prog_19_method_9_code 33 = .ok (.iinc 2 (-1), 3) := by decide +kernel
theorem d_19_9_36 : decode prog_19_method_9_code 36 = .ok (.goto (-31), 3) := by decide +kernel
theorem d_19_9_18 : decode prog_19_method_9_code 18 = .ok (.aload_n 0, 1) := by decide +kernel
theorem d_19_9_19 : decode prog_19_method_9_code 19 = .ok (.iload_n 2, 1) := by decide +kernel
theorem d_19_9_20 : decode prog_19_method_9_code 20 = .ok (.iaload, 1) := by decide +kernel
theorem d_19_9_21 : decode prog_19_method_9_code 21 = .ok (.aload_n 1, 1) := by decide +kernel
theorem d_19_9_22 : decode prog_19_method_9_code 22 = .ok (.iload_n 2, 1) := by decide +kernel
theorem d_19_9_23 : decode prog_19_method_9_code 23 = .ok (.iaload, 1) := by decide +kernel
theorem d_19_9_24 : decode prog_19_method_9_code 24 = .ok (.if_icmp .ge 7, 3) := by decide +kernel
theorem d_19_9_31 : decode prog_19_method_9_code 31 = .ok (.iconst 1, 1) := by decide +kernel
theorem d_19_9_32 : decode prog_19_method_9_code 32 = .ok (.ireturn, 1) := by decide +kernel
theorem d_19_9_27 : decode prog_19_method_9_code 27 = .ok (.iconst (-1), 1) := by decide +kernel
theorem d_19_9_28 : decode prog_19_method_9_code 28 = .ok (.goto 4, 3) := by decide +kernel
def y_WR_compareRows : MethodName := ⟨"NumberHouseModel$WholeRows", "compareRows", "([I[I)I"⟩
def F_WR_compareRows_L5 (N1 : Int32) (N2 : Int32) (t0_0 : (Nat → Int32)) (t1_0 : (Nat → Int32)) : Nat → Int32 → Int32
  | 0, _ => default
  | fm + 1, lx11 => if lx11 < (0 : Int32) then ((0 : Int32)) else (if (t0_0 lx11.toNatClampNeg : Int32) = (t1_0 lx11.toNatClampNeg : Int32) then (F_WR_compareRows_L5 N1 N2 t0_0 t1_0 fm (lx11 + (-1) : Int32)) else (if (t1_0 lx11.toNatClampNeg : Int32) ≤ (t0_0 lx11.toNatClampNeg : Int32) then ((1 : Int32)) else ((-1 : Int32))))
def F_WR_compareRows (N1 : Int32) (N2 : Int32) (t0_0 : (Nat → Int32)) (t1_0 : (Nat → Int32)) : Int32 := F_WR_compareRows_L5 N1 N2 t0_0 t1_0 (((N1 - 1 : Int32).toInt - ((-1))).toNat + 1) (N1 - 1 : Int32)
def S_WR_compareRows_L5 (N1 : Int32) (N2 : Int32) (t0_0 : (Nat → Int32)) (t1_0 : (Nat → Int32)) : Nat → Int32 → Prop
  | 0, _ => False
  | fm + 1, lx11 => if lx11 < (0 : Int32) then (True) else ((lx11.toInt + 1 ≤ N2.toInt) ∧ (if (t0_0 lx11.toNatClampNeg : Int32) = (t1_0 lx11.toNatClampNeg : Int32) then (S_WR_compareRows_L5 N1 N2 t0_0 t1_0 fm (lx11 + (-1) : Int32)) else (if (t1_0 lx11.toNatClampNeg : Int32) ≤ (t0_0 lx11.toNatClampNeg : Int32) then (True) else (True))))
def S_WR_compareRows (N1 : Int32) (N2 : Int32) (t0_0 : (Nat → Int32)) (t1_0 : (Nat → Int32)) : Prop := S_WR_compareRows_L5 N1 N2 t0_0 t1_0 (((N1 - 1 : Int32).toInt - ((-1))).toNat + 1) (N1 - 1 : Int32)
set_option maxRecDepth 100000 in
set_option maxHeartbeats 4000000 in
theorem X_WR_compareRows (l : Launch) (D : va_G) (g : Nat → ClassId) (q : Nat → Nat) (ws : va_W) (k1 : Nat) (N1 : Int32) (hB1 : q_isRow (msh g q) g k1 N1) (k2 : Nat) (N2 : Int32) (hB2 : q_isRow (msh g q) g k2 N2) (hI : q_I (msh g q) q ws) (t0_0 : (Nat → Int32)) (hT0 : ws[k1]? = (some (q k1, .inl (g 0, N1.toNatClampNeg, .inl t0_0)) : Option (Nat × va_E))) (t1_0 : (Nat → Int32)) (hT1 : ws[k2]? = (some (q k2, .inl (g 0, N2.toNatClampNeg, .inl t1_0)) : Option (Nat × va_E))) (hS : True ∧ S_WR_compareRows N1 N2 t0_0 t1_0) : q_mI l y_WR_compareRows prog_19_method_9_code 3 (.int) 1 0 0 D g [.ref (q k1), .ref (q k2)] ws (fun r u => ws = u ∧ (0 ≤ r.toInt + 1) ∧ (r.toInt ≤ 1) ∧ (r.toInt ≤ N1.toInt) ∧ (r.toInt ≤ N2.toInt) ∧ r = (F_WR_compareRows N1 N2 t0_0 t1_0)) := by
  intro sz
  refine q_into (by decide) (Nat.le_of_ble_eq_true rfl) ?_
  intro p e s m below meth c ls hsz C0 V hl
  have hx := C0.1
  have hb := C0.2.1
  have hfk10 : q_F (0 ≤ N1.toInt ∧ N1.toInt ≤ 20200) := hB1.2
  have hfk20 : q_F (0 ≤ N2.toInt ∧ N2.toInt ≤ 20200) := hB2.2
  have hl : lv_has ls 3 [(0, .ref (q k1)), (1, .ref (q k2))] := hl
  refine lv_aload_n hx hb d_19_9_0 rfl (lv_at hl 0 rfl) ?_
  refine q_alen (t := 0) (v := N1) C0 V hT0 rfl (s_len (by first | with_reducible exact (q_fe hfk10).2 | with_reducible exact (q_fe hfk10).1 | (have t1 : 0 ≤ N1.toInt ∧ N1.toInt ≤ 20200 := hfk10; omega))) d_19_9_1 ?_
  refine lv_iconst (v := 1) hx hb d_19_9_2 (by decide) ?_
  refine lv_isub hx hb d_19_9_3 ?_
  obtain ⟨a7, e8⟩ := q_nm (N1 - 1 : Int32)
  refine q_ti (v := a7) e8 ?_
  have b9 : q_F (a7.toInt = N1.toInt - 1) := (by rw [← e8]; show (N1 - 1 : Int32).toInt = N1.toInt - 1; exact q_subI (x := N1.toInt) (y := 1) rfl (by decide) (by first | with_reducible exact (q_fe hfk10).2 | with_reducible exact (q_fe hfk10).1 | (have t1 : 0 ≤ N1.toInt ∧ N1.toInt ≤ 20200 := hfk10; omega)) (by first | with_reducible exact (q_fe hfk10).2 | with_reducible exact (q_fe hfk10).1 | (have t1 : 0 ≤ N1.toInt ∧ N1.toInt ≤ 20200 := hfk10; omega)))
  refine lv_istore_n (lv' := [(2, .int a7), (0, .ref (q k1)), (1, .ref (q k2))]) hx hb d_19_9_4 rfl hl (by decide) rfl (fun ls hl => ?_)
  refine q_loop (X := Int32) (fun z H locs ls _ => q_F (0 ≤ z.toInt + 1) ∧ q_F (z.toInt + 1 ≤ N1.toInt) ∧ q_Wd D g (va_A ws sz) s ws H locs ∧ lv_has ls 3 [(2, .int z), (0, .ref (q k1)), (1, .ref (q k2))] ∧ (∃ n, (z.toInt - ((-1))).toNat < n ∧ F_WR_compareRows_L5 N1 N2 t0_0 t1_0 n z = (F_WR_compareRows N1 N2 t0_0 t1_0) ∧ True ∧ S_WR_compareRows_L5 N1 N2 t0_0 t1_0 n z)) (fun z => (z.toInt - ((-1))).toNat) ?_ ((a7 : Int32)) _ _ _ ws ⟨(show q_F (0 ≤ a7.toInt + 1) from (show 0 ≤ a7.toInt + 1 from by have t1 : 0 ≤ N1.toInt ∧ N1.toInt ≤ 20200 := hfk10; have t2 : a7.toInt = N1.toInt - 1 := b9; omega)), (show q_F (a7.toInt + 1 ≤ N1.toInt) from (show a7.toInt + 1 ≤ N1.toInt from by have t1 : a7.toInt = N1.toInt - 1 := b9; omega)), V, q_lw hl (q_lw1 0 rfl (q_lw1 1 rfl (q_lw1 2 rfl q_lw0))), ⟨((a7.toInt - ((-1))).toNat + 1), Nat.lt_succ_self _, (show F_WR_compareRows_L5 N1 N2 t0_0 t1_0 ((a7.toInt - ((-1))).toNat + 1) a7 = (F_WR_compareRows N1 N2 t0_0 t1_0) from (by rw [← e8, F_WR_compareRows.eq_1])), (show True ∧ S_WR_compareRows_L5 N1 N2 t0_0 t1_0 ((a7.toInt - ((-1))).toNat + 1) a7 from (by rw [← e8]; have h := hS; rw [S_WR_compareRows.eq_1] at h; with_reducible exact h))⟩⟩
  rintro lx11 H locs ls _ ⟨i12, i13, V, hl, ⟨fu17, hf18, hR15, hS16⟩⟩ ih14
  obtain ⟨fm19, rfl⟩ : ∃ m, fu17 = m + 1 := ⟨fu17 - 1, by omega⟩
  replace i12 : q_F (0 ≤ lx11.toInt + 1) := i12
  replace i13 : q_F (lx11.toInt + 1 ≤ N1.toInt) := i13
  replace hl : lv_has ls 3 [(2, .int lx11), (0, .ref (q k1)), (1, .ref (q k2))] := hl
  refine lv_iload_n hx hb d_19_9_5 rfl (lv_at hl 0 rfl) ?_
  refine lv_if_lt (tgt := 39) hx hb d_19_9_6 (by decide) (fun c20 => ?_) (fun c20 => ?_)
  ·
    refine lv_iconst (v := 0) hx hb d_19_9_39 (by decide) ?_
    exact q_reti C0 V (⟨rfl, (show 0 ≤ (0 : Int32).toInt + 1 from (by have z4 : (0 : Int32).toInt = 0 := rfl; omega)), (show (0 : Int32).toInt ≤ 1 from (by have z4 : (0 : Int32).toInt = 0 := rfl; omega)), (show (0 : Int32).toInt ≤ N1.toInt from (by have z4 : (0 : Int32).toInt = 0 := rfl; have t1 : 0 ≤ N1.toInt ∧ N1.toInt ≤ 20200 := hfk10; omega)), (show (0 : Int32).toInt ≤ N2.toInt from (by have z4 : (0 : Int32).toInt = 0 := rfl; have t1 : 0 ≤ N2.toInt ∧ N2.toInt ≤ 20200 := hfk20; omega)), (show (0 : Int32) = (F_WR_compareRows N1 N2 t0_0 t1_0) from Eq.trans (by rw [F_WR_compareRows_L5.eq_2, if_pos c20]) hR15)⟩) d_19_9_40
  ·
    have b22 : q_F (0 ≤ lx11.toInt) := (q_nltI c20)
    refine lv_aload_n hx hb d_19_9_9 rfl (lv_at hl 1 rfl) ?_
    refine lv_iload_n hx hb d_19_9_10 rfl (lv_at hl 0 rfl) ?_
    refine q_iald C0 V hT0 (q_ix (x := lx11.toInt) rfl (by first | with_reducible exact q_fe b22 | (have t1 : 0 ≤ lx11.toInt := b22; omega)) (by have t1 : 0 ≤ lx11.toInt := b22; have t2 : lx11.toInt + 1 ≤ N1.toInt := i13; have e9 := q_clI (i := N1) rfl (by first | with_reducible exact (q_fe hfk10).2 | with_reducible exact (q_fe hfk10).1 | (have t1 : 0 ≤ N1.toInt ∧ N1.toInt ≤ 20200 := hfk10; omega)); omega)) d_19_9_11 ?_
    obtain ⟨a23, e24⟩ := q_nm (t0_0 lx11.toNatClampNeg : Int32)
    refine q_ti (v := a23) e24 ?_
    refine lv_aload_n hx hb d_19_9_12 rfl (lv_at hl 2 rfl) ?_
    refine lv_iload_n hx hb d_19_9_13 rfl (lv_at hl 0 rfl) ?_
    have ob25 : q_F (lx11.toInt + 1 ≤ N2.toInt) := (by have h := hS16; rw [S_WR_compareRows_L5.eq_2] at h; rw [if_neg c20] at h; exact h.2.1)
    refine q_iald C0 V hT1 (q_ix (x := lx11.toInt) rfl (by first | with_reducible exact q_fe b22 | (have t1 : 0 ≤ lx11.toInt := b22; omega)) (by have t1 : 0 ≤ lx11.toInt := b22; have t2 : lx11.toInt + 1 ≤ N2.toInt := ob25; have e9 := q_clI (i := N2) rfl (by first | with_reducible exact (q_fe hfk20).2 | with_reducible exact (q_fe hfk20).1 | (have t1 : 0 ≤ N2.toInt ∧ N2.toInt ≤ 20200 := hfk20; omega)); omega)) d_19_9_14 ?_
    obtain ⟨a26, e27⟩ := q_nm (t1_0 lx11.toNatClampNeg : Int32)
    refine q_ti (v := a26) e27 ?_
    refine lv_icmp_eq (tgt := 33) hx hb d_19_9_15 (by decide) (fun c28 => ?_) (fun c28 => ?_)
    ·
      obtain ⟨a30, e31⟩ := q_nm (lx11 + (-1) : Int32)
      have b32 : q_F (a30.toInt = lx11.toInt + (-1)) := (by rw [← e31]; exact q_addI (y := (-1)) rfl (by decide) (by have t1 : 0 ≤ lx11.toInt + 1 := i12; have t2 : lx11.toInt + 1 ≤ N1.toInt := i13; have _ := q_lo32 (x := N1); have _ := q_hi32 (x := N1); omega) (by have t1 : 0 ≤ lx11.toInt + 1 := i12; have t2 : lx11.toInt + 1 ≤ N1.toInt := i13; have _ := q_lo32 (x := N1); have _ := q_hi32 (x := N1); omega))
      refine lv_iinc (v := a30) (lv' := [(2, .int a30), (0, .ref (q k1)), (1, .ref (q k2))]) hx hb d_19_9_33 hl (k := 0) rfl (e31) (by decide) rfl (fun ls hl => ?_)
      refine lv_goto (tgt := 5) hx hb d_19_9_36 (by decide) ?_
      exact ih14 ((a30 : Int32)) _ _ _ ws (show (a30.toInt - ((-1))).toNat < (lx11.toInt - ((-1))).toNat from by have t1 : a30.toInt = lx11.toInt + (-1) := b32; have t2 : 0 ≤ lx11.toInt + 1 := i12; have t3 : 0 ≤ lx11.toInt := b22; omega) ⟨(show q_F (0 ≤ a30.toInt + 1) from (show 0 ≤ a30.toInt + 1 from by have t1 : 0 ≤ lx11.toInt := b22; have t2 : a30.toInt = lx11.toInt + (-1) := b32; omega)), (show q_F (a30.toInt + 1 ≤ N1.toInt) from (show a30.toInt + 1 ≤ N1.toInt from by have t1 : lx11.toInt + 1 ≤ N1.toInt := i13; have t2 : a30.toInt = lx11.toInt + (-1) := b32; omega)), V, q_lw hl (q_lw1 0 rfl (q_lw1 1 rfl (q_lw1 2 rfl q_lw0))), ⟨fm19, Nat.lt_of_lt_of_le (show (a30.toInt - ((-1))).toNat < (lx11.toInt - ((-1))).toNat from by have t1 : a30.toInt = lx11.toInt + (-1) := b32; have t2 : 0 ≤ lx11.toInt + 1 := i12; have t3 : 0 ≤ lx11.toInt := b22; omega) (Nat.le_of_lt_succ hf18), (show F_WR_compareRows_L5 N1 N2 t0_0 t1_0 fm19 a30 = (F_WR_compareRows N1 N2 t0_0 t1_0) from Eq.trans (by have c28x := c28; rw [← e27, ← e24] at c28x; rw [← e31, F_WR_compareRows_L5.eq_2, if_neg c20, if_pos c28x]) hR15), (show True ∧ S_WR_compareRows_L5 N1 N2 t0_0 t1_0 fm19 a30 from (by rw [← e31]; have h := hS16; rw [S_WR_compareRows_L5.eq_2] at h; rw [if_neg c20] at h; replace h := q_s2 h; have c28x := c28; rw [← e27, ← e24] at c28x; rw [if_pos c28x] at h; with_reducible exact h))⟩⟩
    ·
      refine lv_aload_n hx hb d_19_9_18 rfl (lv_at hl 1 rfl) ?_
      refine lv_iload_n hx hb d_19_9_19 rfl (lv_at hl 0 rfl) ?_
      refine q_iald C0 V hT0 (q_ix (x := lx11.toInt) rfl (by first | with_reducible exact q_fe b22 | (have t1 : 0 ≤ lx11.toInt := b22; omega)) (by have t1 : 0 ≤ lx11.toInt := b22; have t2 : lx11.toInt + 1 ≤ N1.toInt := i13; have e9 := q_clI (i := N1) rfl (by first | with_reducible exact (q_fe hfk10).2 | with_reducible exact (q_fe hfk10).1 | (have t1 : 0 ≤ N1.toInt ∧ N1.toInt ≤ 20200 := hfk10; omega)); omega)) d_19_9_20 ?_
      obtain ⟨a34, e35⟩ := q_nm (t0_0 lx11.toNatClampNeg : Int32)
      refine q_ti (v := a34) e35 ?_
      refine lv_aload_n hx hb d_19_9_21 rfl (lv_at hl 2 rfl) ?_
      refine lv_iload_n hx hb d_19_9_22 rfl (lv_at hl 0 rfl) ?_
      refine q_iald C0 V hT1 (q_ix (x := lx11.toInt) rfl (by first | with_reducible exact q_fe b22 | (have t1 : 0 ≤ lx11.toInt := b22; omega)) (by have t1 : 0 ≤ lx11.toInt := b22; have t2 : lx11.toInt + 1 ≤ N2.toInt := ob25; have e9 := q_clI (i := N2) rfl (by first | with_reducible exact (q_fe hfk20).2 | with_reducible exact (q_fe hfk20).1 | (have t1 : 0 ≤ N2.toInt ∧ N2.toInt ≤ 20200 := hfk20; omega)); omega)) d_19_9_23 ?_
      obtain ⟨a36, e37⟩ := q_nm (t1_0 lx11.toNatClampNeg : Int32)
      refine q_ti (v := a36) e37 ?_
      refine lv_icmp_ge (tgt := 31) hx hb d_19_9_24 (by decide) (fun c38 => ?_) (fun c38 => ?_)
      ·
        refine lv_iconst (v := 1) hx hb d_19_9_31 (by decide) ?_
        exact q_reti C0 V (⟨rfl, (show 0 ≤ (1 : Int32).toInt + 1 from (by have z4 : (1 : Int32).toInt = 1 := rfl; omega)), (show (1 : Int32).toInt ≤ 1 from (by have z4 : (1 : Int32).toInt = 1 := rfl; omega)), (show (1 : Int32).toInt ≤ N1.toInt from (by have z4 : (1 : Int32).toInt = 1 := rfl; have t1 : lx11.toInt + 1 ≤ N1.toInt := i13; have t2 : 0 ≤ lx11.toInt := b22; omega)), (show (1 : Int32).toInt ≤ N2.toInt from (by have z4 : (1 : Int32).toInt = 1 := rfl; have t1 : 0 ≤ lx11.toInt := b22; have t2 : lx11.toInt + 1 ≤ N2.toInt := ob25; omega)), (show (1 : Int32) = (F_WR_compareRows N1 N2 t0_0 t1_0) from Eq.trans (by have c28x := c28; rw [← e27, ← e24] at c28x; have c38x := c38; rw [← e37, ← e35] at c38x; rw [F_WR_compareRows_L5.eq_2, if_neg c20, if_neg c28x, if_pos c38x]) hR15)⟩) d_19_9_32
      ·
        refine lv_iconst (v := (-1)) hx hb d_19_9_27 (by decide) ?_
        refine lv_goto (tgt := 32) hx hb d_19_9_28 (by decide) ?_
        exact q_reti C0 V (⟨rfl, (show 0 ≤ (-1 : Int32).toInt + 1 from (by have z4 : (-1 : Int32).toInt = -1 := rfl; omega)), (show (-1 : Int32).toInt ≤ 1 from (by have z4 : (-1 : Int32).toInt = -1 := rfl; omega)), (show (-1 : Int32).toInt ≤ N1.toInt from (by have z4 : (-1 : Int32).toInt = -1 := rfl; have t1 : 0 ≤ N1.toInt ∧ N1.toInt ≤ 20200 := hfk10; omega)), (show (-1 : Int32).toInt ≤ N2.toInt from (by have z4 : (-1 : Int32).toInt = -1 := rfl; have t1 : 0 ≤ N2.toInt ∧ N2.toInt ≤ 20200 := hfk20; omega)), (show (-1 : Int32) = (F_WR_compareRows N1 N2 t0_0 t1_0) from Eq.trans (by have c28x := c28; rw [← e27, ← e24] at c28x; have c38x := c38; rw [← e37, ← e35] at c38x; rw [F_WR_compareRows_L5.eq_2, if_neg c20, if_neg c28x, if_neg c38x]) hR15)⟩) d_19_9_32
theorem d_19_10_0 : decode prog_19_method_10_code 0 = .ok (.lconst 0, 1) := by decide +kernel
theorem d_19_10_1 : decode prog_19_method_10_code 1 = .ok (.lstore 6, 2) := by decide +kernel
theorem d_19_10_3 : decode prog_19_method_10_code 3 = .ok (.iconst 0, 1) := by decide +kernel
theorem d_19_10_4 : decode prog_19_method_10_code 4 = .ok (.istore 8, 2) := by decide +kernel
theorem d_19_10_6 : decode prog_19_method_10_code 6 = .ok (.iload 8, 2) := by decide +kernel
theorem d_19_10_8 : decode prog_19_method_10_code 8 = .ok (.aload_n 0, 1) := by decide +kernel
theorem d_19_10_9 : decode prog_19_method_10_code 9 = .ok (.arraylength, 1) := by decide +kernel
theorem d_19_10_10 : decode prog_19_method_10_code 10 = .ok (.if_icmp .ge 83, 3) := by decide +kernel
theorem d_19_10_93 : decode prog_19_method_10_code 93 = .ok (.return_, 1) := by decide +kernel
theorem d_19_10_13 : decode prog_19_method_10_code 13 = .ok (.iload 8, 2) := by decide +kernel
theorem d_19_10_15 : decode prog_19_method_10_code 15 = .ok (.iload_n 2, 1) := by decide +kernel
theorem d_19_10_26 : decode prog_19_method_10_code 26 = .ok (.iload 8, 2) := by decide +kernel
theorem d_19_10_28 : decode prog_19_method_10_code 28 = .ok (.iload_n 2, 1) := by decide +kernel
theorem d_19_10_43 : decode prog_19_method_10_code 43 = .ok (.lstore 9, 2) := by decide +kernel
theorem d_19_10_45 : decode prog_19_method_10_code 45 = .ok (.lload 6, 2) := by decide +kernel
theorem d_19_10_47 : decode prog_19_method_10_code 47 = .ok (.aload_n 0, 1) := by decide +kernel
theorem d_19_10_48 : decode prog_19_method_10_code 48 = .ok (.iload 8, 2) := by decide +kernel
theorem d_19_10_50 : decode prog_19_method_10_code 50 = .ok (.iaload, 1) := by decide +kernel
theorem d_19_10_51 : decode prog_19_method_10_code 51 = .ok (.i2l, 1) := by decide +kernel
theorem d_19_10_52 : decode prog_19_method_10_code 52 = .ok (.ladd, 1) := by decide +kernel
theorem d_19_10_53 : decode prog_19_method_10_code 53 = .ok (.iload 5, 2) := by decide +kernel
theorem d_19_10_66 : decode prog_19_method_10_code 66 = .ok (.ladd, 1) := by decide +kernel
theorem d_19_10_67 : decode prog_19_method_10_code 67 = .ok (.lstore 6, 2) := by decide +kernel
theorem d_19_10_69 : decode prog_19_method_10_code 69 = .ok (.aload_n 0, 1) := by decide +kernel
theorem d_19_10_70 : decode prog_19_method_10_code 70 = .ok (.iload 8, 2) := by decide +kernel
theorem d_19_10_72 : decode prog_19_method_10_code 72 = .ok (.lload 6, 2) := by decide +kernel
theorem d_19_10_74 : decode prog_19_method_10_code 74 = .ok (.ldc2_w 57, 3) := by decide +kernel
set_option maxRecDepth 100000 in
theorem w_2384 : (Cond.constantLong "NumberHouseModel$WholeRows" (57 : Nat) (65535 : Int64)) ∈ q_tbl := q_of10 224 rfl (by decide +kernel)
theorem d_19_10_77 : decode prog_19_method_10_code 77 = .ok (.land, 1) := by decide +kernel
theorem d_19_10_78 : decode prog_19_method_10_code 78 = .ok (.l2i, 1) := by decide +kernel
theorem d_19_10_79 : decode prog_19_method_10_code 79 = .ok (.iastore, 1) := by decide +kernel
theorem d_19_10_80 : decode prog_19_method_10_code 80 = .ok (.lload 6, 2) := by decide +kernel
theorem d_19_10_82 : decode prog_19_method_10_code 82 = .ok (.bipush 16, 2) := by decide +kernel
theorem d_19_10_84 : decode prog_19_method_10_code 84 = .ok (.lshr, 1) := by decide +kernel
theorem d_19_10_85 : decode prog_19_method_10_code 85 = .ok (.lstore 6, 2) := by decide +kernel
theorem d_19_10_87 : decode prog_19_method_10_code 87 = .ok (.iinc 8 1, 3) := by decide +kernel
theorem d_19_10_90 : decode prog_19_method_10_code 90 = .ok (.goto (-84), 3) := by decide +kernel
theorem d_19_10_55 : decode prog_19_method_10_code 55 = .ok (.ifCond .eq 9, 3) := by decide +kernel
theorem d_19_10_64 : decode prog_19_method_10_code 64 = .ok (.lload 9, 2) := by decide +kernel
theorem d_19_10_58 : decode prog_19_method_10_code 58 = .ok (.lload 9, 2) := by decide +kernel
theorem d_19_10_60 : decode prog_19_method_10_code 60 = .ok (.lneg, 1) := by decide +kernel
theorem d_19_10_61 : decode prog_19_method_10_code 61 = .ok (.goto 5, 3) := by decide +kernel
theorem d_19_10_29 : decode prog_19_method_10_code 29 = .ok (.if_icmp .ge 13, 3) := by decide +kernel
theorem d_19_10_42 : decode prog_19_method_10_code 42 = .ok (.lconst 0, 1) := by decide +kernel
theorem d_19_10_32 : decode prog_19_method_10_code 32 = .ok (.aload_n 1, 1) := by decide +kernel
theorem d_19_10_33 : decode prog_19_method_10_code 33 = .ok (.iload 8, 2) := by decide +kernel
theorem d_19_10_35 : decode prog_19_method_10_code 35 = .ok (.iaload, 1) := by decide +kernel
theorem d_19_10_36 : decode prog_19_method_10_code 36 = .ok (.i2l, 1) := by decide +kernel
theorem d_19_10_37 : decode prog_19_method_10_code 37 = .ok (.lload_n 3, 1) := by decide +kernel
theorem d_19_10_38 : decode prog_19_method_10_code 38 = .ok (.lmul, 1) := by decide +kernel
theorem d_19_10_39 : decode prog_19_method_10_code 39 = .ok (.goto 4, 3) := by decide +kernel
theorem d_19_10_16 : decode prog_19_method_10_code 16 = .ok (.if_icmp .lt 10, 3) := by decide +kernel
theorem d_19_10_19 : decode prog_19_method_10_code 19 = .ok (.lload 6, 2) := by decide +kernel
theorem d_19_10_21 : decode prog_19_method_10_code 21 = .ok (.lconst 0, 1) := by decide +kernel
theorem d_19_10_22 : decode prog_19_method_10_code 22 = .ok (.lcmp, 1) := by decide +kernel
theorem d_19_10_23 : decode prog_19_method_10_code 23 = .ok (.ifCond .eq 70, 3) := by decide +kernel
def y_WR_join : MethodName := ⟨"NumberHouseModel$WholeRows", "join", "([I[IIJZ)V"⟩
def F_WR_join_J66 (K_F_WR_join_L6 : Int32 → Int64 → (Nat → Int32) → (Nat → Int32)) (N1 : Int32) (N2 : Int32) (x3 : Int32) (x4 : Int64) (x5 : Int32) (t0_0 : (Nat → Int32)) (t1_0 : (Nat → Int32)) (lx9 : Int32) (lx10 : Int64) (lx11 : (Nat → Int32)) (lx34 : Int64) (j48 : Int64) (lx50 : Int64) : (Nat → Int32) := K_F_WR_join_L6 (lx9 + 1 : Int32) ((j48 + lx50 : Int64) >>> ((16 : Int32).toInt64 &&& 63) : Int64) (upd lx11 lx9.toNatClampNeg (((j48 + lx50 : Int64) &&& 65535 : Int64).toInt32 : Int32) : (Nat → Int32))
def F_WR_join_J43 (K_F_WR_join_L6 : Int32 → Int64 → (Nat → Int32) → (Nat → Int32)) (N1 : Int32) (N2 : Int32) (x3 : Int32) (x4 : Int64) (x5 : Int32) (t0_0 : (Nat → Int32)) (t1_0 : (Nat → Int32)) (lx9 : Int32) (lx10 : Int64) (lx11 : (Nat → Int32)) (lx34 : Int64) : (Nat → Int32) := if x5 = (0 : Int32) then (F_WR_join_J66 K_F_WR_join_L6 N1 N2 x3 x4 x5 t0_0 t1_0 lx9 lx10 lx11 lx34 (lx10 + ((lx11 lx9.toNatClampNeg : Int32).toInt64 : Int64) : Int64) lx34) else (F_WR_join_J66 K_F_WR_join_L6 N1 N2 x3 x4 x5 t0_0 t1_0 lx9 lx10 lx11 lx34 (lx10 + ((lx11 lx9.toNatClampNeg : Int32).toInt64 : Int64) : Int64) (-lx34 : Int64))
def F_WR_join_J26 (K_F_WR_join_L6 : Int32 → Int64 → (Nat → Int32) → (Nat → Int32)) (N1 : Int32) (N2 : Int32) (x3 : Int32) (x4 : Int64) (x5 : Int32) (t0_0 : (Nat → Int32)) (t1_0 : (Nat → Int32)) (lx9 : Int32) (lx10 : Int64) (lx11 : (Nat → Int32)) : (Nat → Int32) := if x3 ≤ lx9 then (F_WR_join_J43 K_F_WR_join_L6 N1 N2 x3 x4 x5 t0_0 t1_0 lx9 lx10 lx11 0) else (F_WR_join_J43 K_F_WR_join_L6 N1 N2 x3 x4 x5 t0_0 t1_0 lx9 lx10 lx11 (((t1_0 lx9.toNatClampNeg : Int32).toInt64 : Int64) * x4 : Int64))
def F_WR_join_L6 (N1 : Int32) (N2 : Int32) (x3 : Int32) (x4 : Int64) (x5 : Int32) (t0_0 : (Nat → Int32)) (t1_0 : (Nat → Int32)) : Nat → Int32 → Int64 → (Nat → Int32) → (Nat → Int32)
  | 0, _, _, _ => default
  | fm + 1, lx9, lx10, lx11 => if N1 ≤ lx9 then (lx11) else (if lx9 < x3 then (F_WR_join_J26 (F_WR_join_L6 N1 N2 x3 x4 x5 t0_0 t1_0 fm) N1 N2 x3 x4 x5 t0_0 t1_0 lx9 lx10 lx11) else (if (lg_cmp lx10 0 : Int32) = (0 : Int32) then (lx11) else (F_WR_join_J26 (F_WR_join_L6 N1 N2 x3 x4 x5 t0_0 t1_0 fm) N1 N2 x3 x4 x5 t0_0 t1_0 lx9 lx10 lx11)))
def F_WR_join (N1 : Int32) (N2 : Int32) (x3 : Int32) (x4 : Int64) (x5 : Int32) (t0_0 : (Nat → Int32)) (t1_0 : (Nat → Int32)) : (Nat → Int32) := F_WR_join_L6 N1 N2 x3 x4 x5 t0_0 t1_0 ((20200 - (0 : Int32).toInt).toNat + 1) 0 0 t0_0
def S_WR_join_J66 (K_S_WR_join_L6 : Int32 → Int64 → (Nat → Int32) → Prop) (N1 : Int32) (N2 : Int32) (x3 : Int32) (x4 : Int64) (x5 : Int32) (t0_0 : (Nat → Int32)) (t1_0 : (Nat → Int32)) (lx9 : Int32) (lx10 : Int64) (lx11 : (Nat → Int32)) (lx34 : Int64) (j48 : Int64) (lx50 : Int64) : Prop := K_S_WR_join_L6 (lx9 + 1 : Int32) ((j48 + lx50 : Int64) >>> ((16 : Int32).toInt64 &&& 63) : Int64) (upd lx11 lx9.toNatClampNeg (((j48 + lx50 : Int64) &&& 65535 : Int64).toInt32 : Int32) : (Nat → Int32))
def S_WR_join_J43 (K_S_WR_join_L6 : Int32 → Int64 → (Nat → Int32) → Prop) (N1 : Int32) (N2 : Int32) (x3 : Int32) (x4 : Int64) (x5 : Int32) (t0_0 : (Nat → Int32)) (t1_0 : (Nat → Int32)) (lx9 : Int32) (lx10 : Int64) (lx11 : (Nat → Int32)) (lx34 : Int64) : Prop := if x5 = (0 : Int32) then (S_WR_join_J66 K_S_WR_join_L6 N1 N2 x3 x4 x5 t0_0 t1_0 lx9 lx10 lx11 lx34 (lx10 + ((lx11 lx9.toNatClampNeg : Int32).toInt64 : Int64) : Int64) lx34) else (S_WR_join_J66 K_S_WR_join_L6 N1 N2 x3 x4 x5 t0_0 t1_0 lx9 lx10 lx11 lx34 (lx10 + ((lx11 lx9.toNatClampNeg : Int32).toInt64 : Int64) : Int64) (-lx34 : Int64))
def S_WR_join_J26 (K_S_WR_join_L6 : Int32 → Int64 → (Nat → Int32) → Prop) (N1 : Int32) (N2 : Int32) (x3 : Int32) (x4 : Int64) (x5 : Int32) (t0_0 : (Nat → Int32)) (t1_0 : (Nat → Int32)) (lx9 : Int32) (lx10 : Int64) (lx11 : (Nat → Int32)) : Prop := if x3 ≤ lx9 then (S_WR_join_J43 K_S_WR_join_L6 N1 N2 x3 x4 x5 t0_0 t1_0 lx9 lx10 lx11 0) else ((lx9.toInt + 1 ≤ N2.toInt) ∧ (S_WR_join_J43 K_S_WR_join_L6 N1 N2 x3 x4 x5 t0_0 t1_0 lx9 lx10 lx11 (((t1_0 lx9.toNatClampNeg : Int32).toInt64 : Int64) * x4 : Int64)))
def S_WR_join_L6 (N1 : Int32) (N2 : Int32) (x3 : Int32) (x4 : Int64) (x5 : Int32) (t0_0 : (Nat → Int32)) (t1_0 : (Nat → Int32)) : Nat → Int32 → Int64 → (Nat → Int32) → Prop
  | 0, _, _, _ => False
  | fm + 1, lx9, lx10, lx11 => if N1 ≤ lx9 then (True) else (if lx9 < x3 then (S_WR_join_J26 (S_WR_join_L6 N1 N2 x3 x4 x5 t0_0 t1_0 fm) N1 N2 x3 x4 x5 t0_0 t1_0 lx9 lx10 lx11) else (if (lg_cmp lx10 0 : Int32) = (0 : Int32) then (True) else (S_WR_join_J26 (S_WR_join_L6 N1 N2 x3 x4 x5 t0_0 t1_0 fm) N1 N2 x3 x4 x5 t0_0 t1_0 lx9 lx10 lx11)))
def S_WR_join (N1 : Int32) (N2 : Int32) (x3 : Int32) (x4 : Int64) (x5 : Int32) (t0_0 : (Nat → Int32)) (t1_0 : (Nat → Int32)) : Prop := S_WR_join_L6 N1 N2 x3 x4 x5 t0_0 t1_0 ((20200 - (0 : Int32).toInt).toNat + 1) 0 0 t0_0
set_option maxRecDepth 100000 in
set_option maxHeartbeats 4000000 in
theorem X_WR_join (l : Launch) (D : va_G) (g : Nat → ClassId) (q : Nat → Nat) (ws : va_W) (k1 : Nat) (N1 : Int32) (hB1 : q_isRow (msh g q) g k1 N1) (k2 : Nat) (N2 : Int32) (hB2 : q_isRow (msh g q) g k2 N2) (x3 : Int32) (x4 : Int64) (x5 : Int32) (ne_k1_k2 : k1 ≠ k2) (hI : q_I (msh g q) q ws) (t0_0 : (Nat → Int32)) (hT0 : ws[k1]? = (some (q k1, .inl (g 0, N1.toNatClampNeg, .inl t0_0)) : Option (Nat × va_E))) (t1_0 : (Nat → Int32)) (hT1 : ws[k2]? = (some (q k2, .inl (g 0, N2.toNatClampNeg, .inl t1_0)) : Option (Nat × va_E))) (hzx5 : 0 ≤ x5.toInt ∧ x5.toInt ≤ 1) (hS : True ∧ S_WR_join N1 N2 x3 x4 x5 t0_0 t1_0) : q_mV l y_WR_join prog_19_method_10_code 11 1 0 0 D g [.ref (q k1), .ref (q k2), .int x3, .long x4, .int x5] ws (fun u => q_I (msh g q) q u ∧ q_un ws u [k1] ∧ ∃ (u0_0 : (Nat → Int32)), u[k1]? = (some (q k1, .inl (g 0, N1.toNatClampNeg, .inl u0_0)) : Option (Nat × va_E)) ∧ u0_0 = (F_WR_join N1 N2 x3 x4 x5 t0_0 t1_0)) := by
  intro sz
  refine q_into (by decide) (Nat.le_of_ble_eq_true rfl) ?_
  intro p e s m below meth c ls hsz C0 V hl
  have hx := C0.1
  have hb := C0.2.1
  have hfk10 : q_F (0 ≤ N1.toInt ∧ N1.toInt ≤ 20200) := hB1.2
  have hfk20 : q_F (0 ≤ N2.toInt ∧ N2.toInt ≤ 20200) := hB2.2
  clear hzx5
  have hF : q_un ws ws [k1] := q_u0
  have hl : lv_has ls 11 [(0, .ref (q k1)), (1, .ref (q k2)), (2, .int x3), (3, .long x4), (5, .int x5)] := hl
  refine lv_lconst (v := 0) hx hb d_19_10_0 (by decide) ?_
  refine lv_lstore (lv' := [(6, .long 0), (0, .ref (q k1)), (1, .ref (q k2)), (2, .int x3), (3, .long x4), (5, .int x5)]) hx hb d_19_10_1 hl (by decide) rfl (fun ls hl => ?_)
  refine lv_iconst (v := 0) hx hb d_19_10_3 (by decide) ?_
  refine lv_istore (lv' := [(8, .int 0), (6, .long 0), (0, .ref (q k1)), (1, .ref (q k2)), (2, .int x3), (3, .long x4), (5, .int x5)]) hx hb d_19_10_4 hl (by decide) rfl (fun ls hl => ?_)
  refine q_loop (X := Int32 × Int64 × (Nat → Int32)) (fun z H locs ls w15 => q_F (0 ≤ z.1.toInt) ∧ q_F (z.1.toInt ≤ N1.toInt) ∧ q_Wd D g (va_A ws sz) s w15 H locs ∧ lv_has ls 11 [(8, .int z.1), (6, .long z.2.1), (0, .ref (q k1)), (1, .ref (q k2)), (2, .int x3), (3, .long x4), (5, .int x5)] ∧ q_I (msh g q) q w15 ∧ q_un ws w15 [k1] ∧ w15[k1]? = (some (q k1, .inl (g 0, N1.toNatClampNeg, .inl z.2.2)) : Option (Nat × va_E)) ∧ w15[k2]? = (some (q k2, .inl (g 0, N2.toNatClampNeg, .inl t1_0)) : Option (Nat × va_E)) ∧ (∃ n, (20200 - z.1.toInt).toNat < n ∧ F_WR_join_L6 N1 N2 x3 x4 x5 t0_0 t1_0 n z.1 z.2.1 z.2.2 = (F_WR_join N1 N2 x3 x4 x5 t0_0 t1_0) ∧ True ∧ S_WR_join_L6 N1 N2 x3 x4 x5 t0_0 t1_0 n z.1 z.2.1 z.2.2)) (fun z => (20200 - z.1.toInt).toNat) ?_ ((0 : Int32), (0 : Int64), (t0_0 : (Nat → Int32))) _ _ _ ws ⟨(show q_F (0 ≤ 0) from (show 0 ≤ 0 from by omega)), (show q_F (0 ≤ N1.toInt) from (show 0 ≤ N1.toInt from by have t1 : 0 ≤ N1.toInt ∧ N1.toInt ≤ 20200 := hfk10; omega)), V, q_lw hl (q_lw1 0 rfl (q_lw1 1 rfl (q_lw1 2 rfl (q_lw1 3 rfl (q_lw1 4 rfl (q_lw1 5 rfl (q_lw1 6 rfl q_lw0))))))), hI, hF, hT0, hT1, ⟨((20200 - (0 : Int32).toInt).toNat + 1), Nat.lt_succ_self _, (show F_WR_join_L6 N1 N2 x3 x4 x5 t0_0 t1_0 ((20200 - (0 : Int32).toInt).toNat + 1) 0 0 t0_0 = (F_WR_join N1 N2 x3 x4 x5 t0_0 t1_0) from (by rw [F_WR_join.eq_1])), (show True ∧ S_WR_join_L6 N1 N2 x3 x4 x5 t0_0 t1_0 ((20200 - (0 : Int32).toInt).toNat + 1) 0 0 t0_0 from (by have h := hS; rw [S_WR_join.eq_1] at h; with_reducible exact h))⟩⟩
  rintro ⟨lx9, lx10, lx11⟩ H locs ls w15 ⟨i12, i13, V, hl, hI, hF, hO16, hO17, ⟨fu20, hf21, hR18, hS19⟩⟩ ih14
  obtain ⟨fm22, rfl⟩ : ∃ m, fu20 = m + 1 := ⟨fu20 - 1, by omega⟩
  replace i12 : q_F (0 ≤ lx9.toInt) := i12
  replace i13 : q_F (lx9.toInt ≤ N1.toInt) := i13
  replace hl : lv_has ls 11 [(8, .int lx9), (6, .long lx10), (0, .ref (q k1)), (1, .ref (q k2)), (2, .int x3), (3, .long x4), (5, .int x5)] := hl
  replace hO16 : w15[k1]? = (some (q k1, .inl (g 0, N1.toNatClampNeg, .inl lx11)) : Option (Nat × va_E)) := hO16
  replace hO17 : w15[k2]? = (some (q k2, .inl (g 0, N2.toNatClampNeg, .inl t1_0)) : Option (Nat × va_E)) := hO17
  refine lv_iload hx hb d_19_10_6 (lv_at hl 0 rfl) ?_
  refine lv_aload_n hx hb d_19_10_8 rfl (lv_at hl 2 rfl) ?_
  refine q_alen (t := 0) (v := N1) C0 V hO16 rfl (s_len (by first | with_reducible exact (q_fe hfk10).2 | with_reducible exact (q_fe hfk10).1 | (have t1 : 0 ≤ N1.toInt ∧ N1.toInt ≤ 20200 := hfk10; omega))) d_19_10_9 ?_
  refine lv_icmp_ge (tgt := 93) hx hb d_19_10_10 (by decide) (fun c23 => ?_) (fun c23 => ?_)
  ·
    exact q_retv C0 V (⟨hI, hF, lx11, hO16, (show lx11 = (F_WR_join N1 N2 x3 x4 x5 t0_0 t1_0) from Eq.trans (by rw [F_WR_join_L6.eq_2, if_pos c23]) hR18)⟩) d_19_10_93
  ·
    have b25 : q_F (lx9.toInt < N1.toInt) := (q_nleI c23)
    refine lv_iload hx hb d_19_10_13 (lv_at hl 0 rfl) ?_
    refine lv_iload_n hx hb d_19_10_15 rfl (lv_at hl 4 rfl) ?_
    refine q_join (X := Unit) (fun z H locs ls _ => q_Wd D g (va_A ws sz) s w15 H locs ∧ lv_has ls 11 [(8, .int lx9), (6, .long lx10), (0, .ref (q k1)), (1, .ref (q k2)), (2, .int x3), (3, .long x4), (5, .int x5)] ∧ F_WR_join_J26 (F_WR_join_L6 N1 N2 x3 x4 x5 t0_0 t1_0 fm22) N1 N2 x3 x4 x5 t0_0 t1_0 lx9 lx10 lx11 = (F_WR_join N1 N2 x3 x4 x5 t0_0 t1_0) ∧ True ∧ S_WR_join_J26 (S_WR_join_L6 N1 N2 x3 x4 x5 t0_0 t1_0 fm22) N1 N2 x3 x4 x5 t0_0 t1_0 lx9 lx10 lx11) (fun z => []) 26 0 0 ?_ ?_
    ·
      rintro _ H locs ls _ ⟨V, hl, hR29, hS30⟩
      replace hl : lv_has ls 11 [(8, .int lx9), (6, .long lx10), (0, .ref (q k1)), (1, .ref (q k2)), (2, .int x3), (3, .long x4), (5, .int x5)] := hl
      refine lv_iload hx hb d_19_10_26 (lv_at hl 0 rfl) ?_
      refine lv_iload_n hx hb d_19_10_28 rfl (lv_at hl 4 rfl) ?_
      refine q_join (X := Int64) (fun z H locs ls _ => q_Wd D g (va_A ws sz) s w15 H locs ∧ lv_has ls 11 [(8, .int lx9), (6, .long lx10), (0, .ref (q k1)), (1, .ref (q k2)), (2, .int x3), (3, .long x4), (5, .int x5)] ∧ F_WR_join_J43 (F_WR_join_L6 N1 N2 x3 x4 x5 t0_0 t1_0 fm22) N1 N2 x3 x4 x5 t0_0 t1_0 lx9 lx10 lx11 z = (F_WR_join N1 N2 x3 x4 x5 t0_0 t1_0) ∧ True ∧ S_WR_join_J43 (S_WR_join_L6 N1 N2 x3 x4 x5 t0_0 t1_0 fm22) N1 N2 x3 x4 x5 t0_0 t1_0 lx9 lx10 lx11 z) (fun z => [.long z]) 43 0 0 ?_ ?_
      ·
        rintro lx34 H locs ls _ ⟨V, hl, hR38, hS39⟩
        replace hl : lv_has ls 11 [(8, .int lx9), (6, .long lx10), (0, .ref (q k1)), (1, .ref (q k2)), (2, .int x3), (3, .long x4), (5, .int x5)] := hl
        refine lv_lstore (lv' := [(9, .long lx34), (8, .int lx9), (6, .long lx10), (0, .ref (q k1)), (1, .ref (q k2)), (2, .int x3), (3, .long x4), (5, .int x5)]) hx hb d_19_10_43 hl (by decide) rfl (fun ls hl => ?_)
        refine lv_lload hx hb d_19_10_45 (lv_at hl 2 rfl) ?_
        refine lv_aload_n hx hb d_19_10_47 rfl (lv_at hl 3 rfl) ?_
        refine lv_iload hx hb d_19_10_48 (lv_at hl 1 rfl) ?_
        refine q_iald C0 V hO16 (q_ix (x := lx9.toInt) rfl (by first | with_reducible exact q_fe i12 | (have t1 : 0 ≤ lx9.toInt := i12; omega)) (by have t1 : 0 ≤ lx9.toInt := i12; have t2 : lx9.toInt < N1.toInt := b25; have e9 := q_clI (i := N1) rfl (by first | with_reducible exact (q_fe hfk10).2 | with_reducible exact (q_fe hfk10).1 | (have t1 : 0 ≤ N1.toInt ∧ N1.toInt ≤ 20200 := hfk10; omega)); omega)) d_19_10_50 ?_
        obtain ⟨a43, e44⟩ := q_nm (lx11 lx9.toNatClampNeg : Int32)
        refine q_ti (v := a43) e44 ?_
        refine lv_i2l hx hb d_19_10_51 rfl ?_
        obtain ⟨j45, e46⟩ := q_nm (a43.toInt64 : Int64)
        refine q_tl (v := j45) e46 ?_
        refine lv_ladd hx hb d_19_10_52 ?_
        obtain ⟨j48, e49⟩ := q_nm (lx10 + j45 : Int64)
        refine q_tl (v := j48) e49 ?_
        refine lv_iload hx hb d_19_10_53 (lv_at hl 7 rfl) ?_
        refine q_join (X := Int64) (fun z H locs ls _ => q_Wd D g (va_A ws sz) s w15 H locs ∧ lv_has ls 11 [(8, .int lx9), (0, .ref (q k1)), (1, .ref (q k2)), (2, .int x3), (3, .long x4), (5, .int x5)] ∧ F_WR_join_J66 (F_WR_join_L6 N1 N2 x3 x4 x5 t0_0 t1_0 fm22) N1 N2 x3 x4 x5 t0_0 t1_0 lx9 lx10 lx11 lx34 j48 z = (F_WR_join N1 N2 x3 x4 x5 t0_0 t1_0) ∧ True ∧ S_WR_join_J66 (S_WR_join_L6 N1 N2 x3 x4 x5 t0_0 t1_0 fm22) N1 N2 x3 x4 x5 t0_0 t1_0 lx9 lx10 lx11 lx34 j48 z) (fun z => [.long z, .long j48]) 66 0 0 ?_ ?_
        ·
          rintro lx50 H locs ls _ ⟨V, hl, hR54, hS55⟩
          replace hl : lv_has ls 11 [(8, .int lx9), (0, .ref (q k1)), (1, .ref (q k2)), (2, .int x3), (3, .long x4), (5, .int x5)] := hl
          refine lv_ladd hx hb d_19_10_66 ?_
          obtain ⟨j59, e60⟩ := q_nm (j48 + lx50 : Int64)
          refine q_tl (v := j59) e60 ?_
          refine lv_lstore (lv' := [(6, .long j59), (8, .int lx9), (0, .ref (q k1)), (1, .ref (q k2)), (2, .int x3), (3, .long x4), (5, .int x5)]) hx hb d_19_10_67 hl (by decide) rfl (fun ls hl => ?_)
          refine lv_aload_n hx hb d_19_10_69 rfl (lv_at hl 2 rfl) ?_
          refine lv_iload hx hb d_19_10_70 (lv_at hl 1 rfl) ?_
          refine lv_lload hx hb d_19_10_72 (lv_at hl 0 rfl) ?_
          refine q_ldc2 C0 rfl w_2384 d_19_10_74 ?_
          refine lv_land hx hb d_19_10_77 ?_
          obtain ⟨j61, e62⟩ := q_nm (j59 &&& 65535 : Int64)
          refine q_tl (v := j61) e62 ?_
          refine lv_l2i hx hb d_19_10_78 rfl ?_
          obtain ⟨a64, e65⟩ := q_nm (j61.toInt32 : Int32)
          refine q_ti (v := a64) e65 ?_
          refine q_iast C0 V hO16 (q_ix (x := lx9.toInt) rfl (by first | with_reducible exact q_fe i12 | (have t1 : 0 ≤ lx9.toInt := i12; omega)) (by have t1 : 0 ≤ lx9.toInt := i12; have t2 : lx9.toInt < N1.toInt := b25; have e9 := q_clI (i := N1) rfl (by first | with_reducible exact (q_fe hfk10).2 | with_reducible exact (q_fe hfk10).1 | (have t1 : 0 ≤ N1.toInt ∧ N1.toInt ≤ 20200 := hfk10; omega)); omega)) d_19_10_79 (fun H locs w67 hu68 hO16 V => ?_)
          replace hI := n_ai' hI hB1.1 hu68 hO16 (q_updB (fun _ => s_bnd) s_bnd)
          replace hO17 := (hu68 _ (by have z := ne_k1_k2; omega)).trans hO17
          replace hF := q_us hF hu68 (by simp)
          obtain ⟨f69, e70⟩ := q_nm (upd lx11 lx9.toNatClampNeg a64 : (Nat → Int32))
          rw [e70] at hO16
          refine lv_lload hx hb d_19_10_80 (lv_at hl 0 rfl) ?_
          refine lv_bipush (v := 16) hx hb d_19_10_82 (by decide) ?_
          refine lv_lshr hx hb d_19_10_84 rfl ?_
          obtain ⟨j71, e72⟩ := q_nm (j59 >>> ((16 : Int32).toInt64 &&& 63) : Int64)
          refine q_tl (v := j71) e72 ?_
          refine lv_lstore (lv' := [(6, .long j71), (8, .int lx9), (0, .ref (q k1)), (1, .ref (q k2)), (2, .int x3), (3, .long x4), (5, .int x5)]) hx hb d_19_10_85 hl (by decide) rfl (fun ls hl => ?_)
          obtain ⟨a73, e74⟩ := q_nm (lx9 + 1 : Int32)
          have b75 : q_F (a73.toInt = lx9.toInt + 1) := (by rw [← e74]; exact q_addI (y := 1) rfl (by decide) (by have t1 : 0 ≤ lx9.toInt := i12; have t2 : lx9.toInt < N1.toInt := b25; have _ := q_lo32 (x := N1); have _ := q_hi32 (x := N1); omega) (by have t1 : 0 ≤ lx9.toInt := i12; have t2 : lx9.toInt < N1.toInt := b25; have _ := q_lo32 (x := N1); have _ := q_hi32 (x := N1); omega))
          refine lv_iinc (v := a73) (lv' := [(8, .int a73), (6, .long j71), (0, .ref (q k1)), (1, .ref (q k2)), (2, .int x3), (3, .long x4), (5, .int x5)]) hx hb d_19_10_87 hl (k := 1) rfl (e74) (by decide) rfl (fun ls hl => ?_)
          refine lv_goto (tgt := 6) hx hb d_19_10_90 (by decide) ?_
          exact ih14 ((a73 : Int32), (j71 : Int64), (f69 : (Nat → Int32))) _ _ _ _ (show (20200 - a73.toInt).toNat < (20200 - lx9.toInt).toNat from by have t1 : a73.toInt = lx9.toInt + 1 := b75; have t2 : 0 ≤ N1.toInt ∧ N1.toInt ≤ 20200 := hfk10; have t3 : lx9.toInt ≤ N1.toInt := i13; have t4 : lx9.toInt < N1.toInt := b25; omega) ⟨(show q_F (0 ≤ a73.toInt) from (show 0 ≤ a73.toInt from by have t1 : 0 ≤ lx9.toInt := i12; have t2 : a73.toInt = lx9.toInt + 1 := b75; omega)), (show q_F (a73.toInt ≤ N1.toInt) from (show a73.toInt ≤ N1.toInt from by have t1 : lx9.toInt < N1.toInt := b25; have t2 : a73.toInt = lx9.toInt + 1 := b75; omega)), V, q_lw hl (q_lw1 0 rfl (q_lw1 1 rfl (q_lw1 2 rfl (q_lw1 3 rfl (q_lw1 4 rfl (q_lw1 5 rfl (q_lw1 6 rfl q_lw0))))))), hI, hF, hO16, hO17, ⟨fm22, Nat.lt_of_lt_of_le (show (20200 - a73.toInt).toNat < (20200 - lx9.toInt).toNat from by have t1 : a73.toInt = lx9.toInt + 1 := b75; have t2 : 0 ≤ N1.toInt ∧ N1.toInt ≤ 20200 := hfk10; have t3 : lx9.toInt ≤ N1.toInt := i13; have t4 : lx9.toInt < N1.toInt := b25; omega) (Nat.le_of_lt_succ hf21), (show F_WR_join_L6 N1 N2 x3 x4 x5 t0_0 t1_0 fm22 a73 j71 f69 = (F_WR_join N1 N2 x3 x4 x5 t0_0 t1_0) from Eq.trans (by rw [← e74, ← e72, ← e70, ← e65, ← e62, ← e60, F_WR_join_J66.eq_1]) hR54), (show True ∧ S_WR_join_L6 N1 N2 x3 x4 x5 t0_0 t1_0 fm22 a73 j71 f69 from (by rw [← e74, ← e72, ← e70, ← e65, ← e62, ← e60]; have h := hS55; rw [S_WR_join_J66.eq_1] at h; with_reducible exact h))⟩⟩
        ·
          intro J53
          refine lv_if_eq (tgt := 64) hx hb d_19_10_55 (by decide) (fun c76 => ?_) (fun c76 => ?_)
          ·
            refine lv_lload hx hb d_19_10_64 (lv_at hl 0 rfl) ?_
            exact J53 ((lx34 : Int64)) _ _ _ w15 ⟨V, q_lw hl (q_lw1 1 rfl (q_lw1 3 rfl (q_lw1 4 rfl (q_lw1 5 rfl (q_lw1 6 rfl (q_lw1 7 rfl q_lw0)))))), (show F_WR_join_J66 (F_WR_join_L6 N1 N2 x3 x4 x5 t0_0 t1_0 fm22) N1 N2 x3 x4 x5 t0_0 t1_0 lx9 lx10 lx11 lx34 j48 lx34 = (F_WR_join N1 N2 x3 x4 x5 t0_0 t1_0) from Eq.trans (by rw [← e49, ← e46, ← e44, F_WR_join_J43.eq_1, if_pos c76]) hR38), (show True ∧ S_WR_join_J66 (S_WR_join_L6 N1 N2 x3 x4 x5 t0_0 t1_0 fm22) N1 N2 x3 x4 x5 t0_0 t1_0 lx9 lx10 lx11 lx34 j48 lx34 from (by rw [← e49, ← e46, ← e44]; have h := hS39; rw [S_WR_join_J43.eq_1] at h; rw [if_pos c76] at h; with_reducible exact h))⟩
          ·
            refine lv_lload hx hb d_19_10_58 (lv_at hl 0 rfl) ?_
            refine lv_lneg hx hb d_19_10_60 ?_
            obtain ⟨j79, e80⟩ := q_nm (-lx34 : Int64)
            refine q_tl (v := j79) e80 ?_
            refine lv_goto (tgt := 66) hx hb d_19_10_61 (by decide) ?_
            exact J53 ((j79 : Int64)) _ _ _ w15 ⟨V, q_lw hl (q_lw1 1 rfl (q_lw1 3 rfl (q_lw1 4 rfl (q_lw1 5 rfl (q_lw1 6 rfl (q_lw1 7 rfl q_lw0)))))), (show F_WR_join_J66 (F_WR_join_L6 N1 N2 x3 x4 x5 t0_0 t1_0 fm22) N1 N2 x3 x4 x5 t0_0 t1_0 lx9 lx10 lx11 lx34 j48 j79 = (F_WR_join N1 N2 x3 x4 x5 t0_0 t1_0) from Eq.trans (by rw [← e80, ← e49, ← e46, ← e44, F_WR_join_J43.eq_1, if_neg c76]) hR38), (show True ∧ S_WR_join_J66 (S_WR_join_L6 N1 N2 x3 x4 x5 t0_0 t1_0 fm22) N1 N2 x3 x4 x5 t0_0 t1_0 lx9 lx10 lx11 lx34 j48 j79 from (by rw [← e80, ← e49, ← e46, ← e44]; have h := hS39; rw [S_WR_join_J43.eq_1] at h; rw [if_neg c76] at h; with_reducible exact h))⟩
      ·
        intro J37
        refine lv_icmp_ge (tgt := 42) hx hb d_19_10_29 (by decide) (fun c81 => ?_) (fun c81 => ?_)
        ·
          refine lv_lconst (v := 0) hx hb d_19_10_42 (by decide) ?_
          exact J37 ((0 : Int64)) _ _ _ w15 ⟨V, q_lw hl (q_lw1 0 rfl (q_lw1 1 rfl (q_lw1 2 rfl (q_lw1 3 rfl (q_lw1 4 rfl (q_lw1 5 rfl (q_lw1 6 rfl q_lw0))))))), (show F_WR_join_J43 (F_WR_join_L6 N1 N2 x3 x4 x5 t0_0 t1_0 fm22) N1 N2 x3 x4 x5 t0_0 t1_0 lx9 lx10 lx11 0 = (F_WR_join N1 N2 x3 x4 x5 t0_0 t1_0) from Eq.trans (by rw [F_WR_join_J26.eq_1, if_pos c81]) hR29), (show True ∧ S_WR_join_J43 (S_WR_join_L6 N1 N2 x3 x4 x5 t0_0 t1_0 fm22) N1 N2 x3 x4 x5 t0_0 t1_0 lx9 lx10 lx11 0 from (by have h := hS30; rw [S_WR_join_J26.eq_1] at h; rw [if_pos c81] at h; with_reducible exact h))⟩
        ·
          refine lv_aload_n hx hb d_19_10_32 rfl (lv_at hl 3 rfl) ?_
          refine lv_iload hx hb d_19_10_33 (lv_at hl 0 rfl) ?_
          have ob84 : q_F (lx9.toInt + 1 ≤ N2.toInt) := (by have h := hS30; rw [S_WR_join_J26.eq_1] at h; rw [if_neg c81] at h; exact h.2.1)
          refine q_iald C0 V hO17 (q_ix (x := lx9.toInt) rfl (by first | with_reducible exact q_fe i12 | (have t1 : 0 ≤ lx9.toInt := i12; omega)) (by have t1 : 0 ≤ lx9.toInt := i12; have t2 : lx9.toInt + 1 ≤ N2.toInt := ob84; have e9 := q_clI (i := N2) rfl (by first | with_reducible exact (q_fe hfk20).2 | with_reducible exact (q_fe hfk20).1 | (have t1 : 0 ≤ N2.toInt ∧ N2.toInt ≤ 20200 := hfk20; omega)); omega)) d_19_10_35 ?_
          obtain ⟨a85, e86⟩ := q_nm (t1_0 lx9.toNatClampNeg : Int32)
          refine q_ti (v := a85) e86 ?_
          refine lv_i2l hx hb d_19_10_36 rfl ?_
          obtain ⟨j87, e88⟩ := q_nm (a85.toInt64 : Int64)
          refine q_tl (v := j87) e88 ?_
          refine lv_lload_n hx hb d_19_10_37 rfl (lv_at hl 5 rfl) ?_
          refine lv_lmul hx hb d_19_10_38 ?_
          obtain ⟨j90, e91⟩ := q_nm (j87 * x4 : Int64)
          refine q_tl (v := j90) e91 ?_
          refine lv_goto (tgt := 43) hx hb d_19_10_39 (by decide) ?_
          exact J37 ((j90 : Int64)) _ _ _ w15 ⟨V, q_lw hl (q_lw1 0 rfl (q_lw1 1 rfl (q_lw1 2 rfl (q_lw1 3 rfl (q_lw1 4 rfl (q_lw1 5 rfl (q_lw1 6 rfl q_lw0))))))), (show F_WR_join_J43 (F_WR_join_L6 N1 N2 x3 x4 x5 t0_0 t1_0 fm22) N1 N2 x3 x4 x5 t0_0 t1_0 lx9 lx10 lx11 j90 = (F_WR_join N1 N2 x3 x4 x5 t0_0 t1_0) from Eq.trans (by rw [← e91, ← e88, ← e86, F_WR_join_J26.eq_1, if_neg c81]) hR29), (show True ∧ S_WR_join_J43 (S_WR_join_L6 N1 N2 x3 x4 x5 t0_0 t1_0 fm22) N1 N2 x3 x4 x5 t0_0 t1_0 lx9 lx10 lx11 j90 from (by rw [← e91, ← e88, ← e86]; have h := hS30; rw [S_WR_join_J26.eq_1] at h; rw [if_neg c81] at h; replace h := q_s2 h; with_reducible exact h))⟩
    ·
      intro J28
      refine lv_icmp_lt (tgt := 26) hx hb d_19_10_16 (by decide) (fun c92 => ?_) (fun c92 => ?_)
      ·
        exact J28 (()) _ _ _ w15 ⟨V, q_lw hl (q_lw1 0 rfl (q_lw1 1 rfl (q_lw1 2 rfl (q_lw1 3 rfl (q_lw1 4 rfl (q_lw1 5 rfl (q_lw1 6 rfl q_lw0))))))), (show F_WR_join_J26 (F_WR_join_L6 N1 N2 x3 x4 x5 t0_0 t1_0 fm22) N1 N2 x3 x4 x5 t0_0 t1_0 lx9 lx10 lx11 = (F_WR_join N1 N2 x3 x4 x5 t0_0 t1_0) from Eq.trans (by rw [F_WR_join_L6.eq_2, if_neg c23, if_pos c92]) hR18), (show True ∧ S_WR_join_J26 (S_WR_join_L6 N1 N2 x3 x4 x5 t0_0 t1_0 fm22) N1 N2 x3 x4 x5 t0_0 t1_0 lx9 lx10 lx11 from (by have h := hS19; rw [S_WR_join_L6.eq_2] at h; rw [if_neg c23] at h; rw [if_pos c92] at h; with_reducible exact h))⟩
      ·
        refine lv_lload hx hb d_19_10_19 (lv_at hl 1 rfl) ?_
        refine lv_lconst (v := 0) hx hb d_19_10_21 (by decide) ?_
        refine W.lcmp hx hb d_19_10_22 ?_
        obtain ⟨a95, e96⟩ := q_nm (lg_cmp lx10 0 : Int32)
        refine q_ti (v := a95) e96 ?_
        refine lv_if_eq (tgt := 93) hx hb d_19_10_23 (by decide) (fun c98 => ?_) (fun c98 => ?_)
        ·
          exact q_retv C0 V (⟨hI, hF, lx11, hO16, (show lx11 = (F_WR_join N1 N2 x3 x4 x5 t0_0 t1_0) from Eq.trans (by have c98x := c98; rw [← e96] at c98x; rw [F_WR_join_L6.eq_2, if_neg c23, if_neg c92, if_pos c98x]) hR18)⟩) d_19_10_93
        ·
          exact J28 (()) _ _ _ w15 ⟨V, q_lw hl (q_lw1 0 rfl (q_lw1 1 rfl (q_lw1 2 rfl (q_lw1 3 rfl (q_lw1 4 rfl (q_lw1 5 rfl (q_lw1 6 rfl q_lw0))))))), (show F_WR_join_J26 (F_WR_join_L6 N1 N2 x3 x4 x5 t0_0 t1_0 fm22) N1 N2 x3 x4 x5 t0_0 t1_0 lx9 lx10 lx11 = (F_WR_join N1 N2 x3 x4 x5 t0_0 t1_0) from Eq.trans (by have c98x := c98; rw [← e96] at c98x; rw [F_WR_join_L6.eq_2, if_neg c23, if_neg c92, if_neg c98x]) hR18), (show True ∧ S_WR_join_J26 (S_WR_join_L6 N1 N2 x3 x4 x5 t0_0 t1_0 fm22) N1 N2 x3 x4 x5 t0_0 t1_0 lx9 lx10 lx11 from (by have h := hS19; rw [S_WR_join_L6.eq_2] at h; rw [if_neg c23] at h; rw [if_neg c92] at h; have c98x := c98; rw [← e96] at c98x; rw [if_neg c98x] at h; with_reducible exact h))⟩
theorem d_19_11_0 : decode prog_19_method_11_code 0 = .ok (.iload_n 2, 1) := by decide +kernel
theorem d_19_11_1 : decode prog_19_method_11_code 1 = .ok (.i2l, 1) := by decide +kernel
theorem d_19_11_2 : decode prog_19_method_11_code 2 = .ok (.lstore_n 3, 1) := by decide +kernel
theorem d_19_11_3 : decode prog_19_method_11_code 3 = .ok (.aload_n 0, 1) := by decide +kernel
theorem d_19_11_4 : decode prog_19_method_11_code 4 = .ok (.invokestatic 59, 3) := by decide +kernel
set_option maxRecDepth 100000 in
theorem w_2383 : (Cond.code ({ cls := "NumberHouseModel$WholeRows", name := "size", desc := "([I)I" } : MethodName) prog_19_method_7_code (2 : Nat) (some .int)) ∈ q_tbl := q_of10 223 rfl (by decide +kernel)
set_option maxRecDepth 100000 in
theorem w_2381 : (Cond.methodLink "NumberHouseModel$WholeRows" (59 : Nat) ({ cls := "NumberHouseModel$WholeRows", name := "size", desc := "([I)I" } : MethodName)) ∈ q_tbl := q_of10 221 rfl (by decide +kernel)
set_option maxRecDepth 100000 in
theorem w_2382 : (Cond.static ({ cls := "NumberHouseModel$WholeRows", name := "size", desc := "([I)I" } : MethodName)) ∈ q_tbl := q_of10 222 rfl (by decide +kernel)
theorem LS_WR_59 : q_LS "NumberHouseModel$WholeRows" 59 y_WR_size prog_19_method_7_code 2 (some .int) 1 := ⟨w_2383, w_15, w_2381, w_2382, ⟨by decide, by decide, by decide +kernel⟩⟩
theorem d_19_11_7 : decode prog_19_method_11_code 7 = .ok (.istore 5, 2) := by decide +kernel
theorem d_19_11_9 : decode prog_19_method_11_code 9 = .ok (.iconst 0, 1) := by decide +kernel
theorem d_19_11_10 : decode prog_19_method_11_code 10 = .ok (.istore 6, 2) := by decide +kernel
theorem d_19_11_12 : decode prog_19_method_11_code 12 = .ok (.iload 6, 2) := by decide +kernel
theorem d_19_11_14 : decode prog_19_method_11_code 14 = .ok (.iload 5, 2) := by decide +kernel
theorem d_19_11_25 : decode prog_19_method_11_code 25 = .ok (.iload 6, 2) := by decide +kernel
theorem d_19_11_27 : decode prog_19_method_11_code 27 = .ok (.aload_n 0, 1) := by decide +kernel
theorem d_19_11_28 : decode prog_19_method_11_code 28 = .ok (.arraylength, 1) := by decide +kernel
theorem d_19_11_29 : decode prog_19_method_11_code 29 = .ok (.if_icmp .lt 4, 3) := by decide +kernel
theorem d_19_11_33 : decode prog_19_method_11_code 33 = .ok (.lload_n 3, 1) := by decide +kernel
theorem d_19_11_34 : decode prog_19_method_11_code 34 = .ok (.aload_n 0, 1) := by decide +kernel
theorem d_19_11_35 : decode prog_19_method_11_code 35 = .ok (.iload 6, 2) := by decide +kernel
theorem d_19_11_37 : decode prog_19_method_11_code 37 = .ok (.iaload, 1) := by decide +kernel
theorem d_19_11_38 : decode prog_19_method_11_code 38 = .ok (.i2l, 1) := by decide +kernel
theorem d_19_11_39 : decode prog_19_method_11_code 39 = .ok (.iload_n 1, 1) := by decide +kernel
theorem d_19_11_40 : decode prog_19_method_11_code 40 = .ok (.i2l, 1) := by decide +kernel
theorem d_19_11_41 : decode prog_19_method_11_code 41 = .ok (.lmul, 1) := by decide +kernel
theorem d_19_11_42 : decode prog_19_method_11_code 42 = .ok (.ladd, 1) := by decide +kernel
theorem d_19_11_43 : decode prog_19_method_11_code 43 = .ok (.lstore_n 3, 1) := by decide +kernel
theorem d_19_11_44 : decode prog_19_method_11_code 44 = .ok (.aload_n 0, 1) := by decide +kernel
theorem d_19_11_45 : decode prog_19_method_11_code 45 = .ok (.iload 6, 2) := by decide +kernel
theorem d_19_11_47 : decode prog_19_method_11_code 47 = .ok (.lload_n 3, 1) := by decide +kernel
theorem d_19_11_48 : decode prog_19_method_11_code 48 = .ok (.ldc2_w 57, 3) := by decide +kernel
theorem d_19_11_51 : decode prog_19_method_11_code 51 = .ok (.land, 1) := by decide +kernel
theorem d_19_11_52 : decode prog_19_method_11_code 52 = .ok (.l2i, 1) := by decide +kernel
theorem d_19_11_53 : decode prog_19_method_11_code 53 = .ok (.iastore, 1) := by decide +kernel
theorem d_19_11_54 : decode prog_19_method_11_code 54 = .ok (.lload_n 3, 1) := by decide +kernel
theorem d_19_11_55 : decode prog_19_method_11_code 55 = .ok (.bipush 16, 2) := by decide +kernel
theorem d_19_11_57 : decode prog_19_method_11_code 57 = .ok (.lshr, 1) := by decide +kernel
theorem d_19_11_58 : decode prog_19_method_11_code 58 = .ok (.lstore_n 3, 1) := by decide +kernel
theorem d_19_11_59 : decode prog_19_method_11_code 59 = .ok (.iinc 6 1, 3) := by decide +kernel
theorem d_19_11_62 : decode prog_19_method_11_code 62 = .ok (.goto (-50), 3) := by decide +kernel
theorem d_19_11_32 : decode prog_19_method_11_code 32 = .ok (.return_, 1) := by decide +kernel
theorem d_19_11_16 : decode prog_19_method_11_code 16 = .ok (.if_icmp .lt 9, 3) := by decide +kernel
theorem d_19_11_19 : decode prog_19_method_11_code 19 = .ok (.lload_n 3, 1) := by decide +kernel
theorem d_19_11_20 : decode prog_19_method_11_code 20 = .ok (.lconst 0, 1) := by decide +kernel
theorem d_19_11_21 : decode prog_19_method_11_code 21 = .ok (.lcmp, 1) := by decide +kernel
theorem d_19_11_22 : decode prog_19_method_11_code 22 = .ok (.ifCond .eq 43, 3) := by decide +kernel
theorem d_19_11_65 : decode prog_19_method_11_code 65 = .ok (.return_, 1) := by decide +kernel
def y_WR_grow : MethodName := ⟨"NumberHouseModel$WholeRows", "grow", "([III)V"⟩
def F_WR_grow_J25 (K_F_WR_grow_L12 : Int32 → Int64 → (Nat → Int32) → (Nat → Int32)) (N1 : Int32) (x2 : Int32) (x3 : Int32) (t0_0 : (Nat → Int32)) (a9 : Int32) (lx16 : Int32) (lx17 : Int64) (lx18 : (Nat → Int32)) : (Nat → Int32) := if lx16 < N1 then (K_F_WR_grow_L12 (lx16 + 1 : Int32) ((lx17 + (((lx18 lx16.toNatClampNeg : Int32).toInt64 : Int64) * (x2.toInt64 : Int64) : Int64) : Int64) >>> ((16 : Int32).toInt64 &&& 63) : Int64) (upd lx18 lx16.toNatClampNeg (((lx17 + (((lx18 lx16.toNatClampNeg : Int32).toInt64 : Int64) * (x2.toInt64 : Int64) : Int64) : Int64) &&& 65535 : Int64).toInt32 : Int32) : (Nat → Int32))) else (lx18)
def F_WR_grow_L12 (N1 : Int32) (x2 : Int32) (x3 : Int32) (t0_0 : (Nat → Int32)) (a9 : Int32) : Nat → Int32 → Int64 → (Nat → Int32) → (Nat → Int32)
  | 0, _, _, _ => default
  | fm + 1, lx16, lx17, lx18 => if lx16 < a9 then (F_WR_grow_J25 (F_WR_grow_L12 N1 x2 x3 t0_0 a9 fm) N1 x2 x3 t0_0 a9 lx16 lx17 lx18) else (if (lg_cmp lx17 0 : Int32) = (0 : Int32) then (lx18) else (F_WR_grow_J25 (F_WR_grow_L12 N1 x2 x3 t0_0 a9 fm) N1 x2 x3 t0_0 a9 lx16 lx17 lx18))
def F_WR_grow (N1 : Int32) (x2 : Int32) (x3 : Int32) (t0_0 : (Nat → Int32)) : (Nat → Int32) := F_WR_grow_L12 N1 x2 x3 t0_0 ((F_WR_size N1 t0_0) : Int32) ((20200 - (0 : Int32).toInt).toNat + 1) 0 (x3.toInt64 : Int64) t0_0
set_option maxRecDepth 100000 in
set_option maxHeartbeats 4000000 in
theorem X_WR_grow (l : Launch) (D : va_G) (g : Nat → ClassId) (q : Nat → Nat) (ws : va_W) (k1 : Nat) (N1 : Int32) (hB1 : q_isRow (msh g q) g k1 N1) (x2 : Int32) (x3 : Int32) (hI : q_I (msh g q) q ws) (t0_0 : (Nat → Int32)) (hT0 : ws[k1]? = (some (q k1, .inl (g 0, N1.toNatClampNeg, .inl t0_0)) : Option (Nat × va_E))) : q_mV l y_WR_grow prog_19_method_11_code 7 2 0 0 D g [.ref (q k1), .int x2, .int x3] ws (fun u => q_I (msh g q) q u ∧ q_un ws u [k1] ∧ ∃ (u0_0 : (Nat → Int32)), u[k1]? = (some (q k1, .inl (g 0, N1.toNatClampNeg, .inl u0_0)) : Option (Nat × va_E)) ∧ u0_0 = (F_WR_grow N1 x2 x3 t0_0)) := by
  intro sz
  refine q_into (by decide) (Nat.le_of_ble_eq_true rfl) ?_
  intro p e s m below meth c ls hsz C0 V hl
  have hx := C0.1
  have hb := C0.2.1
  have hfk10 : q_F (0 ≤ N1.toInt ∧ N1.toInt ≤ 20200) := hB1.2
  have hF : q_un ws ws [k1] := q_u0
  have hl : lv_has ls 7 [(0, .ref (q k1)), (1, .int x2), (2, .int x3)] := hl
  refine lv_iload_n hx hb d_19_11_0 rfl (lv_at hl 2 rfl) ?_
  refine lv_i2l hx hb d_19_11_1 rfl ?_
  obtain ⟨j4, e5⟩ := q_nm (x3.toInt64 : Int64)
  refine q_tl (v := j4) e5 ?_
  refine lv_lstore_n (lv' := [(3, .long j4), (0, .ref (q k1)), (1, .int x2), (2, .int x3)]) hx hb d_19_11_2 rfl hl (by decide) rfl (fun ls hl => ?_)
  refine lv_aload_n hx hb d_19_11_3 rfl (lv_at hl 1 rfl) ?_
  refine q_goi V (q_runS (As := [.ref (q k1)]) (rest := []) (d := 1) (mc := 0) (ms := 0) C0 V rfl LS_WR_59 (X_WR_size l D g q ws k1 N1 hB1  hI t0_0 hT0  _) rfl hl.1 rfl (Nat.le_of_ble_eq_true rfl) ⟨by decide, by decide⟩ ⟨Nat.le_of_ble_eq_true rfl, Nat.le_of_ble_eq_true rfl⟩ d_19_11_4) (fun a9 u7 H locs hp8 V => ?_)
  obtain ⟨rfl, b10, b11, hE12⟩ := hp8
  have e13 : a9 = (F_WR_size N1 t0_0) := hE12
  clear b10
  clear b11
  refine lv_istore (lv' := [(5, .int a9), (3, .long j4), (0, .ref (q k1)), (1, .int x2), (2, .int x3)]) hx hb d_19_11_7 hl (by decide) rfl (fun ls hl => ?_)
  refine lv_iconst (v := 0) hx hb d_19_11_9 (by decide) ?_
  refine lv_istore (lv' := [(6, .int 0), (5, .int a9), (3, .long j4), (0, .ref (q k1)), (1, .int x2), (2, .int x3)]) hx hb d_19_11_10 hl (by decide) rfl (fun ls hl => ?_)
  refine q_loop (X := Int32 × Int64 × (Nat → Int32)) (fun z H locs ls w22 => q_F (0 ≤ z.1.toInt) ∧ q_F (z.1.toInt ≤ N1.toInt) ∧ q_Wd D g (va_A ws sz) s w22 H locs ∧ lv_has ls 7 [(6, .int z.1), (5, .int a9), (3, .long z.2.1), (0, .ref (q k1)), (1, .int x2)] ∧ q_I (msh g q) q w22 ∧ q_un ws w22 [k1] ∧ w22[k1]? = (some (q k1, .inl (g 0, N1.toNatClampNeg, .inl z.2.2)) : Option (Nat × va_E)) ∧ (∃ n, (20200 - z.1.toInt).toNat < n ∧ F_WR_grow_L12 N1 x2 x3 t0_0 a9 n z.1 z.2.1 z.2.2 = (F_WR_grow N1 x2 x3 t0_0))) (fun z => (20200 - z.1.toInt).toNat) ?_ ((0 : Int32), (j4 : Int64), (t0_0 : (Nat → Int32))) _ _ _ ws ⟨(show q_F (0 ≤ 0) from (show 0 ≤ 0 from by omega)), (show q_F (0 ≤ N1.toInt) from (show 0 ≤ N1.toInt from by have t1 : 0 ≤ N1.toInt ∧ N1.toInt ≤ 20200 := hfk10; omega)), V, q_lw hl (q_lw1 0 rfl (q_lw1 1 rfl (q_lw1 2 rfl (q_lw1 3 rfl (q_lw1 4 rfl q_lw0))))), hI, hF, hT0, ⟨((20200 - (0 : Int32).toInt).toNat + 1), Nat.lt_succ_self _, (show F_WR_grow_L12 N1 x2 x3 t0_0 a9 ((20200 - (0 : Int32).toInt).toNat + 1) 0 j4 t0_0 = (F_WR_grow N1 x2 x3 t0_0) from (by rw [e13, ← e5, F_WR_grow.eq_1]))⟩⟩
  rintro ⟨lx16, lx17, lx18⟩ H locs ls w22 ⟨i19, i20, V, hl, hI, hF, hO23, ⟨fu26, hf27, hR24⟩⟩ ih21
  obtain ⟨fm28, rfl⟩ : ∃ m, fu26 = m + 1 := ⟨fu26 - 1, by omega⟩
  replace i19 : q_F (0 ≤ lx16.toInt) := i19
  replace i20 : q_F (lx16.toInt ≤ N1.toInt) := i20
  replace hl : lv_has ls 7 [(6, .int lx16), (5, .int a9), (3, .long lx17), (0, .ref (q k1)), (1, .int x2)] := hl
  replace hO23 : w22[k1]? = (some (q k1, .inl (g 0, N1.toNatClampNeg, .inl lx18)) : Option (Nat × va_E)) := hO23
  refine lv_iload hx hb d_19_11_12 (lv_at hl 0 rfl) ?_
  refine lv_iload hx hb d_19_11_14 (lv_at hl 1 rfl) ?_
  refine q_join (X := Unit) (fun z H locs ls _ => q_Wd D g (va_A ws sz) s w22 H locs ∧ lv_has ls 7 [(6, .int lx16), (5, .int a9), (3, .long lx17), (0, .ref (q k1)), (1, .int x2)] ∧ F_WR_grow_J25 (F_WR_grow_L12 N1 x2 x3 t0_0 a9 fm28) N1 x2 x3 t0_0 a9 lx16 lx17 lx18 = (F_WR_grow N1 x2 x3 t0_0)) (fun z => []) 25 0 0 ?_ ?_
  ·
    rintro _ H locs ls _ ⟨V, hl, hR31⟩
    replace hl : lv_has ls 7 [(6, .int lx16), (5, .int a9), (3, .long lx17), (0, .ref (q k1)), (1, .int x2)] := hl
    refine lv_iload hx hb d_19_11_25 (lv_at hl 0 rfl) ?_
    refine lv_aload_n hx hb d_19_11_27 rfl (lv_at hl 3 rfl) ?_
    refine q_alen (t := 0) (v := N1) C0 V hO23 rfl (s_len (by first | with_reducible exact (q_fe hfk10).2 | with_reducible exact (q_fe hfk10).1 | (have t1 : 0 ≤ N1.toInt ∧ N1.toInt ≤ 20200 := hfk10; omega))) d_19_11_28 ?_
    refine lv_icmp_lt (tgt := 33) hx hb d_19_11_29 (by decide) (fun c36 => ?_) (fun c36 => ?_)
    ·
      have b37 : q_F (lx16.toInt < N1.toInt) := (q_ltI c36)
      refine lv_lload_n hx hb d_19_11_33 rfl (lv_at hl 2 rfl) ?_
      refine lv_aload_n hx hb d_19_11_34 rfl (lv_at hl 3 rfl) ?_
      refine lv_iload hx hb d_19_11_35 (lv_at hl 0 rfl) ?_
      refine q_iald C0 V hO23 (q_ix (x := lx16.toInt) rfl (by first | with_reducible exact q_fe i19 | (have t1 : 0 ≤ lx16.toInt := i19; omega)) (by have t1 : 0 ≤ lx16.toInt := i19; have t2 : lx16.toInt < N1.toInt := b37; have e9 := q_clI (i := N1) rfl (by first | with_reducible exact (q_fe hfk10).2 | with_reducible exact (q_fe hfk10).1 | (have t1 : 0 ≤ N1.toInt ∧ N1.toInt ≤ 20200 := hfk10; omega)); omega)) d_19_11_37 ?_
      obtain ⟨a38, e39⟩ := q_nm (lx18 lx16.toNatClampNeg : Int32)
      refine q_ti (v := a38) e39 ?_
      refine lv_i2l hx hb d_19_11_38 rfl ?_
      obtain ⟨j40, e41⟩ := q_nm (a38.toInt64 : Int64)
      refine q_tl (v := j40) e41 ?_
      refine lv_iload_n hx hb d_19_11_39 rfl (lv_at hl 4 rfl) ?_
      refine lv_i2l hx hb d_19_11_40 rfl ?_
      obtain ⟨j43, e44⟩ := q_nm (x2.toInt64 : Int64)
      refine q_tl (v := j43) e44 ?_
      refine lv_lmul hx hb d_19_11_41 ?_
      obtain ⟨j46, e47⟩ := q_nm (j40 * j43 : Int64)
      refine q_tl (v := j46) e47 ?_
      refine lv_ladd hx hb d_19_11_42 ?_
      obtain ⟨j48, e49⟩ := q_nm (lx17 + j46 : Int64)
      refine q_tl (v := j48) e49 ?_
      refine lv_lstore_n (lv' := [(3, .long j48), (6, .int lx16), (5, .int a9), (0, .ref (q k1)), (1, .int x2)]) hx hb d_19_11_43 rfl hl (by decide) rfl (fun ls hl => ?_)
      refine lv_aload_n hx hb d_19_11_44 rfl (lv_at hl 3 rfl) ?_
      refine lv_iload hx hb d_19_11_45 (lv_at hl 1 rfl) ?_
      refine lv_lload_n hx hb d_19_11_47 rfl (lv_at hl 0 rfl) ?_
      refine q_ldc2 C0 rfl w_2384 d_19_11_48 ?_
      refine lv_land hx hb d_19_11_51 ?_
      obtain ⟨j50, e51⟩ := q_nm (j48 &&& 65535 : Int64)
      refine q_tl (v := j50) e51 ?_
      refine lv_l2i hx hb d_19_11_52 rfl ?_
      obtain ⟨a53, e54⟩ := q_nm (j50.toInt32 : Int32)
      refine q_ti (v := a53) e54 ?_
      refine q_iast C0 V hO23 (q_ix (x := lx16.toInt) rfl (by first | with_reducible exact q_fe i19 | (have t1 : 0 ≤ lx16.toInt := i19; omega)) (by have t1 : 0 ≤ lx16.toInt := i19; have t2 : lx16.toInt < N1.toInt := b37; have e9 := q_clI (i := N1) rfl (by first | with_reducible exact (q_fe hfk10).2 | with_reducible exact (q_fe hfk10).1 | (have t1 : 0 ≤ N1.toInt ∧ N1.toInt ≤ 20200 := hfk10; omega)); omega)) d_19_11_53 (fun H locs w56 hu57 hO23 V => ?_)
      replace hI := n_ai' hI hB1.1 hu57 hO23 (q_updB (fun _ => s_bnd) s_bnd)
      replace hF := q_us hF hu57 (by simp)
      obtain ⟨f58, e59⟩ := q_nm (upd lx18 lx16.toNatClampNeg a53 : (Nat → Int32))
      rw [e59] at hO23
      refine lv_lload_n hx hb d_19_11_54 rfl (lv_at hl 0 rfl) ?_
      refine lv_bipush (v := 16) hx hb d_19_11_55 (by decide) ?_
      refine lv_lshr hx hb d_19_11_57 rfl ?_
      obtain ⟨j60, e61⟩ := q_nm (j48 >>> ((16 : Int32).toInt64 &&& 63) : Int64)
      refine q_tl (v := j60) e61 ?_
      refine lv_lstore_n (lv' := [(3, .long j60), (6, .int lx16), (5, .int a9), (0, .ref (q k1)), (1, .int x2)]) hx hb d_19_11_58 rfl hl (by decide) rfl (fun ls hl => ?_)
      obtain ⟨a62, e63⟩ := q_nm (lx16 + 1 : Int32)
      have b64 : q_F (a62.toInt = lx16.toInt + 1) := (by rw [← e63]; exact q_addI (y := 1) rfl (by decide) (by have t1 : 0 ≤ lx16.toInt := i19; have t2 : lx16.toInt < N1.toInt := b37; have _ := q_lo32 (x := N1); have _ := q_hi32 (x := N1); omega) (by have t1 : 0 ≤ lx16.toInt := i19; have t2 : lx16.toInt < N1.toInt := b37; have _ := q_lo32 (x := N1); have _ := q_hi32 (x := N1); omega))
      refine lv_iinc (v := a62) (lv' := [(6, .int a62), (3, .long j60), (5, .int a9), (0, .ref (q k1)), (1, .int x2)]) hx hb d_19_11_59 hl (k := 1) rfl (e63) (by decide) rfl (fun ls hl => ?_)
      refine lv_goto (tgt := 12) hx hb d_19_11_62 (by decide) ?_
      exact ih21 ((a62 : Int32), (j60 : Int64), (f58 : (Nat → Int32))) _ _ _ _ (show (20200 - a62.toInt).toNat < (20200 - lx16.toInt).toNat from by have t1 : a62.toInt = lx16.toInt + 1 := b64; have t2 : 0 ≤ N1.toInt ∧ N1.toInt ≤ 20200 := hfk10; have t3 : lx16.toInt ≤ N1.toInt := i20; have t4 : lx16.toInt < N1.toInt := b37; omega) ⟨(show q_F (0 ≤ a62.toInt) from (show 0 ≤ a62.toInt from by have t1 : 0 ≤ lx16.toInt := i19; have t2 : a62.toInt = lx16.toInt + 1 := b64; omega)), (show q_F (a62.toInt ≤ N1.toInt) from (show a62.toInt ≤ N1.toInt from by have t1 : lx16.toInt < N1.toInt := b37; have t2 : a62.toInt = lx16.toInt + 1 := b64; omega)), V, q_lw hl (q_lw1 0 rfl (q_lw1 2 rfl (q_lw1 1 rfl (q_lw1 3 rfl (q_lw1 4 rfl q_lw0))))), hI, hF, hO23, ⟨fm28, Nat.lt_of_lt_of_le (show (20200 - a62.toInt).toNat < (20200 - lx16.toInt).toNat from by have t1 : a62.toInt = lx16.toInt + 1 := b64; have t2 : 0 ≤ N1.toInt ∧ N1.toInt ≤ 20200 := hfk10; have t3 : lx16.toInt ≤ N1.toInt := i20; have t4 : lx16.toInt < N1.toInt := b37; omega) (Nat.le_of_lt_succ hf27), (show F_WR_grow_L12 N1 x2 x3 t0_0 a9 fm28 a62 j60 f58 = (F_WR_grow N1 x2 x3 t0_0) from Eq.trans (by rw [← e63, ← e61, ← e59, ← e54, ← e51, ← e49, ← e47, ← e44, ← e41, ← e39, F_WR_grow_J25.eq_1, if_pos c36]) hR31)⟩⟩
    ·
      exact q_retv C0 V (⟨hI, hF, lx18, hO23, (show lx18 = (F_WR_grow N1 x2 x3 t0_0) from Eq.trans (by rw [F_WR_grow_J25.eq_1, if_neg c36]) hR31)⟩) d_19_11_32
  ·
    intro J30
    refine lv_icmp_lt (tgt := 25) hx hb d_19_11_16 (by decide) (fun c66 => ?_) (fun c66 => ?_)
    ·
      exact J30 (()) _ _ _ w22 ⟨V, q_lw hl (q_lw1 0 rfl (q_lw1 1 rfl (q_lw1 2 rfl (q_lw1 3 rfl (q_lw1 4 rfl q_lw0))))), (show F_WR_grow_J25 (F_WR_grow_L12 N1 x2 x3 t0_0 a9 fm28) N1 x2 x3 t0_0 a9 lx16 lx17 lx18 = (F_WR_grow N1 x2 x3 t0_0) from Eq.trans (by rw [F_WR_grow_L12.eq_2, if_pos c66]) hR24)⟩
    ·
      refine lv_lload_n hx hb d_19_11_19 rfl (lv_at hl 2 rfl) ?_
      refine lv_lconst (v := 0) hx hb d_19_11_20 (by decide) ?_
      refine W.lcmp hx hb d_19_11_21 ?_
      obtain ⟨a69, e70⟩ := q_nm (lg_cmp lx17 0 : Int32)
      refine q_ti (v := a69) e70 ?_
      refine lv_if_eq (tgt := 65) hx hb d_19_11_22 (by decide) (fun c72 => ?_) (fun c72 => ?_)
      ·
        exact q_retv C0 V (⟨hI, hF, lx18, hO23, (show lx18 = (F_WR_grow N1 x2 x3 t0_0) from Eq.trans (by have c72x := c72; rw [← e70] at c72x; rw [F_WR_grow_L12.eq_2, if_neg c66, if_pos c72x]) hR24)⟩) d_19_11_65
      ·
        exact J30 (()) _ _ _ w22 ⟨V, q_lw hl (q_lw1 0 rfl (q_lw1 1 rfl (q_lw1 2 rfl (q_lw1 3 rfl (q_lw1 4 rfl q_lw0))))), (show F_WR_grow_J25 (F_WR_grow_L12 N1 x2 x3 t0_0 a9 fm28) N1 x2 x3 t0_0 a9 lx16 lx17 lx18 = (F_WR_grow N1 x2 x3 t0_0) from Eq.trans (by have c72x := c72; rw [← e70] at c72x; rw [F_WR_grow_L12.eq_2, if_neg c66, if_neg c72x]) hR24)⟩
theorem d_19_12_0 : decode prog_19_method_12_code 0 = .ok (.lconst 0, 1) := by decide +kernel
theorem d_19_12_1 : decode prog_19_method_12_code 1 = .ok (.lstore_n 2, 1) := by decide +kernel
theorem d_19_12_2 : decode prog_19_method_12_code 2 = .ok (.aload_n 0, 1) := by decide +kernel
theorem d_19_12_3 : decode prog_19_method_12_code 3 = .ok (.invokestatic 59, 3) := by decide +kernel
theorem d_19_12_6 : decode prog_19_method_12_code 6 = .ok (.iconst 1, 1) := by decide +kernel
theorem d_19_12_7 : decode prog_19_method_12_code 7 = .ok (.isub, 1) := by decide +kernel
theorem d_19_12_8 : decode prog_19_method_12_code 8 = .ok (.istore 4, 2) := by decide +kernel
theorem d_19_12_10 : decode prog_19_method_12_code 10 = .ok (.iload 4, 2) := by decide +kernel
theorem d_19_12_12 : decode prog_19_method_12_code 12 = .ok (.ifCond .lt 34, 3) := by decide +kernel
theorem d_19_12_46 : decode prog_19_method_12_code 46 = .ok (.lload_n 2, 1) := by decide +kernel
theorem d_19_12_47 : decode prog_19_method_12_code 47 = .ok (.l2i, 1) := by decide +kernel
theorem d_19_12_48 : decode prog_19_method_12_code 48 = .ok (.ireturn, 1) := by decide +kernel
theorem d_19_12_15 : decode prog_19_method_12_code 15 = .ok (.lload_n 2, 1) := by decide +kernel
theorem d_19_12_16 : decode prog_19_method_12_code 16 = .ok (.bipush 16, 2) := by decide +kernel
theorem d_19_12_18 : decode prog_19_method_12_code 18 = .ok (.lshl, 1) := by decide +kernel
theorem d_19_12_19 : decode prog_19_method_12_code 19 = .ok (.aload_n 0, 1) := by decide +kernel
theorem d_19_12_20 : decode prog_19_method_12_code 20 = .ok (.iload 4, 2) := by decide +kernel
theorem d_19_12_22 : decode prog_19_method_12_code 22 = .ok (.iaload, 1) := by decide +kernel
theorem d_19_12_23 : decode prog_19_method_12_code 23 = .ok (.i2l, 1) := by decide +kernel
theorem d_19_12_24 : decode prog_19_method_12_code 24 = .ok (.lor, 1) := by decide +kernel
theorem d_19_12_25 : decode prog_19_method_12_code 25 = .ok (.lstore_n 2, 1) := by decide +kernel
theorem d_19_12_26 : decode prog_19_method_12_code 26 = .ok (.aload_n 0, 1) := by decide +kernel
theorem d_19_12_27 : decode prog_19_method_12_code 27 = .ok (.iload 4, 2) := by decide +kernel
theorem d_19_12_29 : decode prog_19_method_12_code 29 = .ok (.lload_n 2, 1) := by decide +kernel
theorem d_19_12_30 : decode prog_19_method_12_code 30 = .ok (.iload_n 1, 1) := by decide +kernel
theorem d_19_12_31 : decode prog_19_method_12_code 31 = .ok (.i2l, 1) := by decide +kernel
theorem d_19_12_32 : decode prog_19_method_12_code 32 = .ok (.ldiv, 1) := by decide +kernel
theorem d_19_12_33 : decode prog_19_method_12_code 33 = .ok (.l2i, 1) := by decide +kernel
theorem d_19_12_34 : decode prog_19_method_12_code 34 = .ok (.iastore, 1) := by decide +kernel
theorem d_19_12_35 : decode prog_19_method_12_code 35 = .ok (.lload_n 2, 1) := by decide +kernel
theorem d_19_12_36 : decode prog_19_method_12_code 36 = .ok (.iload_n 1, 1) := by decide +kernel
theorem d_19_12_37 : decode prog_19_method_12_code 37 = .ok (.i2l, 1) := by decide +kernel
theorem d_19_12_38 : decode prog_19_method_12_code 38 = .ok (.lrem, 1) := by decide +kernel
theorem d_19_12_39 : decode prog_19_method_12_code 39 = .ok (.lstore_n 2, 1) := by decide +kernel
theorem d_19_12_40 : decode prog_19_method_12_code 40 = .ok (.iinc 4 (-1), 3) := by decide +kernel
theorem d_19_12_43 : decode prog_19_method_12_code 43 = .ok (.goto (-33), 3) := by decide +kernel
def y_WR_shrink : MethodName := ⟨"NumberHouseModel$WholeRows", "shrink", "([II)I"⟩
def F_WR_shrink_L10 (N1 : Int32) (x2 : Int32) (t0_0 : (Nat → Int32)) : Nat → Int32 → Int64 → (Nat → Int32) → (Int32 × (Nat → Int32))
  | 0, _, _, _ => default
  | fm + 1, lx16, lx17, lx18 => if lx16 < (0 : Int32) then (((lx17.toInt32 : Int32), lx18)) else (F_WR_shrink_L10 N1 x2 t0_0 fm (lx16 + (-1) : Int32) (((lx17 <<< ((16 : Int32).toInt64 &&& 63) : Int64) ||| ((lx18 lx16.toNatClampNeg : Int32).toInt64 : Int64) : Int64) - ((lx17 <<< ((16 : Int32).toInt64 &&& 63) : Int64) ||| ((lx18 lx16.toNatClampNeg : Int32).toInt64 : Int64) : Int64) / (x2.toInt64 : Int64) * (x2.toInt64 : Int64) : Int64) (upd lx18 lx16.toNatClampNeg ((((lx17 <<< ((16 : Int32).toInt64 &&& 63) : Int64) ||| ((lx18 lx16.toNatClampNeg : Int32).toInt64 : Int64) : Int64) / (x2.toInt64 : Int64) : Int64).toInt32 : Int32) : (Nat → Int32)))
def F_WR_shrink (N1 : Int32) (x2 : Int32) (t0_0 : (Nat → Int32)) : Int32 × (Nat → Int32) := F_WR_shrink_L10 N1 x2 t0_0 (((((F_WR_size N1 t0_0) : Int32) - 1 : Int32).toInt - ((-1))).toNat + 1) (((F_WR_size N1 t0_0) : Int32) - 1 : Int32) 0 t0_0
def S_WR_shrink_L10 (N1 : Int32) (x2 : Int32) (t0_0 : (Nat → Int32)) : Nat → Int32 → Int64 → (Nat → Int32) → Prop
  | 0, _, _, _ => False
  | fm + 1, lx16, lx17, lx18 => if lx16 < (0 : Int32) then (True) else ((1 ≤ (x2.toInt64 : Int64).toInt) ∧ (S_WR_shrink_L10 N1 x2 t0_0 fm (lx16 + (-1) : Int32) (((lx17 <<< ((16 : Int32).toInt64 &&& 63) : Int64) ||| ((lx18 lx16.toNatClampNeg : Int32).toInt64 : Int64) : Int64) - ((lx17 <<< ((16 : Int32).toInt64 &&& 63) : Int64) ||| ((lx18 lx16.toNatClampNeg : Int32).toInt64 : Int64) : Int64) / (x2.toInt64 : Int64) * (x2.toInt64 : Int64) : Int64) (upd lx18 lx16.toNatClampNeg ((((lx17 <<< ((16 : Int32).toInt64 &&& 63) : Int64) ||| ((lx18 lx16.toNatClampNeg : Int32).toInt64 : Int64) : Int64) / (x2.toInt64 : Int64) : Int64).toInt32 : Int32) : (Nat → Int32))))
def S_WR_shrink (N1 : Int32) (x2 : Int32) (t0_0 : (Nat → Int32)) : Prop := S_WR_shrink_L10 N1 x2 t0_0 (((((F_WR_size N1 t0_0) : Int32) - 1 : Int32).toInt - ((-1))).toNat + 1) (((F_WR_size N1 t0_0) : Int32) - 1 : Int32) 0 t0_0
set_option maxRecDepth 100000 in
set_option maxHeartbeats 4000000 in
theorem X_WR_shrink (l : Launch) (D : va_G) (g : Nat → ClassId) (q : Nat → Nat) (ws : va_W) (k1 : Nat) (N1 : Int32) (hB1 : q_isRow (msh g q) g k1 N1) (x2 : Int32) (hI : q_I (msh g q) q ws) (t0_0 : (Nat → Int32)) (hT0 : ws[k1]? = (some (q k1, .inl (g 0, N1.toNatClampNeg, .inl t0_0)) : Option (Nat × va_E))) (hS : True ∧ S_WR_shrink N1 x2 t0_0) : q_mI l y_WR_shrink prog_19_method_12_code 5 (.int) 2 0 0 D g [.ref (q k1), .int x2] ws (fun r u => q_I (msh g q) q u ∧ q_un ws u [k1] ∧ ∃ (u0_0 : (Nat → Int32)), u[k1]? = (some (q k1, .inl (g 0, N1.toNatClampNeg, .inl u0_0)) : Option (Nat × va_E)) ∧ (r, u0_0) = (F_WR_shrink N1 x2 t0_0)) := by
  intro sz
  refine q_into (by decide) (Nat.le_of_ble_eq_true rfl) ?_
  intro p e s m below meth c ls hsz C0 V hl
  have hx := C0.1
  have hb := C0.2.1
  have hfk10 : q_F (0 ≤ N1.toInt ∧ N1.toInt ≤ 20200) := hB1.2
  have hF : q_un ws ws [k1] := q_u0
  have hl : lv_has ls 5 [(0, .ref (q k1)), (1, .int x2)] := hl
  refine lv_lconst (v := 0) hx hb d_19_12_0 (by decide) ?_
  refine lv_lstore_n (lv' := [(2, .long 0), (0, .ref (q k1)), (1, .int x2)]) hx hb d_19_12_1 rfl hl (by decide) rfl (fun ls hl => ?_)
  refine lv_aload_n hx hb d_19_12_2 rfl (lv_at hl 1 rfl) ?_
  refine q_goi V (q_runS (As := [.ref (q k1)]) (rest := []) (d := 1) (mc := 0) (ms := 0) C0 V rfl LS_WR_59 (X_WR_size l D g q ws k1 N1 hB1  hI t0_0 hT0  _) rfl hl.1 rfl (Nat.le_of_ble_eq_true rfl) ⟨by decide, by decide⟩ ⟨Nat.le_of_ble_eq_true rfl, Nat.le_of_ble_eq_true rfl⟩ d_19_12_3) (fun a6 u4 H locs hp5 V => ?_)
  obtain ⟨rfl, b7, b8, hE9⟩ := hp5
  have e10 : a6 = (F_WR_size N1 t0_0) := hE9
  replace b7 : q_F (0 ≤ a6.toInt) := b7
  replace b8 : q_F (a6.toInt ≤ N1.toInt) := b8
  refine lv_iconst (v := 1) hx hb d_19_12_6 (by decide) ?_
  refine lv_isub hx hb d_19_12_7 ?_
  obtain ⟨a11, e12⟩ := q_nm (a6 - 1 : Int32)
  refine q_ti (v := a11) e12 ?_
  have b13 : q_F (a11.toInt = a6.toInt - 1) := (by rw [← e12]; show (a6 - 1 : Int32).toInt = a6.toInt - 1; exact q_subI (x := a6.toInt) (y := 1) rfl (by decide) (by have t1 : 0 ≤ a6.toInt := b7; have t2 : a6.toInt ≤ N1.toInt := b8; have _ := q_lo32 (x := N1); have _ := q_hi32 (x := N1); omega) (by have t1 : 0 ≤ a6.toInt := b7; have t2 : a6.toInt ≤ N1.toInt := b8; have _ := q_lo32 (x := N1); have _ := q_hi32 (x := N1); omega))
  refine lv_istore (lv' := [(4, .int a11), (2, .long 0), (0, .ref (q k1)), (1, .int x2)]) hx hb d_19_12_8 hl (by decide) rfl (fun ls hl => ?_)
  refine q_loop (X := Int32 × Int64 × (Nat → Int32)) (fun z H locs ls w22 => q_F (0 ≤ z.1.toInt + 1) ∧ q_F (z.1.toInt ≤ a11.toInt) ∧ q_Wd D g (va_A ws sz) s w22 H locs ∧ lv_has ls 5 [(4, .int z.1), (2, .long z.2.1), (0, .ref (q k1)), (1, .int x2)] ∧ q_I (msh g q) q w22 ∧ q_un ws w22 [k1] ∧ w22[k1]? = (some (q k1, .inl (g 0, N1.toNatClampNeg, .inl z.2.2)) : Option (Nat × va_E)) ∧ (∃ n, (z.1.toInt - ((-1))).toNat < n ∧ F_WR_shrink_L10 N1 x2 t0_0 n z.1 z.2.1 z.2.2 = (F_WR_shrink N1 x2 t0_0) ∧ True ∧ S_WR_shrink_L10 N1 x2 t0_0 n z.1 z.2.1 z.2.2)) (fun z => (z.1.toInt - ((-1))).toNat) ?_ ((a11 : Int32), (0 : Int64), (t0_0 : (Nat → Int32))) _ _ _ ws ⟨(show q_F (0 ≤ a11.toInt + 1) from (show 0 ≤ a11.toInt + 1 from by have t1 : 0 ≤ a6.toInt := b7; have t2 : a11.toInt = a6.toInt - 1 := b13; omega)), (show q_F (a11.toInt ≤ a11.toInt) from (show a11.toInt ≤ a11.toInt from by omega)), V, q_lw hl (q_lw1 0 rfl (q_lw1 1 rfl (q_lw1 2 rfl (q_lw1 3 rfl q_lw0)))), hI, hF, hT0, ⟨((a11.toInt - ((-1))).toNat + 1), Nat.lt_succ_self _, (show F_WR_shrink_L10 N1 x2 t0_0 ((a11.toInt - ((-1))).toNat + 1) a11 0 t0_0 = (F_WR_shrink N1 x2 t0_0) from (by rw [← e12, e10, F_WR_shrink.eq_1])), (show True ∧ S_WR_shrink_L10 N1 x2 t0_0 ((a11.toInt - ((-1))).toNat + 1) a11 0 t0_0 from (by rw [← e12, e10]; have h := hS; rw [S_WR_shrink.eq_1] at h; with_reducible exact h))⟩⟩
  rintro ⟨lx16, lx17, lx18⟩ H locs ls w22 ⟨i19, i20, V, hl, hI, hF, hO23, ⟨fu26, hf27, hR24, hS25⟩⟩ ih21
  obtain ⟨fm28, rfl⟩ : ∃ m, fu26 = m + 1 := ⟨fu26 - 1, by omega⟩
  replace i19 : q_F (0 ≤ lx16.toInt + 1) := i19
  replace i20 : q_F (lx16.toInt ≤ a11.toInt) := i20
  replace hl : lv_has ls 5 [(4, .int lx16), (2, .long lx17), (0, .ref (q k1)), (1, .int x2)] := hl
  replace hO23 : w22[k1]? = (some (q k1, .inl (g 0, N1.toNatClampNeg, .inl lx18)) : Option (Nat × va_E)) := hO23
  refine lv_iload hx hb d_19_12_10 (lv_at hl 0 rfl) ?_
  refine lv_if_lt (tgt := 46) hx hb d_19_12_12 (by decide) (fun c29 => ?_) (fun c29 => ?_)
  ·
    refine lv_lload_n hx hb d_19_12_46 rfl (lv_at hl 1 rfl) ?_
    refine lv_l2i hx hb d_19_12_47 rfl ?_
    obtain ⟨a31, e32⟩ := q_nm (lx17.toInt32 : Int32)
    refine q_ti (v := a31) e32 ?_
    exact q_reti C0 V (⟨hI, hF, lx18, hO23, (show (a31, lx18) = (F_WR_shrink N1 x2 t0_0) from Eq.trans (by rw [← e32, F_WR_shrink_L10.eq_2, if_pos c29]) hR24)⟩) d_19_12_48
  ·
    have b33 : q_F (0 ≤ lx16.toInt) := (q_nltI c29)
    refine lv_lload_n hx hb d_19_12_15 rfl (lv_at hl 1 rfl) ?_
    refine lv_bipush (v := 16) hx hb d_19_12_16 (by decide) ?_
    refine lv_lshl hx hb d_19_12_18 rfl ?_
    obtain ⟨j34, e35⟩ := q_nm (lx17 <<< ((16 : Int32).toInt64 &&& 63) : Int64)
    refine q_tl (v := j34) e35 ?_
    refine lv_aload_n hx hb d_19_12_19 rfl (lv_at hl 2 rfl) ?_
    refine lv_iload hx hb d_19_12_20 (lv_at hl 0 rfl) ?_
    refine q_iald C0 V hO23 (q_ix (x := lx16.toInt) rfl (by first | with_reducible exact q_fe b33 | (have t1 : 0 ≤ lx16.toInt := b33; omega)) (by have t1 : 0 ≤ lx16.toInt := b33; have t2 : a6.toInt ≤ N1.toInt := b8; have t3 : a11.toInt = a6.toInt - 1 := b13; have t4 : lx16.toInt ≤ a11.toInt := i20; have e9 := q_clI (i := N1) rfl (by first | with_reducible exact (q_fe hfk10).2 | with_reducible exact (q_fe hfk10).1 | (have t1 : 0 ≤ N1.toInt ∧ N1.toInt ≤ 20200 := hfk10; omega)); omega)) d_19_12_22 ?_
    obtain ⟨a36, e37⟩ := q_nm (lx18 lx16.toNatClampNeg : Int32)
    refine q_ti (v := a36) e37 ?_
    refine lv_i2l hx hb d_19_12_23 rfl ?_
    obtain ⟨j38, e39⟩ := q_nm (a36.toInt64 : Int64)
    refine q_tl (v := j38) e39 ?_
    refine lv_lor hx hb d_19_12_24 ?_
    obtain ⟨j41, e42⟩ := q_nm (j34 ||| j38 : Int64)
    refine q_tl (v := j41) e42 ?_
    refine lv_lstore_n (lv' := [(2, .long j41), (4, .int lx16), (0, .ref (q k1)), (1, .int x2)]) hx hb d_19_12_25 rfl hl (by decide) rfl (fun ls hl => ?_)
    refine lv_aload_n hx hb d_19_12_26 rfl (lv_at hl 2 rfl) ?_
    refine lv_iload hx hb d_19_12_27 (lv_at hl 1 rfl) ?_
    refine lv_lload_n hx hb d_19_12_29 rfl (lv_at hl 0 rfl) ?_
    refine lv_iload_n hx hb d_19_12_30 rfl (lv_at hl 3 rfl) ?_
    refine lv_i2l hx hb d_19_12_31 rfl ?_
    obtain ⟨j43, e44⟩ := q_nm (x2.toInt64 : Int64)
    refine q_tl (v := j43) e44 ?_
    have b45 : q_F (j43.toInt = x2.toInt) := (by rw [← e44]; show (x2.toInt64 : Int64).toInt = x2.toInt; exact q_i2l rfl)
    have ob46 : q_F (1 ≤ j43.toInt) := (by rw [← e44]; have h := hS25; rw [S_WR_shrink_L10.eq_2] at h; rw [if_neg c29] at h; exact h.2.1)
    refine lv_ldiv hx hb d_19_12_32 (s_nzL (by first | with_reducible exact q_fe ob46 | (have t1 : 1 ≤ j43.toInt := ob46; omega))) ?_
    obtain ⟨j47, e48⟩ := q_nm (j41 / j43 : Int64)
    refine q_tl (v := j47) e48 ?_
    refine lv_l2i hx hb d_19_12_33 rfl ?_
    obtain ⟨a49, e50⟩ := q_nm (j47.toInt32 : Int32)
    refine q_ti (v := a49) e50 ?_
    refine q_iast C0 V hO23 (q_ix (x := lx16.toInt) rfl (by first | with_reducible exact q_fe b33 | (have t1 : 0 ≤ lx16.toInt := b33; omega)) (by have t1 : 0 ≤ lx16.toInt := b33; have t2 : a6.toInt ≤ N1.toInt := b8; have t3 : a11.toInt = a6.toInt - 1 := b13; have t4 : lx16.toInt ≤ a11.toInt := i20; have e9 := q_clI (i := N1) rfl (by first | with_reducible exact (q_fe hfk10).2 | with_reducible exact (q_fe hfk10).1 | (have t1 : 0 ≤ N1.toInt ∧ N1.toInt ≤ 20200 := hfk10; omega)); omega)) d_19_12_34 (fun H locs w51 hu52 hO23 V => ?_)
    replace hI := n_ai' hI hB1.1 hu52 hO23 (q_updB (fun _ => s_bnd) s_bnd)
    replace hF := q_us hF hu52 (by simp)
    obtain ⟨f53, e54⟩ := q_nm (upd lx18 lx16.toNatClampNeg a49 : (Nat → Int32))
    rw [e54] at hO23
    refine lv_lload_n hx hb d_19_12_35 rfl (lv_at hl 0 rfl) ?_
    refine lv_iload_n hx hb d_19_12_36 rfl (lv_at hl 3 rfl) ?_
    refine lv_i2l hx hb d_19_12_37 rfl ?_
    obtain ⟨j55, e56⟩ := q_nm (x2.toInt64 : Int64)
    refine q_tl (v := j55) e56 ?_
    have b57 : q_F (j55.toInt = x2.toInt) := (by rw [← e56]; show (x2.toInt64 : Int64).toInt = x2.toInt; exact q_i2l rfl)
    refine lv_lrem hx hb d_19_12_38 (s_nzL (by have t1 : j43.toInt = x2.toInt := b45; have t2 : 1 ≤ j43.toInt := ob46; have t3 : j55.toInt = x2.toInt := b57; omega)) ?_
    obtain ⟨j58, e59⟩ := q_nm (j41 - j41 / j55 * j55 : Int64)
    refine q_tl (v := j58) e59 ?_
    refine lv_lstore_n (lv' := [(2, .long j58), (4, .int lx16), (0, .ref (q k1)), (1, .int x2)]) hx hb d_19_12_39 rfl hl (by decide) rfl (fun ls hl => ?_)
    obtain ⟨a60, e61⟩ := q_nm (lx16 + (-1) : Int32)
    have b62 : q_F (a60.toInt = lx16.toInt + (-1)) := (by rw [← e61]; exact q_addI (y := (-1)) rfl (by decide) (by have t1 : 0 ≤ lx16.toInt + 1 := i19; have t2 : lx16.toInt ≤ a11.toInt := i20; have _ := q_lo32 (x := a11); have _ := q_hi32 (x := a11); omega) (by have t1 : 0 ≤ lx16.toInt + 1 := i19; have t2 : lx16.toInt ≤ a11.toInt := i20; have _ := q_lo32 (x := a11); have _ := q_hi32 (x := a11); omega))
    refine lv_iinc (v := a60) (lv' := [(4, .int a60), (2, .long j58), (0, .ref (q k1)), (1, .int x2)]) hx hb d_19_12_40 hl (k := 1) rfl (e61) (by decide) rfl (fun ls hl => ?_)
    refine lv_goto (tgt := 10) hx hb d_19_12_43 (by decide) ?_
    exact ih21 ((a60 : Int32), (j58 : Int64), (f53 : (Nat → Int32))) _ _ _ _ (show (a60.toInt - ((-1))).toNat < (lx16.toInt - ((-1))).toNat from by have t1 : a60.toInt = lx16.toInt + (-1) := b62; have t2 : 0 ≤ lx16.toInt + 1 := i19; have t3 : 0 ≤ lx16.toInt := b33; omega) ⟨(show q_F (0 ≤ a60.toInt + 1) from (show 0 ≤ a60.toInt + 1 from by have t1 : 0 ≤ lx16.toInt := b33; have t2 : a60.toInt = lx16.toInt + (-1) := b62; omega)), (show q_F (a60.toInt ≤ a11.toInt) from (show a60.toInt ≤ a11.toInt from by have t1 : lx16.toInt ≤ a11.toInt := i20; have t2 : a60.toInt = lx16.toInt + (-1) := b62; omega)), V, q_lw hl (q_lw1 0 rfl (q_lw1 1 rfl (q_lw1 2 rfl (q_lw1 3 rfl q_lw0)))), hI, hF, hO23, ⟨fm28, Nat.lt_of_lt_of_le (show (a60.toInt - ((-1))).toNat < (lx16.toInt - ((-1))).toNat from by have t1 : a60.toInt = lx16.toInt + (-1) := b62; have t2 : 0 ≤ lx16.toInt + 1 := i19; have t3 : 0 ≤ lx16.toInt := b33; omega) (Nat.le_of_lt_succ hf27), (show F_WR_shrink_L10 N1 x2 t0_0 fm28 a60 j58 f53 = (F_WR_shrink N1 x2 t0_0) from Eq.trans (by rw [← e61, ← e59, ← e56, ← e54, ← e50, ← e48, ← e44, ← e42, ← e39, ← e37, ← e35, F_WR_shrink_L10.eq_2, if_neg c29]) hR24), (show True ∧ S_WR_shrink_L10 N1 x2 t0_0 fm28 a60 j58 f53 from (by rw [← e61, ← e59, ← e56, ← e54, ← e50, ← e48, ← e44, ← e42, ← e39, ← e37, ← e35]; have h := hS25; rw [S_WR_shrink_L10.eq_2] at h; rw [if_neg c29] at h; replace h := q_s2 h; with_reducible exact h))⟩⟩
theorem d_19_18_0 : decode prog_19_method_18_code 0 = .ok (.iload_n 0, 1) := by decide +kernel
theorem d_19_18_1 : decode prog_19_method_18_code 1 = .ok (.bipush 48, 2) := by decide +kernel
theorem d_19_18_19 : decode prog_19_method_18_code 19 = .ok (.iload_n 0, 1) := by decide +kernel
theorem d_19_18_20 : decode prog_19_method_18_code 20 = .ok (.bipush 97, 2) := by decide +kernel
theorem d_19_18_41 : decode prog_19_method_18_code 41 = .ok (.iload_n 0, 1) := by decide +kernel
theorem d_19_18_42 : decode prog_19_method_18_code 42 = .ok (.bipush 65, 2) := by decide +kernel
theorem d_19_18_44 : decode prog_19_method_18_code 44 = .ok (.if_icmp .lt 19, 3) := by decide +kernel
theorem d_19_18_63 : decode prog_19_method_18_code 63 = .ok (.bipush 99, 2) := by decide +kernel
theorem d_19_18_65 : decode prog_19_method_18_code 65 = .ok (.ireturn, 1) := by decide +kernel
theorem d_19_18_47 : decode prog_19_method_18_code 47 = .ok (.iload_n 0, 1) := by decide +kernel
theorem d_19_18_48 : decode prog_19_method_18_code 48 = .ok (.bipush 90, 2) := by decide +kernel
theorem d_19_18_50 : decode prog_19_method_18_code 50 = .ok (.if_icmp .gt 13, 3) := by decide +kernel
theorem d_19_18_53 : decode prog_19_method_18_code 53 = .ok (.iload_n 0, 1) := by decide +kernel
theorem d_19_18_54 : decode prog_19_method_18_code 54 = .ok (.bipush 65, 2) := by decide +kernel
theorem d_19_18_56 : decode prog_19_method_18_code 56 = .ok (.isub, 1) := by decide +kernel
theorem d_19_18_57 : decode prog_19_method_18_code 57 = .ok (.bipush 10, 2) := by decide +kernel
theorem d_19_18_59 : decode prog_19_method_18_code 59 = .ok (.iadd, 1) := by decide +kernel
theorem d_19_18_60 : decode prog_19_method_18_code 60 = .ok (.goto 5, 3) := by decide +kernel
theorem d_19_18_22 : decode prog_19_method_18_code 22 = .ok (.if_icmp .lt 19, 3) := by decide +kernel
theorem d_19_18_25 : decode prog_19_method_18_code 25 = .ok (.iload_n 0, 1) := by decide +kernel
theorem d_19_18_26 : decode prog_19_method_18_code 26 = .ok (.bipush 122, 2) := by decide +kernel
theorem d_19_18_28 : decode prog_19_method_18_code 28 = .ok (.if_icmp .gt 13, 3) := by decide +kernel
theorem d_19_18_31 : decode prog_19_method_18_code 31 = .ok (.iload_n 0, 1) := by decide +kernel
theorem d_19_18_32 : decode prog_19_method_18_code 32 = .ok (.bipush 97, 2) := by decide +kernel
theorem d_19_18_34 : decode prog_19_method_18_code 34 = .ok (.isub, 1) := by decide +kernel
theorem d_19_18_35 : decode prog_19_method_18_code 35 = .ok (.bipush 10, 2) := by decide +kernel
theorem d_19_18_37 : decode prog_19_method_18_code 37 = .ok (.iadd, 1) := by decide +kernel
theorem d_19_18_38 : decode prog_19_method_18_code 38 = .ok (.goto 27, 3) := by decide +kernel
theorem d_19_18_3 : decode prog_19_method_18_code 3 = .ok (.if_icmp .lt 16, 3) := by decide +kernel
theorem d_19_18_6 : decode prog_19_method_18_code 6 = .ok (.iload_n 0, 1) := by decide +kernel
theorem d_19_18_7 : decode prog_19_method_18_code 7 = .ok (.bipush 57, 2) := by decide +kernel
theorem d_19_18_9 : decode prog_19_method_18_code 9 = .ok (.if_icmp .gt 10, 3) := by decide +kernel
theorem d_19_18_12 : decode prog_19_method_18_code 12 = .ok (.iload_n 0, 1) := by decide +kernel
theorem d_19_18_13 : decode prog_19_method_18_code 13 = .ok (.bipush 48, 2) := by decide +kernel
theorem d_19_18_15 : decode prog_19_method_18_code 15 = .ok (.isub, 1) := by decide +kernel
theorem d_19_18_16 : decode prog_19_method_18_code 16 = .ok (.goto 49, 3) := by decide +kernel
def y_WR_digit : MethodName := ⟨"NumberHouseModel$WholeRows", "digit", "(I)I"⟩
def F_WR_digit_J41 (x1 : Int32) : Int32 := if x1 < (65 : Int32) then ((99 : Int32)) else (if (90 : Int32) < x1 then ((99 : Int32)) else (((x1 - 65 : Int32) + 10 : Int32)))
def F_WR_digit_J19 (x1 : Int32) : Int32 := if x1 < (97 : Int32) then (F_WR_digit_J41 x1) else (if (122 : Int32) < x1 then (F_WR_digit_J41 x1) else (((x1 - 97 : Int32) + 10 : Int32)))
def F_WR_digit (x1 : Int32) : Int32 := if x1 < (48 : Int32) then (F_WR_digit_J19 x1) else (if (57 : Int32) < x1 then (F_WR_digit_J19 x1) else ((x1 - 48 : Int32)))
set_option maxRecDepth 100000 in
set_option maxHeartbeats 4000000 in
theorem X_WR_digit (l : Launch) (D : va_G) (g : Nat → ClassId) (q : Nat → Nat) (ws : va_W) (x1 : Int32) (hI : q_I (msh g q) q ws) : q_mI l y_WR_digit prog_19_method_18_code 1 (.int) 1 0 0 D g [.int x1] ws (fun r u => ws = u ∧ (0 ≤ r.toInt) ∧ (r.toInt ≤ 99) ∧ r = (F_WR_digit x1)) := by
  intro sz
  refine q_into (by decide) (Nat.le_of_ble_eq_true rfl) ?_
  intro p e s m below meth c ls hsz C0 V hl
  have hx := C0.1
  have hb := C0.2.1
  have hl : lv_has ls 1 [(0, .int x1)] := hl
  refine lv_iload_n hx hb d_19_18_0 rfl (lv_at hl 0 rfl) ?_
  refine lv_bipush (v := 48) hx hb d_19_18_1 (by decide) ?_
  refine q_join (X := Unit) (fun z H locs ls _ => q_Wd D g (va_A ws sz) s ws H locs ∧ lv_has ls 1 [(0, .int x1)] ∧ F_WR_digit_J19 x1 = (F_WR_digit x1)) (fun z => []) 19 0 0 ?_ ?_
  ·
    rintro _ H locs ls _ ⟨V, hl, hR2⟩
    replace hl : lv_has ls 1 [(0, .int x1)] := hl
    refine lv_iload_n hx hb d_19_18_19 rfl (lv_at hl 0 rfl) ?_
    refine lv_bipush (v := 97) hx hb d_19_18_20 (by decide) ?_
    refine q_join (X := Unit) (fun z H locs ls _ => q_Wd D g (va_A ws sz) s ws H locs ∧ lv_has ls 1 [(0, .int x1)] ∧ F_WR_digit_J41 x1 = (F_WR_digit x1)) (fun z => []) 41 0 0 ?_ ?_
    ·
      rintro _ H locs ls _ ⟨V, hl, hR8⟩
      replace hl : lv_has ls 1 [(0, .int x1)] := hl
      refine lv_iload_n hx hb d_19_18_41 rfl (lv_at hl 0 rfl) ?_
      refine lv_bipush (v := 65) hx hb d_19_18_42 (by decide) ?_
      refine lv_icmp_lt (tgt := 63) hx hb d_19_18_44 (by decide) (fun c13 => ?_) (fun c13 => ?_)
      ·
        refine lv_bipush (v := 99) hx hb d_19_18_63 (by decide) ?_
        exact q_reti C0 V (⟨rfl, (show 0 ≤ (99 : Int32).toInt from (by have z1 : (99 : Int32).toInt = 99 := rfl; omega)), (show (99 : Int32).toInt ≤ 99 from (by have z1 : (99 : Int32).toInt = 99 := rfl; omega)), (show (99 : Int32) = (F_WR_digit x1) from Eq.trans (by rw [F_WR_digit_J41.eq_1, if_pos c13]) hR8)⟩) d_19_18_65
      ·
        have b15 : q_F (65 ≤ x1.toInt) := (q_nltI c13)
        refine lv_iload_n hx hb d_19_18_47 rfl (lv_at hl 0 rfl) ?_
        refine lv_bipush (v := 90) hx hb d_19_18_48 (by decide) ?_
        refine lv_icmp_gt (tgt := 63) hx hb d_19_18_50 (by decide) (fun c16 => ?_) (fun c16 => ?_)
        ·
          refine lv_bipush (v := 99) hx hb d_19_18_63 (by decide) ?_
          exact q_reti C0 V (⟨rfl, (show 0 ≤ (99 : Int32).toInt from (by have z1 : (99 : Int32).toInt = 99 := rfl; omega)), (show (99 : Int32).toInt ≤ 99 from (by have z1 : (99 : Int32).toInt = 99 := rfl; omega)), (show (99 : Int32) = (F_WR_digit x1) from Eq.trans (by rw [F_WR_digit_J41.eq_1, if_neg c13, if_pos c16]) hR8)⟩) d_19_18_65
        ·
          have b18 : q_F (x1.toInt ≤ 90) := (q_nltI c16)
          refine lv_iload_n hx hb d_19_18_53 rfl (lv_at hl 0 rfl) ?_
          refine lv_bipush (v := 65) hx hb d_19_18_54 (by decide) ?_
          refine lv_isub hx hb d_19_18_56 ?_
          obtain ⟨a19, e20⟩ := q_nm (x1 - 65 : Int32)
          refine q_ti (v := a19) e20 ?_
          have b21 : q_F (a19.toInt = x1.toInt - 65) := (by rw [← e20]; show (x1 - 65 : Int32).toInt = x1.toInt - 65; exact q_subI (x := x1.toInt) (y := 65) rfl (by decide) (by have t1 : 65 ≤ x1.toInt := b15; have t2 : x1.toInt ≤ 90 := b18; omega) (by have t1 : 65 ≤ x1.toInt := b15; have t2 : x1.toInt ≤ 90 := b18; omega))
          refine lv_bipush (v := 10) hx hb d_19_18_57 (by decide) ?_
          refine lv_iadd hx hb d_19_18_59 ?_
          obtain ⟨a22, e23⟩ := q_nm (a19 + 10 : Int32)
          refine q_ti (v := a22) e23 ?_
          have b24 : q_F (a22.toInt = a19.toInt + 10) := (by rw [← e23]; show (a19 + 10 : Int32).toInt = a19.toInt + 10; exact q_addI (x := a19.toInt) (y := 10) rfl (by decide) (by have _ := q_lo32 (x := a19); have _ := q_hi32 (x := a19); have t1 : a19.toInt = x1.toInt - 65 := b21; have _ := q_lo32 (x := x1); have _ := q_hi32 (x := x1); omega) (by have _ := q_lo32 (x := a19); have _ := q_hi32 (x := a19); have t1 : a19.toInt = x1.toInt - 65 := b21; have _ := q_lo32 (x := x1); have _ := q_hi32 (x := x1); omega))
          refine lv_goto (tgt := 65) hx hb d_19_18_60 (by decide) ?_
          exact q_reti C0 V (⟨rfl, (show 0 ≤ a22.toInt from (by have t1 : 65 ≤ x1.toInt := b15; have t2 : a19.toInt = x1.toInt - 65 := b21; have t3 : a22.toInt = a19.toInt + 10 := b24; omega)), (show a22.toInt ≤ 99 from (by have t1 : x1.toInt ≤ 90 := b18; have t2 : a19.toInt = x1.toInt - 65 := b21; have t3 : a22.toInt = a19.toInt + 10 := b24; omega)), (show a22 = (F_WR_digit x1) from Eq.trans (by rw [← e23, ← e20, F_WR_digit_J41.eq_1, if_neg c13, if_neg c16]) hR8)⟩) d_19_18_65
    ·
      intro J7
      refine lv_icmp_lt (tgt := 41) hx hb d_19_18_22 (by decide) (fun c25 => ?_) (fun c25 => ?_)
      ·
        exact J7 (()) _ _ _ ws ⟨V, q_lw hl (q_lw1 0 rfl q_lw0), (show F_WR_digit_J41 x1 = (F_WR_digit x1) from Eq.trans (by rw [F_WR_digit_J19.eq_1, if_pos c25]) hR2)⟩
      ·
        have b27 : q_F (97 ≤ x1.toInt) := (q_nltI c25)
        refine lv_iload_n hx hb d_19_18_25 rfl (lv_at hl 0 rfl) ?_
        refine lv_bipush (v := 122) hx hb d_19_18_26 (by decide) ?_
        refine lv_icmp_gt (tgt := 41) hx hb d_19_18_28 (by decide) (fun c28 => ?_) (fun c28 => ?_)
        ·
          exact J7 (()) _ _ _ ws ⟨V, q_lw hl (q_lw1 0 rfl q_lw0), (show F_WR_digit_J41 x1 = (F_WR_digit x1) from Eq.trans (by rw [F_WR_digit_J19.eq_1, if_neg c25, if_pos c28]) hR2)⟩
        ·
          have b30 : q_F (x1.toInt ≤ 122) := (q_nltI c28)
          refine lv_iload_n hx hb d_19_18_31 rfl (lv_at hl 0 rfl) ?_
          refine lv_bipush (v := 97) hx hb d_19_18_32 (by decide) ?_
          refine lv_isub hx hb d_19_18_34 ?_
          obtain ⟨a31, e32⟩ := q_nm (x1 - 97 : Int32)
          refine q_ti (v := a31) e32 ?_
          have b33 : q_F (a31.toInt = x1.toInt - 97) := (by rw [← e32]; show (x1 - 97 : Int32).toInt = x1.toInt - 97; exact q_subI (x := x1.toInt) (y := 97) rfl (by decide) (by have t1 : 97 ≤ x1.toInt := b27; have t2 : x1.toInt ≤ 122 := b30; omega) (by have t1 : 97 ≤ x1.toInt := b27; have t2 : x1.toInt ≤ 122 := b30; omega))
          refine lv_bipush (v := 10) hx hb d_19_18_35 (by decide) ?_
          refine lv_iadd hx hb d_19_18_37 ?_
          obtain ⟨a34, e35⟩ := q_nm (a31 + 10 : Int32)
          refine q_ti (v := a34) e35 ?_
          have b36 : q_F (a34.toInt = a31.toInt + 10) := (by rw [← e35]; show (a31 + 10 : Int32).toInt = a31.toInt + 10; exact q_addI (x := a31.toInt) (y := 10) rfl (by decide) (by have _ := q_lo32 (x := a31); have _ := q_hi32 (x := a31); have t1 : a31.toInt = x1.toInt - 97 := b33; have _ := q_lo32 (x := x1); have _ := q_hi32 (x := x1); omega) (by have _ := q_lo32 (x := a31); have _ := q_hi32 (x := a31); have t1 : a31.toInt = x1.toInt - 97 := b33; have _ := q_lo32 (x := x1); have _ := q_hi32 (x := x1); omega))
          refine lv_goto (tgt := 65) hx hb d_19_18_38 (by decide) ?_
          exact q_reti C0 V (⟨rfl, (show 0 ≤ a34.toInt from (by have t1 : 97 ≤ x1.toInt := b27; have t2 : a31.toInt = x1.toInt - 97 := b33; have t3 : a34.toInt = a31.toInt + 10 := b36; omega)), (show a34.toInt ≤ 99 from (by have t1 : x1.toInt ≤ 122 := b30; have t2 : a31.toInt = x1.toInt - 97 := b33; have t3 : a34.toInt = a31.toInt + 10 := b36; omega)), (show a34 = (F_WR_digit x1) from Eq.trans (by rw [← e35, ← e32, F_WR_digit_J19.eq_1, if_neg c25, if_neg c28]) hR2)⟩) d_19_18_65
  ·
    intro J1
    refine lv_icmp_lt (tgt := 19) hx hb d_19_18_3 (by decide) (fun c37 => ?_) (fun c37 => ?_)
    ·
      exact J1 (()) _ _ _ ws ⟨V, q_lw hl (q_lw1 0 rfl q_lw0), (show F_WR_digit_J19 x1 = (F_WR_digit x1) from (by rw [F_WR_digit.eq_1, if_pos c37]))⟩
    ·
      have b39 : q_F (48 ≤ x1.toInt) := (q_nltI c37)
      refine lv_iload_n hx hb d_19_18_6 rfl (lv_at hl 0 rfl) ?_
      refine lv_bipush (v := 57) hx hb d_19_18_7 (by decide) ?_
      refine lv_icmp_gt (tgt := 19) hx hb d_19_18_9 (by decide) (fun c40 => ?_) (fun c40 => ?_)
      ·
        exact J1 (()) _ _ _ ws ⟨V, q_lw hl (q_lw1 0 rfl q_lw0), (show F_WR_digit_J19 x1 = (F_WR_digit x1) from (by rw [F_WR_digit.eq_1, if_neg c37, if_pos c40]))⟩
      ·
        have b42 : q_F (x1.toInt ≤ 57) := (q_nltI c40)
        refine lv_iload_n hx hb d_19_18_12 rfl (lv_at hl 0 rfl) ?_
        refine lv_bipush (v := 48) hx hb d_19_18_13 (by decide) ?_
        refine lv_isub hx hb d_19_18_15 ?_
        obtain ⟨a43, e44⟩ := q_nm (x1 - 48 : Int32)
        refine q_ti (v := a43) e44 ?_
        have b45 : q_F (a43.toInt = x1.toInt - 48) := (by rw [← e44]; show (x1 - 48 : Int32).toInt = x1.toInt - 48; exact q_subI (x := x1.toInt) (y := 48) rfl (by decide) (by have t1 : 48 ≤ x1.toInt := b39; have t2 : x1.toInt ≤ 57 := b42; omega) (by have t1 : 48 ≤ x1.toInt := b39; have t2 : x1.toInt ≤ 57 := b42; omega))
        refine lv_goto (tgt := 65) hx hb d_19_18_16 (by decide) ?_
        exact q_reti C0 V (⟨rfl, (show 0 ≤ a43.toInt from (by have t1 : 48 ≤ x1.toInt := b39; have t2 : a43.toInt = x1.toInt - 48 := b45; omega)), (show a43.toInt ≤ 99 from (by have t1 : x1.toInt ≤ 57 := b42; have t2 : a43.toInt = x1.toInt - 48 := b45; omega)), (show a43 = (F_WR_digit x1) from (by rw [← e44, F_WR_digit.eq_1, if_neg c37, if_neg c40]))⟩) d_19_18_65

