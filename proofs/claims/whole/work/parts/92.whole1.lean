/-! WholeRows, exactly: products and quotients -/
theorem d_19_6_0 : decode prog_19_method_6_code 0 = .ok (.iconst 0, 1) := by decide +kernel
theorem d_19_6_1 : decode prog_19_method_6_code 1 = .ok (.istore_n 3, 1) := by decide +kernel
theorem d_19_6_2 : decode prog_19_method_6_code 2 = .ok (.iload_n 3, 1) := by decide +kernel
theorem d_19_6_3 : decode prog_19_method_6_code 3 = .ok (.aload_n 2, 1) := by decide +kernel
theorem d_19_6_4 : decode prog_19_method_6_code 4 = .ok (.arraylength, 1) := by decide +kernel
theorem d_19_6_5 : decode prog_19_method_6_code 5 = .ok (.if_icmp .ge 35, 3) := by decide +kernel
theorem d_19_6_40 : decode prog_19_method_6_code 40 = .ok (.return_, 1) := by decide +kernel
theorem d_19_6_8 : decode prog_19_method_6_code 8 = .ok (.aload_n 2, 1) := by decide +kernel
theorem d_19_6_9 : decode prog_19_method_6_code 9 = .ok (.iload_n 3, 1) := by decide +kernel
theorem d_19_6_10 : decode prog_19_method_6_code 10 = .ok (.iload_n 3, 1) := by decide +kernel
theorem d_19_6_11 : decode prog_19_method_6_code 11 = .ok (.sipush 128, 3) := by decide +kernel
theorem d_19_6_14 : decode prog_19_method_6_code 14 = .ok (.if_icmp .ge 18, 3) := by decide +kernel
theorem d_19_6_32 : decode prog_19_method_6_code 32 = .ok (.iconst 0, 1) := by decide +kernel
theorem d_19_6_33 : decode prog_19_method_6_code 33 = .ok (.iastore, 1) := by decide +kernel
theorem d_19_6_34 : decode prog_19_method_6_code 34 = .ok (.iinc 3 1, 3) := by decide +kernel
theorem d_19_6_37 : decode prog_19_method_6_code 37 = .ok (.goto (-35), 3) := by decide +kernel
theorem d_19_6_17 : decode prog_19_method_6_code 17 = .ok (.aload_n 0, 1) := by decide +kernel
theorem d_19_6_18 : decode prog_19_method_6_code 18 = .ok (.getfield 13, 3) := by decide +kernel
theorem d_19_6_21 : decode prog_19_method_6_code 21 = .ok (.sipush 128, 3) := by decide +kernel
theorem d_19_6_24 : decode prog_19_method_6_code 24 = .ok (.iload_n 1, 1) := by decide +kernel
theorem d_19_6_25 : decode prog_19_method_6_code 25 = .ok (.imul, 1) := by decide +kernel
theorem d_19_6_26 : decode prog_19_method_6_code 26 = .ok (.iload_n 3, 1) := by decide +kernel
theorem d_19_6_27 : decode prog_19_method_6_code 27 = .ok (.iadd, 1) := by decide +kernel
theorem d_19_6_28 : decode prog_19_method_6_code 28 = .ok (.iaload, 1) := by decide +kernel
theorem d_19_6_29 : decode prog_19_method_6_code 29 = .ok (.goto 4, 3) := by decide +kernel
def y_WR_take : MethodName := ⟨"NumberHouseModel$WholeRows", "take", "(I[I)V"⟩
def F_WR_take_L2 (x2 : Int32) (N3 : Int32) (t0_0 : Int32) (t0_1 : Int32) (t0_2 : Int32) (t0_3 : Int32) (t0_4 : Int32) (t0_5 : Int32) (t0_6 : Int32) (t1_0 : (Nat → Int32)) (t2_0 : (Nat → Int32)) : Nat → Int32 → (Nat → Int32) → (Nat → Int32)
  | 0, _, _ => default
  | fm + 1, lx21, lx22 => if N3 ≤ lx21 then (lx22) else (if (128 : Int32) ≤ lx21 then (F_WR_take_L2 x2 N3 t0_0 t0_1 t0_2 t0_3 t0_4 t0_5 t0_6 t1_0 t2_0 fm (lx21 + 1 : Int32) (upd lx22 lx21.toNatClampNeg 0 : (Nat → Int32))) else (F_WR_take_L2 x2 N3 t0_0 t0_1 t0_2 t0_3 t0_4 t0_5 t0_6 t1_0 t2_0 fm (lx21 + 1 : Int32) (upd lx22 lx21.toNatClampNeg (f52 ((128 * x2 : Int32) + lx21 : Int32).toNatClampNeg : Int32) : (Nat → Int32))))
def F_WR_take (x2 : Int32) (N3 : Int32) (t0_0 : Int32) (t0_1 : Int32) (t0_2 : Int32) (t0_3 : Int32) (t0_4 : Int32) (t0_5 : Int32) (t0_6 : Int32) (t1_0 : (Nat → Int32)) (t2_0 : (Nat → Int32)) : (Nat → Int32) := F_WR_take_L2 x2 N3 t0_0 t0_1 t0_2 t0_3 t0_4 t0_5 t0_6 t1_0 t2_0 ((20200 - (0 : Int32).toInt).toNat + 1) 0 t2_0
def S_WR_take_L2 (x2 : Int32) (N3 : Int32) (t0_0 : Int32) (t0_1 : Int32) (t0_2 : Int32) (t0_3 : Int32) (t0_4 : Int32) (t0_5 : Int32) (t0_6 : Int32) (t1_0 : (Nat → Int32)) (t2_0 : (Nat → Int32)) : Nat → Int32 → (Nat → Int32) → Prop
  | 0, _, _ => False
  | fm + 1, lx21, lx22 => if N3 ≤ lx21 then (True) else (if (128 : Int32) ≤ lx21 then (S_WR_take_L2 x2 N3 t0_0 t0_1 t0_2 t0_3 t0_4 t0_5 t0_6 t1_0 t2_0 fm (lx21 + 1 : Int32) (upd lx22 lx21.toNatClampNeg 0 : (Nat → Int32))) else ((0 ≤ ((128 * x2 : Int32) + lx21 : Int32).toInt) ∧ ((((128 * x2 : Int32) + lx21 : Int32).toInt ≤ 1407) ∧ (S_WR_take_L2 x2 N3 t0_0 t0_1 t0_2 t0_3 t0_4 t0_5 t0_6 t1_0 t2_0 fm (lx21 + 1 : Int32) (upd lx22 lx21.toNatClampNeg (f52 ((128 * x2 : Int32) + lx21 : Int32).toNatClampNeg : Int32) : (Nat → Int32))))))
def S_WR_take (x2 : Int32) (N3 : Int32) (t0_0 : Int32) (t0_1 : Int32) (t0_2 : Int32) (t0_3 : Int32) (t0_4 : Int32) (t0_5 : Int32) (t0_6 : Int32) (t1_0 : (Nat → Int32)) (t2_0 : (Nat → Int32)) : Prop := S_WR_take_L2 x2 N3 t0_0 t0_1 t0_2 t0_3 t0_4 t0_5 t0_6 t1_0 t2_0 ((20200 - (0 : Int32).toInt).toNat + 1) 0 t2_0
set_option maxRecDepth 100000 in
set_option maxHeartbeats 4000000 in
theorem X_WR_take (l : Launch) (D : va_G) (g : Nat → ClassId) (q : Nat → Nat) (ws : va_W) (k3 : Nat) (N3 : Int32) (hB3 : q_isRow (msh g q) g k3 N3) (x2 : Int32) (hI : q_I (msh g q) q ws) (t0_0 : Int32) (t0_1 : Int32) (t0_2 : Int32) (t0_3 : Int32) (t0_4 : Int32) (t0_5 : Int32) (t0_6 : Int32) (hT0 : ws[119]? = (some (q 119, .inr (13, [.int t0_0, .int t0_1, .ref (q 120), .int t0_2, .ref (q 121), .ref (q 122), .ref (q 123), .int t0_3, .ref (q 124), .ref (q 125), .ref (q 126), .ref (q 127), .ref (q 128), .ref (q 129), .ref (q 130), .ref (q 131), .int t0_4, .int t0_5, .ref (q 132), .ref (q 133), .int t0_6])) : Option (Nat × va_E))) (t1_0 : (Nat → Int32)) (hT1 : ws[121]? = (some (q 121, .inl (g 0, (1408 : Int32).toNatClampNeg, .inl t1_0)) : Option (Nat × va_E))) (t2_0 : (Nat → Int32)) (hT2 : ws[k3]? = (some (q k3, .inl (g 0, N3.toNatClampNeg, .inl t2_0)) : Option (Nat × va_E))) (hS : S_WR_take x2 N3 t0_0 t0_1 t0_2 t0_3 t0_4 t0_5 t0_6 t1_0 t2_0) : q_mV l y_WR_take prog_19_method_6_code 4 1 0 0 D g [.ref (q 119), .int x2, .ref (q k3)] ws (fun u => q_I (msh g q) q u ∧ q_un ws u [k3] ∧ ∃ (u2_0 : (Nat → Int32)), u[k3]? = (some (q k3, .inl (g 0, N3.toNatClampNeg, .inl u2_0)) : Option (Nat × va_E)) ∧ u2_0 = (F_WR_take x2 N3 t0_0 t0_1 t0_2 t0_3 t0_4 t0_5 t0_6 t1_0 t2_0)) := by
  intro sz
  refine q_into (by decide) (Nat.le_of_ble_eq_true rfl) ?_
  intro p e s m below meth c ls hsz C0 V hl
  have hx := C0.1
  have hb := C0.2.1
  have hfk30 : q_F (0 ≤ N3.toInt ∧ N3.toInt ≤ 20200) := hB3.2
  obtain ⟨yy0_0, yy0_1, yy0_2, yy0_3, yy0_4, yy0_5, yy0_6, hh0, btt0_2, btt0_3, btt0_4, btt0_5, btt0_6⟩ := n_o119 hI
  obtain ⟨rfl, rfl, rfl, rfl, rfl, rfl, rfl⟩ : t0_0 = yy0_0 ∧ t0_1 = yy0_1 ∧ t0_2 = yy0_2 ∧ t0_3 = yy0_3 ∧ t0_4 = yy0_4 ∧ t0_5 = yy0_5 ∧ t0_6 = yy0_6 := by have z := Option.some.inj (hT0.symm.trans hh0); simpa using z
  replace btt0_2 : q_F (0 ≤ t0_2.toInt ∧ t0_2.toInt ≤ 4100) := btt0_2
  replace btt0_3 : q_F (0 ≤ t0_3.toInt ∧ t0_3.toInt ≤ 1) := btt0_3
  replace btt0_4 : q_F (0 ≤ t0_4.toInt ∧ t0_4.toInt ≤ 1) := btt0_4
  replace btt0_5 : q_F (0 ≤ t0_5.toInt ∧ t0_5.toInt ≤ 1) := btt0_5
  replace btt0_6 : q_F (0 ≤ t0_6.toInt ∧ t0_6.toInt ≤ 2100) := btt0_6
  have hF : q_un ws ws [k3] := q_u0
  have hl : lv_has ls 4 [(0, .ref (q 119)), (1, .int x2), (2, .ref (q k3))] := hl
  refine lv_iconst (v := 0) hx hb d_19_6_0 (by decide) ?_
  refine lv_istore_n (lv' := [(3, .int 0), (0, .ref (q 119)), (1, .int x2), (2, .ref (q k3))]) hx hb d_19_6_1 rfl hl (by decide) rfl (fun ls hl => ?_)
  refine q_loop (X := Int32 × (Nat → Int32)) (fun z H locs ls w26 => q_F (0 ≤ z.1.toInt) ∧ q_F (z.1.toInt ≤ N3.toInt) ∧ q_Wd D g (va_A ws sz) s w26 H locs ∧ lv_has ls 4 [(3, .int z.1), (0, .ref (q 119)), (1, .int x2), (2, .ref (q k3))] ∧ q_I (msh g q) q w26 ∧ q_un ws w26 [k3] ∧ w26[119]? = (some (q 119, .inr (13, [.int t0_0, .int t0_1, .ref (q 120), .int t0_2, .ref (q 121), .ref (q 122), .ref (q 123), .int t0_3, .ref (q 124), .ref (q 125), .ref (q 126), .ref (q 127), .ref (q 128), .ref (q 129), .ref (q 130), .ref (q 131), .int t0_4, .int t0_5, .ref (q 132), .ref (q 133), .int t0_6])) : Option (Nat × va_E)) ∧ w26[k3]? = (some (q k3, .inl (g 0, N3.toNatClampNeg, .inl z.2)) : Option (Nat × va_E)) ∧ (∃ n, (20200 - z.1.toInt).toNat < n ∧ F_WR_take_L2 x2 N3 t0_0 t0_1 t0_2 t0_3 t0_4 t0_5 t0_6 t1_0 t2_0 n z.1 z.2 = (F_WR_take x2 N3 t0_0 t0_1 t0_2 t0_3 t0_4 t0_5 t0_6 t1_0 t2_0) ∧ S_WR_take_L2 x2 N3 t0_0 t0_1 t0_2 t0_3 t0_4 t0_5 t0_6 t1_0 t2_0 n z.1 z.2)) (fun z => (20200 - z.1.toInt).toNat) ?_ ((0 : Int32), (t2_0 : (Nat → Int32))) _ _ _ ws ⟨(show q_F (0 ≤ 0) from (show 0 ≤ 0 from by omega)), (show q_F (0 ≤ N3.toInt) from (show 0 ≤ N3.toInt from by have t1 : 0 ≤ N3.toInt ∧ N3.toInt ≤ 20200 := hfk30; omega)), V, q_lw hl (q_lw1 0 rfl (q_lw1 1 rfl (q_lw1 2 rfl (q_lw1 3 rfl q_lw0)))), hI, hF, hT0, hT2, ⟨((20200 - (0 : Int32).toInt).toNat + 1), Nat.lt_succ_self _, (show F_WR_take_L2 x2 N3 t0_0 t0_1 t0_2 t0_3 t0_4 t0_5 t0_6 t1_0 t2_0 ((20200 - (0 : Int32).toInt).toNat + 1) 0 t2_0 = (F_WR_take x2 N3 t0_0 t0_1 t0_2 t0_3 t0_4 t0_5 t0_6 t1_0 t2_0) from (by rw [F_WR_take.eq_1])), (show S_WR_take_L2 x2 N3 t0_0 t0_1 t0_2 t0_3 t0_4 t0_5 t0_6 t1_0 t2_0 ((20200 - (0 : Int32).toInt).toNat + 1) 0 t2_0 from (by have h := hS; rw [S_WR_take.eq_1] at h; exact h))⟩⟩
  rintro ⟨lx21, lx22⟩ H locs ls w26 ⟨i23, i24, V, hl, hI, hF, hO27, hO28, ⟨fu31, hf32, hR29, hS30⟩⟩ ih25
  obtain ⟨fm33, rfl⟩ : ∃ m, fu31 = m + 1 := ⟨fu31 - 1, by omega⟩
  replace i23 : q_F (0 ≤ lx21.toInt) := i23
  replace i24 : q_F (lx21.toInt ≤ N3.toInt) := i24
  replace hl : lv_has ls 4 [(3, .int lx21), (0, .ref (q 119)), (1, .int x2), (2, .ref (q k3))] := hl
  replace hO27 : w26[119]? = (some (q 119, .inr (13, [.int t0_0, .int t0_1, .ref (q 120), .int t0_2, .ref (q 121), .ref (q 122), .ref (q 123), .int t0_3, .ref (q 124), .ref (q 125), .ref (q 126), .ref (q 127), .ref (q 128), .ref (q 129), .ref (q 130), .ref (q 131), .int t0_4, .int t0_5, .ref (q 132), .ref (q 133), .int t0_6])) : Option (Nat × va_E)) := hO27
  replace hO28 : w26[k3]? = (some (q k3, .inl (g 0, N3.toNatClampNeg, .inl lx22)) : Option (Nat × va_E)) := hO28
  refine lv_iload_n hx hb d_19_6_2 rfl (lv_at hl 0 rfl) ?_
  refine lv_aload_n hx hb d_19_6_3 rfl (lv_at hl 3 rfl) ?_
  refine q_alen (t := 0) (v := N3) C0 V hO28 rfl (s_len (by have t1 : 0 ≤ N3.toInt ∧ N3.toInt ≤ 20200 := hfk30; omega)) d_19_6_4 ?_
  refine lv_icmp_ge (tgt := 40) hx hb d_19_6_5 (by decide) (fun c34 => ?_) (fun c34 => ?_)
  ·
    have b35 : q_F (N3.toInt ≤ lx21.toInt) := (q_leI c34)
    exact q_retv C0 V (⟨hI, hF, lx22, hO28, (show lx22 = (F_WR_take x2 N3 t0_0 t0_1 t0_2 t0_3 t0_4 t0_5 t0_6 t1_0 t2_0) from Eq.trans (by rw [F_WR_take_L2.eq_2, if_pos c34]) hR29)⟩) d_19_6_40
  ·
    have b36 : q_F (lx21.toInt < N3.toInt) := (q_nleI c34)
    refine lv_aload_n hx hb d_19_6_8 rfl (lv_at hl 3 rfl) ?_
    refine lv_iload_n hx hb d_19_6_9 rfl (lv_at hl 0 rfl) ?_
    refine lv_iload_n hx hb d_19_6_10 rfl (lv_at hl 0 rfl) ?_
    refine lv_sipush (v := 128) hx hb d_19_6_11 (by decide) ?_
    refine lv_icmp_ge (tgt := 32) hx hb d_19_6_14 (by decide) (fun c37 => ?_) (fun c37 => ?_)
    ·
      have b38 : q_F (128 ≤ lx21.toInt) := (q_leI c37)
      refine lv_iconst (v := 0) hx hb d_19_6_32 (by decide) ?_
      have ne41 := q_df hO28 hO27
      refine q_iast C0 V hO28 (q_ix (x := lx21.toInt) rfl (by have t1 : 0 ≤ lx21.toInt := i23; omega) (by have t1 : 0 ≤ lx21.toInt := i23; have t2 : lx21.toInt < N3.toInt := b36; have e9 := q_clI (i := N3) rfl (by have t1 : 0 ≤ N3.toInt ∧ N3.toInt ≤ 20200 := hfk30; omega); omega)) d_19_6_33 (fun H locs w39 hu40 hO28 V => ?_)
      replace hI := n_ai' hI hB3.1 hu40 hO28 (q_updB (fun _ => s_bnd) s_bnd)
      replace hO27 := (hu40 _ (Ne.symm ne41)).trans hO27
      replace hF := q_us hF hu40 (by simp)
      obtain ⟨f42, e43⟩ := q_nm (upd lx22 lx21.toNatClampNeg 0 : (Nat → Int32))
      rw [e43] at hO28
      obtain ⟨a44, e45⟩ := q_nm (lx21 + 1 : Int32)
      have b46 : q_F (a44.toInt = lx21.toInt + 1) := (by rw [← e45]; exact q_addI (y := 1) rfl (by decide) (by have t1 : 0 ≤ lx21.toInt := i23; have t2 : lx21.toInt < N3.toInt := b36; have _ := q_lo32 (x := N3); have _ := q_hi32 (x := N3); omega) (by have t1 : 0 ≤ lx21.toInt := i23; have t2 : lx21.toInt < N3.toInt := b36; have _ := q_lo32 (x := N3); have _ := q_hi32 (x := N3); omega))
      refine lv_iinc (v := a44) (lv' := [(3, .int a44), (0, .ref (q 119)), (1, .int x2), (2, .ref (q k3))]) hx hb d_19_6_34 hl (k := 0) rfl (e45) (by decide) rfl (fun ls hl => ?_)
      refine lv_goto (tgt := 2) hx hb d_19_6_37 (by decide) ?_
      exact ih25 ((a44 : Int32), (f42 : (Nat → Int32))) _ _ _ _ (show (20200 - a44.toInt).toNat < (20200 - lx21.toInt).toNat from by have t1 : a44.toInt = lx21.toInt + 1 := b46; have t2 : 0 ≤ N3.toInt ∧ N3.toInt ≤ 20200 := hfk30; have t3 : lx21.toInt ≤ N3.toInt := i24; have t4 : lx21.toInt < N3.toInt := b36; omega) ⟨(show q_F (0 ≤ a44.toInt) from (show 0 ≤ a44.toInt from by have t1 : 0 ≤ lx21.toInt := i23; have t2 : a44.toInt = lx21.toInt + 1 := b46; omega)), (show q_F (a44.toInt ≤ N3.toInt) from (show a44.toInt ≤ N3.toInt from by have t1 : lx21.toInt < N3.toInt := b36; have t2 : a44.toInt = lx21.toInt + 1 := b46; omega)), V, q_lw hl (q_lw1 0 rfl (q_lw1 1 rfl (q_lw1 2 rfl (q_lw1 3 rfl q_lw0)))), hI, hF, hO27, hO28, ⟨fm33, Nat.lt_of_lt_of_le (show (20200 - a44.toInt).toNat < (20200 - lx21.toInt).toNat from by have t1 : a44.toInt = lx21.toInt + 1 := b46; have t2 : 0 ≤ N3.toInt ∧ N3.toInt ≤ 20200 := hfk30; have t3 : lx21.toInt ≤ N3.toInt := i24; have t4 : lx21.toInt < N3.toInt := b36; omega) (Nat.le_of_lt_succ hf32), (show F_WR_take_L2 x2 N3 t0_0 t0_1 t0_2 t0_3 t0_4 t0_5 t0_6 t1_0 t2_0 fm33 a44 f42 = (F_WR_take x2 N3 t0_0 t0_1 t0_2 t0_3 t0_4 t0_5 t0_6 t1_0 t2_0) from Eq.trans (by subst e43; subst e45; rw [F_WR_take_L2.eq_2, if_neg c34, if_pos c37]) hR29), (show S_WR_take_L2 x2 N3 t0_0 t0_1 t0_2 t0_3 t0_4 t0_5 t0_6 t1_0 t2_0 fm33 a44 f42 from (by subst e43; subst e45; have h := hS30; rw [S_WR_take_L2.eq_2] at h; rw [if_neg c34] at h; rw [if_pos c37] at h; exact h))⟩⟩
    ·
      have b47 : q_F (lx21.toInt < 128) := (q_nleI c37)
      refine lv_aload_n hx hb d_19_6_17 rfl (lv_at hl 1 rfl) ?_
      refine q_get (ci := 13) (j := 4) (v := .ref (q 121)) C0 V i_WR rfl rfl hO27 (by decide) w_1928 rfl d_19_6_18 ?_
      refine lv_sipush (v := 128) hx hb d_19_6_21 (by decide) ?_
      refine lv_iload_n hx hb d_19_6_24 rfl (lv_at hl 2 rfl) ?_
      refine lv_imul hx hb d_19_6_25 ?_
      obtain ⟨a48, e49⟩ := q_nm (128 * x2 : Int32)
      refine q_ti (v := a48) e49 ?_
      refine lv_iload_n hx hb d_19_6_26 rfl (lv_at hl 0 rfl) ?_
      refine lv_iadd hx hb d_19_6_27 ?_
      obtain ⟨a50, e51⟩ := q_nm (a48 + lx21 : Int32)
      refine q_ti (v := a50) e51 ?_
      obtain ⟨f52, hA53, bf54⟩ := n_ai hI (n_r121 g q).1
      have ob55 : q_F (0 ≤ a50.toInt) := (by subst e49; subst e51; have h := hS30; rw [S_WR_take_L2.eq_2] at h; rw [if_neg c34] at h; rw [if_neg c37] at h; exact h.1)
      have ob56 : q_F (a50.toInt ≤ 1407) := (by subst e49; subst e51; have h := hS30; rw [S_WR_take_L2.eq_2] at h; rw [if_neg c34] at h; rw [if_neg c37] at h; replace h := h.2; exact h.1)
      refine q_iald C0 V hA53 (q_ix (x := a50.toInt) rfl (by have t1 : 0 ≤ a50.toInt := ob55; omega) (by have t1 : 0 ≤ a50.toInt := ob55; have t2 : a50.toInt ≤ 1407 := ob56; have e9 : (((1408 : Int32).toNatClampNeg : Nat) : Int) = 1408 := by decide; omega)) d_19_6_28 ?_
      obtain ⟨a57, e58⟩ := q_nm (f52 a50.toNatClampNeg : Int32)
      refine q_ti (v := a57) e58 ?_
      refine lv_goto (tgt := 33) hx hb d_19_6_29 (by decide) ?_
      have ne61 := q_df hO28 hO27
      refine q_iast C0 V hO28 (q_ix (x := lx21.toInt) rfl (by have t1 : 0 ≤ lx21.toInt := i23; omega) (by have t1 : 0 ≤ lx21.toInt := i23; have t2 : lx21.toInt < N3.toInt := b36; have e9 := q_clI (i := N3) rfl (by have t1 : 0 ≤ N3.toInt ∧ N3.toInt ≤ 20200 := hfk30; omega); omega)) d_19_6_33 (fun H locs w59 hu60 hO28 V => ?_)
      replace hI := n_ai' hI hB3.1 hu60 hO28 (q_updB (fun _ => s_bnd) s_bnd)
      replace hO27 := (hu60 _ (Ne.symm ne61)).trans hO27
      replace hF := q_us hF hu60 (by simp)
      obtain ⟨f62, e63⟩ := q_nm (upd lx22 lx21.toNatClampNeg a57 : (Nat → Int32))
      rw [e63] at hO28
      obtain ⟨a64, e65⟩ := q_nm (lx21 + 1 : Int32)
      have b66 : q_F (a64.toInt = lx21.toInt + 1) := (by rw [← e65]; exact q_addI (y := 1) rfl (by decide) (by have t1 : 0 ≤ lx21.toInt := i23; have t2 : lx21.toInt < 128 := b47; omega) (by have t1 : 0 ≤ lx21.toInt := i23; have t2 : lx21.toInt < 128 := b47; omega))
      refine lv_iinc (v := a64) (lv' := [(3, .int a64), (0, .ref (q 119)), (1, .int x2), (2, .ref (q k3))]) hx hb d_19_6_34 hl (k := 0) rfl (e65) (by decide) rfl (fun ls hl => ?_)
      refine lv_goto (tgt := 2) hx hb d_19_6_37 (by decide) ?_
      exact ih25 ((a64 : Int32), (f62 : (Nat → Int32))) _ _ _ _ (show (20200 - a64.toInt).toNat < (20200 - lx21.toInt).toNat from by have t1 : a64.toInt = lx21.toInt + 1 := b66; have t2 : lx21.toInt < 128 := b47; omega) ⟨(show q_F (0 ≤ a64.toInt) from (show 0 ≤ a64.toInt from by have t1 : 0 ≤ lx21.toInt := i23; have t2 : a64.toInt = lx21.toInt + 1 := b66; omega)), (show q_F (a64.toInt ≤ N3.toInt) from (show a64.toInt ≤ N3.toInt from by have t1 : lx21.toInt < N3.toInt := b36; have t2 : a64.toInt = lx21.toInt + 1 := b66; omega)), V, q_lw hl (q_lw1 0 rfl (q_lw1 1 rfl (q_lw1 2 rfl (q_lw1 3 rfl q_lw0)))), hI, hF, hO27, hO28, ⟨fm33, Nat.lt_of_lt_of_le (show (20200 - a64.toInt).toNat < (20200 - lx21.toInt).toNat from by have t1 : a64.toInt = lx21.toInt + 1 := b66; have t2 : lx21.toInt < 128 := b47; omega) (Nat.le_of_lt_succ hf32), (show F_WR_take_L2 x2 N3 t0_0 t0_1 t0_2 t0_3 t0_4 t0_5 t0_6 t1_0 t2_0 fm33 a64 f62 = (F_WR_take x2 N3 t0_0 t0_1 t0_2 t0_3 t0_4 t0_5 t0_6 t1_0 t2_0) from Eq.trans (by subst e49; subst e51; subst e58; subst e63; subst e65; rw [F_WR_take_L2.eq_2, if_neg c34, if_neg c37]) hR29), (show S_WR_take_L2 x2 N3 t0_0 t0_1 t0_2 t0_3 t0_4 t0_5 t0_6 t1_0 t2_0 fm33 a64 f62 from (by subst e49; subst e51; subst e58; subst e63; subst e65; have h := hS30; rw [S_WR_take_L2.eq_2] at h; rw [if_neg c34] at h; rw [if_neg c37] at h; replace h := h.2; replace h := h.2; exact h))⟩⟩
theorem d_19_8_0 : decode prog_19_method_8_code 0 = .ok (.iconst 1, 1) := by decide +kernel
theorem d_19_8_1 : decode prog_19_method_8_code 1 = .ok (.istore_n 2, 1) := by decide +kernel
theorem d_19_8_2 : decode prog_19_method_8_code 2 = .ok (.iconst 0, 1) := by decide +kernel
theorem d_19_8_3 : decode prog_19_method_8_code 3 = .ok (.istore_n 3, 1) := by decide +kernel
theorem d_19_8_4 : decode prog_19_method_8_code 4 = .ok (.iload_n 3, 1) := by decide +kernel
theorem d_19_8_5 : decode prog_19_method_8_code 5 = .ok (.sipush 128, 3) := by decide +kernel
theorem d_19_8_8 : decode prog_19_method_8_code 8 = .ok (.if_icmp .ge 34, 3) := by decide +kernel
theorem d_19_8_42 : decode prog_19_method_8_code 42 = .ok (.iload_n 2, 1) := by decide +kernel
theorem d_19_8_43 : decode prog_19_method_8_code 43 = .ok (.ireturn, 1) := by decide +kernel
theorem d_19_8_11 : decode prog_19_method_8_code 11 = .ok (.iload_n 2, 1) := by decide +kernel
theorem d_19_8_12 : decode prog_19_method_8_code 12 = .ok (.ifCond .eq 22, 3) := by decide +kernel
theorem d_19_8_34 : decode prog_19_method_8_code 34 = .ok (.iconst 0, 1) := by decide +kernel
theorem d_19_8_35 : decode prog_19_method_8_code 35 = .ok (.istore_n 2, 1) := by decide +kernel
theorem d_19_8_36 : decode prog_19_method_8_code 36 = .ok (.iinc 3 1, 3) := by decide +kernel
theorem d_19_8_39 : decode prog_19_method_8_code 39 = .ok (.goto (-35), 3) := by decide +kernel
theorem d_19_8_15 : decode prog_19_method_8_code 15 = .ok (.aload_n 0, 1) := by decide +kernel
theorem d_19_8_16 : decode prog_19_method_8_code 16 = .ok (.getfield 13, 3) := by decide +kernel
theorem d_19_8_19 : decode prog_19_method_8_code 19 = .ok (.sipush 128, 3) := by decide +kernel
theorem d_19_8_22 : decode prog_19_method_8_code 22 = .ok (.iload_n 1, 1) := by decide +kernel
theorem d_19_8_23 : decode prog_19_method_8_code 23 = .ok (.imul, 1) := by decide +kernel
theorem d_19_8_24 : decode prog_19_method_8_code 24 = .ok (.iload_n 3, 1) := by decide +kernel
theorem d_19_8_25 : decode prog_19_method_8_code 25 = .ok (.iadd, 1) := by decide +kernel
theorem d_19_8_26 : decode prog_19_method_8_code 26 = .ok (.iaload, 1) := by decide +kernel
theorem d_19_8_27 : decode prog_19_method_8_code 27 = .ok (.ifCond .ne 7, 3) := by decide +kernel
theorem d_19_8_30 : decode prog_19_method_8_code 30 = .ok (.iconst 1, 1) := by decide +kernel
theorem d_19_8_31 : decode prog_19_method_8_code 31 = .ok (.goto 4, 3) := by decide +kernel
def y_WR_isZero : MethodName := ⟨"NumberHouseModel$WholeRows", "isZero", "(I)Z"⟩
def F_WR_isZero_L4 (x2 : Int32) (t0_0 : Int32) (t0_1 : Int32) (t0_2 : Int32) (t0_3 : Int32) (t0_4 : Int32) (t0_5 : Int32) (t0_6 : Int32) (t1_0 : (Nat → Int32)) : Nat → Int32 → Int32 → Int32
  | 0, _, _ => default
  | fm + 1, lx19, lx20 => if (128 : Int32) ≤ lx19 then (lx20) else (if lx20 = (0 : Int32) then (F_WR_isZero_L4 x2 t0_0 t0_1 t0_2 t0_3 t0_4 t0_5 t0_6 t1_0 fm (lx19 + 1 : Int32) 0) else (if (t1_0 ((128 * x2 : Int32) + lx19 : Int32).toNatClampNeg : Int32) = (0 : Int32) then (F_WR_isZero_L4 x2 t0_0 t0_1 t0_2 t0_3 t0_4 t0_5 t0_6 t1_0 fm (lx19 + 1 : Int32) 1) else (F_WR_isZero_L4 x2 t0_0 t0_1 t0_2 t0_3 t0_4 t0_5 t0_6 t1_0 fm (lx19 + 1 : Int32) 0)))
def F_WR_isZero (x2 : Int32) (t0_0 : Int32) (t0_1 : Int32) (t0_2 : Int32) (t0_3 : Int32) (t0_4 : Int32) (t0_5 : Int32) (t0_6 : Int32) (t1_0 : (Nat → Int32)) : Int32 := F_WR_isZero_L4 x2 t0_0 t0_1 t0_2 t0_3 t0_4 t0_5 t0_6 t1_0 ((128 - (0 : Int32).toInt).toNat + 1) 0 1
def S_WR_isZero_L4 (x2 : Int32) (t0_0 : Int32) (t0_1 : Int32) (t0_2 : Int32) (t0_3 : Int32) (t0_4 : Int32) (t0_5 : Int32) (t0_6 : Int32) (t1_0 : (Nat → Int32)) : Nat → Int32 → Int32 → Prop
  | 0, _, _ => False
  | fm + 1, lx19, lx20 => if (128 : Int32) ≤ lx19 then (True) else (if lx20 = (0 : Int32) then (S_WR_isZero_L4 x2 t0_0 t0_1 t0_2 t0_3 t0_4 t0_5 t0_6 t1_0 fm (lx19 + 1 : Int32) 0) else ((0 ≤ ((128 * x2 : Int32) + lx19 : Int32).toInt) ∧ ((((128 * x2 : Int32) + lx19 : Int32).toInt ≤ 1407) ∧ (if (t1_0 ((128 * x2 : Int32) + lx19 : Int32).toNatClampNeg : Int32) = (0 : Int32) then (S_WR_isZero_L4 x2 t0_0 t0_1 t0_2 t0_3 t0_4 t0_5 t0_6 t1_0 fm (lx19 + 1 : Int32) 1) else (S_WR_isZero_L4 x2 t0_0 t0_1 t0_2 t0_3 t0_4 t0_5 t0_6 t1_0 fm (lx19 + 1 : Int32) 0)))))
def S_WR_isZero (x2 : Int32) (t0_0 : Int32) (t0_1 : Int32) (t0_2 : Int32) (t0_3 : Int32) (t0_4 : Int32) (t0_5 : Int32) (t0_6 : Int32) (t1_0 : (Nat → Int32)) : Prop := S_WR_isZero_L4 x2 t0_0 t0_1 t0_2 t0_3 t0_4 t0_5 t0_6 t1_0 ((128 - (0 : Int32).toInt).toNat + 1) 0 1
set_option maxRecDepth 100000 in
set_option maxHeartbeats 4000000 in
theorem X_WR_isZero (l : Launch) (D : va_G) (g : Nat → ClassId) (q : Nat → Nat) (ws : va_W) (x2 : Int32) (hI : q_I (msh g q) q ws) (t0_0 : Int32) (t0_1 : Int32) (t0_2 : Int32) (t0_3 : Int32) (t0_4 : Int32) (t0_5 : Int32) (t0_6 : Int32) (hT0 : ws[119]? = (some (q 119, .inr (13, [.int t0_0, .int t0_1, .ref (q 120), .int t0_2, .ref (q 121), .ref (q 122), .ref (q 123), .int t0_3, .ref (q 124), .ref (q 125), .ref (q 126), .ref (q 127), .ref (q 128), .ref (q 129), .ref (q 130), .ref (q 131), .int t0_4, .int t0_5, .ref (q 132), .ref (q 133), .int t0_6])) : Option (Nat × va_E))) (t1_0 : (Nat → Int32)) (hT1 : ws[121]? = (some (q 121, .inl (g 0, (1408 : Int32).toNatClampNeg, .inl t1_0)) : Option (Nat × va_E))) (hS : S_WR_isZero x2 t0_0 t0_1 t0_2 t0_3 t0_4 t0_5 t0_6 t1_0) : q_mI l y_WR_isZero prog_19_method_8_code 4 (.boolean) 1 0 0 D g [.ref (q 119), .int x2] ws (fun r u => ws = u ∧ (0 ≤ r.toInt) ∧ (r.toInt ≤ 1) ∧ r = (F_WR_isZero x2 t0_0 t0_1 t0_2 t0_3 t0_4 t0_5 t0_6 t1_0)) := by
  intro sz
  refine q_into (by decide) (Nat.le_of_ble_eq_true rfl) ?_
  intro p e s m below meth c ls hsz C0 V hl
  have hx := C0.1
  have hb := C0.2.1
  obtain ⟨yy0_0, yy0_1, yy0_2, yy0_3, yy0_4, yy0_5, yy0_6, hh0, btt0_2, btt0_3, btt0_4, btt0_5, btt0_6⟩ := n_o119 hI
  obtain ⟨rfl, rfl, rfl, rfl, rfl, rfl, rfl⟩ : t0_0 = yy0_0 ∧ t0_1 = yy0_1 ∧ t0_2 = yy0_2 ∧ t0_3 = yy0_3 ∧ t0_4 = yy0_4 ∧ t0_5 = yy0_5 ∧ t0_6 = yy0_6 := by have z := Option.some.inj (hT0.symm.trans hh0); simpa using z
  replace btt0_2 : q_F (0 ≤ t0_2.toInt ∧ t0_2.toInt ≤ 4100) := btt0_2
  replace btt0_3 : q_F (0 ≤ t0_3.toInt ∧ t0_3.toInt ≤ 1) := btt0_3
  replace btt0_4 : q_F (0 ≤ t0_4.toInt ∧ t0_4.toInt ≤ 1) := btt0_4
  replace btt0_5 : q_F (0 ≤ t0_5.toInt ∧ t0_5.toInt ≤ 1) := btt0_5
  replace btt0_6 : q_F (0 ≤ t0_6.toInt ∧ t0_6.toInt ≤ 2100) := btt0_6
  have hl : lv_has ls 4 [(0, .ref (q 119)), (1, .int x2)] := hl
  refine lv_iconst (v := 1) hx hb d_19_8_0 (by decide) ?_
  refine lv_istore_n (lv' := [(2, .int 1), (0, .ref (q 119)), (1, .int x2)]) hx hb d_19_8_1 rfl hl (by decide) rfl (fun ls hl => ?_)
  refine lv_iconst (v := 0) hx hb d_19_8_2 (by decide) ?_
  refine lv_istore_n (lv' := [(3, .int 0), (2, .int 1), (0, .ref (q 119)), (1, .int x2)]) hx hb d_19_8_3 rfl hl (by decide) rfl (fun ls hl => ?_)
  refine q_loop (X := Int32 × Int32) (fun z H locs ls _ => q_F (z.1.toInt ≤ 128) ∧ q_F (z.2.toInt ≤ 1) ∧ q_F (0 ≤ z.2.toInt) ∧ q_F (1 ≤ z.1.toInt + z.2.toInt) ∧ q_Wd D g (va_A ws sz) s ws H locs ∧ lv_has ls 4 [(3, .int z.1), (2, .int z.2), (0, .ref (q 119)), (1, .int x2)] ∧ (∃ n, (128 - z.1.toInt).toNat < n ∧ F_WR_isZero_L4 x2 t0_0 t0_1 t0_2 t0_3 t0_4 t0_5 t0_6 t1_0 n z.1 z.2 = (F_WR_isZero x2 t0_0 t0_1 t0_2 t0_3 t0_4 t0_5 t0_6 t1_0) ∧ S_WR_isZero_L4 x2 t0_0 t0_1 t0_2 t0_3 t0_4 t0_5 t0_6 t1_0 n z.1 z.2)) (fun z => (128 - z.1.toInt).toNat) ?_ ((0 : Int32), (1 : Int32)) _ _ _ ws ⟨(show q_F (0 ≤ 128) from (show 0 ≤ 128 from by omega)), (show q_F (1 ≤ 1) from (show 1 ≤ 1 from by omega)), (show q_F (0 ≤ 1) from (show 0 ≤ 1 from by omega)), (show q_F (1 ≤ 0 + 1) from (show 1 ≤ 0 + 1 from by omega)), V, q_lw hl (q_lw1 0 rfl (q_lw1 1 rfl (q_lw1 2 rfl (q_lw1 3 rfl q_lw0)))), ⟨((128 - (0 : Int32).toInt).toNat + 1), Nat.lt_succ_self _, (show F_WR_isZero_L4 x2 t0_0 t0_1 t0_2 t0_3 t0_4 t0_5 t0_6 t1_0 ((128 - (0 : Int32).toInt).toNat + 1) 0 1 = (F_WR_isZero x2 t0_0 t0_1 t0_2 t0_3 t0_4 t0_5 t0_6 t1_0) from (by rw [F_WR_isZero.eq_1])), (show S_WR_isZero_L4 x2 t0_0 t0_1 t0_2 t0_3 t0_4 t0_5 t0_6 t1_0 ((128 - (0 : Int32).toInt).toNat + 1) 0 1 from (by have h := hS; rw [S_WR_isZero.eq_1] at h; exact h))⟩⟩
  rintro ⟨lx19, lx20⟩ H locs ls _ ⟨i21, i22, i23, i24, V, hl, ⟨fu28, hf29, hR26, hS27⟩⟩ ih25
  obtain ⟨fm30, rfl⟩ : ∃ m, fu28 = m + 1 := ⟨fu28 - 1, by omega⟩
  replace i21 : q_F (lx19.toInt ≤ 128) := i21
  replace i22 : q_F (lx20.toInt ≤ 1) := i22
  replace i23 : q_F (0 ≤ lx20.toInt) := i23
  replace i24 : q_F (1 ≤ lx19.toInt + lx20.toInt) := i24
  replace hl : lv_has ls 4 [(3, .int lx19), (2, .int lx20), (0, .ref (q 119)), (1, .int x2)] := hl
  refine lv_iload_n hx hb d_19_8_4 rfl (lv_at hl 0 rfl) ?_
  refine lv_sipush (v := 128) hx hb d_19_8_5 (by decide) ?_
  refine lv_icmp_ge (tgt := 42) hx hb d_19_8_8 (by decide) (fun c31 => ?_) (fun c31 => ?_)
  ·
    have b32 : q_F (128 ≤ lx19.toInt) := (q_leI c31)
    refine lv_iload_n hx hb d_19_8_42 rfl (lv_at hl 1 rfl) ?_
    exact q_retz C0 V (q_nz01 (q_Ile (x := 0) (y := lx20.toInt) (by decide) rfl (by have t1 : 0 ≤ lx20.toInt := i23; omega)) (q_Ile (x := lx20.toInt) (y := 1) rfl (by decide) (by have t1 : lx20.toInt ≤ 1 := i22; omega))) (⟨rfl, (show 0 ≤ lx20.toInt from (by have t1 : 0 ≤ lx20.toInt := i23; omega)), (show lx20.toInt ≤ 1 from (by have t1 : lx20.toInt ≤ 1 := i22; omega)), (show lx20 = (F_WR_isZero x2 t0_0 t0_1 t0_2 t0_3 t0_4 t0_5 t0_6 t1_0) from Eq.trans (by rw [F_WR_isZero_L4.eq_2, if_pos c31]) hR26)⟩) d_19_8_43
  ·
    have b33 : q_F (lx19.toInt < 128) := (q_nleI c31)
    refine lv_iload_n hx hb d_19_8_11 rfl (lv_at hl 1 rfl) ?_
    refine lv_if_eq (tgt := 34) hx hb d_19_8_12 (by decide) (fun c34 => ?_) (fun c34 => ?_)
    ·
      have b35 : q_F (lx20.toInt = 0) := (q_eqI c34)
      refine lv_iconst (v := 0) hx hb d_19_8_34 (by decide) ?_
      refine lv_istore_n (lv' := [(2, .int 0), (3, .int lx19), (0, .ref (q 119)), (1, .int x2)]) hx hb d_19_8_35 rfl hl (by decide) rfl (fun ls hl => ?_)
      obtain ⟨a36, e37⟩ := q_nm (lx19 + 1 : Int32)
      have b38 : q_F (a36.toInt = lx19.toInt + 1) := (by rw [← e37]; exact q_addI (y := 1) rfl (by decide) (by have _ := q_lo32 (x := lx19); have _ := q_hi32 (x := lx19); have t1 : lx19.toInt ≤ 128 := i21; omega) (by have _ := q_lo32 (x := lx19); have _ := q_hi32 (x := lx19); have t1 : lx19.toInt ≤ 128 := i21; omega))
      refine lv_iinc (v := a36) (lv' := [(3, .int a36), (2, .int 0), (0, .ref (q 119)), (1, .int x2)]) hx hb d_19_8_36 hl (k := 1) rfl (e37) (by decide) rfl (fun ls hl => ?_)
      refine lv_goto (tgt := 4) hx hb d_19_8_39 (by decide) ?_
      exact ih25 ((a36 : Int32), (0 : Int32)) _ _ _ ws (show (128 - a36.toInt).toNat < (128 - lx19.toInt).toNat from by have t1 : a36.toInt = lx19.toInt + 1 := b38; have t2 : lx19.toInt ≤ 128 := i21; have t3 : lx19.toInt < 128 := b33; omega) ⟨(show q_F (a36.toInt ≤ 128) from (show a36.toInt ≤ 128 from by have t1 : lx19.toInt < 128 := b33; have t2 : a36.toInt = lx19.toInt + 1 := b38; omega)), (show q_F (0 ≤ 1) from (show 0 ≤ 1 from by omega)), (show q_F (0 ≤ 0) from (show 0 ≤ 0 from by omega)), (show q_F (1 ≤ a36.toInt + 0) from (show 1 ≤ a36.toInt + 0 from by have t1 : lx20.toInt ≤ 1 := i22; have t2 : 1 ≤ lx19.toInt + lx20.toInt := i24; have t3 : a36.toInt = lx19.toInt + 1 := b38; omega)), V, q_lw hl (q_lw1 0 rfl (q_lw1 1 rfl (q_lw1 2 rfl (q_lw1 3 rfl q_lw0)))), ⟨fm30, Nat.lt_of_lt_of_le (show (128 - a36.toInt).toNat < (128 - lx19.toInt).toNat from by have t1 : a36.toInt = lx19.toInt + 1 := b38; have t2 : lx19.toInt ≤ 128 := i21; have t3 : lx19.toInt < 128 := b33; omega) (Nat.le_of_lt_succ hf29), (show F_WR_isZero_L4 x2 t0_0 t0_1 t0_2 t0_3 t0_4 t0_5 t0_6 t1_0 fm30 a36 0 = (F_WR_isZero x2 t0_0 t0_1 t0_2 t0_3 t0_4 t0_5 t0_6 t1_0) from Eq.trans (by subst e37; rw [F_WR_isZero_L4.eq_2, if_neg c31, if_pos c34]) hR26), (show S_WR_isZero_L4 x2 t0_0 t0_1 t0_2 t0_3 t0_4 t0_5 t0_6 t1_0 fm30 a36 0 from (by subst e37; have h := hS27; rw [S_WR_isZero_L4.eq_2] at h; rw [if_neg c31] at h; rw [if_pos c34] at h; exact h))⟩⟩
    ·
      have b39 : q_F (lx20.toInt ≠ 0) := (q_neI c34)
      refine lv_aload_n hx hb d_19_8_15 rfl (lv_at hl 2 rfl) ?_
      refine q_get (ci := 13) (j := 4) (v := .ref (q 121)) C0 V i_WR rfl rfl hT0 (by decide) w_1928 rfl d_19_8_16 ?_
      refine lv_sipush (v := 128) hx hb d_19_8_19 (by decide) ?_
      refine lv_iload_n hx hb d_19_8_22 rfl (lv_at hl 3 rfl) ?_
      refine lv_imul hx hb d_19_8_23 ?_
      obtain ⟨a40, e41⟩ := q_nm (128 * x2 : Int32)
      refine q_ti (v := a40) e41 ?_
      refine lv_iload_n hx hb d_19_8_24 rfl (lv_at hl 0 rfl) ?_
      refine lv_iadd hx hb d_19_8_25 ?_
      obtain ⟨a42, e43⟩ := q_nm (a40 + lx19 : Int32)
      refine q_ti (v := a42) e43 ?_
      have ob44 : q_F (0 ≤ a42.toInt) := (by subst e41; subst e43; have h := hS27; rw [S_WR_isZero_L4.eq_2] at h; rw [if_neg c31] at h; rw [if_neg c34] at h; exact h.1)
      have ob45 : q_F (a42.toInt ≤ 1407) := (by subst e41; subst e43; have h := hS27; rw [S_WR_isZero_L4.eq_2] at h; rw [if_neg c31] at h; rw [if_neg c34] at h; replace h := h.2; exact h.1)
      refine q_iald C0 V hT1 (q_ix (x := a42.toInt) rfl (by have t1 : 0 ≤ a42.toInt := ob44; omega) (by have t1 : 0 ≤ a42.toInt := ob44; have t2 : a42.toInt ≤ 1407 := ob45; have e9 : (((1408 : Int32).toNatClampNeg : Nat) : Int) = 1408 := by decide; omega)) d_19_8_26 ?_
      obtain ⟨a46, e47⟩ := q_nm (t1_0 a42.toNatClampNeg : Int32)
      refine q_ti (v := a46) e47 ?_
      refine lv_if_ne (tgt := 34) hx hb d_19_8_27 (by decide) (fun c48 => ?_) (fun c48 => ?_)
      ·
        have b49 : q_F (a46.toInt ≠ 0) := (q_neI c48)
        refine lv_iconst (v := 0) hx hb d_19_8_34 (by decide) ?_
        refine lv_istore_n (lv' := [(2, .int 0), (3, .int lx19), (0, .ref (q 119)), (1, .int x2)]) hx hb d_19_8_35 rfl hl (by decide) rfl (fun ls hl => ?_)
        obtain ⟨a50, e51⟩ := q_nm (lx19 + 1 : Int32)
        have b52 : q_F (a50.toInt = lx19.toInt + 1) := (by rw [← e51]; exact q_addI (y := 1) rfl (by decide) (by have _ := q_lo32 (x := lx19); have _ := q_hi32 (x := lx19); have t1 : lx19.toInt ≤ 128 := i21; omega) (by have _ := q_lo32 (x := lx19); have _ := q_hi32 (x := lx19); have t1 : lx19.toInt ≤ 128 := i21; omega))
        refine lv_iinc (v := a50) (lv' := [(3, .int a50), (2, .int 0), (0, .ref (q 119)), (1, .int x2)]) hx hb d_19_8_36 hl (k := 1) rfl (e51) (by decide) rfl (fun ls hl => ?_)
        refine lv_goto (tgt := 4) hx hb d_19_8_39 (by decide) ?_
        exact ih25 ((a50 : Int32), (0 : Int32)) _ _ _ ws (show (128 - a50.toInt).toNat < (128 - lx19.toInt).toNat from by have t1 : a50.toInt = lx19.toInt + 1 := b52; have t2 : lx19.toInt ≤ 128 := i21; have t3 : lx19.toInt < 128 := b33; omega) ⟨(show q_F (a50.toInt ≤ 128) from (show a50.toInt ≤ 128 from by have t1 : lx19.toInt < 128 := b33; have t2 : a50.toInt = lx19.toInt + 1 := b52; omega)), (show q_F (0 ≤ 1) from (show 0 ≤ 1 from by omega)), (show q_F (0 ≤ 0) from (show 0 ≤ 0 from by omega)), (show q_F (1 ≤ a50.toInt + 0) from (show 1 ≤ a50.toInt + 0 from by have t1 : lx20.toInt ≤ 1 := i22; have t2 : 1 ≤ lx19.toInt + lx20.toInt := i24; have t3 : a50.toInt = lx19.toInt + 1 := b52; omega)), V, q_lw hl (q_lw1 0 rfl (q_lw1 1 rfl (q_lw1 2 rfl (q_lw1 3 rfl q_lw0)))), ⟨fm30, Nat.lt_of_lt_of_le (show (128 - a50.toInt).toNat < (128 - lx19.toInt).toNat from by have t1 : a50.toInt = lx19.toInt + 1 := b52; have t2 : lx19.toInt ≤ 128 := i21; have t3 : lx19.toInt < 128 := b33; omega) (Nat.le_of_lt_succ hf29), (show F_WR_isZero_L4 x2 t0_0 t0_1 t0_2 t0_3 t0_4 t0_5 t0_6 t1_0 fm30 a50 0 = (F_WR_isZero x2 t0_0 t0_1 t0_2 t0_3 t0_4 t0_5 t0_6 t1_0) from Eq.trans (by subst e41; subst e43; subst e47; subst e51; rw [F_WR_isZero_L4.eq_2, if_neg c31, if_neg c34, if_neg c48]) hR26), (show S_WR_isZero_L4 x2 t0_0 t0_1 t0_2 t0_3 t0_4 t0_5 t0_6 t1_0 fm30 a50 0 from (by subst e41; subst e43; subst e47; subst e51; have h := hS27; rw [S_WR_isZero_L4.eq_2] at h; rw [if_neg c31] at h; rw [if_neg c34] at h; replace h := h.2; replace h := h.2; rw [if_neg c48] at h; exact h))⟩⟩
      ·
        have b53 : q_F (a46.toInt = 0) := (q_eqI c48)
        refine lv_iconst (v := 1) hx hb d_19_8_30 (by decide) ?_
        refine lv_goto (tgt := 35) hx hb d_19_8_31 (by decide) ?_
        refine lv_istore_n (lv' := [(2, .int 1), (3, .int lx19), (0, .ref (q 119)), (1, .int x2)]) hx hb d_19_8_35 rfl hl (by decide) rfl (fun ls hl => ?_)
        obtain ⟨a54, e55⟩ := q_nm (lx19 + 1 : Int32)
        have b56 : q_F (a54.toInt = lx19.toInt + 1) := (by rw [← e55]; exact q_addI (y := 1) rfl (by decide) (by have _ := q_lo32 (x := lx19); have _ := q_hi32 (x := lx19); have t1 : lx19.toInt ≤ 128 := i21; omega) (by have _ := q_lo32 (x := lx19); have _ := q_hi32 (x := lx19); have t1 : lx19.toInt ≤ 128 := i21; omega))
        refine lv_iinc (v := a54) (lv' := [(3, .int a54), (2, .int 1), (0, .ref (q 119)), (1, .int x2)]) hx hb d_19_8_36 hl (k := 1) rfl (e55) (by decide) rfl (fun ls hl => ?_)
        refine lv_goto (tgt := 4) hx hb d_19_8_39 (by decide) ?_
        exact ih25 ((a54 : Int32), (1 : Int32)) _ _ _ ws (show (128 - a54.toInt).toNat < (128 - lx19.toInt).toNat from by have t1 : a54.toInt = lx19.toInt + 1 := b56; have t2 : lx19.toInt ≤ 128 := i21; have t3 : lx19.toInt < 128 := b33; omega) ⟨(show q_F (a54.toInt ≤ 128) from (show a54.toInt ≤ 128 from by have t1 : lx19.toInt < 128 := b33; have t2 : a54.toInt = lx19.toInt + 1 := b56; omega)), (show q_F (1 ≤ 1) from (show 1 ≤ 1 from by omega)), (show q_F (0 ≤ 1) from (show 0 ≤ 1 from by omega)), (show q_F (1 ≤ a54.toInt + 1) from (show 1 ≤ a54.toInt + 1 from by have t1 : lx20.toInt ≤ 1 := i22; have t2 : 1 ≤ lx19.toInt + lx20.toInt := i24; have t3 : a54.toInt = lx19.toInt + 1 := b56; omega)), V, q_lw hl (q_lw1 0 rfl (q_lw1 1 rfl (q_lw1 2 rfl (q_lw1 3 rfl q_lw0)))), ⟨fm30, Nat.lt_of_lt_of_le (show (128 - a54.toInt).toNat < (128 - lx19.toInt).toNat from by have t1 : a54.toInt = lx19.toInt + 1 := b56; have t2 : lx19.toInt ≤ 128 := i21; have t3 : lx19.toInt < 128 := b33; omega) (Nat.le_of_lt_succ hf29), (show F_WR_isZero_L4 x2 t0_0 t0_1 t0_2 t0_3 t0_4 t0_5 t0_6 t1_0 fm30 a54 1 = (F_WR_isZero x2 t0_0 t0_1 t0_2 t0_3 t0_4 t0_5 t0_6 t1_0) from Eq.trans (by subst e41; subst e43; subst e47; subst e55; rw [F_WR_isZero_L4.eq_2, if_neg c31, if_neg c34, if_pos c48]) hR26), (show S_WR_isZero_L4 x2 t0_0 t0_1 t0_2 t0_3 t0_4 t0_5 t0_6 t1_0 fm30 a54 1 from (by subst e41; subst e43; subst e47; subst e55; have h := hS27; rw [S_WR_isZero_L4.eq_2] at h; rw [if_neg c31] at h; rw [if_neg c34] at h; replace h := h.2; replace h := h.2; rw [if_pos c48] at h; exact h))⟩⟩
