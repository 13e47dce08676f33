theorem d_19_30_0 : decode prog_19_method_30_code 0 = .ok (.aload_n 0, 1) := by decide +kernel
theorem d_19_30_1 : decode prog_19_method_30_code 1 = .ok (.aload_n 0, 1) := by decide +kernel
theorem d_19_30_2 : decode prog_19_method_30_code 2 = .ok (.getfield 23, 3) := by decide +kernel
theorem d_19_30_5 : decode prog_19_method_30_code 5 = .ok (.invokevirtual 131, 3) := by decide +kernel
theorem d_19_30_8 : decode prog_19_method_30_code 8 = .ok (.iconst 0, 1) := by decide +kernel
theorem d_19_30_9 : decode prog_19_method_30_code 9 = .ok (.istore_n 2, 1) := by decide +kernel
theorem d_19_30_10 : decode prog_19_method_30_code 10 = .ok (.iload_n 2, 1) := by decide +kernel
theorem d_19_30_11 : decode prog_19_method_30_code 11 = .ok (.iload_n 1, 1) := by decide +kernel
theorem d_19_30_12 : decode prog_19_method_30_code 12 = .ok (.if_icmp .ge 41, 3) := by decide +kernel
theorem d_19_30_53 : decode prog_19_method_30_code 53 = .ok (.iconst 1, 1) := by decide +kernel
theorem d_19_30_54 : decode prog_19_method_30_code 54 = .ok (.ireturn, 1) := by decide +kernel
theorem d_19_30_15 : decode prog_19_method_30_code 15 = .ok (.aload_n 0, 1) := by decide +kernel
theorem d_19_30_16 : decode prog_19_method_30_code 16 = .ok (.aload_n 0, 1) := by decide +kernel
theorem d_19_30_17 : decode prog_19_method_30_code 17 = .ok (.getfield 23, 3) := by decide +kernel
theorem d_19_30_20 : decode prog_19_method_30_code 20 = .ok (.aload_n 0, 1) := by decide +kernel
theorem d_19_30_21 : decode prog_19_method_30_code 21 = .ok (.getfield 20, 3) := by decide +kernel
theorem d_19_30_24 : decode prog_19_method_30_code 24 = .ok (.aload_n 0, 1) := by decide +kernel
theorem d_19_30_25 : decode prog_19_method_30_code 25 = .ok (.getfield 23, 3) := by decide +kernel
theorem d_19_30_28 : decode prog_19_method_30_code 28 = .ok (.invokevirtual 115, 3) := by decide +kernel
theorem d_19_30_31 : decode prog_19_method_30_code 31 = .ok (.aload_n 0, 1) := by decide +kernel
theorem d_19_30_32 : decode prog_19_method_30_code 32 = .ok (.getfield 23, 3) := by decide +kernel
theorem d_19_30_35 : decode prog_19_method_30_code 35 = .ok (.aload_n 0, 1) := by decide +kernel
theorem d_19_30_36 : decode prog_19_method_30_code 36 = .ok (.getfield 35, 3) := by decide +kernel
theorem d_19_30_39 : decode prog_19_method_30_code 39 = .ok (.invokestatic 71, 3) := by decide +kernel
theorem d_19_30_42 : decode prog_19_method_30_code 42 = .ok (.ifCond .le 5, 3) := by decide +kernel
theorem d_19_30_47 : decode prog_19_method_30_code 47 = .ok (.iinc 2 1, 3) := by decide +kernel
theorem d_19_30_50 : decode prog_19_method_30_code 50 = .ok (.goto (-40), 3) := by decide +kernel
theorem d_19_30_45 : decode prog_19_method_30_code 45 = .ok (.iconst 0, 1) := by decide +kernel
theorem d_19_30_46 : decode prog_19_method_30_code 46 = .ok (.ireturn, 1) := by decide +kernel
def y_WR_fits : MethodName := ⟨"NumberHouseModel$WholeRows", "fits", "(I)Z"⟩
def F_WR_fits_c28 (K_F_WR_fits_L10 : Int32 → (Nat → Int32) → (Nat → Int32) → (Int32 × (Nat → Int32) × (Nat → Int32))) (x2 : Int32) (t0_0 : Int32) (t0_1 : Int32) (t0_2 : Int32) (t0_3 : Int32) (t0_4 : Int32) (t0_5 : Int32) (t0_6 : Int32) (t1_0 : (Nat → Int32)) (t2_0 : (Nat → Int32)) (t3_0 : (Nat → Int32)) (t4_0 : (Nat → Int32)) (lx35 : Int32) (lx36 : (Nat → Int32)) (lx37 : (Nat → Int32)) (p63 : ((Nat → Int32) × (Nat → Int32))) : Int32 × (Nat → Int32) × (Nat → Int32) := if ((F_WR_compareRows (264 : Int32) (264 : Int32) (p63.2 : (Nat → Int32)) t4_0) : Int32) ≤ (0 : Int32) then (K_F_WR_fits_L10 (lx35 + 1 : Int32) (p63.2 : (Nat → Int32)) (p63.1 : (Nat → Int32))) else (((0 : Int32), (p63.2 : (Nat → Int32)), (p63.1 : (Nat → Int32))))
def F_WR_fits_L10 (x2 : Int32) (t0_0 : Int32) (t0_1 : Int32) (t0_2 : Int32) (t0_3 : Int32) (t0_4 : Int32) (t0_5 : Int32) (t0_6 : Int32) (t1_0 : (Nat → Int32)) (t2_0 : (Nat → Int32)) (t3_0 : (Nat → Int32)) (t4_0 : (Nat → Int32)) : Nat → Int32 → (Nat → Int32) → (Nat → Int32) → (Int32 × (Nat → Int32) × (Nat → Int32))
  | 0, _, _, _ => default
  | fm + 1, lx35, lx36, lx37 => if x2 ≤ lx35 then (((1 : Int32), lx36, lx37)) else (F_WR_fits_c28 (F_WR_fits_L10 x2 t0_0 t0_1 t0_2 t0_3 t0_4 t0_5 t0_6 t1_0 t2_0 t3_0 t4_0 fm) x2 t0_0 t0_1 t0_2 t0_3 t0_4 t0_5 t0_6 t1_0 t2_0 t3_0 t4_0 lx35 lx36 lx37 ((F_WR_multiplyRows_a (264 : Int32) (264 : Int32) t0_0 t0_1 t0_2 t0_3 t0_4 t0_5 t0_6 lx37 lx36 t1_0) : ((Nat → Int32) × (Nat → Int32))))
def F_WR_fits (x2 : Int32) (t0_0 : Int32) (t0_1 : Int32) (t0_2 : Int32) (t0_3 : Int32) (t0_4 : Int32) (t0_5 : Int32) (t0_6 : Int32) (t1_0 : (Nat → Int32)) (t2_0 : (Nat → Int32)) (t3_0 : (Nat → Int32)) (t4_0 : (Nat → Int32)) : Int32 × (Nat → Int32) × (Nat → Int32) := F_WR_fits_L10 x2 t0_0 t0_1 t0_2 t0_3 t0_4 t0_5 t0_6 t1_0 t2_0 t3_0 t4_0 ((x2.toInt - (0 : Int32).toInt).toNat + 1) 0 ((F_WR_setOne (264 : Int32) t0_0 t0_1 t0_2 t0_3 t0_4 t0_5 t0_6 t2_0) : (Nat → Int32)) t3_0
def S_WR_fits_c28 (K_S_WR_fits_L10 : Int32 → (Nat → Int32) → (Nat → Int32) → Prop) (x2 : Int32) (t0_0 : Int32) (t0_1 : Int32) (t0_2 : Int32) (t0_3 : Int32) (t0_4 : Int32) (t0_5 : Int32) (t0_6 : Int32) (t1_0 : (Nat → Int32)) (t2_0 : (Nat → Int32)) (t3_0 : (Nat → Int32)) (t4_0 : (Nat → Int32)) (lx35 : Int32) (lx36 : (Nat → Int32)) (lx37 : (Nat → Int32)) (p63 : ((Nat → Int32) × (Nat → Int32))) : Prop := (S_WR_compareRows (264 : Int32) (264 : Int32) (p63.2 : (Nat → Int32)) t4_0) ∧ (if ((F_WR_compareRows (264 : Int32) (264 : Int32) (p63.2 : (Nat → Int32)) t4_0) : Int32) ≤ (0 : Int32) then (K_S_WR_fits_L10 (lx35 + 1 : Int32) (p63.2 : (Nat → Int32)) (p63.1 : (Nat → Int32))) else (True))
def S_WR_fits_L10 (x2 : Int32) (t0_0 : Int32) (t0_1 : Int32) (t0_2 : Int32) (t0_3 : Int32) (t0_4 : Int32) (t0_5 : Int32) (t0_6 : Int32) (t1_0 : (Nat → Int32)) (t2_0 : (Nat → Int32)) (t3_0 : (Nat → Int32)) (t4_0 : (Nat → Int32)) : Nat → Int32 → (Nat → Int32) → (Nat → Int32) → Prop
  | 0, _, _, _ => False
  | fm + 1, lx35, lx36, lx37 => if x2 ≤ lx35 then (True) else ((S_WR_multiplyRows_a (264 : Int32) (264 : Int32) t0_0 t0_1 t0_2 t0_3 t0_4 t0_5 t0_6 lx37 lx36 t1_0) ∧ (S_WR_fits_c28 (S_WR_fits_L10 x2 t0_0 t0_1 t0_2 t0_3 t0_4 t0_5 t0_6 t1_0 t2_0 t3_0 t4_0 fm) x2 t0_0 t0_1 t0_2 t0_3 t0_4 t0_5 t0_6 t1_0 t2_0 t3_0 t4_0 lx35 lx36 lx37 ((F_WR_multiplyRows_a (264 : Int32) (264 : Int32) t0_0 t0_1 t0_2 t0_3 t0_4 t0_5 t0_6 lx37 lx36 t1_0) : ((Nat → Int32) × (Nat → Int32)))))
def S_WR_fits (x2 : Int32) (t0_0 : Int32) (t0_1 : Int32) (t0_2 : Int32) (t0_3 : Int32) (t0_4 : Int32) (t0_5 : Int32) (t0_6 : Int32) (t1_0 : (Nat → Int32)) (t2_0 : (Nat → Int32)) (t3_0 : (Nat → Int32)) (t4_0 : (Nat → Int32)) : Prop := (S_WR_setOne (264 : Int32) t0_0 t0_1 t0_2 t0_3 t0_4 t0_5 t0_6 t2_0) ∧ (S_WR_fits_L10 x2 t0_0 t0_1 t0_2 t0_3 t0_4 t0_5 t0_6 t1_0 t2_0 t3_0 t4_0 ((x2.toInt - (0 : Int32).toInt).toNat + 1) 0 ((F_WR_setOne (264 : Int32) t0_0 t0_1 t0_2 t0_3 t0_4 t0_5 t0_6 t2_0) : (Nat → Int32)) t3_0)
set_option maxRecDepth 100000 in
set_option maxHeartbeats 4000000 in
theorem X_WR_fits (l : Launch) (D : va_G) (g : Nat → ClassId) (q : Nat → Nat) (ws : va_W) (x2 : Int32) (hI : q_I (msh g q) q ws) (t0_0 : Int32) (t0_1 : Int32) (t0_2 : Int32) (t0_3 : Int32) (t0_4 : Int32) (t0_5 : Int32) (t0_6 : Int32) (hT0 : ws[119]? = (some (q 119, .inr (13, [.int t0_0, .int t0_1, .ref (q 120), .int t0_2, .ref (q 121), .ref (q 122), .ref (q 123), .int t0_3, .ref (q 124), .ref (q 125), .ref (q 126), .ref (q 127), .ref (q 128), .ref (q 129), .ref (q 130), .ref (q 131), .int t0_4, .int t0_5, .ref (q 132), .ref (q 133), .int t0_6])) : Option (Nat × va_E))) (t1_0 : (Nat → Int32)) (hT1 : ws[123]? = (some (q 123, .inl (g 0, (264 : Int32).toNatClampNeg, .inl t1_0)) : Option (Nat × va_E))) (t2_0 : (Nat → Int32)) (hT2 : ws[124]? = (some (q 124, .inl (g 0, (264 : Int32).toNatClampNeg, .inl t2_0)) : Option (Nat × va_E))) (t3_0 : (Nat → Int32)) (hT3 : ws[125]? = (some (q 125, .inl (g 0, (528 : Int32).toNatClampNeg, .inl t3_0)) : Option (Nat × va_E))) (t4_0 : (Nat → Int32)) (hT4 : ws[128]? = (some (q 128, .inl (g 0, (264 : Int32).toNatClampNeg, .inl t4_0)) : Option (Nat × va_E))) (hS : S_WR_fits x2 t0_0 t0_1 t0_2 t0_3 t0_4 t0_5 t0_6 t1_0 t2_0 t3_0 t4_0) : q_mI l y_WR_fits prog_19_method_30_code 3 (.boolean) 3 0 0 D g [.ref (q 119), .int x2] ws (fun r u => q_I (msh g q) q u ∧ q_un ws u [124, 125] ∧ ∃ (u2_0 : (Nat → Int32)) (u3_0 : (Nat → Int32)), u[124]? = (some (q 124, .inl (g 0, (264 : Int32).toNatClampNeg, .inl u2_0)) : Option (Nat × va_E)) ∧ u[125]? = (some (q 125, .inl (g 0, (528 : Int32).toNatClampNeg, .inl u3_0)) : Option (Nat × va_E)) ∧ (0 ≤ r.toInt) ∧ (r.toInt ≤ 1) ∧ (r, u2_0, u3_0) = (F_WR_fits x2 t0_0 t0_1 t0_2 t0_3 t0_4 t0_5 t0_6 t1_0 t2_0 t3_0 t4_0)) := by
  intro sz
  refine q_into (by decide) (Nat.le_of_ble_eq_true rfl) ?_
  intro p e s m below meth c ls hsz C0 V hl
  have hx := C0.1
  have hb := C0.2.1
  obtain ⟨yy0_0, yy0_1, yy0_2, yy0_3, yy0_4, yy0_5, yy0_6, hh0, btt0_2, btt0_3, btt0_4, btt0_5, btt0_6⟩ := n_o119 hI
  obtain ⟨rfl, rfl, rfl, rfl, rfl, rfl, rfl⟩ : t0_0 = yy0_0 ∧ t0_1 = yy0_1 ∧ t0_2 = yy0_2 ∧ t0_3 = yy0_3 ∧ t0_4 = yy0_4 ∧ t0_5 = yy0_5 ∧ t0_6 = yy0_6 := by have z := Option.some.inj (hT0.symm.trans hh0); simpa using z
  replace btt0_2 : q_F (0 ≤ t0_2.toInt ∧ t0_2.toInt ≤ 4100) := btt0_2
  replace btt0_3 : q_F (0 ≤ t0_3.toInt ∧ t0_3.toInt ≤ 1) := btt0_3
  replace btt0_4 : q_F (0 ≤ t0_4.toInt ∧ t0_4.toInt ≤ 1) := btt0_4
  replace btt0_5 : q_F (0 ≤ t0_5.toInt ∧ t0_5.toInt ≤ 1) := btt0_5
  replace btt0_6 : q_F (0 ≤ t0_6.toInt ∧ t0_6.toInt ≤ 2100) := btt0_6
  have hF : q_un ws ws [124, 125] := q_u0
  have hl : lv_has ls 3 [(0, .ref (q 119)), (1, .int x2)] := hl
  refine lv_aload_n hx hb d_19_30_0 rfl (lv_at hl 0 rfl) ?_
  refine lv_aload_n hx hb d_19_30_1 rfl (lv_at hl 0 rfl) ?_
  refine q_get (ci := 13) (j := 8) (v := .ref (q 124)) C0 V i_WR rfl rfl hT0 (by decide) w_1932 rfl d_19_30_2 ?_
  have ob26 : q_F (S_WR_setOne (264 : Int32) t0_0 t0_1 t0_2 t0_3 t0_4 t0_5 t0_6 t2_0) := (by have h := hS; rw [S_WR_fits.eq_1] at h; exact h.1)
  refine q_gov V (q_runV (As := [.ref (q 124)]) (rest := []) (d := 2) (mc := 0) (ms := 0) (ci := 13) C0 V rfl LV_WR_131 (X_WR_setOne l D g q ws 124 264 (n_r124 g q)  hI t0_0 t0_1 t0_2 t0_3 t0_4 t0_5 t0_6 hT0 t2_0 hT2 ob26 _) rfl rfl hT0 rfl hl.1 rfl (Nat.le_of_ble_eq_true rfl) ⟨by decide, by decide⟩ ⟨Nat.le_of_ble_eq_true rfl, Nat.le_of_ble_eq_true rfl⟩ d_19_30_5) (fun u27 H locs hp28 V => ?_)
  obtain ⟨hI, hu32, f29, hA30, hE31⟩ := hp28
  replace hA30 : u27[124]? = (some (q 124, .inl (g 0, (264 : Int32).toNatClampNeg, .inl f29)) : Option (Nat × va_E)) := hA30
  have e33 : f29 = (F_WR_setOne (264 : Int32) t0_0 t0_1 t0_2 t0_3 t0_4 t0_5 t0_6 t2_0) := hE31
  replace hT0 := (hu32 _ (by decide)).trans hT0
  replace hT1 := (hu32 _ (by decide)).trans hT1
  replace hT3 := (hu32 _ (by decide)).trans hT3
  replace hT4 := (hu32 _ (by decide)).trans hT4
  replace hF := q_uc hF hu32 (by simp)
  refine lv_iconst (v := 0) hx hb d_19_30_8 (by decide) ?_
  refine lv_istore_n (lv' := [(2, .int 0), (0, .ref (q 119)), (1, .int x2)]) hx hb d_19_30_9 rfl hl (by decide) rfl (fun ls hl => ?_)
  refine q_loop (X := Int32 × (Nat → Int32) × (Nat → Int32)) (fun z H locs ls w40 => q_F (0 ≤ z.1.toInt) ∧ q_Wd D g (va_A ws sz) s w40 H locs ∧ lv_has ls 3 [(2, .int z.1), (0, .ref (q 119)), (1, .int x2)] ∧ q_I (msh g q) q w40 ∧ q_un ws w40 [124, 125] ∧ w40[119]? = (some (q 119, .inr (13, [.int t0_0, .int t0_1, .ref (q 120), .int t0_2, .ref (q 121), .ref (q 122), .ref (q 123), .int t0_3, .ref (q 124), .ref (q 125), .ref (q 126), .ref (q 127), .ref (q 128), .ref (q 129), .ref (q 130), .ref (q 131), .int t0_4, .int t0_5, .ref (q 132), .ref (q 133), .int t0_6])) : Option (Nat × va_E)) ∧ w40[123]? = (some (q 123, .inl (g 0, (264 : Int32).toNatClampNeg, .inl t1_0)) : Option (Nat × va_E)) ∧ w40[124]? = (some (q 124, .inl (g 0, (264 : Int32).toNatClampNeg, .inl z.2.1)) : Option (Nat × va_E)) ∧ w40[125]? = (some (q 125, .inl (g 0, (528 : Int32).toNatClampNeg, .inl z.2.2)) : Option (Nat × va_E)) ∧ w40[128]? = (some (q 128, .inl (g 0, (264 : Int32).toNatClampNeg, .inl t4_0)) : Option (Nat × va_E)) ∧ (∃ n, (x2.toInt - z.1.toInt).toNat < n ∧ F_WR_fits_L10 x2 t0_0 t0_1 t0_2 t0_3 t0_4 t0_5 t0_6 t1_0 t2_0 t3_0 t4_0 n z.1 z.2.1 z.2.2 = (F_WR_fits x2 t0_0 t0_1 t0_2 t0_3 t0_4 t0_5 t0_6 t1_0 t2_0 t3_0 t4_0) ∧ S_WR_fits_L10 x2 t0_0 t0_1 t0_2 t0_3 t0_4 t0_5 t0_6 t1_0 t2_0 t3_0 t4_0 n z.1 z.2.1 z.2.2)) (fun z => (x2.toInt - z.1.toInt).toNat) ?_ ((0 : Int32), (f29 : (Nat → Int32)), (t3_0 : (Nat → Int32))) _ _ _ u27 ⟨(show q_F (0 ≤ 0) from (show 0 ≤ 0 from by omega)), V, q_lw hl (q_lw1 0 rfl (q_lw1 1 rfl (q_lw1 2 rfl q_lw0))), hI, hF, hT0, hT1, hA30, hT3, hT4, ⟨((x2.toInt - (0 : Int32).toInt).toNat + 1), Nat.lt_succ_self _, (show F_WR_fits_L10 x2 t0_0 t0_1 t0_2 t0_3 t0_4 t0_5 t0_6 t1_0 t2_0 t3_0 t4_0 ((x2.toInt - (0 : Int32).toInt).toNat + 1) 0 f29 t3_0 = (F_WR_fits x2 t0_0 t0_1 t0_2 t0_3 t0_4 t0_5 t0_6 t1_0 t2_0 t3_0 t4_0) from (by subst e33; rw [F_WR_fits.eq_1])), (show S_WR_fits_L10 x2 t0_0 t0_1 t0_2 t0_3 t0_4 t0_5 t0_6 t1_0 t2_0 t3_0 t4_0 ((x2.toInt - (0 : Int32).toInt).toNat + 1) 0 f29 t3_0 from (by subst e33; have h := hS; rw [S_WR_fits.eq_1] at h; replace h := h.2; exact h))⟩⟩
  rintro ⟨lx35, lx36, lx37⟩ H locs ls w40 ⟨i38, V, hl, hI, hF, hO41, hO42, hO43, hO44, hO45, ⟨fu48, hf49, hR46, hS47⟩⟩ ih39
  obtain ⟨fm50, rfl⟩ : ∃ m, fu48 = m + 1 := ⟨fu48 - 1, by omega⟩
  replace i38 : q_F (0 ≤ lx35.toInt) := i38
  replace hl : lv_has ls 3 [(2, .int lx35), (0, .ref (q 119)), (1, .int x2)] := hl
  replace hO41 : w40[119]? = (some (q 119, .inr (13, [.int t0_0, .int t0_1, .ref (q 120), .int t0_2, .ref (q 121), .ref (q 122), .ref (q 123), .int t0_3, .ref (q 124), .ref (q 125), .ref (q 126), .ref (q 127), .ref (q 128), .ref (q 129), .ref (q 130), .ref (q 131), .int t0_4, .int t0_5, .ref (q 132), .ref (q 133), .int t0_6])) : Option (Nat × va_E)) := hO41
  replace hO42 : w40[123]? = (some (q 123, .inl (g 0, (264 : Int32).toNatClampNeg, .inl t1_0)) : Option (Nat × va_E)) := hO42
  replace hO43 : w40[124]? = (some (q 124, .inl (g 0, (264 : Int32).toNatClampNeg, .inl lx36)) : Option (Nat × va_E)) := hO43
  replace hO44 : w40[125]? = (some (q 125, .inl (g 0, (528 : Int32).toNatClampNeg, .inl lx37)) : Option (Nat × va_E)) := hO44
  replace hO45 : w40[128]? = (some (q 128, .inl (g 0, (264 : Int32).toNatClampNeg, .inl t4_0)) : Option (Nat × va_E)) := hO45
  refine lv_iload_n hx hb d_19_30_10 rfl (lv_at hl 0 rfl) ?_
  refine lv_iload_n hx hb d_19_30_11 rfl (lv_at hl 2 rfl) ?_
  refine lv_icmp_ge (tgt := 53) hx hb d_19_30_12 (by decide) (fun c51 => ?_) (fun c51 => ?_)
  ·
    have b52 : q_F (x2.toInt ≤ lx35.toInt) := (q_leI c51)
    refine lv_iconst (v := 1) hx hb d_19_30_53 (by decide) ?_
    exact q_retz C0 V (by decide) (⟨hI, hF, lx36, lx37, hO43, hO44, (show 0 ≤ (1 : Int32).toInt from (by have z12 : (1 : Int32).toInt = 1 := rfl; omega)), (show (1 : Int32).toInt ≤ 1 from (by have z12 : (1 : Int32).toInt = 1 := rfl; omega)), (show ((1 : Int32), lx36, lx37) = (F_WR_fits x2 t0_0 t0_1 t0_2 t0_3 t0_4 t0_5 t0_6 t1_0 t2_0 t3_0 t4_0) from Eq.trans (by rw [F_WR_fits_L10.eq_2, if_pos c51]) hR46)⟩) d_19_30_54
  ·
    have b53 : q_F (lx35.toInt < x2.toInt) := (q_nleI c51)
    refine lv_aload_n hx hb d_19_30_15 rfl (lv_at hl 1 rfl) ?_
    refine lv_aload_n hx hb d_19_30_16 rfl (lv_at hl 1 rfl) ?_
    refine q_get (ci := 13) (j := 8) (v := .ref (q 124)) C0 V i_WR rfl rfl hO41 (by decide) w_1932 rfl d_19_30_17 ?_
    refine lv_aload_n hx hb d_19_30_20 rfl (lv_at hl 1 rfl) ?_
    refine q_get (ci := 13) (j := 6) (v := .ref (q 123)) C0 V i_WR rfl rfl hO41 (by decide) w_1930 rfl d_19_30_21 ?_
    refine lv_aload_n hx hb d_19_30_24 rfl (lv_at hl 1 rfl) ?_
    refine q_get (ci := 13) (j := 8) (v := .ref (q 124)) C0 V i_WR rfl rfl hO41 (by decide) w_1932 rfl d_19_30_25 ?_
    have ob54 : q_F (S_WR_multiplyRows_a (264 : Int32) (264 : Int32) t0_0 t0_1 t0_2 t0_3 t0_4 t0_5 t0_6 lx37 lx36 t1_0) := (by have h := hS47; rw [S_WR_fits_L10.eq_2] at h; rw [if_neg c51] at h; exact h.1)
    refine q_gov V (q_runV (As := [.ref (q 124), .ref (q 123), .ref (q 124)]) (rest := []) (d := 2) (mc := 0) (ms := 0) (ci := 13) C0 V rfl LV_WR_115 (X_WR_multiplyRows_a l D g q w40 124 264 (n_r124 g q) 123 264 (n_r123 g q)  (by decide) (by decide) (by decide) hI t0_0 t0_1 t0_2 t0_3 t0_4 t0_5 t0_6 hO41 lx37 hO44 lx36 hO43 t1_0 hO42 ob54 _) rfl rfl hO41 rfl hl.1 rfl (Nat.le_of_ble_eq_true rfl) ⟨by decide, by decide⟩ ⟨Nat.le_of_ble_eq_true rfl, Nat.le_of_ble_eq_true rfl⟩ d_19_30_28) (fun u55 H locs hp56 V => ?_)
    obtain ⟨hI, hu62, f57, f59, hA58, hA60, hE61⟩ := hp56
    replace hA58 : u55[125]? = (some (q 125, .inl (g 0, (528 : Int32).toNatClampNeg, .inl f57)) : Option (Nat × va_E)) := hA58
    replace hA60 : u55[124]? = (some (q 124, .inl (g 0, (264 : Int32).toNatClampNeg, .inl f59)) : Option (Nat × va_E)) := hA60
    obtain ⟨p63, e64⟩ : ∃ z, z = (F_WR_multiplyRows_a (264 : Int32) (264 : Int32) t0_0 t0_1 t0_2 t0_3 t0_4 t0_5 t0_6 lx37 lx36 t1_0) := ⟨_, rfl⟩
    have e65 : f57 = p63.1 := congrArg (fun z => z.1) (hE61.trans e64.symm)
    have e66 : f59 = p63.2 := congrArg (fun z => z.2) (hE61.trans e64.symm)
    replace hO41 := (hu62 _ (by decide)).trans hO41
    replace hO42 := (hu62 _ (by decide)).trans hO42
    replace hO45 := (hu62 _ (by decide)).trans hO45
    replace hF := q_uc hF hu62 (by simp)
    have hR67 := (show F_WR_fits_c28 (F_WR_fits_L10 x2 t0_0 t0_1 t0_2 t0_3 t0_4 t0_5 t0_6 t1_0 t2_0 t3_0 t4_0 fm50) x2 t0_0 t0_1 t0_2 t0_3 t0_4 t0_5 t0_6 t1_0 t2_0 t3_0 t4_0 lx35 lx36 lx37 p63 = (F_WR_fits x2 t0_0 t0_1 t0_2 t0_3 t0_4 t0_5 t0_6 t1_0 t2_0 t3_0 t4_0) from Eq.trans (by subst e64; rw [F_WR_fits_L10.eq_2, if_neg c51]) hR46)
    have hS68 := (show S_WR_fits_c28 (S_WR_fits_L10 x2 t0_0 t0_1 t0_2 t0_3 t0_4 t0_5 t0_6 t1_0 t2_0 t3_0 t4_0 fm50) x2 t0_0 t0_1 t0_2 t0_3 t0_4 t0_5 t0_6 t1_0 t2_0 t3_0 t4_0 lx35 lx36 lx37 p63 from (by subst e64; have h := hS47; rw [S_WR_fits_L10.eq_2] at h; rw [if_neg c51] at h; replace h := h.2; exact h))
    refine lv_aload_n hx hb d_19_30_31 rfl (lv_at hl 1 rfl) ?_
    refine q_get (ci := 13) (j := 8) (v := .ref (q 124)) C0 V i_WR rfl rfl hO41 (by decide) w_1932 rfl d_19_30_32 ?_
    refine lv_aload_n hx hb d_19_30_35 rfl (lv_at hl 1 rfl) ?_
    refine q_get (ci := 13) (j := 12) (v := .ref (q 128)) C0 V i_WR rfl rfl hO41 (by decide) w_1936 rfl d_19_30_36 ?_
    have ob72 : q_F (S_WR_compareRows (264 : Int32) (264 : Int32) f59 t4_0) := (by subst e66; have h := hS68; rw [S_WR_fits_c28.eq_1] at h; exact h.1)
    refine q_goi V (q_runS (As := [.ref (q 124), .ref (q 128)]) (rest := []) (d := 1) (mc := 0) (ms := 0) C0 V rfl LS_WR_71 (X_WR_compareRows l D g q u55 124 264 (n_r124 g q) 128 264 (n_r128 g q)  hI f59 hA60 t4_0 hO45 ob72 _) rfl hl.1 rfl (Nat.le_of_ble_eq_true rfl) ⟨by decide, by decide⟩ ⟨Nat.le_of_ble_eq_true rfl, Nat.le_of_ble_eq_true rfl⟩ d_19_30_39) (fun a75 u73 H locs hp74 V => ?_)
    obtain ⟨rfl, b76, b77, b78, b79, hE80⟩ := hp74
    have e81 : a75 = (F_WR_compareRows (264 : Int32) (264 : Int32) f59 t4_0) := hE80
    replace b76 : q_F (0 ≤ a75.toInt + 1) := b76
    replace b77 : q_F (a75.toInt ≤ 1) := b77
    replace b78 : q_F (a75.toInt ≤ 264) := b78
    replace b79 : q_F (a75.toInt ≤ 264) := b79
    refine lv_if_le (tgt := 47) hx hb d_19_30_42 (by decide) (fun c82 => ?_) (fun c82 => ?_)
    ·
      have b83 : q_F (a75.toInt ≤ 0) := (q_leI c82)
      obtain ⟨a84, e85⟩ := q_nm (lx35 + 1 : Int32)
      have b86 : q_F (a84.toInt = lx35.toInt + 1) := (by rw [← e85]; exact q_addI (y := 1) rfl (by decide) (by have t1 : 0 ≤ lx35.toInt := i38; have t2 : lx35.toInt < x2.toInt := b53; have _ := q_lo32 (x := x2); have _ := q_hi32 (x := x2); omega) (by have t1 : 0 ≤ lx35.toInt := i38; have t2 : lx35.toInt < x2.toInt := b53; have _ := q_lo32 (x := x2); have _ := q_hi32 (x := x2); omega))
      refine lv_iinc (v := a84) (lv' := [(2, .int a84), (0, .ref (q 119)), (1, .int x2)]) hx hb d_19_30_47 hl (k := 0) rfl (e85) (by decide) rfl (fun ls hl => ?_)
      refine lv_goto (tgt := 10) hx hb d_19_30_50 (by decide) ?_
      exact ih39 ((a84 : Int32), (f59 : (Nat → Int32)), (f57 : (Nat → Int32))) _ _ _ _ (show (x2.toInt - a84.toInt).toNat < (x2.toInt - lx35.toInt).toNat from by have t1 : a84.toInt = lx35.toInt + 1 := b86; have t2 : lx35.toInt < x2.toInt := b53; omega) ⟨(show q_F (0 ≤ a84.toInt) from (show 0 ≤ a84.toInt from by have t1 : 0 ≤ lx35.toInt := i38; have t2 : a84.toInt = lx35.toInt + 1 := b86; omega)), V, q_lw hl (q_lw1 0 rfl (q_lw1 1 rfl (q_lw1 2 rfl q_lw0))), hI, hF, hO41, hO42, hA60, hA58, hO45, ⟨fm50, Nat.lt_of_lt_of_le (show (x2.toInt - a84.toInt).toNat < (x2.toInt - lx35.toInt).toNat from by have t1 : a84.toInt = lx35.toInt + 1 := b86; have t2 : lx35.toInt < x2.toInt := b53; omega) (Nat.le_of_lt_succ hf49), (show F_WR_fits_L10 x2 t0_0 t0_1 t0_2 t0_3 t0_4 t0_5 t0_6 t1_0 t2_0 t3_0 t4_0 fm50 a84 f59 f57 = (F_WR_fits x2 t0_0 t0_1 t0_2 t0_3 t0_4 t0_5 t0_6 t1_0 t2_0 t3_0 t4_0) from Eq.trans (by subst e65; subst e66; subst e81; subst e85; rw [F_WR_fits_c28.eq_1, if_pos c82]) hR67), (show S_WR_fits_L10 x2 t0_0 t0_1 t0_2 t0_3 t0_4 t0_5 t0_6 t1_0 t2_0 t3_0 t4_0 fm50 a84 f59 f57 from (by subst e65; subst e66; subst e81; subst e85; have h := hS68; rw [S_WR_fits_c28.eq_1] at h; replace h := h.2; rw [if_pos c82] at h; exact h))⟩⟩
    ·
      have b87 : q_F (0 < a75.toInt) := (q_nleI c82)
      refine lv_iconst (v := 0) hx hb d_19_30_45 (by decide) ?_
      exact q_retz C0 V (by decide) (⟨hI, hF, f59, f57, hA60, hA58, (show 0 ≤ (0 : Int32).toInt from (by have z12 : (0 : Int32).toInt = 0 := rfl; omega)), (show (0 : Int32).toInt ≤ 1 from (by have z12 : (0 : Int32).toInt = 0 := rfl; omega)), (show ((0 : Int32), f59, f57) = (F_WR_fits x2 t0_0 t0_1 t0_2 t0_3 t0_4 t0_5 t0_6 t1_0 t2_0 t3_0 t4_0) from Eq.trans (by subst e65; subst e66; subst e81; rw [F_WR_fits_c28.eq_1, if_neg c82]) hR67)⟩) d_19_30_46
theorem d_19_31_0 : decode prog_19_method_31_code 0 = .ok (.aload_n 0, 1) := by decide +kernel
theorem d_19_31_1 : decode prog_19_method_31_code 1 = .ok (.iload_n 1, 1) := by decide +kernel
theorem d_19_31_2 : decode prog_19_method_31_code 2 = .ok (.invokestatic 91, 3) := by decide +kernel
theorem d_19_31_44 : decode prog_19_method_31_code 44 = .ok (.putfield 53, 3) := by decide +kernel
theorem d_19_31_47 : decode prog_19_method_31_code 47 = .ok (.aload_n 0, 1) := by decide +kernel
theorem d_19_31_48 : decode prog_19_method_31_code 48 = .ok (.getfield 53, 3) := by decide +kernel
theorem d_19_31_51 : decode prog_19_method_31_code 51 = .ok (.ifCond .le 4, 3) := by decide +kernel
theorem d_19_31_55 : decode prog_19_method_31_code 55 = .ok (.aload_n 0, 1) := by decide +kernel
theorem d_19_31_56 : decode prog_19_method_31_code 56 = .ok (.iconst 2, 1) := by decide +kernel
theorem d_19_31_57 : decode prog_19_method_31_code 57 = .ok (.putfield 79, 3) := by decide +kernel
theorem d_19_31_60 : decode prog_19_method_31_code 60 = .ok (.aload_n 0, 1) := by decide +kernel
theorem d_19_31_61 : decode prog_19_method_31_code 61 = .ok (.iload_n 1, 1) := by decide +kernel
theorem d_19_31_62 : decode prog_19_method_31_code 62 = .ok (.aload_n 0, 1) := by decide +kernel
theorem d_19_31_63 : decode prog_19_method_31_code 63 = .ok (.getfield 35, 3) := by decide +kernel
theorem d_19_31_66 : decode prog_19_method_31_code 66 = .ok (.invokevirtual 107, 3) := by decide +kernel
theorem d_19_31_69 : decode prog_19_method_31_code 69 = .ok (.aload_n 0, 1) := by decide +kernel
theorem d_19_31_70 : decode prog_19_method_31_code 70 = .ok (.getfield 20, 3) := by decide +kernel
theorem d_19_31_73 : decode prog_19_method_31_code 73 = .ok (.invokestatic 63, 3) := by decide +kernel
theorem d_19_31_76 : decode prog_19_method_31_code 76 = .ok (.bipush 16, 2) := by decide +kernel
theorem d_19_31_78 : decode prog_19_method_31_code 78 = .ok (.aload_n 0, 1) := by decide +kernel
theorem d_19_31_79 : decode prog_19_method_31_code 79 = .ok (.getfield 35, 3) := by decide +kernel
theorem d_19_31_82 : decode prog_19_method_31_code 82 = .ok (.invokestatic 59, 3) := by decide +kernel
theorem d_19_31_85 : decode prog_19_method_31_code 85 = .ok (.imul, 1) := by decide +kernel
theorem d_19_31_86 : decode prog_19_method_31_code 86 = .ok (.iload_n 2, 1) := by decide +kernel
theorem d_19_31_87 : decode prog_19_method_31_code 87 = .ok (.idiv, 1) := by decide +kernel
theorem d_19_31_88 : decode prog_19_method_31_code 88 = .ok (.istore 4, 2) := by decide +kernel
theorem d_19_31_90 : decode prog_19_method_31_code 90 = .ok (.iload 4, 2) := by decide +kernel
theorem d_19_31_92 : decode prog_19_method_31_code 92 = .ok (.ifCond .lt 75, 3) := by decide +kernel
theorem d_19_31_167 : decode prog_19_method_31_code 167 = .ok (.aload_n 0, 1) := by decide +kernel
theorem d_19_31_168 : decode prog_19_method_31_code 168 = .ok (.iconst 0, 1) := by decide +kernel
theorem d_19_31_169 : decode prog_19_method_31_code 169 = .ok (.putfield 82, 3) := by decide +kernel
theorem d_19_31_172 : decode prog_19_method_31_code 172 = .ok (.aload_n 0, 1) := by decide +kernel
theorem d_19_31_173 : decode prog_19_method_31_code 173 = .ok (.iload_n 3, 1) := by decide +kernel
theorem d_19_31_174 : decode prog_19_method_31_code 174 = .ok (.invokevirtual 103, 3) := by decide +kernel
theorem d_19_31_177 : decode prog_19_method_31_code 177 = .ok (.return_, 1) := by decide +kernel
theorem d_19_31_95 : decode prog_19_method_31_code 95 = .ok (.aload_n 0, 1) := by decide +kernel
theorem d_19_31_96 : decode prog_19_method_31_code 96 = .ok (.getfield 20, 3) := by decide +kernel
theorem d_19_31_99 : decode prog_19_method_31_code 99 = .ok (.iload 4, 2) := by decide +kernel
theorem d_19_31_101 : decode prog_19_method_31_code 101 = .ok (.bipush 16, 2) := by decide +kernel
theorem d_19_31_103 : decode prog_19_method_31_code 103 = .ok (.idiv, 1) := by decide +kernel
theorem d_19_31_104 : decode prog_19_method_31_code 104 = .ok (.aload_n 0, 1) := by decide +kernel
theorem d_19_31_105 : decode prog_19_method_31_code 105 = .ok (.getfield 20, 3) := by decide +kernel
theorem d_19_31_108 : decode prog_19_method_31_code 108 = .ok (.iload 4, 2) := by decide +kernel
theorem d_19_31_110 : decode prog_19_method_31_code 110 = .ok (.bipush 16, 2) := by decide +kernel
theorem d_19_31_112 : decode prog_19_method_31_code 112 = .ok (.idiv, 1) := by decide +kernel
theorem d_19_31_113 : decode prog_19_method_31_code 113 = .ok (.iaload, 1) := by decide +kernel
theorem d_19_31_114 : decode prog_19_method_31_code 114 = .ok (.iconst 1, 1) := by decide +kernel
theorem d_19_31_115 : decode prog_19_method_31_code 115 = .ok (.iload 4, 2) := by decide +kernel
theorem d_19_31_117 : decode prog_19_method_31_code 117 = .ok (.bipush 16, 2) := by decide +kernel
theorem d_19_31_119 : decode prog_19_method_31_code 119 = .ok (.irem, 1) := by decide +kernel
theorem d_19_31_120 : decode prog_19_method_31_code 120 = .ok (.ishl, 1) := by decide +kernel
theorem d_19_31_121 : decode prog_19_method_31_code 121 = .ok (.ior, 1) := by decide +kernel
theorem d_19_31_122 : decode prog_19_method_31_code 122 = .ok (.iastore, 1) := by decide +kernel
theorem d_19_31_123 : decode prog_19_method_31_code 123 = .ok (.aload_n 0, 1) := by decide +kernel
theorem d_19_31_124 : decode prog_19_method_31_code 124 = .ok (.iload_n 2, 1) := by decide +kernel
theorem d_19_31_125 : decode prog_19_method_31_code 125 = .ok (.invokevirtual 134, 3) := by decide +kernel
theorem w_2760 : (Cond.code ({ cls := "NumberHouseModel$WholeRows", name := "fits", desc := "(I)Z" } : MethodName) prog_19_method_30_code (3 : Nat) (some .boolean)) ∈ q_tbl := q_of 2760 (by decide +kernel) (by decide +kernel)
theorem w_2757 : (Cond.methodLink "NumberHouseModel$WholeRows" (134 : Nat) ({ cls := "NumberHouseModel$WholeRows", name := "fits", desc := "(I)Z" } : MethodName)) ∈ q_tbl := q_of 2757 (by decide +kernel) (by decide +kernel)
theorem w_2759 : (Cond.instanceMethod ({ cls := "NumberHouseModel$WholeRows", name := "fits", desc := "(I)Z" } : MethodName)) ∈ q_tbl := q_of 2759 (by decide +kernel) (by decide +kernel)
theorem ws_109 : Cond.selects "NumberHouseModel$WholeRows" (⟨"NumberHouseModel$WholeRows", "fits", "(I)Z"⟩ : MethodName) (⟨"NumberHouseModel$WholeRows", "fits", "(I)Z"⟩ : MethodName) ∈ q_tbl := q_ofs 109 (by decide +kernel) (by decide +kernel)
theorem LV_WR_134 : q_LV "NumberHouseModel$WholeRows" 134 y_WR_fits prog_19_method_30_code 3 (some .boolean) 1 := ⟨w_2760, w_15, w_2757, w_2759, ws_109, ⟨by decide, by decide, by decide +kernel⟩⟩
theorem d_19_31_128 : decode prog_19_method_31_code 128 = .ok (.ifCond .ne 33, 3) := by decide +kernel
theorem d_19_31_161 : decode prog_19_method_31_code 161 = .ok (.iinc 4 (-1), 3) := by decide +kernel
theorem d_19_31_164 : decode prog_19_method_31_code 164 = .ok (.goto (-74), 3) := by decide +kernel
theorem d_19_31_131 : decode prog_19_method_31_code 131 = .ok (.aload_n 0, 1) := by decide +kernel
theorem d_19_31_132 : decode prog_19_method_31_code 132 = .ok (.getfield 20, 3) := by decide +kernel
theorem d_19_31_135 : decode prog_19_method_31_code 135 = .ok (.iload 4, 2) := by decide +kernel
theorem d_19_31_137 : decode prog_19_method_31_code 137 = .ok (.bipush 16, 2) := by decide +kernel
theorem d_19_31_139 : decode prog_19_method_31_code 139 = .ok (.idiv, 1) := by decide +kernel
theorem d_19_31_140 : decode prog_19_method_31_code 140 = .ok (.aload_n 0, 1) := by decide +kernel
theorem d_19_31_141 : decode prog_19_method_31_code 141 = .ok (.getfield 20, 3) := by decide +kernel
theorem d_19_31_144 : decode prog_19_method_31_code 144 = .ok (.iload 4, 2) := by decide +kernel
theorem d_19_31_146 : decode prog_19_method_31_code 146 = .ok (.bipush 16, 2) := by decide +kernel
theorem d_19_31_148 : decode prog_19_method_31_code 148 = .ok (.idiv, 1) := by decide +kernel
theorem d_19_31_149 : decode prog_19_method_31_code 149 = .ok (.iaload, 1) := by decide +kernel
theorem d_19_31_150 : decode prog_19_method_31_code 150 = .ok (.iconst 1, 1) := by decide +kernel
theorem d_19_31_151 : decode prog_19_method_31_code 151 = .ok (.iload 4, 2) := by decide +kernel
theorem d_19_31_153 : decode prog_19_method_31_code 153 = .ok (.bipush 16, 2) := by decide +kernel
theorem d_19_31_155 : decode prog_19_method_31_code 155 = .ok (.irem, 1) := by decide +kernel
theorem d_19_31_156 : decode prog_19_method_31_code 156 = .ok (.ishl, 1) := by decide +kernel
theorem d_19_31_157 : decode prog_19_method_31_code 157 = .ok (.iconst (-1), 1) := by decide +kernel
theorem d_19_31_158 : decode prog_19_method_31_code 158 = .ok (.ixor, 1) := by decide +kernel
theorem d_19_31_159 : decode prog_19_method_31_code 159 = .ok (.iand, 1) := by decide +kernel
theorem d_19_31_160 : decode prog_19_method_31_code 160 = .ok (.iastore, 1) := by decide +kernel
theorem d_19_31_54 : decode prog_19_method_31_code 54 = .ok (.return_, 1) := by decide +kernel
theorem d_19_31_26 : decode prog_19_method_31_code 26 = .ok (.iconst 1, 1) := by decide +kernel
theorem d_19_31_27 : decode prog_19_method_31_code 27 = .ok (.goto 17, 3) := by decide +kernel
theorem d_19_31_5 : decode prog_19_method_31_code 5 = .ok (.ifCond .ne 21, 3) := by decide +kernel
theorem d_19_31_8 : decode prog_19_method_31_code 8 = .ok (.iload_n 3, 1) := by decide +kernel
theorem d_19_31_9 : decode prog_19_method_31_code 9 = .ok (.invokestatic 91, 3) := by decide +kernel
theorem d_19_31_12 : decode prog_19_method_31_code 12 = .ok (.ifCond .ne 14, 3) := by decide +kernel
theorem d_19_31_15 : decode prog_19_method_31_code 15 = .ok (.iload_n 2, 1) := by decide +kernel
theorem d_19_31_16 : decode prog_19_method_31_code 16 = .ok (.iconst 1, 1) := by decide +kernel
theorem d_19_31_17 : decode prog_19_method_31_code 17 = .ok (.if_icmp .lt 9, 3) := by decide +kernel
theorem d_19_31_20 : decode prog_19_method_31_code 20 = .ok (.iload_n 2, 1) := by decide +kernel
theorem d_19_31_21 : decode prog_19_method_31_code 21 = .ok (.bipush 64, 2) := by decide +kernel
theorem d_19_31_23 : decode prog_19_method_31_code 23 = .ok (.if_icmp .le 7, 3) := by decide +kernel
theorem d_19_31_30 : decode prog_19_method_31_code 30 = .ok (.aload_n 0, 1) := by decide +kernel
theorem d_19_31_31 : decode prog_19_method_31_code 31 = .ok (.getfield 16, 3) := by decide +kernel
theorem d_19_31_34 : decode prog_19_method_31_code 34 = .ok (.iload_n 1, 1) := by decide +kernel
theorem d_19_31_35 : decode prog_19_method_31_code 35 = .ok (.baload, 1) := by decide +kernel
theorem d_19_31_36 : decode prog_19_method_31_code 36 = .ok (.ifCond .eq 7, 3) := by decide +kernel
theorem d_19_31_43 : decode prog_19_method_31_code 43 = .ok (.iconst 0, 1) := by decide +kernel
theorem d_19_31_39 : decode prog_19_method_31_code 39 = .ok (.iconst 2, 1) := by decide +kernel
theorem d_19_31_40 : decode prog_19_method_31_code 40 = .ok (.goto 4, 3) := by decide +kernel
def y_WR_root : MethodName := ⟨"NumberHouseModel$WholeRows", "root", "(III)V"⟩
def F_WR_root_c174 (K_F_WR_root_L90 : Int32 → (Nat → Int32) → (Nat → Int32) → (Nat → Int32) → (Int32 × Int32 × Int32 × Int32 × Int32 × Int32 × Int32 × (Nat → Int32) × (Nat → Int32) × (Nat → Int32) × (Nat → Int32) × (Nat → Int32) × (Nat → Int32))) (x2 : Int32) (x3 : Int32) (x4 : Int32) (t0_0 : Int32) (t0_1 : Int32) (t0_2 : Int32) (t0_3 : Int32) (t0_4 : Int32) (t0_5 : Int32) (t0_6 : Int32) (t1_0 : (Nat → Int32)) (t2_0 : (Nat → Int32)) (t3_0 : (Nat → Int32)) (t4_0 : (Nat → Int32)) (t5_0 : (Nat → Int32)) (t6_0 : (Nat → Int32)) (lx39 : Int32) (f64 : (Nat → Int32)) (lx91 : Int32) (lx92 : (Nat → Int32)) (lx93 : (Nat → Int32)) (lx94 : (Nat → Int32)) (p144 : (Int32 × Int32 × Int32 × Int32 × Int32 × Int32 × Int32 × (Nat → Int32) × (Nat → Int32))) : Int32 × Int32 × Int32 × Int32 × Int32 × Int32 × Int32 × (Nat → Int32) × (Nat → Int32) × (Nat → Int32) × (Nat → Int32) × (Nat → Int32) × (Nat → Int32) := ((p144.1 : Int32), (p144.2.1 : Int32), (p144.2.2.1 : Int32), (p144.2.2.2.1 : Int32), (p144.2.2.2.2.1 : Int32), (p144.2.2.2.2.2.1 : Int32), (p144.2.2.2.2.2.2.1 : Int32), (p144.2.2.2.2.2.2.2.1 : (Nat → Int32)), (p144.2.2.2.2.2.2.2.2 : (Nat → Int32)), lx92, lx93, lx94, f64)
def F_WR_root_c125 (K_F_WR_root_L90 : Int32 → (Nat → Int32) → (Nat → Int32) → (Nat → Int32) → (Int32 × Int32 × Int32 × Int32 × Int32 × Int32 × Int32 × (Nat → Int32) × (Nat → Int32) × (Nat → Int32) × (Nat → Int32) × (Nat → Int32) × (Nat → Int32))) (x2 : Int32) (x3 : Int32) (x4 : Int32) (t0_0 : Int32) (t0_1 : Int32) (t0_2 : Int32) (t0_3 : Int32) (t0_4 : Int32) (t0_5 : Int32) (t0_6 : Int32) (t1_0 : (Nat → Int32)) (t2_0 : (Nat → Int32)) (t3_0 : (Nat → Int32)) (t4_0 : (Nat → Int32)) (t5_0 : (Nat → Int32)) (t6_0 : (Nat → Int32)) (lx39 : Int32) (f64 : (Nat → Int32)) (lx91 : Int32) (lx92 : (Nat → Int32)) (lx93 : (Nat → Int32)) (lx94 : (Nat → Int32)) (f179 : (Nat → Int32)) (p193 : (Int32 × (Nat → Int32) × (Nat → Int32))) : Int32 × Int32 × Int32 × Int32 × Int32 × Int32 × Int32 × (Nat → Int32) × (Nat → Int32) × (Nat → Int32) × (Nat → Int32) × (Nat → Int32) × (Nat → Int32) := if (p193.1 : Int32) = (0 : Int32) then (K_F_WR_root_L90 (lx91 + (-1) : Int32) (upd f179 (lx91 / 16 : Int32).toNatClampNeg ((f179 (lx91 / 16 : Int32).toNatClampNeg : Int32) &&& (((1 : Int32) <<< ((lx91 - lx91 / 16 * 16 : Int32) &&& 31) : Int32) ^^^ (-1) : Int32) : Int32) : (Nat → Int32)) (p193.2.1 : (Nat → Int32)) (p193.2.2 : (Nat → Int32))) else (K_F_WR_root_L90 (lx91 + (-1) : Int32) f179 (p193.2.1 : (Nat → Int32)) (p193.2.2 : (Nat → Int32)))
def F_WR_root_L90 (x2 : Int32) (x3 : Int32) (x4 : Int32) (t0_0 : Int32) (t0_1 : Int32) (t0_2 : Int32) (t0_3 : Int32) (t0_4 : Int32) (t0_5 : Int32) (t0_6 : Int32) (t1_0 : (Nat → Int32)) (t2_0 : (Nat → Int32)) (t3_0 : (Nat → Int32)) (t4_0 : (Nat → Int32)) (t5_0 : (Nat → Int32)) (t6_0 : (Nat → Int32)) (lx39 : Int32) (f64 : (Nat → Int32)) : Nat → Int32 → (Nat → Int32) → (Nat → Int32) → (Nat → Int32) → (Int32 × Int32 × Int32 × Int32 × Int32 × Int32 × Int32 × (Nat → Int32) × (Nat → Int32) × (Nat → Int32) × (Nat → Int32) × (Nat → Int32) × (Nat → Int32))
  | 0, _, _, _, _ => default
  | fm + 1, lx91, lx92, lx93, lx94 => if lx91 < (0 : Int32) then (F_WR_root_c174 (F_WR_root_L90 x2 x3 x4 t0_0 t0_1 t0_2 t0_3 t0_4 t0_5 t0_6 t1_0 t2_0 t3_0 t4_0 t5_0 t6_0 lx39 f64 fm) x2 x3 x4 t0_0 t0_1 t0_2 t0_3 t0_4 t0_5 t0_6 t1_0 t2_0 t3_0 t4_0 t5_0 t6_0 lx39 f64 lx91 lx92 lx93 lx94 ((F_WR_store x4 lx39 (2 : Int32) t0_2 (0 : Int32) t0_4 t0_5 t0_6 t1_0 t2_0 lx92) : (Int32 × Int32 × Int32 × Int32 × Int32 × Int32 × Int32 × (Nat → Int32) × (Nat → Int32)))) else (F_WR_root_c125 (F_WR_root_L90 x2 x3 x4 t0_0 t0_1 t0_2 t0_3 t0_4 t0_5 t0_6 t1_0 t2_0 t3_0 t4_0 t5_0 t6_0 lx39 f64 fm) x2 x3 x4 t0_0 t0_1 t0_2 t0_3 t0_4 t0_5 t0_6 t1_0 t2_0 t3_0 t4_0 t5_0 t6_0 lx39 f64 lx91 lx92 lx93 lx94 (upd lx92 (lx91 / 16 : Int32).toNatClampNeg ((lx92 (lx91 / 16 : Int32).toNatClampNeg : Int32) ||| ((1 : Int32) <<< ((lx91 - lx91 / 16 * 16 : Int32) &&& 31) : Int32) : Int32) : (Nat → Int32)) ((F_WR_fits x3 lx39 (2 : Int32) t0_2 t0_3 t0_4 t0_5 t0_6 (upd lx92 (lx91 / 16 : Int32).toNatClampNeg ((lx92 (lx91 / 16 : Int32).toNatClampNeg : Int32) ||| ((1 : Int32) <<< ((lx91 - lx91 / 16 * 16 : Int32) &&& 31) : Int32) : Int32) : (Nat → Int32)) lx93 lx94 f64) : (Int32 × (Nat → Int32) × (Nat → Int32))))
def F_WR_root_J44 (x2 : Int32) (x3 : Int32) (x4 : Int32) (t0_0 : Int32) (t0_1 : Int32) (t0_2 : Int32) (t0_3 : Int32) (t0_4 : Int32) (t0_5 : Int32) (t0_6 : Int32) (t1_0 : (Nat → Int32)) (t2_0 : (Nat → Int32)) (t3_0 : (Nat → Int32)) (t4_0 : (Nat → Int32)) (t5_0 : (Nat → Int32)) (t6_0 : (Nat → Int32)) (lx39 : Int32) : Int32 × Int32 × Int32 × Int32 × Int32 × Int32 × Int32 × (Nat → Int32) × (Nat → Int32) × (Nat → Int32) × (Nat → Int32) × (Nat → Int32) × (Nat → Int32) := if lx39 ≤ (0 : Int32) then (F_WR_root_L90 x2 x3 x4 t0_0 t0_1 t0_2 t0_3 t0_4 t0_5 t0_6 t1_0 t2_0 t3_0 t4_0 t5_0 t6_0 lx39 ((F_WR_take x2 (264 : Int32) lx39 (2 : Int32) t0_2 t0_3 t0_4 t0_5 t0_6 t1_0 t6_0) : (Nat → Int32)) ((((16 * ((F_WR_size (264 : Int32) ((F_WR_take x2 (264 : Int32) lx39 (2 : Int32) t0_2 t0_3 t0_4 t0_5 t0_6 t1_0 t6_0) : (Nat → Int32))) : Int32) : Int32) / x3 : Int32).toInt - ((-1))).toNat + 1) ((16 * ((F_WR_size (264 : Int32) ((F_WR_take x2 (264 : Int32) lx39 (2 : Int32) t0_2 t0_3 t0_4 t0_5 t0_6 t1_0 t6_0) : (Nat → Int32))) : Int32) : Int32) / x3 : Int32) ((F_WR_clear (264 : Int32) t3_0) : (Nat → Int32)) t4_0 t5_0) else ((lx39, t0_1, t0_2, t0_3, t0_4, t0_5, t0_6, t1_0, t2_0, t3_0, t4_0, t5_0, t6_0))
def F_WR_root_J26 (x2 : Int32) (x3 : Int32) (x4 : Int32) (t0_0 : Int32) (t0_1 : Int32) (t0_2 : Int32) (t0_3 : Int32) (t0_4 : Int32) (t0_5 : Int32) (t0_6 : Int32) (t1_0 : (Nat → Int32)) (t2_0 : (Nat → Int32)) (t3_0 : (Nat → Int32)) (t4_0 : (Nat → Int32)) (t5_0 : (Nat → Int32)) (t6_0 : (Nat → Int32)) : Int32 × Int32 × Int32 × Int32 × Int32 × Int32 × Int32 × (Nat → Int32) × (Nat → Int32) × (Nat → Int32) × (Nat → Int32) × (Nat → Int32) × (Nat → Int32) := F_WR_root_J44 x2 x3 x4 t0_0 t0_1 t0_2 t0_3 t0_4 t0_5 t0_6 t1_0 t2_0 t3_0 t4_0 t5_0 t6_0 1
def F_WR_root (x2 : Int32) (x3 : Int32) (x4 : Int32) (t0_0 : Int32) (t0_1 : Int32) (t0_2 : Int32) (t0_3 : Int32) (t0_4 : Int32) (t0_5 : Int32) (t0_6 : Int32) (t1_0 : (Nat → Int32)) (t2_0 : (Nat → Int32)) (t3_0 : (Nat → Int32)) (t4_0 : (Nat → Int32)) (t5_0 : (Nat → Int32)) (t6_0 : (Nat → Int32)) : Int32 × Int32 × Int32 × Int32 × Int32 × Int32 × Int32 × (Nat → Int32) × (Nat → Int32) × (Nat → Int32) × (Nat → Int32) × (Nat → Int32) × (Nat → Int32) := if ((F_WR_no x2) : Int32) = (0 : Int32) then (if ((F_WR_no x4) : Int32) = (0 : Int32) then (if x3 < (1 : Int32) then (F_WR_root_J26 x2 x3 x4 t0_0 t0_1 t0_2 t0_3 t0_4 t0_5 t0_6 t1_0 t2_0 t3_0 t4_0 t5_0 t6_0) else (if x3 ≤ (64 : Int32) then (if (t2_0 x2.toNatClampNeg : Int32) = (0 : Int32) then (F_WR_root_J44 x2 x3 x4 t0_0 t0_1 t0_2 t0_3 t0_4 t0_5 t0_6 t1_0 t2_0 t3_0 t4_0 t5_0 t6_0 0) else (F_WR_root_J44 x2 x3 x4 t0_0 t0_1 t0_2 t0_3 t0_4 t0_5 t0_6 t1_0 t2_0 t3_0 t4_0 t5_0 t6_0 2)) else (F_WR_root_J26 x2 x3 x4 t0_0 t0_1 t0_2 t0_3 t0_4 t0_5 t0_6 t1_0 t2_0 t3_0 t4_0 t5_0 t6_0))) else (F_WR_root_J26 x2 x3 x4 t0_0 t0_1 t0_2 t0_3 t0_4 t0_5 t0_6 t1_0 t2_0 t3_0 t4_0 t5_0 t6_0)) else (F_WR_root_J26 x2 x3 x4 t0_0 t0_1 t0_2 t0_3 t0_4 t0_5 t0_6 t1_0 t2_0 t3_0 t4_0 t5_0 t6_0)
def S_WR_root_c174 (K_S_WR_root_L90 : Int32 → (Nat → Int32) → (Nat → Int32) → (Nat → Int32) → Prop) (x2 : Int32) (x3 : Int32) (x4 : Int32) (t0_0 : Int32) (t0_1 : Int32) (t0_2 : Int32) (t0_3 : Int32) (t0_4 : Int32) (t0_5 : Int32) (t0_6 : Int32) (t1_0 : (Nat → Int32)) (t2_0 : (Nat → Int32)) (t3_0 : (Nat → Int32)) (t4_0 : (Nat → Int32)) (t5_0 : (Nat → Int32)) (t6_0 : (Nat → Int32)) (lx39 : Int32) (f64 : (Nat → Int32)) (lx91 : Int32) (lx92 : (Nat → Int32)) (lx93 : (Nat → Int32)) (lx94 : (Nat → Int32)) (p144 : (Int32 × Int32 × Int32 × Int32 × Int32 × Int32 × Int32 × (Nat → Int32) × (Nat → Int32))) : Prop := True
def S_WR_root_c125 (K_S_WR_root_L90 : Int32 → (Nat → Int32) → (Nat → Int32) → (Nat → Int32) → Prop) (x2 : Int32) (x3 : Int32) (x4 : Int32) (t0_0 : Int32) (t0_1 : Int32) (t0_2 : Int32) (t0_3 : Int32) (t0_4 : Int32) (t0_5 : Int32) (t0_6 : Int32) (t1_0 : (Nat → Int32)) (t2_0 : (Nat → Int32)) (t3_0 : (Nat → Int32)) (t4_0 : (Nat → Int32)) (t5_0 : (Nat → Int32)) (t6_0 : (Nat → Int32)) (lx39 : Int32) (f64 : (Nat → Int32)) (lx91 : Int32) (lx92 : (Nat → Int32)) (lx93 : (Nat → Int32)) (lx94 : (Nat → Int32)) (f179 : (Nat → Int32)) (p193 : (Int32 × (Nat → Int32) × (Nat → Int32))) : Prop := if (p193.1 : Int32) = (0 : Int32) then (K_S_WR_root_L90 (lx91 + (-1) : Int32) (upd f179 (lx91 / 16 : Int32).toNatClampNeg ((f179 (lx91 / 16 : Int32).toNatClampNeg : Int32) &&& (((1 : Int32) <<< ((lx91 - lx91 / 16 * 16 : Int32) &&& 31) : Int32) ^^^ (-1) : Int32) : Int32) : (Nat → Int32)) (p193.2.1 : (Nat → Int32)) (p193.2.2 : (Nat → Int32))) else (K_S_WR_root_L90 (lx91 + (-1) : Int32) f179 (p193.2.1 : (Nat → Int32)) (p193.2.2 : (Nat → Int32)))
def S_WR_root_L90 (x2 : Int32) (x3 : Int32) (x4 : Int32) (t0_0 : Int32) (t0_1 : Int32) (t0_2 : Int32) (t0_3 : Int32) (t0_4 : Int32) (t0_5 : Int32) (t0_6 : Int32) (t1_0 : (Nat → Int32)) (t2_0 : (Nat → Int32)) (t3_0 : (Nat → Int32)) (t4_0 : (Nat → Int32)) (t5_0 : (Nat → Int32)) (t6_0 : (Nat → Int32)) (lx39 : Int32) (f64 : (Nat → Int32)) : Nat → Int32 → (Nat → Int32) → (Nat → Int32) → (Nat → Int32) → Prop
  | 0, _, _, _, _ => False
  | fm + 1, lx91, lx92, lx93, lx94 => if lx91 < (0 : Int32) then ((S_WR_store x4 lx39 (2 : Int32) t0_2 (0 : Int32) t0_4 t0_5 t0_6 t1_0 t2_0 lx92) ∧ (S_WR_root_c174 (S_WR_root_L90 x2 x3 x4 t0_0 t0_1 t0_2 t0_3 t0_4 t0_5 t0_6 t1_0 t2_0 t3_0 t4_0 t5_0 t6_0 lx39 f64 fm) x2 x3 x4 t0_0 t0_1 t0_2 t0_3 t0_4 t0_5 t0_6 t1_0 t2_0 t3_0 t4_0 t5_0 t6_0 lx39 f64 lx91 lx92 lx93 lx94 ((F_WR_store x4 lx39 (2 : Int32) t0_2 (0 : Int32) t0_4 t0_5 t0_6 t1_0 t2_0 lx92) : (Int32 × Int32 × Int32 × Int32 × Int32 × Int32 × Int32 × (Nat → Int32) × (Nat → Int32))))) else (((lx91 / 16 : Int32).toInt ≤ 263) ∧ ((S_WR_fits x3 lx39 (2 : Int32) t0_2 t0_3 t0_4 t0_5 t0_6 (upd lx92 (lx91 / 16 : Int32).toNatClampNeg ((lx92 (lx91 / 16 : Int32).toNatClampNeg : Int32) ||| ((1 : Int32) <<< ((lx91 - lx91 / 16 * 16 : Int32) &&& 31) : Int32) : Int32) : (Nat → Int32)) lx93 lx94 f64) ∧ (S_WR_root_c125 (S_WR_root_L90 x2 x3 x4 t0_0 t0_1 t0_2 t0_3 t0_4 t0_5 t0_6 t1_0 t2_0 t3_0 t4_0 t5_0 t6_0 lx39 f64 fm) x2 x3 x4 t0_0 t0_1 t0_2 t0_3 t0_4 t0_5 t0_6 t1_0 t2_0 t3_0 t4_0 t5_0 t6_0 lx39 f64 lx91 lx92 lx93 lx94 (upd lx92 (lx91 / 16 : Int32).toNatClampNeg ((lx92 (lx91 / 16 : Int32).toNatClampNeg : Int32) ||| ((1 : Int32) <<< ((lx91 - lx91 / 16 * 16 : Int32) &&& 31) : Int32) : Int32) : (Nat → Int32)) ((F_WR_fits x3 lx39 (2 : Int32) t0_2 t0_3 t0_4 t0_5 t0_6 (upd lx92 (lx91 / 16 : Int32).toNatClampNeg ((lx92 (lx91 / 16 : Int32).toNatClampNeg : Int32) ||| ((1 : Int32) <<< ((lx91 - lx91 / 16 * 16 : Int32) &&& 31) : Int32) : Int32) : (Nat → Int32)) lx93 lx94 f64) : (Int32 × (Nat → Int32) × (Nat → Int32))))))
def S_WR_root_J44 (x2 : Int32) (x3 : Int32) (x4 : Int32) (t0_0 : Int32) (t0_1 : Int32) (t0_2 : Int32) (t0_3 : Int32) (t0_4 : Int32) (t0_5 : Int32) (t0_6 : Int32) (t1_0 : (Nat → Int32)) (t2_0 : (Nat → Int32)) (t3_0 : (Nat → Int32)) (t4_0 : (Nat → Int32)) (t5_0 : (Nat → Int32)) (t6_0 : (Nat → Int32)) (lx39 : Int32) : Prop := if lx39 ≤ (0 : Int32) then ((S_WR_take x2 (264 : Int32) lx39 (2 : Int32) t0_2 t0_3 t0_4 t0_5 t0_6 t1_0 t6_0) ∧ ((1 ≤ x3.toInt) ∧ (S_WR_root_L90 x2 x3 x4 t0_0 t0_1 t0_2 t0_3 t0_4 t0_5 t0_6 t1_0 t2_0 t3_0 t4_0 t5_0 t6_0 lx39 ((F_WR_take x2 (264 : Int32) lx39 (2 : Int32) t0_2 t0_3 t0_4 t0_5 t0_6 t1_0 t6_0) : (Nat → Int32)) ((((16 * ((F_WR_size (264 : Int32) ((F_WR_take x2 (264 : Int32) lx39 (2 : Int32) t0_2 t0_3 t0_4 t0_5 t0_6 t1_0 t6_0) : (Nat → Int32))) : Int32) : Int32) / x3 : Int32).toInt - ((-1))).toNat + 1) ((16 * ((F_WR_size (264 : Int32) ((F_WR_take x2 (264 : Int32) lx39 (2 : Int32) t0_2 t0_3 t0_4 t0_5 t0_6 t1_0 t6_0) : (Nat → Int32))) : Int32) : Int32) / x3 : Int32) ((F_WR_clear (264 : Int32) t3_0) : (Nat → Int32)) t4_0 t5_0))) else (True)
def S_WR_root_J26 (x2 : Int32) (x3 : Int32) (x4 : Int32) (t0_0 : Int32) (t0_1 : Int32) (t0_2 : Int32) (t0_3 : Int32) (t0_4 : Int32) (t0_5 : Int32) (t0_6 : Int32) (t1_0 : (Nat → Int32)) (t2_0 : (Nat → Int32)) (t3_0 : (Nat → Int32)) (t4_0 : (Nat → Int32)) (t5_0 : (Nat → Int32)) (t6_0 : (Nat → Int32)) : Prop := S_WR_root_J44 x2 x3 x4 t0_0 t0_1 t0_2 t0_3 t0_4 t0_5 t0_6 t1_0 t2_0 t3_0 t4_0 t5_0 t6_0 1
def S_WR_root (x2 : Int32) (x3 : Int32) (x4 : Int32) (t0_0 : Int32) (t0_1 : Int32) (t0_2 : Int32) (t0_3 : Int32) (t0_4 : Int32) (t0_5 : Int32) (t0_6 : Int32) (t1_0 : (Nat → Int32)) (t2_0 : (Nat → Int32)) (t3_0 : (Nat → Int32)) (t4_0 : (Nat → Int32)) (t5_0 : (Nat → Int32)) (t6_0 : (Nat → Int32)) : Prop := if ((F_WR_no x2) : Int32) = (0 : Int32) then (if ((F_WR_no x4) : Int32) = (0 : Int32) then (if x3 < (1 : Int32) then (S_WR_root_J26 x2 x3 x4 t0_0 t0_1 t0_2 t0_3 t0_4 t0_5 t0_6 t1_0 t2_0 t3_0 t4_0 t5_0 t6_0) else (if x3 ≤ (64 : Int32) then ((0 ≤ x2.toInt) ∧ ((x2.toInt ≤ 10) ∧ (if (t2_0 x2.toNatClampNeg : Int32) = (0 : Int32) then (S_WR_root_J44 x2 x3 x4 t0_0 t0_1 t0_2 t0_3 t0_4 t0_5 t0_6 t1_0 t2_0 t3_0 t4_0 t5_0 t6_0 0) else (S_WR_root_J44 x2 x3 x4 t0_0 t0_1 t0_2 t0_3 t0_4 t0_5 t0_6 t1_0 t2_0 t3_0 t4_0 t5_0 t6_0 2)))) else (S_WR_root_J26 x2 x3 x4 t0_0 t0_1 t0_2 t0_3 t0_4 t0_5 t0_6 t1_0 t2_0 t3_0 t4_0 t5_0 t6_0))) else (S_WR_root_J26 x2 x3 x4 t0_0 t0_1 t0_2 t0_3 t0_4 t0_5 t0_6 t1_0 t2_0 t3_0 t4_0 t5_0 t6_0)) else (S_WR_root_J26 x2 x3 x4 t0_0 t0_1 t0_2 t0_3 t0_4 t0_5 t0_6 t1_0 t2_0 t3_0 t4_0 t5_0 t6_0)
set_option maxRecDepth 100000 in
set_option maxHeartbeats 4000000 in
theorem X_WR_root (l : Launch) (D : va_G) (g : Nat → ClassId) (q : Nat → Nat) (ws : va_W) (x2 : Int32) (x3 : Int32) (x4 : Int32) (hI : q_I (msh g q) q ws) (t0_0 : Int32) (t0_1 : Int32) (t0_2 : Int32) (t0_3 : Int32) (t0_4 : Int32) (t0_5 : Int32) (t0_6 : Int32) (hT0 : ws[119]? = (some (q 119, .inr (13, [.int t0_0, .int t0_1, .ref (q 120), .int t0_2, .ref (q 121), .ref (q 122), .ref (q 123), .int t0_3, .ref (q 124), .ref (q 125), .ref (q 126), .ref (q 127), .ref (q 128), .ref (q 129), .ref (q 130), .ref (q 131), .int t0_4, .int t0_5, .ref (q 132), .ref (q 133), .int t0_6])) : Option (Nat × va_E))) (t1_0 : (Nat → Int32)) (hT1 : ws[121]? = (some (q 121, .inl (g 0, (1408 : Int32).toNatClampNeg, .inl t1_0)) : Option (Nat × va_E))) (t2_0 : (Nat → Int32)) (hT2 : ws[122]? = (some (q 122, .inl (g 3, 11, .inl t2_0)) : Option (Nat × va_E))) (t3_0 : (Nat → Int32)) (hT3 : ws[123]? = (some (q 123, .inl (g 0, (264 : Int32).toNatClampNeg, .inl t3_0)) : Option (Nat × va_E))) (t4_0 : (Nat → Int32)) (hT4 : ws[124]? = (some (q 124, .inl (g 0, (264 : Int32).toNatClampNeg, .inl t4_0)) : Option (Nat × va_E))) (t5_0 : (Nat → Int32)) (hT5 : ws[125]? = (some (q 125, .inl (g 0, (528 : Int32).toNatClampNeg, .inl t5_0)) : Option (Nat × va_E))) (t6_0 : (Nat → Int32)) (hT6 : ws[128]? = (some (q 128, .inl (g 0, (264 : Int32).toNatClampNeg, .inl t6_0)) : Option (Nat × va_E))) (hS : S_WR_root x2 x3 x4 t0_0 t0_1 t0_2 t0_3 t0_4 t0_5 t0_6 t1_0 t2_0 t3_0 t4_0 t5_0 t6_0) : q_mV l y_WR_root prog_19_method_31_code 5 4 0 0 D g [.ref (q 119), .int x2, .int x3, .int x4] ws (fun u => q_I (msh g q) q u ∧ q_un ws u [119, 121, 122, 123, 124, 125, 128] ∧ ∃ (u0_0 : Int32) (u0_1 : Int32) (u0_2 : Int32) (u0_3 : Int32) (u0_4 : Int32) (u0_5 : Int32) (u0_6 : Int32) (u1_0 : (Nat → Int32)) (u2_0 : (Nat → Int32)) (u3_0 : (Nat → Int32)) (u4_0 : (Nat → Int32)) (u5_0 : (Nat → Int32)) (u6_0 : (Nat → Int32)), u[119]? = (some (q 119, .inr (13, [.int u0_0, .int u0_1, .ref (q 120), .int u0_2, .ref (q 121), .ref (q 122), .ref (q 123), .int u0_3, .ref (q 124), .ref (q 125), .ref (q 126), .ref (q 127), .ref (q 128), .ref (q 129), .ref (q 130), .ref (q 131), .int u0_4, .int u0_5, .ref (q 132), .ref (q 133), .int u0_6])) : Option (Nat × va_E)) ∧ u[121]? = (some (q 121, .inl (g 0, (1408 : Int32).toNatClampNeg, .inl u1_0)) : Option (Nat × va_E)) ∧ u[122]? = (some (q 122, .inl (g 3, 11, .inl u2_0)) : Option (Nat × va_E)) ∧ u[123]? = (some (q 123, .inl (g 0, (264 : Int32).toNatClampNeg, .inl u3_0)) : Option (Nat × va_E)) ∧ u[124]? = (some (q 124, .inl (g 0, (264 : Int32).toNatClampNeg, .inl u4_0)) : Option (Nat × va_E)) ∧ u[125]? = (some (q 125, .inl (g 0, (528 : Int32).toNatClampNeg, .inl u5_0)) : Option (Nat × va_E)) ∧ u[128]? = (some (q 128, .inl (g 0, (264 : Int32).toNatClampNeg, .inl u6_0)) : Option (Nat × va_E)) ∧ (0 ≤ u0_3.toInt) ∧ (t0_2.toInt ≤ u0_2.toInt) ∧ (u0_2.toInt ≤ t0_2.toInt) ∧ (u0_3.toInt ≤ t0_3.toInt) ∧ (t0_4.toInt ≤ u0_4.toInt) ∧ (u0_4.toInt ≤ t0_4.toInt) ∧ (t0_5.toInt ≤ u0_5.toInt) ∧ (u0_5.toInt ≤ t0_5.toInt) ∧ (t0_6.toInt ≤ u0_6.toInt) ∧ (u0_6.toInt ≤ t0_6.toInt) ∧ (u0_0, u0_1, u0_2, u0_3, u0_4, u0_5, u0_6, u1_0, u2_0, u3_0, u4_0, u5_0, u6_0) = (F_WR_root x2 x3 x4 t0_0 t0_1 t0_2 t0_3 t0_4 t0_5 t0_6 t1_0 t2_0 t3_0 t4_0 t5_0 t6_0)) := by
  intro sz
  refine q_into (by decide) (Nat.le_of_ble_eq_true rfl) ?_
  intro p e s m below meth c ls hsz C0 V hl
  have hx := C0.1
  have hb := C0.2.1
  obtain ⟨yy0_0, yy0_1, yy0_2, yy0_3, yy0_4, yy0_5, yy0_6, hh0, btt0_2, btt0_3, btt0_4, btt0_5, btt0_6⟩ := n_o119 hI
  obtain ⟨rfl, rfl, rfl, rfl, rfl, rfl, rfl⟩ : t0_0 = yy0_0 ∧ t0_1 = yy0_1 ∧ t0_2 = yy0_2 ∧ t0_3 = yy0_3 ∧ t0_4 = yy0_4 ∧ t0_5 = yy0_5 ∧ t0_6 = yy0_6 := by have z := Option.some.inj (hT0.symm.trans hh0); simpa using z
  replace btt0_2 : q_F (0 ≤ t0_2.toInt ∧ t0_2.toInt ≤ 4100) := btt0_2
  replace btt0_3 : q_F (0 ≤ t0_3.toInt ∧ t0_3.toInt ≤ 1) := btt0_3
  replace btt0_4 : q_F (0 ≤ t0_4.toInt ∧ t0_4.toInt ≤ 1) := btt0_4
  replace btt0_5 : q_F (0 ≤ t0_5.toInt ∧ t0_5.toInt ≤ 1) := btt0_5
  replace btt0_6 : q_F (0 ≤ t0_6.toInt ∧ t0_6.toInt ≤ 2100) := btt0_6
  have hF : q_un ws ws [119, 121, 122, 123, 124, 125, 128] := q_u0
  have hl : lv_has ls 5 [(0, .ref (q 119)), (1, .int x2), (2, .int x3), (3, .int x4)] := hl
  refine lv_aload_n hx hb d_19_31_0 rfl (lv_at hl 0 rfl) ?_
  refine lv_iload_n hx hb d_19_31_1 rfl (lv_at hl 1 rfl) ?_
  refine q_goi V (q_runS (As := [.int x2]) (rest := [.ref (q 119)]) (d := 1) (mc := 0) (ms := 0) C0 V rfl LS_WR_91 (X_WR_no l D g q ws  x2 hI   _) rfl hl.1 rfl (Nat.le_of_ble_eq_true rfl) ⟨by decide, by decide⟩ ⟨Nat.le_of_ble_eq_true rfl, Nat.le_of_ble_eq_true rfl⟩ d_19_31_2) (fun a34 u32 H locs hp33 V => ?_)
  obtain ⟨rfl, b35, b36, hE37⟩ := hp33
  have e38 : a34 = (F_WR_no x2) := hE37
  replace b35 : q_F (0 ≤ a34.toInt) := b35
  replace b36 : q_F (a34.toInt ≤ 1) := b36
  refine q_join (X := Int32) (fun z H locs ls _ => q_F (0 ≤ z.toInt) ∧ q_F (z.toInt ≤ 2) ∧ q_Wd D g (va_A ws sz) s ws H locs ∧ lv_has ls 5 [(0, .ref (q 119)), (1, .int x2), (2, .int x3), (3, .int x4)] ∧ F_WR_root_J44 x2 x3 x4 t0_0 t0_1 t0_2 t0_3 t0_4 t0_5 t0_6 t1_0 t2_0 t3_0 t4_0 t5_0 t6_0 z = (F_WR_root x2 x3 x4 t0_0 t0_1 t0_2 t0_3 t0_4 t0_5 t0_6 t1_0 t2_0 t3_0 t4_0 t5_0 t6_0) ∧ S_WR_root_J44 x2 x3 x4 t0_0 t0_1 t0_2 t0_3 t0_4 t0_5 t0_6 t1_0 t2_0 t3_0 t4_0 t5_0 t6_0 z) (fun z => [.int z, .ref (q 119)]) 44 0 0 ?_ ?_
  ·
    rintro lx39 H locs ls _ ⟨i48, i49, V, hl, hR50, hS51⟩
    replace i48 : q_F (0 ≤ lx39.toInt) := i48
    replace i49 : q_F (lx39.toInt ≤ 2) := i49
    replace hl : lv_has ls 5 [(0, .ref (q 119)), (1, .int x2), (2, .int x3), (3, .int x4)] := hl
    refine q_put (ci := 13) (j := 0) (v := .int lx39) (ty := .int) C0 V i_WR o_WR n_WR rfl rfl hT0 (by decide) w_1921 rfl rfl rfl rfl (Nat.le_of_ble_eq_true rfl) d_19_31_44 (fun H locs w55 hu56 hT0 V => ?_)
    replace hT0 : w55[119]? = (some (q 119, .inr (13, [.int lx39, .int t0_1, .ref (q 120), .int t0_2, .ref (q 121), .ref (q 122), .ref (q 123), .int t0_3, .ref (q 124), .ref (q 125), .ref (q 126), .ref (q 127), .ref (q 128), .ref (q 129), .ref (q 130), .ref (q 131), .int t0_4, .int t0_5, .ref (q 132), .ref (q 133), .int t0_6])) : Option (Nat × va_E)) := hT0
    replace hI := n_p119 hI hu56 hT0 ⟨(by have t1 : 0 ≤ t0_2.toInt ∧ t0_2.toInt ≤ 4100 := btt0_2; omega), (by have t1 : 0 ≤ t0_2.toInt ∧ t0_2.toInt ≤ 4100 := btt0_2; omega)⟩ ⟨(by have t1 : 0 ≤ t0_3.toInt ∧ t0_3.toInt ≤ 1 := btt0_3; omega), (by have t1 : 0 ≤ t0_3.toInt ∧ t0_3.toInt ≤ 1 := btt0_3; omega)⟩ ⟨(by have t1 : 0 ≤ t0_4.toInt ∧ t0_4.toInt ≤ 1 := btt0_4; omega), (by have t1 : 0 ≤ t0_4.toInt ∧ t0_4.toInt ≤ 1 := btt0_4; omega)⟩ ⟨(by have t1 : 0 ≤ t0_5.toInt ∧ t0_5.toInt ≤ 1 := btt0_5; omega), (by have t1 : 0 ≤ t0_5.toInt ∧ t0_5.toInt ≤ 1 := btt0_5; omega)⟩ ⟨(by have t1 : 0 ≤ t0_6.toInt ∧ t0_6.toInt ≤ 2100 := btt0_6; omega), (by have t1 : 0 ≤ t0_6.toInt ∧ t0_6.toInt ≤ 2100 := btt0_6; omega)⟩
    replace hT1 := (hu56 _ (by decide)).trans hT1
    replace hT2 := (hu56 _ (by decide)).trans hT2
    replace hT3 := (hu56 _ (by decide)).trans hT3
    replace hT4 := (hu56 _ (by decide)).trans hT4
    replace hT5 := (hu56 _ (by decide)).trans hT5
    replace hT6 := (hu56 _ (by decide)).trans hT6
    replace hF := q_us hF hu56 (by simp)
    refine lv_aload_n hx hb d_19_31_47 rfl (lv_at hl 0 rfl) ?_
    refine q_get (ci := 13) (j := 0) (v := .int lx39) C0 V i_WR rfl rfl hT0 (by decide) w_1921 rfl d_19_31_48 ?_
    refine lv_if_le (tgt := 55) hx hb d_19_31_51 (by decide) (fun c57 => ?_) (fun c57 => ?_)
    ·
      have b58 : q_F (lx39.toInt ≤ 0) := (q_leI c57)
      refine lv_aload_n hx hb d_19_31_55 rfl (lv_at hl 0 rfl) ?_
      refine lv_iconst (v := 2) hx hb d_19_31_56 (by decide) ?_
      refine q_put (ci := 13) (j := 1) (v := .int 2) (ty := .int) C0 V i_WR o_WR n_WR rfl rfl hT0 (by decide) w_1923 rfl rfl rfl rfl (Nat.le_of_ble_eq_true rfl) d_19_31_57 (fun H locs w59 hu60 hT0 V => ?_)
      replace hT0 : w59[119]? = (some (q 119, .inr (13, [.int lx39, .int 2, .ref (q 120), .int t0_2, .ref (q 121), .ref (q 122), .ref (q 123), .int t0_3, .ref (q 124), .ref (q 125), .ref (q 126), .ref (q 127), .ref (q 128), .ref (q 129), .ref (q 130), .ref (q 131), .int t0_4, .int t0_5, .ref (q 132), .ref (q 133), .int t0_6])) : Option (Nat × va_E)) := hT0
      replace hI := n_p119 hI hu60 hT0 ⟨(by have t1 : 0 ≤ t0_2.toInt ∧ t0_2.toInt ≤ 4100 := btt0_2; omega), (by have t1 : 0 ≤ t0_2.toInt ∧ t0_2.toInt ≤ 4100 := btt0_2; omega)⟩ ⟨(by have t1 : 0 ≤ t0_3.toInt ∧ t0_3.toInt ≤ 1 := btt0_3; omega), (by have t1 : 0 ≤ t0_3.toInt ∧ t0_3.toInt ≤ 1 := btt0_3; omega)⟩ ⟨(by have t1 : 0 ≤ t0_4.toInt ∧ t0_4.toInt ≤ 1 := btt0_4; omega), (by have t1 : 0 ≤ t0_4.toInt ∧ t0_4.toInt ≤ 1 := btt0_4; omega)⟩ ⟨(by have t1 : 0 ≤ t0_5.toInt ∧ t0_5.toInt ≤ 1 := btt0_5; omega), (by have t1 : 0 ≤ t0_5.toInt ∧ t0_5.toInt ≤ 1 := btt0_5; omega)⟩ ⟨(by have t1 : 0 ≤ t0_6.toInt ∧ t0_6.toInt ≤ 2100 := btt0_6; omega), (by have t1 : 0 ≤ t0_6.toInt ∧ t0_6.toInt ≤ 2100 := btt0_6; omega)⟩
      replace hT1 := (hu60 _ (by decide)).trans hT1
      replace hT2 := (hu60 _ (by decide)).trans hT2
      replace hT3 := (hu60 _ (by decide)).trans hT3
      replace hT4 := (hu60 _ (by decide)).trans hT4
      replace hT5 := (hu60 _ (by decide)).trans hT5
      replace hT6 := (hu60 _ (by decide)).trans hT6
      replace hF := q_us hF hu60 (by simp)
      refine lv_aload_n hx hb d_19_31_60 rfl (lv_at hl 0 rfl) ?_
      refine lv_iload_n hx hb d_19_31_61 rfl (lv_at hl 1 rfl) ?_
      refine lv_aload_n hx hb d_19_31_62 rfl (lv_at hl 0 rfl) ?_
      refine q_get (ci := 13) (j := 12) (v := .ref (q 128)) C0 V i_WR rfl rfl hT0 (by decide) w_1936 rfl d_19_31_63 ?_
      have ob61 : q_F (S_WR_take x2 (264 : Int32) lx39 (2 : Int32) t0_2 t0_3 t0_4 t0_5 t0_6 t1_0 t6_0) := (by have h := hS51; rw [S_WR_root_J44.eq_1] at h; rw [if_pos c57] at h; exact h.1)
      refine q_gov V (q_runV (As := [.int x2, .ref (q 128)]) (rest := []) (d := 1) (mc := 0) (ms := 0) (ci := 13) C0 V rfl LV_WR_107 (X_WR_take l D g q w59 128 264 (n_r128 g q) x2 (by decide) hI lx39 2 t0_2 t0_3 t0_4 t0_5 t0_6 hT0 t1_0 hT1 t6_0 hT6 ob61 _) rfl rfl hT0 rfl hl.1 rfl (Nat.le_of_ble_eq_true rfl) ⟨by decide, by decide⟩ ⟨Nat.le_of_ble_eq_true rfl, Nat.le_of_ble_eq_true rfl⟩ d_19_31_66) (fun u62 H locs hp63 V => ?_)
      obtain ⟨hI, hu67, f64, hA65, hE66⟩ := hp63
      replace hA65 : u62[128]? = (some (q 128, .inl (g 0, (264 : Int32).toNatClampNeg, .inl f64)) : Option (Nat × va_E)) := hA65
      have e68 : f64 = (F_WR_take x2 (264 : Int32) lx39 (2 : Int32) t0_2 t0_3 t0_4 t0_5 t0_6 t1_0 t6_0) := hE66
      replace hT0 := (hu67 _ (by decide)).trans hT0
      replace hT1 := (hu67 _ (by decide)).trans hT1
      replace hT2 := (hu67 _ (by decide)).trans hT2
      replace hT3 := (hu67 _ (by decide)).trans hT3
      replace hT4 := (hu67 _ (by decide)).trans hT4
      replace hT5 := (hu67 _ (by decide)).trans hT5
      replace hF := q_uc hF hu67 (by simp)
      refine lv_aload_n hx hb d_19_31_69 rfl (lv_at hl 0 rfl) ?_
      refine q_get (ci := 13) (j := 6) (v := .ref (q 123)) C0 V i_WR rfl rfl hT0 (by decide) w_1930 rfl d_19_31_70 ?_
      refine q_gov V (q_runS (As := [.ref (q 123)]) (rest := []) (d := 1) (mc := 0) (ms := 0) C0 V rfl LS_WR_63 (X_WR_clear l D g q u62 123 264 (n_r123 g q)  hI t3_0 hT3  _) rfl hl.1 rfl (Nat.le_of_ble_eq_true rfl) ⟨by decide, by decide⟩ ⟨Nat.le_of_ble_eq_true rfl, Nat.le_of_ble_eq_true rfl⟩ d_19_31_73) (fun u69 H locs hp70 V => ?_)
      obtain ⟨hI, hu74, f71, hA72, hE73⟩ := hp70
      replace hA72 : u69[123]? = (some (q 123, .inl (g 0, (264 : Int32).toNatClampNeg, .inl f71)) : Option (Nat × va_E)) := hA72
      have e75 : f71 = (F_WR_clear (264 : Int32) t3_0) := hE73
      replace hT0 := (hu74 _ (by decide)).trans hT0
      replace hT1 := (hu74 _ (by decide)).trans hT1
      replace hT2 := (hu74 _ (by decide)).trans hT2
      replace hT4 := (hu74 _ (by decide)).trans hT4
      replace hT5 := (hu74 _ (by decide)).trans hT5
      replace hA65 := (hu74 _ (by decide)).trans hA65
      replace hF := q_uc hF hu74 (by simp)
      refine lv_bipush (v := 16) hx hb d_19_31_76 (by decide) ?_
      refine lv_aload_n hx hb d_19_31_78 rfl (lv_at hl 0 rfl) ?_
      refine q_get (ci := 13) (j := 12) (v := .ref (q 128)) C0 V i_WR rfl rfl hT0 (by decide) w_1936 rfl d_19_31_79 ?_
      refine q_goi V (q_runS (As := [.ref (q 128)]) (rest := [.int 16]) (d := 1) (mc := 0) (ms := 0) C0 V rfl LS_WR_59 (X_WR_size l D g q u69 128 264 (n_r128 g q)  hI f64 hA65  _) rfl hl.1 rfl (Nat.le_of_ble_eq_true rfl) ⟨by decide, by decide⟩ ⟨Nat.le_of_ble_eq_true rfl, Nat.le_of_ble_eq_true rfl⟩ d_19_31_82) (fun a78 u76 H locs hp77 V => ?_)
      obtain ⟨rfl, b79, b80, hE81⟩ := hp77
      have e82 : a78 = (F_WR_size (264 : Int32) f64) := hE81
      replace b79 : q_F (0 ≤ a78.toInt) := b79
      replace b80 : q_F (a78.toInt ≤ 264) := b80
      refine lv_imul hx hb d_19_31_85 ?_
      obtain ⟨a83, e84⟩ := q_nm (16 * a78 : Int32)
      refine q_ti (v := a83) e84 ?_
      have b85 : q_F (a83.toInt = 16 * a78.toInt) := (by rw [← e84]; show (16 * a78 : Int32).toInt = 16 * a78.toInt; exact q_mulI (x := 16) (y := a78.toInt) (by decide) rfl (by have t1 : 0 ≤ a78.toInt := b79; have t2 : a78.toInt ≤ 264 := b80; omega) (by have t1 : 0 ≤ a78.toInt := b79; have t2 : a78.toInt ≤ 264 := b80; omega))
      refine lv_iload_n hx hb d_19_31_86 rfl (lv_at hl 2 rfl) ?_
      have ob86 : q_F (1 ≤ x3.toInt) := (by have h := hS51; rw [S_WR_root_J44.eq_1] at h; rw [if_pos c57] at h; replace h := h.2; exact h.1)
      refine lv_idiv hx hb d_19_31_87 (s_nzI (by have t1 : 1 ≤ x3.toInt := ob86; omega)) ?_
      obtain ⟨a87, e88⟩ := q_nm (a83 / x3 : Int32)
      refine q_ti (v := a87) e88 ?_
      have b89 : q_F (0 ≤ a87.toInt ∧ a87.toInt ≤ a83.toInt) := (by rw [← e88]; show 0 ≤ (a83 / x3 : Int32).toInt ∧ (a83 / x3 : Int32).toInt ≤ a83.toInt; exact (by have z := q_divI (a := a83) (b := x3) (x := a83.toInt) (y := x3.toInt) rfl rfl (by have t1 : 0 ≤ a78.toInt := b79; have t2 : a83.toInt = 16 * a78.toInt := b85; omega) (by have t1 : 1 ≤ x3.toInt := ob86; omega); have h1 : 0 ≤ a83.toInt / x3.toInt := Int.ediv_nonneg (by have t1 : 0 ≤ a78.toInt := b79; have t2 : a83.toInt = 16 * a78.toInt := b85; omega) (by have t1 : 1 ≤ x3.toInt := ob86; omega); have h2 : a83.toInt / x3.toInt ≤ a83.toInt := Int.ediv_le_self x3.toInt (by have t1 : 0 ≤ a78.toInt := b79; have t2 : a83.toInt = 16 * a78.toInt := b85; omega); exact ⟨by rw [z]; exact h1, by rw [z]; exact h2⟩))
      refine lv_istore (lv' := [(4, .int a87), (0, .ref (q 119)), (1, .int x2), (2, .int x3), (3, .int x4)]) hx hb d_19_31_88 hl (by decide) rfl (fun ls hl => ?_)
      refine q_loop (X := Int32 × (Nat → Int32) × (Nat → Int32) × (Nat → Int32)) (fun z H locs ls w98 => q_F (0 ≤ z.1.toInt + 1) ∧ q_F (z.1.toInt ≤ a87.toInt) ∧ q_Wd D g (va_A ws sz) s w98 H locs ∧ lv_has ls 5 [(4, .int z.1), (0, .ref (q 119)), (2, .int x3), (3, .int x4)] ∧ q_I (msh g q) q w98 ∧ q_un ws w98 [119, 121, 122, 123, 124, 125, 128] ∧ w98[119]? = (some (q 119, .inr (13, [.int lx39, .int 2, .ref (q 120), .int t0_2, .ref (q 121), .ref (q 122), .ref (q 123), .int t0_3, .ref (q 124), .ref (q 125), .ref (q 126), .ref (q 127), .ref (q 128), .ref (q 129), .ref (q 130), .ref (q 131), .int t0_4, .int t0_5, .ref (q 132), .ref (q 133), .int t0_6])) : Option (Nat × va_E)) ∧ w98[121]? = (some (q 121, .inl (g 0, (1408 : Int32).toNatClampNeg, .inl t1_0)) : Option (Nat × va_E)) ∧ w98[122]? = (some (q 122, .inl (g 3, 11, .inl t2_0)) : Option (Nat × va_E)) ∧ w98[123]? = (some (q 123, .inl (g 0, (264 : Int32).toNatClampNeg, .inl z.2.1)) : Option (Nat × va_E)) ∧ w98[124]? = (some (q 124, .inl (g 0, (264 : Int32).toNatClampNeg, .inl z.2.2.1)) : Option (Nat × va_E)) ∧ w98[125]? = (some (q 125, .inl (g 0, (528 : Int32).toNatClampNeg, .inl z.2.2.2)) : Option (Nat × va_E)) ∧ w98[128]? = (some (q 128, .inl (g 0, (264 : Int32).toNatClampNeg, .inl f64)) : Option (Nat × va_E)) ∧ (∃ n, (z.1.toInt - ((-1))).toNat < n ∧ F_WR_root_L90 x2 x3 x4 t0_0 t0_1 t0_2 t0_3 t0_4 t0_5 t0_6 t1_0 t2_0 t3_0 t4_0 t5_0 t6_0 lx39 f64 n z.1 z.2.1 z.2.2.1 z.2.2.2 = (F_WR_root x2 x3 x4 t0_0 t0_1 t0_2 t0_3 t0_4 t0_5 t0_6 t1_0 t2_0 t3_0 t4_0 t5_0 t6_0) ∧ S_WR_root_L90 x2 x3 x4 t0_0 t0_1 t0_2 t0_3 t0_4 t0_5 t0_6 t1_0 t2_0 t3_0 t4_0 t5_0 t6_0 lx39 f64 n z.1 z.2.1 z.2.2.1 z.2.2.2)) (fun z => (z.1.toInt - ((-1))).toNat) ?_ ((a87 : Int32), (f71 : (Nat → Int32)), (t4_0 : (Nat → Int32)), (t5_0 : (Nat → Int32))) _ _ _ u69 ⟨(show q_F (0 ≤ a87.toInt + 1) from (show 0 ≤ a87.toInt + 1 from by have t1 : 0 ≤ a87.toInt ∧ a87.toInt ≤ a83.toInt := b89; omega)), (show q_F (a87.toInt ≤ a87.toInt) from (show a87.toInt ≤ a87.toInt from by omega)), V, q_lw hl (q_lw1 0 rfl (q_lw1 1 rfl (q_lw1 3 rfl (q_lw1 4 rfl q_lw0)))), hI, hF, hT0, hT1, hT2, hA72, hT4, hT5, hA65, ⟨((a87.toInt - ((-1))).toNat + 1), Nat.lt_succ_self _, (show F_WR_root_L90 x2 x3 x4 t0_0 t0_1 t0_2 t0_3 t0_4 t0_5 t0_6 t1_0 t2_0 t3_0 t4_0 t5_0 t6_0 lx39 f64 ((a87.toInt - ((-1))).toNat + 1) a87 f71 t4_0 t5_0 = (F_WR_root x2 x3 x4 t0_0 t0_1 t0_2 t0_3 t0_4 t0_5 t0_6 t1_0 t2_0 t3_0 t4_0 t5_0 t6_0) from Eq.trans (by subst e68; subst e75; subst e82; subst e84; subst e88; rw [F_WR_root_J44.eq_1, if_pos c57]) hR50), (show S_WR_root_L90 x2 x3 x4 t0_0 t0_1 t0_2 t0_3 t0_4 t0_5 t0_6 t1_0 t2_0 t3_0 t4_0 t5_0 t6_0 lx39 f64 ((a87.toInt - ((-1))).toNat + 1) a87 f71 t4_0 t5_0 from (by subst e68; subst e75; subst e82; subst e84; subst e88; have h := hS51; rw [S_WR_root_J44.eq_1] at h; rw [if_pos c57] at h; replace h := h.2; replace h := h.2; exact h))⟩⟩
      rintro ⟨lx91, lx92, lx93, lx94⟩ H locs ls w98 ⟨i95, i96, V, hl, hI, hF, hO99, hO100, hO101, hO102, hO103, hO104, hO105, ⟨fu108, hf109, hR106, hS107⟩⟩ ih97
      obtain ⟨fm110, rfl⟩ : ∃ m, fu108 = m + 1 := ⟨fu108 - 1, by omega⟩
      replace i95 : q_F (0 ≤ lx91.toInt + 1) := i95
      replace i96 : q_F (lx91.toInt ≤ a87.toInt) := i96
      replace hl : lv_has ls 5 [(4, .int lx91), (0, .ref (q 119)), (2, .int x3), (3, .int x4)] := hl
      replace hO99 : w98[119]? = (some (q 119, .inr (13, [.int lx39, .int 2, .ref (q 120), .int t0_2, .ref (q 121), .ref (q 122), .ref (q 123), .int t0_3, .ref (q 124), .ref (q 125), .ref (q 126), .ref (q 127), .ref (q 128), .ref (q 129), .ref (q 130), .ref (q 131), .int t0_4, .int t0_5, .ref (q 132), .ref (q 133), .int t0_6])) : Option (Nat × va_E)) := hO99
      replace hO100 : w98[121]? = (some (q 121, .inl (g 0, (1408 : Int32).toNatClampNeg, .inl t1_0)) : Option (Nat × va_E)) := hO100
      replace hO101 : w98[122]? = (some (q 122, .inl (g 3, 11, .inl t2_0)) : Option (Nat × va_E)) := hO101
      replace hO102 : w98[123]? = (some (q 123, .inl (g 0, (264 : Int32).toNatClampNeg, .inl lx92)) : Option (Nat × va_E)) := hO102
      replace hO103 : w98[124]? = (some (q 124, .inl (g 0, (264 : Int32).toNatClampNeg, .inl lx93)) : Option (Nat × va_E)) := hO103
      replace hO104 : w98[125]? = (some (q 125, .inl (g 0, (528 : Int32).toNatClampNeg, .inl lx94)) : Option (Nat × va_E)) := hO104
      replace hO105 : w98[128]? = (some (q 128, .inl (g 0, (264 : Int32).toNatClampNeg, .inl f64)) : Option (Nat × va_E)) := hO105
      refine lv_iload hx hb d_19_31_90 (lv_at hl 0 rfl) ?_
      refine lv_if_lt (tgt := 167) hx hb d_19_31_92 (by decide) (fun c111 => ?_) (fun c111 => ?_)
      ·
        have b112 : q_F (lx91.toInt < 0) := (q_ltI c111)
        refine lv_aload_n hx hb d_19_31_167 rfl (lv_at hl 1 rfl) ?_
        refine lv_iconst (v := 0) hx hb d_19_31_168 (by decide) ?_
        refine q_put (ci := 13) (j := 7) (v := .int 0) (ty := .boolean) C0 V i_WR o_WR n_WR rfl rfl hO99 (by decide) w_1931 rfl rfl rfl rfl (Nat.le_of_ble_eq_true rfl) d_19_31_169 (fun H locs w113 hu114 hO99 V => ?_)
        replace hO99 : w113[119]? = (some (q 119, .inr (13, [.int lx39, .int 2, .ref (q 120), .int t0_2, .ref (q 121), .ref (q 122), .ref (q 123), .int 0, .ref (q 124), .ref (q 125), .ref (q 126), .ref (q 127), .ref (q 128), .ref (q 129), .ref (q 130), .ref (q 131), .int t0_4, .int t0_5, .ref (q 132), .ref (q 133), .int t0_6])) : Option (Nat × va_E)) := hO99
        replace hI := n_p119 hI hu114 hO99 ⟨(by have t1 : 0 ≤ t0_2.toInt ∧ t0_2.toInt ≤ 4100 := btt0_2; omega), (by have t1 : 0 ≤ t0_2.toInt ∧ t0_2.toInt ≤ 4100 := btt0_2; omega)⟩ ⟨(by have z9 : (0 : Int32).toInt = 0 := rfl; omega), (by have z9 : (0 : Int32).toInt = 0 := rfl; omega)⟩ ⟨(by have t1 : 0 ≤ t0_4.toInt ∧ t0_4.toInt ≤ 1 := btt0_4; omega), (by have t1 : 0 ≤ t0_4.toInt ∧ t0_4.toInt ≤ 1 := btt0_4; omega)⟩ ⟨(by have t1 : 0 ≤ t0_5.toInt ∧ t0_5.toInt ≤ 1 := btt0_5; omega), (by have t1 : 0 ≤ t0_5.toInt ∧ t0_5.toInt ≤ 1 := btt0_5; omega)⟩ ⟨(by have t1 : 0 ≤ t0_6.toInt ∧ t0_6.toInt ≤ 2100 := btt0_6; omega), (by have t1 : 0 ≤ t0_6.toInt ∧ t0_6.toInt ≤ 2100 := btt0_6; omega)⟩
        replace hO100 := (hu114 _ (by decide)).trans hO100
        replace hO101 := (hu114 _ (by decide)).trans hO101
        replace hO102 := (hu114 _ (by decide)).trans hO102
        replace hO103 := (hu114 _ (by decide)).trans hO103
        replace hO104 := (hu114 _ (by decide)).trans hO104
        replace hO105 := (hu114 _ (by decide)).trans hO105
        replace hF := q_us hF hu114 (by simp)
        refine lv_aload_n hx hb d_19_31_172 rfl (lv_at hl 1 rfl) ?_
        refine lv_iload_n hx hb d_19_31_173 rfl (lv_at hl 3 rfl) ?_
        have ob115 : q_F (S_WR_store x4 lx39 (2 : Int32) t0_2 (0 : Int32) t0_4 t0_5 t0_6 t1_0 t2_0 lx92) := (by have h := hS107; rw [S_WR_root_L90.eq_2] at h; rw [if_pos c111] at h; exact h.1)
        refine q_gov V (q_runV (As := [.int x4]) (rest := []) (d := 2) (mc := 0) (ms := 0) (ci := 13) C0 V rfl LV_WR_103 (X_WR_store l D g q w113  x4 hI lx39 2 t0_2 0 t0_4 t0_5 t0_6 hO99 t1_0 hO100 t2_0 hO101 lx92 hO102 ob115 _) rfl rfl hO99 rfl hl.1 rfl (Nat.le_of_ble_eq_true rfl) ⟨by decide, by decide⟩ ⟨Nat.le_of_ble_eq_true rfl, Nat.le_of_ble_eq_true rfl⟩ d_19_31_174) (fun u116 H locs hp117 V => ?_)
        obtain ⟨hI, hu143, y119, y120, y121, y122, y123, y124, y125, f126, f128, hO118, hA127, hA129, b130, b131, b132, b133, b134, b135, b136, b137, b138, b139, b140, b141, hE142⟩ := hp117
        replace hO118 : u116[119]? = (some (q 119, .inr (13, [.int y119, .int y120, .ref (q 120), .int y121, .ref (q 121), .ref (q 122), .ref (q 123), .int y122, .ref (q 124), .ref (q 125), .ref (q 126), .ref (q 127), .ref (q 128), .ref (q 129), .ref (q 130), .ref (q 131), .int y123, .int y124, .ref (q 132), .ref (q 133), .int y125])) : Option (Nat × va_E)) := hO118
        replace hA127 : u116[121]? = (some (q 121, .inl (g 0, (1408 : Int32).toNatClampNeg, .inl f126)) : Option (Nat × va_E)) := hA127
        replace hA129 : u116[122]? = (some (q 122, .inl (g 3, 11, .inl f128)) : Option (Nat × va_E)) := hA129
        obtain ⟨p144, e145⟩ : ∃ z, z = (F_WR_store x4 lx39 (2 : Int32) t0_2 (0 : Int32) t0_4 t0_5 t0_6 t1_0 t2_0 lx92) := ⟨_, rfl⟩
        have e146 : y119 = p144.1 := congrArg (fun z => z.1) (hE142.trans e145.symm)
        have e147 : y120 = p144.2.1 := congrArg (fun z => z.2.1) (hE142.trans e145.symm)
        have e148 : y121 = p144.2.2.1 := congrArg (fun z => z.2.2.1) (hE142.trans e145.symm)
        have e149 : y122 = p144.2.2.2.1 := congrArg (fun z => z.2.2.2.1) (hE142.trans e145.symm)
        have e150 : y123 = p144.2.2.2.2.1 := congrArg (fun z => z.2.2.2.2.1) (hE142.trans e145.symm)
        have e151 : y124 = p144.2.2.2.2.2.1 := congrArg (fun z => z.2.2.2.2.2.1) (hE142.trans e145.symm)
        have e152 : y125 = p144.2.2.2.2.2.2.1 := congrArg (fun z => z.2.2.2.2.2.2.1) (hE142.trans e145.symm)
        have e153 : f126 = p144.2.2.2.2.2.2.2.1 := congrArg (fun z => z.2.2.2.2.2.2.2.1) (hE142.trans e145.symm)
        have e154 : f128 = p144.2.2.2.2.2.2.2.2 := congrArg (fun z => z.2.2.2.2.2.2.2.2) (hE142.trans e145.symm)
        replace b130 : q_F (2 ≤ y120.toInt) := b130
        replace b131 : q_F (y120.toInt ≤ 2) := b131
        replace b132 : q_F (t0_2.toInt ≤ y121.toInt) := b132
        replace b133 : q_F (y121.toInt ≤ t0_2.toInt) := b133
        replace b134 : q_F (0 ≤ y122.toInt) := b134
        replace b135 : q_F (y122.toInt ≤ 0) := b135
        replace b136 : q_F (t0_4.toInt ≤ y123.toInt) := b136
        replace b137 : q_F (y123.toInt ≤ t0_4.toInt) := b137
        replace b138 : q_F (t0_5.toInt ≤ y124.toInt) := b138
        replace b139 : q_F (y124.toInt ≤ t0_5.toInt) := b139
        replace b140 : q_F (t0_6.toInt ≤ y125.toInt) := b140
        replace b141 : q_F (y125.toInt ≤ t0_6.toInt) := b141
        replace hO102 := (hu143 _ (by decide)).trans hO102
        replace hO103 := (hu143 _ (by decide)).trans hO103
        replace hO104 := (hu143 _ (by decide)).trans hO104
        replace hO105 := (hu143 _ (by decide)).trans hO105
        replace hF := q_uc hF hu143 (by simp)
        have hR155 := (show F_WR_root_c174 (F_WR_root_L90 x2 x3 x4 t0_0 t0_1 t0_2 t0_3 t0_4 t0_5 t0_6 t1_0 t2_0 t3_0 t4_0 t5_0 t6_0 lx39 f64 fm110) x2 x3 x4 t0_0 t0_1 t0_2 t0_3 t0_4 t0_5 t0_6 t1_0 t2_0 t3_0 t4_0 t5_0 t6_0 lx39 f64 lx91 lx92 lx93 lx94 p144 = (F_WR_root x2 x3 x4 t0_0 t0_1 t0_2 t0_3 t0_4 t0_5 t0_6 t1_0 t2_0 t3_0 t4_0 t5_0 t6_0) from Eq.trans (by subst e145; rw [F_WR_root_L90.eq_2, if_pos c111]) hR106)
        have hS156 := (show S_WR_root_c174 (S_WR_root_L90 x2 x3 x4 t0_0 t0_1 t0_2 t0_3 t0_4 t0_5 t0_6 t1_0 t2_0 t3_0 t4_0 t5_0 t6_0 lx39 f64 fm110) x2 x3 x4 t0_0 t0_1 t0_2 t0_3 t0_4 t0_5 t0_6 t1_0 t2_0 t3_0 t4_0 t5_0 t6_0 lx39 f64 lx91 lx92 lx93 lx94 p144 from (by subst e145; have h := hS107; rw [S_WR_root_L90.eq_2] at h; rw [if_pos c111] at h; replace h := h.2; exact h))
        exact q_retv C0 V (⟨hI, hF, y119, y120, y121, y122, y123, y124, y125, f126, f128, lx92, lx93, lx94, f64, hO118, hA127, hA129, hO102, hO103, hO104, hO105, (show 0 ≤ y122.toInt from (by have t1 : 0 ≤ y122.toInt := b134; omega)), (show t0_2.toInt ≤ y121.toInt from (by have t1 : t0_2.toInt ≤ y121.toInt := b132; omega)), (show y121.toInt ≤ t0_2.toInt from (by have t1 : y121.toInt ≤ t0_2.toInt := b133; omega)), (show y122.toInt ≤ t0_3.toInt from (by have t1 : 0 ≤ t0_3.toInt ∧ t0_3.toInt ≤ 1 := btt0_3; have t2 : y122.toInt ≤ 0 := b135; omega)), (show t0_4.toInt ≤ y123.toInt from (by have t1 : t0_4.toInt ≤ y123.toInt := b136; omega)), (show y123.toInt ≤ t0_4.toInt from (by have t1 : y123.toInt ≤ t0_4.toInt := b137; omega)), (show t0_5.toInt ≤ y124.toInt from (by have t1 : t0_5.toInt ≤ y124.toInt := b138; omega)), (show y124.toInt ≤ t0_5.toInt from (by have t1 : y124.toInt ≤ t0_5.toInt := b139; omega)), (show t0_6.toInt ≤ y125.toInt from (by have t1 : t0_6.toInt ≤ y125.toInt := b140; omega)), (show y125.toInt ≤ t0_6.toInt from (by have t1 : y125.toInt ≤ t0_6.toInt := b141; omega)), (show (y119, y120, y121, y122, y123, y124, y125, f126, f128, lx92, lx93, lx94, f64) = (F_WR_root x2 x3 x4 t0_0 t0_1 t0_2 t0_3 t0_4 t0_5 t0_6 t1_0 t2_0 t3_0 t4_0 t5_0 t6_0) from Eq.trans (by subst e146; subst e147; subst e148; subst e149; subst e150; subst e151; subst e152; subst e153; subst e154; rw [F_WR_root_c174.eq_1]) hR155)⟩) d_19_31_177
      ·
        have b160 : q_F (0 ≤ lx91.toInt) := (q_nltI c111)
        refine lv_aload_n hx hb d_19_31_95 rfl (lv_at hl 1 rfl) ?_
        refine q_get (ci := 13) (j := 6) (v := .ref (q 123)) C0 V i_WR rfl rfl hO99 (by decide) w_1930 rfl d_19_31_96 ?_
        refine lv_iload hx hb d_19_31_99 (lv_at hl 0 rfl) ?_
        refine lv_bipush (v := 16) hx hb d_19_31_101 (by decide) ?_
        refine lv_idiv hx hb d_19_31_103 (by decide) ?_
        obtain ⟨a161, e162⟩ := q_nm (lx91 / 16 : Int32)
        refine q_ti (v := a161) e162 ?_
        have b163 : q_F (16 * a161.toInt ≤ lx91.toInt ∧ lx91.toInt ≤ 16 * a161.toInt + 15) := (by rw [← e162]; show 16 * (lx91 / 16 : Int32).toInt ≤ lx91.toInt ∧ lx91.toInt ≤ 16 * (lx91 / 16 : Int32).toInt + 15; exact (by have z := q_divI (y := 16) (rfl : lx91.toInt = _) (by decide : (16 : Int32).toInt = 16) (by have t1 : 0 ≤ lx91.toInt := b160; omega) (by decide); omega))
        refine lv_aload_n hx hb d_19_31_104 rfl (lv_at hl 1 rfl) ?_
        refine q_get (ci := 13) (j := 6) (v := .ref (q 123)) C0 V i_WR rfl rfl hO99 (by decide) w_1930 rfl d_19_31_105 ?_
        refine lv_iload hx hb d_19_31_108 (lv_at hl 0 rfl) ?_
        refine lv_bipush (v := 16) hx hb d_19_31_110 (by decide) ?_
        refine lv_idiv hx hb d_19_31_112 (by decide) ?_
        obtain ⟨a164, e165⟩ := q_nm (lx91 / 16 : Int32)
        refine q_ti (v := a164) e165 ?_
        have b166 : q_F (16 * a164.toInt ≤ lx91.toInt ∧ lx91.toInt ≤ 16 * a164.toInt + 15) := (by rw [← e165]; show 16 * (lx91 / 16 : Int32).toInt ≤ lx91.toInt ∧ lx91.toInt ≤ 16 * (lx91 / 16 : Int32).toInt + 15; exact (by have z := q_divI (y := 16) (rfl : lx91.toInt = _) (by decide : (16 : Int32).toInt = 16) (by have t1 : 0 ≤ lx91.toInt := b160; omega) (by decide); omega))
        have ob167 : q_F (a164.toInt ≤ 263) := (by subst e165; have h := hS107; rw [S_WR_root_L90.eq_2] at h; rw [if_neg c111] at h; exact h.1)
        refine q_iald C0 V hO102 (q_ix (x := a164.toInt) rfl (by have t1 : 0 ≤ lx91.toInt := b160; have t2 : 16 * a164.toInt ≤ lx91.toInt ∧ lx91.toInt ≤ 16 * a164.toInt + 15 := b166; omega) (by have t1 : 0 ≤ lx91.toInt := b160; have t2 : 16 * a164.toInt ≤ lx91.toInt ∧ lx91.toInt ≤ 16 * a164.toInt + 15 := b166; have t3 : a164.toInt ≤ 263 := ob167; have e9 : (((264 : Int32).toNatClampNeg : Nat) : Int) = 264 := (by decide); omega)) d_19_31_113 ?_
        obtain ⟨a168, e169⟩ := q_nm (lx92 a164.toNatClampNeg : Int32)
        refine q_ti (v := a168) e169 ?_
        refine lv_iconst (v := 1) hx hb d_19_31_114 (by decide) ?_
        refine lv_iload hx hb d_19_31_115 (lv_at hl 0 rfl) ?_
        refine lv_bipush (v := 16) hx hb d_19_31_117 (by decide) ?_
        refine lv_irem hx hb d_19_31_119 (by decide) ?_
        obtain ⟨a170, e171⟩ := q_nm (lx91 - lx91 / 16 * 16 : Int32)
        refine q_ti (v := a170) e171 ?_
        have b172 : q_F (0 ≤ a170.toInt ∧ a170.toInt ≤ 15 ∧ a170.toInt ≤ lx91.toInt) := (by rw [← e171]; show 0 ≤ (lx91 - lx91 / 16 * 16 : Int32).toInt ∧ (lx91 - lx91 / 16 * 16 : Int32).toInt ≤ 15 ∧ (lx91 - lx91 / 16 * 16 : Int32).toInt ≤ lx91.toInt; exact (by have z := s_rem' (x := lx91) (b := 16) (by have t1 : 0 ≤ lx91.toInt := b160; omega) (by decide); have z8 : (16 : Int32).toInt = 16 := rfl; omega))
        refine lv_ishl hx hb d_19_31_120 ?_
        obtain ⟨a173, e174⟩ := q_nm ((1 : Int32) <<< (a170 &&& 31) : Int32)
        refine q_ti (v := a173) e174 ?_
        refine lv_ior hx hb d_19_31_121 ?_
        obtain ⟨a175, e176⟩ := q_nm (a168 ||| a173 : Int32)
        refine q_ti (v := a175) e176 ?_
        refine q_iast C0 V hO102 (q_ix (x := a161.toInt) rfl (by have t1 : 0 ≤ lx91.toInt := b160; have t2 : 16 * a161.toInt ≤ lx91.toInt ∧ lx91.toInt ≤ 16 * a161.toInt + 15 := b163; omega) (by have t1 : 0 ≤ lx91.toInt := b160; have t2 : 16 * a161.toInt ≤ lx91.toInt ∧ lx91.toInt ≤ 16 * a161.toInt + 15 := b163; have t3 : 16 * a164.toInt ≤ lx91.toInt ∧ lx91.toInt ≤ 16 * a164.toInt + 15 := b166; have t4 : a164.toInt ≤ 263 := ob167; have e9 : (((264 : Int32).toNatClampNeg : Nat) : Int) = 264 := (by decide); omega)) d_19_31_122 (fun H locs w177 hu178 hO102 V => ?_)
        replace hI := n_ai' hI (n_r123 g q).1 hu178 hO102 (q_updB (fun _ => s_bnd) s_bnd)
        replace hO99 := (hu178 _ (by decide)).trans hO99
        replace hO100 := (hu178 _ (by decide)).trans hO100
        replace hO101 := (hu178 _ (by decide)).trans hO101
        replace hO103 := (hu178 _ (by decide)).trans hO103
        replace hO104 := (hu178 _ (by decide)).trans hO104
        replace hO105 := (hu178 _ (by decide)).trans hO105
        replace hF := q_us hF hu178 (by simp)
        obtain ⟨f179, e180⟩ := q_nm (upd lx92 a161.toNatClampNeg a175 : (Nat → Int32))
        rw [e180] at hO102
        refine lv_aload_n hx hb d_19_31_123 rfl (lv_at hl 1 rfl) ?_
        refine lv_iload_n hx hb d_19_31_124 rfl (lv_at hl 2 rfl) ?_
        have ob181 : q_F (S_WR_fits x3 lx39 (2 : Int32) t0_2 t0_3 t0_4 t0_5 t0_6 f179 lx93 lx94 f64) := (by subst e162; subst e165; subst e169; subst e171; subst e174; subst e176; subst e180; have h := hS107; rw [S_WR_root_L90.eq_2] at h; rw [if_neg c111] at h; replace h := h.2; exact h.1)
        refine q_goi V (q_runV (As := [.int x3]) (rest := []) (d := 3) (mc := 0) (ms := 0) (ci := 13) C0 V rfl LV_WR_134 (X_WR_fits l D g q w177  x3 hI lx39 2 t0_2 t0_3 t0_4 t0_5 t0_6 hO99 f179 hO102 lx93 hO103 lx94 hO104 f64 hO105 ob181 _) rfl rfl hO99 rfl hl.1 rfl (Nat.le_of_ble_eq_true rfl) ⟨by decide, by decide⟩ ⟨Nat.le_of_ble_eq_true rfl, Nat.le_of_ble_eq_true rfl⟩ d_19_31_125) (fun a184 u182 H locs hp183 V => ?_)
        obtain ⟨hI, hu192, f185, f187, hA186, hA188, b189, b190, hE191⟩ := hp183
        replace hA186 : u182[124]? = (some (q 124, .inl (g 0, (264 : Int32).toNatClampNeg, .inl f185)) : Option (Nat × va_E)) := hA186
        replace hA188 : u182[125]? = (some (q 125, .inl (g 0, (528 : Int32).toNatClampNeg, .inl f187)) : Option (Nat × va_E)) := hA188
        obtain ⟨p193, e194⟩ : ∃ z, z = (F_WR_fits x3 lx39 (2 : Int32) t0_2 t0_3 t0_4 t0_5 t0_6 f179 lx93 lx94 f64) := ⟨_, rfl⟩
        have e195 : a184 = p193.1 := congrArg (fun z => z.1) (hE191.trans e194.symm)
        have e196 : f185 = p193.2.1 := congrArg (fun z => z.2.1) (hE191.trans e194.symm)
        have e197 : f187 = p193.2.2 := congrArg (fun z => z.2.2) (hE191.trans e194.symm)
        replace b189 : q_F (0 ≤ a184.toInt) := b189
        replace b190 : q_F (a184.toInt ≤ 1) := b190
        replace hO99 := (hu192 _ (by decide)).trans hO99
        replace hO100 := (hu192 _ (by decide)).trans hO100
        replace hO101 := (hu192 _ (by decide)).trans hO101
        replace hO102 := (hu192 _ (by decide)).trans hO102
        replace hO105 := (hu192 _ (by decide)).trans hO105
        replace hF := q_uc hF hu192 (by simp)
        have hR198 := (show F_WR_root_c125 (F_WR_root_L90 x2 x3 x4 t0_0 t0_1 t0_2 t0_3 t0_4 t0_5 t0_6 t1_0 t2_0 t3_0 t4_0 t5_0 t6_0 lx39 f64 fm110) x2 x3 x4 t0_0 t0_1 t0_2 t0_3 t0_4 t0_5 t0_6 t1_0 t2_0 t3_0 t4_0 t5_0 t6_0 lx39 f64 lx91 lx92 lx93 lx94 f179 p193 = (F_WR_root x2 x3 x4 t0_0 t0_1 t0_2 t0_3 t0_4 t0_5 t0_6 t1_0 t2_0 t3_0 t4_0 t5_0 t6_0) from Eq.trans (by subst e162; subst e165; subst e169; subst e171; subst e174; subst e176; subst e180; subst e194; rw [F_WR_root_L90.eq_2, if_neg c111]) hR106)
        have hS199 := (show S_WR_root_c125 (S_WR_root_L90 x2 x3 x4 t0_0 t0_1 t0_2 t0_3 t0_4 t0_5 t0_6 t1_0 t2_0 t3_0 t4_0 t5_0 t6_0 lx39 f64 fm110) x2 x3 x4 t0_0 t0_1 t0_2 t0_3 t0_4 t0_5 t0_6 t1_0 t2_0 t3_0 t4_0 t5_0 t6_0 lx39 f64 lx91 lx92 lx93 lx94 f179 p193 from (by subst e162; subst e165; subst e169; subst e171; subst e174; subst e176; subst e180; subst e194; have h := hS107; rw [S_WR_root_L90.eq_2] at h; rw [if_neg c111] at h; replace h := h.2; replace h := h.2; exact h))
        refine lv_if_ne (tgt := 161) hx hb d_19_31_128 (by decide) (fun c203 => ?_) (fun c203 => ?_)
        ·
          have b204 : q_F (a184.toInt ≠ 0) := (q_neI c203)
          obtain ⟨a205, e206⟩ := q_nm (lx91 + (-1) : Int32)
          have b207 : q_F (a205.toInt = lx91.toInt + (-1)) := (by rw [← e206]; exact q_addI (y := (-1)) rfl (by decide) (by have t1 : 0 ≤ lx91.toInt + 1 := i95; have t2 : lx91.toInt ≤ a87.toInt := i96; have _ := q_lo32 (x := a87); have _ := q_hi32 (x := a87); omega) (by have t1 : 0 ≤ lx91.toInt + 1 := i95; have t2 : lx91.toInt ≤ a87.toInt := i96; have _ := q_lo32 (x := a87); have _ := q_hi32 (x := a87); omega))
          refine lv_iinc (v := a205) (lv' := [(4, .int a205), (0, .ref (q 119)), (2, .int x3), (3, .int x4)]) hx hb d_19_31_161 hl (k := 0) rfl (e206) (by decide) rfl (fun ls hl => ?_)
          refine lv_goto (tgt := 90) hx hb d_19_31_164 (by decide) ?_
          exact ih97 ((a205 : Int32), (f179 : (Nat → Int32)), (f185 : (Nat → Int32)), (f187 : (Nat → Int32))) _ _ _ _ (show (a205.toInt - ((-1))).toNat < (lx91.toInt - ((-1))).toNat from by have t1 : a205.toInt = lx91.toInt + (-1) := b207; have t2 : 0 ≤ lx91.toInt + 1 := i95; have t3 : 0 ≤ lx91.toInt := b160; omega) ⟨(show q_F (0 ≤ a205.toInt + 1) from (show 0 ≤ a205.toInt + 1 from by have t1 : 0 ≤ lx91.toInt := b160; have t2 : a205.toInt = lx91.toInt + (-1) := b207; omega)), (show q_F (a205.toInt ≤ a87.toInt) from (show a205.toInt ≤ a87.toInt from by have t1 : lx91.toInt ≤ a87.toInt := i96; have t2 : a205.toInt = lx91.toInt + (-1) := b207; omega)), V, q_lw hl (q_lw1 0 rfl (q_lw1 1 rfl (q_lw1 2 rfl (q_lw1 3 rfl q_lw0)))), hI, hF, hO99, hO100, hO101, hO102, hA186, hA188, hO105, ⟨fm110, Nat.lt_of_lt_of_le (show (a205.toInt - ((-1))).toNat < (lx91.toInt - ((-1))).toNat from by have t1 : a205.toInt = lx91.toInt + (-1) := b207; have t2 : 0 ≤ lx91.toInt + 1 := i95; have t3 : 0 ≤ lx91.toInt := b160; omega) (Nat.le_of_lt_succ hf109), (show F_WR_root_L90 x2 x3 x4 t0_0 t0_1 t0_2 t0_3 t0_4 t0_5 t0_6 t1_0 t2_0 t3_0 t4_0 t5_0 t6_0 lx39 f64 fm110 a205 f179 f185 f187 = (F_WR_root x2 x3 x4 t0_0 t0_1 t0_2 t0_3 t0_4 t0_5 t0_6 t1_0 t2_0 t3_0 t4_0 t5_0 t6_0) from Eq.trans (by subst e195; subst e196; subst e197; subst e206; rw [F_WR_root_c125.eq_1, if_neg c203]) hR198), (show S_WR_root_L90 x2 x3 x4 t0_0 t0_1 t0_2 t0_3 t0_4 t0_5 t0_6 t1_0 t2_0 t3_0 t4_0 t5_0 t6_0 lx39 f64 fm110 a205 f179 f185 f187 from (by subst e195; subst e196; subst e197; subst e206; have h := hS199; rw [S_WR_root_c125.eq_1] at h; rw [if_neg c203] at h; exact h))⟩⟩
        ·
          have b208 : q_F (a184.toInt = 0) := (q_eqI c203)
          refine lv_aload_n hx hb d_19_31_131 rfl (lv_at hl 1 rfl) ?_
          refine q_get (ci := 13) (j := 6) (v := .ref (q 123)) C0 V i_WR rfl rfl hO99 (by decide) w_1930 rfl d_19_31_132 ?_
          refine lv_iload hx hb d_19_31_135 (lv_at hl 0 rfl) ?_
          refine lv_bipush (v := 16) hx hb d_19_31_137 (by decide) ?_
          refine lv_idiv hx hb d_19_31_139 (by decide) ?_
          obtain ⟨a209, e210⟩ := q_nm (lx91 / 16 : Int32)
          refine q_ti (v := a209) e210 ?_
          have b211 : q_F (16 * a209.toInt ≤ lx91.toInt ∧ lx91.toInt ≤ 16 * a209.toInt + 15) := (by rw [← e210]; show 16 * (lx91 / 16 : Int32).toInt ≤ lx91.toInt ∧ lx91.toInt ≤ 16 * (lx91 / 16 : Int32).toInt + 15; exact (by have z := q_divI (y := 16) (rfl : lx91.toInt = _) (by decide : (16 : Int32).toInt = 16) (by have t1 : 0 ≤ lx91.toInt := b160; omega) (by decide); omega))
          refine lv_aload_n hx hb d_19_31_140 rfl (lv_at hl 1 rfl) ?_
          refine q_get (ci := 13) (j := 6) (v := .ref (q 123)) C0 V i_WR rfl rfl hO99 (by decide) w_1930 rfl d_19_31_141 ?_
          refine lv_iload hx hb d_19_31_144 (lv_at hl 0 rfl) ?_
          refine lv_bipush (v := 16) hx hb d_19_31_146 (by decide) ?_
          refine lv_idiv hx hb d_19_31_148 (by decide) ?_
          obtain ⟨a212, e213⟩ := q_nm (lx91 / 16 : Int32)
          refine q_ti (v := a212) e213 ?_
          have b214 : q_F (16 * a212.toInt ≤ lx91.toInt ∧ lx91.toInt ≤ 16 * a212.toInt + 15) := (by rw [← e213]; show 16 * (lx91 / 16 : Int32).toInt ≤ lx91.toInt ∧ lx91.toInt ≤ 16 * (lx91 / 16 : Int32).toInt + 15; exact (by have z := q_divI (y := 16) (rfl : lx91.toInt = _) (by decide : (16 : Int32).toInt = 16) (by have t1 : 0 ≤ lx91.toInt := b160; omega) (by decide); omega))
          refine q_iald C0 V hO102 (q_ix (x := a212.toInt) rfl (by have t1 : 0 ≤ lx91.toInt := b160; have t2 : 16 * a212.toInt ≤ lx91.toInt ∧ lx91.toInt ≤ 16 * a212.toInt + 15 := b214; omega) (by have t1 : 0 ≤ lx91.toInt := b160; have t2 : 16 * a212.toInt ≤ lx91.toInt ∧ lx91.toInt ≤ 16 * a212.toInt + 15 := b214; have t3 : 16 * a164.toInt ≤ lx91.toInt ∧ lx91.toInt ≤ 16 * a164.toInt + 15 := b166; have t4 : a164.toInt ≤ 263 := ob167; have e9 : (((264 : Int32).toNatClampNeg : Nat) : Int) = 264 := (by decide); omega)) d_19_31_149 ?_
          obtain ⟨a215, e216⟩ := q_nm (f179 a212.toNatClampNeg : Int32)
          refine q_ti (v := a215) e216 ?_
          refine lv_iconst (v := 1) hx hb d_19_31_150 (by decide) ?_
          refine lv_iload hx hb d_19_31_151 (lv_at hl 0 rfl) ?_
          refine lv_bipush (v := 16) hx hb d_19_31_153 (by decide) ?_
          refine lv_irem hx hb d_19_31_155 (by decide) ?_
          obtain ⟨a217, e218⟩ := q_nm (lx91 - lx91 / 16 * 16 : Int32)
          refine q_ti (v := a217) e218 ?_
          have b219 : q_F (0 ≤ a217.toInt ∧ a217.toInt ≤ 15 ∧ a217.toInt ≤ lx91.toInt) := (by rw [← e218]; show 0 ≤ (lx91 - lx91 / 16 * 16 : Int32).toInt ∧ (lx91 - lx91 / 16 * 16 : Int32).toInt ≤ 15 ∧ (lx91 - lx91 / 16 * 16 : Int32).toInt ≤ lx91.toInt; exact (by have z := s_rem' (x := lx91) (b := 16) (by have t1 : 0 ≤ lx91.toInt := b160; omega) (by decide); have z8 : (16 : Int32).toInt = 16 := rfl; omega))
          refine lv_ishl hx hb d_19_31_156 ?_
          obtain ⟨a220, e221⟩ := q_nm ((1 : Int32) <<< (a217 &&& 31) : Int32)
          refine q_ti (v := a220) e221 ?_
          refine lv_iconst (v := (-1)) hx hb d_19_31_157 (by decide) ?_
          refine lv_ixor hx hb d_19_31_158 ?_
          obtain ⟨a222, e223⟩ := q_nm (a220 ^^^ (-1) : Int32)
          refine q_ti (v := a222) e223 ?_
          refine lv_iand hx hb d_19_31_159 ?_
          obtain ⟨a224, e225⟩ := q_nm (a215 &&& a222 : Int32)
          refine q_ti (v := a224) e225 ?_
          refine q_iast C0 V hO102 (q_ix (x := a209.toInt) rfl (by have t1 : 0 ≤ lx91.toInt := b160; have t2 : 16 * a209.toInt ≤ lx91.toInt ∧ lx91.toInt ≤ 16 * a209.toInt + 15 := b211; omega) (by have t1 : 0 ≤ lx91.toInt := b160; have t2 : 16 * a209.toInt ≤ lx91.toInt ∧ lx91.toInt ≤ 16 * a209.toInt + 15 := b211; have t3 : 16 * a164.toInt ≤ lx91.toInt ∧ lx91.toInt ≤ 16 * a164.toInt + 15 := b166; have t4 : a164.toInt ≤ 263 := ob167; have e9 : (((264 : Int32).toNatClampNeg : Nat) : Int) = 264 := (by decide); omega)) d_19_31_160 (fun H locs w226 hu227 hO102 V => ?_)
          replace hI := n_ai' hI (n_r123 g q).1 hu227 hO102 (q_updB (fun _ => s_bnd) s_bnd)
          replace hO99 := (hu227 _ (by decide)).trans hO99
          replace hO100 := (hu227 _ (by decide)).trans hO100
          replace hO101 := (hu227 _ (by decide)).trans hO101
          replace hA186 := (hu227 _ (by decide)).trans hA186
          replace hA188 := (hu227 _ (by decide)).trans hA188
          replace hO105 := (hu227 _ (by decide)).trans hO105
          replace hF := q_us hF hu227 (by simp)
          obtain ⟨f228, e229⟩ := q_nm (upd f179 a209.toNatClampNeg a224 : (Nat → Int32))
          rw [e229] at hO102
          obtain ⟨a230, e231⟩ := q_nm (lx91 + (-1) : Int32)
          have b232 : q_F (a230.toInt = lx91.toInt + (-1)) := (by rw [← e231]; exact q_addI (y := (-1)) rfl (by decide) (by have t1 : 0 ≤ lx91.toInt + 1 := i95; have t2 : lx91.toInt ≤ a87.toInt := i96; have _ := q_lo32 (x := a87); have _ := q_hi32 (x := a87); omega) (by have t1 : 0 ≤ lx91.toInt + 1 := i95; have t2 : lx91.toInt ≤ a87.toInt := i96; have _ := q_lo32 (x := a87); have _ := q_hi32 (x := a87); omega))
          refine lv_iinc (v := a230) (lv' := [(4, .int a230), (0, .ref (q 119)), (2, .int x3), (3, .int x4)]) hx hb d_19_31_161 hl (k := 0) rfl (e231) (by decide) rfl (fun ls hl => ?_)
          refine lv_goto (tgt := 90) hx hb d_19_31_164 (by decide) ?_
          exact ih97 ((a230 : Int32), (f228 : (Nat → Int32)), (f185 : (Nat → Int32)), (f187 : (Nat → Int32))) _ _ _ _ (show (a230.toInt - ((-1))).toNat < (lx91.toInt - ((-1))).toNat from by have t1 : a230.toInt = lx91.toInt + (-1) := b232; have t2 : 0 ≤ lx91.toInt + 1 := i95; have t3 : 0 ≤ lx91.toInt := b160; omega) ⟨(show q_F (0 ≤ a230.toInt + 1) from (show 0 ≤ a230.toInt + 1 from by have t1 : 0 ≤ lx91.toInt := b160; have t2 : a230.toInt = lx91.toInt + (-1) := b232; omega)), (show q_F (a230.toInt ≤ a87.toInt) from (show a230.toInt ≤ a87.toInt from by have t1 : lx91.toInt ≤ a87.toInt := i96; have t2 : a230.toInt = lx91.toInt + (-1) := b232; omega)), V, q_lw hl (q_lw1 0 rfl (q_lw1 1 rfl (q_lw1 2 rfl (q_lw1 3 rfl q_lw0)))), hI, hF, hO99, hO100, hO101, hO102, hA186, hA188, hO105, ⟨fm110, Nat.lt_of_lt_of_le (show (a230.toInt - ((-1))).toNat < (lx91.toInt - ((-1))).toNat from by have t1 : a230.toInt = lx91.toInt + (-1) := b232; have t2 : 0 ≤ lx91.toInt + 1 := i95; have t3 : 0 ≤ lx91.toInt := b160; omega) (Nat.le_of_lt_succ hf109), (show F_WR_root_L90 x2 x3 x4 t0_0 t0_1 t0_2 t0_3 t0_4 t0_5 t0_6 t1_0 t2_0 t3_0 t4_0 t5_0 t6_0 lx39 f64 fm110 a230 f228 f185 f187 = (F_WR_root x2 x3 x4 t0_0 t0_1 t0_2 t0_3 t0_4 t0_5 t0_6 t1_0 t2_0 t3_0 t4_0 t5_0 t6_0) from Eq.trans (by subst e195; subst e196; subst e197; subst e210; subst e213; subst e216; subst e218; subst e221; subst e223; subst e225; subst e229; subst e231; rw [F_WR_root_c125.eq_1, if_pos c203]) hR198), (show S_WR_root_L90 x2 x3 x4 t0_0 t0_1 t0_2 t0_3 t0_4 t0_5 t0_6 t1_0 t2_0 t3_0 t4_0 t5_0 t6_0 lx39 f64 fm110 a230 f228 f185 f187 from (by subst e195; subst e196; subst e197; subst e210; subst e213; subst e216; subst e218; subst e221; subst e223; subst e225; subst e229; subst e231; have h := hS199; rw [S_WR_root_c125.eq_1] at h; rw [if_pos c203] at h; exact h))⟩⟩
    ·
      have b233 : q_F (0 < lx39.toInt) := (q_nleI c57)
      exact q_retv C0 V (⟨hI, hF, lx39, t0_1, t0_2, t0_3, t0_4, t0_5, t0_6, t1_0, t2_0, t3_0, t4_0, t5_0, t6_0, hT0, hT1, hT2, hT3, hT4, hT5, hT6, (show 0 ≤ t0_3.toInt from (by have t1 : 0 ≤ t0_3.toInt ∧ t0_3.toInt ≤ 1 := btt0_3; omega)), (show t0_2.toInt ≤ t0_2.toInt from (by omega)), (show t0_2.toInt ≤ t0_2.toInt from (by omega)), (show t0_3.toInt ≤ t0_3.toInt from (by omega)), (show t0_4.toInt ≤ t0_4.toInt from (by omega)), (show t0_4.toInt ≤ t0_4.toInt from (by omega)), (show t0_5.toInt ≤ t0_5.toInt from (by omega)), (show t0_5.toInt ≤ t0_5.toInt from (by omega)), (show t0_6.toInt ≤ t0_6.toInt from (by omega)), (show t0_6.toInt ≤ t0_6.toInt from (by omega)), (show (lx39, t0_1, t0_2, t0_3, t0_4, t0_5, t0_6, t1_0, t2_0, t3_0, t4_0, t5_0, t6_0) = (F_WR_root x2 x3 x4 t0_0 t0_1 t0_2 t0_3 t0_4 t0_5 t0_6 t1_0 t2_0 t3_0 t4_0 t5_0 t6_0) from Eq.trans (by rw [F_WR_root_J44.eq_1, if_neg c57]) hR50)⟩) d_19_31_54
  ·
    intro J47
    refine q_join (X := Unit) (fun z H locs ls _ => q_Wd D g (va_A ws sz) s ws H locs ∧ lv_has ls 5 [(0, .ref (q 119)), (1, .int x2), (2, .int x3), (3, .int x4)] ∧ F_WR_root_J26 x2 x3 x4 t0_0 t0_1 t0_2 t0_3 t0_4 t0_5 t0_6 t1_0 t2_0 t3_0 t4_0 t5_0 t6_0 = (F_WR_root x2 x3 x4 t0_0 t0_1 t0_2 t0_3 t0_4 t0_5 t0_6 t1_0 t2_0 t3_0 t4_0 t5_0 t6_0) ∧ S_WR_root_J26 x2 x3 x4 t0_0 t0_1 t0_2 t0_3 t0_4 t0_5 t0_6 t1_0 t2_0 t3_0 t4_0 t5_0 t6_0) (fun z => [.ref (q 119)]) 26 0 0 ?_ ?_
    ·
      rintro _ H locs ls _ ⟨V, hl, hR242, hS243⟩
      replace hl : lv_has ls 5 [(0, .ref (q 119)), (1, .int x2), (2, .int x3), (3, .int x4)] := hl
      refine lv_iconst (v := 1) hx hb d_19_31_26 (by decide) ?_
      refine lv_goto (tgt := 44) hx hb d_19_31_27 (by decide) ?_
      exact J47 ((1 : Int32)) _ _ _ ws ⟨(show q_F (0 ≤ 1) from (show 0 ≤ 1 from by omega)), (show q_F (1 ≤ 2) from (show 1 ≤ 2 from by omega)), V, q_lw hl (q_lw1 0 rfl (q_lw1 1 rfl (q_lw1 2 rfl (q_lw1 3 rfl q_lw0)))), (show F_WR_root_J44 x2 x3 x4 t0_0 t0_1 t0_2 t0_3 t0_4 t0_5 t0_6 t1_0 t2_0 t3_0 t4_0 t5_0 t6_0 1 = (F_WR_root x2 x3 x4 t0_0 t0_1 t0_2 t0_3 t0_4 t0_5 t0_6 t1_0 t2_0 t3_0 t4_0 t5_0 t6_0) from Eq.trans (by rw [F_WR_root_J26.eq_1]) hR242), (show S_WR_root_J44 x2 x3 x4 t0_0 t0_1 t0_2 t0_3 t0_4 t0_5 t0_6 t1_0 t2_0 t3_0 t4_0 t5_0 t6_0 1 from (by have h := hS243; rw [S_WR_root_J26.eq_1] at h; exact h))⟩
    ·
      intro J241
      refine lv_if_ne (tgt := 26) hx hb d_19_31_5 (by decide) (fun c247 => ?_) (fun c247 => ?_)
      ·
        have b248 : q_F (a34.toInt ≠ 0) := (q_neI c247)
        exact J241 (()) _ _ _ ws ⟨V, q_lw hl (q_lw1 0 rfl (q_lw1 1 rfl (q_lw1 2 rfl (q_lw1 3 rfl q_lw0)))), (show F_WR_root_J26 x2 x3 x4 t0_0 t0_1 t0_2 t0_3 t0_4 t0_5 t0_6 t1_0 t2_0 t3_0 t4_0 t5_0 t6_0 = (F_WR_root x2 x3 x4 t0_0 t0_1 t0_2 t0_3 t0_4 t0_5 t0_6 t1_0 t2_0 t3_0 t4_0 t5_0 t6_0) from (by subst e38; rw [F_WR_root.eq_1, if_neg c247])), (show S_WR_root_J26 x2 x3 x4 t0_0 t0_1 t0_2 t0_3 t0_4 t0_5 t0_6 t1_0 t2_0 t3_0 t4_0 t5_0 t6_0 from (by subst e38; have h := hS; rw [S_WR_root.eq_1] at h; rw [if_neg c247] at h; exact h))⟩
      ·
        have b249 : q_F (a34.toInt = 0) := (q_eqI c247)
        refine lv_iload_n hx hb d_19_31_8 rfl (lv_at hl 3 rfl) ?_
        refine q_goi V (q_runS (As := [.int x4]) (rest := [.ref (q 119)]) (d := 1) (mc := 0) (ms := 0) C0 V rfl LS_WR_91 (X_WR_no l D g q ws  x4 hI   _) rfl hl.1 rfl (Nat.le_of_ble_eq_true rfl) ⟨by decide, by decide⟩ ⟨Nat.le_of_ble_eq_true rfl, Nat.le_of_ble_eq_true rfl⟩ d_19_31_9) (fun a252 u250 H locs hp251 V => ?_)
        obtain ⟨rfl, b253, b254, hE255⟩ := hp251
        have e256 : a252 = (F_WR_no x4) := hE255
        replace b253 : q_F (0 ≤ a252.toInt) := b253
        replace b254 : q_F (a252.toInt ≤ 1) := b254
        refine lv_if_ne (tgt := 26) hx hb d_19_31_12 (by decide) (fun c257 => ?_) (fun c257 => ?_)
        ·
          have b258 : q_F (a252.toInt ≠ 0) := (q_neI c257)
          exact J241 (()) _ _ _ ws ⟨V, q_lw hl (q_lw1 0 rfl (q_lw1 1 rfl (q_lw1 2 rfl (q_lw1 3 rfl q_lw0)))), (show F_WR_root_J26 x2 x3 x4 t0_0 t0_1 t0_2 t0_3 t0_4 t0_5 t0_6 t1_0 t2_0 t3_0 t4_0 t5_0 t6_0 = (F_WR_root x2 x3 x4 t0_0 t0_1 t0_2 t0_3 t0_4 t0_5 t0_6 t1_0 t2_0 t3_0 t4_0 t5_0 t6_0) from (by subst e38; subst e256; rw [F_WR_root.eq_1, if_pos c247, if_neg c257])), (show S_WR_root_J26 x2 x3 x4 t0_0 t0_1 t0_2 t0_3 t0_4 t0_5 t0_6 t1_0 t2_0 t3_0 t4_0 t5_0 t6_0 from (by subst e38; subst e256; have h := hS; rw [S_WR_root.eq_1] at h; rw [if_pos c247] at h; rw [if_neg c257] at h; exact h))⟩
        ·
          have b259 : q_F (a252.toInt = 0) := (q_eqI c257)
          refine lv_iload_n hx hb d_19_31_15 rfl (lv_at hl 2 rfl) ?_
          refine lv_iconst (v := 1) hx hb d_19_31_16 (by decide) ?_
          refine lv_icmp_lt (tgt := 26) hx hb d_19_31_17 (by decide) (fun c260 => ?_) (fun c260 => ?_)
          ·
            have b261 : q_F (x3.toInt < 1) := (q_ltI c260)
            exact J241 (()) _ _ _ ws ⟨V, q_lw hl (q_lw1 0 rfl (q_lw1 1 rfl (q_lw1 2 rfl (q_lw1 3 rfl q_lw0)))), (show F_WR_root_J26 x2 x3 x4 t0_0 t0_1 t0_2 t0_3 t0_4 t0_5 t0_6 t1_0 t2_0 t3_0 t4_0 t5_0 t6_0 = (F_WR_root x2 x3 x4 t0_0 t0_1 t0_2 t0_3 t0_4 t0_5 t0_6 t1_0 t2_0 t3_0 t4_0 t5_0 t6_0) from (by subst e38; subst e256; rw [F_WR_root.eq_1, if_pos c247, if_pos c257, if_pos c260])), (show S_WR_root_J26 x2 x3 x4 t0_0 t0_1 t0_2 t0_3 t0_4 t0_5 t0_6 t1_0 t2_0 t3_0 t4_0 t5_0 t6_0 from (by subst e38; subst e256; have h := hS; rw [S_WR_root.eq_1] at h; rw [if_pos c247] at h; rw [if_pos c257] at h; rw [if_pos c260] at h; exact h))⟩
          ·
            have b262 : q_F (1 ≤ x3.toInt) := (q_nltI c260)
            refine lv_iload_n hx hb d_19_31_20 rfl (lv_at hl 2 rfl) ?_
            refine lv_bipush (v := 64) hx hb d_19_31_21 (by decide) ?_
            refine lv_icmp_le (tgt := 30) hx hb d_19_31_23 (by decide) (fun c263 => ?_) (fun c263 => ?_)
            ·
              have b264 : q_F (x3.toInt ≤ 64) := (q_leI c263)
              refine lv_aload_n hx hb d_19_31_30 rfl (lv_at hl 0 rfl) ?_
              refine q_get (ci := 13) (j := 5) (v := .ref (q 122)) C0 V i_WR rfl rfl hT0 (by decide) w_1929 rfl d_19_31_31 ?_
              refine lv_iload_n hx hb d_19_31_34 rfl (lv_at hl 1 rfl) ?_
              have ob265 : q_F (0 ≤ x2.toInt) := (by subst e38; subst e256; have h := hS; rw [S_WR_root.eq_1] at h; rw [if_pos c247] at h; rw [if_pos c257] at h; rw [if_neg c260] at h; rw [if_pos c263] at h; exact h.1)
              have ob266 : q_F (x2.toInt ≤ 10) := (by subst e38; subst e256; have h := hS; rw [S_WR_root.eq_1] at h; rw [if_pos c247] at h; rw [if_pos c257] at h; rw [if_neg c260] at h; rw [if_pos c263] at h; replace h := h.2; exact h.1)
              refine q_zald C0 V hT2 (q_ix (x := x2.toInt) rfl (by have t1 : 0 ≤ x2.toInt := ob265; omega) (by have t1 : 0 ≤ x2.toInt := ob265; have t2 : x2.toInt ≤ 10 := ob266; omega)) d_19_31_35 ?_
              obtain ⟨a267, e268⟩ := q_nm (t2_0 x2.toNatClampNeg : Int32)
              refine q_ti (v := a267) e268 ?_
              refine lv_if_eq (tgt := 43) hx hb d_19_31_36 (by decide) (fun c269 => ?_) (fun c269 => ?_)
              ·
                have b270 : q_F (a267.toInt = 0) := (q_eqI c269)
                refine lv_iconst (v := 0) hx hb d_19_31_43 (by decide) ?_
                exact J47 ((0 : Int32)) _ _ _ ws ⟨(show q_F (0 ≤ 0) from (show 0 ≤ 0 from by omega)), (show q_F (0 ≤ 2) from (show 0 ≤ 2 from by omega)), V, q_lw hl (q_lw1 0 rfl (q_lw1 1 rfl (q_lw1 2 rfl (q_lw1 3 rfl q_lw0)))), (show F_WR_root_J44 x2 x3 x4 t0_0 t0_1 t0_2 t0_3 t0_4 t0_5 t0_6 t1_0 t2_0 t3_0 t4_0 t5_0 t6_0 0 = (F_WR_root x2 x3 x4 t0_0 t0_1 t0_2 t0_3 t0_4 t0_5 t0_6 t1_0 t2_0 t3_0 t4_0 t5_0 t6_0) from (by subst e38; subst e256; subst e268; rw [F_WR_root.eq_1, if_pos c247, if_pos c257, if_neg c260, if_pos c263, if_pos c269])), (show S_WR_root_J44 x2 x3 x4 t0_0 t0_1 t0_2 t0_3 t0_4 t0_5 t0_6 t1_0 t2_0 t3_0 t4_0 t5_0 t6_0 0 from (by subst e38; subst e256; subst e268; have h := hS; rw [S_WR_root.eq_1] at h; rw [if_pos c247] at h; rw [if_pos c257] at h; rw [if_neg c260] at h; rw [if_pos c263] at h; replace h := h.2; replace h := h.2; rw [if_pos c269] at h; exact h))⟩
              ·
                have b271 : q_F (a267.toInt ≠ 0) := (q_neI c269)
                refine lv_iconst (v := 2) hx hb d_19_31_39 (by decide) ?_
                refine lv_goto (tgt := 44) hx hb d_19_31_40 (by decide) ?_
                exact J47 ((2 : Int32)) _ _ _ ws ⟨(show q_F (0 ≤ 2) from (show 0 ≤ 2 from by omega)), (show q_F (2 ≤ 2) from (show 2 ≤ 2 from by omega)), V, q_lw hl (q_lw1 0 rfl (q_lw1 1 rfl (q_lw1 2 rfl (q_lw1 3 rfl q_lw0)))), (show F_WR_root_J44 x2 x3 x4 t0_0 t0_1 t0_2 t0_3 t0_4 t0_5 t0_6 t1_0 t2_0 t3_0 t4_0 t5_0 t6_0 2 = (F_WR_root x2 x3 x4 t0_0 t0_1 t0_2 t0_3 t0_4 t0_5 t0_6 t1_0 t2_0 t3_0 t4_0 t5_0 t6_0) from (by subst e38; subst e256; subst e268; rw [F_WR_root.eq_1, if_pos c247, if_pos c257, if_neg c260, if_pos c263, if_neg c269])), (show S_WR_root_J44 x2 x3 x4 t0_0 t0_1 t0_2 t0_3 t0_4 t0_5 t0_6 t1_0 t2_0 t3_0 t4_0 t5_0 t6_0 2 from (by subst e38; subst e256; subst e268; have h := hS; rw [S_WR_root.eq_1] at h; rw [if_pos c247] at h; rw [if_pos c257] at h; rw [if_neg c260] at h; rw [if_pos c263] at h; replace h := h.2; replace h := h.2; rw [if_neg c269] at h; exact h))⟩
            ·
              have b272 : q_F (64 < x3.toInt) := (q_nleI c263)
              exact J241 (()) _ _ _ ws ⟨V, q_lw hl (q_lw1 0 rfl (q_lw1 1 rfl (q_lw1 2 rfl (q_lw1 3 rfl q_lw0)))), (show F_WR_root_J26 x2 x3 x4 t0_0 t0_1 t0_2 t0_3 t0_4 t0_5 t0_6 t1_0 t2_0 t3_0 t4_0 t5_0 t6_0 = (F_WR_root x2 x3 x4 t0_0 t0_1 t0_2 t0_3 t0_4 t0_5 t0_6 t1_0 t2_0 t3_0 t4_0 t5_0 t6_0) from (by subst e38; subst e256; rw [F_WR_root.eq_1, if_pos c247, if_pos c257, if_neg c260, if_neg c263])), (show S_WR_root_J26 x2 x3 x4 t0_0 t0_1 t0_2 t0_3 t0_4 t0_5 t0_6 t1_0 t2_0 t3_0 t4_0 t5_0 t6_0 from (by subst e38; subst e256; have h := hS; rw [S_WR_root.eq_1] at h; rw [if_pos c247] at h; rw [if_pos c257] at h; rw [if_neg c260] at h; rw [if_neg c263] at h; exact h))⟩
theorem d_19_38_0 : decode prog_19_method_38_code 0 = .ok (.aload_n 0, 1) := by decide +kernel
theorem d_19_38_1 : decode prog_19_method_38_code 1 = .ok (.iload_n 1, 1) := by decide +kernel
theorem d_19_38_2 : decode prog_19_method_38_code 2 = .ok (.invokestatic 91, 3) := by decide +kernel
theorem d_19_38_20 : decode prog_19_method_38_code 20 = .ok (.putfield 53, 3) := by decide +kernel
theorem d_19_38_23 : decode prog_19_method_38_code 23 = .ok (.aload_n 0, 1) := by decide +kernel
theorem d_19_38_24 : decode prog_19_method_38_code 24 = .ok (.getfield 53, 3) := by decide +kernel
theorem d_19_38_27 : decode prog_19_method_38_code 27 = .ok (.ifCond .le 4, 3) := by decide +kernel
theorem d_19_38_31 : decode prog_19_method_38_code 31 = .ok (.aload_n 0, 1) := by decide +kernel
theorem d_19_38_32 : decode prog_19_method_38_code 32 = .ok (.iconst 2, 1) := by decide +kernel
theorem d_19_38_33 : decode prog_19_method_38_code 33 = .ok (.putfield 79, 3) := by decide +kernel
theorem d_19_38_36 : decode prog_19_method_38_code 36 = .ok (.aload_n 0, 1) := by decide +kernel
theorem d_19_38_37 : decode prog_19_method_38_code 37 = .ok (.iload_n 1, 1) := by decide +kernel
theorem d_19_38_38 : decode prog_19_method_38_code 38 = .ok (.aload_n 0, 1) := by decide +kernel
theorem d_19_38_39 : decode prog_19_method_38_code 39 = .ok (.getfield 35, 3) := by decide +kernel
theorem d_19_38_42 : decode prog_19_method_38_code 42 = .ok (.invokevirtual 107, 3) := by decide +kernel
theorem d_19_38_45 : decode prog_19_method_38_code 45 = .ok (.aload_n 0, 1) := by decide +kernel
theorem d_19_38_46 : decode prog_19_method_38_code 46 = .ok (.aload_n 0, 1) := by decide +kernel
theorem d_19_38_47 : decode prog_19_method_38_code 47 = .ok (.getfield 16, 3) := by decide +kernel
theorem d_19_38_50 : decode prog_19_method_38_code 50 = .ok (.iload_n 1, 1) := by decide +kernel
theorem d_19_38_51 : decode prog_19_method_38_code 51 = .ok (.baload, 1) := by decide +kernel
theorem d_19_38_52 : decode prog_19_method_38_code 52 = .ok (.putfield 82, 3) := by decide +kernel
theorem d_19_38_55 : decode prog_19_method_38_code 55 = .ok (.aload_n 0, 1) := by decide +kernel
theorem d_19_38_56 : decode prog_19_method_38_code 56 = .ok (.getfield 20, 3) := by decide +kernel
theorem d_19_38_59 : decode prog_19_method_38_code 59 = .ok (.invokestatic 63, 3) := by decide +kernel
theorem d_19_38_62 : decode prog_19_method_38_code 62 = .ok (.iload_n 2, 1) := by decide +kernel
theorem d_19_38_63 : decode prog_19_method_38_code 63 = .ok (.ifCond .lt 120, 3) := by decide +kernel
theorem d_19_38_183 : decode prog_19_method_38_code 183 = .ok (.iconst 0, 1) := by decide +kernel
theorem d_19_38_184 : decode prog_19_method_38_code 184 = .ok (.istore 4, 2) := by decide +kernel
theorem d_19_38_186 : decode prog_19_method_38_code 186 = .ok (.iconst 0, 1) := by decide +kernel
theorem d_19_38_187 : decode prog_19_method_38_code 187 = .ok (.istore 5, 2) := by decide +kernel
theorem d_19_38_189 : decode prog_19_method_38_code 189 = .ok (.iload 5, 2) := by decide +kernel
theorem d_19_38_191 : decode prog_19_method_38_code 191 = .ok (.sipush 2048, 3) := by decide +kernel
theorem d_19_38_194 : decode prog_19_method_38_code 194 = .ok (.if_icmp .ge 101, 3) := by decide +kernel
theorem d_19_38_295 : decode prog_19_method_38_code 295 = .ok (.aload_n 0, 1) := by decide +kernel
theorem d_19_38_296 : decode prog_19_method_38_code 296 = .ok (.getfield 82, 3) := by decide +kernel
theorem d_19_38_299 : decode prog_19_method_38_code 299 = .ok (.ifCond .eq 30, 3) := by decide +kernel
theorem d_19_38_329 : decode prog_19_method_38_code 329 = .ok (.aload_n 0, 1) := by decide +kernel
theorem d_19_38_330 : decode prog_19_method_38_code 330 = .ok (.iload_n 3, 1) := by decide +kernel
theorem d_19_38_331 : decode prog_19_method_38_code 331 = .ok (.invokevirtual 103, 3) := by decide +kernel
theorem d_19_38_334 : decode prog_19_method_38_code 334 = .ok (.return_, 1) := by decide +kernel
theorem d_19_38_302 : decode prog_19_method_38_code 302 = .ok (.iload 4, 2) := by decide +kernel
theorem d_19_38_304 : decode prog_19_method_38_code 304 = .ok (.ifCond .eq 25, 3) := by decide +kernel
theorem d_19_38_307 : decode prog_19_method_38_code 307 = .ok (.aload_n 0, 1) := by decide +kernel
theorem d_19_38_308 : decode prog_19_method_38_code 308 = .ok (.aload_n 0, 1) := by decide +kernel
theorem d_19_38_309 : decode prog_19_method_38_code 309 = .ok (.getfield 23, 3) := by decide +kernel
theorem d_19_38_312 : decode prog_19_method_38_code 312 = .ok (.invokevirtual 131, 3) := by decide +kernel
theorem d_19_38_315 : decode prog_19_method_38_code 315 = .ok (.aload_n 0, 1) := by decide +kernel
theorem d_19_38_316 : decode prog_19_method_38_code 316 = .ok (.getfield 20, 3) := by decide +kernel
theorem d_19_38_319 : decode prog_19_method_38_code 319 = .ok (.aload_n 0, 1) := by decide +kernel
theorem d_19_38_320 : decode prog_19_method_38_code 320 = .ok (.getfield 23, 3) := by decide +kernel
theorem d_19_38_323 : decode prog_19_method_38_code 323 = .ok (.iconst 1, 1) := by decide +kernel
theorem d_19_38_324 : decode prog_19_method_38_code 324 = .ok (.lconst 1, 1) := by decide +kernel
theorem d_19_38_325 : decode prog_19_method_38_code 325 = .ok (.iconst 0, 1) := by decide +kernel
theorem d_19_38_326 : decode prog_19_method_38_code 326 = .ok (.invokestatic 75, 3) := by decide +kernel
theorem d_19_38_197 : decode prog_19_method_38_code 197 = .ok (.aload_n 0, 1) := by decide +kernel
theorem d_19_38_198 : decode prog_19_method_38_code 198 = .ok (.getfield 35, 3) := by decide +kernel
theorem d_19_38_201 : decode prog_19_method_38_code 201 = .ok (.iload 5, 2) := by decide +kernel
theorem d_19_38_203 : decode prog_19_method_38_code 203 = .ok (.bipush 16, 2) := by decide +kernel
theorem d_19_38_205 : decode prog_19_method_38_code 205 = .ok (.idiv, 1) := by decide +kernel
theorem d_19_38_206 : decode prog_19_method_38_code 206 = .ok (.iaload, 1) := by decide +kernel
theorem d_19_38_207 : decode prog_19_method_38_code 207 = .ok (.iload 5, 2) := by decide +kernel
theorem d_19_38_209 : decode prog_19_method_38_code 209 = .ok (.bipush 16, 2) := by decide +kernel
theorem d_19_38_211 : decode prog_19_method_38_code 211 = .ok (.irem, 1) := by decide +kernel
theorem d_19_38_212 : decode prog_19_method_38_code 212 = .ok (.ishr, 1) := by decide +kernel
theorem d_19_38_213 : decode prog_19_method_38_code 213 = .ok (.iconst 1, 1) := by decide +kernel
theorem d_19_38_214 : decode prog_19_method_38_code 214 = .ok (.iand, 1) := by decide +kernel
theorem d_19_38_215 : decode prog_19_method_38_code 215 = .ok (.istore 6, 2) := by decide +kernel
theorem d_19_38_217 : decode prog_19_method_38_code 217 = .ok (.iload 5, 2) := by decide +kernel
theorem d_19_38_219 : decode prog_19_method_38_code 219 = .ok (.i2l, 1) := by decide +kernel
theorem d_19_38_220 : decode prog_19_method_38_code 220 = .ok (.iload_n 2, 1) := by decide +kernel
theorem d_19_38_221 : decode prog_19_method_38_code 221 = .ok (.i2l, 1) := by decide +kernel
theorem d_19_38_222 : decode prog_19_method_38_code 222 = .ok (.ladd, 1) := by decide +kernel
theorem d_19_38_223 : decode prog_19_method_38_code 223 = .ok (.lstore 7, 2) := by decide +kernel
theorem d_19_38_225 : decode prog_19_method_38_code 225 = .ok (.iload 4, 2) := by decide +kernel
theorem d_19_38_248 : decode prog_19_method_38_code 248 = .ok (.istore 4, 2) := by decide +kernel
theorem d_19_38_250 : decode prog_19_method_38_code 250 = .ok (.lload 7, 2) := by decide +kernel
theorem d_19_38_252 : decode prog_19_method_38_code 252 = .ok (.lconst 0, 1) := by decide +kernel
theorem d_19_38_253 : decode prog_19_method_38_code 253 = .ok (.lcmp, 1) := by decide +kernel
theorem d_19_38_254 : decode prog_19_method_38_code 254 = .ok (.ifCond .lt 35, 3) := by decide +kernel
theorem d_19_38_289 : decode prog_19_method_38_code 289 = .ok (.iinc 5 1, 3) := by decide +kernel
theorem d_19_38_292 : decode prog_19_method_38_code 292 = .ok (.goto (-103), 3) := by decide +kernel
theorem d_19_38_257 : decode prog_19_method_38_code 257 = .ok (.aload_n 0, 1) := by decide +kernel
theorem d_19_38_258 : decode prog_19_method_38_code 258 = .ok (.getfield 20, 3) := by decide +kernel
theorem d_19_38_261 : decode prog_19_method_38_code 261 = .ok (.lload 7, 2) := by decide +kernel
theorem d_19_38_263 : decode prog_19_method_38_code 263 = .ok (.l2i, 1) := by decide +kernel
theorem d_19_38_264 : decode prog_19_method_38_code 264 = .ok (.bipush 16, 2) := by decide +kernel
theorem d_19_38_266 : decode prog_19_method_38_code 266 = .ok (.idiv, 1) := by decide +kernel
theorem d_19_38_267 : decode prog_19_method_38_code 267 = .ok (.aload_n 0, 1) := by decide +kernel
theorem d_19_38_268 : decode prog_19_method_38_code 268 = .ok (.getfield 20, 3) := by decide +kernel
theorem d_19_38_271 : decode prog_19_method_38_code 271 = .ok (.lload 7, 2) := by decide +kernel
theorem d_19_38_273 : decode prog_19_method_38_code 273 = .ok (.l2i, 1) := by decide +kernel
theorem d_19_38_274 : decode prog_19_method_38_code 274 = .ok (.bipush 16, 2) := by decide +kernel
theorem d_19_38_276 : decode prog_19_method_38_code 276 = .ok (.idiv, 1) := by decide +kernel
theorem d_19_38_277 : decode prog_19_method_38_code 277 = .ok (.iaload, 1) := by decide +kernel
theorem d_19_38_278 : decode prog_19_method_38_code 278 = .ok (.iload 6, 2) := by decide +kernel
theorem d_19_38_280 : decode prog_19_method_38_code 280 = .ok (.lload 7, 2) := by decide +kernel
theorem d_19_38_282 : decode prog_19_method_38_code 282 = .ok (.l2i, 1) := by decide +kernel
theorem d_19_38_283 : decode prog_19_method_38_code 283 = .ok (.bipush 16, 2) := by decide +kernel
theorem d_19_38_285 : decode prog_19_method_38_code 285 = .ok (.irem, 1) := by decide +kernel
theorem d_19_38_286 : decode prog_19_method_38_code 286 = .ok (.ishl, 1) := by decide +kernel
theorem d_19_38_287 : decode prog_19_method_38_code 287 = .ok (.ior, 1) := by decide +kernel
theorem d_19_38_288 : decode prog_19_method_38_code 288 = .ok (.iastore, 1) := by decide +kernel
theorem d_19_38_243 : decode prog_19_method_38_code 243 = .ok (.iconst 1, 1) := by decide +kernel
theorem d_19_38_244 : decode prog_19_method_38_code 244 = .ok (.goto 4, 3) := by decide +kernel
theorem d_19_38_227 : decode prog_19_method_38_code 227 = .ok (.ifCond .ne 16, 3) := by decide +kernel
theorem d_19_38_230 : decode prog_19_method_38_code 230 = .ok (.iload 6, 2) := by decide +kernel
theorem d_19_38_232 : decode prog_19_method_38_code 232 = .ok (.iconst 1, 1) := by decide +kernel
theorem d_19_38_247 : decode prog_19_method_38_code 247 = .ok (.iconst 0, 1) := by decide +kernel
theorem d_19_38_233 : decode prog_19_method_38_code 233 = .ok (.if_icmp .ne 14, 3) := by decide +kernel
theorem d_19_38_236 : decode prog_19_method_38_code 236 = .ok (.lload 7, 2) := by decide +kernel
theorem d_19_38_238 : decode prog_19_method_38_code 238 = .ok (.lconst 0, 1) := by decide +kernel
theorem d_19_38_239 : decode prog_19_method_38_code 239 = .ok (.lcmp, 1) := by decide +kernel
theorem d_19_38_240 : decode prog_19_method_38_code 240 = .ok (.ifCond .ge 7, 3) := by decide +kernel
theorem d_19_38_66 : decode prog_19_method_38_code 66 = .ok (.iload_n 2, 1) := by decide +kernel
theorem d_19_38_67 : decode prog_19_method_38_code 67 = .ok (.sipush 2048, 3) := by decide +kernel
theorem d_19_38_89 : decode prog_19_method_38_code 89 = .ok (.iconst 0, 1) := by decide +kernel
theorem d_19_38_90 : decode prog_19_method_38_code 90 = .ok (.istore 4, 2) := by decide +kernel
theorem d_19_38_92 : decode prog_19_method_38_code 92 = .ok (.iload 4, 2) := by decide +kernel
theorem d_19_38_94 : decode prog_19_method_38_code 94 = .ok (.aload_n 0, 1) := by decide +kernel
theorem d_19_38_95 : decode prog_19_method_38_code 95 = .ok (.getfield 35, 3) := by decide +kernel
theorem d_19_38_98 : decode prog_19_method_38_code 98 = .ok (.invokestatic 59, 3) := by decide +kernel
theorem d_19_38_101 : decode prog_19_method_38_code 101 = .ok (.if_icmp .ge 76, 3) := by decide +kernel
theorem d_19_38_177 : decode prog_19_method_38_code 177 = .ok (.aload_n 0, 1) := by decide +kernel
theorem d_19_38_178 : decode prog_19_method_38_code 178 = .ok (.iload_n 3, 1) := by decide +kernel
theorem d_19_38_179 : decode prog_19_method_38_code 179 = .ok (.invokevirtual 103, 3) := by decide +kernel
theorem d_19_38_182 : decode prog_19_method_38_code 182 = .ok (.return_, 1) := by decide +kernel
theorem d_19_38_104 : decode prog_19_method_38_code 104 = .ok (.aload_n 0, 1) := by decide +kernel
theorem d_19_38_105 : decode prog_19_method_38_code 105 = .ok (.getfield 35, 3) := by decide +kernel
theorem d_19_38_108 : decode prog_19_method_38_code 108 = .ok (.iload 4, 2) := by decide +kernel
theorem d_19_38_110 : decode prog_19_method_38_code 110 = .ok (.iaload, 1) := by decide +kernel
theorem d_19_38_111 : decode prog_19_method_38_code 111 = .ok (.i2l, 1) := by decide +kernel
theorem d_19_38_112 : decode prog_19_method_38_code 112 = .ok (.iload_n 2, 1) := by decide +kernel
theorem d_19_38_113 : decode prog_19_method_38_code 113 = .ok (.bipush 16, 2) := by decide +kernel
theorem d_19_38_115 : decode prog_19_method_38_code 115 = .ok (.irem, 1) := by decide +kernel
theorem d_19_38_116 : decode prog_19_method_38_code 116 = .ok (.lshl, 1) := by decide +kernel
theorem d_19_38_117 : decode prog_19_method_38_code 117 = .ok (.lstore 5, 2) := by decide +kernel
theorem d_19_38_119 : decode prog_19_method_38_code 119 = .ok (.aload_n 0, 1) := by decide +kernel
theorem d_19_38_120 : decode prog_19_method_38_code 120 = .ok (.getfield 20, 3) := by decide +kernel
theorem d_19_38_123 : decode prog_19_method_38_code 123 = .ok (.iload 4, 2) := by decide +kernel
theorem d_19_38_125 : decode prog_19_method_38_code 125 = .ok (.iload_n 2, 1) := by decide +kernel
theorem d_19_38_126 : decode prog_19_method_38_code 126 = .ok (.bipush 16, 2) := by decide +kernel
theorem d_19_38_128 : decode prog_19_method_38_code 128 = .ok (.idiv, 1) := by decide +kernel
theorem d_19_38_129 : decode prog_19_method_38_code 129 = .ok (.iadd, 1) := by decide +kernel
theorem d_19_38_130 : decode prog_19_method_38_code 130 = .ok (.aload_n 0, 1) := by decide +kernel
theorem d_19_38_131 : decode prog_19_method_38_code 131 = .ok (.getfield 20, 3) := by decide +kernel
theorem d_19_38_134 : decode prog_19_method_38_code 134 = .ok (.iload 4, 2) := by decide +kernel
theorem d_19_38_136 : decode prog_19_method_38_code 136 = .ok (.iload_n 2, 1) := by decide +kernel
theorem d_19_38_137 : decode prog_19_method_38_code 137 = .ok (.bipush 16, 2) := by decide +kernel
theorem d_19_38_139 : decode prog_19_method_38_code 139 = .ok (.idiv, 1) := by decide +kernel
theorem d_19_38_140 : decode prog_19_method_38_code 140 = .ok (.iadd, 1) := by decide +kernel
theorem d_19_38_141 : decode prog_19_method_38_code 141 = .ok (.iaload, 1) := by decide +kernel
theorem d_19_38_142 : decode prog_19_method_38_code 142 = .ok (.lload 5, 2) := by decide +kernel
theorem d_19_38_144 : decode prog_19_method_38_code 144 = .ok (.ldc2_w 57, 3) := by decide +kernel
theorem d_19_38_147 : decode prog_19_method_38_code 147 = .ok (.land, 1) := by decide +kernel
theorem d_19_38_148 : decode prog_19_method_38_code 148 = .ok (.l2i, 1) := by decide +kernel
theorem d_19_38_149 : decode prog_19_method_38_code 149 = .ok (.ior, 1) := by decide +kernel
theorem d_19_38_150 : decode prog_19_method_38_code 150 = .ok (.iastore, 1) := by decide +kernel
theorem d_19_38_151 : decode prog_19_method_38_code 151 = .ok (.aload_n 0, 1) := by decide +kernel
theorem d_19_38_152 : decode prog_19_method_38_code 152 = .ok (.getfield 20, 3) := by decide +kernel
theorem d_19_38_155 : decode prog_19_method_38_code 155 = .ok (.iload 4, 2) := by decide +kernel
theorem d_19_38_157 : decode prog_19_method_38_code 157 = .ok (.iload_n 2, 1) := by decide +kernel
theorem d_19_38_158 : decode prog_19_method_38_code 158 = .ok (.bipush 16, 2) := by decide +kernel
theorem d_19_38_160 : decode prog_19_method_38_code 160 = .ok (.idiv, 1) := by decide +kernel
theorem d_19_38_161 : decode prog_19_method_38_code 161 = .ok (.iadd, 1) := by decide +kernel
theorem d_19_38_162 : decode prog_19_method_38_code 162 = .ok (.iconst 1, 1) := by decide +kernel
theorem d_19_38_163 : decode prog_19_method_38_code 163 = .ok (.iadd, 1) := by decide +kernel
theorem d_19_38_164 : decode prog_19_method_38_code 164 = .ok (.lload 5, 2) := by decide +kernel
theorem d_19_38_166 : decode prog_19_method_38_code 166 = .ok (.bipush 16, 2) := by decide +kernel
theorem d_19_38_168 : decode prog_19_method_38_code 168 = .ok (.lshr, 1) := by decide +kernel
theorem d_19_38_169 : decode prog_19_method_38_code 169 = .ok (.l2i, 1) := by decide +kernel
theorem d_19_38_170 : decode prog_19_method_38_code 170 = .ok (.iastore, 1) := by decide +kernel
theorem d_19_38_171 : decode prog_19_method_38_code 171 = .ok (.iinc 4 1, 3) := by decide +kernel
theorem d_19_38_174 : decode prog_19_method_38_code 174 = .ok (.goto (-82), 3) := by decide +kernel
theorem d_19_38_70 : decode prog_19_method_38_code 70 = .ok (.if_icmp .le 19, 3) := by decide +kernel
theorem d_19_38_73 : decode prog_19_method_38_code 73 = .ok (.aload_n 0, 1) := by decide +kernel
theorem d_19_38_74 : decode prog_19_method_38_code 74 = .ok (.getfield 35, 3) := by decide +kernel
theorem d_19_38_77 : decode prog_19_method_38_code 77 = .ok (.invokestatic 59, 3) := by decide +kernel
theorem d_19_38_80 : decode prog_19_method_38_code 80 = .ok (.ifCond .le 9, 3) := by decide +kernel
theorem d_19_38_83 : decode prog_19_method_38_code 83 = .ok (.aload_n 0, 1) := by decide +kernel
theorem d_19_38_84 : decode prog_19_method_38_code 84 = .ok (.iconst 2, 1) := by decide +kernel
theorem d_19_38_85 : decode prog_19_method_38_code 85 = .ok (.putfield 53, 3) := by decide +kernel
theorem d_19_38_88 : decode prog_19_method_38_code 88 = .ok (.return_, 1) := by decide +kernel
theorem d_19_38_30 : decode prog_19_method_38_code 30 = .ok (.return_, 1) := by decide +kernel
theorem d_19_38_15 : decode prog_19_method_38_code 15 = .ok (.iconst 1, 1) := by decide +kernel
theorem d_19_38_16 : decode prog_19_method_38_code 16 = .ok (.goto 4, 3) := by decide +kernel
theorem d_19_38_5 : decode prog_19_method_38_code 5 = .ok (.ifCond .ne 10, 3) := by decide +kernel
theorem d_19_38_8 : decode prog_19_method_38_code 8 = .ok (.iload_n 3, 1) := by decide +kernel
theorem d_19_38_9 : decode prog_19_method_38_code 9 = .ok (.invokestatic 91, 3) := by decide +kernel
theorem d_19_38_12 : decode prog_19_method_38_code 12 = .ok (.ifCond .eq 7, 3) := by decide +kernel
theorem d_19_38_19 : decode prog_19_method_38_code 19 = .ok (.iconst 0, 1) := by decide +kernel
def y_WR_shift : MethodName := ⟨"NumberHouseModel$WholeRows", "shift", "(III)V"⟩
def F_WR_shift_c331 (K_F_WR_shift_L189 : Int32 → Int32 → (Nat → Int32) → (Int32 × Int32 × Int32 × Int32 × Int32 × Int32 × Int32 × (Nat → Int32) × (Nat → Int32) × (Nat → Int32) × (Nat → Int32) × (Nat → Int32))) (x2 : Int32) (x3 : Int32) (x4 : Int32) (t0_0 : Int32) (t0_1 : Int32) (t0_2 : Int32) (t0_3 : Int32) (t0_4 : Int32) (t0_5 : Int32) (t0_6 : Int32) (t1_0 : (Nat → Int32)) (t2_0 : (Nat → Int32)) (t3_0 : (Nat → Int32)) (t4_0 : (Nat → Int32)) (t5_0 : (Nat → Int32)) (lx36 : Int32) (a67 : Int32) (f60 : (Nat → Int32)) (lx88 : Int32) (lx89 : Int32) (lx90 : (Nat → Int32)) (p141 : (Int32 × Int32 × Int32 × Int32 × Int32 × Int32 × Int32 × (Nat → Int32) × (Nat → Int32))) : Int32 × Int32 × Int32 × Int32 × Int32 × Int32 × Int32 × (Nat → Int32) × (Nat → Int32) × (Nat → Int32) × (Nat → Int32) × (Nat → Int32) := ((p141.1 : Int32), (p141.2.1 : Int32), (p141.2.2.1 : Int32), (p141.2.2.2.1 : Int32), (p141.2.2.2.2.1 : Int32), (p141.2.2.2.2.2.1 : Int32), (p141.2.2.2.2.2.2.1 : Int32), (p141.2.2.2.2.2.2.2.1 : (Nat → Int32)), (p141.2.2.2.2.2.2.2.2 : (Nat → Int32)), lx90, t4_0, f60)
def F_WR_shift_c331_4 (K_F_WR_shift_L189 : Int32 → Int32 → (Nat → Int32) → (Int32 × Int32 × Int32 × Int32 × Int32 × Int32 × Int32 × (Nat → Int32) × (Nat → Int32) × (Nat → Int32) × (Nat → Int32) × (Nat → Int32))) (x2 : Int32) (x3 : Int32) (x4 : Int32) (t0_0 : Int32) (t0_1 : Int32) (t0_2 : Int32) (t0_3 : Int32) (t0_4 : Int32) (t0_5 : Int32) (t0_6 : Int32) (t1_0 : (Nat → Int32)) (t2_0 : (Nat → Int32)) (t3_0 : (Nat → Int32)) (t4_0 : (Nat → Int32)) (t5_0 : (Nat → Int32)) (lx36 : Int32) (a67 : Int32) (f60 : (Nat → Int32)) (lx88 : Int32) (lx89 : Int32) (lx90 : (Nat → Int32)) (p189 : (Int32 × Int32 × Int32 × Int32 × Int32 × Int32 × Int32 × (Nat → Int32) × (Nat → Int32))) : Int32 × Int32 × Int32 × Int32 × Int32 × Int32 × Int32 × (Nat → Int32) × (Nat → Int32) × (Nat → Int32) × (Nat → Int32) × (Nat → Int32) := ((p189.1 : Int32), (p189.2.1 : Int32), (p189.2.2.1 : Int32), (p189.2.2.2.1 : Int32), (p189.2.2.2.2.1 : Int32), (p189.2.2.2.2.2.1 : Int32), (p189.2.2.2.2.2.2.1 : Int32), (p189.2.2.2.2.2.2.2.1 : (Nat → Int32)), (p189.2.2.2.2.2.2.2.2 : (Nat → Int32)), lx90, t4_0, f60)
def F_WR_shift_c331_5 (K_F_WR_shift_L189 : Int32 → Int32 → (Nat → Int32) → (Int32 × Int32 × Int32 × Int32 × Int32 × Int32 × Int32 × (Nat → Int32) × (Nat → Int32) × (Nat → Int32) × (Nat → Int32) × (Nat → Int32))) (x2 : Int32) (x3 : Int32) (x4 : Int32) (t0_0 : Int32) (t0_1 : Int32) (t0_2 : Int32) (t0_3 : Int32) (t0_4 : Int32) (t0_5 : Int32) (t0_6 : Int32) (t1_0 : (Nat → Int32)) (t2_0 : (Nat → Int32)) (t3_0 : (Nat → Int32)) (t4_0 : (Nat → Int32)) (t5_0 : (Nat → Int32)) (lx36 : Int32) (a67 : Int32) (f60 : (Nat → Int32)) (lx88 : Int32) (lx89 : Int32) (lx90 : (Nat → Int32)) (f217 : (Nat → Int32)) (f209 : (Nat → Int32)) (p251 : (Int32 × Int32 × Int32 × Int32 × Int32 × Int32 × Int32 × (Nat → Int32) × (Nat → Int32))) : Int32 × Int32 × Int32 × Int32 × Int32 × Int32 × Int32 × (Nat → Int32) × (Nat → Int32) × (Nat → Int32) × (Nat → Int32) × (Nat → Int32) := ((p251.1 : Int32), (p251.2.1 : Int32), (p251.2.2.1 : Int32), (p251.2.2.2.1 : Int32), (p251.2.2.2.2.1 : Int32), (p251.2.2.2.2.2.1 : Int32), (p251.2.2.2.2.2.2.1 : Int32), (p251.2.2.2.2.2.2.2.1 : (Nat → Int32)), (p251.2.2.2.2.2.2.2.2 : (Nat → Int32)), f217, f209, f60)
def F_WR_shift_J248 (K_F_WR_shift_L189 : Int32 → Int32 → (Nat → Int32) → (Int32 × Int32 × Int32 × Int32 × Int32 × Int32 × Int32 × (Nat → Int32) × (Nat → Int32) × (Nat → Int32) × (Nat → Int32) × (Nat → Int32))) (x2 : Int32) (x3 : Int32) (x4 : Int32) (t0_0 : Int32) (t0_1 : Int32) (t0_2 : Int32) (t0_3 : Int32) (t0_4 : Int32) (t0_5 : Int32) (t0_6 : Int32) (t1_0 : (Nat → Int32)) (t2_0 : (Nat → Int32)) (t3_0 : (Nat → Int32)) (t4_0 : (Nat → Int32)) (t5_0 : (Nat → Int32)) (lx36 : Int32) (a67 : Int32) (f60 : (Nat → Int32)) (lx88 : Int32) (lx89 : Int32) (lx90 : (Nat → Int32)) (j287 : Int64) (a278 : Int32) (lx290 : Int32) : Int32 × Int32 × Int32 × Int32 × Int32 × Int32 × Int32 × (Nat → Int32) × (Nat → Int32) × (Nat → Int32) × (Nat → Int32) × (Nat → Int32) := if (lg_cmp j287 0 : Int32) < (0 : Int32) then (K_F_WR_shift_L189 (lx88 + 1 : Int32) lx290 lx90) else (K_F_WR_shift_L189 (lx88 + 1 : Int32) lx290 (upd lx90 ((j287.toInt32 : Int32) / 16 : Int32).toNatClampNeg ((lx90 ((j287.toInt32 : Int32) / 16 : Int32).toNatClampNeg : Int32) ||| (a278 <<< (((j287.toInt32 : Int32) - (j287.toInt32 : Int32) / 16 * 16 : Int32) &&& 31) : Int32) : Int32) : (Nat → Int32)))
def F_WR_shift_J243 (K_F_WR_shift_L189 : Int32 → Int32 → (Nat → Int32) → (Int32 × Int32 × Int32 × Int32 × Int32 × Int32 × Int32 × (Nat → Int32) × (Nat → Int32) × (Nat → Int32) × (Nat → Int32) × (Nat → Int32))) (x2 : Int32) (x3 : Int32) (x4 : Int32) (t0_0 : Int32) (t0_1 : Int32) (t0_2 : Int32) (t0_3 : Int32) (t0_4 : Int32) (t0_5 : Int32) (t0_6 : Int32) (t1_0 : (Nat → Int32)) (t2_0 : (Nat → Int32)) (t3_0 : (Nat → Int32)) (t4_0 : (Nat → Int32)) (t5_0 : (Nat → Int32)) (lx36 : Int32) (a67 : Int32) (f60 : (Nat → Int32)) (lx88 : Int32) (lx89 : Int32) (lx90 : (Nat → Int32)) (j287 : Int64) (a278 : Int32) : Int32 × Int32 × Int32 × Int32 × Int32 × Int32 × Int32 × (Nat → Int32) × (Nat → Int32) × (Nat → Int32) × (Nat → Int32) × (Nat → Int32) := F_WR_shift_J248 K_F_WR_shift_L189 x2 x3 x4 t0_0 t0_1 t0_2 t0_3 t0_4 t0_5 t0_6 t1_0 t2_0 t3_0 t4_0 t5_0 lx36 a67 f60 lx88 lx89 lx90 j287 a278 1
def F_WR_shift_J247 (K_F_WR_shift_L189 : Int32 → Int32 → (Nat → Int32) → (Int32 × Int32 × Int32 × Int32 × Int32 × Int32 × Int32 × (Nat → Int32) × (Nat → Int32) × (Nat → Int32) × (Nat → Int32) × (Nat → Int32))) (x2 : Int32) (x3 : Int32) (x4 : Int32) (t0_0 : Int32) (t0_1 : Int32) (t0_2 : Int32) (t0_3 : Int32) (t0_4 : Int32) (t0_5 : Int32) (t0_6 : Int32) (t1_0 : (Nat → Int32)) (t2_0 : (Nat → Int32)) (t3_0 : (Nat → Int32)) (t4_0 : (Nat → Int32)) (t5_0 : (Nat → Int32)) (lx36 : Int32) (a67 : Int32) (f60 : (Nat → Int32)) (lx88 : Int32) (lx89 : Int32) (lx90 : (Nat → Int32)) (j287 : Int64) (a278 : Int32) : Int32 × Int32 × Int32 × Int32 × Int32 × Int32 × Int32 × (Nat → Int32) × (Nat → Int32) × (Nat → Int32) × (Nat → Int32) × (Nat → Int32) := F_WR_shift_J248 K_F_WR_shift_L189 x2 x3 x4 t0_0 t0_1 t0_2 t0_3 t0_4 t0_5 t0_6 t1_0 t2_0 t3_0 t4_0 t5_0 lx36 a67 f60 lx88 lx89 lx90 j287 a278 0
def F_WR_shift_L189 (x2 : Int32) (x3 : Int32) (x4 : Int32) (t0_0 : Int32) (t0_1 : Int32) (t0_2 : Int32) (t0_3 : Int32) (t0_4 : Int32) (t0_5 : Int32) (t0_6 : Int32) (t1_0 : (Nat → Int32)) (t2_0 : (Nat → Int32)) (t3_0 : (Nat → Int32)) (t4_0 : (Nat → Int32)) (t5_0 : (Nat → Int32)) (lx36 : Int32) (a67 : Int32) (f60 : (Nat → Int32)) : Nat → Int32 → Int32 → (Nat → Int32) → (Int32 × Int32 × Int32 × Int32 × Int32 × Int32 × Int32 × (Nat → Int32) × (Nat → Int32) × (Nat → Int32) × (Nat → Int32) × (Nat → Int32))
  | 0, _, _, _ => default
  | fm + 1, lx88, lx89, lx90 => if (2048 : Int32) ≤ lx88 then (if a67 = (0 : Int32) then (F_WR_shift_c331 (F_WR_shift_L189 x2 x3 x4 t0_0 t0_1 t0_2 t0_3 t0_4 t0_5 t0_6 t1_0 t2_0 t3_0 t4_0 t5_0 lx36 a67 f60 fm) x2 x3 x4 t0_0 t0_1 t0_2 t0_3 t0_4 t0_5 t0_6 t1_0 t2_0 t3_0 t4_0 t5_0 lx36 a67 f60 lx88 lx89 lx90 ((F_WR_store x4 lx36 (2 : Int32) t0_2 a67 t0_4 t0_5 t0_6 t1_0 t2_0 lx90) : (Int32 × Int32 × Int32 × Int32 × Int32 × Int32 × Int32 × (Nat → Int32) × (Nat → Int32)))) else (if lx89 = (0 : Int32) then (F_WR_shift_c331_4 (F_WR_shift_L189 x2 x3 x4 t0_0 t0_1 t0_2 t0_3 t0_4 t0_5 t0_6 t1_0 t2_0 t3_0 t4_0 t5_0 lx36 a67 f60 fm) x2 x3 x4 t0_0 t0_1 t0_2 t0_3 t0_4 t0_5 t0_6 t1_0 t2_0 t3_0 t4_0 t5_0 lx36 a67 f60 lx88 lx89 lx90 ((F_WR_store x4 lx36 (2 : Int32) t0_2 a67 t0_4 t0_5 t0_6 t1_0 t2_0 lx90) : (Int32 × Int32 × Int32 × Int32 × Int32 × Int32 × Int32 × (Nat → Int32) × (Nat → Int32)))) else (F_WR_shift_c331_5 (F_WR_shift_L189 x2 x3 x4 t0_0 t0_1 t0_2 t0_3 t0_4 t0_5 t0_6 t1_0 t2_0 t3_0 t4_0 t5_0 lx36 a67 f60 fm) x2 x3 x4 t0_0 t0_1 t0_2 t0_3 t0_4 t0_5 t0_6 t1_0 t2_0 t3_0 t4_0 t5_0 lx36 a67 f60 lx88 lx89 lx90 ((F_WR_join (264 : Int32) (264 : Int32) (1 : Int32) (1 : Int64) (0 : Int32) lx90 ((F_WR_setOne (264 : Int32) lx36 (2 : Int32) t0_2 a67 t0_4 t0_5 t0_6 t4_0) : (Nat → Int32))) : (Nat → Int32)) ((F_WR_setOne (264 : Int32) lx36 (2 : Int32) t0_2 a67 t0_4 t0_5 t0_6 t4_0) : (Nat → Int32)) ((F_WR_store x4 lx36 (2 : Int32) t0_2 a67 t0_4 t0_5 t0_6 t1_0 t2_0 ((F_WR_join (264 : Int32) (264 : Int32) (1 : Int32) (1 : Int64) (0 : Int32) lx90 ((F_WR_setOne (264 : Int32) lx36 (2 : Int32) t0_2 a67 t0_4 t0_5 t0_6 t4_0) : (Nat → Int32))) : (Nat → Int32))) : (Int32 × Int32 × Int32 × Int32 × Int32 × Int32 × Int32 × (Nat → Int32) × (Nat → Int32)))))) else (if lx89 = (0 : Int32) then (if (((f60 (lx88 / 16 : Int32).toNatClampNeg : Int32) >>> ((lx88 - lx88 / 16 * 16 : Int32) &&& 31) : Int32) &&& 1 : Int32) = (1 : Int32) then (if (0 : Int32) ≤ (lg_cmp ((lx88.toInt64 : Int64) + (x3.toInt64 : Int64) : Int64) 0 : Int32) then (F_WR_shift_J247 (F_WR_shift_L189 x2 x3 x4 t0_0 t0_1 t0_2 t0_3 t0_4 t0_5 t0_6 t1_0 t2_0 t3_0 t4_0 t5_0 lx36 a67 f60 fm) x2 x3 x4 t0_0 t0_1 t0_2 t0_3 t0_4 t0_5 t0_6 t1_0 t2_0 t3_0 t4_0 t5_0 lx36 a67 f60 lx88 lx89 lx90 ((lx88.toInt64 : Int64) + (x3.toInt64 : Int64) : Int64) (((f60 (lx88 / 16 : Int32).toNatClampNeg : Int32) >>> ((lx88 - lx88 / 16 * 16 : Int32) &&& 31) : Int32) &&& 1 : Int32)) else (F_WR_shift_J243 (F_WR_shift_L189 x2 x3 x4 t0_0 t0_1 t0_2 t0_3 t0_4 t0_5 t0_6 t1_0 t2_0 t3_0 t4_0 t5_0 lx36 a67 f60 fm) x2 x3 x4 t0_0 t0_1 t0_2 t0_3 t0_4 t0_5 t0_6 t1_0 t2_0 t3_0 t4_0 t5_0 lx36 a67 f60 lx88 lx89 lx90 ((lx88.toInt64 : Int64) + (x3.toInt64 : Int64) : Int64) (((f60 (lx88 / 16 : Int32).toNatClampNeg : Int32) >>> ((lx88 - lx88 / 16 * 16 : Int32) &&& 31) : Int32) &&& 1 : Int32))) else (F_WR_shift_J247 (F_WR_shift_L189 x2 x3 x4 t0_0 t0_1 t0_2 t0_3 t0_4 t0_5 t0_6 t1_0 t2_0 t3_0 t4_0 t5_0 lx36 a67 f60 fm) x2 x3 x4 t0_0 t0_1 t0_2 t0_3 t0_4 t0_5 t0_6 t1_0 t2_0 t3_0 t4_0 t5_0 lx36 a67 f60 lx88 lx89 lx90 ((lx88.toInt64 : Int64) + (x3.toInt64 : Int64) : Int64) (((f60 (lx88 / 16 : Int32).toNatClampNeg : Int32) >>> ((lx88 - lx88 / 16 * 16 : Int32) &&& 31) : Int32) &&& 1 : Int32))) else (F_WR_shift_J243 (F_WR_shift_L189 x2 x3 x4 t0_0 t0_1 t0_2 t0_3 t0_4 t0_5 t0_6 t1_0 t2_0 t3_0 t4_0 t5_0 lx36 a67 f60 fm) x2 x3 x4 t0_0 t0_1 t0_2 t0_3 t0_4 t0_5 t0_6 t1_0 t2_0 t3_0 t4_0 t5_0 lx36 a67 f60 lx88 lx89 lx90 ((lx88.toInt64 : Int64) + (x3.toInt64 : Int64) : Int64) (((f60 (lx88 / 16 : Int32).toNatClampNeg : Int32) >>> ((lx88 - lx88 / 16 * 16 : Int32) &&& 31) : Int32) &&& 1 : Int32)))
def F_WR_shift_c179 (K_F_WR_shift_L92 : Int32 → (Nat → Int32) → (Int32 × Int32 × Int32 × Int32 × Int32 × Int32 × Int32 × (Nat → Int32) × (Nat → Int32) × (Nat → Int32) × (Nat → Int32) × (Nat → Int32))) (x2 : Int32) (x3 : Int32) (x4 : Int32) (t0_0 : Int32) (t0_1 : Int32) (t0_2 : Int32) (t0_3 : Int32) (t0_4 : Int32) (t0_5 : Int32) (t0_6 : Int32) (t1_0 : (Nat → Int32)) (t2_0 : (Nat → Int32)) (t3_0 : (Nat → Int32)) (t4_0 : (Nat → Int32)) (t5_0 : (Nat → Int32)) (lx36 : Int32) (a67 : Int32) (f75 : (Nat → Int32)) (f60 : (Nat → Int32)) (lx395 : Int32) (lx396 : (Nat → Int32)) (p450 : (Int32 × Int32 × Int32 × Int32 × Int32 × Int32 × Int32 × (Nat → Int32) × (Nat → Int32))) : Int32 × Int32 × Int32 × Int32 × Int32 × Int32 × Int32 × (Nat → Int32) × (Nat → Int32) × (Nat → Int32) × (Nat → Int32) × (Nat → Int32) := ((p450.1 : Int32), (p450.2.1 : Int32), (p450.2.2.1 : Int32), (p450.2.2.2.1 : Int32), (p450.2.2.2.2.1 : Int32), (p450.2.2.2.2.2.1 : Int32), (p450.2.2.2.2.2.2.1 : Int32), (p450.2.2.2.2.2.2.2.1 : (Nat → Int32)), (p450.2.2.2.2.2.2.2.2 : (Nat → Int32)), lx396, t4_0, f60)
def F_WR_shift_L92 (x2 : Int32) (x3 : Int32) (x4 : Int32) (t0_0 : Int32) (t0_1 : Int32) (t0_2 : Int32) (t0_3 : Int32) (t0_4 : Int32) (t0_5 : Int32) (t0_6 : Int32) (t1_0 : (Nat → Int32)) (t2_0 : (Nat → Int32)) (t3_0 : (Nat → Int32)) (t4_0 : (Nat → Int32)) (t5_0 : (Nat → Int32)) (lx36 : Int32) (a67 : Int32) (f75 : (Nat → Int32)) (f60 : (Nat → Int32)) : Nat → Int32 → (Nat → Int32) → (Int32 × Int32 × Int32 × Int32 × Int32 × Int32 × Int32 × (Nat → Int32) × (Nat → Int32) × (Nat → Int32) × (Nat → Int32) × (Nat → Int32))
  | 0, _, _ => default
  | fm + 1, lx395, lx396 => if ((F_WR_size (264 : Int32) f60) : Int32) ≤ lx395 then (F_WR_shift_c179 (F_WR_shift_L92 x2 x3 x4 t0_0 t0_1 t0_2 t0_3 t0_4 t0_5 t0_6 t1_0 t2_0 t3_0 t4_0 t5_0 lx36 a67 f75 f60 fm) x2 x3 x4 t0_0 t0_1 t0_2 t0_3 t0_4 t0_5 t0_6 t1_0 t2_0 t3_0 t4_0 t5_0 lx36 a67 f75 f60 lx395 lx396 ((F_WR_store x4 lx36 (2 : Int32) t0_2 a67 t0_4 t0_5 t0_6 t1_0 t2_0 lx396) : (Int32 × Int32 × Int32 × Int32 × Int32 × Int32 × Int32 × (Nat → Int32) × (Nat → Int32)))) else (F_WR_shift_L92 x2 x3 x4 t0_0 t0_1 t0_2 t0_3 t0_4 t0_5 t0_6 t1_0 t2_0 t3_0 t4_0 t5_0 lx36 a67 f75 f60 fm (lx395 + 1 : Int32) (upd (upd lx396 (lx395 + (x3 / 16 : Int32) : Int32).toNatClampNeg ((lx396 (lx395 + (x3 / 16 : Int32) : Int32).toNatClampNeg : Int32) ||| (((((f60 lx395.toNatClampNeg : Int32).toInt64 : Int64) <<< ((x3 - x3 / 16 * 16 : Int32).toInt64 &&& 63) : Int64) &&& 65535 : Int64).toInt32 : Int32) : Int32) : (Nat → Int32)) ((lx395 + (x3 / 16 : Int32) : Int32) + 1 : Int32).toNatClampNeg (((((f60 lx395.toNatClampNeg : Int32).toInt64 : Int64) <<< ((x3 - x3 / 16 * 16 : Int32).toInt64 &&& 63) : Int64) >>> ((16 : Int32).toInt64 &&& 63) : Int64).toInt32 : Int32) : (Nat → Int32)))
def F_WR_shift_J89 (x2 : Int32) (x3 : Int32) (x4 : Int32) (t0_0 : Int32) (t0_1 : Int32) (t0_2 : Int32) (t0_3 : Int32) (t0_4 : Int32) (t0_5 : Int32) (t0_6 : Int32) (t1_0 : (Nat → Int32)) (t2_0 : (Nat → Int32)) (t3_0 : (Nat → Int32)) (t4_0 : (Nat → Int32)) (t5_0 : (Nat → Int32)) (lx36 : Int32) (a67 : Int32) (f75 : (Nat → Int32)) (f60 : (Nat → Int32)) : Int32 × Int32 × Int32 × Int32 × Int32 × Int32 × Int32 × (Nat → Int32) × (Nat → Int32) × (Nat → Int32) × (Nat → Int32) × (Nat → Int32) := F_WR_shift_L92 x2 x3 x4 t0_0 t0_1 t0_2 t0_3 t0_4 t0_5 t0_6 t1_0 t2_0 t3_0 t4_0 t5_0 lx36 a67 f75 f60 ((2100 - (0 : Int32).toInt).toNat + 1) 0 f75
def F_WR_shift_J20 (x2 : Int32) (x3 : Int32) (x4 : Int32) (t0_0 : Int32) (t0_1 : Int32) (t0_2 : Int32) (t0_3 : Int32) (t0_4 : Int32) (t0_5 : Int32) (t0_6 : Int32) (t1_0 : (Nat → Int32)) (t2_0 : (Nat → Int32)) (t3_0 : (Nat → Int32)) (t4_0 : (Nat → Int32)) (t5_0 : (Nat → Int32)) (lx36 : Int32) : Int32 × Int32 × Int32 × Int32 × Int32 × Int32 × Int32 × (Nat → Int32) × (Nat → Int32) × (Nat → Int32) × (Nat → Int32) × (Nat → Int32) := if lx36 ≤ (0 : Int32) then (if x3 < (0 : Int32) then (F_WR_shift_L189 x2 x3 x4 t0_0 t0_1 t0_2 t0_3 t0_4 t0_5 t0_6 t1_0 t2_0 t3_0 t4_0 t5_0 lx36 (t2_0 x2.toNatClampNeg : Int32) ((F_WR_take x2 (264 : Int32) lx36 (2 : Int32) t0_2 t0_3 t0_4 t0_5 t0_6 t1_0 t5_0) : (Nat → Int32)) ((2048 - (0 : Int32).toInt).toNat + 1) 0 0 ((F_WR_clear (264 : Int32) t3_0) : (Nat → Int32))) else (if x3 ≤ (2048 : Int32) then (F_WR_shift_J89 x2 x3 x4 t0_0 t0_1 t0_2 t0_3 t0_4 t0_5 t0_6 t1_0 t2_0 t3_0 t4_0 t5_0 lx36 (t2_0 x2.toNatClampNeg : Int32) ((F_WR_clear (264 : Int32) t3_0) : (Nat → Int32)) ((F_WR_take x2 (264 : Int32) lx36 (2 : Int32) t0_2 t0_3 t0_4 t0_5 t0_6 t1_0 t5_0) : (Nat → Int32))) else (if ((F_WR_size (264 : Int32) ((F_WR_take x2 (264 : Int32) lx36 (2 : Int32) t0_2 t0_3 t0_4 t0_5 t0_6 t1_0 t5_0) : (Nat → Int32))) : Int32) ≤ (0 : Int32) then (F_WR_shift_J89 x2 x3 x4 t0_0 t0_1 t0_2 t0_3 t0_4 t0_5 t0_6 t1_0 t2_0 t3_0 t4_0 t5_0 lx36 (t2_0 x2.toNatClampNeg : Int32) ((F_WR_clear (264 : Int32) t3_0) : (Nat → Int32)) ((F_WR_take x2 (264 : Int32) lx36 (2 : Int32) t0_2 t0_3 t0_4 t0_5 t0_6 t1_0 t5_0) : (Nat → Int32))) else (((2 : Int32), (2 : Int32), t0_2, (t2_0 x2.toNatClampNeg : Int32), t0_4, t0_5, t0_6, t1_0, t2_0, ((F_WR_clear (264 : Int32) t3_0) : (Nat → Int32)), t4_0, ((F_WR_take x2 (264 : Int32) lx36 (2 : Int32) t0_2 t0_3 t0_4 t0_5 t0_6 t1_0 t5_0) : (Nat → Int32))))))) else ((lx36, t0_1, t0_2, t0_3, t0_4, t0_5, t0_6, t1_0, t2_0, t3_0, t4_0, t5_0))
def F_WR_shift_J15 (x2 : Int32) (x3 : Int32) (x4 : Int32) (t0_0 : Int32) (t0_1 : Int32) (t0_2 : Int32) (t0_3 : Int32) (t0_4 : Int32) (t0_5 : Int32) (t0_6 : Int32) (t1_0 : (Nat → Int32)) (t2_0 : (Nat → Int32)) (t3_0 : (Nat → Int32)) (t4_0 : (Nat → Int32)) (t5_0 : (Nat → Int32)) : Int32 × Int32 × Int32 × Int32 × Int32 × Int32 × Int32 × (Nat → Int32) × (Nat → Int32) × (Nat → Int32) × (Nat → Int32) × (Nat → Int32) := F_WR_shift_J20 x2 x3 x4 t0_0 t0_1 t0_2 t0_3 t0_4 t0_5 t0_6 t1_0 t2_0 t3_0 t4_0 t5_0 1
def F_WR_shift (x2 : Int32) (x3 : Int32) (x4 : Int32) (t0_0 : Int32) (t0_1 : Int32) (t0_2 : Int32) (t0_3 : Int32) (t0_4 : Int32) (t0_5 : Int32) (t0_6 : Int32) (t1_0 : (Nat → Int32)) (t2_0 : (Nat → Int32)) (t3_0 : (Nat → Int32)) (t4_0 : (Nat → Int32)) (t5_0 : (Nat → Int32)) : Int32 × Int32 × Int32 × Int32 × Int32 × Int32 × Int32 × (Nat → Int32) × (Nat → Int32) × (Nat → Int32) × (Nat → Int32) × (Nat → Int32) := if ((F_WR_no x2) : Int32) = (0 : Int32) then (if ((F_WR_no x4) : Int32) = (0 : Int32) then (F_WR_shift_J20 x2 x3 x4 t0_0 t0_1 t0_2 t0_3 t0_4 t0_5 t0_6 t1_0 t2_0 t3_0 t4_0 t5_0 0) else (F_WR_shift_J15 x2 x3 x4 t0_0 t0_1 t0_2 t0_3 t0_4 t0_5 t0_6 t1_0 t2_0 t3_0 t4_0 t5_0)) else (F_WR_shift_J15 x2 x3 x4 t0_0 t0_1 t0_2 t0_3 t0_4 t0_5 t0_6 t1_0 t2_0 t3_0 t4_0 t5_0)
def S_WR_shift_c331 (K_S_WR_shift_L189 : Int32 → Int32 → (Nat → Int32) → Prop) (x2 : Int32) (x3 : Int32) (x4 : Int32) (t0_0 : Int32) (t0_1 : Int32) (t0_2 : Int32) (t0_3 : Int32) (t0_4 : Int32) (t0_5 : Int32) (t0_6 : Int32) (t1_0 : (Nat → Int32)) (t2_0 : (Nat → Int32)) (t3_0 : (Nat → Int32)) (t4_0 : (Nat → Int32)) (t5_0 : (Nat → Int32)) (lx36 : Int32) (a67 : Int32) (f60 : (Nat → Int32)) (lx88 : Int32) (lx89 : Int32) (lx90 : (Nat → Int32)) (p141 : (Int32 × Int32 × Int32 × Int32 × Int32 × Int32 × Int32 × (Nat → Int32) × (Nat → Int32))) : Prop := True
def S_WR_shift_c331_4 (K_S_WR_shift_L189 : Int32 → Int32 → (Nat → Int32) → Prop) (x2 : Int32) (x3 : Int32) (x4 : Int32) (t0_0 : Int32) (t0_1 : Int32) (t0_2 : Int32) (t0_3 : Int32) (t0_4 : Int32) (t0_5 : Int32) (t0_6 : Int32) (t1_0 : (Nat → Int32)) (t2_0 : (Nat → Int32)) (t3_0 : (Nat → Int32)) (t4_0 : (Nat → Int32)) (t5_0 : (Nat → Int32)) (lx36 : Int32) (a67 : Int32) (f60 : (Nat → Int32)) (lx88 : Int32) (lx89 : Int32) (lx90 : (Nat → Int32)) (p189 : (Int32 × Int32 × Int32 × Int32 × Int32 × Int32 × Int32 × (Nat → Int32) × (Nat → Int32))) : Prop := True
def S_WR_shift_c331_5 (K_S_WR_shift_L189 : Int32 → Int32 → (Nat → Int32) → Prop) (x2 : Int32) (x3 : Int32) (x4 : Int32) (t0_0 : Int32) (t0_1 : Int32) (t0_2 : Int32) (t0_3 : Int32) (t0_4 : Int32) (t0_5 : Int32) (t0_6 : Int32) (t1_0 : (Nat → Int32)) (t2_0 : (Nat → Int32)) (t3_0 : (Nat → Int32)) (t4_0 : (Nat → Int32)) (t5_0 : (Nat → Int32)) (lx36 : Int32) (a67 : Int32) (f60 : (Nat → Int32)) (lx88 : Int32) (lx89 : Int32) (lx90 : (Nat → Int32)) (f217 : (Nat → Int32)) (f209 : (Nat → Int32)) (p251 : (Int32 × Int32 × Int32 × Int32 × Int32 × Int32 × Int32 × (Nat → Int32) × (Nat → Int32))) : Prop := True
def S_WR_shift_J248 (K_S_WR_shift_L189 : Int32 → Int32 → (Nat → Int32) → Prop) (x2 : Int32) (x3 : Int32) (x4 : Int32) (t0_0 : Int32) (t0_1 : Int32) (t0_2 : Int32) (t0_3 : Int32) (t0_4 : Int32) (t0_5 : Int32) (t0_6 : Int32) (t1_0 : (Nat → Int32)) (t2_0 : (Nat → Int32)) (t3_0 : (Nat → Int32)) (t4_0 : (Nat → Int32)) (t5_0 : (Nat → Int32)) (lx36 : Int32) (a67 : Int32) (f60 : (Nat → Int32)) (lx88 : Int32) (lx89 : Int32) (lx90 : (Nat → Int32)) (j287 : Int64) (a278 : Int32) (lx290 : Int32) : Prop := if (lg_cmp j287 0 : Int32) < (0 : Int32) then (K_S_WR_shift_L189 (lx88 + 1 : Int32) lx290 lx90) else (K_S_WR_shift_L189 (lx88 + 1 : Int32) lx290 (upd lx90 ((j287.toInt32 : Int32) / 16 : Int32).toNatClampNeg ((lx90 ((j287.toInt32 : Int32) / 16 : Int32).toNatClampNeg : Int32) ||| (a278 <<< (((j287.toInt32 : Int32) - (j287.toInt32 : Int32) / 16 * 16 : Int32) &&& 31) : Int32) : Int32) : (Nat → Int32)))
def S_WR_shift_J243 (K_S_WR_shift_L189 : Int32 → Int32 → (Nat → Int32) → Prop) (x2 : Int32) (x3 : Int32) (x4 : Int32) (t0_0 : Int32) (t0_1 : Int32) (t0_2 : Int32) (t0_3 : Int32) (t0_4 : Int32) (t0_5 : Int32) (t0_6 : Int32) (t1_0 : (Nat → Int32)) (t2_0 : (Nat → Int32)) (t3_0 : (Nat → Int32)) (t4_0 : (Nat → Int32)) (t5_0 : (Nat → Int32)) (lx36 : Int32) (a67 : Int32) (f60 : (Nat → Int32)) (lx88 : Int32) (lx89 : Int32) (lx90 : (Nat → Int32)) (j287 : Int64) (a278 : Int32) : Prop := S_WR_shift_J248 K_S_WR_shift_L189 x2 x3 x4 t0_0 t0_1 t0_2 t0_3 t0_4 t0_5 t0_6 t1_0 t2_0 t3_0 t4_0 t5_0 lx36 a67 f60 lx88 lx89 lx90 j287 a278 1
def S_WR_shift_J247 (K_S_WR_shift_L189 : Int32 → Int32 → (Nat → Int32) → Prop) (x2 : Int32) (x3 : Int32) (x4 : Int32) (t0_0 : Int32) (t0_1 : Int32) (t0_2 : Int32) (t0_3 : Int32) (t0_4 : Int32) (t0_5 : Int32) (t0_6 : Int32) (t1_0 : (Nat → Int32)) (t2_0 : (Nat → Int32)) (t3_0 : (Nat → Int32)) (t4_0 : (Nat → Int32)) (t5_0 : (Nat → Int32)) (lx36 : Int32) (a67 : Int32) (f60 : (Nat → Int32)) (lx88 : Int32) (lx89 : Int32) (lx90 : (Nat → Int32)) (j287 : Int64) (a278 : Int32) : Prop := S_WR_shift_J248 K_S_WR_shift_L189 x2 x3 x4 t0_0 t0_1 t0_2 t0_3 t0_4 t0_5 t0_6 t1_0 t2_0 t3_0 t4_0 t5_0 lx36 a67 f60 lx88 lx89 lx90 j287 a278 0
def S_WR_shift_L189 (x2 : Int32) (x3 : Int32) (x4 : Int32) (t0_0 : Int32) (t0_1 : Int32) (t0_2 : Int32) (t0_3 : Int32) (t0_4 : Int32) (t0_5 : Int32) (t0_6 : Int32) (t1_0 : (Nat → Int32)) (t2_0 : (Nat → Int32)) (t3_0 : (Nat → Int32)) (t4_0 : (Nat → Int32)) (t5_0 : (Nat → Int32)) (lx36 : Int32) (a67 : Int32) (f60 : (Nat → Int32)) : Nat → Int32 → Int32 → (Nat → Int32) → Prop
  | 0, _, _, _ => False
  | fm + 1, lx88, lx89, lx90 => if (2048 : Int32) ≤ lx88 then (if a67 = (0 : Int32) then ((S_WR_store x4 lx36 (2 : Int32) t0_2 a67 t0_4 t0_5 t0_6 t1_0 t2_0 lx90) ∧ (S_WR_shift_c331 (S_WR_shift_L189 x2 x3 x4 t0_0 t0_1 t0_2 t0_3 t0_4 t0_5 t0_6 t1_0 t2_0 t3_0 t4_0 t5_0 lx36 a67 f60 fm) x2 x3 x4 t0_0 t0_1 t0_2 t0_3 t0_4 t0_5 t0_6 t1_0 t2_0 t3_0 t4_0 t5_0 lx36 a67 f60 lx88 lx89 lx90 ((F_WR_store x4 lx36 (2 : Int32) t0_2 a67 t0_4 t0_5 t0_6 t1_0 t2_0 lx90) : (Int32 × Int32 × Int32 × Int32 × Int32 × Int32 × Int32 × (Nat → Int32) × (Nat → Int32))))) else (if lx89 = (0 : Int32) then ((S_WR_store x4 lx36 (2 : Int32) t0_2 a67 t0_4 t0_5 t0_6 t1_0 t2_0 lx90) ∧ (S_WR_shift_c331_4 (S_WR_shift_L189 x2 x3 x4 t0_0 t0_1 t0_2 t0_3 t0_4 t0_5 t0_6 t1_0 t2_0 t3_0 t4_0 t5_0 lx36 a67 f60 fm) x2 x3 x4 t0_0 t0_1 t0_2 t0_3 t0_4 t0_5 t0_6 t1_0 t2_0 t3_0 t4_0 t5_0 lx36 a67 f60 lx88 lx89 lx90 ((F_WR_store x4 lx36 (2 : Int32) t0_2 a67 t0_4 t0_5 t0_6 t1_0 t2_0 lx90) : (Int32 × Int32 × Int32 × Int32 × Int32 × Int32 × Int32 × (Nat → Int32) × (Nat → Int32))))) else ((S_WR_setOne (264 : Int32) lx36 (2 : Int32) t0_2 a67 t0_4 t0_5 t0_6 t4_0) ∧ ((S_WR_join (264 : Int32) (264 : Int32) (1 : Int32) (1 : Int64) (0 : Int32) lx90 ((F_WR_setOne (264 : Int32) lx36 (2 : Int32) t0_2 a67 t0_4 t0_5 t0_6 t4_0) : (Nat → Int32))) ∧ ((S_WR_store x4 lx36 (2 : Int32) t0_2 a67 t0_4 t0_5 t0_6 t1_0 t2_0 ((F_WR_join (264 : Int32) (264 : Int32) (1 : Int32) (1 : Int64) (0 : Int32) lx90 ((F_WR_setOne (264 : Int32) lx36 (2 : Int32) t0_2 a67 t0_4 t0_5 t0_6 t4_0) : (Nat → Int32))) : (Nat → Int32))) ∧ (S_WR_shift_c331_5 (S_WR_shift_L189 x2 x3 x4 t0_0 t0_1 t0_2 t0_3 t0_4 t0_5 t0_6 t1_0 t2_0 t3_0 t4_0 t5_0 lx36 a67 f60 fm) x2 x3 x4 t0_0 t0_1 t0_2 t0_3 t0_4 t0_5 t0_6 t1_0 t2_0 t3_0 t4_0 t5_0 lx36 a67 f60 lx88 lx89 lx90 ((F_WR_join (264 : Int32) (264 : Int32) (1 : Int32) (1 : Int64) (0 : Int32) lx90 ((F_WR_setOne (264 : Int32) lx36 (2 : Int32) t0_2 a67 t0_4 t0_5 t0_6 t4_0) : (Nat → Int32))) : (Nat → Int32)) ((F_WR_setOne (264 : Int32) lx36 (2 : Int32) t0_2 a67 t0_4 t0_5 t0_6 t4_0) : (Nat → Int32)) ((F_WR_store x4 lx36 (2 : Int32) t0_2 a67 t0_4 t0_5 t0_6 t1_0 t2_0 ((F_WR_join (264 : Int32) (264 : Int32) (1 : Int32) (1 : Int64) (0 : Int32) lx90 ((F_WR_setOne (264 : Int32) lx36 (2 : Int32) t0_2 a67 t0_4 t0_5 t0_6 t4_0) : (Nat → Int32))) : (Nat → Int32))) : (Int32 × Int32 × Int32 × Int32 × Int32 × Int32 × Int32 × (Nat → Int32) × (Nat → Int32))))))))) else (if lx89 = (0 : Int32) then (if (((f60 (lx88 / 16 : Int32).toNatClampNeg : Int32) >>> ((lx88 - lx88 / 16 * 16 : Int32) &&& 31) : Int32) &&& 1 : Int32) = (1 : Int32) then (if (0 : Int32) ≤ (lg_cmp ((lx88.toInt64 : Int64) + (x3.toInt64 : Int64) : Int64) 0 : Int32) then (S_WR_shift_J247 (S_WR_shift_L189 x2 x3 x4 t0_0 t0_1 t0_2 t0_3 t0_4 t0_5 t0_6 t1_0 t2_0 t3_0 t4_0 t5_0 lx36 a67 f60 fm) x2 x3 x4 t0_0 t0_1 t0_2 t0_3 t0_4 t0_5 t0_6 t1_0 t2_0 t3_0 t4_0 t5_0 lx36 a67 f60 lx88 lx89 lx90 ((lx88.toInt64 : Int64) + (x3.toInt64 : Int64) : Int64) (((f60 (lx88 / 16 : Int32).toNatClampNeg : Int32) >>> ((lx88 - lx88 / 16 * 16 : Int32) &&& 31) : Int32) &&& 1 : Int32)) else (S_WR_shift_J243 (S_WR_shift_L189 x2 x3 x4 t0_0 t0_1 t0_2 t0_3 t0_4 t0_5 t0_6 t1_0 t2_0 t3_0 t4_0 t5_0 lx36 a67 f60 fm) x2 x3 x4 t0_0 t0_1 t0_2 t0_3 t0_4 t0_5 t0_6 t1_0 t2_0 t3_0 t4_0 t5_0 lx36 a67 f60 lx88 lx89 lx90 ((lx88.toInt64 : Int64) + (x3.toInt64 : Int64) : Int64) (((f60 (lx88 / 16 : Int32).toNatClampNeg : Int32) >>> ((lx88 - lx88 / 16 * 16 : Int32) &&& 31) : Int32) &&& 1 : Int32))) else (S_WR_shift_J247 (S_WR_shift_L189 x2 x3 x4 t0_0 t0_1 t0_2 t0_3 t0_4 t0_5 t0_6 t1_0 t2_0 t3_0 t4_0 t5_0 lx36 a67 f60 fm) x2 x3 x4 t0_0 t0_1 t0_2 t0_3 t0_4 t0_5 t0_6 t1_0 t2_0 t3_0 t4_0 t5_0 lx36 a67 f60 lx88 lx89 lx90 ((lx88.toInt64 : Int64) + (x3.toInt64 : Int64) : Int64) (((f60 (lx88 / 16 : Int32).toNatClampNeg : Int32) >>> ((lx88 - lx88 / 16 * 16 : Int32) &&& 31) : Int32) &&& 1 : Int32))) else (S_WR_shift_J243 (S_WR_shift_L189 x2 x3 x4 t0_0 t0_1 t0_2 t0_3 t0_4 t0_5 t0_6 t1_0 t2_0 t3_0 t4_0 t5_0 lx36 a67 f60 fm) x2 x3 x4 t0_0 t0_1 t0_2 t0_3 t0_4 t0_5 t0_6 t1_0 t2_0 t3_0 t4_0 t5_0 lx36 a67 f60 lx88 lx89 lx90 ((lx88.toInt64 : Int64) + (x3.toInt64 : Int64) : Int64) (((f60 (lx88 / 16 : Int32).toNatClampNeg : Int32) >>> ((lx88 - lx88 / 16 * 16 : Int32) &&& 31) : Int32) &&& 1 : Int32)))
def S_WR_shift_c179 (K_S_WR_shift_L92 : Int32 → (Nat → Int32) → Prop) (x2 : Int32) (x3 : Int32) (x4 : Int32) (t0_0 : Int32) (t0_1 : Int32) (t0_2 : Int32) (t0_3 : Int32) (t0_4 : Int32) (t0_5 : Int32) (t0_6 : Int32) (t1_0 : (Nat → Int32)) (t2_0 : (Nat → Int32)) (t3_0 : (Nat → Int32)) (t4_0 : (Nat → Int32)) (t5_0 : (Nat → Int32)) (lx36 : Int32) (a67 : Int32) (f75 : (Nat → Int32)) (f60 : (Nat → Int32)) (lx395 : Int32) (lx396 : (Nat → Int32)) (p450 : (Int32 × Int32 × Int32 × Int32 × Int32 × Int32 × Int32 × (Nat → Int32) × (Nat → Int32))) : Prop := True
def S_WR_shift_L92 (x2 : Int32) (x3 : Int32) (x4 : Int32) (t0_0 : Int32) (t0_1 : Int32) (t0_2 : Int32) (t0_3 : Int32) (t0_4 : Int32) (t0_5 : Int32) (t0_6 : Int32) (t1_0 : (Nat → Int32)) (t2_0 : (Nat → Int32)) (t3_0 : (Nat → Int32)) (t4_0 : (Nat → Int32)) (t5_0 : (Nat → Int32)) (lx36 : Int32) (a67 : Int32) (f75 : (Nat → Int32)) (f60 : (Nat → Int32)) : Nat → Int32 → (Nat → Int32) → Prop
  | 0, _, _ => False
  | fm + 1, lx395, lx396 => if ((F_WR_size (264 : Int32) f60) : Int32) ≤ lx395 then ((S_WR_store x4 lx36 (2 : Int32) t0_2 a67 t0_4 t0_5 t0_6 t1_0 t2_0 lx396) ∧ (S_WR_shift_c179 (S_WR_shift_L92 x2 x3 x4 t0_0 t0_1 t0_2 t0_3 t0_4 t0_5 t0_6 t1_0 t2_0 t3_0 t4_0 t5_0 lx36 a67 f75 f60 fm) x2 x3 x4 t0_0 t0_1 t0_2 t0_3 t0_4 t0_5 t0_6 t1_0 t2_0 t3_0 t4_0 t5_0 lx36 a67 f75 f60 lx395 lx396 ((F_WR_store x4 lx36 (2 : Int32) t0_2 a67 t0_4 t0_5 t0_6 t1_0 t2_0 lx396) : (Int32 × Int32 × Int32 × Int32 × Int32 × Int32 × Int32 × (Nat → Int32) × (Nat → Int32))))) else (((lx395 + (x3 / 16 : Int32) : Int32).toInt ≤ 263) ∧ ((((lx395 + (x3 / 16 : Int32) : Int32) + 1 : Int32).toInt ≤ 263) ∧ (S_WR_shift_L92 x2 x3 x4 t0_0 t0_1 t0_2 t0_3 t0_4 t0_5 t0_6 t1_0 t2_0 t3_0 t4_0 t5_0 lx36 a67 f75 f60 fm (lx395 + 1 : Int32) (upd (upd lx396 (lx395 + (x3 / 16 : Int32) : Int32).toNatClampNeg ((lx396 (lx395 + (x3 / 16 : Int32) : Int32).toNatClampNeg : Int32) ||| (((((f60 lx395.toNatClampNeg : Int32).toInt64 : Int64) <<< ((x3 - x3 / 16 * 16 : Int32).toInt64 &&& 63) : Int64) &&& 65535 : Int64).toInt32 : Int32) : Int32) : (Nat → Int32)) ((lx395 + (x3 / 16 : Int32) : Int32) + 1 : Int32).toNatClampNeg (((((f60 lx395.toNatClampNeg : Int32).toInt64 : Int64) <<< ((x3 - x3 / 16 * 16 : Int32).toInt64 &&& 63) : Int64) >>> ((16 : Int32).toInt64 &&& 63) : Int64).toInt32 : Int32) : (Nat → Int32)))))
def S_WR_shift_J89 (x2 : Int32) (x3 : Int32) (x4 : Int32) (t0_0 : Int32) (t0_1 : Int32) (t0_2 : Int32) (t0_3 : Int32) (t0_4 : Int32) (t0_5 : Int32) (t0_6 : Int32) (t1_0 : (Nat → Int32)) (t2_0 : (Nat → Int32)) (t3_0 : (Nat → Int32)) (t4_0 : (Nat → Int32)) (t5_0 : (Nat → Int32)) (lx36 : Int32) (a67 : Int32) (f75 : (Nat → Int32)) (f60 : (Nat → Int32)) : Prop := S_WR_shift_L92 x2 x3 x4 t0_0 t0_1 t0_2 t0_3 t0_4 t0_5 t0_6 t1_0 t2_0 t3_0 t4_0 t5_0 lx36 a67 f75 f60 ((2100 - (0 : Int32).toInt).toNat + 1) 0 f75
def S_WR_shift_J20 (x2 : Int32) (x3 : Int32) (x4 : Int32) (t0_0 : Int32) (t0_1 : Int32) (t0_2 : Int32) (t0_3 : Int32) (t0_4 : Int32) (t0_5 : Int32) (t0_6 : Int32) (t1_0 : (Nat → Int32)) (t2_0 : (Nat → Int32)) (t3_0 : (Nat → Int32)) (t4_0 : (Nat → Int32)) (t5_0 : (Nat → Int32)) (lx36 : Int32) : Prop := if lx36 ≤ (0 : Int32) then ((S_WR_take x2 (264 : Int32) lx36 (2 : Int32) t0_2 t0_3 t0_4 t0_5 t0_6 t1_0 t5_0) ∧ ((0 ≤ x2.toInt) ∧ ((x2.toInt ≤ 10) ∧ ((0 ≤ (t2_0 x2.toNatClampNeg : Int32).toInt) ∧ (((t2_0 x2.toNatClampNeg : Int32).toInt ≤ 1) ∧ (if x3 < (0 : Int32) then (S_WR_shift_L189 x2 x3 x4 t0_0 t0_1 t0_2 t0_3 t0_4 t0_5 t0_6 t1_0 t2_0 t3_0 t4_0 t5_0 lx36 (t2_0 x2.toNatClampNeg : Int32) ((F_WR_take x2 (264 : Int32) lx36 (2 : Int32) t0_2 t0_3 t0_4 t0_5 t0_6 t1_0 t5_0) : (Nat → Int32)) ((2048 - (0 : Int32).toInt).toNat + 1) 0 0 ((F_WR_clear (264 : Int32) t3_0) : (Nat → Int32))) else (if x3 ≤ (2048 : Int32) then (S_WR_shift_J89 x2 x3 x4 t0_0 t0_1 t0_2 t0_3 t0_4 t0_5 t0_6 t1_0 t2_0 t3_0 t4_0 t5_0 lx36 (t2_0 x2.toNatClampNeg : Int32) ((F_WR_clear (264 : Int32) t3_0) : (Nat → Int32)) ((F_WR_take x2 (264 : Int32) lx36 (2 : Int32) t0_2 t0_3 t0_4 t0_5 t0_6 t1_0 t5_0) : (Nat → Int32))) else (if ((F_WR_size (264 : Int32) ((F_WR_take x2 (264 : Int32) lx36 (2 : Int32) t0_2 t0_3 t0_4 t0_5 t0_6 t1_0 t5_0) : (Nat → Int32))) : Int32) ≤ (0 : Int32) then (S_WR_shift_J89 x2 x3 x4 t0_0 t0_1 t0_2 t0_3 t0_4 t0_5 t0_6 t1_0 t2_0 t3_0 t4_0 t5_0 lx36 (t2_0 x2.toNatClampNeg : Int32) ((F_WR_clear (264 : Int32) t3_0) : (Nat → Int32)) ((F_WR_take x2 (264 : Int32) lx36 (2 : Int32) t0_2 t0_3 t0_4 t0_5 t0_6 t1_0 t5_0) : (Nat → Int32))) else (True))))))))) else (True)
def S_WR_shift_J15 (x2 : Int32) (x3 : Int32) (x4 : Int32) (t0_0 : Int32) (t0_1 : Int32) (t0_2 : Int32) (t0_3 : Int32) (t0_4 : Int32) (t0_5 : Int32) (t0_6 : Int32) (t1_0 : (Nat → Int32)) (t2_0 : (Nat → Int32)) (t3_0 : (Nat → Int32)) (t4_0 : (Nat → Int32)) (t5_0 : (Nat → Int32)) : Prop := S_WR_shift_J20 x2 x3 x4 t0_0 t0_1 t0_2 t0_3 t0_4 t0_5 t0_6 t1_0 t2_0 t3_0 t4_0 t5_0 1
def S_WR_shift (x2 : Int32) (x3 : Int32) (x4 : Int32) (t0_0 : Int32) (t0_1 : Int32) (t0_2 : Int32) (t0_3 : Int32) (t0_4 : Int32) (t0_5 : Int32) (t0_6 : Int32) (t1_0 : (Nat → Int32)) (t2_0 : (Nat → Int32)) (t3_0 : (Nat → Int32)) (t4_0 : (Nat → Int32)) (t5_0 : (Nat → Int32)) : Prop := if ((F_WR_no x2) : Int32) = (0 : Int32) then (if ((F_WR_no x4) : Int32) = (0 : Int32) then (S_WR_shift_J20 x2 x3 x4 t0_0 t0_1 t0_2 t0_3 t0_4 t0_5 t0_6 t1_0 t2_0 t3_0 t4_0 t5_0 0) else (S_WR_shift_J15 x2 x3 x4 t0_0 t0_1 t0_2 t0_3 t0_4 t0_5 t0_6 t1_0 t2_0 t3_0 t4_0 t5_0)) else (S_WR_shift_J15 x2 x3 x4 t0_0 t0_1 t0_2 t0_3 t0_4 t0_5 t0_6 t1_0 t2_0 t3_0 t4_0 t5_0)
set_option maxRecDepth 100000 in
set_option maxHeartbeats 4000000 in
theorem X_WR_shift (l : Launch) (D : va_G) (g : Nat → ClassId) (q : Nat → Nat) (ws : va_W) (x2 : Int32) (x3 : Int32) (x4 : Int32) (hI : q_I (msh g q) q ws) (t0_0 : Int32) (t0_1 : Int32) (t0_2 : Int32) (t0_3 : Int32) (t0_4 : Int32) (t0_5 : Int32) (t0_6 : Int32) (hT0 : ws[119]? = (some (q 119, .inr (13, [.int t0_0, .int t0_1, .ref (q 120), .int t0_2, .ref (q 121), .ref (q 122), .ref (q 123), .int t0_3, .ref (q 124), .ref (q 125), .ref (q 126), .ref (q 127), .ref (q 128), .ref (q 129), .ref (q 130), .ref (q 131), .int t0_4, .int t0_5, .ref (q 132), .ref (q 133), .int t0_6])) : Option (Nat × va_E))) (t1_0 : (Nat → Int32)) (hT1 : ws[121]? = (some (q 121, .inl (g 0, (1408 : Int32).toNatClampNeg, .inl t1_0)) : Option (Nat × va_E))) (t2_0 : (Nat → Int32)) (hT2 : ws[122]? = (some (q 122, .inl (g 3, 11, .inl t2_0)) : Option (Nat × va_E))) (t3_0 : (Nat → Int32)) (hT3 : ws[123]? = (some (q 123, .inl (g 0, (264 : Int32).toNatClampNeg, .inl t3_0)) : Option (Nat × va_E))) (t4_0 : (Nat → Int32)) (hT4 : ws[124]? = (some (q 124, .inl (g 0, (264 : Int32).toNatClampNeg, .inl t4_0)) : Option (Nat × va_E))) (t5_0 : (Nat → Int32)) (hT5 : ws[128]? = (some (q 128, .inl (g 0, (264 : Int32).toNatClampNeg, .inl t5_0)) : Option (Nat × va_E))) (hS : S_WR_shift x2 x3 x4 t0_0 t0_1 t0_2 t0_3 t0_4 t0_5 t0_6 t1_0 t2_0 t3_0 t4_0 t5_0) : q_mV l y_WR_shift prog_19_method_38_code 9 3 0 0 D g [.ref (q 119), .int x2, .int x3, .int x4] ws (fun u => q_I (msh g q) q u ∧ q_un ws u [119, 121, 122, 123, 124, 128] ∧ ∃ (u0_0 : Int32) (u0_1 : Int32) (u0_2 : Int32) (u0_3 : Int32) (u0_4 : Int32) (u0_5 : Int32) (u0_6 : Int32) (u1_0 : (Nat → Int32)) (u2_0 : (Nat → Int32)) (u3_0 : (Nat → Int32)) (u4_0 : (Nat → Int32)) (u5_0 : (Nat → Int32)), u[119]? = (some (q 119, .inr (13, [.int u0_0, .int u0_1, .ref (q 120), .int u0_2, .ref (q 121), .ref (q 122), .ref (q 123), .int u0_3, .ref (q 124), .ref (q 125), .ref (q 126), .ref (q 127), .ref (q 128), .ref (q 129), .ref (q 130), .ref (q 131), .int u0_4, .int u0_5, .ref (q 132), .ref (q 133), .int u0_6])) : Option (Nat × va_E)) ∧ u[121]? = (some (q 121, .inl (g 0, (1408 : Int32).toNatClampNeg, .inl u1_0)) : Option (Nat × va_E)) ∧ u[122]? = (some (q 122, .inl (g 3, 11, .inl u2_0)) : Option (Nat × va_E)) ∧ u[123]? = (some (q 123, .inl (g 0, (264 : Int32).toNatClampNeg, .inl u3_0)) : Option (Nat × va_E)) ∧ u[124]? = (some (q 124, .inl (g 0, (264 : Int32).toNatClampNeg, .inl u4_0)) : Option (Nat × va_E)) ∧ u[128]? = (some (q 128, .inl (g 0, (264 : Int32).toNatClampNeg, .inl u5_0)) : Option (Nat × va_E)) ∧ (0 ≤ u0_3.toInt) ∧ (u0_3.toInt ≤ 1) ∧ (t0_2.toInt ≤ u0_2.toInt) ∧ (u0_2.toInt ≤ t0_2.toInt) ∧ (t0_4.toInt ≤ u0_4.toInt) ∧ (u0_4.toInt ≤ t0_4.toInt) ∧ (t0_5.toInt ≤ u0_5.toInt) ∧ (u0_5.toInt ≤ t0_5.toInt) ∧ (t0_6.toInt ≤ u0_6.toInt) ∧ (u0_6.toInt ≤ t0_6.toInt) ∧ (u0_0, u0_1, u0_2, u0_3, u0_4, u0_5, u0_6, u1_0, u2_0, u3_0, u4_0, u5_0) = (F_WR_shift x2 x3 x4 t0_0 t0_1 t0_2 t0_3 t0_4 t0_5 t0_6 t1_0 t2_0 t3_0 t4_0 t5_0)) := by
  intro sz
  refine q_into (by decide) (Nat.le_of_ble_eq_true rfl) ?_
  intro p e s m below meth c ls hsz C0 V hl
  have hx := C0.1
  have hb := C0.2.1
  obtain ⟨yy0_0, yy0_1, yy0_2, yy0_3, yy0_4, yy0_5, yy0_6, hh0, btt0_2, btt0_3, btt0_4, btt0_5, btt0_6⟩ := n_o119 hI
  obtain ⟨rfl, rfl, rfl, rfl, rfl, rfl, rfl⟩ : t0_0 = yy0_0 ∧ t0_1 = yy0_1 ∧ t0_2 = yy0_2 ∧ t0_3 = yy0_3 ∧ t0_4 = yy0_4 ∧ t0_5 = yy0_5 ∧ t0_6 = yy0_6 := by have z := Option.some.inj (hT0.symm.trans hh0); simpa using z
  replace btt0_2 : q_F (0 ≤ t0_2.toInt ∧ t0_2.toInt ≤ 4100) := btt0_2
  replace btt0_3 : q_F (0 ≤ t0_3.toInt ∧ t0_3.toInt ≤ 1) := btt0_3
  replace btt0_4 : q_F (0 ≤ t0_4.toInt ∧ t0_4.toInt ≤ 1) := btt0_4
  replace btt0_5 : q_F (0 ≤ t0_5.toInt ∧ t0_5.toInt ≤ 1) := btt0_5
  replace btt0_6 : q_F (0 ≤ t0_6.toInt ∧ t0_6.toInt ≤ 2100) := btt0_6
  have hF : q_un ws ws [119, 121, 122, 123, 124, 128] := q_u0
  have hl : lv_has ls 9 [(0, .ref (q 119)), (1, .int x2), (2, .int x3), (3, .int x4)] := hl
  refine lv_aload_n hx hb d_19_38_0 rfl (lv_at hl 0 rfl) ?_
  refine lv_iload_n hx hb d_19_38_1 rfl (lv_at hl 1 rfl) ?_
  refine q_goi V (q_runS (As := [.int x2]) (rest := [.ref (q 119)]) (d := 1) (mc := 0) (ms := 0) C0 V rfl LS_WR_91 (X_WR_no l D g q ws  x2 hI   _) rfl hl.1 rfl (Nat.le_of_ble_eq_true rfl) ⟨by decide, by decide⟩ ⟨Nat.le_of_ble_eq_true rfl, Nat.le_of_ble_eq_true rfl⟩ d_19_38_2) (fun a31 u29 H locs hp30 V => ?_)
  obtain ⟨rfl, b32, b33, hE34⟩ := hp30
  have e35 : a31 = (F_WR_no x2) := hE34
  replace b32 : q_F (0 ≤ a31.toInt) := b32
  replace b33 : q_F (a31.toInt ≤ 1) := b33
  refine q_join (X := Int32) (fun z H locs ls _ => q_F (0 ≤ z.toInt) ∧ q_F (z.toInt ≤ 1) ∧ q_Wd D g (va_A ws sz) s ws H locs ∧ lv_has ls 9 [(0, .ref (q 119)), (1, .int x2), (2, .int x3), (3, .int x4)] ∧ F_WR_shift_J20 x2 x3 x4 t0_0 t0_1 t0_2 t0_3 t0_4 t0_5 t0_6 t1_0 t2_0 t3_0 t4_0 t5_0 z = (F_WR_shift x2 x3 x4 t0_0 t0_1 t0_2 t0_3 t0_4 t0_5 t0_6 t1_0 t2_0 t3_0 t4_0 t5_0) ∧ S_WR_shift_J20 x2 x3 x4 t0_0 t0_1 t0_2 t0_3 t0_4 t0_5 t0_6 t1_0 t2_0 t3_0 t4_0 t5_0 z) (fun z => [.int z, .ref (q 119)]) 20 0 0 ?_ ?_
  ·
    rintro lx36 H locs ls _ ⟨i44, i45, V, hl, hR46, hS47⟩
    replace i44 : q_F (0 ≤ lx36.toInt) := i44
    replace i45 : q_F (lx36.toInt ≤ 1) := i45
    replace hl : lv_has ls 9 [(0, .ref (q 119)), (1, .int x2), (2, .int x3), (3, .int x4)] := hl
    refine q_put (ci := 13) (j := 0) (v := .int lx36) (ty := .int) C0 V i_WR o_WR n_WR rfl rfl hT0 (by decide) w_1921 rfl rfl rfl rfl (Nat.le_of_ble_eq_true rfl) d_19_38_20 (fun H locs w51 hu52 hT0 V => ?_)
    replace hT0 : w51[119]? = (some (q 119, .inr (13, [.int lx36, .int t0_1, .ref (q 120), .int t0_2, .ref (q 121), .ref (q 122), .ref (q 123), .int t0_3, .ref (q 124), .ref (q 125), .ref (q 126), .ref (q 127), .ref (q 128), .ref (q 129), .ref (q 130), .ref (q 131), .int t0_4, .int t0_5, .ref (q 132), .ref (q 133), .int t0_6])) : Option (Nat × va_E)) := hT0
    replace hI := n_p119 hI hu52 hT0 ⟨(by have t1 : 0 ≤ t0_2.toInt ∧ t0_2.toInt ≤ 4100 := btt0_2; omega), (by have t1 : 0 ≤ t0_2.toInt ∧ t0_2.toInt ≤ 4100 := btt0_2; omega)⟩ ⟨(by have t1 : 0 ≤ t0_3.toInt ∧ t0_3.toInt ≤ 1 := btt0_3; omega), (by have t1 : 0 ≤ t0_3.toInt ∧ t0_3.toInt ≤ 1 := btt0_3; omega)⟩ ⟨(by have t1 : 0 ≤ t0_4.toInt ∧ t0_4.toInt ≤ 1 := btt0_4; omega), (by have t1 : 0 ≤ t0_4.toInt ∧ t0_4.toInt ≤ 1 := btt0_4; omega)⟩ ⟨(by have t1 : 0 ≤ t0_5.toInt ∧ t0_5.toInt ≤ 1 := btt0_5; omega), (by have t1 : 0 ≤ t0_5.toInt ∧ t0_5.toInt ≤ 1 := btt0_5; omega)⟩ ⟨(by have t1 : 0 ≤ t0_6.toInt ∧ t0_6.toInt ≤ 2100 := btt0_6; omega), (by have t1 : 0 ≤ t0_6.toInt ∧ t0_6.toInt ≤ 2100 := btt0_6; omega)⟩
    replace hT1 := (hu52 _ (by decide)).trans hT1
    replace hT2 := (hu52 _ (by decide)).trans hT2
    replace hT3 := (hu52 _ (by decide)).trans hT3
    replace hT4 := (hu52 _ (by decide)).trans hT4
    replace hT5 := (hu52 _ (by decide)).trans hT5
    replace hF := q_us hF hu52 (by simp)
    refine lv_aload_n hx hb d_19_38_23 rfl (lv_at hl 0 rfl) ?_
    refine q_get (ci := 13) (j := 0) (v := .int lx36) C0 V i_WR rfl rfl hT0 (by decide) w_1921 rfl d_19_38_24 ?_
    refine lv_if_le (tgt := 31) hx hb d_19_38_27 (by decide) (fun c53 => ?_) (fun c53 => ?_)
    ·
      have b54 : q_F (lx36.toInt ≤ 0) := (q_leI c53)
      refine lv_aload_n hx hb d_19_38_31 rfl (lv_at hl 0 rfl) ?_
      refine lv_iconst (v := 2) hx hb d_19_38_32 (by decide) ?_
      refine q_put (ci := 13) (j := 1) (v := .int 2) (ty := .int) C0 V i_WR o_WR n_WR rfl rfl hT0 (by decide) w_1923 rfl rfl rfl rfl (Nat.le_of_ble_eq_true rfl) d_19_38_33 (fun H locs w55 hu56 hT0 V => ?_)
      replace hT0 : w55[119]? = (some (q 119, .inr (13, [.int lx36, .int 2, .ref (q 120), .int t0_2, .ref (q 121), .ref (q 122), .ref (q 123), .int t0_3, .ref (q 124), .ref (q 125), .ref (q 126), .ref (q 127), .ref (q 128), .ref (q 129), .ref (q 130), .ref (q 131), .int t0_4, .int t0_5, .ref (q 132), .ref (q 133), .int t0_6])) : Option (Nat × va_E)) := hT0
      replace hI := n_p119 hI hu56 hT0 ⟨(by have t1 : 0 ≤ t0_2.toInt ∧ t0_2.toInt ≤ 4100 := btt0_2; omega), (by have t1 : 0 ≤ t0_2.toInt ∧ t0_2.toInt ≤ 4100 := btt0_2; omega)⟩ ⟨(by have t1 : 0 ≤ t0_3.toInt ∧ t0_3.toInt ≤ 1 := btt0_3; omega), (by have t1 : 0 ≤ t0_3.toInt ∧ t0_3.toInt ≤ 1 := btt0_3; omega)⟩ ⟨(by have t1 : 0 ≤ t0_4.toInt ∧ t0_4.toInt ≤ 1 := btt0_4; omega), (by have t1 : 0 ≤ t0_4.toInt ∧ t0_4.toInt ≤ 1 := btt0_4; omega)⟩ ⟨(by have t1 : 0 ≤ t0_5.toInt ∧ t0_5.toInt ≤ 1 := btt0_5; omega), (by have t1 : 0 ≤ t0_5.toInt ∧ t0_5.toInt ≤ 1 := btt0_5; omega)⟩ ⟨(by have t1 : 0 ≤ t0_6.toInt ∧ t0_6.toInt ≤ 2100 := btt0_6; omega), (by have t1 : 0 ≤ t0_6.toInt ∧ t0_6.toInt ≤ 2100 := btt0_6; omega)⟩
      replace hT1 := (hu56 _ (by decide)).trans hT1
      replace hT2 := (hu56 _ (by decide)).trans hT2
      replace hT3 := (hu56 _ (by decide)).trans hT3
      replace hT4 := (hu56 _ (by decide)).trans hT4
      replace hT5 := (hu56 _ (by decide)).trans hT5
      replace hF := q_us hF hu56 (by simp)
      refine lv_aload_n hx hb d_19_38_36 rfl (lv_at hl 0 rfl) ?_
      refine lv_iload_n hx hb d_19_38_37 rfl (lv_at hl 1 rfl) ?_
      refine lv_aload_n hx hb d_19_38_38 rfl (lv_at hl 0 rfl) ?_
      refine q_get (ci := 13) (j := 12) (v := .ref (q 128)) C0 V i_WR rfl rfl hT0 (by decide) w_1936 rfl d_19_38_39 ?_
      have ob57 : q_F (S_WR_take x2 (264 : Int32) lx36 (2 : Int32) t0_2 t0_3 t0_4 t0_5 t0_6 t1_0 t5_0) := (by have h := hS47; rw [S_WR_shift_J20.eq_1] at h; rw [if_pos c53] at h; exact h.1)
      refine q_gov V (q_runV (As := [.int x2, .ref (q 128)]) (rest := []) (d := 1) (mc := 0) (ms := 0) (ci := 13) C0 V rfl LV_WR_107 (X_WR_take l D g q w55 128 264 (n_r128 g q) x2 (by decide) hI lx36 2 t0_2 t0_3 t0_4 t0_5 t0_6 hT0 t1_0 hT1 t5_0 hT5 ob57 _) rfl rfl hT0 rfl hl.1 rfl (Nat.le_of_ble_eq_true rfl) ⟨by decide, by decide⟩ ⟨Nat.le_of_ble_eq_true rfl, Nat.le_of_ble_eq_true rfl⟩ d_19_38_42) (fun u58 H locs hp59 V => ?_)
      obtain ⟨hI, hu63, f60, hA61, hE62⟩ := hp59
      replace hA61 : u58[128]? = (some (q 128, .inl (g 0, (264 : Int32).toNatClampNeg, .inl f60)) : Option (Nat × va_E)) := hA61
      have e64 : f60 = (F_WR_take x2 (264 : Int32) lx36 (2 : Int32) t0_2 t0_3 t0_4 t0_5 t0_6 t1_0 t5_0) := hE62
      replace hT0 := (hu63 _ (by decide)).trans hT0
      replace hT1 := (hu63 _ (by decide)).trans hT1
      replace hT2 := (hu63 _ (by decide)).trans hT2
      replace hT3 := (hu63 _ (by decide)).trans hT3
      replace hT4 := (hu63 _ (by decide)).trans hT4
      replace hF := q_uc hF hu63 (by simp)
      refine lv_aload_n hx hb d_19_38_45 rfl (lv_at hl 0 rfl) ?_
      refine lv_aload_n hx hb d_19_38_46 rfl (lv_at hl 0 rfl) ?_
      refine q_get (ci := 13) (j := 5) (v := .ref (q 122)) C0 V i_WR rfl rfl hT0 (by decide) w_1929 rfl d_19_38_47 ?_
      refine lv_iload_n hx hb d_19_38_50 rfl (lv_at hl 1 rfl) ?_
      have ob65 : q_F (0 ≤ x2.toInt) := (by have h := hS47; rw [S_WR_shift_J20.eq_1] at h; rw [if_pos c53] at h; replace h := h.2; exact h.1)
      have ob66 : q_F (x2.toInt ≤ 10) := (by have h := hS47; rw [S_WR_shift_J20.eq_1] at h; rw [if_pos c53] at h; replace h := h.2; replace h := h.2; exact h.1)
      refine q_zald C0 V hT2 (q_ix (x := x2.toInt) rfl (by have t1 : 0 ≤ x2.toInt := ob65; omega) (by have t1 : 0 ≤ x2.toInt := ob65; have t2 : x2.toInt ≤ 10 := ob66; omega)) d_19_38_51 ?_
      obtain ⟨a67, e68⟩ := q_nm (t2_0 x2.toNatClampNeg : Int32)
      refine q_ti (v := a67) e68 ?_
      have ob71 : q_F (0 ≤ a67.toInt) := (by subst e68; have h := hS47; rw [S_WR_shift_J20.eq_1] at h; rw [if_pos c53] at h; replace h := h.2; replace h := h.2; replace h := h.2; exact h.1)
      have ob72 : q_F (a67.toInt ≤ 1) := (by subst e68; have h := hS47; rw [S_WR_shift_J20.eq_1] at h; rw [if_pos c53] at h; replace h := h.2; replace h := h.2; replace h := h.2; replace h := h.2; exact h.1)
      refine q_put (ci := 13) (j := 7) (v := .int a67) (ty := .boolean) C0 V i_WR o_WR n_WR rfl rfl hT0 (by decide) w_1931 rfl rfl (q_nz01 (q_Ile (x := 0) (y := a67.toInt) (by decide) rfl (by have t1 : 0 ≤ a67.toInt := ob71; omega)) (q_Ile (x := a67.toInt) (y := 1) rfl (by decide) (by have t1 : a67.toInt ≤ 1 := ob72; omega))) (q_fz01 (q_Ile (x := 0) (y := a67.toInt) (by decide) rfl (by have t1 : 0 ≤ a67.toInt := ob71; omega)) (q_Ile (x := a67.toInt) (y := 1) rfl (by decide) (by have t1 : a67.toInt ≤ 1 := ob72; omega))) (Nat.le_of_ble_eq_true rfl) d_19_38_52 (fun H locs w69 hu70 hT0 V => ?_)
      replace hT0 : w69[119]? = (some (q 119, .inr (13, [.int lx36, .int 2, .ref (q 120), .int t0_2, .ref (q 121), .ref (q 122), .ref (q 123), .int a67, .ref (q 124), .ref (q 125), .ref (q 126), .ref (q 127), .ref (q 128), .ref (q 129), .ref (q 130), .ref (q 131), .int t0_4, .int t0_5, .ref (q 132), .ref (q 133), .int t0_6])) : Option (Nat × va_E)) := hT0
      replace hI := n_p119 hI hu70 hT0 ⟨(by have t1 : 0 ≤ t0_2.toInt ∧ t0_2.toInt ≤ 4100 := btt0_2; omega), (by have t1 : 0 ≤ t0_2.toInt ∧ t0_2.toInt ≤ 4100 := btt0_2; omega)⟩ ⟨(by have t1 : 0 ≤ a67.toInt := ob71; omega), (by have t1 : a67.toInt ≤ 1 := ob72; omega)⟩ ⟨(by have t1 : 0 ≤ t0_4.toInt ∧ t0_4.toInt ≤ 1 := btt0_4; omega), (by have t1 : 0 ≤ t0_4.toInt ∧ t0_4.toInt ≤ 1 := btt0_4; omega)⟩ ⟨(by have t1 : 0 ≤ t0_5.toInt ∧ t0_5.toInt ≤ 1 := btt0_5; omega), (by have t1 : 0 ≤ t0_5.toInt ∧ t0_5.toInt ≤ 1 := btt0_5; omega)⟩ ⟨(by have t1 : 0 ≤ t0_6.toInt ∧ t0_6.toInt ≤ 2100 := btt0_6; omega), (by have t1 : 0 ≤ t0_6.toInt ∧ t0_6.toInt ≤ 2100 := btt0_6; omega)⟩
      replace hT1 := (hu70 _ (by decide)).trans hT1
      replace hT2 := (hu70 _ (by decide)).trans hT2
      replace hT3 := (hu70 _ (by decide)).trans hT3
      replace hT4 := (hu70 _ (by decide)).trans hT4
      replace hA61 := (hu70 _ (by decide)).trans hA61
      replace hF := q_us hF hu70 (by simp)
      refine lv_aload_n hx hb d_19_38_55 rfl (lv_at hl 0 rfl) ?_
      refine q_get (ci := 13) (j := 6) (v := .ref (q 123)) C0 V i_WR rfl rfl hT0 (by decide) w_1930 rfl d_19_38_56 ?_
      refine q_gov V (q_runS (As := [.ref (q 123)]) (rest := []) (d := 1) (mc := 0) (ms := 0) C0 V rfl LS_WR_63 (X_WR_clear l D g q w69 123 264 (n_r123 g q)  hI t3_0 hT3  _) rfl hl.1 rfl (Nat.le_of_ble_eq_true rfl) ⟨by decide, by decide⟩ ⟨Nat.le_of_ble_eq_true rfl, Nat.le_of_ble_eq_true rfl⟩ d_19_38_59) (fun u73 H locs hp74 V => ?_)
      obtain ⟨hI, hu78, f75, hA76, hE77⟩ := hp74
      replace hA76 : u73[123]? = (some (q 123, .inl (g 0, (264 : Int32).toNatClampNeg, .inl f75)) : Option (Nat × va_E)) := hA76
      have e79 : f75 = (F_WR_clear (264 : Int32) t3_0) := hE77
      replace hT0 := (hu78 _ (by decide)).trans hT0
      replace hT1 := (hu78 _ (by decide)).trans hT1
      replace hT2 := (hu78 _ (by decide)).trans hT2
      replace hT4 := (hu78 _ (by decide)).trans hT4
      replace hA61 := (hu78 _ (by decide)).trans hA61
      replace hF := q_uc hF hu78 (by simp)
      refine lv_iload_n hx hb d_19_38_62 rfl (lv_at hl 2 rfl) ?_
      refine lv_if_lt (tgt := 183) hx hb d_19_38_63 (by decide) (fun c80 => ?_) (fun c80 => ?_)
      ·
        have b81 : q_F (x3.toInt < 0) := (q_ltI c80)
        refine lv_iconst (v := 0) hx hb d_19_38_183 (by decide) ?_
        refine lv_istore (lv' := [(4, .int 0), (0, .ref (q 119)), (1, .int x2), (2, .int x3), (3, .int x4)]) hx hb d_19_38_184 hl (by decide) rfl (fun ls hl => ?_)
        refine lv_iconst (v := 0) hx hb d_19_38_186 (by decide) ?_
        refine lv_istore (lv' := [(5, .int 0), (4, .int 0), (0, .ref (q 119)), (1, .int x2), (2, .int x3), (3, .int x4)]) hx hb d_19_38_187 hl (by decide) rfl (fun ls hl => ?_)
        refine q_loop (X := Int32 × Int32 × (Nat → Int32)) (fun z H locs ls w96 => q_F (z.1.toInt ≤ 2048) ∧ q_F (z.2.1.toInt ≤ 1) ∧ q_F (lx36.toInt ≤ z.2.1.toInt) ∧ q_F (z.2.1.toInt ≤ z.1.toInt) ∧ q_Wd D g (va_A ws sz) s w96 H locs ∧ lv_has ls 9 [(5, .int z.1), (4, .int z.2.1), (0, .ref (q 119)), (2, .int x3), (3, .int x4)] ∧ q_I (msh g q) q w96 ∧ q_un ws w96 [119, 121, 122, 123, 124, 128] ∧ w96[119]? = (some (q 119, .inr (13, [.int lx36, .int 2, .ref (q 120), .int t0_2, .ref (q 121), .ref (q 122), .ref (q 123), .int a67, .ref (q 124), .ref (q 125), .ref (q 126), .ref (q 127), .ref (q 128), .ref (q 129), .ref (q 130), .ref (q 131), .int t0_4, .int t0_5, .ref (q 132), .ref (q 133), .int t0_6])) : Option (Nat × va_E)) ∧ w96[121]? = (some (q 121, .inl (g 0, (1408 : Int32).toNatClampNeg, .inl t1_0)) : Option (Nat × va_E)) ∧ w96[122]? = (some (q 122, .inl (g 3, 11, .inl t2_0)) : Option (Nat × va_E)) ∧ w96[123]? = (some (q 123, .inl (g 0, (264 : Int32).toNatClampNeg, .inl z.2.2)) : Option (Nat × va_E)) ∧ w96[124]? = (some (q 124, .inl (g 0, (264 : Int32).toNatClampNeg, .inl t4_0)) : Option (Nat × va_E)) ∧ w96[128]? = (some (q 128, .inl (g 0, (264 : Int32).toNatClampNeg, .inl f60)) : Option (Nat × va_E)) ∧ (∃ n, (2048 - z.1.toInt).toNat < n ∧ F_WR_shift_L189 x2 x3 x4 t0_0 t0_1 t0_2 t0_3 t0_4 t0_5 t0_6 t1_0 t2_0 t3_0 t4_0 t5_0 lx36 a67 f60 n z.1 z.2.1 z.2.2 = (F_WR_shift x2 x3 x4 t0_0 t0_1 t0_2 t0_3 t0_4 t0_5 t0_6 t1_0 t2_0 t3_0 t4_0 t5_0) ∧ S_WR_shift_L189 x2 x3 x4 t0_0 t0_1 t0_2 t0_3 t0_4 t0_5 t0_6 t1_0 t2_0 t3_0 t4_0 t5_0 lx36 a67 f60 n z.1 z.2.1 z.2.2)) (fun z => (2048 - z.1.toInt).toNat) ?_ ((0 : Int32), (0 : Int32), (f75 : (Nat → Int32))) _ _ _ u73 ⟨(show q_F (0 ≤ 2048) from (show 0 ≤ 2048 from by omega)), (show q_F (0 ≤ 1) from (show 0 ≤ 1 from by omega)), (show q_F (lx36.toInt ≤ 0) from (show lx36.toInt ≤ 0 from by have t1 : lx36.toInt ≤ 0 := b54; omega)), (show q_F (0 ≤ 0) from (show 0 ≤ 0 from by omega)), V, q_lw hl (q_lw1 0 rfl (q_lw1 1 rfl (q_lw1 2 rfl (q_lw1 4 rfl (q_lw1 5 rfl q_lw0))))), hI, hF, hT0, hT1, hT2, hA76, hT4, hA61, ⟨((2048 - (0 : Int32).toInt).toNat + 1), Nat.lt_succ_self _, (show F_WR_shift_L189 x2 x3 x4 t0_0 t0_1 t0_2 t0_3 t0_4 t0_5 t0_6 t1_0 t2_0 t3_0 t4_0 t5_0 lx36 a67 f60 ((2048 - (0 : Int32).toInt).toNat + 1) 0 0 f75 = (F_WR_shift x2 x3 x4 t0_0 t0_1 t0_2 t0_3 t0_4 t0_5 t0_6 t1_0 t2_0 t3_0 t4_0 t5_0) from Eq.trans (by subst e64; subst e68; subst e79; rw [F_WR_shift_J20.eq_1, if_pos c53, if_pos c80]) hR46), (show S_WR_shift_L189 x2 x3 x4 t0_0 t0_1 t0_2 t0_3 t0_4 t0_5 t0_6 t1_0 t2_0 t3_0 t4_0 t5_0 lx36 a67 f60 ((2048 - (0 : Int32).toInt).toNat + 1) 0 0 f75 from (by subst e64; subst e68; subst e79; have h := hS47; rw [S_WR_shift_J20.eq_1] at h; rw [if_pos c53] at h; replace h := h.2; replace h := h.2; replace h := h.2; replace h := h.2; replace h := h.2; rw [if_pos c80] at h; exact h))⟩⟩
        rintro ⟨lx88, lx89, lx90⟩ H locs ls w96 ⟨i91, i92, i93, i94, V, hl, hI, hF, hO97, hO98, hO99, hO100, hO101, hO102, ⟨fu105, hf106, hR103, hS104⟩⟩ ih95
        obtain ⟨fm107, rfl⟩ : ∃ m, fu105 = m + 1 := ⟨fu105 - 1, by omega⟩
        replace i91 : q_F (lx88.toInt ≤ 2048) := i91
        replace i92 : q_F (lx89.toInt ≤ 1) := i92
        replace i93 : q_F (lx36.toInt ≤ lx89.toInt) := i93
        replace i94 : q_F (lx89.toInt ≤ lx88.toInt) := i94
        replace hl : lv_has ls 9 [(5, .int lx88), (4, .int lx89), (0, .ref (q 119)), (2, .int x3), (3, .int x4)] := hl
        replace hO97 : w96[119]? = (some (q 119, .inr (13, [.int lx36, .int 2, .ref (q 120), .int t0_2, .ref (q 121), .ref (q 122), .ref (q 123), .int a67, .ref (q 124), .ref (q 125), .ref (q 126), .ref (q 127), .ref (q 128), .ref (q 129), .ref (q 130), .ref (q 131), .int t0_4, .int t0_5, .ref (q 132), .ref (q 133), .int t0_6])) : Option (Nat × va_E)) := hO97
        replace hO98 : w96[121]? = (some (q 121, .inl (g 0, (1408 : Int32).toNatClampNeg, .inl t1_0)) : Option (Nat × va_E)) := hO98
        replace hO99 : w96[122]? = (some (q 122, .inl (g 3, 11, .inl t2_0)) : Option (Nat × va_E)) := hO99
        replace hO100 : w96[123]? = (some (q 123, .inl (g 0, (264 : Int32).toNatClampNeg, .inl lx90)) : Option (Nat × va_E)) := hO100
        replace hO101 : w96[124]? = (some (q 124, .inl (g 0, (264 : Int32).toNatClampNeg, .inl t4_0)) : Option (Nat × va_E)) := hO101
        replace hO102 : w96[128]? = (some (q 128, .inl (g 0, (264 : Int32).toNatClampNeg, .inl f60)) : Option (Nat × va_E)) := hO102
        refine lv_iload hx hb d_19_38_189 (lv_at hl 0 rfl) ?_
        refine lv_sipush (v := 2048) hx hb d_19_38_191 (by decide) ?_
        refine lv_icmp_ge (tgt := 295) hx hb d_19_38_194 (by decide) (fun c108 => ?_) (fun c108 => ?_)
        ·
          have b109 : q_F (2048 ≤ lx88.toInt) := (q_leI c108)
          refine lv_aload_n hx hb d_19_38_295 rfl (lv_at hl 2 rfl) ?_
          refine q_get (ci := 13) (j := 7) (v := .int a67) C0 V i_WR rfl rfl hO97 (by decide) w_1931 rfl d_19_38_296 ?_
          refine lv_if_eq (tgt := 329) hx hb d_19_38_299 (by decide) (fun c110 => ?_) (fun c110 => ?_)
          ·
            have b111 : q_F (a67.toInt = 0) := (q_eqI c110)
            refine lv_aload_n hx hb d_19_38_329 rfl (lv_at hl 2 rfl) ?_
            refine lv_iload_n hx hb d_19_38_330 rfl (lv_at hl 4 rfl) ?_
            have ob112 : q_F (S_WR_store x4 lx36 (2 : Int32) t0_2 a67 t0_4 t0_5 t0_6 t1_0 t2_0 lx90) := (by have h := hS104; rw [S_WR_shift_L189.eq_2] at h; rw [if_pos c108] at h; rw [if_pos c110] at h; exact h.1)
            refine q_gov V (q_runV (As := [.int x4]) (rest := []) (d := 2) (mc := 0) (ms := 0) (ci := 13) C0 V rfl LV_WR_103 (X_WR_store l D g q w96  x4 hI lx36 2 t0_2 a67 t0_4 t0_5 t0_6 hO97 t1_0 hO98 t2_0 hO99 lx90 hO100 ob112 _) rfl rfl hO97 rfl hl.1 rfl (Nat.le_of_ble_eq_true rfl) ⟨by decide, by decide⟩ ⟨Nat.le_of_ble_eq_true rfl, Nat.le_of_ble_eq_true rfl⟩ d_19_38_331) (fun u113 H locs hp114 V => ?_)
            obtain ⟨hI, hu140, y116, y117, y118, y119, y120, y121, y122, f123, f125, hO115, hA124, hA126, b127, b128, b129, b130, b131, b132, b133, b134, b135, b136, b137, b138, hE139⟩ := hp114
            replace hO115 : u113[119]? = (some (q 119, .inr (13, [.int y116, .int y117, .ref (q 120), .int y118, .ref (q 121), .ref (q 122), .ref (q 123), .int y119, .ref (q 124), .ref (q 125), .ref (q 126), .ref (q 127), .ref (q 128), .ref (q 129), .ref (q 130), .ref (q 131), .int y120, .int y121, .ref (q 132), .ref (q 133), .int y122])) : Option (Nat × va_E)) := hO115
            replace hA124 : u113[121]? = (some (q 121, .inl (g 0, (1408 : Int32).toNatClampNeg, .inl f123)) : Option (Nat × va_E)) := hA124
            replace hA126 : u113[122]? = (some (q 122, .inl (g 3, 11, .inl f125)) : Option (Nat × va_E)) := hA126
            obtain ⟨p141, e142⟩ : ∃ z, z = (F_WR_store x4 lx36 (2 : Int32) t0_2 a67 t0_4 t0_5 t0_6 t1_0 t2_0 lx90) := ⟨_, rfl⟩
            have e143 : y116 = p141.1 := congrArg (fun z => z.1) (hE139.trans e142.symm)
            have e144 : y117 = p141.2.1 := congrArg (fun z => z.2.1) (hE139.trans e142.symm)
            have e145 : y118 = p141.2.2.1 := congrArg (fun z => z.2.2.1) (hE139.trans e142.symm)
            have e146 : y119 = p141.2.2.2.1 := congrArg (fun z => z.2.2.2.1) (hE139.trans e142.symm)
            have e147 : y120 = p141.2.2.2.2.1 := congrArg (fun z => z.2.2.2.2.1) (hE139.trans e142.symm)
            have e148 : y121 = p141.2.2.2.2.2.1 := congrArg (fun z => z.2.2.2.2.2.1) (hE139.trans e142.symm)
            have e149 : y122 = p141.2.2.2.2.2.2.1 := congrArg (fun z => z.2.2.2.2.2.2.1) (hE139.trans e142.symm)
            have e150 : f123 = p141.2.2.2.2.2.2.2.1 := congrArg (fun z => z.2.2.2.2.2.2.2.1) (hE139.trans e142.symm)
            have e151 : f125 = p141.2.2.2.2.2.2.2.2 := congrArg (fun z => z.2.2.2.2.2.2.2.2) (hE139.trans e142.symm)
            replace b127 : q_F (2 ≤ y117.toInt) := b127
            replace b128 : q_F (y117.toInt ≤ 2) := b128
            replace b129 : q_F (t0_2.toInt ≤ y118.toInt) := b129
            replace b130 : q_F (y118.toInt ≤ t0_2.toInt) := b130
            replace b131 : q_F (a67.toInt ≤ y119.toInt) := b131
            replace b132 : q_F (y119.toInt ≤ a67.toInt) := b132
            replace b133 : q_F (t0_4.toInt ≤ y120.toInt) := b133
            replace b134 : q_F (y120.toInt ≤ t0_4.toInt) := b134
            replace b135 : q_F (t0_5.toInt ≤ y121.toInt) := b135
            replace b136 : q_F (y121.toInt ≤ t0_5.toInt) := b136
            replace b137 : q_F (t0_6.toInt ≤ y122.toInt) := b137
            replace b138 : q_F (y122.toInt ≤ t0_6.toInt) := b138
            replace hO100 := (hu140 _ (by decide)).trans hO100
            replace hO101 := (hu140 _ (by decide)).trans hO101
            replace hO102 := (hu140 _ (by decide)).trans hO102
            replace hF := q_uc hF hu140 (by simp)
            have hR152 := (show F_WR_shift_c331 (F_WR_shift_L189 x2 x3 x4 t0_0 t0_1 t0_2 t0_3 t0_4 t0_5 t0_6 t1_0 t2_0 t3_0 t4_0 t5_0 lx36 a67 f60 fm107) x2 x3 x4 t0_0 t0_1 t0_2 t0_3 t0_4 t0_5 t0_6 t1_0 t2_0 t3_0 t4_0 t5_0 lx36 a67 f60 lx88 lx89 lx90 p141 = (F_WR_shift x2 x3 x4 t0_0 t0_1 t0_2 t0_3 t0_4 t0_5 t0_6 t1_0 t2_0 t3_0 t4_0 t5_0) from Eq.trans (by subst e142; rw [F_WR_shift_L189.eq_2, if_pos c108, if_pos c110]) hR103)
            have hS153 := (show S_WR_shift_c331 (S_WR_shift_L189 x2 x3 x4 t0_0 t0_1 t0_2 t0_3 t0_4 t0_5 t0_6 t1_0 t2_0 t3_0 t4_0 t5_0 lx36 a67 f60 fm107) x2 x3 x4 t0_0 t0_1 t0_2 t0_3 t0_4 t0_5 t0_6 t1_0 t2_0 t3_0 t4_0 t5_0 lx36 a67 f60 lx88 lx89 lx90 p141 from (by subst e142; have h := hS104; rw [S_WR_shift_L189.eq_2] at h; rw [if_pos c108] at h; rw [if_pos c110] at h; replace h := h.2; exact h))
            exact q_retv C0 V (⟨hI, hF, y116, y117, y118, y119, y120, y121, y122, f123, f125, lx90, t4_0, f60, hO115, hA124, hA126, hO100, hO101, hO102, (show 0 ≤ y119.toInt from (by have t1 : 0 ≤ a67.toInt := ob71; have t2 : a67.toInt ≤ y119.toInt := b131; omega)), (show y119.toInt ≤ 1 from (by have t1 : a67.toInt ≤ 1 := ob72; have t2 : y119.toInt ≤ a67.toInt := b132; omega)), (show t0_2.toInt ≤ y118.toInt from (by have t1 : t0_2.toInt ≤ y118.toInt := b129; omega)), (show y118.toInt ≤ t0_2.toInt from (by have t1 : y118.toInt ≤ t0_2.toInt := b130; omega)), (show t0_4.toInt ≤ y120.toInt from (by have t1 : t0_4.toInt ≤ y120.toInt := b133; omega)), (show y120.toInt ≤ t0_4.toInt from (by have t1 : y120.toInt ≤ t0_4.toInt := b134; omega)), (show t0_5.toInt ≤ y121.toInt from (by have t1 : t0_5.toInt ≤ y121.toInt := b135; omega)), (show y121.toInt ≤ t0_5.toInt from (by have t1 : y121.toInt ≤ t0_5.toInt := b136; omega)), (show t0_6.toInt ≤ y122.toInt from (by have t1 : t0_6.toInt ≤ y122.toInt := b137; omega)), (show y122.toInt ≤ t0_6.toInt from (by have t1 : y122.toInt ≤ t0_6.toInt := b138; omega)), (show (y116, y117, y118, y119, y120, y121, y122, f123, f125, lx90, t4_0, f60) = (F_WR_shift x2 x3 x4 t0_0 t0_1 t0_2 t0_3 t0_4 t0_5 t0_6 t1_0 t2_0 t3_0 t4_0 t5_0) from Eq.trans (by subst e143; subst e144; subst e145; subst e146; subst e147; subst e148; subst e149; subst e150; subst e151; rw [F_WR_shift_c331.eq_1]) hR152)⟩) d_19_38_334
          ·
            have b157 : q_F (a67.toInt ≠ 0) := (q_neI c110)
            refine lv_iload hx hb d_19_38_302 (lv_at hl 1 rfl) ?_
            refine lv_if_eq (tgt := 329) hx hb d_19_38_304 (by decide) (fun c158 => ?_) (fun c158 => ?_)
            ·
              have b159 : q_F (lx89.toInt = 0) := (q_eqI c158)
              refine lv_aload_n hx hb d_19_38_329 rfl (lv_at hl 2 rfl) ?_
              refine lv_iload_n hx hb d_19_38_330 rfl (lv_at hl 4 rfl) ?_
              have ob160 : q_F (S_WR_store x4 lx36 (2 : Int32) t0_2 a67 t0_4 t0_5 t0_6 t1_0 t2_0 lx90) := (by have h := hS104; rw [S_WR_shift_L189.eq_2] at h; rw [if_pos c108] at h; rw [if_neg c110] at h; rw [if_pos c158] at h; exact h.1)
              refine q_gov V (q_runV (As := [.int x4]) (rest := []) (d := 2) (mc := 0) (ms := 0) (ci := 13) C0 V rfl LV_WR_103 (X_WR_store l D g q w96  x4 hI lx36 2 t0_2 a67 t0_4 t0_5 t0_6 hO97 t1_0 hO98 t2_0 hO99 lx90 hO100 ob160 _) rfl rfl hO97 rfl hl.1 rfl (Nat.le_of_ble_eq_true rfl) ⟨by decide, by decide⟩ ⟨Nat.le_of_ble_eq_true rfl, Nat.le_of_ble_eq_true rfl⟩ d_19_38_331) (fun u161 H locs hp162 V => ?_)
              obtain ⟨hI, hu188, y164, y165, y166, y167, y168, y169, y170, f171, f173, hO163, hA172, hA174, b175, b176, b177, b178, b179, b180, b181, b182, b183, b184, b185, b186, hE187⟩ := hp162
              replace hO163 : u161[119]? = (some (q 119, .inr (13, [.int y164, .int y165, .ref (q 120), .int y166, .ref (q 121), .ref (q 122), .ref (q 123), .int y167, .ref (q 124), .ref (q 125), .ref (q 126), .ref (q 127), .ref (q 128), .ref (q 129), .ref (q 130), .ref (q 131), .int y168, .int y169, .ref (q 132), .ref (q 133), .int y170])) : Option (Nat × va_E)) := hO163
              replace hA172 : u161[121]? = (some (q 121, .inl (g 0, (1408 : Int32).toNatClampNeg, .inl f171)) : Option (Nat × va_E)) := hA172
              replace hA174 : u161[122]? = (some (q 122, .inl (g 3, 11, .inl f173)) : Option (Nat × va_E)) := hA174
              obtain ⟨p189, e190⟩ : ∃ z, z = (F_WR_store x4 lx36 (2 : Int32) t0_2 a67 t0_4 t0_5 t0_6 t1_0 t2_0 lx90) := ⟨_, rfl⟩
              have e191 : y164 = p189.1 := congrArg (fun z => z.1) (hE187.trans e190.symm)
              have e192 : y165 = p189.2.1 := congrArg (fun z => z.2.1) (hE187.trans e190.symm)
              have e193 : y166 = p189.2.2.1 := congrArg (fun z => z.2.2.1) (hE187.trans e190.symm)
              have e194 : y167 = p189.2.2.2.1 := congrArg (fun z => z.2.2.2.1) (hE187.trans e190.symm)
              have e195 : y168 = p189.2.2.2.2.1 := congrArg (fun z => z.2.2.2.2.1) (hE187.trans e190.symm)
              have e196 : y169 = p189.2.2.2.2.2.1 := congrArg (fun z => z.2.2.2.2.2.1) (hE187.trans e190.symm)
              have e197 : y170 = p189.2.2.2.2.2.2.1 := congrArg (fun z => z.2.2.2.2.2.2.1) (hE187.trans e190.symm)
              have e198 : f171 = p189.2.2.2.2.2.2.2.1 := congrArg (fun z => z.2.2.2.2.2.2.2.1) (hE187.trans e190.symm)
              have e199 : f173 = p189.2.2.2.2.2.2.2.2 := congrArg (fun z => z.2.2.2.2.2.2.2.2) (hE187.trans e190.symm)
              replace b175 : q_F (2 ≤ y165.toInt) := b175
              replace b176 : q_F (y165.toInt ≤ 2) := b176
              replace b177 : q_F (t0_2.toInt ≤ y166.toInt) := b177
              replace b178 : q_F (y166.toInt ≤ t0_2.toInt) := b178
              replace b179 : q_F (a67.toInt ≤ y167.toInt) := b179
              replace b180 : q_F (y167.toInt ≤ a67.toInt) := b180
              replace b181 : q_F (t0_4.toInt ≤ y168.toInt) := b181
              replace b182 : q_F (y168.toInt ≤ t0_4.toInt) := b182
              replace b183 : q_F (t0_5.toInt ≤ y169.toInt) := b183
              replace b184 : q_F (y169.toInt ≤ t0_5.toInt) := b184
              replace b185 : q_F (t0_6.toInt ≤ y170.toInt) := b185
              replace b186 : q_F (y170.toInt ≤ t0_6.toInt) := b186
              replace hO100 := (hu188 _ (by decide)).trans hO100
              replace hO101 := (hu188 _ (by decide)).trans hO101
              replace hO102 := (hu188 _ (by decide)).trans hO102
              replace hF := q_uc hF hu188 (by simp)
              have hR200 := (show F_WR_shift_c331_4 (F_WR_shift_L189 x2 x3 x4 t0_0 t0_1 t0_2 t0_3 t0_4 t0_5 t0_6 t1_0 t2_0 t3_0 t4_0 t5_0 lx36 a67 f60 fm107) x2 x3 x4 t0_0 t0_1 t0_2 t0_3 t0_4 t0_5 t0_6 t1_0 t2_0 t3_0 t4_0 t5_0 lx36 a67 f60 lx88 lx89 lx90 p189 = (F_WR_shift x2 x3 x4 t0_0 t0_1 t0_2 t0_3 t0_4 t0_5 t0_6 t1_0 t2_0 t3_0 t4_0 t5_0) from Eq.trans (by subst e190; rw [F_WR_shift_L189.eq_2, if_pos c108, if_neg c110, if_pos c158]) hR103)
              have hS201 := (show S_WR_shift_c331_4 (S_WR_shift_L189 x2 x3 x4 t0_0 t0_1 t0_2 t0_3 t0_4 t0_5 t0_6 t1_0 t2_0 t3_0 t4_0 t5_0 lx36 a67 f60 fm107) x2 x3 x4 t0_0 t0_1 t0_2 t0_3 t0_4 t0_5 t0_6 t1_0 t2_0 t3_0 t4_0 t5_0 lx36 a67 f60 lx88 lx89 lx90 p189 from (by subst e190; have h := hS104; rw [S_WR_shift_L189.eq_2] at h; rw [if_pos c108] at h; rw [if_neg c110] at h; rw [if_pos c158] at h; replace h := h.2; exact h))
              exact q_retv C0 V (⟨hI, hF, y164, y165, y166, y167, y168, y169, y170, f171, f173, lx90, t4_0, f60, hO163, hA172, hA174, hO100, hO101, hO102, (show 0 ≤ y167.toInt from (by have t1 : 0 ≤ a67.toInt := ob71; have t2 : a67.toInt ≤ y167.toInt := b179; omega)), (show y167.toInt ≤ 1 from (by have t1 : a67.toInt ≤ 1 := ob72; have t2 : y167.toInt ≤ a67.toInt := b180; omega)), (show t0_2.toInt ≤ y166.toInt from (by have t1 : t0_2.toInt ≤ y166.toInt := b177; omega)), (show y166.toInt ≤ t0_2.toInt from (by have t1 : y166.toInt ≤ t0_2.toInt := b178; omega)), (show t0_4.toInt ≤ y168.toInt from (by have t1 : t0_4.toInt ≤ y168.toInt := b181; omega)), (show y168.toInt ≤ t0_4.toInt from (by have t1 : y168.toInt ≤ t0_4.toInt := b182; omega)), (show t0_5.toInt ≤ y169.toInt from (by have t1 : t0_5.toInt ≤ y169.toInt := b183; omega)), (show y169.toInt ≤ t0_5.toInt from (by have t1 : y169.toInt ≤ t0_5.toInt := b184; omega)), (show t0_6.toInt ≤ y170.toInt from (by have t1 : t0_6.toInt ≤ y170.toInt := b185; omega)), (show y170.toInt ≤ t0_6.toInt from (by have t1 : y170.toInt ≤ t0_6.toInt := b186; omega)), (show (y164, y165, y166, y167, y168, y169, y170, f171, f173, lx90, t4_0, f60) = (F_WR_shift x2 x3 x4 t0_0 t0_1 t0_2 t0_3 t0_4 t0_5 t0_6 t1_0 t2_0 t3_0 t4_0 t5_0) from Eq.trans (by subst e191; subst e192; subst e193; subst e194; subst e195; subst e196; subst e197; subst e198; subst e199; rw [F_WR_shift_c331_4.eq_1]) hR200)⟩) d_19_38_334
            ·
              have b205 : q_F (lx89.toInt ≠ 0) := (q_neI c158)
              refine lv_aload_n hx hb d_19_38_307 rfl (lv_at hl 2 rfl) ?_
              refine lv_aload_n hx hb d_19_38_308 rfl (lv_at hl 2 rfl) ?_
              refine q_get (ci := 13) (j := 8) (v := .ref (q 124)) C0 V i_WR rfl rfl hO97 (by decide) w_1932 rfl d_19_38_309 ?_
              have ob206 : q_F (S_WR_setOne (264 : Int32) lx36 (2 : Int32) t0_2 a67 t0_4 t0_5 t0_6 t4_0) := (by have h := hS104; rw [S_WR_shift_L189.eq_2] at h; rw [if_pos c108] at h; rw [if_neg c110] at h; rw [if_neg c158] at h; exact h.1)
              refine q_gov V (q_runV (As := [.ref (q 124)]) (rest := []) (d := 2) (mc := 0) (ms := 0) (ci := 13) C0 V rfl LV_WR_131 (X_WR_setOne l D g q w96 124 264 (n_r124 g q)  hI lx36 2 t0_2 a67 t0_4 t0_5 t0_6 hO97 t4_0 hO101 ob206 _) rfl rfl hO97 rfl hl.1 rfl (Nat.le_of_ble_eq_true rfl) ⟨by decide, by decide⟩ ⟨Nat.le_of_ble_eq_true rfl, Nat.le_of_ble_eq_true rfl⟩ d_19_38_312) (fun u207 H locs hp208 V => ?_)
              obtain ⟨hI, hu212, f209, hA210, hE211⟩ := hp208
              replace hA210 : u207[124]? = (some (q 124, .inl (g 0, (264 : Int32).toNatClampNeg, .inl f209)) : Option (Nat × va_E)) := hA210
              have e213 : f209 = (F_WR_setOne (264 : Int32) lx36 (2 : Int32) t0_2 a67 t0_4 t0_5 t0_6 t4_0) := hE211
              replace hO97 := (hu212 _ (by decide)).trans hO97
              replace hO98 := (hu212 _ (by decide)).trans hO98
              replace hO99 := (hu212 _ (by decide)).trans hO99
              replace hO100 := (hu212 _ (by decide)).trans hO100
              replace hO102 := (hu212 _ (by decide)).trans hO102
              replace hF := q_uc hF hu212 (by simp)
              refine lv_aload_n hx hb d_19_38_315 rfl (lv_at hl 2 rfl) ?_
              refine q_get (ci := 13) (j := 6) (v := .ref (q 123)) C0 V i_WR rfl rfl hO97 (by decide) w_1930 rfl d_19_38_316 ?_
              refine lv_aload_n hx hb d_19_38_319 rfl (lv_at hl 2 rfl) ?_
              refine q_get (ci := 13) (j := 8) (v := .ref (q 124)) C0 V i_WR rfl rfl hO97 (by decide) w_1932 rfl d_19_38_320 ?_
              refine lv_iconst (v := 1) hx hb d_19_38_323 (by decide) ?_
              refine lv_lconst (v := 1) hx hb d_19_38_324 (by decide) ?_
              refine lv_iconst (v := 0) hx hb d_19_38_325 (by decide) ?_
              have ob214 : q_F (S_WR_join (264 : Int32) (264 : Int32) (1 : Int32) (1 : Int64) (0 : Int32) lx90 f209) := (by subst e213; have h := hS104; rw [S_WR_shift_L189.eq_2] at h; rw [if_pos c108] at h; rw [if_neg c110] at h; rw [if_neg c158] at h; replace h := h.2; exact h.1)
              refine q_gov V (q_runS (As := [.ref (q 123), .ref (q 124), .int 1, .long 1, .int 0]) (rest := []) (d := 1) (mc := 0) (ms := 0) C0 V rfl LS_WR_75 (X_WR_join l D g q u207 123 264 (n_r123 g q) 124 264 (n_r124 g q) 1 1 0 (by decide) hI lx90 hO100 f209 hA210 ⟨(by have y0 : (264 : Int32).toInt = 264 := rfl; have y1 : (264 : Int32).toInt = 264 := rfl; have y2 : (1 : Int32).toInt = 1 := rfl; have y3 : (1 : Int64).toInt = 1 := rfl; have y4 : (0 : Int32).toInt = 0 := rfl; omega), (by have y0 : (264 : Int32).toInt = 264 := rfl; have y1 : (264 : Int32).toInt = 264 := rfl; have y2 : (1 : Int32).toInt = 1 := rfl; have y3 : (1 : Int64).toInt = 1 := rfl; have y4 : (0 : Int32).toInt = 0 := rfl; omega)⟩ ob214 _) rfl hl.1 rfl (Nat.le_of_ble_eq_true rfl) ⟨by decide, by decide⟩ ⟨Nat.le_of_ble_eq_true rfl, Nat.le_of_ble_eq_true rfl⟩ d_19_38_326) (fun u215 H locs hp216 V => ?_)
              obtain ⟨hI, hu220, f217, hA218, hE219⟩ := hp216
              replace hA218 : u215[123]? = (some (q 123, .inl (g 0, (264 : Int32).toNatClampNeg, .inl f217)) : Option (Nat × va_E)) := hA218
              have e221 : f217 = (F_WR_join (264 : Int32) (264 : Int32) (1 : Int32) (1 : Int64) (0 : Int32) lx90 f209) := hE219
              replace hO97 := (hu220 _ (by decide)).trans hO97
              replace hO98 := (hu220 _ (by decide)).trans hO98
              replace hO99 := (hu220 _ (by decide)).trans hO99
              replace hA210 := (hu220 _ (by decide)).trans hA210
              replace hO102 := (hu220 _ (by decide)).trans hO102
              replace hF := q_uc hF hu220 (by simp)
              refine lv_aload_n hx hb d_19_38_329 rfl (lv_at hl 2 rfl) ?_
              refine lv_iload_n hx hb d_19_38_330 rfl (lv_at hl 4 rfl) ?_
              have ob222 : q_F (S_WR_store x4 lx36 (2 : Int32) t0_2 a67 t0_4 t0_5 t0_6 t1_0 t2_0 f217) := (by subst e213; subst e221; have h := hS104; rw [S_WR_shift_L189.eq_2] at h; rw [if_pos c108] at h; rw [if_neg c110] at h; rw [if_neg c158] at h; replace h := h.2; replace h := h.2; exact h.1)
              refine q_gov V (q_runV (As := [.int x4]) (rest := []) (d := 2) (mc := 0) (ms := 0) (ci := 13) C0 V rfl LV_WR_103 (X_WR_store l D g q u215  x4 hI lx36 2 t0_2 a67 t0_4 t0_5 t0_6 hO97 t1_0 hO98 t2_0 hO99 f217 hA218 ob222 _) rfl rfl hO97 rfl hl.1 rfl (Nat.le_of_ble_eq_true rfl) ⟨by decide, by decide⟩ ⟨Nat.le_of_ble_eq_true rfl, Nat.le_of_ble_eq_true rfl⟩ d_19_38_331) (fun u223 H locs hp224 V => ?_)
              obtain ⟨hI, hu250, y226, y227, y228, y229, y230, y231, y232, f233, f235, hO225, hA234, hA236, b237, b238, b239, b240, b241, b242, b243, b244, b245, b246, b247, b248, hE249⟩ := hp224
              replace hO225 : u223[119]? = (some (q 119, .inr (13, [.int y226, .int y227, .ref (q 120), .int y228, .ref (q 121), .ref (q 122), .ref (q 123), .int y229, .ref (q 124), .ref (q 125), .ref (q 126), .ref (q 127), .ref (q 128), .ref (q 129), .ref (q 130), .ref (q 131), .int y230, .int y231, .ref (q 132), .ref (q 133), .int y232])) : Option (Nat × va_E)) := hO225
              replace hA234 : u223[121]? = (some (q 121, .inl (g 0, (1408 : Int32).toNatClampNeg, .inl f233)) : Option (Nat × va_E)) := hA234
              replace hA236 : u223[122]? = (some (q 122, .inl (g 3, 11, .inl f235)) : Option (Nat × va_E)) := hA236
              obtain ⟨p251, e252⟩ : ∃ z, z = (F_WR_store x4 lx36 (2 : Int32) t0_2 a67 t0_4 t0_5 t0_6 t1_0 t2_0 f217) := ⟨_, rfl⟩
              have e253 : y226 = p251.1 := congrArg (fun z => z.1) (hE249.trans e252.symm)
              have e254 : y227 = p251.2.1 := congrArg (fun z => z.2.1) (hE249.trans e252.symm)
              have e255 : y228 = p251.2.2.1 := congrArg (fun z => z.2.2.1) (hE249.trans e252.symm)
              have e256 : y229 = p251.2.2.2.1 := congrArg (fun z => z.2.2.2.1) (hE249.trans e252.symm)
              have e257 : y230 = p251.2.2.2.2.1 := congrArg (fun z => z.2.2.2.2.1) (hE249.trans e252.symm)
              have e258 : y231 = p251.2.2.2.2.2.1 := congrArg (fun z => z.2.2.2.2.2.1) (hE249.trans e252.symm)
              have e259 : y232 = p251.2.2.2.2.2.2.1 := congrArg (fun z => z.2.2.2.2.2.2.1) (hE249.trans e252.symm)
              have e260 : f233 = p251.2.2.2.2.2.2.2.1 := congrArg (fun z => z.2.2.2.2.2.2.2.1) (hE249.trans e252.symm)
              have e261 : f235 = p251.2.2.2.2.2.2.2.2 := congrArg (fun z => z.2.2.2.2.2.2.2.2) (hE249.trans e252.symm)
              replace b237 : q_F (2 ≤ y227.toInt) := b237
              replace b238 : q_F (y227.toInt ≤ 2) := b238
              replace b239 : q_F (t0_2.toInt ≤ y228.toInt) := b239
              replace b240 : q_F (y228.toInt ≤ t0_2.toInt) := b240
              replace b241 : q_F (a67.toInt ≤ y229.toInt) := b241
              replace b242 : q_F (y229.toInt ≤ a67.toInt) := b242
              replace b243 : q_F (t0_4.toInt ≤ y230.toInt) := b243
              replace b244 : q_F (y230.toInt ≤ t0_4.toInt) := b244
              replace b245 : q_F (t0_5.toInt ≤ y231.toInt) := b245
              replace b246 : q_F (y231.toInt ≤ t0_5.toInt) := b246
              replace b247 : q_F (t0_6.toInt ≤ y232.toInt) := b247
              replace b248 : q_F (y232.toInt ≤ t0_6.toInt) := b248
              replace hA218 := (hu250 _ (by decide)).trans hA218
              replace hA210 := (hu250 _ (by decide)).trans hA210
              replace hO102 := (hu250 _ (by decide)).trans hO102
              replace hF := q_uc hF hu250 (by simp)
              have hR262 := (show F_WR_shift_c331_5 (F_WR_shift_L189 x2 x3 x4 t0_0 t0_1 t0_2 t0_3 t0_4 t0_5 t0_6 t1_0 t2_0 t3_0 t4_0 t5_0 lx36 a67 f60 fm107) x2 x3 x4 t0_0 t0_1 t0_2 t0_3 t0_4 t0_5 t0_6 t1_0 t2_0 t3_0 t4_0 t5_0 lx36 a67 f60 lx88 lx89 lx90 f217 f209 p251 = (F_WR_shift x2 x3 x4 t0_0 t0_1 t0_2 t0_3 t0_4 t0_5 t0_6 t1_0 t2_0 t3_0 t4_0 t5_0) from Eq.trans (by subst e213; subst e221; subst e252; rw [F_WR_shift_L189.eq_2, if_pos c108, if_neg c110, if_neg c158]) hR103)
              have hS263 := (show S_WR_shift_c331_5 (S_WR_shift_L189 x2 x3 x4 t0_0 t0_1 t0_2 t0_3 t0_4 t0_5 t0_6 t1_0 t2_0 t3_0 t4_0 t5_0 lx36 a67 f60 fm107) x2 x3 x4 t0_0 t0_1 t0_2 t0_3 t0_4 t0_5 t0_6 t1_0 t2_0 t3_0 t4_0 t5_0 lx36 a67 f60 lx88 lx89 lx90 f217 f209 p251 from (by subst e213; subst e221; subst e252; have h := hS104; rw [S_WR_shift_L189.eq_2] at h; rw [if_pos c108] at h; rw [if_neg c110] at h; rw [if_neg c158] at h; replace h := h.2; replace h := h.2; replace h := h.2; exact h))
              exact q_retv C0 V (⟨hI, hF, y226, y227, y228, y229, y230, y231, y232, f233, f235, f217, f209, f60, hO225, hA234, hA236, hA218, hA210, hO102, (show 0 ≤ y229.toInt from (by have t1 : 0 ≤ a67.toInt := ob71; have t2 : a67.toInt ≤ y229.toInt := b241; omega)), (show y229.toInt ≤ 1 from (by have t1 : a67.toInt ≤ 1 := ob72; have t2 : y229.toInt ≤ a67.toInt := b242; omega)), (show t0_2.toInt ≤ y228.toInt from (by have t1 : t0_2.toInt ≤ y228.toInt := b239; omega)), (show y228.toInt ≤ t0_2.toInt from (by have t1 : y228.toInt ≤ t0_2.toInt := b240; omega)), (show t0_4.toInt ≤ y230.toInt from (by have t1 : t0_4.toInt ≤ y230.toInt := b243; omega)), (show y230.toInt ≤ t0_4.toInt from (by have t1 : y230.toInt ≤ t0_4.toInt := b244; omega)), (show t0_5.toInt ≤ y231.toInt from (by have t1 : t0_5.toInt ≤ y231.toInt := b245; omega)), (show y231.toInt ≤ t0_5.toInt from (by have t1 : y231.toInt ≤ t0_5.toInt := b246; omega)), (show t0_6.toInt ≤ y232.toInt from (by have t1 : t0_6.toInt ≤ y232.toInt := b247; omega)), (show y232.toInt ≤ t0_6.toInt from (by have t1 : y232.toInt ≤ t0_6.toInt := b248; omega)), (show (y226, y227, y228, y229, y230, y231, y232, f233, f235, f217, f209, f60) = (F_WR_shift x2 x3 x4 t0_0 t0_1 t0_2 t0_3 t0_4 t0_5 t0_6 t1_0 t2_0 t3_0 t4_0 t5_0) from Eq.trans (by subst e253; subst e254; subst e255; subst e256; subst e257; subst e258; subst e259; subst e260; subst e261; rw [F_WR_shift_c331_5.eq_1]) hR262)⟩) d_19_38_334
        ·
          have b267 : q_F (lx88.toInt < 2048) := (q_nleI c108)
          refine lv_aload_n hx hb d_19_38_197 rfl (lv_at hl 2 rfl) ?_
          refine q_get (ci := 13) (j := 12) (v := .ref (q 128)) C0 V i_WR rfl rfl hO97 (by decide) w_1936 rfl d_19_38_198 ?_
          refine lv_iload hx hb d_19_38_201 (lv_at hl 0 rfl) ?_
          refine lv_bipush (v := 16) hx hb d_19_38_203 (by decide) ?_
          refine lv_idiv hx hb d_19_38_205 (by decide) ?_
          obtain ⟨a268, e269⟩ := q_nm (lx88 / 16 : Int32)
          refine q_ti (v := a268) e269 ?_
          have b270 : q_F (16 * a268.toInt ≤ lx88.toInt ∧ lx88.toInt ≤ 16 * a268.toInt + 15) := (by rw [← e269]; show 16 * (lx88 / 16 : Int32).toInt ≤ lx88.toInt ∧ lx88.toInt ≤ 16 * (lx88 / 16 : Int32).toInt + 15; exact (by have z := q_divI (y := 16) (rfl : lx88.toInt = _) (by decide : (16 : Int32).toInt = 16) (by have t1 : 0 ≤ lx36.toInt := i44; have t2 : lx36.toInt ≤ lx89.toInt := i93; have t3 : lx89.toInt ≤ lx88.toInt := i94; omega) (by decide); omega))
          refine q_iald C0 V hO102 (q_ix (x := a268.toInt) rfl (by have t1 : 0 ≤ lx36.toInt := i44; have t2 : lx36.toInt ≤ lx89.toInt := i93; have t3 : lx89.toInt ≤ lx88.toInt := i94; have t4 : 16 * a268.toInt ≤ lx88.toInt ∧ lx88.toInt ≤ 16 * a268.toInt + 15 := b270; omega) (by have t1 : 0 ≤ lx36.toInt := i44; have t2 : lx36.toInt ≤ lx89.toInt := i93; have t3 : lx89.toInt ≤ lx88.toInt := i94; have t4 : 16 * a268.toInt ≤ lx88.toInt ∧ lx88.toInt ≤ 16 * a268.toInt + 15 := b270; have t5 : lx88.toInt ≤ 2048 := i91; have e9 : (((264 : Int32).toNatClampNeg : Nat) : Int) = 264 := (by decide); omega)) d_19_38_206 ?_
          obtain ⟨a271, e272⟩ := q_nm (f60 a268.toNatClampNeg : Int32)
          refine q_ti (v := a271) e272 ?_
          refine lv_iload hx hb d_19_38_207 (lv_at hl 0 rfl) ?_
          refine lv_bipush (v := 16) hx hb d_19_38_209 (by decide) ?_
          refine lv_irem hx hb d_19_38_211 (by decide) ?_
          obtain ⟨a273, e274⟩ := q_nm (lx88 - lx88 / 16 * 16 : Int32)
          refine q_ti (v := a273) e274 ?_
          have b275 : q_F (0 ≤ a273.toInt ∧ a273.toInt ≤ 15 ∧ a273.toInt ≤ lx88.toInt) := (by rw [← e274]; show 0 ≤ (lx88 - lx88 / 16 * 16 : Int32).toInt ∧ (lx88 - lx88 / 16 * 16 : Int32).toInt ≤ 15 ∧ (lx88 - lx88 / 16 * 16 : Int32).toInt ≤ lx88.toInt; exact (by have z := s_rem' (x := lx88) (b := 16) (by have t1 : 0 ≤ lx36.toInt := i44; have t2 : lx36.toInt ≤ lx89.toInt := i93; have t3 : lx89.toInt ≤ lx88.toInt := i94; omega) (by decide); have z8 : (16 : Int32).toInt = 16 := rfl; omega))
          refine lv_ishr hx hb d_19_38_212 ?_
          obtain ⟨a276, e277⟩ := q_nm (a271 >>> (a273 &&& 31) : Int32)
          refine q_ti (v := a276) e277 ?_
          refine lv_iconst (v := 1) hx hb d_19_38_213 (by decide) ?_
          refine lv_iand hx hb d_19_38_214 ?_
          obtain ⟨a278, e279⟩ := q_nm (a276 &&& 1 : Int32)
          refine q_ti (v := a278) e279 ?_
          have b280 : q_F (0 ≤ a278.toInt ∧ a278.toInt ≤ 1) := (by rw [← e279]; show 0 ≤ (a276 &&& 1 : Int32).toInt ∧ (a276 &&& 1 : Int32).toInt ≤ 1; exact s_and (by decide))
          refine lv_istore (lv' := [(6, .int a278), (5, .int lx88), (4, .int lx89), (0, .ref (q 119)), (2, .int x3), (3, .int x4)]) hx hb d_19_38_215 hl (by decide) rfl (fun ls hl => ?_)
          refine lv_iload hx hb d_19_38_217 (lv_at hl 1 rfl) ?_
          refine lv_i2l hx hb d_19_38_219 rfl ?_
          obtain ⟨j281, e282⟩ := q_nm (lx88.toInt64 : Int64)
          refine q_tl (v := j281) e282 ?_
          have b283 : q_F (j281.toInt = lx88.toInt) := (by rw [← e282]; show (lx88.toInt64 : Int64).toInt = lx88.toInt; exact q_i2l rfl)
          refine lv_iload_n hx hb d_19_38_220 rfl (lv_at hl 4 rfl) ?_
          refine lv_i2l hx hb d_19_38_221 rfl ?_
          obtain ⟨j284, e285⟩ := q_nm (x3.toInt64 : Int64)
          refine q_tl (v := j284) e285 ?_
          have b286 : q_F (j284.toInt = x3.toInt) := (by rw [← e285]; show (x3.toInt64 : Int64).toInt = x3.toInt; exact q_i2l rfl)
          refine lv_ladd hx hb d_19_38_222 ?_
          obtain ⟨j287, e288⟩ := q_nm (j281 + j284 : Int64)
          refine q_tl (v := j287) e288 ?_
          have b289 : q_F (j287.toInt = j281.toInt + j284.toInt) := (by rw [← e288]; show (j281 + j284 : Int64).toInt = j281.toInt + j284.toInt; exact q_addL (x := j281.toInt) (y := j284.toInt) rfl rfl (by have t1 : j281.toInt = lx88.toInt := b283; have t2 : j284.toInt = x3.toInt := b286; have _ := q_lo32 (x := lx88); have _ := q_hi32 (x := lx88); have _ := q_lo32 (x := x3); have _ := q_hi32 (x := x3); omega) (by have t1 : j281.toInt = lx88.toInt := b283; have t2 : j284.toInt = x3.toInt := b286; have _ := q_lo32 (x := lx88); have _ := q_hi32 (x := lx88); have _ := q_lo32 (x := x3); have _ := q_hi32 (x := x3); omega))
          refine lv_lstore (lv' := [(7, .long j287), (6, .int a278), (5, .int lx88), (4, .int lx89), (0, .ref (q 119)), (2, .int x3), (3, .int x4)]) hx hb d_19_38_223 hl (by decide) rfl (fun ls hl => ?_)
          refine lv_iload hx hb d_19_38_225 (lv_at hl 3 rfl) ?_
          refine q_join (X := Int32) (fun z H locs ls _ => q_F (lx89.toInt ≤ z.toInt) ∧ q_F (z.toInt ≤ lx36.toInt + 1) ∧ q_Wd D g (va_A ws sz) s w96 H locs ∧ lv_has ls 9 [(7, .long j287), (6, .int a278), (5, .int lx88), (0, .ref (q 119)), (2, .int x3), (3, .int x4)] ∧ F_WR_shift_J248 (F_WR_shift_L189 x2 x3 x4 t0_0 t0_1 t0_2 t0_3 t0_4 t0_5 t0_6 t1_0 t2_0 t3_0 t4_0 t5_0 lx36 a67 f60 fm107) x2 x3 x4 t0_0 t0_1 t0_2 t0_3 t0_4 t0_5 t0_6 t1_0 t2_0 t3_0 t4_0 t5_0 lx36 a67 f60 lx88 lx89 lx90 j287 a278 z = (F_WR_shift x2 x3 x4 t0_0 t0_1 t0_2 t0_3 t0_4 t0_5 t0_6 t1_0 t2_0 t3_0 t4_0 t5_0) ∧ S_WR_shift_J248 (S_WR_shift_L189 x2 x3 x4 t0_0 t0_1 t0_2 t0_3 t0_4 t0_5 t0_6 t1_0 t2_0 t3_0 t4_0 t5_0 lx36 a67 f60 fm107) x2 x3 x4 t0_0 t0_1 t0_2 t0_3 t0_4 t0_5 t0_6 t1_0 t2_0 t3_0 t4_0 t5_0 lx36 a67 f60 lx88 lx89 lx90 j287 a278 z) (fun z => [.int z]) 248 0 0 ?_ ?_
          ·
            rintro lx290 H locs ls _ ⟨i298, i299, V, hl, hR300, hS301⟩
            replace i298 : q_F (lx89.toInt ≤ lx290.toInt) := i298
            replace i299 : q_F (lx290.toInt ≤ lx36.toInt + 1) := i299
            replace hl : lv_has ls 9 [(7, .long j287), (6, .int a278), (5, .int lx88), (0, .ref (q 119)), (2, .int x3), (3, .int x4)] := hl
            refine lv_istore (lv' := [(4, .int lx290), (7, .long j287), (6, .int a278), (5, .int lx88), (0, .ref (q 119)), (2, .int x3), (3, .int x4)]) hx hb d_19_38_248 hl (by decide) rfl (fun ls hl => ?_)
            refine lv_lload hx hb d_19_38_250 (lv_at hl 1 rfl) ?_
            refine lv_lconst (v := 0) hx hb d_19_38_252 (by decide) ?_
            refine W.lcmp hx hb d_19_38_253 ?_
            obtain ⟨a305, e306⟩ := q_nm (lg_cmp j287 0 : Int32)
            refine q_ti (v := a305) e306 ?_
            have b307 : q_F (-1 ≤ a305.toInt ∧ a305.toInt ≤ 1 ∧ ((a305.toInt = -1 ∧ j287.toInt < 0) ∨ (a305.toInt = 0 ∧ j287.toInt = 0) ∨ (a305.toInt = 1 ∧ 0 < j287.toInt))) := (by rw [← e306]; show -1 ≤ (lg_cmp j287 0 : Int32).toInt ∧ (lg_cmp j287 0 : Int32).toInt ≤ 1 ∧ (((lg_cmp j287 0 : Int32).toInt = -1 ∧ j287.toInt < 0) ∨ ((lg_cmp j287 0 : Int32).toInt = 0 ∧ j287.toInt = 0) ∨ ((lg_cmp j287 0 : Int32).toInt = 1 ∧ 0 < j287.toInt)); exact (by have y1 : (0 : Int64).toInt = 0 := rfl; have z := s_lcmp (a := j287) (b := 0); omega))
            refine lv_if_lt (tgt := 289) hx hb d_19_38_254 (by decide) (fun c308 => ?_) (fun c308 => ?_)
            ·
              have b309 : q_F (a305.toInt < 0) := (q_ltI c308)
              obtain ⟨a310, e311⟩ := q_nm (lx88 + 1 : Int32)
              have b312 : q_F (a310.toInt = lx88.toInt + 1) := (by rw [← e311]; exact q_addI (y := 1) rfl (by decide) (by have t1 : 0 ≤ a273.toInt ∧ a273.toInt ≤ 15 ∧ a273.toInt ≤ lx88.toInt := b275; have t2 : lx88.toInt ≤ 2048 := i91; omega) (by have t1 : 0 ≤ a273.toInt ∧ a273.toInt ≤ 15 ∧ a273.toInt ≤ lx88.toInt := b275; have t2 : lx88.toInt ≤ 2048 := i91; omega))
              refine lv_iinc (v := a310) (lv' := [(5, .int a310), (4, .int lx290), (7, .long j287), (6, .int a278), (0, .ref (q 119)), (2, .int x3), (3, .int x4)]) hx hb d_19_38_289 hl (k := 3) rfl (e311) (by decide) rfl (fun ls hl => ?_)
              refine lv_goto (tgt := 189) hx hb d_19_38_292 (by decide) ?_
              exact ih95 ((a310 : Int32), (lx290 : Int32), (lx90 : (Nat → Int32))) _ _ _ _ (show (2048 - a310.toInt).toNat < (2048 - lx88.toInt).toNat from by have t1 : a310.toInt = lx88.toInt + 1 := b312; have t2 : lx88.toInt ≤ 2048 := i91; have t3 : lx88.toInt < 2048 := b267; omega) ⟨(show q_F (a310.toInt ≤ 2048) from (show a310.toInt ≤ 2048 from by have t1 : lx88.toInt < 2048 := b267; have t2 : a310.toInt = lx88.toInt + 1 := b312; omega)), (show q_F (lx290.toInt ≤ 1) from (show lx290.toInt ≤ 1 from by have t1 : lx36.toInt ≤ 0 := b54; have t2 : lx290.toInt ≤ lx36.toInt + 1 := i299; omega)), (show q_F (lx36.toInt ≤ lx290.toInt) from (show lx36.toInt ≤ lx290.toInt from by have t1 : lx36.toInt ≤ lx89.toInt := i93; have t2 : lx89.toInt ≤ lx290.toInt := i298; omega)), (show q_F (lx290.toInt ≤ a310.toInt) from (show lx290.toInt ≤ a310.toInt from by have t1 : lx36.toInt ≤ lx89.toInt := i93; have t2 : lx89.toInt ≤ lx88.toInt := i94; have t3 : lx290.toInt ≤ lx36.toInt + 1 := i299; have t4 : a310.toInt = lx88.toInt + 1 := b312; omega)), V, q_lw hl (q_lw1 0 rfl (q_lw1 1 rfl (q_lw1 4 rfl (q_lw1 5 rfl (q_lw1 6 rfl q_lw0))))), hI, hF, hO97, hO98, hO99, hO100, hO101, hO102, ⟨fm107, Nat.lt_of_lt_of_le (show (2048 - a310.toInt).toNat < (2048 - lx88.toInt).toNat from by have t1 : a310.toInt = lx88.toInt + 1 := b312; have t2 : lx88.toInt ≤ 2048 := i91; have t3 : lx88.toInt < 2048 := b267; omega) (Nat.le_of_lt_succ hf106), (show F_WR_shift_L189 x2 x3 x4 t0_0 t0_1 t0_2 t0_3 t0_4 t0_5 t0_6 t1_0 t2_0 t3_0 t4_0 t5_0 lx36 a67 f60 fm107 a310 lx290 lx90 = (F_WR_shift x2 x3 x4 t0_0 t0_1 t0_2 t0_3 t0_4 t0_5 t0_6 t1_0 t2_0 t3_0 t4_0 t5_0) from Eq.trans (by subst e306; subst e311; rw [F_WR_shift_J248.eq_1, if_pos c308]) hR300), (show S_WR_shift_L189 x2 x3 x4 t0_0 t0_1 t0_2 t0_3 t0_4 t0_5 t0_6 t1_0 t2_0 t3_0 t4_0 t5_0 lx36 a67 f60 fm107 a310 lx290 lx90 from (by subst e306; subst e311; have h := hS301; rw [S_WR_shift_J248.eq_1] at h; rw [if_pos c308] at h; exact h))⟩⟩
            ·
              have b313 : q_F (0 ≤ a305.toInt) := (q_nltI c308)
              refine lv_aload_n hx hb d_19_38_257 rfl (lv_at hl 4 rfl) ?_
              refine q_get (ci := 13) (j := 6) (v := .ref (q 123)) C0 V i_WR rfl rfl hO97 (by decide) w_1930 rfl d_19_38_258 ?_
              refine lv_lload hx hb d_19_38_261 (lv_at hl 1 rfl) ?_
              refine lv_l2i hx hb d_19_38_263 rfl ?_
              obtain ⟨a314, e315⟩ := q_nm (j287.toInt32 : Int32)
              refine q_ti (v := a314) e315 ?_
              have b316 : q_F (a314.toInt = j287.toInt) := (by rw [← e315]; show (j287.toInt32 : Int32).toInt = j287.toInt; exact s_l2i (by have t1 : -1 ≤ a305.toInt ∧ a305.toInt ≤ 1 ∧ ((a305.toInt = -1 ∧ j287.toInt < 0) ∨ (a305.toInt = 0 ∧ j287.toInt = 0) ∨ (a305.toInt = 1 ∧ 0 < j287.toInt)) := b307; have t2 : 0 ≤ a305.toInt := b313; have t3 : x3.toInt < 0 := b81; have t4 : lx88.toInt ≤ 2048 := i91; have t5 : j281.toInt = lx88.toInt := b283; have t6 : j284.toInt = x3.toInt := b286; have t7 : j287.toInt = j281.toInt + j284.toInt := b289; omega) (by have t1 : -1 ≤ a305.toInt ∧ a305.toInt ≤ 1 ∧ ((a305.toInt = -1 ∧ j287.toInt < 0) ∨ (a305.toInt = 0 ∧ j287.toInt = 0) ∨ (a305.toInt = 1 ∧ 0 < j287.toInt)) := b307; have t2 : 0 ≤ a305.toInt := b313; have t3 : x3.toInt < 0 := b81; have t4 : lx88.toInt ≤ 2048 := i91; have t5 : j281.toInt = lx88.toInt := b283; have t6 : j284.toInt = x3.toInt := b286; have t7 : j287.toInt = j281.toInt + j284.toInt := b289; omega))
              refine lv_bipush (v := 16) hx hb d_19_38_264 (by decide) ?_
              refine lv_idiv hx hb d_19_38_266 (by decide) ?_
              obtain ⟨a317, e318⟩ := q_nm (a314 / 16 : Int32)
              refine q_ti (v := a317) e318 ?_
              have b319 : q_F (16 * a317.toInt ≤ a314.toInt ∧ a314.toInt ≤ 16 * a317.toInt + 15) := (by rw [← e318]; show 16 * (a314 / 16 : Int32).toInt ≤ a314.toInt ∧ a314.toInt ≤ 16 * (a314 / 16 : Int32).toInt + 15; exact (by have z := q_divI (y := 16) (rfl : a314.toInt = _) (by decide : (16 : Int32).toInt = 16) (by have t1 : -1 ≤ a305.toInt ∧ a305.toInt ≤ 1 ∧ ((a305.toInt = -1 ∧ j287.toInt < 0) ∨ (a305.toInt = 0 ∧ j287.toInt = 0) ∨ (a305.toInt = 1 ∧ 0 < j287.toInt)) := b307; have t2 : 0 ≤ a305.toInt := b313; have t3 : a314.toInt = j287.toInt := b316; omega) (by decide); omega))
              refine lv_aload_n hx hb d_19_38_267 rfl (lv_at hl 4 rfl) ?_
              refine q_get (ci := 13) (j := 6) (v := .ref (q 123)) C0 V i_WR rfl rfl hO97 (by decide) w_1930 rfl d_19_38_268 ?_
              refine lv_lload hx hb d_19_38_271 (lv_at hl 1 rfl) ?_
              refine lv_l2i hx hb d_19_38_273 rfl ?_
              obtain ⟨a320, e321⟩ := q_nm (j287.toInt32 : Int32)
              refine q_ti (v := a320) e321 ?_
              have b322 : q_F (a320.toInt = j287.toInt) := (by rw [← e321]; show (j287.toInt32 : Int32).toInt = j287.toInt; exact s_l2i (by have t1 : a314.toInt = j287.toInt := b316; have _ := q_lo32 (x := a314); have _ := q_hi32 (x := a314); omega) (by have t1 : a314.toInt = j287.toInt := b316; have _ := q_lo32 (x := a314); have _ := q_hi32 (x := a314); omega))
              refine lv_bipush (v := 16) hx hb d_19_38_274 (by decide) ?_
              refine lv_idiv hx hb d_19_38_276 (by decide) ?_
              obtain ⟨a323, e324⟩ := q_nm (a320 / 16 : Int32)
              refine q_ti (v := a323) e324 ?_
              have b325 : q_F (16 * a323.toInt ≤ a320.toInt ∧ a320.toInt ≤ 16 * a323.toInt + 15) := (by rw [← e324]; show 16 * (a320 / 16 : Int32).toInt ≤ a320.toInt ∧ a320.toInt ≤ 16 * (a320 / 16 : Int32).toInt + 15; exact (by have z := q_divI (y := 16) (rfl : a320.toInt = _) (by decide : (16 : Int32).toInt = 16) (by have t1 : -1 ≤ a305.toInt ∧ a305.toInt ≤ 1 ∧ ((a305.toInt = -1 ∧ j287.toInt < 0) ∨ (a305.toInt = 0 ∧ j287.toInt = 0) ∨ (a305.toInt = 1 ∧ 0 < j287.toInt)) := b307; have t2 : 0 ≤ a305.toInt := b313; have t3 : a320.toInt = j287.toInt := b322; omega) (by decide); omega))
              refine q_iald C0 V hO100 (q_ix (x := a323.toInt) rfl (by have t1 : -1 ≤ a305.toInt ∧ a305.toInt ≤ 1 ∧ ((a305.toInt = -1 ∧ j287.toInt < 0) ∨ (a305.toInt = 0 ∧ j287.toInt = 0) ∨ (a305.toInt = 1 ∧ 0 < j287.toInt)) := b307; have t2 : 0 ≤ a305.toInt := b313; have t3 : a320.toInt = j287.toInt := b322; have t4 : 16 * a323.toInt ≤ a320.toInt ∧ a320.toInt ≤ 16 * a323.toInt + 15 := b325; omega) (by have t1 : -1 ≤ a305.toInt ∧ a305.toInt ≤ 1 ∧ ((a305.toInt = -1 ∧ j287.toInt < 0) ∨ (a305.toInt = 0 ∧ j287.toInt = 0) ∨ (a305.toInt = 1 ∧ 0 < j287.toInt)) := b307; have t2 : 0 ≤ a305.toInt := b313; have t3 : a320.toInt = j287.toInt := b322; have t4 : 16 * a323.toInt ≤ a320.toInt ∧ a320.toInt ≤ 16 * a323.toInt + 15 := b325; have t5 : x3.toInt < 0 := b81; have t6 : lx88.toInt ≤ 2048 := i91; have t7 : j281.toInt = lx88.toInt := b283; have t8 : j284.toInt = x3.toInt := b286; have t9 : j287.toInt = j281.toInt + j284.toInt := b289; have e9 : (((264 : Int32).toNatClampNeg : Nat) : Int) = 264 := (by decide); omega)) d_19_38_277 ?_
              obtain ⟨a326, e327⟩ := q_nm (lx90 a323.toNatClampNeg : Int32)
              refine q_ti (v := a326) e327 ?_
              refine lv_iload hx hb d_19_38_278 (lv_at hl 2 rfl) ?_
              refine lv_lload hx hb d_19_38_280 (lv_at hl 1 rfl) ?_
              refine lv_l2i hx hb d_19_38_282 rfl ?_
              obtain ⟨a328, e329⟩ := q_nm (j287.toInt32 : Int32)
              refine q_ti (v := a328) e329 ?_
              have b330 : q_F (a328.toInt = j287.toInt) := (by rw [← e329]; show (j287.toInt32 : Int32).toInt = j287.toInt; exact s_l2i (by have t1 : a314.toInt = j287.toInt := b316; have _ := q_lo32 (x := a314); have _ := q_hi32 (x := a314); omega) (by have t1 : a314.toInt = j287.toInt := b316; have _ := q_lo32 (x := a314); have _ := q_hi32 (x := a314); omega))
              refine lv_bipush (v := 16) hx hb d_19_38_283 (by decide) ?_
              refine lv_irem hx hb d_19_38_285 (by decide) ?_
              obtain ⟨a331, e332⟩ := q_nm (a328 - a328 / 16 * 16 : Int32)
              refine q_ti (v := a331) e332 ?_
              have b333 : q_F (0 ≤ a331.toInt ∧ a331.toInt ≤ 15 ∧ a331.toInt ≤ a328.toInt) := (by rw [← e332]; show 0 ≤ (a328 - a328 / 16 * 16 : Int32).toInt ∧ (a328 - a328 / 16 * 16 : Int32).toInt ≤ 15 ∧ (a328 - a328 / 16 * 16 : Int32).toInt ≤ a328.toInt; exact (by have z := s_rem' (x := a328) (b := 16) (by have t1 : -1 ≤ a305.toInt ∧ a305.toInt ≤ 1 ∧ ((a305.toInt = -1 ∧ j287.toInt < 0) ∨ (a305.toInt = 0 ∧ j287.toInt = 0) ∨ (a305.toInt = 1 ∧ 0 < j287.toInt)) := b307; have t2 : 0 ≤ a305.toInt := b313; have t3 : a328.toInt = j287.toInt := b330; omega) (by decide); have z8 : (16 : Int32).toInt = 16 := rfl; omega))
              refine lv_ishl hx hb d_19_38_286 ?_
              obtain ⟨a334, e335⟩ := q_nm (a278 <<< (a331 &&& 31) : Int32)
              refine q_ti (v := a334) e335 ?_
              refine lv_ior hx hb d_19_38_287 ?_
              obtain ⟨a336, e337⟩ := q_nm (a326 ||| a334 : Int32)
              refine q_ti (v := a336) e337 ?_
              refine q_iast C0 V hO100 (q_ix (x := a317.toInt) rfl (by have t1 : -1 ≤ a305.toInt ∧ a305.toInt ≤ 1 ∧ ((a305.toInt = -1 ∧ j287.toInt < 0) ∨ (a305.toInt = 0 ∧ j287.toInt = 0) ∨ (a305.toInt = 1 ∧ 0 < j287.toInt)) := b307; have t2 : 0 ≤ a305.toInt := b313; have t3 : a314.toInt = j287.toInt := b316; have t4 : 16 * a317.toInt ≤ a314.toInt ∧ a314.toInt ≤ 16 * a317.toInt + 15 := b319; omega) (by have t1 : -1 ≤ a305.toInt ∧ a305.toInt ≤ 1 ∧ ((a305.toInt = -1 ∧ j287.toInt < 0) ∨ (a305.toInt = 0 ∧ j287.toInt = 0) ∨ (a305.toInt = 1 ∧ 0 < j287.toInt)) := b307; have t2 : 0 ≤ a305.toInt := b313; have t3 : a314.toInt = j287.toInt := b316; have t4 : 16 * a317.toInt ≤ a314.toInt ∧ a314.toInt ≤ 16 * a317.toInt + 15 := b319; have t5 : x3.toInt < 0 := b81; have t6 : lx88.toInt ≤ 2048 := i91; have t7 : j281.toInt = lx88.toInt := b283; have t8 : j284.toInt = x3.toInt := b286; have t9 : j287.toInt = j281.toInt + j284.toInt := b289; have e9 : (((264 : Int32).toNatClampNeg : Nat) : Int) = 264 := (by decide); omega)) d_19_38_288 (fun H locs w338 hu339 hO100 V => ?_)
              replace hI := n_ai' hI (n_r123 g q).1 hu339 hO100 (q_updB (fun _ => s_bnd) s_bnd)
              replace hO97 := (hu339 _ (by decide)).trans hO97
              replace hO98 := (hu339 _ (by decide)).trans hO98
              replace hO99 := (hu339 _ (by decide)).trans hO99
              replace hO101 := (hu339 _ (by decide)).trans hO101
              replace hO102 := (hu339 _ (by decide)).trans hO102
              replace hF := q_us hF hu339 (by simp)
              obtain ⟨f340, e341⟩ := q_nm (upd lx90 a317.toNatClampNeg a336 : (Nat → Int32))
              rw [e341] at hO100
              obtain ⟨a342, e343⟩ := q_nm (lx88 + 1 : Int32)
              have b344 : q_F (a342.toInt = lx88.toInt + 1) := (by rw [← e343]; exact q_addI (y := 1) rfl (by decide) (by have t1 : 0 ≤ a273.toInt ∧ a273.toInt ≤ 15 ∧ a273.toInt ≤ lx88.toInt := b275; have t2 : lx88.toInt ≤ 2048 := i91; omega) (by have t1 : 0 ≤ a273.toInt ∧ a273.toInt ≤ 15 ∧ a273.toInt ≤ lx88.toInt := b275; have t2 : lx88.toInt ≤ 2048 := i91; omega))
              refine lv_iinc (v := a342) (lv' := [(5, .int a342), (4, .int lx290), (7, .long j287), (6, .int a278), (0, .ref (q 119)), (2, .int x3), (3, .int x4)]) hx hb d_19_38_289 hl (k := 3) rfl (e343) (by decide) rfl (fun ls hl => ?_)
              refine lv_goto (tgt := 189) hx hb d_19_38_292 (by decide) ?_
              exact ih95 ((a342 : Int32), (lx290 : Int32), (f340 : (Nat → Int32))) _ _ _ _ (show (2048 - a342.toInt).toNat < (2048 - lx88.toInt).toNat from by have t1 : a342.toInt = lx88.toInt + 1 := b344; have t2 : lx88.toInt ≤ 2048 := i91; have t3 : lx88.toInt < 2048 := b267; omega) ⟨(show q_F (a342.toInt ≤ 2048) from (show a342.toInt ≤ 2048 from by have t1 : lx88.toInt < 2048 := b267; have t2 : a342.toInt = lx88.toInt + 1 := b344; omega)), (show q_F (lx290.toInt ≤ 1) from (show lx290.toInt ≤ 1 from by have t1 : lx36.toInt ≤ 0 := b54; have t2 : lx290.toInt ≤ lx36.toInt + 1 := i299; omega)), (show q_F (lx36.toInt ≤ lx290.toInt) from (show lx36.toInt ≤ lx290.toInt from by have t1 : lx36.toInt ≤ lx89.toInt := i93; have t2 : lx89.toInt ≤ lx290.toInt := i298; omega)), (show q_F (lx290.toInt ≤ a342.toInt) from (show lx290.toInt ≤ a342.toInt from by have t1 : lx36.toInt ≤ lx89.toInt := i93; have t2 : lx89.toInt ≤ lx88.toInt := i94; have t3 : lx290.toInt ≤ lx36.toInt + 1 := i299; have t4 : a342.toInt = lx88.toInt + 1 := b344; omega)), V, q_lw hl (q_lw1 0 rfl (q_lw1 1 rfl (q_lw1 4 rfl (q_lw1 5 rfl (q_lw1 6 rfl q_lw0))))), hI, hF, hO97, hO98, hO99, hO100, hO101, hO102, ⟨fm107, Nat.lt_of_lt_of_le (show (2048 - a342.toInt).toNat < (2048 - lx88.toInt).toNat from by have t1 : a342.toInt = lx88.toInt + 1 := b344; have t2 : lx88.toInt ≤ 2048 := i91; have t3 : lx88.toInt < 2048 := b267; omega) (Nat.le_of_lt_succ hf106), (show F_WR_shift_L189 x2 x3 x4 t0_0 t0_1 t0_2 t0_3 t0_4 t0_5 t0_6 t1_0 t2_0 t3_0 t4_0 t5_0 lx36 a67 f60 fm107 a342 lx290 f340 = (F_WR_shift x2 x3 x4 t0_0 t0_1 t0_2 t0_3 t0_4 t0_5 t0_6 t1_0 t2_0 t3_0 t4_0 t5_0) from Eq.trans (by subst e306; subst e315; subst e318; subst e321; subst e324; subst e327; subst e329; subst e332; subst e335; subst e337; subst e341; subst e343; rw [F_WR_shift_J248.eq_1, if_neg c308]) hR300), (show S_WR_shift_L189 x2 x3 x4 t0_0 t0_1 t0_2 t0_3 t0_4 t0_5 t0_6 t1_0 t2_0 t3_0 t4_0 t5_0 lx36 a67 f60 fm107 a342 lx290 f340 from (by subst e306; subst e315; subst e318; subst e321; subst e324; subst e327; subst e329; subst e332; subst e335; subst e337; subst e341; subst e343; have h := hS301; rw [S_WR_shift_J248.eq_1] at h; rw [if_neg c308] at h; exact h))⟩⟩
          ·
            intro J297
            refine q_join (X := Unit) (fun z H locs ls _ => q_Wd D g (va_A ws sz) s w96 H locs ∧ lv_has ls 9 [(7, .long j287), (6, .int a278), (5, .int lx88), (0, .ref (q 119)), (2, .int x3), (3, .int x4)] ∧ F_WR_shift_J243 (F_WR_shift_L189 x2 x3 x4 t0_0 t0_1 t0_2 t0_3 t0_4 t0_5 t0_6 t1_0 t2_0 t3_0 t4_0 t5_0 lx36 a67 f60 fm107) x2 x3 x4 t0_0 t0_1 t0_2 t0_3 t0_4 t0_5 t0_6 t1_0 t2_0 t3_0 t4_0 t5_0 lx36 a67 f60 lx88 lx89 lx90 j287 a278 = (F_WR_shift x2 x3 x4 t0_0 t0_1 t0_2 t0_3 t0_4 t0_5 t0_6 t1_0 t2_0 t3_0 t4_0 t5_0) ∧ S_WR_shift_J243 (S_WR_shift_L189 x2 x3 x4 t0_0 t0_1 t0_2 t0_3 t0_4 t0_5 t0_6 t1_0 t2_0 t3_0 t4_0 t5_0 lx36 a67 f60 fm107) x2 x3 x4 t0_0 t0_1 t0_2 t0_3 t0_4 t0_5 t0_6 t1_0 t2_0 t3_0 t4_0 t5_0 lx36 a67 f60 lx88 lx89 lx90 j287 a278) (fun z => []) 243 0 0 ?_ ?_
            ·
              rintro _ H locs ls _ ⟨V, hl, hR352, hS353⟩
              replace hl : lv_has ls 9 [(7, .long j287), (6, .int a278), (5, .int lx88), (0, .ref (q 119)), (2, .int x3), (3, .int x4)] := hl
              refine lv_iconst (v := 1) hx hb d_19_38_243 (by decide) ?_
              refine lv_goto (tgt := 248) hx hb d_19_38_244 (by decide) ?_
              exact J297 ((1 : Int32)) _ _ _ w96 ⟨(show q_F (lx89.toInt ≤ 1) from (show lx89.toInt ≤ 1 from by have t1 : lx89.toInt ≤ 1 := i92; omega)), (show q_F (1 ≤ lx36.toInt + 1) from (show 1 ≤ lx36.toInt + 1 from by have t1 : 0 ≤ lx36.toInt := i44; omega)), V, q_lw hl (q_lw1 0 rfl (q_lw1 1 rfl (q_lw1 2 rfl (q_lw1 3 rfl (q_lw1 4 rfl (q_lw1 5 rfl q_lw0)))))), (show F_WR_shift_J248 (F_WR_shift_L189 x2 x3 x4 t0_0 t0_1 t0_2 t0_3 t0_4 t0_5 t0_6 t1_0 t2_0 t3_0 t4_0 t5_0 lx36 a67 f60 fm107) x2 x3 x4 t0_0 t0_1 t0_2 t0_3 t0_4 t0_5 t0_6 t1_0 t2_0 t3_0 t4_0 t5_0 lx36 a67 f60 lx88 lx89 lx90 j287 a278 1 = (F_WR_shift x2 x3 x4 t0_0 t0_1 t0_2 t0_3 t0_4 t0_5 t0_6 t1_0 t2_0 t3_0 t4_0 t5_0) from Eq.trans (by rw [F_WR_shift_J243.eq_1]) hR352), (show S_WR_shift_J248 (S_WR_shift_L189 x2 x3 x4 t0_0 t0_1 t0_2 t0_3 t0_4 t0_5 t0_6 t1_0 t2_0 t3_0 t4_0 t5_0 lx36 a67 f60 fm107) x2 x3 x4 t0_0 t0_1 t0_2 t0_3 t0_4 t0_5 t0_6 t1_0 t2_0 t3_0 t4_0 t5_0 lx36 a67 f60 lx88 lx89 lx90 j287 a278 1 from (by have h := hS353; rw [S_WR_shift_J243.eq_1] at h; exact h))⟩
            ·
              intro J351
              refine lv_if_ne (tgt := 243) hx hb d_19_38_227 (by decide) (fun c357 => ?_) (fun c357 => ?_)
              ·
                have b358 : q_F (lx89.toInt ≠ 0) := (q_neI c357)
                exact J351 (()) _ _ _ w96 ⟨V, q_lw hl (q_lw1 0 rfl (q_lw1 1 rfl (q_lw1 2 rfl (q_lw1 4 rfl (q_lw1 5 rfl (q_lw1 6 rfl q_lw0)))))), (show F_WR_shift_J243 (F_WR_shift_L189 x2 x3 x4 t0_0 t0_1 t0_2 t0_3 t0_4 t0_5 t0_6 t1_0 t2_0 t3_0 t4_0 t5_0 lx36 a67 f60 fm107) x2 x3 x4 t0_0 t0_1 t0_2 t0_3 t0_4 t0_5 t0_6 t1_0 t2_0 t3_0 t4_0 t5_0 lx36 a67 f60 lx88 lx89 lx90 j287 a278 = (F_WR_shift x2 x3 x4 t0_0 t0_1 t0_2 t0_3 t0_4 t0_5 t0_6 t1_0 t2_0 t3_0 t4_0 t5_0) from Eq.trans (by subst e269; subst e272; subst e274; subst e277; subst e279; subst e282; subst e285; subst e288; rw [F_WR_shift_L189.eq_2, if_neg c108, if_neg c357]) hR103), (show S_WR_shift_J243 (S_WR_shift_L189 x2 x3 x4 t0_0 t0_1 t0_2 t0_3 t0_4 t0_5 t0_6 t1_0 t2_0 t3_0 t4_0 t5_0 lx36 a67 f60 fm107) x2 x3 x4 t0_0 t0_1 t0_2 t0_3 t0_4 t0_5 t0_6 t1_0 t2_0 t3_0 t4_0 t5_0 lx36 a67 f60 lx88 lx89 lx90 j287 a278 from (by subst e269; subst e272; subst e274; subst e277; subst e279; subst e282; subst e285; subst e288; have h := hS104; rw [S_WR_shift_L189.eq_2] at h; rw [if_neg c108] at h; rw [if_neg c357] at h; exact h))⟩
              ·
                have b359 : q_F (lx89.toInt = 0) := (q_eqI c357)
                refine lv_iload hx hb d_19_38_230 (lv_at hl 1 rfl) ?_
                refine lv_iconst (v := 1) hx hb d_19_38_232 (by decide) ?_
                refine q_join (X := Unit) (fun z H locs ls _ => q_Wd D g (va_A ws sz) s w96 H locs ∧ lv_has ls 9 [(7, .long j287), (6, .int a278), (5, .int lx88), (0, .ref (q 119)), (2, .int x3), (3, .int x4)] ∧ F_WR_shift_J247 (F_WR_shift_L189 x2 x3 x4 t0_0 t0_1 t0_2 t0_3 t0_4 t0_5 t0_6 t1_0 t2_0 t3_0 t4_0 t5_0 lx36 a67 f60 fm107) x2 x3 x4 t0_0 t0_1 t0_2 t0_3 t0_4 t0_5 t0_6 t1_0 t2_0 t3_0 t4_0 t5_0 lx36 a67 f60 lx88 lx89 lx90 j287 a278 = (F_WR_shift x2 x3 x4 t0_0 t0_1 t0_2 t0_3 t0_4 t0_5 t0_6 t1_0 t2_0 t3_0 t4_0 t5_0) ∧ S_WR_shift_J247 (S_WR_shift_L189 x2 x3 x4 t0_0 t0_1 t0_2 t0_3 t0_4 t0_5 t0_6 t1_0 t2_0 t3_0 t4_0 t5_0 lx36 a67 f60 fm107) x2 x3 x4 t0_0 t0_1 t0_2 t0_3 t0_4 t0_5 t0_6 t1_0 t2_0 t3_0 t4_0 t5_0 lx36 a67 f60 lx88 lx89 lx90 j287 a278) (fun z => []) 247 0 0 ?_ ?_
                ·
                  rintro _ H locs ls _ ⟨V, hl, hR367, hS368⟩
                  replace hl : lv_has ls 9 [(7, .long j287), (6, .int a278), (5, .int lx88), (0, .ref (q 119)), (2, .int x3), (3, .int x4)] := hl
                  refine lv_iconst (v := 0) hx hb d_19_38_247 (by decide) ?_
                  exact J297 ((0 : Int32)) _ _ _ w96 ⟨(show q_F (lx89.toInt ≤ 0) from (show lx89.toInt ≤ 0 from by have t1 : lx89.toInt = 0 := b359; omega)), (show q_F (0 ≤ lx36.toInt + 1) from (show 0 ≤ lx36.toInt + 1 from by have t1 : 0 ≤ lx36.toInt := i44; omega)), V, q_lw hl (q_lw1 0 rfl (q_lw1 1 rfl (q_lw1 2 rfl (q_lw1 3 rfl (q_lw1 4 rfl (q_lw1 5 rfl q_lw0)))))), (show F_WR_shift_J248 (F_WR_shift_L189 x2 x3 x4 t0_0 t0_1 t0_2 t0_3 t0_4 t0_5 t0_6 t1_0 t2_0 t3_0 t4_0 t5_0 lx36 a67 f60 fm107) x2 x3 x4 t0_0 t0_1 t0_2 t0_3 t0_4 t0_5 t0_6 t1_0 t2_0 t3_0 t4_0 t5_0 lx36 a67 f60 lx88 lx89 lx90 j287 a278 0 = (F_WR_shift x2 x3 x4 t0_0 t0_1 t0_2 t0_3 t0_4 t0_5 t0_6 t1_0 t2_0 t3_0 t4_0 t5_0) from Eq.trans (by rw [F_WR_shift_J247.eq_1]) hR367), (show S_WR_shift_J248 (S_WR_shift_L189 x2 x3 x4 t0_0 t0_1 t0_2 t0_3 t0_4 t0_5 t0_6 t1_0 t2_0 t3_0 t4_0 t5_0 lx36 a67 f60 fm107) x2 x3 x4 t0_0 t0_1 t0_2 t0_3 t0_4 t0_5 t0_6 t1_0 t2_0 t3_0 t4_0 t5_0 lx36 a67 f60 lx88 lx89 lx90 j287 a278 0 from (by have h := hS368; rw [S_WR_shift_J247.eq_1] at h; exact h))⟩
                ·
                  intro J366
                  refine lv_icmp_ne (tgt := 247) hx hb d_19_38_233 (by decide) (fun c372 => ?_) (fun c372 => ?_)
                  ·
                    have b373 : q_F (a278.toInt ≠ 1) := (q_neI c372)
                    exact J366 (()) _ _ _ w96 ⟨V, q_lw hl (q_lw1 0 rfl (q_lw1 1 rfl (q_lw1 2 rfl (q_lw1 4 rfl (q_lw1 5 rfl (q_lw1 6 rfl q_lw0)))))), (show F_WR_shift_J247 (F_WR_shift_L189 x2 x3 x4 t0_0 t0_1 t0_2 t0_3 t0_4 t0_5 t0_6 t1_0 t2_0 t3_0 t4_0 t5_0 lx36 a67 f60 fm107) x2 x3 x4 t0_0 t0_1 t0_2 t0_3 t0_4 t0_5 t0_6 t1_0 t2_0 t3_0 t4_0 t5_0 lx36 a67 f60 lx88 lx89 lx90 j287 a278 = (F_WR_shift x2 x3 x4 t0_0 t0_1 t0_2 t0_3 t0_4 t0_5 t0_6 t1_0 t2_0 t3_0 t4_0 t5_0) from Eq.trans (by subst e269; subst e272; subst e274; subst e277; subst e279; subst e282; subst e285; subst e288; rw [F_WR_shift_L189.eq_2, if_neg c108, if_pos c357, if_neg c372]) hR103), (show S_WR_shift_J247 (S_WR_shift_L189 x2 x3 x4 t0_0 t0_1 t0_2 t0_3 t0_4 t0_5 t0_6 t1_0 t2_0 t3_0 t4_0 t5_0 lx36 a67 f60 fm107) x2 x3 x4 t0_0 t0_1 t0_2 t0_3 t0_4 t0_5 t0_6 t1_0 t2_0 t3_0 t4_0 t5_0 lx36 a67 f60 lx88 lx89 lx90 j287 a278 from (by subst e269; subst e272; subst e274; subst e277; subst e279; subst e282; subst e285; subst e288; have h := hS104; rw [S_WR_shift_L189.eq_2] at h; rw [if_neg c108] at h; rw [if_pos c357] at h; rw [if_neg c372] at h; exact h))⟩
                  ·
                    have b374 : q_F (a278.toInt = 1) := (q_eqI c372)
                    refine lv_lload hx hb d_19_38_236 (lv_at hl 0 rfl) ?_
                    refine lv_lconst (v := 0) hx hb d_19_38_238 (by decide) ?_
                    refine W.lcmp hx hb d_19_38_239 ?_
                    obtain ⟨a375, e376⟩ := q_nm (lg_cmp j287 0 : Int32)
                    refine q_ti (v := a375) e376 ?_
                    have b377 : q_F (-1 ≤ a375.toInt ∧ a375.toInt ≤ 1 ∧ ((a375.toInt = -1 ∧ j287.toInt < 0) ∨ (a375.toInt = 0 ∧ j287.toInt = 0) ∨ (a375.toInt = 1 ∧ 0 < j287.toInt))) := (by rw [← e376]; show -1 ≤ (lg_cmp j287 0 : Int32).toInt ∧ (lg_cmp j287 0 : Int32).toInt ≤ 1 ∧ (((lg_cmp j287 0 : Int32).toInt = -1 ∧ j287.toInt < 0) ∨ ((lg_cmp j287 0 : Int32).toInt = 0 ∧ j287.toInt = 0) ∨ ((lg_cmp j287 0 : Int32).toInt = 1 ∧ 0 < j287.toInt)); exact (by have y1 : (0 : Int64).toInt = 0 := rfl; have z := s_lcmp (a := j287) (b := 0); omega))
                    refine lv_if_ge (tgt := 247) hx hb d_19_38_240 (by decide) (fun c378 => ?_) (fun c378 => ?_)
                    ·
                      have b379 : q_F (0 ≤ a375.toInt) := (q_leI c378)
                      exact J366 (()) _ _ _ w96 ⟨V, q_lw hl (q_lw1 0 rfl (q_lw1 1 rfl (q_lw1 2 rfl (q_lw1 4 rfl (q_lw1 5 rfl (q_lw1 6 rfl q_lw0)))))), (show F_WR_shift_J247 (F_WR_shift_L189 x2 x3 x4 t0_0 t0_1 t0_2 t0_3 t0_4 t0_5 t0_6 t1_0 t2_0 t3_0 t4_0 t5_0 lx36 a67 f60 fm107) x2 x3 x4 t0_0 t0_1 t0_2 t0_3 t0_4 t0_5 t0_6 t1_0 t2_0 t3_0 t4_0 t5_0 lx36 a67 f60 lx88 lx89 lx90 j287 a278 = (F_WR_shift x2 x3 x4 t0_0 t0_1 t0_2 t0_3 t0_4 t0_5 t0_6 t1_0 t2_0 t3_0 t4_0 t5_0) from Eq.trans (by subst e269; subst e272; subst e274; subst e277; subst e279; subst e282; subst e285; subst e288; subst e376; rw [F_WR_shift_L189.eq_2, if_neg c108, if_pos c357, if_pos c372, if_pos c378]) hR103), (show S_WR_shift_J247 (S_WR_shift_L189 x2 x3 x4 t0_0 t0_1 t0_2 t0_3 t0_4 t0_5 t0_6 t1_0 t2_0 t3_0 t4_0 t5_0 lx36 a67 f60 fm107) x2 x3 x4 t0_0 t0_1 t0_2 t0_3 t0_4 t0_5 t0_6 t1_0 t2_0 t3_0 t4_0 t5_0 lx36 a67 f60 lx88 lx89 lx90 j287 a278 from (by subst e269; subst e272; subst e274; subst e277; subst e279; subst e282; subst e285; subst e288; subst e376; have h := hS104; rw [S_WR_shift_L189.eq_2] at h; rw [if_neg c108] at h; rw [if_pos c357] at h; rw [if_pos c372] at h; rw [if_pos c378] at h; exact h))⟩
                    ·
                      have b380 : q_F (a375.toInt < 0) := (q_nleI c378)
                      exact J351 (()) _ _ _ w96 ⟨V, q_lw hl (q_lw1 0 rfl (q_lw1 1 rfl (q_lw1 2 rfl (q_lw1 4 rfl (q_lw1 5 rfl (q_lw1 6 rfl q_lw0)))))), (show F_WR_shift_J243 (F_WR_shift_L189 x2 x3 x4 t0_0 t0_1 t0_2 t0_3 t0_4 t0_5 t0_6 t1_0 t2_0 t3_0 t4_0 t5_0 lx36 a67 f60 fm107) x2 x3 x4 t0_0 t0_1 t0_2 t0_3 t0_4 t0_5 t0_6 t1_0 t2_0 t3_0 t4_0 t5_0 lx36 a67 f60 lx88 lx89 lx90 j287 a278 = (F_WR_shift x2 x3 x4 t0_0 t0_1 t0_2 t0_3 t0_4 t0_5 t0_6 t1_0 t2_0 t3_0 t4_0 t5_0) from Eq.trans (by subst e269; subst e272; subst e274; subst e277; subst e279; subst e282; subst e285; subst e288; subst e376; rw [F_WR_shift_L189.eq_2, if_neg c108, if_pos c357, if_pos c372, if_neg c378]) hR103), (show S_WR_shift_J243 (S_WR_shift_L189 x2 x3 x4 t0_0 t0_1 t0_2 t0_3 t0_4 t0_5 t0_6 t1_0 t2_0 t3_0 t4_0 t5_0 lx36 a67 f60 fm107) x2 x3 x4 t0_0 t0_1 t0_2 t0_3 t0_4 t0_5 t0_6 t1_0 t2_0 t3_0 t4_0 t5_0 lx36 a67 f60 lx88 lx89 lx90 j287 a278 from (by subst e269; subst e272; subst e274; subst e277; subst e279; subst e282; subst e285; subst e288; subst e376; have h := hS104; rw [S_WR_shift_L189.eq_2] at h; rw [if_neg c108] at h; rw [if_pos c357] at h; rw [if_pos c372] at h; rw [if_neg c378] at h; exact h))⟩
      ·
        have b381 : q_F (0 ≤ x3.toInt) := (q_nltI c80)
        refine lv_iload_n hx hb d_19_38_66 rfl (lv_at hl 2 rfl) ?_
        refine lv_sipush (v := 2048) hx hb d_19_38_67 (by decide) ?_
        refine q_join (X := Unit) (fun z H locs ls _ => q_Wd D g (va_A ws sz) s u73 H locs ∧ lv_has ls 9 [(0, .ref (q 119)), (2, .int x3), (3, .int x4)] ∧ F_WR_shift_J89 x2 x3 x4 t0_0 t0_1 t0_2 t0_3 t0_4 t0_5 t0_6 t1_0 t2_0 t3_0 t4_0 t5_0 lx36 a67 f75 f60 = (F_WR_shift x2 x3 x4 t0_0 t0_1 t0_2 t0_3 t0_4 t0_5 t0_6 t1_0 t2_0 t3_0 t4_0 t5_0) ∧ S_WR_shift_J89 x2 x3 x4 t0_0 t0_1 t0_2 t0_3 t0_4 t0_5 t0_6 t1_0 t2_0 t3_0 t4_0 t5_0 lx36 a67 f75 f60) (fun z => []) 89 0 0 ?_ ?_
        ·
          rintro _ H locs ls _ ⟨V, hl, hR389, hS390⟩
          replace hl : lv_has ls 9 [(0, .ref (q 119)), (2, .int x3), (3, .int x4)] := hl
          refine lv_iconst (v := 0) hx hb d_19_38_89 (by decide) ?_
          refine lv_istore (lv' := [(4, .int 0), (0, .ref (q 119)), (2, .int x3), (3, .int x4)]) hx hb d_19_38_90 hl (by decide) rfl (fun ls hl => ?_)
          refine q_loop (X := Int32 × (Nat → Int32)) (fun z H locs ls w400 => q_F (z.1.toInt ≤ 2100) ∧ q_F (lx36.toInt ≤ z.1.toInt) ∧ q_Wd D g (va_A ws sz) s w400 H locs ∧ lv_has ls 9 [(4, .int z.1), (0, .ref (q 119)), (2, .int x3), (3, .int x4)] ∧ q_I (msh g q) q w400 ∧ q_un ws w400 [119, 121, 122, 123, 124, 128] ∧ w400[119]? = (some (q 119, .inr (13, [.int lx36, .int 2, .ref (q 120), .int t0_2, .ref (q 121), .ref (q 122), .ref (q 123), .int a67, .ref (q 124), .ref (q 125), .ref (q 126), .ref (q 127), .ref (q 128), .ref (q 129), .ref (q 130), .ref (q 131), .int t0_4, .int t0_5, .ref (q 132), .ref (q 133), .int t0_6])) : Option (Nat × va_E)) ∧ w400[121]? = (some (q 121, .inl (g 0, (1408 : Int32).toNatClampNeg, .inl t1_0)) : Option (Nat × va_E)) ∧ w400[122]? = (some (q 122, .inl (g 3, 11, .inl t2_0)) : Option (Nat × va_E)) ∧ w400[123]? = (some (q 123, .inl (g 0, (264 : Int32).toNatClampNeg, .inl z.2)) : Option (Nat × va_E)) ∧ w400[124]? = (some (q 124, .inl (g 0, (264 : Int32).toNatClampNeg, .inl t4_0)) : Option (Nat × va_E)) ∧ w400[128]? = (some (q 128, .inl (g 0, (264 : Int32).toNatClampNeg, .inl f60)) : Option (Nat × va_E)) ∧ (∃ n, (2100 - z.1.toInt).toNat < n ∧ F_WR_shift_L92 x2 x3 x4 t0_0 t0_1 t0_2 t0_3 t0_4 t0_5 t0_6 t1_0 t2_0 t3_0 t4_0 t5_0 lx36 a67 f75 f60 n z.1 z.2 = (F_WR_shift x2 x3 x4 t0_0 t0_1 t0_2 t0_3 t0_4 t0_5 t0_6 t1_0 t2_0 t3_0 t4_0 t5_0) ∧ S_WR_shift_L92 x2 x3 x4 t0_0 t0_1 t0_2 t0_3 t0_4 t0_5 t0_6 t1_0 t2_0 t3_0 t4_0 t5_0 lx36 a67 f75 f60 n z.1 z.2)) (fun z => (2100 - z.1.toInt).toNat) ?_ ((0 : Int32), (f75 : (Nat → Int32))) _ _ _ u73 ⟨(show q_F (0 ≤ 2100) from (show 0 ≤ 2100 from by omega)), (show q_F (lx36.toInt ≤ 0) from (show lx36.toInt ≤ 0 from by have t1 : lx36.toInt ≤ 0 := b54; omega)), V, q_lw hl (q_lw1 0 rfl (q_lw1 1 rfl (q_lw1 2 rfl (q_lw1 3 rfl q_lw0)))), hI, hF, hT0, hT1, hT2, hA76, hT4, hA61, ⟨((2100 - (0 : Int32).toInt).toNat + 1), Nat.lt_succ_self _, (show F_WR_shift_L92 x2 x3 x4 t0_0 t0_1 t0_2 t0_3 t0_4 t0_5 t0_6 t1_0 t2_0 t3_0 t4_0 t5_0 lx36 a67 f75 f60 ((2100 - (0 : Int32).toInt).toNat + 1) 0 f75 = (F_WR_shift x2 x3 x4 t0_0 t0_1 t0_2 t0_3 t0_4 t0_5 t0_6 t1_0 t2_0 t3_0 t4_0 t5_0) from Eq.trans (by rw [F_WR_shift_J89.eq_1]) hR389), (show S_WR_shift_L92 x2 x3 x4 t0_0 t0_1 t0_2 t0_3 t0_4 t0_5 t0_6 t1_0 t2_0 t3_0 t4_0 t5_0 lx36 a67 f75 f60 ((2100 - (0 : Int32).toInt).toNat + 1) 0 f75 from (by have h := hS390; rw [S_WR_shift_J89.eq_1] at h; exact h))⟩⟩
          rintro ⟨lx395, lx396⟩ H locs ls w400 ⟨i397, i398, V, hl, hI, hF, hO401, hO402, hO403, hO404, hO405, hO406, ⟨fu409, hf410, hR407, hS408⟩⟩ ih399
          obtain ⟨fm411, rfl⟩ : ∃ m, fu409 = m + 1 := ⟨fu409 - 1, by omega⟩
          replace i397 : q_F (lx395.toInt ≤ 2100) := i397
          replace i398 : q_F (lx36.toInt ≤ lx395.toInt) := i398
          replace hl : lv_has ls 9 [(4, .int lx395), (0, .ref (q 119)), (2, .int x3), (3, .int x4)] := hl
          replace hO401 : w400[119]? = (some (q 119, .inr (13, [.int lx36, .int 2, .ref (q 120), .int t0_2, .ref (q 121), .ref (q 122), .ref (q 123), .int a67, .ref (q 124), .ref (q 125), .ref (q 126), .ref (q 127), .ref (q 128), .ref (q 129), .ref (q 130), .ref (q 131), .int t0_4, .int t0_5, .ref (q 132), .ref (q 133), .int t0_6])) : Option (Nat × va_E)) := hO401
          replace hO402 : w400[121]? = (some (q 121, .inl (g 0, (1408 : Int32).toNatClampNeg, .inl t1_0)) : Option (Nat × va_E)) := hO402
          replace hO403 : w400[122]? = (some (q 122, .inl (g 3, 11, .inl t2_0)) : Option (Nat × va_E)) := hO403
          replace hO404 : w400[123]? = (some (q 123, .inl (g 0, (264 : Int32).toNatClampNeg, .inl lx396)) : Option (Nat × va_E)) := hO404
          replace hO405 : w400[124]? = (some (q 124, .inl (g 0, (264 : Int32).toNatClampNeg, .inl t4_0)) : Option (Nat × va_E)) := hO405
          replace hO406 : w400[128]? = (some (q 128, .inl (g 0, (264 : Int32).toNatClampNeg, .inl f60)) : Option (Nat × va_E)) := hO406
          refine lv_iload hx hb d_19_38_92 (lv_at hl 0 rfl) ?_
          refine lv_aload_n hx hb d_19_38_94 rfl (lv_at hl 1 rfl) ?_
          refine q_get (ci := 13) (j := 12) (v := .ref (q 128)) C0 V i_WR rfl rfl hO401 (by decide) w_1936 rfl d_19_38_95 ?_
          refine q_goi V (q_runS (As := [.ref (q 128)]) (rest := [.int lx395]) (d := 1) (mc := 0) (ms := 0) C0 V rfl LS_WR_59 (X_WR_size l D g q w400 128 264 (n_r128 g q)  hI f60 hO406  _) rfl hl.1 rfl (Nat.le_of_ble_eq_true rfl) ⟨by decide, by decide⟩ ⟨Nat.le_of_ble_eq_true rfl, Nat.le_of_ble_eq_true rfl⟩ d_19_38_98) (fun a414 u412 H locs hp413 V => ?_)
          obtain ⟨rfl, b415, b416, hE417⟩ := hp413
          have e418 : a414 = (F_WR_size (264 : Int32) f60) := hE417
          replace b415 : q_F (0 ≤ a414.toInt) := b415
          replace b416 : q_F (a414.toInt ≤ 264) := b416
          refine lv_icmp_ge (tgt := 177) hx hb d_19_38_101 (by decide) (fun c419 => ?_) (fun c419 => ?_)
          ·
            have b420 : q_F (a414.toInt ≤ lx395.toInt) := (q_leI c419)
            refine lv_aload_n hx hb d_19_38_177 rfl (lv_at hl 1 rfl) ?_
            refine lv_iload_n hx hb d_19_38_178 rfl (lv_at hl 3 rfl) ?_
            have ob421 : q_F (S_WR_store x4 lx36 (2 : Int32) t0_2 a67 t0_4 t0_5 t0_6 t1_0 t2_0 lx396) := (by subst e418; have h := hS408; rw [S_WR_shift_L92.eq_2] at h; rw [if_pos c419] at h; exact h.1)
            refine q_gov V (q_runV (As := [.int x4]) (rest := []) (d := 2) (mc := 0) (ms := 0) (ci := 13) C0 V rfl LV_WR_103 (X_WR_store l D g q w400  x4 hI lx36 2 t0_2 a67 t0_4 t0_5 t0_6 hO401 t1_0 hO402 t2_0 hO403 lx396 hO404 ob421 _) rfl rfl hO401 rfl hl.1 rfl (Nat.le_of_ble_eq_true rfl) ⟨by decide, by decide⟩ ⟨Nat.le_of_ble_eq_true rfl, Nat.le_of_ble_eq_true rfl⟩ d_19_38_179) (fun u422 H locs hp423 V => ?_)
            obtain ⟨hI, hu449, y425, y426, y427, y428, y429, y430, y431, f432, f434, hO424, hA433, hA435, b436, b437, b438, b439, b440, b441, b442, b443, b444, b445, b446, b447, hE448⟩ := hp423
            replace hO424 : u422[119]? = (some (q 119, .inr (13, [.int y425, .int y426, .ref (q 120), .int y427, .ref (q 121), .ref (q 122), .ref (q 123), .int y428, .ref (q 124), .ref (q 125), .ref (q 126), .ref (q 127), .ref (q 128), .ref (q 129), .ref (q 130), .ref (q 131), .int y429, .int y430, .ref (q 132), .ref (q 133), .int y431])) : Option (Nat × va_E)) := hO424
            replace hA433 : u422[121]? = (some (q 121, .inl (g 0, (1408 : Int32).toNatClampNeg, .inl f432)) : Option (Nat × va_E)) := hA433
            replace hA435 : u422[122]? = (some (q 122, .inl (g 3, 11, .inl f434)) : Option (Nat × va_E)) := hA435
            obtain ⟨p450, e451⟩ : ∃ z, z = (F_WR_store x4 lx36 (2 : Int32) t0_2 a67 t0_4 t0_5 t0_6 t1_0 t2_0 lx396) := ⟨_, rfl⟩
            have e452 : y425 = p450.1 := congrArg (fun z => z.1) (hE448.trans e451.symm)
            have e453 : y426 = p450.2.1 := congrArg (fun z => z.2.1) (hE448.trans e451.symm)
            have e454 : y427 = p450.2.2.1 := congrArg (fun z => z.2.2.1) (hE448.trans e451.symm)
            have e455 : y428 = p450.2.2.2.1 := congrArg (fun z => z.2.2.2.1) (hE448.trans e451.symm)
            have e456 : y429 = p450.2.2.2.2.1 := congrArg (fun z => z.2.2.2.2.1) (hE448.trans e451.symm)
            have e457 : y430 = p450.2.2.2.2.2.1 := congrArg (fun z => z.2.2.2.2.2.1) (hE448.trans e451.symm)
            have e458 : y431 = p450.2.2.2.2.2.2.1 := congrArg (fun z => z.2.2.2.2.2.2.1) (hE448.trans e451.symm)
            have e459 : f432 = p450.2.2.2.2.2.2.2.1 := congrArg (fun z => z.2.2.2.2.2.2.2.1) (hE448.trans e451.symm)
            have e460 : f434 = p450.2.2.2.2.2.2.2.2 := congrArg (fun z => z.2.2.2.2.2.2.2.2) (hE448.trans e451.symm)
            replace b436 : q_F (2 ≤ y426.toInt) := b436
            replace b437 : q_F (y426.toInt ≤ 2) := b437
            replace b438 : q_F (t0_2.toInt ≤ y427.toInt) := b438
            replace b439 : q_F (y427.toInt ≤ t0_2.toInt) := b439
            replace b440 : q_F (a67.toInt ≤ y428.toInt) := b440
            replace b441 : q_F (y428.toInt ≤ a67.toInt) := b441
            replace b442 : q_F (t0_4.toInt ≤ y429.toInt) := b442
            replace b443 : q_F (y429.toInt ≤ t0_4.toInt) := b443
            replace b444 : q_F (t0_5.toInt ≤ y430.toInt) := b444
            replace b445 : q_F (y430.toInt ≤ t0_5.toInt) := b445
            replace b446 : q_F (t0_6.toInt ≤ y431.toInt) := b446
            replace b447 : q_F (y431.toInt ≤ t0_6.toInt) := b447
            replace hO404 := (hu449 _ (by decide)).trans hO404
            replace hO405 := (hu449 _ (by decide)).trans hO405
            replace hO406 := (hu449 _ (by decide)).trans hO406
            replace hF := q_uc hF hu449 (by simp)
            have hR461 := (show F_WR_shift_c179 (F_WR_shift_L92 x2 x3 x4 t0_0 t0_1 t0_2 t0_3 t0_4 t0_5 t0_6 t1_0 t2_0 t3_0 t4_0 t5_0 lx36 a67 f75 f60 fm411) x2 x3 x4 t0_0 t0_1 t0_2 t0_3 t0_4 t0_5 t0_6 t1_0 t2_0 t3_0 t4_0 t5_0 lx36 a67 f75 f60 lx395 lx396 p450 = (F_WR_shift x2 x3 x4 t0_0 t0_1 t0_2 t0_3 t0_4 t0_5 t0_6 t1_0 t2_0 t3_0 t4_0 t5_0) from Eq.trans (by subst e418; subst e451; rw [F_WR_shift_L92.eq_2, if_pos c419]) hR407)
            have hS462 := (show S_WR_shift_c179 (S_WR_shift_L92 x2 x3 x4 t0_0 t0_1 t0_2 t0_3 t0_4 t0_5 t0_6 t1_0 t2_0 t3_0 t4_0 t5_0 lx36 a67 f75 f60 fm411) x2 x3 x4 t0_0 t0_1 t0_2 t0_3 t0_4 t0_5 t0_6 t1_0 t2_0 t3_0 t4_0 t5_0 lx36 a67 f75 f60 lx395 lx396 p450 from (by subst e418; subst e451; have h := hS408; rw [S_WR_shift_L92.eq_2] at h; rw [if_pos c419] at h; replace h := h.2; exact h))
            exact q_retv C0 V (⟨hI, hF, y425, y426, y427, y428, y429, y430, y431, f432, f434, lx396, t4_0, f60, hO424, hA433, hA435, hO404, hO405, hO406, (show 0 ≤ y428.toInt from (by have t1 : 0 ≤ a67.toInt := ob71; have t2 : a67.toInt ≤ y428.toInt := b440; omega)), (show y428.toInt ≤ 1 from (by have t1 : a67.toInt ≤ 1 := ob72; have t2 : y428.toInt ≤ a67.toInt := b441; omega)), (show t0_2.toInt ≤ y427.toInt from (by have t1 : t0_2.toInt ≤ y427.toInt := b438; omega)), (show y427.toInt ≤ t0_2.toInt from (by have t1 : y427.toInt ≤ t0_2.toInt := b439; omega)), (show t0_4.toInt ≤ y429.toInt from (by have t1 : t0_4.toInt ≤ y429.toInt := b442; omega)), (show y429.toInt ≤ t0_4.toInt from (by have t1 : y429.toInt ≤ t0_4.toInt := b443; omega)), (show t0_5.toInt ≤ y430.toInt from (by have t1 : t0_5.toInt ≤ y430.toInt := b444; omega)), (show y430.toInt ≤ t0_5.toInt from (by have t1 : y430.toInt ≤ t0_5.toInt := b445; omega)), (show t0_6.toInt ≤ y431.toInt from (by have t1 : t0_6.toInt ≤ y431.toInt := b446; omega)), (show y431.toInt ≤ t0_6.toInt from (by have t1 : y431.toInt ≤ t0_6.toInt := b447; omega)), (show (y425, y426, y427, y428, y429, y430, y431, f432, f434, lx396, t4_0, f60) = (F_WR_shift x2 x3 x4 t0_0 t0_1 t0_2 t0_3 t0_4 t0_5 t0_6 t1_0 t2_0 t3_0 t4_0 t5_0) from Eq.trans (by subst e452; subst e453; subst e454; subst e455; subst e456; subst e457; subst e458; subst e459; subst e460; rw [F_WR_shift_c179.eq_1]) hR461)⟩) d_19_38_182
          ·
            have b466 : q_F (lx395.toInt < a414.toInt) := (q_nleI c419)
            refine lv_aload_n hx hb d_19_38_104 rfl (lv_at hl 1 rfl) ?_
            refine q_get (ci := 13) (j := 12) (v := .ref (q 128)) C0 V i_WR rfl rfl hO401 (by decide) w_1936 rfl d_19_38_105 ?_
            refine lv_iload hx hb d_19_38_108 (lv_at hl 0 rfl) ?_
            refine q_iald C0 V hO406 (q_ix (x := lx395.toInt) rfl (by have t1 : 0 ≤ lx36.toInt := i44; have t2 : lx36.toInt ≤ lx395.toInt := i398; omega) (by have t1 : 0 ≤ lx36.toInt := i44; have t2 : lx36.toInt ≤ lx395.toInt := i398; have t3 : a414.toInt ≤ 264 := b416; have t4 : lx395.toInt < a414.toInt := b466; have e9 : (((264 : Int32).toNatClampNeg : Nat) : Int) = 264 := (by decide); omega)) d_19_38_110 ?_
            obtain ⟨a467, e468⟩ := q_nm (f60 lx395.toNatClampNeg : Int32)
            refine q_ti (v := a467) e468 ?_
            refine lv_i2l hx hb d_19_38_111 rfl ?_
            obtain ⟨j469, e470⟩ := q_nm (a467.toInt64 : Int64)
            refine q_tl (v := j469) e470 ?_
            have b471 : q_F (j469.toInt = a467.toInt) := (by rw [← e470]; show (a467.toInt64 : Int64).toInt = a467.toInt; exact q_i2l rfl)
            refine lv_iload_n hx hb d_19_38_112 rfl (lv_at hl 2 rfl) ?_
            refine lv_bipush (v := 16) hx hb d_19_38_113 (by decide) ?_
            refine lv_irem hx hb d_19_38_115 (by decide) ?_
            obtain ⟨a472, e473⟩ := q_nm (x3 - x3 / 16 * 16 : Int32)
            refine q_ti (v := a472) e473 ?_
            have b474 : q_F (0 ≤ a472.toInt ∧ a472.toInt ≤ 15 ∧ a472.toInt ≤ x3.toInt) := (by rw [← e473]; show 0 ≤ (x3 - x3 / 16 * 16 : Int32).toInt ∧ (x3 - x3 / 16 * 16 : Int32).toInt ≤ 15 ∧ (x3 - x3 / 16 * 16 : Int32).toInt ≤ x3.toInt; exact (by have z := s_rem' (x := x3) (b := 16) (by have t1 : 0 ≤ x3.toInt := b381; omega) (by decide); have z8 : (16 : Int32).toInt = 16 := rfl; omega))
            refine lv_lshl hx hb d_19_38_116 rfl ?_
            obtain ⟨j475, e476⟩ := q_nm (j469 <<< (a472.toInt64 &&& 63) : Int64)
            refine q_tl (v := j475) e476 ?_
            refine lv_lstore (lv' := [(5, .long j475), (4, .int lx395), (0, .ref (q 119)), (2, .int x3), (3, .int x4)]) hx hb d_19_38_117 hl (by decide) rfl (fun ls hl => ?_)
            refine lv_aload_n hx hb d_19_38_119 rfl (lv_at hl 2 rfl) ?_
            refine q_get (ci := 13) (j := 6) (v := .ref (q 123)) C0 V i_WR rfl rfl hO401 (by decide) w_1930 rfl d_19_38_120 ?_
            refine lv_iload hx hb d_19_38_123 (lv_at hl 1 rfl) ?_
            refine lv_iload_n hx hb d_19_38_125 rfl (lv_at hl 3 rfl) ?_
            refine lv_bipush (v := 16) hx hb d_19_38_126 (by decide) ?_
            refine lv_idiv hx hb d_19_38_128 (by decide) ?_
            obtain ⟨a477, e478⟩ := q_nm (x3 / 16 : Int32)
            refine q_ti (v := a477) e478 ?_
            have b479 : q_F (16 * a477.toInt ≤ x3.toInt ∧ x3.toInt ≤ 16 * a477.toInt + 15) := (by rw [← e478]; show 16 * (x3 / 16 : Int32).toInt ≤ x3.toInt ∧ x3.toInt ≤ 16 * (x3 / 16 : Int32).toInt + 15; exact (by have z := q_divI (y := 16) (rfl : x3.toInt = _) (by decide : (16 : Int32).toInt = 16) (by have t1 : 0 ≤ x3.toInt := b381; omega) (by decide); omega))
            refine lv_iadd hx hb d_19_38_129 ?_
            obtain ⟨a480, e481⟩ := q_nm (lx395 + a477 : Int32)
            refine q_ti (v := a480) e481 ?_
            have b482 : q_F (a480.toInt = lx395.toInt + a477.toInt) := (by rw [← e481]; show (lx395 + a477 : Int32).toInt = lx395.toInt + a477.toInt; exact q_addI (x := lx395.toInt) (y := a477.toInt) rfl rfl (by have t1 : 0 ≤ lx36.toInt := i44; have t2 : 0 ≤ x3.toInt := b381; have t3 : lx36.toInt ≤ lx395.toInt := i398; have t4 : 16 * a477.toInt ≤ x3.toInt ∧ x3.toInt ≤ 16 * a477.toInt + 15 := b479; have t5 : lx395.toInt ≤ 2100 := i397; have _ := q_lo32 (x := x3); have _ := q_hi32 (x := x3); omega) (by have t1 : 0 ≤ lx36.toInt := i44; have t2 : 0 ≤ x3.toInt := b381; have t3 : lx36.toInt ≤ lx395.toInt := i398; have t4 : 16 * a477.toInt ≤ x3.toInt ∧ x3.toInt ≤ 16 * a477.toInt + 15 := b479; have t5 : lx395.toInt ≤ 2100 := i397; have _ := q_lo32 (x := x3); have _ := q_hi32 (x := x3); omega))
            refine lv_aload_n hx hb d_19_38_130 rfl (lv_at hl 2 rfl) ?_
            refine q_get (ci := 13) (j := 6) (v := .ref (q 123)) C0 V i_WR rfl rfl hO401 (by decide) w_1930 rfl d_19_38_131 ?_
            refine lv_iload hx hb d_19_38_134 (lv_at hl 1 rfl) ?_
            refine lv_iload_n hx hb d_19_38_136 rfl (lv_at hl 3 rfl) ?_
            refine lv_bipush (v := 16) hx hb d_19_38_137 (by decide) ?_
            refine lv_idiv hx hb d_19_38_139 (by decide) ?_
            obtain ⟨a483, e484⟩ := q_nm (x3 / 16 : Int32)
            refine q_ti (v := a483) e484 ?_
            have b485 : q_F (16 * a483.toInt ≤ x3.toInt ∧ x3.toInt ≤ 16 * a483.toInt + 15) := (by rw [← e484]; show 16 * (x3 / 16 : Int32).toInt ≤ x3.toInt ∧ x3.toInt ≤ 16 * (x3 / 16 : Int32).toInt + 15; exact (by have z := q_divI (y := 16) (rfl : x3.toInt = _) (by decide : (16 : Int32).toInt = 16) (by have t1 : 0 ≤ x3.toInt := b381; omega) (by decide); omega))
            refine lv_iadd hx hb d_19_38_140 ?_
            obtain ⟨a486, e487⟩ := q_nm (lx395 + a483 : Int32)
            refine q_ti (v := a486) e487 ?_
            have b488 : q_F (a486.toInt = lx395.toInt + a483.toInt) := (by rw [← e487]; show (lx395 + a483 : Int32).toInt = lx395.toInt + a483.toInt; exact q_addI (x := lx395.toInt) (y := a483.toInt) rfl rfl (by have t1 : 0 ≤ lx36.toInt := i44; have t2 : 0 ≤ x3.toInt := b381; have t3 : lx36.toInt ≤ lx395.toInt := i398; have t4 : 16 * a483.toInt ≤ x3.toInt ∧ x3.toInt ≤ 16 * a483.toInt + 15 := b485; have t5 : lx395.toInt ≤ 2100 := i397; have _ := q_lo32 (x := x3); have _ := q_hi32 (x := x3); omega) (by have t1 : 0 ≤ lx36.toInt := i44; have t2 : 0 ≤ x3.toInt := b381; have t3 : lx36.toInt ≤ lx395.toInt := i398; have t4 : 16 * a483.toInt ≤ x3.toInt ∧ x3.toInt ≤ 16 * a483.toInt + 15 := b485; have t5 : lx395.toInt ≤ 2100 := i397; have _ := q_lo32 (x := x3); have _ := q_hi32 (x := x3); omega))
            have ob489 : q_F (a486.toInt ≤ 263) := (by subst e418; subst e484; subst e487; have h := hS408; rw [S_WR_shift_L92.eq_2] at h; rw [if_neg c419] at h; exact h.1)
            refine q_iald C0 V hO404 (q_ix (x := a486.toInt) rfl (by have t1 : 0 ≤ lx36.toInt := i44; have t2 : 0 ≤ x3.toInt := b381; have t3 : lx36.toInt ≤ lx395.toInt := i398; have t4 : 16 * a483.toInt ≤ x3.toInt ∧ x3.toInt ≤ 16 * a483.toInt + 15 := b485; have t5 : a486.toInt = lx395.toInt + a483.toInt := b488; omega) (by have t1 : 0 ≤ lx36.toInt := i44; have t2 : 0 ≤ x3.toInt := b381; have t3 : lx36.toInt ≤ lx395.toInt := i398; have t4 : 16 * a483.toInt ≤ x3.toInt ∧ x3.toInt ≤ 16 * a483.toInt + 15 := b485; have t5 : a486.toInt = lx395.toInt + a483.toInt := b488; have t6 : a486.toInt ≤ 263 := ob489; have e9 : (((264 : Int32).toNatClampNeg : Nat) : Int) = 264 := (by decide); omega)) d_19_38_141 ?_
            obtain ⟨a490, e491⟩ := q_nm (lx396 a486.toNatClampNeg : Int32)
            refine q_ti (v := a490) e491 ?_
            refine lv_lload hx hb d_19_38_142 (lv_at hl 0 rfl) ?_
            refine q_ldc2 C0 rfl w_2384 d_19_38_144 ?_
            refine lv_land hx hb d_19_38_147 ?_
            obtain ⟨j492, e493⟩ := q_nm (j475 &&& 65535 : Int64)
            refine q_tl (v := j492) e493 ?_
            have b494 : q_F (0 ≤ j492.toInt ∧ j492.toInt ≤ 65535) := (by rw [← e493]; show 0 ≤ (j475 &&& 65535 : Int64).toInt ∧ (j475 &&& 65535 : Int64).toInt ≤ 65535; exact s_andJ (by decide))
            refine lv_l2i hx hb d_19_38_148 rfl ?_
            obtain ⟨a495, e496⟩ := q_nm (j492.toInt32 : Int32)
            refine q_ti (v := a495) e496 ?_
            have b497 : q_F (a495.toInt = j492.toInt) := (by rw [← e496]; show (j492.toInt32 : Int32).toInt = j492.toInt; exact s_l2i (by have t1 : 0 ≤ j492.toInt ∧ j492.toInt ≤ 65535 := b494; omega) (by have t1 : 0 ≤ j492.toInt ∧ j492.toInt ≤ 65535 := b494; omega))
            refine lv_ior hx hb d_19_38_149 ?_
            obtain ⟨a498, e499⟩ := q_nm (a490 ||| a495 : Int32)
            refine q_ti (v := a498) e499 ?_
            refine q_iast C0 V hO404 (q_ix (x := a480.toInt) rfl (by have t1 : 0 ≤ lx36.toInt := i44; have t2 : 0 ≤ x3.toInt := b381; have t3 : lx36.toInt ≤ lx395.toInt := i398; have t4 : 16 * a477.toInt ≤ x3.toInt ∧ x3.toInt ≤ 16 * a477.toInt + 15 := b479; have t5 : a480.toInt = lx395.toInt + a477.toInt := b482; omega) (by have t1 : 0 ≤ lx36.toInt := i44; have t2 : 0 ≤ x3.toInt := b381; have t3 : lx36.toInt ≤ lx395.toInt := i398; have t4 : 16 * a477.toInt ≤ x3.toInt ∧ x3.toInt ≤ 16 * a477.toInt + 15 := b479; have t5 : a480.toInt = lx395.toInt + a477.toInt := b482; have t6 : 16 * a483.toInt ≤ x3.toInt ∧ x3.toInt ≤ 16 * a483.toInt + 15 := b485; have t7 : a486.toInt = lx395.toInt + a483.toInt := b488; have t8 : a486.toInt ≤ 263 := ob489; have e9 : (((264 : Int32).toNatClampNeg : Nat) : Int) = 264 := (by decide); omega)) d_19_38_150 (fun H locs w500 hu501 hO404 V => ?_)
            replace hI := n_ai' hI (n_r123 g q).1 hu501 hO404 (q_updB (fun _ => s_bnd) s_bnd)
            replace hO401 := (hu501 _ (by decide)).trans hO401
            replace hO402 := (hu501 _ (by decide)).trans hO402
            replace hO403 := (hu501 _ (by decide)).trans hO403
            replace hO405 := (hu501 _ (by decide)).trans hO405
            replace hO406 := (hu501 _ (by decide)).trans hO406
            replace hF := q_us hF hu501 (by simp)
            obtain ⟨f502, e503⟩ := q_nm (upd lx396 a480.toNatClampNeg a498 : (Nat → Int32))
            rw [e503] at hO404
            refine lv_aload_n hx hb d_19_38_151 rfl (lv_at hl 2 rfl) ?_
            refine q_get (ci := 13) (j := 6) (v := .ref (q 123)) C0 V i_WR rfl rfl hO401 (by decide) w_1930 rfl d_19_38_152 ?_
            refine lv_iload hx hb d_19_38_155 (lv_at hl 1 rfl) ?_
            refine lv_iload_n hx hb d_19_38_157 rfl (lv_at hl 3 rfl) ?_
            refine lv_bipush (v := 16) hx hb d_19_38_158 (by decide) ?_
            refine lv_idiv hx hb d_19_38_160 (by decide) ?_
            obtain ⟨a504, e505⟩ := q_nm (x3 / 16 : Int32)
            refine q_ti (v := a504) e505 ?_
            have b506 : q_F (16 * a504.toInt ≤ x3.toInt ∧ x3.toInt ≤ 16 * a504.toInt + 15) := (by rw [← e505]; show 16 * (x3 / 16 : Int32).toInt ≤ x3.toInt ∧ x3.toInt ≤ 16 * (x3 / 16 : Int32).toInt + 15; exact (by have z := q_divI (y := 16) (rfl : x3.toInt = _) (by decide : (16 : Int32).toInt = 16) (by have t1 : 0 ≤ x3.toInt := b381; omega) (by decide); omega))
            refine lv_iadd hx hb d_19_38_161 ?_
            obtain ⟨a507, e508⟩ := q_nm (lx395 + a504 : Int32)
            refine q_ti (v := a507) e508 ?_
            have b509 : q_F (a507.toInt = lx395.toInt + a504.toInt) := (by rw [← e508]; show (lx395 + a504 : Int32).toInt = lx395.toInt + a504.toInt; exact q_addI (x := lx395.toInt) (y := a504.toInt) rfl rfl (by have t1 : 0 ≤ lx36.toInt := i44; have t2 : 0 ≤ x3.toInt := b381; have t3 : lx36.toInt ≤ lx395.toInt := i398; have t4 : 16 * a504.toInt ≤ x3.toInt ∧ x3.toInt ≤ 16 * a504.toInt + 15 := b506; have t5 : lx395.toInt ≤ 2100 := i397; have _ := q_lo32 (x := x3); have _ := q_hi32 (x := x3); omega) (by have t1 : 0 ≤ lx36.toInt := i44; have t2 : 0 ≤ x3.toInt := b381; have t3 : lx36.toInt ≤ lx395.toInt := i398; have t4 : 16 * a504.toInt ≤ x3.toInt ∧ x3.toInt ≤ 16 * a504.toInt + 15 := b506; have t5 : lx395.toInt ≤ 2100 := i397; have _ := q_lo32 (x := x3); have _ := q_hi32 (x := x3); omega))
            refine lv_iconst (v := 1) hx hb d_19_38_162 (by decide) ?_
            refine lv_iadd hx hb d_19_38_163 ?_
            obtain ⟨a510, e511⟩ := q_nm (a507 + 1 : Int32)
            refine q_ti (v := a510) e511 ?_
            have b512 : q_F (a510.toInt = a507.toInt + 1) := (by rw [← e511]; show (a507 + 1 : Int32).toInt = a507.toInt + 1; exact q_addI (x := a507.toInt) (y := 1) rfl (by decide) (by have _ := q_lo32 (x := a507); have _ := q_hi32 (x := a507); have t1 : lx395.toInt ≤ 2100 := i397; have t2 : 16 * a504.toInt ≤ x3.toInt ∧ x3.toInt ≤ 16 * a504.toInt + 15 := b506; have t3 : a507.toInt = lx395.toInt + a504.toInt := b509; have _ := q_lo32 (x := x3); have _ := q_hi32 (x := x3); omega) (by have _ := q_lo32 (x := a507); have _ := q_hi32 (x := a507); have t1 : lx395.toInt ≤ 2100 := i397; have t2 : 16 * a504.toInt ≤ x3.toInt ∧ x3.toInt ≤ 16 * a504.toInt + 15 := b506; have t3 : a507.toInt = lx395.toInt + a504.toInt := b509; have _ := q_lo32 (x := x3); have _ := q_hi32 (x := x3); omega))
            refine lv_lload hx hb d_19_38_164 (lv_at hl 0 rfl) ?_
            refine lv_bipush (v := 16) hx hb d_19_38_166 (by decide) ?_
            refine lv_lshr hx hb d_19_38_168 rfl ?_
            obtain ⟨j513, e514⟩ := q_nm (j475 >>> ((16 : Int32).toInt64 &&& 63) : Int64)
            refine q_tl (v := j513) e514 ?_
            refine lv_l2i hx hb d_19_38_169 rfl ?_
            obtain ⟨a515, e516⟩ := q_nm (j513.toInt32 : Int32)
            refine q_ti (v := a515) e516 ?_
            have ob517 : q_F (a510.toInt ≤ 263) := (by subst e418; subst e484; subst e487; subst e505; subst e508; subst e511; have h := hS408; rw [S_WR_shift_L92.eq_2] at h; rw [if_neg c419] at h; replace h := h.2; exact h.1)
            refine q_iast C0 V hO404 (q_ix (x := a510.toInt) rfl (by have t1 : 0 ≤ lx36.toInt := i44; have t2 : 0 ≤ x3.toInt := b381; have t3 : lx36.toInt ≤ lx395.toInt := i398; have t4 : 16 * a504.toInt ≤ x3.toInt ∧ x3.toInt ≤ 16 * a504.toInt + 15 := b506; have t5 : a507.toInt = lx395.toInt + a504.toInt := b509; have t6 : a510.toInt = a507.toInt + 1 := b512; omega) (by have t1 : 0 ≤ lx36.toInt := i44; have t2 : 0 ≤ x3.toInt := b381; have t3 : lx36.toInt ≤ lx395.toInt := i398; have t4 : 16 * a504.toInt ≤ x3.toInt ∧ x3.toInt ≤ 16 * a504.toInt + 15 := b506; have t5 : a507.toInt = lx395.toInt + a504.toInt := b509; have t6 : a510.toInt = a507.toInt + 1 := b512; have t7 : a510.toInt ≤ 263 := ob517; have e9 : (((264 : Int32).toNatClampNeg : Nat) : Int) = 264 := (by decide); omega)) d_19_38_170 (fun H locs w518 hu519 hO404 V => ?_)
            replace hI := n_ai' hI (n_r123 g q).1 hu519 hO404 (q_updB (fun _ => s_bnd) s_bnd)
            replace hO401 := (hu519 _ (by decide)).trans hO401
            replace hO402 := (hu519 _ (by decide)).trans hO402
            replace hO403 := (hu519 _ (by decide)).trans hO403
            replace hO405 := (hu519 _ (by decide)).trans hO405
            replace hO406 := (hu519 _ (by decide)).trans hO406
            replace hF := q_us hF hu519 (by simp)
            obtain ⟨f520, e521⟩ := q_nm (upd f502 a510.toNatClampNeg a515 : (Nat → Int32))
            rw [e521] at hO404
            obtain ⟨a522, e523⟩ := q_nm (lx395 + 1 : Int32)
            have b524 : q_F (a522.toInt = lx395.toInt + 1) := (by rw [← e523]; exact q_addI (y := 1) rfl (by decide) (by have t1 : lx36.toInt ≤ lx395.toInt := i398; have _ := q_lo32 (x := lx36); have _ := q_hi32 (x := lx36); have t2 : lx395.toInt ≤ 2100 := i397; omega) (by have t1 : lx36.toInt ≤ lx395.toInt := i398; have _ := q_lo32 (x := lx36); have _ := q_hi32 (x := lx36); have t2 : lx395.toInt ≤ 2100 := i397; omega))
            refine lv_iinc (v := a522) (lv' := [(4, .int a522), (5, .long j475), (0, .ref (q 119)), (2, .int x3), (3, .int x4)]) hx hb d_19_38_171 hl (k := 1) rfl (e523) (by decide) rfl (fun ls hl => ?_)
            refine lv_goto (tgt := 92) hx hb d_19_38_174 (by decide) ?_
            exact ih399 ((a522 : Int32), (f520 : (Nat → Int32))) _ _ _ _ (show (2100 - a522.toInt).toNat < (2100 - lx395.toInt).toNat from by have t1 : a522.toInt = lx395.toInt + 1 := b524; have t2 : lx395.toInt ≤ 2100 := i397; have t3 : a414.toInt ≤ 264 := b416; have t4 : lx395.toInt < a414.toInt := b466; omega) ⟨(show q_F (a522.toInt ≤ 2100) from (show a522.toInt ≤ 2100 from by have t1 : a414.toInt ≤ 264 := b416; have t2 : lx395.toInt < a414.toInt := b466; have t3 : a522.toInt = lx395.toInt + 1 := b524; omega)), (show q_F (lx36.toInt ≤ a522.toInt) from (show lx36.toInt ≤ a522.toInt from by have t1 : lx36.toInt ≤ lx395.toInt := i398; have t2 : a522.toInt = lx395.toInt + 1 := b524; omega)), V, q_lw hl (q_lw1 0 rfl (q_lw1 2 rfl (q_lw1 3 rfl (q_lw1 4 rfl q_lw0)))), hI, hF, hO401, hO402, hO403, hO404, hO405, hO406, ⟨fm411, Nat.lt_of_lt_of_le (show (2100 - a522.toInt).toNat < (2100 - lx395.toInt).toNat from by have t1 : a522.toInt = lx395.toInt + 1 := b524; have t2 : lx395.toInt ≤ 2100 := i397; have t3 : a414.toInt ≤ 264 := b416; have t4 : lx395.toInt < a414.toInt := b466; omega) (Nat.le_of_lt_succ hf410), (show F_WR_shift_L92 x2 x3 x4 t0_0 t0_1 t0_2 t0_3 t0_4 t0_5 t0_6 t1_0 t2_0 t3_0 t4_0 t5_0 lx36 a67 f75 f60 fm411 a522 f520 = (F_WR_shift x2 x3 x4 t0_0 t0_1 t0_2 t0_3 t0_4 t0_5 t0_6 t1_0 t2_0 t3_0 t4_0 t5_0) from Eq.trans (by subst e418; subst e468; subst e470; subst e473; subst e476; subst e478; subst e481; subst e484; subst e487; subst e491; subst e493; subst e496; subst e499; subst e503; subst e505; subst e508; subst e511; subst e514; subst e516; subst e521; subst e523; rw [F_WR_shift_L92.eq_2, if_neg c419]) hR407), (show S_WR_shift_L92 x2 x3 x4 t0_0 t0_1 t0_2 t0_3 t0_4 t0_5 t0_6 t1_0 t2_0 t3_0 t4_0 t5_0 lx36 a67 f75 f60 fm411 a522 f520 from (by subst e418; subst e468; subst e470; subst e473; subst e476; subst e478; subst e481; subst e484; subst e487; subst e491; subst e493; subst e496; subst e499; subst e503; subst e505; subst e508; subst e511; subst e514; subst e516; subst e521; subst e523; have h := hS408; rw [S_WR_shift_L92.eq_2] at h; rw [if_neg c419] at h; replace h := h.2; replace h := h.2; exact h))⟩⟩
        ·
          intro J388
          refine lv_icmp_le (tgt := 89) hx hb d_19_38_70 (by decide) (fun c525 => ?_) (fun c525 => ?_)
          ·
            have b526 : q_F (x3.toInt ≤ 2048) := (q_leI c525)
            exact J388 (()) _ _ _ u73 ⟨V, q_lw hl (q_lw1 0 rfl (q_lw1 2 rfl (q_lw1 3 rfl q_lw0))), (show F_WR_shift_J89 x2 x3 x4 t0_0 t0_1 t0_2 t0_3 t0_4 t0_5 t0_6 t1_0 t2_0 t3_0 t4_0 t5_0 lx36 a67 f75 f60 = (F_WR_shift x2 x3 x4 t0_0 t0_1 t0_2 t0_3 t0_4 t0_5 t0_6 t1_0 t2_0 t3_0 t4_0 t5_0) from Eq.trans (by subst e64; subst e68; subst e79; rw [F_WR_shift_J20.eq_1, if_pos c53, if_neg c80, if_pos c525]) hR46), (show S_WR_shift_J89 x2 x3 x4 t0_0 t0_1 t0_2 t0_3 t0_4 t0_5 t0_6 t1_0 t2_0 t3_0 t4_0 t5_0 lx36 a67 f75 f60 from (by subst e64; subst e68; subst e79; have h := hS47; rw [S_WR_shift_J20.eq_1] at h; rw [if_pos c53] at h; replace h := h.2; replace h := h.2; replace h := h.2; replace h := h.2; replace h := h.2; rw [if_neg c80] at h; rw [if_pos c525] at h; exact h))⟩
          ·
            have b527 : q_F (2048 < x3.toInt) := (q_nleI c525)
            refine lv_aload_n hx hb d_19_38_73 rfl (lv_at hl 0 rfl) ?_
            refine q_get (ci := 13) (j := 12) (v := .ref (q 128)) C0 V i_WR rfl rfl hT0 (by decide) w_1936 rfl d_19_38_74 ?_
            refine q_goi V (q_runS (As := [.ref (q 128)]) (rest := []) (d := 1) (mc := 0) (ms := 0) C0 V rfl LS_WR_59 (X_WR_size l D g q u73 128 264 (n_r128 g q)  hI f60 hA61  _) rfl hl.1 rfl (Nat.le_of_ble_eq_true rfl) ⟨by decide, by decide⟩ ⟨Nat.le_of_ble_eq_true rfl, Nat.le_of_ble_eq_true rfl⟩ d_19_38_77) (fun a530 u528 H locs hp529 V => ?_)
            obtain ⟨rfl, b531, b532, hE533⟩ := hp529
            have e534 : a530 = (F_WR_size (264 : Int32) f60) := hE533
            replace b531 : q_F (0 ≤ a530.toInt) := b531
            replace b532 : q_F (a530.toInt ≤ 264) := b532
            refine lv_if_le (tgt := 89) hx hb d_19_38_80 (by decide) (fun c535 => ?_) (fun c535 => ?_)
            ·
              have b536 : q_F (a530.toInt ≤ 0) := (q_leI c535)
              exact J388 (()) _ _ _ u73 ⟨V, q_lw hl (q_lw1 0 rfl (q_lw1 2 rfl (q_lw1 3 rfl q_lw0))), (show F_WR_shift_J89 x2 x3 x4 t0_0 t0_1 t0_2 t0_3 t0_4 t0_5 t0_6 t1_0 t2_0 t3_0 t4_0 t5_0 lx36 a67 f75 f60 = (F_WR_shift x2 x3 x4 t0_0 t0_1 t0_2 t0_3 t0_4 t0_5 t0_6 t1_0 t2_0 t3_0 t4_0 t5_0) from Eq.trans (by subst e64; subst e68; subst e79; subst e534; rw [F_WR_shift_J20.eq_1, if_pos c53, if_neg c80, if_neg c525, if_pos c535]) hR46), (show S_WR_shift_J89 x2 x3 x4 t0_0 t0_1 t0_2 t0_3 t0_4 t0_5 t0_6 t1_0 t2_0 t3_0 t4_0 t5_0 lx36 a67 f75 f60 from (by subst e64; subst e68; subst e79; subst e534; have h := hS47; rw [S_WR_shift_J20.eq_1] at h; rw [if_pos c53] at h; replace h := h.2; replace h := h.2; replace h := h.2; replace h := h.2; replace h := h.2; rw [if_neg c80] at h; rw [if_neg c525] at h; rw [if_pos c535] at h; exact h))⟩
            ·
              have b537 : q_F (0 < a530.toInt) := (q_nleI c535)
              refine lv_aload_n hx hb d_19_38_83 rfl (lv_at hl 0 rfl) ?_
              refine lv_iconst (v := 2) hx hb d_19_38_84 (by decide) ?_
              refine q_put (ci := 13) (j := 0) (v := .int 2) (ty := .int) C0 V i_WR o_WR n_WR rfl rfl hT0 (by decide) w_1921 rfl rfl rfl rfl (Nat.le_of_ble_eq_true rfl) d_19_38_85 (fun H locs w538 hu539 hT0 V => ?_)
              replace hT0 : w538[119]? = (some (q 119, .inr (13, [.int 2, .int 2, .ref (q 120), .int t0_2, .ref (q 121), .ref (q 122), .ref (q 123), .int a67, .ref (q 124), .ref (q 125), .ref (q 126), .ref (q 127), .ref (q 128), .ref (q 129), .ref (q 130), .ref (q 131), .int t0_4, .int t0_5, .ref (q 132), .ref (q 133), .int t0_6])) : Option (Nat × va_E)) := hT0
              replace hI := n_p119 hI hu539 hT0 ⟨(by have t1 : 0 ≤ t0_2.toInt ∧ t0_2.toInt ≤ 4100 := btt0_2; omega), (by have t1 : 0 ≤ t0_2.toInt ∧ t0_2.toInt ≤ 4100 := btt0_2; omega)⟩ ⟨(by have t1 : 0 ≤ a67.toInt := ob71; omega), (by have t1 : a67.toInt ≤ 1 := ob72; omega)⟩ ⟨(by have t1 : 0 ≤ t0_4.toInt ∧ t0_4.toInt ≤ 1 := btt0_4; omega), (by have t1 : 0 ≤ t0_4.toInt ∧ t0_4.toInt ≤ 1 := btt0_4; omega)⟩ ⟨(by have t1 : 0 ≤ t0_5.toInt ∧ t0_5.toInt ≤ 1 := btt0_5; omega), (by have t1 : 0 ≤ t0_5.toInt ∧ t0_5.toInt ≤ 1 := btt0_5; omega)⟩ ⟨(by have t1 : 0 ≤ t0_6.toInt ∧ t0_6.toInt ≤ 2100 := btt0_6; omega), (by have t1 : 0 ≤ t0_6.toInt ∧ t0_6.toInt ≤ 2100 := btt0_6; omega)⟩
              replace hT1 := (hu539 _ (by decide)).trans hT1
              replace hT2 := (hu539 _ (by decide)).trans hT2
              replace hA76 := (hu539 _ (by decide)).trans hA76
              replace hT4 := (hu539 _ (by decide)).trans hT4
              replace hA61 := (hu539 _ (by decide)).trans hA61
              replace hF := q_us hF hu539 (by simp)
              exact q_retv C0 V (⟨hI, hF, 2, 2, t0_2, a67, t0_4, t0_5, t0_6, t1_0, t2_0, f75, t4_0, f60, hT0, hT1, hT2, hA76, hT4, hA61, (show 0 ≤ a67.toInt from (by have z15 : (2 : Int32).toInt = 2 := rfl; have z16 : (2 : Int32).toInt = 2 := rfl; have t1 : 0 ≤ a67.toInt := ob71; omega)), (show a67.toInt ≤ 1 from (by have z15 : (2 : Int32).toInt = 2 := rfl; have z16 : (2 : Int32).toInt = 2 := rfl; have t1 : a67.toInt ≤ 1 := ob72; omega)), (show t0_2.toInt ≤ t0_2.toInt from (by have z15 : (2 : Int32).toInt = 2 := rfl; have z16 : (2 : Int32).toInt = 2 := rfl; omega)), (show t0_2.toInt ≤ t0_2.toInt from (by have z15 : (2 : Int32).toInt = 2 := rfl; have z16 : (2 : Int32).toInt = 2 := rfl; omega)), (show t0_4.toInt ≤ t0_4.toInt from (by have z15 : (2 : Int32).toInt = 2 := rfl; have z16 : (2 : Int32).toInt = 2 := rfl; omega)), (show t0_4.toInt ≤ t0_4.toInt from (by have z15 : (2 : Int32).toInt = 2 := rfl; have z16 : (2 : Int32).toInt = 2 := rfl; omega)), (show t0_5.toInt ≤ t0_5.toInt from (by have z15 : (2 : Int32).toInt = 2 := rfl; have z16 : (2 : Int32).toInt = 2 := rfl; omega)), (show t0_5.toInt ≤ t0_5.toInt from (by have z15 : (2 : Int32).toInt = 2 := rfl; have z16 : (2 : Int32).toInt = 2 := rfl; omega)), (show t0_6.toInt ≤ t0_6.toInt from (by have z15 : (2 : Int32).toInt = 2 := rfl; have z16 : (2 : Int32).toInt = 2 := rfl; omega)), (show t0_6.toInt ≤ t0_6.toInt from (by have z15 : (2 : Int32).toInt = 2 := rfl; have z16 : (2 : Int32).toInt = 2 := rfl; omega)), (show ((2 : Int32), (2 : Int32), t0_2, a67, t0_4, t0_5, t0_6, t1_0, t2_0, f75, t4_0, f60) = (F_WR_shift x2 x3 x4 t0_0 t0_1 t0_2 t0_3 t0_4 t0_5 t0_6 t1_0 t2_0 t3_0 t4_0 t5_0) from Eq.trans (by subst e64; subst e68; subst e79; subst e534; rw [F_WR_shift_J20.eq_1, if_pos c53, if_neg c80, if_neg c525, if_neg c535]) hR46)⟩) d_19_38_88
    ·
      have b540 : q_F (0 < lx36.toInt) := (q_nleI c53)
      exact q_retv C0 V (⟨hI, hF, lx36, t0_1, t0_2, t0_3, t0_4, t0_5, t0_6, t1_0, t2_0, t3_0, t4_0, t5_0, hT0, hT1, hT2, hT3, hT4, hT5, (show 0 ≤ t0_3.toInt from (by have t1 : 0 ≤ t0_3.toInt ∧ t0_3.toInt ≤ 1 := btt0_3; omega)), (show t0_3.toInt ≤ 1 from (by have t1 : 0 ≤ t0_3.toInt ∧ t0_3.toInt ≤ 1 := btt0_3; omega)), (show t0_2.toInt ≤ t0_2.toInt from (by omega)), (show t0_2.toInt ≤ t0_2.toInt from (by omega)), (show t0_4.toInt ≤ t0_4.toInt from (by omega)), (show t0_4.toInt ≤ t0_4.toInt from (by omega)), (show t0_5.toInt ≤ t0_5.toInt from (by omega)), (show t0_5.toInt ≤ t0_5.toInt from (by omega)), (show t0_6.toInt ≤ t0_6.toInt from (by omega)), (show t0_6.toInt ≤ t0_6.toInt from (by omega)), (show (lx36, t0_1, t0_2, t0_3, t0_4, t0_5, t0_6, t1_0, t2_0, t3_0, t4_0, t5_0) = (F_WR_shift x2 x3 x4 t0_0 t0_1 t0_2 t0_3 t0_4 t0_5 t0_6 t1_0 t2_0 t3_0 t4_0 t5_0) from Eq.trans (by rw [F_WR_shift_J20.eq_1, if_neg c53]) hR46)⟩) d_19_38_30
  ·
    intro J43
    refine q_join (X := Unit) (fun z H locs ls _ => q_Wd D g (va_A ws sz) s ws H locs ∧ lv_has ls 9 [(0, .ref (q 119)), (1, .int x2), (2, .int x3), (3, .int x4)] ∧ F_WR_shift_J15 x2 x3 x4 t0_0 t0_1 t0_2 t0_3 t0_4 t0_5 t0_6 t1_0 t2_0 t3_0 t4_0 t5_0 = (F_WR_shift x2 x3 x4 t0_0 t0_1 t0_2 t0_3 t0_4 t0_5 t0_6 t1_0 t2_0 t3_0 t4_0 t5_0) ∧ S_WR_shift_J15 x2 x3 x4 t0_0 t0_1 t0_2 t0_3 t0_4 t0_5 t0_6 t1_0 t2_0 t3_0 t4_0 t5_0) (fun z => [.ref (q 119)]) 15 0 0 ?_ ?_
    ·
      rintro _ H locs ls _ ⟨V, hl, hR548, hS549⟩
      replace hl : lv_has ls 9 [(0, .ref (q 119)), (1, .int x2), (2, .int x3), (3, .int x4)] := hl
      refine lv_iconst (v := 1) hx hb d_19_38_15 (by decide) ?_
      refine lv_goto (tgt := 20) hx hb d_19_38_16 (by decide) ?_
      exact J43 ((1 : Int32)) _ _ _ ws ⟨(show q_F (0 ≤ 1) from (show 0 ≤ 1 from by omega)), (show q_F (1 ≤ 1) from (show 1 ≤ 1 from by omega)), V, q_lw hl (q_lw1 0 rfl (q_lw1 1 rfl (q_lw1 2 rfl (q_lw1 3 rfl q_lw0)))), (show F_WR_shift_J20 x2 x3 x4 t0_0 t0_1 t0_2 t0_3 t0_4 t0_5 t0_6 t1_0 t2_0 t3_0 t4_0 t5_0 1 = (F_WR_shift x2 x3 x4 t0_0 t0_1 t0_2 t0_3 t0_4 t0_5 t0_6 t1_0 t2_0 t3_0 t4_0 t5_0) from Eq.trans (by rw [F_WR_shift_J15.eq_1]) hR548), (show S_WR_shift_J20 x2 x3 x4 t0_0 t0_1 t0_2 t0_3 t0_4 t0_5 t0_6 t1_0 t2_0 t3_0 t4_0 t5_0 1 from (by have h := hS549; rw [S_WR_shift_J15.eq_1] at h; exact h))⟩
    ·
      intro J547
      refine lv_if_ne (tgt := 15) hx hb d_19_38_5 (by decide) (fun c553 => ?_) (fun c553 => ?_)
      ·
        have b554 : q_F (a31.toInt ≠ 0) := (q_neI c553)
        exact J547 (()) _ _ _ ws ⟨V, q_lw hl (q_lw1 0 rfl (q_lw1 1 rfl (q_lw1 2 rfl (q_lw1 3 rfl q_lw0)))), (show F_WR_shift_J15 x2 x3 x4 t0_0 t0_1 t0_2 t0_3 t0_4 t0_5 t0_6 t1_0 t2_0 t3_0 t4_0 t5_0 = (F_WR_shift x2 x3 x4 t0_0 t0_1 t0_2 t0_3 t0_4 t0_5 t0_6 t1_0 t2_0 t3_0 t4_0 t5_0) from (by subst e35; rw [F_WR_shift.eq_1, if_neg c553])), (show S_WR_shift_J15 x2 x3 x4 t0_0 t0_1 t0_2 t0_3 t0_4 t0_5 t0_6 t1_0 t2_0 t3_0 t4_0 t5_0 from (by subst e35; have h := hS; rw [S_WR_shift.eq_1] at h; rw [if_neg c553] at h; exact h))⟩
      ·
        have b555 : q_F (a31.toInt = 0) := (q_eqI c553)
        refine lv_iload_n hx hb d_19_38_8 rfl (lv_at hl 3 rfl) ?_
        refine q_goi V (q_runS (As := [.int x4]) (rest := [.ref (q 119)]) (d := 1) (mc := 0) (ms := 0) C0 V rfl LS_WR_91 (X_WR_no l D g q ws  x4 hI   _) rfl hl.1 rfl (Nat.le_of_ble_eq_true rfl) ⟨by decide, by decide⟩ ⟨Nat.le_of_ble_eq_true rfl, Nat.le_of_ble_eq_true rfl⟩ d_19_38_9) (fun a558 u556 H locs hp557 V => ?_)
        obtain ⟨rfl, b559, b560, hE561⟩ := hp557
        have e562 : a558 = (F_WR_no x4) := hE561
        replace b559 : q_F (0 ≤ a558.toInt) := b559
        replace b560 : q_F (a558.toInt ≤ 1) := b560
        refine lv_if_eq (tgt := 19) hx hb d_19_38_12 (by decide) (fun c563 => ?_) (fun c563 => ?_)
        ·
          have b564 : q_F (a558.toInt = 0) := (q_eqI c563)
          refine lv_iconst (v := 0) hx hb d_19_38_19 (by decide) ?_
          exact J43 ((0 : Int32)) _ _ _ ws ⟨(show q_F (0 ≤ 0) from (show 0 ≤ 0 from by omega)), (show q_F (0 ≤ 1) from (show 0 ≤ 1 from by omega)), V, q_lw hl (q_lw1 0 rfl (q_lw1 1 rfl (q_lw1 2 rfl (q_lw1 3 rfl q_lw0)))), (show F_WR_shift_J20 x2 x3 x4 t0_0 t0_1 t0_2 t0_3 t0_4 t0_5 t0_6 t1_0 t2_0 t3_0 t4_0 t5_0 0 = (F_WR_shift x2 x3 x4 t0_0 t0_1 t0_2 t0_3 t0_4 t0_5 t0_6 t1_0 t2_0 t3_0 t4_0 t5_0) from (by subst e35; subst e562; rw [F_WR_shift.eq_1, if_pos c553, if_pos c563])), (show S_WR_shift_J20 x2 x3 x4 t0_0 t0_1 t0_2 t0_3 t0_4 t0_5 t0_6 t1_0 t2_0 t3_0 t4_0 t5_0 0 from (by subst e35; subst e562; have h := hS; rw [S_WR_shift.eq_1] at h; rw [if_pos c553] at h; rw [if_pos c563] at h; exact h))⟩
        ·
          have b565 : q_F (a558.toInt ≠ 0) := (q_neI c563)
          exact J547 (()) _ _ _ ws ⟨V, q_lw hl (q_lw1 0 rfl (q_lw1 1 rfl (q_lw1 2 rfl (q_lw1 3 rfl q_lw0)))), (show F_WR_shift_J15 x2 x3 x4 t0_0 t0_1 t0_2 t0_3 t0_4 t0_5 t0_6 t1_0 t2_0 t3_0 t4_0 t5_0 = (F_WR_shift x2 x3 x4 t0_0 t0_1 t0_2 t0_3 t0_4 t0_5 t0_6 t1_0 t2_0 t3_0 t4_0 t5_0) from (by subst e35; subst e562; rw [F_WR_shift.eq_1, if_pos c553, if_neg c563])), (show S_WR_shift_J15 x2 x3 x4 t0_0 t0_1 t0_2 t0_3 t0_4 t0_5 t0_6 t1_0 t2_0 t3_0 t4_0 t5_0 from (by subst e35; subst e562; have h := hS; rw [S_WR_shift.eq_1] at h; rw [if_pos c553] at h; rw [if_neg c563] at h; exact h))⟩
