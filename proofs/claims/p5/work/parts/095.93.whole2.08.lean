theorem d_19_30_0 : decode prog_19_method_30_code 0 = .ok (.aload_n 0, 1) := by decide +kernel
theorem d_19_30_1 : decode prog_19_method_30_code 1 = .ok (.aload_n 0, 1) := by decide +kernel
theorem d_19_30_2 : decode prog_19_method_30_code 2 = .ok (.getfield 23, 3) := by decide +kernel
theorem d_19_30_5 : decode prog_19_method_30_code 5 = .ok (.invokevirtual 131, 3) := by decide +kernel
theorem d_19_30_8 : decode prog_19_method_30_code 8 = .ok (.iconst 0, 1) := by decide +kernel
theorem d_19_30_9 : decode prog_19_method_30_code 9 = .ok (.istore_n 2, 1) := by decide +kernel
theorem d_19_30_10 : decode prog_19_method_30_code 10 = .ok (.iload_n 2, 1) := by decide +kernel
theorem d_19_30_11 : decode prog_19_method_30_code 11 = .ok (.iload_n 1, 1) := by decide +kernel
theorem d_19_30_12 : decode prog_19_method_30_code 12 = .ok (.if_icmp .ge 41, 3) := by decide +kernel
theorem d_19_30_53 : decode prog_19_method_30_code 53 = .ok (.iconst 1, 1) := by decide +kernel
theorem d_19_30_54 : decode prog_19_method_30_code 54 = .ok (.ireturn, 1) := by decide +kernel
theorem d_19_30_15 : decode prog_19_method_30_code 15 = .ok (.aload_n 0, 1) := by decide +kernel
theorem d_19_30_16 : decode prog_19_method_30_code 16 = .ok (.aload_n 0, 1) := by decide +kernel
theorem d_19_30_17 : decode prog_19_method_30_code 17 = .ok (.getfield 23, 3) := by decide +kernel
theorem d_19_30_20 : decode prog_19_method_30_code 20 = .ok (.aload_n 0, 1) := by decide +kernel
theorem d_19_30_21 : decode prog_19_method_30_code 21 = .ok (.getfield 20, 3) := by decide +kernel
theorem d_19_30_24 : decode prog_19_method_30_code 24 = .ok (.aload_n 0, 1) := by decide +kernel
theorem d_19_30_25 : decode prog_19_method_30_code 25 = .ok (.getfield 23, 3) := by decide +kernel
theorem d_19_30_28 : decode prog_19_method_30_code 28 = .ok (.invokevirtual 115, 3) := by decide +kernel
theorem d_19_30_31 : decode prog_19_method_30_code 31 = .ok (.aload_n 0, 1) := by decide +kernel
theorem d_19_30_32 : decode prog_19_method_30_code 32 = .ok (.getfield 23, 3) := by decide +kernel
theorem d_19_30_35 : decode prog_19_method_30_code 35 = .ok (.aload_n 0, 1) := by decide +kernel
theorem d_19_30_36 : decode prog_19_method_30_code 36 = .ok (.getfield 35, 3) := by decide +kernel
theorem d_19_30_39 : decode prog_19_method_30_code 39 = .ok (.invokestatic 71, 3) := by decide +kernel
theorem d_19_30_42 : decode prog_19_method_30_code 42 = .ok (.ifCond .le 5, 3) := by decide +kernel
theorem d_19_30_47 : decode prog_19_method_30_code 47 = .ok (.iinc 2 1, 3) := by decide +kernel
theorem d_19_30_50 : decode prog_19_method_30_code 50 = .ok (.goto (-40), 3) := by decide +kernel
theorem d_19_30_45 : decode prog_19_method_30_code 45 = .ok (.iconst 0, 1) := by decide +kernel
theorem d_19_30_46 : decode prog_19_method_30_code 46 = .ok (.ireturn, 1) := by decide +kernel
def y_WR_fits : MethodName := ⟨"NumberHouseModel$WholeRows", "fits", "(I)Z"⟩
def F_WR_fits_c28 (K_F_WR_fits_L10 : Int32 → (Nat → Int32) → (Nat → Int32) → (Int32 × (Nat → Int32) × (Nat → Int32))) (x2 : Int32) (t0_0 : Int32) (t0_1 : Int32) (t0_2 : Int32) (t0_3 : Int32) (t0_4 : Int32) (t0_5 : Int32) (t0_6 : Int32) (t1_0 : (Nat → Int32)) (t2_0 : (Nat → Int32)) (t3_0 : (Nat → Int32)) (t4_0 : (Nat → Int32)) (lx35 : Int32) (lx36 : (Nat → Int32)) (lx37 : (Nat → Int32)) (p63 : ((Nat → Int32) × (Nat → Int32))) : Int32 × (Nat → Int32) × (Nat → Int32) := if ((F_WR_compareRows (264 : Int32) (264 : Int32) (p63.2 : (Nat → Int32)) t4_0) : Int32) ≤ (0 : Int32) then (K_F_WR_fits_L10 (lx35 + 1 : Int32) (p63.2 : (Nat → Int32)) (p63.1 : (Nat → Int32))) else (((0 : Int32), (p63.2 : (Nat → Int32)), (p63.1 : (Nat → Int32))))
def F_WR_fits_L10 (x2 : Int32) (t0_0 : Int32) (t0_1 : Int32) (t0_2 : Int32) (t0_3 : Int32) (t0_4 : Int32) (t0_5 : Int32) (t0_6 : Int32) (t1_0 : (Nat → Int32)) (t2_0 : (Nat → Int32)) (t3_0 : (Nat → Int32)) (t4_0 : (Nat → Int32)) : Nat → Int32 → (Nat → Int32) → (Nat → Int32) → (Int32 × (Nat → Int32) × (Nat → Int32))
  | 0, _, _, _ => default
  | fm + 1, lx35, lx36, lx37 => if x2 ≤ lx35 then (((1 : Int32), lx36, lx37)) else (F_WR_fits_c28 (F_WR_fits_L10 x2 t0_0 t0_1 t0_2 t0_3 t0_4 t0_5 t0_6 t1_0 t2_0 t3_0 t4_0 fm) x2 t0_0 t0_1 t0_2 t0_3 t0_4 t0_5 t0_6 t1_0 t2_0 t3_0 t4_0 lx35 lx36 lx37 ((F_WR_multiplyRows_a (264 : Int32) (264 : Int32) t0_0 t0_1 t0_2 t0_3 t0_4 t0_5 t0_6 lx37 lx36 t1_0) : ((Nat → Int32) × (Nat → Int32))))
def F_WR_fits (x2 : Int32) (t0_0 : Int32) (t0_1 : Int32) (t0_2 : Int32) (t0_3 : Int32) (t0_4 : Int32) (t0_5 : Int32) (t0_6 : Int32) (t1_0 : (Nat → Int32)) (t2_0 : (Nat → Int32)) (t3_0 : (Nat → Int32)) (t4_0 : (Nat → Int32)) : Int32 × (Nat → Int32) × (Nat → Int32) := F_WR_fits_L10 x2 t0_0 t0_1 t0_2 t0_3 t0_4 t0_5 t0_6 t1_0 t2_0 t3_0 t4_0 ((x2.toInt - (0 : Int32).toInt).toNat + 1) 0 ((F_WR_setOne (264 : Int32) t0_0 t0_1 t0_2 t0_3 t0_4 t0_5 t0_6 t2_0) : (Nat → Int32)) t3_0
def S_WR_fits_c28 (K_S_WR_fits_L10 : Int32 → (Nat → Int32) → (Nat → Int32) → Prop) (x2 : Int32) (t0_0 : Int32) (t0_1 : Int32) (t0_2 : Int32) (t0_3 : Int32) (t0_4 : Int32) (t0_5 : Int32) (t0_6 : Int32) (t1_0 : (Nat → Int32)) (t2_0 : (Nat → Int32)) (t3_0 : (Nat → Int32)) (t4_0 : (Nat → Int32)) (lx35 : Int32) (lx36 : (Nat → Int32)) (lx37 : (Nat → Int32)) (p63 : ((Nat → Int32) × (Nat → Int32))) : Prop := (True ∧ S_WR_compareRows (264 : Int32) (264 : Int32) (p63.2 : (Nat → Int32)) t4_0) ∧ (if ((F_WR_compareRows (264 : Int32) (264 : Int32) (p63.2 : (Nat → Int32)) t4_0) : Int32) ≤ (0 : Int32) then (K_S_WR_fits_L10 (lx35 + 1 : Int32) (p63.2 : (Nat → Int32)) (p63.1 : (Nat → Int32))) else (True))
def S_WR_fits_L10 (x2 : Int32) (t0_0 : Int32) (t0_1 : Int32) (t0_2 : Int32) (t0_3 : Int32) (t0_4 : Int32) (t0_5 : Int32) (t0_6 : Int32) (t1_0 : (Nat → Int32)) (t2_0 : (Nat → Int32)) (t3_0 : (Nat → Int32)) (t4_0 : (Nat → Int32)) : Nat → Int32 → (Nat → Int32) → (Nat → Int32) → Prop
  | 0, _, _, _ => False
  | fm + 1, lx35, lx36, lx37 => if x2 ≤ lx35 then (True) else ((True ∧ S_WR_multiplyRows_a (264 : Int32) (264 : Int32) t0_0 t0_1 t0_2 t0_3 t0_4 t0_5 t0_6 lx37 lx36 t1_0) ∧ (S_WR_fits_c28 (S_WR_fits_L10 x2 t0_0 t0_1 t0_2 t0_3 t0_4 t0_5 t0_6 t1_0 t2_0 t3_0 t4_0 fm) x2 t0_0 t0_1 t0_2 t0_3 t0_4 t0_5 t0_6 t1_0 t2_0 t3_0 t4_0 lx35 lx36 lx37 ((F_WR_multiplyRows_a (264 : Int32) (264 : Int32) t0_0 t0_1 t0_2 t0_3 t0_4 t0_5 t0_6 lx37 lx36 t1_0) : ((Nat → Int32) × (Nat → Int32)))))
def S_WR_fits (x2 : Int32) (t0_0 : Int32) (t0_1 : Int32) (t0_2 : Int32) (t0_3 : Int32) (t0_4 : Int32) (t0_5 : Int32) (t0_6 : Int32) (t1_0 : (Nat → Int32)) (t2_0 : (Nat → Int32)) (t3_0 : (Nat → Int32)) (t4_0 : (Nat → Int32)) : Prop := (True ∧ S_WR_setOne (264 : Int32) t0_0 t0_1 t0_2 t0_3 t0_4 t0_5 t0_6 t2_0) ∧ (S_WR_fits_L10 x2 t0_0 t0_1 t0_2 t0_3 t0_4 t0_5 t0_6 t1_0 t2_0 t3_0 t4_0 ((x2.toInt - (0 : Int32).toInt).toNat + 1) 0 ((F_WR_setOne (264 : Int32) t0_0 t0_1 t0_2 t0_3 t0_4 t0_5 t0_6 t2_0) : (Nat → Int32)) t3_0)
set_option maxRecDepth 100000 in
set_option maxHeartbeats 4000000 in
theorem X_WR_fits (l : Launch) (D : va_G) (g : Nat → ClassId) (q : Nat → Nat) (ws : va_W) (x2 : Int32) (hI : q_I (msh g q) q ws) (t0_0 : Int32) (t0_1 : Int32) (t0_2 : Int32) (t0_3 : Int32) (t0_4 : Int32) (t0_5 : Int32) (t0_6 : Int32) (hT0 : ws[119]? = (some (q 119, .inr (13, [.int t0_0, .int t0_1, .ref (q 120), .int t0_2, .ref (q 121), .ref (q 122), .ref (q 123), .int t0_3, .ref (q 124), .ref (q 125), .ref (q 126), .ref (q 127), .ref (q 128), .ref (q 129), .ref (q 130), .ref (q 131), .int t0_4, .int t0_5, .ref (q 132), .ref (q 133), .int t0_6])) : Option (Nat × va_E))) (t1_0 : (Nat → Int32)) (hT1 : ws[123]? = (some (q 123, .inl (g 0, (264 : Int32).toNatClampNeg, .inl t1_0)) : Option (Nat × va_E))) (t2_0 : (Nat → Int32)) (hT2 : ws[124]? = (some (q 124, .inl (g 0, (264 : Int32).toNatClampNeg, .inl t2_0)) : Option (Nat × va_E))) (t3_0 : (Nat → Int32)) (hT3 : ws[125]? = (some (q 125, .inl (g 0, (528 : Int32).toNatClampNeg, .inl t3_0)) : Option (Nat × va_E))) (t4_0 : (Nat → Int32)) (hT4 : ws[128]? = (some (q 128, .inl (g 0, (264 : Int32).toNatClampNeg, .inl t4_0)) : Option (Nat × va_E))) (hS : True ∧ S_WR_fits x2 t0_0 t0_1 t0_2 t0_3 t0_4 t0_5 t0_6 t1_0 t2_0 t3_0 t4_0) : q_mI l y_WR_fits prog_19_method_30_code 3 (.boolean) 3 0 0 D g [.ref (q 119), .int x2] ws (fun r u => q_I (msh g q) q u ∧ q_un ws u [124, 125] ∧ ∃ (u2_0 : (Nat → Int32)) (u3_0 : (Nat → Int32)), u[124]? = (some (q 124, .inl (g 0, (264 : Int32).toNatClampNeg, .inl u2_0)) : Option (Nat × va_E)) ∧ u[125]? = (some (q 125, .inl (g 0, (528 : Int32).toNatClampNeg, .inl u3_0)) : Option (Nat × va_E)) ∧ (0 ≤ r.toInt) ∧ (r.toInt ≤ 1) ∧ (r, u2_0, u3_0) = (F_WR_fits x2 t0_0 t0_1 t0_2 t0_3 t0_4 t0_5 t0_6 t1_0 t2_0 t3_0 t4_0)) := by
  intro sz
  refine q_into (by decide) (Nat.le_of_ble_eq_true rfl) ?_
  intro p e s m below meth c ls hsz C0 V hl
  have hx := C0.1
  have hb := C0.2.1
  have hZ9 := (n_w119 hI hT0).2.2.2
  obtain ⟨-, btt0_6⟩ := hZ9
  clear btt0_6
  have hF : q_un ws ws [124, 125] := q_u0
  have hl : lv_has ls 3 [(0, .ref (q 119)), (1, .int x2)] := hl
  refine lv_aload_n hx hb d_19_30_0 rfl (lv_at hl 0 rfl) ?_
  refine lv_aload_n hx hb d_19_30_1 rfl (lv_at hl 0 rfl) ?_
  refine q_get (ci := 13) (j := 8) (v := .ref (q 124)) C0 V i_WR rfl rfl hT0 (by decide) w_1932 rfl d_19_30_2 ?_
  have ob26 : True ∧ S_WR_setOne (264 : Int32) t0_0 t0_1 t0_2 t0_3 t0_4 t0_5 t0_6 t2_0 := (by have h := hS; rw [S_WR_fits.eq_1] at h; with_reducible exact h.2.1)
  refine q_gov V (q_runV (As := [.ref (q 124)]) (rest := []) (d := 2) (mc := 0) (ms := 0) (ci := 13) C0 V rfl LV_WR_131 (X_WR_setOne l D g q ws 124 264 (n_r124 g q)  hI t0_0 t0_1 t0_2 t0_3 t0_4 t0_5 t0_6 hT0 t2_0 hT2 ob26 _) rfl rfl hT0 rfl hl.1 rfl (Nat.le_of_ble_eq_true rfl) ⟨by decide, by decide⟩ ⟨Nat.le_of_ble_eq_true rfl, Nat.le_of_ble_eq_true rfl⟩ d_19_30_5) (fun u27 H locs hp28 V => ?_)
  obtain ⟨hI, hu32, f29, hA30, hE31⟩ := hp28
  replace hA30 : u27[124]? = (some (q 124, .inl (g 0, (264 : Int32).toNatClampNeg, .inl f29)) : Option (Nat × va_E)) := hA30
  have e33 : f29 = (F_WR_setOne (264 : Int32) t0_0 t0_1 t0_2 t0_3 t0_4 t0_5 t0_6 t2_0) := hE31
  replace hT0 := (hu32 _ (by decide)).trans hT0
  replace hT1 := (hu32 _ (by decide)).trans hT1
  replace hT3 := (hu32 _ (by decide)).trans hT3
  replace hT4 := (hu32 _ (by decide)).trans hT4
  replace hF := q_uc hF hu32 (by simp)
  refine lv_iconst (v := 0) hx hb d_19_30_8 (by decide) ?_
  refine lv_istore_n (lv' := [(2, .int 0), (0, .ref (q 119)), (1, .int x2)]) hx hb d_19_30_9 rfl hl (by decide) rfl (fun ls hl => ?_)
  refine q_loop (X := Int32 × (Nat → Int32) × (Nat → Int32)) (fun z H locs ls w40 => q_F (0 ≤ z.1.toInt) ∧ q_Wd D g (va_A ws sz) s w40 H locs ∧ lv_has ls 3 [(2, .int z.1), (0, .ref (q 119)), (1, .int x2)] ∧ q_I (msh g q) q w40 ∧ q_un ws w40 [124, 125] ∧ w40[119]? = (some (q 119, .inr (13, [.int t0_0, .int t0_1, .ref (q 120), .int t0_2, .ref (q 121), .ref (q 122), .ref (q 123), .int t0_3, .ref (q 124), .ref (q 125), .ref (q 126), .ref (q 127), .ref (q 128), .ref (q 129), .ref (q 130), .ref (q 131), .int t0_4, .int t0_5, .ref (q 132), .ref (q 133), .int t0_6])) : Option (Nat × va_E)) ∧ w40[123]? = (some (q 123, .inl (g 0, (264 : Int32).toNatClampNeg, .inl t1_0)) : Option (Nat × va_E)) ∧ w40[124]? = (some (q 124, .inl (g 0, (264 : Int32).toNatClampNeg, .inl z.2.1)) : Option (Nat × va_E)) ∧ w40[125]? = (some (q 125, .inl (g 0, (528 : Int32).toNatClampNeg, .inl z.2.2)) : Option (Nat × va_E)) ∧ w40[128]? = (some (q 128, .inl (g 0, (264 : Int32).toNatClampNeg, .inl t4_0)) : Option (Nat × va_E)) ∧ (∃ n, (x2.toInt - z.1.toInt).toNat < n ∧ F_WR_fits_L10 x2 t0_0 t0_1 t0_2 t0_3 t0_4 t0_5 t0_6 t1_0 t2_0 t3_0 t4_0 n z.1 z.2.1 z.2.2 = (F_WR_fits x2 t0_0 t0_1 t0_2 t0_3 t0_4 t0_5 t0_6 t1_0 t2_0 t3_0 t4_0) ∧ True ∧ S_WR_fits_L10 x2 t0_0 t0_1 t0_2 t0_3 t0_4 t0_5 t0_6 t1_0 t2_0 t3_0 t4_0 n z.1 z.2.1 z.2.2)) (fun z => (x2.toInt - z.1.toInt).toNat) ?_ ((0 : Int32), (f29 : (Nat → Int32)), (t3_0 : (Nat → Int32))) _ _ _ u27 ⟨(show q_F (0 ≤ 0) from (show 0 ≤ 0 from by omega)), V, q_lw hl (q_lw1 0 rfl (q_lw1 1 rfl (q_lw1 2 rfl q_lw0))), hI, hF, hT0, hT1, hA30, hT3, hT4, ⟨((x2.toInt - (0 : Int32).toInt).toNat + 1), Nat.lt_succ_self _, (show F_WR_fits_L10 x2 t0_0 t0_1 t0_2 t0_3 t0_4 t0_5 t0_6 t1_0 t2_0 t3_0 t4_0 ((x2.toInt - (0 : Int32).toInt).toNat + 1) 0 f29 t3_0 = (F_WR_fits x2 t0_0 t0_1 t0_2 t0_3 t0_4 t0_5 t0_6 t1_0 t2_0 t3_0 t4_0) from (by rw [e33, F_WR_fits.eq_1])), (show True ∧ S_WR_fits_L10 x2 t0_0 t0_1 t0_2 t0_3 t0_4 t0_5 t0_6 t1_0 t2_0 t3_0 t4_0 ((x2.toInt - (0 : Int32).toInt).toNat + 1) 0 f29 t3_0 from (by rw [e33]; have h := hS; rw [S_WR_fits.eq_1] at h; replace h := q_s2 h; with_reducible exact h))⟩⟩
  rintro ⟨lx35, lx36, lx37⟩ H locs ls w40 ⟨i38, V, hl, hI, hF, hO41, hO42, hO43, hO44, hO45, ⟨fu48, hf49, hR46, hS47⟩⟩ ih39
  obtain ⟨fm50, rfl⟩ : ∃ m, fu48 = m + 1 := ⟨fu48 - 1, by omega⟩
  replace i38 : q_F (0 ≤ lx35.toInt) := i38
  replace hl : lv_has ls 3 [(2, .int lx35), (0, .ref (q 119)), (1, .int x2)] := hl
  replace hO41 : w40[119]? = (some (q 119, .inr (13, [.int t0_0, .int t0_1, .ref (q 120), .int t0_2, .ref (q 121), .ref (q 122), .ref (q 123), .int t0_3, .ref (q 124), .ref (q 125), .ref (q 126), .ref (q 127), .ref (q 128), .ref (q 129), .ref (q 130), .ref (q 131), .int t0_4, .int t0_5, .ref (q 132), .ref (q 133), .int t0_6])) : Option (Nat × va_E)) := hO41
  replace hO42 : w40[123]? = (some (q 123, .inl (g 0, (264 : Int32).toNatClampNeg, .inl t1_0)) : Option (Nat × va_E)) := hO42
  replace hO43 : w40[124]? = (some (q 124, .inl (g 0, (264 : Int32).toNatClampNeg, .inl lx36)) : Option (Nat × va_E)) := hO43
  replace hO44 : w40[125]? = (some (q 125, .inl (g 0, (528 : Int32).toNatClampNeg, .inl lx37)) : Option (Nat × va_E)) := hO44
  replace hO45 : w40[128]? = (some (q 128, .inl (g 0, (264 : Int32).toNatClampNeg, .inl t4_0)) : Option (Nat × va_E)) := hO45
  refine lv_iload_n hx hb d_19_30_10 rfl (lv_at hl 0 rfl) ?_
  refine lv_iload_n hx hb d_19_30_11 rfl (lv_at hl 2 rfl) ?_
  refine lv_icmp_ge (tgt := 53) hx hb d_19_30_12 (by decide) (fun c51 => ?_) (fun c51 => ?_)
  ·
    refine lv_iconst (v := 1) hx hb d_19_30_53 (by decide) ?_
    exact q_retz C0 V (by decide) (⟨hI, hF, lx36, lx37, hO43, hO44, (show 0 ≤ (1 : Int32).toInt from (by have z12 : (1 : Int32).toInt = 1 := rfl; omega)), (show (1 : Int32).toInt ≤ 1 from (by have z12 : (1 : Int32).toInt = 1 := rfl; omega)), (show ((1 : Int32), lx36, lx37) = (F_WR_fits x2 t0_0 t0_1 t0_2 t0_3 t0_4 t0_5 t0_6 t1_0 t2_0 t3_0 t4_0) from Eq.trans (by rw [F_WR_fits_L10.eq_2, if_pos c51]) hR46)⟩) d_19_30_54
  ·
    have b53 : q_F (lx35.toInt < x2.toInt) := (q_nleI c51)
    refine lv_aload_n hx hb d_19_30_15 rfl (lv_at hl 1 rfl) ?_
    refine lv_aload_n hx hb d_19_30_16 rfl (lv_at hl 1 rfl) ?_
    refine q_get (ci := 13) (j := 8) (v := .ref (q 124)) C0 V i_WR rfl rfl hO41 (by decide) w_1932 rfl d_19_30_17 ?_
    refine lv_aload_n hx hb d_19_30_20 rfl (lv_at hl 1 rfl) ?_
    refine q_get (ci := 13) (j := 6) (v := .ref (q 123)) C0 V i_WR rfl rfl hO41 (by decide) w_1930 rfl d_19_30_21 ?_
    refine lv_aload_n hx hb d_19_30_24 rfl (lv_at hl 1 rfl) ?_
    refine q_get (ci := 13) (j := 8) (v := .ref (q 124)) C0 V i_WR rfl rfl hO41 (by decide) w_1932 rfl d_19_30_25 ?_
    have ob54 : True ∧ S_WR_multiplyRows_a (264 : Int32) (264 : Int32) t0_0 t0_1 t0_2 t0_3 t0_4 t0_5 t0_6 lx37 lx36 t1_0 := (by have h := hS47; rw [S_WR_fits_L10.eq_2] at h; rw [if_neg c51] at h; with_reducible exact h.2.1)
    refine q_gov V (q_runV (As := [.ref (q 124), .ref (q 123), .ref (q 124)]) (rest := []) (d := 2) (mc := 0) (ms := 0) (ci := 13) C0 V rfl LV_WR_115 (X_WR_multiplyRows_a l D g q w40 124 264 (n_r124 g q) 123 264 (n_r123 g q)  (by decide) (by decide) (by decide) hI t0_0 t0_1 t0_2 t0_3 t0_4 t0_5 t0_6 hO41 lx37 hO44 lx36 hO43 t1_0 hO42 ob54 _) rfl rfl hO41 rfl hl.1 rfl (Nat.le_of_ble_eq_true rfl) ⟨by decide, by decide⟩ ⟨Nat.le_of_ble_eq_true rfl, Nat.le_of_ble_eq_true rfl⟩ d_19_30_28) (fun u55 H locs hp56 V => ?_)
    obtain ⟨hI, hZ9⟩ := hp56
    obtain ⟨hu62, hZ9⟩ := hZ9
    obtain ⟨f57, hZ9⟩ := hZ9
    obtain ⟨f59, hZ9⟩ := hZ9
    obtain ⟨hA58, hZ9⟩ := hZ9
    obtain ⟨hA60, hE61⟩ := hZ9
    replace hA58 : u55[125]? = (some (q 125, .inl (g 0, (528 : Int32).toNatClampNeg, .inl f57)) : Option (Nat × va_E)) := hA58
    replace hA60 : u55[124]? = (some (q 124, .inl (g 0, (264 : Int32).toNatClampNeg, .inl f59)) : Option (Nat × va_E)) := hA60
    obtain ⟨p63, e64⟩ : ∃ z, z = (F_WR_multiplyRows_a (264 : Int32) (264 : Int32) t0_0 t0_1 t0_2 t0_3 t0_4 t0_5 t0_6 lx37 lx36 t1_0) := ⟨_, rfl⟩
    have e65 : f57 = p63.1 := congrArg (fun z => z.1) (hE61.trans e64.symm)
    have e66 : f59 = p63.2 := congrArg (fun z => z.2) (hE61.trans e64.symm)
    replace hO41 := (hu62 _ (by decide)).trans hO41
    replace hO42 := (hu62 _ (by decide)).trans hO42
    replace hO45 := (hu62 _ (by decide)).trans hO45
    replace hF := q_uc hF hu62 (by simp)
    have hR67 := (show F_WR_fits_c28 (F_WR_fits_L10 x2 t0_0 t0_1 t0_2 t0_3 t0_4 t0_5 t0_6 t1_0 t2_0 t3_0 t4_0 fm50) x2 t0_0 t0_1 t0_2 t0_3 t0_4 t0_5 t0_6 t1_0 t2_0 t3_0 t4_0 lx35 lx36 lx37 p63 = (F_WR_fits x2 t0_0 t0_1 t0_2 t0_3 t0_4 t0_5 t0_6 t1_0 t2_0 t3_0 t4_0) from Eq.trans (by rw [e64, F_WR_fits_L10.eq_2, if_neg c51]) hR46)
    have hS68 := (show True ∧ S_WR_fits_c28 (S_WR_fits_L10 x2 t0_0 t0_1 t0_2 t0_3 t0_4 t0_5 t0_6 t1_0 t2_0 t3_0 t4_0 fm50) x2 t0_0 t0_1 t0_2 t0_3 t0_4 t0_5 t0_6 t1_0 t2_0 t3_0 t4_0 lx35 lx36 lx37 p63 from (by rw [e64]; have h := hS47; rw [S_WR_fits_L10.eq_2] at h; rw [if_neg c51] at h; replace h := q_s2 h; with_reducible exact h))
    refine lv_aload_n hx hb d_19_30_31 rfl (lv_at hl 1 rfl) ?_
    refine q_get (ci := 13) (j := 8) (v := .ref (q 124)) C0 V i_WR rfl rfl hO41 (by decide) w_1932 rfl d_19_30_32 ?_
    refine lv_aload_n hx hb d_19_30_35 rfl (lv_at hl 1 rfl) ?_
    refine q_get (ci := 13) (j := 12) (v := .ref (q 128)) C0 V i_WR rfl rfl hO41 (by decide) w_1936 rfl d_19_30_36 ?_
    have ob72 : True ∧ S_WR_compareRows (264 : Int32) (264 : Int32) f59 t4_0 := (by rw [e66]; have h := hS68; rw [S_WR_fits_c28.eq_1] at h; with_reducible exact h.2.1)
    refine q_goi V (q_runS (As := [.ref (q 124), .ref (q 128)]) (rest := []) (d := 1) (mc := 0) (ms := 0) C0 V rfl LS_WR_71 (X_WR_compareRows l D g q u55 124 264 (n_r124 g q) 128 264 (n_r128 g q)  hI f59 hA60 t4_0 hO45 ob72 _) rfl hl.1 rfl (Nat.le_of_ble_eq_true rfl) ⟨by decide, by decide⟩ ⟨Nat.le_of_ble_eq_true rfl, Nat.le_of_ble_eq_true rfl⟩ d_19_30_39) (fun a75 u73 H locs hp74 V => ?_)
    obtain ⟨rfl, hZ9⟩ := hp74
    replace hZ9 := hZ9.2.2.2
    obtain ⟨-, hE80⟩ := hZ9
    have e81 : a75 = (F_WR_compareRows (264 : Int32) (264 : Int32) f59 t4_0) := hE80
    refine lv_if_le (tgt := 47) hx hb d_19_30_42 (by decide) (fun c82 => ?_) (fun c82 => ?_)
    ·
      obtain ⟨a84, e85⟩ := q_nm (lx35 + 1 : Int32)
      have b86 : q_F (a84.toInt = lx35.toInt + 1) := (by rw [← e85]; exact q_addI (y := 1) rfl (by decide) (by have t1 : 0 ≤ lx35.toInt := i38; have t2 : lx35.toInt < x2.toInt := b53; have _ := q_lo32 (x := x2); have _ := q_hi32 (x := x2); omega) (by have t1 : 0 ≤ lx35.toInt := i38; have t2 : lx35.toInt < x2.toInt := b53; have _ := q_lo32 (x := x2); have _ := q_hi32 (x := x2); omega))
      refine lv_iinc (v := a84) (lv' := [(2, .int a84), (0, .ref (q 119)), (1, .int x2)]) hx hb d_19_30_47 hl (k := 0) rfl (e85) (by decide) rfl (fun ls hl => ?_)
      refine lv_goto (tgt := 10) hx hb d_19_30_50 (by decide) ?_
      exact ih39 ((a84 : Int32), (f59 : (Nat → Int32)), (f57 : (Nat → Int32))) _ _ _ _ (show (x2.toInt - a84.toInt).toNat < (x2.toInt - lx35.toInt).toNat from by have t1 : a84.toInt = lx35.toInt + 1 := b86; have t2 : lx35.toInt < x2.toInt := b53; omega) ⟨(show q_F (0 ≤ a84.toInt) from (show 0 ≤ a84.toInt from by have t1 : 0 ≤ lx35.toInt := i38; have t2 : a84.toInt = lx35.toInt + 1 := b86; omega)), V, q_lw hl (q_lw1 0 rfl (q_lw1 1 rfl (q_lw1 2 rfl q_lw0))), hI, hF, hO41, hO42, hA60, hA58, hO45, ⟨fm50, Nat.lt_of_lt_of_le (show (x2.toInt - a84.toInt).toNat < (x2.toInt - lx35.toInt).toNat from by have t1 : a84.toInt = lx35.toInt + 1 := b86; have t2 : lx35.toInt < x2.toInt := b53; omega) (Nat.le_of_lt_succ hf49), (show F_WR_fits_L10 x2 t0_0 t0_1 t0_2 t0_3 t0_4 t0_5 t0_6 t1_0 t2_0 t3_0 t4_0 fm50 a84 f59 f57 = (F_WR_fits x2 t0_0 t0_1 t0_2 t0_3 t0_4 t0_5 t0_6 t1_0 t2_0 t3_0 t4_0) from Eq.trans (by have c82x := c82; rw [e81, e66] at c82x; rw [← e85, e66, e65, F_WR_fits_c28.eq_1, if_pos c82x]) hR67), (show True ∧ S_WR_fits_L10 x2 t0_0 t0_1 t0_2 t0_3 t0_4 t0_5 t0_6 t1_0 t2_0 t3_0 t4_0 fm50 a84 f59 f57 from (by rw [← e85, e66, e65]; have h := hS68; rw [S_WR_fits_c28.eq_1] at h; replace h := q_s2 h; have c82x := c82; rw [e81, e66] at c82x; rw [if_pos c82x] at h; with_reducible exact h))⟩⟩
    ·
      refine lv_iconst (v := 0) hx hb d_19_30_45 (by decide) ?_
      exact q_retz C0 V (by decide) (⟨hI, hF, f59, f57, hA60, hA58, (show 0 ≤ (0 : Int32).toInt from (by have z12 : (0 : Int32).toInt = 0 := rfl; omega)), (show (0 : Int32).toInt ≤ 1 from (by have z12 : (0 : Int32).toInt = 0 := rfl; omega)), (show ((0 : Int32), f59, f57) = (F_WR_fits x2 t0_0 t0_1 t0_2 t0_3 t0_4 t0_5 t0_6 t1_0 t2_0 t3_0 t4_0) from Eq.trans (by have c82x := c82; rw [e81, e66] at c82x; rw [e66, e65, F_WR_fits_c28.eq_1, if_neg c82x]) hR67)⟩) d_19_30_46
theorem d_19_31_0 : decode prog_19_method_31_code 0 = .ok (.aload_n 0, 1) := by decide +kernel
theorem d_19_31_1 : decode prog_19_method_31_code 1 = .ok (.iload_n 1, 1) := by decide +kernel
theorem d_19_31_2 : decode prog_19_method_31_code 2 = .ok (.invokestatic 91, 3) := by decide +kernel
theorem d_19_31_44 : decode prog_19_method_31_code 44 = .ok (.putfield 53, 3) := by decide +kernel
theorem d_19_31_47 : decode prog_19_method_31_code 47 = .ok (.aload_n 0, 1) := by decide +kernel
theorem d_19_31_48 : decode prog_19_method_31_code 48 = .ok (.getfield 53, 3) := by decide +kernel
theorem d_19_31_51 : decode prog_19_method_31_code 51 = .ok (.ifCond .le 4, 3) := by decide +kernel
theorem d_19_31_55 : decode prog_19_method_31_code 55 = .ok (.aload_n 0, 1) := by decide +kernel
theorem d_19_31_56 : decode prog_19_method_31_code 56 = .ok (.iconst 2, 1) := by decide +kernel
theorem d_19_31_57 : decode prog_19_method_31_code 57 = .ok (.putfield 79, 3) := by decide +kernel
theorem d_19_31_60 : decode prog_19_method_31_code 60 = .ok (.aload_n 0, 1) := by decide +kernel
theorem d_19_31_61 : decode prog_19_method_31_code 61 = .ok (.iload_n 1, 1) := by decide +kernel
theorem d_19_31_62 : decode prog_19_method_31_code 62 = .ok (.aload_n 0, 1) := by decide +kernel
theorem d_19_31_63 : decode prog_19_method_31_code 63 = .ok (.getfield 35, 3) := by decide +kernel
theorem d_19_31_66 : decode prog_19_method_31_code 66 = .ok (.invokevirtual 107, 3) := by decide +kernel
theorem d_19_31_69 : decode prog_19_method_31_code 69 = .ok (.aload_n 0, 1) := by decide +kernel
theorem d_19_31_70 : decode prog_19_method_31_code 70 = .ok (.getfield 20, 3) := by decide +kernel
theorem d_19_31_73 : decode prog_19_method_31_code 73 = .ok (.invokestatic 63, 3) := by decide +kernel
theorem d_19_31_76 : decode prog_19_method_31_code 76 = .ok (.bipush 16, 2) := by decide +kernel
theorem d_19_31_78 : decode prog_19_method_31_code 78 = .ok (.aload_n 0, 1) := by decide +kernel
theorem d_19_31_79 : decode prog_19_method_31_code 79 = .ok (.getfield 35, 3) := by decide +kernel
theorem d_19_31_82 : decode prog_19_method_31_code 82 = .ok (.invokestatic 59, 3) := by decide +kernel
theorem d_19_31_85 : decode prog_19_method_31_code 85 = .ok (.imul, 1) := by decide +kernel
theorem d_19_31_86 : decode prog_19_method_31_code 86 = .ok (.iload_n 2, 1) := by decide +kernel
theorem d_19_31_87 : decode prog_19_method_31_code 87 = .ok (.idiv, 1) := by decide +kernel
theorem d_19_31_88 : decode prog_19_method_31_code 88 = .ok (.istore 4, 2) := by decide +kernel
theorem d_19_31_90 : decode prog_19_method_31_code 90 = .ok (.iload 4, 2) := by decide +kernel
theorem d_19_31_92 : decode prog_19_method_31_code 92 = .ok (.ifCond .lt 75, 3) := by decide +kernel
theorem d_19_31_167 : decode prog_19_method_31_code 167 = .ok (.aload_n 0, 1) := by decide +kernel
theorem d_19_31_168 : decode prog_19_method_31_code 168 = .ok (.iconst 0, 1) := by decide +kernel
theorem d_19_31_169 : decode prog_19_method_31_code 169 = .ok (.putfield 82, 3) := by decide +kernel
theorem d_19_31_172 : decode prog_19_method_31_code 172 = .ok (.aload_n 0, 1) := by decide +kernel
theorem d_19_31_173 : decode prog_19_method_31_code 173 = .ok (.iload_n 3, 1) := by decide +kernel
theorem d_19_31_174 : decode prog_19_method_31_code 174 = .ok (.invokevirtual 103, 3) := by decide +kernel
theorem d_19_31_177 : decode prog_19_method_31_code 177 = .ok (.return_, 1) := by decide +kernel
theorem d_19_31_95 : decode prog_19_method_31_code 95 = .ok (.aload_n 0, 1) := by decide +kernel
theorem d_19_31_96 : decode prog_19_method_31_code 96 = .ok (.getfield 20, 3) := by decide +kernel
theorem d_19_31_99 : decode prog_19_method_31_code 99 = .ok (.iload 4, 2) := by decide +kernel
theorem d_19_31_101 : decode prog_19_method_31_code 101 = .ok (.bipush 16, 2) := by decide +kernel
theorem d_19_31_103 : decode prog_19_method_31_code 103 = .ok (.idiv, 1) := by decide +kernel
theorem d_19_31_104 : decode prog_19_method_31_code 104 = .ok (.aload_n 0, 1) := by decide +kernel
theorem d_19_31_105 : decode prog_19_method_31_code 105 = .ok (.getfield 20, 3) := by decide +kernel
theorem d_19_31_108 : decode prog_19_method_31_code 108 = .ok (.iload 4, 2) := by decide +kernel
theorem d_19_31_110 : decode prog_19_method_31_code 110 = .ok (.bipush 16, 2) := by decide +kernel
theorem d_19_31_112 : decode prog_19_method_31_code 112 = .ok (.idiv, 1) := by decide +kernel
theorem d_19_31_113 : decode prog_19_method_31_code 113 = .ok (.iaload, 1) := by decide +kernel
theorem d_19_31_114 : decode prog_19_method_31_code 114 = .ok (.iconst 1, 1) := by decide +kernel
theorem d_19_31_115 : decode prog_19_method_31_code 115 = .ok (.iload 4, 2) := by decide +kernel
theorem d_19_31_117 : decode prog_19_method_31_code 117 = .ok (.bipush 16, 2) := by decide +kernel
theorem d_19_31_119 : decode prog_19_method_31_code 119 = .ok (.irem, 1) := by decide +kernel
theorem d_19_31_120 : decode prog_19_method_31_code 120 = .ok (.ishl, 1) := by decide +kernel
theorem d_19_31_121 : decode prog_19_method_31_code 121 = .ok (.ior, 1) := by decide +kernel
theorem d_19_31_122 : decode prog_19_method_31_code 122 = .ok (.iastore, 1) := by decide +kernel
theorem d_19_31_123 : decode prog_19_method_31_code 123 = .ok (.aload_n 0, 1) := by decide +kernel
theorem d_19_31_124 : decode prog_19_method_31_code 124 = .ok (.iload_n 2, 1) := by decide +kernel
theorem d_19_31_125 : decode prog_19_method_31_code 125 = .ok (.invokevirtual 134, 3) := by decide +kernel
set_option maxRecDepth 100000 in
theorem w_2760 : (Cond.code ({ cls := "NumberHouseModel$WholeRows", name := "fits", desc := "(I)Z" } : MethodName) prog_19_method_30_code (3 : Nat) (some .boolean)) ∈ q_tbl := q_of12 120 rfl (by decide +kernel)
set_option maxRecDepth 100000 in
theorem w_2757 : (Cond.methodLink "NumberHouseModel$WholeRows" (134 : Nat) ({ cls := "NumberHouseModel$WholeRows", name := "fits", desc := "(I)Z" } : MethodName)) ∈ q_tbl := q_of12 117 rfl (by decide +kernel)
set_option maxRecDepth 100000 in
theorem w_2759 : (Cond.instanceMethod ({ cls := "NumberHouseModel$WholeRows", name := "fits", desc := "(I)Z" } : MethodName)) ∈ q_tbl := q_of12 119 rfl (by decide +kernel)
theorem ws_109 : Cond.selects "NumberHouseModel$WholeRows" (⟨"NumberHouseModel$WholeRows", "fits", "(I)Z"⟩ : MethodName) (⟨"NumberHouseModel$WholeRows", "fits", "(I)Z"⟩ : MethodName) ∈ q_tbl := q_ofs 109 (by decide +kernel) (by decide +kernel)
theorem LV_WR_134 : q_LV "NumberHouseModel$WholeRows" 134 y_WR_fits prog_19_method_30_code 3 (some .boolean) 1 := ⟨w_2760, w_15, w_2757, w_2759, ws_109, ⟨by decide, by decide, by decide +kernel⟩⟩
theorem d_19_31_128 : decode prog_19_method_31_code 128 = .ok (.ifCond .ne 33, 3) := by decide +kernel
theorem d_19_31_161 : decode prog_19_method_31_code 161 = .ok (.iinc 4 (-1), 3) := by decide +kernel
theorem d_19_31_164 : decode prog_19_method_31_code 164 = .ok (.goto (-74), 3) := by decide +kernel
theorem d_19_31_131 : decode prog_19_method_31_code 131 = .ok (.aload_n 0, 1) := by decide +kernel
theorem d_19_31_132 : decode prog_19_method_31_code 132 = .ok (.getfield 20, 3) := by decide +kernel
theorem d_19_31_135 : decode prog_19_method_31_code 135 = .ok (.iload 4, 2) := by decide +kernel
theorem d_19_31_137 : decode prog_19_method_31_code 137 = .ok (.bipush 16, 2) := by decide +kernel
theorem d_19_31_139 : decode prog_19_method_31_code 139 = .ok (.idiv, 1) := by decide +kernel
theorem d_19_31_140 : decode prog_19_method_31_code 140 = .ok (.aload_n 0, 1) := by decide +kernel
theorem d_19_31_141 : decode prog_19_method_31_code 141 = .ok (.getfield 20, 3) := by decide +kernel
theorem d_19_31_144 : decode prog_19_method_31_code 144 = .ok (.iload 4, 2) := by decide +kernel
theorem d_19_31_146 : decode prog_19_method_31_code 146 = .ok (.bipush 16, 2) := by decide +kernel
theorem d_19_31_148 : decode prog_19_method_31_code 148 = .ok (.idiv, 1) := by decide +kernel
theorem d_19_31_149 : decode prog_19_method_31_code 149 = .ok (.iaload, 1) := by decide +kernel
theorem d_19_31_150 : decode prog_19_method_31_code 150 = .ok (.iconst 1, 1) := by decide +kernel
theorem d_19_31_151 : decode prog_19_method_31_code 151 = .ok (.iload 4, 2) := by decide +kernel
theorem d_19_31_153 : decode prog_19_method_31_code 153 = .ok (.bipush 16, 2) := by decide +kernel
theorem d_19_31_155 : decode prog_19_method_31_code 155 = .ok (.irem, 1) := by decide +kernel
theorem d_19_31_156 : decode prog_19_method_31_code 156 = .ok (.ishl, 1) := by decide +kernel
theorem d_19_31_157 : decode prog_19_method_31_code 157 = .ok (.iconst (-1), 1) := by decide +kernel
theorem d_19_31_158 : decode prog_19_method_31_code 158 = .ok (.ixor, 1) := by decide +kernel
theorem d_19_31_159 : decode prog_19_method_31_code 159 = .ok (.iand, 1) := by decide +kernel
theorem d_19_31_160 : decode prog_19_method_31_code 160 = .ok (.iastore, 1) := by decide +kernel
theorem d_19_31_54 : decode prog_19_method_31_code 54 = .ok (.return_, 1) := by decide +kernel
theorem d_19_31_26 : decode prog_19_method_31_code 26 = .ok (.iconst 1, 1) := by decide +kernel
theorem d_19_31_27 : decode prog_19_method_31_code 27 = .ok (.goto 17, 3) := by decide +kernel
theorem d_19_31_5 : decode prog_19_method_31_code 5 = .ok (.ifCond .ne 21, 3) := by decide +kernel
theorem d_19_31_8 : decode prog_19_method_31_code 8 = .ok (.iload_n 3, 1) := by decide +kernel
theorem d_19_31_9 : decode prog_19_method_31_code 9 = .ok (.invokestatic 91, 3) := by decide +kernel
theorem d_19_31_12 : decode prog_19_method_31_code 12 = .ok (.ifCond .ne 14, 3) := by decide +kernel
theorem d_19_31_15 : decode prog_19_method_31_code 15 = .ok (.iload_n 2, 1) := by decide +kernel
theorem d_19_31_16 : decode prog_19_method_31_code 16 = .ok (.iconst 1, 1) := by decide +kernel
theorem d_19_31_17 : decode prog_19_method_31_code 17 = .ok (.if_icmp .lt 9, 3) := by decide +kernel
theorem d_19_31_20 : decode prog_19_method_31_code 20 = .ok (.iload_n 2, 1) := by decide +kernel
theorem d_19_31_21 : decode prog_19_method_31_code 21 = .ok (.bipush 64, 2) := by decide +kernel
theorem d_19_31_23 : decode prog_19_method_31_code 23 = .ok (.if_icmp .le 7, 3) := by decide +kernel
theorem d_19_31_30 : decode prog_19_method_31_code 30 = .ok (.aload_n 0, 1) := by decide +kernel
theorem d_19_31_31 : decode prog_19_method_31_code 31 = .ok (.getfield 16, 3) := by decide +kernel
theorem d_19_31_34 : decode prog_19_method_31_code 34 = .ok (.iload_n 1, 1) := by decide +kernel
theorem d_19_31_35 : decode prog_19_method_31_code 35 = .ok (.baload, 1) := by decide +kernel
theorem d_19_31_36 : decode prog_19_method_31_code 36 = .ok (.ifCond .eq 7, 3) := by decide +kernel
theorem d_19_31_43 : decode prog_19_method_31_code 43 = .ok (.iconst 0, 1) := by decide +kernel
theorem d_19_31_39 : decode prog_19_method_31_code 39 = .ok (.iconst 2, 1) := by decide +kernel
theorem d_19_31_40 : decode prog_19_method_31_code 40 = .ok (.goto 4, 3) := by decide +kernel
def y_WR_root : MethodName := ⟨"NumberHouseModel$WholeRows", "root", "(III)V"⟩
def F_WR_root_c174 (K_F_WR_root_L90 : Int32 → (Nat → Int32) → (Nat → Int32) → (Nat → Int32) → (Int32 × Int32 × Int32 × Int32 × Int32 × Int32 × Int32 × (Nat → Int32) × (Nat → Int32) × (Nat → Int32) × (Nat → Int32) × (Nat → Int32) × (Nat → Int32))) (x2 : Int32) (x3 : Int32) (x4 : Int32) (t0_0 : Int32) (t0_1 : Int32) (t0_2 : Int32) (t0_3 : Int32) (t0_4 : Int32) (t0_5 : Int32) (t0_6 : Int32) (t1_0 : (Nat → Int32)) (t2_0 : (Nat → Int32)) (t3_0 : (Nat → Int32)) (t4_0 : (Nat → Int32)) (t5_0 : (Nat → Int32)) (t6_0 : (Nat → Int32)) (lx39 : Int32) (f64 : (Nat → Int32)) (lx91 : Int32) (lx92 : (Nat → Int32)) (lx93 : (Nat → Int32)) (lx94 : (Nat → Int32)) (p145 : (Int32 × Int32 × Int32 × Int32 × Int32 × Int32 × Int32 × (Nat → Int32) × (Nat → Int32))) : Int32 × Int32 × Int32 × Int32 × Int32 × Int32 × Int32 × (Nat → Int32) × (Nat → Int32) × (Nat → Int32) × (Nat → Int32) × (Nat → Int32) × (Nat → Int32) := ((p145.1 : Int32), (p145.2.1 : Int32), (p145.2.2.1 : Int32), (p145.2.2.2.1 : Int32), (p145.2.2.2.2.1 : Int32), (p145.2.2.2.2.2.1 : Int32), (p145.2.2.2.2.2.2.1 : Int32), (p145.2.2.2.2.2.2.2.1 : (Nat → Int32)), (p145.2.2.2.2.2.2.2.2 : (Nat → Int32)), lx92, lx93, lx94, f64)
def F_WR_root_c125 (K_F_WR_root_L90 : Int32 → (Nat → Int32) → (Nat → Int32) → (Nat → Int32) → (Int32 × Int32 × Int32 × Int32 × Int32 × Int32 × Int32 × (Nat → Int32) × (Nat → Int32) × (Nat → Int32) × (Nat → Int32) × (Nat → Int32) × (Nat → Int32))) (x2 : Int32) (x3 : Int32) (x4 : Int32) (t0_0 : Int32) (t0_1 : Int32) (t0_2 : Int32) (t0_3 : Int32) (t0_4 : Int32) (t0_5 : Int32) (t0_6 : Int32) (t1_0 : (Nat → Int32)) (t2_0 : (Nat → Int32)) (t3_0 : (Nat → Int32)) (t4_0 : (Nat → Int32)) (t5_0 : (Nat → Int32)) (t6_0 : (Nat → Int32)) (lx39 : Int32) (f64 : (Nat → Int32)) (lx91 : Int32) (lx92 : (Nat → Int32)) (lx93 : (Nat → Int32)) (lx94 : (Nat → Int32)) (f180 : (Nat → Int32)) (p194 : (Int32 × (Nat → Int32) × (Nat → Int32))) : Int32 × Int32 × Int32 × Int32 × Int32 × Int32 × Int32 × (Nat → Int32) × (Nat → Int32) × (Nat → Int32) × (Nat → Int32) × (Nat → Int32) × (Nat → Int32) := if (p194.1 : Int32) = (0 : Int32) then (K_F_WR_root_L90 (lx91 + (-1) : Int32) (upd f180 (lx91 / 16 : Int32).toNatClampNeg ((f180 (lx91 / 16 : Int32).toNatClampNeg : Int32) &&& (((1 : Int32) <<< ((lx91 - lx91 / 16 * 16 : Int32) &&& 31) : Int32) ^^^ (-1) : Int32) : Int32) : (Nat → Int32)) (p194.2.1 : (Nat → Int32)) (p194.2.2 : (Nat → Int32))) else (K_F_WR_root_L90 (lx91 + (-1) : Int32) f180 (p194.2.1 : (Nat → Int32)) (p194.2.2 : (Nat → Int32)))
def F_WR_root_L90 (x2 : Int32) (x3 : Int32) (x4 : Int32) (t0_0 : Int32) (t0_1 : Int32) (t0_2 : Int32) (t0_3 : Int32) (t0_4 : Int32) (t0_5 : Int32) (t0_6 : Int32) (t1_0 : (Nat → Int32)) (t2_0 : (Nat → Int32)) (t3_0 : (Nat → Int32)) (t4_0 : (Nat → Int32)) (t5_0 : (Nat → Int32)) (t6_0 : (Nat → Int32)) (lx39 : Int32) (f64 : (Nat → Int32)) : Nat → Int32 → (Nat → Int32) → (Nat → Int32) → (Nat → Int32) → (Int32 × Int32 × Int32 × Int32 × Int32 × Int32 × Int32 × (Nat → Int32) × (Nat → Int32) × (Nat → Int32) × (Nat → Int32) × (Nat → Int32) × (Nat → Int32))
  | 0, _, _, _, _ => default
  | fm + 1, lx91, lx92, lx93, lx94 => if lx91 < (0 : Int32) then (F_WR_root_c174 (F_WR_root_L90 x2 x3 x4 t0_0 t0_1 t0_2 t0_3 t0_4 t0_5 t0_6 t1_0 t2_0 t3_0 t4_0 t5_0 t6_0 lx39 f64 fm) x2 x3 x4 t0_0 t0_1 t0_2 t0_3 t0_4 t0_5 t0_6 t1_0 t2_0 t3_0 t4_0 t5_0 t6_0 lx39 f64 lx91 lx92 lx93 lx94 ((F_WR_store x4 lx39 (2 : Int32) t0_2 (0 : Int32) t0_4 t0_5 t0_6 t1_0 t2_0 lx92) : (Int32 × Int32 × Int32 × Int32 × Int32 × Int32 × Int32 × (Nat → Int32) × (Nat → Int32)))) else (F_WR_root_c125 (F_WR_root_L90 x2 x3 x4 t0_0 t0_1 t0_2 t0_3 t0_4 t0_5 t0_6 t1_0 t2_0 t3_0 t4_0 t5_0 t6_0 lx39 f64 fm) x2 x3 x4 t0_0 t0_1 t0_2 t0_3 t0_4 t0_5 t0_6 t1_0 t2_0 t3_0 t4_0 t5_0 t6_0 lx39 f64 lx91 lx92 lx93 lx94 (upd lx92 (lx91 / 16 : Int32).toNatClampNeg ((lx92 (lx91 / 16 : Int32).toNatClampNeg : Int32) ||| ((1 : Int32) <<< ((lx91 - lx91 / 16 * 16 : Int32) &&& 31) : Int32) : Int32) : (Nat → Int32)) ((F_WR_fits x3 lx39 (2 : Int32) t0_2 t0_3 t0_4 t0_5 t0_6 (upd lx92 (lx91 / 16 : Int32).toNatClampNeg ((lx92 (lx91 / 16 : Int32).toNatClampNeg : Int32) ||| ((1 : Int32) <<< ((lx91 - lx91 / 16 * 16 : Int32) &&& 31) : Int32) : Int32) : (Nat → Int32)) lx93 lx94 f64) : (Int32 × (Nat → Int32) × (Nat → Int32))))
def F_WR_root_J44 (x2 : Int32) (x3 : Int32) (x4 : Int32) (t0_0 : Int32) (t0_1 : Int32) (t0_2 : Int32) (t0_3 : Int32) (t0_4 : Int32) (t0_5 : Int32) (t0_6 : Int32) (t1_0 : (Nat → Int32)) (t2_0 : (Nat → Int32)) (t3_0 : (Nat → Int32)) (t4_0 : (Nat → Int32)) (t5_0 : (Nat → Int32)) (t6_0 : (Nat → Int32)) (lx39 : Int32) : Int32 × Int32 × Int32 × Int32 × Int32 × Int32 × Int32 × (Nat → Int32) × (Nat → Int32) × (Nat → Int32) × (Nat → Int32) × (Nat → Int32) × (Nat → Int32) := if lx39 ≤ (0 : Int32) then (F_WR_root_L90 x2 x3 x4 t0_0 t0_1 t0_2 t0_3 t0_4 t0_5 t0_6 t1_0 t2_0 t3_0 t4_0 t5_0 t6_0 lx39 ((F_WR_take x2 (264 : Int32) lx39 (2 : Int32) t0_2 t0_3 t0_4 t0_5 t0_6 t1_0 t6_0) : (Nat → Int32)) ((((16 * ((F_WR_size (264 : Int32) ((F_WR_take x2 (264 : Int32) lx39 (2 : Int32) t0_2 t0_3 t0_4 t0_5 t0_6 t1_0 t6_0) : (Nat → Int32))) : Int32) : Int32) / x3 : Int32).toInt - ((-1))).toNat + 1) ((16 * ((F_WR_size (264 : Int32) ((F_WR_take x2 (264 : Int32) lx39 (2 : Int32) t0_2 t0_3 t0_4 t0_5 t0_6 t1_0 t6_0) : (Nat → Int32))) : Int32) : Int32) / x3 : Int32) ((F_WR_clear (264 : Int32) t3_0) : (Nat → Int32)) t4_0 t5_0) else ((lx39, t0_1, t0_2, t0_3, t0_4, t0_5, t0_6, t1_0, t2_0, t3_0, t4_0, t5_0, t6_0))
def F_WR_root_J26 (x2 : Int32) (x3 : Int32) (x4 : Int32) (t0_0 : Int32) (t0_1 : Int32) (t0_2 : Int32) (t0_3 : Int32) (t0_4 : Int32) (t0_5 : Int32) (t0_6 : Int32) (t1_0 : (Nat → Int32)) (t2_0 : (Nat → Int32)) (t3_0 : (Nat → Int32)) (t4_0 : (Nat → Int32)) (t5_0 : (Nat → Int32)) (t6_0 : (Nat → Int32)) : Int32 × Int32 × Int32 × Int32 × Int32 × Int32 × Int32 × (Nat → Int32) × (Nat → Int32) × (Nat → Int32) × (Nat → Int32) × (Nat → Int32) × (Nat → Int32) := F_WR_root_J44 x2 x3 x4 t0_0 t0_1 t0_2 t0_3 t0_4 t0_5 t0_6 t1_0 t2_0 t3_0 t4_0 t5_0 t6_0 1
def F_WR_root (x2 : Int32) (x3 : Int32) (x4 : Int32) (t0_0 : Int32) (t0_1 : Int32) (t0_2 : Int32) (t0_3 : Int32) (t0_4 : Int32) (t0_5 : Int32) (t0_6 : Int32) (t1_0 : (Nat → Int32)) (t2_0 : (Nat → Int32)) (t3_0 : (Nat → Int32)) (t4_0 : (Nat → Int32)) (t5_0 : (Nat → Int32)) (t6_0 : (Nat → Int32)) : Int32 × Int32 × Int32 × Int32 × Int32 × Int32 × Int32 × (Nat → Int32) × (Nat → Int32) × (Nat → Int32) × (Nat → Int32) × (Nat → Int32) × (Nat → Int32) := if ((F_WR_no x2) : Int32) = (0 : Int32) then (if ((F_WR_no x4) : Int32) = (0 : Int32) then (if x3 < (1 : Int32) then (F_WR_root_J26 x2 x3 x4 t0_0 t0_1 t0_2 t0_3 t0_4 t0_5 t0_6 t1_0 t2_0 t3_0 t4_0 t5_0 t6_0) else (if x3 ≤ (64 : Int32) then (if (t2_0 x2.toNatClampNeg : Int32) = (0 : Int32) then (F_WR_root_J44 x2 x3 x4 t0_0 t0_1 t0_2 t0_3 t0_4 t0_5 t0_6 t1_0 t2_0 t3_0 t4_0 t5_0 t6_0 0) else (F_WR_root_J44 x2 x3 x4 t0_0 t0_1 t0_2 t0_3 t0_4 t0_5 t0_6 t1_0 t2_0 t3_0 t4_0 t5_0 t6_0 2)) else (F_WR_root_J26 x2 x3 x4 t0_0 t0_1 t0_2 t0_3 t0_4 t0_5 t0_6 t1_0 t2_0 t3_0 t4_0 t5_0 t6_0))) else (F_WR_root_J26 x2 x3 x4 t0_0 t0_1 t0_2 t0_3 t0_4 t0_5 t0_6 t1_0 t2_0 t3_0 t4_0 t5_0 t6_0)) else (F_WR_root_J26 x2 x3 x4 t0_0 t0_1 t0_2 t0_3 t0_4 t0_5 t0_6 t1_0 t2_0 t3_0 t4_0 t5_0 t6_0)
def S_WR_root_c174 (K_S_WR_root_L90 : Int32 → (Nat → Int32) → (Nat → Int32) → (Nat → Int32) → Prop) (x2 : Int32) (x3 : Int32) (x4 : Int32) (t0_0 : Int32) (t0_1 : Int32) (t0_2 : Int32) (t0_3 : Int32) (t0_4 : Int32) (t0_5 : Int32) (t0_6 : Int32) (t1_0 : (Nat → Int32)) (t2_0 : (Nat → Int32)) (t3_0 : (Nat → Int32)) (t4_0 : (Nat → Int32)) (t5_0 : (Nat → Int32)) (t6_0 : (Nat → Int32)) (lx39 : Int32) (f64 : (Nat → Int32)) (lx91 : Int32) (lx92 : (Nat → Int32)) (lx93 : (Nat → Int32)) (lx94 : (Nat → Int32)) (p145 : (Int32 × Int32 × Int32 × Int32 × Int32 × Int32 × Int32 × (Nat → Int32) × (Nat → Int32))) : Prop := True
def S_WR_root_c125 (K_S_WR_root_L90 : Int32 → (Nat → Int32) → (Nat → Int32) → (Nat → Int32) → Prop) (x2 : Int32) (x3 : Int32) (x4 : Int32) (t0_0 : Int32) (t0_1 : Int32) (t0_2 : Int32) (t0_3 : Int32) (t0_4 : Int32) (t0_5 : Int32) (t0_6 : Int32) (t1_0 : (Nat → Int32)) (t2_0 : (Nat → Int32)) (t3_0 : (Nat → Int32)) (t4_0 : (Nat → Int32)) (t5_0 : (Nat → Int32)) (t6_0 : (Nat → Int32)) (lx39 : Int32) (f64 : (Nat → Int32)) (lx91 : Int32) (lx92 : (Nat → Int32)) (lx93 : (Nat → Int32)) (lx94 : (Nat → Int32)) (f180 : (Nat → Int32)) (p194 : (Int32 × (Nat → Int32) × (Nat → Int32))) : Prop := if (p194.1 : Int32) = (0 : Int32) then (K_S_WR_root_L90 (lx91 + (-1) : Int32) (upd f180 (lx91 / 16 : Int32).toNatClampNeg ((f180 (lx91 / 16 : Int32).toNatClampNeg : Int32) &&& (((1 : Int32) <<< ((lx91 - lx91 / 16 * 16 : Int32) &&& 31) : Int32) ^^^ (-1) : Int32) : Int32) : (Nat → Int32)) (p194.2.1 : (Nat → Int32)) (p194.2.2 : (Nat → Int32))) else (K_S_WR_root_L90 (lx91 + (-1) : Int32) f180 (p194.2.1 : (Nat → Int32)) (p194.2.2 : (Nat → Int32)))
def S_WR_root_L90 (x2 : Int32) (x3 : Int32) (x4 : Int32) (t0_0 : Int32) (t0_1 : Int32) (t0_2 : Int32) (t0_3 : Int32) (t0_4 : Int32) (t0_5 : Int32) (t0_6 : Int32) (t1_0 : (Nat → Int32)) (t2_0 : (Nat → Int32)) (t3_0 : (Nat → Int32)) (t4_0 : (Nat → Int32)) (t5_0 : (Nat → Int32)) (t6_0 : (Nat → Int32)) (lx39 : Int32) (f64 : (Nat → Int32)) : Nat → Int32 → (Nat → Int32) → (Nat → Int32) → (Nat → Int32) → Prop
  | 0, _, _, _, _ => False
  | fm + 1, lx91, lx92, lx93, lx94 => if lx91 < (0 : Int32) then ((True ∧ S_WR_store x4 lx39 (2 : Int32) t0_2 (0 : Int32) t0_4 t0_5 t0_6 t1_0 t2_0 lx92) ∧ (S_WR_root_c174 (S_WR_root_L90 x2 x3 x4 t0_0 t0_1 t0_2 t0_3 t0_4 t0_5 t0_6 t1_0 t2_0 t3_0 t4_0 t5_0 t6_0 lx39 f64 fm) x2 x3 x4 t0_0 t0_1 t0_2 t0_3 t0_4 t0_5 t0_6 t1_0 t2_0 t3_0 t4_0 t5_0 t6_0 lx39 f64 lx91 lx92 lx93 lx94 ((F_WR_store x4 lx39 (2 : Int32) t0_2 (0 : Int32) t0_4 t0_5 t0_6 t1_0 t2_0 lx92) : (Int32 × Int32 × Int32 × Int32 × Int32 × Int32 × Int32 × (Nat → Int32) × (Nat → Int32))))) else (((lx91 / 16 : Int32).toInt ≤ 263) ∧ ((True ∧ S_WR_fits x3 lx39 (2 : Int32) t0_2 t0_3 t0_4 t0_5 t0_6 (upd lx92 (lx91 / 16 : Int32).toNatClampNeg ((lx92 (lx91 / 16 : Int32).toNatClampNeg : Int32) ||| ((1 : Int32) <<< ((lx91 - lx91 / 16 * 16 : Int32) &&& 31) : Int32) : Int32) : (Nat → Int32)) lx93 lx94 f64) ∧ (S_WR_root_c125 (S_WR_root_L90 x2 x3 x4 t0_0 t0_1 t0_2 t0_3 t0_4 t0_5 t0_6 t1_0 t2_0 t3_0 t4_0 t5_0 t6_0 lx39 f64 fm) x2 x3 x4 t0_0 t0_1 t0_2 t0_3 t0_4 t0_5 t0_6 t1_0 t2_0 t3_0 t4_0 t5_0 t6_0 lx39 f64 lx91 lx92 lx93 lx94 (upd lx92 (lx91 / 16 : Int32).toNatClampNeg ((lx92 (lx91 / 16 : Int32).toNatClampNeg : Int32) ||| ((1 : Int32) <<< ((lx91 - lx91 / 16 * 16 : Int32) &&& 31) : Int32) : Int32) : (Nat → Int32)) ((F_WR_fits x3 lx39 (2 : Int32) t0_2 t0_3 t0_4 t0_5 t0_6 (upd lx92 (lx91 / 16 : Int32).toNatClampNeg ((lx92 (lx91 / 16 : Int32).toNatClampNeg : Int32) ||| ((1 : Int32) <<< ((lx91 - lx91 / 16 * 16 : Int32) &&& 31) : Int32) : Int32) : (Nat → Int32)) lx93 lx94 f64) : (Int32 × (Nat → Int32) × (Nat → Int32))))))
def S_WR_root_J44 (x2 : Int32) (x3 : Int32) (x4 : Int32) (t0_0 : Int32) (t0_1 : Int32) (t0_2 : Int32) (t0_3 : Int32) (t0_4 : Int32) (t0_5 : Int32) (t0_6 : Int32) (t1_0 : (Nat → Int32)) (t2_0 : (Nat → Int32)) (t3_0 : (Nat → Int32)) (t4_0 : (Nat → Int32)) (t5_0 : (Nat → Int32)) (t6_0 : (Nat → Int32)) (lx39 : Int32) : Prop := if lx39 ≤ (0 : Int32) then ((True ∧ S_WR_take x2 (264 : Int32) lx39 (2 : Int32) t0_2 t0_3 t0_4 t0_5 t0_6 t1_0 t6_0) ∧ ((1 ≤ x3.toInt) ∧ (S_WR_root_L90 x2 x3 x4 t0_0 t0_1 t0_2 t0_3 t0_4 t0_5 t0_6 t1_0 t2_0 t3_0 t4_0 t5_0 t6_0 lx39 ((F_WR_take x2 (264 : Int32) lx39 (2 : Int32) t0_2 t0_3 t0_4 t0_5 t0_6 t1_0 t6_0) : (Nat → Int32)) ((((16 * ((F_WR_size (264 : Int32) ((F_WR_take x2 (264 : Int32) lx39 (2 : Int32) t0_2 t0_3 t0_4 t0_5 t0_6 t1_0 t6_0) : (Nat → Int32))) : Int32) : Int32) / x3 : Int32).toInt - ((-1))).toNat + 1) ((16 * ((F_WR_size (264 : Int32) ((F_WR_take x2 (264 : Int32) lx39 (2 : Int32) t0_2 t0_3 t0_4 t0_5 t0_6 t1_0 t6_0) : (Nat → Int32))) : Int32) : Int32) / x3 : Int32) ((F_WR_clear (264 : Int32) t3_0) : (Nat → Int32)) t4_0 t5_0))) else (True)
def S_WR_root_J26 (x2 : Int32) (x3 : Int32) (x4 : Int32) (t0_0 : Int32) (t0_1 : Int32) (t0_2 : Int32) (t0_3 : Int32) (t0_4 : Int32) (t0_5 : Int32) (t0_6 : Int32) (t1_0 : (Nat → Int32)) (t2_0 : (Nat → Int32)) (t3_0 : (Nat → Int32)) (t4_0 : (Nat → Int32)) (t5_0 : (Nat → Int32)) (t6_0 : (Nat → Int32)) : Prop := S_WR_root_J44 x2 x3 x4 t0_0 t0_1 t0_2 t0_3 t0_4 t0_5 t0_6 t1_0 t2_0 t3_0 t4_0 t5_0 t6_0 1
def S_WR_root (x2 : Int32) (x3 : Int32) (x4 : Int32) (t0_0 : Int32) (t0_1 : Int32) (t0_2 : Int32) (t0_3 : Int32) (t0_4 : Int32) (t0_5 : Int32) (t0_6 : Int32) (t1_0 : (Nat → Int32)) (t2_0 : (Nat → Int32)) (t3_0 : (Nat → Int32)) (t4_0 : (Nat → Int32)) (t5_0 : (Nat → Int32)) (t6_0 : (Nat → Int32)) : Prop := if ((F_WR_no x2) : Int32) = (0 : Int32) then (if ((F_WR_no x4) : Int32) = (0 : Int32) then (if x3 < (1 : Int32) then (S_WR_root_J26 x2 x3 x4 t0_0 t0_1 t0_2 t0_3 t0_4 t0_5 t0_6 t1_0 t2_0 t3_0 t4_0 t5_0 t6_0) else (if x3 ≤ (64 : Int32) then ((0 ≤ x2.toInt) ∧ ((x2.toInt ≤ 10) ∧ (if (t2_0 x2.toNatClampNeg : Int32) = (0 : Int32) then (S_WR_root_J44 x2 x3 x4 t0_0 t0_1 t0_2 t0_3 t0_4 t0_5 t0_6 t1_0 t2_0 t3_0 t4_0 t5_0 t6_0 0) else (S_WR_root_J44 x2 x3 x4 t0_0 t0_1 t0_2 t0_3 t0_4 t0_5 t0_6 t1_0 t2_0 t3_0 t4_0 t5_0 t6_0 2)))) else (S_WR_root_J26 x2 x3 x4 t0_0 t0_1 t0_2 t0_3 t0_4 t0_5 t0_6 t1_0 t2_0 t3_0 t4_0 t5_0 t6_0))) else (S_WR_root_J26 x2 x3 x4 t0_0 t0_1 t0_2 t0_3 t0_4 t0_5 t0_6 t1_0 t2_0 t3_0 t4_0 t5_0 t6_0)) else (S_WR_root_J26 x2 x3 x4 t0_0 t0_1 t0_2 t0_3 t0_4 t0_5 t0_6 t1_0 t2_0 t3_0 t4_0 t5_0 t6_0)
set_option maxRecDepth 100000 in
set_option maxHeartbeats 4000000 in
theorem X_WR_root (l : Launch) (D : va_G) (g : Nat → ClassId) (q : Nat → Nat) (ws : va_W) (x2 : Int32) (x3 : Int32) (x4 : Int32) (hI : q_I (msh g q) q ws) (t0_0 : Int32) (t0_1 : Int32) (t0_2 : Int32) (t0_3 : Int32) (t0_4 : Int32) (t0_5 : Int32) (t0_6 : Int32) (hT0 : ws[119]? = (some (q 119, .inr (13, [.int t0_0, .int t0_1, .ref (q 120), .int t0_2, .ref (q 121), .ref (q 122), .ref (q 123), .int t0_3, .ref (q 124), .ref (q 125), .ref (q 126), .ref (q 127), .ref (q 128), .ref (q 129), .ref (q 130), .ref (q 131), .int t0_4, .int t0_5, .ref (q 132), .ref (q 133), .int t0_6])) : Option (Nat × va_E))) (t1_0 : (Nat → Int32)) (hT1 : ws[121]? = (some (q 121, .inl (g 0, (1408 : Int32).toNatClampNeg, .inl t1_0)) : Option (Nat × va_E))) (t2_0 : (Nat → Int32)) (hT2 : ws[122]? = (some (q 122, .inl (g 3, 11, .inl t2_0)) : Option (Nat × va_E))) (t3_0 : (Nat → Int32)) (hT3 : ws[123]? = (some (q 123, .inl (g 0, (264 : Int32).toNatClampNeg, .inl t3_0)) : Option (Nat × va_E))) (t4_0 : (Nat → Int32)) (hT4 : ws[124]? = (some (q 124, .inl (g 0, (264 : Int32).toNatClampNeg, .inl t4_0)) : Option (Nat × va_E))) (t5_0 : (Nat → Int32)) (hT5 : ws[125]? = (some (q 125, .inl (g 0, (528 : Int32).toNatClampNeg, .inl t5_0)) : Option (Nat × va_E))) (t6_0 : (Nat → Int32)) (hT6 : ws[128]? = (some (q 128, .inl (g 0, (264 : Int32).toNatClampNeg, .inl t6_0)) : Option (Nat × va_E))) (hS : True ∧ S_WR_root x2 x3 x4 t0_0 t0_1 t0_2 t0_3 t0_4 t0_5 t0_6 t1_0 t2_0 t3_0 t4_0 t5_0 t6_0) : q_mV l y_WR_root prog_19_method_31_code 5 4 0 0 D g [.ref (q 119), .int x2, .int x3, .int x4] ws (fun u => q_I (msh g q) q u ∧ q_un ws u [119, 121, 122, 123, 124, 125, 128] ∧ ∃ (u0_0 : Int32) (u0_1 : Int32) (u0_2 : Int32) (u0_3 : Int32) (u0_4 : Int32) (u0_5 : Int32) (u0_6 : Int32) (u1_0 : (Nat → Int32)) (u2_0 : (Nat → Int32)) (u3_0 : (Nat → Int32)) (u4_0 : (Nat → Int32)) (u5_0 : (Nat → Int32)) (u6_0 : (Nat → Int32)), u[119]? = (some (q 119, .inr (13, [.int u0_0, .int u0_1, .ref (q 120), .int u0_2, .ref (q 121), .ref (q 122), .ref (q 123), .int u0_3, .ref (q 124), .ref (q 125), .ref (q 126), .ref (q 127), .ref (q 128), .ref (q 129), .ref (q 130), .ref (q 131), .int u0_4, .int u0_5, .ref (q 132), .ref (q 133), .int u0_6])) : Option (Nat × va_E)) ∧ u[121]? = (some (q 121, .inl (g 0, (1408 : Int32).toNatClampNeg, .inl u1_0)) : Option (Nat × va_E)) ∧ u[122]? = (some (q 122, .inl (g 3, 11, .inl u2_0)) : Option (Nat × va_E)) ∧ u[123]? = (some (q 123, .inl (g 0, (264 : Int32).toNatClampNeg, .inl u3_0)) : Option (Nat × va_E)) ∧ u[124]? = (some (q 124, .inl (g 0, (264 : Int32).toNatClampNeg, .inl u4_0)) : Option (Nat × va_E)) ∧ u[125]? = (some (q 125, .inl (g 0, (528 : Int32).toNatClampNeg, .inl u5_0)) : Option (Nat × va_E)) ∧ u[128]? = (some (q 128, .inl (g 0, (264 : Int32).toNatClampNeg, .inl u6_0)) : Option (Nat × va_E)) ∧ (0 ≤ u0_3.toInt) ∧ (t0_2.toInt ≤ u0_2.toInt) ∧ (u0_2.toInt ≤ t0_2.toInt) ∧ (u0_3.toInt ≤ t0_3.toInt) ∧ (t0_4.toInt ≤ u0_4.toInt) ∧ (u0_4.toInt ≤ t0_4.toInt) ∧ (t0_5.toInt ≤ u0_5.toInt) ∧ (u0_5.toInt ≤ t0_5.toInt) ∧ (t0_6.toInt ≤ u0_6.toInt) ∧ (u0_6.toInt ≤ t0_6.toInt) ∧ (u0_0, u0_1, u0_2, u0_3, u0_4, u0_5, u0_6, u1_0, u2_0, u3_0, u4_0, u5_0, u6_0) = (F_WR_root x2 x3 x4 t0_0 t0_1 t0_2 t0_3 t0_4 t0_5 t0_6 t1_0 t2_0 t3_0 t4_0 t5_0 t6_0)) := by
  intro sz
  refine q_into (by decide) (Nat.le_of_ble_eq_true rfl) ?_
  intro p e s m below meth c ls hsz C0 V hl
  have hx := C0.1
  have hb := C0.2.1
  obtain ⟨btt0_2, hZ9⟩ := n_w119 hI hT0
  obtain ⟨btt0_3, hZ9⟩ := hZ9
  obtain ⟨btt0_4, hZ9⟩ := hZ9
  obtain ⟨btt0_5, btt0_6⟩ := hZ9
  replace btt0_2 : q_F (0 ≤ t0_2.toInt ∧ t0_2.toInt ≤ 4100) := btt0_2
  replace btt0_3 : q_F (0 ≤ t0_3.toInt ∧ t0_3.toInt ≤ 1) := btt0_3
  replace btt0_4 : q_F (0 ≤ t0_4.toInt ∧ t0_4.toInt ≤ 1) := btt0_4
  replace btt0_5 : q_F (0 ≤ t0_5.toInt ∧ t0_5.toInt ≤ 1) := btt0_5
  replace btt0_6 : q_F (0 ≤ t0_6.toInt ∧ t0_6.toInt ≤ 2100) := btt0_6
  have hF : q_un ws ws [119, 121, 122, 123, 124, 125, 128] := q_u0
  have hl : lv_has ls 5 [(0, .ref (q 119)), (1, .int x2), (2, .int x3), (3, .int x4)] := hl
  refine lv_aload_n hx hb d_19_31_0 rfl (lv_at hl 0 rfl) ?_
  refine lv_iload_n hx hb d_19_31_1 rfl (lv_at hl 1 rfl) ?_
  refine q_goi V (q_runS (As := [.int x2]) (rest := [.ref (q 119)]) (d := 1) (mc := 0) (ms := 0) C0 V rfl LS_WR_91 (X_WR_no l D g q ws  x2 hI   _) rfl hl.1 rfl (Nat.le_of_ble_eq_true rfl) ⟨by decide, by decide⟩ ⟨Nat.le_of_ble_eq_true rfl, Nat.le_of_ble_eq_true rfl⟩ d_19_31_2) (fun a34 u32 H locs hp33 V => ?_)
  obtain ⟨rfl, b35, b36, hE37⟩ := hp33
  have e38 : a34 = (F_WR_no x2) := hE37
  clear b35
  clear b36
  refine q_join (X := Int32) (fun z H locs ls _ => q_F (0 ≤ z.toInt) ∧ q_F (z.toInt ≤ 2) ∧ q_Wd D g (va_A ws sz) s ws H locs ∧ lv_has ls 5 [(0, .ref (q 119)), (1, .int x2), (2, .int x3), (3, .int x4)] ∧ F_WR_root_J44 x2 x3 x4 t0_0 t0_1 t0_2 t0_3 t0_4 t0_5 t0_6 t1_0 t2_0 t3_0 t4_0 t5_0 t6_0 z = (F_WR_root x2 x3 x4 t0_0 t0_1 t0_2 t0_3 t0_4 t0_5 t0_6 t1_0 t2_0 t3_0 t4_0 t5_0 t6_0) ∧ True ∧ S_WR_root_J44 x2 x3 x4 t0_0 t0_1 t0_2 t0_3 t0_4 t0_5 t0_6 t1_0 t2_0 t3_0 t4_0 t5_0 t6_0 z) (fun z => [.int z, .ref (q 119)]) 44 0 0 ?_ ?_
  ·
    rintro lx39 H locs ls _ hZ9
    obtain ⟨i48, hZ9⟩ := hZ9
    replace hZ9 := hZ9.2
    obtain ⟨V, hZ9⟩ := hZ9
    obtain ⟨hl, hZ9⟩ := hZ9
    obtain ⟨hR50, hS51⟩ := hZ9
    replace i48 : q_F (0 ≤ lx39.toInt) := i48
    replace hl : lv_has ls 5 [(0, .ref (q 119)), (1, .int x2), (2, .int x3), (3, .int x4)] := hl
    refine q_put (ci := 13) (j := 0) (v := .int lx39) (ty := .int) C0 V i_WR o_WR n_WR rfl rfl hT0 (by decide) w_1921 rfl rfl rfl rfl (Nat.le_of_ble_eq_true rfl) d_19_31_44 (fun H locs w55 hu56 hT0 V => ?_)
    replace hT0 : w55[119]? = (some (q 119, .inr (13, [.int lx39, .int t0_1, .ref (q 120), .int t0_2, .ref (q 121), .ref (q 122), .ref (q 123), .int t0_3, .ref (q 124), .ref (q 125), .ref (q 126), .ref (q 127), .ref (q 128), .ref (q 129), .ref (q 130), .ref (q 131), .int t0_4, .int t0_5, .ref (q 132), .ref (q 133), .int t0_6])) : Option (Nat × va_E)) := hT0
    replace hI := n_p119 hI hu56 hT0 (by first | with_reducible exact q_fe btt0_2 | exact ⟨(by have t1 : 0 ≤ t0_2.toInt ∧ t0_2.toInt ≤ 4100 := btt0_2; omega), (by have t1 : 0 ≤ t0_2.toInt ∧ t0_2.toInt ≤ 4100 := btt0_2; omega)⟩) (by first | with_reducible exact q_fe btt0_3 | exact ⟨(by have t1 : 0 ≤ t0_3.toInt ∧ t0_3.toInt ≤ 1 := btt0_3; omega), (by have t1 : 0 ≤ t0_3.toInt ∧ t0_3.toInt ≤ 1 := btt0_3; omega)⟩) (by first | with_reducible exact q_fe btt0_4 | exact ⟨(by have t1 : 0 ≤ t0_4.toInt ∧ t0_4.toInt ≤ 1 := btt0_4; omega), (by have t1 : 0 ≤ t0_4.toInt ∧ t0_4.toInt ≤ 1 := btt0_4; omega)⟩) (by first | with_reducible exact q_fe btt0_5 | exact ⟨(by have t1 : 0 ≤ t0_5.toInt ∧ t0_5.toInt ≤ 1 := btt0_5; omega), (by have t1 : 0 ≤ t0_5.toInt ∧ t0_5.toInt ≤ 1 := btt0_5; omega)⟩) (by first | with_reducible exact q_fe btt0_6 | exact ⟨(by have t1 : 0 ≤ t0_6.toInt ∧ t0_6.toInt ≤ 2100 := btt0_6; omega), (by have t1 : 0 ≤ t0_6.toInt ∧ t0_6.toInt ≤ 2100 := btt0_6; omega)⟩)
    replace hT1 := (hu56 _ (by decide)).trans hT1
    replace hT2 := (hu56 _ (by decide)).trans hT2
    replace hT3 := (hu56 _ (by decide)).trans hT3
    replace hT4 := (hu56 _ (by decide)).trans hT4
    replace hT5 := (hu56 _ (by decide)).trans hT5
    replace hT6 := (hu56 _ (by decide)).trans hT6
    replace hF := q_us hF hu56 (by simp)
    refine lv_aload_n hx hb d_19_31_47 rfl (lv_at hl 0 rfl) ?_
    refine q_get (ci := 13) (j := 0) (v := .int lx39) C0 V i_WR rfl rfl hT0 (by decide) w_1921 rfl d_19_31_48 ?_
    refine lv_if_le (tgt := 55) hx hb d_19_31_51 (by decide) (fun c57 => ?_) (fun c57 => ?_)
    ·
      refine lv_aload_n hx hb d_19_31_55 rfl (lv_at hl 0 rfl) ?_
      refine lv_iconst (v := 2) hx hb d_19_31_56 (by decide) ?_
      refine q_put (ci := 13) (j := 1) (v := .int 2) (ty := .int) C0 V i_WR o_WR n_WR rfl rfl hT0 (by decide) w_1923 rfl rfl rfl rfl (Nat.le_of_ble_eq_true rfl) d_19_31_57 (fun H locs w59 hu60 hT0 V => ?_)
      replace hT0 : w59[119]? = (some (q 119, .inr (13, [.int lx39, .int 2, .ref (q 120), .int t0_2, .ref (q 121), .ref (q 122), .ref (q 123), .int t0_3, .ref (q 124), .ref (q 125), .ref (q 126), .ref (q 127), .ref (q 128), .ref (q 129), .ref (q 130), .ref (q 131), .int t0_4, .int t0_5, .ref (q 132), .ref (q 133), .int t0_6])) : Option (Nat × va_E)) := hT0
      replace hI := n_p119 hI hu60 hT0 (by first | with_reducible exact q_fe btt0_2 | exact ⟨(by have t1 : 0 ≤ t0_2.toInt ∧ t0_2.toInt ≤ 4100 := btt0_2; omega), (by have t1 : 0 ≤ t0_2.toInt ∧ t0_2.toInt ≤ 4100 := btt0_2; omega)⟩) (by first | with_reducible exact q_fe btt0_3 | exact ⟨(by have t1 : 0 ≤ t0_3.toInt ∧ t0_3.toInt ≤ 1 := btt0_3; omega), (by have t1 : 0 ≤ t0_3.toInt ∧ t0_3.toInt ≤ 1 := btt0_3; omega)⟩) (by first | with_reducible exact q_fe btt0_4 | exact ⟨(by have t1 : 0 ≤ t0_4.toInt ∧ t0_4.toInt ≤ 1 := btt0_4; omega), (by have t1 : 0 ≤ t0_4.toInt ∧ t0_4.toInt ≤ 1 := btt0_4; omega)⟩) (by first | with_reducible exact q_fe btt0_5 | exact ⟨(by have t1 : 0 ≤ t0_5.toInt ∧ t0_5.toInt ≤ 1 := btt0_5; omega), (by have t1 : 0 ≤ t0_5.toInt ∧ t0_5.toInt ≤ 1 := btt0_5; omega)⟩) (by first | with_reducible exact q_fe btt0_6 | exact ⟨(by have t1 : 0 ≤ t0_6.toInt ∧ t0_6.toInt ≤ 2100 := btt0_6; omega), (by have t1 : 0 ≤ t0_6.toInt ∧ t0_6.toInt ≤ 2100 := btt0_6; omega)⟩)
      replace hT1 := (hu60 _ (by decide)).trans hT1
      replace hT2 := (hu60 _ (by decide)).trans hT2
      replace hT3 := (hu60 _ (by decide)).trans hT3
      replace hT4 := (hu60 _ (by decide)).trans hT4
      replace hT5 := (hu60 _ (by decide)).trans hT5
      replace hT6 := (hu60 _ (by decide)).trans hT6
      replace hF := q_us hF hu60 (by simp)
      refine lv_aload_n hx hb d_19_31_60 rfl (lv_at hl 0 rfl) ?_
      refine lv_iload_n hx hb d_19_31_61 rfl (lv_at hl 1 rfl) ?_
      refine lv_aload_n hx hb d_19_31_62 rfl (lv_at hl 0 rfl) ?_
      refine q_get (ci := 13) (j := 12) (v := .ref (q 128)) C0 V i_WR rfl rfl hT0 (by decide) w_1936 rfl d_19_31_63 ?_
      have ob61 : True ∧ S_WR_take x2 (264 : Int32) lx39 (2 : Int32) t0_2 t0_3 t0_4 t0_5 t0_6 t1_0 t6_0 := (by have h := hS51; rw [S_WR_root_J44.eq_1] at h; rw [if_pos c57] at h; with_reducible exact h.2.1)
      refine q_gov V (q_runV (As := [.int x2, .ref (q 128)]) (rest := []) (d := 1) (mc := 0) (ms := 0) (ci := 13) C0 V rfl LV_WR_107 (X_WR_take l D g q w59 128 264 (n_r128 g q) x2 (by decide) hI lx39 2 t0_2 t0_3 t0_4 t0_5 t0_6 hT0 t1_0 hT1 t6_0 hT6 ob61 _) rfl rfl hT0 rfl hl.1 rfl (Nat.le_of_ble_eq_true rfl) ⟨by decide, by decide⟩ ⟨Nat.le_of_ble_eq_true rfl, Nat.le_of_ble_eq_true rfl⟩ d_19_31_66) (fun u62 H locs hp63 V => ?_)
      obtain ⟨hI, hu67, f64, hA65, hE66⟩ := hp63
      replace hA65 : u62[128]? = (some (q 128, .inl (g 0, (264 : Int32).toNatClampNeg, .inl f64)) : Option (Nat × va_E)) := hA65
      have e68 : f64 = (F_WR_take x2 (264 : Int32) lx39 (2 : Int32) t0_2 t0_3 t0_4 t0_5 t0_6 t1_0 t6_0) := hE66
      replace hT0 := (hu67 _ (by decide)).trans hT0
      replace hT1 := (hu67 _ (by decide)).trans hT1
      replace hT2 := (hu67 _ (by decide)).trans hT2
      replace hT3 := (hu67 _ (by decide)).trans hT3
      replace hT4 := (hu67 _ (by decide)).trans hT4
      replace hT5 := (hu67 _ (by decide)).trans hT5
      replace hF := q_uc hF hu67 (by simp)
      refine lv_aload_n hx hb d_19_31_69 rfl (lv_at hl 0 rfl) ?_
      refine q_get (ci := 13) (j := 6) (v := .ref (q 123)) C0 V i_WR rfl rfl hT0 (by decide) w_1930 rfl d_19_31_70 ?_
      refine q_gov V (q_runS (As := [.ref (q 123)]) (rest := []) (d := 1) (mc := 0) (ms := 0) C0 V rfl LS_WR_63 (X_WR_clear l D g q u62 123 264 (n_r123 g q)  hI t3_0 hT3  _) rfl hl.1 rfl (Nat.le_of_ble_eq_true rfl) ⟨by decide, by decide⟩ ⟨Nat.le_of_ble_eq_true rfl, Nat.le_of_ble_eq_true rfl⟩ d_19_31_73) (fun u69 H locs hp70 V => ?_)
      obtain ⟨hI, hu74, f71, hA72, hE73⟩ := hp70
      replace hA72 : u69[123]? = (some (q 123, .inl (g 0, (264 : Int32).toNatClampNeg, .inl f71)) : Option (Nat × va_E)) := hA72
      have e75 : f71 = (F_WR_clear (264 : Int32) t3_0) := hE73
      replace hT0 := (hu74 _ (by decide)).trans hT0
      replace hT1 := (hu74 _ (by decide)).trans hT1
      replace hT2 := (hu74 _ (by decide)).trans hT2
      replace hT4 := (hu74 _ (by decide)).trans hT4
      replace hT5 := (hu74 _ (by decide)).trans hT5
      replace hA65 := (hu74 _ (by decide)).trans hA65
      replace hF := q_uc hF hu74 (by simp)
      refine lv_bipush (v := 16) hx hb d_19_31_76 (by decide) ?_
      refine lv_aload_n hx hb d_19_31_78 rfl (lv_at hl 0 rfl) ?_
      refine q_get (ci := 13) (j := 12) (v := .ref (q 128)) C0 V i_WR rfl rfl hT0 (by decide) w_1936 rfl d_19_31_79 ?_
      refine q_goi V (q_runS (As := [.ref (q 128)]) (rest := [.int 16]) (d := 1) (mc := 0) (ms := 0) C0 V rfl LS_WR_59 (X_WR_size l D g q u69 128 264 (n_r128 g q)  hI f64 hA65  _) rfl hl.1 rfl (Nat.le_of_ble_eq_true rfl) ⟨by decide, by decide⟩ ⟨Nat.le_of_ble_eq_true rfl, Nat.le_of_ble_eq_true rfl⟩ d_19_31_82) (fun a78 u76 H locs hp77 V => ?_)
      obtain ⟨rfl, b79, b80, hE81⟩ := hp77
      have e82 : a78 = (F_WR_size (264 : Int32) f64) := hE81
      replace b79 : q_F (0 ≤ a78.toInt) := b79
      replace b80 : q_F (a78.toInt ≤ 264) := b80
      refine lv_imul hx hb d_19_31_85 ?_
      obtain ⟨a83, e84⟩ := q_nm (16 * a78 : Int32)
      refine q_ti (v := a83) e84 ?_
      have b85 : q_F (a83.toInt = 16 * a78.toInt) := (by rw [← e84]; show (16 * a78 : Int32).toInt = 16 * a78.toInt; exact q_mulI (x := 16) (y := a78.toInt) (by decide) rfl (by have t1 : 0 ≤ a78.toInt := b79; have t2 : a78.toInt ≤ 264 := b80; omega) (by have t1 : 0 ≤ a78.toInt := b79; have t2 : a78.toInt ≤ 264 := b80; omega))
      refine lv_iload_n hx hb d_19_31_86 rfl (lv_at hl 2 rfl) ?_
      have ob86 : q_F (1 ≤ x3.toInt) := (by have h := hS51; rw [S_WR_root_J44.eq_1] at h; rw [if_pos c57] at h; replace h := q_s2 h; exact h.2.1)
      refine lv_idiv hx hb d_19_31_87 (s_nzI (by first | with_reducible exact q_fe ob86 | (have t1 : 1 ≤ x3.toInt := ob86; omega))) ?_
      obtain ⟨a87, e88⟩ := q_nm (a83 / x3 : Int32)
      refine q_ti (v := a87) e88 ?_
      have b89 : q_F (0 ≤ a87.toInt ∧ a87.toInt ≤ a83.toInt) := (by rw [← e88]; show 0 ≤ (a83 / x3 : Int32).toInt ∧ (a83 / x3 : Int32).toInt ≤ a83.toInt; exact (by have z := q_divI (a := a83) (b := x3) (x := a83.toInt) (y := x3.toInt) rfl rfl (by have t1 : 0 ≤ a78.toInt := b79; have t2 : a83.toInt = 16 * a78.toInt := b85; omega) (by first | with_reducible exact q_fe ob86 | (have t1 : 1 ≤ x3.toInt := ob86; omega)); have h1 : 0 ≤ a83.toInt / x3.toInt := Int.ediv_nonneg (by have t1 : 0 ≤ a78.toInt := b79; have t2 : a83.toInt = 16 * a78.toInt := b85; omega) (by first | with_reducible exact q_fe ob86 | (have t1 : 1 ≤ x3.toInt := ob86; omega)); have h2 : a83.toInt / x3.toInt ≤ a83.toInt := Int.ediv_le_self x3.toInt (by have t1 : 0 ≤ a78.toInt := b79; have t2 : a83.toInt = 16 * a78.toInt := b85; omega); exact ⟨by rw [z]; exact h1, by rw [z]; exact h2⟩))
      refine lv_istore (lv' := [(4, .int a87), (0, .ref (q 119)), (1, .int x2), (2, .int x3), (3, .int x4)]) hx hb d_19_31_88 hl (by decide) rfl (fun ls hl => ?_)
      refine q_loop (X := Int32 × (Nat → Int32) × (Nat → Int32) × (Nat → Int32)) (fun z H locs ls w99 => q_F (0 ≤ z.1.toInt + 1) ∧ q_F (z.1.toInt ≤ a87.toInt) ∧ q_F (z.1.toInt ≤ lx39.toInt + 4224) ∧ q_Wd D g (va_A ws sz) s w99 H locs ∧ lv_has ls 5 [(4, .int z.1), (0, .ref (q 119)), (2, .int x3), (3, .int x4)] ∧ q_I (msh g q) q w99 ∧ q_un ws w99 [119, 121, 122, 123, 124, 125, 128] ∧ w99[119]? = (some (q 119, .inr (13, [.int lx39, .int 2, .ref (q 120), .int t0_2, .ref (q 121), .ref (q 122), .ref (q 123), .int t0_3, .ref (q 124), .ref (q 125), .ref (q 126), .ref (q 127), .ref (q 128), .ref (q 129), .ref (q 130), .ref (q 131), .int t0_4, .int t0_5, .ref (q 132), .ref (q 133), .int t0_6])) : Option (Nat × va_E)) ∧ w99[121]? = (some (q 121, .inl (g 0, (1408 : Int32).toNatClampNeg, .inl t1_0)) : Option (Nat × va_E)) ∧ w99[122]? = (some (q 122, .inl (g 3, 11, .inl t2_0)) : Option (Nat × va_E)) ∧ w99[123]? = (some (q 123, .inl (g 0, (264 : Int32).toNatClampNeg, .inl z.2.1)) : Option (Nat × va_E)) ∧ w99[124]? = (some (q 124, .inl (g 0, (264 : Int32).toNatClampNeg, .inl z.2.2.1)) : Option (Nat × va_E)) ∧ w99[125]? = (some (q 125, .inl (g 0, (528 : Int32).toNatClampNeg, .inl z.2.2.2)) : Option (Nat × va_E)) ∧ w99[128]? = (some (q 128, .inl (g 0, (264 : Int32).toNatClampNeg, .inl f64)) : Option (Nat × va_E)) ∧ (∃ n, (z.1.toInt - ((-1))).toNat < n ∧ F_WR_root_L90 x2 x3 x4 t0_0 t0_1 t0_2 t0_3 t0_4 t0_5 t0_6 t1_0 t2_0 t3_0 t4_0 t5_0 t6_0 lx39 f64 n z.1 z.2.1 z.2.2.1 z.2.2.2 = (F_WR_root x2 x3 x4 t0_0 t0_1 t0_2 t0_3 t0_4 t0_5 t0_6 t1_0 t2_0 t3_0 t4_0 t5_0 t6_0) ∧ True ∧ S_WR_root_L90 x2 x3 x4 t0_0 t0_1 t0_2 t0_3 t0_4 t0_5 t0_6 t1_0 t2_0 t3_0 t4_0 t5_0 t6_0 lx39 f64 n z.1 z.2.1 z.2.2.1 z.2.2.2)) (fun z => (z.1.toInt - ((-1))).toNat) ?_ ((a87 : Int32), (f71 : (Nat → Int32)), (t4_0 : (Nat → Int32)), (t5_0 : (Nat → Int32))) _ _ _ u69 ⟨(show q_F (0 ≤ a87.toInt + 1) from (show 0 ≤ a87.toInt + 1 from by have t1 : 0 ≤ a87.toInt ∧ a87.toInt ≤ a83.toInt := b89; omega)), (show q_F (a87.toInt ≤ a87.toInt) from (show a87.toInt ≤ a87.toInt from by omega)), (show q_F (a87.toInt ≤ lx39.toInt + 4224) from (show a87.toInt ≤ lx39.toInt + 4224 from by have t1 : 0 ≤ lx39.toInt := i48; have t2 : a78.toInt ≤ 264 := b80; have t3 : a83.toInt = 16 * a78.toInt := b85; have t4 : 0 ≤ a87.toInt ∧ a87.toInt ≤ a83.toInt := b89; omega)), V, q_lw hl (q_lw1 0 rfl (q_lw1 1 rfl (q_lw1 3 rfl (q_lw1 4 rfl q_lw0)))), hI, hF, hT0, hT1, hT2, hA72, hT4, hT5, hA65, ⟨((a87.toInt - ((-1))).toNat + 1), Nat.lt_succ_self _, (show F_WR_root_L90 x2 x3 x4 t0_0 t0_1 t0_2 t0_3 t0_4 t0_5 t0_6 t1_0 t2_0 t3_0 t4_0 t5_0 t6_0 lx39 f64 ((a87.toInt - ((-1))).toNat + 1) a87 f71 t4_0 t5_0 = (F_WR_root x2 x3 x4 t0_0 t0_1 t0_2 t0_3 t0_4 t0_5 t0_6 t1_0 t2_0 t3_0 t4_0 t5_0 t6_0) from Eq.trans (by rw [← e88, ← e84, e82, e75, e68, F_WR_root_J44.eq_1, if_pos c57]) hR50), (show True ∧ S_WR_root_L90 x2 x3 x4 t0_0 t0_1 t0_2 t0_3 t0_4 t0_5 t0_6 t1_0 t2_0 t3_0 t4_0 t5_0 t6_0 lx39 f64 ((a87.toInt - ((-1))).toNat + 1) a87 f71 t4_0 t5_0 from (by rw [← e88, ← e84, e82, e75, e68]; have h := hS51; rw [S_WR_root_J44.eq_1] at h; rw [if_pos c57] at h; replace h := q_s2 h; replace h := q_s2 h; with_reducible exact h))⟩⟩
      rintro ⟨lx91, lx92, lx93, lx94⟩ H locs ls w99 ⟨i95, i96, i97, V, hl, hI, hF, hO100, hO101, hO102, hO103, hO104, hO105, hO106, ⟨fu109, hf110, hR107, hS108⟩⟩ ih98
      obtain ⟨fm111, rfl⟩ : ∃ m, fu109 = m + 1 := ⟨fu109 - 1, by omega⟩
      replace i95 : q_F (0 ≤ lx91.toInt + 1) := i95
      replace i96 : q_F (lx91.toInt ≤ a87.toInt) := i96
      replace i97 : q_F (lx91.toInt ≤ lx39.toInt + 4224) := i97
      replace hl : lv_has ls 5 [(4, .int lx91), (0, .ref (q 119)), (2, .int x3), (3, .int x4)] := hl
      replace hO100 : w99[119]? = (some (q 119, .inr (13, [.int lx39, .int 2, .ref (q 120), .int t0_2, .ref (q 121), .ref (q 122), .ref (q 123), .int t0_3, .ref (q 124), .ref (q 125), .ref (q 126), .ref (q 127), .ref (q 128), .ref (q 129), .ref (q 130), .ref (q 131), .int t0_4, .int t0_5, .ref (q 132), .ref (q 133), .int t0_6])) : Option (Nat × va_E)) := hO100
      replace hO101 : w99[121]? = (some (q 121, .inl (g 0, (1408 : Int32).toNatClampNeg, .inl t1_0)) : Option (Nat × va_E)) := hO101
      replace hO102 : w99[122]? = (some (q 122, .inl (g 3, 11, .inl t2_0)) : Option (Nat × va_E)) := hO102
      replace hO103 : w99[123]? = (some (q 123, .inl (g 0, (264 : Int32).toNatClampNeg, .inl lx92)) : Option (Nat × va_E)) := hO103
      replace hO104 : w99[124]? = (some (q 124, .inl (g 0, (264 : Int32).toNatClampNeg, .inl lx93)) : Option (Nat × va_E)) := hO104
      replace hO105 : w99[125]? = (some (q 125, .inl (g 0, (528 : Int32).toNatClampNeg, .inl lx94)) : Option (Nat × va_E)) := hO105
      replace hO106 : w99[128]? = (some (q 128, .inl (g 0, (264 : Int32).toNatClampNeg, .inl f64)) : Option (Nat × va_E)) := hO106
      refine lv_iload hx hb d_19_31_90 (lv_at hl 0 rfl) ?_
      refine lv_if_lt (tgt := 167) hx hb d_19_31_92 (by decide) (fun c112 => ?_) (fun c112 => ?_)
      ·
        refine lv_aload_n hx hb d_19_31_167 rfl (lv_at hl 1 rfl) ?_
        refine lv_iconst (v := 0) hx hb d_19_31_168 (by decide) ?_
        refine q_put (ci := 13) (j := 7) (v := .int 0) (ty := .boolean) C0 V i_WR o_WR n_WR rfl rfl hO100 (by decide) w_1931 rfl rfl rfl rfl (Nat.le_of_ble_eq_true rfl) d_19_31_169 (fun H locs w114 hu115 hO100 V => ?_)
        replace hO100 : w114[119]? = (some (q 119, .inr (13, [.int lx39, .int 2, .ref (q 120), .int t0_2, .ref (q 121), .ref (q 122), .ref (q 123), .int 0, .ref (q 124), .ref (q 125), .ref (q 126), .ref (q 127), .ref (q 128), .ref (q 129), .ref (q 130), .ref (q 131), .int t0_4, .int t0_5, .ref (q 132), .ref (q 133), .int t0_6])) : Option (Nat × va_E)) := hO100
        replace hI := n_p119 hI hu115 hO100 (by first | with_reducible exact q_fe btt0_2 | exact ⟨(by have t1 : 0 ≤ t0_2.toInt ∧ t0_2.toInt ≤ 4100 := btt0_2; omega), (by have t1 : 0 ≤ t0_2.toInt ∧ t0_2.toInt ≤ 4100 := btt0_2; omega)⟩) ⟨(by have z9 : (0 : Int32).toInt = 0 := rfl; omega), (by have z9 : (0 : Int32).toInt = 0 := rfl; omega)⟩ (by first | with_reducible exact q_fe btt0_4 | exact ⟨(by have t1 : 0 ≤ t0_4.toInt ∧ t0_4.toInt ≤ 1 := btt0_4; omega), (by have t1 : 0 ≤ t0_4.toInt ∧ t0_4.toInt ≤ 1 := btt0_4; omega)⟩) (by first | with_reducible exact q_fe btt0_5 | exact ⟨(by have t1 : 0 ≤ t0_5.toInt ∧ t0_5.toInt ≤ 1 := btt0_5; omega), (by have t1 : 0 ≤ t0_5.toInt ∧ t0_5.toInt ≤ 1 := btt0_5; omega)⟩) (by first | with_reducible exact q_fe btt0_6 | exact ⟨(by have t1 : 0 ≤ t0_6.toInt ∧ t0_6.toInt ≤ 2100 := btt0_6; omega), (by have t1 : 0 ≤ t0_6.toInt ∧ t0_6.toInt ≤ 2100 := btt0_6; omega)⟩)
        replace hO101 := (hu115 _ (by decide)).trans hO101
        replace hO102 := (hu115 _ (by decide)).trans hO102
        replace hO103 := (hu115 _ (by decide)).trans hO103
        replace hO104 := (hu115 _ (by decide)).trans hO104
        replace hO105 := (hu115 _ (by decide)).trans hO105
        replace hO106 := (hu115 _ (by decide)).trans hO106
        replace hF := q_us hF hu115 (by simp)
        refine lv_aload_n hx hb d_19_31_172 rfl (lv_at hl 1 rfl) ?_
        refine lv_iload_n hx hb d_19_31_173 rfl (lv_at hl 3 rfl) ?_
        have ob116 : True ∧ S_WR_store x4 lx39 (2 : Int32) t0_2 (0 : Int32) t0_4 t0_5 t0_6 t1_0 t2_0 lx92 := (by have h := hS108; rw [S_WR_root_L90.eq_2] at h; rw [if_pos c112] at h; with_reducible exact h.2.1)
        refine q_gov V (q_runV (As := [.int x4]) (rest := []) (d := 2) (mc := 0) (ms := 0) (ci := 13) C0 V rfl LV_WR_103 (X_WR_store l D g q w114  x4 hI lx39 2 t0_2 0 t0_4 t0_5 t0_6 hO100 t1_0 hO101 t2_0 hO102 lx92 hO103 ob116 _) rfl rfl hO100 rfl hl.1 rfl (Nat.le_of_ble_eq_true rfl) ⟨by decide, by decide⟩ ⟨Nat.le_of_ble_eq_true rfl, Nat.le_of_ble_eq_true rfl⟩ d_19_31_174) (fun u117 H locs hp118 V => ?_)
        obtain ⟨hI, hZ9⟩ := hp118
        obtain ⟨hu144, hZ9⟩ := hZ9
        obtain ⟨y120, hZ9⟩ := hZ9
        obtain ⟨y121, hZ9⟩ := hZ9
        obtain ⟨y122, hZ9⟩ := hZ9
        obtain ⟨y123, hZ9⟩ := hZ9
        obtain ⟨y124, hZ9⟩ := hZ9
        obtain ⟨y125, hZ9⟩ := hZ9
        obtain ⟨y126, hZ9⟩ := hZ9
        obtain ⟨f127, hZ9⟩ := hZ9
        obtain ⟨f129, hZ9⟩ := hZ9
        obtain ⟨hO119, hZ9⟩ := hZ9
        obtain ⟨hA128, hZ9⟩ := hZ9
        obtain ⟨hA130, hZ9⟩ := hZ9
        replace hZ9 := hZ9.2.2
        obtain ⟨b133, hZ9⟩ := hZ9
        obtain ⟨b134, hZ9⟩ := hZ9
        obtain ⟨b135, hZ9⟩ := hZ9
        obtain ⟨b136, hZ9⟩ := hZ9
        obtain ⟨b137, hZ9⟩ := hZ9
        obtain ⟨b138, hZ9⟩ := hZ9
        obtain ⟨b139, hZ9⟩ := hZ9
        obtain ⟨b140, hZ9⟩ := hZ9
        obtain ⟨b141, hZ9⟩ := hZ9
        obtain ⟨b142, hE143⟩ := hZ9
        replace hO119 : u117[119]? = (some (q 119, .inr (13, [.int y120, .int y121, .ref (q 120), .int y122, .ref (q 121), .ref (q 122), .ref (q 123), .int y123, .ref (q 124), .ref (q 125), .ref (q 126), .ref (q 127), .ref (q 128), .ref (q 129), .ref (q 130), .ref (q 131), .int y124, .int y125, .ref (q 132), .ref (q 133), .int y126])) : Option (Nat × va_E)) := hO119
        replace hA128 : u117[121]? = (some (q 121, .inl (g 0, (1408 : Int32).toNatClampNeg, .inl f127)) : Option (Nat × va_E)) := hA128
        replace hA130 : u117[122]? = (some (q 122, .inl (g 3, 11, .inl f129)) : Option (Nat × va_E)) := hA130
        obtain ⟨p145, e146⟩ : ∃ z, z = (F_WR_store x4 lx39 (2 : Int32) t0_2 (0 : Int32) t0_4 t0_5 t0_6 t1_0 t2_0 lx92) := ⟨_, rfl⟩
        have e147 : y120 = p145.1 := congrArg (fun z => z.1) (hE143.trans e146.symm)
        have e148 : y121 = p145.2.1 := congrArg (fun z => z.2.1) (hE143.trans e146.symm)
        have e149 : y122 = p145.2.2.1 := congrArg (fun z => z.2.2.1) (hE143.trans e146.symm)
        have e150 : y123 = p145.2.2.2.1 := congrArg (fun z => z.2.2.2.1) (hE143.trans e146.symm)
        have e151 : y124 = p145.2.2.2.2.1 := congrArg (fun z => z.2.2.2.2.1) (hE143.trans e146.symm)
        have e152 : y125 = p145.2.2.2.2.2.1 := congrArg (fun z => z.2.2.2.2.2.1) (hE143.trans e146.symm)
        have e153 : y126 = p145.2.2.2.2.2.2.1 := congrArg (fun z => z.2.2.2.2.2.2.1) (hE143.trans e146.symm)
        have e154 : f127 = p145.2.2.2.2.2.2.2.1 := congrArg (fun z => z.2.2.2.2.2.2.2.1) (hE143.trans e146.symm)
        have e155 : f129 = p145.2.2.2.2.2.2.2.2 := congrArg (fun z => z.2.2.2.2.2.2.2.2) (hE143.trans e146.symm)
        replace b133 : q_F (t0_2.toInt ≤ y122.toInt) := b133
        replace b134 : q_F (y122.toInt ≤ t0_2.toInt) := b134
        replace b135 : q_F (0 ≤ y123.toInt) := b135
        replace b136 : q_F (y123.toInt ≤ 0) := b136
        replace b137 : q_F (t0_4.toInt ≤ y124.toInt) := b137
        replace b138 : q_F (y124.toInt ≤ t0_4.toInt) := b138
        replace b139 : q_F (t0_5.toInt ≤ y125.toInt) := b139
        replace b140 : q_F (y125.toInt ≤ t0_5.toInt) := b140
        replace b141 : q_F (t0_6.toInt ≤ y126.toInt) := b141
        replace b142 : q_F (y126.toInt ≤ t0_6.toInt) := b142
        replace hO103 := (hu144 _ (by decide)).trans hO103
        replace hO104 := (hu144 _ (by decide)).trans hO104
        replace hO105 := (hu144 _ (by decide)).trans hO105
        replace hO106 := (hu144 _ (by decide)).trans hO106
        replace hF := q_uc hF hu144 (by simp)
        have hR156 := (show F_WR_root_c174 (F_WR_root_L90 x2 x3 x4 t0_0 t0_1 t0_2 t0_3 t0_4 t0_5 t0_6 t1_0 t2_0 t3_0 t4_0 t5_0 t6_0 lx39 f64 fm111) x2 x3 x4 t0_0 t0_1 t0_2 t0_3 t0_4 t0_5 t0_6 t1_0 t2_0 t3_0 t4_0 t5_0 t6_0 lx39 f64 lx91 lx92 lx93 lx94 p145 = (F_WR_root x2 x3 x4 t0_0 t0_1 t0_2 t0_3 t0_4 t0_5 t0_6 t1_0 t2_0 t3_0 t4_0 t5_0 t6_0) from Eq.trans (by rw [e146, F_WR_root_L90.eq_2, if_pos c112]) hR107)
        have hS157 := (show True ∧ S_WR_root_c174 (S_WR_root_L90 x2 x3 x4 t0_0 t0_1 t0_2 t0_3 t0_4 t0_5 t0_6 t1_0 t2_0 t3_0 t4_0 t5_0 t6_0 lx39 f64 fm111) x2 x3 x4 t0_0 t0_1 t0_2 t0_3 t0_4 t0_5 t0_6 t1_0 t2_0 t3_0 t4_0 t5_0 t6_0 lx39 f64 lx91 lx92 lx93 lx94 p145 from (by rw [e146]; have h := hS108; rw [S_WR_root_L90.eq_2] at h; rw [if_pos c112] at h; replace h := q_s2 h; with_reducible exact h))
        exact q_retv C0 V (⟨hI, hF, y120, y121, y122, y123, y124, y125, y126, f127, f129, lx92, lx93, lx94, f64, hO119, hA128, hA130, hO103, hO104, hO105, hO106, (show 0 ≤ y123.toInt from (by first | with_reducible exact q_fe b135 | (have t1 : 0 ≤ y123.toInt := b135; omega))), (show t0_2.toInt ≤ y122.toInt from (by first | with_reducible exact q_fe b133 | (have t1 : t0_2.toInt ≤ y122.toInt := b133; omega))), (show y122.toInt ≤ t0_2.toInt from (by first | with_reducible exact q_fe b134 | (have t1 : y122.toInt ≤ t0_2.toInt := b134; omega))), (show y123.toInt ≤ t0_3.toInt from (by have t1 : 0 ≤ t0_3.toInt ∧ t0_3.toInt ≤ 1 := btt0_3; have t2 : y123.toInt ≤ 0 := b136; omega)), (show t0_4.toInt ≤ y124.toInt from (by first | with_reducible exact q_fe b137 | (have t1 : t0_4.toInt ≤ y124.toInt := b137; omega))), (show y124.toInt ≤ t0_4.toInt from (by first | with_reducible exact q_fe b138 | (have t1 : y124.toInt ≤ t0_4.toInt := b138; omega))), (show t0_5.toInt ≤ y125.toInt from (by first | with_reducible exact q_fe b139 | (have t1 : t0_5.toInt ≤ y125.toInt := b139; omega))), (show y125.toInt ≤ t0_5.toInt from (by first | with_reducible exact q_fe b140 | (have t1 : y125.toInt ≤ t0_5.toInt := b140; omega))), (show t0_6.toInt ≤ y126.toInt from (by first | with_reducible exact q_fe b141 | (have t1 : t0_6.toInt ≤ y126.toInt := b141; omega))), (show y126.toInt ≤ t0_6.toInt from (by first | with_reducible exact q_fe b142 | (have t1 : y126.toInt ≤ t0_6.toInt := b142; omega))), (show (y120, y121, y122, y123, y124, y125, y126, f127, f129, lx92, lx93, lx94, f64) = (F_WR_root x2 x3 x4 t0_0 t0_1 t0_2 t0_3 t0_4 t0_5 t0_6 t1_0 t2_0 t3_0 t4_0 t5_0 t6_0) from Eq.trans (by rw [e155, e154, e153, e152, e151, e150, e149, e148, e147, F_WR_root_c174.eq_1]) hR156)⟩) d_19_31_177
      ·
        have b161 : q_F (0 ≤ lx91.toInt) := (q_nltI c112)
        refine lv_aload_n hx hb d_19_31_95 rfl (lv_at hl 1 rfl) ?_
        refine q_get (ci := 13) (j := 6) (v := .ref (q 123)) C0 V i_WR rfl rfl hO100 (by decide) w_1930 rfl d_19_31_96 ?_
        refine lv_iload hx hb d_19_31_99 (lv_at hl 0 rfl) ?_
        refine lv_bipush (v := 16) hx hb d_19_31_101 (by decide) ?_
        refine lv_idiv hx hb d_19_31_103 (by decide) ?_
        obtain ⟨a162, e163⟩ := q_nm (lx91 / 16 : Int32)
        refine q_ti (v := a162) e163 ?_
        have b164 : q_F (16 * a162.toInt ≤ lx91.toInt ∧ lx91.toInt ≤ 16 * a162.toInt + 15) := (by rw [← e163]; show 16 * (lx91 / 16 : Int32).toInt ≤ lx91.toInt ∧ lx91.toInt ≤ 16 * (lx91 / 16 : Int32).toInt + 15; exact (by have z := q_divI (y := 16) (rfl : lx91.toInt = _) (by decide : (16 : Int32).toInt = 16) (by first | with_reducible exact q_fe b161 | (have t1 : 0 ≤ lx91.toInt := b161; omega)) (by decide); omega))
        refine lv_aload_n hx hb d_19_31_104 rfl (lv_at hl 1 rfl) ?_
        refine q_get (ci := 13) (j := 6) (v := .ref (q 123)) C0 V i_WR rfl rfl hO100 (by decide) w_1930 rfl d_19_31_105 ?_
        refine lv_iload hx hb d_19_31_108 (lv_at hl 0 rfl) ?_
        refine lv_bipush (v := 16) hx hb d_19_31_110 (by decide) ?_
        refine lv_idiv hx hb d_19_31_112 (by decide) ?_
        obtain ⟨a165, e166⟩ := q_nm (lx91 / 16 : Int32)
        refine q_ti (v := a165) e166 ?_
        have b167 : q_F (16 * a165.toInt ≤ lx91.toInt ∧ lx91.toInt ≤ 16 * a165.toInt + 15) := (by rw [← e166]; show 16 * (lx91 / 16 : Int32).toInt ≤ lx91.toInt ∧ lx91.toInt ≤ 16 * (lx91 / 16 : Int32).toInt + 15; exact (by have z := q_divI (y := 16) (rfl : lx91.toInt = _) (by decide : (16 : Int32).toInt = 16) (by first | with_reducible exact q_fe b161 | (have t1 : 0 ≤ lx91.toInt := b161; omega)) (by decide); omega))
        have ob168 : q_F (a165.toInt ≤ 263) := (by rw [← e166]; have h := hS108; rw [S_WR_root_L90.eq_2] at h; rw [if_neg c112] at h; exact h.2.1)
        refine q_iald C0 V hO103 (q_ix (x := a165.toInt) rfl (by have t1 : 0 ≤ lx91.toInt := b161; have t2 : 16 * a165.toInt ≤ lx91.toInt ∧ lx91.toInt ≤ 16 * a165.toInt + 15 := b167; omega) (by have t1 : 0 ≤ lx91.toInt := b161; have t2 : 16 * a165.toInt ≤ lx91.toInt ∧ lx91.toInt ≤ 16 * a165.toInt + 15 := b167; have t3 : a165.toInt ≤ 263 := ob168; have e9 : (((264 : Int32).toNatClampNeg : Nat) : Int) = 264 := (by decide); omega)) d_19_31_113 ?_
        obtain ⟨a169, e170⟩ := q_nm (lx92 a165.toNatClampNeg : Int32)
        refine q_ti (v := a169) e170 ?_
        refine lv_iconst (v := 1) hx hb d_19_31_114 (by decide) ?_
        refine lv_iload hx hb d_19_31_115 (lv_at hl 0 rfl) ?_
        refine lv_bipush (v := 16) hx hb d_19_31_117 (by decide) ?_
        refine lv_irem hx hb d_19_31_119 (by decide) ?_
        obtain ⟨a171, e172⟩ := q_nm (lx91 - lx91 / 16 * 16 : Int32)
        refine q_ti (v := a171) e172 ?_
        refine lv_ishl hx hb d_19_31_120 ?_
        obtain ⟨a174, e175⟩ := q_nm ((1 : Int32) <<< (a171 &&& 31) : Int32)
        refine q_ti (v := a174) e175 ?_
        refine lv_ior hx hb d_19_31_121 ?_
        obtain ⟨a176, e177⟩ := q_nm (a169 ||| a174 : Int32)
        refine q_ti (v := a176) e177 ?_
        refine q_iast C0 V hO103 (q_ix (x := a162.toInt) rfl (by have t1 : 0 ≤ lx91.toInt := b161; have t2 : 16 * a162.toInt ≤ lx91.toInt ∧ lx91.toInt ≤ 16 * a162.toInt + 15 := b164; omega) (by have t1 : 0 ≤ lx91.toInt := b161; have t2 : 16 * a162.toInt ≤ lx91.toInt ∧ lx91.toInt ≤ 16 * a162.toInt + 15 := b164; have t3 : 16 * a165.toInt ≤ lx91.toInt ∧ lx91.toInt ≤ 16 * a165.toInt + 15 := b167; have t4 : a165.toInt ≤ 263 := ob168; have e9 : (((264 : Int32).toNatClampNeg : Nat) : Int) = 264 := (by decide); omega)) d_19_31_122 (fun H locs w178 hu179 hO103 V => ?_)
        replace hI := n_ai' hI (n_r123 g q).1 hu179 hO103 (q_updB (fun _ => s_bnd) s_bnd)
        replace hO100 := (hu179 _ (by decide)).trans hO100
        replace hO101 := (hu179 _ (by decide)).trans hO101
        replace hO102 := (hu179 _ (by decide)).trans hO102
        replace hO104 := (hu179 _ (by decide)).trans hO104
        replace hO105 := (hu179 _ (by decide)).trans hO105
        replace hO106 := (hu179 _ (by decide)).trans hO106
        replace hF := q_us hF hu179 (by simp)
        obtain ⟨f180, e181⟩ := q_nm (upd lx92 a162.toNatClampNeg a176 : (Nat → Int32))
        rw [e181] at hO103
        refine lv_aload_n hx hb d_19_31_123 rfl (lv_at hl 1 rfl) ?_
        refine lv_iload_n hx hb d_19_31_124 rfl (lv_at hl 2 rfl) ?_
        have ob182 : True ∧ S_WR_fits x3 lx39 (2 : Int32) t0_2 t0_3 t0_4 t0_5 t0_6 f180 lx93 lx94 f64 := (by rw [← e181, ← e177, ← e175, ← e172, ← e170, ← e166, ← e163]; have h := hS108; rw [S_WR_root_L90.eq_2] at h; rw [if_neg c112] at h; replace h := q_s2 h; with_reducible exact h.2.1)
        refine q_goi V (q_runV (As := [.int x3]) (rest := []) (d := 3) (mc := 0) (ms := 0) (ci := 13) C0 V rfl LV_WR_134 (X_WR_fits l D g q w178  x3 hI lx39 2 t0_2 t0_3 t0_4 t0_5 t0_6 hO100 f180 hO103 lx93 hO104 lx94 hO105 f64 hO106 ob182 _) rfl rfl hO100 rfl hl.1 rfl (Nat.le_of_ble_eq_true rfl) ⟨by decide, by decide⟩ ⟨Nat.le_of_ble_eq_true rfl, Nat.le_of_ble_eq_true rfl⟩ d_19_31_125) (fun a185 u183 H locs hp184 V => ?_)
        obtain ⟨hI, hZ9⟩ := hp184
        obtain ⟨hu193, hZ9⟩ := hZ9
        obtain ⟨f186, hZ9⟩ := hZ9
        obtain ⟨f188, hZ9⟩ := hZ9
        obtain ⟨hA187, hZ9⟩ := hZ9
        obtain ⟨hA189, hZ9⟩ := hZ9
        replace hZ9 := hZ9.2
        obtain ⟨-, hE192⟩ := hZ9
        replace hA187 : u183[124]? = (some (q 124, .inl (g 0, (264 : Int32).toNatClampNeg, .inl f186)) : Option (Nat × va_E)) := hA187
        replace hA189 : u183[125]? = (some (q 125, .inl (g 0, (528 : Int32).toNatClampNeg, .inl f188)) : Option (Nat × va_E)) := hA189
        obtain ⟨p194, e195⟩ : ∃ z, z = (F_WR_fits x3 lx39 (2 : Int32) t0_2 t0_3 t0_4 t0_5 t0_6 f180 lx93 lx94 f64) := ⟨_, rfl⟩
        have e196 : a185 = p194.1 := congrArg (fun z => z.1) (hE192.trans e195.symm)
        have e197 : f186 = p194.2.1 := congrArg (fun z => z.2.1) (hE192.trans e195.symm)
        have e198 : f188 = p194.2.2 := congrArg (fun z => z.2.2) (hE192.trans e195.symm)
        replace hO100 := (hu193 _ (by decide)).trans hO100
        replace hO101 := (hu193 _ (by decide)).trans hO101
        replace hO102 := (hu193 _ (by decide)).trans hO102
        replace hO103 := (hu193 _ (by decide)).trans hO103
        replace hO106 := (hu193 _ (by decide)).trans hO106
        replace hF := q_uc hF hu193 (by simp)
        have hR199 := (show F_WR_root_c125 (F_WR_root_L90 x2 x3 x4 t0_0 t0_1 t0_2 t0_3 t0_4 t0_5 t0_6 t1_0 t2_0 t3_0 t4_0 t5_0 t6_0 lx39 f64 fm111) x2 x3 x4 t0_0 t0_1 t0_2 t0_3 t0_4 t0_5 t0_6 t1_0 t2_0 t3_0 t4_0 t5_0 t6_0 lx39 f64 lx91 lx92 lx93 lx94 f180 p194 = (F_WR_root x2 x3 x4 t0_0 t0_1 t0_2 t0_3 t0_4 t0_5 t0_6 t1_0 t2_0 t3_0 t4_0 t5_0 t6_0) from Eq.trans (by rw [e195, ← e181, ← e177, ← e175, ← e172, ← e170, ← e166, ← e163, F_WR_root_L90.eq_2, if_neg c112]) hR107)
        have hS200 := (show True ∧ S_WR_root_c125 (S_WR_root_L90 x2 x3 x4 t0_0 t0_1 t0_2 t0_3 t0_4 t0_5 t0_6 t1_0 t2_0 t3_0 t4_0 t5_0 t6_0 lx39 f64 fm111) x2 x3 x4 t0_0 t0_1 t0_2 t0_3 t0_4 t0_5 t0_6 t1_0 t2_0 t3_0 t4_0 t5_0 t6_0 lx39 f64 lx91 lx92 lx93 lx94 f180 p194 from (by rw [e195, ← e181, ← e177, ← e175, ← e172, ← e170, ← e166, ← e163]; have h := hS108; rw [S_WR_root_L90.eq_2] at h; rw [if_neg c112] at h; replace h := q_s2 h; replace h := q_s2 h; with_reducible exact h))
        refine lv_if_ne (tgt := 161) hx hb d_19_31_128 (by decide) (fun c204 => ?_) (fun c204 => ?_)
        ·
          obtain ⟨a206, e207⟩ := q_nm (lx91 + (-1) : Int32)
          have b208 : q_F (a206.toInt = lx91.toInt + (-1)) := (by rw [← e207]; exact q_addI (y := (-1)) rfl (by decide) (by have t1 : 0 ≤ lx91.toInt + 1 := i95; have t2 : lx91.toInt ≤ a87.toInt := i96; have _ := q_lo32 (x := a87); have _ := q_hi32 (x := a87); omega) (by have t1 : 0 ≤ lx91.toInt + 1 := i95; have t2 : lx91.toInt ≤ a87.toInt := i96; have _ := q_lo32 (x := a87); have _ := q_hi32 (x := a87); omega))
          refine lv_iinc (v := a206) (lv' := [(4, .int a206), (0, .ref (q 119)), (2, .int x3), (3, .int x4)]) hx hb d_19_31_161 hl (k := 0) rfl (e207) (by decide) rfl (fun ls hl => ?_)
          refine lv_goto (tgt := 90) hx hb d_19_31_164 (by decide) ?_
          exact ih98 ((a206 : Int32), (f180 : (Nat → Int32)), (f186 : (Nat → Int32)), (f188 : (Nat → Int32))) _ _ _ _ (show (a206.toInt - ((-1))).toNat < (lx91.toInt - ((-1))).toNat from by have t1 : a206.toInt = lx91.toInt + (-1) := b208; have t2 : 0 ≤ lx91.toInt + 1 := i95; have t3 : 0 ≤ lx91.toInt := b161; omega) ⟨(show q_F (0 ≤ a206.toInt + 1) from (show 0 ≤ a206.toInt + 1 from by have t1 : 0 ≤ lx91.toInt := b161; have t2 : a206.toInt = lx91.toInt + (-1) := b208; omega)), (show q_F (a206.toInt ≤ a87.toInt) from (show a206.toInt ≤ a87.toInt from by have t1 : lx91.toInt ≤ a87.toInt := i96; have t2 : a206.toInt = lx91.toInt + (-1) := b208; omega)), (show q_F (a206.toInt ≤ lx39.toInt + 4224) from (show a206.toInt ≤ lx39.toInt + 4224 from by have t1 : lx91.toInt ≤ lx39.toInt + 4224 := i97; have t2 : a206.toInt = lx91.toInt + (-1) := b208; omega)), V, q_lw hl (q_lw1 0 rfl (q_lw1 1 rfl (q_lw1 2 rfl (q_lw1 3 rfl q_lw0)))), hI, hF, hO100, hO101, hO102, hO103, hA187, hA189, hO106, ⟨fm111, Nat.lt_of_lt_of_le (show (a206.toInt - ((-1))).toNat < (lx91.toInt - ((-1))).toNat from by have t1 : a206.toInt = lx91.toInt + (-1) := b208; have t2 : 0 ≤ lx91.toInt + 1 := i95; have t3 : 0 ≤ lx91.toInt := b161; omega) (Nat.le_of_lt_succ hf110), (show F_WR_root_L90 x2 x3 x4 t0_0 t0_1 t0_2 t0_3 t0_4 t0_5 t0_6 t1_0 t2_0 t3_0 t4_0 t5_0 t6_0 lx39 f64 fm111 a206 f180 f186 f188 = (F_WR_root x2 x3 x4 t0_0 t0_1 t0_2 t0_3 t0_4 t0_5 t0_6 t1_0 t2_0 t3_0 t4_0 t5_0 t6_0) from Eq.trans (by have c204x := c204; rw [e196] at c204x; rw [← e207, e198, e197, F_WR_root_c125.eq_1, if_neg c204x]) hR199), (show True ∧ S_WR_root_L90 x2 x3 x4 t0_0 t0_1 t0_2 t0_3 t0_4 t0_5 t0_6 t1_0 t2_0 t3_0 t4_0 t5_0 t6_0 lx39 f64 fm111 a206 f180 f186 f188 from (by rw [← e207, e198, e197]; have h := hS200; rw [S_WR_root_c125.eq_1] at h; have c204x := c204; rw [e196] at c204x; rw [if_neg c204x] at h; with_reducible exact h))⟩⟩
        ·
          refine lv_aload_n hx hb d_19_31_131 rfl (lv_at hl 1 rfl) ?_
          refine q_get (ci := 13) (j := 6) (v := .ref (q 123)) C0 V i_WR rfl rfl hO100 (by decide) w_1930 rfl d_19_31_132 ?_
          refine lv_iload hx hb d_19_31_135 (lv_at hl 0 rfl) ?_
          refine lv_bipush (v := 16) hx hb d_19_31_137 (by decide) ?_
          refine lv_idiv hx hb d_19_31_139 (by decide) ?_
          obtain ⟨a210, e211⟩ := q_nm (lx91 / 16 : Int32)
          refine q_ti (v := a210) e211 ?_
          have b212 : q_F (16 * a210.toInt ≤ lx91.toInt ∧ lx91.toInt ≤ 16 * a210.toInt + 15) := (by rw [← e211]; show 16 * (lx91 / 16 : Int32).toInt ≤ lx91.toInt ∧ lx91.toInt ≤ 16 * (lx91 / 16 : Int32).toInt + 15; exact (by have z := q_divI (y := 16) (rfl : lx91.toInt = _) (by decide : (16 : Int32).toInt = 16) (by first | with_reducible exact q_fe b161 | (have t1 : 0 ≤ lx91.toInt := b161; omega)) (by decide); omega))
          refine lv_aload_n hx hb d_19_31_140 rfl (lv_at hl 1 rfl) ?_
          refine q_get (ci := 13) (j := 6) (v := .ref (q 123)) C0 V i_WR rfl rfl hO100 (by decide) w_1930 rfl d_19_31_141 ?_
          refine lv_iload hx hb d_19_31_144 (lv_at hl 0 rfl) ?_
          refine lv_bipush (v := 16) hx hb d_19_31_146 (by decide) ?_
          refine lv_idiv hx hb d_19_31_148 (by decide) ?_
          obtain ⟨a213, e214⟩ := q_nm (lx91 / 16 : Int32)
          refine q_ti (v := a213) e214 ?_
          have b215 : q_F (16 * a213.toInt ≤ lx91.toInt ∧ lx91.toInt ≤ 16 * a213.toInt + 15) := (by rw [← e214]; show 16 * (lx91 / 16 : Int32).toInt ≤ lx91.toInt ∧ lx91.toInt ≤ 16 * (lx91 / 16 : Int32).toInt + 15; exact (by have z := q_divI (y := 16) (rfl : lx91.toInt = _) (by decide : (16 : Int32).toInt = 16) (by first | with_reducible exact q_fe b161 | (have t1 : 0 ≤ lx91.toInt := b161; omega)) (by decide); omega))
          refine q_iald C0 V hO103 (q_ix (x := a213.toInt) rfl (by have t1 : 0 ≤ lx91.toInt := b161; have t2 : 16 * a213.toInt ≤ lx91.toInt ∧ lx91.toInt ≤ 16 * a213.toInt + 15 := b215; omega) (by have t1 : 0 ≤ lx91.toInt := b161; have t2 : 16 * a213.toInt ≤ lx91.toInt ∧ lx91.toInt ≤ 16 * a213.toInt + 15 := b215; have t3 : 16 * a165.toInt ≤ lx91.toInt ∧ lx91.toInt ≤ 16 * a165.toInt + 15 := b167; have t4 : a165.toInt ≤ 263 := ob168; have e9 : (((264 : Int32).toNatClampNeg : Nat) : Int) = 264 := (by decide); omega)) d_19_31_149 ?_
          obtain ⟨a216, e217⟩ := q_nm (f180 a213.toNatClampNeg : Int32)
          refine q_ti (v := a216) e217 ?_
          refine lv_iconst (v := 1) hx hb d_19_31_150 (by decide) ?_
          refine lv_iload hx hb d_19_31_151 (lv_at hl 0 rfl) ?_
          refine lv_bipush (v := 16) hx hb d_19_31_153 (by decide) ?_
          refine lv_irem hx hb d_19_31_155 (by decide) ?_
          obtain ⟨a218, e219⟩ := q_nm (lx91 - lx91 / 16 * 16 : Int32)
          refine q_ti (v := a218) e219 ?_
          refine lv_ishl hx hb d_19_31_156 ?_
          obtain ⟨a221, e222⟩ := q_nm ((1 : Int32) <<< (a218 &&& 31) : Int32)
          refine q_ti (v := a221) e222 ?_
          refine lv_iconst (v := (-1)) hx hb d_19_31_157 (by decide) ?_
          refine lv_ixor hx hb d_19_31_158 ?_
          obtain ⟨a223, e224⟩ := q_nm (a221 ^^^ (-1) : Int32)
          refine q_ti (v := a223) e224 ?_
          refine lv_iand hx hb d_19_31_159 ?_
          obtain ⟨a225, e226⟩ := q_nm (a216 &&& a223 : Int32)
          refine q_ti (v := a225) e226 ?_
          refine q_iast C0 V hO103 (q_ix (x := a210.toInt) rfl (by have t1 : 0 ≤ lx91.toInt := b161; have t2 : 16 * a210.toInt ≤ lx91.toInt ∧ lx91.toInt ≤ 16 * a210.toInt + 15 := b212; omega) (by have t1 : 0 ≤ lx91.toInt := b161; have t2 : 16 * a210.toInt ≤ lx91.toInt ∧ lx91.toInt ≤ 16 * a210.toInt + 15 := b212; have t3 : 16 * a165.toInt ≤ lx91.toInt ∧ lx91.toInt ≤ 16 * a165.toInt + 15 := b167; have t4 : a165.toInt ≤ 263 := ob168; have e9 : (((264 : Int32).toNatClampNeg : Nat) : Int) = 264 := (by decide); omega)) d_19_31_160 (fun H locs w227 hu228 hO103 V => ?_)
          replace hI := n_ai' hI (n_r123 g q).1 hu228 hO103 (q_updB (fun _ => s_bnd) s_bnd)
          replace hO100 := (hu228 _ (by decide)).trans hO100
          replace hO101 := (hu228 _ (by decide)).trans hO101
          replace hO102 := (hu228 _ (by decide)).trans hO102
          replace hA187 := (hu228 _ (by decide)).trans hA187
          replace hA189 := (hu228 _ (by decide)).trans hA189
          replace hO106 := (hu228 _ (by decide)).trans hO106
          replace hF := q_us hF hu228 (by simp)
          obtain ⟨f229, e230⟩ := q_nm (upd f180 a210.toNatClampNeg a225 : (Nat → Int32))
          rw [e230] at hO103
          obtain ⟨a231, e232⟩ := q_nm (lx91 + (-1) : Int32)
          have b233 : q_F (a231.toInt = lx91.toInt + (-1)) := (by rw [← e232]; exact q_addI (y := (-1)) rfl (by decide) (by have t1 : 0 ≤ lx91.toInt + 1 := i95; have t2 : lx91.toInt ≤ a87.toInt := i96; have _ := q_lo32 (x := a87); have _ := q_hi32 (x := a87); omega) (by have t1 : 0 ≤ lx91.toInt + 1 := i95; have t2 : lx91.toInt ≤ a87.toInt := i96; have _ := q_lo32 (x := a87); have _ := q_hi32 (x := a87); omega))
          refine lv_iinc (v := a231) (lv' := [(4, .int a231), (0, .ref (q 119)), (2, .int x3), (3, .int x4)]) hx hb d_19_31_161 hl (k := 0) rfl (e232) (by decide) rfl (fun ls hl => ?_)
          refine lv_goto (tgt := 90) hx hb d_19_31_164 (by decide) ?_
          exact ih98 ((a231 : Int32), (f229 : (Nat → Int32)), (f186 : (Nat → Int32)), (f188 : (Nat → Int32))) _ _ _ _ (show (a231.toInt - ((-1))).toNat < (lx91.toInt - ((-1))).toNat from by have t1 : a231.toInt = lx91.toInt + (-1) := b233; have t2 : 0 ≤ lx91.toInt + 1 := i95; have t3 : 0 ≤ lx91.toInt := b161; omega) ⟨(show q_F (0 ≤ a231.toInt + 1) from (show 0 ≤ a231.toInt + 1 from by have t1 : 0 ≤ lx91.toInt := b161; have t2 : a231.toInt = lx91.toInt + (-1) := b233; omega)), (show q_F (a231.toInt ≤ a87.toInt) from (show a231.toInt ≤ a87.toInt from by have t1 : lx91.toInt ≤ a87.toInt := i96; have t2 : a231.toInt = lx91.toInt + (-1) := b233; omega)), (show q_F (a231.toInt ≤ lx39.toInt + 4224) from (show a231.toInt ≤ lx39.toInt + 4224 from by have t1 : lx91.toInt ≤ lx39.toInt + 4224 := i97; have t2 : a231.toInt = lx91.toInt + (-1) := b233; omega)), V, q_lw hl (q_lw1 0 rfl (q_lw1 1 rfl (q_lw1 2 rfl (q_lw1 3 rfl q_lw0)))), hI, hF, hO100, hO101, hO102, hO103, hA187, hA189, hO106, ⟨fm111, Nat.lt_of_lt_of_le (show (a231.toInt - ((-1))).toNat < (lx91.toInt - ((-1))).toNat from by have t1 : a231.toInt = lx91.toInt + (-1) := b233; have t2 : 0 ≤ lx91.toInt + 1 := i95; have t3 : 0 ≤ lx91.toInt := b161; omega) (Nat.le_of_lt_succ hf110), (show F_WR_root_L90 x2 x3 x4 t0_0 t0_1 t0_2 t0_3 t0_4 t0_5 t0_6 t1_0 t2_0 t3_0 t4_0 t5_0 t6_0 lx39 f64 fm111 a231 f229 f186 f188 = (F_WR_root x2 x3 x4 t0_0 t0_1 t0_2 t0_3 t0_4 t0_5 t0_6 t1_0 t2_0 t3_0 t4_0 t5_0 t6_0) from Eq.trans (by have c204x := c204; rw [e196] at c204x; rw [← e232, ← e230, ← e226, ← e224, ← e222, ← e219, ← e217, ← e214, ← e211, e198, e197, F_WR_root_c125.eq_1, if_pos c204x]) hR199), (show True ∧ S_WR_root_L90 x2 x3 x4 t0_0 t0_1 t0_2 t0_3 t0_4 t0_5 t0_6 t1_0 t2_0 t3_0 t4_0 t5_0 t6_0 lx39 f64 fm111 a231 f229 f186 f188 from (by rw [← e232, ← e230, ← e226, ← e224, ← e222, ← e219, ← e217, ← e214, ← e211, e198, e197]; have h := hS200; rw [S_WR_root_c125.eq_1] at h; have c204x := c204; rw [e196] at c204x; rw [if_pos c204x] at h; with_reducible exact h))⟩⟩
    ·
      exact q_retv C0 V (⟨hI, hF, lx39, t0_1, t0_2, t0_3, t0_4, t0_5, t0_6, t1_0, t2_0, t3_0, t4_0, t5_0, t6_0, hT0, hT1, hT2, hT3, hT4, hT5, hT6, (show 0 ≤ t0_3.toInt from (by first | with_reducible exact (q_fe btt0_3).2 | with_reducible exact (q_fe btt0_3).1 | (have t1 : 0 ≤ t0_3.toInt ∧ t0_3.toInt ≤ 1 := btt0_3; omega))), (show t0_2.toInt ≤ t0_2.toInt from (by omega)), (show t0_2.toInt ≤ t0_2.toInt from (by omega)), (show t0_3.toInt ≤ t0_3.toInt from (by omega)), (show t0_4.toInt ≤ t0_4.toInt from (by omega)), (show t0_4.toInt ≤ t0_4.toInt from (by omega)), (show t0_5.toInt ≤ t0_5.toInt from (by omega)), (show t0_5.toInt ≤ t0_5.toInt from (by omega)), (show t0_6.toInt ≤ t0_6.toInt from (by omega)), (show t0_6.toInt ≤ t0_6.toInt from (by omega)), (show (lx39, t0_1, t0_2, t0_3, t0_4, t0_5, t0_6, t1_0, t2_0, t3_0, t4_0, t5_0, t6_0) = (F_WR_root x2 x3 x4 t0_0 t0_1 t0_2 t0_3 t0_4 t0_5 t0_6 t1_0 t2_0 t3_0 t4_0 t5_0 t6_0) from Eq.trans (by rw [F_WR_root_J44.eq_1, if_neg c57]) hR50)⟩) d_19_31_54
  ·
    intro J47
    refine q_join (X := Unit) (fun z H locs ls _ => q_Wd D g (va_A ws sz) s ws H locs ∧ lv_has ls 5 [(0, .ref (q 119)), (1, .int x2), (2, .int x3), (3, .int x4)] ∧ F_WR_root_J26 x2 x3 x4 t0_0 t0_1 t0_2 t0_3 t0_4 t0_5 t0_6 t1_0 t2_0 t3_0 t4_0 t5_0 t6_0 = (F_WR_root x2 x3 x4 t0_0 t0_1 t0_2 t0_3 t0_4 t0_5 t0_6 t1_0 t2_0 t3_0 t4_0 t5_0 t6_0) ∧ True ∧ S_WR_root_J26 x2 x3 x4 t0_0 t0_1 t0_2 t0_3 t0_4 t0_5 t0_6 t1_0 t2_0 t3_0 t4_0 t5_0 t6_0) (fun z => [.ref (q 119)]) 26 0 0 ?_ ?_
    ·
      rintro _ H locs ls _ ⟨V, hl, hR243, hS244⟩
      replace hl : lv_has ls 5 [(0, .ref (q 119)), (1, .int x2), (2, .int x3), (3, .int x4)] := hl
      refine lv_iconst (v := 1) hx hb d_19_31_26 (by decide) ?_
      refine lv_goto (tgt := 44) hx hb d_19_31_27 (by decide) ?_
      exact J47 ((1 : Int32)) _ _ _ ws ⟨(show q_F (0 ≤ 1) from (show 0 ≤ 1 from by omega)), (show q_F (1 ≤ 2) from (show 1 ≤ 2 from by omega)), V, q_lw hl (q_lw1 0 rfl (q_lw1 1 rfl (q_lw1 2 rfl (q_lw1 3 rfl q_lw0)))), (show F_WR_root_J44 x2 x3 x4 t0_0 t0_1 t0_2 t0_3 t0_4 t0_5 t0_6 t1_0 t2_0 t3_0 t4_0 t5_0 t6_0 1 = (F_WR_root x2 x3 x4 t0_0 t0_1 t0_2 t0_3 t0_4 t0_5 t0_6 t1_0 t2_0 t3_0 t4_0 t5_0 t6_0) from Eq.trans (by rw [F_WR_root_J26.eq_1]) hR243), (show True ∧ S_WR_root_J44 x2 x3 x4 t0_0 t0_1 t0_2 t0_3 t0_4 t0_5 t0_6 t1_0 t2_0 t3_0 t4_0 t5_0 t6_0 1 from (by have h := hS244; rw [S_WR_root_J26.eq_1] at h; with_reducible exact h))⟩
    ·
      intro J242
      refine lv_if_ne (tgt := 26) hx hb d_19_31_5 (by decide) (fun c248 => ?_) (fun c248 => ?_)
      ·
        exact J242 (()) _ _ _ ws ⟨V, q_lw hl (q_lw1 0 rfl (q_lw1 1 rfl (q_lw1 2 rfl (q_lw1 3 rfl q_lw0)))), (show F_WR_root_J26 x2 x3 x4 t0_0 t0_1 t0_2 t0_3 t0_4 t0_5 t0_6 t1_0 t2_0 t3_0 t4_0 t5_0 t6_0 = (F_WR_root x2 x3 x4 t0_0 t0_1 t0_2 t0_3 t0_4 t0_5 t0_6 t1_0 t2_0 t3_0 t4_0 t5_0 t6_0) from (by have c248x := c248; rw [e38] at c248x; rw [F_WR_root.eq_1, if_neg c248x])), (show True ∧ S_WR_root_J26 x2 x3 x4 t0_0 t0_1 t0_2 t0_3 t0_4 t0_5 t0_6 t1_0 t2_0 t3_0 t4_0 t5_0 t6_0 from (by have h := hS; rw [S_WR_root.eq_1] at h; have c248x := c248; rw [e38] at c248x; rw [if_neg c248x] at h; with_reducible exact h))⟩
      ·
        refine lv_iload_n hx hb d_19_31_8 rfl (lv_at hl 3 rfl) ?_
        refine q_goi V (q_runS (As := [.int x4]) (rest := [.ref (q 119)]) (d := 1) (mc := 0) (ms := 0) C0 V rfl LS_WR_91 (X_WR_no l D g q ws  x4 hI   _) rfl hl.1 rfl (Nat.le_of_ble_eq_true rfl) ⟨by decide, by decide⟩ ⟨Nat.le_of_ble_eq_true rfl, Nat.le_of_ble_eq_true rfl⟩ d_19_31_9) (fun a253 u251 H locs hp252 V => ?_)
        obtain ⟨rfl, b254, b255, hE256⟩ := hp252
        have e257 : a253 = (F_WR_no x4) := hE256
        clear b254
        clear b255
        refine lv_if_ne (tgt := 26) hx hb d_19_31_12 (by decide) (fun c258 => ?_) (fun c258 => ?_)
        ·
          exact J242 (()) _ _ _ ws ⟨V, q_lw hl (q_lw1 0 rfl (q_lw1 1 rfl (q_lw1 2 rfl (q_lw1 3 rfl q_lw0)))), (show F_WR_root_J26 x2 x3 x4 t0_0 t0_1 t0_2 t0_3 t0_4 t0_5 t0_6 t1_0 t2_0 t3_0 t4_0 t5_0 t6_0 = (F_WR_root x2 x3 x4 t0_0 t0_1 t0_2 t0_3 t0_4 t0_5 t0_6 t1_0 t2_0 t3_0 t4_0 t5_0 t6_0) from (by have c248x := c248; rw [e38] at c248x; have c258x := c258; rw [e257] at c258x; rw [F_WR_root.eq_1, if_pos c248x, if_neg c258x])), (show True ∧ S_WR_root_J26 x2 x3 x4 t0_0 t0_1 t0_2 t0_3 t0_4 t0_5 t0_6 t1_0 t2_0 t3_0 t4_0 t5_0 t6_0 from (by have h := hS; rw [S_WR_root.eq_1] at h; have c248x := c248; rw [e38] at c248x; rw [if_pos c248x] at h; have c258x := c258; rw [e257] at c258x; rw [if_neg c258x] at h; with_reducible exact h))⟩
        ·
          refine lv_iload_n hx hb d_19_31_15 rfl (lv_at hl 2 rfl) ?_
          refine lv_iconst (v := 1) hx hb d_19_31_16 (by decide) ?_
          refine lv_icmp_lt (tgt := 26) hx hb d_19_31_17 (by decide) (fun c261 => ?_) (fun c261 => ?_)
          ·
            exact J242 (()) _ _ _ ws ⟨V, q_lw hl (q_lw1 0 rfl (q_lw1 1 rfl (q_lw1 2 rfl (q_lw1 3 rfl q_lw0)))), (show F_WR_root_J26 x2 x3 x4 t0_0 t0_1 t0_2 t0_3 t0_4 t0_5 t0_6 t1_0 t2_0 t3_0 t4_0 t5_0 t6_0 = (F_WR_root x2 x3 x4 t0_0 t0_1 t0_2 t0_3 t0_4 t0_5 t0_6 t1_0 t2_0 t3_0 t4_0 t5_0 t6_0) from (by have c248x := c248; rw [e38] at c248x; have c258x := c258; rw [e257] at c258x; rw [F_WR_root.eq_1, if_pos c248x, if_pos c258x, if_pos c261])), (show True ∧ S_WR_root_J26 x2 x3 x4 t0_0 t0_1 t0_2 t0_3 t0_4 t0_5 t0_6 t1_0 t2_0 t3_0 t4_0 t5_0 t6_0 from (by have h := hS; rw [S_WR_root.eq_1] at h; have c248x := c248; rw [e38] at c248x; rw [if_pos c248x] at h; have c258x := c258; rw [e257] at c258x; rw [if_pos c258x] at h; rw [if_pos c261] at h; with_reducible exact h))⟩
          ·
            refine lv_iload_n hx hb d_19_31_20 rfl (lv_at hl 2 rfl) ?_
            refine lv_bipush (v := 64) hx hb d_19_31_21 (by decide) ?_
            refine lv_icmp_le (tgt := 30) hx hb d_19_31_23 (by decide) (fun c264 => ?_) (fun c264 => ?_)
            ·
              refine lv_aload_n hx hb d_19_31_30 rfl (lv_at hl 0 rfl) ?_
              refine q_get (ci := 13) (j := 5) (v := .ref (q 122)) C0 V i_WR rfl rfl hT0 (by decide) w_1929 rfl d_19_31_31 ?_
              refine lv_iload_n hx hb d_19_31_34 rfl (lv_at hl 1 rfl) ?_
              have ob266 : q_F (0 ≤ x2.toInt) := (by have h := hS; rw [S_WR_root.eq_1] at h; have c248x := c248; rw [e38] at c248x; rw [if_pos c248x] at h; have c258x := c258; rw [e257] at c258x; rw [if_pos c258x] at h; rw [if_neg c261] at h; rw [if_pos c264] at h; exact h.2.1)
              have ob267 : q_F (x2.toInt ≤ 10) := (by have h := hS; rw [S_WR_root.eq_1] at h; have c248x := c248; rw [e38] at c248x; rw [if_pos c248x] at h; have c258x := c258; rw [e257] at c258x; rw [if_pos c258x] at h; rw [if_neg c261] at h; rw [if_pos c264] at h; replace h := q_s2 h; exact h.2.1)
              refine q_zald C0 V hT2 (q_ix (x := x2.toInt) rfl (by first | with_reducible exact q_fe ob266 | (have t1 : 0 ≤ x2.toInt := ob266; omega)) (by have t1 : 0 ≤ x2.toInt := ob266; have t2 : x2.toInt ≤ 10 := ob267; omega)) d_19_31_35 ?_
              obtain ⟨a268, e269⟩ := q_nm (t2_0 x2.toNatClampNeg : Int32)
              refine q_ti (v := a268) e269 ?_
              refine lv_if_eq (tgt := 43) hx hb d_19_31_36 (by decide) (fun c270 => ?_) (fun c270 => ?_)
              ·
                refine lv_iconst (v := 0) hx hb d_19_31_43 (by decide) ?_
                exact J47 ((0 : Int32)) _ _ _ ws ⟨(show q_F (0 ≤ 0) from (show 0 ≤ 0 from by omega)), (show q_F (0 ≤ 2) from (show 0 ≤ 2 from by omega)), V, q_lw hl (q_lw1 0 rfl (q_lw1 1 rfl (q_lw1 2 rfl (q_lw1 3 rfl q_lw0)))), (show F_WR_root_J44 x2 x3 x4 t0_0 t0_1 t0_2 t0_3 t0_4 t0_5 t0_6 t1_0 t2_0 t3_0 t4_0 t5_0 t6_0 0 = (F_WR_root x2 x3 x4 t0_0 t0_1 t0_2 t0_3 t0_4 t0_5 t0_6 t1_0 t2_0 t3_0 t4_0 t5_0 t6_0) from (by have c248x := c248; rw [e38] at c248x; have c258x := c258; rw [e257] at c258x; have c270x := c270; rw [← e269] at c270x; rw [F_WR_root.eq_1, if_pos c248x, if_pos c258x, if_neg c261, if_pos c264, if_pos c270x])), (show True ∧ S_WR_root_J44 x2 x3 x4 t0_0 t0_1 t0_2 t0_3 t0_4 t0_5 t0_6 t1_0 t2_0 t3_0 t4_0 t5_0 t6_0 0 from (by have h := hS; rw [S_WR_root.eq_1] at h; have c248x := c248; rw [e38] at c248x; rw [if_pos c248x] at h; have c258x := c258; rw [e257] at c258x; rw [if_pos c258x] at h; rw [if_neg c261] at h; rw [if_pos c264] at h; replace h := q_s2 h; replace h := q_s2 h; have c270x := c270; rw [← e269] at c270x; rw [if_pos c270x] at h; with_reducible exact h))⟩
              ·
                refine lv_iconst (v := 2) hx hb d_19_31_39 (by decide) ?_
                refine lv_goto (tgt := 44) hx hb d_19_31_40 (by decide) ?_
                exact J47 ((2 : Int32)) _ _ _ ws ⟨(show q_F (0 ≤ 2) from (show 0 ≤ 2 from by omega)), (show q_F (2 ≤ 2) from (show 2 ≤ 2 from by omega)), V, q_lw hl (q_lw1 0 rfl (q_lw1 1 rfl (q_lw1 2 rfl (q_lw1 3 rfl q_lw0)))), (show F_WR_root_J44 x2 x3 x4 t0_0 t0_1 t0_2 t0_3 t0_4 t0_5 t0_6 t1_0 t2_0 t3_0 t4_0 t5_0 t6_0 2 = (F_WR_root x2 x3 x4 t0_0 t0_1 t0_2 t0_3 t0_4 t0_5 t0_6 t1_0 t2_0 t3_0 t4_0 t5_0 t6_0) from (by have c248x := c248; rw [e38] at c248x; have c258x := c258; rw [e257] at c258x; have c270x := c270; rw [← e269] at c270x; rw [F_WR_root.eq_1, if_pos c248x, if_pos c258x, if_neg c261, if_pos c264, if_neg c270x])), (show True ∧ S_WR_root_J44 x2 x3 x4 t0_0 t0_1 t0_2 t0_3 t0_4 t0_5 t0_6 t1_0 t2_0 t3_0 t4_0 t5_0 t6_0 2 from (by have h := hS; rw [S_WR_root.eq_1] at h; have c248x := c248; rw [e38] at c248x; rw [if_pos c248x] at h; have c258x := c258; rw [e257] at c258x; rw [if_pos c258x] at h; rw [if_neg c261] at h; rw [if_pos c264] at h; replace h := q_s2 h; replace h := q_s2 h; have c270x := c270; rw [← e269] at c270x; rw [if_neg c270x] at h; with_reducible exact h))⟩
            ·
              exact J242 (()) _ _ _ ws ⟨V, q_lw hl (q_lw1 0 rfl (q_lw1 1 rfl (q_lw1 2 rfl (q_lw1 3 rfl q_lw0)))), (show F_WR_root_J26 x2 x3 x4 t0_0 t0_1 t0_2 t0_3 t0_4 t0_5 t0_6 t1_0 t2_0 t3_0 t4_0 t5_0 t6_0 = (F_WR_root x2 x3 x4 t0_0 t0_1 t0_2 t0_3 t0_4 t0_5 t0_6 t1_0 t2_0 t3_0 t4_0 t5_0 t6_0) from (by have c248x := c248; rw [e38] at c248x; have c258x := c258; rw [e257] at c258x; rw [F_WR_root.eq_1, if_pos c248x, if_pos c258x, if_neg c261, if_neg c264])), (show True ∧ S_WR_root_J26 x2 x3 x4 t0_0 t0_1 t0_2 t0_3 t0_4 t0_5 t0_6 t1_0 t2_0 t3_0 t4_0 t5_0 t6_0 from (by have h := hS; rw [S_WR_root.eq_1] at h; have c248x := c248; rw [e38] at c248x; rw [if_pos c248x] at h; have c258x := c258; rw [e257] at c258x; rw [if_pos c258x] at h; rw [if_neg c261] at h; rw [if_neg c264] at h; with_reducible exact h))⟩
theorem d_19_38_0 : decode prog_19_method_38_code 0 = .ok (.aload_n 0, 1) := by decide +kernel
theorem d_19_38_1 : decode prog_19_method_38_code 1 = .ok (.iload_n 1, 1) := by decide +kernel
theorem d_19_38_2 : decode prog_19_method_38_code 2 = .ok (.invokestatic 91, 3) := by decide +kernel
theorem d_19_38_20 : decode prog_19_method_38_code 20 = .ok (.putfield 53, 3) := by decide +kernel
theorem d_19_38_23 : decode prog_19_method_38_code 23 = .ok (.aload_n 0, 1) := by decide +kernel
theorem d_19_38_24 : decode prog_19_method_38_code 24 = .ok (.getfield 53, 3) := by decide +kernel
theorem d_19_38_27 : decode prog_19_method_38_code 27 = .ok (.ifCond .le 4, 3) := by decide +kernel
theorem d_19_38_31 : decode prog_19_method_38_code 31 = .ok (.aload_n 0, 1) := by decide +kernel
theorem d_19_38_32 : decode prog_19_method_38_code 32 = .ok (.iconst 2, 1) := by decide +kernel
theorem d_19_38_33 : decode prog_19_method_38_code 33 = .ok (.putfield 79, 3) := by decide +kernel
theorem d_19_38_36 : decode prog_19_method_38_code 36 = .ok (.aload_n 0, 1) := by decide +kernel
theorem d_19_38_37 : decode prog_19_method_38_code 37 = .ok (.iload_n 1, 1) := by decide +kernel
theorem d_19_38_38 : decode prog_19_method_38_code 38 = .ok (.aload_n 0, 1) := by decide +kernel
theorem d_19_38_39 : decode prog_19_method_38_code 39 = .ok (.getfield 35, 3) := by decide +kernel
theorem d_19_38_42 : decode prog_19_method_38_code 42 = .ok (.invokevirtual 107, 3) := by decide +kernel
theorem d_19_38_45 : decode prog_19_method_38_code 45 = .ok (.aload_n 0, 1) := by decide +kernel
theorem d_19_38_46 : decode prog_19_method_38_code 46 = .ok (.aload_n 0, 1) := by decide +kernel
theorem d_19_38_47 : decode prog_19_method_38_code 47 = .ok (.getfield 16, 3) := by decide +kernel
theorem d_19_38_50 : decode prog_19_method_38_code 50 = .ok (.iload_n 1, 1) := by decide +kernel
theorem d_19_38_51 : decode prog_19_method_38_code 51 = .ok (.baload, 1) := by decide +kernel
theorem d_19_38_52 : decode prog_19_method_38_code 52 = .ok (.putfield 82, 3) := by decide +kernel
theorem d_19_38_55 : decode prog_19_method_38_code 55 = .ok (.aload_n 0, 1) := by decide +kernel
theorem d_19_38_56 : decode prog_19_method_38_code 56 = .ok (.getfield 20, 3) := by decide +kernel
theorem d_19_38_59 : decode prog_19_method_38_code 59 = .ok (.invokestatic 63, 3) := by decide +kernel
theorem d_19_38_62 : decode prog_19_method_38_code 62 = .ok (.iload_n 2, 1) := by decide +kernel
theorem d_19_38_63 : decode prog_19_method_38_code 63 = .ok (.ifCond .lt 120, 3) := by decide +kernel
theorem d_19_38_183 : decode prog_19_method_38_code 183 = .ok (.iconst 0, 1) := by decide +kernel
theorem d_19_38_184 : decode prog_19_method_38_code 184 = .ok (.istore 4, 2) := by decide +kernel
theorem d_19_38_186 : decode prog_19_method_38_code 186 = .ok (.iconst 0, 1) := by decide +kernel
theorem d_19_38_187 : decode prog_19_method_38_code 187 = .ok (.istore 5, 2) := by decide +kernel
theorem d_19_38_189 : decode prog_19_method_38_code 189 = .ok (.iload 5, 2) := by decide +kernel
theorem d_19_38_191 : decode prog_19_method_38_code 191 = .ok (.sipush 2048, 3) := by decide +kernel
theorem d_19_38_194 : decode prog_19_method_38_code 194 = .ok (.if_icmp .ge 101, 3) := by decide +kernel
theorem d_19_38_295 : decode prog_19_method_38_code 295 = .ok (.aload_n 0, 1) := by decide +kernel
theorem d_19_38_296 : decode prog_19_method_38_code 296 = .ok (.getfield 82, 3) := by decide +kernel
theorem d_19_38_299 : decode prog_19_method_38_code 299 = .ok (.ifCond .eq 30, 3) := by decide +kernel
theorem d_19_38_329 : decode prog_19_method_38_code 329 = .ok (.aload_n 0, 1) := by decide +kernel
theorem d_19_38_330 : decode prog_19_method_38_code 330 = .ok (.iload_n 3, 1) := by decide +kernel
theorem d_19_38_331 : decode prog_19_method_38_code 331 = .ok (.invokevirtual 103, 3) := by decide +kernel
theorem d_19_38_334 : decode prog_19_method_38_code 334 = .ok (.return_, 1) := by decide +kernel
theorem d_19_38_302 : decode prog_19_method_38_code 302 = .ok (.iload 4, 2) := by decide +kernel
theorem d_19_38_304 : decode prog_19_method_38_code 304 = .ok (.ifCond .eq 25, 3) := by decide +kernel
theorem d_19_38_307 : decode prog_19_method_38_code 307 = .ok (.aload_n 0, 1) := by decide +kernel
theorem d_19_38_308 : decode prog_19_method_38_code 308 = .ok (.aload_n 0, 1) := by decide +kernel
theorem d_19_38_309 : decode prog_19_method_38_code 309 = .ok (.getfield 23, 3) := by decide +kernel
theorem d_19_38_312 : decode prog_19_method_38_code 312 = .ok (.invokevirtual 131, 3) := by decide +kernel
theorem d_19_38_315 : decode prog_19_method_38_code 315 = .ok (.aload_n 0, 1) := by decide +kernel
theorem d_19_38_316 : decode prog_19_method_38_code 316 = .ok (.getfield 20, 3) := by decide +kernel
theorem d_19_38_319 : decode prog_19_method_38_code 319 = .ok (.aload_n 0, 1) := by decide +kernel
theorem d_19_38_320 : decode prog_19_method_38_code 320 = .ok (.getfield 23, 3) := by decide +kernel
theorem d_19_38_323 : decode prog_19_method_38_code 323 = .ok (.iconst 1, 1) := by decide +kernel
theorem d_19_38_324 : decode prog_19_method_38_code 324 = .ok (.lconst 1, 1) := by decide +kernel
theorem d_19_38_325 : decode prog_19_method_38_code 325 = .ok (.iconst 0, 1) := by decide +kernel
theorem d_19_38_326 : decode prog_19_method_38_code 326 = .ok (.invokestatic 75, 3) := by decide +kernel
theorem d_19_38_197 : decode prog_19_method_38_code 197 = .ok (.aload_n 0, 1) := by decide +kernel
theorem d_19_38_198 : decode prog_19_method_38_code 198 = .ok (.getfield 35, 3) := by decide +kernel
theorem d_19_38_201 : decode prog_19_method_38_code 201 = .ok (.iload 5, 2) := by decide +kernel
theorem d_19_38_203 : decode prog_19_method_38_code 203 = .ok (.bipush 16, 2) := by decide +kernel
theorem d_19_38_205 : decode prog_19_method_38_code 205 = .ok (.idiv, 1) := by decide +kernel
theorem d_19_38_206 : decode prog_19_method_38_code 206 = .ok (.iaload, 1) := by decide +kernel
theorem d_19_38_207 : decode prog_19_method_38_code 207 = .ok (.iload 5, 2) := by decide +kernel
theorem d_19_38_209 : decode prog_19_method_38_code 209 = .ok (.bipush 16, 2) := by decide +kernel
theorem d_19_38_211 : decode prog_19_method_38_code 211 = .ok (.irem, 1) := by decide +kernel
theorem d_19_38_212 : decode prog_19_method_38_code 212 = .ok (.ishr, 1) := by decide +kernel
theorem d_19_38_213 : decode prog_19_method_38_code 213 = .ok (.iconst 1, 1) := by decide +kernel
theorem d_19_38_214 : decode prog_19_method_38_code 214 = .ok (.iand, 1) := by decide +kernel
theorem d_19_38_215 : decode prog_19_method_38_code 215 = .ok (.istore 6, 2) := by decide +kernel
theorem d_19_38_217 : decode prog_19_method_38_code 217 = .ok (.iload 5, 2) := by decide +kernel
theorem d_19_38_219 : decode prog_19_method_38_code 219 = .ok (.i2l, 1) := by decide +kernel
theorem d_19_38_220 : decode prog_19_method_38_code 220 = .ok (.iload_n 2, 1) := by decide +kernel
theorem d_19_38_221 : decode prog_19_method_38_code 221 = .ok (.i2l, 1) := by decide +kernel
theorem d_19_38_222 : decode prog_19_method_38_code 222 = .ok (.ladd, 1) := by decide +kernel
theorem d_19_38_223 : decode prog_19_method_38_code 223 = .ok (.lstore 7, 2) := by decide +kernel
theorem d_19_38_225 : decode prog_19_method_38_code 225 = .ok (.iload 4, 2) := by decide +kernel
theorem d_19_38_248 : decode prog_19_method_38_code 248 = .ok (.istore 4, 2) := by decide +kernel
theorem d_19_38_250 : decode prog_19_method_38_code 250 = .ok (.lload 7, 2) := by decide +kernel
theorem d_19_38_252 : decode prog_19_method_38_code 252 = .ok (.lconst 0, 1) := by decide +kernel
theorem d_19_38_253 : decode prog_19_method_38_code 253 = .ok (.lcmp, 1) := by decide +kernel
theorem d_19_38_254 : decode prog_19_method_38_code 254 = .ok (.ifCond .lt 35, 3) := by decide +kernel
theorem d_19_38_289 : decode prog_19_method_38_code 289 = .ok (.iinc 5 1, 3) := by decide +kernel
theorem d_19_38_292 : decode prog_19_method_38_code 292 = .ok (.goto (-103), 3) := by decide +kernel
theorem d_19_38_257 : decode prog_19_method_38_code 257 = .ok (.aload_n 0, 1) := by decide +kernel
theorem d_19_38_258 : decode prog_19_method_38_code 258 = .ok (.getfield 20, 3) := by decide +kernel
theorem d_19_38_261 : decode prog_19_method_38_code 261 = .ok (.lload 7, 2) := by decide +kernel
theorem d_19_38_263 : decode prog_19_method_38_code 263 = .ok (.l2i, 1) := by decide +kernel
theorem d_19_38_264 : decode prog_19_method_38_code 264 = .ok (.bipush 16, 2) := by decide +kernel
theorem d_19_38_266 : decode prog_19_method_38_code 266 = .ok (.idiv, 1) := by decide +kernel
theorem d_19_38_267 : decode prog_19_method_38_code 267 = .ok (.aload_n 0, 1) := by decide +kernel
theorem d_19_38_268 : decode prog_19_method_38_code 268 = .ok (.getfield 20, 3) := by decide +kernel
theorem d_19_38_271 : decode prog_19_method_38_code 271 = .ok (.lload 7, 2) := by decide +kernel
theorem d_19_38_273 : decode prog_19_method_38_code 273 = .ok (.l2i, 1) := by decide +kernel
theorem d_19_38_274 : decode prog_19_method_38_code 274 = .ok (.bipush 16, 2) := by decide +kernel
theorem d_19_38_276 : decode prog_19_method_38_code 276 = .ok (.idiv, 1) := by decide +kernel
theorem d_19_38_277 : decode prog_19_method_38_code 277 = .ok (.iaload, 1) := by decide +kernel
theorem d_19_38_278 : decode prog_19_method_38_code 278 = .ok (.iload 6, 2) := by decide +kernel
theorem d_19_38_280 : decode prog_19_method_38_code 280 = .ok (.lload 7, 2) := by decide +kernel
theorem d_19_38_282 : decode prog_19_method_38_code 282 = .ok (.l2i, 1) := by decide +kernel
theorem d_19_38_283 : decode prog_19_method_38_code 283 = .ok (.bipush 16, 2) := by decide +kernel
theorem d_19_38_285 : decode prog_19_method_38_code 285 = .ok (.irem, 1) := by decide +kernel
theorem d_19_38_286 : decode prog_19_method_38_code 286 = .ok (.ishl, 1) := by decide +kernel
theorem d_19_38_287 : decode prog_19_method_38_code 287 = .ok (.ior, 1) := by decide +kernel
theorem d_19_38_288 : decode prog_19_method_38_code 288 = .ok (.iastore, 1) := by decide +kernel
theorem d_19_38_243 : decode prog_19_method_38_code 243 = .ok (.iconst 1, 1) := by decide +kernel
theorem d_19_38_244 : decode prog_19_method_38_code 244 = .ok (.goto 4, 3) := by decide +kernel
theorem d_19_38_227 : decode prog_19_method_38_code 227 = .ok (.ifCond .ne 16, 3) := by decide +kernel
theorem d_19_38_230 : decode prog_19_method_38_code 230 = .ok (.iload 6, 2) := by decide +kernel
theorem d_19_38_232 : decode prog_19_method_38_code 232 = .ok (.iconst 1, 1) := by decide +kernel
theorem d_19_38_247 : decode prog_19_method_38_code 247 = .ok (.iconst 0, 1) := by decide +kernel
theorem d_19_38_233 : decode prog_19_method_38_code 233 = .ok (.if_icmp .ne 14, 3) := by decide +kernel
theorem d_19_38_236 : decode prog_19_method_38_code 236 = .ok (.lload 7, 2) := by decide +kernel
theorem d_19_38_238 : decode prog_19_method_38_code 238 = .ok (.lconst 0, 1) := by decide +kernel
theorem d_19_38_239 : decode prog_19_method_38_code 239 = .ok (.lcmp, 1) := by decide +kernel
theorem d_19_38_240 : decode prog_19_method_38_code 240 = .ok (.ifCond .ge 7, 3) := by decide +kernel
theorem d_19_38_66 : decode prog_19_method_38_code 66 = .ok (.iload_n 2, 1) := by decide +kernel
theorem d_19_38_67 : decode prog_19_method_38_code 67 = .ok (.sipush 2048, 3) := by decide +kernel
theorem d_19_38_89 : decode prog_19_method_38_code 89 = .ok (.iconst 0, 1) := by decide +kernel
theorem d_19_38_90 : decode prog_19_method_38_code 90 = .ok (.istore 4, 2) := by decide +kernel
theorem d_19_38_92 : decode prog_19_method_38_code 92 = .ok (.iload 4, 2) := by decide +kernel
theorem d_19_38_94 : decode prog_19_method_38_code 94 = .ok (.aload_n 0, 1) := by decide +kernel
theorem d_19_38_95 : decode prog_19_method_38_code 95 = .ok (.getfield 35, 3) := by decide +kernel
theorem d_19_38_98 : decode prog_19_method_38_code 98 = .ok (.invokestatic 59, 3) := by decide +kernel
theorem d_19_38_101 : decode prog_19_method_38_code 101 = .ok (.if_icmp .ge 76, 3) := by decide +kernel
theorem d_19_38_177 : decode prog_19_method_38_code 177 = .ok (.aload_n 0, 1) := by decide +kernel
theorem d_19_38_178 : decode prog_19_method_38_code 178 = .ok (.iload_n 3, 1) := by decide +kernel
theorem d_19_38_179 : decode prog_19_method_38_code 179 = .ok (.invokevirtual 103, 3) := by decide +kernel
theorem d_19_38_182 : decode prog_19_method_38_code 182 = .ok (.return_, 1) := by decide +kernel
theorem d_19_38_104 : decode prog_19_method_38_code 104 = .ok (.aload_n 0, 1) := by decide +kernel
theorem d_19_38_105 : decode prog_19_method_38_code 105 = .ok (.getfield 35, 3) := by decide +kernel
theorem d_19_38_108 : decode prog_19_method_38_code 108 = .ok (.iload 4, 2) := by decide +kernel
theorem d_19_38_110 : decode prog_19_method_38_code 110 = .ok (.iaload, 1) := by decide +kernel
theorem d_19_38_111 : decode prog_19_method_38_code 111 = .ok (.i2l, 1) := by decide +kernel
theorem d_19_38_112 : decode prog_19_method_38_code 112 = .ok (.iload_n 2, 1) := by decide +kernel
theorem d_19_38_113 : decode prog_19_method_38_code 113 = .ok (.bipush 16, 2) := by decide +kernel
theorem d_19_38_115 : decode prog_19_method_38_code 115 = .ok (.irem, 1) := by decide +kernel
theorem d_19_38_116 : decode prog_19_method_38_code 116 = .ok (.lshl, 1) := by decide +kernel
theorem d_19_38_117 : decode prog_19_method_38_code 117 = .ok (.lstore 5, 2) := by decide +kernel
theorem d_19_38_119 : decode prog_19_method_38_code 119 = .ok (.aload_n 0, 1) := by decide +kernel
theorem d_19_38_120 : decode prog_19_method_38_code 120 = .ok (.getfield 20, 3) := by decide +kernel
theorem d_19_38_123 : decode prog_19_method_38_code 123 = .ok (.iload 4, 2) := by decide +kernel
theorem d_19_38_125 : decode prog_19_method_38_code 125 = .ok (.iload_n 2, 1) := by decide +kernel
theorem d_19_38_126 : decode prog_19_method_38_code 126 = .ok (.bipush 16, 2) := by decide +kernel
theorem d_19_38_128 : decode prog_19_method_38_code 128 = .ok (.idiv, 1) := by decide +kernel
theorem d_19_38_129 : decode prog_19_method_38_code 129 = .ok (.iadd, 1) := by decide +kernel
theorem d_19_38_130 : decode prog_19_method_38_code 130 = .ok (.aload_n 0, 1) := by decide +kernel
theorem d_19_38_131 : decode prog_19_method_38_code 131 = .ok (.getfield 20, 3) := by decide +kernel
theorem d_19_38_134 : decode prog_19_method_38_code 134 = .ok (.iload 4, 2) := by decide +kernel
theorem d_19_38_136 : decode prog_19_method_38_code 136 = .ok (.iload_n 2, 1) := by decide +kernel
theorem d_19_38_137 : decode prog_19_method_38_code 137 = .ok (.bipush 16, 2) := by decide +kernel
theorem d_19_38_139 : decode prog_19_method_38_code 139 = .ok (.idiv, 1) := by decide +kernel
theorem d_19_38_140 : decode prog_19_method_38_code 140 = .ok (.iadd, 1) := by decide +kernel
theorem d_19_38_141 : decode prog_19_method_38_code 141 = .ok (.iaload, 1) := by decide +kernel
theorem d_19_38_142 : decode prog_19_method_38_code 142 = .ok (.lload 5, 2) := by decide +kernel
theorem d_19_38_144 : decode prog_19_method_38_code 144 = .ok (.ldc2_w 57, 3) := by decide +kernel
theorem d_19_38_147 : decode prog_19_method_38_code 147 = .ok (.land, 1) := by decide +kernel
theorem d_19_38_148 : decode prog_19_method_38_code 148 = .ok (.l2i, 1) := by decide +kernel
theorem d_19_38_149 : decode prog_19_method_38_code 149 = .ok (.ior, 1) := by decide +kernel
theorem d_19_38_150 : decode prog_19_method_38_code 150 = .ok (.iastore, 1) := by decide +kernel
theorem d_19_38_151 : decode prog_19_method_38_code 151 = .ok (.aload_n 0, 1) := by decide +kernel
theorem d_19_38_152 : decode prog_19_method_38_code 152 = .ok (.getfield 20, 3) := by decide +kernel
theorem d_19_38_155 : decode prog_19_method_38_code 155 = .ok (.iload 4, 2) := by decide +kernel
theorem d_19_38_157 : decode prog_19_method_38_code 157 = .ok (.iload_n 2, 1) := by decide +kernel
theorem d_19_38_158 : decode prog_19_method_38_code 158 = .ok (.bipush 16, 2) := by decide +kernel
theorem d_19_38_160 : decode prog_19_method_38_code 160 = .ok (.idiv, 1) := by decide +kernel
theorem d_19_38_161 : decode prog_19_method_38_code 161 = .ok (.iadd, 1) := by decide +kernel
theorem d_19_38_162 : decode prog_19_method_38_code 162 = .ok (.iconst 1, 1) := by decide +kernel
theorem d_19_38_163 : decode prog_19_method_38_code 163 = .ok (.iadd, 1) := by decide +kernel
theorem d_19_38_164 : decode prog_19_method_38_code 164 = .ok (.lload 5, 2) := by decide +kernel
theorem d_19_38_166 : decode prog_19_method_38_code 166 = .ok (.bipush 16, 2) := by decide +kernel
theorem d_19_38_168 : decode prog_19_method_38_code 168 = .ok (.lshr, 1) := by decide +kernel
theorem d_19_38_169 : decode prog_19_method_38_code 169 = .ok (.l2i, 1) := by decide +kernel
theorem d_19_38_170 : decode prog_19_method_38_code 170 = .ok (.iastore, 1) := by decide +kernel
theorem d_19_38_171 : decode prog_19_method_38_code 171 = .ok (.iinc 4 1, 3) := by decide +kernel
theorem d_19_38_174 : decode prog_19_method_38_code 174 = .ok (.goto (-82), 3) := by decide +kernel
theorem d_19_38_70 : decode prog_19_method_38_code 70 = .ok (.if_icmp .le 19, 3) := by decide +kernel
theorem d_19_38_73 : decode prog_19_method_38_code 73 = .ok (.aload_n 0, 1) := by decide +kernel
theorem d_19_38_74 : decode prog_19_method_38_code 74 = .ok (.getfield 35, 3) := by decide +kernel
theorem d_19_38_77 : decode prog_19_method_38_code 77 = .ok (.invokestatic 59, 3) := by decide +kernel
theorem d_19_38_80 : decode prog_19_method_38_code 80 = .ok (.ifCond .le 9, 3) := by decide +kernel
theorem d_19_38_83 : decode prog_19_method_38_code 83 = .ok (.aload_n 0, 1) := by decide +kernel
theorem d_19_38_84 : decode prog_19_method_38_code 84 = .ok (.iconst 2, 1) := by decide +kernel
theorem d_19_38_85 : decode prog_19_method_38_code 85 = .ok (.putfield 53, 3) := by decide +kernel
theorem d_19_38_88 : decode prog_19_method_38_code 88 = .ok (.return_, 1) := by decide +kernel
theorem d_19_38_30 : decode prog_19_method_38_code 30 = .ok (.return_, 1) := by decide +kernel
theorem d_19_38_15 : decode prog_19_method_38_code 15 = .ok (.iconst 1, 1) := by decide +kernel
theorem d_19_38_16 : decode prog_19_method_38_code 16 = .ok (.goto 4, 3) := by decide +kernel
theorem d_19_38_5 : decode prog_19_method_38_code 5 = .ok (.ifCond .ne 10, 3) := by decide +kernel
theorem d_19_38_8 : decode prog_19_method_38_code 8 = .ok (.iload_n 3, 1) := by decide +kernel
theorem d_19_38_9 : decode prog_19_method_38_code 9 = .ok (.invokestatic 91, 3) := by decide +kernel
theorem d_19_38_12 : decode prog_19_method_38_code 12 = .ok (.ifCond .eq 7, 3) := by decide +kernel
theorem d_19_38_19 : decode prog_19_method_38_code 19 = .ok (.iconst 0, 1) := by decide +kernel
def y_WR_shift : MethodName := ⟨"NumberHouseModel$WholeRows", "shift", "(III)V"⟩
def F_WR_shift_c331 (K_F_WR_shift_L189 : Int32 → Int32 → (Nat → Int32) → (Int32 × Int32 × Int32 × Int32 × Int32 × Int32 × Int32 × (Nat → Int32) × (Nat → Int32) × (Nat → Int32) × (Nat → Int32) × (Nat → Int32))) (x2 : Int32) (x3 : Int32) (x4 : Int32) (t0_0 : Int32) (t0_1 : Int32) (t0_2 : Int32) (t0_3 : Int32) (t0_4 : Int32) (t0_5 : Int32) (t0_6 : Int32) (t1_0 : (Nat → Int32)) (t2_0 : (Nat → Int32)) (t3_0 : (Nat → Int32)) (t4_0 : (Nat → Int32)) (t5_0 : (Nat → Int32)) (lx36 : Int32) (a67 : Int32) (f60 : (Nat → Int32)) (lx84 : Int32) (lx85 : Int32) (lx86 : (Nat → Int32)) (p137 : (Int32 × Int32 × Int32 × Int32 × Int32 × Int32 × Int32 × (Nat → Int32) × (Nat → Int32))) : Int32 × Int32 × Int32 × Int32 × Int32 × Int32 × Int32 × (Nat → Int32) × (Nat → Int32) × (Nat → Int32) × (Nat → Int32) × (Nat → Int32) := ((p137.1 : Int32), (p137.2.1 : Int32), (p137.2.2.1 : Int32), (p137.2.2.2.1 : Int32), (p137.2.2.2.2.1 : Int32), (p137.2.2.2.2.2.1 : Int32), (p137.2.2.2.2.2.2.1 : Int32), (p137.2.2.2.2.2.2.2.1 : (Nat → Int32)), (p137.2.2.2.2.2.2.2.2 : (Nat → Int32)), lx86, t4_0, f60)
def F_WR_shift_c331_4 (K_F_WR_shift_L189 : Int32 → Int32 → (Nat → Int32) → (Int32 × Int32 × Int32 × Int32 × Int32 × Int32 × Int32 × (Nat → Int32) × (Nat → Int32) × (Nat → Int32) × (Nat → Int32) × (Nat → Int32))) (x2 : Int32) (x3 : Int32) (x4 : Int32) (t0_0 : Int32) (t0_1 : Int32) (t0_2 : Int32) (t0_3 : Int32) (t0_4 : Int32) (t0_5 : Int32) (t0_6 : Int32) (t1_0 : (Nat → Int32)) (t2_0 : (Nat → Int32)) (t3_0 : (Nat → Int32)) (t4_0 : (Nat → Int32)) (t5_0 : (Nat → Int32)) (lx36 : Int32) (a67 : Int32) (f60 : (Nat → Int32)) (lx84 : Int32) (lx85 : Int32) (lx86 : (Nat → Int32)) (p185 : (Int32 × Int32 × Int32 × Int32 × Int32 × Int32 × Int32 × (Nat → Int32) × (Nat → Int32))) : Int32 × Int32 × Int32 × Int32 × Int32 × Int32 × Int32 × (Nat → Int32) × (Nat → Int32) × (Nat → Int32) × (Nat → Int32) × (Nat → Int32) := ((p185.1 : Int32), (p185.2.1 : Int32), (p185.2.2.1 : Int32), (p185.2.2.2.1 : Int32), (p185.2.2.2.2.1 : Int32), (p185.2.2.2.2.2.1 : Int32), (p185.2.2.2.2.2.2.1 : Int32), (p185.2.2.2.2.2.2.2.1 : (Nat → Int32)), (p185.2.2.2.2.2.2.2.2 : (Nat → Int32)), lx86, t4_0, f60)
def F_WR_shift_c331_5 (K_F_WR_shift_L189 : Int32 → Int32 → (Nat → Int32) → (Int32 × Int32 × Int32 × Int32 × Int32 × Int32 × Int32 × (Nat → Int32) × (Nat → Int32) × (Nat → Int32) × (Nat → Int32) × (Nat → Int32))) (x2 : Int32) (x3 : Int32) (x4 : Int32) (t0_0 : Int32) (t0_1 : Int32) (t0_2 : Int32) (t0_3 : Int32) (t0_4 : Int32) (t0_5 : Int32) (t0_6 : Int32) (t1_0 : (Nat → Int32)) (t2_0 : (Nat → Int32)) (t3_0 : (Nat → Int32)) (t4_0 : (Nat → Int32)) (t5_0 : (Nat → Int32)) (lx36 : Int32) (a67 : Int32) (f60 : (Nat → Int32)) (lx84 : Int32) (lx85 : Int32) (lx86 : (Nat → Int32)) (f213 : (Nat → Int32)) (f205 : (Nat → Int32)) (p247 : (Int32 × Int32 × Int32 × Int32 × Int32 × Int32 × Int32 × (Nat → Int32) × (Nat → Int32))) : Int32 × Int32 × Int32 × Int32 × Int32 × Int32 × Int32 × (Nat → Int32) × (Nat → Int32) × (Nat → Int32) × (Nat → Int32) × (Nat → Int32) := ((p247.1 : Int32), (p247.2.1 : Int32), (p247.2.2.1 : Int32), (p247.2.2.2.1 : Int32), (p247.2.2.2.2.1 : Int32), (p247.2.2.2.2.2.1 : Int32), (p247.2.2.2.2.2.2.1 : Int32), (p247.2.2.2.2.2.2.2.1 : (Nat → Int32)), (p247.2.2.2.2.2.2.2.2 : (Nat → Int32)), f213, f205, f60)
def F_WR_shift_J248 (K_F_WR_shift_L189 : Int32 → Int32 → (Nat → Int32) → (Int32 × Int32 × Int32 × Int32 × Int32 × Int32 × Int32 × (Nat → Int32) × (Nat → Int32) × (Nat → Int32) × (Nat → Int32) × (Nat → Int32))) (x2 : Int32) (x3 : Int32) (x4 : Int32) (t0_0 : Int32) (t0_1 : Int32) (t0_2 : Int32) (t0_3 : Int32) (t0_4 : Int32) (t0_5 : Int32) (t0_6 : Int32) (t1_0 : (Nat → Int32)) (t2_0 : (Nat → Int32)) (t3_0 : (Nat → Int32)) (t4_0 : (Nat → Int32)) (t5_0 : (Nat → Int32)) (lx36 : Int32) (a67 : Int32) (f60 : (Nat → Int32)) (lx84 : Int32) (lx85 : Int32) (lx86 : (Nat → Int32)) (j284 : Int64) (a275 : Int32) (lx287 : Int32) : Int32 × Int32 × Int32 × Int32 × Int32 × Int32 × Int32 × (Nat → Int32) × (Nat → Int32) × (Nat → Int32) × (Nat → Int32) × (Nat → Int32) := if (lg_cmp j284 0 : Int32) < (0 : Int32) then (K_F_WR_shift_L189 (lx84 + 1 : Int32) lx287 lx86) else (K_F_WR_shift_L189 (lx84 + 1 : Int32) lx287 (upd lx86 ((j284.toInt32 : Int32) / 16 : Int32).toNatClampNeg ((lx86 ((j284.toInt32 : Int32) / 16 : Int32).toNatClampNeg : Int32) ||| (a275 <<< (((j284.toInt32 : Int32) - (j284.toInt32 : Int32) / 16 * 16 : Int32) &&& 31) : Int32) : Int32) : (Nat → Int32)))
def F_WR_shift_J243 (K_F_WR_shift_L189 : Int32 → Int32 → (Nat → Int32) → (Int32 × Int32 × Int32 × Int32 × Int32 × Int32 × Int32 × (Nat → Int32) × (Nat → Int32) × (Nat → Int32) × (Nat → Int32) × (Nat → Int32))) (x2 : Int32) (x3 : Int32) (x4 : Int32) (t0_0 : Int32) (t0_1 : Int32) (t0_2 : Int32) (t0_3 : Int32) (t0_4 : Int32) (t0_5 : Int32) (t0_6 : Int32) (t1_0 : (Nat → Int32)) (t2_0 : (Nat → Int32)) (t3_0 : (Nat → Int32)) (t4_0 : (Nat → Int32)) (t5_0 : (Nat → Int32)) (lx36 : Int32) (a67 : Int32) (f60 : (Nat → Int32)) (lx84 : Int32) (lx85 : Int32) (lx86 : (Nat → Int32)) (j284 : Int64) (a275 : Int32) : Int32 × Int32 × Int32 × Int32 × Int32 × Int32 × Int32 × (Nat → Int32) × (Nat → Int32) × (Nat → Int32) × (Nat → Int32) × (Nat → Int32) := F_WR_shift_J248 K_F_WR_shift_L189 x2 x3 x4 t0_0 t0_1 t0_2 t0_3 t0_4 t0_5 t0_6 t1_0 t2_0 t3_0 t4_0 t5_0 lx36 a67 f60 lx84 lx85 lx86 j284 a275 1
def F_WR_shift_J247 (K_F_WR_shift_L189 : Int32 → Int32 → (Nat → Int32) → (Int32 × Int32 × Int32 × Int32 × Int32 × Int32 × Int32 × (Nat → Int32) × (Nat → Int32) × (Nat → Int32) × (Nat → Int32) × (Nat → Int32))) (x2 : Int32) (x3 : Int32) (x4 : Int32) (t0_0 : Int32) (t0_1 : Int32) (t0_2 : Int32) (t0_3 : Int32) (t0_4 : Int32) (t0_5 : Int32) (t0_6 : Int32) (t1_0 : (Nat → Int32)) (t2_0 : (Nat → Int32)) (t3_0 : (Nat → Int32)) (t4_0 : (Nat → Int32)) (t5_0 : (Nat → Int32)) (lx36 : Int32) (a67 : Int32) (f60 : (Nat → Int32)) (lx84 : Int32) (lx85 : Int32) (lx86 : (Nat → Int32)) (j284 : Int64) (a275 : Int32) : Int32 × Int32 × Int32 × Int32 × Int32 × Int32 × Int32 × (Nat → Int32) × (Nat → Int32) × (Nat → Int32) × (Nat → Int32) × (Nat → Int32) := F_WR_shift_J248 K_F_WR_shift_L189 x2 x3 x4 t0_0 t0_1 t0_2 t0_3 t0_4 t0_5 t0_6 t1_0 t2_0 t3_0 t4_0 t5_0 lx36 a67 f60 lx84 lx85 lx86 j284 a275 0
def F_WR_shift_L189 (x2 : Int32) (x3 : Int32) (x4 : Int32) (t0_0 : Int32) (t0_1 : Int32) (t0_2 : Int32) (t0_3 : Int32) (t0_4 : Int32) (t0_5 : Int32) (t0_6 : Int32) (t1_0 : (Nat → Int32)) (t2_0 : (Nat → Int32)) (t3_0 : (Nat → Int32)) (t4_0 : (Nat → Int32)) (t5_0 : (Nat → Int32)) (lx36 : Int32) (a67 : Int32) (f60 : (Nat → Int32)) : Nat → Int32 → Int32 → (Nat → Int32) → (Int32 × Int32 × Int32 × Int32 × Int32 × Int32 × Int32 × (Nat → Int32) × (Nat → Int32) × (Nat → Int32) × (Nat → Int32) × (Nat → Int32))
  | 0, _, _, _ => default
  | fm + 1, lx84, lx85, lx86 => if (2048 : Int32) ≤ lx84 then (if a67 = (0 : Int32) then (F_WR_shift_c331 (F_WR_shift_L189 x2 x3 x4 t0_0 t0_1 t0_2 t0_3 t0_4 t0_5 t0_6 t1_0 t2_0 t3_0 t4_0 t5_0 lx36 a67 f60 fm) x2 x3 x4 t0_0 t0_1 t0_2 t0_3 t0_4 t0_5 t0_6 t1_0 t2_0 t3_0 t4_0 t5_0 lx36 a67 f60 lx84 lx85 lx86 ((F_WR_store x4 lx36 (2 : Int32) t0_2 a67 t0_4 t0_5 t0_6 t1_0 t2_0 lx86) : (Int32 × Int32 × Int32 × Int32 × Int32 × Int32 × Int32 × (Nat → Int32) × (Nat → Int32)))) else (if lx85 = (0 : Int32) then (F_WR_shift_c331_4 (F_WR_shift_L189 x2 x3 x4 t0_0 t0_1 t0_2 t0_3 t0_4 t0_5 t0_6 t1_0 t2_0 t3_0 t4_0 t5_0 lx36 a67 f60 fm) x2 x3 x4 t0_0 t0_1 t0_2 t0_3 t0_4 t0_5 t0_6 t1_0 t2_0 t3_0 t4_0 t5_0 lx36 a67 f60 lx84 lx85 lx86 ((F_WR_store x4 lx36 (2 : Int32) t0_2 a67 t0_4 t0_5 t0_6 t1_0 t2_0 lx86) : (Int32 × Int32 × Int32 × Int32 × Int32 × Int32 × Int32 × (Nat → Int32) × (Nat → Int32)))) else (F_WR_shift_c331_5 (F_WR_shift_L189 x2 x3 x4 t0_0 t0_1 t0_2 t0_3 t0_4 t0_5 t0_6 t1_0 t2_0 t3_0 t4_0 t5_0 lx36 a67 f60 fm) x2 x3 x4 t0_0 t0_1 t0_2 t0_3 t0_4 t0_5 t0_6 t1_0 t2_0 t3_0 t4_0 t5_0 lx36 a67 f60 lx84 lx85 lx86 ((F_WR_join (264 : Int32) (264 : Int32) (1 : Int32) (1 : Int64) (0 : Int32) lx86 ((F_WR_setOne (264 : Int32) lx36 (2 : Int32) t0_2 a67 t0_4 t0_5 t0_6 t4_0) : (Nat → Int32))) : (Nat → Int32)) ((F_WR_setOne (264 : Int32) lx36 (2 : Int32) t0_2 a67 t0_4 t0_5 t0_6 t4_0) : (Nat → Int32)) ((F_WR_store x4 lx36 (2 : Int32) t0_2 a67 t0_4 t0_5 t0_6 t1_0 t2_0 ((F_WR_join (264 : Int32) (264 : Int32) (1 : Int32) (1 : Int64) (0 : Int32) lx86 ((F_WR_setOne (264 : Int32) lx36 (2 : Int32) t0_2 a67 t0_4 t0_5 t0_6 t4_0) : (Nat → Int32))) : (Nat → Int32))) : (Int32 × Int32 × Int32 × Int32 × Int32 × Int32 × Int32 × (Nat → Int32) × (Nat → Int32)))))) else (if lx85 = (0 : Int32) then (if (((f60 (lx84 / 16 : Int32).toNatClampNeg : Int32) >>> ((lx84 - lx84 / 16 * 16 : Int32) &&& 31) : Int32) &&& 1 : Int32) = (1 : Int32) then (if (0 : Int32) ≤ (lg_cmp ((lx84.toInt64 : Int64) + (x3.toInt64 : Int64) : Int64) 0 : Int32) then (F_WR_shift_J247 (F_WR_shift_L189 x2 x3 x4 t0_0 t0_1 t0_2 t0_3 t0_4 t0_5 t0_6 t1_0 t2_0 t3_0 t4_0 t5_0 lx36 a67 f60 fm) x2 x3 x4 t0_0 t0_1 t0_2 t0_3 t0_4 t0_5 t0_6 t1_0 t2_0 t3_0 t4_0 t5_0 lx36 a67 f60 lx84 lx85 lx86 ((lx84.toInt64 : Int64) + (x3.toInt64 : Int64) : Int64) (((f60 (lx84 / 16 : Int32).toNatClampNeg : Int32) >>> ((lx84 - lx84 / 16 * 16 : Int32) &&& 31) : Int32) &&& 1 : Int32)) else (F_WR_shift_J243 (F_WR_shift_L189 x2 x3 x4 t0_0 t0_1 t0_2 t0_3 t0_4 t0_5 t0_6 t1_0 t2_0 t3_0 t4_0 t5_0 lx36 a67 f60 fm) x2 x3 x4 t0_0 t0_1 t0_2 t0_3 t0_4 t0_5 t0_6 t1_0 t2_0 t3_0 t4_0 t5_0 lx36 a67 f60 lx84 lx85 lx86 ((lx84.toInt64 : Int64) + (x3.toInt64 : Int64) : Int64) (((f60 (lx84 / 16 : Int32).toNatClampNeg : Int32) >>> ((lx84 - lx84 / 16 * 16 : Int32) &&& 31) : Int32) &&& 1 : Int32))) else (F_WR_shift_J247 (F_WR_shift_L189 x2 x3 x4 t0_0 t0_1 t0_2 t0_3 t0_4 t0_5 t0_6 t1_0 t2_0 t3_0 t4_0 t5_0 lx36 a67 f60 fm) x2 x3 x4 t0_0 t0_1 t0_2 t0_3 t0_4 t0_5 t0_6 t1_0 t2_0 t3_0 t4_0 t5_0 lx36 a67 f60 lx84 lx85 lx86 ((lx84.toInt64 : Int64) + (x3.toInt64 : Int64) : Int64) (((f60 (lx84 / 16 : Int32).toNatClampNeg : Int32) >>> ((lx84 - lx84 / 16 * 16 : Int32) &&& 31) : Int32) &&& 1 : Int32))) else (F_WR_shift_J243 (F_WR_shift_L189 x2 x3 x4 t0_0 t0_1 t0_2 t0_3 t0_4 t0_5 t0_6 t1_0 t2_0 t3_0 t4_0 t5_0 lx36 a67 f60 fm) x2 x3 x4 t0_0 t0_1 t0_2 t0_3 t0_4 t0_5 t0_6 t1_0 t2_0 t3_0 t4_0 t5_0 lx36 a67 f60 lx84 lx85 lx86 ((lx84.toInt64 : Int64) + (x3.toInt64 : Int64) : Int64) (((f60 (lx84 / 16 : Int32).toNatClampNeg : Int32) >>> ((lx84 - lx84 / 16 * 16 : Int32) &&& 31) : Int32) &&& 1 : Int32)))
def F_WR_shift_c179 (K_F_WR_shift_L92 : Int32 → (Nat → Int32) → (Int32 × Int32 × Int32 × Int32 × Int32 × Int32 × Int32 × (Nat → Int32) × (Nat → Int32) × (Nat → Int32) × (Nat → Int32) × (Nat → Int32))) (x2 : Int32) (x3 : Int32) (x4 : Int32) (t0_0 : Int32) (t0_1 : Int32) (t0_2 : Int32) (t0_3 : Int32) (t0_4 : Int32) (t0_5 : Int32) (t0_6 : Int32) (t1_0 : (Nat → Int32)) (t2_0 : (Nat → Int32)) (t3_0 : (Nat → Int32)) (t4_0 : (Nat → Int32)) (t5_0 : (Nat → Int32)) (lx36 : Int32) (a67 : Int32) (f75 : (Nat → Int32)) (f60 : (Nat → Int32)) (lx396 : Int32) (lx397 : (Nat → Int32)) (p451 : (Int32 × Int32 × Int32 × Int32 × Int32 × Int32 × Int32 × (Nat → Int32) × (Nat → Int32))) : Int32 × Int32 × Int32 × Int32 × Int32 × Int32 × Int32 × (Nat → Int32) × (Nat → Int32) × (Nat → Int32) × (Nat → Int32) × (Nat → Int32) := ((p451.1 : Int32), (p451.2.1 : Int32), (p451.2.2.1 : Int32), (p451.2.2.2.1 : Int32), (p451.2.2.2.2.1 : Int32), (p451.2.2.2.2.2.1 : Int32), (p451.2.2.2.2.2.2.1 : Int32), (p451.2.2.2.2.2.2.2.1 : (Nat → Int32)), (p451.2.2.2.2.2.2.2.2 : (Nat → Int32)), lx397, t4_0, f60)
def F_WR_shift_L92 (x2 : Int32) (x3 : Int32) (x4 : Int32) (t0_0 : Int32) (t0_1 : Int32) (t0_2 : Int32) (t0_3 : Int32) (t0_4 : Int32) (t0_5 : Int32) (t0_6 : Int32) (t1_0 : (Nat → Int32)) (t2_0 : (Nat → Int32)) (t3_0 : (Nat → Int32)) (t4_0 : (Nat → Int32)) (t5_0 : (Nat → Int32)) (lx36 : Int32) (a67 : Int32) (f75 : (Nat → Int32)) (f60 : (Nat → Int32)) : Nat → Int32 → (Nat → Int32) → (Int32 × Int32 × Int32 × Int32 × Int32 × Int32 × Int32 × (Nat → Int32) × (Nat → Int32) × (Nat → Int32) × (Nat → Int32) × (Nat → Int32))
  | 0, _, _ => default
  | fm + 1, lx396, lx397 => if ((F_WR_size (264 : Int32) f60) : Int32) ≤ lx396 then (F_WR_shift_c179 (F_WR_shift_L92 x2 x3 x4 t0_0 t0_1 t0_2 t0_3 t0_4 t0_5 t0_6 t1_0 t2_0 t3_0 t4_0 t5_0 lx36 a67 f75 f60 fm) x2 x3 x4 t0_0 t0_1 t0_2 t0_3 t0_4 t0_5 t0_6 t1_0 t2_0 t3_0 t4_0 t5_0 lx36 a67 f75 f60 lx396 lx397 ((F_WR_store x4 lx36 (2 : Int32) t0_2 a67 t0_4 t0_5 t0_6 t1_0 t2_0 lx397) : (Int32 × Int32 × Int32 × Int32 × Int32 × Int32 × Int32 × (Nat → Int32) × (Nat → Int32)))) else (F_WR_shift_L92 x2 x3 x4 t0_0 t0_1 t0_2 t0_3 t0_4 t0_5 t0_6 t1_0 t2_0 t3_0 t4_0 t5_0 lx36 a67 f75 f60 fm (lx396 + 1 : Int32) (upd (upd lx397 (lx396 + (x3 / 16 : Int32) : Int32).toNatClampNeg ((lx397 (lx396 + (x3 / 16 : Int32) : Int32).toNatClampNeg : Int32) ||| (((((f60 lx396.toNatClampNeg : Int32).toInt64 : Int64) <<< ((x3 - x3 / 16 * 16 : Int32).toInt64 &&& 63) : Int64) &&& 65535 : Int64).toInt32 : Int32) : Int32) : (Nat → Int32)) ((lx396 + (x3 / 16 : Int32) : Int32) + 1 : Int32).toNatClampNeg (((((f60 lx396.toNatClampNeg : Int32).toInt64 : Int64) <<< ((x3 - x3 / 16 * 16 : Int32).toInt64 &&& 63) : Int64) >>> ((16 : Int32).toInt64 &&& 63) : Int64).toInt32 : Int32) : (Nat → Int32)))
def F_WR_shift_J89 (x2 : Int32) (x3 : Int32) (x4 : Int32) (t0_0 : Int32) (t0_1 : Int32) (t0_2 : Int32) (t0_3 : Int32) (t0_4 : Int32) (t0_5 : Int32) (t0_6 : Int32) (t1_0 : (Nat → Int32)) (t2_0 : (Nat → Int32)) (t3_0 : (Nat → Int32)) (t4_0 : (Nat → Int32)) (t5_0 : (Nat → Int32)) (lx36 : Int32) (a67 : Int32) (f75 : (Nat → Int32)) (f60 : (Nat → Int32)) : Int32 × Int32 × Int32 × Int32 × Int32 × Int32 × Int32 × (Nat → Int32) × (Nat → Int32) × (Nat → Int32) × (Nat → Int32) × (Nat → Int32) := F_WR_shift_L92 x2 x3 x4 t0_0 t0_1 t0_2 t0_3 t0_4 t0_5 t0_6 t1_0 t2_0 t3_0 t4_0 t5_0 lx36 a67 f75 f60 ((2100 - (0 : Int32).toInt).toNat + 1) 0 f75
def F_WR_shift_J20 (x2 : Int32) (x3 : Int32) (x4 : Int32) (t0_0 : Int32) (t0_1 : Int32) (t0_2 : Int32) (t0_3 : Int32) (t0_4 : Int32) (t0_5 : Int32) (t0_6 : Int32) (t1_0 : (Nat → Int32)) (t2_0 : (Nat → Int32)) (t3_0 : (Nat → Int32)) (t4_0 : (Nat → Int32)) (t5_0 : (Nat → Int32)) (lx36 : Int32) : Int32 × Int32 × Int32 × Int32 × Int32 × Int32 × Int32 × (Nat → Int32) × (Nat → Int32) × (Nat → Int32) × (Nat → Int32) × (Nat → Int32) := if lx36 ≤ (0 : Int32) then (if x3 < (0 : Int32) then (F_WR_shift_L189 x2 x3 x4 t0_0 t0_1 t0_2 t0_3 t0_4 t0_5 t0_6 t1_0 t2_0 t3_0 t4_0 t5_0 lx36 (t2_0 x2.toNatClampNeg : Int32) ((F_WR_take x2 (264 : Int32) lx36 (2 : Int32) t0_2 t0_3 t0_4 t0_5 t0_6 t1_0 t5_0) : (Nat → Int32)) ((2048 - (0 : Int32).toInt).toNat + 1) 0 0 ((F_WR_clear (264 : Int32) t3_0) : (Nat → Int32))) else (if x3 ≤ (2048 : Int32) then (F_WR_shift_J89 x2 x3 x4 t0_0 t0_1 t0_2 t0_3 t0_4 t0_5 t0_6 t1_0 t2_0 t3_0 t4_0 t5_0 lx36 (t2_0 x2.toNatClampNeg : Int32) ((F_WR_clear (264 : Int32) t3_0) : (Nat → Int32)) ((F_WR_take x2 (264 : Int32) lx36 (2 : Int32) t0_2 t0_3 t0_4 t0_5 t0_6 t1_0 t5_0) : (Nat → Int32))) else (if ((F_WR_size (264 : Int32) ((F_WR_take x2 (264 : Int32) lx36 (2 : Int32) t0_2 t0_3 t0_4 t0_5 t0_6 t1_0 t5_0) : (Nat → Int32))) : Int32) ≤ (0 : Int32) then (F_WR_shift_J89 x2 x3 x4 t0_0 t0_1 t0_2 t0_3 t0_4 t0_5 t0_6 t1_0 t2_0 t3_0 t4_0 t5_0 lx36 (t2_0 x2.toNatClampNeg : Int32) ((F_WR_clear (264 : Int32) t3_0) : (Nat → Int32)) ((F_WR_take x2 (264 : Int32) lx36 (2 : Int32) t0_2 t0_3 t0_4 t0_5 t0_6 t1_0 t5_0) : (Nat → Int32))) else (((2 : Int32), (2 : Int32), t0_2, (t2_0 x2.toNatClampNeg : Int32), t0_4, t0_5, t0_6, t1_0, t2_0, ((F_WR_clear (264 : Int32) t3_0) : (Nat → Int32)), t4_0, ((F_WR_take x2 (264 : Int32) lx36 (2 : Int32) t0_2 t0_3 t0_4 t0_5 t0_6 t1_0 t5_0) : (Nat → Int32))))))) else ((lx36, t0_1, t0_2, t0_3, t0_4, t0_5, t0_6, t1_0, t2_0, t3_0, t4_0, t5_0))
def F_WR_shift_J15 (x2 : Int32) (x3 : Int32) (x4 : Int32) (t0_0 : Int32) (t0_1 : Int32) (t0_2 : Int32) (t0_3 : Int32) (t0_4 : Int32) (t0_5 : Int32) (t0_6 : Int32) (t1_0 : (Nat → Int32)) (t2_0 : (Nat → Int32)) (t3_0 : (Nat → Int32)) (t4_0 : (Nat → Int32)) (t5_0 : (Nat → Int32)) : Int32 × Int32 × Int32 × Int32 × Int32 × Int32 × Int32 × (Nat → Int32) × (Nat → Int32) × (Nat → Int32) × (Nat → Int32) × (Nat → Int32) := F_WR_shift_J20 x2 x3 x4 t0_0 t0_1 t0_2 t0_3 t0_4 t0_5 t0_6 t1_0 t2_0 t3_0 t4_0 t5_0 1
def F_WR_shift (x2 : Int32) (x3 : Int32) (x4 : Int32) (t0_0 : Int32) (t0_1 : Int32) (t0_2 : Int32) (t0_3 : Int32) (t0_4 : Int32) (t0_5 : Int32) (t0_6 : Int32) (t1_0 : (Nat → Int32)) (t2_0 : (Nat → Int32)) (t3_0 : (Nat → Int32)) (t4_0 : (Nat → Int32)) (t5_0 : (Nat → Int32)) : Int32 × Int32 × Int32 × Int32 × Int32 × Int32 × Int32 × (Nat → Int32) × (Nat → Int32) × (Nat → Int32) × (Nat → Int32) × (Nat → Int32) := if ((F_WR_no x2) : Int32) = (0 : Int32) then (if ((F_WR_no x4) : Int32) = (0 : Int32) then (F_WR_shift_J20 x2 x3 x4 t0_0 t0_1 t0_2 t0_3 t0_4 t0_5 t0_6 t1_0 t2_0 t3_0 t4_0 t5_0 0) else (F_WR_shift_J15 x2 x3 x4 t0_0 t0_1 t0_2 t0_3 t0_4 t0_5 t0_6 t1_0 t2_0 t3_0 t4_0 t5_0)) else (F_WR_shift_J15 x2 x3 x4 t0_0 t0_1 t0_2 t0_3 t0_4 t0_5 t0_6 t1_0 t2_0 t3_0 t4_0 t5_0)
def S_WR_shift_c331 (K_S_WR_shift_L189 : Int32 → Int32 → (Nat → Int32) → Prop) (x2 : Int32) (x3 : Int32) (x4 : Int32) (t0_0 : Int32) (t0_1 : Int32) (t0_2 : Int32) (t0_3 : Int32) (t0_4 : Int32) (t0_5 : Int32) (t0_6 : Int32) (t1_0 : (Nat → Int32)) (t2_0 : (Nat → Int32)) (t3_0 : (Nat → Int32)) (t4_0 : (Nat → Int32)) (t5_0 : (Nat → Int32)) (lx36 : Int32) (a67 : Int32) (f60 : (Nat → Int32)) (lx84 : Int32) (lx85 : Int32) (lx86 : (Nat → Int32)) (p137 : (Int32 × Int32 × Int32 × Int32 × Int32 × Int32 × Int32 × (Nat → Int32) × (Nat → Int32))) : Prop := True
def S_WR_shift_c331_4 (K_S_WR_shift_L189 : Int32 → Int32 → (Nat → Int32) → Prop) (x2 : Int32) (x3 : Int32) (x4 : Int32) (t0_0 : Int32) (t0_1 : Int32) (t0_2 : Int32) (t0_3 : Int32) (t0_4 : Int32) (t0_5 : Int32) (t0_6 : Int32) (t1_0 : (Nat → Int32)) (t2_0 : (Nat → Int32)) (t3_0 : (Nat → Int32)) (t4_0 : (Nat → Int32)) (t5_0 : (Nat → Int32)) (lx36 : Int32) (a67 : Int32) (f60 : (Nat → Int32)) (lx84 : Int32) (lx85 : Int32) (lx86 : (Nat → Int32)) (p185 : (Int32 × Int32 × Int32 × Int32 × Int32 × Int32 × Int32 × (Nat → Int32) × (Nat → Int32))) : Prop := True
def S_WR_shift_c331_5 (K_S_WR_shift_L189 : Int32 → Int32 → (Nat → Int32) → Prop) (x2 : Int32) (x3 : Int32) (x4 : Int32) (t0_0 : Int32) (t0_1 : Int32) (t0_2 : Int32) (t0_3 : Int32) (t0_4 : Int32) (t0_5 : Int32) (t0_6 : Int32) (t1_0 : (Nat → Int32)) (t2_0 : (Nat → Int32)) (t3_0 : (Nat → Int32)) (t4_0 : (Nat → Int32)) (t5_0 : (Nat → Int32)) (lx36 : Int32) (a67 : Int32) (f60 : (Nat → Int32)) (lx84 : Int32) (lx85 : Int32) (lx86 : (Nat → Int32)) (f213 : (Nat → Int32)) (f205 : (Nat → Int32)) (p247 : (Int32 × Int32 × Int32 × Int32 × Int32 × Int32 × Int32 × (Nat → Int32) × (Nat → Int32))) : Prop := True
def S_WR_shift_J248 (K_S_WR_shift_L189 : Int32 → Int32 → (Nat → Int32) → Prop) (x2 : Int32) (x3 : Int32) (x4 : Int32) (t0_0 : Int32) (t0_1 : Int32) (t0_2 : Int32) (t0_3 : Int32) (t0_4 : Int32) (t0_5 : Int32) (t0_6 : Int32) (t1_0 : (Nat → Int32)) (t2_0 : (Nat → Int32)) (t3_0 : (Nat → Int32)) (t4_0 : (Nat → Int32)) (t5_0 : (Nat → Int32)) (lx36 : Int32) (a67 : Int32) (f60 : (Nat → Int32)) (lx84 : Int32) (lx85 : Int32) (lx86 : (Nat → Int32)) (j284 : Int64) (a275 : Int32) (lx287 : Int32) : Prop := if (lg_cmp j284 0 : Int32) < (0 : Int32) then (K_S_WR_shift_L189 (lx84 + 1 : Int32) lx287 lx86) else ((0 ≤ ((j284.toInt32 : Int32) / 16 : Int32).toInt) ∧ ((((j284.toInt32 : Int32) / 16 : Int32).toInt ≤ 263) ∧ ((0 ≤ ((j284.toInt32 : Int32) / 16 : Int32).toInt) ∧ ((((j284.toInt32 : Int32) / 16 : Int32).toInt ≤ 263) ∧ (K_S_WR_shift_L189 (lx84 + 1 : Int32) lx287 (upd lx86 ((j284.toInt32 : Int32) / 16 : Int32).toNatClampNeg ((lx86 ((j284.toInt32 : Int32) / 16 : Int32).toNatClampNeg : Int32) ||| (a275 <<< (((j284.toInt32 : Int32) - (j284.toInt32 : Int32) / 16 * 16 : Int32) &&& 31) : Int32) : Int32) : (Nat → Int32)))))))
def S_WR_shift_J243 (K_S_WR_shift_L189 : Int32 → Int32 → (Nat → Int32) → Prop) (x2 : Int32) (x3 : Int32) (x4 : Int32) (t0_0 : Int32) (t0_1 : Int32) (t0_2 : Int32) (t0_3 : Int32) (t0_4 : Int32) (t0_5 : Int32) (t0_6 : Int32) (t1_0 : (Nat → Int32)) (t2_0 : (Nat → Int32)) (t3_0 : (Nat → Int32)) (t4_0 : (Nat → Int32)) (t5_0 : (Nat → Int32)) (lx36 : Int32) (a67 : Int32) (f60 : (Nat → Int32)) (lx84 : Int32) (lx85 : Int32) (lx86 : (Nat → Int32)) (j284 : Int64) (a275 : Int32) : Prop := S_WR_shift_J248 K_S_WR_shift_L189 x2 x3 x4 t0_0 t0_1 t0_2 t0_3 t0_4 t0_5 t0_6 t1_0 t2_0 t3_0 t4_0 t5_0 lx36 a67 f60 lx84 lx85 lx86 j284 a275 1
def S_WR_shift_J247 (K_S_WR_shift_L189 : Int32 → Int32 → (Nat → Int32) → Prop) (x2 : Int32) (x3 : Int32) (x4 : Int32) (t0_0 : Int32) (t0_1 : Int32) (t0_2 : Int32) (t0_3 : Int32) (t0_4 : Int32) (t0_5 : Int32) (t0_6 : Int32) (t1_0 : (Nat → Int32)) (t2_0 : (Nat → Int32)) (t3_0 : (Nat → Int32)) (t4_0 : (Nat → Int32)) (t5_0 : (Nat → Int32)) (lx36 : Int32) (a67 : Int32) (f60 : (Nat → Int32)) (lx84 : Int32) (lx85 : Int32) (lx86 : (Nat → Int32)) (j284 : Int64) (a275 : Int32) : Prop := S_WR_shift_J248 K_S_WR_shift_L189 x2 x3 x4 t0_0 t0_1 t0_2 t0_3 t0_4 t0_5 t0_6 t1_0 t2_0 t3_0 t4_0 t5_0 lx36 a67 f60 lx84 lx85 lx86 j284 a275 0
def S_WR_shift_L189 (x2 : Int32) (x3 : Int32) (x4 : Int32) (t0_0 : Int32) (t0_1 : Int32) (t0_2 : Int32) (t0_3 : Int32) (t0_4 : Int32) (t0_5 : Int32) (t0_6 : Int32) (t1_0 : (Nat → Int32)) (t2_0 : (Nat → Int32)) (t3_0 : (Nat → Int32)) (t4_0 : (Nat → Int32)) (t5_0 : (Nat → Int32)) (lx36 : Int32) (a67 : Int32) (f60 : (Nat → Int32)) : Nat → Int32 → Int32 → (Nat → Int32) → Prop
  | 0, _, _, _ => False
  | fm + 1, lx84, lx85, lx86 => if (2048 : Int32) ≤ lx84 then (if a67 = (0 : Int32) then ((True ∧ S_WR_store x4 lx36 (2 : Int32) t0_2 a67 t0_4 t0_5 t0_6 t1_0 t2_0 lx86) ∧ (S_WR_shift_c331 (S_WR_shift_L189 x2 x3 x4 t0_0 t0_1 t0_2 t0_3 t0_4 t0_5 t0_6 t1_0 t2_0 t3_0 t4_0 t5_0 lx36 a67 f60 fm) x2 x3 x4 t0_0 t0_1 t0_2 t0_3 t0_4 t0_5 t0_6 t1_0 t2_0 t3_0 t4_0 t5_0 lx36 a67 f60 lx84 lx85 lx86 ((F_WR_store x4 lx36 (2 : Int32) t0_2 a67 t0_4 t0_5 t0_6 t1_0 t2_0 lx86) : (Int32 × Int32 × Int32 × Int32 × Int32 × Int32 × Int32 × (Nat → Int32) × (Nat → Int32))))) else (if lx85 = (0 : Int32) then ((True ∧ S_WR_store x4 lx36 (2 : Int32) t0_2 a67 t0_4 t0_5 t0_6 t1_0 t2_0 lx86) ∧ (S_WR_shift_c331_4 (S_WR_shift_L189 x2 x3 x4 t0_0 t0_1 t0_2 t0_3 t0_4 t0_5 t0_6 t1_0 t2_0 t3_0 t4_0 t5_0 lx36 a67 f60 fm) x2 x3 x4 t0_0 t0_1 t0_2 t0_3 t0_4 t0_5 t0_6 t1_0 t2_0 t3_0 t4_0 t5_0 lx36 a67 f60 lx84 lx85 lx86 ((F_WR_store x4 lx36 (2 : Int32) t0_2 a67 t0_4 t0_5 t0_6 t1_0 t2_0 lx86) : (Int32 × Int32 × Int32 × Int32 × Int32 × Int32 × Int32 × (Nat → Int32) × (Nat → Int32))))) else ((True ∧ S_WR_setOne (264 : Int32) lx36 (2 : Int32) t0_2 a67 t0_4 t0_5 t0_6 t4_0) ∧ ((True ∧ S_WR_join (264 : Int32) (264 : Int32) (1 : Int32) (1 : Int64) (0 : Int32) lx86 ((F_WR_setOne (264 : Int32) lx36 (2 : Int32) t0_2 a67 t0_4 t0_5 t0_6 t4_0) : (Nat → Int32))) ∧ ((True ∧ S_WR_store x4 lx36 (2 : Int32) t0_2 a67 t0_4 t0_5 t0_6 t1_0 t2_0 ((F_WR_join (264 : Int32) (264 : Int32) (1 : Int32) (1 : Int64) (0 : Int32) lx86 ((F_WR_setOne (264 : Int32) lx36 (2 : Int32) t0_2 a67 t0_4 t0_5 t0_6 t4_0) : (Nat → Int32))) : (Nat → Int32))) ∧ (S_WR_shift_c331_5 (S_WR_shift_L189 x2 x3 x4 t0_0 t0_1 t0_2 t0_3 t0_4 t0_5 t0_6 t1_0 t2_0 t3_0 t4_0 t5_0 lx36 a67 f60 fm) x2 x3 x4 t0_0 t0_1 t0_2 t0_3 t0_4 t0_5 t0_6 t1_0 t2_0 t3_0 t4_0 t5_0 lx36 a67 f60 lx84 lx85 lx86 ((F_WR_join (264 : Int32) (264 : Int32) (1 : Int32) (1 : Int64) (0 : Int32) lx86 ((F_WR_setOne (264 : Int32) lx36 (2 : Int32) t0_2 a67 t0_4 t0_5 t0_6 t4_0) : (Nat → Int32))) : (Nat → Int32)) ((F_WR_setOne (264 : Int32) lx36 (2 : Int32) t0_2 a67 t0_4 t0_5 t0_6 t4_0) : (Nat → Int32)) ((F_WR_store x4 lx36 (2 : Int32) t0_2 a67 t0_4 t0_5 t0_6 t1_0 t2_0 ((F_WR_join (264 : Int32) (264 : Int32) (1 : Int32) (1 : Int64) (0 : Int32) lx86 ((F_WR_setOne (264 : Int32) lx36 (2 : Int32) t0_2 a67 t0_4 t0_5 t0_6 t4_0) : (Nat → Int32))) : (Nat → Int32))) : (Int32 × Int32 × Int32 × Int32 × Int32 × Int32 × Int32 × (Nat → Int32) × (Nat → Int32))))))))) else ((0 ≤ (lx84 / 16 : Int32).toInt) ∧ (if lx85 = (0 : Int32) then (if (((f60 (lx84 / 16 : Int32).toNatClampNeg : Int32) >>> ((lx84 - lx84 / 16 * 16 : Int32) &&& 31) : Int32) &&& 1 : Int32) = (1 : Int32) then (if (0 : Int32) ≤ (lg_cmp ((lx84.toInt64 : Int64) + (x3.toInt64 : Int64) : Int64) 0 : Int32) then (S_WR_shift_J247 (S_WR_shift_L189 x2 x3 x4 t0_0 t0_1 t0_2 t0_3 t0_4 t0_5 t0_6 t1_0 t2_0 t3_0 t4_0 t5_0 lx36 a67 f60 fm) x2 x3 x4 t0_0 t0_1 t0_2 t0_3 t0_4 t0_5 t0_6 t1_0 t2_0 t3_0 t4_0 t5_0 lx36 a67 f60 lx84 lx85 lx86 ((lx84.toInt64 : Int64) + (x3.toInt64 : Int64) : Int64) (((f60 (lx84 / 16 : Int32).toNatClampNeg : Int32) >>> ((lx84 - lx84 / 16 * 16 : Int32) &&& 31) : Int32) &&& 1 : Int32)) else (S_WR_shift_J243 (S_WR_shift_L189 x2 x3 x4 t0_0 t0_1 t0_2 t0_3 t0_4 t0_5 t0_6 t1_0 t2_0 t3_0 t4_0 t5_0 lx36 a67 f60 fm) x2 x3 x4 t0_0 t0_1 t0_2 t0_3 t0_4 t0_5 t0_6 t1_0 t2_0 t3_0 t4_0 t5_0 lx36 a67 f60 lx84 lx85 lx86 ((lx84.toInt64 : Int64) + (x3.toInt64 : Int64) : Int64) (((f60 (lx84 / 16 : Int32).toNatClampNeg : Int32) >>> ((lx84 - lx84 / 16 * 16 : Int32) &&& 31) : Int32) &&& 1 : Int32))) else (S_WR_shift_J247 (S_WR_shift_L189 x2 x3 x4 t0_0 t0_1 t0_2 t0_3 t0_4 t0_5 t0_6 t1_0 t2_0 t3_0 t4_0 t5_0 lx36 a67 f60 fm) x2 x3 x4 t0_0 t0_1 t0_2 t0_3 t0_4 t0_5 t0_6 t1_0 t2_0 t3_0 t4_0 t5_0 lx36 a67 f60 lx84 lx85 lx86 ((lx84.toInt64 : Int64) + (x3.toInt64 : Int64) : Int64) (((f60 (lx84 / 16 : Int32).toNatClampNeg : Int32) >>> ((lx84 - lx84 / 16 * 16 : Int32) &&& 31) : Int32) &&& 1 : Int32))) else (S_WR_shift_J243 (S_WR_shift_L189 x2 x3 x4 t0_0 t0_1 t0_2 t0_3 t0_4 t0_5 t0_6 t1_0 t2_0 t3_0 t4_0 t5_0 lx36 a67 f60 fm) x2 x3 x4 t0_0 t0_1 t0_2 t0_3 t0_4 t0_5 t0_6 t1_0 t2_0 t3_0 t4_0 t5_0 lx36 a67 f60 lx84 lx85 lx86 ((lx84.toInt64 : Int64) + (x3.toInt64 : Int64) : Int64) (((f60 (lx84 / 16 : Int32).toNatClampNeg : Int32) >>> ((lx84 - lx84 / 16 * 16 : Int32) &&& 31) : Int32) &&& 1 : Int32))))
def S_WR_shift_c179 (K_S_WR_shift_L92 : Int32 → (Nat → Int32) → Prop) (x2 : Int32) (x3 : Int32) (x4 : Int32) (t0_0 : Int32) (t0_1 : Int32) (t0_2 : Int32) (t0_3 : Int32) (t0_4 : Int32) (t0_5 : Int32) (t0_6 : Int32) (t1_0 : (Nat → Int32)) (t2_0 : (Nat → Int32)) (t3_0 : (Nat → Int32)) (t4_0 : (Nat → Int32)) (t5_0 : (Nat → Int32)) (lx36 : Int32) (a67 : Int32) (f75 : (Nat → Int32)) (f60 : (Nat → Int32)) (lx396 : Int32) (lx397 : (Nat → Int32)) (p451 : (Int32 × Int32 × Int32 × Int32 × Int32 × Int32 × Int32 × (Nat → Int32) × (Nat → Int32))) : Prop := True
def S_WR_shift_L92 (x2 : Int32) (x3 : Int32) (x4 : Int32) (t0_0 : Int32) (t0_1 : Int32) (t0_2 : Int32) (t0_3 : Int32) (t0_4 : Int32) (t0_5 : Int32) (t0_6 : Int32) (t1_0 : (Nat → Int32)) (t2_0 : (Nat → Int32)) (t3_0 : (Nat → Int32)) (t4_0 : (Nat → Int32)) (t5_0 : (Nat → Int32)) (lx36 : Int32) (a67 : Int32) (f75 : (Nat → Int32)) (f60 : (Nat → Int32)) : Nat → Int32 → (Nat → Int32) → Prop
  | 0, _, _ => False
  | fm + 1, lx396, lx397 => if ((F_WR_size (264 : Int32) f60) : Int32) ≤ lx396 then ((True ∧ S_WR_store x4 lx36 (2 : Int32) t0_2 a67 t0_4 t0_5 t0_6 t1_0 t2_0 lx397) ∧ (S_WR_shift_c179 (S_WR_shift_L92 x2 x3 x4 t0_0 t0_1 t0_2 t0_3 t0_4 t0_5 t0_6 t1_0 t2_0 t3_0 t4_0 t5_0 lx36 a67 f75 f60 fm) x2 x3 x4 t0_0 t0_1 t0_2 t0_3 t0_4 t0_5 t0_6 t1_0 t2_0 t3_0 t4_0 t5_0 lx36 a67 f75 f60 lx396 lx397 ((F_WR_store x4 lx36 (2 : Int32) t0_2 a67 t0_4 t0_5 t0_6 t1_0 t2_0 lx397) : (Int32 × Int32 × Int32 × Int32 × Int32 × Int32 × Int32 × (Nat → Int32) × (Nat → Int32))))) else (((lx396 + (x3 / 16 : Int32) : Int32).toInt ≤ 263) ∧ ((0 ≤ ((lx396 + (x3 / 16 : Int32) : Int32) + 1 : Int32).toInt) ∧ ((((lx396 + (x3 / 16 : Int32) : Int32) + 1 : Int32).toInt ≤ 263) ∧ (S_WR_shift_L92 x2 x3 x4 t0_0 t0_1 t0_2 t0_3 t0_4 t0_5 t0_6 t1_0 t2_0 t3_0 t4_0 t5_0 lx36 a67 f75 f60 fm (lx396 + 1 : Int32) (upd (upd lx397 (lx396 + (x3 / 16 : Int32) : Int32).toNatClampNeg ((lx397 (lx396 + (x3 / 16 : Int32) : Int32).toNatClampNeg : Int32) ||| (((((f60 lx396.toNatClampNeg : Int32).toInt64 : Int64) <<< ((x3 - x3 / 16 * 16 : Int32).toInt64 &&& 63) : Int64) &&& 65535 : Int64).toInt32 : Int32) : Int32) : (Nat → Int32)) ((lx396 + (x3 / 16 : Int32) : Int32) + 1 : Int32).toNatClampNeg (((((f60 lx396.toNatClampNeg : Int32).toInt64 : Int64) <<< ((x3 - x3 / 16 * 16 : Int32).toInt64 &&& 63) : Int64) >>> ((16 : Int32).toInt64 &&& 63) : Int64).toInt32 : Int32) : (Nat → Int32))))))
def S_WR_shift_J89 (x2 : Int32) (x3 : Int32) (x4 : Int32) (t0_0 : Int32) (t0_1 : Int32) (t0_2 : Int32) (t0_3 : Int32) (t0_4 : Int32) (t0_5 : Int32) (t0_6 : Int32) (t1_0 : (Nat → Int32)) (t2_0 : (Nat → Int32)) (t3_0 : (Nat → Int32)) (t4_0 : (Nat → Int32)) (t5_0 : (Nat → Int32)) (lx36 : Int32) (a67 : Int32) (f75 : (Nat → Int32)) (f60 : (Nat → Int32)) : Prop := S_WR_shift_L92 x2 x3 x4 t0_0 t0_1 t0_2 t0_3 t0_4 t0_5 t0_6 t1_0 t2_0 t3_0 t4_0 t5_0 lx36 a67 f75 f60 ((2100 - (0 : Int32).toInt).toNat + 1) 0 f75
def S_WR_shift_J20 (x2 : Int32) (x3 : Int32) (x4 : Int32) (t0_0 : Int32) (t0_1 : Int32) (t0_2 : Int32) (t0_3 : Int32) (t0_4 : Int32) (t0_5 : Int32) (t0_6 : Int32) (t1_0 : (Nat → Int32)) (t2_0 : (Nat → Int32)) (t3_0 : (Nat → Int32)) (t4_0 : (Nat → Int32)) (t5_0 : (Nat → Int32)) (lx36 : Int32) : Prop := if lx36 ≤ (0 : Int32) then ((True ∧ S_WR_take x2 (264 : Int32) lx36 (2 : Int32) t0_2 t0_3 t0_4 t0_5 t0_6 t1_0 t5_0) ∧ ((0 ≤ x2.toInt) ∧ ((x2.toInt ≤ 10) ∧ ((0 ≤ (t2_0 x2.toNatClampNeg : Int32).toInt) ∧ (((t2_0 x2.toNatClampNeg : Int32).toInt ≤ 1) ∧ (if x3 < (0 : Int32) then (S_WR_shift_L189 x2 x3 x4 t0_0 t0_1 t0_2 t0_3 t0_4 t0_5 t0_6 t1_0 t2_0 t3_0 t4_0 t5_0 lx36 (t2_0 x2.toNatClampNeg : Int32) ((F_WR_take x2 (264 : Int32) lx36 (2 : Int32) t0_2 t0_3 t0_4 t0_5 t0_6 t1_0 t5_0) : (Nat → Int32)) ((2048 - (0 : Int32).toInt).toNat + 1) 0 0 ((F_WR_clear (264 : Int32) t3_0) : (Nat → Int32))) else (if x3 ≤ (2048 : Int32) then (S_WR_shift_J89 x2 x3 x4 t0_0 t0_1 t0_2 t0_3 t0_4 t0_5 t0_6 t1_0 t2_0 t3_0 t4_0 t5_0 lx36 (t2_0 x2.toNatClampNeg : Int32) ((F_WR_clear (264 : Int32) t3_0) : (Nat → Int32)) ((F_WR_take x2 (264 : Int32) lx36 (2 : Int32) t0_2 t0_3 t0_4 t0_5 t0_6 t1_0 t5_0) : (Nat → Int32))) else (if ((F_WR_size (264 : Int32) ((F_WR_take x2 (264 : Int32) lx36 (2 : Int32) t0_2 t0_3 t0_4 t0_5 t0_6 t1_0 t5_0) : (Nat → Int32))) : Int32) ≤ (0 : Int32) then (S_WR_shift_J89 x2 x3 x4 t0_0 t0_1 t0_2 t0_3 t0_4 t0_5 t0_6 t1_0 t2_0 t3_0 t4_0 t5_0 lx36 (t2_0 x2.toNatClampNeg : Int32) ((F_WR_clear (264 : Int32) t3_0) : (Nat → Int32)) ((F_WR_take x2 (264 : Int32) lx36 (2 : Int32) t0_2 t0_3 t0_4 t0_5 t0_6 t1_0 t5_0) : (Nat → Int32))) else (True))))))))) else (True)
def S_WR_shift_J15 (x2 : Int32) (x3 : Int32) (x4 : Int32) (t0_0 : Int32) (t0_1 : Int32) (t0_2 : Int32) (t0_3 : Int32) (t0_4 : Int32) (t0_5 : Int32) (t0_6 : Int32) (t1_0 : (Nat → Int32)) (t2_0 : (Nat → Int32)) (t3_0 : (Nat → Int32)) (t4_0 : (Nat → Int32)) (t5_0 : (Nat → Int32)) : Prop := S_WR_shift_J20 x2 x3 x4 t0_0 t0_1 t0_2 t0_3 t0_4 t0_5 t0_6 t1_0 t2_0 t3_0 t4_0 t5_0 1
def S_WR_shift (x2 : Int32) (x3 : Int32) (x4 : Int32) (t0_0 : Int32) (t0_1 : Int32) (t0_2 : Int32) (t0_3 : Int32) (t0_4 : Int32) (t0_5 : Int32) (t0_6 : Int32) (t1_0 : (Nat → Int32)) (t2_0 : (Nat → Int32)) (t3_0 : (Nat → Int32)) (t4_0 : (Nat → Int32)) (t5_0 : (Nat → Int32)) : Prop := if ((F_WR_no x2) : Int32) = (0 : Int32) then (if ((F_WR_no x4) : Int32) = (0 : Int32) then (S_WR_shift_J20 x2 x3 x4 t0_0 t0_1 t0_2 t0_3 t0_4 t0_5 t0_6 t1_0 t2_0 t3_0 t4_0 t5_0 0) else (S_WR_shift_J15 x2 x3 x4 t0_0 t0_1 t0_2 t0_3 t0_4 t0_5 t0_6 t1_0 t2_0 t3_0 t4_0 t5_0)) else (S_WR_shift_J15 x2 x3 x4 t0_0 t0_1 t0_2 t0_3 t0_4 t0_5 t0_6 t1_0 t2_0 t3_0 t4_0 t5_0)
set_option maxRecDepth 100000 in
set_option maxHeartbeats 4000000 in
theorem X_WR_shift (l : Launch) (D : va_G) (g : Nat → ClassId) (q : Nat → Nat) (ws : va_W) (x2 : Int32) (x3 : Int32) (x4 : Int32) (hI : q_I (msh g q) q ws) (t0_0 : Int32) (t0_1 : Int32) (t0_2 : Int32) (t0_3 : Int32) (t0_4 : Int32) (t0_5 : Int32) (t0_6 : Int32) (hT0 : ws[119]? = (some (q 119, .inr (13, [.int t0_0, .int t0_1, .ref (q 120), .int t0_2, .ref (q 121), .ref (q 122), .ref (q 123), .int t0_3, .ref (q 124), .ref (q 125), .ref (q 126), .ref (q 127), .ref (q 128), .ref (q 129), .ref (q 130), .ref (q 131), .int t0_4, .int t0_5, .ref (q 132), .ref (q 133), .int t0_6])) : Option (Nat × va_E))) (t1_0 : (Nat → Int32)) (hT1 : ws[121]? = (some (q 121, .inl (g 0, (1408 : Int32).toNatClampNeg, .inl t1_0)) : Option (Nat × va_E))) (t2_0 : (Nat → Int32)) (hT2 : ws[122]? = (some (q 122, .inl (g 3, 11, .inl t2_0)) : Option (Nat × va_E))) (t3_0 : (Nat → Int32)) (hT3 : ws[123]? = (some (q 123, .inl (g 0, (264 : Int32).toNatClampNeg, .inl t3_0)) : Option (Nat × va_E))) (t4_0 : (Nat → Int32)) (hT4 : ws[124]? = (some (q 124, .inl (g 0, (264 : Int32).toNatClampNeg, .inl t4_0)) : Option (Nat × va_E))) (t5_0 : (Nat → Int32)) (hT5 : ws[128]? = (some (q 128, .inl (g 0, (264 : Int32).toNatClampNeg, .inl t5_0)) : Option (Nat × va_E))) (hS : True ∧ S_WR_shift x2 x3 x4 t0_0 t0_1 t0_2 t0_3 t0_4 t0_5 t0_6 t1_0 t2_0 t3_0 t4_0 t5_0) : q_mV l y_WR_shift prog_19_method_38_code 9 3 0 0 D g [.ref (q 119), .int x2, .int x3, .int x4] ws (fun u => q_I (msh g q) q u ∧ q_un ws u [119, 121, 122, 123, 124, 128] ∧ ∃ (u0_0 : Int32) (u0_1 : Int32) (u0_2 : Int32) (u0_3 : Int32) (u0_4 : Int32) (u0_5 : Int32) (u0_6 : Int32) (u1_0 : (Nat → Int32)) (u2_0 : (Nat → Int32)) (u3_0 : (Nat → Int32)) (u4_0 : (Nat → Int32)) (u5_0 : (Nat → Int32)), u[119]? = (some (q 119, .inr (13, [.int u0_0, .int u0_1, .ref (q 120), .int u0_2, .ref (q 121), .ref (q 122), .ref (q 123), .int u0_3, .ref (q 124), .ref (q 125), .ref (q 126), .ref (q 127), .ref (q 128), .ref (q 129), .ref (q 130), .ref (q 131), .int u0_4, .int u0_5, .ref (q 132), .ref (q 133), .int u0_6])) : Option (Nat × va_E)) ∧ u[121]? = (some (q 121, .inl (g 0, (1408 : Int32).toNatClampNeg, .inl u1_0)) : Option (Nat × va_E)) ∧ u[122]? = (some (q 122, .inl (g 3, 11, .inl u2_0)) : Option (Nat × va_E)) ∧ u[123]? = (some (q 123, .inl (g 0, (264 : Int32).toNatClampNeg, .inl u3_0)) : Option (Nat × va_E)) ∧ u[124]? = (some (q 124, .inl (g 0, (264 : Int32).toNatClampNeg, .inl u4_0)) : Option (Nat × va_E)) ∧ u[128]? = (some (q 128, .inl (g 0, (264 : Int32).toNatClampNeg, .inl u5_0)) : Option (Nat × va_E)) ∧ (0 ≤ u0_3.toInt) ∧ (u0_3.toInt ≤ 1) ∧ (t0_2.toInt ≤ u0_2.toInt) ∧ (u0_2.toInt ≤ t0_2.toInt) ∧ (t0_4.toInt ≤ u0_4.toInt) ∧ (u0_4.toInt ≤ t0_4.toInt) ∧ (t0_5.toInt ≤ u0_5.toInt) ∧ (u0_5.toInt ≤ t0_5.toInt) ∧ (t0_6.toInt ≤ u0_6.toInt) ∧ (u0_6.toInt ≤ t0_6.toInt) ∧ (u0_0, u0_1, u0_2, u0_3, u0_4, u0_5, u0_6, u1_0, u2_0, u3_0, u4_0, u5_0) = (F_WR_shift x2 x3 x4 t0_0 t0_1 t0_2 t0_3 t0_4 t0_5 t0_6 t1_0 t2_0 t3_0 t4_0 t5_0)) := by
  intro sz
  refine q_into (by decide) (Nat.le_of_ble_eq_true rfl) ?_
  intro p e s m below meth c ls hsz C0 V hl
  have hx := C0.1
  have hb := C0.2.1
  obtain ⟨btt0_2, hZ9⟩ := n_w119 hI hT0
  obtain ⟨btt0_3, hZ9⟩ := hZ9
  obtain ⟨btt0_4, hZ9⟩ := hZ9
  obtain ⟨btt0_5, btt0_6⟩ := hZ9
  replace btt0_2 : q_F (0 ≤ t0_2.toInt ∧ t0_2.toInt ≤ 4100) := btt0_2
  replace btt0_3 : q_F (0 ≤ t0_3.toInt ∧ t0_3.toInt ≤ 1) := btt0_3
  replace btt0_4 : q_F (0 ≤ t0_4.toInt ∧ t0_4.toInt ≤ 1) := btt0_4
  replace btt0_5 : q_F (0 ≤ t0_5.toInt ∧ t0_5.toInt ≤ 1) := btt0_5
  replace btt0_6 : q_F (0 ≤ t0_6.toInt ∧ t0_6.toInt ≤ 2100) := btt0_6
  have hF : q_un ws ws [119, 121, 122, 123, 124, 128] := q_u0
  have hl : lv_has ls 9 [(0, .ref (q 119)), (1, .int x2), (2, .int x3), (3, .int x4)] := hl
  refine lv_aload_n hx hb d_19_38_0 rfl (lv_at hl 0 rfl) ?_
  refine lv_iload_n hx hb d_19_38_1 rfl (lv_at hl 1 rfl) ?_
  refine q_goi V (q_runS (As := [.int x2]) (rest := [.ref (q 119)]) (d := 1) (mc := 0) (ms := 0) C0 V rfl LS_WR_91 (X_WR_no l D g q ws  x2 hI   _) rfl hl.1 rfl (Nat.le_of_ble_eq_true rfl) ⟨by decide, by decide⟩ ⟨Nat.le_of_ble_eq_true rfl, Nat.le_of_ble_eq_true rfl⟩ d_19_38_2) (fun a31 u29 H locs hp30 V => ?_)
  obtain ⟨rfl, b32, b33, hE34⟩ := hp30
  have e35 : a31 = (F_WR_no x2) := hE34
  clear b32
  clear b33
  refine q_join (X := Int32) (fun z H locs ls _ => q_F (0 ≤ z.toInt) ∧ q_F (z.toInt ≤ 1) ∧ q_Wd D g (va_A ws sz) s ws H locs ∧ lv_has ls 9 [(0, .ref (q 119)), (1, .int x2), (2, .int x3), (3, .int x4)] ∧ F_WR_shift_J20 x2 x3 x4 t0_0 t0_1 t0_2 t0_3 t0_4 t0_5 t0_6 t1_0 t2_0 t3_0 t4_0 t5_0 z = (F_WR_shift x2 x3 x4 t0_0 t0_1 t0_2 t0_3 t0_4 t0_5 t0_6 t1_0 t2_0 t3_0 t4_0 t5_0) ∧ True ∧ S_WR_shift_J20 x2 x3 x4 t0_0 t0_1 t0_2 t0_3 t0_4 t0_5 t0_6 t1_0 t2_0 t3_0 t4_0 t5_0 z) (fun z => [.int z, .ref (q 119)]) 20 0 0 ?_ ?_
  ·
    rintro lx36 H locs ls _ hZ9
    obtain ⟨i44, hZ9⟩ := hZ9
    replace hZ9 := hZ9.2
    obtain ⟨V, hZ9⟩ := hZ9
    obtain ⟨hl, hZ9⟩ := hZ9
    obtain ⟨hR46, hS47⟩ := hZ9
    replace i44 : q_F (0 ≤ lx36.toInt) := i44
    replace hl : lv_has ls 9 [(0, .ref (q 119)), (1, .int x2), (2, .int x3), (3, .int x4)] := hl
    refine q_put (ci := 13) (j := 0) (v := .int lx36) (ty := .int) C0 V i_WR o_WR n_WR rfl rfl hT0 (by decide) w_1921 rfl rfl rfl rfl (Nat.le_of_ble_eq_true rfl) d_19_38_20 (fun H locs w51 hu52 hT0 V => ?_)
    replace hT0 : w51[119]? = (some (q 119, .inr (13, [.int lx36, .int t0_1, .ref (q 120), .int t0_2, .ref (q 121), .ref (q 122), .ref (q 123), .int t0_3, .ref (q 124), .ref (q 125), .ref (q 126), .ref (q 127), .ref (q 128), .ref (q 129), .ref (q 130), .ref (q 131), .int t0_4, .int t0_5, .ref (q 132), .ref (q 133), .int t0_6])) : Option (Nat × va_E)) := hT0
    replace hI := n_p119 hI hu52 hT0 (by first | with_reducible exact q_fe btt0_2 | exact ⟨(by have t1 : 0 ≤ t0_2.toInt ∧ t0_2.toInt ≤ 4100 := btt0_2; omega), (by have t1 : 0 ≤ t0_2.toInt ∧ t0_2.toInt ≤ 4100 := btt0_2; omega)⟩) (by first | with_reducible exact q_fe btt0_3 | exact ⟨(by have t1 : 0 ≤ t0_3.toInt ∧ t0_3.toInt ≤ 1 := btt0_3; omega), (by have t1 : 0 ≤ t0_3.toInt ∧ t0_3.toInt ≤ 1 := btt0_3; omega)⟩) (by first | with_reducible exact q_fe btt0_4 | exact ⟨(by have t1 : 0 ≤ t0_4.toInt ∧ t0_4.toInt ≤ 1 := btt0_4; omega), (by have t1 : 0 ≤ t0_4.toInt ∧ t0_4.toInt ≤ 1 := btt0_4; omega)⟩) (by first | with_reducible exact q_fe btt0_5 | exact ⟨(by have t1 : 0 ≤ t0_5.toInt ∧ t0_5.toInt ≤ 1 := btt0_5; omega), (by have t1 : 0 ≤ t0_5.toInt ∧ t0_5.toInt ≤ 1 := btt0_5; omega)⟩) (by first | with_reducible exact q_fe btt0_6 | exact ⟨(by have t1 : 0 ≤ t0_6.toInt ∧ t0_6.toInt ≤ 2100 := btt0_6; omega), (by have t1 : 0 ≤ t0_6.toInt ∧ t0_6.toInt ≤ 2100 := btt0_6; omega)⟩)
    replace hT1 := (hu52 _ (by decide)).trans hT1
    replace hT2 := (hu52 _ (by decide)).trans hT2
    replace hT3 := (hu52 _ (by decide)).trans hT3
    replace hT4 := (hu52 _ (by decide)).trans hT4
    replace hT5 := (hu52 _ (by decide)).trans hT5
    replace hF := q_us hF hu52 (by simp)
    refine lv_aload_n hx hb d_19_38_23 rfl (lv_at hl 0 rfl) ?_
    refine q_get (ci := 13) (j := 0) (v := .int lx36) C0 V i_WR rfl rfl hT0 (by decide) w_1921 rfl d_19_38_24 ?_
    refine lv_if_le (tgt := 31) hx hb d_19_38_27 (by decide) (fun c53 => ?_) (fun c53 => ?_)
    ·
      have b54 : q_F (lx36.toInt ≤ 0) := (q_leI c53)
      refine lv_aload_n hx hb d_19_38_31 rfl (lv_at hl 0 rfl) ?_
      refine lv_iconst (v := 2) hx hb d_19_38_32 (by decide) ?_
      refine q_put (ci := 13) (j := 1) (v := .int 2) (ty := .int) C0 V i_WR o_WR n_WR rfl rfl hT0 (by decide) w_1923 rfl rfl rfl rfl (Nat.le_of_ble_eq_true rfl) d_19_38_33 (fun H locs w55 hu56 hT0 V => ?_)
      replace hT0 : w55[119]? = (some (q 119, .inr (13, [.int lx36, .int 2, .ref (q 120), .int t0_2, .ref (q 121), .ref (q 122), .ref (q 123), .int t0_3, .ref (q 124), .ref (q 125), .ref (q 126), .ref (q 127), .ref (q 128), .ref (q 129), .ref (q 130), .ref (q 131), .int t0_4, .int t0_5, .ref (q 132), .ref (q 133), .int t0_6])) : Option (Nat × va_E)) := hT0
      replace hI := n_p119 hI hu56 hT0 (by first | with_reducible exact q_fe btt0_2 | exact ⟨(by have t1 : 0 ≤ t0_2.toInt ∧ t0_2.toInt ≤ 4100 := btt0_2; omega), (by have t1 : 0 ≤ t0_2.toInt ∧ t0_2.toInt ≤ 4100 := btt0_2; omega)⟩) (by first | with_reducible exact q_fe btt0_3 | exact ⟨(by have t1 : 0 ≤ t0_3.toInt ∧ t0_3.toInt ≤ 1 := btt0_3; omega), (by have t1 : 0 ≤ t0_3.toInt ∧ t0_3.toInt ≤ 1 := btt0_3; omega)⟩) (by first | with_reducible exact q_fe btt0_4 | exact ⟨(by have t1 : 0 ≤ t0_4.toInt ∧ t0_4.toInt ≤ 1 := btt0_4; omega), (by have t1 : 0 ≤ t0_4.toInt ∧ t0_4.toInt ≤ 1 := btt0_4; omega)⟩) (by first | with_reducible exact q_fe btt0_5 | exact ⟨(by have t1 : 0 ≤ t0_5.toInt ∧ t0_5.toInt ≤ 1 := btt0_5; omega), (by have t1 : 0 ≤ t0_5.toInt ∧ t0_5.toInt ≤ 1 := btt0_5; omega)⟩) (by first | with_reducible exact q_fe btt0_6 | exact ⟨(by have t1 : 0 ≤ t0_6.toInt ∧ t0_6.toInt ≤ 2100 := btt0_6; omega), (by have t1 : 0 ≤ t0_6.toInt ∧ t0_6.toInt ≤ 2100 := btt0_6; omega)⟩)
      replace hT1 := (hu56 _ (by decide)).trans hT1
      replace hT2 := (hu56 _ (by decide)).trans hT2
      replace hT3 := (hu56 _ (by decide)).trans hT3
      replace hT4 := (hu56 _ (by decide)).trans hT4
      replace hT5 := (hu56 _ (by decide)).trans hT5
      replace hF := q_us hF hu56 (by simp)
      refine lv_aload_n hx hb d_19_38_36 rfl (lv_at hl 0 rfl) ?_
      refine lv_iload_n hx hb d_19_38_37 rfl (lv_at hl 1 rfl) ?_
      refine lv_aload_n hx hb d_19_38_38 rfl (lv_at hl 0 rfl) ?_
      refine q_get (ci := 13) (j := 12) (v := .ref (q 128)) C0 V i_WR rfl rfl hT0 (by decide) w_1936 rfl d_19_38_39 ?_
      have ob57 : True ∧ S_WR_take x2 (264 : Int32) lx36 (2 : Int32) t0_2 t0_3 t0_4 t0_5 t0_6 t1_0 t5_0 := (by have h := hS47; rw [S_WR_shift_J20.eq_1] at h; rw [if_pos c53] at h; with_reducible exact h.2.1)
      refine q_gov V (q_runV (As := [.int x2, .ref (q 128)]) (rest := []) (d := 1) (mc := 0) (ms := 0) (ci := 13) C0 V rfl LV_WR_107 (X_WR_take l D g q w55 128 264 (n_r128 g q) x2 (by decide) hI lx36 2 t0_2 t0_3 t0_4 t0_5 t0_6 hT0 t1_0 hT1 t5_0 hT5 ob57 _) rfl rfl hT0 rfl hl.1 rfl (Nat.le_of_ble_eq_true rfl) ⟨by decide, by decide⟩ ⟨Nat.le_of_ble_eq_true rfl, Nat.le_of_ble_eq_true rfl⟩ d_19_38_42) (fun u58 H locs hp59 V => ?_)
      obtain ⟨hI, hu63, f60, hA61, hE62⟩ := hp59
      replace hA61 : u58[128]? = (some (q 128, .inl (g 0, (264 : Int32).toNatClampNeg, .inl f60)) : Option (Nat × va_E)) := hA61
      have e64 : f60 = (F_WR_take x2 (264 : Int32) lx36 (2 : Int32) t0_2 t0_3 t0_4 t0_5 t0_6 t1_0 t5_0) := hE62
      replace hT0 := (hu63 _ (by decide)).trans hT0
      replace hT1 := (hu63 _ (by decide)).trans hT1
      replace hT2 := (hu63 _ (by decide)).trans hT2
      replace hT3 := (hu63 _ (by decide)).trans hT3
      replace hT4 := (hu63 _ (by decide)).trans hT4
      replace hF := q_uc hF hu63 (by simp)
      refine lv_aload_n hx hb d_19_38_45 rfl (lv_at hl 0 rfl) ?_
      refine lv_aload_n hx hb d_19_38_46 rfl (lv_at hl 0 rfl) ?_
      refine q_get (ci := 13) (j := 5) (v := .ref (q 122)) C0 V i_WR rfl rfl hT0 (by decide) w_1929 rfl d_19_38_47 ?_
      refine lv_iload_n hx hb d_19_38_50 rfl (lv_at hl 1 rfl) ?_
      have ob65 : q_F (0 ≤ x2.toInt) := (by have h := hS47; rw [S_WR_shift_J20.eq_1] at h; rw [if_pos c53] at h; replace h := q_s2 h; exact h.2.1)
      have ob66 : q_F (x2.toInt ≤ 10) := (by have h := hS47; rw [S_WR_shift_J20.eq_1] at h; rw [if_pos c53] at h; replace h := q_s2 h; replace h := q_s2 h; exact h.2.1)
      refine q_zald C0 V hT2 (q_ix (x := x2.toInt) rfl (by first | with_reducible exact q_fe ob65 | (have t1 : 0 ≤ x2.toInt := ob65; omega)) (by have t1 : 0 ≤ x2.toInt := ob65; have t2 : x2.toInt ≤ 10 := ob66; omega)) d_19_38_51 ?_
      obtain ⟨a67, e68⟩ := q_nm (t2_0 x2.toNatClampNeg : Int32)
      refine q_ti (v := a67) e68 ?_
      have ob71 : q_F (0 ≤ a67.toInt) := (by rw [← e68]; have h := hS47; rw [S_WR_shift_J20.eq_1] at h; rw [if_pos c53] at h; replace h := q_s2 h; replace h := q_s2 h; replace h := q_s2 h; exact h.2.1)
      have ob72 : q_F (a67.toInt ≤ 1) := (by rw [← e68]; have h := hS47; rw [S_WR_shift_J20.eq_1] at h; rw [if_pos c53] at h; replace h := q_s2 h; replace h := q_s2 h; replace h := q_s2 h; replace h := q_s2 h; exact h.2.1)
      refine q_put (ci := 13) (j := 7) (v := .int a67) (ty := .boolean) C0 V i_WR o_WR n_WR rfl rfl hT0 (by decide) w_1931 rfl rfl (q_nz01 (q_Ile (x := 0) (y := a67.toInt) (by decide) rfl (by first | with_reducible exact q_fe ob71 | (have t1 : 0 ≤ a67.toInt := ob71; omega))) (q_Ile (x := a67.toInt) (y := 1) rfl (by decide) (by first | with_reducible exact q_fe ob72 | (have t1 : a67.toInt ≤ 1 := ob72; omega)))) (q_fz01 (q_Ile (x := 0) (y := a67.toInt) (by decide) rfl (by first | with_reducible exact q_fe ob71 | (have t1 : 0 ≤ a67.toInt := ob71; omega))) (q_Ile (x := a67.toInt) (y := 1) rfl (by decide) (by first | with_reducible exact q_fe ob72 | (have t1 : a67.toInt ≤ 1 := ob72; omega)))) (Nat.le_of_ble_eq_true rfl) d_19_38_52 (fun H locs w69 hu70 hT0 V => ?_)
      replace hT0 : w69[119]? = (some (q 119, .inr (13, [.int lx36, .int 2, .ref (q 120), .int t0_2, .ref (q 121), .ref (q 122), .ref (q 123), .int a67, .ref (q 124), .ref (q 125), .ref (q 126), .ref (q 127), .ref (q 128), .ref (q 129), .ref (q 130), .ref (q 131), .int t0_4, .int t0_5, .ref (q 132), .ref (q 133), .int t0_6])) : Option (Nat × va_E)) := hT0
      replace hI := n_p119 hI hu70 hT0 (by first | with_reducible exact q_fe btt0_2 | exact ⟨(by have t1 : 0 ≤ t0_2.toInt ∧ t0_2.toInt ≤ 4100 := btt0_2; omega), (by have t1 : 0 ≤ t0_2.toInt ∧ t0_2.toInt ≤ 4100 := btt0_2; omega)⟩) ⟨(by first | with_reducible exact q_fe ob71 | (have t1 : 0 ≤ a67.toInt := ob71; omega)), (by first | with_reducible exact q_fe ob72 | (have t1 : a67.toInt ≤ 1 := ob72; omega))⟩ (by first | with_reducible exact q_fe btt0_4 | exact ⟨(by have t1 : 0 ≤ t0_4.toInt ∧ t0_4.toInt ≤ 1 := btt0_4; omega), (by have t1 : 0 ≤ t0_4.toInt ∧ t0_4.toInt ≤ 1 := btt0_4; omega)⟩) (by first | with_reducible exact q_fe btt0_5 | exact ⟨(by have t1 : 0 ≤ t0_5.toInt ∧ t0_5.toInt ≤ 1 := btt0_5; omega), (by have t1 : 0 ≤ t0_5.toInt ∧ t0_5.toInt ≤ 1 := btt0_5; omega)⟩) (by first | with_reducible exact q_fe btt0_6 | exact ⟨(by have t1 : 0 ≤ t0_6.toInt ∧ t0_6.toInt ≤ 2100 := btt0_6; omega), (by have t1 : 0 ≤ t0_6.toInt ∧ t0_6.toInt ≤ 2100 := btt0_6; omega)⟩)
      replace hT1 := (hu70 _ (by decide)).trans hT1
      replace hT2 := (hu70 _ (by decide)).trans hT2
      replace hT3 := (hu70 _ (by decide)).trans hT3
      replace hT4 := (hu70 _ (by decide)).trans hT4
      replace hA61 := (hu70 _ (by decide)).trans hA61
      replace hF := q_us hF hu70 (by simp)
      refine lv_aload_n hx hb d_19_38_55 rfl (lv_at hl 0 rfl) ?_
      refine q_get (ci := 13) (j := 6) (v := .ref (q 123)) C0 V i_WR rfl rfl hT0 (by decide) w_1930 rfl d_19_38_56 ?_
      refine q_gov V (q_runS (As := [.ref (q 123)]) (rest := []) (d := 1) (mc := 0) (ms := 0) C0 V rfl LS_WR_63 (X_WR_clear l D g q w69 123 264 (n_r123 g q)  hI t3_0 hT3  _) rfl hl.1 rfl (Nat.le_of_ble_eq_true rfl) ⟨by decide, by decide⟩ ⟨Nat.le_of_ble_eq_true rfl, Nat.le_of_ble_eq_true rfl⟩ d_19_38_59) (fun u73 H locs hp74 V => ?_)
      obtain ⟨hI, hu78, f75, hA76, hE77⟩ := hp74
      replace hA76 : u73[123]? = (some (q 123, .inl (g 0, (264 : Int32).toNatClampNeg, .inl f75)) : Option (Nat × va_E)) := hA76
      have e79 : f75 = (F_WR_clear (264 : Int32) t3_0) := hE77
      replace hT0 := (hu78 _ (by decide)).trans hT0
      replace hT1 := (hu78 _ (by decide)).trans hT1
      replace hT2 := (hu78 _ (by decide)).trans hT2
      replace hT4 := (hu78 _ (by decide)).trans hT4
      replace hA61 := (hu78 _ (by decide)).trans hA61
      replace hF := q_uc hF hu78 (by simp)
      refine lv_iload_n hx hb d_19_38_62 rfl (lv_at hl 2 rfl) ?_
      refine lv_if_lt (tgt := 183) hx hb d_19_38_63 (by decide) (fun c80 => ?_) (fun c80 => ?_)
      ·
        refine lv_iconst (v := 0) hx hb d_19_38_183 (by decide) ?_
        refine lv_istore (lv' := [(4, .int 0), (0, .ref (q 119)), (1, .int x2), (2, .int x3), (3, .int x4)]) hx hb d_19_38_184 hl (by decide) rfl (fun ls hl => ?_)
        refine lv_iconst (v := 0) hx hb d_19_38_186 (by decide) ?_
        refine lv_istore (lv' := [(5, .int 0), (4, .int 0), (0, .ref (q 119)), (1, .int x2), (2, .int x3), (3, .int x4)]) hx hb d_19_38_187 hl (by decide) rfl (fun ls hl => ?_)
        refine q_loop (X := Int32 × Int32 × (Nat → Int32)) (fun z H locs ls w92 => q_F (z.1.toInt ≤ 2048) ∧ q_F (z.2.1.toInt ≤ 1) ∧ q_F (lx36.toInt ≤ z.2.1.toInt) ∧ q_F (z.2.1.toInt ≤ z.1.toInt) ∧ q_Wd D g (va_A ws sz) s w92 H locs ∧ lv_has ls 9 [(5, .int z.1), (4, .int z.2.1), (0, .ref (q 119)), (2, .int x3), (3, .int x4)] ∧ q_I (msh g q) q w92 ∧ q_un ws w92 [119, 121, 122, 123, 124, 128] ∧ w92[119]? = (some (q 119, .inr (13, [.int lx36, .int 2, .ref (q 120), .int t0_2, .ref (q 121), .ref (q 122), .ref (q 123), .int a67, .ref (q 124), .ref (q 125), .ref (q 126), .ref (q 127), .ref (q 128), .ref (q 129), .ref (q 130), .ref (q 131), .int t0_4, .int t0_5, .ref (q 132), .ref (q 133), .int t0_6])) : Option (Nat × va_E)) ∧ w92[121]? = (some (q 121, .inl (g 0, (1408 : Int32).toNatClampNeg, .inl t1_0)) : Option (Nat × va_E)) ∧ w92[122]? = (some (q 122, .inl (g 3, 11, .inl t2_0)) : Option (Nat × va_E)) ∧ w92[123]? = (some (q 123, .inl (g 0, (264 : Int32).toNatClampNeg, .inl z.2.2)) : Option (Nat × va_E)) ∧ w92[124]? = (some (q 124, .inl (g 0, (264 : Int32).toNatClampNeg, .inl t4_0)) : Option (Nat × va_E)) ∧ w92[128]? = (some (q 128, .inl (g 0, (264 : Int32).toNatClampNeg, .inl f60)) : Option (Nat × va_E)) ∧ (∃ n, (2048 - z.1.toInt).toNat < n ∧ F_WR_shift_L189 x2 x3 x4 t0_0 t0_1 t0_2 t0_3 t0_4 t0_5 t0_6 t1_0 t2_0 t3_0 t4_0 t5_0 lx36 a67 f60 n z.1 z.2.1 z.2.2 = (F_WR_shift x2 x3 x4 t0_0 t0_1 t0_2 t0_3 t0_4 t0_5 t0_6 t1_0 t2_0 t3_0 t4_0 t5_0) ∧ True ∧ S_WR_shift_L189 x2 x3 x4 t0_0 t0_1 t0_2 t0_3 t0_4 t0_5 t0_6 t1_0 t2_0 t3_0 t4_0 t5_0 lx36 a67 f60 n z.1 z.2.1 z.2.2)) (fun z => (2048 - z.1.toInt).toNat) ?_ ((0 : Int32), (0 : Int32), (f75 : (Nat → Int32))) _ _ _ u73 ⟨(show q_F (0 ≤ 2048) from (show 0 ≤ 2048 from by omega)), (show q_F (0 ≤ 1) from (show 0 ≤ 1 from by omega)), (show q_F (lx36.toInt ≤ 0) from (show lx36.toInt ≤ 0 from by have t1 : lx36.toInt ≤ 0 := b54; omega)), (show q_F (0 ≤ 0) from (show 0 ≤ 0 from by omega)), V, q_lw hl (q_lw1 0 rfl (q_lw1 1 rfl (q_lw1 2 rfl (q_lw1 4 rfl (q_lw1 5 rfl q_lw0))))), hI, hF, hT0, hT1, hT2, hA76, hT4, hA61, ⟨((2048 - (0 : Int32).toInt).toNat + 1), Nat.lt_succ_self _, (show F_WR_shift_L189 x2 x3 x4 t0_0 t0_1 t0_2 t0_3 t0_4 t0_5 t0_6 t1_0 t2_0 t3_0 t4_0 t5_0 lx36 a67 f60 ((2048 - (0 : Int32).toInt).toNat + 1) 0 0 f75 = (F_WR_shift x2 x3 x4 t0_0 t0_1 t0_2 t0_3 t0_4 t0_5 t0_6 t1_0 t2_0 t3_0 t4_0 t5_0) from Eq.trans (by rw [e79, ← e68, e64, F_WR_shift_J20.eq_1, if_pos c53, if_pos c80]) hR46), (show True ∧ S_WR_shift_L189 x2 x3 x4 t0_0 t0_1 t0_2 t0_3 t0_4 t0_5 t0_6 t1_0 t2_0 t3_0 t4_0 t5_0 lx36 a67 f60 ((2048 - (0 : Int32).toInt).toNat + 1) 0 0 f75 from (by rw [e79, ← e68, e64]; have h := hS47; rw [S_WR_shift_J20.eq_1] at h; rw [if_pos c53] at h; replace h := q_s2 h; replace h := q_s2 h; replace h := q_s2 h; replace h := q_s2 h; replace h := q_s2 h; rw [if_pos c80] at h; with_reducible exact h))⟩⟩
        rintro ⟨lx84, lx85, lx86⟩ H locs ls w92 ⟨i87, i88, i89, i90, V, hl, hI, hF, hO93, hO94, hO95, hO96, hO97, hO98, ⟨fu101, hf102, hR99, hS100⟩⟩ ih91
        obtain ⟨fm103, rfl⟩ : ∃ m, fu101 = m + 1 := ⟨fu101 - 1, by omega⟩
        replace i87 : q_F (lx84.toInt ≤ 2048) := i87
        replace i88 : q_F (lx85.toInt ≤ 1) := i88
        replace i89 : q_F (lx36.toInt ≤ lx85.toInt) := i89
        replace i90 : q_F (lx85.toInt ≤ lx84.toInt) := i90
        replace hl : lv_has ls 9 [(5, .int lx84), (4, .int lx85), (0, .ref (q 119)), (2, .int x3), (3, .int x4)] := hl
        replace hO93 : w92[119]? = (some (q 119, .inr (13, [.int lx36, .int 2, .ref (q 120), .int t0_2, .ref (q 121), .ref (q 122), .ref (q 123), .int a67, .ref (q 124), .ref (q 125), .ref (q 126), .ref (q 127), .ref (q 128), .ref (q 129), .ref (q 130), .ref (q 131), .int t0_4, .int t0_5, .ref (q 132), .ref (q 133), .int t0_6])) : Option (Nat × va_E)) := hO93
        replace hO94 : w92[121]? = (some (q 121, .inl (g 0, (1408 : Int32).toNatClampNeg, .inl t1_0)) : Option (Nat × va_E)) := hO94
        replace hO95 : w92[122]? = (some (q 122, .inl (g 3, 11, .inl t2_0)) : Option (Nat × va_E)) := hO95
        replace hO96 : w92[123]? = (some (q 123, .inl (g 0, (264 : Int32).toNatClampNeg, .inl lx86)) : Option (Nat × va_E)) := hO96
        replace hO97 : w92[124]? = (some (q 124, .inl (g 0, (264 : Int32).toNatClampNeg, .inl t4_0)) : Option (Nat × va_E)) := hO97
        replace hO98 : w92[128]? = (some (q 128, .inl (g 0, (264 : Int32).toNatClampNeg, .inl f60)) : Option (Nat × va_E)) := hO98
        refine lv_iload hx hb d_19_38_189 (lv_at hl 0 rfl) ?_
        refine lv_sipush (v := 2048) hx hb d_19_38_191 (by decide) ?_
        refine lv_icmp_ge (tgt := 295) hx hb d_19_38_194 (by decide) (fun c104 => ?_) (fun c104 => ?_)
        ·
          refine lv_aload_n hx hb d_19_38_295 rfl (lv_at hl 2 rfl) ?_
          refine q_get (ci := 13) (j := 7) (v := .int a67) C0 V i_WR rfl rfl hO93 (by decide) w_1931 rfl d_19_38_296 ?_
          refine lv_if_eq (tgt := 329) hx hb d_19_38_299 (by decide) (fun c106 => ?_) (fun c106 => ?_)
          ·
            refine lv_aload_n hx hb d_19_38_329 rfl (lv_at hl 2 rfl) ?_
            refine lv_iload_n hx hb d_19_38_330 rfl (lv_at hl 4 rfl) ?_
            have ob108 : True ∧ S_WR_store x4 lx36 (2 : Int32) t0_2 a67 t0_4 t0_5 t0_6 t1_0 t2_0 lx86 := (by have h := hS100; rw [S_WR_shift_L189.eq_2] at h; rw [if_pos c104] at h; rw [if_pos c106] at h; with_reducible exact h.2.1)
            refine q_gov V (q_runV (As := [.int x4]) (rest := []) (d := 2) (mc := 0) (ms := 0) (ci := 13) C0 V rfl LV_WR_103 (X_WR_store l D g q w92  x4 hI lx36 2 t0_2 a67 t0_4 t0_5 t0_6 hO93 t1_0 hO94 t2_0 hO95 lx86 hO96 ob108 _) rfl rfl hO93 rfl hl.1 rfl (Nat.le_of_ble_eq_true rfl) ⟨by decide, by decide⟩ ⟨Nat.le_of_ble_eq_true rfl, Nat.le_of_ble_eq_true rfl⟩ d_19_38_331) (fun u109 H locs hp110 V => ?_)
            obtain ⟨hI, hZ9⟩ := hp110
            obtain ⟨hu136, hZ9⟩ := hZ9
            obtain ⟨y112, hZ9⟩ := hZ9
            obtain ⟨y113, hZ9⟩ := hZ9
            obtain ⟨y114, hZ9⟩ := hZ9
            obtain ⟨y115, hZ9⟩ := hZ9
            obtain ⟨y116, hZ9⟩ := hZ9
            obtain ⟨y117, hZ9⟩ := hZ9
            obtain ⟨y118, hZ9⟩ := hZ9
            obtain ⟨f119, hZ9⟩ := hZ9
            obtain ⟨f121, hZ9⟩ := hZ9
            obtain ⟨hO111, hZ9⟩ := hZ9
            obtain ⟨hA120, hZ9⟩ := hZ9
            obtain ⟨hA122, hZ9⟩ := hZ9
            replace hZ9 := hZ9.2.2
            obtain ⟨b125, hZ9⟩ := hZ9
            obtain ⟨b126, hZ9⟩ := hZ9
            obtain ⟨b127, hZ9⟩ := hZ9
            obtain ⟨b128, hZ9⟩ := hZ9
            obtain ⟨b129, hZ9⟩ := hZ9
            obtain ⟨b130, hZ9⟩ := hZ9
            obtain ⟨b131, hZ9⟩ := hZ9
            obtain ⟨b132, hZ9⟩ := hZ9
            obtain ⟨b133, hZ9⟩ := hZ9
            obtain ⟨b134, hE135⟩ := hZ9
            replace hO111 : u109[119]? = (some (q 119, .inr (13, [.int y112, .int y113, .ref (q 120), .int y114, .ref (q 121), .ref (q 122), .ref (q 123), .int y115, .ref (q 124), .ref (q 125), .ref (q 126), .ref (q 127), .ref (q 128), .ref (q 129), .ref (q 130), .ref (q 131), .int y116, .int y117, .ref (q 132), .ref (q 133), .int y118])) : Option (Nat × va_E)) := hO111
            replace hA120 : u109[121]? = (some (q 121, .inl (g 0, (1408 : Int32).toNatClampNeg, .inl f119)) : Option (Nat × va_E)) := hA120
            replace hA122 : u109[122]? = (some (q 122, .inl (g 3, 11, .inl f121)) : Option (Nat × va_E)) := hA122
            obtain ⟨p137, e138⟩ : ∃ z, z = (F_WR_store x4 lx36 (2 : Int32) t0_2 a67 t0_4 t0_5 t0_6 t1_0 t2_0 lx86) := ⟨_, rfl⟩
            have e139 : y112 = p137.1 := congrArg (fun z => z.1) (hE135.trans e138.symm)
            have e140 : y113 = p137.2.1 := congrArg (fun z => z.2.1) (hE135.trans e138.symm)
            have e141 : y114 = p137.2.2.1 := congrArg (fun z => z.2.2.1) (hE135.trans e138.symm)
            have e142 : y115 = p137.2.2.2.1 := congrArg (fun z => z.2.2.2.1) (hE135.trans e138.symm)
            have e143 : y116 = p137.2.2.2.2.1 := congrArg (fun z => z.2.2.2.2.1) (hE135.trans e138.symm)
            have e144 : y117 = p137.2.2.2.2.2.1 := congrArg (fun z => z.2.2.2.2.2.1) (hE135.trans e138.symm)
            have e145 : y118 = p137.2.2.2.2.2.2.1 := congrArg (fun z => z.2.2.2.2.2.2.1) (hE135.trans e138.symm)
            have e146 : f119 = p137.2.2.2.2.2.2.2.1 := congrArg (fun z => z.2.2.2.2.2.2.2.1) (hE135.trans e138.symm)
            have e147 : f121 = p137.2.2.2.2.2.2.2.2 := congrArg (fun z => z.2.2.2.2.2.2.2.2) (hE135.trans e138.symm)
            replace b125 : q_F (t0_2.toInt ≤ y114.toInt) := b125
            replace b126 : q_F (y114.toInt ≤ t0_2.toInt) := b126
            replace b127 : q_F (a67.toInt ≤ y115.toInt) := b127
            replace b128 : q_F (y115.toInt ≤ a67.toInt) := b128
            replace b129 : q_F (t0_4.toInt ≤ y116.toInt) := b129
            replace b130 : q_F (y116.toInt ≤ t0_4.toInt) := b130
            replace b131 : q_F (t0_5.toInt ≤ y117.toInt) := b131
            replace b132 : q_F (y117.toInt ≤ t0_5.toInt) := b132
            replace b133 : q_F (t0_6.toInt ≤ y118.toInt) := b133
            replace b134 : q_F (y118.toInt ≤ t0_6.toInt) := b134
            replace hO96 := (hu136 _ (by decide)).trans hO96
            replace hO97 := (hu136 _ (by decide)).trans hO97
            replace hO98 := (hu136 _ (by decide)).trans hO98
            replace hF := q_uc hF hu136 (by simp)
            have hR148 := (show F_WR_shift_c331 (F_WR_shift_L189 x2 x3 x4 t0_0 t0_1 t0_2 t0_3 t0_4 t0_5 t0_6 t1_0 t2_0 t3_0 t4_0 t5_0 lx36 a67 f60 fm103) x2 x3 x4 t0_0 t0_1 t0_2 t0_3 t0_4 t0_5 t0_6 t1_0 t2_0 t3_0 t4_0 t5_0 lx36 a67 f60 lx84 lx85 lx86 p137 = (F_WR_shift x2 x3 x4 t0_0 t0_1 t0_2 t0_3 t0_4 t0_5 t0_6 t1_0 t2_0 t3_0 t4_0 t5_0) from Eq.trans (by rw [e138, F_WR_shift_L189.eq_2, if_pos c104, if_pos c106]) hR99)
            have hS149 := (show True ∧ S_WR_shift_c331 (S_WR_shift_L189 x2 x3 x4 t0_0 t0_1 t0_2 t0_3 t0_4 t0_5 t0_6 t1_0 t2_0 t3_0 t4_0 t5_0 lx36 a67 f60 fm103) x2 x3 x4 t0_0 t0_1 t0_2 t0_3 t0_4 t0_5 t0_6 t1_0 t2_0 t3_0 t4_0 t5_0 lx36 a67 f60 lx84 lx85 lx86 p137 from (by rw [e138]; have h := hS100; rw [S_WR_shift_L189.eq_2] at h; rw [if_pos c104] at h; rw [if_pos c106] at h; replace h := q_s2 h; with_reducible exact h))
            exact q_retv C0 V (⟨hI, hF, y112, y113, y114, y115, y116, y117, y118, f119, f121, lx86, t4_0, f60, hO111, hA120, hA122, hO96, hO97, hO98, (show 0 ≤ y115.toInt from (by have t1 : 0 ≤ a67.toInt := ob71; have t2 : a67.toInt ≤ y115.toInt := b127; omega)), (show y115.toInt ≤ 1 from (by have t1 : a67.toInt ≤ 1 := ob72; have t2 : y115.toInt ≤ a67.toInt := b128; omega)), (show t0_2.toInt ≤ y114.toInt from (by first | with_reducible exact q_fe b125 | (have t1 : t0_2.toInt ≤ y114.toInt := b125; omega))), (show y114.toInt ≤ t0_2.toInt from (by first | with_reducible exact q_fe b126 | (have t1 : y114.toInt ≤ t0_2.toInt := b126; omega))), (show t0_4.toInt ≤ y116.toInt from (by first | with_reducible exact q_fe b129 | (have t1 : t0_4.toInt ≤ y116.toInt := b129; omega))), (show y116.toInt ≤ t0_4.toInt from (by first | with_reducible exact q_fe b130 | (have t1 : y116.toInt ≤ t0_4.toInt := b130; omega))), (show t0_5.toInt ≤ y117.toInt from (by first | with_reducible exact q_fe b131 | (have t1 : t0_5.toInt ≤ y117.toInt := b131; omega))), (show y117.toInt ≤ t0_5.toInt from (by first | with_reducible exact q_fe b132 | (have t1 : y117.toInt ≤ t0_5.toInt := b132; omega))), (show t0_6.toInt ≤ y118.toInt from (by first | with_reducible exact q_fe b133 | (have t1 : t0_6.toInt ≤ y118.toInt := b133; omega))), (show y118.toInt ≤ t0_6.toInt from (by first | with_reducible exact q_fe b134 | (have t1 : y118.toInt ≤ t0_6.toInt := b134; omega))), (show (y112, y113, y114, y115, y116, y117, y118, f119, f121, lx86, t4_0, f60) = (F_WR_shift x2 x3 x4 t0_0 t0_1 t0_2 t0_3 t0_4 t0_5 t0_6 t1_0 t2_0 t3_0 t4_0 t5_0) from Eq.trans (by rw [e147, e146, e145, e144, e143, e142, e141, e140, e139, F_WR_shift_c331.eq_1]) hR148)⟩) d_19_38_334
          ·
            refine lv_iload hx hb d_19_38_302 (lv_at hl 1 rfl) ?_
            refine lv_if_eq (tgt := 329) hx hb d_19_38_304 (by decide) (fun c154 => ?_) (fun c154 => ?_)
            ·
              refine lv_aload_n hx hb d_19_38_329 rfl (lv_at hl 2 rfl) ?_
              refine lv_iload_n hx hb d_19_38_330 rfl (lv_at hl 4 rfl) ?_
              have ob156 : True ∧ S_WR_store x4 lx36 (2 : Int32) t0_2 a67 t0_4 t0_5 t0_6 t1_0 t2_0 lx86 := (by have h := hS100; rw [S_WR_shift_L189.eq_2] at h; rw [if_pos c104] at h; rw [if_neg c106] at h; rw [if_pos c154] at h; with_reducible exact h.2.1)
              refine q_gov V (q_runV (As := [.int x4]) (rest := []) (d := 2) (mc := 0) (ms := 0) (ci := 13) C0 V rfl LV_WR_103 (X_WR_store l D g q w92  x4 hI lx36 2 t0_2 a67 t0_4 t0_5 t0_6 hO93 t1_0 hO94 t2_0 hO95 lx86 hO96 ob156 _) rfl rfl hO93 rfl hl.1 rfl (Nat.le_of_ble_eq_true rfl) ⟨by decide, by decide⟩ ⟨Nat.le_of_ble_eq_true rfl, Nat.le_of_ble_eq_true rfl⟩ d_19_38_331) (fun u157 H locs hp158 V => ?_)
              obtain ⟨hI, hZ9⟩ := hp158
              obtain ⟨hu184, hZ9⟩ := hZ9
              obtain ⟨y160, hZ9⟩ := hZ9
              obtain ⟨y161, hZ9⟩ := hZ9
              obtain ⟨y162, hZ9⟩ := hZ9
              obtain ⟨y163, hZ9⟩ := hZ9
              obtain ⟨y164, hZ9⟩ := hZ9
              obtain ⟨y165, hZ9⟩ := hZ9
              obtain ⟨y166, hZ9⟩ := hZ9
              obtain ⟨f167, hZ9⟩ := hZ9
              obtain ⟨f169, hZ9⟩ := hZ9
              obtain ⟨hO159, hZ9⟩ := hZ9
              obtain ⟨hA168, hZ9⟩ := hZ9
              obtain ⟨hA170, hZ9⟩ := hZ9
              replace hZ9 := hZ9.2.2
              obtain ⟨b173, hZ9⟩ := hZ9
              obtain ⟨b174, hZ9⟩ := hZ9
              obtain ⟨b175, hZ9⟩ := hZ9
              obtain ⟨b176, hZ9⟩ := hZ9
              obtain ⟨b177, hZ9⟩ := hZ9
              obtain ⟨b178, hZ9⟩ := hZ9
              obtain ⟨b179, hZ9⟩ := hZ9
              obtain ⟨b180, hZ9⟩ := hZ9
              obtain ⟨b181, hZ9⟩ := hZ9
              obtain ⟨b182, hE183⟩ := hZ9
              replace hO159 : u157[119]? = (some (q 119, .inr (13, [.int y160, .int y161, .ref (q 120), .int y162, .ref (q 121), .ref (q 122), .ref (q 123), .int y163, .ref (q 124), .ref (q 125), .ref (q 126), .ref (q 127), .ref (q 128), .ref (q 129), .ref (q 130), .ref (q 131), .int y164, .int y165, .ref (q 132), .ref (q 133), .int y166])) : Option (Nat × va_E)) := hO159
              replace hA168 : u157[121]? = (some (q 121, .inl (g 0, (1408 : Int32).toNatClampNeg, .inl f167)) : Option (Nat × va_E)) := hA168
              replace hA170 : u157[122]? = (some (q 122, .inl (g 3, 11, .inl f169)) : Option (Nat × va_E)) := hA170
              obtain ⟨p185, e186⟩ : ∃ z, z = (F_WR_store x4 lx36 (2 : Int32) t0_2 a67 t0_4 t0_5 t0_6 t1_0 t2_0 lx86) := ⟨_, rfl⟩
              have e187 : y160 = p185.1 := congrArg (fun z => z.1) (hE183.trans e186.symm)
              have e188 : y161 = p185.2.1 := congrArg (fun z => z.2.1) (hE183.trans e186.symm)
              have e189 : y162 = p185.2.2.1 := congrArg (fun z => z.2.2.1) (hE183.trans e186.symm)
              have e190 : y163 = p185.2.2.2.1 := congrArg (fun z => z.2.2.2.1) (hE183.trans e186.symm)
              have e191 : y164 = p185.2.2.2.2.1 := congrArg (fun z => z.2.2.2.2.1) (hE183.trans e186.symm)
              have e192 : y165 = p185.2.2.2.2.2.1 := congrArg (fun z => z.2.2.2.2.2.1) (hE183.trans e186.symm)
              have e193 : y166 = p185.2.2.2.2.2.2.1 := congrArg (fun z => z.2.2.2.2.2.2.1) (hE183.trans e186.symm)
              have e194 : f167 = p185.2.2.2.2.2.2.2.1 := congrArg (fun z => z.2.2.2.2.2.2.2.1) (hE183.trans e186.symm)
              have e195 : f169 = p185.2.2.2.2.2.2.2.2 := congrArg (fun z => z.2.2.2.2.2.2.2.2) (hE183.trans e186.symm)
              replace b173 : q_F (t0_2.toInt ≤ y162.toInt) := b173
              replace b174 : q_F (y162.toInt ≤ t0_2.toInt) := b174
              replace b175 : q_F (a67.toInt ≤ y163.toInt) := b175
              replace b176 : q_F (y163.toInt ≤ a67.toInt) := b176
              replace b177 : q_F (t0_4.toInt ≤ y164.toInt) := b177
              replace b178 : q_F (y164.toInt ≤ t0_4.toInt) := b178
              replace b179 : q_F (t0_5.toInt ≤ y165.toInt) := b179
              replace b180 : q_F (y165.toInt ≤ t0_5.toInt) := b180
              replace b181 : q_F (t0_6.toInt ≤ y166.toInt) := b181
              replace b182 : q_F (y166.toInt ≤ t0_6.toInt) := b182
              replace hO96 := (hu184 _ (by decide)).trans hO96
              replace hO97 := (hu184 _ (by decide)).trans hO97
              replace hO98 := (hu184 _ (by decide)).trans hO98
              replace hF := q_uc hF hu184 (by simp)
              have hR196 := (show F_WR_shift_c331_4 (F_WR_shift_L189 x2 x3 x4 t0_0 t0_1 t0_2 t0_3 t0_4 t0_5 t0_6 t1_0 t2_0 t3_0 t4_0 t5_0 lx36 a67 f60 fm103) x2 x3 x4 t0_0 t0_1 t0_2 t0_3 t0_4 t0_5 t0_6 t1_0 t2_0 t3_0 t4_0 t5_0 lx36 a67 f60 lx84 lx85 lx86 p185 = (F_WR_shift x2 x3 x4 t0_0 t0_1 t0_2 t0_3 t0_4 t0_5 t0_6 t1_0 t2_0 t3_0 t4_0 t5_0) from Eq.trans (by rw [e186, F_WR_shift_L189.eq_2, if_pos c104, if_neg c106, if_pos c154]) hR99)
              have hS197 := (show True ∧ S_WR_shift_c331_4 (S_WR_shift_L189 x2 x3 x4 t0_0 t0_1 t0_2 t0_3 t0_4 t0_5 t0_6 t1_0 t2_0 t3_0 t4_0 t5_0 lx36 a67 f60 fm103) x2 x3 x4 t0_0 t0_1 t0_2 t0_3 t0_4 t0_5 t0_6 t1_0 t2_0 t3_0 t4_0 t5_0 lx36 a67 f60 lx84 lx85 lx86 p185 from (by rw [e186]; have h := hS100; rw [S_WR_shift_L189.eq_2] at h; rw [if_pos c104] at h; rw [if_neg c106] at h; rw [if_pos c154] at h; replace h := q_s2 h; with_reducible exact h))
              exact q_retv C0 V (⟨hI, hF, y160, y161, y162, y163, y164, y165, y166, f167, f169, lx86, t4_0, f60, hO159, hA168, hA170, hO96, hO97, hO98, (show 0 ≤ y163.toInt from (by have t1 : 0 ≤ a67.toInt := ob71; have t2 : a67.toInt ≤ y163.toInt := b175; omega)), (show y163.toInt ≤ 1 from (by have t1 : a67.toInt ≤ 1 := ob72; have t2 : y163.toInt ≤ a67.toInt := b176; omega)), (show t0_2.toInt ≤ y162.toInt from (by first | with_reducible exact q_fe b173 | (have t1 : t0_2.toInt ≤ y162.toInt := b173; omega))), (show y162.toInt ≤ t0_2.toInt from (by first | with_reducible exact q_fe b174 | (have t1 : y162.toInt ≤ t0_2.toInt := b174; omega))), (show t0_4.toInt ≤ y164.toInt from (by first | with_reducible exact q_fe b177 | (have t1 : t0_4.toInt ≤ y164.toInt := b177; omega))), (show y164.toInt ≤ t0_4.toInt from (by first | with_reducible exact q_fe b178 | (have t1 : y164.toInt ≤ t0_4.toInt := b178; omega))), (show t0_5.toInt ≤ y165.toInt from (by first | with_reducible exact q_fe b179 | (have t1 : t0_5.toInt ≤ y165.toInt := b179; omega))), (show y165.toInt ≤ t0_5.toInt from (by first | with_reducible exact q_fe b180 | (have t1 : y165.toInt ≤ t0_5.toInt := b180; omega))), (show t0_6.toInt ≤ y166.toInt from (by first | with_reducible exact q_fe b181 | (have t1 : t0_6.toInt ≤ y166.toInt := b181; omega))), (show y166.toInt ≤ t0_6.toInt from (by first | with_reducible exact q_fe b182 | (have t1 : y166.toInt ≤ t0_6.toInt := b182; omega))), (show (y160, y161, y162, y163, y164, y165, y166, f167, f169, lx86, t4_0, f60) = (F_WR_shift x2 x3 x4 t0_0 t0_1 t0_2 t0_3 t0_4 t0_5 t0_6 t1_0 t2_0 t3_0 t4_0 t5_0) from Eq.trans (by rw [e195, e194, e193, e192, e191, e190, e189, e188, e187, F_WR_shift_c331_4.eq_1]) hR196)⟩) d_19_38_334
            ·
              refine lv_aload_n hx hb d_19_38_307 rfl (lv_at hl 2 rfl) ?_
              refine lv_aload_n hx hb d_19_38_308 rfl (lv_at hl 2 rfl) ?_
              refine q_get (ci := 13) (j := 8) (v := .ref (q 124)) C0 V i_WR rfl rfl hO93 (by decide) w_1932 rfl d_19_38_309 ?_
              have ob202 : True ∧ S_WR_setOne (264 : Int32) lx36 (2 : Int32) t0_2 a67 t0_4 t0_5 t0_6 t4_0 := (by have h := hS100; rw [S_WR_shift_L189.eq_2] at h; rw [if_pos c104] at h; rw [if_neg c106] at h; rw [if_neg c154] at h; with_reducible exact h.2.1)
              refine q_gov V (q_runV (As := [.ref (q 124)]) (rest := []) (d := 2) (mc := 0) (ms := 0) (ci := 13) C0 V rfl LV_WR_131 (X_WR_setOne l D g q w92 124 264 (n_r124 g q)  hI lx36 2 t0_2 a67 t0_4 t0_5 t0_6 hO93 t4_0 hO97 ob202 _) rfl rfl hO93 rfl hl.1 rfl (Nat.le_of_ble_eq_true rfl) ⟨by decide, by decide⟩ ⟨Nat.le_of_ble_eq_true rfl, Nat.le_of_ble_eq_true rfl⟩ d_19_38_312) (fun u203 H locs hp204 V => ?_)
              obtain ⟨hI, hu208, f205, hA206, hE207⟩ := hp204
              replace hA206 : u203[124]? = (some (q 124, .inl (g 0, (264 : Int32).toNatClampNeg, .inl f205)) : Option (Nat × va_E)) := hA206
              have e209 : f205 = (F_WR_setOne (264 : Int32) lx36 (2 : Int32) t0_2 a67 t0_4 t0_5 t0_6 t4_0) := hE207
              replace hO93 := (hu208 _ (by decide)).trans hO93
              replace hO94 := (hu208 _ (by decide)).trans hO94
              replace hO95 := (hu208 _ (by decide)).trans hO95
              replace hO96 := (hu208 _ (by decide)).trans hO96
              replace hO98 := (hu208 _ (by decide)).trans hO98
              replace hF := q_uc hF hu208 (by simp)
              refine lv_aload_n hx hb d_19_38_315 rfl (lv_at hl 2 rfl) ?_
              refine q_get (ci := 13) (j := 6) (v := .ref (q 123)) C0 V i_WR rfl rfl hO93 (by decide) w_1930 rfl d_19_38_316 ?_
              refine lv_aload_n hx hb d_19_38_319 rfl (lv_at hl 2 rfl) ?_
              refine q_get (ci := 13) (j := 8) (v := .ref (q 124)) C0 V i_WR rfl rfl hO93 (by decide) w_1932 rfl d_19_38_320 ?_
              refine lv_iconst (v := 1) hx hb d_19_38_323 (by decide) ?_
              refine lv_lconst (v := 1) hx hb d_19_38_324 (by decide) ?_
              refine lv_iconst (v := 0) hx hb d_19_38_325 (by decide) ?_
              have ob210 : True ∧ S_WR_join (264 : Int32) (264 : Int32) (1 : Int32) (1 : Int64) (0 : Int32) lx86 f205 := (by rw [e209]; have h := hS100; rw [S_WR_shift_L189.eq_2] at h; rw [if_pos c104] at h; rw [if_neg c106] at h; rw [if_neg c154] at h; replace h := q_s2 h; with_reducible exact h.2.1)
              refine q_gov V (q_runS (As := [.ref (q 123), .ref (q 124), .int 1, .long 1, .int 0]) (rest := []) (d := 1) (mc := 0) (ms := 0) C0 V rfl LS_WR_75 (X_WR_join l D g q u203 123 264 (n_r123 g q) 124 264 (n_r124 g q) 1 1 0 (by decide) hI lx86 hO96 f205 hA206 ⟨(by have y0 : (264 : Int32).toInt = 264 := rfl; have y1 : (264 : Int32).toInt = 264 := rfl; have y2 : (1 : Int32).toInt = 1 := rfl; have y3 : (1 : Int64).toInt = 1 := rfl; have y4 : (0 : Int32).toInt = 0 := rfl; omega), (by have y0 : (264 : Int32).toInt = 264 := rfl; have y1 : (264 : Int32).toInt = 264 := rfl; have y2 : (1 : Int32).toInt = 1 := rfl; have y3 : (1 : Int64).toInt = 1 := rfl; have y4 : (0 : Int32).toInt = 0 := rfl; omega)⟩ ob210 _) rfl hl.1 rfl (Nat.le_of_ble_eq_true rfl) ⟨by decide, by decide⟩ ⟨Nat.le_of_ble_eq_true rfl, Nat.le_of_ble_eq_true rfl⟩ d_19_38_326) (fun u211 H locs hp212 V => ?_)
              obtain ⟨hI, hu216, f213, hA214, hE215⟩ := hp212
              replace hA214 : u211[123]? = (some (q 123, .inl (g 0, (264 : Int32).toNatClampNeg, .inl f213)) : Option (Nat × va_E)) := hA214
              have e217 : f213 = (F_WR_join (264 : Int32) (264 : Int32) (1 : Int32) (1 : Int64) (0 : Int32) lx86 f205) := hE215
              replace hO93 := (hu216 _ (by decide)).trans hO93
              replace hO94 := (hu216 _ (by decide)).trans hO94
              replace hO95 := (hu216 _ (by decide)).trans hO95
              replace hA206 := (hu216 _ (by decide)).trans hA206
              replace hO98 := (hu216 _ (by decide)).trans hO98
              replace hF := q_uc hF hu216 (by simp)
              refine lv_aload_n hx hb d_19_38_329 rfl (lv_at hl 2 rfl) ?_
              refine lv_iload_n hx hb d_19_38_330 rfl (lv_at hl 4 rfl) ?_
              have ob218 : True ∧ S_WR_store x4 lx36 (2 : Int32) t0_2 a67 t0_4 t0_5 t0_6 t1_0 t2_0 f213 := (by rw [e217, e209]; have h := hS100; rw [S_WR_shift_L189.eq_2] at h; rw [if_pos c104] at h; rw [if_neg c106] at h; rw [if_neg c154] at h; replace h := q_s2 h; replace h := q_s2 h; with_reducible exact h.2.1)
              refine q_gov V (q_runV (As := [.int x4]) (rest := []) (d := 2) (mc := 0) (ms := 0) (ci := 13) C0 V rfl LV_WR_103 (X_WR_store l D g q u211  x4 hI lx36 2 t0_2 a67 t0_4 t0_5 t0_6 hO93 t1_0 hO94 t2_0 hO95 f213 hA214 ob218 _) rfl rfl hO93 rfl hl.1 rfl (Nat.le_of_ble_eq_true rfl) ⟨by decide, by decide⟩ ⟨Nat.le_of_ble_eq_true rfl, Nat.le_of_ble_eq_true rfl⟩ d_19_38_331) (fun u219 H locs hp220 V => ?_)
              obtain ⟨hI, hZ9⟩ := hp220
              obtain ⟨hu246, hZ9⟩ := hZ9
              obtain ⟨y222, hZ9⟩ := hZ9
              obtain ⟨y223, hZ9⟩ := hZ9
              obtain ⟨y224, hZ9⟩ := hZ9
              obtain ⟨y225, hZ9⟩ := hZ9
              obtain ⟨y226, hZ9⟩ := hZ9
              obtain ⟨y227, hZ9⟩ := hZ9
              obtain ⟨y228, hZ9⟩ := hZ9
              obtain ⟨f229, hZ9⟩ := hZ9
              obtain ⟨f231, hZ9⟩ := hZ9
              obtain ⟨hO221, hZ9⟩ := hZ9
              obtain ⟨hA230, hZ9⟩ := hZ9
              obtain ⟨hA232, hZ9⟩ := hZ9
              replace hZ9 := hZ9.2.2
              obtain ⟨b235, hZ9⟩ := hZ9
              obtain ⟨b236, hZ9⟩ := hZ9
              obtain ⟨b237, hZ9⟩ := hZ9
              obtain ⟨b238, hZ9⟩ := hZ9
              obtain ⟨b239, hZ9⟩ := hZ9
              obtain ⟨b240, hZ9⟩ := hZ9
              obtain ⟨b241, hZ9⟩ := hZ9
              obtain ⟨b242, hZ9⟩ := hZ9
              obtain ⟨b243, hZ9⟩ := hZ9
              obtain ⟨b244, hE245⟩ := hZ9
              replace hO221 : u219[119]? = (some (q 119, .inr (13, [.int y222, .int y223, .ref (q 120), .int y224, .ref (q 121), .ref (q 122), .ref (q 123), .int y225, .ref (q 124), .ref (q 125), .ref (q 126), .ref (q 127), .ref (q 128), .ref (q 129), .ref (q 130), .ref (q 131), .int y226, .int y227, .ref (q 132), .ref (q 133), .int y228])) : Option (Nat × va_E)) := hO221
              replace hA230 : u219[121]? = (some (q 121, .inl (g 0, (1408 : Int32).toNatClampNeg, .inl f229)) : Option (Nat × va_E)) := hA230
              replace hA232 : u219[122]? = (some (q 122, .inl (g 3, 11, .inl f231)) : Option (Nat × va_E)) := hA232
              obtain ⟨p247, e248⟩ : ∃ z, z = (F_WR_store x4 lx36 (2 : Int32) t0_2 a67 t0_4 t0_5 t0_6 t1_0 t2_0 f213) := ⟨_, rfl⟩
              have e249 : y222 = p247.1 := congrArg (fun z => z.1) (hE245.trans e248.symm)
              have e250 : y223 = p247.2.1 := congrArg (fun z => z.2.1) (hE245.trans e248.symm)
              have e251 : y224 = p247.2.2.1 := congrArg (fun z => z.2.2.1) (hE245.trans e248.symm)
              have e252 : y225 = p247.2.2.2.1 := congrArg (fun z => z.2.2.2.1) (hE245.trans e248.symm)
              have e253 : y226 = p247.2.2.2.2.1 := congrArg (fun z => z.2.2.2.2.1) (hE245.trans e248.symm)
              have e254 : y227 = p247.2.2.2.2.2.1 := congrArg (fun z => z.2.2.2.2.2.1) (hE245.trans e248.symm)
              have e255 : y228 = p247.2.2.2.2.2.2.1 := congrArg (fun z => z.2.2.2.2.2.2.1) (hE245.trans e248.symm)
              have e256 : f229 = p247.2.2.2.2.2.2.2.1 := congrArg (fun z => z.2.2.2.2.2.2.2.1) (hE245.trans e248.symm)
              have e257 : f231 = p247.2.2.2.2.2.2.2.2 := congrArg (fun z => z.2.2.2.2.2.2.2.2) (hE245.trans e248.symm)
              replace b235 : q_F (t0_2.toInt ≤ y224.toInt) := b235
              replace b236 : q_F (y224.toInt ≤ t0_2.toInt) := b236
              replace b237 : q_F (a67.toInt ≤ y225.toInt) := b237
              replace b238 : q_F (y225.toInt ≤ a67.toInt) := b238
              replace b239 : q_F (t0_4.toInt ≤ y226.toInt) := b239
              replace b240 : q_F (y226.toInt ≤ t0_4.toInt) := b240
              replace b241 : q_F (t0_5.toInt ≤ y227.toInt) := b241
              replace b242 : q_F (y227.toInt ≤ t0_5.toInt) := b242
              replace b243 : q_F (t0_6.toInt ≤ y228.toInt) := b243
              replace b244 : q_F (y228.toInt ≤ t0_6.toInt) := b244
              replace hA214 := (hu246 _ (by decide)).trans hA214
              replace hA206 := (hu246 _ (by decide)).trans hA206
              replace hO98 := (hu246 _ (by decide)).trans hO98
              replace hF := q_uc hF hu246 (by simp)
              have hR258 := (show F_WR_shift_c331_5 (F_WR_shift_L189 x2 x3 x4 t0_0 t0_1 t0_2 t0_3 t0_4 t0_5 t0_6 t1_0 t2_0 t3_0 t4_0 t5_0 lx36 a67 f60 fm103) x2 x3 x4 t0_0 t0_1 t0_2 t0_3 t0_4 t0_5 t0_6 t1_0 t2_0 t3_0 t4_0 t5_0 lx36 a67 f60 lx84 lx85 lx86 f213 f205 p247 = (F_WR_shift x2 x3 x4 t0_0 t0_1 t0_2 t0_3 t0_4 t0_5 t0_6 t1_0 t2_0 t3_0 t4_0 t5_0) from Eq.trans (by rw [e248, e217, e209, F_WR_shift_L189.eq_2, if_pos c104, if_neg c106, if_neg c154]) hR99)
              have hS259 := (show True ∧ S_WR_shift_c331_5 (S_WR_shift_L189 x2 x3 x4 t0_0 t0_1 t0_2 t0_3 t0_4 t0_5 t0_6 t1_0 t2_0 t3_0 t4_0 t5_0 lx36 a67 f60 fm103) x2 x3 x4 t0_0 t0_1 t0_2 t0_3 t0_4 t0_5 t0_6 t1_0 t2_0 t3_0 t4_0 t5_0 lx36 a67 f60 lx84 lx85 lx86 f213 f205 p247 from (by rw [e248, e217, e209]; have h := hS100; rw [S_WR_shift_L189.eq_2] at h; rw [if_pos c104] at h; rw [if_neg c106] at h; rw [if_neg c154] at h; replace h := q_s2 h; replace h := q_s2 h; replace h := q_s2 h; with_reducible exact h))
              exact q_retv C0 V (⟨hI, hF, y222, y223, y224, y225, y226, y227, y228, f229, f231, f213, f205, f60, hO221, hA230, hA232, hA214, hA206, hO98, (show 0 ≤ y225.toInt from (by have t1 : 0 ≤ a67.toInt := ob71; have t2 : a67.toInt ≤ y225.toInt := b237; omega)), (show y225.toInt ≤ 1 from (by have t1 : a67.toInt ≤ 1 := ob72; have t2 : y225.toInt ≤ a67.toInt := b238; omega)), (show t0_2.toInt ≤ y224.toInt from (by first | with_reducible exact q_fe b235 | (have t1 : t0_2.toInt ≤ y224.toInt := b235; omega))), (show y224.toInt ≤ t0_2.toInt from (by first | with_reducible exact q_fe b236 | (have t1 : y224.toInt ≤ t0_2.toInt := b236; omega))), (show t0_4.toInt ≤ y226.toInt from (by first | with_reducible exact q_fe b239 | (have t1 : t0_4.toInt ≤ y226.toInt := b239; omega))), (show y226.toInt ≤ t0_4.toInt from (by first | with_reducible exact q_fe b240 | (have t1 : y226.toInt ≤ t0_4.toInt := b240; omega))), (show t0_5.toInt ≤ y227.toInt from (by first | with_reducible exact q_fe b241 | (have t1 : t0_5.toInt ≤ y227.toInt := b241; omega))), (show y227.toInt ≤ t0_5.toInt from (by first | with_reducible exact q_fe b242 | (have t1 : y227.toInt ≤ t0_5.toInt := b242; omega))), (show t0_6.toInt ≤ y228.toInt from (by first | with_reducible exact q_fe b243 | (have t1 : t0_6.toInt ≤ y228.toInt := b243; omega))), (show y228.toInt ≤ t0_6.toInt from (by first | with_reducible exact q_fe b244 | (have t1 : y228.toInt ≤ t0_6.toInt := b244; omega))), (show (y222, y223, y224, y225, y226, y227, y228, f229, f231, f213, f205, f60) = (F_WR_shift x2 x3 x4 t0_0 t0_1 t0_2 t0_3 t0_4 t0_5 t0_6 t1_0 t2_0 t3_0 t4_0 t5_0) from Eq.trans (by rw [e257, e256, e255, e254, e253, e252, e251, e250, e249, F_WR_shift_c331_5.eq_1]) hR258)⟩) d_19_38_334
        ·
          have b263 : q_F (lx84.toInt < 2048) := (q_nleI c104)
          refine lv_aload_n hx hb d_19_38_197 rfl (lv_at hl 2 rfl) ?_
          refine q_get (ci := 13) (j := 12) (v := .ref (q 128)) C0 V i_WR rfl rfl hO93 (by decide) w_1936 rfl d_19_38_198 ?_
          refine lv_iload hx hb d_19_38_201 (lv_at hl 0 rfl) ?_
          refine lv_bipush (v := 16) hx hb d_19_38_203 (by decide) ?_
          refine lv_idiv hx hb d_19_38_205 (by decide) ?_
          obtain ⟨a264, e265⟩ := q_nm (lx84 / 16 : Int32)
          refine q_ti (v := a264) e265 ?_
          have b266 : q_F (16 * a264.toInt ≤ lx84.toInt ∧ lx84.toInt ≤ 16 * a264.toInt + 15) := (by rw [← e265]; show 16 * (lx84 / 16 : Int32).toInt ≤ lx84.toInt ∧ lx84.toInt ≤ 16 * (lx84 / 16 : Int32).toInt + 15; exact (by have z := q_divI (y := 16) (rfl : lx84.toInt = _) (by decide : (16 : Int32).toInt = 16) (by have t1 : 0 ≤ lx36.toInt := i44; have t2 : lx36.toInt ≤ lx85.toInt := i89; have t3 : lx85.toInt ≤ lx84.toInt := i90; omega) (by decide); omega))
          have ob267 : q_F (0 ≤ a264.toInt) := (by rw [← e265]; have h := hS100; rw [S_WR_shift_L189.eq_2] at h; rw [if_neg c104] at h; exact h.2.1)
          refine q_iald C0 V hO98 (q_ix (x := a264.toInt) rfl (by first | with_reducible exact q_fe ob267 | (have t1 : 0 ≤ a264.toInt := ob267; omega)) (by have t1 : 0 ≤ a264.toInt := ob267; have t2 : lx84.toInt ≤ 2048 := i87; have t3 : 16 * a264.toInt ≤ lx84.toInt ∧ lx84.toInt ≤ 16 * a264.toInt + 15 := b266; have e9 : (((264 : Int32).toNatClampNeg : Nat) : Int) = 264 := (by decide); omega)) d_19_38_206 ?_
          obtain ⟨a268, e269⟩ := q_nm (f60 a264.toNatClampNeg : Int32)
          refine q_ti (v := a268) e269 ?_
          refine lv_iload hx hb d_19_38_207 (lv_at hl 0 rfl) ?_
          refine lv_bipush (v := 16) hx hb d_19_38_209 (by decide) ?_
          refine lv_irem hx hb d_19_38_211 (by decide) ?_
          obtain ⟨a270, e271⟩ := q_nm (lx84 - lx84 / 16 * 16 : Int32)
          refine q_ti (v := a270) e271 ?_
          have b272 : q_F (0 ≤ a270.toInt ∧ a270.toInt ≤ 15 ∧ a270.toInt ≤ lx84.toInt) := (by rw [← e271]; show 0 ≤ (lx84 - lx84 / 16 * 16 : Int32).toInt ∧ (lx84 - lx84 / 16 * 16 : Int32).toInt ≤ 15 ∧ (lx84 - lx84 / 16 * 16 : Int32).toInt ≤ lx84.toInt; exact (by have z := s_rem' (x := lx84) (b := 16) (by have t1 : 16 * a264.toInt ≤ lx84.toInt ∧ lx84.toInt ≤ 16 * a264.toInt + 15 := b266; have t2 : 0 ≤ a264.toInt := ob267; omega) (by decide); have z8 : (16 : Int32).toInt = 16 := rfl; omega))
          refine lv_ishr hx hb d_19_38_212 ?_
          obtain ⟨a273, e274⟩ := q_nm (a268 >>> (a270 &&& 31) : Int32)
          refine q_ti (v := a273) e274 ?_
          refine lv_iconst (v := 1) hx hb d_19_38_213 (by decide) ?_
          refine lv_iand hx hb d_19_38_214 ?_
          obtain ⟨a275, e276⟩ := q_nm (a273 &&& 1 : Int32)
          refine q_ti (v := a275) e276 ?_
          refine lv_istore (lv' := [(6, .int a275), (5, .int lx84), (4, .int lx85), (0, .ref (q 119)), (2, .int x3), (3, .int x4)]) hx hb d_19_38_215 hl (by decide) rfl (fun ls hl => ?_)
          refine lv_iload hx hb d_19_38_217 (lv_at hl 1 rfl) ?_
          refine lv_i2l hx hb d_19_38_219 rfl ?_
          obtain ⟨j278, e279⟩ := q_nm (lx84.toInt64 : Int64)
          refine q_tl (v := j278) e279 ?_
          refine lv_iload_n hx hb d_19_38_220 rfl (lv_at hl 4 rfl) ?_
          refine lv_i2l hx hb d_19_38_221 rfl ?_
          obtain ⟨j281, e282⟩ := q_nm (x3.toInt64 : Int64)
          refine q_tl (v := j281) e282 ?_
          refine lv_ladd hx hb d_19_38_222 ?_
          obtain ⟨j284, e285⟩ := q_nm (j278 + j281 : Int64)
          refine q_tl (v := j284) e285 ?_
          refine lv_lstore (lv' := [(7, .long j284), (6, .int a275), (5, .int lx84), (4, .int lx85), (0, .ref (q 119)), (2, .int x3), (3, .int x4)]) hx hb d_19_38_223 hl (by decide) rfl (fun ls hl => ?_)
          refine lv_iload hx hb d_19_38_225 (lv_at hl 3 rfl) ?_
          refine q_join (X := Int32) (fun z H locs ls _ => q_F (lx85.toInt ≤ z.toInt) ∧ q_F (z.toInt ≤ lx36.toInt + 1) ∧ q_Wd D g (va_A ws sz) s w92 H locs ∧ lv_has ls 9 [(7, .long j284), (6, .int a275), (5, .int lx84), (0, .ref (q 119)), (2, .int x3), (3, .int x4)] ∧ F_WR_shift_J248 (F_WR_shift_L189 x2 x3 x4 t0_0 t0_1 t0_2 t0_3 t0_4 t0_5 t0_6 t1_0 t2_0 t3_0 t4_0 t5_0 lx36 a67 f60 fm103) x2 x3 x4 t0_0 t0_1 t0_2 t0_3 t0_4 t0_5 t0_6 t1_0 t2_0 t3_0 t4_0 t5_0 lx36 a67 f60 lx84 lx85 lx86 j284 a275 z = (F_WR_shift x2 x3 x4 t0_0 t0_1 t0_2 t0_3 t0_4 t0_5 t0_6 t1_0 t2_0 t3_0 t4_0 t5_0) ∧ True ∧ S_WR_shift_J248 (S_WR_shift_L189 x2 x3 x4 t0_0 t0_1 t0_2 t0_3 t0_4 t0_5 t0_6 t1_0 t2_0 t3_0 t4_0 t5_0 lx36 a67 f60 fm103) x2 x3 x4 t0_0 t0_1 t0_2 t0_3 t0_4 t0_5 t0_6 t1_0 t2_0 t3_0 t4_0 t5_0 lx36 a67 f60 lx84 lx85 lx86 j284 a275 z) (fun z => [.int z]) 248 0 0 ?_ ?_
          ·
            rintro lx287 H locs ls _ hZ9
            obtain ⟨i295, hZ9⟩ := hZ9
            obtain ⟨i296, hZ9⟩ := hZ9
            obtain ⟨V, hZ9⟩ := hZ9
            obtain ⟨hl, hZ9⟩ := hZ9
            obtain ⟨hR297, hS298⟩ := hZ9
            replace i295 : q_F (lx85.toInt ≤ lx287.toInt) := i295
            replace i296 : q_F (lx287.toInt ≤ lx36.toInt + 1) := i296
            replace hl : lv_has ls 9 [(7, .long j284), (6, .int a275), (5, .int lx84), (0, .ref (q 119)), (2, .int x3), (3, .int x4)] := hl
            refine lv_istore (lv' := [(4, .int lx287), (7, .long j284), (6, .int a275), (5, .int lx84), (0, .ref (q 119)), (2, .int x3), (3, .int x4)]) hx hb d_19_38_248 hl (by decide) rfl (fun ls hl => ?_)
            refine lv_lload hx hb d_19_38_250 (lv_at hl 1 rfl) ?_
            refine lv_lconst (v := 0) hx hb d_19_38_252 (by decide) ?_
            refine W.lcmp hx hb d_19_38_253 ?_
            obtain ⟨a302, e303⟩ := q_nm (lg_cmp j284 0 : Int32)
            refine q_ti (v := a302) e303 ?_
            refine lv_if_lt (tgt := 289) hx hb d_19_38_254 (by decide) (fun c305 => ?_) (fun c305 => ?_)
            ·
              obtain ⟨a307, e308⟩ := q_nm (lx84 + 1 : Int32)
              have b309 : q_F (a307.toInt = lx84.toInt + 1) := (by rw [← e308]; exact q_addI (y := 1) rfl (by decide) (by have t1 : 0 ≤ a270.toInt ∧ a270.toInt ≤ 15 ∧ a270.toInt ≤ lx84.toInt := b272; have t2 : lx84.toInt ≤ 2048 := i87; omega) (by have t1 : 0 ≤ a270.toInt ∧ a270.toInt ≤ 15 ∧ a270.toInt ≤ lx84.toInt := b272; have t2 : lx84.toInt ≤ 2048 := i87; omega))
              refine lv_iinc (v := a307) (lv' := [(5, .int a307), (4, .int lx287), (7, .long j284), (6, .int a275), (0, .ref (q 119)), (2, .int x3), (3, .int x4)]) hx hb d_19_38_289 hl (k := 3) rfl (e308) (by decide) rfl (fun ls hl => ?_)
              refine lv_goto (tgt := 189) hx hb d_19_38_292 (by decide) ?_
              exact ih91 ((a307 : Int32), (lx287 : Int32), (lx86 : (Nat → Int32))) _ _ _ _ (show (2048 - a307.toInt).toNat < (2048 - lx84.toInt).toNat from by have t1 : a307.toInt = lx84.toInt + 1 := b309; have t2 : lx84.toInt ≤ 2048 := i87; have t3 : lx84.toInt < 2048 := b263; omega) ⟨(show q_F (a307.toInt ≤ 2048) from (show a307.toInt ≤ 2048 from by have t1 : lx84.toInt < 2048 := b263; have t2 : a307.toInt = lx84.toInt + 1 := b309; omega)), (show q_F (lx287.toInt ≤ 1) from (show lx287.toInt ≤ 1 from by have t1 : lx36.toInt ≤ 0 := b54; have t2 : lx287.toInt ≤ lx36.toInt + 1 := i296; omega)), (show q_F (lx36.toInt ≤ lx287.toInt) from (show lx36.toInt ≤ lx287.toInt from by have t1 : lx36.toInt ≤ lx85.toInt := i89; have t2 : lx85.toInt ≤ lx287.toInt := i295; omega)), (show q_F (lx287.toInt ≤ a307.toInt) from (show lx287.toInt ≤ a307.toInt from by have t1 : lx36.toInt ≤ lx85.toInt := i89; have t2 : lx85.toInt ≤ lx84.toInt := i90; have t3 : lx287.toInt ≤ lx36.toInt + 1 := i296; have t4 : a307.toInt = lx84.toInt + 1 := b309; omega)), V, q_lw hl (q_lw1 0 rfl (q_lw1 1 rfl (q_lw1 4 rfl (q_lw1 5 rfl (q_lw1 6 rfl q_lw0))))), hI, hF, hO93, hO94, hO95, hO96, hO97, hO98, ⟨fm103, Nat.lt_of_lt_of_le (show (2048 - a307.toInt).toNat < (2048 - lx84.toInt).toNat from by have t1 : a307.toInt = lx84.toInt + 1 := b309; have t2 : lx84.toInt ≤ 2048 := i87; have t3 : lx84.toInt < 2048 := b263; omega) (Nat.le_of_lt_succ hf102), (show F_WR_shift_L189 x2 x3 x4 t0_0 t0_1 t0_2 t0_3 t0_4 t0_5 t0_6 t1_0 t2_0 t3_0 t4_0 t5_0 lx36 a67 f60 fm103 a307 lx287 lx86 = (F_WR_shift x2 x3 x4 t0_0 t0_1 t0_2 t0_3 t0_4 t0_5 t0_6 t1_0 t2_0 t3_0 t4_0 t5_0) from Eq.trans (by have c305x := c305; rw [← e303] at c305x; rw [← e308, F_WR_shift_J248.eq_1, if_pos c305x]) hR297), (show True ∧ S_WR_shift_L189 x2 x3 x4 t0_0 t0_1 t0_2 t0_3 t0_4 t0_5 t0_6 t1_0 t2_0 t3_0 t4_0 t5_0 lx36 a67 f60 fm103 a307 lx287 lx86 from (by rw [← e308]; have h := hS298; rw [S_WR_shift_J248.eq_1] at h; have c305x := c305; rw [← e303] at c305x; rw [if_pos c305x] at h; with_reducible exact h))⟩⟩
            ·
              refine lv_aload_n hx hb d_19_38_257 rfl (lv_at hl 4 rfl) ?_
              refine q_get (ci := 13) (j := 6) (v := .ref (q 123)) C0 V i_WR rfl rfl hO93 (by decide) w_1930 rfl d_19_38_258 ?_
              refine lv_lload hx hb d_19_38_261 (lv_at hl 1 rfl) ?_
              refine lv_l2i hx hb d_19_38_263 rfl ?_
              obtain ⟨a311, e312⟩ := q_nm (j284.toInt32 : Int32)
              refine q_ti (v := a311) e312 ?_
              refine lv_bipush (v := 16) hx hb d_19_38_264 (by decide) ?_
              refine lv_idiv hx hb d_19_38_266 (by decide) ?_
              obtain ⟨a314, e315⟩ := q_nm (a311 / 16 : Int32)
              refine q_ti (v := a314) e315 ?_
              refine lv_aload_n hx hb d_19_38_267 rfl (lv_at hl 4 rfl) ?_
              refine q_get (ci := 13) (j := 6) (v := .ref (q 123)) C0 V i_WR rfl rfl hO93 (by decide) w_1930 rfl d_19_38_268 ?_
              refine lv_lload hx hb d_19_38_271 (lv_at hl 1 rfl) ?_
              refine lv_l2i hx hb d_19_38_273 rfl ?_
              obtain ⟨a317, e318⟩ := q_nm (j284.toInt32 : Int32)
              refine q_ti (v := a317) e318 ?_
              refine lv_bipush (v := 16) hx hb d_19_38_274 (by decide) ?_
              refine lv_idiv hx hb d_19_38_276 (by decide) ?_
              obtain ⟨a320, e321⟩ := q_nm (a317 / 16 : Int32)
              refine q_ti (v := a320) e321 ?_
              have ob323 : q_F (0 ≤ a320.toInt) := (by rw [← e321, ← e318]; have h := hS298; rw [S_WR_shift_J248.eq_1] at h; have c305x := c305; rw [← e303] at c305x; rw [if_neg c305x] at h; exact h.2.1)
              have ob324 : q_F (a320.toInt ≤ 263) := (by rw [← e321, ← e318]; have h := hS298; rw [S_WR_shift_J248.eq_1] at h; have c305x := c305; rw [← e303] at c305x; rw [if_neg c305x] at h; replace h := q_s2 h; exact h.2.1)
              refine q_iald C0 V hO96 (q_ix (x := a320.toInt) rfl (by first | with_reducible exact q_fe ob323 | (have t1 : 0 ≤ a320.toInt := ob323; omega)) (by have t1 : 0 ≤ a320.toInt := ob323; have t2 : a320.toInt ≤ 263 := ob324; have e9 : (((264 : Int32).toNatClampNeg : Nat) : Int) = 264 := (by decide); omega)) d_19_38_277 ?_
              obtain ⟨a325, e326⟩ := q_nm (lx86 a320.toNatClampNeg : Int32)
              refine q_ti (v := a325) e326 ?_
              refine lv_iload hx hb d_19_38_278 (lv_at hl 2 rfl) ?_
              refine lv_lload hx hb d_19_38_280 (lv_at hl 1 rfl) ?_
              refine lv_l2i hx hb d_19_38_282 rfl ?_
              obtain ⟨a327, e328⟩ := q_nm (j284.toInt32 : Int32)
              refine q_ti (v := a327) e328 ?_
              refine lv_bipush (v := 16) hx hb d_19_38_283 (by decide) ?_
              refine lv_irem hx hb d_19_38_285 (by decide) ?_
              obtain ⟨a330, e331⟩ := q_nm (a327 - a327 / 16 * 16 : Int32)
              refine q_ti (v := a330) e331 ?_
              refine lv_ishl hx hb d_19_38_286 ?_
              obtain ⟨a333, e334⟩ := q_nm (a275 <<< (a330 &&& 31) : Int32)
              refine q_ti (v := a333) e334 ?_
              refine lv_ior hx hb d_19_38_287 ?_
              obtain ⟨a335, e336⟩ := q_nm (a325 ||| a333 : Int32)
              refine q_ti (v := a335) e336 ?_
              have ob337 : q_F (0 ≤ a314.toInt) := (by rw [← e315, ← e312]; have h := hS298; rw [S_WR_shift_J248.eq_1] at h; have c305x := c305; rw [← e303] at c305x; rw [if_neg c305x] at h; replace h := q_s2 h; replace h := q_s2 h; exact h.2.1)
              have ob338 : q_F (a314.toInt ≤ 263) := (by rw [← e315, ← e312]; have h := hS298; rw [S_WR_shift_J248.eq_1] at h; have c305x := c305; rw [← e303] at c305x; rw [if_neg c305x] at h; replace h := q_s2 h; replace h := q_s2 h; replace h := q_s2 h; exact h.2.1)
              refine q_iast C0 V hO96 (q_ix (x := a314.toInt) rfl (by first | with_reducible exact q_fe ob337 | (have t1 : 0 ≤ a314.toInt := ob337; omega)) (by have t1 : 0 ≤ a314.toInt := ob337; have t2 : a314.toInt ≤ 263 := ob338; have e9 : (((264 : Int32).toNatClampNeg : Nat) : Int) = 264 := (by decide); omega)) d_19_38_288 (fun H locs w339 hu340 hO96 V => ?_)
              replace hI := n_ai' hI (n_r123 g q).1 hu340 hO96 (q_updB (fun _ => s_bnd) s_bnd)
              replace hO93 := (hu340 _ (by decide)).trans hO93
              replace hO94 := (hu340 _ (by decide)).trans hO94
              replace hO95 := (hu340 _ (by decide)).trans hO95
              replace hO97 := (hu340 _ (by decide)).trans hO97
              replace hO98 := (hu340 _ (by decide)).trans hO98
              replace hF := q_us hF hu340 (by simp)
              obtain ⟨f341, e342⟩ := q_nm (upd lx86 a314.toNatClampNeg a335 : (Nat → Int32))
              rw [e342] at hO96
              obtain ⟨a343, e344⟩ := q_nm (lx84 + 1 : Int32)
              have b345 : q_F (a343.toInt = lx84.toInt + 1) := (by rw [← e344]; exact q_addI (y := 1) rfl (by decide) (by have t1 : 0 ≤ a270.toInt ∧ a270.toInt ≤ 15 ∧ a270.toInt ≤ lx84.toInt := b272; have t2 : lx84.toInt ≤ 2048 := i87; omega) (by have t1 : 0 ≤ a270.toInt ∧ a270.toInt ≤ 15 ∧ a270.toInt ≤ lx84.toInt := b272; have t2 : lx84.toInt ≤ 2048 := i87; omega))
              refine lv_iinc (v := a343) (lv' := [(5, .int a343), (4, .int lx287), (7, .long j284), (6, .int a275), (0, .ref (q 119)), (2, .int x3), (3, .int x4)]) hx hb d_19_38_289 hl (k := 3) rfl (e344) (by decide) rfl (fun ls hl => ?_)
              refine lv_goto (tgt := 189) hx hb d_19_38_292 (by decide) ?_
              exact ih91 ((a343 : Int32), (lx287 : Int32), (f341 : (Nat → Int32))) _ _ _ _ (show (2048 - a343.toInt).toNat < (2048 - lx84.toInt).toNat from by have t1 : a343.toInt = lx84.toInt + 1 := b345; have t2 : lx84.toInt ≤ 2048 := i87; have t3 : lx84.toInt < 2048 := b263; omega) ⟨(show q_F (a343.toInt ≤ 2048) from (show a343.toInt ≤ 2048 from by have t1 : lx84.toInt < 2048 := b263; have t2 : a343.toInt = lx84.toInt + 1 := b345; omega)), (show q_F (lx287.toInt ≤ 1) from (show lx287.toInt ≤ 1 from by have t1 : lx36.toInt ≤ 0 := b54; have t2 : lx287.toInt ≤ lx36.toInt + 1 := i296; omega)), (show q_F (lx36.toInt ≤ lx287.toInt) from (show lx36.toInt ≤ lx287.toInt from by have t1 : lx36.toInt ≤ lx85.toInt := i89; have t2 : lx85.toInt ≤ lx287.toInt := i295; omega)), (show q_F (lx287.toInt ≤ a343.toInt) from (show lx287.toInt ≤ a343.toInt from by have t1 : lx36.toInt ≤ lx85.toInt := i89; have t2 : lx85.toInt ≤ lx84.toInt := i90; have t3 : lx287.toInt ≤ lx36.toInt + 1 := i296; have t4 : a343.toInt = lx84.toInt + 1 := b345; omega)), V, q_lw hl (q_lw1 0 rfl (q_lw1 1 rfl (q_lw1 4 rfl (q_lw1 5 rfl (q_lw1 6 rfl q_lw0))))), hI, hF, hO93, hO94, hO95, hO96, hO97, hO98, ⟨fm103, Nat.lt_of_lt_of_le (show (2048 - a343.toInt).toNat < (2048 - lx84.toInt).toNat from by have t1 : a343.toInt = lx84.toInt + 1 := b345; have t2 : lx84.toInt ≤ 2048 := i87; have t3 : lx84.toInt < 2048 := b263; omega) (Nat.le_of_lt_succ hf102), (show F_WR_shift_L189 x2 x3 x4 t0_0 t0_1 t0_2 t0_3 t0_4 t0_5 t0_6 t1_0 t2_0 t3_0 t4_0 t5_0 lx36 a67 f60 fm103 a343 lx287 f341 = (F_WR_shift x2 x3 x4 t0_0 t0_1 t0_2 t0_3 t0_4 t0_5 t0_6 t1_0 t2_0 t3_0 t4_0 t5_0) from Eq.trans (by have c305x := c305; rw [← e303] at c305x; rw [← e344, ← e342, ← e336, ← e334, ← e331, ← e328, ← e326, ← e321, ← e318, ← e315, ← e312, F_WR_shift_J248.eq_1, if_neg c305x]) hR297), (show True ∧ S_WR_shift_L189 x2 x3 x4 t0_0 t0_1 t0_2 t0_3 t0_4 t0_5 t0_6 t1_0 t2_0 t3_0 t4_0 t5_0 lx36 a67 f60 fm103 a343 lx287 f341 from (by rw [← e344, ← e342, ← e336, ← e334, ← e331, ← e328, ← e326, ← e321, ← e318, ← e315, ← e312]; have h := hS298; rw [S_WR_shift_J248.eq_1] at h; have c305x := c305; rw [← e303] at c305x; rw [if_neg c305x] at h; replace h := q_s2 h; replace h := q_s2 h; replace h := q_s2 h; replace h := q_s2 h; with_reducible exact h))⟩⟩
          ·
            intro J294
            refine q_join (X := Unit) (fun z H locs ls _ => q_Wd D g (va_A ws sz) s w92 H locs ∧ lv_has ls 9 [(7, .long j284), (6, .int a275), (5, .int lx84), (0, .ref (q 119)), (2, .int x3), (3, .int x4)] ∧ F_WR_shift_J243 (F_WR_shift_L189 x2 x3 x4 t0_0 t0_1 t0_2 t0_3 t0_4 t0_5 t0_6 t1_0 t2_0 t3_0 t4_0 t5_0 lx36 a67 f60 fm103) x2 x3 x4 t0_0 t0_1 t0_2 t0_3 t0_4 t0_5 t0_6 t1_0 t2_0 t3_0 t4_0 t5_0 lx36 a67 f60 lx84 lx85 lx86 j284 a275 = (F_WR_shift x2 x3 x4 t0_0 t0_1 t0_2 t0_3 t0_4 t0_5 t0_6 t1_0 t2_0 t3_0 t4_0 t5_0) ∧ True ∧ S_WR_shift_J243 (S_WR_shift_L189 x2 x3 x4 t0_0 t0_1 t0_2 t0_3 t0_4 t0_5 t0_6 t1_0 t2_0 t3_0 t4_0 t5_0 lx36 a67 f60 fm103) x2 x3 x4 t0_0 t0_1 t0_2 t0_3 t0_4 t0_5 t0_6 t1_0 t2_0 t3_0 t4_0 t5_0 lx36 a67 f60 lx84 lx85 lx86 j284 a275) (fun z => []) 243 0 0 ?_ ?_
            ·
              rintro _ H locs ls _ ⟨V, hl, hR353, hS354⟩
              replace hl : lv_has ls 9 [(7, .long j284), (6, .int a275), (5, .int lx84), (0, .ref (q 119)), (2, .int x3), (3, .int x4)] := hl
              refine lv_iconst (v := 1) hx hb d_19_38_243 (by decide) ?_
              refine lv_goto (tgt := 248) hx hb d_19_38_244 (by decide) ?_
              exact J294 ((1 : Int32)) _ _ _ w92 ⟨(show q_F (lx85.toInt ≤ 1) from (show lx85.toInt ≤ 1 from by have t1 : lx85.toInt ≤ 1 := i88; omega)), (show q_F (1 ≤ lx36.toInt + 1) from (show 1 ≤ lx36.toInt + 1 from by have t1 : 0 ≤ lx36.toInt := i44; omega)), V, q_lw hl (q_lw1 0 rfl (q_lw1 1 rfl (q_lw1 2 rfl (q_lw1 3 rfl (q_lw1 4 rfl (q_lw1 5 rfl q_lw0)))))), (show F_WR_shift_J248 (F_WR_shift_L189 x2 x3 x4 t0_0 t0_1 t0_2 t0_3 t0_4 t0_5 t0_6 t1_0 t2_0 t3_0 t4_0 t5_0 lx36 a67 f60 fm103) x2 x3 x4 t0_0 t0_1 t0_2 t0_3 t0_4 t0_5 t0_6 t1_0 t2_0 t3_0 t4_0 t5_0 lx36 a67 f60 lx84 lx85 lx86 j284 a275 1 = (F_WR_shift x2 x3 x4 t0_0 t0_1 t0_2 t0_3 t0_4 t0_5 t0_6 t1_0 t2_0 t3_0 t4_0 t5_0) from Eq.trans (by rw [F_WR_shift_J243.eq_1]) hR353), (show True ∧ S_WR_shift_J248 (S_WR_shift_L189 x2 x3 x4 t0_0 t0_1 t0_2 t0_3 t0_4 t0_5 t0_6 t1_0 t2_0 t3_0 t4_0 t5_0 lx36 a67 f60 fm103) x2 x3 x4 t0_0 t0_1 t0_2 t0_3 t0_4 t0_5 t0_6 t1_0 t2_0 t3_0 t4_0 t5_0 lx36 a67 f60 lx84 lx85 lx86 j284 a275 1 from (by have h := hS354; rw [S_WR_shift_J243.eq_1] at h; with_reducible exact h))⟩
            ·
              intro J352
              refine lv_if_ne (tgt := 243) hx hb d_19_38_227 (by decide) (fun c358 => ?_) (fun c358 => ?_)
              ·
                exact J352 (()) _ _ _ w92 ⟨V, q_lw hl (q_lw1 0 rfl (q_lw1 1 rfl (q_lw1 2 rfl (q_lw1 4 rfl (q_lw1 5 rfl (q_lw1 6 rfl q_lw0)))))), (show F_WR_shift_J243 (F_WR_shift_L189 x2 x3 x4 t0_0 t0_1 t0_2 t0_3 t0_4 t0_5 t0_6 t1_0 t2_0 t3_0 t4_0 t5_0 lx36 a67 f60 fm103) x2 x3 x4 t0_0 t0_1 t0_2 t0_3 t0_4 t0_5 t0_6 t1_0 t2_0 t3_0 t4_0 t5_0 lx36 a67 f60 lx84 lx85 lx86 j284 a275 = (F_WR_shift x2 x3 x4 t0_0 t0_1 t0_2 t0_3 t0_4 t0_5 t0_6 t1_0 t2_0 t3_0 t4_0 t5_0) from Eq.trans (by rw [← e285, ← e282, ← e279, ← e276, ← e274, ← e271, ← e269, ← e265, F_WR_shift_L189.eq_2, if_neg c104, if_neg c358]) hR99), (show True ∧ S_WR_shift_J243 (S_WR_shift_L189 x2 x3 x4 t0_0 t0_1 t0_2 t0_3 t0_4 t0_5 t0_6 t1_0 t2_0 t3_0 t4_0 t5_0 lx36 a67 f60 fm103) x2 x3 x4 t0_0 t0_1 t0_2 t0_3 t0_4 t0_5 t0_6 t1_0 t2_0 t3_0 t4_0 t5_0 lx36 a67 f60 lx84 lx85 lx86 j284 a275 from (by rw [← e285, ← e282, ← e279, ← e276, ← e274, ← e271, ← e269, ← e265]; have h := hS100; rw [S_WR_shift_L189.eq_2] at h; rw [if_neg c104] at h; replace h := q_s2 h; rw [if_neg c358] at h; with_reducible exact h))⟩
              ·
                have b360 : q_F (lx85.toInt = 0) := (q_eqI c358)
                refine lv_iload hx hb d_19_38_230 (lv_at hl 1 rfl) ?_
                refine lv_iconst (v := 1) hx hb d_19_38_232 (by decide) ?_
                refine q_join (X := Unit) (fun z H locs ls _ => q_Wd D g (va_A ws sz) s w92 H locs ∧ lv_has ls 9 [(7, .long j284), (6, .int a275), (5, .int lx84), (0, .ref (q 119)), (2, .int x3), (3, .int x4)] ∧ F_WR_shift_J247 (F_WR_shift_L189 x2 x3 x4 t0_0 t0_1 t0_2 t0_3 t0_4 t0_5 t0_6 t1_0 t2_0 t3_0 t4_0 t5_0 lx36 a67 f60 fm103) x2 x3 x4 t0_0 t0_1 t0_2 t0_3 t0_4 t0_5 t0_6 t1_0 t2_0 t3_0 t4_0 t5_0 lx36 a67 f60 lx84 lx85 lx86 j284 a275 = (F_WR_shift x2 x3 x4 t0_0 t0_1 t0_2 t0_3 t0_4 t0_5 t0_6 t1_0 t2_0 t3_0 t4_0 t5_0) ∧ True ∧ S_WR_shift_J247 (S_WR_shift_L189 x2 x3 x4 t0_0 t0_1 t0_2 t0_3 t0_4 t0_5 t0_6 t1_0 t2_0 t3_0 t4_0 t5_0 lx36 a67 f60 fm103) x2 x3 x4 t0_0 t0_1 t0_2 t0_3 t0_4 t0_5 t0_6 t1_0 t2_0 t3_0 t4_0 t5_0 lx36 a67 f60 lx84 lx85 lx86 j284 a275) (fun z => []) 247 0 0 ?_ ?_
                ·
                  rintro _ H locs ls _ ⟨V, hl, hR368, hS369⟩
                  replace hl : lv_has ls 9 [(7, .long j284), (6, .int a275), (5, .int lx84), (0, .ref (q 119)), (2, .int x3), (3, .int x4)] := hl
                  refine lv_iconst (v := 0) hx hb d_19_38_247 (by decide) ?_
                  exact J294 ((0 : Int32)) _ _ _ w92 ⟨(show q_F (lx85.toInt ≤ 0) from (show lx85.toInt ≤ 0 from by have t1 : lx85.toInt = 0 := b360; omega)), (show q_F (0 ≤ lx36.toInt + 1) from (show 0 ≤ lx36.toInt + 1 from by have t1 : 0 ≤ lx36.toInt := i44; omega)), V, q_lw hl (q_lw1 0 rfl (q_lw1 1 rfl (q_lw1 2 rfl (q_lw1 3 rfl (q_lw1 4 rfl (q_lw1 5 rfl q_lw0)))))), (show F_WR_shift_J248 (F_WR_shift_L189 x2 x3 x4 t0_0 t0_1 t0_2 t0_3 t0_4 t0_5 t0_6 t1_0 t2_0 t3_0 t4_0 t5_0 lx36 a67 f60 fm103) x2 x3 x4 t0_0 t0_1 t0_2 t0_3 t0_4 t0_5 t0_6 t1_0 t2_0 t3_0 t4_0 t5_0 lx36 a67 f60 lx84 lx85 lx86 j284 a275 0 = (F_WR_shift x2 x3 x4 t0_0 t0_1 t0_2 t0_3 t0_4 t0_5 t0_6 t1_0 t2_0 t3_0 t4_0 t5_0) from Eq.trans (by rw [F_WR_shift_J247.eq_1]) hR368), (show True ∧ S_WR_shift_J248 (S_WR_shift_L189 x2 x3 x4 t0_0 t0_1 t0_2 t0_3 t0_4 t0_5 t0_6 t1_0 t2_0 t3_0 t4_0 t5_0 lx36 a67 f60 fm103) x2 x3 x4 t0_0 t0_1 t0_2 t0_3 t0_4 t0_5 t0_6 t1_0 t2_0 t3_0 t4_0 t5_0 lx36 a67 f60 lx84 lx85 lx86 j284 a275 0 from (by have h := hS369; rw [S_WR_shift_J247.eq_1] at h; with_reducible exact h))⟩
                ·
                  intro J367
                  refine lv_icmp_ne (tgt := 247) hx hb d_19_38_233 (by decide) (fun c373 => ?_) (fun c373 => ?_)
                  ·
                    exact J367 (()) _ _ _ w92 ⟨V, q_lw hl (q_lw1 0 rfl (q_lw1 1 rfl (q_lw1 2 rfl (q_lw1 4 rfl (q_lw1 5 rfl (q_lw1 6 rfl q_lw0)))))), (show F_WR_shift_J247 (F_WR_shift_L189 x2 x3 x4 t0_0 t0_1 t0_2 t0_3 t0_4 t0_5 t0_6 t1_0 t2_0 t3_0 t4_0 t5_0 lx36 a67 f60 fm103) x2 x3 x4 t0_0 t0_1 t0_2 t0_3 t0_4 t0_5 t0_6 t1_0 t2_0 t3_0 t4_0 t5_0 lx36 a67 f60 lx84 lx85 lx86 j284 a275 = (F_WR_shift x2 x3 x4 t0_0 t0_1 t0_2 t0_3 t0_4 t0_5 t0_6 t1_0 t2_0 t3_0 t4_0 t5_0) from Eq.trans (by have c373x := c373; rw [← e276, ← e274, ← e271, ← e269, ← e265] at c373x; rw [← e285, ← e282, ← e279, ← e276, ← e274, ← e271, ← e269, ← e265, F_WR_shift_L189.eq_2, if_neg c104, if_pos c358, if_neg c373x]) hR99), (show True ∧ S_WR_shift_J247 (S_WR_shift_L189 x2 x3 x4 t0_0 t0_1 t0_2 t0_3 t0_4 t0_5 t0_6 t1_0 t2_0 t3_0 t4_0 t5_0 lx36 a67 f60 fm103) x2 x3 x4 t0_0 t0_1 t0_2 t0_3 t0_4 t0_5 t0_6 t1_0 t2_0 t3_0 t4_0 t5_0 lx36 a67 f60 lx84 lx85 lx86 j284 a275 from (by rw [← e285, ← e282, ← e279, ← e276, ← e274, ← e271, ← e269, ← e265]; have h := hS100; rw [S_WR_shift_L189.eq_2] at h; rw [if_neg c104] at h; replace h := q_s2 h; rw [if_pos c358] at h; have c373x := c373; rw [← e276, ← e274, ← e271, ← e269, ← e265] at c373x; rw [if_neg c373x] at h; with_reducible exact h))⟩
                  ·
                    refine lv_lload hx hb d_19_38_236 (lv_at hl 0 rfl) ?_
                    refine lv_lconst (v := 0) hx hb d_19_38_238 (by decide) ?_
                    refine W.lcmp hx hb d_19_38_239 ?_
                    obtain ⟨a376, e377⟩ := q_nm (lg_cmp j284 0 : Int32)
                    refine q_ti (v := a376) e377 ?_
                    refine lv_if_ge (tgt := 247) hx hb d_19_38_240 (by decide) (fun c379 => ?_) (fun c379 => ?_)
                    ·
                      exact J367 (()) _ _ _ w92 ⟨V, q_lw hl (q_lw1 0 rfl (q_lw1 1 rfl (q_lw1 2 rfl (q_lw1 4 rfl (q_lw1 5 rfl (q_lw1 6 rfl q_lw0)))))), (show F_WR_shift_J247 (F_WR_shift_L189 x2 x3 x4 t0_0 t0_1 t0_2 t0_3 t0_4 t0_5 t0_6 t1_0 t2_0 t3_0 t4_0 t5_0 lx36 a67 f60 fm103) x2 x3 x4 t0_0 t0_1 t0_2 t0_3 t0_4 t0_5 t0_6 t1_0 t2_0 t3_0 t4_0 t5_0 lx36 a67 f60 lx84 lx85 lx86 j284 a275 = (F_WR_shift x2 x3 x4 t0_0 t0_1 t0_2 t0_3 t0_4 t0_5 t0_6 t1_0 t2_0 t3_0 t4_0 t5_0) from Eq.trans (by have c373x := c373; rw [← e276, ← e274, ← e271, ← e269, ← e265] at c373x; have c379x := c379; rw [← e377, ← e285, ← e282, ← e279] at c379x; rw [← e285, ← e282, ← e279, ← e276, ← e274, ← e271, ← e269, ← e265, F_WR_shift_L189.eq_2, if_neg c104, if_pos c358, if_pos c373x, if_pos c379x]) hR99), (show True ∧ S_WR_shift_J247 (S_WR_shift_L189 x2 x3 x4 t0_0 t0_1 t0_2 t0_3 t0_4 t0_5 t0_6 t1_0 t2_0 t3_0 t4_0 t5_0 lx36 a67 f60 fm103) x2 x3 x4 t0_0 t0_1 t0_2 t0_3 t0_4 t0_5 t0_6 t1_0 t2_0 t3_0 t4_0 t5_0 lx36 a67 f60 lx84 lx85 lx86 j284 a275 from (by rw [← e285, ← e282, ← e279, ← e276, ← e274, ← e271, ← e269, ← e265]; have h := hS100; rw [S_WR_shift_L189.eq_2] at h; rw [if_neg c104] at h; replace h := q_s2 h; rw [if_pos c358] at h; have c373x := c373; rw [← e276, ← e274, ← e271, ← e269, ← e265] at c373x; rw [if_pos c373x] at h; have c379x := c379; rw [← e377, ← e285, ← e282, ← e279] at c379x; rw [if_pos c379x] at h; with_reducible exact h))⟩
                    ·
                      exact J352 (()) _ _ _ w92 ⟨V, q_lw hl (q_lw1 0 rfl (q_lw1 1 rfl (q_lw1 2 rfl (q_lw1 4 rfl (q_lw1 5 rfl (q_lw1 6 rfl q_lw0)))))), (show F_WR_shift_J243 (F_WR_shift_L189 x2 x3 x4 t0_0 t0_1 t0_2 t0_3 t0_4 t0_5 t0_6 t1_0 t2_0 t3_0 t4_0 t5_0 lx36 a67 f60 fm103) x2 x3 x4 t0_0 t0_1 t0_2 t0_3 t0_4 t0_5 t0_6 t1_0 t2_0 t3_0 t4_0 t5_0 lx36 a67 f60 lx84 lx85 lx86 j284 a275 = (F_WR_shift x2 x3 x4 t0_0 t0_1 t0_2 t0_3 t0_4 t0_5 t0_6 t1_0 t2_0 t3_0 t4_0 t5_0) from Eq.trans (by have c373x := c373; rw [← e276, ← e274, ← e271, ← e269, ← e265] at c373x; have c379x := c379; rw [← e377, ← e285, ← e282, ← e279] at c379x; rw [← e285, ← e282, ← e279, ← e276, ← e274, ← e271, ← e269, ← e265, F_WR_shift_L189.eq_2, if_neg c104, if_pos c358, if_pos c373x, if_neg c379x]) hR99), (show True ∧ S_WR_shift_J243 (S_WR_shift_L189 x2 x3 x4 t0_0 t0_1 t0_2 t0_3 t0_4 t0_5 t0_6 t1_0 t2_0 t3_0 t4_0 t5_0 lx36 a67 f60 fm103) x2 x3 x4 t0_0 t0_1 t0_2 t0_3 t0_4 t0_5 t0_6 t1_0 t2_0 t3_0 t4_0 t5_0 lx36 a67 f60 lx84 lx85 lx86 j284 a275 from (by rw [← e285, ← e282, ← e279, ← e276, ← e274, ← e271, ← e269, ← e265]; have h := hS100; rw [S_WR_shift_L189.eq_2] at h; rw [if_neg c104] at h; replace h := q_s2 h; rw [if_pos c358] at h; have c373x := c373; rw [← e276, ← e274, ← e271, ← e269, ← e265] at c373x; rw [if_pos c373x] at h; have c379x := c379; rw [← e377, ← e285, ← e282, ← e279] at c379x; rw [if_neg c379x] at h; with_reducible exact h))⟩
      ·
        have b382 : q_F (0 ≤ x3.toInt) := (q_nltI c80)
        refine lv_iload_n hx hb d_19_38_66 rfl (lv_at hl 2 rfl) ?_
        refine lv_sipush (v := 2048) hx hb d_19_38_67 (by decide) ?_
        refine q_join (X := Unit) (fun z H locs ls _ => q_Wd D g (va_A ws sz) s u73 H locs ∧ lv_has ls 9 [(0, .ref (q 119)), (2, .int x3), (3, .int x4)] ∧ F_WR_shift_J89 x2 x3 x4 t0_0 t0_1 t0_2 t0_3 t0_4 t0_5 t0_6 t1_0 t2_0 t3_0 t4_0 t5_0 lx36 a67 f75 f60 = (F_WR_shift x2 x3 x4 t0_0 t0_1 t0_2 t0_3 t0_4 t0_5 t0_6 t1_0 t2_0 t3_0 t4_0 t5_0) ∧ True ∧ S_WR_shift_J89 x2 x3 x4 t0_0 t0_1 t0_2 t0_3 t0_4 t0_5 t0_6 t1_0 t2_0 t3_0 t4_0 t5_0 lx36 a67 f75 f60) (fun z => []) 89 0 0 ?_ ?_
        ·
          rintro _ H locs ls _ ⟨V, hl, hR390, hS391⟩
          replace hl : lv_has ls 9 [(0, .ref (q 119)), (2, .int x3), (3, .int x4)] := hl
          refine lv_iconst (v := 0) hx hb d_19_38_89 (by decide) ?_
          refine lv_istore (lv' := [(4, .int 0), (0, .ref (q 119)), (2, .int x3), (3, .int x4)]) hx hb d_19_38_90 hl (by decide) rfl (fun ls hl => ?_)
          refine q_loop (X := Int32 × (Nat → Int32)) (fun z H locs ls w401 => q_F (z.1.toInt ≤ 2100) ∧ q_F (lx36.toInt ≤ z.1.toInt) ∧ q_Wd D g (va_A ws sz) s w401 H locs ∧ lv_has ls 9 [(4, .int z.1), (0, .ref (q 119)), (2, .int x3), (3, .int x4)] ∧ q_I (msh g q) q w401 ∧ q_un ws w401 [119, 121, 122, 123, 124, 128] ∧ w401[119]? = (some (q 119, .inr (13, [.int lx36, .int 2, .ref (q 120), .int t0_2, .ref (q 121), .ref (q 122), .ref (q 123), .int a67, .ref (q 124), .ref (q 125), .ref (q 126), .ref (q 127), .ref (q 128), .ref (q 129), .ref (q 130), .ref (q 131), .int t0_4, .int t0_5, .ref (q 132), .ref (q 133), .int t0_6])) : Option (Nat × va_E)) ∧ w401[121]? = (some (q 121, .inl (g 0, (1408 : Int32).toNatClampNeg, .inl t1_0)) : Option (Nat × va_E)) ∧ w401[122]? = (some (q 122, .inl (g 3, 11, .inl t2_0)) : Option (Nat × va_E)) ∧ w401[123]? = (some (q 123, .inl (g 0, (264 : Int32).toNatClampNeg, .inl z.2)) : Option (Nat × va_E)) ∧ w401[124]? = (some (q 124, .inl (g 0, (264 : Int32).toNatClampNeg, .inl t4_0)) : Option (Nat × va_E)) ∧ w401[128]? = (some (q 128, .inl (g 0, (264 : Int32).toNatClampNeg, .inl f60)) : Option (Nat × va_E)) ∧ (∃ n, (2100 - z.1.toInt).toNat < n ∧ F_WR_shift_L92 x2 x3 x4 t0_0 t0_1 t0_2 t0_3 t0_4 t0_5 t0_6 t1_0 t2_0 t3_0 t4_0 t5_0 lx36 a67 f75 f60 n z.1 z.2 = (F_WR_shift x2 x3 x4 t0_0 t0_1 t0_2 t0_3 t0_4 t0_5 t0_6 t1_0 t2_0 t3_0 t4_0 t5_0) ∧ True ∧ S_WR_shift_L92 x2 x3 x4 t0_0 t0_1 t0_2 t0_3 t0_4 t0_5 t0_6 t1_0 t2_0 t3_0 t4_0 t5_0 lx36 a67 f75 f60 n z.1 z.2)) (fun z => (2100 - z.1.toInt).toNat) ?_ ((0 : Int32), (f75 : (Nat → Int32))) _ _ _ u73 ⟨(show q_F (0 ≤ 2100) from (show 0 ≤ 2100 from by omega)), (show q_F (lx36.toInt ≤ 0) from (show lx36.toInt ≤ 0 from by have t1 : lx36.toInt ≤ 0 := b54; omega)), V, q_lw hl (q_lw1 0 rfl (q_lw1 1 rfl (q_lw1 2 rfl (q_lw1 3 rfl q_lw0)))), hI, hF, hT0, hT1, hT2, hA76, hT4, hA61, ⟨((2100 - (0 : Int32).toInt).toNat + 1), Nat.lt_succ_self _, (show F_WR_shift_L92 x2 x3 x4 t0_0 t0_1 t0_2 t0_3 t0_4 t0_5 t0_6 t1_0 t2_0 t3_0 t4_0 t5_0 lx36 a67 f75 f60 ((2100 - (0 : Int32).toInt).toNat + 1) 0 f75 = (F_WR_shift x2 x3 x4 t0_0 t0_1 t0_2 t0_3 t0_4 t0_5 t0_6 t1_0 t2_0 t3_0 t4_0 t5_0) from Eq.trans (by rw [F_WR_shift_J89.eq_1]) hR390), (show True ∧ S_WR_shift_L92 x2 x3 x4 t0_0 t0_1 t0_2 t0_3 t0_4 t0_5 t0_6 t1_0 t2_0 t3_0 t4_0 t5_0 lx36 a67 f75 f60 ((2100 - (0 : Int32).toInt).toNat + 1) 0 f75 from (by have h := hS391; rw [S_WR_shift_J89.eq_1] at h; with_reducible exact h))⟩⟩
          rintro ⟨lx396, lx397⟩ H locs ls w401 ⟨i398, i399, V, hl, hI, hF, hO402, hO403, hO404, hO405, hO406, hO407, ⟨fu410, hf411, hR408, hS409⟩⟩ ih400
          obtain ⟨fm412, rfl⟩ : ∃ m, fu410 = m + 1 := ⟨fu410 - 1, by omega⟩
          replace i398 : q_F (lx396.toInt ≤ 2100) := i398
          replace i399 : q_F (lx36.toInt ≤ lx396.toInt) := i399
          replace hl : lv_has ls 9 [(4, .int lx396), (0, .ref (q 119)), (2, .int x3), (3, .int x4)] := hl
          replace hO402 : w401[119]? = (some (q 119, .inr (13, [.int lx36, .int 2, .ref (q 120), .int t0_2, .ref (q 121), .ref (q 122), .ref (q 123), .int a67, .ref (q 124), .ref (q 125), .ref (q 126), .ref (q 127), .ref (q 128), .ref (q 129), .ref (q 130), .ref (q 131), .int t0_4, .int t0_5, .ref (q 132), .ref (q 133), .int t0_6])) : Option (Nat × va_E)) := hO402
          replace hO403 : w401[121]? = (some (q 121, .inl (g 0, (1408 : Int32).toNatClampNeg, .inl t1_0)) : Option (Nat × va_E)) := hO403
          replace hO404 : w401[122]? = (some (q 122, .inl (g 3, 11, .inl t2_0)) : Option (Nat × va_E)) := hO404
          replace hO405 : w401[123]? = (some (q 123, .inl (g 0, (264 : Int32).toNatClampNeg, .inl lx397)) : Option (Nat × va_E)) := hO405
          replace hO406 : w401[124]? = (some (q 124, .inl (g 0, (264 : Int32).toNatClampNeg, .inl t4_0)) : Option (Nat × va_E)) := hO406
          replace hO407 : w401[128]? = (some (q 128, .inl (g 0, (264 : Int32).toNatClampNeg, .inl f60)) : Option (Nat × va_E)) := hO407
          refine lv_iload hx hb d_19_38_92 (lv_at hl 0 rfl) ?_
          refine lv_aload_n hx hb d_19_38_94 rfl (lv_at hl 1 rfl) ?_
          refine q_get (ci := 13) (j := 12) (v := .ref (q 128)) C0 V i_WR rfl rfl hO402 (by decide) w_1936 rfl d_19_38_95 ?_
          refine q_goi V (q_runS (As := [.ref (q 128)]) (rest := [.int lx396]) (d := 1) (mc := 0) (ms := 0) C0 V rfl LS_WR_59 (X_WR_size l D g q w401 128 264 (n_r128 g q)  hI f60 hO407  _) rfl hl.1 rfl (Nat.le_of_ble_eq_true rfl) ⟨by decide, by decide⟩ ⟨Nat.le_of_ble_eq_true rfl, Nat.le_of_ble_eq_true rfl⟩ d_19_38_98) (fun a415 u413 H locs hp414 V => ?_)
          obtain ⟨rfl, b416, b417, hE418⟩ := hp414
          have e419 : a415 = (F_WR_size (264 : Int32) f60) := hE418
          clear b416
          replace b417 : q_F (a415.toInt ≤ 264) := b417
          refine lv_icmp_ge (tgt := 177) hx hb d_19_38_101 (by decide) (fun c420 => ?_) (fun c420 => ?_)
          ·
            refine lv_aload_n hx hb d_19_38_177 rfl (lv_at hl 1 rfl) ?_
            refine lv_iload_n hx hb d_19_38_178 rfl (lv_at hl 3 rfl) ?_
            have ob422 : True ∧ S_WR_store x4 lx36 (2 : Int32) t0_2 a67 t0_4 t0_5 t0_6 t1_0 t2_0 lx397 := (by have h := hS409; rw [S_WR_shift_L92.eq_2] at h; have c420x := c420; rw [e419] at c420x; rw [if_pos c420x] at h; with_reducible exact h.2.1)
            refine q_gov V (q_runV (As := [.int x4]) (rest := []) (d := 2) (mc := 0) (ms := 0) (ci := 13) C0 V rfl LV_WR_103 (X_WR_store l D g q w401  x4 hI lx36 2 t0_2 a67 t0_4 t0_5 t0_6 hO402 t1_0 hO403 t2_0 hO404 lx397 hO405 ob422 _) rfl rfl hO402 rfl hl.1 rfl (Nat.le_of_ble_eq_true rfl) ⟨by decide, by decide⟩ ⟨Nat.le_of_ble_eq_true rfl, Nat.le_of_ble_eq_true rfl⟩ d_19_38_179) (fun u423 H locs hp424 V => ?_)
            obtain ⟨hI, hZ9⟩ := hp424
            obtain ⟨hu450, hZ9⟩ := hZ9
            obtain ⟨y426, hZ9⟩ := hZ9
            obtain ⟨y427, hZ9⟩ := hZ9
            obtain ⟨y428, hZ9⟩ := hZ9
            obtain ⟨y429, hZ9⟩ := hZ9
            obtain ⟨y430, hZ9⟩ := hZ9
            obtain ⟨y431, hZ9⟩ := hZ9
            obtain ⟨y432, hZ9⟩ := hZ9
            obtain ⟨f433, hZ9⟩ := hZ9
            obtain ⟨f435, hZ9⟩ := hZ9
            obtain ⟨hO425, hZ9⟩ := hZ9
            obtain ⟨hA434, hZ9⟩ := hZ9
            obtain ⟨hA436, hZ9⟩ := hZ9
            replace hZ9 := hZ9.2.2
            obtain ⟨b439, hZ9⟩ := hZ9
            obtain ⟨b440, hZ9⟩ := hZ9
            obtain ⟨b441, hZ9⟩ := hZ9
            obtain ⟨b442, hZ9⟩ := hZ9
            obtain ⟨b443, hZ9⟩ := hZ9
            obtain ⟨b444, hZ9⟩ := hZ9
            obtain ⟨b445, hZ9⟩ := hZ9
            obtain ⟨b446, hZ9⟩ := hZ9
            obtain ⟨b447, hZ9⟩ := hZ9
            obtain ⟨b448, hE449⟩ := hZ9
            replace hO425 : u423[119]? = (some (q 119, .inr (13, [.int y426, .int y427, .ref (q 120), .int y428, .ref (q 121), .ref (q 122), .ref (q 123), .int y429, .ref (q 124), .ref (q 125), .ref (q 126), .ref (q 127), .ref (q 128), .ref (q 129), .ref (q 130), .ref (q 131), .int y430, .int y431, .ref (q 132), .ref (q 133), .int y432])) : Option (Nat × va_E)) := hO425
            replace hA434 : u423[121]? = (some (q 121, .inl (g 0, (1408 : Int32).toNatClampNeg, .inl f433)) : Option (Nat × va_E)) := hA434
            replace hA436 : u423[122]? = (some (q 122, .inl (g 3, 11, .inl f435)) : Option (Nat × va_E)) := hA436
            obtain ⟨p451, e452⟩ : ∃ z, z = (F_WR_store x4 lx36 (2 : Int32) t0_2 a67 t0_4 t0_5 t0_6 t1_0 t2_0 lx397) := ⟨_, rfl⟩
            have e453 : y426 = p451.1 := congrArg (fun z => z.1) (hE449.trans e452.symm)
            have e454 : y427 = p451.2.1 := congrArg (fun z => z.2.1) (hE449.trans e452.symm)
            have e455 : y428 = p451.2.2.1 := congrArg (fun z => z.2.2.1) (hE449.trans e452.symm)
            have e456 : y429 = p451.2.2.2.1 := congrArg (fun z => z.2.2.2.1) (hE449.trans e452.symm)
            have e457 : y430 = p451.2.2.2.2.1 := congrArg (fun z => z.2.2.2.2.1) (hE449.trans e452.symm)
            have e458 : y431 = p451.2.2.2.2.2.1 := congrArg (fun z => z.2.2.2.2.2.1) (hE449.trans e452.symm)
            have e459 : y432 = p451.2.2.2.2.2.2.1 := congrArg (fun z => z.2.2.2.2.2.2.1) (hE449.trans e452.symm)
            have e460 : f433 = p451.2.2.2.2.2.2.2.1 := congrArg (fun z => z.2.2.2.2.2.2.2.1) (hE449.trans e452.symm)
            have e461 : f435 = p451.2.2.2.2.2.2.2.2 := congrArg (fun z => z.2.2.2.2.2.2.2.2) (hE449.trans e452.symm)
            replace b439 : q_F (t0_2.toInt ≤ y428.toInt) := b439
            replace b440 : q_F (y428.toInt ≤ t0_2.toInt) := b440
            replace b441 : q_F (a67.toInt ≤ y429.toInt) := b441
            replace b442 : q_F (y429.toInt ≤ a67.toInt) := b442
            replace b443 : q_F (t0_4.toInt ≤ y430.toInt) := b443
            replace b444 : q_F (y430.toInt ≤ t0_4.toInt) := b444
            replace b445 : q_F (t0_5.toInt ≤ y431.toInt) := b445
            replace b446 : q_F (y431.toInt ≤ t0_5.toInt) := b446
            replace b447 : q_F (t0_6.toInt ≤ y432.toInt) := b447
            replace b448 : q_F (y432.toInt ≤ t0_6.toInt) := b448
            replace hO405 := (hu450 _ (by decide)).trans hO405
            replace hO406 := (hu450 _ (by decide)).trans hO406
            replace hO407 := (hu450 _ (by decide)).trans hO407
            replace hF := q_uc hF hu450 (by simp)
            have hR462 := (show F_WR_shift_c179 (F_WR_shift_L92 x2 x3 x4 t0_0 t0_1 t0_2 t0_3 t0_4 t0_5 t0_6 t1_0 t2_0 t3_0 t4_0 t5_0 lx36 a67 f75 f60 fm412) x2 x3 x4 t0_0 t0_1 t0_2 t0_3 t0_4 t0_5 t0_6 t1_0 t2_0 t3_0 t4_0 t5_0 lx36 a67 f75 f60 lx396 lx397 p451 = (F_WR_shift x2 x3 x4 t0_0 t0_1 t0_2 t0_3 t0_4 t0_5 t0_6 t1_0 t2_0 t3_0 t4_0 t5_0) from Eq.trans (by have c420x := c420; rw [e419] at c420x; rw [e452, F_WR_shift_L92.eq_2, if_pos c420x]) hR408)
            have hS463 := (show True ∧ S_WR_shift_c179 (S_WR_shift_L92 x2 x3 x4 t0_0 t0_1 t0_2 t0_3 t0_4 t0_5 t0_6 t1_0 t2_0 t3_0 t4_0 t5_0 lx36 a67 f75 f60 fm412) x2 x3 x4 t0_0 t0_1 t0_2 t0_3 t0_4 t0_5 t0_6 t1_0 t2_0 t3_0 t4_0 t5_0 lx36 a67 f75 f60 lx396 lx397 p451 from (by rw [e452]; have h := hS409; rw [S_WR_shift_L92.eq_2] at h; have c420x := c420; rw [e419] at c420x; rw [if_pos c420x] at h; replace h := q_s2 h; with_reducible exact h))
            exact q_retv C0 V (⟨hI, hF, y426, y427, y428, y429, y430, y431, y432, f433, f435, lx397, t4_0, f60, hO425, hA434, hA436, hO405, hO406, hO407, (show 0 ≤ y429.toInt from (by have t1 : 0 ≤ a67.toInt := ob71; have t2 : a67.toInt ≤ y429.toInt := b441; omega)), (show y429.toInt ≤ 1 from (by have t1 : a67.toInt ≤ 1 := ob72; have t2 : y429.toInt ≤ a67.toInt := b442; omega)), (show t0_2.toInt ≤ y428.toInt from (by first | with_reducible exact q_fe b439 | (have t1 : t0_2.toInt ≤ y428.toInt := b439; omega))), (show y428.toInt ≤ t0_2.toInt from (by first | with_reducible exact q_fe b440 | (have t1 : y428.toInt ≤ t0_2.toInt := b440; omega))), (show t0_4.toInt ≤ y430.toInt from (by first | with_reducible exact q_fe b443 | (have t1 : t0_4.toInt ≤ y430.toInt := b443; omega))), (show y430.toInt ≤ t0_4.toInt from (by first | with_reducible exact q_fe b444 | (have t1 : y430.toInt ≤ t0_4.toInt := b444; omega))), (show t0_5.toInt ≤ y431.toInt from (by first | with_reducible exact q_fe b445 | (have t1 : t0_5.toInt ≤ y431.toInt := b445; omega))), (show y431.toInt ≤ t0_5.toInt from (by first | with_reducible exact q_fe b446 | (have t1 : y431.toInt ≤ t0_5.toInt := b446; omega))), (show t0_6.toInt ≤ y432.toInt from (by first | with_reducible exact q_fe b447 | (have t1 : t0_6.toInt ≤ y432.toInt := b447; omega))), (show y432.toInt ≤ t0_6.toInt from (by first | with_reducible exact q_fe b448 | (have t1 : y432.toInt ≤ t0_6.toInt := b448; omega))), (show (y426, y427, y428, y429, y430, y431, y432, f433, f435, lx397, t4_0, f60) = (F_WR_shift x2 x3 x4 t0_0 t0_1 t0_2 t0_3 t0_4 t0_5 t0_6 t1_0 t2_0 t3_0 t4_0 t5_0) from Eq.trans (by rw [e461, e460, e459, e458, e457, e456, e455, e454, e453, F_WR_shift_c179.eq_1]) hR462)⟩) d_19_38_182
          ·
            have b467 : q_F (lx396.toInt < a415.toInt) := (q_nleI c420)
            refine lv_aload_n hx hb d_19_38_104 rfl (lv_at hl 1 rfl) ?_
            refine q_get (ci := 13) (j := 12) (v := .ref (q 128)) C0 V i_WR rfl rfl hO402 (by decide) w_1936 rfl d_19_38_105 ?_
            refine lv_iload hx hb d_19_38_108 (lv_at hl 0 rfl) ?_
            refine q_iald C0 V hO407 (q_ix (x := lx396.toInt) rfl (by have t1 : 0 ≤ lx36.toInt := i44; have t2 : lx36.toInt ≤ lx396.toInt := i399; omega) (by have t1 : 0 ≤ lx36.toInt := i44; have t2 : lx36.toInt ≤ lx396.toInt := i399; have t3 : a415.toInt ≤ 264 := b417; have t4 : lx396.toInt < a415.toInt := b467; have e9 : (((264 : Int32).toNatClampNeg : Nat) : Int) = 264 := (by decide); omega)) d_19_38_110 ?_
            obtain ⟨a468, e469⟩ := q_nm (f60 lx396.toNatClampNeg : Int32)
            refine q_ti (v := a468) e469 ?_
            refine lv_i2l hx hb d_19_38_111 rfl ?_
            obtain ⟨j470, e471⟩ := q_nm (a468.toInt64 : Int64)
            refine q_tl (v := j470) e471 ?_
            refine lv_iload_n hx hb d_19_38_112 rfl (lv_at hl 2 rfl) ?_
            refine lv_bipush (v := 16) hx hb d_19_38_113 (by decide) ?_
            refine lv_irem hx hb d_19_38_115 (by decide) ?_
            obtain ⟨a473, e474⟩ := q_nm (x3 - x3 / 16 * 16 : Int32)
            refine q_ti (v := a473) e474 ?_
            refine lv_lshl hx hb d_19_38_116 rfl ?_
            obtain ⟨j476, e477⟩ := q_nm (j470 <<< (a473.toInt64 &&& 63) : Int64)
            refine q_tl (v := j476) e477 ?_
            refine lv_lstore (lv' := [(5, .long j476), (4, .int lx396), (0, .ref (q 119)), (2, .int x3), (3, .int x4)]) hx hb d_19_38_117 hl (by decide) rfl (fun ls hl => ?_)
            refine lv_aload_n hx hb d_19_38_119 rfl (lv_at hl 2 rfl) ?_
            refine q_get (ci := 13) (j := 6) (v := .ref (q 123)) C0 V i_WR rfl rfl hO402 (by decide) w_1930 rfl d_19_38_120 ?_
            refine lv_iload hx hb d_19_38_123 (lv_at hl 1 rfl) ?_
            refine lv_iload_n hx hb d_19_38_125 rfl (lv_at hl 3 rfl) ?_
            refine lv_bipush (v := 16) hx hb d_19_38_126 (by decide) ?_
            refine lv_idiv hx hb d_19_38_128 (by decide) ?_
            obtain ⟨a478, e479⟩ := q_nm (x3 / 16 : Int32)
            refine q_ti (v := a478) e479 ?_
            have b480 : q_F (16 * a478.toInt ≤ x3.toInt ∧ x3.toInt ≤ 16 * a478.toInt + 15) := (by rw [← e479]; show 16 * (x3 / 16 : Int32).toInt ≤ x3.toInt ∧ x3.toInt ≤ 16 * (x3 / 16 : Int32).toInt + 15; exact (by have z := q_divI (y := 16) (rfl : x3.toInt = _) (by decide : (16 : Int32).toInt = 16) (by first | with_reducible exact q_fe b382 | (have t1 : 0 ≤ x3.toInt := b382; omega)) (by decide); omega))
            refine lv_iadd hx hb d_19_38_129 ?_
            obtain ⟨a481, e482⟩ := q_nm (lx396 + a478 : Int32)
            refine q_ti (v := a481) e482 ?_
            have b483 : q_F (a481.toInt = lx396.toInt + a478.toInt) := (by rw [← e482]; show (lx396 + a478 : Int32).toInt = lx396.toInt + a478.toInt; exact q_addI (x := lx396.toInt) (y := a478.toInt) rfl rfl (by have t1 : 0 ≤ lx36.toInt := i44; have t2 : 0 ≤ x3.toInt := b382; have t3 : lx36.toInt ≤ lx396.toInt := i399; have t4 : 16 * a478.toInt ≤ x3.toInt ∧ x3.toInt ≤ 16 * a478.toInt + 15 := b480; have t5 : lx396.toInt ≤ 2100 := i398; have _ := q_lo32 (x := x3); have _ := q_hi32 (x := x3); omega) (by have t1 : 0 ≤ lx36.toInt := i44; have t2 : 0 ≤ x3.toInt := b382; have t3 : lx36.toInt ≤ lx396.toInt := i399; have t4 : 16 * a478.toInt ≤ x3.toInt ∧ x3.toInt ≤ 16 * a478.toInt + 15 := b480; have t5 : lx396.toInt ≤ 2100 := i398; have _ := q_lo32 (x := x3); have _ := q_hi32 (x := x3); omega))
            refine lv_aload_n hx hb d_19_38_130 rfl (lv_at hl 2 rfl) ?_
            refine q_get (ci := 13) (j := 6) (v := .ref (q 123)) C0 V i_WR rfl rfl hO402 (by decide) w_1930 rfl d_19_38_131 ?_
            refine lv_iload hx hb d_19_38_134 (lv_at hl 1 rfl) ?_
            refine lv_iload_n hx hb d_19_38_136 rfl (lv_at hl 3 rfl) ?_
            refine lv_bipush (v := 16) hx hb d_19_38_137 (by decide) ?_
            refine lv_idiv hx hb d_19_38_139 (by decide) ?_
            obtain ⟨a484, e485⟩ := q_nm (x3 / 16 : Int32)
            refine q_ti (v := a484) e485 ?_
            have b486 : q_F (16 * a484.toInt ≤ x3.toInt ∧ x3.toInt ≤ 16 * a484.toInt + 15) := (by rw [← e485]; show 16 * (x3 / 16 : Int32).toInt ≤ x3.toInt ∧ x3.toInt ≤ 16 * (x3 / 16 : Int32).toInt + 15; exact (by have z := q_divI (y := 16) (rfl : x3.toInt = _) (by decide : (16 : Int32).toInt = 16) (by first | with_reducible exact q_fe b382 | (have t1 : 0 ≤ x3.toInt := b382; omega)) (by decide); omega))
            refine lv_iadd hx hb d_19_38_140 ?_
            obtain ⟨a487, e488⟩ := q_nm (lx396 + a484 : Int32)
            refine q_ti (v := a487) e488 ?_
            have b489 : q_F (a487.toInt = lx396.toInt + a484.toInt) := (by rw [← e488]; show (lx396 + a484 : Int32).toInt = lx396.toInt + a484.toInt; exact q_addI (x := lx396.toInt) (y := a484.toInt) rfl rfl (by have t1 : 0 ≤ lx36.toInt := i44; have t2 : 0 ≤ x3.toInt := b382; have t3 : lx36.toInt ≤ lx396.toInt := i399; have t4 : 16 * a484.toInt ≤ x3.toInt ∧ x3.toInt ≤ 16 * a484.toInt + 15 := b486; have t5 : lx396.toInt ≤ 2100 := i398; have _ := q_lo32 (x := x3); have _ := q_hi32 (x := x3); omega) (by have t1 : 0 ≤ lx36.toInt := i44; have t2 : 0 ≤ x3.toInt := b382; have t3 : lx36.toInt ≤ lx396.toInt := i399; have t4 : 16 * a484.toInt ≤ x3.toInt ∧ x3.toInt ≤ 16 * a484.toInt + 15 := b486; have t5 : lx396.toInt ≤ 2100 := i398; have _ := q_lo32 (x := x3); have _ := q_hi32 (x := x3); omega))
            have ob490 : q_F (a487.toInt ≤ 263) := (by rw [← e488, ← e485]; have h := hS409; rw [S_WR_shift_L92.eq_2] at h; have c420x := c420; rw [e419] at c420x; rw [if_neg c420x] at h; exact h.2.1)
            refine q_iald C0 V hO405 (q_ix (x := a487.toInt) rfl (by have t1 : 0 ≤ lx36.toInt := i44; have t2 : 0 ≤ x3.toInt := b382; have t3 : lx36.toInt ≤ lx396.toInt := i399; have t4 : 16 * a484.toInt ≤ x3.toInt ∧ x3.toInt ≤ 16 * a484.toInt + 15 := b486; have t5 : a487.toInt = lx396.toInt + a484.toInt := b489; omega) (by have t1 : 0 ≤ lx36.toInt := i44; have t2 : 0 ≤ x3.toInt := b382; have t3 : lx36.toInt ≤ lx396.toInt := i399; have t4 : 16 * a484.toInt ≤ x3.toInt ∧ x3.toInt ≤ 16 * a484.toInt + 15 := b486; have t5 : a487.toInt = lx396.toInt + a484.toInt := b489; have t6 : a487.toInt ≤ 263 := ob490; have e9 : (((264 : Int32).toNatClampNeg : Nat) : Int) = 264 := (by decide); omega)) d_19_38_141 ?_
            obtain ⟨a491, e492⟩ := q_nm (lx397 a487.toNatClampNeg : Int32)
            refine q_ti (v := a491) e492 ?_
            refine lv_lload hx hb d_19_38_142 (lv_at hl 0 rfl) ?_
            refine q_ldc2 C0 rfl w_2384 d_19_38_144 ?_
            refine lv_land hx hb d_19_38_147 ?_
            obtain ⟨j493, e494⟩ := q_nm (j476 &&& 65535 : Int64)
            refine q_tl (v := j493) e494 ?_
            refine lv_l2i hx hb d_19_38_148 rfl ?_
            obtain ⟨a496, e497⟩ := q_nm (j493.toInt32 : Int32)
            refine q_ti (v := a496) e497 ?_
            refine lv_ior hx hb d_19_38_149 ?_
            obtain ⟨a499, e500⟩ := q_nm (a491 ||| a496 : Int32)
            refine q_ti (v := a499) e500 ?_
            refine q_iast C0 V hO405 (q_ix (x := a481.toInt) rfl (by have t1 : 0 ≤ lx36.toInt := i44; have t2 : 0 ≤ x3.toInt := b382; have t3 : lx36.toInt ≤ lx396.toInt := i399; have t4 : 16 * a478.toInt ≤ x3.toInt ∧ x3.toInt ≤ 16 * a478.toInt + 15 := b480; have t5 : a481.toInt = lx396.toInt + a478.toInt := b483; omega) (by have t1 : 0 ≤ lx36.toInt := i44; have t2 : 0 ≤ x3.toInt := b382; have t3 : lx36.toInt ≤ lx396.toInt := i399; have t4 : 16 * a478.toInt ≤ x3.toInt ∧ x3.toInt ≤ 16 * a478.toInt + 15 := b480; have t5 : a481.toInt = lx396.toInt + a478.toInt := b483; have t6 : 16 * a484.toInt ≤ x3.toInt ∧ x3.toInt ≤ 16 * a484.toInt + 15 := b486; have t7 : a487.toInt = lx396.toInt + a484.toInt := b489; have t8 : a487.toInt ≤ 263 := ob490; have e9 : (((264 : Int32).toNatClampNeg : Nat) : Int) = 264 := (by decide); omega)) d_19_38_150 (fun H locs w501 hu502 hO405 V => ?_)
            replace hI := n_ai' hI (n_r123 g q).1 hu502 hO405 (q_updB (fun _ => s_bnd) s_bnd)
            replace hO402 := (hu502 _ (by decide)).trans hO402
            replace hO403 := (hu502 _ (by decide)).trans hO403
            replace hO404 := (hu502 _ (by decide)).trans hO404
            replace hO406 := (hu502 _ (by decide)).trans hO406
            replace hO407 := (hu502 _ (by decide)).trans hO407
            replace hF := q_us hF hu502 (by simp)
            obtain ⟨f503, e504⟩ := q_nm (upd lx397 a481.toNatClampNeg a499 : (Nat → Int32))
            rw [e504] at hO405
            refine lv_aload_n hx hb d_19_38_151 rfl (lv_at hl 2 rfl) ?_
            refine q_get (ci := 13) (j := 6) (v := .ref (q 123)) C0 V i_WR rfl rfl hO402 (by decide) w_1930 rfl d_19_38_152 ?_
            refine lv_iload hx hb d_19_38_155 (lv_at hl 1 rfl) ?_
            refine lv_iload_n hx hb d_19_38_157 rfl (lv_at hl 3 rfl) ?_
            refine lv_bipush (v := 16) hx hb d_19_38_158 (by decide) ?_
            refine lv_idiv hx hb d_19_38_160 (by decide) ?_
            obtain ⟨a505, e506⟩ := q_nm (x3 / 16 : Int32)
            refine q_ti (v := a505) e506 ?_
            refine lv_iadd hx hb d_19_38_161 ?_
            obtain ⟨a508, e509⟩ := q_nm (lx396 + a505 : Int32)
            refine q_ti (v := a508) e509 ?_
            refine lv_iconst (v := 1) hx hb d_19_38_162 (by decide) ?_
            refine lv_iadd hx hb d_19_38_163 ?_
            obtain ⟨a511, e512⟩ := q_nm (a508 + 1 : Int32)
            refine q_ti (v := a511) e512 ?_
            refine lv_lload hx hb d_19_38_164 (lv_at hl 0 rfl) ?_
            refine lv_bipush (v := 16) hx hb d_19_38_166 (by decide) ?_
            refine lv_lshr hx hb d_19_38_168 rfl ?_
            obtain ⟨j514, e515⟩ := q_nm (j476 >>> ((16 : Int32).toInt64 &&& 63) : Int64)
            refine q_tl (v := j514) e515 ?_
            refine lv_l2i hx hb d_19_38_169 rfl ?_
            obtain ⟨a516, e517⟩ := q_nm (j514.toInt32 : Int32)
            refine q_ti (v := a516) e517 ?_
            have ob518 : q_F (0 ≤ a511.toInt) := (by rw [← e512, ← e509, ← e506]; have h := hS409; rw [S_WR_shift_L92.eq_2] at h; have c420x := c420; rw [e419] at c420x; rw [if_neg c420x] at h; replace h := q_s2 h; exact h.2.1)
            have ob519 : q_F (a511.toInt ≤ 263) := (by rw [← e512, ← e509, ← e506]; have h := hS409; rw [S_WR_shift_L92.eq_2] at h; have c420x := c420; rw [e419] at c420x; rw [if_neg c420x] at h; replace h := q_s2 h; replace h := q_s2 h; exact h.2.1)
            refine q_iast C0 V hO405 (q_ix (x := a511.toInt) rfl (by first | with_reducible exact q_fe ob518 | (have t1 : 0 ≤ a511.toInt := ob518; omega)) (by have t1 : 0 ≤ a511.toInt := ob518; have t2 : a511.toInt ≤ 263 := ob519; have e9 : (((264 : Int32).toNatClampNeg : Nat) : Int) = 264 := (by decide); omega)) d_19_38_170 (fun H locs w520 hu521 hO405 V => ?_)
            replace hI := n_ai' hI (n_r123 g q).1 hu521 hO405 (q_updB (fun _ => s_bnd) s_bnd)
            replace hO402 := (hu521 _ (by decide)).trans hO402
            replace hO403 := (hu521 _ (by decide)).trans hO403
            replace hO404 := (hu521 _ (by decide)).trans hO404
            replace hO406 := (hu521 _ (by decide)).trans hO406
            replace hO407 := (hu521 _ (by decide)).trans hO407
            replace hF := q_us hF hu521 (by simp)
            obtain ⟨f522, e523⟩ := q_nm (upd f503 a511.toNatClampNeg a516 : (Nat → Int32))
            rw [e523] at hO405
            obtain ⟨a524, e525⟩ := q_nm (lx396 + 1 : Int32)
            have b526 : q_F (a524.toInt = lx396.toInt + 1) := (by rw [← e525]; exact q_addI (y := 1) rfl (by decide) (by have t1 : lx36.toInt ≤ lx396.toInt := i399; have _ := q_lo32 (x := lx36); have _ := q_hi32 (x := lx36); have t2 : lx396.toInt ≤ 2100 := i398; omega) (by have t1 : lx36.toInt ≤ lx396.toInt := i399; have _ := q_lo32 (x := lx36); have _ := q_hi32 (x := lx36); have t2 : lx396.toInt ≤ 2100 := i398; omega))
            refine lv_iinc (v := a524) (lv' := [(4, .int a524), (5, .long j476), (0, .ref (q 119)), (2, .int x3), (3, .int x4)]) hx hb d_19_38_171 hl (k := 1) rfl (e525) (by decide) rfl (fun ls hl => ?_)
            refine lv_goto (tgt := 92) hx hb d_19_38_174 (by decide) ?_
            exact ih400 ((a524 : Int32), (f522 : (Nat → Int32))) _ _ _ _ (show (2100 - a524.toInt).toNat < (2100 - lx396.toInt).toNat from by have t1 : a524.toInt = lx396.toInt + 1 := b526; have t2 : lx396.toInt ≤ 2100 := i398; have t3 : a415.toInt ≤ 264 := b417; have t4 : lx396.toInt < a415.toInt := b467; omega) ⟨(show q_F (a524.toInt ≤ 2100) from (show a524.toInt ≤ 2100 from by have t1 : a415.toInt ≤ 264 := b417; have t2 : lx396.toInt < a415.toInt := b467; have t3 : a524.toInt = lx396.toInt + 1 := b526; omega)), (show q_F (lx36.toInt ≤ a524.toInt) from (show lx36.toInt ≤ a524.toInt from by have t1 : lx36.toInt ≤ lx396.toInt := i399; have t2 : a524.toInt = lx396.toInt + 1 := b526; omega)), V, q_lw hl (q_lw1 0 rfl (q_lw1 2 rfl (q_lw1 3 rfl (q_lw1 4 rfl q_lw0)))), hI, hF, hO402, hO403, hO404, hO405, hO406, hO407, ⟨fm412, Nat.lt_of_lt_of_le (show (2100 - a524.toInt).toNat < (2100 - lx396.toInt).toNat from by have t1 : a524.toInt = lx396.toInt + 1 := b526; have t2 : lx396.toInt ≤ 2100 := i398; have t3 : a415.toInt ≤ 264 := b417; have t4 : lx396.toInt < a415.toInt := b467; omega) (Nat.le_of_lt_succ hf411), (show F_WR_shift_L92 x2 x3 x4 t0_0 t0_1 t0_2 t0_3 t0_4 t0_5 t0_6 t1_0 t2_0 t3_0 t4_0 t5_0 lx36 a67 f75 f60 fm412 a524 f522 = (F_WR_shift x2 x3 x4 t0_0 t0_1 t0_2 t0_3 t0_4 t0_5 t0_6 t1_0 t2_0 t3_0 t4_0 t5_0) from Eq.trans (by have c420x := c420; rw [e419] at c420x; rw [← e525, ← e523, ← e517, ← e515, ← e512, ← e509, ← e506, ← e504, ← e500, ← e497, ← e494, ← e492, ← e488, ← e485, ← e482, ← e479, ← e477, ← e474, ← e471, ← e469, F_WR_shift_L92.eq_2, if_neg c420x]) hR408), (show True ∧ S_WR_shift_L92 x2 x3 x4 t0_0 t0_1 t0_2 t0_3 t0_4 t0_5 t0_6 t1_0 t2_0 t3_0 t4_0 t5_0 lx36 a67 f75 f60 fm412 a524 f522 from (by rw [← e525, ← e523, ← e517, ← e515, ← e512, ← e509, ← e506, ← e504, ← e500, ← e497, ← e494, ← e492, ← e488, ← e485, ← e482, ← e479, ← e477, ← e474, ← e471, ← e469]; have h := hS409; rw [S_WR_shift_L92.eq_2] at h; have c420x := c420; rw [e419] at c420x; rw [if_neg c420x] at h; replace h := q_s2 h; replace h := q_s2 h; replace h := q_s2 h; with_reducible exact h))⟩⟩
        ·
          intro J389
          refine lv_icmp_le (tgt := 89) hx hb d_19_38_70 (by decide) (fun c527 => ?_) (fun c527 => ?_)
          ·
            exact J389 (()) _ _ _ u73 ⟨V, q_lw hl (q_lw1 0 rfl (q_lw1 2 rfl (q_lw1 3 rfl q_lw0))), (show F_WR_shift_J89 x2 x3 x4 t0_0 t0_1 t0_2 t0_3 t0_4 t0_5 t0_6 t1_0 t2_0 t3_0 t4_0 t5_0 lx36 a67 f75 f60 = (F_WR_shift x2 x3 x4 t0_0 t0_1 t0_2 t0_3 t0_4 t0_5 t0_6 t1_0 t2_0 t3_0 t4_0 t5_0) from Eq.trans (by rw [e79, ← e68, e64, F_WR_shift_J20.eq_1, if_pos c53, if_neg c80, if_pos c527]) hR46), (show True ∧ S_WR_shift_J89 x2 x3 x4 t0_0 t0_1 t0_2 t0_3 t0_4 t0_5 t0_6 t1_0 t2_0 t3_0 t4_0 t5_0 lx36 a67 f75 f60 from (by rw [e79, ← e68, e64]; have h := hS47; rw [S_WR_shift_J20.eq_1] at h; rw [if_pos c53] at h; replace h := q_s2 h; replace h := q_s2 h; replace h := q_s2 h; replace h := q_s2 h; replace h := q_s2 h; rw [if_neg c80] at h; rw [if_pos c527] at h; with_reducible exact h))⟩
          ·
            refine lv_aload_n hx hb d_19_38_73 rfl (lv_at hl 0 rfl) ?_
            refine q_get (ci := 13) (j := 12) (v := .ref (q 128)) C0 V i_WR rfl rfl hT0 (by decide) w_1936 rfl d_19_38_74 ?_
            refine q_goi V (q_runS (As := [.ref (q 128)]) (rest := []) (d := 1) (mc := 0) (ms := 0) C0 V rfl LS_WR_59 (X_WR_size l D g q u73 128 264 (n_r128 g q)  hI f60 hA61  _) rfl hl.1 rfl (Nat.le_of_ble_eq_true rfl) ⟨by decide, by decide⟩ ⟨Nat.le_of_ble_eq_true rfl, Nat.le_of_ble_eq_true rfl⟩ d_19_38_77) (fun a532 u530 H locs hp531 V => ?_)
            obtain ⟨rfl, b533, b534, hE535⟩ := hp531
            have e536 : a532 = (F_WR_size (264 : Int32) f60) := hE535
            clear b533
            clear b534
            refine lv_if_le (tgt := 89) hx hb d_19_38_80 (by decide) (fun c537 => ?_) (fun c537 => ?_)
            ·
              exact J389 (()) _ _ _ u73 ⟨V, q_lw hl (q_lw1 0 rfl (q_lw1 2 rfl (q_lw1 3 rfl q_lw0))), (show F_WR_shift_J89 x2 x3 x4 t0_0 t0_1 t0_2 t0_3 t0_4 t0_5 t0_6 t1_0 t2_0 t3_0 t4_0 t5_0 lx36 a67 f75 f60 = (F_WR_shift x2 x3 x4 t0_0 t0_1 t0_2 t0_3 t0_4 t0_5 t0_6 t1_0 t2_0 t3_0 t4_0 t5_0) from Eq.trans (by have c537x := c537; rw [e536, e64] at c537x; rw [e79, ← e68, e64, F_WR_shift_J20.eq_1, if_pos c53, if_neg c80, if_neg c527, if_pos c537x]) hR46), (show True ∧ S_WR_shift_J89 x2 x3 x4 t0_0 t0_1 t0_2 t0_3 t0_4 t0_5 t0_6 t1_0 t2_0 t3_0 t4_0 t5_0 lx36 a67 f75 f60 from (by rw [e79, ← e68, e64]; have h := hS47; rw [S_WR_shift_J20.eq_1] at h; rw [if_pos c53] at h; replace h := q_s2 h; replace h := q_s2 h; replace h := q_s2 h; replace h := q_s2 h; replace h := q_s2 h; rw [if_neg c80] at h; rw [if_neg c527] at h; have c537x := c537; rw [e536, e64] at c537x; rw [if_pos c537x] at h; with_reducible exact h))⟩
            ·
              refine lv_aload_n hx hb d_19_38_83 rfl (lv_at hl 0 rfl) ?_
              refine lv_iconst (v := 2) hx hb d_19_38_84 (by decide) ?_
              refine q_put (ci := 13) (j := 0) (v := .int 2) (ty := .int) C0 V i_WR o_WR n_WR rfl rfl hT0 (by decide) w_1921 rfl rfl rfl rfl (Nat.le_of_ble_eq_true rfl) d_19_38_85 (fun H locs w540 hu541 hT0 V => ?_)
              replace hT0 : w540[119]? = (some (q 119, .inr (13, [.int 2, .int 2, .ref (q 120), .int t0_2, .ref (q 121), .ref (q 122), .ref (q 123), .int a67, .ref (q 124), .ref (q 125), .ref (q 126), .ref (q 127), .ref (q 128), .ref (q 129), .ref (q 130), .ref (q 131), .int t0_4, .int t0_5, .ref (q 132), .ref (q 133), .int t0_6])) : Option (Nat × va_E)) := hT0
              replace hI := n_p119 hI hu541 hT0 (by first | with_reducible exact q_fe btt0_2 | exact ⟨(by have t1 : 0 ≤ t0_2.toInt ∧ t0_2.toInt ≤ 4100 := btt0_2; omega), (by have t1 : 0 ≤ t0_2.toInt ∧ t0_2.toInt ≤ 4100 := btt0_2; omega)⟩) ⟨(by first | with_reducible exact q_fe ob71 | (have t1 : 0 ≤ a67.toInt := ob71; omega)), (by first | with_reducible exact q_fe ob72 | (have t1 : a67.toInt ≤ 1 := ob72; omega))⟩ (by first | with_reducible exact q_fe btt0_4 | exact ⟨(by have t1 : 0 ≤ t0_4.toInt ∧ t0_4.toInt ≤ 1 := btt0_4; omega), (by have t1 : 0 ≤ t0_4.toInt ∧ t0_4.toInt ≤ 1 := btt0_4; omega)⟩) (by first | with_reducible exact q_fe btt0_5 | exact ⟨(by have t1 : 0 ≤ t0_5.toInt ∧ t0_5.toInt ≤ 1 := btt0_5; omega), (by have t1 : 0 ≤ t0_5.toInt ∧ t0_5.toInt ≤ 1 := btt0_5; omega)⟩) (by first | with_reducible exact q_fe btt0_6 | exact ⟨(by have t1 : 0 ≤ t0_6.toInt ∧ t0_6.toInt ≤ 2100 := btt0_6; omega), (by have t1 : 0 ≤ t0_6.toInt ∧ t0_6.toInt ≤ 2100 := btt0_6; omega)⟩)
              replace hT1 := (hu541 _ (by decide)).trans hT1
              replace hT2 := (hu541 _ (by decide)).trans hT2
              replace hA76 := (hu541 _ (by decide)).trans hA76
              replace hT4 := (hu541 _ (by decide)).trans hT4
              replace hA61 := (hu541 _ (by decide)).trans hA61
              replace hF := q_us hF hu541 (by simp)
              exact q_retv C0 V (⟨hI, hF, 2, 2, t0_2, a67, t0_4, t0_5, t0_6, t1_0, t2_0, f75, t4_0, f60, hT0, hT1, hT2, hA76, hT4, hA61, (show 0 ≤ a67.toInt from (by have z15 : (2 : Int32).toInt = 2 := rfl; have z16 : (2 : Int32).toInt = 2 := rfl; have t1 : 0 ≤ a67.toInt := ob71; omega)), (show a67.toInt ≤ 1 from (by have z15 : (2 : Int32).toInt = 2 := rfl; have z16 : (2 : Int32).toInt = 2 := rfl; have t1 : a67.toInt ≤ 1 := ob72; omega)), (show t0_2.toInt ≤ t0_2.toInt from (by have z15 : (2 : Int32).toInt = 2 := rfl; have z16 : (2 : Int32).toInt = 2 := rfl; omega)), (show t0_2.toInt ≤ t0_2.toInt from (by have z15 : (2 : Int32).toInt = 2 := rfl; have z16 : (2 : Int32).toInt = 2 := rfl; omega)), (show t0_4.toInt ≤ t0_4.toInt from (by have z15 : (2 : Int32).toInt = 2 := rfl; have z16 : (2 : Int32).toInt = 2 := rfl; omega)), (show t0_4.toInt ≤ t0_4.toInt from (by have z15 : (2 : Int32).toInt = 2 := rfl; have z16 : (2 : Int32).toInt = 2 := rfl; omega)), (show t0_5.toInt ≤ t0_5.toInt from (by have z15 : (2 : Int32).toInt = 2 := rfl; have z16 : (2 : Int32).toInt = 2 := rfl; omega)), (show t0_5.toInt ≤ t0_5.toInt from (by have z15 : (2 : Int32).toInt = 2 := rfl; have z16 : (2 : Int32).toInt = 2 := rfl; omega)), (show t0_6.toInt ≤ t0_6.toInt from (by have z15 : (2 : Int32).toInt = 2 := rfl; have z16 : (2 : Int32).toInt = 2 := rfl; omega)), (show t0_6.toInt ≤ t0_6.toInt from (by have z15 : (2 : Int32).toInt = 2 := rfl; have z16 : (2 : Int32).toInt = 2 := rfl; omega)), (show ((2 : Int32), (2 : Int32), t0_2, a67, t0_4, t0_5, t0_6, t1_0, t2_0, f75, t4_0, f60) = (F_WR_shift x2 x3 x4 t0_0 t0_1 t0_2 t0_3 t0_4 t0_5 t0_6 t1_0 t2_0 t3_0 t4_0 t5_0) from Eq.trans (by have c537x := c537; rw [e536, e64] at c537x; rw [e79, ← e68, e64, F_WR_shift_J20.eq_1, if_pos c53, if_neg c80, if_neg c527, if_neg c537x]) hR46)⟩) d_19_38_88
    ·
      exact q_retv C0 V (⟨hI, hF, lx36, t0_1, t0_2, t0_3, t0_4, t0_5, t0_6, t1_0, t2_0, t3_0, t4_0, t5_0, hT0, hT1, hT2, hT3, hT4, hT5, (show 0 ≤ t0_3.toInt from (by first | with_reducible exact (q_fe btt0_3).2 | with_reducible exact (q_fe btt0_3).1 | (have t1 : 0 ≤ t0_3.toInt ∧ t0_3.toInt ≤ 1 := btt0_3; omega))), (show t0_3.toInt ≤ 1 from (by first | with_reducible exact (q_fe btt0_3).2 | with_reducible exact (q_fe btt0_3).1 | (have t1 : 0 ≤ t0_3.toInt ∧ t0_3.toInt ≤ 1 := btt0_3; omega))), (show t0_2.toInt ≤ t0_2.toInt from (by omega)), (show t0_2.toInt ≤ t0_2.toInt from (by omega)), (show t0_4.toInt ≤ t0_4.toInt from (by omega)), (show t0_4.toInt ≤ t0_4.toInt from (by omega)), (show t0_5.toInt ≤ t0_5.toInt from (by omega)), (show t0_5.toInt ≤ t0_5.toInt from (by omega)), (show t0_6.toInt ≤ t0_6.toInt from (by omega)), (show t0_6.toInt ≤ t0_6.toInt from (by omega)), (show (lx36, t0_1, t0_2, t0_3, t0_4, t0_5, t0_6, t1_0, t2_0, t3_0, t4_0, t5_0) = (F_WR_shift x2 x3 x4 t0_0 t0_1 t0_2 t0_3 t0_4 t0_5 t0_6 t1_0 t2_0 t3_0 t4_0 t5_0) from Eq.trans (by rw [F_WR_shift_J20.eq_1, if_neg c53]) hR46)⟩) d_19_38_30
  ·
    intro J43
    refine q_join (X := Unit) (fun z H locs ls _ => q_Wd D g (va_A ws sz) s ws H locs ∧ lv_has ls 9 [(0, .ref (q 119)), (1, .int x2), (2, .int x3), (3, .int x4)] ∧ F_WR_shift_J15 x2 x3 x4 t0_0 t0_1 t0_2 t0_3 t0_4 t0_5 t0_6 t1_0 t2_0 t3_0 t4_0 t5_0 = (F_WR_shift x2 x3 x4 t0_0 t0_1 t0_2 t0_3 t0_4 t0_5 t0_6 t1_0 t2_0 t3_0 t4_0 t5_0) ∧ True ∧ S_WR_shift_J15 x2 x3 x4 t0_0 t0_1 t0_2 t0_3 t0_4 t0_5 t0_6 t1_0 t2_0 t3_0 t4_0 t5_0) (fun z => [.ref (q 119)]) 15 0 0 ?_ ?_
    ·
      rintro _ H locs ls _ ⟨V, hl, hR550, hS551⟩
      replace hl : lv_has ls 9 [(0, .ref (q 119)), (1, .int x2), (2, .int x3), (3, .int x4)] := hl
      refine lv_iconst (v := 1) hx hb d_19_38_15 (by decide) ?_
      refine lv_goto (tgt := 20) hx hb d_19_38_16 (by decide) ?_
      exact J43 ((1 : Int32)) _ _ _ ws ⟨(show q_F (0 ≤ 1) from (show 0 ≤ 1 from by omega)), (show q_F (1 ≤ 1) from (show 1 ≤ 1 from by omega)), V, q_lw hl (q_lw1 0 rfl (q_lw1 1 rfl (q_lw1 2 rfl (q_lw1 3 rfl q_lw0)))), (show F_WR_shift_J20 x2 x3 x4 t0_0 t0_1 t0_2 t0_3 t0_4 t0_5 t0_6 t1_0 t2_0 t3_0 t4_0 t5_0 1 = (F_WR_shift x2 x3 x4 t0_0 t0_1 t0_2 t0_3 t0_4 t0_5 t0_6 t1_0 t2_0 t3_0 t4_0 t5_0) from Eq.trans (by rw [F_WR_shift_J15.eq_1]) hR550), (show True ∧ S_WR_shift_J20 x2 x3 x4 t0_0 t0_1 t0_2 t0_3 t0_4 t0_5 t0_6 t1_0 t2_0 t3_0 t4_0 t5_0 1 from (by have h := hS551; rw [S_WR_shift_J15.eq_1] at h; with_reducible exact h))⟩
    ·
      intro J549
      refine lv_if_ne (tgt := 15) hx hb d_19_38_5 (by decide) (fun c555 => ?_) (fun c555 => ?_)
      ·
        exact J549 (()) _ _ _ ws ⟨V, q_lw hl (q_lw1 0 rfl (q_lw1 1 rfl (q_lw1 2 rfl (q_lw1 3 rfl q_lw0)))), (show F_WR_shift_J15 x2 x3 x4 t0_0 t0_1 t0_2 t0_3 t0_4 t0_5 t0_6 t1_0 t2_0 t3_0 t4_0 t5_0 = (F_WR_shift x2 x3 x4 t0_0 t0_1 t0_2 t0_3 t0_4 t0_5 t0_6 t1_0 t2_0 t3_0 t4_0 t5_0) from (by have c555x := c555; rw [e35] at c555x; rw [F_WR_shift.eq_1, if_neg c555x])), (show True ∧ S_WR_shift_J15 x2 x3 x4 t0_0 t0_1 t0_2 t0_3 t0_4 t0_5 t0_6 t1_0 t2_0 t3_0 t4_0 t5_0 from (by have h := hS; rw [S_WR_shift.eq_1] at h; have c555x := c555; rw [e35] at c555x; rw [if_neg c555x] at h; with_reducible exact h))⟩
      ·
        refine lv_iload_n hx hb d_19_38_8 rfl (lv_at hl 3 rfl) ?_
        refine q_goi V (q_runS (As := [.int x4]) (rest := [.ref (q 119)]) (d := 1) (mc := 0) (ms := 0) C0 V rfl LS_WR_91 (X_WR_no l D g q ws  x4 hI   _) rfl hl.1 rfl (Nat.le_of_ble_eq_true rfl) ⟨by decide, by decide⟩ ⟨Nat.le_of_ble_eq_true rfl, Nat.le_of_ble_eq_true rfl⟩ d_19_38_9) (fun a560 u558 H locs hp559 V => ?_)
        obtain ⟨rfl, b561, b562, hE563⟩ := hp559
        have e564 : a560 = (F_WR_no x4) := hE563
        clear b561
        clear b562
        refine lv_if_eq (tgt := 19) hx hb d_19_38_12 (by decide) (fun c565 => ?_) (fun c565 => ?_)
        ·
          refine lv_iconst (v := 0) hx hb d_19_38_19 (by decide) ?_
          exact J43 ((0 : Int32)) _ _ _ ws ⟨(show q_F (0 ≤ 0) from (show 0 ≤ 0 from by omega)), (show q_F (0 ≤ 1) from (show 0 ≤ 1 from by omega)), V, q_lw hl (q_lw1 0 rfl (q_lw1 1 rfl (q_lw1 2 rfl (q_lw1 3 rfl q_lw0)))), (show F_WR_shift_J20 x2 x3 x4 t0_0 t0_1 t0_2 t0_3 t0_4 t0_5 t0_6 t1_0 t2_0 t3_0 t4_0 t5_0 0 = (F_WR_shift x2 x3 x4 t0_0 t0_1 t0_2 t0_3 t0_4 t0_5 t0_6 t1_0 t2_0 t3_0 t4_0 t5_0) from (by have c555x := c555; rw [e35] at c555x; have c565x := c565; rw [e564] at c565x; rw [F_WR_shift.eq_1, if_pos c555x, if_pos c565x])), (show True ∧ S_WR_shift_J20 x2 x3 x4 t0_0 t0_1 t0_2 t0_3 t0_4 t0_5 t0_6 t1_0 t2_0 t3_0 t4_0 t5_0 0 from (by have h := hS; rw [S_WR_shift.eq_1] at h; have c555x := c555; rw [e35] at c555x; rw [if_pos c555x] at h; have c565x := c565; rw [e564] at c565x; rw [if_pos c565x] at h; with_reducible exact h))⟩
        ·
          exact J549 (()) _ _ _ ws ⟨V, q_lw hl (q_lw1 0 rfl (q_lw1 1 rfl (q_lw1 2 rfl (q_lw1 3 rfl q_lw0)))), (show F_WR_shift_J15 x2 x3 x4 t0_0 t0_1 t0_2 t0_3 t0_4 t0_5 t0_6 t1_0 t2_0 t3_0 t4_0 t5_0 = (F_WR_shift x2 x3 x4 t0_0 t0_1 t0_2 t0_3 t0_4 t0_5 t0_6 t1_0 t2_0 t3_0 t4_0 t5_0) from (by have c555x := c555; rw [e35] at c555x; have c565x := c565; rw [e564] at c565x; rw [F_WR_shift.eq_1, if_pos c555x, if_neg c565x])), (show True ∧ S_WR_shift_J15 x2 x3 x4 t0_0 t0_1 t0_2 t0_3 t0_4 t0_5 t0_6 t1_0 t2_0 t3_0 t4_0 t5_0 from (by have h := hS; rw [S_WR_shift.eq_1] at h; have c555x := c555; rw [e35] at c555x; rw [if_pos c555x] at h; have c565x := c565; rw [e564] at c565x; rw [if_neg c565x] at h; with_reducible exact h))⟩

