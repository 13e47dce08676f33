/-! the class on a fresh object: decimalBy -/
theorem d_4_10_0 : decode prog_4_method_10_code 0 = .ok (.aload_n 0, 1) := by decide +kernel
theorem d_4_10_1 : decode prog_4_method_10_code 1 = .ok (.aload_n 1, 1) := by decide +kernel
theorem d_4_10_2 : decode prog_4_method_10_code 2 = .ok (.invokevirtual 125, 3) := by decide +kernel
theorem w_1415 : (Cond.methodLink "NumberHouse$DecimalWork" (125 : Nat) ({ cls := "NumberHouse$DecimalWork", name := "take", desc := "(LNumberHouse$Dec;)V" } : MethodName)) ∈ q_tbl := q_of 1415 (by decide +kernel) (by decide +kernel)
theorem LV_DW_125 : q_LV "NumberHouse$DecimalWork" 125 y_DW_take prog_4_method_3_code 2 none 1 := ⟨w_1410, w_5, w_1415, w_1408, w_1409, ⟨by decide, by decide, by decide +kernel⟩⟩
theorem d_4_10_5 : decode prog_4_method_10_code 5 = .ok (.aload_n 0, 1) := by decide +kernel
theorem d_4_10_6 : decode prog_4_method_10_code 6 = .ok (.aload_n 1, 1) := by decide +kernel
theorem d_4_10_7 : decode prog_4_method_10_code 7 = .ok (.getfield 24, 3) := by decide +kernel
theorem d_4_10_10 : decode prog_4_method_10_code 10 = .ok (.getfield 63, 3) := by decide +kernel
theorem d_4_10_13 : decode prog_4_method_10_code 13 = .ok (.ifCond .ne 7, 3) := by decide +kernel
theorem d_4_10_16 : decode prog_4_method_10_code 16 = .ok (.lconst 0, 1) := by decide +kernel
theorem d_4_10_17 : decode prog_4_method_10_code 17 = .ok (.goto 26, 3) := by decide +kernel
theorem d_4_10_43 : decode prog_4_method_10_code 43 = .ok (.putfield 56, 3) := by decide +kernel
theorem d_4_10_46 : decode prog_4_method_10_code 46 = .ok (.return_, 1) := by decide +kernel
def y_DW_strip : MethodName := ⟨"NumberHouse$DecimalWork", "strip", "(LNumberHouse$Dec;)V"⟩
set_option maxRecDepth 100000 in
set_option maxHeartbeats 4000000 in
theorem c_DW_strip (l : Launch) (D : va_G) (g : Nat → ClassId) (ws : va_W) (kO0 kO1 kO3 kO4 kO6 kA16 kA18 qO0 qO1 qO2 qO3 qO4 qO6 qO7 qO8 qO9 qO10 qO11 qO12 qO13 qO14 qO15 qA16 qA18 : Nat) (hO0 : ws[kO0]? = (some (qO0, .inr (5, [.ref qO2, .long 0, .ref qO3, .int 0])) : Option (Nat × va_E))) (hO1 : ws[kO1]? = (some (qO1, .inr (3, [.ref qO4, .int 0, .int 1])) : Option (Nat × va_E))) (hO3 : ws[kO3]? = (some (qO3, .inr (4, [.ref qO6, .ref qO7, .ref qO8, .ref qO9, .ref qO10, .ref qO11, .ref qO12, .ref qO13, .ref qO14, .ref qO15])) : Option (Nat × va_E))) (hO4 : ws[kO4]? = (some (qO4, .inr (2, [.ref qA16, .int 0, .int 0])) : Option (Nat × va_E))) (hO6 : ws[kO6]? = (some (qO6, .inr (2, [.ref qA18, .int 0, .int 0])) : Option (Nat × va_E))) (hA16 : ws[kA16]? = (some (qA16, .inl (g 0, 108, .inl (fun _ => 0))) : Option (Nat × va_E))) (hA18 : ws[kA18]? = (some (qA18, .inl (g 0, 220, .inl (fun _ => 0))) : Option (Nat × va_E))) (n_A16_A18 : kA16 ≠ kA18) (n_O4_O6 : kO4 ≠ kO6) : q_mV l y_DW_strip prog_4_method_10_code 2 4 0 0 D g [.ref qO0, .ref qO1] ws (fun u => q_un ws u [kO0, kO6, kA18] ∧ u[kO0]? = (some (qO0, .inr (5, [.ref qO2, .long 0, .ref qO3, .int 0])) : Option (Nat × va_E)) ∧ u[kO6]? = (some (qO6, .inr (2, [.ref qA18, .int 0, .int 0])) : Option (Nat × va_E)) ∧ u[kA18]? = (some (qA18, .inl (g 0, 220, .inl (fun _ => 0))) : Option (Nat × va_E))) := by
  intro sz
  refine q_into (by decide) (Nat.le_of_ble_eq_true rfl) ?_
  intro p e s m below meth c ls hsz C0 V hl
  have hx := C0.1
  have hb := C0.2.1
  have hl : lv_has ls 2 [(0, .ref qO0), (1, .ref qO1)] := hl
  have n_A16_O0 := q_df hA16 hO0
  have n_A16_O6 := q_df hA16 hO6
  have n_A18_O0 := q_df hA18 hO0
  have n_O1_A18 := Ne.symm (q_df hA18 hO1)
  have n_O1_O0 := q_dc hO1 hO0 (q_pd 3 5 rfl)
  have n_O1_O6 := q_dc hO1 hO6 (q_pd 3 2 rfl)
  have n_O3_A18 := Ne.symm (q_df hA18 hO3)
  have n_O3_O0 := q_dc hO3 hO0 (q_pd 4 5 rfl)
  have n_O3_O6 := q_dc hO3 hO6 (q_pd 4 2 rfl)
  have n_O4_A18 := Ne.symm (q_df hA18 hO4)
  have n_O4_O0 := q_dc hO4 hO0 (q_pd 2 5 rfl)
  have n_O6_O0 := q_dc hO6 hO0 (q_pd 2 5 rfl)
  have hF : q_un ws ws [kO0, kO6, kA18] := q_u0
  refine lv_aload_n hx hb d_4_10_0 rfl (lv_at hl 0 rfl) ?_
  refine lv_aload_n hx hb d_4_10_1 rfl (lv_at hl 1 rfl) ?_
  refine q_gov V (q_runV (As := [.ref qO1]) (rest := []) (d := 3) (mc := 0) (ms := 0) (ci := 5) C0 V rfl LV_DW_125 (c_DW_take l D g ws kO0 kO1 kO3 kO4 kO6 kA16 kA18 qO0 qO1 qO2 qO3 qO4 qO6 qO7 qO8 qO9 qO10 qO11 qO12 qO13 qO14 qO15 qA16 qA18 hO0 hO1 hO3 hO4 hO6 hA16 hA18 n_A16_A18 n_O4_O6 _) rfl rfl hO0 rfl hl.1 rfl (Nat.le_of_ble_eq_true rfl) ⟨by decide, by decide⟩ ⟨Nat.le_of_ble_eq_true rfl, Nat.le_of_ble_eq_true rfl⟩ d_4_10_2) (fun u2 H locs hp1 V => ?_)
  obtain ⟨hg3, hO0, hO6, hA18⟩ := hp1
  replace hF := q_uc hF hg3 (q_sc (.head _) (q_sc (.tail _ (.head _)) (q_sc (.tail _ (.tail _ (.head _))) (fun _ h => absurd h List.not_mem_nil))))
  refine lv_aload_n hx hb d_4_10_5 rfl (lv_at hl 0 rfl) ?_
  refine lv_aload_n hx hb d_4_10_6 rfl (lv_at hl 1 rfl) ?_
  replace hO1 := (hg3 _ (q_nc n_O1_O0 (q_nc n_O1_O6 (q_nc n_O1_A18 List.not_mem_nil)))).trans (hO1)
  refine q_get (ci := 3) (j := 0) (v := .ref qO4) C0 V i_Dec rfl rfl hO1 (by decide) w_171 rfl d_4_10_7 ?_
  replace hO4 := (hg3 _ (q_nc n_O4_O0 (q_nc n_O4_O6 (q_nc n_O4_A18 List.not_mem_nil)))).trans (hO4)
  refine q_get (ci := 2) (j := 1) (v := .int 0) C0 V i_Big rfl rfl hO4 (by decide) w_90 rfl d_4_10_10 ?_
  refine lv_if_ne (tgt := 20) hx hb d_4_10_13 (by decide) (fun c4 => absurd (by decide) c4) (fun c4 => ?_)
  refine lv_lconst (v := 0) hx hb d_4_10_16 (by decide) ?_
  refine lv_goto (tgt := 43) hx hb d_4_10_17 (by decide) ?_
  refine q_put (ci := 5) (j := 1) (v := .long 0) (ty := .long) C0 V i_DW o_DW n_DW rfl rfl hO0 (by decide) w_212 rfl rfl rfl rfl (Nat.le_of_ble_eq_true rfl) d_4_10_43 (fun H locs w5 hu6 hO0 V => ?_)
  replace hO0 : w5[kO0]? = (some (qO0, .inr (5, [.ref qO2, .long 0, .ref qO3, .int 0])) : Option (Nat × va_E)) := hO0
  replace hF := q_us hF hu6 (.head _)
  replace hO6 := (hu6 _ n_O6_O0).trans (hO6)
  replace hA18 := (hu6 _ n_A18_O0).trans (hA18)
  exact q_retv C0 V (⟨hF, hO0, hO6, hA18⟩) d_4_10_46
set_option maxRecDepth 100000 in
set_option maxHeartbeats 4000000 in
theorem c_Mil_power_2 (l : Launch) (D : va_G) (g : Nat → ClassId) (ws : va_W) (kO0 kO1 kO4 kO6 kA15 kA17 qO0 qO1 qO2 qO3 qO4 qO5 qO6 qO7 qO8 qO9 qO10 qO11 qA12 qA15 qA17 : Nat) (x1 : Int32) (hO0 : ws[kO0]? = (some (qO0, .inr (4, [.ref qO2, .ref qO3, .ref qO4, .ref qO5, .ref qO6, .ref qO7, .ref qO8, .ref qO9, .ref qO10, .ref qO11])) : Option (Nat × va_E))) (hO1 : ws[kO1]? = (some (qO1, .inr (2, [.ref qA12, .int 0, .int 0])) : Option (Nat × va_E))) (hO4 : ws[kO4]? = (some (qO4, .inr (2, [.ref qA15, .int 0, .int 0])) : Option (Nat × va_E))) (hO6 : ws[kO6]? = (some (qO6, .inr (2, [.ref qA17, .int 0, .int 0])) : Option (Nat × va_E))) (hA15 : ws[kA15]? = (some (qA15, .inl (g 0, 220, .inl (fun _ => 0))) : Option (Nat × va_E))) (hA17 : ws[kA17]? = (some (qA17, .inl (g 0, 220, .inl (fun _ => 0))) : Option (Nat × va_E))) (n_A15_A17 : kA15 ≠ kA17) (n_O1_O4 : kO1 ≠ kO4) (n_O1_O6 : kO1 ≠ kO6) (n_O4_O6 : kO4 ≠ kO6) (x1lo : 0 ≤ x1) (x1hi : x1 ≤ 999) : q_mI l y_Mil_power prog_8_method_8_code 5 (.boolean) 4 0 0 D g [.ref qO0, .ref qO1, .int x1, .int 3330] ws (fun r u => (∃ (ex0 : Int32) (ex1 : Nat → Int32) (ex2 : Nat → Int32), 1 = r ∧ q_un ws u [kO4, kO6, kA15, kA17] ∧ u[kO4]? = (some (qO4, .inr (2, [.ref qA15, .int 0, .int 0])) : Option (Nat × va_E)) ∧ u[kO6]? = (some (qO6, .inr (2, [.ref qA17, .int ex0, .int 0])) : Option (Nat × va_E)) ∧ u[kA15]? = (some (qA15, .inl (g 0, 220, .inl (upd ex1 0 0))) : Option (Nat × va_E)) ∧ u[kA17]? = (some (qA17, .inl (g 0, 220, .inl ex2)) : Option (Nat × va_E))) ∨ (∃ (ex0 : Int32) (ex1 : Nat → Int32) (ex2 : Nat → Int32), 1 = r ∧ q_un ws u [kO4, kO6, kA15, kA17] ∧ u[kO4]? = (some (qO4, .inr (2, [.ref qA15, .int 1, .int 0])) : Option (Nat × va_E)) ∧ u[kO6]? = (some (qO6, .inr (2, [.ref qA17, .int ex0, .int 0])) : Option (Nat × va_E)) ∧ u[kA15]? = (some (qA15, .inl (g 0, 220, .inl (upd ex1 0 1))) : Option (Nat × va_E)) ∧ u[kA17]? = (some (qA17, .inl (g 0, 220, .inl ex2)) : Option (Nat × va_E)))) := by
  intro sz
  refine q_into (by decide) (Nat.le_of_ble_eq_true rfl) ?_
  intro p e s m below meth c ls hsz C0 V hl
  have hx := C0.1
  have hb := C0.2.1
  have hl : lv_has ls 5 [(0, .ref qO0), (1, .ref qO1), (2, .int x1), (3, .int 3330)] := hl
  have n_A15_O4 := q_df hA15 hO4
  have n_A15_O6 := q_df hA15 hO6
  have n_A17_A15 := Ne.symm n_A15_A17
  have n_A17_O4 := q_df hA17 hO4
  have n_A17_O6 := q_df hA17 hO6
  have n_O0_A15 := Ne.symm (q_df hA15 hO0)
  have n_O0_A17 := Ne.symm (q_df hA17 hO0)
  have n_O0_O4 := q_dc hO0 hO4 (q_pd 4 2 rfl)
  have n_O0_O6 := q_dc hO0 hO6 (q_pd 4 2 rfl)
  have n_O1_A15 := Ne.symm (q_df hA15 hO1)
  have n_O1_A17 := Ne.symm (q_df hA17 hO1)
  have n_O4_A17 := Ne.symm (q_df hA17 hO4)
  have n_O6_A15 := Ne.symm (q_df hA15 hO6)
  have n_O6_O4 := Ne.symm n_O4_O6
  have hF : q_un ws ws [kO4, kO6, kA15, kA17] := q_u0
  refine lv_aload_n hx hb d_8_8_0 rfl (lv_at hl 0 rfl) ?_
  refine q_get (ci := 4) (j := 2) (v := .ref qO4) C0 V i_Mil rfl rfl hO0 (by decide) w_117 rfl d_8_8_1 ?_
  refine lv_lconst (v := 1) hx hb d_8_8_4 (by decide) ?_
  refine q_gov V (q_runV (As := [.long 1]) (rest := []) (d := 2) (mc := 0) (ms := 0) (ci := 2) C0 V rfl LV_Mil_77 (c_Big_setLong_3 l D g ws kO4 kA15 qO4 qA15 hO4 hA15 _) rfl rfl hO4 rfl hl.1 rfl (Nat.le_of_ble_eq_true rfl) ⟨by decide, by decide⟩ ⟨Nat.le_of_ble_eq_true rfl, Nat.le_of_ble_eq_true rfl⟩ d_8_8_5) (fun u2 H locs hp1 V => ?_)
  obtain ⟨hg3, hO4, hA15⟩ := hp1
  replace hF := q_uc hF hg3 (q_sc (.head _) (q_sc (.tail _ (.tail _ (.head _))) (fun _ h => absurd h List.not_mem_nil)))
  refine lv_iload_n hx hb d_8_8_8 rfl (lv_at hl 2 rfl) ?_
  refine q_goi V (q_runS (As := [.int x1]) (rest := []) (d := 2) (mc := 0) (ms := 0) C0 V rfl LS_Mil_93 (c_Big_bitsOf l D g u2 x1 _) rfl hl.1 rfl (Nat.le_of_ble_eq_true rfl) ⟨by decide, by decide⟩ ⟨Nat.le_of_ble_eq_true rfl, Nat.le_of_ble_eq_true rfl⟩ d_8_8_9) (fun v6 u5 H locs hp4 V => ?_)
  obtain ⟨y9, f7, f8, rfl, rfl⟩ := hp4
  refine lv_iconst (v := 1) hx hb d_8_8_12 (by decide) ?_
  refine lv_isub hx hb d_8_8_13 ?_
  refine lv_istore (lv' := [(4, .int (y9 - 1)), (0, .ref qO0), (1, .ref qO1), (2, .int x1), (3, .int 3330)]) hx hb d_8_8_14 hl (by decide) rfl (fun ls hl => ?_)
  replace hO6 := (hg3 _ (q_nc n_O6_O4 (q_nc n_O6_A15 List.not_mem_nil))).trans (hO6)
  replace hA17 := (hg3 _ (q_nc n_A17_O4 (q_nc n_A17_A15 List.not_mem_nil))).trans (hA17)
  replace hO0 := (hg3 _ (q_nc n_O0_O4 (q_nc n_O0_A15 List.not_mem_nil))).trans (hO0)
  replace hO1 := (hg3 _ (q_nc n_O1_O4 (q_nc n_O1_A15 List.not_mem_nil))).trans (hO1)
  refine q_loop (X := Int32 × Int32 × (Nat → Int32) × Int32 × (Nat → Int32)) (fun z H locs ls w16 => ((-1) ≤ z.1.toInt ∧ z.1.toInt ≤ 62) ∧ (z.2.1 = 0 ∨ z.2.1 = 1) ∧ q_Wd D g (va_A ws sz) s w16 H locs ∧ lv_has ls 5 [(4, .int z.1), (0, .ref qO0), (1, .ref qO1), (2, .int x1), (3, .int 3330)] ∧ q_un ws w16 [kO4, kO6, kA15, kA17] ∧ w16[kO0]? = (some (qO0, .inr (4, [.ref qO2, .ref qO3, .ref qO4, .ref qO5, .ref qO6, .ref qO7, .ref qO8, .ref qO9, .ref qO10, .ref qO11])) : Option (Nat × va_E)) ∧ w16[kO1]? = (some (qO1, .inr (2, [.ref qA12, .int 0, .int 0])) : Option (Nat × va_E)) ∧ w16[kO4]? = (some (qO4, .inr (2, [.ref qA15, .int z.2.1, .int 0])) : Option (Nat × va_E)) ∧ w16[kO6]? = (some (qO6, .inr (2, [.ref qA17, .int z.2.2.2.1, .int 0])) : Option (Nat × va_E)) ∧ w16[kA15]? = (some (qA15, .inl (g 0, 220, .inl (upd z.2.2.1 0 z.2.1))) : Option (Nat × va_E)) ∧ w16[kA17]? = (some (qA17, .inl (g 0, 220, .inl z.2.2.2.2)) : Option (Nat × va_E))) (fun z => (z.1.toInt + 1).toNat) ?_ ((y9 - 1 : Int32), (1 : Int32), (fun _ => 0 : (Nat → Int32)), (0 : Int32), (fun _ => 0 : (Nat → Int32))) _ _ _ u2 ⟨(show (-1) ≤ (y9 - 1 : Int32).toInt ∧ (y9 - 1 : Int32).toInt ≤ 62 from by have t1 : 0 ≤ x1.toInt := q_leI x1lo; have t2 : x1.toInt ≤ 999 := q_leI x1hi; have t3 : 0 ≤ y9.toInt := q_leI f7; have t4 : y9.toInt ≤ 63 := q_leI f8; have e0 : (y9 - 1 : Int32).toInt = (y9.toInt - 1) := (q_subI (x := y9.toInt) (y := 1) rfl (by decide) (by have t1 : 0 ≤ y9.toInt := q_leI f7; have t2 : y9.toInt ≤ 63 := q_leI f8; omega) (by have t1 : 0 ≤ y9.toInt := q_leI f7; have t2 : y9.toInt ≤ 63 := q_leI f8; omega)); have e1 : (1 : Int32).toInt = 1 := (by decide); have e3 : (0 : Int32).toInt = 0 := (by decide); omega), (Or.inr rfl), V, hl, hF, hO0, hO1, hO4, hO6, hA15, hA17⟩
  rintro ⟨lx11, lx12, lx13, lx14, lx15⟩ H locs ls w16 ⟨i17, i18, V, hl, hF, hO0, hO1, hO4, hO6, hA15, hA17⟩ ih19
  replace i17 : (-1) ≤ lx11.toInt ∧ lx11.toInt ≤ 62 := i17
  replace i18 : lx12 = 0 ∨ lx12 = 1 := i18
  replace hl : lv_has ls 5 [(4, .int lx11), (0, .ref qO0), (1, .ref qO1), (2, .int x1), (3, .int 3330)] := hl
  replace hO0 : w16[kO0]? = (some (qO0, .inr (4, [.ref qO2, .ref qO3, .ref qO4, .ref qO5, .ref qO6, .ref qO7, .ref qO8, .ref qO9, .ref qO10, .ref qO11])) : Option (Nat × va_E)) := hO0
  replace hO1 : w16[kO1]? = (some (qO1, .inr (2, [.ref qA12, .int 0, .int 0])) : Option (Nat × va_E)) := hO1
  replace hO4 : w16[kO4]? = (some (qO4, .inr (2, [.ref qA15, .int lx12, .int 0])) : Option (Nat × va_E)) := hO4
  replace hO6 : w16[kO6]? = (some (qO6, .inr (2, [.ref qA17, .int lx14, .int 0])) : Option (Nat × va_E)) := hO6
  replace hA15 : w16[kA15]? = (some (qA15, .inl (g 0, 220, .inl (upd lx13 0 lx12))) : Option (Nat × va_E)) := hA15
  replace hA17 : w16[kA17]? = (some (qA17, .inl (g 0, 220, .inl lx15)) : Option (Nat × va_E)) := hA17
  rcases i18 with rfl | rfl
  ·
    refine lv_iload hx hb d_8_8_16 (lv_at hl 0 rfl) ?_
    refine lv_if_lt (tgt := 104) hx hb d_8_8_18 (by decide) (fun c20 => ?_) (fun c20 => ?_)
    ·
      refine lv_iconst (v := 1) hx hb d_8_8_104 (by decide) ?_
      exact q_retz C0 V (rfl) (Or.inl ⟨lx14, lx13, lx15, rfl, hF, hO4, hO6, hA15, hA17⟩) d_8_8_105
    ·
      refine lv_aload_n hx hb d_8_8_21 rfl (lv_at hl 1 rfl) ?_
      refine q_get (ci := 4) (j := 4) (v := .ref qO6) C0 V i_Mil rfl rfl hO0 (by decide) w_123 rfl d_8_8_22 ?_
      refine lv_aload_n hx hb d_8_8_25 rfl (lv_at hl 1 rfl) ?_
      refine q_get (ci := 4) (j := 2) (v := .ref qO4) C0 V i_Mil rfl rfl hO0 (by decide) w_117 rfl d_8_8_26 ?_
      refine lv_aload_n hx hb d_8_8_29 rfl (lv_at hl 1 rfl) ?_
      refine q_get (ci := 4) (j := 2) (v := .ref qO4) C0 V i_Mil rfl rfl hO0 (by decide) w_117 rfl d_8_8_30 ?_
      refine q_gov V (q_runV (As := [.ref qO4, .ref qO4]) (rest := []) (d := 3) (mc := 0) (ms := 0) (ci := 2) C0 V rfl LV_Mil_47 (c_Big_product_2 l D g w16 kO6 kO4 kA17 qO6 qO4 qA17 qA15 lx14 lx15 hO6 hO4 hA17 n_O4_O6 _) rfl rfl hO6 rfl hl.1 rfl (Nat.le_of_ble_eq_true rfl) ⟨by decide, by decide⟩ ⟨Nat.le_of_ble_eq_true rfl, Nat.le_of_ble_eq_true rfl⟩ d_8_8_33) (fun u22 H locs hp21 V => ?_)
      obtain ⟨hg23, hO6⟩ := hp21
      replace hF := q_uc hF hg23 (q_sc (.tail _ (.head _)) (fun _ h => absurd h List.not_mem_nil))
      refine lv_aload_n hx hb d_8_8_36 rfl (lv_at hl 1 rfl) ?_
      replace hO0 := (hg23 _ (q_nc n_O0_O6 List.not_mem_nil)).trans (hO0)
      refine q_get (ci := 4) (j := 4) (v := .ref qO6) C0 V i_Mil rfl rfl hO0 (by decide) w_123 rfl d_8_8_37 ?_
      refine q_goi V (q_runV (As := []) (rest := []) (d := 1) (mc := 0) (ms := 0) (ci := 2) C0 V rfl LV_Mil_85 (c_Big_bitLength l D g u22 kO6 qO6 qA17 hO6 _) rfl rfl hO6 rfl hl.1 rfl (Nat.le_of_ble_eq_true rfl) ⟨by decide, by decide⟩ ⟨Nat.le_of_ble_eq_true rfl, Nat.le_of_ble_eq_true rfl⟩ d_8_8_40) (fun v26 u25 H locs hp24 V => ?_)
      obtain ⟨rfl, rfl⟩ := hp24
      refine lv_iload_n hx hb d_8_8_43 rfl (lv_at hl 4 rfl) ?_
      refine lv_icmp_le (tgt := 49) hx hb d_8_8_44 (by decide) (fun c28 => ?_) (fun c28 => absurd (by decide) c28)
      refine lv_iload_n hx hb d_8_8_49 rfl (lv_at hl 3 rfl) ?_
      refine lv_iload hx hb d_8_8_50 (lv_at hl 0 rfl) ?_
      refine lv_iushr hx hb d_8_8_52 rfl ?_
      refine lv_iconst (v := 1) hx hb d_8_8_53 (by decide) ?_
      refine lv_iand hx hb d_8_8_54 ?_
      refine lv_iconst (v := 1) hx hb d_8_8_55 (by decide) ?_
      refine lv_icmp_ne (tgt := 74) hx hb d_8_8_56 (by decide) (fun c29 => ?_) (fun c29 => ?_)
      ·
        refine lv_aload_n hx hb d_8_8_74 rfl (lv_at hl 1 rfl) ?_
        refine q_get (ci := 4) (j := 2) (v := .ref qO4) C0 V i_Mil rfl rfl hO0 (by decide) w_117 rfl d_8_8_75 ?_
        refine lv_aload_n hx hb d_8_8_78 rfl (lv_at hl 1 rfl) ?_
        refine q_get (ci := 4) (j := 4) (v := .ref qO6) C0 V i_Mil rfl rfl hO0 (by decide) w_123 rfl d_8_8_79 ?_
        replace hO4 := (hg23 _ (q_nc n_O4_O6 List.not_mem_nil)).trans (hO4)
        replace hA15 := (hg23 _ (q_nc n_A15_O6 List.not_mem_nil)).trans (hA15)
        replace hA17 := (hg23 _ (q_nc n_A17_O6 List.not_mem_nil)).trans (hA17)
        refine q_gov V (q_runV (As := [.ref qO6]) (rest := []) (d := 2) (mc := 0) (ms := 0) (ci := 2) C0 V rfl LV_Mil_51 (c_Big_copy_6 l D g u22 kO4 kO6 kA15 kA17 qO4 qO6 qA15 qA17 lx13 lx15 hO4 hO6 hA15 hA17 n_A17_A15 n_O6_O4 _) rfl rfl hO4 rfl hl.1 rfl (Nat.le_of_ble_eq_true rfl) ⟨by decide, by decide⟩ ⟨Nat.le_of_ble_eq_true rfl, Nat.le_of_ble_eq_true rfl⟩ d_8_8_82) (fun u31 H locs hp30 V => ?_)
        obtain ⟨hg32, hO4, hA15⟩ := hp30
        replace hF := q_uc hF hg32 (q_sc (.head _) (q_sc (.tail _ (.tail _ (.head _))) (fun _ h => absurd h List.not_mem_nil)))
        refine lv_aload_n hx hb d_8_8_85 rfl (lv_at hl 1 rfl) ?_
        replace hO0 := (hg32 _ (q_nc n_O0_O4 (q_nc n_O0_A15 List.not_mem_nil))).trans (hO0)
        refine q_get (ci := 4) (j := 2) (v := .ref qO4) C0 V i_Mil rfl rfl hO0 (by decide) w_117 rfl d_8_8_86 ?_
        refine q_goi V (q_runV (As := []) (rest := []) (d := 1) (mc := 0) (ms := 0) (ci := 2) C0 V rfl LV_Mil_85 (c_Big_bitLength l D g u31 kO4 qO4 qA15 hO4 _) rfl rfl hO4 rfl hl.1 rfl (Nat.le_of_ble_eq_true rfl) ⟨by decide, by decide⟩ ⟨Nat.le_of_ble_eq_true rfl, Nat.le_of_ble_eq_true rfl⟩ d_8_8_89) (fun v35 u34 H locs hp33 V => ?_)
        obtain ⟨rfl, rfl⟩ := hp33
        refine lv_iload_n hx hb d_8_8_92 rfl (lv_at hl 4 rfl) ?_
        refine lv_icmp_le (tgt := 98) hx hb d_8_8_93 (by decide) (fun c37 => ?_) (fun c37 => absurd (by decide) c37)
        refine lv_iinc (v := lx11 + (-1)) (lv' := [(4, .int (lx11 + (-1))), (0, .ref qO0), (1, .ref qO1), (2, .int x1), (3, .int 3330)]) hx hb d_8_8_98 hl (k := 0) rfl (rfl) (by decide) rfl (fun ls hl => ?_)
        refine lv_goto (tgt := 16) hx hb d_8_8_101 (by decide) ?_
        replace hO1 := (hg32 _ (q_nc n_O1_O4 (q_nc n_O1_A15 List.not_mem_nil))).trans ((hg23 _ (q_nc n_O1_O6 List.not_mem_nil)).trans (hO1))
        replace hO6 := (hg32 _ (q_nc n_O6_O4 (q_nc n_O6_A15 List.not_mem_nil))).trans (hO6)
        replace hA17 := (hg32 _ (q_nc n_A17_O4 (q_nc n_A17_A15 List.not_mem_nil))).trans (hA17)
        exact ih19 ((lx11 + (-1) : Int32), (0 : Int32), (lx13 : Nat → Int32), (0 : Int32), (lx15 : Nat → Int32)) _ _ _ _ (show ((lx11 + (-1) : Int32).toInt + 1).toNat < (lx11.toInt + 1).toNat from by have t1 : 0 ≤ x1.toInt := q_leI x1lo; have t2 : x1.toInt ≤ 999 := q_leI x1hi; have t3 : 0 ≤ lx11.toInt := q_nltI c20; have t4 : 0 ≤ y9.toInt := q_leI f7; have t5 : y9.toInt ≤ 63 := q_leI f8; have e0 : (lx11 + (-1) : Int32).toInt = (lx11.toInt + (-1)) := (q_addI (x := lx11.toInt) (y := (-1)) rfl (by decide) (by have t1 : 0 ≤ lx11.toInt := q_nltI c20; omega) (by have t1 : 0 ≤ lx11.toInt := q_nltI c20; omega)); have e1 : (0 : Int32).toInt = 0 := (by decide); have e3 : (0 : Int32).toInt = 0 := (by decide); omega) ⟨(show (-1) ≤ (lx11 + (-1) : Int32).toInt ∧ (lx11 + (-1) : Int32).toInt ≤ 62 from by have t1 : 0 ≤ x1.toInt := q_leI x1lo; have t2 : x1.toInt ≤ 999 := q_leI x1hi; have t3 : 0 ≤ lx11.toInt := q_nltI c20; have t4 : 0 ≤ y9.toInt := q_leI f7; have t5 : y9.toInt ≤ 63 := q_leI f8; have e0 : (lx11 + (-1) : Int32).toInt = (lx11.toInt + (-1)) := (q_addI (x := lx11.toInt) (y := (-1)) rfl (by decide) (by have t1 : 0 ≤ lx11.toInt := q_nltI c20; omega) (by have t1 : 0 ≤ lx11.toInt := q_nltI c20; omega)); have e1 : (0 : Int32).toInt = 0 := (by decide); have e3 : (0 : Int32).toInt = 0 := (by decide); omega), (Or.inl rfl), V, q_lw hl (q_lw1 0 rfl (q_lw1 1 rfl (q_lw1 2 rfl (q_lw1 3 rfl (q_lw1 4 rfl q_lw0))))), hF, hO0, hO1, hO4, hO6, hA15, hA17⟩
      ·
        refine lv_aload_n hx hb d_8_8_59 rfl (lv_at hl 1 rfl) ?_
        refine q_get (ci := 4) (j := 2) (v := .ref qO4) C0 V i_Mil rfl rfl hO0 (by decide) w_117 rfl d_8_8_60 ?_
        refine lv_aload_n hx hb d_8_8_63 rfl (lv_at hl 1 rfl) ?_
        refine q_get (ci := 4) (j := 4) (v := .ref qO6) C0 V i_Mil rfl rfl hO0 (by decide) w_123 rfl d_8_8_64 ?_
        refine lv_aload_n hx hb d_8_8_67 rfl (lv_at hl 2 rfl) ?_
        replace hO4 := (hg23 _ (q_nc n_O4_O6 List.not_mem_nil)).trans (hO4)
        replace hO1 := (hg23 _ (q_nc n_O1_O6 List.not_mem_nil)).trans (hO1)
        replace hA15 := (hg23 _ (q_nc n_A15_O6 List.not_mem_nil)).trans (hA15)
        refine q_gov V (q_runV (As := [.ref qO6, .ref qO1]) (rest := []) (d := 3) (mc := 0) (ms := 0) (ci := 2) C0 V rfl LV_Mil_47 (c_Big_product_3 l D g u22 kO4 kO6 kO1 kA15 qO4 qO6 qO1 qA15 qA17 qA12 lx13 hO4 hO6 hO1 hA15 n_O6_O4 n_O1_O4 _) rfl rfl hO4 rfl hl.1 rfl (Nat.le_of_ble_eq_true rfl) ⟨by decide, by decide⟩ ⟨Nat.le_of_ble_eq_true rfl, Nat.le_of_ble_eq_true rfl⟩ d_8_8_68) (fun u39 H locs hp38 V => ?_)
        obtain ⟨hg40, hO4⟩ := hp38
        replace hF := q_uc hF hg40 (q_sc (.head _) (fun _ h => absurd h List.not_mem_nil))
        refine lv_goto (tgt := 85) hx hb d_8_8_71 (by decide) ?_
        refine lv_aload_n hx hb d_8_8_85 rfl (lv_at hl 1 rfl) ?_
        replace hO0 := (hg40 _ (q_nc n_O0_O4 List.not_mem_nil)).trans (hO0)
        refine q_get (ci := 4) (j := 2) (v := .ref qO4) C0 V i_Mil rfl rfl hO0 (by decide) w_117 rfl d_8_8_86 ?_
        refine q_goi V (q_runV (As := []) (rest := []) (d := 1) (mc := 0) (ms := 0) (ci := 2) C0 V rfl LV_Mil_85 (c_Big_bitLength l D g u39 kO4 qO4 qA15 hO4 _) rfl rfl hO4 rfl hl.1 rfl (Nat.le_of_ble_eq_true rfl) ⟨by decide, by decide⟩ ⟨Nat.le_of_ble_eq_true rfl, Nat.le_of_ble_eq_true rfl⟩ d_8_8_89) (fun v43 u42 H locs hp41 V => ?_)
        obtain ⟨rfl, rfl⟩ := hp41
        refine lv_iload_n hx hb d_8_8_92 rfl (lv_at hl 4 rfl) ?_
        refine lv_icmp_le (tgt := 98) hx hb d_8_8_93 (by decide) (fun c45 => ?_) (fun c45 => absurd (by decide) c45)
        refine lv_iinc (v := lx11 + (-1)) (lv' := [(4, .int (lx11 + (-1))), (0, .ref qO0), (1, .ref qO1), (2, .int x1), (3, .int 3330)]) hx hb d_8_8_98 hl (k := 0) rfl (rfl) (by decide) rfl (fun ls hl => ?_)
        refine lv_goto (tgt := 16) hx hb d_8_8_101 (by decide) ?_
        replace hA15 := (hg40 _ (q_nc n_A15_O4 List.not_mem_nil)).trans (hA15)
        replace hO1 := (hg40 _ (q_nc n_O1_O4 List.not_mem_nil)).trans (hO1)
        replace hO6 := (hg40 _ (q_nc n_O6_O4 List.not_mem_nil)).trans (hO6)
        replace hA17 := (hg40 _ (q_nc n_A17_O4 List.not_mem_nil)).trans ((hg23 _ (q_nc n_A17_O6 List.not_mem_nil)).trans (hA17))
        exact ih19 ((lx11 + (-1) : Int32), (0 : Int32), (lx13 : Nat → Int32), (0 : Int32), (lx15 : Nat → Int32)) _ _ _ _ (show ((lx11 + (-1) : Int32).toInt + 1).toNat < (lx11.toInt + 1).toNat from by have t1 : 0 ≤ x1.toInt := q_leI x1lo; have t2 : x1.toInt ≤ 999 := q_leI x1hi; have t3 : 0 ≤ lx11.toInt := q_nltI c20; have t4 : 0 ≤ y9.toInt := q_leI f7; have t5 : y9.toInt ≤ 63 := q_leI f8; have e0 : (lx11 + (-1) : Int32).toInt = (lx11.toInt + (-1)) := (q_addI (x := lx11.toInt) (y := (-1)) rfl (by decide) (by have t1 : 0 ≤ lx11.toInt := q_nltI c20; omega) (by have t1 : 0 ≤ lx11.toInt := q_nltI c20; omega)); have e1 : (0 : Int32).toInt = 0 := (by decide); have e3 : (0 : Int32).toInt = 0 := (by decide); omega) ⟨(show (-1) ≤ (lx11 + (-1) : Int32).toInt ∧ (lx11 + (-1) : Int32).toInt ≤ 62 from by have t1 : 0 ≤ x1.toInt := q_leI x1lo; have t2 : x1.toInt ≤ 999 := q_leI x1hi; have t3 : 0 ≤ lx11.toInt := q_nltI c20; have t4 : 0 ≤ y9.toInt := q_leI f7; have t5 : y9.toInt ≤ 63 := q_leI f8; have e0 : (lx11 + (-1) : Int32).toInt = (lx11.toInt + (-1)) := (q_addI (x := lx11.toInt) (y := (-1)) rfl (by decide) (by have t1 : 0 ≤ lx11.toInt := q_nltI c20; omega) (by have t1 : 0 ≤ lx11.toInt := q_nltI c20; omega)); have e1 : (0 : Int32).toInt = 0 := (by decide); have e3 : (0 : Int32).toInt = 0 := (by decide); omega), (Or.inl rfl), V, q_lw hl (q_lw1 0 rfl (q_lw1 1 rfl (q_lw1 2 rfl (q_lw1 3 rfl (q_lw1 4 rfl q_lw0))))), hF, hO0, hO1, hO4, hO6, hA15, hA17⟩
  ·
    refine lv_iload hx hb d_8_8_16 (lv_at hl 0 rfl) ?_
    refine lv_if_lt (tgt := 104) hx hb d_8_8_18 (by decide) (fun c46 => ?_) (fun c46 => ?_)
    ·
      refine lv_iconst (v := 1) hx hb d_8_8_104 (by decide) ?_
      exact q_retz C0 V (rfl) (Or.inr (⟨lx14, lx13, lx15, rfl, hF, hO4, hO6, hA15, hA17⟩)) d_8_8_105
    ·
      refine lv_aload_n hx hb d_8_8_21 rfl (lv_at hl 1 rfl) ?_
      refine q_get (ci := 4) (j := 4) (v := .ref qO6) C0 V i_Mil rfl rfl hO0 (by decide) w_123 rfl d_8_8_22 ?_
      refine lv_aload_n hx hb d_8_8_25 rfl (lv_at hl 1 rfl) ?_
      refine q_get (ci := 4) (j := 2) (v := .ref qO4) C0 V i_Mil rfl rfl hO0 (by decide) w_117 rfl d_8_8_26 ?_
      refine lv_aload_n hx hb d_8_8_29 rfl (lv_at hl 1 rfl) ?_
      refine q_get (ci := 4) (j := 2) (v := .ref qO4) C0 V i_Mil rfl rfl hO0 (by decide) w_117 rfl d_8_8_30 ?_
      refine q_gov V (q_runV (As := [.ref qO4, .ref qO4]) (rest := []) (d := 3) (mc := 0) (ms := 0) (ci := 2) C0 V rfl LV_Mil_47 (c_Big_product_4 l D g w16 kO6 kO4 kA17 kA15 qO6 qO4 qA17 qA15 lx14 lx15 lx13 hO6 hO4 hA17 hA15 n_A15_A17 n_O4_O6 _) rfl rfl hO6 rfl hl.1 rfl (Nat.le_of_ble_eq_true rfl) ⟨by decide, by decide⟩ ⟨Nat.le_of_ble_eq_true rfl, Nat.le_of_ble_eq_true rfl⟩ d_8_8_33) (fun u48 H locs hp47 V => ?_)
      obtain ⟨hg49, hO6, hA17⟩ := hp47
      replace hF := q_uc hF hg49 (q_sc (.tail _ (.head _)) (q_sc (List.mem_of_getElem? (i := 3) rfl) (fun _ h => absurd h List.not_mem_nil)))
      refine lv_aload_n hx hb d_8_8_36 rfl (lv_at hl 1 rfl) ?_
      replace hO0 := (hg49 _ (q_nc n_O0_O6 (q_nc n_O0_A17 List.not_mem_nil))).trans (hO0)
      refine q_get (ci := 4) (j := 4) (v := .ref qO6) C0 V i_Mil rfl rfl hO0 (by decide) w_123 rfl d_8_8_37 ?_
      refine q_goi V (q_runV (As := []) (rest := []) (d := 3) (mc := 0) (ms := 0) (ci := 2) C0 V rfl LV_Mil_85 (c_Big_bitLength_2 l D g u48 kO6 kA17 qO6 qA17 lx15 hO6 hA17 _) rfl rfl hO6 rfl hl.1 rfl (Nat.le_of_ble_eq_true rfl) ⟨by decide, by decide⟩ ⟨Nat.le_of_ble_eq_true rfl, Nat.le_of_ble_eq_true rfl⟩ d_8_8_40) (fun v52 u51 H locs hp50 V => ?_)
      obtain ⟨rfl, rfl⟩ := hp50
      refine lv_iload_n hx hb d_8_8_43 rfl (lv_at hl 4 rfl) ?_
      refine lv_icmp_le (tgt := 49) hx hb d_8_8_44 (by decide) (fun c54 => ?_) (fun c54 => absurd (by decide) c54)
      refine lv_iload_n hx hb d_8_8_49 rfl (lv_at hl 3 rfl) ?_
      refine lv_iload hx hb d_8_8_50 (lv_at hl 0 rfl) ?_
      refine lv_iushr hx hb d_8_8_52 rfl ?_
      refine lv_iconst (v := 1) hx hb d_8_8_53 (by decide) ?_
      refine lv_iand hx hb d_8_8_54 ?_
      refine lv_iconst (v := 1) hx hb d_8_8_55 (by decide) ?_
      refine lv_icmp_ne (tgt := 74) hx hb d_8_8_56 (by decide) (fun c55 => ?_) (fun c55 => ?_)
      ·
        refine lv_aload_n hx hb d_8_8_74 rfl (lv_at hl 1 rfl) ?_
        refine q_get (ci := 4) (j := 2) (v := .ref qO4) C0 V i_Mil rfl rfl hO0 (by decide) w_117 rfl d_8_8_75 ?_
        refine lv_aload_n hx hb d_8_8_78 rfl (lv_at hl 1 rfl) ?_
        refine q_get (ci := 4) (j := 4) (v := .ref qO6) C0 V i_Mil rfl rfl hO0 (by decide) w_123 rfl d_8_8_79 ?_
        replace hO4 := (hg49 _ (q_nc n_O4_O6 (q_nc n_O4_A17 List.not_mem_nil))).trans (hO4)
        replace hA15 := (hg49 _ (q_nc n_A15_O6 (q_nc n_A15_A17 List.not_mem_nil))).trans (hA15)
        refine q_gov V (q_runV (As := [.ref qO6]) (rest := []) (d := 2) (mc := 0) (ms := 0) (ci := 2) C0 V rfl LV_Mil_51 (c_Big_copy_7 l D g u48 kO4 kO6 kA15 kA17 qO4 qO6 qA15 qA17 lx13 lx15 hO4 hO6 hA15 hA17 n_A17_A15 n_O6_O4 _) rfl rfl hO4 rfl hl.1 rfl (Nat.le_of_ble_eq_true rfl) ⟨by decide, by decide⟩ ⟨Nat.le_of_ble_eq_true rfl, Nat.le_of_ble_eq_true rfl⟩ d_8_8_82) (fun u57 H locs hp56 V => ?_)
        obtain ⟨hg58, hO4, hA15⟩ := hp56
        replace hF := q_uc hF hg58 (q_sc (.head _) (q_sc (.tail _ (.tail _ (.head _))) (fun _ h => absurd h List.not_mem_nil)))
        refine lv_aload_n hx hb d_8_8_85 rfl (lv_at hl 1 rfl) ?_
        replace hO0 := (hg58 _ (q_nc n_O0_O4 (q_nc n_O0_A15 List.not_mem_nil))).trans (hO0)
        refine q_get (ci := 4) (j := 2) (v := .ref qO4) C0 V i_Mil rfl rfl hO0 (by decide) w_117 rfl d_8_8_86 ?_
        refine q_goi V (q_runV (As := []) (rest := []) (d := 3) (mc := 0) (ms := 0) (ci := 2) C0 V rfl LV_Mil_85 (c_Big_bitLength_3 l D g u57 kO4 kA15 qO4 qA15 lx13 hO4 hA15 _) rfl rfl hO4 rfl hl.1 rfl (Nat.le_of_ble_eq_true rfl) ⟨by decide, by decide⟩ ⟨Nat.le_of_ble_eq_true rfl, Nat.le_of_ble_eq_true rfl⟩ d_8_8_89) (fun v61 u60 H locs hp59 V => ?_)
        obtain ⟨rfl, rfl⟩ := hp59
        refine lv_iload_n hx hb d_8_8_92 rfl (lv_at hl 4 rfl) ?_
        refine lv_icmp_le (tgt := 98) hx hb d_8_8_93 (by decide) (fun c63 => ?_) (fun c63 => absurd (by decide) c63)
        refine lv_iinc (v := lx11 + (-1)) (lv' := [(4, .int (lx11 + (-1))), (0, .ref qO0), (1, .ref qO1), (2, .int x1), (3, .int 3330)]) hx hb d_8_8_98 hl (k := 0) rfl (rfl) (by decide) rfl (fun ls hl => ?_)
        refine lv_goto (tgt := 16) hx hb d_8_8_101 (by decide) ?_
        replace hO1 := (hg58 _ (q_nc n_O1_O4 (q_nc n_O1_A15 List.not_mem_nil))).trans ((hg49 _ (q_nc n_O1_O6 (q_nc n_O1_A17 List.not_mem_nil))).trans (hO1))
        replace hO6 := (hg58 _ (q_nc n_O6_O4 (q_nc n_O6_A15 List.not_mem_nil))).trans (hO6)
        replace hA17 := (hg58 _ (q_nc n_A17_O4 (q_nc n_A17_A15 List.not_mem_nil))).trans (hA17)
        exact ih19 ((lx11 + (-1) : Int32), (1 : Int32), (lx13 : Nat → Int32), (1 : Int32), (upd (upd lx15 0 1) 1 0 : Nat → Int32)) _ _ _ _ (show ((lx11 + (-1) : Int32).toInt + 1).toNat < (lx11.toInt + 1).toNat from by have t1 : 0 ≤ x1.toInt := q_leI x1lo; have t2 : x1.toInt ≤ 999 := q_leI x1hi; have t3 : 0 ≤ lx11.toInt := q_nltI c46; have t4 : 0 ≤ y9.toInt := q_leI f7; have t5 : y9.toInt ≤ 63 := q_leI f8; have e0 : (lx11 + (-1) : Int32).toInt = (lx11.toInt + (-1)) := (q_addI (x := lx11.toInt) (y := (-1)) rfl (by decide) (by have t1 : 0 ≤ lx11.toInt := q_nltI c46; omega) (by have t1 : 0 ≤ lx11.toInt := q_nltI c46; omega)); have e1 : (1 : Int32).toInt = 1 := (by decide); have e3 : (1 : Int32).toInt = 1 := (by decide); omega) ⟨(show (-1) ≤ (lx11 + (-1) : Int32).toInt ∧ (lx11 + (-1) : Int32).toInt ≤ 62 from by have t1 : 0 ≤ x1.toInt := q_leI x1lo; have t2 : x1.toInt ≤ 999 := q_leI x1hi; have t3 : 0 ≤ lx11.toInt := q_nltI c46; have t4 : 0 ≤ y9.toInt := q_leI f7; have t5 : y9.toInt ≤ 63 := q_leI f8; have e0 : (lx11 + (-1) : Int32).toInt = (lx11.toInt + (-1)) := (q_addI (x := lx11.toInt) (y := (-1)) rfl (by decide) (by have t1 : 0 ≤ lx11.toInt := q_nltI c46; omega) (by have t1 : 0 ≤ lx11.toInt := q_nltI c46; omega)); have e1 : (1 : Int32).toInt = 1 := (by decide); have e3 : (1 : Int32).toInt = 1 := (by decide); omega), (Or.inr rfl), V, q_lw hl (q_lw1 0 rfl (q_lw1 1 rfl (q_lw1 2 rfl (q_lw1 3 rfl (q_lw1 4 rfl q_lw0))))), hF, hO0, hO1, hO4, hO6, hA15, hA17⟩
      ·
        refine lv_aload_n hx hb d_8_8_59 rfl (lv_at hl 1 rfl) ?_
        refine q_get (ci := 4) (j := 2) (v := .ref qO4) C0 V i_Mil rfl rfl hO0 (by decide) w_117 rfl d_8_8_60 ?_
        refine lv_aload_n hx hb d_8_8_63 rfl (lv_at hl 1 rfl) ?_
        refine q_get (ci := 4) (j := 4) (v := .ref qO6) C0 V i_Mil rfl rfl hO0 (by decide) w_123 rfl d_8_8_64 ?_
        refine lv_aload_n hx hb d_8_8_67 rfl (lv_at hl 2 rfl) ?_
        replace hO4 := (hg49 _ (q_nc n_O4_O6 (q_nc n_O4_A17 List.not_mem_nil))).trans (hO4)
        replace hO1 := (hg49 _ (q_nc n_O1_O6 (q_nc n_O1_A17 List.not_mem_nil))).trans (hO1)
        replace hA15 := (hg49 _ (q_nc n_A15_O6 (q_nc n_A15_A17 List.not_mem_nil))).trans (hA15)
        refine q_gov V (q_runV (As := [.ref qO6, .ref qO1]) (rest := []) (d := 3) (mc := 0) (ms := 0) (ci := 2) C0 V rfl LV_Mil_47 (c_Big_product_5 l D g u48 kO4 kO6 kO1 kA15 kA17 qO4 qO6 qO1 qA15 qA17 qA12 lx13 lx15 hO4 hO6 hO1 hA15 hA17 n_A17_A15 n_O6_O4 n_O1_O4 _) rfl rfl hO4 rfl hl.1 rfl (Nat.le_of_ble_eq_true rfl) ⟨by decide, by decide⟩ ⟨Nat.le_of_ble_eq_true rfl, Nat.le_of_ble_eq_true rfl⟩ d_8_8_68) (fun u65 H locs hp64 V => ?_)
        obtain ⟨hg66, hO4, hA15⟩ := hp64
        replace hF := q_uc hF hg66 (q_sc (.head _) (q_sc (.tail _ (.tail _ (.head _))) (fun _ h => absurd h List.not_mem_nil)))
        refine lv_goto (tgt := 85) hx hb d_8_8_71 (by decide) ?_
        refine lv_aload_n hx hb d_8_8_85 rfl (lv_at hl 1 rfl) ?_
        replace hO0 := (hg66 _ (q_nc n_O0_O4 (q_nc n_O0_A15 List.not_mem_nil))).trans (hO0)
        refine q_get (ci := 4) (j := 2) (v := .ref qO4) C0 V i_Mil rfl rfl hO0 (by decide) w_117 rfl d_8_8_86 ?_
        refine q_goi V (q_runV (As := []) (rest := []) (d := 1) (mc := 0) (ms := 0) (ci := 2) C0 V rfl LV_Mil_85 (c_Big_bitLength l D g u65 kO4 qO4 qA15 hO4 _) rfl rfl hO4 rfl hl.1 rfl (Nat.le_of_ble_eq_true rfl) ⟨by decide, by decide⟩ ⟨Nat.le_of_ble_eq_true rfl, Nat.le_of_ble_eq_true rfl⟩ d_8_8_89) (fun v69 u68 H locs hp67 V => ?_)
        obtain ⟨rfl, rfl⟩ := hp67
        refine lv_iload_n hx hb d_8_8_92 rfl (lv_at hl 4 rfl) ?_
        refine lv_icmp_le (tgt := 98) hx hb d_8_8_93 (by decide) (fun c71 => ?_) (fun c71 => absurd (by decide) c71)
        refine lv_iinc (v := lx11 + (-1)) (lv' := [(4, .int (lx11 + (-1))), (0, .ref qO0), (1, .ref qO1), (2, .int x1), (3, .int 3330)]) hx hb d_8_8_98 hl (k := 0) rfl (rfl) (by decide) rfl (fun ls hl => ?_)
        refine lv_goto (tgt := 16) hx hb d_8_8_101 (by decide) ?_
        replace hO1 := (hg66 _ (q_nc n_O1_O4 (q_nc n_O1_A15 List.not_mem_nil))).trans (hO1)
        replace hO6 := (hg66 _ (q_nc n_O6_O4 (q_nc n_O6_A15 List.not_mem_nil))).trans (hO6)
        replace hA17 := (hg66 _ (q_nc n_A17_O4 (q_nc n_A17_A15 List.not_mem_nil))).trans (hA17)
        exact ih19 ((lx11 + (-1) : Int32), (0 : Int32), (lx13 : Nat → Int32), (1 : Int32), (upd (upd lx15 0 1) 1 0 : Nat → Int32)) _ _ _ _ (show ((lx11 + (-1) : Int32).toInt + 1).toNat < (lx11.toInt + 1).toNat from by have t1 : 0 ≤ x1.toInt := q_leI x1lo; have t2 : x1.toInt ≤ 999 := q_leI x1hi; have t3 : 0 ≤ lx11.toInt := q_nltI c46; have t4 : 0 ≤ y9.toInt := q_leI f7; have t5 : y9.toInt ≤ 63 := q_leI f8; have e0 : (lx11 + (-1) : Int32).toInt = (lx11.toInt + (-1)) := (q_addI (x := lx11.toInt) (y := (-1)) rfl (by decide) (by have t1 : 0 ≤ lx11.toInt := q_nltI c46; omega) (by have t1 : 0 ≤ lx11.toInt := q_nltI c46; omega)); have e1 : (0 : Int32).toInt = 0 := (by decide); have e3 : (1 : Int32).toInt = 1 := (by decide); omega) ⟨(show (-1) ≤ (lx11 + (-1) : Int32).toInt ∧ (lx11 + (-1) : Int32).toInt ≤ 62 from by have t1 : 0 ≤ x1.toInt := q_leI x1lo; have t2 : x1.toInt ≤ 999 := q_leI x1hi; have t3 : 0 ≤ lx11.toInt := q_nltI c46; have t4 : 0 ≤ y9.toInt := q_leI f7; have t5 : y9.toInt ≤ 63 := q_leI f8; have e0 : (lx11 + (-1) : Int32).toInt = (lx11.toInt + (-1)) := (q_addI (x := lx11.toInt) (y := (-1)) rfl (by decide) (by have t1 : 0 ≤ lx11.toInt := q_nltI c46; omega) (by have t1 : 0 ≤ lx11.toInt := q_nltI c46; omega)); have e1 : (0 : Int32).toInt = 0 := (by decide); have e3 : (1 : Int32).toInt = 1 := (by decide); omega), (Or.inl rfl), V, q_lw hl (q_lw1 0 rfl (q_lw1 1 rfl (q_lw1 2 rfl (q_lw1 3 rfl (q_lw1 4 rfl q_lw0))))), hF, hO0, hO1, hO4, hO6, hA15, hA17⟩
theorem d_4_9_0 : decode prog_4_method_9_code 0 = .ok (.aload_n 0, 1) := by decide +kernel
theorem d_4_9_1 : decode prog_4_method_9_code 1 = .ok (.aload_n 1, 1) := by decide +kernel
theorem d_4_9_2 : decode prog_4_method_9_code 2 = .ok (.getfield 48, 3) := by decide +kernel
theorem d_4_9_5 : decode prog_4_method_9_code 5 = .ok (.i2l, 1) := by decide +kernel
theorem d_4_9_6 : decode prog_4_method_9_code 6 = .ok (.iload_n 2, 1) := by decide +kernel
theorem d_4_9_7 : decode prog_4_method_9_code 7 = .ok (.i2l, 1) := by decide +kernel
theorem d_4_9_8 : decode prog_4_method_9_code 8 = .ok (.lmul, 1) := by decide +kernel
theorem d_4_9_9 : decode prog_4_method_9_code 9 = .ok (.putfield 56, 3) := by decide +kernel
theorem d_4_9_12 : decode prog_4_method_9_code 12 = .ok (.aload_n 0, 1) := by decide +kernel
theorem d_4_9_13 : decode prog_4_method_9_code 13 = .ok (.getfield 20, 3) := by decide +kernel
theorem d_4_9_16 : decode prog_4_method_9_code 16 = .ok (.aload_n 1, 1) := by decide +kernel
theorem d_4_9_17 : decode prog_4_method_9_code 17 = .ok (.getfield 24, 3) := by decide +kernel
theorem d_4_9_20 : decode prog_4_method_9_code 20 = .ok (.iload_n 2, 1) := by decide +kernel
theorem d_4_9_21 : decode prog_4_method_9_code 21 = .ok (.sipush 3330, 3) := by decide +kernel
theorem d_4_9_24 : decode prog_4_method_9_code 24 = .ok (.invokevirtual 119, 3) := by decide +kernel
theorem w_1406 : (Cond.methodLink "NumberHouse$DecimalWork" (119 : Nat) ({ cls := "NumberHouse$Mill", name := "power", desc := "(LNumberHouse$Big;II)Z" } : MethodName)) ∈ q_tbl := q_of 1406 (by decide +kernel) (by decide +kernel)
theorem LV_DW_119 : q_LV "NumberHouse$DecimalWork" 119 y_Mil_power prog_8_method_8_code 5 (some .boolean) 3 := ⟨w_1331, w_3, w_1406, w_1329, w_1330, ⟨by decide, by decide, by decide +kernel⟩⟩
theorem d_4_9_27 : decode prog_4_method_9_code 27 = .ok (.istore_n 3, 1) := by decide +kernel
theorem d_4_9_28 : decode prog_4_method_9_code 28 = .ok (.aload_n 0, 1) := by decide +kernel
theorem d_4_9_29 : decode prog_4_method_9_code 29 = .ok (.getfield 20, 3) := by decide +kernel
theorem d_4_9_32 : decode prog_4_method_9_code 32 = .ok (.getfield 55, 3) := by decide +kernel
theorem d_4_9_35 : decode prog_4_method_9_code 35 = .ok (.aload_n 0, 1) := by decide +kernel
theorem d_4_9_36 : decode prog_4_method_9_code 36 = .ok (.getfield 20, 3) := by decide +kernel
theorem d_4_9_39 : decode prog_4_method_9_code 39 = .ok (.getfield 123, 3) := by decide +kernel
theorem w_118 : (Cond.fieldLink "NumberHouse$DecimalWork" (123 : Nat) "NumberHouse$Mill" "power" "LNumberHouse$Big;") ∈ q_tbl := q_of 118 (by decide +kernel) (by decide +kernel)
theorem d_4_9_42 : decode prog_4_method_9_code 42 = .ok (.invokevirtual 44, 3) := by decide +kernel
theorem d_4_9_45 : decode prog_4_method_9_code 45 = .ok (.iload_n 3, 1) := by decide +kernel
theorem d_4_9_46 : decode prog_4_method_9_code 46 = .ok (.ireturn, 1) := by decide +kernel
def y_DW_raise : MethodName := ⟨"NumberHouse$DecimalWork", "raise", "(LNumberHouse$Dec;I)Z"⟩
set_option maxRecDepth 100000 in
set_option maxHeartbeats 4000000 in
theorem c_DW_raise (l : Launch) (D : va_G) (g : Nat → ClassId) (ws : va_W) (kO0 kO1 kO3 kO4 kO6 kO8 kO10 kA18 kA20 kA22 qO0 qO1 qO2 qO3 qO4 qO6 qO7 qO8 qO9 qO10 qO11 qO12 qO13 qO14 qO15 qA16 qA18 qA20 qA22 : Nat) (x1 : Int32) (hO0 : ws[kO0]? = (some (qO0, .inr (5, [.ref qO2, .long 0, .ref qO3, .int 0])) : Option (Nat × va_E))) (hO1 : ws[kO1]? = (some (qO1, .inr (3, [.ref qO4, .int 0, .int 1])) : Option (Nat × va_E))) (hO3 : ws[kO3]? = (some (qO3, .inr (4, [.ref qO6, .ref qO7, .ref qO8, .ref qO9, .ref qO10, .ref qO11, .ref qO12, .ref qO13, .ref qO14, .ref qO15])) : Option (Nat × va_E))) (hO4 : ws[kO4]? = (some (qO4, .inr (2, [.ref qA16, .int 0, .int 0])) : Option (Nat × va_E))) (hO6 : ws[kO6]? = (some (qO6, .inr (2, [.ref qA18, .int 0, .int 0])) : Option (Nat × va_E))) (hO8 : ws[kO8]? = (some (qO8, .inr (2, [.ref qA20, .int 0, .int 0])) : Option (Nat × va_E))) (hO10 : ws[kO10]? = (some (qO10, .inr (2, [.ref qA22, .int 0, .int 0])) : Option (Nat × va_E))) (hA18 : ws[kA18]? = (some (qA18, .inl (g 0, 220, .inl (fun _ => 0))) : Option (Nat × va_E))) (hA20 : ws[kA20]? = (some (qA20, .inl (g 0, 220, .inl (fun _ => 0))) : Option (Nat × va_E))) (hA22 : ws[kA22]? = (some (qA22, .inl (g 0, 220, .inl (fun _ => 0))) : Option (Nat × va_E))) (n_A18_A20 : kA18 ≠ kA20) (n_A18_A22 : kA18 ≠ kA22) (n_A20_A22 : kA20 ≠ kA22) (n_O10_O6 : kO10 ≠ kO6) (n_O4_O10 : kO4 ≠ kO10) (n_O4_O6 : kO4 ≠ kO6) (n_O4_O8 : kO4 ≠ kO8) (n_O6_O8 : kO6 ≠ kO8) (n_O8_O10 : kO8 ≠ kO10) (x1lo : 0 ≤ x1) (x1hi : x1 ≤ 999) : q_mI l y_DW_raise prog_4_method_9_code 4 (.boolean) 5 0 0 D g [.ref qO0, .ref qO1, .int x1] ws (fun r u => (∃ (ex0 : Int32) (ex1 : Nat → Int32) (ex2 : Nat → Int32), 1 = r ∧ q_un ws u [kO0, kO6, kO8, kO10, kA18, kA20, kA22] ∧ u[kO0]? = (some (qO0, .inr (5, [.ref qO2, .long 0, .ref qO3, .int 0])) : Option (Nat × va_E)) ∧ u[kO6]? = (some (qO6, .inr (2, [.ref qA18, .int 0, .int 0])) : Option (Nat × va_E)) ∧ u[kO8]? = (some (qO8, .inr (2, [.ref qA20, .int 0, .int 0])) : Option (Nat × va_E)) ∧ u[kO10]? = (some (qO10, .inr (2, [.ref qA22, .int ex0, .int 0])) : Option (Nat × va_E)) ∧ u[kA18]? = (some (qA18, .inl (g 0, 220, .inl (fun _ => 0))) : Option (Nat × va_E)) ∧ u[kA20]? = (some (qA20, .inl (g 0, 220, .inl (upd ex1 0 0))) : Option (Nat × va_E)) ∧ u[kA22]? = (some (qA22, .inl (g 0, 220, .inl ex2)) : Option (Nat × va_E))) ∨ (∃ (ex0 : Int32) (ex1 : Nat → Int32) (ex2 : Nat → Int32), 1 = r ∧ q_un ws u [kO0, kO6, kO8, kO10, kA18, kA20, kA22] ∧ u[kO0]? = (some (qO0, .inr (5, [.ref qO2, .long 0, .ref qO3, .int 0])) : Option (Nat × va_E)) ∧ u[kO6]? = (some (qO6, .inr (2, [.ref qA18, .int 1, .int 0])) : Option (Nat × va_E)) ∧ u[kO8]? = (some (qO8, .inr (2, [.ref qA20, .int 1, .int 0])) : Option (Nat × va_E)) ∧ u[kO10]? = (some (qO10, .inr (2, [.ref qA22, .int ex0, .int 0])) : Option (Nat × va_E)) ∧ u[kA18]? = (some (qA18, .inl (g 0, 220, .inl (upd (fun _ => 0) 0 1))) : Option (Nat × va_E)) ∧ u[kA20]? = (some (qA20, .inl (g 0, 220, .inl (upd ex1 0 1))) : Option (Nat × va_E)) ∧ u[kA22]? = (some (qA22, .inl (g 0, 220, .inl ex2)) : Option (Nat × va_E)))) := by
  intro sz
  refine q_into (by decide) (Nat.le_of_ble_eq_true rfl) ?_
  intro p e s m below meth c ls hsz C0 V hl
  have hx := C0.1
  have hb := C0.2.1
  have hl : lv_has ls 4 [(0, .ref qO0), (1, .ref qO1), (2, .int x1)] := hl
  have n_A18_O0 := q_df hA18 hO0
  have n_A18_O10 := q_df hA18 hO10
  have n_A18_O8 := q_df hA18 hO8
  have n_A20_A18 := Ne.symm n_A18_A20
  have n_A20_O0 := q_df hA20 hO0
  have n_A20_O6 := q_df hA20 hO6
  have n_A22_A18 := Ne.symm n_A18_A22
  have n_A22_O0 := q_df hA22 hO0
  have n_A22_O6 := q_df hA22 hO6
  have n_O0_A18 := Ne.symm (q_df hA18 hO0)
  have n_O0_A20 := Ne.symm (q_df hA20 hO0)
  have n_O0_A22 := Ne.symm (q_df hA22 hO0)
  have n_O0_O10 := q_dc hO0 hO10 (q_pd 5 2 rfl)
  have n_O0_O6 := q_dc hO0 hO6 (q_pd 5 2 rfl)
  have n_O0_O8 := q_dc hO0 hO8 (q_pd 5 2 rfl)
  have n_O1_A18 := Ne.symm (q_df hA18 hO1)
  have n_O1_A20 := Ne.symm (q_df hA20 hO1)
  have n_O1_A22 := Ne.symm (q_df hA22 hO1)
  have n_O1_O0 := q_dc hO1 hO0 (q_pd 3 5 rfl)
  have n_O1_O10 := q_dc hO1 hO10 (q_pd 3 2 rfl)
  have n_O1_O6 := q_dc hO1 hO6 (q_pd 3 2 rfl)
  have n_O1_O8 := q_dc hO1 hO8 (q_pd 3 2 rfl)
  have n_O10_A18 := Ne.symm (q_df hA18 hO10)
  have n_O10_O0 := q_dc hO10 hO0 (q_pd 2 5 rfl)
  have n_O3_A18 := Ne.symm (q_df hA18 hO3)
  have n_O3_A20 := Ne.symm (q_df hA20 hO3)
  have n_O3_A22 := Ne.symm (q_df hA22 hO3)
  have n_O3_O0 := q_dc hO3 hO0 (q_pd 4 5 rfl)
  have n_O3_O10 := q_dc hO3 hO10 (q_pd 4 2 rfl)
  have n_O3_O6 := q_dc hO3 hO6 (q_pd 4 2 rfl)
  have n_O3_O8 := q_dc hO3 hO8 (q_pd 4 2 rfl)
  have n_O4_A18 := Ne.symm (q_df hA18 hO4)
  have n_O4_A20 := Ne.symm (q_df hA20 hO4)
  have n_O4_A22 := Ne.symm (q_df hA22 hO4)
  have n_O4_O0 := q_dc hO4 hO0 (q_pd 2 5 rfl)
  have n_O6_A20 := Ne.symm (q_df hA20 hO6)
  have n_O6_A22 := Ne.symm (q_df hA22 hO6)
  have n_O6_O0 := q_dc hO6 hO0 (q_pd 2 5 rfl)
  have n_O6_O10 := Ne.symm n_O10_O6
  have n_O8_A18 := Ne.symm (q_df hA18 hO8)
  have n_O8_O0 := q_dc hO8 hO0 (q_pd 2 5 rfl)
  have n_O8_O6 := Ne.symm n_O6_O8
  have hF : q_un ws ws [kO0, kO6, kO8, kO10, kA18, kA20, kA22] := q_u0
  refine lv_aload_n hx hb d_4_9_0 rfl (lv_at hl 0 rfl) ?_
  refine lv_aload_n hx hb d_4_9_1 rfl (lv_at hl 1 rfl) ?_
  refine q_get (ci := 3) (j := 1) (v := .int 0) C0 V i_Dec rfl rfl hO1 (by decide) w_176 rfl d_4_9_2 ?_
  refine lv_i2l hx hb d_4_9_5 rfl ?_
  refine q_tl (v := 0) (by decide) ?_
  refine lv_iload_n hx hb d_4_9_6 rfl (lv_at hl 2 rfl) ?_
  refine lv_i2l hx hb d_4_9_7 rfl ?_
  refine lv_lmul hx hb d_4_9_8 ?_
  refine q_tl (v := 0) (by simp) ?_
  refine q_put (ci := 5) (j := 1) (v := .long 0) (ty := .long) C0 V i_DW o_DW n_DW rfl rfl hO0 (by decide) w_212 rfl rfl rfl rfl (Nat.le_of_ble_eq_true rfl) d_4_9_9 (fun H locs w1 hu2 hO0 V => ?_)
  replace hO0 : w1[kO0]? = (some (qO0, .inr (5, [.ref qO2, .long 0, .ref qO3, .int 0])) : Option (Nat × va_E)) := hO0
  replace hF := q_us hF hu2 (.head _)
  refine lv_aload_n hx hb d_4_9_12 rfl (lv_at hl 0 rfl) ?_
  refine q_get (ci := 5) (j := 2) (v := .ref qO3) C0 V i_DW rfl rfl hO0 (by decide) w_214 rfl d_4_9_13 ?_
  refine lv_aload_n hx hb d_4_9_16 rfl (lv_at hl 1 rfl) ?_
  replace hO1 := (hu2 _ n_O1_O0).trans (hO1)
  refine q_get (ci := 3) (j := 0) (v := .ref qO4) C0 V i_Dec rfl rfl hO1 (by decide) w_171 rfl d_4_9_17 ?_
  refine lv_iload_n hx hb d_4_9_20 rfl (lv_at hl 2 rfl) ?_
  refine lv_sipush (v := 3330) hx hb d_4_9_21 (by decide) ?_
  replace hO3 := (hu2 _ n_O3_O0).trans (hO3)
  replace hO4 := (hu2 _ n_O4_O0).trans (hO4)
  replace hO8 := (hu2 _ n_O8_O0).trans (hO8)
  replace hO10 := (hu2 _ n_O10_O0).trans (hO10)
  replace hA20 := (hu2 _ n_A20_O0).trans (hA20)
  replace hA22 := (hu2 _ n_A22_O0).trans (hA22)
  refine q_goi V (q_runV (As := [.ref qO4, .int x1, .int 3330]) (rest := []) (d := 4) (mc := 0) (ms := 0) (ci := 4) C0 V rfl LV_DW_119 (c_Mil_power_2 l D g w1 kO3 kO4 kO8 kO10 kA20 kA22 qO3 qO4 qO6 qO7 qO8 qO9 qO10 qO11 qO12 qO13 qO14 qO15 qA16 qA20 qA22 x1 hO3 hO4 hO8 hO10 hA20 hA22 n_A20_A22 n_O4_O8 n_O4_O10 n_O8_O10 x1lo x1hi _) rfl rfl hO3 rfl hl.1 rfl (Nat.le_of_ble_eq_true rfl) ⟨by decide, by decide⟩ ⟨Nat.le_of_ble_eq_true rfl, Nat.le_of_ble_eq_true rfl⟩ d_4_9_24) (fun v5 u4 H locs hp3 V => ?_)
  rcases hp3 with ⟨y6, y7, y8, rfl, hg9, hO8, hO10, hA20, hA22⟩ | ⟨y10, y11, y12, rfl, hg13, hO8, hO10, hA20, hA22⟩
  ·
    replace hF := q_uc hF hg9 (q_sc (.tail _ (.tail _ (.head _))) (q_sc (List.mem_of_getElem? (i := 3) rfl) (q_sc (List.mem_of_getElem? (i := 5) rfl) (q_sc (List.mem_of_getElem? (i := 6) rfl) (fun _ h => absurd h List.not_mem_nil)))))
    refine lv_istore_n (lv' := [(3, .int 1), (0, .ref qO0), (1, .ref qO1), (2, .int x1)]) hx hb d_4_9_27 rfl hl (by decide) rfl (fun ls hl => ?_)
    refine lv_aload_n hx hb d_4_9_28 rfl (lv_at hl 1 rfl) ?_
    replace hO0 := (hg9 _ (q_nc n_O0_O8 (q_nc n_O0_O10 (q_nc n_O0_A20 (q_nc n_O0_A22 List.not_mem_nil))))).trans (hO0)
    refine q_get (ci := 5) (j := 2) (v := .ref qO3) C0 V i_DW rfl rfl hO0 (by decide) w_214 rfl d_4_9_29 ?_
    replace hO3 := (hg9 _ (q_nc n_O3_O8 (q_nc n_O3_O10 (q_nc n_O3_A20 (q_nc n_O3_A22 List.not_mem_nil))))).trans (hO3)
    refine q_get (ci := 4) (j := 0) (v := .ref qO6) C0 V i_Mil rfl rfl hO3 (by decide) w_111 rfl d_4_9_32 ?_
    refine lv_aload_n hx hb d_4_9_35 rfl (lv_at hl 1 rfl) ?_
    refine q_get (ci := 5) (j := 2) (v := .ref qO3) C0 V i_DW rfl rfl hO0 (by decide) w_214 rfl d_4_9_36 ?_
    refine q_get (ci := 4) (j := 2) (v := .ref qO8) C0 V i_Mil rfl rfl hO3 (by decide) w_118 rfl d_4_9_39 ?_
    replace hO6 := (hg9 _ (q_nc n_O6_O8 (q_nc n_O6_O10 (q_nc n_O6_A20 (q_nc n_O6_A22 List.not_mem_nil))))).trans ((hu2 _ n_O6_O0).trans (hO6))
    replace hA18 := (hg9 _ (q_nc n_A18_O8 (q_nc n_A18_O10 (q_nc n_A18_A20 (q_nc n_A18_A22 List.not_mem_nil))))).trans ((hu2 _ n_A18_O0).trans (hA18))
    refine q_gov V (q_runV (As := [.ref qO8]) (rest := []) (d := 2) (mc := 0) (ms := 0) (ci := 2) C0 V rfl LV_DW_44 (c_Big_copy_8 l D g u4 kO6 kO8 kA18 kA20 qO6 qO8 qA18 qA20 y7 hO6 hO8 hA18 hA20 n_A20_A18 n_O8_O6 _) rfl rfl hO6 rfl hl.1 rfl (Nat.le_of_ble_eq_true rfl) ⟨by decide, by decide⟩ ⟨Nat.le_of_ble_eq_true rfl, Nat.le_of_ble_eq_true rfl⟩ d_4_9_42) (fun u15 H locs hp14 V => ?_)
    obtain ⟨hg16, hO6, hA18⟩ := hp14
    replace hF := q_uc hF hg16 (q_sc (.tail _ (.head _)) (q_sc (List.mem_of_getElem? (i := 4) rfl) (fun _ h => absurd h List.not_mem_nil)))
    refine lv_iload_n hx hb d_4_9_45 rfl (lv_at hl 0 rfl) ?_
    replace hO0 := (hg16 _ (q_nc n_O0_O6 (q_nc n_O0_A18 List.not_mem_nil))).trans (hO0)
    replace hO8 := (hg16 _ (q_nc n_O8_O6 (q_nc n_O8_A18 List.not_mem_nil))).trans (hO8)
    replace hO10 := (hg16 _ (q_nc n_O10_O6 (q_nc n_O10_A18 List.not_mem_nil))).trans (hO10)
    replace hA20 := (hg16 _ (q_nc n_A20_O6 (q_nc n_A20_A18 List.not_mem_nil))).trans (hA20)
    replace hA22 := (hg16 _ (q_nc n_A22_O6 (q_nc n_A22_A18 List.not_mem_nil))).trans (hA22)
    exact q_retz C0 V (rfl) (Or.inl ⟨y6, y7, y8, rfl, hF, hO0, hO6, hO8, hO10, hA18, hA20, hA22⟩) d_4_9_46
  ·
    replace hF := q_uc hF hg13 (q_sc (.tail _ (.tail _ (.head _))) (q_sc (List.mem_of_getElem? (i := 3) rfl) (q_sc (List.mem_of_getElem? (i := 5) rfl) (q_sc (List.mem_of_getElem? (i := 6) rfl) (fun _ h => absurd h List.not_mem_nil)))))
    refine lv_istore_n (lv' := [(3, .int 1), (0, .ref qO0), (1, .ref qO1), (2, .int x1)]) hx hb d_4_9_27 rfl hl (by decide) rfl (fun ls hl => ?_)
    refine lv_aload_n hx hb d_4_9_28 rfl (lv_at hl 1 rfl) ?_
    replace hO0 := (hg13 _ (q_nc n_O0_O8 (q_nc n_O0_O10 (q_nc n_O0_A20 (q_nc n_O0_A22 List.not_mem_nil))))).trans (hO0)
    refine q_get (ci := 5) (j := 2) (v := .ref qO3) C0 V i_DW rfl rfl hO0 (by decide) w_214 rfl d_4_9_29 ?_
    replace hO3 := (hg13 _ (q_nc n_O3_O8 (q_nc n_O3_O10 (q_nc n_O3_A20 (q_nc n_O3_A22 List.not_mem_nil))))).trans (hO3)
    refine q_get (ci := 4) (j := 0) (v := .ref qO6) C0 V i_Mil rfl rfl hO3 (by decide) w_111 rfl d_4_9_32 ?_
    refine lv_aload_n hx hb d_4_9_35 rfl (lv_at hl 1 rfl) ?_
    refine q_get (ci := 5) (j := 2) (v := .ref qO3) C0 V i_DW rfl rfl hO0 (by decide) w_214 rfl d_4_9_36 ?_
    refine q_get (ci := 4) (j := 2) (v := .ref qO8) C0 V i_Mil rfl rfl hO3 (by decide) w_118 rfl d_4_9_39 ?_
    replace hO6 := (hg13 _ (q_nc n_O6_O8 (q_nc n_O6_O10 (q_nc n_O6_A20 (q_nc n_O6_A22 List.not_mem_nil))))).trans ((hu2 _ n_O6_O0).trans (hO6))
    replace hA18 := (hg13 _ (q_nc n_A18_O8 (q_nc n_A18_O10 (q_nc n_A18_A20 (q_nc n_A18_A22 List.not_mem_nil))))).trans ((hu2 _ n_A18_O0).trans (hA18))
    refine q_gov V (q_runV (As := [.ref qO8]) (rest := []) (d := 2) (mc := 0) (ms := 0) (ci := 2) C0 V rfl LV_DW_44 (c_Big_copy_9 l D g u4 kO6 kO8 kA18 kA20 qO6 qO8 qA18 qA20 y11 hO6 hO8 hA18 hA20 n_A20_A18 n_O8_O6 _) rfl rfl hO6 rfl hl.1 rfl (Nat.le_of_ble_eq_true rfl) ⟨by decide, by decide⟩ ⟨Nat.le_of_ble_eq_true rfl, Nat.le_of_ble_eq_true rfl⟩ d_4_9_42) (fun u18 H locs hp17 V => ?_)
    obtain ⟨hg19, hO6, hA18⟩ := hp17
    replace hF := q_uc hF hg19 (q_sc (.tail _ (.head _)) (q_sc (List.mem_of_getElem? (i := 4) rfl) (fun _ h => absurd h List.not_mem_nil)))
    refine lv_iload_n hx hb d_4_9_45 rfl (lv_at hl 0 rfl) ?_
    replace hO0 := (hg19 _ (q_nc n_O0_O6 (q_nc n_O0_A18 List.not_mem_nil))).trans (hO0)
    replace hO8 := (hg19 _ (q_nc n_O8_O6 (q_nc n_O8_A18 List.not_mem_nil))).trans (hO8)
    replace hO10 := (hg19 _ (q_nc n_O10_O6 (q_nc n_O10_A18 List.not_mem_nil))).trans (hO10)
    replace hA20 := (hg19 _ (q_nc n_A20_O6 (q_nc n_A20_A18 List.not_mem_nil))).trans (hA20)
    replace hA22 := (hg19 _ (q_nc n_A22_O6 (q_nc n_A22_A18 List.not_mem_nil))).trans (hA22)
    exact q_retz C0 V (rfl) (Or.inr (⟨y10, y11, y12, rfl, hF, hO0, hO6, hO8, hO10, hA18, hA20, hA22⟩)) d_4_9_46
theorem d_2_26_0 : decode prog_2_method_26_code 0 = .ok (.iload_n 2, 1) := by decide +kernel
theorem d_2_26_1 : decode prog_2_method_26_code 1 = .ok (.i2l, 1) := by decide +kernel
theorem d_2_26_2 : decode prog_2_method_26_code 2 = .ok (.lstore_n 3, 1) := by decide +kernel
theorem d_2_26_3 : decode prog_2_method_26_code 3 = .ok (.iconst 0, 1) := by decide +kernel
theorem d_2_26_4 : decode prog_2_method_26_code 4 = .ok (.istore 5, 2) := by decide +kernel
theorem d_2_26_6 : decode prog_2_method_26_code 6 = .ok (.iload 5, 2) := by decide +kernel
theorem d_2_26_8 : decode prog_2_method_26_code 8 = .ok (.aload_n 0, 1) := by decide +kernel
theorem d_2_26_9 : decode prog_2_method_26_code 9 = .ok (.getfield 13, 3) := by decide +kernel
theorem d_2_26_12 : decode prog_2_method_26_code 12 = .ok (.if_icmp .ge 44, 3) := by decide +kernel
theorem d_2_26_15 : decode prog_2_method_26_code 15 = .ok (.aload_n 0, 1) := by decide +kernel
theorem d_2_26_16 : decode prog_2_method_26_code 16 = .ok (.getfield 7, 3) := by decide +kernel
theorem d_2_26_19 : decode prog_2_method_26_code 19 = .ok (.iload 5, 2) := by decide +kernel
theorem d_2_26_21 : decode prog_2_method_26_code 21 = .ok (.iaload, 1) := by decide +kernel
theorem d_2_26_22 : decode prog_2_method_26_code 22 = .ok (.i2l, 1) := by decide +kernel
theorem d_2_26_23 : decode prog_2_method_26_code 23 = .ok (.iload_n 1, 1) := by decide +kernel
theorem d_2_26_24 : decode prog_2_method_26_code 24 = .ok (.i2l, 1) := by decide +kernel
theorem d_2_26_25 : decode prog_2_method_26_code 25 = .ok (.lmul, 1) := by decide +kernel
theorem d_2_26_26 : decode prog_2_method_26_code 26 = .ok (.lload_n 3, 1) := by decide +kernel
theorem d_2_26_27 : decode prog_2_method_26_code 27 = .ok (.ladd, 1) := by decide +kernel
theorem d_2_26_28 : decode prog_2_method_26_code 28 = .ok (.lstore 6, 2) := by decide +kernel
theorem d_2_26_30 : decode prog_2_method_26_code 30 = .ok (.aload_n 0, 1) := by decide +kernel
theorem d_2_26_31 : decode prog_2_method_26_code 31 = .ok (.getfield 7, 3) := by decide +kernel
theorem d_2_26_34 : decode prog_2_method_26_code 34 = .ok (.iload 5, 2) := by decide +kernel
theorem d_2_26_36 : decode prog_2_method_26_code 36 = .ok (.lload 6, 2) := by decide +kernel
theorem d_2_26_38 : decode prog_2_method_26_code 38 = .ok (.ldc2_w 30, 3) := by decide +kernel
theorem d_2_26_41 : decode prog_2_method_26_code 41 = .ok (.land, 1) := by decide +kernel
theorem d_2_26_42 : decode prog_2_method_26_code 42 = .ok (.l2i, 1) := by decide +kernel
theorem d_2_26_43 : decode prog_2_method_26_code 43 = .ok (.iastore, 1) := by decide +kernel
theorem d_2_26_44 : decode prog_2_method_26_code 44 = .ok (.lload 6, 2) := by decide +kernel
theorem d_2_26_46 : decode prog_2_method_26_code 46 = .ok (.bipush 31, 2) := by decide +kernel
theorem d_2_26_48 : decode prog_2_method_26_code 48 = .ok (.lushr, 1) := by decide +kernel
theorem d_2_26_49 : decode prog_2_method_26_code 49 = .ok (.lstore_n 3, 1) := by decide +kernel
theorem d_2_26_50 : decode prog_2_method_26_code 50 = .ok (.iinc 5 1, 3) := by decide +kernel
theorem d_2_26_53 : decode prog_2_method_26_code 53 = .ok (.goto (-47), 3) := by decide +kernel
theorem d_2_26_56 : decode prog_2_method_26_code 56 = .ok (.lload_n 3, 1) := by decide +kernel
theorem d_2_26_57 : decode prog_2_method_26_code 57 = .ok (.lconst 0, 1) := by decide +kernel
theorem d_2_26_58 : decode prog_2_method_26_code 58 = .ok (.lcmp, 1) := by decide +kernel
theorem d_2_26_59 : decode prog_2_method_26_code 59 = .ok (.ifCond .eq 36, 3) := by decide +kernel
theorem d_2_26_95 : decode prog_2_method_26_code 95 = .ok (.return_, 1) := by decide +kernel
def y_Big_multiplySmall : MethodName := ⟨"NumberHouse$Big", "multiplySmall", "(II)V"⟩
set_option maxRecDepth 100000 in
set_option maxHeartbeats 4000000 in
theorem c_Big_multiplySmall (l : Launch) (D : va_G) (g : Nat → ClassId) (ws : va_W) (kO0 kA1 qO0 qA1 : Nat) (hO0 : ws[kO0]? = (some (qO0, .inr (2, [.ref qA1, .int 1, .int 0])) : Option (Nat × va_E))) (hA1 : ws[kA1]? = (some (qA1, .inl (g 0, 220, .inl (upd (fun _ => 0) 0 1))) : Option (Nat × va_E))) : q_mV l y_Big_multiplySmall prog_2_method_26_code 8 1 0 0 D g [.ref qO0, .int 10, .int 0] ws (fun u => q_un ws u [kA1] ∧ u[kA1]? = (some (qA1, .inl (g 0, 220, .inl (upd (fun _ => 0) 0 10))) : Option (Nat × va_E))) := by
  intro sz
  refine q_into (by decide) (Nat.le_of_ble_eq_true rfl) ?_
  intro p e s m below meth c ls hsz C0 V hl
  have hx := C0.1
  have hb := C0.2.1
  have hl : lv_has ls 8 [(0, .ref qO0), (1, .int 10), (2, .int 0)] := hl
  have n_O0_A1 := Ne.symm (q_df hA1 hO0)
  have hF : q_un ws ws [kA1] := q_u0
  refine lv_iload_n hx hb d_2_26_0 rfl (lv_at hl 2 rfl) ?_
  refine lv_i2l hx hb d_2_26_1 rfl ?_
  refine q_tl (v := 0) (by decide) ?_
  refine lv_lstore_n (lv' := [(3, .long 0), (0, .ref qO0), (1, .int 10), (2, .int 0)]) hx hb d_2_26_2 rfl hl (by decide) rfl (fun ls hl => ?_)
  refine lv_iconst (v := 0) hx hb d_2_26_3 (by decide) ?_
  refine lv_istore (lv' := [(5, .int 0), (3, .long 0), (0, .ref qO0), (1, .int 10), (2, .int 0)]) hx hb d_2_26_4 hl (by decide) rfl (fun ls hl => ?_)
  refine lv_iload hx hb d_2_26_6 (lv_at hl 0 rfl) ?_
  refine lv_aload_n hx hb d_2_26_8 rfl (lv_at hl 2 rfl) ?_
  refine q_get (ci := 2) (j := 1) (v := .int 1) C0 V i_Big rfl rfl hO0 (by decide) w_85 rfl d_2_26_9 ?_
  refine lv_icmp_ge (tgt := 56) hx hb d_2_26_12 (by decide) (fun c1 => absurd c1 (by decide)) (fun c1 => ?_)
  refine lv_aload_n hx hb d_2_26_15 rfl (lv_at hl 2 rfl) ?_
  refine q_get (ci := 2) (j := 0) (v := .ref qA1) C0 V i_Big rfl rfl hO0 (by decide) w_84 rfl d_2_26_16 ?_
  refine lv_iload hx hb d_2_26_19 (lv_at hl 0 rfl) ?_
  refine q_iald C0 V hA1 (by unfold vp_in; decide) d_2_26_21 ?_
  refine q_ti (v := 1) (by first | rfl | decide | simp [upd, vp_updL, sb_cl0]) ?_
  refine lv_i2l hx hb d_2_26_22 rfl ?_
  refine q_tl (v := 1) (by decide) ?_
  refine lv_iload_n hx hb d_2_26_23 rfl (lv_at hl 3 rfl) ?_
  refine lv_i2l hx hb d_2_26_24 rfl ?_
  refine q_tl (v := 10) (by decide) ?_
  refine lv_lmul hx hb d_2_26_25 ?_
  refine q_tl (v := 10) (by decide) ?_
  refine lv_lload_n hx hb d_2_26_26 rfl (lv_at hl 1 rfl) ?_
  refine lv_ladd hx hb d_2_26_27 ?_
  refine q_tl (v := 10) (by decide) ?_
  refine lv_lstore (lv' := [(6, .long 10), (5, .int 0), (3, .long 0), (0, .ref qO0), (1, .int 10), (2, .int 0)]) hx hb d_2_26_28 hl (by decide) rfl (fun ls hl => ?_)
  refine lv_aload_n hx hb d_2_26_30 rfl (lv_at hl 3 rfl) ?_
  refine q_get (ci := 2) (j := 0) (v := .ref qA1) C0 V i_Big rfl rfl hO0 (by decide) w_84 rfl d_2_26_31 ?_
  refine lv_iload hx hb d_2_26_34 (lv_at hl 1 rfl) ?_
  refine lv_lload hx hb d_2_26_36 (lv_at hl 0 rfl) ?_
  refine q_ldc2 C0 rfl w_201 d_2_26_38 ?_
  refine lv_land hx hb d_2_26_41 ?_
  refine q_tl (v := 10) (by decide) ?_
  refine lv_l2i hx hb d_2_26_42 rfl ?_
  refine q_ti (v := 10) (by decide) ?_
  refine q_iast C0 V hA1 (by unfold vp_in; decide) d_2_26_43 (fun H locs w2 hu3 hA1 V => ?_)
  replace hA1 : w2[kA1]? = (some (qA1, .inl (g 0, 220, .inl (upd (upd (fun _ => 0) 0 1) 0 10))) : Option (Nat × va_E)) := hA1
  replace hA1 := q_re (y := (qA1, .inl (g 0, 220, .inl (upd (fun _ => 0) 0 10)))) hA1 (q_eI (by funext k; simp only [upd]; (repeat' split) <;> first | rfl | omega))
  replace hA1 : w2[kA1]? = (some (qA1, .inl (g 0, 220, .inl (upd (fun _ => 0) 0 10))) : Option (Nat × va_E)) := hA1
  replace hF := q_us hF hu3 (.head _)
  refine lv_lload hx hb d_2_26_44 (lv_at hl 0 rfl) ?_
  refine lv_bipush (v := 31) hx hb d_2_26_46 (by decide) ?_
  refine lv_lushr hx hb d_2_26_48 rfl ?_
  refine q_tl (v := 0) (by decide) ?_
  refine lv_lstore_n (lv' := [(3, .long 0), (6, .long 10), (5, .int 0), (0, .ref qO0), (1, .int 10), (2, .int 0)]) hx hb d_2_26_49 rfl hl (by decide) rfl (fun ls hl => ?_)
  refine lv_iinc (v := 1) (lv' := [(5, .int 1), (3, .long 0), (6, .long 10), (0, .ref qO0), (1, .int 10), (2, .int 0)]) hx hb d_2_26_50 hl (k := 2) rfl (by decide) (by decide) rfl (fun ls hl => ?_)
  refine lv_goto (tgt := 6) hx hb d_2_26_53 (by decide) ?_
  refine lv_iload hx hb d_2_26_6 (lv_at hl 0 rfl) ?_
  refine lv_aload_n hx hb d_2_26_8 rfl (lv_at hl 3 rfl) ?_
  replace hO0 := (hu3 _ n_O0_A1).trans (hO0)
  refine q_get (ci := 2) (j := 1) (v := .int 1) C0 V i_Big rfl rfl hO0 (by decide) w_85 rfl d_2_26_9 ?_
  refine lv_icmp_ge (tgt := 56) hx hb d_2_26_12 (by decide) (fun c4 => ?_) (fun c4 => absurd (by decide) c4)
  refine lv_lload_n hx hb d_2_26_56 rfl (lv_at hl 1 rfl) ?_
  refine lv_lconst (v := 0) hx hb d_2_26_57 (by decide) ?_
  refine W.lcmp hx hb d_2_26_58 ?_
  refine q_ti (v := 0) (by decide) ?_
  refine lv_if_eq (tgt := 95) hx hb d_2_26_59 (by decide) (fun c5 => ?_) (fun c5 => absurd (by decide) c5)
  exact q_retv C0 V (⟨hF, hA1⟩) d_2_26_95
theorem d_2_28_6 : decode prog_2_method_28_code 6 = .ok (.aload_n 0, 1) := by decide +kernel
theorem d_2_28_7 : decode prog_2_method_28_code 7 = .ok (.getstatic 95, 3) := by decide +kernel
theorem w_771 : (Cond.fieldLink "NumberHouse$Big" (95 : Nat) "NumberHouse$Big" "TENS" "[I") ∈ q_tbl := q_of 771 (by decide +kernel) (by decide +kernel)
theorem d_2_28_10 : decode prog_2_method_28_code 10 = .ok (.iload_n 2, 1) := by decide +kernel
theorem d_2_28_11 : decode prog_2_method_28_code 11 = .ok (.bipush 9, 2) := by decide +kernel
theorem d_2_28_13 : decode prog_2_method_28_code 13 = .ok (.invokestatic 39, 3) := by decide +kernel
theorem d_2_28_16 : decode prog_2_method_28_code 16 = .ok (.iaload, 1) := by decide +kernel
theorem d_2_28_17 : decode prog_2_method_28_code 17 = .ok (.iconst 0, 1) := by decide +kernel
theorem d_2_28_18 : decode prog_2_method_28_code 18 = .ok (.invokevirtual 98, 3) := by decide +kernel
theorem w_606 : (Cond.code ({ cls := "NumberHouse$Big", name := "multiplySmall", desc := "(II)V" } : MethodName) prog_2_method_26_code (8 : Nat) (none : Option ClassFile.FieldType)) ∈ q_tbl := q_of 606 (by decide +kernel) (by decide +kernel)
theorem w_776 : (Cond.methodLink "NumberHouse$Big" (98 : Nat) ({ cls := "NumberHouse$Big", name := "multiplySmall", desc := "(II)V" } : MethodName)) ∈ q_tbl := q_of 776 (by decide +kernel) (by decide +kernel)
theorem w_604 : (Cond.instanceMethod ({ cls := "NumberHouse$Big", name := "multiplySmall", desc := "(II)V" } : MethodName)) ∈ q_tbl := q_of 604 (by decide +kernel) (by decide +kernel)
theorem w_605 : (Cond.selects "NumberHouse$Big" ({ cls := "NumberHouse$Big", name := "multiplySmall", desc := "(II)V" } : MethodName) ({ cls := "NumberHouse$Big", name := "multiplySmall", desc := "(II)V" } : MethodName)) ∈ q_tbl := q_of 605 (by decide +kernel) (by decide +kernel)
theorem LV_Big_98 : q_LV "NumberHouse$Big" 98 y_Big_multiplySmall prog_2_method_26_code 8 none 2 := ⟨w_606, w_4, w_776, w_604, w_605, ⟨by decide, by decide, by decide +kernel⟩⟩
theorem d_2_28_21 : decode prog_2_method_28_code 21 = .ok (.iinc 2 (-9), 3) := by decide +kernel
theorem d_2_28_24 : decode prog_2_method_28_code 24 = .ok (.goto (-22), 3) := by decide +kernel
set_option maxRecDepth 100000 in
set_option maxHeartbeats 4000000 in
theorem c_Big_timesTen_2 (l : Launch) (D : va_G) (g : Nat → ClassId) (ws : va_W) (kO0 kA1 qO0 qA1 : Nat) (hO0 : ws[kO0]? = (some (qO0, .inr (2, [.ref qA1, .int 1, .int 0])) : Option (Nat × va_E))) (hA1 : ws[kA1]? = (some (qA1, .inl (g 0, 220, .inl (upd (fun _ => 0) 0 1))) : Option (Nat × va_E))) : q_mV l y_Big_timesTen prog_2_method_28_code 3 2 0 0 D g [.ref qO0, .int 1] ws (fun u => q_un ws u [kA1] ∧ u[kA1]? = (some (qA1, .inl (g 0, 220, .inl (upd (fun _ => 0) 0 10))) : Option (Nat × va_E))) := by
  intro sz
  refine q_into (by decide) (Nat.le_of_ble_eq_true rfl) ?_
  intro p e s m below meth c ls hsz C0 V hl
  have hx := C0.1
  have hb := C0.2.1
  have hl : lv_has ls 3 [(0, .ref qO0), (1, .int 1)] := hl
  have n_O0_A1 := Ne.symm (q_df hA1 hO0)
  have hF : q_un ws ws [kA1] := q_u0
  refine lv_iload_n hx hb d_2_28_0 rfl (lv_at hl 1 rfl) ?_
  refine lv_istore_n (lv' := [(2, .int 1), (0, .ref qO0), (1, .int 1)]) hx hb d_2_28_1 rfl hl (by decide) rfl (fun ls hl => ?_)
  refine lv_iload_n hx hb d_2_28_2 rfl (lv_at hl 0 rfl) ?_
  refine lv_if_le (tgt := 27) hx hb d_2_28_3 (by decide) (fun c1 => absurd c1 (by decide)) (fun c1 => ?_)
  refine lv_aload_n hx hb d_2_28_6 rfl (lv_at hl 1 rfl) ?_
  refine q_tens C0 V rfl w_771 d_2_28_7 (fun t2 hT3 => ?_)
  refine lv_iload_n hx hb d_2_28_10 rfl (lv_at hl 0 rfl) ?_
  refine lv_bipush (v := 9) hx hb d_2_28_11 (by decide) ?_
  refine q_min C0 hl.1 rfl w_773 w_774 w_7 w_775 ⟨Nat.le_of_ble_eq_true rfl, Nat.le_of_ble_eq_true rfl⟩ ⟨Nat.le_of_ble_eq_true rfl, Nat.le_of_ble_eq_true rfl⟩ d_2_28_13 ?_
  refine q_ti (v := 1) (by decide) ?_
  refine q_tald (v := .int 10) C0 V hT3 (by unfold vp_in; decide) (by decide) d_2_28_16 ?_
  refine lv_iconst (v := 0) hx hb d_2_28_17 (by decide) ?_
  refine q_gov V (q_runV (As := [.int 10, .int 0]) (rest := []) (d := 1) (mc := 0) (ms := 0) (ci := 2) C0 V rfl LV_Big_98 (c_Big_multiplySmall l D g ws kO0 kA1 qO0 qA1 hO0 hA1 _) rfl rfl hO0 rfl hl.1 rfl (Nat.le_of_ble_eq_true rfl) ⟨by decide, by decide⟩ ⟨Nat.le_of_ble_eq_true rfl, Nat.le_of_ble_eq_true rfl⟩ d_2_28_18) (fun u5 H locs hp4 V => ?_)
  obtain ⟨hg6, hA1⟩ := hp4
  replace hF := q_uc hF hg6 (q_sc (.head _) (fun _ h => absurd h List.not_mem_nil))
  refine lv_iinc (v := (-8)) (lv' := [(2, .int (-8)), (0, .ref qO0), (1, .int 1)]) hx hb d_2_28_21 hl (k := 0) rfl (by decide) (by decide) rfl (fun ls hl => ?_)
  refine lv_goto (tgt := 2) hx hb d_2_28_24 (by decide) ?_
  refine lv_iload_n hx hb d_2_28_2 rfl (lv_at hl 0 rfl) ?_
  refine lv_if_le (tgt := 27) hx hb d_2_28_3 (by decide) (fun c7 => ?_) (fun c7 => absurd (by decide) c7)
  exact q_retv C0 V (⟨hF, hA1⟩) d_2_28_27
theorem d_27_40_5 : decode prog_27_method_40_code 5 = .ok (.iconst (-1), 1) := by decide +kernel
theorem d_27_40_6 : decode prog_27_method_40_code 6 = .ok (.goto 13, 3) := by decide +kernel
set_option maxRecDepth 100000 in
set_option maxHeartbeats 4000000 in
theorem c_jInt_compare_2 (l : Launch) (D : va_G) (g : Nat → ClassId) (ws : va_W) : q_mI l y_jInt_compare prog_27_method_40_code 2 (.int) 1 0 0 D g [.int 1, .int 10] ws (fun r u => (-1) = r ∧ ws = u) := by
  intro sz
  refine q_into (by decide) (Nat.le_of_ble_eq_true rfl) ?_
  intro p e s m below meth c ls hsz C0 V hl
  have hx := C0.1
  have hb := C0.2.1
  have hl : lv_has ls 2 [(0, .int 1), (1, .int 10)] := hl
  refine lv_iload_n hx hb d_27_40_0 rfl (lv_at hl 0 rfl) ?_
  refine lv_iload_n hx hb d_27_40_1 rfl (lv_at hl 1 rfl) ?_
  refine lv_icmp_ge (tgt := 9) hx hb d_27_40_2 (by decide) (fun c1 => absurd c1 (by decide)) (fun c1 => ?_)
  refine lv_iconst (v := (-1)) hx hb d_27_40_5 (by decide) ?_
  refine lv_goto (tgt := 19) hx hb d_27_40_6 (by decide) ?_
  exact q_reti C0 V (⟨rfl, rfl⟩) d_27_40_19
theorem d_2_21_34 : decode prog_2_method_21_code 34 = .ok (.aload_n 0, 1) := by decide +kernel
theorem d_2_21_35 : decode prog_2_method_21_code 35 = .ok (.getfield 7, 3) := by decide +kernel
theorem d_2_21_38 : decode prog_2_method_21_code 38 = .ok (.iload_n 2, 1) := by decide +kernel
theorem d_2_21_39 : decode prog_2_method_21_code 39 = .ok (.iaload, 1) := by decide +kernel
theorem d_2_21_40 : decode prog_2_method_21_code 40 = .ok (.aload_n 1, 1) := by decide +kernel
theorem d_2_21_41 : decode prog_2_method_21_code 41 = .ok (.getfield 7, 3) := by decide +kernel
theorem d_2_21_44 : decode prog_2_method_21_code 44 = .ok (.iload_n 2, 1) := by decide +kernel
theorem d_2_21_45 : decode prog_2_method_21_code 45 = .ok (.iaload, 1) := by decide +kernel
theorem d_2_21_46 : decode prog_2_method_21_code 46 = .ok (.if_icmp .eq 19, 3) := by decide +kernel
theorem d_2_21_49 : decode prog_2_method_21_code 49 = .ok (.aload_n 0, 1) := by decide +kernel
theorem d_2_21_50 : decode prog_2_method_21_code 50 = .ok (.getfield 7, 3) := by decide +kernel
theorem d_2_21_53 : decode prog_2_method_21_code 53 = .ok (.iload_n 2, 1) := by decide +kernel
theorem d_2_21_54 : decode prog_2_method_21_code 54 = .ok (.iaload, 1) := by decide +kernel
theorem d_2_21_55 : decode prog_2_method_21_code 55 = .ok (.aload_n 1, 1) := by decide +kernel
theorem d_2_21_56 : decode prog_2_method_21_code 56 = .ok (.getfield 7, 3) := by decide +kernel
theorem d_2_21_59 : decode prog_2_method_21_code 59 = .ok (.iload_n 2, 1) := by decide +kernel
theorem d_2_21_60 : decode prog_2_method_21_code 60 = .ok (.iaload, 1) := by decide +kernel
theorem d_2_21_61 : decode prog_2_method_21_code 61 = .ok (.invokestatic 75, 3) := by decide +kernel
theorem w_781 : (Cond.methodLink "NumberHouse$Big" (75 : Nat) ({ cls := "java/lang/Integer", name := "compare", desc := "(II)I" } : MethodName)) ∈ q_tbl := q_of 781 (by decide +kernel) (by decide +kernel)
theorem LS_Big_75 : q_LS "NumberHouse$Big" 75 y_jInt_compare prog_27_method_40_code 2 (some .int) 2 := ⟨w_783, w_24, w_781, w_782, ⟨by decide, by decide, by decide +kernel⟩⟩
theorem d_2_21_64 : decode prog_2_method_21_code 64 = .ok (.ireturn, 1) := by decide +kernel
set_option maxRecDepth 100000 in
set_option maxHeartbeats 4000000 in
theorem c_Big_compareSize_2 (l : Launch) (D : va_G) (g : Nat → ClassId) (ws : va_W) (kO0 kO1 kA2 kA3 qO0 qO1 qA2 qA3 : Nat) (hO0 : ws[kO0]? = (some (qO0, .inr (2, [.ref qA2, .int 1, .int 0])) : Option (Nat × va_E))) (hO1 : ws[kO1]? = (some (qO1, .inr (2, [.ref qA3, .int 1, .int 0])) : Option (Nat × va_E))) (hA2 : ws[kA2]? = (some (qA2, .inl (g 0, 220, .inl (upd (fun _ => 0) 0 1))) : Option (Nat × va_E))) (hA3 : ws[kA3]? = (some (qA3, .inl (g 0, 220, .inl (upd (fun _ => 0) 0 10))) : Option (Nat × va_E))) : q_mI l y_Big_compareSize prog_2_method_21_code 3 (.int) 2 0 0 D g [.ref qO0, .ref qO1] ws (fun r u => (-1) = r ∧ ws = u) := by
  intro sz
  refine q_into (by decide) (Nat.le_of_ble_eq_true rfl) ?_
  intro p e s m below meth c ls hsz C0 V hl
  have hx := C0.1
  have hb := C0.2.1
  have hl : lv_has ls 3 [(0, .ref qO0), (1, .ref qO1)] := hl
  refine lv_aload_n hx hb d_2_21_0 rfl (lv_at hl 0 rfl) ?_
  refine q_get (ci := 2) (j := 1) (v := .int 1) C0 V i_Big rfl rfl hO0 (by decide) w_85 rfl d_2_21_1 ?_
  refine lv_aload_n hx hb d_2_21_4 rfl (lv_at hl 1 rfl) ?_
  refine q_get (ci := 2) (j := 1) (v := .int 1) C0 V i_Big rfl rfl hO1 (by decide) w_85 rfl d_2_21_5 ?_
  refine lv_icmp_eq (tgt := 23) hx hb d_2_21_8 (by decide) (fun c1 => ?_) (fun c1 => absurd (by decide) c1)
  refine lv_aload_n hx hb d_2_21_23 rfl (lv_at hl 0 rfl) ?_
  refine q_get (ci := 2) (j := 1) (v := .int 1) C0 V i_Big rfl rfl hO0 (by decide) w_85 rfl d_2_21_24 ?_
  refine lv_iconst (v := 1) hx hb d_2_21_27 (by decide) ?_
  refine lv_isub hx hb d_2_21_28 ?_
  refine q_ti (v := 0) (by decide) ?_
  refine lv_istore_n (lv' := [(2, .int 0), (0, .ref qO0), (1, .ref qO1)]) hx hb d_2_21_29 rfl hl (by decide) rfl (fun ls hl => ?_)
  refine lv_iload_n hx hb d_2_21_30 rfl (lv_at hl 0 rfl) ?_
  refine lv_if_lt (tgt := 71) hx hb d_2_21_31 (by decide) (fun c2 => absurd c2 (by decide)) (fun c2 => ?_)
  refine lv_aload_n hx hb d_2_21_34 rfl (lv_at hl 1 rfl) ?_
  refine q_get (ci := 2) (j := 0) (v := .ref qA2) C0 V i_Big rfl rfl hO0 (by decide) w_84 rfl d_2_21_35 ?_
  refine lv_iload_n hx hb d_2_21_38 rfl (lv_at hl 0 rfl) ?_
  refine q_iald C0 V hA2 (by unfold vp_in; decide) d_2_21_39 ?_
  refine q_ti (v := 1) (by first | rfl | decide | simp [upd, vp_updL, sb_cl0]) ?_
  refine lv_aload_n hx hb d_2_21_40 rfl (lv_at hl 2 rfl) ?_
  refine q_get (ci := 2) (j := 0) (v := .ref qA3) C0 V i_Big rfl rfl hO1 (by decide) w_84 rfl d_2_21_41 ?_
  refine lv_iload_n hx hb d_2_21_44 rfl (lv_at hl 0 rfl) ?_
  refine q_iald C0 V hA3 (by unfold vp_in; decide) d_2_21_45 ?_
  refine q_ti (v := 10) (by first | rfl | decide | simp [upd, vp_updL, sb_cl0]) ?_
  refine lv_icmp_eq (tgt := 65) hx hb d_2_21_46 (by decide) (fun c3 => absurd c3 (by decide)) (fun c3 => ?_)
  refine lv_aload_n hx hb d_2_21_49 rfl (lv_at hl 1 rfl) ?_
  refine q_get (ci := 2) (j := 0) (v := .ref qA2) C0 V i_Big rfl rfl hO0 (by decide) w_84 rfl d_2_21_50 ?_
  refine lv_iload_n hx hb d_2_21_53 rfl (lv_at hl 0 rfl) ?_
  refine q_iald C0 V hA2 (by unfold vp_in; decide) d_2_21_54 ?_
  refine q_ti (v := 1) (by first | rfl | decide | simp [upd, vp_updL, sb_cl0]) ?_
  refine lv_aload_n hx hb d_2_21_55 rfl (lv_at hl 2 rfl) ?_
  refine q_get (ci := 2) (j := 0) (v := .ref qA3) C0 V i_Big rfl rfl hO1 (by decide) w_84 rfl d_2_21_56 ?_
  refine lv_iload_n hx hb d_2_21_59 rfl (lv_at hl 0 rfl) ?_
  refine q_iald C0 V hA3 (by unfold vp_in; decide) d_2_21_60 ?_
  refine q_ti (v := 10) (by first | rfl | decide | simp [upd, vp_updL, sb_cl0]) ?_
  refine q_goi V (q_runS (As := [.int 1, .int 10]) (rest := []) (d := 1) (mc := 0) (ms := 0) C0 V rfl LS_Big_75 (c_jInt_compare_2 l D g ws _) rfl hl.1 rfl (Nat.le_of_ble_eq_true rfl) ⟨by decide, by decide⟩ ⟨Nat.le_of_ble_eq_true rfl, Nat.le_of_ble_eq_true rfl⟩ d_2_21_61) (fun v6 u5 H locs hp4 V => ?_)
  obtain ⟨rfl, rfl⟩ := hp4
  exact q_reti C0 V (⟨rfl, rfl⟩) d_2_21_64
theorem d_8_13_9 : decode prog_8_method_13_code 9 = .ok (.aload_n 1, 1) := by decide +kernel
theorem d_8_13_10 : decode prog_8_method_13_code 10 = .ok (.invokevirtual 85, 3) := by decide +kernel
theorem d_8_13_13 : decode prog_8_method_13_code 13 = .ok (.iconst 1, 1) := by decide +kernel
theorem d_8_13_14 : decode prog_8_method_13_code 14 = .ok (.isub, 1) := by decide +kernel
theorem d_8_13_15 : decode prog_8_method_13_code 15 = .ok (.i2l, 1) := by decide +kernel
theorem d_8_13_16 : decode prog_8_method_13_code 16 = .ok (.ldc2_w 145, 3) := by decide +kernel
theorem w_764 : (Cond.constantLong "NumberHouse$Mill" (145 : Nat) (301029995 : Int64)) ∈ q_tbl := q_of 764 (by decide +kernel) (by decide +kernel)
theorem d_8_13_19 : decode prog_8_method_13_code 19 = .ok (.lmul, 1) := by decide +kernel
theorem d_8_13_20 : decode prog_8_method_13_code 20 = .ok (.ldc2_w 147, 3) := by decide +kernel
theorem w_765 : (Cond.constantLong "NumberHouse$Mill" (147 : Nat) (1000000000 : Int64)) ∈ q_tbl := q_of 765 (by decide +kernel) (by decide +kernel)
theorem d_8_13_23 : decode prog_8_method_13_code 23 = .ok (.ldiv, 1) := by decide +kernel
theorem d_8_13_24 : decode prog_8_method_13_code 24 = .ok (.l2i, 1) := by decide +kernel
theorem d_8_13_25 : decode prog_8_method_13_code 25 = .ok (.iconst 1, 1) := by decide +kernel
theorem d_8_13_26 : decode prog_8_method_13_code 26 = .ok (.iadd, 1) := by decide +kernel
theorem d_8_13_27 : decode prog_8_method_13_code 27 = .ok (.istore_n 2, 1) := by decide +kernel
theorem d_8_13_28 : decode prog_8_method_13_code 28 = .ok (.aload_n 0, 1) := by decide +kernel
theorem d_8_13_29 : decode prog_8_method_13_code 29 = .ok (.getfield 32, 3) := by decide +kernel
theorem d_8_13_32 : decode prog_8_method_13_code 32 = .ok (.lconst 1, 1) := by decide +kernel
theorem d_8_13_33 : decode prog_8_method_13_code 33 = .ok (.invokevirtual 77, 3) := by decide +kernel
theorem d_8_13_36 : decode prog_8_method_13_code 36 = .ok (.aload_n 0, 1) := by decide +kernel
theorem d_8_13_37 : decode prog_8_method_13_code 37 = .ok (.getfield 32, 3) := by decide +kernel
theorem d_8_13_40 : decode prog_8_method_13_code 40 = .ok (.iload_n 2, 1) := by decide +kernel
theorem d_8_13_41 : decode prog_8_method_13_code 41 = .ok (.invokevirtual 149, 3) := by decide +kernel
theorem w_767 : (Cond.methodLink "NumberHouse$Mill" (149 : Nat) ({ cls := "NumberHouse$Big", name := "timesTen", desc := "(I)V" } : MethodName)) ∈ q_tbl := q_of 767 (by decide +kernel) (by decide +kernel)
theorem LV_Mil_149 : q_LV "NumberHouse$Mill" 149 y_Big_timesTen prog_2_method_28_code 3 none 1 := ⟨w_770, w_4, w_767, w_768, w_769, ⟨by decide, by decide, by decide +kernel⟩⟩
theorem d_8_13_44 : decode prog_8_method_13_code 44 = .ok (.iconst 0, 1) := by decide +kernel
theorem d_8_13_45 : decode prog_8_method_13_code 45 = .ok (.istore_n 3, 1) := by decide +kernel
theorem d_8_13_46 : decode prog_8_method_13_code 46 = .ok (.iload_n 3, 1) := by decide +kernel
theorem d_8_13_47 : decode prog_8_method_13_code 47 = .ok (.iconst 3, 1) := by decide +kernel
theorem d_8_13_48 : decode prog_8_method_13_code 48 = .ok (.if_icmp .ge 33, 3) := by decide +kernel
theorem d_8_13_51 : decode prog_8_method_13_code 51 = .ok (.aload_n 1, 1) := by decide +kernel
theorem d_8_13_52 : decode prog_8_method_13_code 52 = .ok (.aload_n 0, 1) := by decide +kernel
theorem d_8_13_53 : decode prog_8_method_13_code 53 = .ok (.getfield 32, 3) := by decide +kernel
theorem d_8_13_56 : decode prog_8_method_13_code 56 = .ok (.invokevirtual 112, 3) := by decide +kernel
theorem w_777 : (Cond.methodLink "NumberHouse$Mill" (112 : Nat) ({ cls := "NumberHouse$Big", name := "compareSize", desc := "(LNumberHouse$Big;)I" } : MethodName)) ∈ q_tbl := q_of 777 (by decide +kernel) (by decide +kernel)
theorem LV_Mil_112 : q_LV "NumberHouse$Mill" 112 y_Big_compareSize prog_2_method_21_code 3 (some .int) 1 := ⟨w_780, w_4, w_777, w_778, w_779, ⟨by decide, by decide, by decide +kernel⟩⟩
theorem d_8_13_59 : decode prog_8_method_13_code 59 = .ok (.ifCond .lt 22, 3) := by decide +kernel
theorem d_8_13_81 : decode prog_8_method_13_code 81 = .ok (.iload_n 2, 1) := by decide +kernel
theorem d_8_13_82 : decode prog_8_method_13_code 82 = .ok (.ireturn, 1) := by decide +kernel
set_option maxRecDepth 100000 in
set_option maxHeartbeats 4000000 in
theorem c_Mil_countFigures_2 (l : Launch) (D : va_G) (g : Nat → ClassId) (ws : va_W) (kO0 kO1 kO6 kA11 kA16 qO0 qO1 qO2 qO3 qO4 qO5 qO6 qO7 qO8 qO9 qO10 qA11 qA16 : Nat) (hO0 : ws[kO0]? = (some (qO0, .inr (4, [.ref qO1, .ref qO2, .ref qO3, .ref qO4, .ref qO5, .ref qO6, .ref qO7, .ref qO8, .ref qO9, .ref qO10])) : Option (Nat × va_E))) (hO1 : ws[kO1]? = (some (qO1, .inr (2, [.ref qA11, .int 1, .int 0])) : Option (Nat × va_E))) (hO6 : ws[kO6]? = (some (qO6, .inr (2, [.ref qA16, .int 0, .int 0])) : Option (Nat × va_E))) (hA11 : ws[kA11]? = (some (qA11, .inl (g 0, 220, .inl (upd (fun _ => 0) 0 1))) : Option (Nat × va_E))) (hA16 : ws[kA16]? = (some (qA16, .inl (g 0, 220, .inl (fun _ => 0))) : Option (Nat × va_E))) (n_A11_A16 : kA11 ≠ kA16) (n_O1_O6 : kO1 ≠ kO6) : q_mI l y_Mil_countFigures prog_8_method_13_code 4 (.int) 4 0 0 D g [.ref qO0, .ref qO1] ws (fun r u => 1 = r ∧ q_un ws u [kO6, kA16] ∧ u[kO6]? = (some (qO6, .inr (2, [.ref qA16, .int 1, .int 0])) : Option (Nat × va_E)) ∧ u[kA16]? = (some (qA16, .inl (g 0, 220, .inl (upd (fun _ => 0) 0 10))) : Option (Nat × va_E))) := by
  intro sz
  refine q_into (by decide) (Nat.le_of_ble_eq_true rfl) ?_
  intro p e s m below meth c ls hsz C0 V hl
  have hx := C0.1
  have hb := C0.2.1
  have hl : lv_has ls 4 [(0, .ref qO0), (1, .ref qO1)] := hl
  have n_A11_O6 := q_df hA11 hO6
  have n_O0_A16 := Ne.symm (q_df hA16 hO0)
  have n_O0_O6 := q_dc hO0 hO6 (q_pd 4 2 rfl)
  have n_O1_A16 := Ne.symm (q_df hA16 hO1)
  have n_O6_A16 := Ne.symm (q_df hA16 hO6)
  have hF : q_un ws ws [kO6, kA16] := q_u0
  refine lv_aload_n hx hb d_8_13_0 rfl (lv_at hl 1 rfl) ?_
  refine q_get (ci := 2) (j := 1) (v := .int 1) C0 V i_Big rfl rfl hO1 (by decide) w_89 rfl d_8_13_1 ?_
  refine lv_if_ne (tgt := 9) hx hb d_8_13_4 (by decide) (fun c1 => ?_) (fun c1 => absurd c1 (by decide))
  refine lv_aload_n hx hb d_8_13_9 rfl (lv_at hl 1 rfl) ?_
  refine q_goi V (q_runV (As := []) (rest := []) (d := 3) (mc := 0) (ms := 0) (ci := 2) C0 V rfl LV_Mil_85 (c_Big_bitLength_3 l D g ws kO1 kA11 qO1 qA11 (fun _ => 0) hO1 hA11 _) rfl rfl hO1 rfl hl.1 rfl (Nat.le_of_ble_eq_true rfl) ⟨by decide, by decide⟩ ⟨Nat.le_of_ble_eq_true rfl, Nat.le_of_ble_eq_true rfl⟩ d_8_13_10) (fun v4 u3 H locs hp2 V => ?_)
  obtain ⟨rfl, rfl⟩ := hp2
  refine lv_iconst (v := 1) hx hb d_8_13_13 (by decide) ?_
  refine lv_isub hx hb d_8_13_14 ?_
  refine q_ti (v := 0) (by decide) ?_
  refine lv_i2l hx hb d_8_13_15 rfl ?_
  refine q_tl (v := 0) (by decide) ?_
  refine q_ldc2 C0 rfl w_764 d_8_13_16 ?_
  refine lv_lmul hx hb d_8_13_19 ?_
  refine q_tl (v := 0) (by decide) ?_
  refine q_ldc2 C0 rfl w_765 d_8_13_20 ?_
  refine lv_ldiv hx hb d_8_13_23 (by decide) ?_
  refine q_tl (v := 0) (by decide) ?_
  refine lv_l2i hx hb d_8_13_24 rfl ?_
  refine q_ti (v := 0) (by decide) ?_
  refine lv_iconst (v := 1) hx hb d_8_13_25 (by decide) ?_
  refine lv_iadd hx hb d_8_13_26 ?_
  refine q_ti (v := 1) (by decide) ?_
  refine lv_istore_n (lv' := [(2, .int 1), (0, .ref qO0), (1, .ref qO1)]) hx hb d_8_13_27 rfl hl (by decide) rfl (fun ls hl => ?_)
  refine lv_aload_n hx hb d_8_13_28 rfl (lv_at hl 1 rfl) ?_
  refine q_get (ci := 4) (j := 5) (v := .ref qO6) C0 V i_Mil rfl rfl hO0 (by decide) w_124 rfl d_8_13_29 ?_
  refine lv_lconst (v := 1) hx hb d_8_13_32 (by decide) ?_
  refine q_gov V (q_runV (As := [.long 1]) (rest := []) (d := 2) (mc := 0) (ms := 0) (ci := 2) C0 V rfl LV_Mil_77 (c_Big_setLong_3 l D g ws kO6 kA16 qO6 qA16 hO6 hA16 _) rfl rfl hO6 rfl hl.1 rfl (Nat.le_of_ble_eq_true rfl) ⟨by decide, by decide⟩ ⟨Nat.le_of_ble_eq_true rfl, Nat.le_of_ble_eq_true rfl⟩ d_8_13_33) (fun u7 H locs hp6 V => ?_)
  obtain ⟨hg8, hO6, hA16⟩ := hp6
  replace hF := q_uc hF hg8 (q_sc (.head _) (q_sc (.tail _ (.head _)) (fun _ h => absurd h List.not_mem_nil)))
  refine lv_aload_n hx hb d_8_13_36 rfl (lv_at hl 1 rfl) ?_
  replace hO0 := (hg8 _ (q_nc n_O0_O6 (q_nc n_O0_A16 List.not_mem_nil))).trans (hO0)
  refine q_get (ci := 4) (j := 5) (v := .ref qO6) C0 V i_Mil rfl rfl hO0 (by decide) w_124 rfl d_8_13_37 ?_
  refine lv_iload_n hx hb d_8_13_40 rfl (lv_at hl 0 rfl) ?_
  refine q_gov V (q_runV (As := [.int 1]) (rest := []) (d := 2) (mc := 0) (ms := 0) (ci := 2) C0 V rfl LV_Mil_149 (c_Big_timesTen_2 l D g u7 kO6 kA16 qO6 qA16 hO6 hA16 _) rfl rfl hO6 rfl hl.1 rfl (Nat.le_of_ble_eq_true rfl) ⟨by decide, by decide⟩ ⟨Nat.le_of_ble_eq_true rfl, Nat.le_of_ble_eq_true rfl⟩ d_8_13_41) (fun u10 H locs hp9 V => ?_)
  obtain ⟨hg11, hA16⟩ := hp9
  replace hF := q_uc hF hg11 (q_sc (.tail _ (.head _)) (fun _ h => absurd h List.not_mem_nil))
  refine lv_iconst (v := 0) hx hb d_8_13_44 (by decide) ?_
  refine lv_istore_n (lv' := [(3, .int 0), (2, .int 1), (0, .ref qO0), (1, .ref qO1)]) hx hb d_8_13_45 rfl hl (by decide) rfl (fun ls hl => ?_)
  refine lv_iload_n hx hb d_8_13_46 rfl (lv_at hl 0 rfl) ?_
  refine lv_iconst (v := 3) hx hb d_8_13_47 (by decide) ?_
  refine lv_icmp_ge (tgt := 81) hx hb d_8_13_48 (by decide) (fun c12 => absurd c12 (by decide)) (fun c12 => ?_)
  refine lv_aload_n hx hb d_8_13_51 rfl (lv_at hl 3 rfl) ?_
  refine lv_aload_n hx hb d_8_13_52 rfl (lv_at hl 2 rfl) ?_
  replace hO0 := (hg11 _ (q_nc n_O0_A16 List.not_mem_nil)).trans (hO0)
  refine q_get (ci := 4) (j := 5) (v := .ref qO6) C0 V i_Mil rfl rfl hO0 (by decide) w_124 rfl d_8_13_53 ?_
  replace hO1 := (hg11 _ (q_nc n_O1_A16 List.not_mem_nil)).trans ((hg8 _ (q_nc n_O1_O6 (q_nc n_O1_A16 List.not_mem_nil))).trans (hO1))
  replace hO6 := (hg11 _ (q_nc n_O6_A16 List.not_mem_nil)).trans (hO6)
  replace hA11 := (hg11 _ (q_nc n_A11_A16 List.not_mem_nil)).trans ((hg8 _ (q_nc n_A11_O6 (q_nc n_A11_A16 List.not_mem_nil))).trans (hA11))
  refine q_goi V (q_runV (As := [.ref qO6]) (rest := []) (d := 2) (mc := 0) (ms := 0) (ci := 2) C0 V rfl LV_Mil_112 (c_Big_compareSize_2 l D g u10 kO1 kO6 kA11 kA16 qO1 qO6 qA11 qA16 hO1 hO6 hA11 hA16 _) rfl rfl hO1 rfl hl.1 rfl (Nat.le_of_ble_eq_true rfl) ⟨by decide, by decide⟩ ⟨Nat.le_of_ble_eq_true rfl, Nat.le_of_ble_eq_true rfl⟩ d_8_13_56) (fun v15 u14 H locs hp13 V => ?_)
  obtain ⟨rfl, rfl⟩ := hp13
  refine lv_if_lt (tgt := 81) hx hb d_8_13_59 (by decide) (fun c17 => ?_) (fun c17 => absurd (by decide) c17)
  refine lv_iload_n hx hb d_8_13_81 rfl (lv_at hl 1 rfl) ?_
  exact q_reti C0 V (⟨rfl, hF, hO6, hA16⟩) d_8_13_82
set_option maxRecDepth 100000 in
set_option maxHeartbeats 4000000 in
theorem c_Big_copy_11 (l : Launch) (D : va_G) (g : Nat → ClassId) (ws : va_W) (kO0 kO1 kA2 kA3 qO0 qO1 qA2 qA3 : Nat) (hO0 : ws[kO0]? = (some (qO0, .inr (2, [.ref qA2, .int 0, .int 0])) : Option (Nat × va_E))) (hO1 : ws[kO1]? = (some (qO1, .inr (2, [.ref qA3, .int 1, .int 0])) : Option (Nat × va_E))) (hA2 : ws[kA2]? = (some (qA2, .inl (g 0, 108, .inl (fun _ => 0))) : Option (Nat × va_E))) (hA3 : ws[kA3]? = (some (qA3, .inl (g 0, 220, .inl (upd (fun _ => 0) 0 1))) : Option (Nat × va_E))) (n_A3_A2 : kA3 ≠ kA2) (n_O1_O0 : kO1 ≠ kO0) : q_mV l y_Big_copy prog_2_method_4_code 2 2 0 0 D g [.ref qO0, .ref qO1] ws (fun u => q_un ws u [kO0, kA2] ∧ u[kO0]? = (some (qO0, .inr (2, [.ref qA2, .int 1, .int 0])) : Option (Nat × va_E)) ∧ u[kA2]? = (some (qA2, .inl (g 0, 108, .inl (upd (fun _ => 0) 0 1))) : Option (Nat × va_E))) := by
  intro sz
  refine q_into (by decide) (Nat.le_of_ble_eq_true rfl) ?_
  intro p e s m below meth c ls hsz C0 V hl
  have hx := C0.1
  have hb := C0.2.1
  have hl : lv_has ls 2 [(0, .ref qO0), (1, .ref qO1)] := hl
  have n_A2_O0 := q_df hA2 hO0
  have n_A3_O0 := q_df hA3 hO0
  have n_O0_A2 := Ne.symm (q_df hA2 hO0)
  have n_O1_A2 := Ne.symm (q_df hA2 hO1)
  have hF : q_un ws ws [kO0, kA2] := q_u0
  refine lv_aload_n hx hb d_2_4_0 rfl (lv_at hl 0 rfl) ?_
  refine lv_aload_n hx hb d_2_4_1 rfl (lv_at hl 1 rfl) ?_
  refine q_get (ci := 2) (j := 1) (v := .int 1) C0 V i_Big rfl rfl hO1 (by decide) w_85 rfl d_2_4_2 ?_
  refine lv_aload_n hx hb d_2_4_5 rfl (lv_at hl 0 rfl) ?_
  refine q_get (ci := 2) (j := 0) (v := .ref qA2) C0 V i_Big rfl rfl hO0 (by decide) w_84 rfl d_2_4_6 ?_
  refine q_alen (t := 0) (v := 108) C0 V hA2 rfl (by first | rfl | decide) d_2_4_9 ?_
  refine q_min C0 hl.1 rfl w_773 w_774 w_7 w_775 ⟨Nat.le_of_ble_eq_true rfl, Nat.le_of_ble_eq_true rfl⟩ ⟨Nat.le_of_ble_eq_true rfl, Nat.le_of_ble_eq_true rfl⟩ d_2_4_10 ?_
  refine q_ti (v := 1) (by decide) ?_
  refine q_put (ci := 2) (j := 1) (v := .int 1) (ty := .int) C0 V i_Big o_Big n_Big rfl rfl hO0 (by decide) w_85 rfl rfl rfl rfl (Nat.le_of_ble_eq_true rfl) d_2_4_13 (fun H locs w1 hu2 hO0 V => ?_)
  replace hO0 : w1[kO0]? = (some (qO0, .inr (2, [.ref qA2, .int 1, .int 0])) : Option (Nat × va_E)) := hO0
  replace hF := q_us hF hu2 (.head _)
  refine lv_aload_n hx hb d_2_4_16 rfl (lv_at hl 1 rfl) ?_
  replace hO1 := (hu2 _ n_O1_O0).trans (hO1)
  refine q_get (ci := 2) (j := 0) (v := .ref qA3) C0 V i_Big rfl rfl hO1 (by decide) w_84 rfl d_2_4_17 ?_
  refine lv_iconst (v := 0) hx hb d_2_4_20 (by decide) ?_
  refine lv_aload_n hx hb d_2_4_21 rfl (lv_at hl 0 rfl) ?_
  refine q_get (ci := 2) (j := 0) (v := .ref qA2) C0 V i_Big rfl rfl hO0 (by decide) w_84 rfl d_2_4_22 ?_
  refine lv_iconst (v := 0) hx hb d_2_4_25 (by decide) ?_
  refine lv_aload_n hx hb d_2_4_26 rfl (lv_at hl 0 rfl) ?_
  refine q_get (ci := 2) (j := 1) (v := .int 1) C0 V i_Big rfl rfl hO0 (by decide) w_85 rfl d_2_4_27 ?_
  replace hA3 := (hu2 _ n_A3_O0).trans (hA3)
  replace hA2 := (hu2 _ n_A2_O0).trans (hA2)
  refine q_copy C0 V hl.1 rfl w_791 w_793 w_792 w_29 hA3 hA2 (by decide) (by decide) (by decide) (by decide) (by decide) ⟨Nat.le_of_ble_eq_true rfl, Nat.le_of_ble_eq_true rfl⟩ d_2_4_30 (fun H locs w3 hu4 hA2 V => ?_)
  replace hA2 := q_re (y := (qA2, .inl (g 0, 108, .inl (upd (fun _ => 0) 0 1)))) hA2 (q_eI (q_cpy1.trans (by funext k; simp only [upd]; (repeat' split) <;> first | rfl | omega | simp_all)))
  replace hA2 : w3[kA2]? = (some (qA2, .inl (g 0, 108, .inl (upd (fun _ => 0) 0 1))) : Option (Nat × va_E)) := hA2
  replace hF := q_us hF hu4 (.tail _ (.head _))
  refine lv_aload_n hx hb d_2_4_33 rfl (lv_at hl 0 rfl) ?_
  refine lv_aload_n hx hb d_2_4_34 rfl (lv_at hl 1 rfl) ?_
  replace hO1 := (hu4 _ n_O1_A2).trans (hO1)
  refine q_get (ci := 2) (j := 2) (v := .int 0) C0 V i_Big rfl rfl hO1 (by decide) w_94 rfl d_2_4_35 ?_
  replace hO0 := (hu4 _ n_O0_A2).trans (hO0)
  refine q_put (ci := 2) (j := 2) (v := .int 0) (ty := .boolean) C0 V i_Big o_Big n_Big rfl rfl hO0 (by decide) w_94 rfl rfl rfl rfl (Nat.le_of_ble_eq_true rfl) d_2_4_38 (fun H locs w5 hu6 hO0 V => ?_)
  replace hO0 : w5[kO0]? = (some (qO0, .inr (2, [.ref qA2, .int 1, .int 0])) : Option (Nat × va_E)) := hO0
  replace hF := q_us hF hu6 (.head _)
  replace hA2 := (hu6 _ n_A2_O0).trans (hA2)
  exact q_retv C0 V (⟨hF, hO0, hA2⟩) d_2_4_41
set_option maxRecDepth 100000 in
set_option maxHeartbeats 4000000 in
theorem c_DW_settle_3 (l : Launch) (D : va_G) (g : Nat → ClassId) (ws : va_W) (kO0 kO1 kO2 kO4 kA5 kO6 kO12 kA17 kA23 qO0 qO1 qO2 qO3 qO4 qA5 qO6 qO8 qO9 qO10 qO11 qO12 qO13 qO14 qO15 qO16 qA17 qA23 : Nat) (hO0 : ws[kO0]? = (some (qO0, .inr (5, [.ref qO3, .long 0, .ref qO4, .int 0])) : Option (Nat × va_E))) (hO1 : ws[kO1]? = (some (qO1, .inr (2, [.ref qA5, .int 1, .int 0])) : Option (Nat × va_E))) (hO2 : ws[kO2]? = (some (qO2, .inr (3, [.ref qO6, .int 0, .int 1])) : Option (Nat × va_E))) (hO4 : ws[kO4]? = (some (qO4, .inr (4, [.ref qO1, .ref qO8, .ref qO9, .ref qO10, .ref qO11, .ref qO12, .ref qO13, .ref qO14, .ref qO15, .ref qO16])) : Option (Nat × va_E))) (hA5 : ws[kA5]? = (some (qA5, .inl (g 0, 220, .inl (upd (fun _ => 0) 0 1))) : Option (Nat × va_E))) (hO6 : ws[kO6]? = (some (qO6, .inr (2, [.ref qA17, .int 0, .int 0])) : Option (Nat × va_E))) (hO12 : ws[kO12]? = (some (qO12, .inr (2, [.ref qA23, .int 0, .int 0])) : Option (Nat × va_E))) (hA17 : ws[kA17]? = (some (qA17, .inl (g 0, 108, .inl (fun _ => 0))) : Option (Nat × va_E))) (hA23 : ws[kA23]? = (some (qA23, .inl (g 0, 220, .inl (fun _ => 0))) : Option (Nat × va_E))) (n_A17_A23 : kA17 ≠ kA23) (n_A5_A17 : kA5 ≠ kA17) (n_A5_A23 : kA5 ≠ kA23) (n_O1_O12 : kO1 ≠ kO12) (n_O1_O6 : kO1 ≠ kO6) (n_O12_O6 : kO12 ≠ kO6) : q_mI l y_DW_settle prog_4_method_2_code 6 (.boolean) 5 0 0 D g [.ref qO0, .ref qO1, .long 0, .ref qO2] ws (fun r u => 1 = r ∧ q_un ws u [kO2, kO6, kO12, kA17, kA23] ∧ u[kO2]? = (some (qO2, .inr (3, [.ref qO6, .int 0, .int 1])) : Option (Nat × va_E)) ∧ u[kO6]? = (some (qO6, .inr (2, [.ref qA17, .int 1, .int 0])) : Option (Nat × va_E)) ∧ u[kO12]? = (some (qO12, .inr (2, [.ref qA23, .int 1, .int 0])) : Option (Nat × va_E)) ∧ u[kA17]? = (some (qA17, .inl (g 0, 108, .inl (upd (fun _ => 0) 0 1))) : Option (Nat × va_E)) ∧ u[kA23]? = (some (qA23, .inl (g 0, 220, .inl (upd (fun _ => 0) 0 10))) : Option (Nat × va_E))) := by
  intro sz
  refine q_into (by decide) (Nat.le_of_ble_eq_true rfl) ?_
  intro p e s m below meth c ls hsz C0 V hl
  have hx := C0.1
  have hb := C0.2.1
  have hl : lv_has ls 6 [(0, .ref qO0), (1, .ref qO1), (2, .long 0), (4, .ref qO2)] := hl
  have n_A17_O12 := q_df hA17 hO12
  have n_A17_O2 := q_df hA17 hO2
  have n_A23_A17 := Ne.symm n_A17_A23
  have n_A23_O2 := q_df hA23 hO2
  have n_A23_O6 := q_df hA23 hO6
  have n_A5_O12 := q_df hA5 hO12
  have n_A5_O2 := q_df hA5 hO2
  have n_A5_O6 := q_df hA5 hO6
  have n_O0_A17 := Ne.symm (q_df hA17 hO0)
  have n_O0_A23 := Ne.symm (q_df hA23 hO0)
  have n_O0_O12 := q_dc hO0 hO12 (q_pd 5 2 rfl)
  have n_O0_O2 := q_dc hO0 hO2 (q_pd 5 3 rfl)
  have n_O0_O6 := q_dc hO0 hO6 (q_pd 5 2 rfl)
  have n_O1_A17 := Ne.symm (q_df hA17 hO1)
  have n_O1_A23 := Ne.symm (q_df hA23 hO1)
  have n_O1_O2 := q_dc hO1 hO2 (q_pd 2 3 rfl)
  have n_O12_A17 := Ne.symm (q_df hA17 hO12)
  have n_O12_O2 := q_dc hO12 hO2 (q_pd 2 3 rfl)
  have n_O2_A17 := Ne.symm (q_df hA17 hO2)
  have n_O2_A23 := Ne.symm (q_df hA23 hO2)
  have n_O2_O12 := q_dc hO2 hO12 (q_pd 3 2 rfl)
  have n_O2_O6 := q_dc hO2 hO6 (q_pd 3 2 rfl)
  have n_O4_A17 := Ne.symm (q_df hA17 hO4)
  have n_O4_A23 := Ne.symm (q_df hA23 hO4)
  have n_O4_O12 := q_dc hO4 hO12 (q_pd 4 2 rfl)
  have n_O4_O2 := q_dc hO4 hO2 (q_pd 4 3 rfl)
  have n_O4_O6 := q_dc hO4 hO6 (q_pd 4 2 rfl)
  have n_O6_A23 := Ne.symm (q_df hA23 hO6)
  have n_O6_O12 := Ne.symm n_O12_O6
  have n_O6_O2 := q_dc hO6 hO2 (q_pd 2 3 rfl)
  have hF : q_un ws ws [kO2, kO6, kO12, kA17, kA23] := q_u0
  refine lv_aload_n hx hb d_4_2_0 rfl (lv_at hl 0 rfl) ?_
  refine q_get (ci := 5) (j := 2) (v := .ref qO4) C0 V i_DW rfl rfl hO0 (by decide) w_214 rfl d_4_2_1 ?_
  refine lv_aload_n hx hb d_4_2_4 rfl (lv_at hl 1 rfl) ?_
  refine q_goi V (q_runV (As := [.ref qO1]) (rest := []) (d := 4) (mc := 0) (ms := 0) (ci := 4) C0 V rfl LV_DW_34 (c_Mil_countFigures_2 l D g ws kO4 kO1 kO12 kA5 kA23 qO4 qO1 qO8 qO9 qO10 qO11 qO12 qO13 qO14 qO15 qO16 qA5 qA23 hO4 hO1 hO12 hA5 hA23 n_A5_A23 n_O1_O12 _) rfl rfl hO4 rfl hl.1 rfl (Nat.le_of_ble_eq_true rfl) ⟨by decide, by decide⟩ ⟨Nat.le_of_ble_eq_true rfl, Nat.le_of_ble_eq_true rfl⟩ d_4_2_5) (fun v3 u2 H locs hp1 V => ?_)
  obtain ⟨rfl, hg4, hO12, hA23⟩ := hp1
  replace hF := q_uc hF hg4 (q_sc (.tail _ (.tail _ (.head _))) (q_sc (List.mem_of_getElem? (i := 4) rfl) (fun _ h => absurd h List.not_mem_nil)))
  refine lv_istore (lv' := [(5, .int 1), (0, .ref qO0), (1, .ref qO1), (2, .long 0), (4, .ref qO2)]) hx hb d_4_2_8 hl (by decide) rfl (fun ls hl => ?_)
  refine lv_iload hx hb d_4_2_10 (lv_at hl 0 rfl) ?_
  refine lv_sipush (v := 1000) hx hb d_4_2_12 (by decide) ?_
  refine lv_icmp_gt (tgt := 34) hx hb d_4_2_15 (by decide) (fun c5 => absurd c5 (by decide)) (fun c5 => ?_)
  refine lv_lload_n hx hb d_4_2_18 rfl (lv_at hl 3 rfl) ?_
  refine q_ldc2 C0 rfl w_1089 d_4_2_19 ?_
  refine W.lcmp hx hb d_4_2_22 ?_
  refine q_ti (v := 1) (by decide) ?_
  refine lv_if_lt (tgt := 34) hx hb d_4_2_23 (by decide) (fun c6 => absurd c6 (by decide)) (fun c6 => ?_)
  refine lv_lload_n hx hb d_4_2_26 rfl (lv_at hl 3 rfl) ?_
  refine q_ldc2 C0 rfl w_1090 d_4_2_27 ?_
  refine W.lcmp hx hb d_4_2_30 ?_
  refine q_ti (v := (-1)) (by decide) ?_
  refine lv_if_le (tgt := 36) hx hb d_4_2_31 (by decide) (fun c7 => ?_) (fun c7 => absurd (by decide) c7)
  refine lv_aload hx hb d_4_2_36 (lv_at hl 4 rfl) ?_
  replace hO2 := (hg4 _ (q_nc n_O2_O12 (q_nc n_O2_A23 List.not_mem_nil))).trans (hO2)
  refine q_get (ci := 3) (j := 0) (v := .ref qO6) C0 V i_Dec rfl rfl hO2 (by decide) w_171 rfl d_4_2_38 ?_
  refine lv_aload_n hx hb d_4_2_41 rfl (lv_at hl 2 rfl) ?_
  replace hO6 := (hg4 _ (q_nc n_O6_O12 (q_nc n_O6_A23 List.not_mem_nil))).trans (hO6)
  replace hO1 := (hg4 _ (q_nc n_O1_O12 (q_nc n_O1_A23 List.not_mem_nil))).trans (hO1)
  replace hA17 := (hg4 _ (q_nc n_A17_O12 (q_nc n_A17_A23 List.not_mem_nil))).trans (hA17)
  replace hA5 := (hg4 _ (q_nc n_A5_O12 (q_nc n_A5_A23 List.not_mem_nil))).trans (hA5)
  refine q_gov V (q_runV (As := [.ref qO1]) (rest := []) (d := 2) (mc := 0) (ms := 0) (ci := 2) C0 V rfl LV_DW_44 (c_Big_copy_11 l D g u2 kO6 kO1 kA17 kA5 qO6 qO1 qA17 qA5 hO6 hO1 hA17 hA5 n_A5_A17 n_O1_O6 _) rfl rfl hO6 rfl hl.1 rfl (Nat.le_of_ble_eq_true rfl) ⟨by decide, by decide⟩ ⟨Nat.le_of_ble_eq_true rfl, Nat.le_of_ble_eq_true rfl⟩ d_4_2_42) (fun u9 H locs hp8 V => ?_)
  obtain ⟨hg10, hO6, hA17⟩ := hp8
  replace hF := q_uc hF hg10 (q_sc (.tail _ (.head _)) (q_sc (List.mem_of_getElem? (i := 3) rfl) (fun _ h => absurd h List.not_mem_nil)))
  refine lv_aload hx hb d_4_2_45 (lv_at hl 4 rfl) ?_
  refine lv_lload_n hx hb d_4_2_47 rfl (lv_at hl 3 rfl) ?_
  refine lv_l2i hx hb d_4_2_48 rfl ?_
  refine q_ti (v := 0) (by decide) ?_
  replace hO2 := (hg10 _ (q_nc n_O2_O6 (q_nc n_O2_A17 List.not_mem_nil))).trans (hO2)
  refine q_put (ci := 3) (j := 1) (v := .int 0) (ty := .int) C0 V i_Dec o_Dec n_Dec rfl rfl hO2 (by decide) w_176 rfl rfl rfl rfl (Nat.le_of_ble_eq_true rfl) d_4_2_49 (fun H locs w11 hu12 hO2 V => ?_)
  replace hO2 : w11[kO2]? = (some (qO2, .inr (3, [.ref qO6, .int 0, .int 1])) : Option (Nat × va_E)) := hO2
  replace hF := q_us hF hu12 (.head _)
  refine lv_aload hx hb d_4_2_52 (lv_at hl 4 rfl) ?_
  refine lv_iload hx hb d_4_2_54 (lv_at hl 0 rfl) ?_
  refine q_put (ci := 3) (j := 2) (v := .int 1) (ty := .int) C0 V i_Dec o_Dec n_Dec rfl rfl hO2 (by decide) w_180 rfl rfl rfl rfl (Nat.le_of_ble_eq_true rfl) d_4_2_56 (fun H locs w13 hu14 hO2 V => ?_)
  replace hO2 : w13[kO2]? = (some (qO2, .inr (3, [.ref qO6, .int 0, .int 1])) : Option (Nat × va_E)) := hO2
  replace hF := q_us hF hu14 (.head _)
  refine lv_iconst (v := 1) hx hb d_4_2_59 (by decide) ?_
  replace hO6 := (hu14 _ n_O6_O2).trans ((hu12 _ n_O6_O2).trans (hO6))
  replace hO12 := (hu14 _ n_O12_O2).trans ((hu12 _ n_O12_O2).trans ((hg10 _ (q_nc n_O12_O6 (q_nc n_O12_A17 List.not_mem_nil))).trans (hO12)))
  replace hA17 := (hu14 _ n_A17_O2).trans ((hu12 _ n_A17_O2).trans (hA17))
  replace hA23 := (hu14 _ n_A23_O2).trans ((hu12 _ n_A23_O2).trans ((hg10 _ (q_nc n_A23_O6 (q_nc n_A23_A17 List.not_mem_nil))).trans (hA23)))
  exact q_retz C0 V (rfl) (⟨rfl, hF, hO2, hO6, hO12, hA17, hA23⟩) d_4_2_60
set_option maxRecDepth 100000 in
set_option maxHeartbeats 4000000 in
theorem c_NH_keepDecimal_3 (l : Launch) (D : va_G) (g : Nat → ClassId) (ws : va_W) (hlt : l.stackTraces = false) ( qO0 qO1 qO2 qA3 qA4 qA5 qA6 qO7 qO8 qO9 qO10 qO11 qO12 qO13 qO14 qO17 qO18 qO19 qO20 qO21 qO22 qO23 qO24 qO25 qO26 qO27 qA35 qA40 : Nat) (x1 : Int32) (f3 : Nat → Option Nat) (hO0 : ws[0]? = (some (qO0, .inr (0, [.ref qO1, .ref qO2, .ref qA3, .ref qA4, .ref qA5, .ref qA6, .ref qO7, .ref qO8, .ref qO9, .ref qO10, .ref qO11, .ref qO12, .ref qO13, .ref qO14])) : Option (Nat × va_E))) (hA4 : ws[6]? = (some (qA4, .inl (g 5, 10, .inr (.inr (.inr (.inr f3))))) : Option (Nat × va_E))) (hO7 : ws[9]? = (some (qO7, .inr (4, [.ref qO17, .ref qO18, .ref qO19, .ref qO20, .ref qO21, .ref qO22, .ref qO23, .ref qO24, .ref qO25, .ref qO26])) : Option (Nat × va_E))) (hO8 : ws[30]? = (some (qO8, .inr (5, [.ref qO27, .long 0, .ref qO7, .int 0])) : Option (Nat × va_E))) (hO17 : ws[10]? = (some (qO17, .inr (2, [.ref qA35, .int 1, .int 0])) : Option (Nat × va_E))) (hO22 : ws[20]? = (some (qO22, .inr (2, [.ref qA40, .int 0, .int 0])) : Option (Nat × va_E))) (hA35 : ws[11]? = (some (qA35, .inl (g 0, 220, .inl (upd (fun _ => 0) 0 1))) : Option (Nat × va_E))) (hA40 : ws[21]? = (some (qA40, .inl (g 0, 220, .inl (fun _ => 0))) : Option (Nat × va_E))) (x1lo : 0 ≤ x1) (x1hi : x1 ≤ 9) (qW qWL qD qDN qDL : Nat → Nat) (hfD : ∀ i, i < 10 → f3 i = some (qD i)) (FD : ∀ i, i < 10 → ws[68 + 5 * i]? = (some (qD i, .inr (3, [.ref (qDN i), .int 0, .int 1])) : Option (Nat × va_E))) (FDN : ∀ i, i < 10 → ws[69 + 5 * i]? = (some (qDN i, .inr (2, [.ref (qDL i), .int 0, .int 0])) : Option (Nat × va_E))) (FDL : ∀ i, i < 10 → ws[70 + 5 * i]? = (some (qDL i, .inl (g 0, 108, .inl (fun _ => 0))) : Option (Nat × va_E))) : q_mV l y_NH_keepDecimal prog_1_method_29_code 2 8 1 6 D g [.ref qO0, .int x1] ws (fun u => q_ge 116 ws u) := by
  intro sz
  refine q_into (by decide) (Nat.le_of_ble_eq_true rfl) ?_
  intro p e s m below meth c ls hsz C0 V hl
  have hx := C0.1
  have hb := C0.2.1
  have hl : lv_has ls 2 [(0, .ref qO0), (1, .int x1)] := hl
  have hF : q_ge 116 ws ws := q_g0
  refine lv_aload_n hx hb d_1_29_0 rfl (lv_at hl 0 rfl) ?_
  refine q_get (ci := 0) (j := 7) (v := .ref qO8) C0 V i_NH rfl rfl hO0 (by decide) w_431 rfl d_1_29_1 ?_
  refine lv_aload_n hx hb d_1_29_4 rfl (lv_at hl 0 rfl) ?_
  refine q_get (ci := 0) (j := 6) (v := .ref qO7) C0 V i_NH rfl rfl hO0 (by decide) w_430 rfl d_1_29_5 ?_
  refine q_get (ci := 4) (j := 0) (v := .ref qO17) C0 V i_Mil rfl rfl hO7 (by decide) w_112 rfl d_1_29_8 ?_
  refine lv_aload_n hx hb d_1_29_11 rfl (lv_at hl 0 rfl) ?_
  refine q_get (ci := 0) (j := 7) (v := .ref qO8) C0 V i_NH rfl rfl hO0 (by decide) w_431 rfl d_1_29_12 ?_
  refine q_get (ci := 5) (j := 1) (v := .long 0) C0 V i_DW rfl rfl hO8 (by decide) w_213 rfl d_1_29_15 ?_
  refine lv_aload_n hx hb d_1_29_18 rfl (lv_at hl 0 rfl) ?_
  refine q_get (ci := 0) (j := 3) (v := .ref qA4) C0 V i_NH rfl rfl hO0 (by decide) w_427 rfl d_1_29_19 ?_
  refine lv_iload_n hx hb d_1_29_22 rfl (lv_at hl 1 rfl) ?_
  have r1 : x1.toNatClampNeg < 10 := (q_r10 (x := x1.toInt) rfl (by have t1 : 0 ≤ x1.toInt := q_leI x1lo; have t2 : x1.toInt ≤ 9 := q_leI x1hi; omega) (by have t1 : 0 ≤ x1.toInt := q_leI x1lo; have t2 : x1.toInt ≤ 9 := q_leI x1hi; omega))
  have hr2 : ws[68 + 5 * x1.toNatClampNeg]? = (some (qD x1.toNatClampNeg, .inr (3, [.ref (qDN x1.toNatClampNeg), .int 0, .int 1])) : Option (Nat × va_E)) := FD _ r1
  have hr3 : ws[69 + 5 * x1.toNatClampNeg]? = (some (qDN x1.toNatClampNeg, .inr (2, [.ref (qDL x1.toNatClampNeg), .int 0, .int 0])) : Option (Nat × va_E)) := FDN _ r1
  have hr4 : ws[70 + 5 * x1.toNatClampNeg]? = (some (qDL x1.toNatClampNeg, .inl (g 0, 108, .inl (fun _ => 0))) : Option (Nat × va_E)) := FDL _ r1
  have hh : x1.toNatClampNeg < 10 := (q_r10 (x := x1.toInt) rfl (by have t1 : 0 ≤ x1.toInt := q_leI x1lo; have t2 : x1.toInt ≤ 9 := q_leI x1hi; omega) (by have t1 : 0 ≤ x1.toInt := q_leI x1lo; have t2 : x1.toInt ≤ 9 := q_leI x1hi; omega))
  refine q_aald (t := 5) (q := qD x1.toNatClampNeg) C0 V hA4 rfl (q_ix (x := x1.toInt) rfl (by have t1 : 0 ≤ x1.toInt := q_leI x1lo; have t2 : x1.toInt ≤ 9 := q_leI x1hi; omega) (by have t1 : 0 ≤ x1.toInt := q_leI x1lo; have t2 : x1.toInt ≤ 9 := q_leI x1hi; omega)) (hfD _ hh) d_1_29_23 ?_
  refine q_goi V (q_runV (As := [.ref qO17, .long 0, .ref (qD x1.toNatClampNeg)]) (rest := []) (d := 5) (mc := 0) (ms := 0) (ci := 5) C0 V rfl LV_NH_153 (c_DW_settle_3 l D g ws 30 10 (68 + 5 * x1.toNatClampNeg) 9 11 (69 + 5 * x1.toNatClampNeg) 20 (70 + 5 * x1.toNatClampNeg) 21 qO8 qO17 (qD x1.toNatClampNeg) qO27 qO7 qA35 (qDN x1.toNatClampNeg) qO18 qO19 qO20 qO21 qO22 qO23 qO24 qO25 qO26 (qDL x1.toNatClampNeg) qA40 hO8 hO17 hr2 hO7 hA35 hr3 hO22 hr4 hA40 (q_f5 rfl) (Ne.symm (q_f5 rfl)) (q_pd 11 21 rfl) (q_pd 10 20 rfl) (Ne.symm (q_f5 rfl)) (Ne.symm (q_f5 rfl)) _) rfl rfl hO8 rfl hl.1 rfl (Nat.le_of_ble_eq_true rfl) ⟨by decide, by decide⟩ ⟨Nat.le_of_ble_eq_true rfl, Nat.le_of_ble_eq_true rfl⟩ d_1_29_24) (fun v7 u6 H locs hp5 V => ?_)
  obtain ⟨rfl, hg8, hr2, hr3, hO22, hr4, hA40⟩ := hp5
  replace hF := q_gc hF hg8 (q_al (by omega) (q_al (by omega) (q_al (Nat.le_of_ble_eq_true rfl) (q_al (by omega) (q_al (Nat.le_of_ble_eq_true rfl) (fun _ h => absurd h List.not_mem_nil))))))
  refine q_goxv V (q_runSX (As := [.int 1]) (rest := []) (d := 7) (mc := 1) (ms := 6) C0 V rfl LS_NH_138 (c_NH_canHave l D g u6 hlt 1 _) rfl hl.1 rfl (Nat.le_of_ble_eq_true rfl) ⟨by decide, by decide⟩ ⟨Nat.le_of_ble_eq_true rfl, Nat.le_of_ble_eq_true rfl⟩ d_1_29_27) (fun qx Ex ce u10 H locs hp9 V hce hcv hcl => ?_) (fun u10 H locs hp9 V => ?_)
  ·
    obtain ⟨c11, rfl, rfl⟩ := hp9
    exact absurd c11 (by decide)
  ·
    obtain ⟨c13, rfl⟩ := hp9
    exact q_retv C0 V (hF) d_1_29_30
theorem d_1_12_0 : decode prog_1_method_12_code 0 = .ok (.iload_n 1, 1) := by decide +kernel
theorem d_1_12_1 : decode prog_1_method_12_code 1 = .ok (.ifCond .lt 27, 3) := by decide +kernel
theorem d_1_12_28 : decode prog_1_method_12_code 28 = .ok (.iconst 0, 1) := by decide +kernel
theorem d_1_12_29 : decode prog_1_method_12_code 29 = .ok (.invokestatic 104, 3) := by decide +kernel
theorem d_1_12_4 : decode prog_1_method_12_code 4 = .ok (.iload_n 1, 1) := by decide +kernel
theorem d_1_12_5 : decode prog_1_method_12_code 5 = .ok (.iconst 2, 1) := by decide +kernel
theorem d_1_12_6 : decode prog_1_method_12_code 6 = .ok (.if_icmp .gt 22, 3) := by decide +kernel
theorem d_1_12_9 : decode prog_1_method_12_code 9 = .ok (.iload_n 2, 1) := by decide +kernel
theorem d_1_12_10 : decode prog_1_method_12_code 10 = .ok (.invokestatic 212, 3) := by decide +kernel
theorem d_1_12_13 : decode prog_1_method_12_code 13 = .ok (.ifCond .eq 15, 3) := by decide +kernel
theorem d_1_12_16 : decode prog_1_method_12_code 16 = .ok (.iload 4, 2) := by decide +kernel
theorem d_1_12_18 : decode prog_1_method_12_code 18 = .ok (.invokestatic 212, 3) := by decide +kernel
theorem d_1_12_21 : decode prog_1_method_12_code 21 = .ok (.ifCond .eq 7, 3) := by decide +kernel
theorem d_1_12_24 : decode prog_1_method_12_code 24 = .ok (.iconst 1, 1) := by decide +kernel
theorem d_1_12_25 : decode prog_1_method_12_code 25 = .ok (.goto 4, 3) := by decide +kernel
theorem d_1_12_32 : decode prog_1_method_12_code 32 = .ok (.iload_n 1, 1) := by decide +kernel
theorem d_1_12_33 : decode prog_1_method_12_code 33 = .ok (.ifCond .ne 14, 3) := by decide +kernel
theorem d_1_12_47 : decode prog_1_method_12_code 47 = .ok (.iconst 1, 1) := by decide +kernel
theorem d_1_12_48 : decode prog_1_method_12_code 48 = .ok (.goto 4, 3) := by decide +kernel
theorem d_1_12_52 : decode prog_1_method_12_code 52 = .ok (.invokestatic 104, 3) := by decide +kernel
theorem d_1_12_55 : decode prog_1_method_12_code 55 = .ok (.iload_n 1, 1) := by decide +kernel
theorem d_1_12_56 : decode prog_1_method_12_code 56 = .ok (.ifCond .ne 23, 3) := by decide +kernel
theorem d_1_12_79 : decode prog_1_method_12_code 79 = .ok (.iload_n 1, 1) := by decide +kernel
theorem d_1_12_80 : decode prog_1_method_12_code 80 = .ok (.iconst 1, 1) := by decide +kernel
theorem d_1_12_81 : decode prog_1_method_12_code 81 = .ok (.if_icmp .ne 33, 3) := by decide +kernel
theorem d_1_12_114 : decode prog_1_method_12_code 114 = .ok (.aload_n 0, 1) := by decide +kernel
theorem d_1_12_115 : decode prog_1_method_12_code 115 = .ok (.getfield 52, 3) := by decide +kernel
theorem d_1_12_118 : decode prog_1_method_12_code 118 = .ok (.aload_n 0, 1) := by decide +kernel
theorem d_1_12_119 : decode prog_1_method_12_code 119 = .ok (.getfield 29, 3) := by decide +kernel
theorem d_1_12_122 : decode prog_1_method_12_code 122 = .ok (.iload_n 2, 1) := by decide +kernel
theorem d_1_12_123 : decode prog_1_method_12_code 123 = .ok (.aaload, 1) := by decide +kernel
theorem d_1_12_124 : decode prog_1_method_12_code 124 = .ok (.invokevirtual 293, 3) := by decide +kernel
theorem w_1414 : (Cond.code ({ cls := "NumberHouse$DecimalWork", name := "strip", desc := "(LNumberHouse$Dec;)V" } : MethodName) prog_4_method_10_code (2 : Nat) (none : Option ClassFile.FieldType)) ∈ q_tbl := q_of 1414 (by decide +kernel) (by decide +kernel)
theorem w_1411 : (Cond.methodLink "NumberHouse" (293 : Nat) ({ cls := "NumberHouse$DecimalWork", name := "strip", desc := "(LNumberHouse$Dec;)V" } : MethodName)) ∈ q_tbl := q_of 1411 (by decide +kernel) (by decide +kernel)
theorem w_1412 : (Cond.instanceMethod ({ cls := "NumberHouse$DecimalWork", name := "strip", desc := "(LNumberHouse$Dec;)V" } : MethodName)) ∈ q_tbl := q_of 1412 (by decide +kernel) (by decide +kernel)
theorem w_1413 : (Cond.selects "NumberHouse$DecimalWork" ({ cls := "NumberHouse$DecimalWork", name := "strip", desc := "(LNumberHouse$Dec;)V" } : MethodName) ({ cls := "NumberHouse$DecimalWork", name := "strip", desc := "(LNumberHouse$Dec;)V" } : MethodName)) ∈ q_tbl := q_of 1413 (by decide +kernel) (by decide +kernel)
theorem LV_NH_293 : q_LV "NumberHouse" 293 y_DW_strip prog_4_method_10_code 2 none 1 := ⟨w_1414, w_5, w_1411, w_1412, w_1413, ⟨by decide, by decide, by decide +kernel⟩⟩
theorem d_1_12_127 : decode prog_1_method_12_code 127 = .ok (.aload_n 0, 1) := by decide +kernel
theorem d_1_12_128 : decode prog_1_method_12_code 128 = .ok (.iload 4, 2) := by decide +kernel
theorem d_1_12_130 : decode prog_1_method_12_code 130 = .ok (.invokevirtual 281, 3) := by decide +kernel
theorem d_1_12_133 : decode prog_1_method_12_code 133 = .ok (.return_, 1) := by decide +kernel
theorem d_1_12_84 : decode prog_1_method_12_code 84 = .ok (.aload_n 0, 1) := by decide +kernel
theorem d_1_12_85 : decode prog_1_method_12_code 85 = .ok (.getfield 52, 3) := by decide +kernel
theorem d_1_12_88 : decode prog_1_method_12_code 88 = .ok (.aload_n 0, 1) := by decide +kernel
theorem d_1_12_89 : decode prog_1_method_12_code 89 = .ok (.getfield 29, 3) := by decide +kernel
theorem d_1_12_92 : decode prog_1_method_12_code 92 = .ok (.iload_n 2, 1) := by decide +kernel
theorem d_1_12_93 : decode prog_1_method_12_code 93 = .ok (.aaload, 1) := by decide +kernel
theorem d_1_12_94 : decode prog_1_method_12_code 94 = .ok (.invokevirtual 288, 3) := by decide +kernel
theorem d_1_12_97 : decode prog_1_method_12_code 97 = .ok (.aload_n 0, 1) := by decide +kernel
theorem d_1_12_98 : decode prog_1_method_12_code 98 = .ok (.getfield 52, 3) := by decide +kernel
theorem d_1_12_101 : decode prog_1_method_12_code 101 = .ok (.dup, 1) := by decide +kernel
theorem d_1_12_102 : decode prog_1_method_12_code 102 = .ok (.getfield 292, 3) := by decide +kernel
theorem d_1_12_105 : decode prog_1_method_12_code 105 = .ok (.iload_n 3, 1) := by decide +kernel
theorem d_1_12_106 : decode prog_1_method_12_code 106 = .ok (.i2l, 1) := by decide +kernel
theorem d_1_12_107 : decode prog_1_method_12_code 107 = .ok (.lsub, 1) := by decide +kernel
theorem d_1_12_108 : decode prog_1_method_12_code 108 = .ok (.putfield 292, 3) := by decide +kernel
theorem d_1_12_111 : decode prog_1_method_12_code 111 = .ok (.goto 16, 3) := by decide +kernel
theorem d_1_12_36 : decode prog_1_method_12_code 36 = .ok (.iload_n 3, 1) := by decide +kernel
theorem d_1_12_37 : decode prog_1_method_12_code 37 = .ok (.ifCond .lt 14, 3) := by decide +kernel
theorem d_1_12_51 : decode prog_1_method_12_code 51 = .ok (.iconst 0, 1) := by decide +kernel
theorem d_1_12_40 : decode prog_1_method_12_code 40 = .ok (.iload_n 3, 1) := by decide +kernel
theorem d_1_12_41 : decode prog_1_method_12_code 41 = .ok (.sipush 999, 3) := by decide +kernel
theorem d_1_12_44 : decode prog_1_method_12_code 44 = .ok (.if_icmp .gt 7, 3) := by decide +kernel
theorem d_1_12_59 : decode prog_1_method_12_code 59 = .ok (.aload_n 0, 1) := by decide +kernel
theorem d_1_12_60 : decode prog_1_method_12_code 60 = .ok (.getfield 52, 3) := by decide +kernel
theorem d_1_12_63 : decode prog_1_method_12_code 63 = .ok (.aload_n 0, 1) := by decide +kernel
theorem d_1_12_64 : decode prog_1_method_12_code 64 = .ok (.getfield 29, 3) := by decide +kernel
theorem d_1_12_67 : decode prog_1_method_12_code 67 = .ok (.iload_n 2, 1) := by decide +kernel
theorem d_1_12_68 : decode prog_1_method_12_code 68 = .ok (.aaload, 1) := by decide +kernel
theorem d_1_12_69 : decode prog_1_method_12_code 69 = .ok (.iload_n 3, 1) := by decide +kernel
theorem d_1_12_70 : decode prog_1_method_12_code 70 = .ok (.invokevirtual 284, 3) := by decide +kernel
theorem w_1405 : (Cond.code ({ cls := "NumberHouse$DecimalWork", name := "raise", desc := "(LNumberHouse$Dec;I)Z" } : MethodName) prog_4_method_9_code (4 : Nat) (some .boolean)) ∈ q_tbl := q_of 1405 (by decide +kernel) (by decide +kernel)
theorem w_1402 : (Cond.methodLink "NumberHouse" (284 : Nat) ({ cls := "NumberHouse$DecimalWork", name := "raise", desc := "(LNumberHouse$Dec;I)Z" } : MethodName)) ∈ q_tbl := q_of 1402 (by decide +kernel) (by decide +kernel)
theorem w_1403 : (Cond.instanceMethod ({ cls := "NumberHouse$DecimalWork", name := "raise", desc := "(LNumberHouse$Dec;I)Z" } : MethodName)) ∈ q_tbl := q_of 1403 (by decide +kernel) (by decide +kernel)
theorem w_1404 : (Cond.selects "NumberHouse$DecimalWork" ({ cls := "NumberHouse$DecimalWork", name := "raise", desc := "(LNumberHouse$Dec;I)Z" } : MethodName) ({ cls := "NumberHouse$DecimalWork", name := "raise", desc := "(LNumberHouse$Dec;I)Z" } : MethodName)) ∈ q_tbl := q_of 1404 (by decide +kernel) (by decide +kernel)
theorem LV_NH_284 : q_LV "NumberHouse" 284 y_DW_raise prog_4_method_9_code 4 (some .boolean) 2 := ⟨w_1405, w_5, w_1402, w_1403, w_1404, ⟨by decide, by decide, by decide +kernel⟩⟩
theorem d_1_12_73 : decode prog_1_method_12_code 73 = .ok (.invokestatic 138, 3) := by decide +kernel
theorem d_1_12_76 : decode prog_1_method_12_code 76 = .ok (.goto 51, 3) := by decide +kernel
def y_NH_decimalBy : MethodName := ⟨"NumberHouse", "decimalBy", "(IIII)V"⟩
set_option maxRecDepth 100000 in
set_option maxHeartbeats 4000000 in
/-- decimalBy on a fresh object -/
theorem c_NH_decimalBy (l : Launch) (D : va_G) (g : Nat → ClassId) (ws : va_W) (hlt : l.stackTraces = false) ( qO0 qO1 qO2 qA3 qA4 qA5 qA6 qO7 qO8 qO9 qO10 qO11 qO12 qO13 qO14 qO17 qO18 qO19 qO20 qO21 qO22 qO23 qO24 qO25 qO26 qO27 qA35 qA37 qA39 qA40 : Nat) (x1 : Int32) (x2 : Int32) (x3 : Int32) (x4 : Int32) (f6 : Nat → Option Nat) (hO0 : ws[0]? = (some (qO0, .inr (0, [.ref qO1, .ref qO2, .ref qA3, .ref qA4, .ref qA5, .ref qA6, .ref qO7, .ref qO8, .ref qO9, .ref qO10, .ref qO11, .ref qO12, .ref qO13, .ref qO14])) : Option (Nat × va_E))) (hA4 : ws[6]? = (some (qA4, .inl (g 5, 10, .inr (.inr (.inr (.inr f6))))) : Option (Nat × va_E))) (hO7 : ws[9]? = (some (qO7, .inr (4, [.ref qO17, .ref qO18, .ref qO19, .ref qO20, .ref qO21, .ref qO22, .ref qO23, .ref qO24, .ref qO25, .ref qO26])) : Option (Nat × va_E))) (hO8 : ws[30]? = (some (qO8, .inr (5, [.ref qO27, .long 0, .ref qO7, .int 0])) : Option (Nat × va_E))) (hO17 : ws[10]? = (some (qO17, .inr (2, [.ref qA35, .int 0, .int 0])) : Option (Nat × va_E))) (hO19 : ws[14]? = (some (qO19, .inr (2, [.ref qA37, .int 0, .int 0])) : Option (Nat × va_E))) (hO21 : ws[18]? = (some (qO21, .inr (2, [.ref qA39, .int 0, .int 0])) : Option (Nat × va_E))) (hO22 : ws[20]? = (some (qO22, .inr (2, [.ref qA40, .int 0, .int 0])) : Option (Nat × va_E))) (hA35 : ws[11]? = (some (qA35, .inl (g 0, 220, .inl (fun _ => 0))) : Option (Nat × va_E))) (hA37 : ws[15]? = (some (qA37, .inl (g 0, 220, .inl (fun _ => 0))) : Option (Nat × va_E))) (hA39 : ws[19]? = (some (qA39, .inl (g 0, 220, .inl (fun _ => 0))) : Option (Nat × va_E))) (hA40 : ws[21]? = (some (qA40, .inl (g 0, 220, .inl (fun _ => 0))) : Option (Nat × va_E))) (qW qWL qD qDN qDL : Nat → Nat) (hfD : ∀ i, i < 10 → f6 i = some (qD i)) (FD : ∀ i, i < 10 → ws[68 + 5 * i]? = (some (qD i, .inr (3, [.ref (qDN i), .int 0, .int 1])) : Option (Nat × va_E))) (FDN : ∀ i, i < 10 → ws[69 + 5 * i]? = (some (qDN i, .inr (2, [.ref (qDL i), .int 0, .int 0])) : Option (Nat × va_E))) (FDL : ∀ i, i < 10 → ws[70 + 5 * i]? = (some (qDL i, .inl (g 0, 108, .inl (fun _ => 0))) : Option (Nat × va_E))) : q_xV l y_NH_decimalBy prog_1_method_12_code 5 9 4 24 D g [.ref qO0, .int x1, .int x2, .int x3, .int x4] ws (fun u => (((0 ≤ x1.toInt ∧ x1.toInt ≤ 2) ∧ (0 ≤ x2.toInt ∧ x2.toInt ≤ 9) ∧ (0 ≤ x4.toInt ∧ x4.toInt ≤ 9) ∧ (x1.toInt = 0 → (0 ≤ x3.toInt ∧ x3.toInt ≤ 999))) ∧ ¬ ((x1.toInt = 1 ∧ ¬ (-10000 ≤ x3.toInt ∧ x3.toInt ≤ 10000)))) ∧ q_ge 116 ws u) (fun E u => (("java/lang/IllegalArgumentException" = E ∧ (¬ ((0 ≤ x1.toInt ∧ x1.toInt ≤ 2) ∧ (0 ≤ x2.toInt ∧ x2.toInt ≤ 9) ∧ (0 ≤ x4.toInt ∧ x4.toInt ≤ 9) ∧ (x1.toInt = 0 → (0 ≤ x3.toInt ∧ x3.toInt ≤ 999))))) ∨ ("java/lang/ArithmeticException" = E ∧ (((0 ≤ x1.toInt ∧ x1.toInt ≤ 2) ∧ (0 ≤ x2.toInt ∧ x2.toInt ≤ 9) ∧ (0 ≤ x4.toInt ∧ x4.toInt ≤ 9) ∧ (x1.toInt = 0 → (0 ≤ x3.toInt ∧ x3.toInt ≤ 999))) ∧ (x1.toInt = 1 ∧ ¬ (-10000 ≤ x3.toInt ∧ x3.toInt ≤ 10000))))) ∧ q_ge 116 ws u) := by
  intro sz
  refine q_intoX (by decide) (Nat.le_of_ble_eq_true rfl) ?_
  intro p e s m below meth c ls hsz C0 V hno hl
  have hx := C0.1
  have hb := C0.2.1
  have hl : lv_has ls 5 [(0, .ref qO0), (1, .int x1), (2, .int x2), (3, .int x3), (4, .int x4)] := hl
  have hF : q_ge 116 ws ws := q_g0
  refine lv_iload_n hx hb d_1_12_0 rfl (lv_at hl 1 rfl) ?_
  refine lv_if_lt (tgt := 28) hx hb d_1_12_1 (by decide) (fun c1 => ?_) (fun c1 => ?_)
  ·
    refine lv_iconst (v := 0) hx hb d_1_12_28 (by decide) ?_
    refine q_goxv V (q_runSX (As := [.int 0]) (rest := []) (d := 7) (mc := 1) (ms := 6) C0 V rfl LS_NH_104 (c_NH_need l D g ws hlt 0 _) rfl hl.1 rfl (Nat.le_of_ble_eq_true rfl) ⟨by decide, by decide⟩ ⟨Nat.le_of_ble_eq_true rfl, Nat.le_of_ble_eq_true rfl⟩ d_1_12_29) (fun qx Ex ce u3 H locs hp2 V hce hcv hcl => ?_) (fun u3 H locs hp2 V => ?_)
    ·
      obtain ⟨c4, rfl, rfl⟩ := hp2
      exact q_outT hno C0 V (⟨Or.inl ⟨rfl, (show ¬ ((0 ≤ x1.toInt ∧ x1.toInt ≤ 2) ∧ (0 ≤ x2.toInt ∧ x2.toInt ≤ 9) ∧ (0 ≤ x4.toInt ∧ x4.toInt ≤ 9) ∧ (x1.toInt = 0 → (0 ≤ x3.toInt ∧ x3.toInt ≤ 999))) from by have t1 : x1.toInt < 0 := q_ltI c1; omega)⟩, hF⟩) hce hcv hcl (Nat.le_of_ble_eq_true rfl) (Nat.le_of_ble_eq_true rfl)
    ·
      obtain ⟨c6, rfl⟩ := hp2
      exact absurd c6 (by decide)
  ·
    refine lv_iload_n hx hb d_1_12_4 rfl (lv_at hl 1 rfl) ?_
    refine lv_iconst (v := 2) hx hb d_1_12_5 (by decide) ?_
    refine lv_icmp_gt (tgt := 28) hx hb d_1_12_6 (by decide) (fun c8 => ?_) (fun c8 => ?_)
    ·
      refine lv_iconst (v := 0) hx hb d_1_12_28 (by decide) ?_
      refine q_goxv V (q_runSX (As := [.int 0]) (rest := []) (d := 7) (mc := 1) (ms := 6) C0 V rfl LS_NH_104 (c_NH_need l D g ws hlt 0 _) rfl hl.1 rfl (Nat.le_of_ble_eq_true rfl) ⟨by decide, by decide⟩ ⟨Nat.le_of_ble_eq_true rfl, Nat.le_of_ble_eq_true rfl⟩ d_1_12_29) (fun qx Ex ce u10 H locs hp9 V hce hcv hcl => ?_) (fun u10 H locs hp9 V => ?_)
      ·
        obtain ⟨c11, rfl, rfl⟩ := hp9
        exact q_outT hno C0 V (⟨Or.inl ⟨rfl, (show ¬ ((0 ≤ x1.toInt ∧ x1.toInt ≤ 2) ∧ (0 ≤ x2.toInt ∧ x2.toInt ≤ 9) ∧ (0 ≤ x4.toInt ∧ x4.toInt ≤ 9) ∧ (x1.toInt = 0 → (0 ≤ x3.toInt ∧ x3.toInt ≤ 999))) from by have t1 : 0 ≤ x1.toInt := q_nltI c1; have t2 : 2 < x1.toInt := q_ltI c8; omega)⟩, hF⟩) hce hcv hcl (Nat.le_of_ble_eq_true rfl) (Nat.le_of_ble_eq_true rfl)
      ·
        obtain ⟨c13, rfl⟩ := hp9
        exact absurd c13 (by decide)
    ·
      refine lv_iload_n hx hb d_1_12_9 rfl (lv_at hl 2 rfl) ?_
      refine q_goi V (q_runS (As := [.int x2]) (rest := []) (d := 1) (mc := 0) (ms := 0) C0 V rfl LS_NH_212 (c_NH_isRegister l D g ws x2 _) rfl hl.1 rfl (Nat.le_of_ble_eq_true rfl) ⟨by decide, by decide⟩ ⟨Nat.le_of_ble_eq_true rfl, Nat.le_of_ble_eq_true rfl⟩ d_1_12_10) (fun v17 u16 H locs hp15 V => ?_)
      rcases hp15 with ⟨c18, rfl, rfl⟩ | ⟨c20, c21, rfl, rfl⟩ | ⟨c23, c24, rfl, rfl⟩
      ·
        refine lv_if_eq (tgt := 28) hx hb d_1_12_13 (by decide) (fun c26 => ?_) (fun c26 => absurd (by decide) c26)
        refine lv_iconst (v := 0) hx hb d_1_12_28 (by decide) ?_
        refine q_goxv V (q_runSX (As := [.int 0]) (rest := []) (d := 7) (mc := 1) (ms := 6) C0 V rfl LS_NH_104 (c_NH_need l D g ws hlt 0 _) rfl hl.1 rfl (Nat.le_of_ble_eq_true rfl) ⟨by decide, by decide⟩ ⟨Nat.le_of_ble_eq_true rfl, Nat.le_of_ble_eq_true rfl⟩ d_1_12_29) (fun qx Ex ce u28 H locs hp27 V hce hcv hcl => ?_) (fun u28 H locs hp27 V => ?_)
        ·
          obtain ⟨c29, rfl, rfl⟩ := hp27
          exact q_outT hno C0 V (⟨Or.inl ⟨rfl, (show ¬ ((0 ≤ x1.toInt ∧ x1.toInt ≤ 2) ∧ (0 ≤ x2.toInt ∧ x2.toInt ≤ 9) ∧ (0 ≤ x4.toInt ∧ x4.toInt ≤ 9) ∧ (x1.toInt = 0 → (0 ≤ x3.toInt ∧ x3.toInt ≤ 999))) from by have t1 : 0 ≤ x1.toInt := q_nltI c1; have t2 : x1.toInt ≤ 2 := q_nltI c8; have t3 : x2.toInt < 0 := q_ltI c18; omega)⟩, hF⟩) hce hcv hcl (Nat.le_of_ble_eq_true rfl) (Nat.le_of_ble_eq_true rfl)
        ·
          obtain ⟨c31, rfl⟩ := hp27
          exact absurd c31 (by decide)
      ·
        refine lv_if_eq (tgt := 28) hx hb d_1_12_13 (by decide) (fun c33 => ?_) (fun c33 => absurd (by decide) c33)
        refine lv_iconst (v := 0) hx hb d_1_12_28 (by decide) ?_
        refine q_goxv V (q_runSX (As := [.int 0]) (rest := []) (d := 7) (mc := 1) (ms := 6) C0 V rfl LS_NH_104 (c_NH_need l D g ws hlt 0 _) rfl hl.1 rfl (Nat.le_of_ble_eq_true rfl) ⟨by decide, by decide⟩ ⟨Nat.le_of_ble_eq_true rfl, Nat.le_of_ble_eq_true rfl⟩ d_1_12_29) (fun qx Ex ce u35 H locs hp34 V hce hcv hcl => ?_) (fun u35 H locs hp34 V => ?_)
        ·
          obtain ⟨c36, rfl, rfl⟩ := hp34
          exact q_outT hno C0 V (⟨Or.inl ⟨rfl, (show ¬ ((0 ≤ x1.toInt ∧ x1.toInt ≤ 2) ∧ (0 ≤ x2.toInt ∧ x2.toInt ≤ 9) ∧ (0 ≤ x4.toInt ∧ x4.toInt ≤ 9) ∧ (x1.toInt = 0 → (0 ≤ x3.toInt ∧ x3.toInt ≤ 999))) from by have t1 : 0 ≤ x1.toInt := q_nltI c1; have t2 : x1.toInt ≤ 2 := q_nltI c8; have t3 : 0 ≤ x2.toInt := q_nltI c20; have t4 : 10 ≤ x2.toInt := q_leI c21; omega)⟩, hF⟩) hce hcv hcl (Nat.le_of_ble_eq_true rfl) (Nat.le_of_ble_eq_true rfl)
        ·
          obtain ⟨c38, rfl⟩ := hp34
          exact absurd c38 (by decide)
      ·
        refine lv_if_eq (tgt := 28) hx hb d_1_12_13 (by decide) (fun c40 => absurd c40 (by decide)) (fun c40 => ?_)
        refine lv_iload hx hb d_1_12_16 (lv_at hl 4 rfl) ?_
        refine q_goi V (q_runS (As := [.int x4]) (rest := []) (d := 1) (mc := 0) (ms := 0) C0 V rfl LS_NH_212 (c_NH_isRegister l D g ws x4 _) rfl hl.1 rfl (Nat.le_of_ble_eq_true rfl) ⟨by decide, by decide⟩ ⟨Nat.le_of_ble_eq_true rfl, Nat.le_of_ble_eq_true rfl⟩ d_1_12_18) (fun v43 u42 H locs hp41 V => ?_)
        rcases hp41 with ⟨c44, rfl, rfl⟩ | ⟨c46, c47, rfl, rfl⟩ | ⟨c49, c50, rfl, rfl⟩
        ·
          refine lv_if_eq (tgt := 28) hx hb d_1_12_21 (by decide) (fun c52 => ?_) (fun c52 => absurd (by decide) c52)
          refine lv_iconst (v := 0) hx hb d_1_12_28 (by decide) ?_
          refine q_goxv V (q_runSX (As := [.int 0]) (rest := []) (d := 7) (mc := 1) (ms := 6) C0 V rfl LS_NH_104 (c_NH_need l D g ws hlt 0 _) rfl hl.1 rfl (Nat.le_of_ble_eq_true rfl) ⟨by decide, by decide⟩ ⟨Nat.le_of_ble_eq_true rfl, Nat.le_of_ble_eq_true rfl⟩ d_1_12_29) (fun qx Ex ce u54 H locs hp53 V hce hcv hcl => ?_) (fun u54 H locs hp53 V => ?_)
          ·
            obtain ⟨c55, rfl, rfl⟩ := hp53
            exact q_outT hno C0 V (⟨Or.inl ⟨rfl, (show ¬ ((0 ≤ x1.toInt ∧ x1.toInt ≤ 2) ∧ (0 ≤ x2.toInt ∧ x2.toInt ≤ 9) ∧ (0 ≤ x4.toInt ∧ x4.toInt ≤ 9) ∧ (x1.toInt = 0 → (0 ≤ x3.toInt ∧ x3.toInt ≤ 999))) from by have t1 : 0 ≤ x1.toInt := q_nltI c1; have t2 : x1.toInt ≤ 2 := q_nltI c8; have t3 : 0 ≤ x2.toInt := q_nltI c23; have t4 : x2.toInt < 10 := q_nleI c24; have t5 : x4.toInt < 0 := q_ltI c44; omega)⟩, hF⟩) hce hcv hcl (Nat.le_of_ble_eq_true rfl) (Nat.le_of_ble_eq_true rfl)
          ·
            obtain ⟨c57, rfl⟩ := hp53
            exact absurd c57 (by decide)
        ·
          refine lv_if_eq (tgt := 28) hx hb d_1_12_21 (by decide) (fun c59 => ?_) (fun c59 => absurd (by decide) c59)
          refine lv_iconst (v := 0) hx hb d_1_12_28 (by decide) ?_
          refine q_goxv V (q_runSX (As := [.int 0]) (rest := []) (d := 7) (mc := 1) (ms := 6) C0 V rfl LS_NH_104 (c_NH_need l D g ws hlt 0 _) rfl hl.1 rfl (Nat.le_of_ble_eq_true rfl) ⟨by decide, by decide⟩ ⟨Nat.le_of_ble_eq_true rfl, Nat.le_of_ble_eq_true rfl⟩ d_1_12_29) (fun qx Ex ce u61 H locs hp60 V hce hcv hcl => ?_) (fun u61 H locs hp60 V => ?_)
          ·
            obtain ⟨c62, rfl, rfl⟩ := hp60
            exact q_outT hno C0 V (⟨Or.inl ⟨rfl, (show ¬ ((0 ≤ x1.toInt ∧ x1.toInt ≤ 2) ∧ (0 ≤ x2.toInt ∧ x2.toInt ≤ 9) ∧ (0 ≤ x4.toInt ∧ x4.toInt ≤ 9) ∧ (x1.toInt = 0 → (0 ≤ x3.toInt ∧ x3.toInt ≤ 999))) from by have t1 : 0 ≤ x1.toInt := q_nltI c1; have t2 : x1.toInt ≤ 2 := q_nltI c8; have t3 : 0 ≤ x2.toInt := q_nltI c23; have t4 : x2.toInt < 10 := q_nleI c24; have t5 : 0 ≤ x4.toInt := q_nltI c46; have t6 : 10 ≤ x4.toInt := q_leI c47; omega)⟩, hF⟩) hce hcv hcl (Nat.le_of_ble_eq_true rfl) (Nat.le_of_ble_eq_true rfl)
          ·
            obtain ⟨c64, rfl⟩ := hp60
            exact absurd c64 (by decide)
        ·
          refine lv_if_eq (tgt := 28) hx hb d_1_12_21 (by decide) (fun c66 => absurd c66 (by decide)) (fun c66 => ?_)
          refine lv_iconst (v := 1) hx hb d_1_12_24 (by decide) ?_
          refine lv_goto (tgt := 29) hx hb d_1_12_25 (by decide) ?_
          refine q_goxv V (q_runSX (As := [.int 1]) (rest := []) (d := 7) (mc := 1) (ms := 6) C0 V rfl LS_NH_104 (c_NH_need l D g ws hlt 1 _) rfl hl.1 rfl (Nat.le_of_ble_eq_true rfl) ⟨by decide, by decide⟩ ⟨Nat.le_of_ble_eq_true rfl, Nat.le_of_ble_eq_true rfl⟩ d_1_12_29) (fun qx Ex ce u68 H locs hp67 V hce hcv hcl => ?_) (fun u68 H locs hp67 V => ?_)
          ·
            obtain ⟨c69, rfl, rfl⟩ := hp67
            exact absurd c69 (by decide)
          ·
            obtain ⟨c71, rfl⟩ := hp67
            refine lv_iload_n hx hb d_1_12_32 rfl (lv_at hl 1 rfl) ?_
            refine lv_if_ne (tgt := 47) hx hb d_1_12_33 (by decide) (fun c73 => ?_) (fun c73 => ?_)
            ·
              refine lv_iconst (v := 1) hx hb d_1_12_47 (by decide) ?_
              refine lv_goto (tgt := 52) hx hb d_1_12_48 (by decide) ?_
              refine q_goxv V (q_runSX (As := [.int 1]) (rest := []) (d := 7) (mc := 1) (ms := 6) C0 V rfl LS_NH_104 (c_NH_need l D g ws hlt 1 _) rfl hl.1 rfl (Nat.le_of_ble_eq_true rfl) ⟨by decide, by decide⟩ ⟨Nat.le_of_ble_eq_true rfl, Nat.le_of_ble_eq_true rfl⟩ d_1_12_52) (fun qx Ex ce u75 H locs hp74 V hce hcv hcl => ?_) (fun u75 H locs hp74 V => ?_)
              ·
                obtain ⟨c76, rfl, rfl⟩ := hp74
                exact absurd c76 (by decide)
              ·
                obtain ⟨c78, rfl⟩ := hp74
                refine lv_iload_n hx hb d_1_12_55 rfl (lv_at hl 1 rfl) ?_
                refine lv_if_ne (tgt := 79) hx hb d_1_12_56 (by decide) (fun c80 => ?_) (fun c80 => absurd c80 c73)
                refine lv_iload_n hx hb d_1_12_79 rfl (lv_at hl 1 rfl) ?_
                refine lv_iconst (v := 1) hx hb d_1_12_80 (by decide) ?_
                refine lv_icmp_ne (tgt := 114) hx hb d_1_12_81 (by decide) (fun c81 => ?_) (fun c81 => ?_)
                ·
                  refine lv_aload_n hx hb d_1_12_114 rfl (lv_at hl 0 rfl) ?_
                  refine q_get (ci := 0) (j := 7) (v := .ref qO8) C0 V i_NH rfl rfl hO0 (by decide) w_431 rfl d_1_12_115 ?_
                  refine lv_aload_n hx hb d_1_12_118 rfl (lv_at hl 0 rfl) ?_
                  refine q_get (ci := 0) (j := 3) (v := .ref qA4) C0 V i_NH rfl rfl hO0 (by decide) w_427 rfl d_1_12_119 ?_
                  refine lv_iload_n hx hb d_1_12_122 rfl (lv_at hl 2 rfl) ?_
                  have r82 : x2.toNatClampNeg < 10 := (q_r10 (x := x2.toInt) rfl (by have t1 : 0 ≤ x2.toInt := q_nltI c23; have t2 : x2.toInt < 10 := q_nleI c24; omega) (by have t1 : 0 ≤ x2.toInt := q_nltI c23; have t2 : x2.toInt < 10 := q_nleI c24; omega))
                  have hr83 : ws[68 + 5 * x2.toNatClampNeg]? = (some (qD x2.toNatClampNeg, .inr (3, [.ref (qDN x2.toNatClampNeg), .int 0, .int 1])) : Option (Nat × va_E)) := FD _ r82
                  have hr84 : ws[69 + 5 * x2.toNatClampNeg]? = (some (qDN x2.toNatClampNeg, .inr (2, [.ref (qDL x2.toNatClampNeg), .int 0, .int 0])) : Option (Nat × va_E)) := FDN _ r82
                  have hr85 : ws[70 + 5 * x2.toNatClampNeg]? = (some (qDL x2.toNatClampNeg, .inl (g 0, 108, .inl (fun _ => 0))) : Option (Nat × va_E)) := FDL _ r82
                  have hh : x2.toNatClampNeg < 10 := (q_r10 (x := x2.toInt) rfl (by have t1 : 0 ≤ x2.toInt := q_nltI c23; have t2 : x2.toInt < 10 := q_nleI c24; omega) (by have t1 : 0 ≤ x2.toInt := q_nltI c23; have t2 : x2.toInt < 10 := q_nleI c24; omega))
                  refine q_aald (t := 5) (q := qD x2.toNatClampNeg) C0 V hA4 rfl (q_ix (x := x2.toInt) rfl (by have t1 : 0 ≤ x2.toInt := q_nltI c23; have t2 : x2.toInt < 10 := q_nleI c24; omega) (by have t1 : 0 ≤ x2.toInt := q_nltI c23; have t2 : x2.toInt < 10 := q_nleI c24; omega)) (hfD _ hh) d_1_12_123 ?_
                  refine q_gov V (q_runV (As := [.ref (qD x2.toNatClampNeg)]) (rest := []) (d := 4) (mc := 0) (ms := 0) (ci := 5) C0 V rfl LV_NH_293 (c_DW_strip l D g ws 30 (68 + 5 * x2.toNatClampNeg) 9 (69 + 5 * x2.toNatClampNeg) 10 (70 + 5 * x2.toNatClampNeg) 11 qO8 (qD x2.toNatClampNeg) qO27 qO7 (qDN x2.toNatClampNeg) qO17 qO18 qO19 qO20 qO21 qO22 qO23 qO24 qO25 qO26 (qDL x2.toNatClampNeg) qA35 hO8 hr83 hO7 hr84 hO17 hr85 hA35 (q_f5 rfl) (q_f5 rfl) _) rfl rfl hO8 rfl hl.1 rfl (Nat.le_of_ble_eq_true rfl) ⟨by decide, by decide⟩ ⟨Nat.le_of_ble_eq_true rfl, Nat.le_of_ble_eq_true rfl⟩ d_1_12_124) (fun u87 H locs hp86 V => ?_)
                  obtain ⟨hg88, hO8, hO17, hA35⟩ := hp86
                  replace hF := q_gc hF hg88 (q_al (Nat.le_of_ble_eq_true rfl) (q_al (Nat.le_of_ble_eq_true rfl) (q_al (Nat.le_of_ble_eq_true rfl) (fun _ h => absurd h List.not_mem_nil))))
                  refine lv_aload_n hx hb d_1_12_127 rfl (lv_at hl 0 rfl) ?_
                  refine lv_iload hx hb d_1_12_128 (lv_at hl 4 rfl) ?_
                  replace hO0 := (hg88 _ (q_nc (q_pd 0 30 rfl) (q_nc (q_pd 0 10 rfl) (q_nc (q_pd 0 11 rfl) List.not_mem_nil)))).trans (hO0)
                  replace hA4 := (hg88 _ (q_nc (q_pd 6 30 rfl) (q_nc (q_pd 6 10 rfl) (q_nc (q_pd 6 11 rfl) List.not_mem_nil)))).trans (hA4)
                  replace hO7 := (hg88 _ (q_nc (q_pd 9 30 rfl) (q_nc (q_pd 9 10 rfl) (q_nc (q_pd 9 11 rfl) List.not_mem_nil)))).trans (hO7)
                  replace FD := fun (i : Nat) (hi : i < 10) => (hg88 _ (q_nc (q_f5 rfl) (q_nc (q_f5 rfl) (q_nc (q_f5 rfl) List.not_mem_nil)))).trans (FD i hi)
                  replace FDN := fun (i : Nat) (hi : i < 10) => (hg88 _ (q_nc (q_f5 rfl) (q_nc (q_f5 rfl) (q_nc (q_f5 rfl) List.not_mem_nil)))).trans (FDN i hi)
                  replace FDL := fun (i : Nat) (hi : i < 10) => (hg88 _ (q_nc (q_f5 rfl) (q_nc (q_f5 rfl) (q_nc (q_f5 rfl) List.not_mem_nil)))).trans (FDL i hi)
                  refine q_gov V (q_runV (As := [.int x4]) (rest := []) (d := 8) (mc := 1) (ms := 6) (ci := 0) C0 V rfl LV_NH_281 (c_NH_keepDecimal l D g u87 hlt qO0 qO1 qO2 qA3 qA4 qA5 qA6 qO7 qO8 qO9 qO10 qO11 qO12 qO13 qO14 qO17 qO18 qO19 qO20 qO21 qO22 qO23 qO24 qO25 qO26 qO27 qA35 x4 f6 hO0 hA4 hO7 hO8 hO17 hA35 (q_Ile (x := 0) (y := x4.toInt) (by decide) rfl (by have t1 : 0 ≤ x4.toInt := q_nltI c49; have t2 : x4.toInt < 10 := q_nleI c50; omega)) (q_Ile (x := x4.toInt) (y := 9) rfl (by decide) (by have t1 : 0 ≤ x4.toInt := q_nltI c49; have t2 : x4.toInt < 10 := q_nleI c50; omega)) qW qWL qD qDN qDL hfD FD FDN FDL _) rfl rfl hO0 rfl hl.1 rfl (Nat.le_of_ble_eq_true rfl) ⟨by decide, by decide⟩ ⟨Nat.le_of_ble_eq_true rfl, Nat.le_of_ble_eq_true rfl⟩ d_1_12_130) (fun u90 H locs hp89 V => ?_)
                  have hg91 := hp89
                  replace hF := q_gt hF hg91
                  refine W.widen (k := 4) (n := 24) (Nat.le_of_ble_eq_true rfl) (Nat.le_of_ble_eq_true rfl) ?_
                  exact q_retX (q_retv C0 V (⟨(show ((0 ≤ x1.toInt ∧ x1.toInt ≤ 2) ∧ (0 ≤ x2.toInt ∧ x2.toInt ≤ 9) ∧ (0 ≤ x4.toInt ∧ x4.toInt ≤ 9) ∧ (x1.toInt = 0 → (0 ≤ x3.toInt ∧ x3.toInt ≤ 999))) ∧ ¬ ((x1.toInt = 1 ∧ ¬ (-10000 ≤ x3.toInt ∧ x3.toInt ≤ 10000))) from by have t1 : 0 ≤ x1.toInt := q_nltI c1; have t2 : x1.toInt ≤ 2 := q_nltI c8; have t3 : 0 ≤ x2.toInt := q_nltI c23; have t4 : x2.toInt < 10 := q_nleI c24; have t5 : 0 ≤ x4.toInt := q_nltI c49; have t6 : x4.toInt < 10 := q_nleI c50; have t7 : x1.toInt ≠ 0 := q_neI c73; have t8 : x1.toInt ≠ 1 := q_neI c81; omega), hF⟩) d_1_12_133)
                ·
                  refine lv_aload_n hx hb d_1_12_84 rfl (lv_at hl 0 rfl) ?_
                  refine q_get (ci := 0) (j := 7) (v := .ref qO8) C0 V i_NH rfl rfl hO0 (by decide) w_431 rfl d_1_12_85 ?_
                  refine lv_aload_n hx hb d_1_12_88 rfl (lv_at hl 0 rfl) ?_
                  refine q_get (ci := 0) (j := 3) (v := .ref qA4) C0 V i_NH rfl rfl hO0 (by decide) w_427 rfl d_1_12_89 ?_
                  refine lv_iload_n hx hb d_1_12_92 rfl (lv_at hl 2 rfl) ?_
                  have r92 : x2.toNatClampNeg < 10 := (q_r10 (x := x2.toInt) rfl (by have t1 : 0 ≤ x2.toInt := q_nltI c23; have t2 : x2.toInt < 10 := q_nleI c24; omega) (by have t1 : 0 ≤ x2.toInt := q_nltI c23; have t2 : x2.toInt < 10 := q_nleI c24; omega))
                  have hr93 : ws[68 + 5 * x2.toNatClampNeg]? = (some (qD x2.toNatClampNeg, .inr (3, [.ref (qDN x2.toNatClampNeg), .int 0, .int 1])) : Option (Nat × va_E)) := FD _ r92
                  have hr94 : ws[69 + 5 * x2.toNatClampNeg]? = (some (qDN x2.toNatClampNeg, .inr (2, [.ref (qDL x2.toNatClampNeg), .int 0, .int 0])) : Option (Nat × va_E)) := FDN _ r92
                  have hr95 : ws[70 + 5 * x2.toNatClampNeg]? = (some (qDL x2.toNatClampNeg, .inl (g 0, 108, .inl (fun _ => 0))) : Option (Nat × va_E)) := FDL _ r92
                  have hh : x2.toNatClampNeg < 10 := (q_r10 (x := x2.toInt) rfl (by have t1 : 0 ≤ x2.toInt := q_nltI c23; have t2 : x2.toInt < 10 := q_nleI c24; omega) (by have t1 : 0 ≤ x2.toInt := q_nltI c23; have t2 : x2.toInt < 10 := q_nleI c24; omega))
                  refine q_aald (t := 5) (q := qD x2.toNatClampNeg) C0 V hA4 rfl (q_ix (x := x2.toInt) rfl (by have t1 : 0 ≤ x2.toInt := q_nltI c23; have t2 : x2.toInt < 10 := q_nleI c24; omega) (by have t1 : 0 ≤ x2.toInt := q_nltI c23; have t2 : x2.toInt < 10 := q_nleI c24; omega)) (hfD _ hh) d_1_12_93 ?_
                  refine q_gov V (q_runV (As := [.ref (qD x2.toNatClampNeg)]) (rest := []) (d := 3) (mc := 0) (ms := 0) (ci := 5) C0 V rfl LV_NH_288 (c_DW_take l D g ws 30 (68 + 5 * x2.toNatClampNeg) 9 (69 + 5 * x2.toNatClampNeg) 10 (70 + 5 * x2.toNatClampNeg) 11 qO8 (qD x2.toNatClampNeg) qO27 qO7 (qDN x2.toNatClampNeg) qO17 qO18 qO19 qO20 qO21 qO22 qO23 qO24 qO25 qO26 (qDL x2.toNatClampNeg) qA35 hO8 hr93 hO7 hr94 hO17 hr95 hA35 (q_f5 rfl) (q_f5 rfl) _) rfl rfl hO8 rfl hl.1 rfl (Nat.le_of_ble_eq_true rfl) ⟨by decide, by decide⟩ ⟨Nat.le_of_ble_eq_true rfl, Nat.le_of_ble_eq_true rfl⟩ d_1_12_94) (fun u97 H locs hp96 V => ?_)
                  obtain ⟨hg98, hO8, hO17, hA35⟩ := hp96
                  replace hF := q_gc hF hg98 (q_al (Nat.le_of_ble_eq_true rfl) (q_al (Nat.le_of_ble_eq_true rfl) (q_al (Nat.le_of_ble_eq_true rfl) (fun _ h => absurd h List.not_mem_nil))))
                  refine lv_aload_n hx hb d_1_12_97 rfl (lv_at hl 0 rfl) ?_
                  replace hO0 := (hg98 _ (q_nc (q_pd 0 30 rfl) (q_nc (q_pd 0 10 rfl) (q_nc (q_pd 0 11 rfl) List.not_mem_nil)))).trans (hO0)
                  refine q_get (ci := 0) (j := 7) (v := .ref qO8) C0 V i_NH rfl rfl hO0 (by decide) w_431 rfl d_1_12_98 ?_
                  refine lv_dup hx hb d_1_12_101 rfl ?_
                  refine q_get (ci := 5) (j := 1) (v := .long 0) C0 V i_DW rfl rfl hO8 (by decide) w_213 rfl d_1_12_102 ?_
                  refine lv_iload_n hx hb d_1_12_105 rfl (lv_at hl 3 rfl) ?_
                  refine lv_i2l hx hb d_1_12_106 rfl ?_
                  refine lv_lsub hx hb d_1_12_107 ?_
                  refine q_put (ci := 5) (j := 1) (v := .long (0 - x3.toInt64)) (ty := .long) C0 V i_DW o_DW n_DW rfl rfl hO8 (by decide) w_213 rfl rfl rfl rfl (Nat.le_of_ble_eq_true rfl) d_1_12_108 (fun H locs w99 hu100 hO8 V => ?_)
                  replace hO8 : w99[30]? = (some (qO8, .inr (5, [.ref qO27, .long (0 - x3.toInt64), .ref qO7, .int 0])) : Option (Nat × va_E)) := hO8
                  replace hF := q_gs hF hu100 (Nat.le_of_ble_eq_true rfl)
                  refine lv_goto (tgt := 127) hx hb d_1_12_111 (by decide) ?_
                  refine lv_aload_n hx hb d_1_12_127 rfl (lv_at hl 0 rfl) ?_
                  refine lv_iload hx hb d_1_12_128 (lv_at hl 4 rfl) ?_
                  replace hO0 := (hu100 _ (q_pd 0 30 rfl)).trans (hO0)
                  replace hA4 := (hu100 _ (q_pd 6 30 rfl)).trans ((hg98 _ (q_nc (q_pd 6 30 rfl) (q_nc (q_pd 6 10 rfl) (q_nc (q_pd 6 11 rfl) List.not_mem_nil)))).trans (hA4))
                  replace hO7 := (hu100 _ (q_pd 9 30 rfl)).trans ((hg98 _ (q_nc (q_pd 9 30 rfl) (q_nc (q_pd 9 10 rfl) (q_nc (q_pd 9 11 rfl) List.not_mem_nil)))).trans (hO7))
                  replace hO17 := (hu100 _ (q_pd 10 30 rfl)).trans (hO17)
                  replace hA35 := (hu100 _ (q_pd 11 30 rfl)).trans (hA35)
                  replace FD := fun (i : Nat) (hi : i < 10) => (hu100 _ (q_f5 rfl)).trans ((hg98 _ (q_nc (q_f5 rfl) (q_nc (q_f5 rfl) (q_nc (q_f5 rfl) List.not_mem_nil)))).trans (FD i hi))
                  replace FDN := fun (i : Nat) (hi : i < 10) => (hu100 _ (q_f5 rfl)).trans ((hg98 _ (q_nc (q_f5 rfl) (q_nc (q_f5 rfl) (q_nc (q_f5 rfl) List.not_mem_nil)))).trans (FDN i hi))
                  replace FDL := fun (i : Nat) (hi : i < 10) => (hu100 _ (q_f5 rfl)).trans ((hg98 _ (q_nc (q_f5 rfl) (q_nc (q_f5 rfl) (q_nc (q_f5 rfl) List.not_mem_nil)))).trans (FDL i hi))
                  refine q_goxv V (q_runVX (As := [.int x4]) (rest := []) (d := 8) (mc := 1) (ms := 6) (ci := 0) C0 V rfl LV_NH_281 (c_NH_keepDecimal_2 l D g w99 hlt qO0 qO1 qO2 qA3 qA4 qA5 qA6 qO7 qO8 qO9 qO10 qO11 qO12 qO13 qO14 qO17 qO18 qO19 qO20 qO21 qO22 qO23 qO24 qO25 qO26 qO27 qA35 x4 f6 (0 - x3.toInt64) hO0 hA4 hO7 hO8 hO17 hA35 (q_Ile (x := 0) (y := x4.toInt) (by decide) rfl (by have t1 : 0 ≤ x4.toInt := q_nltI c49; have t2 : x4.toInt < 10 := q_nleI c50; omega)) (q_Ile (x := x4.toInt) (y := 9) rfl (by decide) (by have t1 : 0 ≤ x4.toInt := q_nltI c49; have t2 : x4.toInt < 10 := q_nleI c50; omega)) qW qWL qD qDN qDL hfD FD FDN FDL _) rfl rfl hO0 rfl hl.1 rfl (Nat.le_of_ble_eq_true rfl) ⟨by decide, by decide⟩ ⟨Nat.le_of_ble_eq_true rfl, Nat.le_of_ble_eq_true rfl⟩ d_1_12_130) (fun qx Ex ce u102 H locs hp101 V hce hcv hcl => ?_) (fun u102 H locs hp101 V => ?_)
                  ·
                    rcases hp101 with ⟨c103, rfl, hg104⟩ | ⟨c105, c106, rfl, hg107⟩
                    ·
                      replace hF := q_gt hF hg104
                      exact q_outT hno C0 V (⟨Or.inr (⟨rfl, (show ((0 ≤ x1.toInt ∧ x1.toInt ≤ 2) ∧ (0 ≤ x2.toInt ∧ x2.toInt ≤ 9) ∧ (0 ≤ x4.toInt ∧ x4.toInt ≤ 9) ∧ (x1.toInt = 0 → (0 ≤ x3.toInt ∧ x3.toInt ≤ 999))) ∧ (x1.toInt = 1 ∧ ¬ (-10000 ≤ x3.toInt ∧ x3.toInt ≤ 10000)) from by have t1 : 0 ≤ x1.toInt := q_nltI c1; have t2 : x1.toInt ≤ 2 := q_nltI c8; have t3 : 0 ≤ x2.toInt := q_nltI c23; have t4 : x2.toInt < 10 := q_nleI c24; have t5 : 0 ≤ x4.toInt := q_nltI c49; have t6 : x4.toInt < 10 := q_nleI c50; have t7 : x1.toInt ≠ 0 := q_neI c73; have t8 : x1.toInt = 1 := q_eqI c81; have ea9 : ((0 - x3.toInt64) : Int64).toInt = (0 - x3.toInt) := (q_subL (x := 0) (y := x3.toInt) (by decide) (q_i2l (x := x3.toInt) rfl) (by have y0l := q_lo32 (x := x3); have y0h := q_hi32 (x := x3); have b0l := q_lo32 (x := x3); have b0h := q_hi32 (x := x3); omega) (by have y0l := q_lo32 (x := x3); have y0h := q_hi32 (x := x3); have b0l := q_lo32 (x := x3); have b0h := q_hi32 (x := x3); omega)); have eb9 : ((-10000) : Int64).toInt = (-10000) := (by decide); have ec9 := q_k1 c103; omega)⟩), hF⟩) hce hcv hcl (Nat.le_of_ble_eq_true rfl) (Nat.le_of_ble_eq_true rfl)
                    ·
                      replace hF := q_gt hF hg107
                      exact q_outT hno C0 V (⟨Or.inr (⟨rfl, (show ((0 ≤ x1.toInt ∧ x1.toInt ≤ 2) ∧ (0 ≤ x2.toInt ∧ x2.toInt ≤ 9) ∧ (0 ≤ x4.toInt ∧ x4.toInt ≤ 9) ∧ (x1.toInt = 0 → (0 ≤ x3.toInt ∧ x3.toInt ≤ 999))) ∧ (x1.toInt = 1 ∧ ¬ (-10000 ≤ x3.toInt ∧ x3.toInt ≤ 10000)) from by have t1 : 0 ≤ x1.toInt := q_nltI c1; have t2 : x1.toInt ≤ 2 := q_nltI c8; have t3 : 0 ≤ x2.toInt := q_nltI c23; have t4 : x2.toInt < 10 := q_nleI c24; have t5 : 0 ≤ x4.toInt := q_nltI c49; have t6 : x4.toInt < 10 := q_nleI c50; have t7 : x1.toInt ≠ 0 := q_neI c73; have t8 : x1.toInt = 1 := q_eqI c81; have ea9 : ((0 - x3.toInt64) : Int64).toInt = (0 - x3.toInt) := (q_subL (x := 0) (y := x3.toInt) (by decide) (q_i2l (x := x3.toInt) rfl) (by have y0l := q_lo32 (x := x3); have y0h := q_hi32 (x := x3); have b0l := q_lo32 (x := x3); have b0h := q_hi32 (x := x3); omega) (by have y0l := q_lo32 (x := x3); have y0h := q_hi32 (x := x3); have b0l := q_lo32 (x := x3); have b0h := q_hi32 (x := x3); omega)); have eb9 : ((-10000) : Int64).toInt = (-10000) := (by decide); have ec9 := q_k2 c105; have ea10 : ((0 - x3.toInt64) : Int64).toInt = (0 - x3.toInt) := (q_subL (x := 0) (y := x3.toInt) (by decide) (q_i2l (x := x3.toInt) rfl) (by have y0l := q_lo32 (x := x3); have y0h := q_hi32 (x := x3); have b0l := q_lo32 (x := x3); have b0h := q_hi32 (x := x3); omega) (by have y0l := q_lo32 (x := x3); have y0h := q_hi32 (x := x3); have b0l := q_lo32 (x := x3); have b0h := q_hi32 (x := x3); omega)); have eb10 : (10000 : Int64).toInt = 10000 := (by decide); have ec10 := q_k6 c106; omega)⟩), hF⟩) hce hcv hcl (Nat.le_of_ble_eq_true rfl) (Nat.le_of_ble_eq_true rfl)
                  ·
                    obtain ⟨c108, c109, hg110⟩ := hp101
                    replace hF := q_gt hF hg110
                    refine W.widen (k := 4) (n := 24) (Nat.le_of_ble_eq_true rfl) (Nat.le_of_ble_eq_true rfl) ?_
                    exact q_retX (q_retv C0 V (⟨(show ((0 ≤ x1.toInt ∧ x1.toInt ≤ 2) ∧ (0 ≤ x2.toInt ∧ x2.toInt ≤ 9) ∧ (0 ≤ x4.toInt ∧ x4.toInt ≤ 9) ∧ (x1.toInt = 0 → (0 ≤ x3.toInt ∧ x3.toInt ≤ 999))) ∧ ¬ ((x1.toInt = 1 ∧ ¬ (-10000 ≤ x3.toInt ∧ x3.toInt ≤ 10000))) from by have t1 : 0 ≤ x1.toInt := q_nltI c1; have t2 : x1.toInt ≤ 2 := q_nltI c8; have t3 : 0 ≤ x2.toInt := q_nltI c23; have t4 : x2.toInt < 10 := q_nleI c24; have t5 : 0 ≤ x4.toInt := q_nltI c49; have t6 : x4.toInt < 10 := q_nleI c50; have t7 : x1.toInt ≠ 0 := q_neI c73; have t8 : x1.toInt = 1 := q_eqI c81; have ea9 : ((0 - x3.toInt64) : Int64).toInt = (0 - x3.toInt) := (q_subL (x := 0) (y := x3.toInt) (by decide) (q_i2l (x := x3.toInt) rfl) (by have y0l := q_lo32 (x := x3); have y0h := q_hi32 (x := x3); have b0l := q_lo32 (x := x3); have b0h := q_hi32 (x := x3); omega) (by have y0l := q_lo32 (x := x3); have y0h := q_hi32 (x := x3); have b0l := q_lo32 (x := x3); have b0h := q_hi32 (x := x3); omega)); have eb9 : ((-10000) : Int64).toInt = (-10000) := (by decide); have ec9 := q_k2 c108; have ea10 : ((0 - x3.toInt64) : Int64).toInt = (0 - x3.toInt) := (q_subL (x := 0) (y := x3.toInt) (by decide) (q_i2l (x := x3.toInt) rfl) (by have y0l := q_lo32 (x := x3); have y0h := q_hi32 (x := x3); have b0l := q_lo32 (x := x3); have b0h := q_hi32 (x := x3); omega) (by have y0l := q_lo32 (x := x3); have y0h := q_hi32 (x := x3); have b0l := q_lo32 (x := x3); have b0h := q_hi32 (x := x3); omega)); have eb10 : (10000 : Int64).toInt = 10000 := (by decide); have ec10 := q_k5 c109; omega), hF⟩) d_1_12_133)
            ·
              refine lv_iload_n hx hb d_1_12_36 rfl (lv_at hl 3 rfl) ?_
              refine lv_if_lt (tgt := 51) hx hb d_1_12_37 (by decide) (fun c111 => ?_) (fun c111 => ?_)
              ·
                refine lv_iconst (v := 0) hx hb d_1_12_51 (by decide) ?_
                refine q_goxv V (q_runSX (As := [.int 0]) (rest := []) (d := 7) (mc := 1) (ms := 6) C0 V rfl LS_NH_104 (c_NH_need l D g ws hlt 0 _) rfl hl.1 rfl (Nat.le_of_ble_eq_true rfl) ⟨by decide, by decide⟩ ⟨Nat.le_of_ble_eq_true rfl, Nat.le_of_ble_eq_true rfl⟩ d_1_12_52) (fun qx Ex ce u113 H locs hp112 V hce hcv hcl => ?_) (fun u113 H locs hp112 V => ?_)
                ·
                  obtain ⟨c114, rfl, rfl⟩ := hp112
                  exact q_outT hno C0 V (⟨Or.inl ⟨rfl, (show ¬ ((0 ≤ x1.toInt ∧ x1.toInt ≤ 2) ∧ (0 ≤ x2.toInt ∧ x2.toInt ≤ 9) ∧ (0 ≤ x4.toInt ∧ x4.toInt ≤ 9) ∧ (x1.toInt = 0 → (0 ≤ x3.toInt ∧ x3.toInt ≤ 999))) from by have t1 : 0 ≤ x1.toInt := q_nltI c1; have t2 : x1.toInt ≤ 2 := q_nltI c8; have t3 : 0 ≤ x2.toInt := q_nltI c23; have t4 : x2.toInt < 10 := q_nleI c24; have t5 : 0 ≤ x4.toInt := q_nltI c49; have t6 : x4.toInt < 10 := q_nleI c50; have t7 : x1.toInt = 0 := q_eqI c73; have t8 : x3.toInt < 0 := q_ltI c111; omega)⟩, hF⟩) hce hcv hcl (Nat.le_of_ble_eq_true rfl) (Nat.le_of_ble_eq_true rfl)
                ·
                  obtain ⟨c116, rfl⟩ := hp112
                  exact absurd c116 (by decide)
              ·
                refine lv_iload_n hx hb d_1_12_40 rfl (lv_at hl 3 rfl) ?_
                refine lv_sipush (v := 999) hx hb d_1_12_41 (by decide) ?_
                refine lv_icmp_gt (tgt := 51) hx hb d_1_12_44 (by decide) (fun c118 => ?_) (fun c118 => ?_)
                ·
                  refine lv_iconst (v := 0) hx hb d_1_12_51 (by decide) ?_
                  refine q_goxv V (q_runSX (As := [.int 0]) (rest := []) (d := 7) (mc := 1) (ms := 6) C0 V rfl LS_NH_104 (c_NH_need l D g ws hlt 0 _) rfl hl.1 rfl (Nat.le_of_ble_eq_true rfl) ⟨by decide, by decide⟩ ⟨Nat.le_of_ble_eq_true rfl, Nat.le_of_ble_eq_true rfl⟩ d_1_12_52) (fun qx Ex ce u120 H locs hp119 V hce hcv hcl => ?_) (fun u120 H locs hp119 V => ?_)
                  ·
                    obtain ⟨c121, rfl, rfl⟩ := hp119
                    exact q_outT hno C0 V (⟨Or.inl ⟨rfl, (show ¬ ((0 ≤ x1.toInt ∧ x1.toInt ≤ 2) ∧ (0 ≤ x2.toInt ∧ x2.toInt ≤ 9) ∧ (0 ≤ x4.toInt ∧ x4.toInt ≤ 9) ∧ (x1.toInt = 0 → (0 ≤ x3.toInt ∧ x3.toInt ≤ 999))) from by have t1 : 0 ≤ x1.toInt := q_nltI c1; have t2 : x1.toInt ≤ 2 := q_nltI c8; have t3 : 0 ≤ x2.toInt := q_nltI c23; have t4 : x2.toInt < 10 := q_nleI c24; have t5 : 0 ≤ x4.toInt := q_nltI c49; have t6 : x4.toInt < 10 := q_nleI c50; have t7 : x1.toInt = 0 := q_eqI c73; have t8 : 0 ≤ x3.toInt := q_nltI c111; have t9 : 999 < x3.toInt := q_ltI c118; omega)⟩, hF⟩) hce hcv hcl (Nat.le_of_ble_eq_true rfl) (Nat.le_of_ble_eq_true rfl)
                  ·
                    obtain ⟨c123, rfl⟩ := hp119
                    exact absurd c123 (by decide)
                ·
                  refine lv_iconst (v := 1) hx hb d_1_12_47 (by decide) ?_
                  refine lv_goto (tgt := 52) hx hb d_1_12_48 (by decide) ?_
                  refine q_goxv V (q_runSX (As := [.int 1]) (rest := []) (d := 7) (mc := 1) (ms := 6) C0 V rfl LS_NH_104 (c_NH_need l D g ws hlt 1 _) rfl hl.1 rfl (Nat.le_of_ble_eq_true rfl) ⟨by decide, by decide⟩ ⟨Nat.le_of_ble_eq_true rfl, Nat.le_of_ble_eq_true rfl⟩ d_1_12_52) (fun qx Ex ce u126 H locs hp125 V hce hcv hcl => ?_) (fun u126 H locs hp125 V => ?_)
                  ·
                    obtain ⟨c127, rfl, rfl⟩ := hp125
                    exact absurd c127 (by decide)
                  ·
                    obtain ⟨c129, rfl⟩ := hp125
                    refine lv_iload_n hx hb d_1_12_55 rfl (lv_at hl 1 rfl) ?_
                    refine q_ti (v := 0) c73 ?_
                    refine lv_if_ne (tgt := 79) hx hb d_1_12_56 (by decide) (fun c131 => absurd (by decide) c131) (fun c131 => ?_)
                    refine lv_aload_n hx hb d_1_12_59 rfl (lv_at hl 0 rfl) ?_
                    refine q_get (ci := 0) (j := 7) (v := .ref qO8) C0 V i_NH rfl rfl hO0 (by decide) w_431 rfl d_1_12_60 ?_
                    refine lv_aload_n hx hb d_1_12_63 rfl (lv_at hl 0 rfl) ?_
                    refine q_get (ci := 0) (j := 3) (v := .ref qA4) C0 V i_NH rfl rfl hO0 (by decide) w_427 rfl d_1_12_64 ?_
                    refine lv_iload_n hx hb d_1_12_67 rfl (lv_at hl 2 rfl) ?_
                    have r132 : x2.toNatClampNeg < 10 := (q_r10 (x := x2.toInt) rfl (by have t1 : 0 ≤ x2.toInt := q_nltI c23; have t2 : x2.toInt < 10 := q_nleI c24; omega) (by have t1 : 0 ≤ x2.toInt := q_nltI c23; have t2 : x2.toInt < 10 := q_nleI c24; omega))
                    have hr133 : ws[68 + 5 * x2.toNatClampNeg]? = (some (qD x2.toNatClampNeg, .inr (3, [.ref (qDN x2.toNatClampNeg), .int 0, .int 1])) : Option (Nat × va_E)) := FD _ r132
                    have hr134 : ws[69 + 5 * x2.toNatClampNeg]? = (some (qDN x2.toNatClampNeg, .inr (2, [.ref (qDL x2.toNatClampNeg), .int 0, .int 0])) : Option (Nat × va_E)) := FDN _ r132
                    have hr135 : ws[70 + 5 * x2.toNatClampNeg]? = (some (qDL x2.toNatClampNeg, .inl (g 0, 108, .inl (fun _ => 0))) : Option (Nat × va_E)) := FDL _ r132
                    have hh : x2.toNatClampNeg < 10 := (q_r10 (x := x2.toInt) rfl (by have t1 : 0 ≤ x2.toInt := q_nltI c23; have t2 : x2.toInt < 10 := q_nleI c24; omega) (by have t1 : 0 ≤ x2.toInt := q_nltI c23; have t2 : x2.toInt < 10 := q_nleI c24; omega))
                    refine q_aald (t := 5) (q := qD x2.toNatClampNeg) C0 V hA4 rfl (q_ix (x := x2.toInt) rfl (by have t1 : 0 ≤ x2.toInt := q_nltI c23; have t2 : x2.toInt < 10 := q_nleI c24; omega) (by have t1 : 0 ≤ x2.toInt := q_nltI c23; have t2 : x2.toInt < 10 := q_nleI c24; omega)) (hfD _ hh) d_1_12_68 ?_
                    refine lv_iload_n hx hb d_1_12_69 rfl (lv_at hl 3 rfl) ?_
                    refine q_goi V (q_runV (As := [.ref (qD x2.toNatClampNeg), .int x3]) (rest := []) (d := 5) (mc := 0) (ms := 0) (ci := 5) C0 V rfl LV_NH_284 (c_DW_raise l D g ws 30 (68 + 5 * x2.toNatClampNeg) 9 (69 + 5 * x2.toNatClampNeg) 10 14 18 11 15 19 qO8 (qD x2.toNatClampNeg) qO27 qO7 (qDN x2.toNatClampNeg) qO17 qO18 qO19 qO20 qO21 qO22 qO23 qO24 qO25 qO26 (qDL x2.toNatClampNeg) qA35 qA37 qA39 x3 hO8 hr133 hO7 hr134 hO17 hO19 hO21 hA35 hA37 hA39 (q_pd 11 15 rfl) (q_pd 11 19 rfl) (q_pd 15 19 rfl) (q_pd 18 10 rfl) (q_f5 rfl) (q_f5 rfl) (q_f5 rfl) (q_pd 10 14 rfl) (q_pd 14 18 rfl) (q_Ile (x := 0) (y := x3.toInt) (by decide) rfl (by have t1 : 0 ≤ x3.toInt := q_nltI c111; have t2 : x3.toInt ≤ 999 := q_nltI c118; omega)) (q_Ile (x := x3.toInt) (y := 999) rfl (by decide) (by have t1 : 0 ≤ x3.toInt := q_nltI c111; have t2 : x3.toInt ≤ 999 := q_nltI c118; omega)) _) rfl rfl hO8 rfl hl.1 rfl (Nat.le_of_ble_eq_true rfl) ⟨by decide, by decide⟩ ⟨Nat.le_of_ble_eq_true rfl, Nat.le_of_ble_eq_true rfl⟩ d_1_12_70) (fun v138 u137 H locs hp136 V => ?_)
                    rcases hp136 with ⟨y139, y140, y141, rfl, hg142, hO8, hO17, hO19, hO21, hA35, hA37, hA39⟩ | ⟨y143, y144, y145, rfl, hg146, hO8, hO17, hO19, hO21, hA35, hA37, hA39⟩
                    ·
                      replace hF := q_gc hF hg142 (q_al (Nat.le_of_ble_eq_true rfl) (q_al (Nat.le_of_ble_eq_true rfl) (q_al (Nat.le_of_ble_eq_true rfl) (q_al (Nat.le_of_ble_eq_true rfl) (q_al (Nat.le_of_ble_eq_true rfl) (q_al (Nat.le_of_ble_eq_true rfl) (q_al (Nat.le_of_ble_eq_true rfl) (fun _ h => absurd h List.not_mem_nil))))))))
                      refine q_goxv V (q_runSX (As := [.int 1]) (rest := []) (d := 7) (mc := 1) (ms := 6) C0 V rfl LS_NH_138 (c_NH_canHave l D g u137 hlt 1 _) rfl hl.1 rfl (Nat.le_of_ble_eq_true rfl) ⟨by decide, by decide⟩ ⟨Nat.le_of_ble_eq_true rfl, Nat.le_of_ble_eq_true rfl⟩ d_1_12_73) (fun qx Ex ce u148 H locs hp147 V hce hcv hcl => ?_) (fun u148 H locs hp147 V => ?_)
                      ·
                        obtain ⟨c149, rfl, rfl⟩ := hp147
                        exact absurd c149 (by decide)
                      ·
                        obtain ⟨c151, rfl⟩ := hp147
                        refine lv_goto (tgt := 127) hx hb d_1_12_76 (by decide) ?_
                        refine lv_aload_n hx hb d_1_12_127 rfl (lv_at hl 0 rfl) ?_
                        refine lv_iload hx hb d_1_12_128 (lv_at hl 4 rfl) ?_
                        replace hO0 := (hg142 _ (q_nc (q_pd 0 30 rfl) (q_nc (q_pd 0 10 rfl) (q_nc (q_pd 0 14 rfl) (q_nc (q_pd 0 18 rfl) (q_nc (q_pd 0 11 rfl) (q_nc (q_pd 0 15 rfl) (q_nc (q_pd 0 19 rfl) List.not_mem_nil)))))))).trans (hO0)
                        replace hA4 := (hg142 _ (q_nc (q_pd 6 30 rfl) (q_nc (q_pd 6 10 rfl) (q_nc (q_pd 6 14 rfl) (q_nc (q_pd 6 18 rfl) (q_nc (q_pd 6 11 rfl) (q_nc (q_pd 6 15 rfl) (q_nc (q_pd 6 19 rfl) List.not_mem_nil)))))))).trans (hA4)
                        replace hO7 := (hg142 _ (q_nc (q_pd 9 30 rfl) (q_nc (q_pd 9 10 rfl) (q_nc (q_pd 9 14 rfl) (q_nc (q_pd 9 18 rfl) (q_nc (q_pd 9 11 rfl) (q_nc (q_pd 9 15 rfl) (q_nc (q_pd 9 19 rfl) List.not_mem_nil)))))))).trans (hO7)
                        replace FD := fun (i : Nat) (hi : i < 10) => (hg142 _ (q_nc (q_f5 rfl) (q_nc (q_f5 rfl) (q_nc (q_f5 rfl) (q_nc (q_f5 rfl) (q_nc (q_f5 rfl) (q_nc (q_f5 rfl) (q_nc (q_f5 rfl) List.not_mem_nil)))))))).trans (FD i hi)
                        replace FDN := fun (i : Nat) (hi : i < 10) => (hg142 _ (q_nc (q_f5 rfl) (q_nc (q_f5 rfl) (q_nc (q_f5 rfl) (q_nc (q_f5 rfl) (q_nc (q_f5 rfl) (q_nc (q_f5 rfl) (q_nc (q_f5 rfl) List.not_mem_nil)))))))).trans (FDN i hi)
                        replace FDL := fun (i : Nat) (hi : i < 10) => (hg142 _ (q_nc (q_f5 rfl) (q_nc (q_f5 rfl) (q_nc (q_f5 rfl) (q_nc (q_f5 rfl) (q_nc (q_f5 rfl) (q_nc (q_f5 rfl) (q_nc (q_f5 rfl) List.not_mem_nil)))))))).trans (FDL i hi)
                        refine q_gov V (q_runV (As := [.int x4]) (rest := []) (d := 8) (mc := 1) (ms := 6) (ci := 0) C0 V rfl LV_NH_281 (c_NH_keepDecimal l D g u137 hlt qO0 qO1 qO2 qA3 qA4 qA5 qA6 qO7 qO8 qO9 qO10 qO11 qO12 qO13 qO14 qO17 qO18 qO19 qO20 qO21 qO22 qO23 qO24 qO25 qO26 qO27 qA35 x4 f6 hO0 hA4 hO7 hO8 hO17 hA35 (q_Ile (x := 0) (y := x4.toInt) (by decide) rfl (by have t1 : 0 ≤ x4.toInt := q_nltI c49; have t2 : x4.toInt < 10 := q_nleI c50; omega)) (q_Ile (x := x4.toInt) (y := 9) rfl (by decide) (by have t1 : 0 ≤ x4.toInt := q_nltI c49; have t2 : x4.toInt < 10 := q_nleI c50; omega)) qW qWL qD qDN qDL hfD FD FDN FDL _) rfl rfl hO0 rfl hl.1 rfl (Nat.le_of_ble_eq_true rfl) ⟨by decide, by decide⟩ ⟨Nat.le_of_ble_eq_true rfl, Nat.le_of_ble_eq_true rfl⟩ d_1_12_130) (fun u154 H locs hp153 V => ?_)
                        have hg155 := hp153
                        replace hF := q_gt hF hg155
                        exact q_retX (q_retv C0 V (⟨(show ((0 ≤ x1.toInt ∧ x1.toInt ≤ 2) ∧ (0 ≤ x2.toInt ∧ x2.toInt ≤ 9) ∧ (0 ≤ x4.toInt ∧ x4.toInt ≤ 9) ∧ (x1.toInt = 0 → (0 ≤ x3.toInt ∧ x3.toInt ≤ 999))) ∧ ¬ ((x1.toInt = 1 ∧ ¬ (-10000 ≤ x3.toInt ∧ x3.toInt ≤ 10000))) from by have t1 : 0 ≤ x1.toInt := q_nltI c1; have t2 : x1.toInt ≤ 2 := q_nltI c8; have t3 : 0 ≤ x2.toInt := q_nltI c23; have t4 : x2.toInt < 10 := q_nleI c24; have t5 : 0 ≤ x4.toInt := q_nltI c49; have t6 : x4.toInt < 10 := q_nleI c50; have t7 : x1.toInt = 0 := q_eqI c73; have t8 : 0 ≤ x3.toInt := q_nltI c111; have t9 : x3.toInt ≤ 999 := q_nltI c118; omega), hF⟩) d_1_12_133)
                    ·
                      replace hF := q_gc hF hg146 (q_al (Nat.le_of_ble_eq_true rfl) (q_al (Nat.le_of_ble_eq_true rfl) (q_al (Nat.le_of_ble_eq_true rfl) (q_al (Nat.le_of_ble_eq_true rfl) (q_al (Nat.le_of_ble_eq_true rfl) (q_al (Nat.le_of_ble_eq_true rfl) (q_al (Nat.le_of_ble_eq_true rfl) (fun _ h => absurd h List.not_mem_nil))))))))
                      refine q_goxv V (q_runSX (As := [.int 1]) (rest := []) (d := 7) (mc := 1) (ms := 6) C0 V rfl LS_NH_138 (c_NH_canHave l D g u137 hlt 1 _) rfl hl.1 rfl (Nat.le_of_ble_eq_true rfl) ⟨by decide, by decide⟩ ⟨Nat.le_of_ble_eq_true rfl, Nat.le_of_ble_eq_true rfl⟩ d_1_12_73) (fun qx Ex ce u157 H locs hp156 V hce hcv hcl => ?_) (fun u157 H locs hp156 V => ?_)
                      ·
                        obtain ⟨c158, rfl, rfl⟩ := hp156
                        exact absurd c158 (by decide)
                      ·
                        obtain ⟨c160, rfl⟩ := hp156
                        refine lv_goto (tgt := 127) hx hb d_1_12_76 (by decide) ?_
                        refine lv_aload_n hx hb d_1_12_127 rfl (lv_at hl 0 rfl) ?_
                        refine lv_iload hx hb d_1_12_128 (lv_at hl 4 rfl) ?_
                        replace hO0 := (hg146 _ (q_nc (q_pd 0 30 rfl) (q_nc (q_pd 0 10 rfl) (q_nc (q_pd 0 14 rfl) (q_nc (q_pd 0 18 rfl) (q_nc (q_pd 0 11 rfl) (q_nc (q_pd 0 15 rfl) (q_nc (q_pd 0 19 rfl) List.not_mem_nil)))))))).trans (hO0)
                        replace hA4 := (hg146 _ (q_nc (q_pd 6 30 rfl) (q_nc (q_pd 6 10 rfl) (q_nc (q_pd 6 14 rfl) (q_nc (q_pd 6 18 rfl) (q_nc (q_pd 6 11 rfl) (q_nc (q_pd 6 15 rfl) (q_nc (q_pd 6 19 rfl) List.not_mem_nil)))))))).trans (hA4)
                        replace hO7 := (hg146 _ (q_nc (q_pd 9 30 rfl) (q_nc (q_pd 9 10 rfl) (q_nc (q_pd 9 14 rfl) (q_nc (q_pd 9 18 rfl) (q_nc (q_pd 9 11 rfl) (q_nc (q_pd 9 15 rfl) (q_nc (q_pd 9 19 rfl) List.not_mem_nil)))))))).trans (hO7)
                        replace hO22 := (hg146 _ (q_nc (q_pd 20 30 rfl) (q_nc (q_pd 20 10 rfl) (q_nc (q_pd 20 14 rfl) (q_nc (q_pd 20 18 rfl) (q_nc (q_pd 20 11 rfl) (q_nc (q_pd 20 15 rfl) (q_nc (q_pd 20 19 rfl) List.not_mem_nil)))))))).trans (hO22)
                        replace hA40 := (hg146 _ (q_nc (q_pd 21 30 rfl) (q_nc (q_pd 21 10 rfl) (q_nc (q_pd 21 14 rfl) (q_nc (q_pd 21 18 rfl) (q_nc (q_pd 21 11 rfl) (q_nc (q_pd 21 15 rfl) (q_nc (q_pd 21 19 rfl) List.not_mem_nil)))))))).trans (hA40)
                        replace FD := fun (i : Nat) (hi : i < 10) => (hg146 _ (q_nc (q_f5 rfl) (q_nc (q_f5 rfl) (q_nc (q_f5 rfl) (q_nc (q_f5 rfl) (q_nc (q_f5 rfl) (q_nc (q_f5 rfl) (q_nc (q_f5 rfl) List.not_mem_nil)))))))).trans (FD i hi)
                        replace FDN := fun (i : Nat) (hi : i < 10) => (hg146 _ (q_nc (q_f5 rfl) (q_nc (q_f5 rfl) (q_nc (q_f5 rfl) (q_nc (q_f5 rfl) (q_nc (q_f5 rfl) (q_nc (q_f5 rfl) (q_nc (q_f5 rfl) List.not_mem_nil)))))))).trans (FDN i hi)
                        replace FDL := fun (i : Nat) (hi : i < 10) => (hg146 _ (q_nc (q_f5 rfl) (q_nc (q_f5 rfl) (q_nc (q_f5 rfl) (q_nc (q_f5 rfl) (q_nc (q_f5 rfl) (q_nc (q_f5 rfl) (q_nc (q_f5 rfl) List.not_mem_nil)))))))).trans (FDL i hi)
                        refine q_gov V (q_runV (As := [.int x4]) (rest := []) (d := 8) (mc := 1) (ms := 6) (ci := 0) C0 V rfl LV_NH_281 (c_NH_keepDecimal_3 l D g u137 hlt qO0 qO1 qO2 qA3 qA4 qA5 qA6 qO7 qO8 qO9 qO10 qO11 qO12 qO13 qO14 qO17 qO18 qO19 qO20 qO21 qO22 qO23 qO24 qO25 qO26 qO27 qA35 qA40 x4 f6 hO0 hA4 hO7 hO8 hO17 hO22 hA35 hA40 (q_Ile (x := 0) (y := x4.toInt) (by decide) rfl (by have t1 : 0 ≤ x4.toInt := q_nltI c49; have t2 : x4.toInt < 10 := q_nleI c50; omega)) (q_Ile (x := x4.toInt) (y := 9) rfl (by decide) (by have t1 : 0 ≤ x4.toInt := q_nltI c49; have t2 : x4.toInt < 10 := q_nleI c50; omega)) qW qWL qD qDN qDL hfD FD FDN FDL _) rfl rfl hO0 rfl hl.1 rfl (Nat.le_of_ble_eq_true rfl) ⟨by decide, by decide⟩ ⟨Nat.le_of_ble_eq_true rfl, Nat.le_of_ble_eq_true rfl⟩ d_1_12_130) (fun u163 H locs hp162 V => ?_)
                        have hg164 := hp162
                        replace hF := q_gt hF hg164
                        exact q_retX (q_retv C0 V (⟨(show ((0 ≤ x1.toInt ∧ x1.toInt ≤ 2) ∧ (0 ≤ x2.toInt ∧ x2.toInt ≤ 9) ∧ (0 ≤ x4.toInt ∧ x4.toInt ≤ 9) ∧ (x1.toInt = 0 → (0 ≤ x3.toInt ∧ x3.toInt ≤ 999))) ∧ ¬ ((x1.toInt = 1 ∧ ¬ (-10000 ≤ x3.toInt ∧ x3.toInt ≤ 10000))) from by have t1 : 0 ≤ x1.toInt := q_nltI c1; have t2 : x1.toInt ≤ 2 := q_nltI c8; have t3 : 0 ≤ x2.toInt := q_nltI c23; have t4 : x2.toInt < 10 := q_nleI c24; have t5 : 0 ≤ x4.toInt := q_nltI c49; have t6 : x4.toInt < 10 := q_nleI c50; have t7 : x1.toInt = 0 := q_eqI c73; have t8 : 0 ≤ x3.toInt := q_nltI c111; have t9 : x3.toInt ≤ 999 := q_nltI c118; omega), hF⟩) d_1_12_133)
