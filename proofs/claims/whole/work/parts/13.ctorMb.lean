set_option maxRecDepth 100000 in
set_option maxHeartbeats 4000000 in
/-- new NumberHouseModel() -/
theorem c_NM_init (l : Launch) (D : va_G) (g : Nat → ClassId) (ws : va_W) ( qO0 : Nat) (hN : ws.length = 117) (hO0 : ws[116]? = (some (qO0, .inr (12, [.int 0, .null, .int 0, .null, .int 0, .null, .null, .null, .null, .null, .null, .null])) : Option (Nat × va_E))) : q_mV l y_NM_init prog_14_method_1_code 1 3 52 112327 D g [.ref qO0] ws (fun u => ∃ q : Nat → Nat, q 0 = qO0 ∧ q_un ws u [116, 117, 118, 119, 120, 121, 122, 123, 124, 125, 126, 127, 128, 129, 130, 131, 132, 133, 134, 135, 136, 137, 138, 139, 140, 141, 142, 143, 144, 145, 146, 147, 148, 149, 150, 151, 152, 153, 154, 155, 156, 157, 158, 159, 160, 161, 162, 163, 164, 165, 166, 167, 168] ∧ q_fl u 116 (nm_w g q) ∧ u.length = 169) := by
  intro sz
  refine q_into (by decide) (Nat.le_of_ble_eq_true rfl) ?_
  intro p e s m below meth c ls hsz C0 V hl
  have hx := C0.1
  have hb := C0.2.1
  have hl : lv_has ls 1 [(0, .ref qO0)] := hl
  have hF : q_un ws ws [116, 117, 118, 119, 120, 121, 122, 123, 124, 125, 126, 127, 128, 129, 130, 131, 132, 133, 134, 135, 136, 137, 138, 139, 140, 141, 142, 143, 144, 145, 146, 147, 148, 149, 150, 151, 152, 153, 154, 155, 156, 157, 158, 159, 160, 161, 162, 163, 164, 165, 166, 167, 168] := q_u0
  refine lv_aload_n hx hb d_14_1_0 rfl (lv_at hl 0 rfl) ?_
  refine q_obj C0 hl.1 rfl w_1914 w_44 w_45 ⟨by decide, by decide⟩ d_14_1_1 ?_
  refine lv_aload_n hx hb d_14_1_4 rfl (lv_at hl 0 rfl) ?_
  refine lv_sipush (v := 4100) hx hb d_14_1_5 (by decide) ?_
  refine q_newI (N' := 4100) C0 V hN w_107 (by decide) (by decide) (by decide) (Nat.le_of_ble_eq_true rfl) (Nat.le_of_ble_eq_true rfl) d_14_1_8 (fun q1 H w2 hu3 hn4 hN V => ?_)
  have hn0 : w2[117]? = (some (q1, .inl (g 0, 4100, .inl (fun _ => 0))) : Option (Nat × va_E)) := hn4
  replace hF := q_us hF hu3 (.tail _ (.head _))
  replace hN : w2.length = 118 := hN
  replace hO0 := (hu3 _ (q_pd 116 117 rfl)).trans (hO0)
  have ho7 := hO0
  refine q_putF (ci := 12) (j := 1) (v := .ref q1) (ty := .array .int) C0 V i_NM o_NM n_NM rfl rfl rfl rfl rfl hO0 (by decide) w_2299 rfl rfl rfl (Nat.le_of_ble_eq_true rfl) d_14_1_10 (fun H locs w5 hu6 hO0 V => ?_)
  replace hO0 : w5[116]? = (some (qO0, .inr (12, [.int 0, .ref q1, .int 0, .null, .int 0, .null, .null, .null, .null, .null, .null, .null])) : Option (Nat × va_E)) := hO0
  replace hN : w5.length = 118 := (q_len1 hu6 hO0 ho7).trans hN
  replace hF := q_us hF hu6 (.head _)
  refine lv_aload_n hx hb d_14_1_13 rfl (lv_at hl 0 rfl) ?_
  refine lv_sipush (v := 12200) hx hb d_14_1_14 (by decide) ?_
  refine q_newI (N' := 12200) C0 V hN w_107 (by decide) (by decide) (by decide) (Nat.le_of_ble_eq_true rfl) (Nat.le_of_ble_eq_true rfl) d_14_1_17 (fun q8 H w9 hu10 hn11 hN V => ?_)
  have hn1 : w9[118]? = (some (q8, .inl (g 0, 12200, .inl (fun _ => 0))) : Option (Nat × va_E)) := hn11
  replace hF := q_us hF hu10 (.tail _ (.tail _ (.head _)))
  replace hN : w9.length = 119 := hN
  replace hO0 := (hu10 _ (q_pd 116 118 rfl)).trans (hO0)
  have ho14 := hO0
  refine q_putF (ci := 12) (j := 3) (v := .ref q8) (ty := .array .int) C0 V i_NM o_NM n_NM rfl rfl rfl rfl rfl hO0 (by decide) w_2301 rfl rfl rfl (Nat.le_of_ble_eq_true rfl) d_14_1_19 (fun H locs w12 hu13 hO0 V => ?_)
  replace hO0 : w12[116]? = (some (qO0, .inr (12, [.int 0, .ref q1, .int 0, .ref q8, .int 0, .null, .null, .null, .null, .null, .null, .null])) : Option (Nat × va_E)) := hO0
  replace hN : w12.length = 119 := (q_len1 hu13 hO0 ho14).trans hN
  replace hF := q_us hF hu13 (.head _)
  refine lv_aload_n hx hb d_14_1_22 rfl (lv_at hl 0 rfl) ?_
  refine q_new (ci := 13) (fs := [.int 0, .int 0, .null, .int 0, .null, .null, .null, .int 0, .null, .null, .null, .null, .null, .null, .null, .null, .int 0, .int 0, .null, .null, .int 0]) C0 V hN i_WR o_WR rfl w_1915 w_1916 w_15 rfl (fun j hj => by rcases (show j = 0 ∨ j = 1 ∨ j = 2 ∨ j = 3 ∨ j = 4 ∨ j = 5 ∨ j = 6 ∨ j = 7 ∨ j = 8 ∨ j = 9 ∨ j = 10 ∨ j = 11 ∨ j = 12 ∨ j = 13 ∨ j = 14 ∨ j = 15 ∨ j = 16 ∨ j = 17 ∨ j = 18 ∨ j = 19 ∨ j = 20 by omega) with rfl | rfl | rfl | rfl | rfl | rfl | rfl | rfl | rfl | rfl | rfl | rfl | rfl | rfl | rfl | rfl | rfl | rfl | rfl | rfl | rfl <;> rfl) (Nat.le_of_ble_eq_true rfl) (Nat.le_of_ble_eq_true rfl) d_14_1_23 (fun q15 H w16 hu17 hn18 hN V => ?_)
  have hn2 : w16[119]? = (some (q15, .inr (13, [.int 0, .int 0, .null, .int 0, .null, .null, .null, .int 0, .null, .null, .null, .null, .null, .null, .null, .null, .int 0, .int 0, .null, .null, .int 0])) : Option (Nat × va_E)) := hn18
  replace hF := q_us hF hu17 (List.mem_of_getElem? (i := 3) rfl)
  replace hN : w16.length = 120 := hN
  refine lv_dup hx hb d_14_1_26 rfl ?_
  refine q_gov V (q_runI (As := []) (rest := [.ref q15, .ref qO0]) (d := 2) (mc := 14) (ms := 10523) C0 V rfl LI_NM_18 (c_WR_init l D g w16 q15 hN hn2 _) rfl hl.1 rfl (Nat.le_of_ble_eq_true rfl) ⟨by decide, by decide⟩ ⟨Nat.le_of_ble_eq_true rfl, Nat.le_of_ble_eq_true rfl⟩ d_14_1_27) (fun u20 H locs hp19 V => ?_)
  obtain ⟨q21, q22, q23, q24, q25, q26, q27, q28, q29, q30, q31, q32, q33, q34, hg35, hn2, hq36, hq37, hq38, hq39, hq40, hq41, hq42, hq43, hq44, hq45, hq46, hq47, hq48, hq49, hN⟩ := hp19
  replace hF := q_uc hF hg35 (q_sc (List.mem_of_getElem? (i := 3) rfl) (q_sc (List.mem_of_getElem? (i := 4) rfl) (q_sc (List.mem_of_getElem? (i := 5) rfl) (q_sc (List.mem_of_getElem? (i := 6) rfl) (q_sc (List.mem_of_getElem? (i := 7) rfl) (q_sc (List.mem_of_getElem? (i := 8) rfl) (q_sc (List.mem_of_getElem? (i := 9) rfl) (q_sc (List.mem_of_getElem? (i := 10) rfl) (q_sc (List.mem_of_getElem? (i := 11) rfl) (q_sc (List.mem_of_getElem? (i := 12) rfl) (q_sc (List.mem_of_getElem? (i := 13) rfl) (q_sc (List.mem_of_getElem? (i := 14) rfl) (q_sc (List.mem_of_getElem? (i := 15) rfl) (q_sc (List.mem_of_getElem? (i := 16) rfl) (q_sc (List.mem_of_getElem? (i := 17) rfl) (fun _ h => absurd h List.not_mem_nil))))))))))))))))
  have hn3 : u20[120]? = (some (q21, .inl (g 0, 4100, .inl (fun _ => 0))) : Option (Nat × va_E)) := hq36
  have hn4 : u20[121]? = (some (q22, .inl (g 0, 1408, .inl (fun _ => 0))) : Option (Nat × va_E)) := hq37
  have hn5 : u20[122]? = (some (q23, .inl (g 3, 11, .inl (fun _ => 0))) : Option (Nat × va_E)) := hq38
  have hn6 : u20[123]? = (some (q24, .inl (g 0, 264, .inl (fun _ => 0))) : Option (Nat × va_E)) := hq39
  have hn7 : u20[124]? = (some (q25, .inl (g 0, 264, .inl (fun _ => 0))) : Option (Nat × va_E)) := hq40
  have hn8 : u20[125]? = (some (q26, .inl (g 0, 528, .inl (fun _ => 0))) : Option (Nat × va_E)) := hq41
  have hn9 : u20[126]? = (some (q27, .inl (g 0, 264, .inl (fun _ => 0))) : Option (Nat × va_E)) := hq42
  have hn10 : u20[127]? = (some (q28, .inl (g 0, 264, .inl (fun _ => 0))) : Option (Nat × va_E)) := hq43
  have hn11 : u20[128]? = (some (q29, .inl (g 0, 264, .inl (fun _ => 0))) : Option (Nat × va_E)) := hq44
  have hn12 : u20[129]? = (some (q30, .inl (g 0, 264, .inl (fun _ => 0))) : Option (Nat × va_E)) := hq45
  have hn13 : u20[130]? = (some (q31, .inl (g 0, 264, .inl (fun _ => 0))) : Option (Nat × va_E)) := hq46
  have hn14 : u20[131]? = (some (q32, .inl (g 0, 264, .inl (fun _ => 0))) : Option (Nat × va_E)) := hq47
  have hn15 : u20[132]? = (some (q33, .inl (g 0, 264, .inl (fun _ => 0))) : Option (Nat × va_E)) := hq48
  have hn16 : u20[133]? = (some (q34, .inl (g 0, 2100, .inl (fun _ => 0))) : Option (Nat × va_E)) := hq49
  replace hN : u20.length = 134 := hN
  replace hO0 := (hg35 _ (q_nc (q_pd 116 119 rfl) (q_nc (q_pd 116 120 rfl) (q_nc (q_pd 116 121 rfl) (q_nc (q_pd 116 122 rfl) (q_nc (q_pd 116 123 rfl) (q_nc (q_pd 116 124 rfl) (q_nc (q_pd 116 125 rfl) (q_nc (q_pd 116 126 rfl) (q_nc (q_pd 116 127 rfl) (q_nc (q_pd 116 128 rfl) (q_nc (q_pd 116 129 rfl) (q_nc (q_pd 116 130 rfl) (q_nc (q_pd 116 131 rfl) (q_nc (q_pd 116 132 rfl) (q_nc (q_pd 116 133 rfl) List.not_mem_nil)))))))))))))))).trans ((hu17 _ (q_pd 116 119 rfl)).trans (hO0))
  have ho52 := hO0
  refine q_putF (ci := 12) (j := 5) (v := .ref q15) (ty := .object "NumberHouseModel$WholeRows") C0 V i_NM o_NM n_NM rfl rfl rfl rfl rfl hO0 (by decide) w_2303 rfl rfl rfl (Nat.le_of_ble_eq_true rfl) d_14_1_30 (fun H locs w50 hu51 hO0 V => ?_)
  replace hO0 : w50[116]? = (some (qO0, .inr (12, [.int 0, .ref q1, .int 0, .ref q8, .int 0, .ref q15, .null, .null, .null, .null, .null, .null])) : Option (Nat × va_E)) := hO0
  replace hN : w50.length = 134 := (q_len1 hu51 hO0 ho52).trans hN
  replace hF := q_us hF hu51 (.head _)
  refine lv_aload_n hx hb d_14_1_33 rfl (lv_at hl 0 rfl) ?_
  refine q_new (ci := 14) (fs := [.int 0, .null, .int 0, .null, .null, .null, .null, .null, .int 0, .long 0, .int 0, .int 0, .null, .int 0, .null, .int 0, .null, .int 0, .null, .int 0, .int 0]) C0 V hN i_DR o_DR rfl w_1990 w_1991 w_16 rfl (fun j hj => by rcases (show j = 0 ∨ j = 1 ∨ j = 2 ∨ j = 3 ∨ j = 4 ∨ j = 5 ∨ j = 6 ∨ j = 7 ∨ j = 8 ∨ j = 9 ∨ j = 10 ∨ j = 11 ∨ j = 12 ∨ j = 13 ∨ j = 14 ∨ j = 15 ∨ j = 16 ∨ j = 17 ∨ j = 18 ∨ j = 19 ∨ j = 20 by omega) with rfl | rfl | rfl | rfl | rfl | rfl | rfl | rfl | rfl | rfl | rfl | rfl | rfl | rfl | rfl | rfl | rfl | rfl | rfl | rfl | rfl <;> rfl) (Nat.le_of_ble_eq_true rfl) (Nat.le_of_ble_eq_true rfl) d_14_1_34 (fun q53 H w54 hu55 hn56 hN V => ?_)
  have hn17 : w54[134]? = (some (q53, .inr (14, [.int 0, .null, .int 0, .null, .null, .null, .null, .null, .int 0, .long 0, .int 0, .int 0, .null, .int 0, .null, .int 0, .null, .int 0, .null, .int 0, .int 0])) : Option (Nat × va_E)) := hn56
  replace hF := q_us hF hu55 (List.mem_of_getElem? (i := 18) rfl)
  replace hN : w54.length = 135 := hN
  refine lv_dup hx hb d_14_1_37 rfl ?_
  refine q_gov V (q_runI (As := []) (rest := [.ref q53, .ref qO0]) (d := 2) (mc := 10) (ms := 39532) C0 V rfl LI_NM_25 (c_DR_init l D g w54 q53 hN hn17 _) rfl hl.1 rfl (Nat.le_of_ble_eq_true rfl) ⟨by decide, by decide⟩ ⟨Nat.le_of_ble_eq_true rfl, Nat.le_of_ble_eq_true rfl⟩ d_14_1_38) (fun u58 H locs hp57 V => ?_)
  obtain ⟨q59, q60, q61, q62, q63, q64, q65, q66, q67, q68, hg69, hn17, hq70, hq71, hq72, hq73, hq74, hq75, hq76, hq77, hq78, hq79, hN⟩ := hp57
  replace hF := q_uc hF hg69 (q_sc (List.mem_of_getElem? (i := 18) rfl) (q_sc (List.mem_of_getElem? (i := 19) rfl) (q_sc (List.mem_of_getElem? (i := 20) rfl) (q_sc (List.mem_of_getElem? (i := 21) rfl) (q_sc (List.mem_of_getElem? (i := 22) rfl) (q_sc (List.mem_of_getElem? (i := 23) rfl) (q_sc (List.mem_of_getElem? (i := 24) rfl) (q_sc (List.mem_of_getElem? (i := 25) rfl) (q_sc (List.mem_of_getElem? (i := 26) rfl) (q_sc (List.mem_of_getElem? (i := 27) rfl) (q_sc (List.mem_of_getElem? (i := 28) rfl) (fun _ h => absurd h List.not_mem_nil))))))))))))
  have hn18 : u58[135]? = (some (q59, .inl (g 0, 4100, .inl (fun _ => 0))) : Option (Nat × va_E)) := hq70
  have hn19 : u58[136]? = (some (q60, .inl (g 0, 10000, .inl (fun _ => 0))) : Option (Nat × va_E)) := hq71
  have hn20 : u58[137]? = (some (q61, .inl (g 0, 10, .inl (upd (upd (upd (upd (upd (upd (upd (upd (upd (upd (fun _ => 0) 0 1) 1 1) 2 1) 3 1) 4 1) 5 1) 6 1) 7 1) 8 1) 9 1))) : Option (Nat × va_E)) := hq72
  have hn21 : u58[138]? = (some (q62, .inl (g 3, 10, .inl (fun _ => 0))) : Option (Nat × va_E)) := hq73
  have hn22 : u58[139]? = (some (q63, .inl (g 0, 10, .inl (fun _ => 0))) : Option (Nat × va_E)) := hq74
  have hn23 : u58[140]? = (some (q64, .inl (g 0, 4400, .inl (fun _ => 0))) : Option (Nat × va_E)) := hq75
  have hn24 : u58[141]? = (some (q65, .inl (g 0, 4400, .inl (fun _ => 0))) : Option (Nat × va_E)) := hq76
  have hn25 : u58[142]? = (some (q66, .inl (g 0, 2200, .inl (fun _ => 0))) : Option (Nat × va_E)) := hq77
  have hn26 : u58[143]? = (some (q67, .inl (g 0, 2202, .inl (fun _ => 0))) : Option (Nat × va_E)) := hq78
  have hn27 : u58[144]? = (some (q68, .inl (g 0, 12200, .inl (fun _ => 0))) : Option (Nat × va_E)) := hq79
  replace hN : u58.length = 145 := hN
  replace hO0 := (hg69 _ (q_nc (q_pd 116 134 rfl) (q_nc (q_pd 116 135 rfl) (q_nc (q_pd 116 136 rfl) (q_nc (q_pd 116 137 rfl) (q_nc (q_pd 116 138 rfl) (q_nc (q_pd 116 139 rfl) (q_nc (q_pd 116 140 rfl) (q_nc (q_pd 116 141 rfl) (q_nc (q_pd 116 142 rfl) (q_nc (q_pd 116 143 rfl) (q_nc (q_pd 116 144 rfl) List.not_mem_nil)))))))))))).trans ((hu55 _ (q_pd 116 134 rfl)).trans (hO0))
  have ho82 := hO0
  refine q_putF (ci := 12) (j := 6) (v := .ref q53) (ty := .object "NumberHouseModel$DecimalRows") C0 V i_NM o_NM n_NM rfl rfl rfl rfl rfl hO0 (by decide) w_2304 rfl rfl rfl (Nat.le_of_ble_eq_true rfl) d_14_1_41 (fun H locs w80 hu81 hO0 V => ?_)
  replace hO0 : w80[116]? = (some (qO0, .inr (12, [.int 0, .ref q1, .int 0, .ref q8, .int 0, .ref q15, .ref q53, .null, .null, .null, .null, .null])) : Option (Nat × va_E)) := hO0
  replace hN : w80.length = 145 := (q_len1 hu81 hO0 ho82).trans hN
  replace hF := q_us hF hu81 (.head _)
  refine lv_aload_n hx hb d_14_1_44 rfl (lv_at hl 0 rfl) ?_
  refine q_new (ci := 15) (fs := [.int 0, .null, .null, .null, .null, .null, .null, .null, .int 0, .int 0, .int 0, .long 0, .int 0, .int 0, .long 0, .int 0, .long 0, .int 0]) C0 V hN i_FR o_FR rfl w_2068 w_2069 w_17 rfl (fun j hj => by rcases (show j = 0 ∨ j = 1 ∨ j = 2 ∨ j = 3 ∨ j = 4 ∨ j = 5 ∨ j = 6 ∨ j = 7 ∨ j = 8 ∨ j = 9 ∨ j = 10 ∨ j = 11 ∨ j = 12 ∨ j = 13 ∨ j = 14 ∨ j = 15 ∨ j = 16 ∨ j = 17 by omega) with rfl | rfl | rfl | rfl | rfl | rfl | rfl | rfl | rfl | rfl | rfl | rfl | rfl | rfl | rfl | rfl | rfl | rfl <;> rfl) (Nat.le_of_ble_eq_true rfl) (Nat.le_of_ble_eq_true rfl) d_14_1_45 (fun q83 H w84 hu85 hn86 hN V => ?_)
  have hn28 : w84[145]? = (some (q83, .inr (15, [.int 0, .null, .null, .null, .null, .null, .null, .null, .int 0, .int 0, .int 0, .long 0, .int 0, .int 0, .long 0, .int 0, .long 0, .int 0])) : Option (Nat × va_E)) := hn86
  replace hF := q_us hF hu85 (List.mem_of_getElem? (i := 29) rfl)
  replace hN : w84.length = 146 := hN
  refine lv_dup hx hb d_14_1_48 rfl ?_
  refine q_gov V (q_runI (As := []) (rest := [.ref q83, .ref qO0]) (d := 2) (mc := 7) (ms := 7528) C0 V rfl LI_NM_32 (c_FR_init l D g w84 q83 hN hn28 _) rfl hl.1 rfl (Nat.le_of_ble_eq_true rfl) ⟨by decide, by decide⟩ ⟨Nat.le_of_ble_eq_true rfl, Nat.le_of_ble_eq_true rfl⟩ d_14_1_49) (fun u88 H locs hp87 V => ?_)
  obtain ⟨q89, q90, q91, q92, q93, q94, q95, hg96, hn28, hq97, hq98, hq99, hq100, hq101, hq102, hq103, hN⟩ := hp87
  replace hF := q_uc hF hg96 (q_sc (List.mem_of_getElem? (i := 29) rfl) (q_sc (List.mem_of_getElem? (i := 30) rfl) (q_sc (List.mem_of_getElem? (i := 31) rfl) (q_sc (List.mem_of_getElem? (i := 32) rfl) (q_sc (List.mem_of_getElem? (i := 33) rfl) (q_sc (List.mem_of_getElem? (i := 34) rfl) (q_sc (List.mem_of_getElem? (i := 35) rfl) (q_sc (List.mem_of_getElem? (i := 36) rfl) (fun _ h => absurd h List.not_mem_nil)))))))))
  have hn29 : u88[146]? = (some (q89, .inl (g 0, 156, .inl (fun _ => 0))) : Option (Nat × va_E)) := hq97
  have hn30 : u88[147]? = (some (q90, .inl (g 0, 156, .inl (fun _ => 0))) : Option (Nat × va_E)) := hq98
  have hn31 : u88[148]? = (some (q91, .inl (g 0, 1404, .inl (fun _ => 0))) : Option (Nat × va_E)) := hq99
  have hn32 : u88[149]? = (some (q92, .inl (g 0, 1404, .inl (fun _ => 0))) : Option (Nat × va_E)) := hq100
  have hn33 : u88[150]? = (some (q93, .inl (g 0, 1404, .inl (fun _ => 0))) : Option (Nat × va_E)) := hq101
  have hn34 : u88[151]? = (some (q94, .inl (g 0, 1404, .inl (fun _ => 0))) : Option (Nat × va_E)) := hq102
  have hn35 : u88[152]? = (some (q95, .inl (g 0, 1600, .inl (fun _ => 0))) : Option (Nat × va_E)) := hq103
  replace hN : u88.length = 153 := hN
  replace hO0 := (hg96 _ (q_nc (q_pd 116 145 rfl) (q_nc (q_pd 116 146 rfl) (q_nc (q_pd 116 147 rfl) (q_nc (q_pd 116 148 rfl) (q_nc (q_pd 116 149 rfl) (q_nc (q_pd 116 150 rfl) (q_nc (q_pd 116 151 rfl) (q_nc (q_pd 116 152 rfl) List.not_mem_nil))))))))).trans ((hu85 _ (q_pd 116 145 rfl)).trans (hO0))
  have ho106 := hO0
  refine q_putF (ci := 12) (j := 7) (v := .ref q83) (ty := .object "NumberHouseModel$FloatRows") C0 V i_NM o_NM n_NM rfl rfl rfl rfl rfl hO0 (by decide) w_2305 rfl rfl rfl (Nat.le_of_ble_eq_true rfl) d_14_1_52 (fun H locs w104 hu105 hO0 V => ?_)
  replace hO0 : w104[116]? = (some (qO0, .inr (12, [.int 0, .ref q1, .int 0, .ref q8, .int 0, .ref q15, .ref q53, .ref q83, .null, .null, .null, .null])) : Option (Nat × va_E)) := hO0
  replace hN : w104.length = 153 := (q_len1 hu105 hO0 ho106).trans hN
  replace hF := q_us hF hu105 (.head _)
  refine lv_aload_n hx hb d_14_1_55 rfl (lv_at hl 0 rfl) ?_
  refine q_new (ci := 16) (fs := [.int 0, .null, .int 0, .int 0, .int 0, .int 0, .null, .int 0, .int 0, .long 0, .null, .int 0, .int 0, .long 0, .long 0, .int 0, .int 0]) C0 V hN i_TR o_TR rfl w_2131 w_2132 w_18 rfl (fun j hj => by rcases (show j = 0 ∨ j = 1 ∨ j = 2 ∨ j = 3 ∨ j = 4 ∨ j = 5 ∨ j = 6 ∨ j = 7 ∨ j = 8 ∨ j = 9 ∨ j = 10 ∨ j = 11 ∨ j = 12 ∨ j = 13 ∨ j = 14 ∨ j = 15 ∨ j = 16 by omega) with rfl | rfl | rfl | rfl | rfl | rfl | rfl | rfl | rfl | rfl | rfl | rfl | rfl | rfl | rfl | rfl | rfl <;> rfl) (Nat.le_of_ble_eq_true rfl) (Nat.le_of_ble_eq_true rfl) d_14_1_56 (fun q107 H w108 hu109 hn110 hN V => ?_)
  have hn36 : w108[153]? = (some (q107, .inr (16, [.int 0, .null, .int 0, .int 0, .int 0, .int 0, .null, .int 0, .int 0, .long 0, .null, .int 0, .int 0, .long 0, .long 0, .int 0, .int 0])) : Option (Nat × va_E)) := hn110
  replace hF := q_us hF hu109 (List.mem_of_getElem? (i := 37) rfl)
  replace hN : w108.length = 154 := hN
  refine lv_dup hx hb d_14_1_59 rfl ?_
  refine q_gov V (q_runI (As := []) (rest := [.ref q107, .ref qO0]) (d := 2) (mc := 3) (ms := 9000) C0 V rfl LI_NM_39 (c_TR_init l D g w108 q107 hN hn36 _) rfl hl.1 rfl (Nat.le_of_ble_eq_true rfl) ⟨by decide, by decide⟩ ⟨Nat.le_of_ble_eq_true rfl, Nat.le_of_ble_eq_true rfl⟩ d_14_1_60) (fun u112 H locs hp111 V => ?_)
  obtain ⟨q113, q114, q115, hg116, hn36, hq117, hq118, hq119, hN⟩ := hp111
  replace hF := q_uc hF hg116 (q_sc (List.mem_of_getElem? (i := 37) rfl) (q_sc (List.mem_of_getElem? (i := 38) rfl) (q_sc (List.mem_of_getElem? (i := 39) rfl) (q_sc (List.mem_of_getElem? (i := 40) rfl) (fun _ h => absurd h List.not_mem_nil)))))
  have hn37 : u112[154]? = (some (q113, .inl (g 0, 4100, .inl (fun _ => 0))) : Option (Nat × va_E)) := hq117
  have hn38 : u112[155]? = (some (q114, .inl (g 0, 4100, .inl (fun _ => 0))) : Option (Nat × va_E)) := hq118
  have hn39 : u112[156]? = (some (q115, .inl (g 0, 800, .inl (fun _ => 0))) : Option (Nat × va_E)) := hq119
  replace hN : u112.length = 157 := hN
  replace hO0 := (hg116 _ (q_nc (q_pd 116 153 rfl) (q_nc (q_pd 116 154 rfl) (q_nc (q_pd 116 155 rfl) (q_nc (q_pd 116 156 rfl) List.not_mem_nil))))).trans ((hu109 _ (q_pd 116 153 rfl)).trans (hO0))
  have ho122 := hO0
  refine q_putF (ci := 12) (j := 8) (v := .ref q107) (ty := .object "NumberHouseModel$TextRows") C0 V i_NM o_NM n_NM rfl rfl rfl rfl rfl hO0 (by decide) w_2306 rfl rfl rfl (Nat.le_of_ble_eq_true rfl) d_14_1_63 (fun H locs w120 hu121 hO0 V => ?_)
  replace hO0 : w120[116]? = (some (qO0, .inr (12, [.int 0, .ref q1, .int 0, .ref q8, .int 0, .ref q15, .ref q53, .ref q83, .ref q107, .null, .null, .null])) : Option (Nat × va_E)) := hO0
  replace hN : w120.length = 157 := (q_len1 hu121 hO0 ho122).trans hN
  replace hF := q_us hF hu121 (.head _)
  refine lv_aload_n hx hb d_14_1_66 rfl (lv_at hl 0 rfl) ?_
  refine q_new (ci := 17) (fs := [.int 0, .null, .int 0, .int 0, .null, .null, .null, .null, .null, .int 0, .null, .int 0, .int 0, .int 0, .int 0, .int 0, .int 0, .int 0, .int 0, .int 0, .int 0, .int 0, .int 0, .int 0, .null, .int 0, .int 0, .int 0, .null, .int 0, .int 0]) C0 V hN i_VR o_VR rfl w_2192 w_2193 w_19 rfl (fun j hj => by rcases (show j = 0 ∨ j = 1 ∨ j = 2 ∨ j = 3 ∨ j = 4 ∨ j = 5 ∨ j = 6 ∨ j = 7 ∨ j = 8 ∨ j = 9 ∨ j = 10 ∨ j = 11 ∨ j = 12 ∨ j = 13 ∨ j = 14 ∨ j = 15 ∨ j = 16 ∨ j = 17 ∨ j = 18 ∨ j = 19 ∨ j = 20 ∨ j = 21 ∨ j = 22 ∨ j = 23 ∨ j = 24 ∨ j = 25 ∨ j = 26 ∨ j = 27 ∨ j = 28 ∨ j = 29 ∨ j = 30 by omega) with rfl | rfl | rfl | rfl | rfl | rfl | rfl | rfl | rfl | rfl | rfl | rfl | rfl | rfl | rfl | rfl | rfl | rfl | rfl | rfl | rfl | rfl | rfl | rfl | rfl | rfl | rfl | rfl | rfl | rfl | rfl <;> rfl) (Nat.le_of_ble_eq_true rfl) (Nat.le_of_ble_eq_true rfl) d_14_1_67 (fun q123 H w124 hu125 hn126 hN V => ?_)
  have hn40 : w124[157]? = (some (q123, .inr (17, [.int 0, .null, .int 0, .int 0, .null, .null, .null, .null, .null, .int 0, .null, .int 0, .int 0, .int 0, .int 0, .int 0, .int 0, .int 0, .int 0, .int 0, .int 0, .int 0, .int 0, .int 0, .null, .int 0, .int 0, .int 0, .null, .int 0, .int 0])) : Option (Nat × va_E)) := hn126
  replace hF := q_us hF hu125 (List.mem_of_getElem? (i := 41) rfl)
  replace hN : w124.length = 158 := hN
  refine lv_dup hx hb d_14_1_70 rfl ?_
  refine q_gov V (q_runI (As := []) (rest := [.ref q123, .ref qO0]) (d := 2) (mc := 9) (ms := 29315) C0 V rfl LI_NM_46 (c_VR_init l D g w124 q123 hN hn40 _) rfl hl.1 rfl (Nat.le_of_ble_eq_true rfl) ⟨by decide, by decide⟩ ⟨Nat.le_of_ble_eq_true rfl, Nat.le_of_ble_eq_true rfl⟩ d_14_1_71) (fun u128 H locs hp127 V => ?_)
  obtain ⟨q129, q130, q131, q132, q133, q134, q135, q136, q137, hg138, hn40, hq139, hq140, hq141, hq142, hq143, hq144, hq145, hq146, hq147, hN⟩ := hp127
  replace hF := q_uc hF hg138 (q_sc (List.mem_of_getElem? (i := 41) rfl) (q_sc (List.mem_of_getElem? (i := 42) rfl) (q_sc (List.mem_of_getElem? (i := 43) rfl) (q_sc (List.mem_of_getElem? (i := 44) rfl) (q_sc (List.mem_of_getElem? (i := 45) rfl) (q_sc (List.mem_of_getElem? (i := 46) rfl) (q_sc (List.mem_of_getElem? (i := 47) rfl) (q_sc (List.mem_of_getElem? (i := 48) rfl) (q_sc (List.mem_of_getElem? (i := 49) rfl) (q_sc (List.mem_of_getElem? (i := 50) rfl) (fun _ h => absurd h List.not_mem_nil)))))))))))
  have hn41 : u128[158]? = (some (q129, .inl (g 0, 256, .inl (fun _ => 0))) : Option (Nat × va_E)) := hq139
  have hn42 : u128[159]? = (some (q130, .inl (g 0, 9, .inl (fun _ => 0))) : Option (Nat × va_E)) := hq140
  have hn43 : u128[160]? = (some (q131, .inl (g 0, 9, .inl (fun _ => 0))) : Option (Nat × va_E)) := hq141
  have hn44 : u128[161]? = (some (q132, .inl (g 1, 9, .inr (.inl (fun _ => 0)))) : Option (Nat × va_E)) := hq142
  have hn45 : u128[162]? = (some (q133, .inl (g 0, 576, .inl (fun _ => 0))) : Option (Nat × va_E)) := hq143
  have hn46 : u128[163]? = (some (q134, .inl (g 0, 4096, .inl (fun _ => 0))) : Option (Nat × va_E)) := hq144
  have hn47 : u128[164]? = (some (q135, .inl (g 0, 4096, .inl (fun _ => 0))) : Option (Nat × va_E)) := hq145
  have hn48 : u128[165]? = (some (q136, .inl (g 0, 20200, .inl (fun _ => 0))) : Option (Nat × va_E)) := hq146
  have hn49 : u128[166]? = (some (q137, .inl (g 0, 64, .inl (fun _ => 0))) : Option (Nat × va_E)) := hq147
  replace hN : u128.length = 167 := hN
  replace hO0 := (hg138 _ (q_nc (q_pd 116 157 rfl) (q_nc (q_pd 116 158 rfl) (q_nc (q_pd 116 159 rfl) (q_nc (q_pd 116 160 rfl) (q_nc (q_pd 116 161 rfl) (q_nc (q_pd 116 162 rfl) (q_nc (q_pd 116 163 rfl) (q_nc (q_pd 116 164 rfl) (q_nc (q_pd 116 165 rfl) (q_nc (q_pd 116 166 rfl) List.not_mem_nil))))))))))).trans ((hu125 _ (q_pd 116 157 rfl)).trans (hO0))
  have ho150 := hO0
  refine q_putF (ci := 12) (j := 9) (v := .ref q123) (ty := .object "NumberHouseModel$DirectiveRows") C0 V i_NM o_NM n_NM rfl rfl rfl rfl rfl hO0 (by decide) w_2307 rfl rfl rfl (Nat.le_of_ble_eq_true rfl) d_14_1_74 (fun H locs w148 hu149 hO0 V => ?_)
  replace hO0 : w148[116]? = (some (qO0, .inr (12, [.int 0, .ref q1, .int 0, .ref q8, .int 0, .ref q15, .ref q53, .ref q83, .ref q107, .ref q123, .null, .null])) : Option (Nat × va_E)) := hO0
  replace hN : w148.length = 167 := (q_len1 hu149 hO0 ho150).trans hN
  replace hF := q_us hF hu149 (.head _)
  refine lv_aload_n hx hb d_14_1_77 rfl (lv_at hl 0 rfl) ?_
  refine lv_bipush (v := 20) hx hb d_14_1_78 (by decide) ?_
  refine q_newL (N' := 20) C0 V hN w_67 (by decide) (by decide) (by decide) (Nat.le_of_ble_eq_true rfl) (Nat.le_of_ble_eq_true rfl) d_14_1_80 (fun q151 H w152 hu153 hn154 hN V => ?_)
  have hn50 : w152[167]? = (some (q151, .inl (g 1, 20, .inr (.inl (fun _ => 0)))) : Option (Nat × va_E)) := hn154
  replace hF := q_us hF hu153 (List.mem_of_getElem? (i := 51) rfl)
  replace hN : w152.length = 168 := hN
  replace hO0 := (hu153 _ (q_pd 116 167 rfl)).trans (hO0)
  have ho157 := hO0
  refine q_putF (ci := 12) (j := 10) (v := .ref q151) (ty := .array .long) C0 V i_NM o_NM n_NM rfl rfl rfl rfl rfl hO0 (by decide) w_2308 rfl rfl rfl (Nat.le_of_ble_eq_true rfl) d_14_1_82 (fun H locs w155 hu156 hO0 V => ?_)
  replace hO0 : w155[116]? = (some (qO0, .inr (12, [.int 0, .ref q1, .int 0, .ref q8, .int 0, .ref q15, .ref q53, .ref q83, .ref q107, .ref q123, .ref q151, .null])) : Option (Nat × va_E)) := hO0
  replace hN : w155.length = 168 := (q_len1 hu156 hO0 ho157).trans hN
  replace hF := q_us hF hu156 (.head _)
  refine lv_aload_n hx hb d_14_1_85 rfl (lv_at hl 0 rfl) ?_
  refine lv_iconst (v := 1) hx hb d_14_1_86 (by decide) ?_
  refine q_newL (N' := 1) C0 V hN w_67 (by decide) (by decide) (by decide) (Nat.le_of_ble_eq_true rfl) (Nat.le_of_ble_eq_true rfl) d_14_1_87 (fun q158 H w159 hu160 hn161 hN V => ?_)
  have hn51 : w159[168]? = (some (q158, .inl (g 1, 1, .inr (.inl (fun _ => 0)))) : Option (Nat × va_E)) := hn161
  replace hF := q_us hF hu160 (List.mem_of_getElem? (i := 52) rfl)
  replace hN : w159.length = 169 := hN
  replace hO0 := (hu160 _ (q_pd 116 168 rfl)).trans (hO0)
  have ho164 := hO0
  refine q_putF (ci := 12) (j := 11) (v := .ref q158) (ty := .array .long) C0 V i_NM o_NM n_NM rfl rfl rfl rfl rfl hO0 (by decide) w_2309 rfl rfl rfl (Nat.le_of_ble_eq_true rfl) d_14_1_89 (fun H locs w162 hu163 hO0 V => ?_)
  replace hO0 : w162[116]? = (some (qO0, .inr (12, [.int 0, .ref q1, .int 0, .ref q8, .int 0, .ref q15, .ref q53, .ref q83, .ref q107, .ref q123, .ref q151, .ref q158])) : Option (Nat × va_E)) := hO0
  replace hN : w162.length = 169 := (q_len1 hu163 hO0 ho164).trans hN
  replace hF := q_us hF hu163 (.head _)
  have RR : q_un w162 w162 [] := q_u0
  replace RR := q_ub hu163 RR
  replace hn51 := (RR 168 (by decide +kernel)).trans hn51
  replace RR := q_ub hu160 RR
  replace RR := q_ub hu156 RR
  replace hn50 := (RR 167 (by decide +kernel)).trans hn50
  replace RR := q_ub hu153 RR
  replace RR := q_ub hu149 RR
  replace hn40 := (RR 157 (by decide +kernel)).trans hn40
  replace hn41 := (RR 158 (by decide +kernel)).trans hn41
  replace hn42 := (RR 159 (by decide +kernel)).trans hn42
  replace hn43 := (RR 160 (by decide +kernel)).trans hn43
  replace hn44 := (RR 161 (by decide +kernel)).trans hn44
  replace hn45 := (RR 162 (by decide +kernel)).trans hn45
  replace hn46 := (RR 163 (by decide +kernel)).trans hn46
  replace hn47 := (RR 164 (by decide +kernel)).trans hn47
  replace hn48 := (RR 165 (by decide +kernel)).trans hn48
  replace hn49 := (RR 166 (by decide +kernel)).trans hn49
  replace RR := q_ubc hg138 RR
  replace RR := q_ub hu125 RR
  replace RR := q_ub hu121 RR
  replace hn36 := (RR 153 (by decide +kernel)).trans hn36
  replace hn37 := (RR 154 (by decide +kernel)).trans hn37
  replace hn38 := (RR 155 (by decide +kernel)).trans hn38
  replace hn39 := (RR 156 (by decide +kernel)).trans hn39
  replace RR := q_ubc hg116 RR
  replace RR := q_ub hu109 RR
  replace RR := q_ub hu105 RR
  replace hn28 := (RR 145 (by decide +kernel)).trans hn28
  replace hn29 := (RR 146 (by decide +kernel)).trans hn29
  replace hn30 := (RR 147 (by decide +kernel)).trans hn30
  replace hn31 := (RR 148 (by decide +kernel)).trans hn31
  replace hn32 := (RR 149 (by decide +kernel)).trans hn32
  replace hn33 := (RR 150 (by decide +kernel)).trans hn33
  replace hn34 := (RR 151 (by decide +kernel)).trans hn34
  replace hn35 := (RR 152 (by decide +kernel)).trans hn35
  replace RR := q_ubc hg96 RR
  replace RR := q_ub hu85 RR
  replace RR := q_ub hu81 RR
  replace hn17 := (RR 134 (by decide +kernel)).trans hn17
  replace hn18 := (RR 135 (by decide +kernel)).trans hn18
  replace hn19 := (RR 136 (by decide +kernel)).trans hn19
  replace hn20 := (RR 137 (by decide +kernel)).trans hn20
  replace hn21 := (RR 138 (by decide +kernel)).trans hn21
  replace hn22 := (RR 139 (by decide +kernel)).trans hn22
  replace hn23 := (RR 140 (by decide +kernel)).trans hn23
  replace hn24 := (RR 141 (by decide +kernel)).trans hn24
  replace hn25 := (RR 142 (by decide +kernel)).trans hn25
  replace hn26 := (RR 143 (by decide +kernel)).trans hn26
  replace hn27 := (RR 144 (by decide +kernel)).trans hn27
  replace RR := q_ubc hg69 RR
  replace RR := q_ub hu55 RR
  replace RR := q_ub hu51 RR
  replace hn2 := (RR 119 (by decide +kernel)).trans hn2
  replace hn3 := (RR 120 (by decide +kernel)).trans hn3
  replace hn4 := (RR 121 (by decide +kernel)).trans hn4
  replace hn5 := (RR 122 (by decide +kernel)).trans hn5
  replace hn6 := (RR 123 (by decide +kernel)).trans hn6
  replace hn7 := (RR 124 (by decide +kernel)).trans hn7
  replace hn8 := (RR 125 (by decide +kernel)).trans hn8
  replace hn9 := (RR 126 (by decide +kernel)).trans hn9
  replace hn10 := (RR 127 (by decide +kernel)).trans hn10
  replace hn11 := (RR 128 (by decide +kernel)).trans hn11
  replace hn12 := (RR 129 (by decide +kernel)).trans hn12
  replace hn13 := (RR 130 (by decide +kernel)).trans hn13
  replace hn14 := (RR 131 (by decide +kernel)).trans hn14
  replace hn15 := (RR 132 (by decide +kernel)).trans hn15
  replace hn16 := (RR 133 (by decide +kernel)).trans hn16
  replace RR := q_ubc hg35 RR
  replace RR := q_ub hu17 RR
  replace RR := q_ub hu13 RR
  replace hn1 := (RR 118 (by decide +kernel)).trans hn1
  replace RR := q_ub hu10 RR
  replace RR := q_ub hu6 RR
  replace hn0 := (RR 117 (by decide +kernel)).trans hn0
  exact q_retv C0 V (⟨(fun i => ([qO0, q1, q8, q15, q21, q22, q23, q24, q25, q26, q27, q28, q29, q30, q31, q32, q33, q34, q53, q59, q60, q61, q62, q63, q64, q65, q66, q67, q68, q83, q89, q90, q91, q92, q93, q94, q95, q107, q113, q114, q115, q123, q129, q130, q131, q132, q133, q134, q135, q136, q137, q151, q158] : List Nat).getD i 0), rfl, hF, (show q_fl w162 116 (nm_w g (fun i => ([qO0, q1, q8, q15, q21, q22, q23, q24, q25, q26, q27, q28, q29, q30, q31, q32, q33, q34, q53, q59, q60, q61, q62, q63, q64, q65, q66, q67, q68, q83, q89, q90, q91, q92, q93, q94, q95, q107, q113, q114, q115, q123, q129, q130, q131, q132, q133, q134, q135, q136, q137, q151, q158] : List Nat).getD i 0)) from (q_fc hO0 (q_fc hn0 (q_fc hn1 (q_fc hn2 (q_fc hn3 (q_fc hn4 (q_fc hn5 (q_fc hn6 (q_fc hn7 (q_fc hn8 (q_fc hn9 (q_fc hn10 (q_fc hn11 (q_fc hn12 (q_fc hn13 (q_fc hn14 (q_fc hn15 (q_fc hn16 (q_fc hn17 (q_fc hn18 (q_fc hn19 (q_fc hn20 (q_fc hn21 (q_fc hn22 (q_fc hn23 (q_fc hn24 (q_fc hn25 (q_fc hn26 (q_fc hn27 (q_fc hn28 (q_fc hn29 (q_fc hn30 (q_fc hn31 (q_fc hn32 (q_fc hn33 (q_fc hn34 (q_fc hn35 (q_fc hn36 (q_fc hn37 (q_fc hn38 (q_fc hn39 (q_fc hn40 (q_fc hn41 (q_fc hn42 (q_fc hn43 (q_fc hn44 (q_fc hn45 (q_fc hn46 (q_fc hn47 (q_fc hn48 (q_fc hn49 (q_fc hn50 (q_fc hn51 q_fn)))))))))))))))))))))))))))))))))))))))))))))))))))))), hN⟩) d_14_1_92
