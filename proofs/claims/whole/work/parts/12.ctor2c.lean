set_option maxRecDepth 100000 in
set_option maxHeartbeats 4000000 in
theorem c_Pri_init (l : Launch) (D : va_G) (g : Nat → ClassId) (ws : va_W) ( qO0 qO1 qO2 : Nat) (hN : ws.length = 41) (hO0 : ws[40]? = (some (qO0, .inr (11, [.int 0, .null, .null, .null, .null, .null, .null, .null, .null, .int 0, .int 0, .int 0])) : Option (Nat × va_E))) : q_mV l y_Pri_init prog_9_method_1_code 4 3 25 659 D g [.ref qO0, .ref qO1, .ref qO2] ws (fun u => ∃ (q1 : Nat) (q8 : Nat) (q15 : Nat) (q22 : Nat) (q29 : Nat) (q35 : Nat) (q47 : Nat) (q58 : Nat) (q64 : Nat) (q71 : Nat) (q77 : Nat) (q84 : Nat) (q90 : Nat) (q97 : Nat) (q103 : Nat) (q110 : Nat) (q116 : Nat) (q123 : Nat) (q129 : Nat) (q136 : Nat) (q142 : Nat) (q149 : Nat) (q155 : Nat) (q162 : Nat) (q168 : Nat), q_un ws u [40, 41, 42, 43, 44, 45, 46, 47, 48, 49, 50, 51, 52, 53, 54, 55, 56, 57, 58, 59, 60, 61, 62, 63, 64, 65] ∧ u[40]? = (some (qO0, .inr (11, [.int 0, .ref q1, .ref q8, .ref q15, .ref q22, .ref qO1, .ref q47, .ref qO2, .ref q29, .int 0, .int 0, .int 0])) : Option (Nat × va_E)) ∧ u[41]? = (some (q1, .inl (g 0, 9, .inl (fun _ => 0))) : Option (Nat × va_E)) ∧ u[42]? = (some (q8, .inl (g 1, 9, .inr (.inl (fun _ => 0)))) : Option (Nat × va_E)) ∧ u[43]? = (some (q15, .inl (g 0, 9, .inl (fun _ => 0))) : Option (Nat × va_E)) ∧ u[44]? = (some (q22, .inl (g 6, 9, .inr (.inr (.inr (.inr (va_up (va_up (va_up (va_up (va_up (va_up (va_up (va_up (va_up (fun _ => none) 0 (some q58)) 1 (some q71)) 2 (some q84)) 3 (some q97)) 4 (some q110)) 5 (some q123)) 6 (some q136)) 7 (some q149)) 8 (some q162))))))) : Option (Nat × va_E)) ∧ u[45]? = (some (q29, .inr (1, [.ref q35, .int 4104, .int 0])) : Option (Nat × va_E)) ∧ u[46]? = (some (q35, .inl (g 1, 513, .inr (.inl (fun _ => 0)))) : Option (Nat × va_E)) ∧ u[47]? = (some (q47, .inr (10, [.int 0, .int 0, .int 0, .int 0, .int 0, .int 0, .ref qO1, .int 0])) : Option (Nat × va_E)) ∧ u[48]? = (some (q58, .inr (1, [.ref q64, .int 64, .int 0])) : Option (Nat × va_E)) ∧ u[49]? = (some (q64, .inl (g 1, 8, .inr (.inl (fun _ => 0)))) : Option (Nat × va_E)) ∧ u[50]? = (some (q71, .inr (1, [.ref q77, .int 64, .int 0])) : Option (Nat × va_E)) ∧ u[51]? = (some (q77, .inl (g 1, 8, .inr (.inl (fun _ => 0)))) : Option (Nat × va_E)) ∧ u[52]? = (some (q84, .inr (1, [.ref q90, .int 64, .int 0])) : Option (Nat × va_E)) ∧ u[53]? = (some (q90, .inl (g 1, 8, .inr (.inl (fun _ => 0)))) : Option (Nat × va_E)) ∧ u[54]? = (some (q97, .inr (1, [.ref q103, .int 64, .int 0])) : Option (Nat × va_E)) ∧ u[55]? = (some (q103, .inl (g 1, 8, .inr (.inl (fun _ => 0)))) : Option (Nat × va_E)) ∧ u[56]? = (some (q110, .inr (1, [.ref q116, .int 64, .int 0])) : Option (Nat × va_E)) ∧ u[57]? = (some (q116, .inl (g 1, 8, .inr (.inl (fun _ => 0)))) : Option (Nat × va_E)) ∧ u[58]? = (some (q123, .inr (1, [.ref q129, .int 64, .int 0])) : Option (Nat × va_E)) ∧ u[59]? = (some (q129, .inl (g 1, 8, .inr (.inl (fun _ => 0)))) : Option (Nat × va_E)) ∧ u[60]? = (some (q136, .inr (1, [.ref q142, .int 64, .int 0])) : Option (Nat × va_E)) ∧ u[61]? = (some (q142, .inl (g 1, 8, .inr (.inl (fun _ => 0)))) : Option (Nat × va_E)) ∧ u[62]? = (some (q149, .inr (1, [.ref q155, .int 64, .int 0])) : Option (Nat × va_E)) ∧ u[63]? = (some (q155, .inl (g 1, 8, .inr (.inl (fun _ => 0)))) : Option (Nat × va_E)) ∧ u[64]? = (some (q162, .inr (1, [.ref q168, .int 64, .int 0])) : Option (Nat × va_E)) ∧ u[65]? = (some (q168, .inl (g 1, 8, .inr (.inl (fun _ => 0)))) : Option (Nat × va_E)) ∧ u.length = 66) := by
  intro sz
  refine q_into (by decide) (Nat.le_of_ble_eq_true rfl) ?_
  intro p e s m below meth c ls hsz C0 V hl
  have hx := C0.1
  have hb := C0.2.1
  have hl : lv_has ls 4 [(0, .ref qO0), (1, .ref qO1), (2, .ref qO2)] := hl
  have hF : q_un ws ws [40, 41, 42, 43, 44, 45, 46, 47, 48, 49, 50, 51, 52, 53, 54, 55, 56, 57, 58, 59, 60, 61, 62, 63, 64, 65] := q_u0
  refine lv_aload_n hx hb d_9_1_0 rfl (lv_at hl 0 rfl) ?_
  refine q_obj C0 hl.1 rfl w_344 w_44 w_45 ⟨by decide, by decide⟩ d_9_1_1 ?_
  refine lv_aload_n hx hb d_9_1_4 rfl (lv_at hl 0 rfl) ?_
  refine lv_bipush (v := 9) hx hb d_9_1_5 (by decide) ?_
  refine q_newI (N' := 9) C0 V hN w_107 (by decide) (by decide) (by decide) (Nat.le_of_ble_eq_true rfl) (Nat.le_of_ble_eq_true rfl) d_9_1_7 (fun q1 H w2 hu3 hn4 hN V => ?_)
  have hn0 : w2[41]? = (some (q1, .inl (g 0, 9, .inl (fun _ => 0))) : Option (Nat × va_E)) := hn4
  replace hF := q_us hF hu3 (.tail _ (.head _))
  replace hN : w2.length = 42 := hN
  replace hO0 := (hu3 _ (q_pd 40 41 rfl)).trans (hO0)
  have ho7 := hO0
  refine q_putF (ci := 11) (j := 1) (v := .ref q1) (ty := .array .int) C0 V i_Pri o_Pri n_Pri rfl rfl rfl rfl rfl hO0 (by decide) w_386 rfl rfl rfl (Nat.le_of_ble_eq_true rfl) d_9_1_9 (fun H locs w5 hu6 hO0 V => ?_)
  replace hO0 : w5[40]? = (some (qO0, .inr (11, [.int 0, .ref q1, .null, .null, .null, .null, .null, .null, .null, .int 0, .int 0, .int 0])) : Option (Nat × va_E)) := hO0
  replace hN : w5.length = 42 := (q_len1 hu6 hO0 ho7).trans hN
  replace hF := q_us hF hu6 (.head _)
  refine lv_aload_n hx hb d_9_1_12 rfl (lv_at hl 0 rfl) ?_
  refine lv_bipush (v := 9) hx hb d_9_1_13 (by decide) ?_
  refine q_newL (N' := 9) C0 V hN w_67 (by decide) (by decide) (by decide) (Nat.le_of_ble_eq_true rfl) (Nat.le_of_ble_eq_true rfl) d_9_1_15 (fun q8 H w9 hu10 hn11 hN V => ?_)
  have hn1 : w9[42]? = (some (q8, .inl (g 1, 9, .inr (.inl (fun _ => 0)))) : Option (Nat × va_E)) := hn11
  replace hF := q_us hF hu10 (.tail _ (.tail _ (.head _)))
  replace hN : w9.length = 43 := hN
  replace hO0 := (hu10 _ (q_pd 40 42 rfl)).trans (hO0)
  have ho14 := hO0
  refine q_putF (ci := 11) (j := 2) (v := .ref q8) (ty := .array .long) C0 V i_Pri o_Pri n_Pri rfl rfl rfl rfl rfl hO0 (by decide) w_387 rfl rfl rfl (Nat.le_of_ble_eq_true rfl) d_9_1_17 (fun H locs w12 hu13 hO0 V => ?_)
  replace hO0 : w12[40]? = (some (qO0, .inr (11, [.int 0, .ref q1, .ref q8, .null, .null, .null, .null, .null, .null, .int 0, .int 0, .int 0])) : Option (Nat × va_E)) := hO0
  replace hN : w12.length = 43 := (q_len1 hu13 hO0 ho14).trans hN
  replace hF := q_us hF hu13 (.head _)
  refine lv_aload_n hx hb d_9_1_20 rfl (lv_at hl 0 rfl) ?_
  refine lv_bipush (v := 9) hx hb d_9_1_21 (by decide) ?_
  refine q_newI (N' := 9) C0 V hN w_107 (by decide) (by decide) (by decide) (Nat.le_of_ble_eq_true rfl) (Nat.le_of_ble_eq_true rfl) d_9_1_23 (fun q15 H w16 hu17 hn18 hN V => ?_)
  have hn2 : w16[43]? = (some (q15, .inl (g 0, 9, .inl (fun _ => 0))) : Option (Nat × va_E)) := hn18
  replace hF := q_us hF hu17 (List.mem_of_getElem? (i := 3) rfl)
  replace hN : w16.length = 44 := hN
  replace hO0 := (hu17 _ (q_pd 40 43 rfl)).trans (hO0)
  have ho21 := hO0
  refine q_putF (ci := 11) (j := 3) (v := .ref q15) (ty := .array .int) C0 V i_Pri o_Pri n_Pri rfl rfl rfl rfl rfl hO0 (by decide) w_388 rfl rfl rfl (Nat.le_of_ble_eq_true rfl) d_9_1_25 (fun H locs w19 hu20 hO0 V => ?_)
  replace hO0 : w19[40]? = (some (qO0, .inr (11, [.int 0, .ref q1, .ref q8, .ref q15, .null, .null, .null, .null, .null, .int 0, .int 0, .int 0])) : Option (Nat × va_E)) := hO0
  replace hN : w19.length = 44 := (q_len1 hu20 hO0 ho21).trans hN
  replace hF := q_us hF hu20 (.head _)
  refine lv_aload_n hx hb d_9_1_28 rfl (lv_at hl 0 rfl) ?_
  refine lv_bipush (v := 9) hx hb d_9_1_29 (by decide) ?_
  refine q_newQ (t := 6) (E := "NumberHouse$Sheet") (N' := 9) C0 V hN rfl w_345 wo_346 rfl (by decide) (by decide) (by decide) (Nat.le_of_ble_eq_true rfl) (Nat.le_of_ble_eq_true rfl) d_9_1_31 (fun q22 H w23 hu24 hn25 hN V => ?_)
  have hn3 : w23[44]? = (some (q22, .inl (g 6, 9, .inr (.inr (.inr (.inr (fun _ => none)))))) : Option (Nat × va_E)) := hn25
  replace hF := q_us hF hu24 (List.mem_of_getElem? (i := 4) rfl)
  replace hN : w23.length = 45 := hN
  replace hO0 := (hu24 _ (q_pd 40 44 rfl)).trans (hO0)
  have ho28 := hO0
  refine q_putF (ci := 11) (j := 4) (v := .ref q22) (ty := .array (.object "NumberHouse$Sheet")) C0 V i_Pri o_Pri n_Pri rfl rfl rfl rfl rfl hO0 (by decide) w_389 rfl rfl rfl (Nat.le_of_ble_eq_true rfl) d_9_1_34 (fun H locs w26 hu27 hO0 V => ?_)
  replace hO0 : w26[40]? = (some (qO0, .inr (11, [.int 0, .ref q1, .ref q8, .ref q15, .ref q22, .null, .null, .null, .null, .int 0, .int 0, .int 0])) : Option (Nat × va_E)) := hO0
  replace hN : w26.length = 45 := (q_len1 hu27 hO0 ho28).trans hN
  replace hF := q_us hF hu27 (.head _)
  refine lv_aload_n hx hb d_9_1_37 rfl (lv_at hl 0 rfl) ?_
  refine q_new (ci := 1) (fs := [.null, .int 0, .int 0]) C0 V hN i_She o_She rfl w_345 w_47 w_2 rfl (fun j hj => by rcases (show j = 0 ∨ j = 1 ∨ j = 2 by omega) with rfl | rfl | rfl <;> rfl) (Nat.le_of_ble_eq_true rfl) (Nat.le_of_ble_eq_true rfl) d_9_1_38 (fun q29 H w30 hu31 hn32 hN V => ?_)
  have hn4 : w30[45]? = (some (q29, .inr (1, [.null, .int 0, .int 0])) : Option (Nat × va_E)) := hn32
  replace hF := q_us hF hu31 (List.mem_of_getElem? (i := 5) rfl)
  replace hN : w30.length = 46 := hN
  refine lv_dup hx hb d_9_1_41 rfl ?_
  refine lv_sipush (v := 4104) hx hb d_9_1_42 (by decide) ?_
  refine q_gov V (q_runI (As := [.int 4104]) (rest := [.ref q29, .ref qO0]) (d := 2) (mc := 1) (ms := 513) C0 V rfl LI_Pri_28 (c_She_init_3 l D g w30 45 q29 46 hN hn4 _) rfl hl.1 rfl (Nat.le_of_ble_eq_true rfl) ⟨by decide, by decide⟩ ⟨Nat.le_of_ble_eq_true rfl, Nat.le_of_ble_eq_true rfl⟩ d_9_1_45) (fun u34 H locs hp33 V => ?_)
  obtain ⟨q35, hg36, hn4, hq37, hN⟩ := hp33
  replace hF := q_uc hF hg36 (q_sc (List.mem_of_getElem? (i := 5) rfl) (q_sc (List.mem_of_getElem? (i := 6) rfl) (fun _ h => absurd h List.not_mem_nil)))
  have hn5 : u34[46]? = (some (q35, .inl (g 1, 513, .inr (.inl (fun _ => 0)))) : Option (Nat × va_E)) := hq37
  replace hN : u34.length = 47 := hN
  replace hO0 := (hg36 _ (q_nc (q_pd 40 45 rfl) (q_nc (q_pd 40 46 rfl) List.not_mem_nil))).trans ((hu31 _ (q_pd 40 45 rfl)).trans (hO0))
  have ho40 := hO0
  refine q_putF (ci := 11) (j := 8) (v := .ref q29) (ty := .object "NumberHouse$Sheet") C0 V i_Pri o_Pri n_Pri rfl rfl rfl rfl rfl hO0 (by decide) w_393 rfl rfl rfl (Nat.le_of_ble_eq_true rfl) d_9_1_48 (fun H locs w38 hu39 hO0 V => ?_)
  replace hO0 : w38[40]? = (some (qO0, .inr (11, [.int 0, .ref q1, .ref q8, .ref q15, .ref q22, .null, .null, .null, .ref q29, .int 0, .int 0, .int 0])) : Option (Nat × va_E)) := hO0
  replace hN : w38.length = 47 := (q_len1 hu39 hO0 ho40).trans hN
  replace hF := q_us hF hu39 (.head _)
  refine lv_aload_n hx hb d_9_1_51 rfl (lv_at hl 0 rfl) ?_
  refine lv_aload_n hx hb d_9_1_52 rfl (lv_at hl 1 rfl) ?_
  have ho43 := hO0
  refine q_putF (ci := 11) (j := 5) (v := .ref qO1) (ty := .object "NumberHouse$Sheet") C0 V i_Pri o_Pri n_Pri rfl rfl rfl rfl rfl hO0 (by decide) w_390 rfl rfl rfl (Nat.le_of_ble_eq_true rfl) d_9_1_53 (fun H locs w41 hu42 hO0 V => ?_)
  replace hO0 : w41[40]? = (some (qO0, .inr (11, [.int 0, .ref q1, .ref q8, .ref q15, .ref q22, .ref qO1, .null, .null, .ref q29, .int 0, .int 0, .int 0])) : Option (Nat × va_E)) := hO0
  replace hN : w41.length = 47 := (q_len1 hu42 hO0 ho43).trans hN
  replace hF := q_us hF hu42 (.head _)
  refine lv_aload_n hx hb d_9_1_56 rfl (lv_at hl 0 rfl) ?_
  refine lv_aload_n hx hb d_9_1_57 rfl (lv_at hl 2 rfl) ?_
  have ho46 := hO0
  refine q_putF (ci := 11) (j := 7) (v := .ref qO2) (ty := .object "NumberHouse$Digits") C0 V i_Pri o_Pri n_Pri rfl rfl rfl rfl rfl hO0 (by decide) w_392 rfl rfl rfl (Nat.le_of_ble_eq_true rfl) d_9_1_58 (fun H locs w44 hu45 hO0 V => ?_)
  replace hO0 : w44[40]? = (some (qO0, .inr (11, [.int 0, .ref q1, .ref q8, .ref q15, .ref q22, .ref qO1, .null, .ref qO2, .ref q29, .int 0, .int 0, .int 0])) : Option (Nat × va_E)) := hO0
  replace hN : w44.length = 47 := (q_len1 hu45 hO0 ho46).trans hN
  replace hF := q_us hF hu45 (.head _)
  refine lv_aload_n hx hb d_9_1_61 rfl (lv_at hl 0 rfl) ?_
  refine q_new (ci := 10) (fs := [.int 0, .int 0, .int 0, .int 0, .int 0, .int 0, .null, .int 0]) C0 V hN i_Dir o_Dir rfl w_348 w_349 w_13 rfl (fun j hj => by rcases (show j = 0 ∨ j = 1 ∨ j = 2 ∨ j = 3 ∨ j = 4 ∨ j = 5 ∨ j = 6 ∨ j = 7 by omega) with rfl | rfl | rfl | rfl | rfl | rfl | rfl | rfl <;> rfl) (Nat.le_of_ble_eq_true rfl) (Nat.le_of_ble_eq_true rfl) d_9_1_62 (fun q47 H w48 hu49 hn50 hN V => ?_)
  have hn6 : w48[47]? = (some (q47, .inr (10, [.int 0, .int 0, .int 0, .int 0, .int 0, .int 0, .null, .int 0])) : Option (Nat × va_E)) := hn50
  replace hF := q_us hF hu49 (List.mem_of_getElem? (i := 7) rfl)
  replace hN : w48.length = 48 := hN
  refine lv_dup hx hb d_9_1_65 rfl ?_
  refine lv_aload_n hx hb d_9_1_66 rfl (lv_at hl 1 rfl) ?_
  refine q_gov V (q_runI (As := [.ref qO1]) (rest := [.ref q47, .ref qO0]) (d := 2) (mc := 0) (ms := 0) C0 V rfl LI_Pri_44 (c_Dir_init l D g w48 q47 qO1 hN hn6 _) rfl hl.1 rfl (Nat.le_of_ble_eq_true rfl) ⟨by decide, by decide⟩ ⟨Nat.le_of_ble_eq_true rfl, Nat.le_of_ble_eq_true rfl⟩ d_9_1_67) (fun u52 H locs hp51 V => ?_)
  obtain ⟨hg53, hn6, hN⟩ := hp51
  replace hF := q_uc hF hg53 (q_sc (List.mem_of_getElem? (i := 7) rfl) (fun _ h => absurd h List.not_mem_nil))
  replace hN : u52.length = 48 := hN
  replace hO0 := (hg53 _ (q_nc (q_pd 40 47 rfl) List.not_mem_nil)).trans ((hu49 _ (q_pd 40 47 rfl)).trans (hO0))
  have ho56 := hO0
  refine q_putF (ci := 11) (j := 6) (v := .ref q47) (ty := .object "NumberHouse$Directive") C0 V i_Pri o_Pri n_Pri rfl rfl rfl rfl rfl hO0 (by decide) w_391 rfl rfl rfl (Nat.le_of_ble_eq_true rfl) d_9_1_70 (fun H locs w54 hu55 hO0 V => ?_)
  replace hO0 : w54[40]? = (some (qO0, .inr (11, [.int 0, .ref q1, .ref q8, .ref q15, .ref q22, .ref qO1, .ref q47, .ref qO2, .ref q29, .int 0, .int 0, .int 0])) : Option (Nat × va_E)) := hO0
  replace hN : w54.length = 48 := (q_len1 hu55 hO0 ho56).trans hN
  replace hF := q_us hF hu55 (.head _)
  refine lv_iconst (v := 0) hx hb d_9_1_73 (by decide) ?_
  refine lv_istore_n (lv' := [(3, .int 0), (0, .ref qO0), (1, .ref qO1), (2, .ref qO2)]) hx hb d_9_1_74 rfl hl (by decide) rfl (fun ls hl => ?_)
  refine lv_iload_n hx hb d_9_1_75 rfl (lv_at hl 0 rfl) ?_
  refine lv_bipush (v := 9) hx hb d_9_1_76 (by decide) ?_
  refine lv_icmp_ge (tgt := 102) hx hb d_9_1_78 (by decide) (fun c57 => absurd c57 (by decide)) (fun c57 => ?_)
  refine lv_aload_n hx hb d_9_1_81 rfl (lv_at hl 1 rfl) ?_
  refine q_get (ci := 11) (j := 4) (v := .ref q22) C0 V i_Pri rfl rfl hO0 (by decide) w_389 rfl d_9_1_82 ?_
  refine lv_iload_n hx hb d_9_1_85 rfl (lv_at hl 0 rfl) ?_
  refine q_new (ci := 1) (fs := [.null, .int 0, .int 0]) C0 V hN i_She o_She rfl w_345 w_47 w_2 rfl (fun j hj => by rcases (show j = 0 ∨ j = 1 ∨ j = 2 by omega) with rfl | rfl | rfl <;> rfl) (Nat.le_of_ble_eq_true rfl) (Nat.le_of_ble_eq_true rfl) d_9_1_86 (fun q58 H w59 hu60 hn61 hN V => ?_)
  have hn7 : w59[48]? = (some (q58, .inr (1, [.null, .int 0, .int 0])) : Option (Nat × va_E)) := hn61
  replace hF := q_us hF hu60 (List.mem_of_getElem? (i := 8) rfl)
  replace hN : w59.length = 49 := hN
  refine lv_dup hx hb d_9_1_89 rfl ?_
  refine lv_bipush (v := 64) hx hb d_9_1_90 (by decide) ?_
  refine q_gov V (q_runI (As := [.int 64]) (rest := [.ref q58, .int 0, .ref q22]) (d := 2) (mc := 1) (ms := 8) C0 V rfl LI_Pri_28 (c_She_init_4 l D g w59 48 q58 49 hN hn7 _) rfl hl.1 rfl (Nat.le_of_ble_eq_true rfl) ⟨by decide, by decide⟩ ⟨Nat.le_of_ble_eq_true rfl, Nat.le_of_ble_eq_true rfl⟩ d_9_1_92) (fun u63 H locs hp62 V => ?_)
  obtain ⟨q64, hg65, hn7, hq66, hN⟩ := hp62
  replace hF := q_uc hF hg65 (q_sc (List.mem_of_getElem? (i := 8) rfl) (q_sc (List.mem_of_getElem? (i := 9) rfl) (fun _ h => absurd h List.not_mem_nil)))
  have hn8 : u63[49]? = (some (q64, .inl (g 1, 8, .inr (.inl (fun _ => 0)))) : Option (Nat × va_E)) := hq66
  replace hN : u63.length = 50 := hN
  replace hn3 := (hg65 _ (q_nc (q_pd 44 48 rfl) (q_nc (q_pd 44 49 rfl) List.not_mem_nil))).trans ((hu60 _ (q_pd 44 48 rfl)).trans ((hu55 _ (q_pd 44 40 rfl)).trans ((hg53 _ (q_nc (q_pd 44 47 rfl) List.not_mem_nil)).trans ((hu49 _ (q_pd 44 47 rfl)).trans ((hu45 _ (q_pd 44 40 rfl)).trans ((hu42 _ (q_pd 44 40 rfl)).trans ((hu39 _ (q_pd 44 40 rfl)).trans ((hg36 _ (q_nc (q_pd 44 45 rfl) (q_nc (q_pd 44 46 rfl) List.not_mem_nil))).trans ((hu31 _ (q_pd 44 45 rfl)).trans ((hu27 _ (q_pd 44 40 rfl)).trans (hn3)))))))))))
  have ho67 := hn3
  refine q_aast (t := 6) (ci := 1) (i9 := 0) C0 V hn3 rfl hn7 rfl (by decide) (by unfold vp_in; decide) d_9_1_95 (fun H locs w68 hu69 hn3 V => ?_)
  replace hn3 : w68[44]? = (some (q22, .inl (g 6, 9, .inr (.inr (.inr (.inr (va_up (fun _ => none) 0 (some q58))))))) : Option (Nat × va_E)) := hn3
  replace hN : w68.length = 50 := (q_len1 hu69 hn3 ho67).trans hN
  replace hF := q_us hF hu69 (List.mem_of_getElem? (i := 4) rfl)
  refine lv_iinc (v := 1) (lv' := [(3, .int 1), (0, .ref qO0), (1, .ref qO1), (2, .ref qO2)]) hx hb d_9_1_96 hl (k := 0) rfl (by decide) (by decide) rfl (fun ls hl => ?_)
  refine lv_goto (tgt := 75) hx hb d_9_1_99 (by decide) ?_
  refine lv_iload_n hx hb d_9_1_75 rfl (lv_at hl 0 rfl) ?_
  refine lv_bipush (v := 9) hx hb d_9_1_76 (by decide) ?_
  refine lv_icmp_ge (tgt := 102) hx hb d_9_1_78 (by decide) (fun c70 => absurd c70 (by decide)) (fun c70 => ?_)
  refine lv_aload_n hx hb d_9_1_81 rfl (lv_at hl 1 rfl) ?_
  replace hO0 := (hu69 _ (q_pd 40 44 rfl)).trans ((hg65 _ (q_nc (q_pd 40 48 rfl) (q_nc (q_pd 40 49 rfl) List.not_mem_nil))).trans ((hu60 _ (q_pd 40 48 rfl)).trans (hO0)))
  refine q_get (ci := 11) (j := 4) (v := .ref q22) C0 V i_Pri rfl rfl hO0 (by decide) w_389 rfl d_9_1_82 ?_
  refine lv_iload_n hx hb d_9_1_85 rfl (lv_at hl 0 rfl) ?_
  refine q_new (ci := 1) (fs := [.null, .int 0, .int 0]) C0 V hN i_She o_She rfl w_345 w_47 w_2 rfl (fun j hj => by rcases (show j = 0 ∨ j = 1 ∨ j = 2 by omega) with rfl | rfl | rfl <;> rfl) (Nat.le_of_ble_eq_true rfl) (Nat.le_of_ble_eq_true rfl) d_9_1_86 (fun q71 H w72 hu73 hn74 hN V => ?_)
  have hn9 : w72[50]? = (some (q71, .inr (1, [.null, .int 0, .int 0])) : Option (Nat × va_E)) := hn74
  replace hF := q_us hF hu73 (List.mem_of_getElem? (i := 10) rfl)
  replace hN : w72.length = 51 := hN
  refine lv_dup hx hb d_9_1_89 rfl ?_
  refine lv_bipush (v := 64) hx hb d_9_1_90 (by decide) ?_
  refine q_gov V (q_runI (As := [.int 64]) (rest := [.ref q71, .int 1, .ref q22]) (d := 2) (mc := 1) (ms := 8) C0 V rfl LI_Pri_28 (c_She_init_4 l D g w72 50 q71 51 hN hn9 _) rfl hl.1 rfl (Nat.le_of_ble_eq_true rfl) ⟨by decide, by decide⟩ ⟨Nat.le_of_ble_eq_true rfl, Nat.le_of_ble_eq_true rfl⟩ d_9_1_92) (fun u76 H locs hp75 V => ?_)
  obtain ⟨q77, hg78, hn9, hq79, hN⟩ := hp75
  replace hF := q_uc hF hg78 (q_sc (List.mem_of_getElem? (i := 10) rfl) (q_sc (List.mem_of_getElem? (i := 11) rfl) (fun _ h => absurd h List.not_mem_nil)))
  have hn10 : u76[51]? = (some (q77, .inl (g 1, 8, .inr (.inl (fun _ => 0)))) : Option (Nat × va_E)) := hq79
  replace hN : u76.length = 52 := hN
  replace hn3 := (hg78 _ (q_nc (q_pd 44 50 rfl) (q_nc (q_pd 44 51 rfl) List.not_mem_nil))).trans ((hu73 _ (q_pd 44 50 rfl)).trans (hn3))
  have ho80 := hn3
  refine q_aast (t := 6) (ci := 1) (i9 := 1) C0 V hn3 rfl hn9 rfl (by decide) (by unfold vp_in; decide) d_9_1_95 (fun H locs w81 hu82 hn3 V => ?_)
  replace hn3 : w81[44]? = (some (q22, .inl (g 6, 9, .inr (.inr (.inr (.inr (va_up (va_up (fun _ => none) 0 (some q58)) 1 (some q71))))))) : Option (Nat × va_E)) := hn3
  replace hN : w81.length = 52 := (q_len1 hu82 hn3 ho80).trans hN
  replace hF := q_us hF hu82 (List.mem_of_getElem? (i := 4) rfl)
  refine lv_iinc (v := 2) (lv' := [(3, .int 2), (0, .ref qO0), (1, .ref qO1), (2, .ref qO2)]) hx hb d_9_1_96 hl (k := 0) rfl (by decide) (by decide) rfl (fun ls hl => ?_)
  refine lv_goto (tgt := 75) hx hb d_9_1_99 (by decide) ?_
  refine lv_iload_n hx hb d_9_1_75 rfl (lv_at hl 0 rfl) ?_
  refine lv_bipush (v := 9) hx hb d_9_1_76 (by decide) ?_
  refine lv_icmp_ge (tgt := 102) hx hb d_9_1_78 (by decide) (fun c83 => absurd c83 (by decide)) (fun c83 => ?_)
  refine lv_aload_n hx hb d_9_1_81 rfl (lv_at hl 1 rfl) ?_
  replace hO0 := (hu82 _ (q_pd 40 44 rfl)).trans ((hg78 _ (q_nc (q_pd 40 50 rfl) (q_nc (q_pd 40 51 rfl) List.not_mem_nil))).trans ((hu73 _ (q_pd 40 50 rfl)).trans (hO0)))
  refine q_get (ci := 11) (j := 4) (v := .ref q22) C0 V i_Pri rfl rfl hO0 (by decide) w_389 rfl d_9_1_82 ?_
  refine lv_iload_n hx hb d_9_1_85 rfl (lv_at hl 0 rfl) ?_
  refine q_new (ci := 1) (fs := [.null, .int 0, .int 0]) C0 V hN i_She o_She rfl w_345 w_47 w_2 rfl (fun j hj => by rcases (show j = 0 ∨ j = 1 ∨ j = 2 by omega) with rfl | rfl | rfl <;> rfl) (Nat.le_of_ble_eq_true rfl) (Nat.le_of_ble_eq_true rfl) d_9_1_86 (fun q84 H w85 hu86 hn87 hN V => ?_)
  have hn11 : w85[52]? = (some (q84, .inr (1, [.null, .int 0, .int 0])) : Option (Nat × va_E)) := hn87
  replace hF := q_us hF hu86 (List.mem_of_getElem? (i := 12) rfl)
  replace hN : w85.length = 53 := hN
  refine lv_dup hx hb d_9_1_89 rfl ?_
  refine lv_bipush (v := 64) hx hb d_9_1_90 (by decide) ?_
  refine q_gov V (q_runI (As := [.int 64]) (rest := [.ref q84, .int 2, .ref q22]) (d := 2) (mc := 1) (ms := 8) C0 V rfl LI_Pri_28 (c_She_init_4 l D g w85 52 q84 53 hN hn11 _) rfl hl.1 rfl (Nat.le_of_ble_eq_true rfl) ⟨by decide, by decide⟩ ⟨Nat.le_of_ble_eq_true rfl, Nat.le_of_ble_eq_true rfl⟩ d_9_1_92) (fun u89 H locs hp88 V => ?_)
  obtain ⟨q90, hg91, hn11, hq92, hN⟩ := hp88
  replace hF := q_uc hF hg91 (q_sc (List.mem_of_getElem? (i := 12) rfl) (q_sc (List.mem_of_getElem? (i := 13) rfl) (fun _ h => absurd h List.not_mem_nil)))
  have hn12 : u89[53]? = (some (q90, .inl (g 1, 8, .inr (.inl (fun _ => 0)))) : Option (Nat × va_E)) := hq92
  replace hN : u89.length = 54 := hN
  replace hn3 := (hg91 _ (q_nc (q_pd 44 52 rfl) (q_nc (q_pd 44 53 rfl) List.not_mem_nil))).trans ((hu86 _ (q_pd 44 52 rfl)).trans (hn3))
  have ho93 := hn3
  refine q_aast (t := 6) (ci := 1) (i9 := 2) C0 V hn3 rfl hn11 rfl (by decide) (by unfold vp_in; decide) d_9_1_95 (fun H locs w94 hu95 hn3 V => ?_)
  replace hn3 : w94[44]? = (some (q22, .inl (g 6, 9, .inr (.inr (.inr (.inr (va_up (va_up (va_up (fun _ => none) 0 (some q58)) 1 (some q71)) 2 (some q84))))))) : Option (Nat × va_E)) := hn3
  replace hN : w94.length = 54 := (q_len1 hu95 hn3 ho93).trans hN
  replace hF := q_us hF hu95 (List.mem_of_getElem? (i := 4) rfl)
  refine lv_iinc (v := 3) (lv' := [(3, .int 3), (0, .ref qO0), (1, .ref qO1), (2, .ref qO2)]) hx hb d_9_1_96 hl (k := 0) rfl (by decide) (by decide) rfl (fun ls hl => ?_)
  refine lv_goto (tgt := 75) hx hb d_9_1_99 (by decide) ?_
  refine lv_iload_n hx hb d_9_1_75 rfl (lv_at hl 0 rfl) ?_
  refine lv_bipush (v := 9) hx hb d_9_1_76 (by decide) ?_
  refine lv_icmp_ge (tgt := 102) hx hb d_9_1_78 (by decide) (fun c96 => absurd c96 (by decide)) (fun c96 => ?_)
  refine lv_aload_n hx hb d_9_1_81 rfl (lv_at hl 1 rfl) ?_
  replace hO0 := (hu95 _ (q_pd 40 44 rfl)).trans ((hg91 _ (q_nc (q_pd 40 52 rfl) (q_nc (q_pd 40 53 rfl) List.not_mem_nil))).trans ((hu86 _ (q_pd 40 52 rfl)).trans (hO0)))
  refine q_get (ci := 11) (j := 4) (v := .ref q22) C0 V i_Pri rfl rfl hO0 (by decide) w_389 rfl d_9_1_82 ?_
  refine lv_iload_n hx hb d_9_1_85 rfl (lv_at hl 0 rfl) ?_
  refine q_new (ci := 1) (fs := [.null, .int 0, .int 0]) C0 V hN i_She o_She rfl w_345 w_47 w_2 rfl (fun j hj => by rcases (show j = 0 ∨ j = 1 ∨ j = 2 by omega) with rfl | rfl | rfl <;> rfl) (Nat.le_of_ble_eq_true rfl) (Nat.le_of_ble_eq_true rfl) d_9_1_86 (fun q97 H w98 hu99 hn100 hN V => ?_)
  have hn13 : w98[54]? = (some (q97, .inr (1, [.null, .int 0, .int 0])) : Option (Nat × va_E)) := hn100
  replace hF := q_us hF hu99 (List.mem_of_getElem? (i := 14) rfl)
  replace hN : w98.length = 55 := hN
  refine lv_dup hx hb d_9_1_89 rfl ?_
  refine lv_bipush (v := 64) hx hb d_9_1_90 (by decide) ?_
  refine q_gov V (q_runI (As := [.int 64]) (rest := [.ref q97, .int 3, .ref q22]) (d := 2) (mc := 1) (ms := 8) C0 V rfl LI_Pri_28 (c_She_init_4 l D g w98 54 q97 55 hN hn13 _) rfl hl.1 rfl (Nat.le_of_ble_eq_true rfl) ⟨by decide, by decide⟩ ⟨Nat.le_of_ble_eq_true rfl, Nat.le_of_ble_eq_true rfl⟩ d_9_1_92) (fun u102 H locs hp101 V => ?_)
  obtain ⟨q103, hg104, hn13, hq105, hN⟩ := hp101
  replace hF := q_uc hF hg104 (q_sc (List.mem_of_getElem? (i := 14) rfl) (q_sc (List.mem_of_getElem? (i := 15) rfl) (fun _ h => absurd h List.not_mem_nil)))
  have hn14 : u102[55]? = (some (q103, .inl (g 1, 8, .inr (.inl (fun _ => 0)))) : Option (Nat × va_E)) := hq105
  replace hN : u102.length = 56 := hN
  replace hn3 := (hg104 _ (q_nc (q_pd 44 54 rfl) (q_nc (q_pd 44 55 rfl) List.not_mem_nil))).trans ((hu99 _ (q_pd 44 54 rfl)).trans (hn3))
  have ho106 := hn3
  refine q_aast (t := 6) (ci := 1) (i9 := 3) C0 V hn3 rfl hn13 rfl (by decide) (by unfold vp_in; decide) d_9_1_95 (fun H locs w107 hu108 hn3 V => ?_)
  replace hn3 : w107[44]? = (some (q22, .inl (g 6, 9, .inr (.inr (.inr (.inr (va_up (va_up (va_up (va_up (fun _ => none) 0 (some q58)) 1 (some q71)) 2 (some q84)) 3 (some q97))))))) : Option (Nat × va_E)) := hn3
  replace hN : w107.length = 56 := (q_len1 hu108 hn3 ho106).trans hN
  replace hF := q_us hF hu108 (List.mem_of_getElem? (i := 4) rfl)
  refine lv_iinc (v := 4) (lv' := [(3, .int 4), (0, .ref qO0), (1, .ref qO1), (2, .ref qO2)]) hx hb d_9_1_96 hl (k := 0) rfl (by decide) (by decide) rfl (fun ls hl => ?_)
  refine lv_goto (tgt := 75) hx hb d_9_1_99 (by decide) ?_
  refine lv_iload_n hx hb d_9_1_75 rfl (lv_at hl 0 rfl) ?_
  refine lv_bipush (v := 9) hx hb d_9_1_76 (by decide) ?_
  refine lv_icmp_ge (tgt := 102) hx hb d_9_1_78 (by decide) (fun c109 => absurd c109 (by decide)) (fun c109 => ?_)
  refine lv_aload_n hx hb d_9_1_81 rfl (lv_at hl 1 rfl) ?_
  replace hO0 := (hu108 _ (q_pd 40 44 rfl)).trans ((hg104 _ (q_nc (q_pd 40 54 rfl) (q_nc (q_pd 40 55 rfl) List.not_mem_nil))).trans ((hu99 _ (q_pd 40 54 rfl)).trans (hO0)))
  refine q_get (ci := 11) (j := 4) (v := .ref q22) C0 V i_Pri rfl rfl hO0 (by decide) w_389 rfl d_9_1_82 ?_
  refine lv_iload_n hx hb d_9_1_85 rfl (lv_at hl 0 rfl) ?_
  refine q_new (ci := 1) (fs := [.null, .int 0, .int 0]) C0 V hN i_She o_She rfl w_345 w_47 w_2 rfl (fun j hj => by rcases (show j = 0 ∨ j = 1 ∨ j = 2 by omega) with rfl | rfl | rfl <;> rfl) (Nat.le_of_ble_eq_true rfl) (Nat.le_of_ble_eq_true rfl) d_9_1_86 (fun q110 H w111 hu112 hn113 hN V => ?_)
  have hn15 : w111[56]? = (some (q110, .inr (1, [.null, .int 0, .int 0])) : Option (Nat × va_E)) := hn113
  replace hF := q_us hF hu112 (List.mem_of_getElem? (i := 16) rfl)
  replace hN : w111.length = 57 := hN
  refine lv_dup hx hb d_9_1_89 rfl ?_
  refine lv_bipush (v := 64) hx hb d_9_1_90 (by decide) ?_
  refine q_gov V (q_runI (As := [.int 64]) (rest := [.ref q110, .int 4, .ref q22]) (d := 2) (mc := 1) (ms := 8) C0 V rfl LI_Pri_28 (c_She_init_4 l D g w111 56 q110 57 hN hn15 _) rfl hl.1 rfl (Nat.le_of_ble_eq_true rfl) ⟨by decide, by decide⟩ ⟨Nat.le_of_ble_eq_true rfl, Nat.le_of_ble_eq_true rfl⟩ d_9_1_92) (fun u115 H locs hp114 V => ?_)
  obtain ⟨q116, hg117, hn15, hq118, hN⟩ := hp114
  replace hF := q_uc hF hg117 (q_sc (List.mem_of_getElem? (i := 16) rfl) (q_sc (List.mem_of_getElem? (i := 17) rfl) (fun _ h => absurd h List.not_mem_nil)))
  have hn16 : u115[57]? = (some (q116, .inl (g 1, 8, .inr (.inl (fun _ => 0)))) : Option (Nat × va_E)) := hq118
  replace hN : u115.length = 58 := hN
  replace hn3 := (hg117 _ (q_nc (q_pd 44 56 rfl) (q_nc (q_pd 44 57 rfl) List.not_mem_nil))).trans ((hu112 _ (q_pd 44 56 rfl)).trans (hn3))
  have ho119 := hn3
  refine q_aast (t := 6) (ci := 1) (i9 := 4) C0 V hn3 rfl hn15 rfl (by decide) (by unfold vp_in; decide) d_9_1_95 (fun H locs w120 hu121 hn3 V => ?_)
  replace hn3 : w120[44]? = (some (q22, .inl (g 6, 9, .inr (.inr (.inr (.inr (va_up (va_up (va_up (va_up (va_up (fun _ => none) 0 (some q58)) 1 (some q71)) 2 (some q84)) 3 (some q97)) 4 (some q110))))))) : Option (Nat × va_E)) := hn3
  replace hN : w120.length = 58 := (q_len1 hu121 hn3 ho119).trans hN
  replace hF := q_us hF hu121 (List.mem_of_getElem? (i := 4) rfl)
  refine lv_iinc (v := 5) (lv' := [(3, .int 5), (0, .ref qO0), (1, .ref qO1), (2, .ref qO2)]) hx hb d_9_1_96 hl (k := 0) rfl (by decide) (by decide) rfl (fun ls hl => ?_)
  refine lv_goto (tgt := 75) hx hb d_9_1_99 (by decide) ?_
  refine lv_iload_n hx hb d_9_1_75 rfl (lv_at hl 0 rfl) ?_
  refine lv_bipush (v := 9) hx hb d_9_1_76 (by decide) ?_
  refine lv_icmp_ge (tgt := 102) hx hb d_9_1_78 (by decide) (fun c122 => absurd c122 (by decide)) (fun c122 => ?_)
  refine lv_aload_n hx hb d_9_1_81 rfl (lv_at hl 1 rfl) ?_
  replace hO0 := (hu121 _ (q_pd 40 44 rfl)).trans ((hg117 _ (q_nc (q_pd 40 56 rfl) (q_nc (q_pd 40 57 rfl) List.not_mem_nil))).trans ((hu112 _ (q_pd 40 56 rfl)).trans (hO0)))
  refine q_get (ci := 11) (j := 4) (v := .ref q22) C0 V i_Pri rfl rfl hO0 (by decide) w_389 rfl d_9_1_82 ?_
  refine lv_iload_n hx hb d_9_1_85 rfl (lv_at hl 0 rfl) ?_
  refine q_new (ci := 1) (fs := [.null, .int 0, .int 0]) C0 V hN i_She o_She rfl w_345 w_47 w_2 rfl (fun j hj => by rcases (show j = 0 ∨ j = 1 ∨ j = 2 by omega) with rfl | rfl | rfl <;> rfl) (Nat.le_of_ble_eq_true rfl) (Nat.le_of_ble_eq_true rfl) d_9_1_86 (fun q123 H w124 hu125 hn126 hN V => ?_)
  have hn17 : w124[58]? = (some (q123, .inr (1, [.null, .int 0, .int 0])) : Option (Nat × va_E)) := hn126
  replace hF := q_us hF hu125 (List.mem_of_getElem? (i := 18) rfl)
  replace hN : w124.length = 59 := hN
  refine lv_dup hx hb d_9_1_89 rfl ?_
  refine lv_bipush (v := 64) hx hb d_9_1_90 (by decide) ?_
  refine q_gov V (q_runI (As := [.int 64]) (rest := [.ref q123, .int 5, .ref q22]) (d := 2) (mc := 1) (ms := 8) C0 V rfl LI_Pri_28 (c_She_init_4 l D g w124 58 q123 59 hN hn17 _) rfl hl.1 rfl (Nat.le_of_ble_eq_true rfl) ⟨by decide, by decide⟩ ⟨Nat.le_of_ble_eq_true rfl, Nat.le_of_ble_eq_true rfl⟩ d_9_1_92) (fun u128 H locs hp127 V => ?_)
  obtain ⟨q129, hg130, hn17, hq131, hN⟩ := hp127
  replace hF := q_uc hF hg130 (q_sc (List.mem_of_getElem? (i := 18) rfl) (q_sc (List.mem_of_getElem? (i := 19) rfl) (fun _ h => absurd h List.not_mem_nil)))
  have hn18 : u128[59]? = (some (q129, .inl (g 1, 8, .inr (.inl (fun _ => 0)))) : Option (Nat × va_E)) := hq131
  replace hN : u128.length = 60 := hN
  replace hn3 := (hg130 _ (q_nc (q_pd 44 58 rfl) (q_nc (q_pd 44 59 rfl) List.not_mem_nil))).trans ((hu125 _ (q_pd 44 58 rfl)).trans (hn3))
  have ho132 := hn3
  refine q_aast (t := 6) (ci := 1) (i9 := 5) C0 V hn3 rfl hn17 rfl (by decide) (by unfold vp_in; decide) d_9_1_95 (fun H locs w133 hu134 hn3 V => ?_)
  replace hn3 : w133[44]? = (some (q22, .inl (g 6, 9, .inr (.inr (.inr (.inr (va_up (va_up (va_up (va_up (va_up (va_up (fun _ => none) 0 (some q58)) 1 (some q71)) 2 (some q84)) 3 (some q97)) 4 (some q110)) 5 (some q123))))))) : Option (Nat × va_E)) := hn3
  replace hN : w133.length = 60 := (q_len1 hu134 hn3 ho132).trans hN
  replace hF := q_us hF hu134 (List.mem_of_getElem? (i := 4) rfl)
  refine lv_iinc (v := 6) (lv' := [(3, .int 6), (0, .ref qO0), (1, .ref qO1), (2, .ref qO2)]) hx hb d_9_1_96 hl (k := 0) rfl (by decide) (by decide) rfl (fun ls hl => ?_)
  refine lv_goto (tgt := 75) hx hb d_9_1_99 (by decide) ?_
  refine lv_iload_n hx hb d_9_1_75 rfl (lv_at hl 0 rfl) ?_
  refine lv_bipush (v := 9) hx hb d_9_1_76 (by decide) ?_
  refine lv_icmp_ge (tgt := 102) hx hb d_9_1_78 (by decide) (fun c135 => absurd c135 (by decide)) (fun c135 => ?_)
  refine lv_aload_n hx hb d_9_1_81 rfl (lv_at hl 1 rfl) ?_
  replace hO0 := (hu134 _ (q_pd 40 44 rfl)).trans ((hg130 _ (q_nc (q_pd 40 58 rfl) (q_nc (q_pd 40 59 rfl) List.not_mem_nil))).trans ((hu125 _ (q_pd 40 58 rfl)).trans (hO0)))
  refine q_get (ci := 11) (j := 4) (v := .ref q22) C0 V i_Pri rfl rfl hO0 (by decide) w_389 rfl d_9_1_82 ?_
  refine lv_iload_n hx hb d_9_1_85 rfl (lv_at hl 0 rfl) ?_
  refine q_new (ci := 1) (fs := [.null, .int 0, .int 0]) C0 V hN i_She o_She rfl w_345 w_47 w_2 rfl (fun j hj => by rcases (show j = 0 ∨ j = 1 ∨ j = 2 by omega) with rfl | rfl | rfl <;> rfl) (Nat.le_of_ble_eq_true rfl) (Nat.le_of_ble_eq_true rfl) d_9_1_86 (fun q136 H w137 hu138 hn139 hN V => ?_)
  have hn19 : w137[60]? = (some (q136, .inr (1, [.null, .int 0, .int 0])) : Option (Nat × va_E)) := hn139
  replace hF := q_us hF hu138 (List.mem_of_getElem? (i := 20) rfl)
  replace hN : w137.length = 61 := hN
  refine lv_dup hx hb d_9_1_89 rfl ?_
  refine lv_bipush (v := 64) hx hb d_9_1_90 (by decide) ?_
  refine q_gov V (q_runI (As := [.int 64]) (rest := [.ref q136, .int 6, .ref q22]) (d := 2) (mc := 1) (ms := 8) C0 V rfl LI_Pri_28 (c_She_init_4 l D g w137 60 q136 61 hN hn19 _) rfl hl.1 rfl (Nat.le_of_ble_eq_true rfl) ⟨by decide, by decide⟩ ⟨Nat.le_of_ble_eq_true rfl, Nat.le_of_ble_eq_true rfl⟩ d_9_1_92) (fun u141 H locs hp140 V => ?_)
  obtain ⟨q142, hg143, hn19, hq144, hN⟩ := hp140
  replace hF := q_uc hF hg143 (q_sc (List.mem_of_getElem? (i := 20) rfl) (q_sc (List.mem_of_getElem? (i := 21) rfl) (fun _ h => absurd h List.not_mem_nil)))
  have hn20 : u141[61]? = (some (q142, .inl (g 1, 8, .inr (.inl (fun _ => 0)))) : Option (Nat × va_E)) := hq144
  replace hN : u141.length = 62 := hN
  replace hn3 := (hg143 _ (q_nc (q_pd 44 60 rfl) (q_nc (q_pd 44 61 rfl) List.not_mem_nil))).trans ((hu138 _ (q_pd 44 60 rfl)).trans (hn3))
  have ho145 := hn3
  refine q_aast (t := 6) (ci := 1) (i9 := 6) C0 V hn3 rfl hn19 rfl (by decide) (by unfold vp_in; decide) d_9_1_95 (fun H locs w146 hu147 hn3 V => ?_)
  replace hn3 : w146[44]? = (some (q22, .inl (g 6, 9, .inr (.inr (.inr (.inr (va_up (va_up (va_up (va_up (va_up (va_up (va_up (fun _ => none) 0 (some q58)) 1 (some q71)) 2 (some q84)) 3 (some q97)) 4 (some q110)) 5 (some q123)) 6 (some q136))))))) : Option (Nat × va_E)) := hn3
  replace hN : w146.length = 62 := (q_len1 hu147 hn3 ho145).trans hN
  replace hF := q_us hF hu147 (List.mem_of_getElem? (i := 4) rfl)
  refine lv_iinc (v := 7) (lv' := [(3, .int 7), (0, .ref qO0), (1, .ref qO1), (2, .ref qO2)]) hx hb d_9_1_96 hl (k := 0) rfl (by decide) (by decide) rfl (fun ls hl => ?_)
  refine lv_goto (tgt := 75) hx hb d_9_1_99 (by decide) ?_
  refine lv_iload_n hx hb d_9_1_75 rfl (lv_at hl 0 rfl) ?_
  refine lv_bipush (v := 9) hx hb d_9_1_76 (by decide) ?_
  refine lv_icmp_ge (tgt := 102) hx hb d_9_1_78 (by decide) (fun c148 => absurd c148 (by decide)) (fun c148 => ?_)
  refine lv_aload_n hx hb d_9_1_81 rfl (lv_at hl 1 rfl) ?_
  replace hO0 := (hu147 _ (q_pd 40 44 rfl)).trans ((hg143 _ (q_nc (q_pd 40 60 rfl) (q_nc (q_pd 40 61 rfl) List.not_mem_nil))).trans ((hu138 _ (q_pd 40 60 rfl)).trans (hO0)))
  refine q_get (ci := 11) (j := 4) (v := .ref q22) C0 V i_Pri rfl rfl hO0 (by decide) w_389 rfl d_9_1_82 ?_
  refine lv_iload_n hx hb d_9_1_85 rfl (lv_at hl 0 rfl) ?_
  refine q_new (ci := 1) (fs := [.null, .int 0, .int 0]) C0 V hN i_She o_She rfl w_345 w_47 w_2 rfl (fun j hj => by rcases (show j = 0 ∨ j = 1 ∨ j = 2 by omega) with rfl | rfl | rfl <;> rfl) (Nat.le_of_ble_eq_true rfl) (Nat.le_of_ble_eq_true rfl) d_9_1_86 (fun q149 H w150 hu151 hn152 hN V => ?_)
  have hn21 : w150[62]? = (some (q149, .inr (1, [.null, .int 0, .int 0])) : Option (Nat × va_E)) := hn152
  replace hF := q_us hF hu151 (List.mem_of_getElem? (i := 22) rfl)
  replace hN : w150.length = 63 := hN
  refine lv_dup hx hb d_9_1_89 rfl ?_
  refine lv_bipush (v := 64) hx hb d_9_1_90 (by decide) ?_
  refine q_gov V (q_runI (As := [.int 64]) (rest := [.ref q149, .int 7, .ref q22]) (d := 2) (mc := 1) (ms := 8) C0 V rfl LI_Pri_28 (c_She_init_4 l D g w150 62 q149 63 hN hn21 _) rfl hl.1 rfl (Nat.le_of_ble_eq_true rfl) ⟨by decide, by decide⟩ ⟨Nat.le_of_ble_eq_true rfl, Nat.le_of_ble_eq_true rfl⟩ d_9_1_92) (fun u154 H locs hp153 V => ?_)
  obtain ⟨q155, hg156, hn21, hq157, hN⟩ := hp153
  replace hF := q_uc hF hg156 (q_sc (List.mem_of_getElem? (i := 22) rfl) (q_sc (List.mem_of_getElem? (i := 23) rfl) (fun _ h => absurd h List.not_mem_nil)))
  have hn22 : u154[63]? = (some (q155, .inl (g 1, 8, .inr (.inl (fun _ => 0)))) : Option (Nat × va_E)) := hq157
  replace hN : u154.length = 64 := hN
  replace hn3 := (hg156 _ (q_nc (q_pd 44 62 rfl) (q_nc (q_pd 44 63 rfl) List.not_mem_nil))).trans ((hu151 _ (q_pd 44 62 rfl)).trans (hn3))
  have ho158 := hn3
  refine q_aast (t := 6) (ci := 1) (i9 := 7) C0 V hn3 rfl hn21 rfl (by decide) (by unfold vp_in; decide) d_9_1_95 (fun H locs w159 hu160 hn3 V => ?_)
  replace hn3 : w159[44]? = (some (q22, .inl (g 6, 9, .inr (.inr (.inr (.inr (va_up (va_up (va_up (va_up (va_up (va_up (va_up (va_up (fun _ => none) 0 (some q58)) 1 (some q71)) 2 (some q84)) 3 (some q97)) 4 (some q110)) 5 (some q123)) 6 (some q136)) 7 (some q149))))))) : Option (Nat × va_E)) := hn3
  replace hN : w159.length = 64 := (q_len1 hu160 hn3 ho158).trans hN
  replace hF := q_us hF hu160 (List.mem_of_getElem? (i := 4) rfl)
  refine lv_iinc (v := 8) (lv' := [(3, .int 8), (0, .ref qO0), (1, .ref qO1), (2, .ref qO2)]) hx hb d_9_1_96 hl (k := 0) rfl (by decide) (by decide) rfl (fun ls hl => ?_)
  refine lv_goto (tgt := 75) hx hb d_9_1_99 (by decide) ?_
  refine lv_iload_n hx hb d_9_1_75 rfl (lv_at hl 0 rfl) ?_
  refine lv_bipush (v := 9) hx hb d_9_1_76 (by decide) ?_
  refine lv_icmp_ge (tgt := 102) hx hb d_9_1_78 (by decide) (fun c161 => absurd c161 (by decide)) (fun c161 => ?_)
  refine lv_aload_n hx hb d_9_1_81 rfl (lv_at hl 1 rfl) ?_
  replace hO0 := (hu160 _ (q_pd 40 44 rfl)).trans ((hg156 _ (q_nc (q_pd 40 62 rfl) (q_nc (q_pd 40 63 rfl) List.not_mem_nil))).trans ((hu151 _ (q_pd 40 62 rfl)).trans (hO0)))
  refine q_get (ci := 11) (j := 4) (v := .ref q22) C0 V i_Pri rfl rfl hO0 (by decide) w_389 rfl d_9_1_82 ?_
  refine lv_iload_n hx hb d_9_1_85 rfl (lv_at hl 0 rfl) ?_
  refine q_new (ci := 1) (fs := [.null, .int 0, .int 0]) C0 V hN i_She o_She rfl w_345 w_47 w_2 rfl (fun j hj => by rcases (show j = 0 ∨ j = 1 ∨ j = 2 by omega) with rfl | rfl | rfl <;> rfl) (Nat.le_of_ble_eq_true rfl) (Nat.le_of_ble_eq_true rfl) d_9_1_86 (fun q162 H w163 hu164 hn165 hN V => ?_)
  have hn23 : w163[64]? = (some (q162, .inr (1, [.null, .int 0, .int 0])) : Option (Nat × va_E)) := hn165
  replace hF := q_us hF hu164 (List.mem_of_getElem? (i := 24) rfl)
  replace hN : w163.length = 65 := hN
  refine lv_dup hx hb d_9_1_89 rfl ?_
  refine lv_bipush (v := 64) hx hb d_9_1_90 (by decide) ?_
  refine q_gov V (q_runI (As := [.int 64]) (rest := [.ref q162, .int 8, .ref q22]) (d := 2) (mc := 1) (ms := 8) C0 V rfl LI_Pri_28 (c_She_init_4 l D g w163 64 q162 65 hN hn23 _) rfl hl.1 rfl (Nat.le_of_ble_eq_true rfl) ⟨by decide, by decide⟩ ⟨Nat.le_of_ble_eq_true rfl, Nat.le_of_ble_eq_true rfl⟩ d_9_1_92) (fun u167 H locs hp166 V => ?_)
  obtain ⟨q168, hg169, hn23, hq170, hN⟩ := hp166
  replace hF := q_uc hF hg169 (q_sc (List.mem_of_getElem? (i := 24) rfl) (q_sc (List.mem_of_getElem? (i := 25) rfl) (fun _ h => absurd h List.not_mem_nil)))
  have hn24 : u167[65]? = (some (q168, .inl (g 1, 8, .inr (.inl (fun _ => 0)))) : Option (Nat × va_E)) := hq170
  replace hN : u167.length = 66 := hN
  replace hn3 := (hg169 _ (q_nc (q_pd 44 64 rfl) (q_nc (q_pd 44 65 rfl) List.not_mem_nil))).trans ((hu164 _ (q_pd 44 64 rfl)).trans (hn3))
  have ho171 := hn3
  refine q_aast (t := 6) (ci := 1) (i9 := 8) C0 V hn3 rfl hn23 rfl (by decide) (by unfold vp_in; decide) d_9_1_95 (fun H locs w172 hu173 hn3 V => ?_)
  replace hn3 : w172[44]? = (some (q22, .inl (g 6, 9, .inr (.inr (.inr (.inr (va_up (va_up (va_up (va_up (va_up (va_up (va_up (va_up (va_up (fun _ => none) 0 (some q58)) 1 (some q71)) 2 (some q84)) 3 (some q97)) 4 (some q110)) 5 (some q123)) 6 (some q136)) 7 (some q149)) 8 (some q162))))))) : Option (Nat × va_E)) := hn3
  replace hN : w172.length = 66 := (q_len1 hu173 hn3 ho171).trans hN
  replace hF := q_us hF hu173 (List.mem_of_getElem? (i := 4) rfl)
  refine lv_iinc (v := 9) (lv' := [(3, .int 9), (0, .ref qO0), (1, .ref qO1), (2, .ref qO2)]) hx hb d_9_1_96 hl (k := 0) rfl (by decide) (by decide) rfl (fun ls hl => ?_)
  refine lv_goto (tgt := 75) hx hb d_9_1_99 (by decide) ?_
  refine lv_iload_n hx hb d_9_1_75 rfl (lv_at hl 0 rfl) ?_
  refine lv_bipush (v := 9) hx hb d_9_1_76 (by decide) ?_
  refine lv_icmp_ge (tgt := 102) hx hb d_9_1_78 (by decide) (fun c174 => ?_) (fun c174 => absurd (by decide) c174)
  have RR : q_un w172 w172 [] := q_u0
  replace RR := q_ub hu173 RR
  replace hn23 := (RR 64 (by decide +kernel)).trans hn23
  replace hn24 := (RR 65 (by decide +kernel)).trans hn24
  replace RR := q_ubc hg169 RR
  replace RR := q_ub hu164 RR
  replace hO0 := (RR 40 (by decide +kernel)).trans hO0
  replace RR := q_ub hu160 RR
  replace hn21 := (RR 62 (by decide +kernel)).trans hn21
  replace hn22 := (RR 63 (by decide +kernel)).trans hn22
  replace RR := q_ubc hg156 RR
  replace RR := q_ub hu151 RR
  replace RR := q_ub hu147 RR
  replace hn19 := (RR 60 (by decide +kernel)).trans hn19
  replace hn20 := (RR 61 (by decide +kernel)).trans hn20
  replace RR := q_ubc hg143 RR
  replace RR := q_ub hu138 RR
  replace RR := q_ub hu134 RR
  replace hn17 := (RR 58 (by decide +kernel)).trans hn17
  replace hn18 := (RR 59 (by decide +kernel)).trans hn18
  replace RR := q_ubc hg130 RR
  replace RR := q_ub hu125 RR
  replace RR := q_ub hu121 RR
  replace hn15 := (RR 56 (by decide +kernel)).trans hn15
  replace hn16 := (RR 57 (by decide +kernel)).trans hn16
  replace RR := q_ubc hg117 RR
  replace RR := q_ub hu112 RR
  replace RR := q_ub hu108 RR
  replace hn13 := (RR 54 (by decide +kernel)).trans hn13
  replace hn14 := (RR 55 (by decide +kernel)).trans hn14
  replace RR := q_ubc hg104 RR
  replace RR := q_ub hu99 RR
  replace RR := q_ub hu95 RR
  replace hn11 := (RR 52 (by decide +kernel)).trans hn11
  replace hn12 := (RR 53 (by decide +kernel)).trans hn12
  replace RR := q_ubc hg91 RR
  replace RR := q_ub hu86 RR
  replace RR := q_ub hu82 RR
  replace hn9 := (RR 50 (by decide +kernel)).trans hn9
  replace hn10 := (RR 51 (by decide +kernel)).trans hn10
  replace RR := q_ubc hg78 RR
  replace RR := q_ub hu73 RR
  replace RR := q_ub hu69 RR
  replace hn7 := (RR 48 (by decide +kernel)).trans hn7
  replace hn8 := (RR 49 (by decide +kernel)).trans hn8
  replace RR := q_ubc hg65 RR
  replace RR := q_ub hu60 RR
  replace RR := q_ub hu55 RR
  replace hn6 := (RR 47 (by decide +kernel)).trans hn6
  replace RR := q_ubc hg53 RR
  replace RR := q_ub hu49 RR
  replace RR := q_ub hu45 RR
  replace RR := q_ub hu42 RR
  replace RR := q_ub hu39 RR
  replace hn4 := (RR 45 (by decide +kernel)).trans hn4
  replace hn5 := (RR 46 (by decide +kernel)).trans hn5
  replace RR := q_ubc hg36 RR
  replace RR := q_ub hu31 RR
  replace RR := q_ub hu27 RR
  replace RR := q_ub hu24 RR
  replace RR := q_ub hu20 RR
  replace hn2 := (RR 43 (by decide +kernel)).trans hn2
  replace RR := q_ub hu17 RR
  replace RR := q_ub hu13 RR
  replace hn1 := (RR 42 (by decide +kernel)).trans hn1
  replace RR := q_ub hu10 RR
  replace RR := q_ub hu6 RR
  replace hn0 := (RR 41 (by decide +kernel)).trans hn0
  exact q_retv C0 V (⟨q1, q8, q15, q22, q29, q35, q47, q58, q64, q71, q77, q84, q90, q97, q103, q110, q116, q123, q129, q136, q142, q149, q155, q162, q168, hF, hO0, hn0, hn1, hn2, hn3, hn4, hn5, hn6, hn7, hn8, hn9, hn10, hn11, hn12, hn13, hn14, hn15, hn16, hn17, hn18, hn19, hn20, hn21, hn22, hn23, hn24, hN⟩) d_9_1_102
theorem d_1_1_0 : decode prog_1_method_1_code 0 = .ok (.aload_n 0, 1) := by decide +kernel
theorem d_1_1_1 : decode prog_1_method_1_code 1 = .ok (.invokespecial 1, 3) := by decide +kernel
set_option maxRecDepth 100000 in
theorem w_43 : (Cond.methodLink "NumberHouse" (1 : Nat) ({ cls := "java/lang/Object", name := "<init>", desc := "()V" } : MethodName)) ∈ q_tbl := q_of1 43 rfl (by decide +kernel)
theorem d_1_1_4 : decode prog_1_method_1_code 4 = .ok (.aload_n 0, 1) := by decide +kernel
theorem d_1_1_5 : decode prog_1_method_1_code 5 = .ok (.new 7, 3) := by decide +kernel
set_option maxRecDepth 100000 in
theorem w_46 : (Cond.classLink "NumberHouse" (7 : Nat) "NumberHouse$Sheet") ∈ q_tbl := q_of1 46 rfl (by decide +kernel)
theorem d_1_1_8 : decode prog_1_method_1_code 8 = .ok (.dup, 1) := by decide +kernel
theorem d_1_1_9 : decode prog_1_method_1_code 9 = .ok (.sipush 4100, 3) := by decide +kernel
theorem d_1_1_12 : decode prog_1_method_1_code 12 = .ok (.invokespecial 11, 3) := by decide +kernel
set_option maxRecDepth 100000 in
theorem w_48 : (Cond.methodLink "NumberHouse" (11 : Nat) ({ cls := "NumberHouse$Sheet", name := "<init>", desc := "(I)V" } : MethodName)) ∈ q_tbl := q_of1 48 rfl (by decide +kernel)
theorem LI_NH_11 : q_LI "NumberHouse" 11 y_She_init prog_11_method_1_code 2 1 := ⟨w_50, w_2, w_48, w_49, rfl, ⟨by decide, by decide, by decide +kernel⟩⟩
theorem d_1_1_15 : decode prog_1_method_1_code 15 = .ok (.putfield 14, 3) := by decide +kernel
set_option maxRecDepth 100000 in
theorem w_424 : (Cond.fieldLink "NumberHouse" (14 : Nat) "NumberHouse" "tape" "LNumberHouse$Sheet;") ∈ q_tbl := q_of2 184 rfl (by decide +kernel)
theorem d_1_1_18 : decode prog_1_method_1_code 18 = .ok (.aload_n 0, 1) := by decide +kernel
theorem d_1_1_19 : decode prog_1_method_1_code 19 = .ok (.new 7, 3) := by decide +kernel
theorem d_1_1_22 : decode prog_1_method_1_code 22 = .ok (.dup, 1) := by decide +kernel
theorem d_1_1_23 : decode prog_1_method_1_code 23 = .ok (.sipush 11008, 3) := by decide +kernel
theorem d_1_1_26 : decode prog_1_method_1_code 26 = .ok (.invokespecial 11, 3) := by decide +kernel
theorem d_1_1_29 : decode prog_1_method_1_code 29 = .ok (.putfield 18, 3) := by decide +kernel
set_option maxRecDepth 100000 in
theorem w_425 : (Cond.fieldLink "NumberHouse" (18 : Nat) "NumberHouse" "paper" "LNumberHouse$Sheet;") ∈ q_tbl := q_of2 185 rfl (by decide +kernel)
theorem d_1_1_32 : decode prog_1_method_1_code 32 = .ok (.aload_n 0, 1) := by decide +kernel
theorem d_1_1_33 : decode prog_1_method_1_code 33 = .ok (.bipush 10, 2) := by decide +kernel
theorem d_1_1_35 : decode prog_1_method_1_code 35 = .ok (.anewarray 21, 3) := by decide +kernel
set_option maxRecDepth 100000 in
theorem wo_69 : (Cond.arrayOver (.object "NumberHouse$Big")) ∈ q_odd := q_oo1 69 rfl (by decide +kernel)
set_option maxRecDepth 100000 in
theorem w_68 : (Cond.classLink "NumberHouse" (21 : Nat) "NumberHouse$Big") ∈ q_tbl := q_of1 68 rfl (by decide +kernel)
theorem d_1_1_38 : decode prog_1_method_1_code 38 = .ok (.putfield 23, 3) := by decide +kernel
set_option maxRecDepth 100000 in
theorem w_426 : (Cond.fieldLink "NumberHouse" (23 : Nat) "NumberHouse" "wholes" "[LNumberHouse$Big;") ∈ q_tbl := q_of2 186 rfl (by decide +kernel)
theorem d_1_1_41 : decode prog_1_method_1_code 41 = .ok (.aload_n 0, 1) := by decide +kernel
theorem d_1_1_42 : decode prog_1_method_1_code 42 = .ok (.bipush 10, 2) := by decide +kernel
theorem d_1_1_44 : decode prog_1_method_1_code 44 = .ok (.anewarray 27, 3) := by decide +kernel
set_option maxRecDepth 100000 in
theorem wo_71 : (Cond.arrayOver (.object "NumberHouse$Dec")) ∈ q_odd := q_oo1 71 rfl (by decide +kernel)
set_option maxRecDepth 100000 in
theorem w_70 : (Cond.classLink "NumberHouse" (27 : Nat) "NumberHouse$Dec") ∈ q_tbl := q_of1 70 rfl (by decide +kernel)
theorem d_1_1_47 : decode prog_1_method_1_code 47 = .ok (.putfield 29, 3) := by decide +kernel
set_option maxRecDepth 100000 in
theorem w_427 : (Cond.fieldLink "NumberHouse" (29 : Nat) "NumberHouse" "decimals" "[LNumberHouse$Dec;") ∈ q_tbl := q_of2 187 rfl (by decide +kernel)
theorem d_1_1_50 : decode prog_1_method_1_code 50 = .ok (.aload_n 0, 1) := by decide +kernel
theorem d_1_1_51 : decode prog_1_method_1_code 51 = .ok (.bipush 10, 2) := by decide +kernel
theorem d_1_1_53 : decode prog_1_method_1_code 53 = .ok (.newarray .long, 2) := by decide +kernel
theorem d_1_1_55 : decode prog_1_method_1_code 55 = .ok (.putfield 33, 3) := by decide +kernel
set_option maxRecDepth 100000 in
theorem w_428 : (Cond.fieldLink "NumberHouse" (33 : Nat) "NumberHouse" "wide" "[J") ∈ q_tbl := q_of2 188 rfl (by decide +kernel)
theorem d_1_1_58 : decode prog_1_method_1_code 58 = .ok (.aload_n 0, 1) := by decide +kernel
theorem d_1_1_59 : decode prog_1_method_1_code 59 = .ok (.bipush 10, 2) := by decide +kernel
theorem d_1_1_61 : decode prog_1_method_1_code 61 = .ok (.newarray .long, 2) := by decide +kernel
theorem d_1_1_63 : decode prog_1_method_1_code 63 = .ok (.putfield 37, 3) := by decide +kernel
set_option maxRecDepth 100000 in
theorem w_429 : (Cond.fieldLink "NumberHouse" (37 : Nat) "NumberHouse" "narrow" "[J") ∈ q_tbl := q_of2 189 rfl (by decide +kernel)
theorem d_1_1_66 : decode prog_1_method_1_code 66 = .ok (.aload_n 0, 1) := by decide +kernel
theorem d_1_1_67 : decode prog_1_method_1_code 67 = .ok (.new 40, 3) := by decide +kernel
set_option maxRecDepth 100000 in
theorem w_72 : (Cond.classLink "NumberHouse" (40 : Nat) "NumberHouse$Mill") ∈ q_tbl := q_of1 72 rfl (by decide +kernel)
set_option maxRecDepth 100000 in
theorem w_73 : (Cond.instantiable "NumberHouse$Mill" (10 : Nat)) ∈ q_tbl := q_of1 73 rfl (by decide +kernel)
set_option maxRecDepth 100000 in
theorem w_3 : (Cond.initialized "NumberHouse$Mill") ∈ q_tbl := q_of1 3 rfl (by decide +kernel)
theorem d_1_1_70 : decode prog_1_method_1_code 70 = .ok (.dup, 1) := by decide +kernel
theorem d_1_1_71 : decode prog_1_method_1_code 71 = .ok (.invokespecial 42, 3) := by decide +kernel
set_option maxRecDepth 100000 in
theorem w_76 : (Cond.code ({ cls := "NumberHouse$Mill", name := "<init>", desc := "()V" } : MethodName) prog_8_method_1_code (1 : Nat) (none : Option ClassFile.FieldType)) ∈ q_tbl := q_of1 76 rfl (by decide +kernel)
set_option maxRecDepth 100000 in
theorem wo_74 : (Cond.methodLinkNest "NumberHouse" (42 : Nat) ({ cls := "NumberHouse$Mill", name := "<init>", desc := "()V" } : MethodName) "NumberHouse") ∈ q_odd := q_oo1 74 rfl (by decide +kernel)
set_option maxRecDepth 100000 in
theorem w_75 : (Cond.instanceMethod ({ cls := "NumberHouse$Mill", name := "<init>", desc := "()V" } : MethodName)) ∈ q_tbl := q_of1 75 rfl (by decide +kernel)
theorem LN_NH_42 : q_LN "NumberHouse" 42 y_Mil_init prog_8_method_1_code 1 0 "NumberHouse" := ⟨w_76, w_3, wo_74, w_75, rfl, ⟨by decide, by decide, by decide +kernel⟩⟩
theorem d_1_1_74 : decode prog_1_method_1_code 74 = .ok (.putfield 43, 3) := by decide +kernel
set_option maxRecDepth 100000 in
theorem w_430 : (Cond.fieldLink "NumberHouse" (43 : Nat) "NumberHouse" "mill" "LNumberHouse$Mill;") ∈ q_tbl := q_of2 190 rfl (by decide +kernel)
theorem d_1_1_77 : decode prog_1_method_1_code 77 = .ok (.aload_n 0, 1) := by decide +kernel
theorem d_1_1_78 : decode prog_1_method_1_code 78 = .ok (.new 47, 3) := by decide +kernel
set_option maxRecDepth 100000 in
theorem w_156 : (Cond.classLink "NumberHouse" (47 : Nat) "NumberHouse$DecimalWork") ∈ q_tbl := q_of1 156 rfl (by decide +kernel)
set_option maxRecDepth 100000 in
theorem w_157 : (Cond.instantiable "NumberHouse$DecimalWork" (4 : Nat)) ∈ q_tbl := q_of1 157 rfl (by decide +kernel)
set_option maxRecDepth 100000 in
theorem w_5 : (Cond.initialized "NumberHouse$DecimalWork") ∈ q_tbl := q_of1 5 rfl (by decide +kernel)
theorem d_1_1_81 : decode prog_1_method_1_code 81 = .ok (.dup, 1) := by decide +kernel
theorem d_1_1_82 : decode prog_1_method_1_code 82 = .ok (.aload_n 0, 1) := by decide +kernel
theorem d_1_1_83 : decode prog_1_method_1_code 83 = .ok (.getfield 43, 3) := by decide +kernel
theorem d_1_1_86 : decode prog_1_method_1_code 86 = .ok (.invokespecial 49, 3) := by decide +kernel
set_option maxRecDepth 100000 in
theorem w_160 : (Cond.code ({ cls := "NumberHouse$DecimalWork", name := "<init>", desc := "(LNumberHouse$Mill;)V" } : MethodName) prog_4_method_1_code (2 : Nat) (none : Option ClassFile.FieldType)) ∈ q_tbl := q_of1 160 rfl (by decide +kernel)
set_option maxRecDepth 100000 in
theorem w_158 : (Cond.methodLink "NumberHouse" (49 : Nat) ({ cls := "NumberHouse$DecimalWork", name := "<init>", desc := "(LNumberHouse$Mill;)V" } : MethodName)) ∈ q_tbl := q_of1 158 rfl (by decide +kernel)
set_option maxRecDepth 100000 in
theorem w_159 : (Cond.instanceMethod ({ cls := "NumberHouse$DecimalWork", name := "<init>", desc := "(LNumberHouse$Mill;)V" } : MethodName)) ∈ q_tbl := q_of1 159 rfl (by decide +kernel)
theorem LI_NH_49 : q_LI "NumberHouse" 49 y_DW_init prog_4_method_1_code 2 1 := ⟨w_160, w_5, w_158, w_159, rfl, ⟨by decide, by decide, by decide +kernel⟩⟩
theorem d_1_1_89 : decode prog_1_method_1_code 89 = .ok (.putfield 52, 3) := by decide +kernel
set_option maxRecDepth 100000 in
theorem w_431 : (Cond.fieldLink "NumberHouse" (52 : Nat) "NumberHouse" "decimalWork" "LNumberHouse$DecimalWork;") ∈ q_tbl := q_of2 191 rfl (by decide +kernel)
theorem d_1_1_92 : decode prog_1_method_1_code 92 = .ok (.aload_n 0, 1) := by decide +kernel
theorem d_1_1_93 : decode prog_1_method_1_code 93 = .ok (.new 56, 3) := by decide +kernel
set_option maxRecDepth 100000 in
theorem w_225 : (Cond.classLink "NumberHouse" (56 : Nat) "NumberHouse$Floats") ∈ q_tbl := q_of1 225 rfl (by decide +kernel)
set_option maxRecDepth 100000 in
theorem w_226 : (Cond.instantiable "NumberHouse$Floats" (7 : Nat)) ∈ q_tbl := q_of1 226 rfl (by decide +kernel)
set_option maxRecDepth 100000 in
theorem w_8 : (Cond.initialized "NumberHouse$Floats") ∈ q_tbl := q_of1 8 rfl (by decide +kernel)
theorem d_1_1_96 : decode prog_1_method_1_code 96 = .ok (.dup, 1) := by decide +kernel
theorem d_1_1_97 : decode prog_1_method_1_code 97 = .ok (.bipush 52, 2) := by decide +kernel
theorem d_1_1_99 : decode prog_1_method_1_code 99 = .ok (.sipush 1075, 3) := by decide +kernel
theorem d_1_1_102 : decode prog_1_method_1_code 102 = .ok (.sipush 2047, 3) := by decide +kernel
theorem d_1_1_105 : decode prog_1_method_1_code 105 = .ok (.aload_n 0, 1) := by decide +kernel
theorem d_1_1_106 : decode prog_1_method_1_code 106 = .ok (.getfield 43, 3) := by decide +kernel
theorem d_1_1_109 : decode prog_1_method_1_code 109 = .ok (.invokespecial 58, 3) := by decide +kernel
set_option maxRecDepth 100000 in
theorem w_229 : (Cond.code ({ cls := "NumberHouse$Floats", name := "<init>", desc := "(IIILNumberHouse$Mill;)V" } : MethodName) prog_7_method_1_code (5 : Nat) (none : Option ClassFile.FieldType)) ∈ q_tbl := q_of1 229 rfl (by decide +kernel)
set_option maxRecDepth 100000 in
theorem w_227 : (Cond.methodLink "NumberHouse" (58 : Nat) ({ cls := "NumberHouse$Floats", name := "<init>", desc := "(IIILNumberHouse$Mill;)V" } : MethodName)) ∈ q_tbl := q_of1 227 rfl (by decide +kernel)
set_option maxRecDepth 100000 in
theorem w_228 : (Cond.instanceMethod ({ cls := "NumberHouse$Floats", name := "<init>", desc := "(IIILNumberHouse$Mill;)V" } : MethodName)) ∈ q_tbl := q_of1 228 rfl (by decide +kernel)
theorem LI_NH_58 : q_LI "NumberHouse" 58 y_Flo_init prog_7_method_1_code 5 4 := ⟨w_229, w_8, w_227, w_228, rfl, ⟨by decide, by decide, by decide +kernel⟩⟩
theorem d_1_1_112 : decode prog_1_method_1_code 112 = .ok (.putfield 61, 3) := by decide +kernel
set_option maxRecDepth 100000 in
theorem w_432 : (Cond.fieldLink "NumberHouse" (61 : Nat) "NumberHouse" "wideFloats" "LNumberHouse$Floats;") ∈ q_tbl := q_of2 192 rfl (by decide +kernel)
theorem d_1_1_115 : decode prog_1_method_1_code 115 = .ok (.aload_n 0, 1) := by decide +kernel
theorem d_1_1_116 : decode prog_1_method_1_code 116 = .ok (.new 56, 3) := by decide +kernel
theorem d_1_1_119 : decode prog_1_method_1_code 119 = .ok (.dup, 1) := by decide +kernel
theorem d_1_1_120 : decode prog_1_method_1_code 120 = .ok (.bipush 23, 2) := by decide +kernel
theorem d_1_1_122 : decode prog_1_method_1_code 122 = .ok (.sipush 150, 3) := by decide +kernel
theorem d_1_1_125 : decode prog_1_method_1_code 125 = .ok (.sipush 255, 3) := by decide +kernel
theorem d_1_1_128 : decode prog_1_method_1_code 128 = .ok (.aload_n 0, 1) := by decide +kernel
theorem d_1_1_129 : decode prog_1_method_1_code 129 = .ok (.getfield 43, 3) := by decide +kernel
theorem d_1_1_132 : decode prog_1_method_1_code 132 = .ok (.invokespecial 58, 3) := by decide +kernel
theorem d_1_1_135 : decode prog_1_method_1_code 135 = .ok (.putfield 65, 3) := by decide +kernel
set_option maxRecDepth 100000 in
theorem w_433 : (Cond.fieldLink "NumberHouse" (65 : Nat) "NumberHouse" "narrowFloats" "LNumberHouse$Floats;") ∈ q_tbl := q_of2 193 rfl (by decide +kernel)
theorem d_1_1_138 : decode prog_1_method_1_code 138 = .ok (.aload_n 0, 1) := by decide +kernel
theorem d_1_1_139 : decode prog_1_method_1_code 139 = .ok (.new 68, 3) := by decide +kernel
set_option maxRecDepth 100000 in
theorem w_258 : (Cond.classLink "NumberHouse" (68 : Nat) "NumberHouse$Digits") ∈ q_tbl := q_of2 18 rfl (by decide +kernel)
set_option maxRecDepth 100000 in
theorem w_259 : (Cond.instantiable "NumberHouse$Digits" (3 : Nat)) ∈ q_tbl := q_of2 19 rfl (by decide +kernel)
set_option maxRecDepth 100000 in
theorem w_9 : (Cond.initialized "NumberHouse$Digits") ∈ q_tbl := q_of1 9 rfl (by decide +kernel)
theorem d_1_1_142 : decode prog_1_method_1_code 142 = .ok (.dup, 1) := by decide +kernel
theorem d_1_1_143 : decode prog_1_method_1_code 143 = .ok (.invokespecial 70, 3) := by decide +kernel
set_option maxRecDepth 100000 in
theorem w_262 : (Cond.code ({ cls := "NumberHouse$Digits", name := "<init>", desc := "()V" } : MethodName) prog_5_method_1_code (1 : Nat) (none : Option ClassFile.FieldType)) ∈ q_tbl := q_of2 22 rfl (by decide +kernel)
set_option maxRecDepth 100000 in
theorem wo_260 : (Cond.methodLinkNest "NumberHouse" (70 : Nat) ({ cls := "NumberHouse$Digits", name := "<init>", desc := "()V" } : MethodName) "NumberHouse") ∈ q_odd := q_oo2 20 rfl (by decide +kernel)
set_option maxRecDepth 100000 in
theorem w_261 : (Cond.instanceMethod ({ cls := "NumberHouse$Digits", name := "<init>", desc := "()V" } : MethodName)) ∈ q_tbl := q_of2 21 rfl (by decide +kernel)
theorem LN_NH_70 : q_LN "NumberHouse" 70 y_Dig_init prog_5_method_1_code 1 0 "NumberHouse" := ⟨w_262, w_9, wo_260, w_261, rfl, ⟨by decide, by decide, by decide +kernel⟩⟩
theorem d_1_1_146 : decode prog_1_method_1_code 146 = .ok (.putfield 71, 3) := by decide +kernel
set_option maxRecDepth 100000 in
theorem w_434 : (Cond.fieldLink "NumberHouse" (71 : Nat) "NumberHouse" "digits" "LNumberHouse$Digits;") ∈ q_tbl := q_of2 194 rfl (by decide +kernel)
theorem d_1_1_149 : decode prog_1_method_1_code 149 = .ok (.aload_n 0, 1) := by decide +kernel
theorem d_1_1_150 : decode prog_1_method_1_code 150 = .ok (.new 75, 3) := by decide +kernel
set_option maxRecDepth 100000 in
theorem w_278 : (Cond.classLink "NumberHouse" (75 : Nat) "NumberHouse$Reader") ∈ q_tbl := q_of2 38 rfl (by decide +kernel)
set_option maxRecDepth 100000 in
theorem w_279 : (Cond.instantiable "NumberHouse$Reader" (12 : Nat)) ∈ q_tbl := q_of2 39 rfl (by decide +kernel)
set_option maxRecDepth 100000 in
theorem w_10 : (Cond.initialized "NumberHouse$Reader") ∈ q_tbl := q_of1 10 rfl (by decide +kernel)
theorem d_1_1_153 : decode prog_1_method_1_code 153 = .ok (.dup, 1) := by decide +kernel
theorem d_1_1_154 : decode prog_1_method_1_code 154 = .ok (.aload_n 0, 1) := by decide +kernel
theorem d_1_1_155 : decode prog_1_method_1_code 155 = .ok (.getfield 14, 3) := by decide +kernel
theorem d_1_1_158 : decode prog_1_method_1_code 158 = .ok (.aload_n 0, 1) := by decide +kernel
theorem d_1_1_159 : decode prog_1_method_1_code 159 = .ok (.getfield 43, 3) := by decide +kernel
theorem d_1_1_162 : decode prog_1_method_1_code 162 = .ok (.invokespecial 77, 3) := by decide +kernel
set_option maxRecDepth 100000 in
theorem w_282 : (Cond.code ({ cls := "NumberHouse$Reader", name := "<init>", desc := "(LNumberHouse$Sheet;LNumberHouse$Mill;)V" } : MethodName) prog_10_method_1_code (3 : Nat) (none : Option ClassFile.FieldType)) ∈ q_tbl := q_of2 42 rfl (by decide +kernel)
set_option maxRecDepth 100000 in
theorem w_280 : (Cond.methodLink "NumberHouse" (77 : Nat) ({ cls := "NumberHouse$Reader", name := "<init>", desc := "(LNumberHouse$Sheet;LNumberHouse$Mill;)V" } : MethodName)) ∈ q_tbl := q_of2 40 rfl (by decide +kernel)
set_option maxRecDepth 100000 in
theorem w_281 : (Cond.instanceMethod ({ cls := "NumberHouse$Reader", name := "<init>", desc := "(LNumberHouse$Sheet;LNumberHouse$Mill;)V" } : MethodName)) ∈ q_tbl := q_of2 41 rfl (by decide +kernel)
theorem LI_NH_77 : q_LI "NumberHouse" 77 y_Rea_init prog_10_method_1_code 3 2 := ⟨w_282, w_10, w_280, w_281, rfl, ⟨by decide, by decide, by decide +kernel⟩⟩
theorem d_1_1_165 : decode prog_1_method_1_code 165 = .ok (.putfield 80, 3) := by decide +kernel
set_option maxRecDepth 100000 in
theorem w_435 : (Cond.fieldLink "NumberHouse" (80 : Nat) "NumberHouse" "reader" "LNumberHouse$Reader;") ∈ q_tbl := q_of2 195 rfl (by decide +kernel)
theorem d_1_1_168 : decode prog_1_method_1_code 168 = .ok (.aload_n 0, 1) := by decide +kernel
theorem d_1_1_169 : decode prog_1_method_1_code 169 = .ok (.new 84, 3) := by decide +kernel
set_option maxRecDepth 100000 in
theorem w_323 : (Cond.classLink "NumberHouse" (84 : Nat) "NumberHouse$Writer") ∈ q_tbl := q_of2 83 rfl (by decide +kernel)
set_option maxRecDepth 100000 in
theorem w_324 : (Cond.instantiable "NumberHouse$Writer" (3 : Nat)) ∈ q_tbl := q_of2 84 rfl (by decide +kernel)
set_option maxRecDepth 100000 in
theorem w_11 : (Cond.initialized "NumberHouse$Writer") ∈ q_tbl := q_of1 11 rfl (by decide +kernel)
theorem d_1_1_172 : decode prog_1_method_1_code 172 = .ok (.dup, 1) := by decide +kernel
theorem d_1_1_173 : decode prog_1_method_1_code 173 = .ok (.aload_n 0, 1) := by decide +kernel
theorem d_1_1_174 : decode prog_1_method_1_code 174 = .ok (.getfield 18, 3) := by decide +kernel
theorem d_1_1_177 : decode prog_1_method_1_code 177 = .ok (.aload_n 0, 1) := by decide +kernel
theorem d_1_1_178 : decode prog_1_method_1_code 178 = .ok (.getfield 43, 3) := by decide +kernel
theorem d_1_1_181 : decode prog_1_method_1_code 181 = .ok (.aload_n 0, 1) := by decide +kernel
theorem d_1_1_182 : decode prog_1_method_1_code 182 = .ok (.getfield 71, 3) := by decide +kernel
theorem d_1_1_185 : decode prog_1_method_1_code 185 = .ok (.invokespecial 86, 3) := by decide +kernel
set_option maxRecDepth 100000 in
theorem w_327 : (Cond.code ({ cls := "NumberHouse$Writer", name := "<init>", desc := "(LNumberHouse$Sheet;LNumberHouse$Mill;LNumberHouse$Digits;)V" } : MethodName) prog_12_method_1_code (4 : Nat) (none : Option ClassFile.FieldType)) ∈ q_tbl := q_of2 87 rfl (by decide +kernel)
set_option maxRecDepth 100000 in
theorem w_325 : (Cond.methodLink "NumberHouse" (86 : Nat) ({ cls := "NumberHouse$Writer", name := "<init>", desc := "(LNumberHouse$Sheet;LNumberHouse$Mill;LNumberHouse$Digits;)V" } : MethodName)) ∈ q_tbl := q_of2 85 rfl (by decide +kernel)
set_option maxRecDepth 100000 in
theorem w_326 : (Cond.instanceMethod ({ cls := "NumberHouse$Writer", name := "<init>", desc := "(LNumberHouse$Sheet;LNumberHouse$Mill;LNumberHouse$Digits;)V" } : MethodName)) ∈ q_tbl := q_of2 86 rfl (by decide +kernel)
theorem LI_NH_86 : q_LI "NumberHouse" 86 y_Wri_init prog_12_method_1_code 4 3 := ⟨w_327, w_11, w_325, w_326, rfl, ⟨by decide, by decide, by decide +kernel⟩⟩
theorem d_1_1_188 : decode prog_1_method_1_code 188 = .ok (.putfield 89, 3) := by decide +kernel
set_option maxRecDepth 100000 in
theorem w_436 : (Cond.fieldLink "NumberHouse" (89 : Nat) "NumberHouse" "writer" "LNumberHouse$Writer;") ∈ q_tbl := q_of2 196 rfl (by decide +kernel)
theorem d_1_1_191 : decode prog_1_method_1_code 191 = .ok (.aload_n 0, 1) := by decide +kernel
theorem d_1_1_192 : decode prog_1_method_1_code 192 = .ok (.new 93, 3) := by decide +kernel
set_option maxRecDepth 100000 in
theorem w_339 : (Cond.classLink "NumberHouse" (93 : Nat) "NumberHouse$Printer") ∈ q_tbl := q_of2 99 rfl (by decide +kernel)
set_option maxRecDepth 100000 in
theorem w_340 : (Cond.instantiable "NumberHouse$Printer" (12 : Nat)) ∈ q_tbl := q_of2 100 rfl (by decide +kernel)
set_option maxRecDepth 100000 in
theorem w_12 : (Cond.initialized "NumberHouse$Printer") ∈ q_tbl := q_of1 12 rfl (by decide +kernel)
theorem d_1_1_195 : decode prog_1_method_1_code 195 = .ok (.dup, 1) := by decide +kernel
theorem d_1_1_196 : decode prog_1_method_1_code 196 = .ok (.aload_n 0, 1) := by decide +kernel
theorem d_1_1_197 : decode prog_1_method_1_code 197 = .ok (.getfield 14, 3) := by decide +kernel
theorem d_1_1_200 : decode prog_1_method_1_code 200 = .ok (.aload_n 0, 1) := by decide +kernel
theorem d_1_1_201 : decode prog_1_method_1_code 201 = .ok (.getfield 71, 3) := by decide +kernel
theorem d_1_1_204 : decode prog_1_method_1_code 204 = .ok (.invokespecial 95, 3) := by decide +kernel
set_option maxRecDepth 100000 in
theorem w_343 : (Cond.code ({ cls := "NumberHouse$Printer", name := "<init>", desc := "(LNumberHouse$Sheet;LNumberHouse$Digits;)V" } : MethodName) prog_9_method_1_code (4 : Nat) (none : Option ClassFile.FieldType)) ∈ q_tbl := q_of2 103 rfl (by decide +kernel)
set_option maxRecDepth 100000 in
theorem w_341 : (Cond.methodLink "NumberHouse" (95 : Nat) ({ cls := "NumberHouse$Printer", name := "<init>", desc := "(LNumberHouse$Sheet;LNumberHouse$Digits;)V" } : MethodName)) ∈ q_tbl := q_of2 101 rfl (by decide +kernel)
set_option maxRecDepth 100000 in
theorem w_342 : (Cond.instanceMethod ({ cls := "NumberHouse$Printer", name := "<init>", desc := "(LNumberHouse$Sheet;LNumberHouse$Digits;)V" } : MethodName)) ∈ q_tbl := q_of2 102 rfl (by decide +kernel)
theorem LI_NH_95 : q_LI "NumberHouse" 95 y_Pri_init prog_9_method_1_code 4 2 := ⟨w_343, w_12, w_341, w_342, rfl, ⟨by decide, by decide, by decide +kernel⟩⟩
theorem d_1_1_207 : decode prog_1_method_1_code 207 = .ok (.putfield 98, 3) := by decide +kernel
set_option maxRecDepth 100000 in
theorem w_437 : (Cond.fieldLink "NumberHouse" (98 : Nat) "NumberHouse" "printer" "LNumberHouse$Printer;") ∈ q_tbl := q_of2 197 rfl (by decide +kernel)
theorem d_1_1_210 : decode prog_1_method_1_code 210 = .ok (.iconst 0, 1) := by decide +kernel
theorem d_1_1_211 : decode prog_1_method_1_code 211 = .ok (.istore_n 1, 1) := by decide +kernel
theorem d_1_1_212 : decode prog_1_method_1_code 212 = .ok (.iload_n 1, 1) := by decide +kernel
theorem d_1_1_213 : decode prog_1_method_1_code 213 = .ok (.bipush 10, 2) := by decide +kernel
theorem d_1_1_215 : decode prog_1_method_1_code 215 = .ok (.if_icmp .ge 39, 3) := by decide +kernel
theorem d_1_1_218 : decode prog_1_method_1_code 218 = .ok (.aload_n 0, 1) := by decide +kernel
theorem d_1_1_219 : decode prog_1_method_1_code 219 = .ok (.getfield 23, 3) := by decide +kernel
theorem d_1_1_222 : decode prog_1_method_1_code 222 = .ok (.iload_n 1, 1) := by decide +kernel
theorem d_1_1_223 : decode prog_1_method_1_code 223 = .ok (.new 21, 3) := by decide +kernel
theorem d_1_1_226 : decode prog_1_method_1_code 226 = .ok (.dup, 1) := by decide +kernel
theorem d_1_1_227 : decode prog_1_method_1_code 227 = .ok (.bipush 68, 2) := by decide +kernel
theorem d_1_1_229 : decode prog_1_method_1_code 229 = .ok (.invokespecial 102, 3) := by decide +kernel
set_option maxRecDepth 100000 in
theorem w_422 : (Cond.methodLink "NumberHouse" (102 : Nat) ({ cls := "NumberHouse$Big", name := "<init>", desc := "(I)V" } : MethodName)) ∈ q_tbl := q_of2 182 rfl (by decide +kernel)
theorem LI_NH_102 : q_LI "NumberHouse" 102 y_Big_init prog_2_method_1_code 2 1 := ⟨w_82, w_4, w_422, w_81, rfl, ⟨by decide, by decide, by decide +kernel⟩⟩
theorem d_1_1_232 : decode prog_1_method_1_code 232 = .ok (.aastore, 1) := by decide +kernel
theorem d_1_1_233 : decode prog_1_method_1_code 233 = .ok (.aload_n 0, 1) := by decide +kernel
theorem d_1_1_234 : decode prog_1_method_1_code 234 = .ok (.getfield 29, 3) := by decide +kernel
theorem d_1_1_237 : decode prog_1_method_1_code 237 = .ok (.iload_n 1, 1) := by decide +kernel
theorem d_1_1_238 : decode prog_1_method_1_code 238 = .ok (.new 27, 3) := by decide +kernel
theorem d_1_1_241 : decode prog_1_method_1_code 241 = .ok (.dup, 1) := by decide +kernel
theorem d_1_1_242 : decode prog_1_method_1_code 242 = .ok (.bipush 108, 2) := by decide +kernel
theorem d_1_1_244 : decode prog_1_method_1_code 244 = .ok (.invokespecial 103, 3) := by decide +kernel
set_option maxRecDepth 100000 in
theorem w_423 : (Cond.methodLink "NumberHouse" (103 : Nat) ({ cls := "NumberHouse$Dec", name := "<init>", desc := "(I)V" } : MethodName)) ∈ q_tbl := q_of2 183 rfl (by decide +kernel)
theorem LI_NH_103 : q_LI "NumberHouse" 103 y_Dec_init prog_3_method_1_code 2 1 := ⟨w_166, w_6, w_423, w_165, rfl, ⟨by decide, by decide, by decide +kernel⟩⟩
theorem d_1_1_247 : decode prog_1_method_1_code 247 = .ok (.aastore, 1) := by decide +kernel
theorem d_1_1_248 : decode prog_1_method_1_code 248 = .ok (.iinc 1 1, 3) := by decide +kernel
theorem d_1_1_251 : decode prog_1_method_1_code 251 = .ok (.goto (-39), 3) := by decide +kernel
theorem d_1_1_254 : decode prog_1_method_1_code 254 = .ok (.return_, 1) := by decide +kernel
/-- the cells of a new object, in their order -/
abbrev nh_w (g : Nat → ClassId) (q : Nat → Nat) : va_W := [
  (q 0, .inr (0, [.ref (q 1), .ref (q 3), .ref (q 5), .ref (q 6), .ref (q 7), .ref (q 8), .ref (q 9), .ref (q 30), .ref (q 34), .ref (q 35), .ref (q 36), .ref (q 38), .ref (q 39), .ref (q 40)])),
  (q 1, .inr (1, [.ref (q 2), .int 4100, .int 0])),
  (q 2, .inl (g 1, 513, .inr (.inl (fun _ => 0)))),
  (q 3, .inr (1, [.ref (q 4), .int 11008, .int 0])),
  (q 4, .inl (g 1, 1376, .inr (.inl (fun _ => 0)))),
  (q 5, .inl (g 4, 10, .inr (.inr (.inr (.inr (va_up (va_up (va_up (va_up (va_up (va_up (va_up (va_up (va_up (va_up (fun _ => none) 0 (some (q 66))) 1 (some (q 71))) 2 (some (q 76))) 3 (some (q 81))) 4 (some (q 86))) 5 (some (q 91))) 6 (some (q 96))) 7 (some (q 101))) 8 (some (q 106))) 9 (some (q 111)))))))),
  (q 6, .inl (g 5, 10, .inr (.inr (.inr (.inr (va_up (va_up (va_up (va_up (va_up (va_up (va_up (va_up (va_up (va_up (fun _ => none) 0 (some (q 68))) 1 (some (q 73))) 2 (some (q 78))) 3 (some (q 83))) 4 (some (q 88))) 5 (some (q 93))) 6 (some (q 98))) 7 (some (q 103))) 8 (some (q 108))) 9 (some (q 113)))))))),
  (q 7, .inl (g 1, 10, .inr (.inl (fun _ => 0)))),
  (q 8, .inl (g 1, 10, .inr (.inl (fun _ => 0)))),
  (q 9, .inr (4, [.ref (q 10), .ref (q 12), .ref (q 14), .ref (q 16), .ref (q 18), .ref (q 20), .ref (q 22), .ref (q 24), .ref (q 26), .ref (q 28)])),
  (q 10, .inr (2, [.ref (q 11), .int 0, .int 0])),
  (q 11, .inl (g 0, 220, .inl (fun _ => 0))),
  (q 12, .inr (2, [.ref (q 13), .int 0, .int 0])),
  (q 13, .inl (g 0, 220, .inl (fun _ => 0))),
  (q 14, .inr (2, [.ref (q 15), .int 0, .int 0])),
  (q 15, .inl (g 0, 220, .inl (fun _ => 0))),
  (q 16, .inr (2, [.ref (q 17), .int 0, .int 0])),
  (q 17, .inl (g 0, 220, .inl (fun _ => 0))),
  (q 18, .inr (2, [.ref (q 19), .int 0, .int 0])),
  (q 19, .inl (g 0, 220, .inl (fun _ => 0))),
  (q 20, .inr (2, [.ref (q 21), .int 0, .int 0])),
  (q 21, .inl (g 0, 220, .inl (fun _ => 0))),
  (q 22, .inr (2, [.ref (q 23), .int 0, .int 0])),
  (q 23, .inl (g 0, 220, .inl (fun _ => 0))),
  (q 24, .inr (2, [.ref (q 25), .int 0, .int 0])),
  (q 25, .inl (g 0, 220, .inl (fun _ => 0))),
  (q 26, .inr (2, [.ref (q 27), .int 0, .int 0])),
  (q 27, .inl (g 0, 220, .inl (fun _ => 0))),
  (q 28, .inr (2, [.ref (q 29), .int 0, .int 0])),
  (q 29, .inl (g 0, 220, .inl (fun _ => 0))),
  (q 30, .inr (5, [.ref (q 31), .long 0, .ref (q 9), .int 0])),
  (q 31, .inr (3, [.ref (q 32), .int 0, .int 1])),
  (q 32, .inr (2, [.ref (q 33), .int 1, .int 0])),
  (q 33, .inl (g 0, 3, .inl (upd (fun _ => 0) 0 1))),
  (q 34, .inr (6, [.int 52, .int 1075, .int 2047, .long 0, .int 0, .ref (q 9), .int 0])),
  (q 35, .inr (6, [.int 23, .int 150, .int 255, .long 0, .int 0, .ref (q 9), .int 0])),
  (q 36, .inr (7, [.int 0, .int 0, .ref (q 37)])),
  (q 37, .inl (g 2, 1026, .inl (fun _ => 0))),
  (q 38, .inr (8, [.long 0, .long 0, .ref (q 1), .ref (q 9), .int 0, .int 0, .int 0, .int 0, .int 0, .int 0, .int 0, .long 0])),
  (q 39, .inr (9, [.ref (q 3), .ref (q 9), .ref (q 36)])),
  (q 40, .inr (11, [.int 0, .ref (q 41), .ref (q 42), .ref (q 43), .ref (q 44), .ref (q 1), .ref (q 47), .ref (q 36), .ref (q 45), .int 0, .int 0, .int 0])),
  (q 41, .inl (g 0, 9, .inl (fun _ => 0))),
  (q 42, .inl (g 1, 9, .inr (.inl (fun _ => 0)))),
  (q 43, .inl (g 0, 9, .inl (fun _ => 0))),
  (q 44, .inl (g 6, 9, .inr (.inr (.inr (.inr (va_up (va_up (va_up (va_up (va_up (va_up (va_up (va_up (va_up (fun _ => none) 0 (some (q 48))) 1 (some (q 50))) 2 (some (q 52))) 3 (some (q 54))) 4 (some (q 56))) 5 (some (q 58))) 6 (some (q 60))) 7 (some (q 62))) 8 (some (q 64)))))))),
  (q 45, .inr (1, [.ref (q 46), .int 4104, .int 0])),
  (q 46, .inl (g 1, 513, .inr (.inl (fun _ => 0)))),
  (q 47, .inr (10, [.int 0, .int 0, .int 0, .int 0, .int 0, .int 0, .ref (q 1), .int 0])),
  (q 48, .inr (1, [.ref (q 49), .int 64, .int 0])),
  (q 49, .inl (g 1, 8, .inr (.inl (fun _ => 0)))),
  (q 50, .inr (1, [.ref (q 51), .int 64, .int 0])),
  (q 51, .inl (g 1, 8, .inr (.inl (fun _ => 0)))),
  (q 52, .inr (1, [.ref (q 53), .int 64, .int 0])),
  (q 53, .inl (g 1, 8, .inr (.inl (fun _ => 0)))),
  (q 54, .inr (1, [.ref (q 55), .int 64, .int 0])),
  (q 55, .inl (g 1, 8, .inr (.inl (fun _ => 0)))),
  (q 56, .inr (1, [.ref (q 57), .int 64, .int 0])),
  (q 57, .inl (g 1, 8, .inr (.inl (fun _ => 0)))),
  (q 58, .inr (1, [.ref (q 59), .int 64, .int 0])),
  (q 59, .inl (g 1, 8, .inr (.inl (fun _ => 0)))),
  (q 60, .inr (1, [.ref (q 61), .int 64, .int 0])),
  (q 61, .inl (g 1, 8, .inr (.inl (fun _ => 0)))),
  (q 62, .inr (1, [.ref (q 63), .int 64, .int 0])),
  (q 63, .inl (g 1, 8, .inr (.inl (fun _ => 0)))),
  (q 64, .inr (1, [.ref (q 65), .int 64, .int 0])),
  (q 65, .inl (g 1, 8, .inr (.inl (fun _ => 0)))),
  (q 66, .inr (2, [.ref (q 67), .int 0, .int 0])),
  (q 67, .inl (g 0, 68, .inl (fun _ => 0))),
  (q 68, .inr (3, [.ref (q 69), .int 0, .int 1])),
  (q 69, .inr (2, [.ref (q 70), .int 0, .int 0])),
  (q 70, .inl (g 0, 108, .inl (fun _ => 0))),
  (q 71, .inr (2, [.ref (q 72), .int 0, .int 0])),
  (q 72, .inl (g 0, 68, .inl (fun _ => 0))),
  (q 73, .inr (3, [.ref (q 74), .int 0, .int 1])),
  (q 74, .inr (2, [.ref (q 75), .int 0, .int 0])),
  (q 75, .inl (g 0, 108, .inl (fun _ => 0))),
  (q 76, .inr (2, [.ref (q 77), .int 0, .int 0])),
  (q 77, .inl (g 0, 68, .inl (fun _ => 0))),
  (q 78, .inr (3, [.ref (q 79), .int 0, .int 1])),
  (q 79, .inr (2, [.ref (q 80), .int 0, .int 0])),
  (q 80, .inl (g 0, 108, .inl (fun _ => 0))),
  (q 81, .inr (2, [.ref (q 82), .int 0, .int 0])),
  (q 82, .inl (g 0, 68, .inl (fun _ => 0))),
  (q 83, .inr (3, [.ref (q 84), .int 0, .int 1])),
  (q 84, .inr (2, [.ref (q 85), .int 0, .int 0])),
  (q 85, .inl (g 0, 108, .inl (fun _ => 0))),
  (q 86, .inr (2, [.ref (q 87), .int 0, .int 0])),
  (q 87, .inl (g 0, 68, .inl (fun _ => 0))),
  (q 88, .inr (3, [.ref (q 89), .int 0, .int 1])),
  (q 89, .inr (2, [.ref (q 90), .int 0, .int 0])),
  (q 90, .inl (g 0, 108, .inl (fun _ => 0))),
  (q 91, .inr (2, [.ref (q 92), .int 0, .int 0])),
  (q 92, .inl (g 0, 68, .inl (fun _ => 0))),
  (q 93, .inr (3, [.ref (q 94), .int 0, .int 1])),
  (q 94, .inr (2, [.ref (q 95), .int 0, .int 0])),
  (q 95, .inl (g 0, 108, .inl (fun _ => 0))),
  (q 96, .inr (2, [.ref (q 97), .int 0, .int 0])),
  (q 97, .inl (g 0, 68, .inl (fun _ => 0))),
  (q 98, .inr (3, [.ref (q 99), .int 0, .int 1])),
  (q 99, .inr (2, [.ref (q 100), .int 0, .int 0])),
  (q 100, .inl (g 0, 108, .inl (fun _ => 0))),
  (q 101, .inr (2, [.ref (q 102), .int 0, .int 0])),
  (q 102, .inl (g 0, 68, .inl (fun _ => 0))),
  (q 103, .inr (3, [.ref (q 104), .int 0, .int 1])),
  (q 104, .inr (2, [.ref (q 105), .int 0, .int 0])),
  (q 105, .inl (g 0, 108, .inl (fun _ => 0))),
  (q 106, .inr (2, [.ref (q 107), .int 0, .int 0])),
  (q 107, .inl (g 0, 68, .inl (fun _ => 0))),
  (q 108, .inr (3, [.ref (q 109), .int 0, .int 1])),
  (q 109, .inr (2, [.ref (q 110), .int 0, .int 0])),
  (q 110, .inl (g 0, 108, .inl (fun _ => 0))),
  (q 111, .inr (2, [.ref (q 112), .int 0, .int 0])),
  (q 112, .inl (g 0, 68, .inl (fun _ => 0))),
  (q 113, .inr (3, [.ref (q 114), .int 0, .int 1])),
  (q 114, .inr (2, [.ref (q 115), .int 0, .int 0])),
  (q 115, .inl (g 0, 108, .inl (fun _ => 0)))]
def y_NH_init : MethodName := ⟨"NumberHouse", "<init>", "()V"⟩

