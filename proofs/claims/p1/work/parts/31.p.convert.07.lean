set_option maxRecDepth 100000 in
set_option maxHeartbeats 4000000 in
theorem c_NM_exact_3 (l : Launch) (D : va_G) (g : Nat → ClassId) (ws : va_W) ( qO0 qA1 qA2 qA3 qO4 qO5 qO6 qO7 qO8 qA9 qA10 qA34 qA35 qA36 qA37 qA38 qA39 qA40 : Nat) (x1 : Int32) (hO0 : ws[116]? = (some (qO0, .inr (12, [.int 0, .ref qA2, .int 0, .ref qA3, .int 0, .ref qO4, .ref qO5, .ref qO6, .ref qO7, .ref qO8, .ref qA9, .ref qA10])) : Option (Nat × va_E))) (hA1 : ws[135]? = (some (qA1, .inl (g 0, 4100, .inl (fun _ => 0))) : Option (Nat × va_E))) (hO6 : ws[145]? = (some (qO6, .inr (15, [.int 0, .ref qA34, .ref qA35, .ref qA36, .ref qA37, .ref qA38, .ref qA39, .ref qA40, .int 0, .int 0, .int 0, .long 0, .int 0, .int 0, .long 0, .int 0, .long 0, .int 0])) : Option (Nat × va_E))) (hA34 : ws[146]? = (some (qA34, .inl (g 0, 156, .inl (fun _ => 0))) : Option (Nat × va_E))) (hA35 : ws[147]? = (some (qA35, .inl (g 0, 156, .inl (fun _ => 0))) : Option (Nat × va_E))) (hA36 : ws[148]? = (some (qA36, .inl (g 0, 1404, .inl (fun _ => 0))) : Option (Nat × va_E))) (hA39 : ws[151]? = (some (qA39, .inl (g 0, 1404, .inl (fun _ => 0))) : Option (Nat × va_E))) (hA40 : ws[152]? = (some (qA40, .inl (g 0, 1600, .inl (fun _ => 0))) : Option (Nat × va_E))) (x1lo : 2 ≤ x1) (x1hi : x1 ≤ 3) : q_mI l y_NM_exact prog_14_method_28_code 7 (.int) 4 0 0 D g [.ref qO0, .int x1, .long 0, .int 1074, .ref qA1] ws (fun r u => (∃ (ex0 : Nat → Int32), ¬ x1 = 3 ∧ 1076 = r ∧ q_un ws u [135, 145, 146, 147, 148, 151, 152] ∧ u[135]? = (some (qA1, .inl (g 0, 4100, .inl (q_fil (upd (upd (fun _ => 0) 0 48) 1 46) 2 48 1076))) : Option (Nat × va_E)) ∧ u[145]? = (some (qO6, .inr (15, [.int 0, .ref qA34, .ref qA35, .ref qA36, .ref qA37, .ref qA38, .ref qA39, .ref qA40, .int 1076, .int 0, .int 0, .long 0, .int 52, .int 2047, .long 0, .int (-1074), .long 0, .int 0])) : Option (Nat × va_E)) ∧ u[146]? = (some (qA34, .inl (g 0, 156, .inl ex0)) : Option (Nat × va_E)) ∧ u[147]? = (some (qA35, .inl (g 0, 156, .inl (fun _ => 0))) : Option (Nat × va_E)) ∧ u[148]? = (some (qA36, .inl (g 0, 1404, .inl (fun _ => 0))) : Option (Nat × va_E)) ∧ u[151]? = (some (qA39, .inl (g 0, 1404, .inl (fun _ => 0))) : Option (Nat × va_E)) ∧ u[152]? = (some (qA40, .inl (g 0, 1600, .inl (q_fil (upd (upd (fun _ => 0) 0 48) 1 46) 2 48 1076))) : Option (Nat × va_E))) ∨ (∃ (ex0 : Nat → Int32), x1 = 3 ∧ 1076 = r ∧ q_un ws u [135, 145, 146, 147, 148, 151, 152] ∧ u[135]? = (some (qA1, .inl (g 0, 4100, .inl (q_fil (upd (upd (fun _ => 0) 0 48) 1 46) 2 48 1076))) : Option (Nat × va_E)) ∧ u[145]? = (some (qO6, .inr (15, [.int 0, .ref qA34, .ref qA35, .ref qA36, .ref qA37, .ref qA38, .ref qA39, .ref qA40, .int 1076, .int 0, .int 0, .long 0, .int 23, .int 255, .long 0, .int (-149), .long 0, .int 0])) : Option (Nat × va_E)) ∧ u[146]? = (some (qA34, .inl (g 0, 156, .inl ex0)) : Option (Nat × va_E)) ∧ u[147]? = (some (qA35, .inl (g 0, 156, .inl (fun _ => 0))) : Option (Nat × va_E)) ∧ u[148]? = (some (qA36, .inl (g 0, 1404, .inl (fun _ => 0))) : Option (Nat × va_E)) ∧ u[151]? = (some (qA39, .inl (g 0, 1404, .inl (fun _ => 0))) : Option (Nat × va_E)) ∧ u[152]? = (some (qA40, .inl (g 0, 1600, .inl (q_fil (upd (upd (fun _ => 0) 0 48) 1 46) 2 48 1076))) : Option (Nat × va_E)))) := by
  intro sz
  refine q_into (by decide) (Nat.le_of_ble_eq_true rfl) ?_
  intro p e s m below meth c ls hsz C0 V hl
  have hx := C0.1
  have hb := C0.2.1
  have hl : lv_has ls 7 [(0, .ref qO0), (1, .int x1), (2, .long 0), (4, .int 1074), (5, .ref qA1)] := hl
  have hF : q_un ws ws [135, 145, 146, 147, 148, 151, 152] := q_u0
  refine lv_aload_n hx hb d_14_28_0 rfl (lv_at hl 0 rfl) ?_
  refine q_get (ci := 12) (j := 7) (v := .ref qO6) C0 V i_NM rfl rfl hO0 (by decide) w_2305 rfl d_14_28_1 ?_
  refine lv_lload_n hx hb d_14_28_4 rfl (lv_at hl 2 rfl) ?_
  refine lv_iload_n hx hb d_14_28_5 rfl (lv_at hl 1 rfl) ?_
  refine lv_iconst (v := 3) hx hb d_14_28_6 (by decide) ?_
  refine lv_icmp_ne (tgt := 14) hx hb d_14_28_7 (by decide) (fun c1 => ?_) (fun c1 => ?_)
  ·
    refine lv_iconst (v := 0) hx hb d_14_28_14 (by decide) ?_
    refine lv_iload hx hb d_14_28_15 (lv_at hl 3 rfl) ?_
    refine lv_iconst (v := 0) hx hb d_14_28_17 (by decide) ?_
    refine q_goi V (q_runV (As := [.long 0, .int 0, .int 1074, .int 0]) (rest := []) (d := 3) (mc := 0) (ms := 0) (ci := 15) C0 V rfl LV_NM_227 (c_FR_fixed l D g ws 145 146 147 148 151 152 qO6 qA34 qA35 qA36 qA37 qA38 qA39 qA40 hO6 hA34 hA35 hA36 hA39 hA40 (q_pd 146 147 rfl) (q_pd 146 148 rfl) (q_pd 146 151 rfl) (q_pd 146 152 rfl) (q_pd 147 151 rfl) (q_pd 147 152 rfl) (q_pd 148 147 rfl) (q_pd 148 151 rfl) (q_pd 148 152 rfl) (q_pd 151 152 rfl) _) rfl rfl hO6 rfl hl.1 rfl (Nat.le_of_ble_eq_true rfl) ⟨by decide, by decide⟩ ⟨Nat.le_of_ble_eq_true rfl, Nat.le_of_ble_eq_true rfl⟩ d_14_28_18) (fun v4 u3 H locs hp2 V => ?_)
    obtain ⟨y5, rfl, hg6, hO6, hA34, hA35, hA36, hA39, hA40⟩ := hp2
    replace hF := q_uc hF hg6 (q_sc (.tail _ (.head _)) (q_sc (.tail _ (.tail _ (.head _))) (q_sc (List.mem_of_getElem? (i := 3) rfl) (q_sc (List.mem_of_getElem? (i := 4) rfl) (q_sc (List.mem_of_getElem? (i := 5) rfl) (q_sc (List.mem_of_getElem? (i := 6) rfl) (fun _ h => absurd h List.not_mem_nil)))))))
    refine lv_istore (lv' := [(6, .int 1076), (0, .ref qO0), (1, .int x1), (2, .long 0), (4, .int 1074), (5, .ref qA1)]) hx hb d_14_28_21 hl (by decide) rfl (fun ls hl => ?_)
    refine lv_aload_n hx hb d_14_28_23 rfl (lv_at hl 1 rfl) ?_
    replace hO0 := (hg6 _ (q_nc (q_pd 116 145 rfl) (q_nc (q_pd 116 146 rfl) (q_nc (q_pd 116 147 rfl) (q_nc (q_pd 116 148 rfl) (q_nc (q_pd 116 151 rfl) (q_nc (q_pd 116 152 rfl) List.not_mem_nil))))))).trans (hO0)
    refine q_get (ci := 12) (j := 7) (v := .ref qO6) C0 V i_NM rfl rfl hO0 (by decide) w_2305 rfl d_14_28_24 ?_
    refine q_getN (ci := 15) (j := 7) (v := .ref qA40) C0 V i_FR rfl rfl hO6 (by decide) wo_2083 rfl d_14_28_27 ?_
    refine lv_iload hx hb d_14_28_30 (lv_at hl 0 rfl) ?_
    refine lv_aload hx hb d_14_28_32 (lv_at hl 5 rfl) ?_
    replace hA1 := (hg6 _ (q_nc (q_pd 135 145 rfl) (q_nc (q_pd 135 146 rfl) (q_nc (q_pd 135 147 rfl) (q_nc (q_pd 135 148 rfl) (q_nc (q_pd 135 151 rfl) (q_nc (q_pd 135 152 rfl) List.not_mem_nil))))))).trans (hA1)
    refine q_goi V (q_runS (As := [.ref qA40, .int 1076, .ref qA1]) (rest := []) (d := 1) (mc := 0) (ms := 0) C0 V rfl LS_NM_90 (c_NM_load_2 l D g u3 qA40 qA1 hA40 hA1 _) rfl hl.1 rfl (Nat.le_of_ble_eq_true rfl) ⟨by decide, by decide⟩ ⟨Nat.le_of_ble_eq_true rfl, Nat.le_of_ble_eq_true rfl⟩ d_14_28_34) (fun v9 u8 H locs hp7 V => ?_)
    obtain ⟨rfl, hg10, hA1⟩ := hp7
    replace hF := q_uc hF hg10 (q_sc (.head _) (fun _ h => absurd h List.not_mem_nil))
    replace hO6 := (hg10 _ (q_nc (q_pd 145 135 rfl) List.not_mem_nil)).trans (hO6)
    replace hA34 := (hg10 _ (q_nc (q_pd 146 135 rfl) List.not_mem_nil)).trans (hA34)
    replace hA35 := (hg10 _ (q_nc (q_pd 147 135 rfl) List.not_mem_nil)).trans (hA35)
    replace hA36 := (hg10 _ (q_nc (q_pd 148 135 rfl) List.not_mem_nil)).trans (hA36)
    replace hA39 := (hg10 _ (q_nc (q_pd 151 135 rfl) List.not_mem_nil)).trans (hA39)
    replace hA40 := (hg10 _ (q_nc (q_pd 152 135 rfl) List.not_mem_nil)).trans (hA40)
    exact q_reti C0 V (Or.inl ⟨y5, c1, rfl, hF, hA1, hO6, hA34, hA35, hA36, hA39, hA40⟩) d_14_28_37
  ·
    refine lv_iconst (v := 1) hx hb d_14_28_10 (by decide) ?_
    refine lv_goto (tgt := 15) hx hb d_14_28_11 (by decide) ?_
    refine lv_iload hx hb d_14_28_15 (lv_at hl 3 rfl) ?_
    refine lv_iconst (v := 0) hx hb d_14_28_17 (by decide) ?_
    refine q_goi V (q_runV (As := [.long 0, .int 1, .int 1074, .int 0]) (rest := []) (d := 3) (mc := 0) (ms := 0) (ci := 15) C0 V rfl LV_NM_227 (c_FR_fixed_3 l D g ws 145 146 147 148 151 152 qO6 qA34 qA35 qA36 qA37 qA38 qA39 qA40 hO6 hA34 hA35 hA36 hA39 hA40 (q_pd 146 147 rfl) (q_pd 146 148 rfl) (q_pd 146 151 rfl) (q_pd 146 152 rfl) (q_pd 147 151 rfl) (q_pd 147 152 rfl) (q_pd 148 147 rfl) (q_pd 148 151 rfl) (q_pd 148 152 rfl) (q_pd 151 152 rfl) _) rfl rfl hO6 rfl hl.1 rfl (Nat.le_of_ble_eq_true rfl) ⟨by decide, by decide⟩ ⟨Nat.le_of_ble_eq_true rfl, Nat.le_of_ble_eq_true rfl⟩ d_14_28_18) (fun v13 u12 H locs hp11 V => ?_)
    obtain ⟨y14, rfl, hg15, hO6, hA34, hA35, hA36, hA39, hA40⟩ := hp11
    replace hF := q_uc hF hg15 (q_sc (.tail _ (.head _)) (q_sc (.tail _ (.tail _ (.head _))) (q_sc (List.mem_of_getElem? (i := 3) rfl) (q_sc (List.mem_of_getElem? (i := 4) rfl) (q_sc (List.mem_of_getElem? (i := 5) rfl) (q_sc (List.mem_of_getElem? (i := 6) rfl) (fun _ h => absurd h List.not_mem_nil)))))))
    refine lv_istore (lv' := [(6, .int 1076), (0, .ref qO0), (1, .int x1), (2, .long 0), (4, .int 1074), (5, .ref qA1)]) hx hb d_14_28_21 hl (by decide) rfl (fun ls hl => ?_)
    refine lv_aload_n hx hb d_14_28_23 rfl (lv_at hl 1 rfl) ?_
    replace hO0 := (hg15 _ (q_nc (q_pd 116 145 rfl) (q_nc (q_pd 116 146 rfl) (q_nc (q_pd 116 147 rfl) (q_nc (q_pd 116 148 rfl) (q_nc (q_pd 116 151 rfl) (q_nc (q_pd 116 152 rfl) List.not_mem_nil))))))).trans (hO0)
    refine q_get (ci := 12) (j := 7) (v := .ref qO6) C0 V i_NM rfl rfl hO0 (by decide) w_2305 rfl d_14_28_24 ?_
    refine q_getN (ci := 15) (j := 7) (v := .ref qA40) C0 V i_FR rfl rfl hO6 (by decide) wo_2083 rfl d_14_28_27 ?_
    refine lv_iload hx hb d_14_28_30 (lv_at hl 0 rfl) ?_
    refine lv_aload hx hb d_14_28_32 (lv_at hl 5 rfl) ?_
    replace hA1 := (hg15 _ (q_nc (q_pd 135 145 rfl) (q_nc (q_pd 135 146 rfl) (q_nc (q_pd 135 147 rfl) (q_nc (q_pd 135 148 rfl) (q_nc (q_pd 135 151 rfl) (q_nc (q_pd 135 152 rfl) List.not_mem_nil))))))).trans (hA1)
    refine q_goi V (q_runS (As := [.ref qA40, .int 1076, .ref qA1]) (rest := []) (d := 1) (mc := 0) (ms := 0) C0 V rfl LS_NM_90 (c_NM_load_2 l D g u12 qA40 qA1 hA40 hA1 _) rfl hl.1 rfl (Nat.le_of_ble_eq_true rfl) ⟨by decide, by decide⟩ ⟨Nat.le_of_ble_eq_true rfl, Nat.le_of_ble_eq_true rfl⟩ d_14_28_34) (fun v18 u17 H locs hp16 V => ?_)
    obtain ⟨rfl, hg19, hA1⟩ := hp16
    replace hF := q_uc hF hg19 (q_sc (.head _) (fun _ h => absurd h List.not_mem_nil))
    replace hO6 := (hg19 _ (q_nc (q_pd 145 135 rfl) List.not_mem_nil)).trans (hO6)
    replace hA34 := (hg19 _ (q_nc (q_pd 146 135 rfl) List.not_mem_nil)).trans (hA34)
    replace hA35 := (hg19 _ (q_nc (q_pd 147 135 rfl) List.not_mem_nil)).trans (hA35)
    replace hA36 := (hg19 _ (q_nc (q_pd 148 135 rfl) List.not_mem_nil)).trans (hA36)
    replace hA39 := (hg19 _ (q_nc (q_pd 151 135 rfl) List.not_mem_nil)).trans (hA39)
    replace hA40 := (hg19 _ (q_nc (q_pd 152 135 rfl) List.not_mem_nil)).trans (hA40)
    exact q_reti C0 V (Or.inr (⟨y14, c1, rfl, hF, hA1, hO6, hA34, hA35, hA36, hA39, hA40⟩)) d_14_28_37
set_option maxRecDepth 100000 in
set_option maxHeartbeats 4000000 in
theorem c_NM_toDecimal_2 (l : Launch) (D : va_G) (g : Nat → ClassId) (ws : va_W) ( qO0 qA1 qA2 qO3 qO4 qO5 qO6 qO7 qA8 qA9 qA24 qA25 qA26 qA27 qA28 qA29 qA30 qA31 qA32 qA33 qA34 qA35 qA36 qA37 qA38 qA39 qA40 : Nat) (x1 : Int32) (x2 : Int32) (x3 : Int32) (hO0 : ws[116]? = (some (qO0, .inr (12, [.int 0, .ref qA1, .int 0, .ref qA2, .int 0, .ref qO3, .ref qO4, .ref qO5, .ref qO6, .ref qO7, .ref qA8, .ref qA9])) : Option (Nat × va_E))) (hO4 : ws[134]? = (some (qO4, .inr (14, [.int 0, .ref qA24, .int 0, .ref qA25, .ref qA26, .ref qA27, .ref qA28, .ref qA29, .int 0, .long 0, .int 0, .int 0, .ref qA30, .int 0, .ref qA31, .int 0, .ref qA32, .int 0, .ref qA33, .int 0, .int 0])) : Option (Nat × va_E))) (hO5 : ws[145]? = (some (qO5, .inr (15, [.int 0, .ref qA34, .ref qA35, .ref qA36, .ref qA37, .ref qA38, .ref qA39, .ref qA40, .int 0, .int 0, .int 0, .long 0, .int 0, .int 0, .long 0, .int 0, .long 0, .int 0])) : Option (Nat × va_E))) (hA8 : ws[167]? = (some (qA8, .inl (g 1, 20, .inr (.inl (fun _ => 0)))) : Option (Nat × va_E))) (hA24 : ws[135]? = (some (qA24, .inl (g 0, 4100, .inl (fun _ => 0))) : Option (Nat × va_E))) (hA25 : ws[136]? = (some (qA25, .inl (g 0, 10000, .inl (fun _ => 0))) : Option (Nat × va_E))) (hA26 : ws[137]? = (some (qA26, .inl (g 0, 10, .inl (upd (upd (upd (upd (upd (upd (upd (upd (upd (upd (fun _ => 0) 0 1) 1 1) 2 1) 3 1) 4 1) 5 1) 6 1) 7 1) 8 1) 9 1))) : Option (Nat × va_E))) (hA27 : ws[138]? = (some (qA27, .inl (g 3, 10, .inl (fun _ => 0))) : Option (Nat × va_E))) (hA28 : ws[139]? = (some (qA28, .inl (g 0, 10, .inl (fun _ => 0))) : Option (Nat × va_E))) (hA29 : ws[140]? = (some (qA29, .inl (g 0, 4400, .inl (fun _ => 0))) : Option (Nat × va_E))) (hA34 : ws[146]? = (some (qA34, .inl (g 0, 156, .inl (fun _ => 0))) : Option (Nat × va_E))) (hA35 : ws[147]? = (some (qA35, .inl (g 0, 156, .inl (fun _ => 0))) : Option (Nat × va_E))) (hA36 : ws[148]? = (some (qA36, .inl (g 0, 1404, .inl (fun _ => 0))) : Option (Nat × va_E))) (hA39 : ws[151]? = (some (qA39, .inl (g 0, 1404, .inl (fun _ => 0))) : Option (Nat × va_E))) (hA40 : ws[152]? = (some (qA40, .inl (g 0, 1600, .inl (fun _ => 0))) : Option (Nat × va_E))) (x1lo : 2 ≤ x1) (x1hi : x1 ≤ 3) (x2lo : 0 ≤ x2) (x2hi : x2 ≤ 9) (x3lo : 0 ≤ x3) (x3hi : x3 ≤ 9) : q_mV l y_NM_toDecimal prog_14_method_30_code 5 5 0 0 D g [.ref qO0, .int x1, .int x2, .int x3] ws (fun u => (∃ (ex0 : Nat → Int32), ¬ x1 = 3 ∧ q_un ws u [116, 134, 145, 135, 136, 137, 138, 139, 140, 146, 147, 148, 151, 152] ∧ u[116]? = (some (qO0, .inr (12, [.int 0, .ref qA1, .int 0, .ref qA2, .int 0, .ref qO3, .ref qO4, .ref qO5, .ref qO6, .ref qO7, .ref qA8, .ref qA9])) : Option (Nat × va_E)) ∧ u[134]? = (some (qO4, .inr (14, [.int 0, .ref qA24, .int 0, .ref qA25, .ref qA26, .ref qA27, .ref qA28, .ref qA29, .int 1, .long 0, .int 0, .int 0, .ref qA30, .int 0, .ref qA31, .int 0, .ref qA32, .int 0, .ref qA33, .int 0, .int 3])) : Option (Nat × va_E)) ∧ u[145]? = (some (qO5, .inr (15, [.int 0, .ref qA34, .ref qA35, .ref qA36, .ref qA37, .ref qA38, .ref qA39, .ref qA40, .int 1076, .int 0, .int 0, .long 0, .int 52, .int 2047, .long 0, .int (-1074), .long 0, .int 0])) : Option (Nat × va_E)) ∧ u[135]? = (some (qA24, .inl (g 0, 4100, .inl (q_fil (upd (upd (fun _ => 0) 0 48) 1 46) 2 48 1076))) : Option (Nat × va_E)) ∧ u[136]? = (some (qA25, .inl (g 0, 10000, .inl (fun _ => 0))) : Option (Nat × va_E)) ∧ u[137]? = (some (qA26, .inl (g 0, 10, .inl (upd (upd (upd (upd (upd (upd (upd (upd (upd (upd (upd (fun _ => 0) 0 1) 1 1) 2 1) 3 1) 4 1) 5 1) 6 1) 7 1) 8 1) 9 1) x3.toNatClampNeg 1))) : Option (Nat × va_E)) ∧ u[138]? = (some (qA27, .inl (g 3, 10, .inl (fun _ => 0))) : Option (Nat × va_E)) ∧ u[139]? = (some (qA28, .inl (g 0, 10, .inl (fun _ => 0))) : Option (Nat × va_E)) ∧ u[140]? = (some (qA29, .inl (g 0, 4400, .inl (fun _ => 0))) : Option (Nat × va_E)) ∧ u[146]? = (some (qA34, .inl (g 0, 156, .inl ex0)) : Option (Nat × va_E)) ∧ u[147]? = (some (qA35, .inl (g 0, 156, .inl (fun _ => 0))) : Option (Nat × va_E)) ∧ u[148]? = (some (qA36, .inl (g 0, 1404, .inl (fun _ => 0))) : Option (Nat × va_E)) ∧ u[151]? = (some (qA39, .inl (g 0, 1404, .inl (fun _ => 0))) : Option (Nat × va_E)) ∧ u[152]? = (some (qA40, .inl (g 0, 1600, .inl (q_fil (upd (upd (fun _ => 0) 0 48) 1 46) 2 48 1076))) : Option (Nat × va_E))) ∨ (∃ (ex0 : Nat → Int32), x1 = 3 ∧ q_un ws u [116, 134, 145, 135, 136, 137, 138, 139, 140, 146, 147, 148, 151, 152] ∧ u[116]? = (some (qO0, .inr (12, [.int 0, .ref qA1, .int 0, .ref qA2, .int 0, .ref qO3, .ref qO4, .ref qO5, .ref qO6, .ref qO7, .ref qA8, .ref qA9])) : Option (Nat × va_E)) ∧ u[134]? = (some (qO4, .inr (14, [.int 0, .ref qA24, .int 0, .ref qA25, .ref qA26, .ref qA27, .ref qA28, .ref qA29, .int 1, .long 0, .int 0, .int 0, .ref qA30, .int 0, .ref qA31, .int 0, .ref qA32, .int 0, .ref qA33, .int 0, .int 3])) : Option (Nat × va_E)) ∧ u[145]? = (some (qO5, .inr (15, [.int 0, .ref qA34, .ref qA35, .ref qA36, .ref qA37, .ref qA38, .ref qA39, .ref qA40, .int 1076, .int 0, .int 0, .long 0, .int 23, .int 255, .long 0, .int (-149), .long 0, .int 0])) : Option (Nat × va_E)) ∧ u[135]? = (some (qA24, .inl (g 0, 4100, .inl (q_fil (upd (upd (fun _ => 0) 0 48) 1 46) 2 48 1076))) : Option (Nat × va_E)) ∧ u[136]? = (some (qA25, .inl (g 0, 10000, .inl (fun _ => 0))) : Option (Nat × va_E)) ∧ u[137]? = (some (qA26, .inl (g 0, 10, .inl (upd (upd (upd (upd (upd (upd (upd (upd (upd (upd (upd (fun _ => 0) 0 1) 1 1) 2 1) 3 1) 4 1) 5 1) 6 1) 7 1) 8 1) 9 1) x3.toNatClampNeg 1))) : Option (Nat × va_E)) ∧ u[138]? = (some (qA27, .inl (g 3, 10, .inl (fun _ => 0))) : Option (Nat × va_E)) ∧ u[139]? = (some (qA28, .inl (g 0, 10, .inl (fun _ => 0))) : Option (Nat × va_E)) ∧ u[140]? = (some (qA29, .inl (g 0, 4400, .inl (fun _ => 0))) : Option (Nat × va_E)) ∧ u[146]? = (some (qA34, .inl (g 0, 156, .inl ex0)) : Option (Nat × va_E)) ∧ u[147]? = (some (qA35, .inl (g 0, 156, .inl (fun _ => 0))) : Option (Nat × va_E)) ∧ u[148]? = (some (qA36, .inl (g 0, 1404, .inl (fun _ => 0))) : Option (Nat × va_E)) ∧ u[151]? = (some (qA39, .inl (g 0, 1404, .inl (fun _ => 0))) : Option (Nat × va_E)) ∧ u[152]? = (some (qA40, .inl (g 0, 1600, .inl (q_fil (upd (upd (fun _ => 0) 0 48) 1 46) 2 48 1076))) : Option (Nat × va_E)))) := by
  intro sz
  refine q_into (by decide) (Nat.le_of_ble_eq_true rfl) ?_
  intro p e s m below meth c ls hsz C0 V hl
  have hx := C0.1
  have hb := C0.2.1
  have hl : lv_has ls 5 [(0, .ref qO0), (1, .int x1), (2, .int x2), (3, .int x3)] := hl
  have hF : q_un ws ws [116, 134, 145, 135, 136, 137, 138, 139, 140, 146, 147, 148, 151, 152] := q_u0
  refine lv_iconst (v := 0) hx hb d_14_30_0 (by decide) ?_
  refine lv_istore (lv' := [(4, .int 0), (0, .ref qO0), (1, .int x1), (2, .int x2), (3, .int x3)]) hx hb d_14_30_1 hl (by decide) rfl (fun ls hl => ?_)
  refine lv_iload_n hx hb d_14_30_3 rfl (lv_at hl 2 rfl) ?_
  refine lv_if_ne (tgt := 39) hx hb d_14_30_4 (by decide) (fun c1 => ?_) (fun c1 => absurd c1 (q_Ine (x := x1.toInt) (y := 0) rfl (by decide) (by have t1 : 2 ≤ x1.toInt := q_leI x1lo; have t2 : x1.toInt ≤ 3 := q_leI x1hi; omega)))
  refine lv_aload_n hx hb d_14_30_39 rfl (lv_at hl 1 rfl) ?_
  refine lv_iload_n hx hb d_14_30_40 rfl (lv_at hl 2 rfl) ?_
  refine lv_aload_n hx hb d_14_30_41 rfl (lv_at hl 1 rfl) ?_
  refine lv_iload_n hx hb d_14_30_42 rfl (lv_at hl 2 rfl) ?_
  refine lv_iload_n hx hb d_14_30_43 rfl (lv_at hl 3 rfl) ?_
  refine q_gol V (q_runV (As := [.int x1, .int x2]) (rest := [.int x1, .ref qO0]) (d := 1) (mc := 0) (ms := 0) (ci := 12) C0 V rfl LV_NM_138 (c_NM_bitsOf l D g ws qO0 qA1 qA2 qO3 qO4 qO5 qO6 qO7 qA8 qA9 x1 x2 hO0 hA8 x1lo x1hi x2lo x2hi _) rfl rfl hO0 rfl hl.1 rfl (Nat.le_of_ble_eq_true rfl) ⟨by decide, by decide⟩ ⟨Nat.le_of_ble_eq_true rfl, Nat.le_of_ble_eq_true rfl⟩ d_14_30_44) (fun v4 u3 H locs hp2 V => ?_)
  obtain ⟨rfl, rfl⟩ := hp2
  refine lv_sipush (v := 1074) hx hb d_14_30_47 (by decide) ?_
  refine lv_aload_n hx hb d_14_30_50 rfl (lv_at hl 1 rfl) ?_
  refine q_get (ci := 12) (j := 6) (v := .ref qO4) C0 V i_NM rfl rfl hO0 (by decide) w_2304 rfl d_14_30_51 ?_
  refine q_getN (ci := 14) (j := 1) (v := .ref qA24) C0 V i_DR rfl rfl hO4 (by decide) wo_1999 rfl d_14_30_54 ?_
  refine q_goi V (q_runV (As := [.int x1, .long 0, .int 1074, .ref qA24]) (rest := []) (d := 4) (mc := 0) (ms := 0) (ci := 12) C0 V rfl LV_NM_244 (c_NM_exact_3 l D g ws qO0 qA24 qA1 qA2 qO3 qO4 qO5 qO6 qO7 qA8 qA9 qA34 qA35 qA36 qA37 qA38 qA39 qA40 x1 hO0 hA24 hO5 hA34 hA35 hA36 hA39 hA40 x1lo x1hi _) rfl rfl hO0 rfl hl.1 rfl (Nat.le_of_ble_eq_true rfl) ⟨by decide, by decide⟩ ⟨Nat.le_of_ble_eq_true rfl, Nat.le_of_ble_eq_true rfl⟩ d_14_30_57) (fun v8 u7 H locs hp6 V => ?_)
  rcases hp6 with ⟨y10, c9, rfl, hg11, hA24, hO5, hA34, hA35, hA36, hA39, hA40⟩ | ⟨y13, c12, rfl, hg14, hA24, hO5, hA34, hA35, hA36, hA39, hA40⟩
  ·
    replace hF := q_uc hF hg11 (q_sc (List.mem_of_getElem? (i := 3) rfl) (q_sc (.tail _ (.tail _ (.head _))) (q_sc (List.mem_of_getElem? (i := 9) rfl) (q_sc (List.mem_of_getElem? (i := 10) rfl) (q_sc (List.mem_of_getElem? (i := 11) rfl) (q_sc (List.mem_of_getElem? (i := 12) rfl) (q_sc (List.mem_of_getElem? (i := 13) rfl) (fun _ h => absurd h List.not_mem_nil))))))))
    refine lv_istore (lv' := [(4, .int 1076), (0, .ref qO0), (1, .int x1), (2, .int x2), (3, .int x3)]) hx hb d_14_30_60 hl (by decide) rfl (fun ls hl => ?_)
    replace hO0 := (hg11 _ (q_nc (q_pd 116 135 rfl) (q_nc (q_pd 116 145 rfl) (q_nc (q_pd 116 146 rfl) (q_nc (q_pd 116 147 rfl) (q_nc (q_pd 116 148 rfl) (q_nc (q_pd 116 151 rfl) (q_nc (q_pd 116 152 rfl) List.not_mem_nil)))))))).trans (hO0)
    replace hO4 := (hg11 _ (q_nc (q_pd 134 135 rfl) (q_nc (q_pd 134 145 rfl) (q_nc (q_pd 134 146 rfl) (q_nc (q_pd 134 147 rfl) (q_nc (q_pd 134 148 rfl) (q_nc (q_pd 134 151 rfl) (q_nc (q_pd 134 152 rfl) List.not_mem_nil)))))))).trans (hO4)
    replace hA8 := (hg11 _ (q_nc (q_pd 167 135 rfl) (q_nc (q_pd 167 145 rfl) (q_nc (q_pd 167 146 rfl) (q_nc (q_pd 167 147 rfl) (q_nc (q_pd 167 148 rfl) (q_nc (q_pd 167 151 rfl) (q_nc (q_pd 167 152 rfl) List.not_mem_nil)))))))).trans (hA8)
    replace hA25 := (hg11 _ (q_nc (q_pd 136 135 rfl) (q_nc (q_pd 136 145 rfl) (q_nc (q_pd 136 146 rfl) (q_nc (q_pd 136 147 rfl) (q_nc (q_pd 136 148 rfl) (q_nc (q_pd 136 151 rfl) (q_nc (q_pd 136 152 rfl) List.not_mem_nil)))))))).trans (hA25)
    replace hA26 := (hg11 _ (q_nc (q_pd 137 135 rfl) (q_nc (q_pd 137 145 rfl) (q_nc (q_pd 137 146 rfl) (q_nc (q_pd 137 147 rfl) (q_nc (q_pd 137 148 rfl) (q_nc (q_pd 137 151 rfl) (q_nc (q_pd 137 152 rfl) List.not_mem_nil)))))))).trans (hA26)
    replace hA27 := (hg11 _ (q_nc (q_pd 138 135 rfl) (q_nc (q_pd 138 145 rfl) (q_nc (q_pd 138 146 rfl) (q_nc (q_pd 138 147 rfl) (q_nc (q_pd 138 148 rfl) (q_nc (q_pd 138 151 rfl) (q_nc (q_pd 138 152 rfl) List.not_mem_nil)))))))).trans (hA27)
    replace hA28 := (hg11 _ (q_nc (q_pd 139 135 rfl) (q_nc (q_pd 139 145 rfl) (q_nc (q_pd 139 146 rfl) (q_nc (q_pd 139 147 rfl) (q_nc (q_pd 139 148 rfl) (q_nc (q_pd 139 151 rfl) (q_nc (q_pd 139 152 rfl) List.not_mem_nil)))))))).trans (hA28)
    replace hA29 := (hg11 _ (q_nc (q_pd 140 135 rfl) (q_nc (q_pd 140 145 rfl) (q_nc (q_pd 140 146 rfl) (q_nc (q_pd 140 147 rfl) (q_nc (q_pd 140 148 rfl) (q_nc (q_pd 140 151 rfl) (q_nc (q_pd 140 152 rfl) List.not_mem_nil)))))))).trans (hA29)
    refine q_loop (X := Int32) (fun z H locs ls w16 => (2 ≤ z.toInt ∧ z.toInt ≤ 1076) ∧ q_Wd D g (va_A ws sz) s w16 H locs ∧ lv_has ls 5 [(4, .int z), (0, .ref qO0), (1, .int x1), (2, .int x2), (3, .int x3)] ∧ q_un ws w16 [116, 134, 145, 135, 136, 137, 138, 139, 140, 146, 147, 148, 151, 152] ∧ w16[116]? = (some (qO0, .inr (12, [.int 0, .ref qA1, .int 0, .ref qA2, .int 0, .ref qO3, .ref qO4, .ref qO5, .ref qO6, .ref qO7, .ref qA8, .ref qA9])) : Option (Nat × va_E)) ∧ w16[134]? = (some (qO4, .inr (14, [.int 0, .ref qA24, .int 0, .ref qA25, .ref qA26, .ref qA27, .ref qA28, .ref qA29, .int 0, .long 0, .int 0, .int 0, .ref qA30, .int 0, .ref qA31, .int 0, .ref qA32, .int 0, .ref qA33, .int 0, .int 0])) : Option (Nat × va_E)) ∧ w16[145]? = (some (qO5, .inr (15, [.int 0, .ref qA34, .ref qA35, .ref qA36, .ref qA37, .ref qA38, .ref qA39, .ref qA40, .int 1076, .int 0, .int 0, .long 0, .int 52, .int 2047, .long 0, .int (-1074), .long 0, .int 0])) : Option (Nat × va_E)) ∧ w16[167]? = (some (qA8, .inl (g 1, 20, .inr (.inl (fun _ => 0)))) : Option (Nat × va_E)) ∧ w16[135]? = (some (qA24, .inl (g 0, 4100, .inl (q_fil (upd (upd (fun _ => 0) 0 48) 1 46) 2 48 1076))) : Option (Nat × va_E)) ∧ w16[136]? = (some (qA25, .inl (g 0, 10000, .inl (fun _ => 0))) : Option (Nat × va_E)) ∧ w16[137]? = (some (qA26, .inl (g 0, 10, .inl (upd (upd (upd (upd (upd (upd (upd (upd (upd (upd (fun _ => 0) 0 1) 1 1) 2 1) 3 1) 4 1) 5 1) 6 1) 7 1) 8 1) 9 1))) : Option (Nat × va_E)) ∧ w16[138]? = (some (qA27, .inl (g 3, 10, .inl (fun _ => 0))) : Option (Nat × va_E)) ∧ w16[139]? = (some (qA28, .inl (g 0, 10, .inl (fun _ => 0))) : Option (Nat × va_E)) ∧ w16[140]? = (some (qA29, .inl (g 0, 4400, .inl (fun _ => 0))) : Option (Nat × va_E)) ∧ w16[146]? = (some (qA34, .inl (g 0, 156, .inl y10)) : Option (Nat × va_E)) ∧ w16[147]? = (some (qA35, .inl (g 0, 156, .inl (fun _ => 0))) : Option (Nat × va_E)) ∧ w16[148]? = (some (qA36, .inl (g 0, 1404, .inl (fun _ => 0))) : Option (Nat × va_E)) ∧ w16[151]? = (some (qA39, .inl (g 0, 1404, .inl (fun _ => 0))) : Option (Nat × va_E)) ∧ w16[152]? = (some (qA40, .inl (g 0, 1600, .inl (q_fil (upd (upd (fun _ => 0) 0 48) 1 46) 2 48 1076))) : Option (Nat × va_E))) (fun z => (z.toInt - 2).toNat) ?_ ((1076 : Int32)) _ _ _ u7 ⟨⟨by decide, by decide⟩, V, hl, hF, hO0, hO4, hO5, hA8, hA24, hA25, hA26, hA27, hA28, hA29, hA34, hA35, hA36, hA39, hA40⟩
    rintro lx15 H locs ls w16 ⟨i17, V, hl, hF, hO0, hO4, hO5, hA8, hA24, hA25, hA26, hA27, hA28, hA29, hA34, hA35, hA36, hA39, hA40⟩ ih18
    replace i17 : 2 ≤ lx15.toInt ∧ lx15.toInt ≤ 1076 := i17
    replace hl : lv_has ls 5 [(4, .int lx15), (0, .ref qO0), (1, .int x1), (2, .int x2), (3, .int x3)] := hl
    replace hO0 : w16[116]? = (some (qO0, .inr (12, [.int 0, .ref qA1, .int 0, .ref qA2, .int 0, .ref qO3, .ref qO4, .ref qO5, .ref qO6, .ref qO7, .ref qA8, .ref qA9])) : Option (Nat × va_E)) := hO0
    replace hO4 : w16[134]? = (some (qO4, .inr (14, [.int 0, .ref qA24, .int 0, .ref qA25, .ref qA26, .ref qA27, .ref qA28, .ref qA29, .int 0, .long 0, .int 0, .int 0, .ref qA30, .int 0, .ref qA31, .int 0, .ref qA32, .int 0, .ref qA33, .int 0, .int 0])) : Option (Nat × va_E)) := hO4
    replace hO5 : w16[145]? = (some (qO5, .inr (15, [.int 0, .ref qA34, .ref qA35, .ref qA36, .ref qA37, .ref qA38, .ref qA39, .ref qA40, .int 1076, .int 0, .int 0, .long 0, .int 52, .int 2047, .long 0, .int (-1074), .long 0, .int 0])) : Option (Nat × va_E)) := hO5
    replace hA8 : w16[167]? = (some (qA8, .inl (g 1, 20, .inr (.inl (fun _ => 0)))) : Option (Nat × va_E)) := hA8
    replace hA24 : w16[135]? = (some (qA24, .inl (g 0, 4100, .inl (q_fil (upd (upd (fun _ => 0) 0 48) 1 46) 2 48 1076))) : Option (Nat × va_E)) := hA24
    replace hA25 : w16[136]? = (some (qA25, .inl (g 0, 10000, .inl (fun _ => 0))) : Option (Nat × va_E)) := hA25
    replace hA26 : w16[137]? = (some (qA26, .inl (g 0, 10, .inl (upd (upd (upd (upd (upd (upd (upd (upd (upd (upd (fun _ => 0) 0 1) 1 1) 2 1) 3 1) 4 1) 5 1) 6 1) 7 1) 8 1) 9 1))) : Option (Nat × va_E)) := hA26
    replace hA27 : w16[138]? = (some (qA27, .inl (g 3, 10, .inl (fun _ => 0))) : Option (Nat × va_E)) := hA27
    replace hA28 : w16[139]? = (some (qA28, .inl (g 0, 10, .inl (fun _ => 0))) : Option (Nat × va_E)) := hA28
    replace hA29 : w16[140]? = (some (qA29, .inl (g 0, 4400, .inl (fun _ => 0))) : Option (Nat × va_E)) := hA29
    replace hA34 : w16[146]? = (some (qA34, .inl (g 0, 156, .inl y10)) : Option (Nat × va_E)) := hA34
    replace hA35 : w16[147]? = (some (qA35, .inl (g 0, 156, .inl (fun _ => 0))) : Option (Nat × va_E)) := hA35
    replace hA36 : w16[148]? = (some (qA36, .inl (g 0, 1404, .inl (fun _ => 0))) : Option (Nat × va_E)) := hA36
    replace hA39 : w16[151]? = (some (qA39, .inl (g 0, 1404, .inl (fun _ => 0))) : Option (Nat × va_E)) := hA39
    replace hA40 : w16[152]? = (some (qA40, .inl (g 0, 1600, .inl (q_fil (upd (upd (fun _ => 0) 0 48) 1 46) 2 48 1076))) : Option (Nat × va_E)) := hA40
    refine lv_aload_n hx hb d_14_30_62 rfl (lv_at hl 1 rfl) ?_
    refine q_get (ci := 12) (j := 6) (v := .ref qO4) C0 V i_NM rfl rfl hO0 (by decide) w_2304 rfl d_14_30_63 ?_
    refine q_getN (ci := 14) (j := 1) (v := .ref qA24) C0 V i_DR rfl rfl hO4 (by decide) wo_1999 rfl d_14_30_66 ?_
    refine lv_iload hx hb d_14_30_69 (lv_at hl 0 rfl) ?_
    refine lv_iconst (v := 1) hx hb d_14_30_71 (by decide) ?_
    refine lv_isub hx hb d_14_30_72 ?_
    refine q_iald C0 V hA24 (q_ix (x := (lx15.toInt - 1)) (q_subI (x := lx15.toInt) (y := 1) rfl (by decide) (by omega) (by omega)) (by omega) (by omega)) d_14_30_73 ?_
    by_cases c19 : (lx15 - 1) = 1
    ·
      refine q_ti (v := 46) (by rw [c19]; rfl) ?_
      refine lv_bipush (v := 48) hx hb d_14_30_74 (by decide) ?_
      refine lv_icmp_ne (tgt := 85) hx hb d_14_30_76 (by decide) (fun c20 => ?_) (fun c20 => absurd c20 (by decide))
      refine lv_aload_n hx hb d_14_30_85 rfl (lv_at hl 1 rfl) ?_
      refine q_get (ci := 12) (j := 6) (v := .ref qO4) C0 V i_NM rfl rfl hO0 (by decide) w_2304 rfl d_14_30_86 ?_
      refine q_getN (ci := 14) (j := 1) (v := .ref qA24) C0 V i_DR rfl rfl hO4 (by decide) wo_1999 rfl d_14_30_89 ?_
      refine lv_iload hx hb d_14_30_92 (lv_at hl 0 rfl) ?_
      refine q_ti (v := 2) (q_Ieq (x := lx15.toInt) (y := 2) rfl (by decide) (by have t1 : (lx15.toInt - 1) = 1 := by { have e1 : ((lx15 - 1) : Int32).toInt = (lx15.toInt - 1) := (q_subI (x := lx15.toInt) (y := 1) rfl (by decide) (by omega) (by omega)); have e2 : (1 : Int32).toInt = 1 := (by decide); have e3 := q_eqI c19; omega }; omega)) ?_
      refine lv_iconst (v := 1) hx hb d_14_30_94 (by decide) ?_
      refine lv_isub hx hb d_14_30_95 ?_
      refine q_ti (v := 1) (by decide) ?_
      refine q_iald C0 V hA24 (by unfold vp_in; decide) d_14_30_96 ?_
      refine q_ti (v := 46) (by first | rfl | decide | simp [upd, vp_updL, sb_cl0]) ?_
      refine lv_bipush (v := 46) hx hb d_14_30_97 (by decide) ?_
      refine lv_icmp_ne (tgt := 109) hx hb d_14_30_99 (by decide) (fun c21 => absurd (by decide) c21) (fun c21 => ?_)
      refine lv_iload hx hb d_14_30_102 (lv_at hl 0 rfl) ?_
      refine q_ti (v := 2) (q_Ieq (x := lx15.toInt) (y := 2) rfl (by decide) (by have t1 : (lx15.toInt - 1) = 1 := by { have e1 : ((lx15 - 1) : Int32).toInt = (lx15.toInt - 1) := (q_subI (x := lx15.toInt) (y := 1) rfl (by decide) (by omega) (by omega)); have e2 : (1 : Int32).toInt = 1 := (by decide); have e3 := q_eqI c19; omega }; omega)) ?_
      refine lv_iconst (v := 1) hx hb d_14_30_104 (by decide) ?_
      refine lv_isub hx hb d_14_30_105 ?_
      refine q_ti (v := 1) (by decide) ?_
      refine lv_goto (tgt := 111) hx hb d_14_30_106 (by decide) ?_
      refine lv_istore (lv' := [(4, .int 1), (0, .ref qO0), (1, .int x1), (2, .int x2), (3, .int x3)]) hx hb d_14_30_111 hl (by decide) rfl (fun ls hl => ?_)
      refine lv_aload_n hx hb d_14_30_113 rfl (lv_at hl 1 rfl) ?_
      refine q_get (ci := 12) (j := 6) (v := .ref qO4) C0 V i_NM rfl rfl hO0 (by decide) w_2304 rfl d_14_30_114 ?_
      refine lv_iload hx hb d_14_30_117 (lv_at hl 0 rfl) ?_
      refine q_putN (ci := 14) (j := 2) (v := .int 1) (ty := .int) C0 V i_DR o_DR n_DR rfl rfl hO4 (by decide) wo_2000 rfl rfl rfl rfl (Nat.le_of_ble_eq_true rfl) d_14_30_119 (fun H locs w22 hu23 hO4 V => ?_)
      replace hO4 : w22[134]? = (some (qO4, .inr (14, [.int 0, .ref qA24, .int 1, .ref qA25, .ref qA26, .ref qA27, .ref qA28, .ref qA29, .int 0, .long 0, .int 0, .int 0, .ref qA30, .int 0, .ref qA31, .int 0, .ref qA32, .int 0, .ref qA33, .int 0, .int 0])) : Option (Nat × va_E)) := hO4
      replace hF := q_us hF hu23 (.tail _ (.head _))
      refine lv_aload_n hx hb d_14_30_122 rfl (lv_at hl 1 rfl) ?_
      replace hO0 := (hu23 _ (q_pd 116 134 rfl)).trans (hO0)
      refine q_get (ci := 12) (j := 6) (v := .ref qO4) C0 V i_NM rfl rfl hO0 (by decide) w_2304 rfl d_14_30_123 ?_
      refine lv_iload_n hx hb d_14_30_126 rfl (lv_at hl 4 rfl) ?_
      replace hA24 := (hu23 _ (q_pd 135 134 rfl)).trans (hA24)
      replace hA25 := (hu23 _ (q_pd 136 134 rfl)).trans (hA25)
      replace hA26 := (hu23 _ (q_pd 137 134 rfl)).trans (hA26)
      replace hA27 := (hu23 _ (q_pd 138 134 rfl)).trans (hA27)
      replace hA28 := (hu23 _ (q_pd 139 134 rfl)).trans (hA28)
      replace hA29 := (hu23 _ (q_pd 140 134 rfl)).trans (hA29)
      refine q_gov V (q_runV (As := [.int x3]) (rest := []) (d := 3) (mc := 0) (ms := 0) (ci := 14) C0 V rfl LV_NM_102 (c_DR_read l D g w22 134 135 136 137 138 139 140 qO4 qA24 qA25 qA26 qA27 qA28 qA29 qA30 qA31 qA32 qA33 x3 hO4 hA24 hA25 hA26 hA27 hA28 hA29 (q_pd 135 136 rfl) (q_pd 135 137 rfl) (q_pd 135 138 rfl) (q_pd 135 139 rfl) (q_pd 135 140 rfl) (q_pd 136 137 rfl) (q_pd 136 138 rfl) (q_pd 136 139 rfl) (q_pd 136 140 rfl) (q_pd 137 138 rfl) (q_pd 137 139 rfl) (q_pd 137 140 rfl) (q_pd 138 139 rfl) (q_pd 138 140 rfl) (q_pd 139 140 rfl) x3lo x3hi _) rfl rfl hO4 rfl hl.1 rfl (Nat.le_of_ble_eq_true rfl) ⟨by decide, by decide⟩ ⟨Nat.le_of_ble_eq_true rfl, Nat.le_of_ble_eq_true rfl⟩ d_14_30_127) (fun u25 H locs hp24 V => ?_)
      obtain ⟨hg26, hO4, hA25, hA26, hA27, hA28, hA29⟩ := hp24
      replace hF := q_uc hF hg26 (q_sc (.tail _ (.head _)) (q_sc (List.mem_of_getElem? (i := 4) rfl) (q_sc (List.mem_of_getElem? (i := 5) rfl) (q_sc (List.mem_of_getElem? (i := 6) rfl) (q_sc (List.mem_of_getElem? (i := 7) rfl) (q_sc (List.mem_of_getElem? (i := 8) rfl) (fun _ h => absurd h List.not_mem_nil)))))))
      refine lv_aload_n hx hb d_14_30_130 rfl (lv_at hl 1 rfl) ?_
      replace hO0 := (hg26 _ (q_nc (q_pd 116 134 rfl) (q_nc (q_pd 116 136 rfl) (q_nc (q_pd 116 137 rfl) (q_nc (q_pd 116 138 rfl) (q_nc (q_pd 116 139 rfl) (q_nc (q_pd 116 140 rfl) List.not_mem_nil))))))).trans (hO0)
      refine q_get (ci := 12) (j := 6) (v := .ref qO4) C0 V i_NM rfl rfl hO0 (by decide) w_2304 rfl d_14_30_131 ?_
      refine lv_iconst (v := 0) hx hb d_14_30_134 (by decide) ?_
      refine q_putN (ci := 14) (j := 2) (v := .int 0) (ty := .int) C0 V i_DR o_DR n_DR rfl rfl hO4 (by decide) wo_2000 rfl rfl rfl rfl (Nat.le_of_ble_eq_true rfl) d_14_30_135 (fun H locs w27 hu28 hO4 V => ?_)
      replace hO4 : w27[134]? = (some (qO4, .inr (14, [.int 0, .ref qA24, .int 0, .ref qA25, .ref qA26, .ref qA27, .ref qA28, .ref qA29, .int 1, .long 0, .int 0, .int 0, .ref qA30, .int 0, .ref qA31, .int 0, .ref qA32, .int 0, .ref qA33, .int 0, .int 3])) : Option (Nat × va_E)) := hO4
      replace hF := q_us hF hu28 (.tail _ (.head _))
      refine lv_aload_n hx hb d_14_30_138 rfl (lv_at hl 1 rfl) ?_
      refine lv_aload_n hx hb d_14_30_139 rfl (lv_at hl 1 rfl) ?_
      replace hO0 := (hu28 _ (q_pd 116 134 rfl)).trans (hO0)
      refine q_get (ci := 12) (j := 6) (v := .ref qO4) C0 V i_NM rfl rfl hO0 (by decide) w_2304 rfl d_14_30_140 ?_
      refine q_getN (ci := 14) (j := 0) (v := .int 0) C0 V i_DR rfl rfl hO4 (by decide) wo_1997 rfl d_14_30_143 ?_
      refine lv_if_le (tgt := 153) hx hb d_14_30_146 (by decide) (fun c29 => ?_) (fun c29 => absurd (by decide) c29)
      refine lv_iconst (v := 0) hx hb d_14_30_153 (by decide) ?_
      refine q_put (ci := 12) (j := 0) (v := .int 0) (ty := .int) C0 V i_NM o_NM n_NM rfl rfl hO0 (by decide) w_2298 rfl rfl rfl rfl (Nat.le_of_ble_eq_true rfl) d_14_30_154 (fun H locs w30 hu31 hO0 V => ?_)
      replace hO0 : w30[116]? = (some (qO0, .inr (12, [.int 0, .ref qA1, .int 0, .ref qA2, .int 0, .ref qO3, .ref qO4, .ref qO5, .ref qO6, .ref qO7, .ref qA8, .ref qA9])) : Option (Nat × va_E)) := hO0
      replace hF := q_us hF hu31 (.head _)
      have RR : q_un w30 w30 [] := q_u0
      replace RR := q_ub hu31 RR
      replace hO4 := (RR 134 (by decide +kernel)).trans hO4
      replace RR := q_ub hu28 RR
      replace hA25 := (RR 136 (by decide +kernel)).trans hA25
      replace hA26 := (RR 137 (by decide +kernel)).trans hA26
      replace hA27 := (RR 138 (by decide +kernel)).trans hA27
      replace hA28 := (RR 139 (by decide +kernel)).trans hA28
      replace hA29 := (RR 140 (by decide +kernel)).trans hA29
      replace RR := q_ubc hg26 RR
      replace hA24 := (RR 135 (by decide +kernel)).trans hA24
      replace RR := q_ub hu23 RR
      replace hO5 := (RR 145 (by decide +kernel)).trans hO5
      replace hA34 := (RR 146 (by decide +kernel)).trans hA34
      replace hA35 := (RR 147 (by decide +kernel)).trans hA35
      replace hA36 := (RR 148 (by decide +kernel)).trans hA36
      replace hA39 := (RR 151 (by decide +kernel)).trans hA39
      replace hA40 := (RR 152 (by decide +kernel)).trans hA40
      exact q_retv C0 V (Or.inl ⟨y10, c9, hF, hO0, hO4, hO5, hA24, hA25, hA26, hA27, hA28, hA29, hA34, hA35, hA36, hA39, hA40⟩) d_14_30_157
    refine q_ti (v := 48) (q_flr (x := (lx15.toInt - 1)) (n := 1076) (q_subI (x := lx15.toInt) (y := 1) rfl (by decide) (by have t1 : (lx15.toInt - 1) ≠ 1 := by { have e1 : ((lx15 - 1) : Int32).toInt = (lx15.toInt - 1) := (q_subI (x := lx15.toInt) (y := 1) rfl (by decide) (by omega) (by omega)); have e2 : (1 : Int32).toInt = 1 := (by decide); have e3 := q_neI c19; omega }; omega) (by have t1 : (lx15.toInt - 1) ≠ 1 := by { have e1 : ((lx15 - 1) : Int32).toInt = (lx15.toInt - 1) := (q_subI (x := lx15.toInt) (y := 1) rfl (by decide) (by omega) (by omega)); have e2 : (1 : Int32).toInt = 1 := (by decide); have e3 := q_neI c19; omega }; omega)) rfl (by have t1 : (lx15.toInt - 1) ≠ 1 := by { have e1 : ((lx15 - 1) : Int32).toInt = (lx15.toInt - 1) := (q_subI (x := lx15.toInt) (y := 1) rfl (by decide) (by omega) (by omega)); have e2 : (1 : Int32).toInt = 1 := (by decide); have e3 := q_neI c19; omega }; have e7 : (lx15 - 1 : Int32).toInt = (lx15.toInt - 1) := (q_subI (x := lx15.toInt) (y := 1) rfl (by decide) (by have t1 : (lx15.toInt - 1) ≠ 1 := by { have e1 : ((lx15 - 1) : Int32).toInt = (lx15.toInt - 1) := (q_subI (x := lx15.toInt) (y := 1) rfl (by decide) (by omega) (by omega)); have e2 : (1 : Int32).toInt = 1 := (by decide); have e3 := q_neI c19; omega }; omega) (by have t1 : (lx15.toInt - 1) ≠ 1 := by { have e1 : ((lx15 - 1) : Int32).toInt = (lx15.toInt - 1) := (q_subI (x := lx15.toInt) (y := 1) rfl (by decide) (by omega) (by omega)); have e2 : (1 : Int32).toInt = 1 := (by decide); have e3 := q_neI c19; omega }; omega)); omega) (by have t1 : (lx15.toInt - 1) ≠ 1 := by { have e1 : ((lx15 - 1) : Int32).toInt = (lx15.toInt - 1) := (q_subI (x := lx15.toInt) (y := 1) rfl (by decide) (by omega) (by omega)); have e2 : (1 : Int32).toInt = 1 := (by decide); have e3 := q_neI c19; omega }; have e7 : (lx15 - 1 : Int32).toInt = (lx15.toInt - 1) := (q_subI (x := lx15.toInt) (y := 1) rfl (by decide) (by have t1 : (lx15.toInt - 1) ≠ 1 := by { have e1 : ((lx15 - 1) : Int32).toInt = (lx15.toInt - 1) := (q_subI (x := lx15.toInt) (y := 1) rfl (by decide) (by omega) (by omega)); have e2 : (1 : Int32).toInt = 1 := (by decide); have e3 := q_neI c19; omega }; omega) (by have t1 : (lx15.toInt - 1) ≠ 1 := by { have e1 : ((lx15 - 1) : Int32).toInt = (lx15.toInt - 1) := (q_subI (x := lx15.toInt) (y := 1) rfl (by decide) (by omega) (by omega)); have e2 : (1 : Int32).toInt = 1 := (by decide); have e3 := q_neI c19; omega }; omega)); omega)) ?_
    refine lv_bipush (v := 48) hx hb d_14_30_74 (by decide) ?_
    refine lv_icmp_ne (tgt := 85) hx hb d_14_30_76 (by decide) (fun c32 => absurd (by decide) c32) (fun c32 => ?_)
    refine lv_iinc (v := lx15 + (-1)) (lv' := [(4, .int (lx15 + (-1))), (0, .ref qO0), (1, .int x1), (2, .int x2), (3, .int x3)]) hx hb d_14_30_79 hl (k := 0) rfl (rfl) (by decide) rfl (fun ls hl => ?_)
    refine lv_goto (tgt := 62) hx hb d_14_30_82 (by decide) ?_
    exact ih18 ((lx15 + (-1) : Int32)) _ _ _ _ (show ((lx15 + (-1)).toInt - 2).toNat < (lx15.toInt - 2).toNat from by have t1 : (lx15.toInt - 1) ≠ 1 := by { have e1 : ((lx15 - 1) : Int32).toInt = (lx15.toInt - 1) := (q_subI (x := lx15.toInt) (y := 1) rfl (by decide) (by omega) (by omega)); have e2 : (1 : Int32).toInt = 1 := (by decide); have e3 := q_neI c19; omega }; have e : (lx15 + (-1)).toInt = (lx15.toInt + (-1)) := (q_addI (x := lx15.toInt) (y := (-1)) rfl (by decide) (by have t1 : (lx15.toInt - 1) ≠ 1 := by { have e1 : ((lx15 - 1) : Int32).toInt = (lx15.toInt - 1) := (q_subI (x := lx15.toInt) (y := 1) rfl (by decide) (by omega) (by omega)); have e2 : (1 : Int32).toInt = 1 := (by decide); have e3 := q_neI c19; omega }; omega) (by have t1 : (lx15.toInt - 1) ≠ 1 := by { have e1 : ((lx15 - 1) : Int32).toInt = (lx15.toInt - 1) := (q_subI (x := lx15.toInt) (y := 1) rfl (by decide) (by omega) (by omega)); have e2 : (1 : Int32).toInt = 1 := (by decide); have e3 := q_neI c19; omega }; omega)); omega) ⟨(show 2 ≤ (lx15 + (-1)).toInt ∧ (lx15 + (-1)).toInt ≤ 1076 from by have t1 : (lx15.toInt - 1) ≠ 1 := by { have e1 : ((lx15 - 1) : Int32).toInt = (lx15.toInt - 1) := (q_subI (x := lx15.toInt) (y := 1) rfl (by decide) (by omega) (by omega)); have e2 : (1 : Int32).toInt = 1 := (by decide); have e3 := q_neI c19; omega }; have e : (lx15 + (-1)).toInt = (lx15.toInt + (-1)) := (q_addI (x := lx15.toInt) (y := (-1)) rfl (by decide) (by have t1 : (lx15.toInt - 1) ≠ 1 := by { have e1 : ((lx15 - 1) : Int32).toInt = (lx15.toInt - 1) := (q_subI (x := lx15.toInt) (y := 1) rfl (by decide) (by omega) (by omega)); have e2 : (1 : Int32).toInt = 1 := (by decide); have e3 := q_neI c19; omega }; omega) (by have t1 : (lx15.toInt - 1) ≠ 1 := by { have e1 : ((lx15 - 1) : Int32).toInt = (lx15.toInt - 1) := (q_subI (x := lx15.toInt) (y := 1) rfl (by decide) (by omega) (by omega)); have e2 : (1 : Int32).toInt = 1 := (by decide); have e3 := q_neI c19; omega }; omega)); omega), V, q_lw hl (q_lw1 0 rfl (q_lw1 1 rfl (q_lw1 2 rfl (q_lw1 3 rfl (q_lw1 4 rfl q_lw0))))), hF, hO0, hO4, hO5, hA8, hA24, hA25, hA26, hA27, hA28, hA29, hA34, hA35, hA36, hA39, hA40⟩
  ·
    replace hF := q_uc hF hg14 (q_sc (List.mem_of_getElem? (i := 3) rfl) (q_sc (.tail _ (.tail _ (.head _))) (q_sc (List.mem_of_getElem? (i := 9) rfl) (q_sc (List.mem_of_getElem? (i := 10) rfl) (q_sc (List.mem_of_getElem? (i := 11) rfl) (q_sc (List.mem_of_getElem? (i := 12) rfl) (q_sc (List.mem_of_getElem? (i := 13) rfl) (fun _ h => absurd h List.not_mem_nil))))))))
    refine lv_istore (lv' := [(4, .int 1076), (0, .ref qO0), (1, .int x1), (2, .int x2), (3, .int x3)]) hx hb d_14_30_60 hl (by decide) rfl (fun ls hl => ?_)
    replace hO0 := (hg14 _ (q_nc (q_pd 116 135 rfl) (q_nc (q_pd 116 145 rfl) (q_nc (q_pd 116 146 rfl) (q_nc (q_pd 116 147 rfl) (q_nc (q_pd 116 148 rfl) (q_nc (q_pd 116 151 rfl) (q_nc (q_pd 116 152 rfl) List.not_mem_nil)))))))).trans (hO0)
    replace hO4 := (hg14 _ (q_nc (q_pd 134 135 rfl) (q_nc (q_pd 134 145 rfl) (q_nc (q_pd 134 146 rfl) (q_nc (q_pd 134 147 rfl) (q_nc (q_pd 134 148 rfl) (q_nc (q_pd 134 151 rfl) (q_nc (q_pd 134 152 rfl) List.not_mem_nil)))))))).trans (hO4)
    replace hA8 := (hg14 _ (q_nc (q_pd 167 135 rfl) (q_nc (q_pd 167 145 rfl) (q_nc (q_pd 167 146 rfl) (q_nc (q_pd 167 147 rfl) (q_nc (q_pd 167 148 rfl) (q_nc (q_pd 167 151 rfl) (q_nc (q_pd 167 152 rfl) List.not_mem_nil)))))))).trans (hA8)
    replace hA25 := (hg14 _ (q_nc (q_pd 136 135 rfl) (q_nc (q_pd 136 145 rfl) (q_nc (q_pd 136 146 rfl) (q_nc (q_pd 136 147 rfl) (q_nc (q_pd 136 148 rfl) (q_nc (q_pd 136 151 rfl) (q_nc (q_pd 136 152 rfl) List.not_mem_nil)))))))).trans (hA25)
    replace hA26 := (hg14 _ (q_nc (q_pd 137 135 rfl) (q_nc (q_pd 137 145 rfl) (q_nc (q_pd 137 146 rfl) (q_nc (q_pd 137 147 rfl) (q_nc (q_pd 137 148 rfl) (q_nc (q_pd 137 151 rfl) (q_nc (q_pd 137 152 rfl) List.not_mem_nil)))))))).trans (hA26)
    replace hA27 := (hg14 _ (q_nc (q_pd 138 135 rfl) (q_nc (q_pd 138 145 rfl) (q_nc (q_pd 138 146 rfl) (q_nc (q_pd 138 147 rfl) (q_nc (q_pd 138 148 rfl) (q_nc (q_pd 138 151 rfl) (q_nc (q_pd 138 152 rfl) List.not_mem_nil)))))))).trans (hA27)
    replace hA28 := (hg14 _ (q_nc (q_pd 139 135 rfl) (q_nc (q_pd 139 145 rfl) (q_nc (q_pd 139 146 rfl) (q_nc (q_pd 139 147 rfl) (q_nc (q_pd 139 148 rfl) (q_nc (q_pd 139 151 rfl) (q_nc (q_pd 139 152 rfl) List.not_mem_nil)))))))).trans (hA28)
    replace hA29 := (hg14 _ (q_nc (q_pd 140 135 rfl) (q_nc (q_pd 140 145 rfl) (q_nc (q_pd 140 146 rfl) (q_nc (q_pd 140 147 rfl) (q_nc (q_pd 140 148 rfl) (q_nc (q_pd 140 151 rfl) (q_nc (q_pd 140 152 rfl) List.not_mem_nil)))))))).trans (hA29)
    refine q_loop (X := Int32) (fun z H locs ls w34 => (2 ≤ z.toInt ∧ z.toInt ≤ 1076) ∧ q_Wd D g (va_A ws sz) s w34 H locs ∧ lv_has ls 5 [(4, .int z), (0, .ref qO0), (1, .int x1), (2, .int x2), (3, .int x3)] ∧ q_un ws w34 [116, 134, 145, 135, 136, 137, 138, 139, 140, 146, 147, 148, 151, 152] ∧ w34[116]? = (some (qO0, .inr (12, [.int 0, .ref qA1, .int 0, .ref qA2, .int 0, .ref qO3, .ref qO4, .ref qO5, .ref qO6, .ref qO7, .ref qA8, .ref qA9])) : Option (Nat × va_E)) ∧ w34[134]? = (some (qO4, .inr (14, [.int 0, .ref qA24, .int 0, .ref qA25, .ref qA26, .ref qA27, .ref qA28, .ref qA29, .int 0, .long 0, .int 0, .int 0, .ref qA30, .int 0, .ref qA31, .int 0, .ref qA32, .int 0, .ref qA33, .int 0, .int 0])) : Option (Nat × va_E)) ∧ w34[145]? = (some (qO5, .inr (15, [.int 0, .ref qA34, .ref qA35, .ref qA36, .ref qA37, .ref qA38, .ref qA39, .ref qA40, .int 1076, .int 0, .int 0, .long 0, .int 23, .int 255, .long 0, .int (-149), .long 0, .int 0])) : Option (Nat × va_E)) ∧ w34[167]? = (some (qA8, .inl (g 1, 20, .inr (.inl (fun _ => 0)))) : Option (Nat × va_E)) ∧ w34[135]? = (some (qA24, .inl (g 0, 4100, .inl (q_fil (upd (upd (fun _ => 0) 0 48) 1 46) 2 48 1076))) : Option (Nat × va_E)) ∧ w34[136]? = (some (qA25, .inl (g 0, 10000, .inl (fun _ => 0))) : Option (Nat × va_E)) ∧ w34[137]? = (some (qA26, .inl (g 0, 10, .inl (upd (upd (upd (upd (upd (upd (upd (upd (upd (upd (fun _ => 0) 0 1) 1 1) 2 1) 3 1) 4 1) 5 1) 6 1) 7 1) 8 1) 9 1))) : Option (Nat × va_E)) ∧ w34[138]? = (some (qA27, .inl (g 3, 10, .inl (fun _ => 0))) : Option (Nat × va_E)) ∧ w34[139]? = (some (qA28, .inl (g 0, 10, .inl (fun _ => 0))) : Option (Nat × va_E)) ∧ w34[140]? = (some (qA29, .inl (g 0, 4400, .inl (fun _ => 0))) : Option (Nat × va_E)) ∧ w34[146]? = (some (qA34, .inl (g 0, 156, .inl y13)) : Option (Nat × va_E)) ∧ w34[147]? = (some (qA35, .inl (g 0, 156, .inl (fun _ => 0))) : Option (Nat × va_E)) ∧ w34[148]? = (some (qA36, .inl (g 0, 1404, .inl (fun _ => 0))) : Option (Nat × va_E)) ∧ w34[151]? = (some (qA39, .inl (g 0, 1404, .inl (fun _ => 0))) : Option (Nat × va_E)) ∧ w34[152]? = (some (qA40, .inl (g 0, 1600, .inl (q_fil (upd (upd (fun _ => 0) 0 48) 1 46) 2 48 1076))) : Option (Nat × va_E))) (fun z => (z.toInt - 2).toNat) ?_ ((1076 : Int32)) _ _ _ u7 ⟨⟨by decide, by decide⟩, V, hl, hF, hO0, hO4, hO5, hA8, hA24, hA25, hA26, hA27, hA28, hA29, hA34, hA35, hA36, hA39, hA40⟩
    rintro lx33 H locs ls w34 ⟨i35, V, hl, hF, hO0, hO4, hO5, hA8, hA24, hA25, hA26, hA27, hA28, hA29, hA34, hA35, hA36, hA39, hA40⟩ ih36
    replace i35 : 2 ≤ lx33.toInt ∧ lx33.toInt ≤ 1076 := i35
    replace hl : lv_has ls 5 [(4, .int lx33), (0, .ref qO0), (1, .int x1), (2, .int x2), (3, .int x3)] := hl
    replace hO0 : w34[116]? = (some (qO0, .inr (12, [.int 0, .ref qA1, .int 0, .ref qA2, .int 0, .ref qO3, .ref qO4, .ref qO5, .ref qO6, .ref qO7, .ref qA8, .ref qA9])) : Option (Nat × va_E)) := hO0
    replace hO4 : w34[134]? = (some (qO4, .inr (14, [.int 0, .ref qA24, .int 0, .ref qA25, .ref qA26, .ref qA27, .ref qA28, .ref qA29, .int 0, .long 0, .int 0, .int 0, .ref qA30, .int 0, .ref qA31, .int 0, .ref qA32, .int 0, .ref qA33, .int 0, .int 0])) : Option (Nat × va_E)) := hO4
    replace hO5 : w34[145]? = (some (qO5, .inr (15, [.int 0, .ref qA34, .ref qA35, .ref qA36, .ref qA37, .ref qA38, .ref qA39, .ref qA40, .int 1076, .int 0, .int 0, .long 0, .int 23, .int 255, .long 0, .int (-149), .long 0, .int 0])) : Option (Nat × va_E)) := hO5
    replace hA8 : w34[167]? = (some (qA8, .inl (g 1, 20, .inr (.inl (fun _ => 0)))) : Option (Nat × va_E)) := hA8
    replace hA24 : w34[135]? = (some (qA24, .inl (g 0, 4100, .inl (q_fil (upd (upd (fun _ => 0) 0 48) 1 46) 2 48 1076))) : Option (Nat × va_E)) := hA24
    replace hA25 : w34[136]? = (some (qA25, .inl (g 0, 10000, .inl (fun _ => 0))) : Option (Nat × va_E)) := hA25
    replace hA26 : w34[137]? = (some (qA26, .inl (g 0, 10, .inl (upd (upd (upd (upd (upd (upd (upd (upd (upd (upd (fun _ => 0) 0 1) 1 1) 2 1) 3 1) 4 1) 5 1) 6 1) 7 1) 8 1) 9 1))) : Option (Nat × va_E)) := hA26
    replace hA27 : w34[138]? = (some (qA27, .inl (g 3, 10, .inl (fun _ => 0))) : Option (Nat × va_E)) := hA27
    replace hA28 : w34[139]? = (some (qA28, .inl (g 0, 10, .inl (fun _ => 0))) : Option (Nat × va_E)) := hA28
    replace hA29 : w34[140]? = (some (qA29, .inl (g 0, 4400, .inl (fun _ => 0))) : Option (Nat × va_E)) := hA29
    replace hA34 : w34[146]? = (some (qA34, .inl (g 0, 156, .inl y13)) : Option (Nat × va_E)) := hA34
    replace hA35 : w34[147]? = (some (qA35, .inl (g 0, 156, .inl (fun _ => 0))) : Option (Nat × va_E)) := hA35
    replace hA36 : w34[148]? = (some (qA36, .inl (g 0, 1404, .inl (fun _ => 0))) : Option (Nat × va_E)) := hA36
    replace hA39 : w34[151]? = (some (qA39, .inl (g 0, 1404, .inl (fun _ => 0))) : Option (Nat × va_E)) := hA39
    replace hA40 : w34[152]? = (some (qA40, .inl (g 0, 1600, .inl (q_fil (upd (upd (fun _ => 0) 0 48) 1 46) 2 48 1076))) : Option (Nat × va_E)) := hA40
    refine lv_aload_n hx hb d_14_30_62 rfl (lv_at hl 1 rfl) ?_
    refine q_get (ci := 12) (j := 6) (v := .ref qO4) C0 V i_NM rfl rfl hO0 (by decide) w_2304 rfl d_14_30_63 ?_
    refine q_getN (ci := 14) (j := 1) (v := .ref qA24) C0 V i_DR rfl rfl hO4 (by decide) wo_1999 rfl d_14_30_66 ?_
    refine lv_iload hx hb d_14_30_69 (lv_at hl 0 rfl) ?_
    refine lv_iconst (v := 1) hx hb d_14_30_71 (by decide) ?_
    refine lv_isub hx hb d_14_30_72 ?_
    refine q_iald C0 V hA24 (q_ix (x := (lx33.toInt - 1)) (q_subI (x := lx33.toInt) (y := 1) rfl (by decide) (by omega) (by omega)) (by omega) (by omega)) d_14_30_73 ?_
    by_cases c37 : (lx33 - 1) = 1
    ·
      refine q_ti (v := 46) (by rw [c37]; rfl) ?_
      refine lv_bipush (v := 48) hx hb d_14_30_74 (by decide) ?_
      refine lv_icmp_ne (tgt := 85) hx hb d_14_30_76 (by decide) (fun c38 => ?_) (fun c38 => absurd c38 (by decide))
      refine lv_aload_n hx hb d_14_30_85 rfl (lv_at hl 1 rfl) ?_
      refine q_get (ci := 12) (j := 6) (v := .ref qO4) C0 V i_NM rfl rfl hO0 (by decide) w_2304 rfl d_14_30_86 ?_
      refine q_getN (ci := 14) (j := 1) (v := .ref qA24) C0 V i_DR rfl rfl hO4 (by decide) wo_1999 rfl d_14_30_89 ?_
      refine lv_iload hx hb d_14_30_92 (lv_at hl 0 rfl) ?_
      refine q_ti (v := 2) (q_Ieq (x := lx33.toInt) (y := 2) rfl (by decide) (by have t1 : (lx33.toInt - 1) = 1 := by { have e1 : ((lx33 - 1) : Int32).toInt = (lx33.toInt - 1) := (q_subI (x := lx33.toInt) (y := 1) rfl (by decide) (by omega) (by omega)); have e2 : (1 : Int32).toInt = 1 := (by decide); have e3 := q_eqI c37; omega }; omega)) ?_
      refine lv_iconst (v := 1) hx hb d_14_30_94 (by decide) ?_
      refine lv_isub hx hb d_14_30_95 ?_
      refine q_ti (v := 1) (by decide) ?_
      refine q_iald C0 V hA24 (by unfold vp_in; decide) d_14_30_96 ?_
      refine q_ti (v := 46) (by first | rfl | decide | simp [upd, vp_updL, sb_cl0]) ?_
      refine lv_bipush (v := 46) hx hb d_14_30_97 (by decide) ?_
      refine lv_icmp_ne (tgt := 109) hx hb d_14_30_99 (by decide) (fun c39 => absurd (by decide) c39) (fun c39 => ?_)
      refine lv_iload hx hb d_14_30_102 (lv_at hl 0 rfl) ?_
      refine q_ti (v := 2) (q_Ieq (x := lx33.toInt) (y := 2) rfl (by decide) (by have t1 : (lx33.toInt - 1) = 1 := by { have e1 : ((lx33 - 1) : Int32).toInt = (lx33.toInt - 1) := (q_subI (x := lx33.toInt) (y := 1) rfl (by decide) (by omega) (by omega)); have e2 : (1 : Int32).toInt = 1 := (by decide); have e3 := q_eqI c37; omega }; omega)) ?_
      refine lv_iconst (v := 1) hx hb d_14_30_104 (by decide) ?_
      refine lv_isub hx hb d_14_30_105 ?_
      refine q_ti (v := 1) (by decide) ?_
      refine lv_goto (tgt := 111) hx hb d_14_30_106 (by decide) ?_
      refine lv_istore (lv' := [(4, .int 1), (0, .ref qO0), (1, .int x1), (2, .int x2), (3, .int x3)]) hx hb d_14_30_111 hl (by decide) rfl (fun ls hl => ?_)
      refine lv_aload_n hx hb d_14_30_113 rfl (lv_at hl 1 rfl) ?_
      refine q_get (ci := 12) (j := 6) (v := .ref qO4) C0 V i_NM rfl rfl hO0 (by decide) w_2304 rfl d_14_30_114 ?_
      refine lv_iload hx hb d_14_30_117 (lv_at hl 0 rfl) ?_
      refine q_putN (ci := 14) (j := 2) (v := .int 1) (ty := .int) C0 V i_DR o_DR n_DR rfl rfl hO4 (by decide) wo_2000 rfl rfl rfl rfl (Nat.le_of_ble_eq_true rfl) d_14_30_119 (fun H locs w40 hu41 hO4 V => ?_)
      replace hO4 : w40[134]? = (some (qO4, .inr (14, [.int 0, .ref qA24, .int 1, .ref qA25, .ref qA26, .ref qA27, .ref qA28, .ref qA29, .int 0, .long 0, .int 0, .int 0, .ref qA30, .int 0, .ref qA31, .int 0, .ref qA32, .int 0, .ref qA33, .int 0, .int 0])) : Option (Nat × va_E)) := hO4
      replace hF := q_us hF hu41 (.tail _ (.head _))
      refine lv_aload_n hx hb d_14_30_122 rfl (lv_at hl 1 rfl) ?_
      replace hO0 := (hu41 _ (q_pd 116 134 rfl)).trans (hO0)
      refine q_get (ci := 12) (j := 6) (v := .ref qO4) C0 V i_NM rfl rfl hO0 (by decide) w_2304 rfl d_14_30_123 ?_
      refine lv_iload_n hx hb d_14_30_126 rfl (lv_at hl 4 rfl) ?_
      replace hA24 := (hu41 _ (q_pd 135 134 rfl)).trans (hA24)
      replace hA25 := (hu41 _ (q_pd 136 134 rfl)).trans (hA25)
      replace hA26 := (hu41 _ (q_pd 137 134 rfl)).trans (hA26)
      replace hA27 := (hu41 _ (q_pd 138 134 rfl)).trans (hA27)
      replace hA28 := (hu41 _ (q_pd 139 134 rfl)).trans (hA28)
      replace hA29 := (hu41 _ (q_pd 140 134 rfl)).trans (hA29)
      refine q_gov V (q_runV (As := [.int x3]) (rest := []) (d := 3) (mc := 0) (ms := 0) (ci := 14) C0 V rfl LV_NM_102 (c_DR_read l D g w40 134 135 136 137 138 139 140 qO4 qA24 qA25 qA26 qA27 qA28 qA29 qA30 qA31 qA32 qA33 x3 hO4 hA24 hA25 hA26 hA27 hA28 hA29 (q_pd 135 136 rfl) (q_pd 135 137 rfl) (q_pd 135 138 rfl) (q_pd 135 139 rfl) (q_pd 135 140 rfl) (q_pd 136 137 rfl) (q_pd 136 138 rfl) (q_pd 136 139 rfl) (q_pd 136 140 rfl) (q_pd 137 138 rfl) (q_pd 137 139 rfl) (q_pd 137 140 rfl) (q_pd 138 139 rfl) (q_pd 138 140 rfl) (q_pd 139 140 rfl) x3lo x3hi _) rfl rfl hO4 rfl hl.1 rfl (Nat.le_of_ble_eq_true rfl) ⟨by decide, by decide⟩ ⟨Nat.le_of_ble_eq_true rfl, Nat.le_of_ble_eq_true rfl⟩ d_14_30_127) (fun u43 H locs hp42 V => ?_)
      obtain ⟨hg44, hO4, hA25, hA26, hA27, hA28, hA29⟩ := hp42
      replace hF := q_uc hF hg44 (q_sc (.tail _ (.head _)) (q_sc (List.mem_of_getElem? (i := 4) rfl) (q_sc (List.mem_of_getElem? (i := 5) rfl) (q_sc (List.mem_of_getElem? (i := 6) rfl) (q_sc (List.mem_of_getElem? (i := 7) rfl) (q_sc (List.mem_of_getElem? (i := 8) rfl) (fun _ h => absurd h List.not_mem_nil)))))))
      refine lv_aload_n hx hb d_14_30_130 rfl (lv_at hl 1 rfl) ?_
      replace hO0 := (hg44 _ (q_nc (q_pd 116 134 rfl) (q_nc (q_pd 116 136 rfl) (q_nc (q_pd 116 137 rfl) (q_nc (q_pd 116 138 rfl) (q_nc (q_pd 116 139 rfl) (q_nc (q_pd 116 140 rfl) List.not_mem_nil))))))).trans (hO0)
      refine q_get (ci := 12) (j := 6) (v := .ref qO4) C0 V i_NM rfl rfl hO0 (by decide) w_2304 rfl d_14_30_131 ?_
      refine lv_iconst (v := 0) hx hb d_14_30_134 (by decide) ?_
      refine q_putN (ci := 14) (j := 2) (v := .int 0) (ty := .int) C0 V i_DR o_DR n_DR rfl rfl hO4 (by decide) wo_2000 rfl rfl rfl rfl (Nat.le_of_ble_eq_true rfl) d_14_30_135 (fun H locs w45 hu46 hO4 V => ?_)
      replace hO4 : w45[134]? = (some (qO4, .inr (14, [.int 0, .ref qA24, .int 0, .ref qA25, .ref qA26, .ref qA27, .ref qA28, .ref qA29, .int 1, .long 0, .int 0, .int 0, .ref qA30, .int 0, .ref qA31, .int 0, .ref qA32, .int 0, .ref qA33, .int 0, .int 3])) : Option (Nat × va_E)) := hO4
      replace hF := q_us hF hu46 (.tail _ (.head _))
      refine lv_aload_n hx hb d_14_30_138 rfl (lv_at hl 1 rfl) ?_
      refine lv_aload_n hx hb d_14_30_139 rfl (lv_at hl 1 rfl) ?_
      replace hO0 := (hu46 _ (q_pd 116 134 rfl)).trans (hO0)
      refine q_get (ci := 12) (j := 6) (v := .ref qO4) C0 V i_NM rfl rfl hO0 (by decide) w_2304 rfl d_14_30_140 ?_
      refine q_getN (ci := 14) (j := 0) (v := .int 0) C0 V i_DR rfl rfl hO4 (by decide) wo_1997 rfl d_14_30_143 ?_
      refine lv_if_le (tgt := 153) hx hb d_14_30_146 (by decide) (fun c47 => ?_) (fun c47 => absurd (by decide) c47)
      refine lv_iconst (v := 0) hx hb d_14_30_153 (by decide) ?_
      refine q_put (ci := 12) (j := 0) (v := .int 0) (ty := .int) C0 V i_NM o_NM n_NM rfl rfl hO0 (by decide) w_2298 rfl rfl rfl rfl (Nat.le_of_ble_eq_true rfl) d_14_30_154 (fun H locs w48 hu49 hO0 V => ?_)
      replace hO0 : w48[116]? = (some (qO0, .inr (12, [.int 0, .ref qA1, .int 0, .ref qA2, .int 0, .ref qO3, .ref qO4, .ref qO5, .ref qO6, .ref qO7, .ref qA8, .ref qA9])) : Option (Nat × va_E)) := hO0
      replace hF := q_us hF hu49 (.head _)
      have RR : q_un w48 w48 [] := q_u0
      replace RR := q_ub hu49 RR
      replace hO4 := (RR 134 (by decide +kernel)).trans hO4
      replace RR := q_ub hu46 RR
      replace hA25 := (RR 136 (by decide +kernel)).trans hA25
      replace hA26 := (RR 137 (by decide +kernel)).trans hA26
      replace hA27 := (RR 138 (by decide +kernel)).trans hA27
      replace hA28 := (RR 139 (by decide +kernel)).trans hA28
      replace hA29 := (RR 140 (by decide +kernel)).trans hA29
      replace RR := q_ubc hg44 RR
      replace hA24 := (RR 135 (by decide +kernel)).trans hA24
      replace RR := q_ub hu41 RR
      replace hO5 := (RR 145 (by decide +kernel)).trans hO5
      replace hA34 := (RR 146 (by decide +kernel)).trans hA34
      replace hA35 := (RR 147 (by decide +kernel)).trans hA35
      replace hA36 := (RR 148 (by decide +kernel)).trans hA36
      replace hA39 := (RR 151 (by decide +kernel)).trans hA39
      replace hA40 := (RR 152 (by decide +kernel)).trans hA40
      exact q_retv C0 V (Or.inr (⟨y13, c12, hF, hO0, hO4, hO5, hA24, hA25, hA26, hA27, hA28, hA29, hA34, hA35, hA36, hA39, hA40⟩)) d_14_30_157
    refine q_ti (v := 48) (q_flr (x := (lx33.toInt - 1)) (n := 1076) (q_subI (x := lx33.toInt) (y := 1) rfl (by decide) (by have t1 : (lx33.toInt - 1) ≠ 1 := by { have e1 : ((lx33 - 1) : Int32).toInt = (lx33.toInt - 1) := (q_subI (x := lx33.toInt) (y := 1) rfl (by decide) (by omega) (by omega)); have e2 : (1 : Int32).toInt = 1 := (by decide); have e3 := q_neI c37; omega }; omega) (by have t1 : (lx33.toInt - 1) ≠ 1 := by { have e1 : ((lx33 - 1) : Int32).toInt = (lx33.toInt - 1) := (q_subI (x := lx33.toInt) (y := 1) rfl (by decide) (by omega) (by omega)); have e2 : (1 : Int32).toInt = 1 := (by decide); have e3 := q_neI c37; omega }; omega)) rfl (by have t1 : (lx33.toInt - 1) ≠ 1 := by { have e1 : ((lx33 - 1) : Int32).toInt = (lx33.toInt - 1) := (q_subI (x := lx33.toInt) (y := 1) rfl (by decide) (by omega) (by omega)); have e2 : (1 : Int32).toInt = 1 := (by decide); have e3 := q_neI c37; omega }; have e7 : (lx33 - 1 : Int32).toInt = (lx33.toInt - 1) := (q_subI (x := lx33.toInt) (y := 1) rfl (by decide) (by have t1 : (lx33.toInt - 1) ≠ 1 := by { have e1 : ((lx33 - 1) : Int32).toInt = (lx33.toInt - 1) := (q_subI (x := lx33.toInt) (y := 1) rfl (by decide) (by omega) (by omega)); have e2 : (1 : Int32).toInt = 1 := (by decide); have e3 := q_neI c37; omega }; omega) (by have t1 : (lx33.toInt - 1) ≠ 1 := by { have e1 : ((lx33 - 1) : Int32).toInt = (lx33.toInt - 1) := (q_subI (x := lx33.toInt) (y := 1) rfl (by decide) (by omega) (by omega)); have e2 : (1 : Int32).toInt = 1 := (by decide); have e3 := q_neI c37; omega }; omega)); omega) (by have t1 : (lx33.toInt - 1) ≠ 1 := by { have e1 : ((lx33 - 1) : Int32).toInt = (lx33.toInt - 1) := (q_subI (x := lx33.toInt) (y := 1) rfl (by decide) (by omega) (by omega)); have e2 : (1 : Int32).toInt = 1 := (by decide); have e3 := q_neI c37; omega }; have e7 : (lx33 - 1 : Int32).toInt = (lx33.toInt - 1) := (q_subI (x := lx33.toInt) (y := 1) rfl (by decide) (by have t1 : (lx33.toInt - 1) ≠ 1 := by { have e1 : ((lx33 - 1) : Int32).toInt = (lx33.toInt - 1) := (q_subI (x := lx33.toInt) (y := 1) rfl (by decide) (by omega) (by omega)); have e2 : (1 : Int32).toInt = 1 := (by decide); have e3 := q_neI c37; omega }; omega) (by have t1 : (lx33.toInt - 1) ≠ 1 := by { have e1 : ((lx33 - 1) : Int32).toInt = (lx33.toInt - 1) := (q_subI (x := lx33.toInt) (y := 1) rfl (by decide) (by omega) (by omega)); have e2 : (1 : Int32).toInt = 1 := (by decide); have e3 := q_neI c37; omega }; omega)); omega)) ?_
    refine lv_bipush (v := 48) hx hb d_14_30_74 (by decide) ?_
    refine lv_icmp_ne (tgt := 85) hx hb d_14_30_76 (by decide) (fun c50 => absurd (by decide) c50) (fun c50 => ?_)
    refine lv_iinc (v := lx33 + (-1)) (lv' := [(4, .int (lx33 + (-1))), (0, .ref qO0), (1, .int x1), (2, .int x2), (3, .int x3)]) hx hb d_14_30_79 hl (k := 0) rfl (rfl) (by decide) rfl (fun ls hl => ?_)
    refine lv_goto (tgt := 62) hx hb d_14_30_82 (by decide) ?_
    exact ih36 ((lx33 + (-1) : Int32)) _ _ _ _ (show ((lx33 + (-1)).toInt - 2).toNat < (lx33.toInt - 2).toNat from by have t1 : (lx33.toInt - 1) ≠ 1 := by { have e1 : ((lx33 - 1) : Int32).toInt = (lx33.toInt - 1) := (q_subI (x := lx33.toInt) (y := 1) rfl (by decide) (by omega) (by omega)); have e2 : (1 : Int32).toInt = 1 := (by decide); have e3 := q_neI c37; omega }; have e : (lx33 + (-1)).toInt = (lx33.toInt + (-1)) := (q_addI (x := lx33.toInt) (y := (-1)) rfl (by decide) (by have t1 : (lx33.toInt - 1) ≠ 1 := by { have e1 : ((lx33 - 1) : Int32).toInt = (lx33.toInt - 1) := (q_subI (x := lx33.toInt) (y := 1) rfl (by decide) (by omega) (by omega)); have e2 : (1 : Int32).toInt = 1 := (by decide); have e3 := q_neI c37; omega }; omega) (by have t1 : (lx33.toInt - 1) ≠ 1 := by { have e1 : ((lx33 - 1) : Int32).toInt = (lx33.toInt - 1) := (q_subI (x := lx33.toInt) (y := 1) rfl (by decide) (by omega) (by omega)); have e2 : (1 : Int32).toInt = 1 := (by decide); have e3 := q_neI c37; omega }; omega)); omega) ⟨(show 2 ≤ (lx33 + (-1)).toInt ∧ (lx33 + (-1)).toInt ≤ 1076 from by have t1 : (lx33.toInt - 1) ≠ 1 := by { have e1 : ((lx33 - 1) : Int32).toInt = (lx33.toInt - 1) := (q_subI (x := lx33.toInt) (y := 1) rfl (by decide) (by omega) (by omega)); have e2 : (1 : Int32).toInt = 1 := (by decide); have e3 := q_neI c37; omega }; have e : (lx33 + (-1)).toInt = (lx33.toInt + (-1)) := (q_addI (x := lx33.toInt) (y := (-1)) rfl (by decide) (by have t1 : (lx33.toInt - 1) ≠ 1 := by { have e1 : ((lx33 - 1) : Int32).toInt = (lx33.toInt - 1) := (q_subI (x := lx33.toInt) (y := 1) rfl (by decide) (by omega) (by omega)); have e2 : (1 : Int32).toInt = 1 := (by decide); have e3 := q_neI c37; omega }; omega) (by have t1 : (lx33.toInt - 1) ≠ 1 := by { have e1 : ((lx33 - 1) : Int32).toInt = (lx33.toInt - 1) := (q_subI (x := lx33.toInt) (y := 1) rfl (by decide) (by omega) (by omega)); have e2 : (1 : Int32).toInt = 1 := (by decide); have e3 := q_neI c37; omega }; omega)); omega), V, q_lw hl (q_lw1 0 rfl (q_lw1 1 rfl (q_lw1 2 rfl (q_lw1 3 rfl (q_lw1 4 rfl q_lw0))))), hF, hO0, hO4, hO5, hA8, hA24, hA25, hA26, hA27, hA28, hA29, hA34, hA35, hA36, hA39, hA40⟩
set_option maxRecDepth 100000 in
set_option maxHeartbeats 4000000 in
theorem c_FR_isMore_4 (l : Launch) (D : va_G) (g : Nat → ClassId) (ws : va_W) (kO0 kA3 qO0 qA1 qA2 qA3 qA4 qA5 qA6 qA7 : Nat) (hO0 : ws[kO0]? = (some (qO0, .inr (15, [.int 0, .ref qA1, .ref qA2, .ref qA3, .ref qA4, .ref qA5, .ref qA6, .ref qA7, .int 0, .int 0, .int 0, .long 0, .int 23, .int 255, .long 0, .int (-149), .long 0, .int 0])) : Option (Nat × va_E))) (hA3 : ws[kA3]? = (some (qA3, .inl (g 0, 1404, .inl (fun _ => 0))) : Option (Nat × va_E))) : q_mI l y_FR_isMore prog_17_method_26_code 5 (.boolean) 1 0 0 D g [.ref qO0, .int 1080, .int 0] ws (fun r u => 0 = r ∧ ws = u) := by
  intro sz
  refine q_into (by decide) (Nat.le_of_ble_eq_true rfl) ?_
  intro p e s m below meth c ls hsz C0 V hl
  have hx := C0.1
  have hb := C0.2.1
  have hl : lv_has ls 5 [(0, .ref qO0), (1, .int 1080), (2, .int 0)] := hl
  refine lv_iconst (v := 0) hx hb d_17_26_0 (by decide) ?_
  refine lv_istore_n (lv' := [(3, .int 0), (0, .ref qO0), (1, .int 1080), (2, .int 0)]) hx hb d_17_26_1 rfl hl (by decide) rfl (fun ls hl => ?_)
  refine lv_iconst (v := 0) hx hb d_17_26_2 (by decide) ?_
  refine lv_istore (lv' := [(4, .int 0), (3, .int 0), (0, .ref qO0), (1, .int 1080), (2, .int 0)]) hx hb d_17_26_3 hl (by decide) rfl (fun ls hl => ?_)
  refine q_loop (X := Int32) (fun z H locs ls _ => (0 ≤ z.toInt ∧ (z.toInt ≤ 1080 ∨ z.toInt = 0)) ∧ q_Wd D g (va_A ws sz) s ws H locs ∧ lv_has ls 5 [(4, .int z), (3, .int 0), (0, .ref qO0), (1, .int 1080), (2, .int 0)]) (fun z => (1080 - z.toInt).toNat) ?_ ((0 : Int32)) _ _ _ ws ⟨⟨by decide, Or.inr (by decide)⟩, V, hl⟩
  rintro lx1 H locs ls _ ⟨i3, V, hl⟩ ih4
  replace i3 : 0 ≤ lx1.toInt ∧ (lx1.toInt ≤ 1080 ∨ lx1.toInt = 0) := i3
  replace hl : lv_has ls 5 [(4, .int lx1), (3, .int 0), (0, .ref qO0), (1, .int 1080), (2, .int 0)] := hl
  refine lv_iload hx hb d_17_26_5 (lv_at hl 0 rfl) ?_
  refine lv_iload_n hx hb d_17_26_7 rfl (lv_at hl 3 rfl) ?_
  refine lv_icmp_ge (tgt := 37) hx hb d_17_26_8 (by decide) (fun c5 => ?_) (fun c5 => ?_)
  ·
    refine lv_iload_n hx hb d_17_26_37 rfl (lv_at hl 1 rfl) ?_
    refine lv_if_eq (tgt := 45) hx hb d_17_26_38 (by decide) (fun c6 => ?_) (fun c6 => absurd (by decide) c6)
    refine lv_iconst (v := 0) hx hb d_17_26_45 (by decide) ?_
    exact q_retz C0 V (rfl) (⟨rfl, rfl⟩) d_17_26_46
  ·
    refine lv_iload_n hx hb d_17_26_11 rfl (lv_at hl 1 rfl) ?_
    refine lv_if_ne (tgt := 25) hx hb d_17_26_12 (by decide) (fun c7 => absurd (by decide) c7) (fun c7 => ?_)
    refine lv_aload_n hx hb d_17_26_15 rfl (lv_at hl 2 rfl) ?_
    refine q_get (ci := 15) (j := 3) (v := .ref qA3) C0 V i_FR rfl rfl hO0 (by decide) w_2078 rfl d_17_26_16 ?_
    refine lv_iload hx hb d_17_26_19 (lv_at hl 0 rfl) ?_
    refine q_iald C0 V hA3 (q_ix (x := lx1.toInt) rfl (by have t1 : lx1.toInt < 1080 := q_nleI c5; omega) (by have t1 : lx1.toInt < 1080 := q_nleI c5; omega)) d_17_26_21 ?_
    refine q_ti (v := 0) (by first | rfl | decide | simp [upd, vp_updL, sb_cl0]) ?_
    refine lv_if_eq (tgt := 29) hx hb d_17_26_22 (by decide) (fun c8 => ?_) (fun c8 => absurd (by decide) c8)
    refine lv_iconst (v := 0) hx hb d_17_26_29 (by decide) ?_
    refine lv_istore_n (lv' := [(3, .int 0), (4, .int lx1), (0, .ref qO0), (1, .int 1080), (2, .int 0)]) hx hb d_17_26_30 rfl hl (by decide) rfl (fun ls hl => ?_)
    refine lv_iinc (v := lx1 + 1) (lv' := [(4, .int (lx1 + 1)), (3, .int 0), (0, .ref qO0), (1, .int 1080), (2, .int 0)]) hx hb d_17_26_31 hl (k := 1) rfl (rfl) (by decide) rfl (fun ls hl => ?_)
    refine lv_goto (tgt := 5) hx hb d_17_26_34 (by decide) ?_
    exact ih4 ((lx1 + 1 : Int32)) _ _ _ ws (show (1080 - (lx1 + 1).toInt).toNat < (1080 - lx1.toInt).toNat from by have t1 : lx1.toInt < 1080 := q_nleI c5; have e : (lx1 + 1).toInt = (lx1.toInt + 1) := (q_addI (x := lx1.toInt) (y := 1) rfl (by decide) (by have t1 : lx1.toInt < 1080 := q_nleI c5; omega) (by have t1 : lx1.toInt < 1080 := q_nleI c5; omega)); omega) ⟨(show 0 ≤ (lx1 + 1).toInt ∧ ((lx1 + 1).toInt ≤ 1080 ∨ (lx1 + 1).toInt = 0) from by have t1 : lx1.toInt < 1080 := q_nleI c5; have e : (lx1 + 1).toInt = (lx1.toInt + 1) := (q_addI (x := lx1.toInt) (y := 1) rfl (by decide) (by have t1 : lx1.toInt < 1080 := q_nleI c5; omega) (by have t1 : lx1.toInt < 1080 := q_nleI c5; omega)); omega), V, q_lw hl (q_lw1 0 rfl (q_lw1 1 rfl (q_lw1 2 rfl (q_lw1 3 rfl (q_lw1 4 rfl q_lw0)))))⟩
set_option maxRecDepth 100000 in
set_option maxHeartbeats 4000000 in
theorem c_FR_cut_4 (l : Launch) (D : va_G) (g : Nat → ClassId) (ws : va_W) (kO0 kA3 kA6 qO0 qA1 qA2 qA3 qA4 qA5 qA6 qA7 : Nat) (hO0 : ws[kO0]? = (some (qO0, .inr (15, [.int 0, .ref qA1, .ref qA2, .ref qA3, .ref qA4, .ref qA5, .ref qA6, .ref qA7, .int 0, .int 0, .int 0, .long 0, .int 23, .int 255, .long 0, .int (-149), .long 0, .int 0])) : Option (Nat × va_E))) (hA3 : ws[kA3]? = (some (qA3, .inl (g 0, 1404, .inl (fun _ => 0))) : Option (Nat × va_E))) (hA6 : ws[kA6]? = (some (qA6, .inl (g 0, 1404, .inl (fun _ => 0))) : Option (Nat × va_E))) (n_A3_A6 : kA3 ≠ kA6) : q_mV l y_FR_cut prog_17_method_11_code 5 1 0 0 D g [.ref qO0, .int 1080, .int 0] ws (fun u => q_un ws u [kA6] ∧ u[kA6]? = (some (qA6, .inl (g 0, 1404, .inl (fun _ => 0))) : Option (Nat × va_E))) := by
  intro sz
  refine q_into (by decide) (Nat.le_of_ble_eq_true rfl) ?_
  intro p e s m below meth c ls hsz C0 V hl
  have hx := C0.1
  have hb := C0.2.1
  have hl : lv_has ls 5 [(0, .ref qO0), (1, .int 1080), (2, .int 0)] := hl
  have n_O0_A6 := Ne.symm (q_df hA6 hO0)
  have hF : q_un ws ws [kA6] := q_u0
  refine lv_iconst (v := 0) hx hb d_17_11_0 (by decide) ?_
  refine lv_istore_n (lv' := [(3, .int 0), (0, .ref qO0), (1, .int 1080), (2, .int 0)]) hx hb d_17_11_1 rfl hl (by decide) rfl (fun ls hl => ?_)
  refine q_loop (X := Int32) (fun z H locs ls w2 => (0 ≤ z.toInt ∧ (z.toInt ≤ 1404 ∨ z.toInt = 0)) ∧ q_Wd D g (va_A ws sz) s w2 H locs ∧ lv_has ls 5 [(3, .int z), (0, .ref qO0), (1, .int 1080), (2, .int 0)] ∧ q_un ws w2 [kA6] ∧ w2[kO0]? = (some (qO0, .inr (15, [.int 0, .ref qA1, .ref qA2, .ref qA3, .ref qA4, .ref qA5, .ref qA6, .ref qA7, .int 0, .int 0, .int 0, .long 0, .int 23, .int 255, .long 0, .int (-149), .long 0, .int 0])) : Option (Nat × va_E)) ∧ w2[kA3]? = (some (qA3, .inl (g 0, 1404, .inl (fun _ => 0))) : Option (Nat × va_E)) ∧ w2[kA6]? = (some (qA6, .inl (g 0, 1404, .inl (fun _ => 0))) : Option (Nat × va_E))) (fun z => (1404 - z.toInt).toNat) ?_ ((0 : Int32)) _ _ _ ws ⟨⟨by decide, Or.inr (by decide)⟩, V, hl, hF, hO0, hA3, hA6⟩
  rintro lx1 H locs ls w2 ⟨i3, V, hl, hF, hO0, hA3, hA6⟩ ih4
  replace i3 : 0 ≤ lx1.toInt ∧ (lx1.toInt ≤ 1404 ∨ lx1.toInt = 0) := i3
  replace hl : lv_has ls 5 [(3, .int lx1), (0, .ref qO0), (1, .int 1080), (2, .int 0)] := hl
  replace hO0 : w2[kO0]? = (some (qO0, .inr (15, [.int 0, .ref qA1, .ref qA2, .ref qA3, .ref qA4, .ref qA5, .ref qA6, .ref qA7, .int 0, .int 0, .int 0, .long 0, .int 23, .int 255, .long 0, .int (-149), .long 0, .int 0])) : Option (Nat × va_E)) := hO0
  replace hA3 : w2[kA3]? = (some (qA3, .inl (g 0, 1404, .inl (fun _ => 0))) : Option (Nat × va_E)) := hA3
  replace hA6 : w2[kA6]? = (some (qA6, .inl (g 0, 1404, .inl (fun _ => 0))) : Option (Nat × va_E)) := hA6
  refine lv_iload_n hx hb d_17_11_2 rfl (lv_at hl 0 rfl) ?_
  refine lv_sipush (v := 1404) hx hb d_17_11_3 (by decide) ?_
  refine lv_icmp_ge (tgt := 36) hx hb d_17_11_6 (by decide) (fun c5 => ?_) (fun c5 => ?_)
  ·
    refine lv_iload_n hx hb d_17_11_36 rfl (lv_at hl 2 rfl) ?_
    refine lv_istore_n (lv' := [(3, .int 1080), (0, .ref qO0), (1, .int 1080), (2, .int 0)]) hx hb d_17_11_37 rfl hl (by decide) rfl (fun ls hl => ?_)
    refine lv_iload_n hx hb d_17_11_38 rfl (lv_at hl 3 rfl) ?_
    refine lv_istore (lv' := [(4, .int 0), (3, .int 1080), (0, .ref qO0), (1, .int 1080), (2, .int 0)]) hx hb d_17_11_39 hl (by decide) rfl (fun ls hl => ?_)
    refine lv_iload hx hb d_17_11_41 (lv_at hl 0 rfl) ?_
    refine lv_if_eq (tgt := 97) hx hb d_17_11_43 (by decide) (fun c6 => ?_) (fun c6 => absurd (by decide) c6)
    exact q_retv C0 V (⟨hF, hA6⟩) d_17_11_97
  ·
    refine lv_aload_n hx hb d_17_11_9 rfl (lv_at hl 1 rfl) ?_
    refine q_get (ci := 15) (j := 6) (v := .ref qA6) C0 V i_FR rfl rfl hO0 (by decide) w_2081 rfl d_17_11_10 ?_
    refine lv_iload_n hx hb d_17_11_13 rfl (lv_at hl 0 rfl) ?_
    refine lv_iload_n hx hb d_17_11_14 rfl (lv_at hl 0 rfl) ?_
    refine lv_iload_n hx hb d_17_11_15 rfl (lv_at hl 2 rfl) ?_
    refine lv_icmp_ge (tgt := 23) hx hb d_17_11_16 (by decide) (fun c7 => ?_) (fun c7 => ?_)
    ·
      refine lv_aload_n hx hb d_17_11_23 rfl (lv_at hl 1 rfl) ?_
      refine q_get (ci := 15) (j := 3) (v := .ref qA3) C0 V i_FR rfl rfl hO0 (by decide) w_2078 rfl d_17_11_24 ?_
      refine lv_iload_n hx hb d_17_11_27 rfl (lv_at hl 0 rfl) ?_
      refine q_iald C0 V hA3 (q_ix (x := lx1.toInt) rfl (by have t1 : lx1.toInt < 1404 := q_nleI c5; have t2 : 1080 ≤ lx1.toInt := q_leI c7; omega) (by have t1 : lx1.toInt < 1404 := q_nleI c5; have t2 : 1080 ≤ lx1.toInt := q_leI c7; omega)) d_17_11_28 ?_
      refine q_ti (v := 0) (by first | rfl | decide | simp [upd, vp_updL, sb_cl0]) ?_
      refine q_iast C0 V hA6 (q_ix (x := lx1.toInt) rfl (by have t1 : lx1.toInt < 1404 := q_nleI c5; have t2 : 1080 ≤ lx1.toInt := q_leI c7; omega) (by have t1 : lx1.toInt < 1404 := q_nleI c5; have t2 : 1080 ≤ lx1.toInt := q_leI c7; omega)) d_17_11_29 (fun H locs w8 hu9 hA6 V => ?_)
      replace hA6 := q_re (y := (qA6, .inl (g 0, 1404, .inl (fun _ => 0)))) hA6 (q_eI q_upd0)
      replace hA6 : w8[kA6]? = (some (qA6, .inl (g 0, 1404, .inl (fun _ => 0))) : Option (Nat × va_E)) := hA6
      replace hF := q_us hF hu9 (.head _)
      refine lv_iinc (v := lx1 + 1) (lv' := [(3, .int (lx1 + 1)), (0, .ref qO0), (1, .int 1080), (2, .int 0)]) hx hb d_17_11_30 hl (k := 0) rfl (rfl) (by decide) rfl (fun ls hl => ?_)
      refine lv_goto (tgt := 2) hx hb d_17_11_33 (by decide) ?_
      replace hO0 := (hu9 _ n_O0_A6).trans (hO0)
      replace hA3 := (hu9 _ n_A3_A6).trans (hA3)
      exact ih4 ((lx1 + 1 : Int32)) _ _ _ _ (show (1404 - (lx1 + 1).toInt).toNat < (1404 - lx1.toInt).toNat from by have t1 : lx1.toInt < 1404 := q_nleI c5; have t2 : 1080 ≤ lx1.toInt := q_leI c7; have e : (lx1 + 1).toInt = (lx1.toInt + 1) := (q_addI (x := lx1.toInt) (y := 1) rfl (by decide) (by have t1 : lx1.toInt < 1404 := q_nleI c5; have t2 : 1080 ≤ lx1.toInt := q_leI c7; omega) (by have t1 : lx1.toInt < 1404 := q_nleI c5; have t2 : 1080 ≤ lx1.toInt := q_leI c7; omega)); omega) ⟨(show 0 ≤ (lx1 + 1).toInt ∧ ((lx1 + 1).toInt ≤ 1404 ∨ (lx1 + 1).toInt = 0) from by have t1 : lx1.toInt < 1404 := q_nleI c5; have t2 : 1080 ≤ lx1.toInt := q_leI c7; have e : (lx1 + 1).toInt = (lx1.toInt + 1) := (q_addI (x := lx1.toInt) (y := 1) rfl (by decide) (by have t1 : lx1.toInt < 1404 := q_nleI c5; have t2 : 1080 ≤ lx1.toInt := q_leI c7; omega) (by have t1 : lx1.toInt < 1404 := q_nleI c5; have t2 : 1080 ≤ lx1.toInt := q_leI c7; omega)); omega), V, q_lw hl (q_lw1 0 rfl (q_lw1 1 rfl (q_lw1 2 rfl (q_lw1 3 rfl q_lw0)))), hF, hO0, hA3, hA6⟩
    ·
      refine lv_iconst (v := 0) hx hb d_17_11_19 (by decide) ?_
      refine lv_goto (tgt := 29) hx hb d_17_11_20 (by decide) ?_
      refine q_iast C0 V hA6 (q_ix (x := lx1.toInt) rfl (by have t1 : lx1.toInt < 1404 := q_nleI c5; have t2 : lx1.toInt < 1080 := q_nleI c7; omega) (by have t1 : lx1.toInt < 1404 := q_nleI c5; have t2 : lx1.toInt < 1080 := q_nleI c7; omega)) d_17_11_29 (fun H locs w10 hu11 hA6 V => ?_)
      replace hA6 := q_re (y := (qA6, .inl (g 0, 1404, .inl (fun _ => 0)))) hA6 (q_eI q_upd0)
      replace hA6 : w10[kA6]? = (some (qA6, .inl (g 0, 1404, .inl (fun _ => 0))) : Option (Nat × va_E)) := hA6
      replace hF := q_us hF hu11 (.head _)
      refine lv_iinc (v := lx1 + 1) (lv' := [(3, .int (lx1 + 1)), (0, .ref qO0), (1, .int 1080), (2, .int 0)]) hx hb d_17_11_30 hl (k := 0) rfl (rfl) (by decide) rfl (fun ls hl => ?_)
      refine lv_goto (tgt := 2) hx hb d_17_11_33 (by decide) ?_
      replace hO0 := (hu11 _ n_O0_A6).trans (hO0)
      replace hA3 := (hu11 _ n_A3_A6).trans (hA3)
      exact ih4 ((lx1 + 1 : Int32)) _ _ _ _ (show (1404 - (lx1 + 1).toInt).toNat < (1404 - lx1.toInt).toNat from by have t1 : lx1.toInt < 1404 := q_nleI c5; have t2 : lx1.toInt < 1080 := q_nleI c7; have e : (lx1 + 1).toInt = (lx1.toInt + 1) := (q_addI (x := lx1.toInt) (y := 1) rfl (by decide) (by have t1 : lx1.toInt < 1404 := q_nleI c5; have t2 : lx1.toInt < 1080 := q_nleI c7; omega) (by have t1 : lx1.toInt < 1404 := q_nleI c5; have t2 : lx1.toInt < 1080 := q_nleI c7; omega)); omega) ⟨(show 0 ≤ (lx1 + 1).toInt ∧ ((lx1 + 1).toInt ≤ 1404 ∨ (lx1 + 1).toInt = 0) from by have t1 : lx1.toInt < 1404 := q_nleI c5; have t2 : lx1.toInt < 1080 := q_nleI c7; have e : (lx1 + 1).toInt = (lx1.toInt + 1) := (q_addI (x := lx1.toInt) (y := 1) rfl (by decide) (by have t1 : lx1.toInt < 1404 := q_nleI c5; have t2 : lx1.toInt < 1080 := q_nleI c7; omega) (by have t1 : lx1.toInt < 1404 := q_nleI c5; have t2 : lx1.toInt < 1080 := q_nleI c7; omega)); omega), V, q_lw hl (q_lw1 0 rfl (q_lw1 1 rfl (q_lw1 2 rfl (q_lw1 3 rfl q_lw0)))), hF, hO0, hA3, hA6⟩
set_option maxRecDepth 100000 in
set_option maxHeartbeats 4000000 in
theorem c_FR_fixed_4 (l : Launch) (D : va_G) (g : Nat → ClassId) (ws : va_W) (kO0 kA1 kA2 kA3 kA6 kA7 qO0 qA1 qA2 qA3 qA4 qA5 qA6 qA7 : Nat) (hO0 : ws[kO0]? = (some (qO0, .inr (15, [.int 0, .ref qA1, .ref qA2, .ref qA3, .ref qA4, .ref qA5, .ref qA6, .ref qA7, .int 0, .int 0, .int 0, .long 0, .int 0, .int 0, .long 0, .int 0, .long 0, .int 0])) : Option (Nat × va_E))) (hA1 : ws[kA1]? = (some (qA1, .inl (g 0, 156, .inl (fun _ => 0))) : Option (Nat × va_E))) (hA2 : ws[kA2]? = (some (qA2, .inl (g 0, 156, .inl (fun _ => 0))) : Option (Nat × va_E))) (hA3 : ws[kA3]? = (some (qA3, .inl (g 0, 1404, .inl (fun _ => 0))) : Option (Nat × va_E))) (hA6 : ws[kA6]? = (some (qA6, .inl (g 0, 1404, .inl (fun _ => 0))) : Option (Nat × va_E))) (hA7 : ws[kA7]? = (some (qA7, .inl (g 0, 1600, .inl (fun _ => 0))) : Option (Nat × va_E))) (n_A1_A2 : kA1 ≠ kA2) (n_A1_A3 : kA1 ≠ kA3) (n_A1_A6 : kA1 ≠ kA6) (n_A1_A7 : kA1 ≠ kA7) (n_A2_A6 : kA2 ≠ kA6) (n_A2_A7 : kA2 ≠ kA7) (n_A3_A2 : kA3 ≠ kA2) (n_A3_A6 : kA3 ≠ kA6) (n_A3_A7 : kA3 ≠ kA7) (n_A6_A7 : kA6 ≠ kA7) : q_mI l y_FR_fixed prog_17_method_29_code 9 (.int) 3 0 0 D g [.ref qO0, .long 0, .int 1, .int 0, .int 0] ws (fun r u => ∃ (ex0 : Nat → Int32), 1 = r ∧ q_un ws u [kO0, kA1, kA2, kA3, kA6, kA7] ∧ u[kO0]? = (some (qO0, .inr (15, [.int 0, .ref qA1, .ref qA2, .ref qA3, .ref qA4, .ref qA5, .ref qA6, .ref qA7, .int 1, .int 0, .int 0, .long 0, .int 23, .int 255, .long 0, .int (-149), .long 0, .int 0])) : Option (Nat × va_E)) ∧ u[kA1]? = (some (qA1, .inl (g 0, 156, .inl ex0)) : Option (Nat × va_E)) ∧ u[kA2]? = (some (qA2, .inl (g 0, 156, .inl (fun _ => 0))) : Option (Nat × va_E)) ∧ u[kA3]? = (some (qA3, .inl (g 0, 1404, .inl (fun _ => 0))) : Option (Nat × va_E)) ∧ u[kA6]? = (some (qA6, .inl (g 0, 1404, .inl (fun _ => 0))) : Option (Nat × va_E)) ∧ u[kA7]? = (some (qA7, .inl (g 0, 1600, .inl (upd (fun _ => 0) 0 48))) : Option (Nat × va_E))) := by
  intro sz
  refine q_into (by decide) (Nat.le_of_ble_eq_true rfl) ?_
  intro p e s m below meth c ls hsz C0 V hl
  have hx := C0.1
  have hb := C0.2.1
  have hl : lv_has ls 9 [(0, .ref qO0), (1, .long 0), (3, .int 1), (4, .int 0), (5, .int 0)] := hl
  have n_A1_O0 := q_df hA1 hO0
  have n_A2_O0 := q_df hA2 hO0
  have n_A3_O0 := q_df hA3 hO0
  have n_A6_A1 := Ne.symm n_A1_A6
  have n_A6_A2 := Ne.symm n_A2_A6
  have n_A6_A3 := Ne.symm n_A3_A6
  have n_A6_O0 := q_df hA6 hO0
  have n_A7_A1 := Ne.symm n_A1_A7
  have n_A7_A2 := Ne.symm n_A2_A7
  have n_A7_A3 := Ne.symm n_A3_A7
  have n_A7_A6 := Ne.symm n_A6_A7
  have n_A7_O0 := q_df hA7 hO0
  have n_O0_A1 := Ne.symm (q_df hA1 hO0)
  have n_O0_A2 := Ne.symm (q_df hA2 hO0)
  have n_O0_A3 := Ne.symm (q_df hA3 hO0)
  have n_O0_A6 := Ne.symm (q_df hA6 hO0)
  have hF : q_un ws ws [kO0, kA1, kA2, kA3, kA6, kA7] := q_u0
  refine lv_aload_n hx hb d_17_29_0 rfl (lv_at hl 0 rfl) ?_
  refine lv_lload_n hx hb d_17_29_1 rfl (lv_at hl 1 rfl) ?_
  refine lv_iload_n hx hb d_17_29_2 rfl (lv_at hl 2 rfl) ?_
  refine lv_if_eq (tgt := 18) hx hb d_17_29_3 (by decide) (fun c1 => absurd c1 (by decide)) (fun c1 => ?_)
  refine lv_lload_n hx hb d_17_29_6 rfl (lv_at hl 1 rfl) ?_
  refine lv_iload_n hx hb d_17_29_7 rfl (lv_at hl 2 rfl) ?_
  refine q_goi V (q_runS (As := [.long 0, .int 1]) (rest := [.long 0, .ref qO0]) (d := 1) (mc := 0) (ms := 0) C0 V rfl LS_FR_122 (c_FR_isWrong_2 l D g ws _) rfl hl.1 rfl (Nat.le_of_ble_eq_true rfl) ⟨by decide, by decide⟩ ⟨Nat.le_of_ble_eq_true rfl, Nat.le_of_ble_eq_true rfl⟩ d_17_29_8) (fun v4 u3 H locs hp2 V => ?_)
  obtain ⟨rfl, rfl⟩ := hp2
  refine lv_if_ne (tgt := 18) hx hb d_17_29_11 (by decide) (fun c6 => absurd (by decide) c6) (fun c6 => ?_)
  refine lv_iconst (v := 1) hx hb d_17_29_14 (by decide) ?_
  refine lv_goto (tgt := 19) hx hb d_17_29_15 (by decide) ?_
  refine q_gov V (q_runV (As := [.long 0, .int 1]) (rest := []) (d := 1) (mc := 0) (ms := 0) (ci := 15) C0 V rfl LV_FR_126 (c_FR_open_2 l D g ws kO0 qO0 qA1 qA2 qA3 qA4 qA5 qA6 qA7 hO0 _) rfl rfl hO0 rfl hl.1 rfl (Nat.le_of_ble_eq_true rfl) ⟨by decide, by decide⟩ ⟨Nat.le_of_ble_eq_true rfl, Nat.le_of_ble_eq_true rfl⟩ d_17_29_19) (fun u8 H locs hp7 V => ?_)
  obtain ⟨hg9, hO0⟩ := hp7
  replace hF := q_uc hF hg9 (q_sc (.head _) (fun _ h => absurd h List.not_mem_nil))
  refine lv_aload_n hx hb d_17_29_22 rfl (lv_at hl 0 rfl) ?_
  refine lv_lload_n hx hb d_17_29_23 rfl (lv_at hl 1 rfl) ?_
  refine lv_iload_n hx hb d_17_29_24 rfl (lv_at hl 2 rfl) ?_
  refine q_goi V (q_runS (As := [.long 0, .int 1]) (rest := [.ref qO0]) (d := 1) (mc := 0) (ms := 0) C0 V rfl LS_FR_122 (c_FR_isWrong_2 l D g u8 _) rfl hl.1 rfl (Nat.le_of_ble_eq_true rfl) ⟨by decide, by decide⟩ ⟨Nat.le_of_ble_eq_true rfl, Nat.le_of_ble_eq_true rfl⟩ d_17_29_25) (fun v12 u11 H locs hp10 V => ?_)
  obtain ⟨rfl, rfl⟩ := hp10
  refine lv_if_ne (tgt := 55) hx hb d_17_29_28 (by decide) (fun c14 => absurd (by decide) c14) (fun c14 => ?_)
  refine lv_iload hx hb d_17_29_31 (lv_at hl 3 rfl) ?_
  refine lv_if_lt (tgt := 55) hx hb d_17_29_33 (by decide) (fun c15 => absurd c15 (by decide)) (fun c15 => ?_)
  refine lv_iload hx hb d_17_29_36 (lv_at hl 3 rfl) ?_
  refine lv_sipush (v := 1100) hx hb d_17_29_38 (by decide) ?_
  refine lv_icmp_gt (tgt := 55) hx hb d_17_29_41 (by decide) (fun c16 => absurd c16 (by decide)) (fun c16 => ?_)
  refine lv_iload hx hb d_17_29_44 (lv_at hl 4 rfl) ?_
  refine lv_if_lt (tgt := 55) hx hb d_17_29_46 (by decide) (fun c17 => absurd c17 (by decide)) (fun c17 => ?_)
  refine lv_iload hx hb d_17_29_49 (lv_at hl 4 rfl) ?_
  refine lv_iconst (v := 3) hx hb d_17_29_51 (by decide) ?_
  refine lv_icmp_le (tgt := 59) hx hb d_17_29_52 (by decide) (fun c18 => ?_) (fun c18 => absurd (by decide) c18)
  refine lv_aload_n hx hb d_17_29_59 rfl (lv_at hl 0 rfl) ?_
  refine q_goi V (q_runV (As := []) (rest := [.ref qO0]) (d := 1) (mc := 0) (ms := 0) (ci := 15) C0 V rfl LV_FR_130 (c_FR_isFinite_2 l D g u8 kO0 qO0 qA1 qA2 qA3 qA4 qA5 qA6 qA7 hO0 _) rfl rfl hO0 rfl hl.1 rfl (Nat.le_of_ble_eq_true rfl) ⟨by decide, by decide⟩ ⟨Nat.le_of_ble_eq_true rfl, Nat.le_of_ble_eq_true rfl⟩ d_17_29_60) (fun v21 u20 H locs hp19 V => ?_)
  obtain ⟨rfl, rfl⟩ := hp19
  refine lv_if_ne (tgt := 70) hx hb d_17_29_63 (by decide) (fun c23 => ?_) (fun c23 => absurd c23 (by decide))
  refine lv_iconst (v := 0) hx hb d_17_29_70 (by decide) ?_
  refine q_put (ci := 15) (j := 0) (v := .int 0) (ty := .int) C0 V i_FR o_FR n_FR rfl rfl hO0 (by decide) w_2074 rfl rfl rfl rfl (Nat.le_of_ble_eq_true rfl) d_17_29_71 (fun H locs w24 hu25 hO0 V => ?_)
  replace hO0 : w24[kO0]? = (some (qO0, .inr (15, [.int 0, .ref qA1, .ref qA2, .ref qA3, .ref qA4, .ref qA5, .ref qA6, .ref qA7, .int 0, .int 0, .int 0, .long 0, .int 23, .int 255, .long 0, .int (-149), .long 0, .int 0])) : Option (Nat × va_E)) := hO0
  replace hF := q_us hF hu25 (.head _)
  refine lv_aload_n hx hb d_17_29_74 rfl (lv_at hl 0 rfl) ?_
  refine q_get (ci := 15) (j := 0) (v := .int 0) C0 V i_FR rfl rfl hO0 (by decide) w_2074 rfl d_17_29_75 ?_
  refine lv_if_le (tgt := 83) hx hb d_17_29_78 (by decide) (fun c26 => ?_) (fun c26 => absurd (by decide) c26)
  refine lv_aload_n hx hb d_17_29_83 rfl (lv_at hl 0 rfl) ?_
  replace hA1 := (hu25 _ n_A1_O0).trans ((hg9 _ (q_nc n_A1_O0 List.not_mem_nil)).trans (hA1))
  replace hA2 := (hu25 _ n_A2_O0).trans ((hg9 _ (q_nc n_A2_O0 List.not_mem_nil)).trans (hA2))
  replace hA3 := (hu25 _ n_A3_O0).trans ((hg9 _ (q_nc n_A3_O0 List.not_mem_nil)).trans (hA3))
  refine q_gov V (q_runV (As := []) (rest := []) (d := 2) (mc := 0) (ms := 0) (ci := 15) C0 V rfl LV_FR_162 (c_FR_setValue_2 l D g w24 kO0 kA1 kA2 kA3 qO0 qA1 qA2 qA3 qA4 qA5 qA6 qA7 hO0 hA1 hA2 hA3 n_A1_A2 n_A1_A3 n_A3_A2 _) rfl rfl hO0 rfl hl.1 rfl (Nat.le_of_ble_eq_true rfl) ⟨by decide, by decide⟩ ⟨Nat.le_of_ble_eq_true rfl, Nat.le_of_ble_eq_true rfl⟩ d_17_29_84) (fun u28 H locs hp27 V => ?_)
  obtain ⟨y29, hg30, hA1, hA2, hA3⟩ := hp27
  replace hF := q_uc hF hg30 (q_sc (.tail _ (.head _)) (q_sc (.tail _ (.tail _ (.head _))) (q_sc (List.mem_of_getElem? (i := 3) rfl) (fun _ h => absurd h List.not_mem_nil))))
  refine lv_iload hx hb d_17_29_87 (lv_at hl 3 rfl) ?_
  refine lv_sipush (v := 1080) hx hb d_17_29_89 (by decide) ?_
  refine lv_icmp_le (tgt := 99) hx hb d_17_29_92 (by decide) (fun c31 => ?_) (fun c31 => absurd (by decide) c31)
  refine lv_sipush (v := 1080) hx hb d_17_29_99 (by decide) ?_
  refine lv_iload hx hb d_17_29_102 (lv_at hl 3 rfl) ?_
  refine lv_isub hx hb d_17_29_104 ?_
  refine q_ti (v := 1080) (by decide) ?_
  refine lv_istore (lv' := [(6, .int 1080), (0, .ref qO0), (1, .long 0), (3, .int 1), (4, .int 0), (5, .int 0)]) hx hb d_17_29_105 hl (by decide) rfl (fun ls hl => ?_)
  refine lv_aload_n hx hb d_17_29_107 rfl (lv_at hl 1 rfl) ?_
  refine lv_iload hx hb d_17_29_108 (lv_at hl 0 rfl) ?_
  refine lv_aload_n hx hb d_17_29_110 rfl (lv_at hl 1 rfl) ?_
  refine lv_iload hx hb d_17_29_111 (lv_at hl 0 rfl) ?_
  refine lv_iload hx hb d_17_29_113 (lv_at hl 5 rfl) ?_
  replace hO0 := (hg30 _ (q_nc n_O0_A1 (q_nc n_O0_A2 (q_nc n_O0_A3 List.not_mem_nil)))).trans (hO0)
  refine q_goi V (q_runV (As := [.int 1080, .int 0]) (rest := [.int 1080, .ref qO0]) (d := 1) (mc := 0) (ms := 0) (ci := 15) C0 V rfl LV_FR_165 (c_FR_isMore_4 l D g u28 kO0 kA3 qO0 qA1 qA2 qA3 qA4 qA5 qA6 qA7 hO0 hA3 _) rfl rfl hO0 rfl hl.1 rfl (Nat.le_of_ble_eq_true rfl) ⟨by decide, by decide⟩ ⟨Nat.le_of_ble_eq_true rfl, Nat.le_of_ble_eq_true rfl⟩ d_17_29_115) (fun v34 u33 H locs hp32 V => ?_)
  obtain ⟨rfl, rfl⟩ := hp32
  replace hA6 := (hg30 _ (q_nc n_A6_A1 (q_nc n_A6_A2 (q_nc n_A6_A3 List.not_mem_nil)))).trans ((hu25 _ n_A6_O0).trans ((hg9 _ (q_nc n_A6_O0 List.not_mem_nil)).trans (hA6)))
  refine q_gov V (q_runV (As := [.int 1080, .int 0]) (rest := []) (d := 1) (mc := 0) (ms := 0) (ci := 15) C0 V rfl LV_FR_81 (c_FR_cut_4 l D g u28 kO0 kA3 kA6 qO0 qA1 qA2 qA3 qA4 qA5 qA6 qA7 hO0 hA3 hA6 n_A3_A6 _) rfl rfl hO0 rfl hl.1 rfl (Nat.le_of_ble_eq_true rfl) ⟨by decide, by decide⟩ ⟨Nat.le_of_ble_eq_true rfl, Nat.le_of_ble_eq_true rfl⟩ d_17_29_118) (fun u37 H locs hp36 V => ?_)
  obtain ⟨hg38, hA6⟩ := hp36
  replace hF := q_uc hF hg38 (q_sc (List.mem_of_getElem? (i := 4) rfl) (fun _ h => absurd h List.not_mem_nil))
  refine lv_aload_n hx hb d_17_29_121 rfl (lv_at hl 1 rfl) ?_
  replace hO0 := (hg38 _ (q_nc n_O0_A6 List.not_mem_nil)).trans (hO0)
  refine q_gov V (q_runV (As := []) (rest := []) (d := 1) (mc := 0) (ms := 0) (ci := 15) C0 V rfl LV_FR_113 (c_FR_begin_2 l D g u37 kO0 qO0 qA1 qA2 qA3 qA4 qA5 qA6 qA7 hO0 _) rfl rfl hO0 rfl hl.1 rfl (Nat.le_of_ble_eq_true rfl) ⟨by decide, by decide⟩ ⟨Nat.le_of_ble_eq_true rfl, Nat.le_of_ble_eq_true rfl⟩ d_17_29_122) (fun u40 H locs hp39 V => ?_)
  obtain ⟨hg41, hO0⟩ := hp39
  replace hF := q_uc hF hg41 (q_sc (.head _) (fun _ h => absurd h List.not_mem_nil))
  refine lv_sipush (v := 1403) hx hb d_17_29_125 (by decide) ?_
  refine lv_istore (lv' := [(7, .int 1403), (6, .int 1080), (0, .ref qO0), (1, .long 0), (3, .int 1), (4, .int 0), (5, .int 0)]) hx hb d_17_29_128 hl (by decide) rfl (fun ls hl => ?_)
  replace hA1 := (hg41 _ (q_nc n_A1_O0 List.not_mem_nil)).trans ((hg38 _ (q_nc n_A1_A6 List.not_mem_nil)).trans (hA1))
  replace hA2 := (hg41 _ (q_nc n_A2_O0 List.not_mem_nil)).trans ((hg38 _ (q_nc n_A2_A6 List.not_mem_nil)).trans (hA2))
  replace hA3 := (hg41 _ (q_nc n_A3_O0 List.not_mem_nil)).trans ((hg38 _ (q_nc n_A3_A6 List.not_mem_nil)).trans (hA3))
  replace hA6 := (hg41 _ (q_nc n_A6_O0 List.not_mem_nil)).trans (hA6)
  replace hA7 := (hg41 _ (q_nc n_A7_O0 List.not_mem_nil)).trans ((hg38 _ (q_nc n_A7_A6 List.not_mem_nil)).trans ((hg30 _ (q_nc n_A7_A1 (q_nc n_A7_A2 (q_nc n_A7_A3 List.not_mem_nil)))).trans ((hu25 _ n_A7_O0).trans ((hg9 _ (q_nc n_A7_O0 List.not_mem_nil)).trans (hA7)))))
  refine q_loop (X := Int32) (fun z H locs ls w43 => (1080 ≤ z.toInt ∧ z.toInt ≤ 1403) ∧ q_Wd D g (va_A ws sz) s w43 H locs ∧ lv_has ls 9 [(7, .int z), (6, .int 1080), (0, .ref qO0), (1, .long 0), (3, .int 1), (4, .int 0), (5, .int 0)] ∧ q_un ws w43 [kO0, kA1, kA2, kA3, kA6, kA7] ∧ w43[kO0]? = (some (qO0, .inr (15, [.int 0, .ref qA1, .ref qA2, .ref qA3, .ref qA4, .ref qA5, .ref qA6, .ref qA7, .int 0, .int 0, .int 0, .long 0, .int 23, .int 255, .long 0, .int (-149), .long 0, .int 0])) : Option (Nat × va_E)) ∧ w43[kA1]? = (some (qA1, .inl (g 0, 156, .inl y29)) : Option (Nat × va_E)) ∧ w43[kA2]? = (some (qA2, .inl (g 0, 156, .inl (fun _ => 0))) : Option (Nat × va_E)) ∧ w43[kA3]? = (some (qA3, .inl (g 0, 1404, .inl (fun _ => 0))) : Option (Nat × va_E)) ∧ w43[kA6]? = (some (qA6, .inl (g 0, 1404, .inl (fun _ => 0))) : Option (Nat × va_E)) ∧ w43[kA7]? = (some (qA7, .inl (g 0, 1600, .inl (fun _ => 0))) : Option (Nat × va_E))) (fun z => (z.toInt - 1080).toNat) ?_ ((1403 : Int32)) _ _ _ u40 ⟨⟨by decide, by decide⟩, V, hl, hF, hO0, hA1, hA2, hA3, hA6, hA7⟩
  rintro lx42 H locs ls w43 ⟨i44, V, hl, hF, hO0, hA1, hA2, hA3, hA6, hA7⟩ ih45
  replace i44 : 1080 ≤ lx42.toInt ∧ lx42.toInt ≤ 1403 := i44
  replace hl : lv_has ls 9 [(7, .int lx42), (6, .int 1080), (0, .ref qO0), (1, .long 0), (3, .int 1), (4, .int 0), (5, .int 0)] := hl
  replace hO0 : w43[kO0]? = (some (qO0, .inr (15, [.int 0, .ref qA1, .ref qA2, .ref qA3, .ref qA4, .ref qA5, .ref qA6, .ref qA7, .int 0, .int 0, .int 0, .long 0, .int 23, .int 255, .long 0, .int (-149), .long 0, .int 0])) : Option (Nat × va_E)) := hO0
  replace hA1 : w43[kA1]? = (some (qA1, .inl (g 0, 156, .inl y29)) : Option (Nat × va_E)) := hA1
  replace hA2 : w43[kA2]? = (some (qA2, .inl (g 0, 156, .inl (fun _ => 0))) : Option (Nat × va_E)) := hA2
  replace hA3 : w43[kA3]? = (some (qA3, .inl (g 0, 1404, .inl (fun _ => 0))) : Option (Nat × va_E)) := hA3
  replace hA6 : w43[kA6]? = (some (qA6, .inl (g 0, 1404, .inl (fun _ => 0))) : Option (Nat × va_E)) := hA6
  replace hA7 : w43[kA7]? = (some (qA7, .inl (g 0, 1600, .inl (fun _ => 0))) : Option (Nat × va_E)) := hA7
  refine lv_iload hx hb d_17_29_130 (lv_at hl 0 rfl) ?_
  refine lv_sipush (v := 1080) hx hb d_17_29_132 (by decide) ?_
  refine lv_icmp_le (tgt := 154) hx hb d_17_29_135 (by decide) (fun c46 => ?_) (fun c46 => ?_)
  ·
    refine lv_iload hx hb d_17_29_154 (lv_at hl 0 rfl) ?_
    refine q_ti (v := 1080) (q_Ieq (x := lx42.toInt) (y := 1080) rfl (by decide) (by have t1 : lx42.toInt ≤ 1080 := q_leI c46; omega)) ?_
    refine lv_sipush (v := 1080) hx hb d_17_29_156 (by decide) ?_
    refine lv_isub hx hb d_17_29_159 ?_
    refine q_ti (v := 0) (by decide) ?_
    refine lv_istore (lv' := [(8, .int 0), (7, .int lx42), (6, .int 1080), (0, .ref qO0), (1, .long 0), (3, .int 1), (4, .int 0), (5, .int 0)]) hx hb d_17_29_160 hl (by decide) rfl (fun ls hl => ?_)
    refine lv_iload hx hb d_17_29_162 (lv_at hl 0 rfl) ?_
    refine lv_if_lt (tgt := 186) hx hb d_17_29_164 (by decide) (fun c47 => absurd c47 (by decide)) (fun c47 => ?_)
    refine lv_aload_n hx hb d_17_29_167 rfl (lv_at hl 3 rfl) ?_
    refine lv_bipush (v := 48) hx hb d_17_29_168 (by decide) ?_
    refine lv_aload_n hx hb d_17_29_170 rfl (lv_at hl 3 rfl) ?_
    refine lv_iload hx hb d_17_29_171 (lv_at hl 0 rfl) ?_
    refine q_goi V (q_runV (As := [.int 0]) (rest := [.int 48, .ref qO0]) (d := 1) (mc := 0) (ms := 0) (ci := 15) C0 V rfl LV_FR_169 (c_FR_figureAt_3 l D g w43 kO0 kA6 qO0 qA1 qA2 qA3 qA4 qA5 qA6 qA7 hO0 hA6 _) rfl rfl hO0 rfl hl.1 rfl (Nat.le_of_ble_eq_true rfl) ⟨by decide, by decide⟩ ⟨Nat.le_of_ble_eq_true rfl, Nat.le_of_ble_eq_true rfl⟩ d_17_29_173) (fun v50 u49 H locs hp48 V => ?_)
    obtain ⟨rfl, rfl⟩ := hp48
    refine lv_iadd hx hb d_17_29_176 ?_
    refine q_ti (v := 48) (by decide) ?_
    refine q_gov V (q_runV (As := [.int 48]) (rest := []) (d := 1) (mc := 0) (ms := 0) (ci := 15) C0 V rfl LV_FR_110 (c_FR_add_4 l D g w43 kO0 kA7 qO0 qA1 qA2 qA3 qA4 qA5 qA6 qA7 hO0 hA7 _) rfl rfl hO0 rfl hl.1 rfl (Nat.le_of_ble_eq_true rfl) ⟨by decide, by decide⟩ ⟨Nat.le_of_ble_eq_true rfl, Nat.le_of_ble_eq_true rfl⟩ d_17_29_177) (fun u53 H locs hp52 V => ?_)
    obtain ⟨hg54, hO0, hA7⟩ := hp52
    replace hF := q_uc hF hg54 (q_sc (.head _) (q_sc (List.mem_of_getElem? (i := 5) rfl) (fun _ h => absurd h List.not_mem_nil)))
    refine lv_iinc (v := (-1)) (lv' := [(8, .int (-1)), (7, .int lx42), (6, .int 1080), (0, .ref qO0), (1, .long 0), (3, .int 1), (4, .int 0), (5, .int 0)]) hx hb d_17_29_180 hl (k := 0) rfl (by decide) (by decide) rfl (fun ls hl => ?_)
    refine lv_goto (tgt := 162) hx hb d_17_29_183 (by decide) ?_
    refine lv_iload hx hb d_17_29_162 (lv_at hl 0 rfl) ?_
    refine lv_if_lt (tgt := 186) hx hb d_17_29_164 (by decide) (fun c55 => ?_) (fun c55 => absurd (by decide) c55)
    refine lv_iload hx hb d_17_29_186 (lv_at hl 6 rfl) ?_
    refine lv_if_le (tgt := 197) hx hb d_17_29_188 (by decide) (fun c56 => ?_) (fun c56 => absurd (by decide) c56)
    refine lv_iconst (v := (-1)) hx hb d_17_29_197 (by decide) ?_
    refine lv_istore (lv' := [(8, .int (-1)), (7, .int lx42), (6, .int 1080), (0, .ref qO0), (1, .long 0), (3, .int 1), (4, .int 0), (5, .int 0)]) hx hb d_17_29_198 hl (by decide) rfl (fun ls hl => ?_)
    refine lv_iload hx hb d_17_29_200 (lv_at hl 0 rfl) ?_
    refine lv_iload hx hb d_17_29_202 (lv_at hl 6 rfl) ?_
    refine lv_ineg hx hb d_17_29_204 ?_
    refine q_ti (v := 0) (by decide) ?_
    refine lv_icmp_lt (tgt := 227) hx hb d_17_29_205 (by decide) (fun c57 => ?_) (fun c57 => absurd (by decide) c57)
    refine lv_aload_n hx hb d_17_29_227 rfl (lv_at hl 3 rfl) ?_
    refine q_get (ci := 15) (j := 8) (v := .int 1) C0 V i_FR rfl rfl hO0 (by decide) w_2084 rfl d_17_29_228 ?_
    replace hA1 := (hg54 _ (q_nc n_A1_O0 (q_nc n_A1_A7 List.not_mem_nil))).trans (hA1)
    replace hA2 := (hg54 _ (q_nc n_A2_O0 (q_nc n_A2_A7 List.not_mem_nil))).trans (hA2)
    replace hA3 := (hg54 _ (q_nc n_A3_O0 (q_nc n_A3_A7 List.not_mem_nil))).trans (hA3)
    replace hA6 := (hg54 _ (q_nc n_A6_O0 (q_nc n_A6_A7 List.not_mem_nil))).trans (hA6)
    exact q_reti C0 V (⟨y29, rfl, hF, hO0, hA1, hA2, hA3, hA6, hA7⟩) d_17_29_231
  ·
    refine lv_aload_n hx hb d_17_29_138 rfl (lv_at hl 2 rfl) ?_
    refine q_get (ci := 15) (j := 6) (v := .ref qA6) C0 V i_FR rfl rfl hO0 (by decide) w_2081 rfl d_17_29_139 ?_
    refine lv_iload hx hb d_17_29_142 (lv_at hl 0 rfl) ?_
    refine q_iald C0 V hA6 (q_ix (x := lx42.toInt) rfl (by have t1 : 1080 < lx42.toInt := q_nleI c46; omega) (by have t1 : 1080 < lx42.toInt := q_nleI c46; omega)) d_17_29_144 ?_
    refine q_ti (v := 0) (by first | rfl | decide | simp [upd, vp_updL, sb_cl0]) ?_
    refine lv_if_ne (tgt := 154) hx hb d_17_29_145 (by decide) (fun c58 => absurd (by decide) c58) (fun c58 => ?_)
    refine lv_iinc (v := lx42 + (-1)) (lv' := [(7, .int (lx42 + (-1))), (6, .int 1080), (0, .ref qO0), (1, .long 0), (3, .int 1), (4, .int 0), (5, .int 0)]) hx hb d_17_29_148 hl (k := 0) rfl (rfl) (by decide) rfl (fun ls hl => ?_)
    refine lv_goto (tgt := 130) hx hb d_17_29_151 (by decide) ?_
    exact ih45 ((lx42 + (-1) : Int32)) _ _ _ _ (show ((lx42 + (-1)).toInt - 1080).toNat < (lx42.toInt - 1080).toNat from by have t1 : 1080 < lx42.toInt := q_nleI c46; have e : (lx42 + (-1)).toInt = (lx42.toInt + (-1)) := (q_addI (x := lx42.toInt) (y := (-1)) rfl (by decide) (by have t1 : 1080 < lx42.toInt := q_nleI c46; omega) (by have t1 : 1080 < lx42.toInt := q_nleI c46; omega)); omega) ⟨(show 1080 ≤ (lx42 + (-1)).toInt ∧ (lx42 + (-1)).toInt ≤ 1403 from by have t1 : 1080 < lx42.toInt := q_nleI c46; have e : (lx42 + (-1)).toInt = (lx42.toInt + (-1)) := (q_addI (x := lx42.toInt) (y := (-1)) rfl (by decide) (by have t1 : 1080 < lx42.toInt := q_nleI c46; omega) (by have t1 : 1080 < lx42.toInt := q_nleI c46; omega)); omega), V, q_lw hl (q_lw1 0 rfl (q_lw1 1 rfl (q_lw1 2 rfl (q_lw1 3 rfl (q_lw1 4 rfl (q_lw1 5 rfl (q_lw1 6 rfl q_lw0))))))), hF, hO0, hA1, hA2, hA3, hA6, hA7⟩
set_option maxRecDepth 100000 in
set_option maxHeartbeats 4000000 in
theorem c_NM_exact_4 (l : Launch) (D : va_G) (g : Nat → ClassId) (ws : va_W) ( qO0 qA1 qA2 qA3 qO4 qO5 qO6 qO7 qO8 qA9 qA10 qA34 qA35 qA36 qA37 qA38 qA39 qA40 : Nat) (x1 : Int32) (hO0 : ws[116]? = (some (qO0, .inr (12, [.int 0, .ref qA2, .int 0, .ref qA3, .int 0, .ref qO4, .ref qO5, .ref qO6, .ref qO7, .ref qO8, .ref qA9, .ref qA10])) : Option (Nat × va_E))) (hA1 : ws[120]? = (some (qA1, .inl (g 0, 4100, .inl (fun _ => 0))) : Option (Nat × va_E))) (hO6 : ws[145]? = (some (qO6, .inr (15, [.int 0, .ref qA34, .ref qA35, .ref qA36, .ref qA37, .ref qA38, .ref qA39, .ref qA40, .int 0, .int 0, .int 0, .long 0, .int 0, .int 0, .long 0, .int 0, .long 0, .int 0])) : Option (Nat × va_E))) (hA34 : ws[146]? = (some (qA34, .inl (g 0, 156, .inl (fun _ => 0))) : Option (Nat × va_E))) (hA35 : ws[147]? = (some (qA35, .inl (g 0, 156, .inl (fun _ => 0))) : Option (Nat × va_E))) (hA36 : ws[148]? = (some (qA36, .inl (g 0, 1404, .inl (fun _ => 0))) : Option (Nat × va_E))) (hA39 : ws[151]? = (some (qA39, .inl (g 0, 1404, .inl (fun _ => 0))) : Option (Nat × va_E))) (hA40 : ws[152]? = (some (qA40, .inl (g 0, 1600, .inl (fun _ => 0))) : Option (Nat × va_E))) (x1lo : 2 ≤ x1) (x1hi : x1 ≤ 3) : q_mI l y_NM_exact prog_14_method_28_code 7 (.int) 4 0 0 D g [.ref qO0, .int x1, .long 0, .int 0, .ref qA1] ws (fun r u => (∃ (ex0 : Nat → Int32), ¬ x1 = 3 ∧ 1 = r ∧ q_un ws u [120, 145, 146, 147, 148, 151, 152] ∧ u[120]? = (some (qA1, .inl (g 0, 4100, .inl (upd (fun _ => 0) 0 48))) : Option (Nat × va_E)) ∧ u[145]? = (some (qO6, .inr (15, [.int 0, .ref qA34, .ref qA35, .ref qA36, .ref qA37, .ref qA38, .ref qA39, .ref qA40, .int 1, .int 0, .int 0, .long 0, .int 52, .int 2047, .long 0, .int (-1074), .long 0, .int 0])) : Option (Nat × va_E)) ∧ u[146]? = (some (qA34, .inl (g 0, 156, .inl ex0)) : Option (Nat × va_E)) ∧ u[147]? = (some (qA35, .inl (g 0, 156, .inl (fun _ => 0))) : Option (Nat × va_E)) ∧ u[148]? = (some (qA36, .inl (g 0, 1404, .inl (fun _ => 0))) : Option (Nat × va_E)) ∧ u[151]? = (some (qA39, .inl (g 0, 1404, .inl (fun _ => 0))) : Option (Nat × va_E)) ∧ u[152]? = (some (qA40, .inl (g 0, 1600, .inl (upd (fun _ => 0) 0 48))) : Option (Nat × va_E))) ∨ (∃ (ex0 : Nat → Int32), x1 = 3 ∧ 1 = r ∧ q_un ws u [120, 145, 146, 147, 148, 151, 152] ∧ u[120]? = (some (qA1, .inl (g 0, 4100, .inl (upd (fun _ => 0) 0 48))) : Option (Nat × va_E)) ∧ u[145]? = (some (qO6, .inr (15, [.int 0, .ref qA34, .ref qA35, .ref qA36, .ref qA37, .ref qA38, .ref qA39, .ref qA40, .int 1, .int 0, .int 0, .long 0, .int 23, .int 255, .long 0, .int (-149), .long 0, .int 0])) : Option (Nat × va_E)) ∧ u[146]? = (some (qA34, .inl (g 0, 156, .inl ex0)) : Option (Nat × va_E)) ∧ u[147]? = (some (qA35, .inl (g 0, 156, .inl (fun _ => 0))) : Option (Nat × va_E)) ∧ u[148]? = (some (qA36, .inl (g 0, 1404, .inl (fun _ => 0))) : Option (Nat × va_E)) ∧ u[151]? = (some (qA39, .inl (g 0, 1404, .inl (fun _ => 0))) : Option (Nat × va_E)) ∧ u[152]? = (some (qA40, .inl (g 0, 1600, .inl (upd (fun _ => 0) 0 48))) : Option (Nat × va_E)))) := by
  intro sz
  refine q_into (by decide) (Nat.le_of_ble_eq_true rfl) ?_
  intro p e s m below meth c ls hsz C0 V hl
  have hx := C0.1
  have hb := C0.2.1
  have hl : lv_has ls 7 [(0, .ref qO0), (1, .int x1), (2, .long 0), (4, .int 0), (5, .ref qA1)] := hl
  have hF : q_un ws ws [120, 145, 146, 147, 148, 151, 152] := q_u0
  refine lv_aload_n hx hb d_14_28_0 rfl (lv_at hl 0 rfl) ?_
  refine q_get (ci := 12) (j := 7) (v := .ref qO6) C0 V i_NM rfl rfl hO0 (by decide) w_2305 rfl d_14_28_1 ?_
  refine lv_lload_n hx hb d_14_28_4 rfl (lv_at hl 2 rfl) ?_
  refine lv_iload_n hx hb d_14_28_5 rfl (lv_at hl 1 rfl) ?_
  refine lv_iconst (v := 3) hx hb d_14_28_6 (by decide) ?_
  refine lv_icmp_ne (tgt := 14) hx hb d_14_28_7 (by decide) (fun c1 => ?_) (fun c1 => ?_)
  ·
    refine lv_iconst (v := 0) hx hb d_14_28_14 (by decide) ?_
    refine lv_iload hx hb d_14_28_15 (lv_at hl 3 rfl) ?_
    refine lv_iconst (v := 0) hx hb d_14_28_17 (by decide) ?_
    refine q_goi V (q_runV (As := [.long 0, .int 0, .int 0, .int 0]) (rest := []) (d := 3) (mc := 0) (ms := 0) (ci := 15) C0 V rfl LV_NM_227 (c_FR_fixed_2 l D g ws 145 146 147 148 151 152 qO6 qA34 qA35 qA36 qA37 qA38 qA39 qA40 hO6 hA34 hA35 hA36 hA39 hA40 (q_pd 146 147 rfl) (q_pd 146 148 rfl) (q_pd 146 151 rfl) (q_pd 146 152 rfl) (q_pd 147 151 rfl) (q_pd 147 152 rfl) (q_pd 148 147 rfl) (q_pd 148 151 rfl) (q_pd 148 152 rfl) (q_pd 151 152 rfl) _) rfl rfl hO6 rfl hl.1 rfl (Nat.le_of_ble_eq_true rfl) ⟨by decide, by decide⟩ ⟨Nat.le_of_ble_eq_true rfl, Nat.le_of_ble_eq_true rfl⟩ d_14_28_18) (fun v4 u3 H locs hp2 V => ?_)
    obtain ⟨y5, rfl, hg6, hO6, hA34, hA35, hA36, hA39, hA40⟩ := hp2
    replace hF := q_uc hF hg6 (q_sc (.tail _ (.head _)) (q_sc (.tail _ (.tail _ (.head _))) (q_sc (List.mem_of_getElem? (i := 3) rfl) (q_sc (List.mem_of_getElem? (i := 4) rfl) (q_sc (List.mem_of_getElem? (i := 5) rfl) (q_sc (List.mem_of_getElem? (i := 6) rfl) (fun _ h => absurd h List.not_mem_nil)))))))
    refine lv_istore (lv' := [(6, .int 1), (0, .ref qO0), (1, .int x1), (2, .long 0), (4, .int 0), (5, .ref qA1)]) hx hb d_14_28_21 hl (by decide) rfl (fun ls hl => ?_)
    refine lv_aload_n hx hb d_14_28_23 rfl (lv_at hl 1 rfl) ?_
    replace hO0 := (hg6 _ (q_nc (q_pd 116 145 rfl) (q_nc (q_pd 116 146 rfl) (q_nc (q_pd 116 147 rfl) (q_nc (q_pd 116 148 rfl) (q_nc (q_pd 116 151 rfl) (q_nc (q_pd 116 152 rfl) List.not_mem_nil))))))).trans (hO0)
    refine q_get (ci := 12) (j := 7) (v := .ref qO6) C0 V i_NM rfl rfl hO0 (by decide) w_2305 rfl d_14_28_24 ?_
    refine q_getN (ci := 15) (j := 7) (v := .ref qA40) C0 V i_FR rfl rfl hO6 (by decide) wo_2083 rfl d_14_28_27 ?_
    refine lv_iload hx hb d_14_28_30 (lv_at hl 0 rfl) ?_
    refine lv_aload hx hb d_14_28_32 (lv_at hl 5 rfl) ?_
    replace hA1 := (hg6 _ (q_nc (q_pd 120 145 rfl) (q_nc (q_pd 120 146 rfl) (q_nc (q_pd 120 147 rfl) (q_nc (q_pd 120 148 rfl) (q_nc (q_pd 120 151 rfl) (q_nc (q_pd 120 152 rfl) List.not_mem_nil))))))).trans (hA1)
    refine q_goi V (q_runS (As := [.ref qA40, .int 1, .ref qA1]) (rest := []) (d := 1) (mc := 0) (ms := 0) C0 V rfl LS_NM_90 (c_NM_load_4 l D g u3 qA40 qA1 hA40 hA1 _) rfl hl.1 rfl (Nat.le_of_ble_eq_true rfl) ⟨by decide, by decide⟩ ⟨Nat.le_of_ble_eq_true rfl, Nat.le_of_ble_eq_true rfl⟩ d_14_28_34) (fun v9 u8 H locs hp7 V => ?_)
    obtain ⟨rfl, hg10, hA1⟩ := hp7
    replace hF := q_uc hF hg10 (q_sc (.head _) (fun _ h => absurd h List.not_mem_nil))
    replace hO6 := (hg10 _ (q_nc (q_pd 145 120 rfl) List.not_mem_nil)).trans (hO6)
    replace hA34 := (hg10 _ (q_nc (q_pd 146 120 rfl) List.not_mem_nil)).trans (hA34)
    replace hA35 := (hg10 _ (q_nc (q_pd 147 120 rfl) List.not_mem_nil)).trans (hA35)
    replace hA36 := (hg10 _ (q_nc (q_pd 148 120 rfl) List.not_mem_nil)).trans (hA36)
    replace hA39 := (hg10 _ (q_nc (q_pd 151 120 rfl) List.not_mem_nil)).trans (hA39)
    replace hA40 := (hg10 _ (q_nc (q_pd 152 120 rfl) List.not_mem_nil)).trans (hA40)
    exact q_reti C0 V (Or.inl ⟨y5, c1, rfl, hF, hA1, hO6, hA34, hA35, hA36, hA39, hA40⟩) d_14_28_37
  ·
    refine lv_iconst (v := 1) hx hb d_14_28_10 (by decide) ?_
    refine lv_goto (tgt := 15) hx hb d_14_28_11 (by decide) ?_
    refine lv_iload hx hb d_14_28_15 (lv_at hl 3 rfl) ?_
    refine lv_iconst (v := 0) hx hb d_14_28_17 (by decide) ?_
    refine q_goi V (q_runV (As := [.long 0, .int 1, .int 0, .int 0]) (rest := []) (d := 3) (mc := 0) (ms := 0) (ci := 15) C0 V rfl LV_NM_227 (c_FR_fixed_4 l D g ws 145 146 147 148 151 152 qO6 qA34 qA35 qA36 qA37 qA38 qA39 qA40 hO6 hA34 hA35 hA36 hA39 hA40 (q_pd 146 147 rfl) (q_pd 146 148 rfl) (q_pd 146 151 rfl) (q_pd 146 152 rfl) (q_pd 147 151 rfl) (q_pd 147 152 rfl) (q_pd 148 147 rfl) (q_pd 148 151 rfl) (q_pd 148 152 rfl) (q_pd 151 152 rfl) _) rfl rfl hO6 rfl hl.1 rfl (Nat.le_of_ble_eq_true rfl) ⟨by decide, by decide⟩ ⟨Nat.le_of_ble_eq_true rfl, Nat.le_of_ble_eq_true rfl⟩ d_14_28_18) (fun v13 u12 H locs hp11 V => ?_)
    obtain ⟨y14, rfl, hg15, hO6, hA34, hA35, hA36, hA39, hA40⟩ := hp11
    replace hF := q_uc hF hg15 (q_sc (.tail _ (.head _)) (q_sc (.tail _ (.tail _ (.head _))) (q_sc (List.mem_of_getElem? (i := 3) rfl) (q_sc (List.mem_of_getElem? (i := 4) rfl) (q_sc (List.mem_of_getElem? (i := 5) rfl) (q_sc (List.mem_of_getElem? (i := 6) rfl) (fun _ h => absurd h List.not_mem_nil)))))))
    refine lv_istore (lv' := [(6, .int 1), (0, .ref qO0), (1, .int x1), (2, .long 0), (4, .int 0), (5, .ref qA1)]) hx hb d_14_28_21 hl (by decide) rfl (fun ls hl => ?_)
    refine lv_aload_n hx hb d_14_28_23 rfl (lv_at hl 1 rfl) ?_
    replace hO0 := (hg15 _ (q_nc (q_pd 116 145 rfl) (q_nc (q_pd 116 146 rfl) (q_nc (q_pd 116 147 rfl) (q_nc (q_pd 116 148 rfl) (q_nc (q_pd 116 151 rfl) (q_nc (q_pd 116 152 rfl) List.not_mem_nil))))))).trans (hO0)
    refine q_get (ci := 12) (j := 7) (v := .ref qO6) C0 V i_NM rfl rfl hO0 (by decide) w_2305 rfl d_14_28_24 ?_
    refine q_getN (ci := 15) (j := 7) (v := .ref qA40) C0 V i_FR rfl rfl hO6 (by decide) wo_2083 rfl d_14_28_27 ?_
    refine lv_iload hx hb d_14_28_30 (lv_at hl 0 rfl) ?_
    refine lv_aload hx hb d_14_28_32 (lv_at hl 5 rfl) ?_
    replace hA1 := (hg15 _ (q_nc (q_pd 120 145 rfl) (q_nc (q_pd 120 146 rfl) (q_nc (q_pd 120 147 rfl) (q_nc (q_pd 120 148 rfl) (q_nc (q_pd 120 151 rfl) (q_nc (q_pd 120 152 rfl) List.not_mem_nil))))))).trans (hA1)
    refine q_goi V (q_runS (As := [.ref qA40, .int 1, .ref qA1]) (rest := []) (d := 1) (mc := 0) (ms := 0) C0 V rfl LS_NM_90 (c_NM_load_4 l D g u12 qA40 qA1 hA40 hA1 _) rfl hl.1 rfl (Nat.le_of_ble_eq_true rfl) ⟨by decide, by decide⟩ ⟨Nat.le_of_ble_eq_true rfl, Nat.le_of_ble_eq_true rfl⟩ d_14_28_34) (fun v18 u17 H locs hp16 V => ?_)
    obtain ⟨rfl, hg19, hA1⟩ := hp16
    replace hF := q_uc hF hg19 (q_sc (.head _) (fun _ h => absurd h List.not_mem_nil))
    replace hO6 := (hg19 _ (q_nc (q_pd 145 120 rfl) List.not_mem_nil)).trans (hO6)
    replace hA34 := (hg19 _ (q_nc (q_pd 146 120 rfl) List.not_mem_nil)).trans (hA34)
    replace hA35 := (hg19 _ (q_nc (q_pd 147 120 rfl) List.not_mem_nil)).trans (hA35)
    replace hA36 := (hg19 _ (q_nc (q_pd 148 120 rfl) List.not_mem_nil)).trans (hA36)
    replace hA39 := (hg19 _ (q_nc (q_pd 151 120 rfl) List.not_mem_nil)).trans (hA39)
    replace hA40 := (hg19 _ (q_nc (q_pd 152 120 rfl) List.not_mem_nil)).trans (hA40)
    exact q_reti C0 V (Or.inr (⟨y14, c1, rfl, hF, hA1, hO6, hA34, hA35, hA36, hA39, hA40⟩)) d_14_28_37
set_option maxRecDepth 100000 in
set_option maxHeartbeats 4000000 in
theorem c_NM_toWhole_2 (l : Launch) (D : va_G) (g : Nat → ClassId) (ws : va_W) ( qO0 qA1 qA2 qO3 qO4 qO5 qO6 qO7 qA8 qA9 qA10 qA11 qA12 qA13 qA14 qA15 qA16 qA17 qA18 qA19 qA20 qA21 qA22 qA23 qA34 qA35 qA36 qA37 qA38 qA39 qA40 : Nat) (x1 : Int32) (x2 : Int32) (x3 : Int32) (hO0 : ws[116]? = (some (qO0, .inr (12, [.int 0, .ref qA1, .int 0, .ref qA2, .int 0, .ref qO3, .ref qO4, .ref qO5, .ref qO6, .ref qO7, .ref qA8, .ref qA9])) : Option (Nat × va_E))) (hO3 : ws[119]? = (some (qO3, .inr (13, [.int 0, .int 0, .ref qA10, .int 0, .ref qA11, .ref qA12, .ref qA13, .int 0, .ref qA14, .ref qA15, .ref qA16, .ref qA17, .ref qA18, .ref qA19, .ref qA20, .ref qA21, .int 0, .int 0, .ref qA22, .ref qA23, .int 0])) : Option (Nat × va_E))) (hO5 : ws[145]? = (some (qO5, .inr (15, [.int 0, .ref qA34, .ref qA35, .ref qA36, .ref qA37, .ref qA38, .ref qA39, .ref qA40, .int 0, .int 0, .int 0, .long 0, .int 0, .int 0, .long 0, .int 0, .long 0, .int 0])) : Option (Nat × va_E))) (hA8 : ws[167]? = (some (qA8, .inl (g 1, 20, .inr (.inl (fun _ => 0)))) : Option (Nat × va_E))) (hA10 : ws[120]? = (some (qA10, .inl (g 0, 4100, .inl (fun _ => 0))) : Option (Nat × va_E))) (hA11 : ws[121]? = (some (qA11, .inl (g 0, 1408, .inl (fun _ => 0))) : Option (Nat × va_E))) (hA12 : ws[122]? = (some (qA12, .inl (g 3, 11, .inl (fun _ => 0))) : Option (Nat × va_E))) (hA13 : ws[123]? = (some (qA13, .inl (g 0, 264, .inl (fun _ => 0))) : Option (Nat × va_E))) (hA34 : ws[146]? = (some (qA34, .inl (g 0, 156, .inl (fun _ => 0))) : Option (Nat × va_E))) (hA35 : ws[147]? = (some (qA35, .inl (g 0, 156, .inl (fun _ => 0))) : Option (Nat × va_E))) (hA36 : ws[148]? = (some (qA36, .inl (g 0, 1404, .inl (fun _ => 0))) : Option (Nat × va_E))) (hA39 : ws[151]? = (some (qA39, .inl (g 0, 1404, .inl (fun _ => 0))) : Option (Nat × va_E))) (hA40 : ws[152]? = (some (qA40, .inl (g 0, 1600, .inl (fun _ => 0))) : Option (Nat × va_E))) (x1lo : 2 ≤ x1) (x1hi : x1 ≤ 3) (x2lo : 0 ≤ x2) (x2hi : x2 ≤ 9) (x3lo : 0 ≤ x3) (x3hi : x3 ≤ 9) : q_mV l y_NM_toWhole prog_14_method_29_code 8 5 0 0 D g [.ref qO0, .int x1, .int x2, .int x3] ws (fun u => (∃ (ex0 : Nat → Int32), ¬ x1 = 3 ∧ q_un ws u [116, 119, 145, 120, 121, 122, 123, 146, 147, 148, 151, 152] ∧ u[116]? = (some (qO0, .inr (12, [.int 0, .ref qA1, .int 0, .ref qA2, .int 0, .ref qO3, .ref qO4, .ref qO5, .ref qO6, .ref qO7, .ref qA8, .ref qA9])) : Option (Nat × va_E)) ∧ u[119]? = (some (qO3, .inr (13, [.int 0, .int 0, .ref qA10, .int 0, .ref qA11, .ref qA12, .ref qA13, .int 0, .ref qA14, .ref qA15, .ref qA16, .ref qA17, .ref qA18, .ref qA19, .ref qA20, .ref qA21, .int 0, .int 0, .ref qA22, .ref qA23, .int 0])) : Option (Nat × va_E)) ∧ u[145]? = (some (qO5, .inr (15, [.int 0, .ref qA34, .ref qA35, .ref qA36, .ref qA37, .ref qA38, .ref qA39, .ref qA40, .int 1, .int 0, .int 0, .long 0, .int 52, .int 2047, .long 0, .int (-1074), .long 0, .int 0])) : Option (Nat × va_E)) ∧ u[120]? = (some (qA10, .inl (g 0, 4100, .inl (upd (fun _ => 0) 0 48))) : Option (Nat × va_E)) ∧ u[121]? = (some (qA11, .inl (g 0, 1408, .inl (fun _ => 0))) : Option (Nat × va_E)) ∧ u[122]? = (some (qA12, .inl (g 3, 11, .inl (fun _ => 0))) : Option (Nat × va_E)) ∧ u[123]? = (some (qA13, .inl (g 0, 264, .inl (fun _ => 0))) : Option (Nat × va_E)) ∧ u[146]? = (some (qA34, .inl (g 0, 156, .inl ex0)) : Option (Nat × va_E)) ∧ u[147]? = (some (qA35, .inl (g 0, 156, .inl (fun _ => 0))) : Option (Nat × va_E)) ∧ u[148]? = (some (qA36, .inl (g 0, 1404, .inl (fun _ => 0))) : Option (Nat × va_E)) ∧ u[151]? = (some (qA39, .inl (g 0, 1404, .inl (fun _ => 0))) : Option (Nat × va_E)) ∧ u[152]? = (some (qA40, .inl (g 0, 1600, .inl (upd (fun _ => 0) 0 48))) : Option (Nat × va_E))) ∨ (∃ (ex0 : Nat → Int32), x1 = 3 ∧ q_un ws u [116, 119, 145, 120, 121, 122, 123, 146, 147, 148, 151, 152] ∧ u[116]? = (some (qO0, .inr (12, [.int 0, .ref qA1, .int 0, .ref qA2, .int 0, .ref qO3, .ref qO4, .ref qO5, .ref qO6, .ref qO7, .ref qA8, .ref qA9])) : Option (Nat × va_E)) ∧ u[119]? = (some (qO3, .inr (13, [.int 0, .int 0, .ref qA10, .int 0, .ref qA11, .ref qA12, .ref qA13, .int 0, .ref qA14, .ref qA15, .ref qA16, .ref qA17, .ref qA18, .ref qA19, .ref qA20, .ref qA21, .int 0, .int 0, .ref qA22, .ref qA23, .int 0])) : Option (Nat × va_E)) ∧ u[145]? = (some (qO5, .inr (15, [.int 0, .ref qA34, .ref qA35, .ref qA36, .ref qA37, .ref qA38, .ref qA39, .ref qA40, .int 1, .int 0, .int 0, .long 0, .int 23, .int 255, .long 0, .int (-149), .long 0, .int 0])) : Option (Nat × va_E)) ∧ u[120]? = (some (qA10, .inl (g 0, 4100, .inl (upd (fun _ => 0) 0 48))) : Option (Nat × va_E)) ∧ u[121]? = (some (qA11, .inl (g 0, 1408, .inl (fun _ => 0))) : Option (Nat × va_E)) ∧ u[122]? = (some (qA12, .inl (g 3, 11, .inl (fun _ => 0))) : Option (Nat × va_E)) ∧ u[123]? = (some (qA13, .inl (g 0, 264, .inl (fun _ => 0))) : Option (Nat × va_E)) ∧ u[146]? = (some (qA34, .inl (g 0, 156, .inl ex0)) : Option (Nat × va_E)) ∧ u[147]? = (some (qA35, .inl (g 0, 156, .inl (fun _ => 0))) : Option (Nat × va_E)) ∧ u[148]? = (some (qA36, .inl (g 0, 1404, .inl (fun _ => 0))) : Option (Nat × va_E)) ∧ u[151]? = (some (qA39, .inl (g 0, 1404, .inl (fun _ => 0))) : Option (Nat × va_E)) ∧ u[152]? = (some (qA40, .inl (g 0, 1600, .inl (upd (fun _ => 0) 0 48))) : Option (Nat × va_E)))) := by
  intro sz
  refine q_into (by decide) (Nat.le_of_ble_eq_true rfl) ?_
  intro p e s m below meth c ls hsz C0 V hl
  have hx := C0.1
  have hb := C0.2.1
  have hl : lv_has ls 8 [(0, .ref qO0), (1, .int x1), (2, .int x2), (3, .int x3)] := hl
  have hF : q_un ws ws [116, 119, 145, 120, 121, 122, 123, 146, 147, 148, 151, 152] := q_u0
  refine lv_iconst (v := 0) hx hb d_14_29_0 (by decide) ?_
  refine lv_istore (lv' := [(4, .int 0), (0, .ref qO0), (1, .int x1), (2, .int x2), (3, .int x3)]) hx hb d_14_29_1 hl (by decide) rfl (fun ls hl => ?_)
  refine lv_iload_n hx hb d_14_29_3 rfl (lv_at hl 2 rfl) ?_
  refine lv_iconst (v := 1) hx hb d_14_29_4 (by decide) ?_
  refine lv_icmp_ne (tgt := 131) hx hb d_14_29_5 (by decide) (fun c1 => ?_) (fun c1 => absurd c1 (q_Ine (x := x1.toInt) (y := 1) rfl (by decide) (by have t1 : 2 ≤ x1.toInt := q_leI x1lo; have t2 : x1.toInt ≤ 3 := q_leI x1hi; omega)))
  refine lv_aload_n hx hb d_14_29_131 rfl (lv_at hl 1 rfl) ?_
  refine lv_iload_n hx hb d_14_29_132 rfl (lv_at hl 2 rfl) ?_
  refine lv_aload_n hx hb d_14_29_133 rfl (lv_at hl 1 rfl) ?_
  refine lv_iload_n hx hb d_14_29_134 rfl (lv_at hl 2 rfl) ?_
  refine lv_iload_n hx hb d_14_29_135 rfl (lv_at hl 3 rfl) ?_
  refine q_gol V (q_runV (As := [.int x1, .int x2]) (rest := [.int x1, .ref qO0]) (d := 1) (mc := 0) (ms := 0) (ci := 12) C0 V rfl LV_NM_138 (c_NM_bitsOf l D g ws qO0 qA1 qA2 qO3 qO4 qO5 qO6 qO7 qA8 qA9 x1 x2 hO0 hA8 x1lo x1hi x2lo x2hi _) rfl rfl hO0 rfl hl.1 rfl (Nat.le_of_ble_eq_true rfl) ⟨by decide, by decide⟩ ⟨Nat.le_of_ble_eq_true rfl, Nat.le_of_ble_eq_true rfl⟩ d_14_29_136) (fun v4 u3 H locs hp2 V => ?_)
  obtain ⟨rfl, rfl⟩ := hp2
  refine lv_iconst (v := 0) hx hb d_14_29_139 (by decide) ?_
  refine lv_aload_n hx hb d_14_29_140 rfl (lv_at hl 1 rfl) ?_
  refine q_get (ci := 12) (j := 5) (v := .ref qO3) C0 V i_NM rfl rfl hO0 (by decide) w_2303 rfl d_14_29_141 ?_
  refine q_getN (ci := 13) (j := 2) (v := .ref qA10) C0 V i_WR rfl rfl hO3 (by decide) wo_1925 rfl d_14_29_144 ?_
  refine q_goi V (q_runV (As := [.int x1, .long 0, .int 0, .ref qA10]) (rest := []) (d := 4) (mc := 0) (ms := 0) (ci := 12) C0 V rfl LV_NM_244 (c_NM_exact_4 l D g ws qO0 qA10 qA1 qA2 qO3 qO4 qO5 qO6 qO7 qA8 qA9 qA34 qA35 qA36 qA37 qA38 qA39 qA40 x1 hO0 hA10 hO5 hA34 hA35 hA36 hA39 hA40 x1lo x1hi _) rfl rfl hO0 rfl hl.1 rfl (Nat.le_of_ble_eq_true rfl) ⟨by decide, by decide⟩ ⟨Nat.le_of_ble_eq_true rfl, Nat.le_of_ble_eq_true rfl⟩ d_14_29_147) (fun v8 u7 H locs hp6 V => ?_)
  rcases hp6 with ⟨y10, c9, rfl, hg11, hA10, hO5, hA34, hA35, hA36, hA39, hA40⟩ | ⟨y13, c12, rfl, hg14, hA10, hO5, hA34, hA35, hA36, hA39, hA40⟩
  ·
    replace hF := q_uc hF hg11 (q_sc (List.mem_of_getElem? (i := 3) rfl) (q_sc (.tail _ (.tail _ (.head _))) (q_sc (List.mem_of_getElem? (i := 7) rfl) (q_sc (List.mem_of_getElem? (i := 8) rfl) (q_sc (List.mem_of_getElem? (i := 9) rfl) (q_sc (List.mem_of_getElem? (i := 10) rfl) (q_sc (List.mem_of_getElem? (i := 11) rfl) (fun _ h => absurd h List.not_mem_nil))))))))
    refine lv_istore (lv' := [(4, .int 1), (0, .ref qO0), (1, .int x1), (2, .int x2), (3, .int x3)]) hx hb d_14_29_150 hl (by decide) rfl (fun ls hl => ?_)
    refine lv_aload_n hx hb d_14_29_152 rfl (lv_at hl 1 rfl) ?_
    replace hO0 := (hg11 _ (q_nc (q_pd 116 120 rfl) (q_nc (q_pd 116 145 rfl) (q_nc (q_pd 116 146 rfl) (q_nc (q_pd 116 147 rfl) (q_nc (q_pd 116 148 rfl) (q_nc (q_pd 116 151 rfl) (q_nc (q_pd 116 152 rfl) List.not_mem_nil)))))))).trans (hO0)
    refine q_get (ci := 12) (j := 5) (v := .ref qO3) C0 V i_NM rfl rfl hO0 (by decide) w_2303 rfl d_14_29_153 ?_
    refine lv_iload hx hb d_14_29_156 (lv_at hl 0 rfl) ?_
    replace hO3 := (hg11 _ (q_nc (q_pd 119 120 rfl) (q_nc (q_pd 119 145 rfl) (q_nc (q_pd 119 146 rfl) (q_nc (q_pd 119 147 rfl) (q_nc (q_pd 119 148 rfl) (q_nc (q_pd 119 151 rfl) (q_nc (q_pd 119 152 rfl) List.not_mem_nil)))))))).trans (hO3)
    refine q_putN (ci := 13) (j := 3) (v := .int 1) (ty := .int) C0 V i_WR o_WR n_WR rfl rfl hO3 (by decide) wo_1926 rfl rfl rfl rfl (Nat.le_of_ble_eq_true rfl) d_14_29_158 (fun H locs w15 hu16 hO3 V => ?_)
    replace hO3 : w15[119]? = (some (qO3, .inr (13, [.int 0, .int 0, .ref qA10, .int 1, .ref qA11, .ref qA12, .ref qA13, .int 0, .ref qA14, .ref qA15, .ref qA16, .ref qA17, .ref qA18, .ref qA19, .ref qA20, .ref qA21, .int 0, .int 0, .ref qA22, .ref qA23, .int 0])) : Option (Nat × va_E)) := hO3
    replace hF := q_us hF hu16 (.tail _ (.head _))
    refine lv_aload_n hx hb d_14_29_161 rfl (lv_at hl 1 rfl) ?_
    replace hO0 := (hu16 _ (q_pd 116 119 rfl)).trans (hO0)
    refine q_get (ci := 12) (j := 5) (v := .ref qO3) C0 V i_NM rfl rfl hO0 (by decide) w_2303 rfl d_14_29_162 ?_
    refine lv_iload_n hx hb d_14_29_165 rfl (lv_at hl 4 rfl) ?_
    refine lv_bipush (v := 10) hx hb d_14_29_166 (by decide) ?_
    replace hA10 := (hu16 _ (q_pd 120 119 rfl)).trans (hA10)
    replace hA11 := (hu16 _ (q_pd 121 119 rfl)).trans ((hg11 _ (q_nc (q_pd 121 120 rfl) (q_nc (q_pd 121 145 rfl) (q_nc (q_pd 121 146 rfl) (q_nc (q_pd 121 147 rfl) (q_nc (q_pd 121 148 rfl) (q_nc (q_pd 121 151 rfl) (q_nc (q_pd 121 152 rfl) List.not_mem_nil)))))))).trans (hA11))
    replace hA12 := (hu16 _ (q_pd 122 119 rfl)).trans ((hg11 _ (q_nc (q_pd 122 120 rfl) (q_nc (q_pd 122 145 rfl) (q_nc (q_pd 122 146 rfl) (q_nc (q_pd 122 147 rfl) (q_nc (q_pd 122 148 rfl) (q_nc (q_pd 122 151 rfl) (q_nc (q_pd 122 152 rfl) List.not_mem_nil)))))))).trans (hA12))
    replace hA13 := (hu16 _ (q_pd 123 119 rfl)).trans ((hg11 _ (q_nc (q_pd 123 120 rfl) (q_nc (q_pd 123 145 rfl) (q_nc (q_pd 123 146 rfl) (q_nc (q_pd 123 147 rfl) (q_nc (q_pd 123 148 rfl) (q_nc (q_pd 123 151 rfl) (q_nc (q_pd 123 152 rfl) List.not_mem_nil)))))))).trans (hA13))
    refine q_gov V (q_runV (As := [.int x3, .int 10]) (rest := []) (d := 3) (mc := 0) (ms := 0) (ci := 13) C0 V rfl LV_NM_95 (c_WR_read l D g w15 119 120 121 122 123 qO3 qA10 qA11 qA12 qA13 qA14 qA15 qA16 qA17 qA18 qA19 qA20 qA21 qA22 qA23 x3 hO3 hA10 hA11 hA12 hA13 (q_pd 120 121 rfl) (q_pd 120 122 rfl) (q_pd 120 123 rfl) (q_pd 121 122 rfl) (q_pd 121 123 rfl) (q_pd 122 123 rfl) x3lo x3hi _) rfl rfl hO3 rfl hl.1 rfl (Nat.le_of_ble_eq_true rfl) ⟨by decide, by decide⟩ ⟨Nat.le_of_ble_eq_true rfl, Nat.le_of_ble_eq_true rfl⟩ d_14_29_168) (fun u18 H locs hp17 V => ?_)
    obtain ⟨hg19, hO3, hA11, hA12, hA13⟩ := hp17
    replace hF := q_uc hF hg19 (q_sc (.tail _ (.head _)) (q_sc (List.mem_of_getElem? (i := 4) rfl) (q_sc (List.mem_of_getElem? (i := 5) rfl) (q_sc (List.mem_of_getElem? (i := 6) rfl) (fun _ h => absurd h List.not_mem_nil)))))
    refine lv_aload_n hx hb d_14_29_171 rfl (lv_at hl 1 rfl) ?_
    replace hO0 := (hg19 _ (q_nc (q_pd 116 119 rfl) (q_nc (q_pd 116 121 rfl) (q_nc (q_pd 116 122 rfl) (q_nc (q_pd 116 123 rfl) List.not_mem_nil))))).trans (hO0)
    refine q_get (ci := 12) (j := 5) (v := .ref qO3) C0 V i_NM rfl rfl hO0 (by decide) w_2303 rfl d_14_29_172 ?_
    refine lv_iconst (v := 0) hx hb d_14_29_175 (by decide) ?_
    refine q_putN (ci := 13) (j := 3) (v := .int 0) (ty := .int) C0 V i_WR o_WR n_WR rfl rfl hO3 (by decide) wo_1926 rfl rfl rfl rfl (Nat.le_of_ble_eq_true rfl) d_14_29_176 (fun H locs w20 hu21 hO3 V => ?_)
    replace hO3 : w20[119]? = (some (qO3, .inr (13, [.int 0, .int 0, .ref qA10, .int 0, .ref qA11, .ref qA12, .ref qA13, .int 0, .ref qA14, .ref qA15, .ref qA16, .ref qA17, .ref qA18, .ref qA19, .ref qA20, .ref qA21, .int 0, .int 0, .ref qA22, .ref qA23, .int 0])) : Option (Nat × va_E)) := hO3
    replace hF := q_us hF hu21 (.tail _ (.head _))
    refine lv_aload_n hx hb d_14_29_179 rfl (lv_at hl 1 rfl) ?_
    refine lv_aload_n hx hb d_14_29_180 rfl (lv_at hl 1 rfl) ?_
    replace hO0 := (hu21 _ (q_pd 116 119 rfl)).trans (hO0)
    refine q_get (ci := 12) (j := 5) (v := .ref qO3) C0 V i_NM rfl rfl hO0 (by decide) w_2303 rfl d_14_29_181 ?_
    refine q_getN (ci := 13) (j := 0) (v := .int 0) C0 V i_WR rfl rfl hO3 (by decide) wo_1922 rfl d_14_29_184 ?_
    refine lv_if_le (tgt := 194) hx hb d_14_29_187 (by decide) (fun c22 => ?_) (fun c22 => absurd (by decide) c22)
    refine lv_iconst (v := 0) hx hb d_14_29_194 (by decide) ?_
    refine q_put (ci := 12) (j := 0) (v := .int 0) (ty := .int) C0 V i_NM o_NM n_NM rfl rfl hO0 (by decide) w_2298 rfl rfl rfl rfl (Nat.le_of_ble_eq_true rfl) d_14_29_195 (fun H locs w23 hu24 hO0 V => ?_)
    replace hO0 : w23[116]? = (some (qO0, .inr (12, [.int 0, .ref qA1, .int 0, .ref qA2, .int 0, .ref qO3, .ref qO4, .ref qO5, .ref qO6, .ref qO7, .ref qA8, .ref qA9])) : Option (Nat × va_E)) := hO0
    replace hF := q_us hF hu24 (.head _)
    have RR : q_un w23 w23 [] := q_u0
    replace RR := q_ub hu24 RR
    replace hO3 := (RR 119 (by decide +kernel)).trans hO3
    replace RR := q_ub hu21 RR
    replace hA11 := (RR 121 (by decide +kernel)).trans hA11
    replace hA12 := (RR 122 (by decide +kernel)).trans hA12
    replace hA13 := (RR 123 (by decide +kernel)).trans hA13
    replace RR := q_ubc hg19 RR
    replace hA10 := (RR 120 (by decide +kernel)).trans hA10
    replace RR := q_ub hu16 RR
    replace hO5 := (RR 145 (by decide +kernel)).trans hO5
    replace hA34 := (RR 146 (by decide +kernel)).trans hA34
    replace hA35 := (RR 147 (by decide +kernel)).trans hA35
    replace hA36 := (RR 148 (by decide +kernel)).trans hA36
    replace hA39 := (RR 151 (by decide +kernel)).trans hA39
    replace hA40 := (RR 152 (by decide +kernel)).trans hA40
    exact q_retv C0 V (Or.inl ⟨y10, c9, hF, hO0, hO3, hO5, hA10, hA11, hA12, hA13, hA34, hA35, hA36, hA39, hA40⟩) d_14_29_198
  ·
    replace hF := q_uc hF hg14 (q_sc (List.mem_of_getElem? (i := 3) rfl) (q_sc (.tail _ (.tail _ (.head _))) (q_sc (List.mem_of_getElem? (i := 7) rfl) (q_sc (List.mem_of_getElem? (i := 8) rfl) (q_sc (List.mem_of_getElem? (i := 9) rfl) (q_sc (List.mem_of_getElem? (i := 10) rfl) (q_sc (List.mem_of_getElem? (i := 11) rfl) (fun _ h => absurd h List.not_mem_nil))))))))
    refine lv_istore (lv' := [(4, .int 1), (0, .ref qO0), (1, .int x1), (2, .int x2), (3, .int x3)]) hx hb d_14_29_150 hl (by decide) rfl (fun ls hl => ?_)
    refine lv_aload_n hx hb d_14_29_152 rfl (lv_at hl 1 rfl) ?_
    replace hO0 := (hg14 _ (q_nc (q_pd 116 120 rfl) (q_nc (q_pd 116 145 rfl) (q_nc (q_pd 116 146 rfl) (q_nc (q_pd 116 147 rfl) (q_nc (q_pd 116 148 rfl) (q_nc (q_pd 116 151 rfl) (q_nc (q_pd 116 152 rfl) List.not_mem_nil)))))))).trans (hO0)
    refine q_get (ci := 12) (j := 5) (v := .ref qO3) C0 V i_NM rfl rfl hO0 (by decide) w_2303 rfl d_14_29_153 ?_
    refine lv_iload hx hb d_14_29_156 (lv_at hl 0 rfl) ?_
    replace hO3 := (hg14 _ (q_nc (q_pd 119 120 rfl) (q_nc (q_pd 119 145 rfl) (q_nc (q_pd 119 146 rfl) (q_nc (q_pd 119 147 rfl) (q_nc (q_pd 119 148 rfl) (q_nc (q_pd 119 151 rfl) (q_nc (q_pd 119 152 rfl) List.not_mem_nil)))))))).trans (hO3)
    refine q_putN (ci := 13) (j := 3) (v := .int 1) (ty := .int) C0 V i_WR o_WR n_WR rfl rfl hO3 (by decide) wo_1926 rfl rfl rfl rfl (Nat.le_of_ble_eq_true rfl) d_14_29_158 (fun H locs w25 hu26 hO3 V => ?_)
    replace hO3 : w25[119]? = (some (qO3, .inr (13, [.int 0, .int 0, .ref qA10, .int 1, .ref qA11, .ref qA12, .ref qA13, .int 0, .ref qA14, .ref qA15, .ref qA16, .ref qA17, .ref qA18, .ref qA19, .ref qA20, .ref qA21, .int 0, .int 0, .ref qA22, .ref qA23, .int 0])) : Option (Nat × va_E)) := hO3
    replace hF := q_us hF hu26 (.tail _ (.head _))
    refine lv_aload_n hx hb d_14_29_161 rfl (lv_at hl 1 rfl) ?_
    replace hO0 := (hu26 _ (q_pd 116 119 rfl)).trans (hO0)
    refine q_get (ci := 12) (j := 5) (v := .ref qO3) C0 V i_NM rfl rfl hO0 (by decide) w_2303 rfl d_14_29_162 ?_
    refine lv_iload_n hx hb d_14_29_165 rfl (lv_at hl 4 rfl) ?_
    refine lv_bipush (v := 10) hx hb d_14_29_166 (by decide) ?_
    replace hA10 := (hu26 _ (q_pd 120 119 rfl)).trans (hA10)
    replace hA11 := (hu26 _ (q_pd 121 119 rfl)).trans ((hg14 _ (q_nc (q_pd 121 120 rfl) (q_nc (q_pd 121 145 rfl) (q_nc (q_pd 121 146 rfl) (q_nc (q_pd 121 147 rfl) (q_nc (q_pd 121 148 rfl) (q_nc (q_pd 121 151 rfl) (q_nc (q_pd 121 152 rfl) List.not_mem_nil)))))))).trans (hA11))
    replace hA12 := (hu26 _ (q_pd 122 119 rfl)).trans ((hg14 _ (q_nc (q_pd 122 120 rfl) (q_nc (q_pd 122 145 rfl) (q_nc (q_pd 122 146 rfl) (q_nc (q_pd 122 147 rfl) (q_nc (q_pd 122 148 rfl) (q_nc (q_pd 122 151 rfl) (q_nc (q_pd 122 152 rfl) List.not_mem_nil)))))))).trans (hA12))
    replace hA13 := (hu26 _ (q_pd 123 119 rfl)).trans ((hg14 _ (q_nc (q_pd 123 120 rfl) (q_nc (q_pd 123 145 rfl) (q_nc (q_pd 123 146 rfl) (q_nc (q_pd 123 147 rfl) (q_nc (q_pd 123 148 rfl) (q_nc (q_pd 123 151 rfl) (q_nc (q_pd 123 152 rfl) List.not_mem_nil)))))))).trans (hA13))
    refine q_gov V (q_runV (As := [.int x3, .int 10]) (rest := []) (d := 3) (mc := 0) (ms := 0) (ci := 13) C0 V rfl LV_NM_95 (c_WR_read l D g w25 119 120 121 122 123 qO3 qA10 qA11 qA12 qA13 qA14 qA15 qA16 qA17 qA18 qA19 qA20 qA21 qA22 qA23 x3 hO3 hA10 hA11 hA12 hA13 (q_pd 120 121 rfl) (q_pd 120 122 rfl) (q_pd 120 123 rfl) (q_pd 121 122 rfl) (q_pd 121 123 rfl) (q_pd 122 123 rfl) x3lo x3hi _) rfl rfl hO3 rfl hl.1 rfl (Nat.le_of_ble_eq_true rfl) ⟨by decide, by decide⟩ ⟨Nat.le_of_ble_eq_true rfl, Nat.le_of_ble_eq_true rfl⟩ d_14_29_168) (fun u28 H locs hp27 V => ?_)
    obtain ⟨hg29, hO3, hA11, hA12, hA13⟩ := hp27
    replace hF := q_uc hF hg29 (q_sc (.tail _ (.head _)) (q_sc (List.mem_of_getElem? (i := 4) rfl) (q_sc (List.mem_of_getElem? (i := 5) rfl) (q_sc (List.mem_of_getElem? (i := 6) rfl) (fun _ h => absurd h List.not_mem_nil)))))
    refine lv_aload_n hx hb d_14_29_171 rfl (lv_at hl 1 rfl) ?_
    replace hO0 := (hg29 _ (q_nc (q_pd 116 119 rfl) (q_nc (q_pd 116 121 rfl) (q_nc (q_pd 116 122 rfl) (q_nc (q_pd 116 123 rfl) List.not_mem_nil))))).trans (hO0)
    refine q_get (ci := 12) (j := 5) (v := .ref qO3) C0 V i_NM rfl rfl hO0 (by decide) w_2303 rfl d_14_29_172 ?_
    refine lv_iconst (v := 0) hx hb d_14_29_175 (by decide) ?_
    refine q_putN (ci := 13) (j := 3) (v := .int 0) (ty := .int) C0 V i_WR o_WR n_WR rfl rfl hO3 (by decide) wo_1926 rfl rfl rfl rfl (Nat.le_of_ble_eq_true rfl) d_14_29_176 (fun H locs w30 hu31 hO3 V => ?_)
    replace hO3 : w30[119]? = (some (qO3, .inr (13, [.int 0, .int 0, .ref qA10, .int 0, .ref qA11, .ref qA12, .ref qA13, .int 0, .ref qA14, .ref qA15, .ref qA16, .ref qA17, .ref qA18, .ref qA19, .ref qA20, .ref qA21, .int 0, .int 0, .ref qA22, .ref qA23, .int 0])) : Option (Nat × va_E)) := hO3
    replace hF := q_us hF hu31 (.tail _ (.head _))
    refine lv_aload_n hx hb d_14_29_179 rfl (lv_at hl 1 rfl) ?_
    refine lv_aload_n hx hb d_14_29_180 rfl (lv_at hl 1 rfl) ?_
    replace hO0 := (hu31 _ (q_pd 116 119 rfl)).trans (hO0)
    refine q_get (ci := 12) (j := 5) (v := .ref qO3) C0 V i_NM rfl rfl hO0 (by decide) w_2303 rfl d_14_29_181 ?_
    refine q_getN (ci := 13) (j := 0) (v := .int 0) C0 V i_WR rfl rfl hO3 (by decide) wo_1922 rfl d_14_29_184 ?_
    refine lv_if_le (tgt := 194) hx hb d_14_29_187 (by decide) (fun c32 => ?_) (fun c32 => absurd (by decide) c32)
    refine lv_iconst (v := 0) hx hb d_14_29_194 (by decide) ?_
    refine q_put (ci := 12) (j := 0) (v := .int 0) (ty := .int) C0 V i_NM o_NM n_NM rfl rfl hO0 (by decide) w_2298 rfl rfl rfl rfl (Nat.le_of_ble_eq_true rfl) d_14_29_195 (fun H locs w33 hu34 hO0 V => ?_)
    replace hO0 : w33[116]? = (some (qO0, .inr (12, [.int 0, .ref qA1, .int 0, .ref qA2, .int 0, .ref qO3, .ref qO4, .ref qO5, .ref qO6, .ref qO7, .ref qA8, .ref qA9])) : Option (Nat × va_E)) := hO0
    replace hF := q_us hF hu34 (.head _)
    have RR : q_un w33 w33 [] := q_u0
    replace RR := q_ub hu34 RR
    replace hO3 := (RR 119 (by decide +kernel)).trans hO3
    replace RR := q_ub hu31 RR
    replace hA11 := (RR 121 (by decide +kernel)).trans hA11
    replace hA12 := (RR 122 (by decide +kernel)).trans hA12
    replace hA13 := (RR 123 (by decide +kernel)).trans hA13
    replace RR := q_ubc hg29 RR
    replace hA10 := (RR 120 (by decide +kernel)).trans hA10
    replace RR := q_ub hu26 RR
    replace hO5 := (RR 145 (by decide +kernel)).trans hO5
    replace hA34 := (RR 146 (by decide +kernel)).trans hA34
    replace hA35 := (RR 147 (by decide +kernel)).trans hA35
    replace hA36 := (RR 148 (by decide +kernel)).trans hA36
    replace hA39 := (RR 151 (by decide +kernel)).trans hA39
    replace hA40 := (RR 152 (by decide +kernel)).trans hA40
    exact q_retv C0 V (Or.inr (⟨y13, c12, hF, hO0, hO3, hO5, hA10, hA11, hA12, hA13, hA34, hA35, hA36, hA39, hA40⟩)) d_14_29_198
theorem d_15_53_113 : decode prog_15_method_53_code 113 = .ok (.iload 4, 2) := by decide +kernel
theorem d_15_53_115 : decode prog_15_method_53_code 115 = .ok (.ifCond .lt 55, 3) := by decide +kernel
theorem d_15_53_118 : decode prog_15_method_53_code 118 = .ok (.iload_n 2, 1) := by decide +kernel
theorem d_15_53_119 : decode prog_15_method_53_code 119 = .ok (.iconst 1, 1) := by decide +kernel
theorem d_15_53_120 : decode prog_15_method_53_code 120 = .ok (.if_icmp .eq 10, 3) := by decide +kernel
theorem d_15_53_123 : decode prog_15_method_53_code 123 = .ok (.iload 5, 2) := by decide +kernel
theorem d_15_53_125 : decode prog_15_method_53_code 125 = .ok (.bipush (-6), 2) := by decide +kernel
theorem d_15_53_127 : decode prog_15_method_53_code 127 = .ok (.if_icmp .lt 43, 3) := by decide +kernel
theorem d_15_53_130 : decode prog_15_method_53_code 130 = .ok (.aload_n 0, 1) := by decide +kernel
theorem d_15_53_131 : decode prog_15_method_53_code 131 = .ok (.iload_n 1, 1) := by decide +kernel
theorem d_15_53_132 : decode prog_15_method_53_code 132 = .ok (.iload_n 3, 1) := by decide +kernel
theorem d_15_53_133 : decode prog_15_method_53_code 133 = .ok (.iload 4, 2) := by decide +kernel
theorem d_15_53_135 : decode prog_15_method_53_code 135 = .ok (.isub, 1) := by decide +kernel
theorem d_15_53_136 : decode prog_15_method_53_code 136 = .ok (.iconst 1, 1) := by decide +kernel
theorem d_15_53_137 : decode prog_15_method_53_code 137 = .ok (.if_icmp .ge 12, 3) := by decide +kernel
theorem d_15_53_149 : decode prog_15_method_53_code 149 = .ok (.iconst 0, 1) := by decide +kernel
theorem d_15_53_150 : decode prog_15_method_53_code 150 = .ok (.iload_n 3, 1) := by decide +kernel
theorem d_15_53_151 : decode prog_15_method_53_code 151 = .ok (.iload 4, 2) := by decide +kernel
theorem d_15_53_153 : decode prog_15_method_53_code 153 = .ok (.ifCond .ne 7, 3) := by decide +kernel
theorem d_15_53_156 : decode prog_15_method_53_code 156 = .ok (.iconst (-1), 1) := by decide +kernel
theorem d_15_53_157 : decode prog_15_method_53_code 157 = .ok (.goto 7, 3) := by decide +kernel
theorem d_15_53_164 : decode prog_15_method_53_code 164 = .ok (.invokevirtual 192, 3) := by decide +kernel
theorem d_15_53_167 : decode prog_15_method_53_code 167 = .ok (.goto 122, 3) := by decide +kernel
