set_option maxRecDepth 100000 in
set_option maxHeartbeats 4000000 in
theorem c_DR_store_8 (l : Launch) (D : va_G) (g : Nat → ClassId) (ws : va_W) (kO0 kA2 kA3 kA4 kA5 kA6 qO0 qA1 qA2 qA3 qA4 qA5 qA6 qA7 qA8 qA9 qA10 : Nat) (x1 : Int32) (f2 : Nat → Int32) (hO0 : ws[kO0]? = (some (qO0, .inr (14, [.int 0, .ref qA1, .int 0, .ref qA2, .ref qA3, .ref qA4, .ref qA5, .ref qA6, .int 19, .long 0, .int 0, .int 1, .ref qA7, .int 0, .ref qA8, .int 0, .ref qA9, .int 0, .ref qA10, .int 0, .int 2])) : Option (Nat × va_E))) (hA2 : ws[kA2]? = (some (qA2, .inl (g 0, 10000, .inl (fun _ => 0))) : Option (Nat × va_E))) (hA3 : ws[kA3]? = (some (qA3, .inl (g 0, 10, .inl (upd (upd (upd (upd (upd (upd (upd (upd (upd (upd (fun _ => 0) 0 1) 1 1) 2 1) 3 1) 4 1) 5 1) 6 1) 7 1) 8 1) 9 1))) : Option (Nat × va_E))) (hA4 : ws[kA4]? = (some (qA4, .inl (g 3, 10, .inl (fun _ => 0))) : Option (Nat × va_E))) (hA5 : ws[kA5]? = (some (qA5, .inl (g 0, 10, .inl (fun _ => 0))) : Option (Nat × va_E))) (hA6 : ws[kA6]? = (some (qA6, .inl (g 0, 4400, .inl f2)) : Option (Nat × va_E))) (n_A2_A3 : kA2 ≠ kA3) (n_A2_A4 : kA2 ≠ kA4) (n_A2_A5 : kA2 ≠ kA5) (n_A2_A6 : kA2 ≠ kA6) (n_A3_A4 : kA3 ≠ kA4) (n_A3_A5 : kA3 ≠ kA5) (n_A3_A6 : kA3 ≠ kA6) (n_A4_A5 : kA4 ≠ kA5) (n_A4_A6 : kA4 ≠ kA6) (n_A5_A6 : kA5 ≠ kA6) (x1lo : 0 ≤ x1) (x1hi : x1 ≤ 9) : q_mV l y_DR_store prog_15_method_8_code 3 2 0 0 D g [.ref qO0, .int x1] ws (fun u => ((f2 (18 : Int32).toNatClampNeg) = 0 ∧ q_un ws u [kO0, kA2, kA3, kA4, kA5, kA6] ∧ u[kO0]? = (some (qO0, .inr (14, [.int 0, .ref qA1, .int 0, .ref qA2, .ref qA3, .ref qA4, .ref qA5, .ref qA6, .int 1, .long 0, .int 0, .int 0, .ref qA7, .int 0, .ref qA8, .int 0, .ref qA9, .int 0, .ref qA10, .int 0, .int 2])) : Option (Nat × va_E)) ∧ u[kA2]? = (some (qA2, .inl (g 0, 10000, .inl (upd (fun _ => 0) ((1000 * x1).toNatClampNeg) (f2 (18 : Int32).toNatClampNeg)))) : Option (Nat × va_E)) ∧ u[kA3]? = (some (qA3, .inl (g 0, 10, .inl (upd (upd (upd (upd (upd (upd (upd (upd (upd (upd (upd (fun _ => 0) 0 1) 1 1) 2 1) 3 1) 4 1) 5 1) 6 1) 7 1) 8 1) 9 1) x1.toNatClampNeg 1))) : Option (Nat × va_E)) ∧ u[kA4]? = (some (qA4, .inl (g 3, 10, .inl (fun _ => 0))) : Option (Nat × va_E)) ∧ u[kA5]? = (some (qA5, .inl (g 0, 10, .inl (fun _ => 0))) : Option (Nat × va_E)) ∧ u[kA6]? = (some (qA6, .inl (g 0, 4400, .inl (upd f2 0 (f2 (18 : Int32).toNatClampNeg)))) : Option (Nat × va_E))) ∨ (¬ (f2 (18 : Int32).toNatClampNeg) = 0 ∧ q_un ws u [kO0, kA2, kA3, kA4, kA5, kA6] ∧ u[kO0]? = (some (qO0, .inr (14, [.int 0, .ref qA1, .int 0, .ref qA2, .ref qA3, .ref qA4, .ref qA5, .ref qA6, .int 1, .long 0, .int 0, .int 1, .ref qA7, .int 0, .ref qA8, .int 0, .ref qA9, .int 0, .ref qA10, .int 0, .int 2])) : Option (Nat × va_E)) ∧ u[kA2]? = (some (qA2, .inl (g 0, 10000, .inl (upd (fun _ => 0) ((1000 * x1).toNatClampNeg) (f2 (18 : Int32).toNatClampNeg)))) : Option (Nat × va_E)) ∧ u[kA3]? = (some (qA3, .inl (g 0, 10, .inl (upd (upd (upd (upd (upd (upd (upd (upd (upd (upd (upd (fun _ => 0) 0 1) 1 1) 2 1) 3 1) 4 1) 5 1) 6 1) 7 1) 8 1) 9 1) x1.toNatClampNeg 1))) : Option (Nat × va_E)) ∧ u[kA4]? = (some (qA4, .inl (g 3, 10, .inl (upd (fun _ => 0) x1.toNatClampNeg (vp_nar .boolean 1)))) : Option (Nat × va_E)) ∧ u[kA5]? = (some (qA5, .inl (g 0, 10, .inl (fun _ => 0))) : Option (Nat × va_E)) ∧ u[kA6]? = (some (qA6, .inl (g 0, 4400, .inl (upd f2 0 (f2 (18 : Int32).toNatClampNeg)))) : Option (Nat × va_E))) ∨ (∃ (ex0 : Int32) (ex1 : Nat → Int32) (ex2 : Nat → Int32), ¬ 19 ≤ (ex0 + 1) ∧ ¬ (f2 ex0.toNatClampNeg) = 0 ∧ (ex2 (0 : Int32).toNatClampNeg) = 0 ∧ 0 ≤ ex0 ∧ ex0 ≤ 17 ∧ q_un ws u [kO0, kA2, kA3, kA4, kA5, kA6] ∧ u[kO0]? = (some (qO0, .inr (14, [.int 0, .ref qA1, .int 0, .ref qA2, .ref qA3, .ref qA4, .ref qA5, .ref qA6, .int (19 - ex0), .long 0, .int 0, .int 0, .ref qA7, .int 0, .ref qA8, .int 0, .ref qA9, .int 0, .ref qA10, .int 0, .int 2])) : Option (Nat × va_E)) ∧ u[kA2]? = (some (qA2, .inl (g 0, 10000, .inl ex1)) : Option (Nat × va_E)) ∧ u[kA3]? = (some (qA3, .inl (g 0, 10, .inl (upd (upd (upd (upd (upd (upd (upd (upd (upd (upd (upd (fun _ => 0) 0 1) 1 1) 2 1) 3 1) 4 1) 5 1) 6 1) 7 1) 8 1) 9 1) x1.toNatClampNeg (19 - ex0)))) : Option (Nat × va_E)) ∧ u[kA4]? = (some (qA4, .inl (g 3, 10, .inl (fun _ => 0))) : Option (Nat × va_E)) ∧ u[kA5]? = (some (qA5, .inl (g 0, 10, .inl (fun _ => 0))) : Option (Nat × va_E)) ∧ u[kA6]? = (some (qA6, .inl (g 0, 4400, .inl ex2)) : Option (Nat × va_E))) ∨ (∃ (ex0 : Int32) (ex1 : Nat → Int32) (ex2 : Nat → Int32), ¬ 19 ≤ (ex0 + 1) ∧ ¬ (f2 ex0.toNatClampNeg) = 0 ∧ ¬ (ex2 (0 : Int32).toNatClampNeg) = 0 ∧ 0 ≤ ex0 ∧ ex0 ≤ 17 ∧ q_un ws u [kO0, kA2, kA3, kA4, kA5, kA6] ∧ u[kO0]? = (some (qO0, .inr (14, [.int 0, .ref qA1, .int 0, .ref qA2, .ref qA3, .ref qA4, .ref qA5, .ref qA6, .int (19 - ex0), .long 0, .int 0, .int 1, .ref qA7, .int 0, .ref qA8, .int 0, .ref qA9, .int 0, .ref qA10, .int 0, .int 2])) : Option (Nat × va_E)) ∧ u[kA2]? = (some (qA2, .inl (g 0, 10000, .inl ex1)) : Option (Nat × va_E)) ∧ u[kA3]? = (some (qA3, .inl (g 0, 10, .inl (upd (upd (upd (upd (upd (upd (upd (upd (upd (upd (upd (fun _ => 0) 0 1) 1 1) 2 1) 3 1) 4 1) 5 1) 6 1) 7 1) 8 1) 9 1) x1.toNatClampNeg (19 - ex0)))) : Option (Nat × va_E)) ∧ u[kA4]? = (some (qA4, .inl (g 3, 10, .inl (upd (fun _ => 0) x1.toNatClampNeg (vp_nar .boolean 1)))) : Option (Nat × va_E)) ∧ u[kA5]? = (some (qA5, .inl (g 0, 10, .inl (fun _ => 0))) : Option (Nat × va_E)) ∧ u[kA6]? = (some (qA6, .inl (g 0, 4400, .inl ex2)) : Option (Nat × va_E)))) := by
  intro sz
  refine q_into (by decide) (Nat.le_of_ble_eq_true rfl) ?_
  intro p e s m below meth c ls hsz C0 V hl
  have hx := C0.1
  have hb := C0.2.1
  have hl : lv_has ls 3 [(0, .ref qO0), (1, .int x1)] := hl
  have n_A2_O0 := q_df hA2 hO0
  have n_A3_A2 := Ne.symm n_A2_A3
  have n_A3_O0 := q_df hA3 hO0
  have n_A4_A2 := Ne.symm n_A2_A4
  have n_A4_A3 := Ne.symm n_A3_A4
  have n_A4_O0 := q_df hA4 hO0
  have n_A5_A2 := Ne.symm n_A2_A5
  have n_A5_A3 := Ne.symm n_A3_A5
  have n_A5_A4 := Ne.symm n_A4_A5
  have n_A5_O0 := q_df hA5 hO0
  have n_A6_A2 := Ne.symm n_A2_A6
  have n_A6_A3 := Ne.symm n_A3_A6
  have n_A6_A4 := Ne.symm n_A4_A6
  have n_A6_A5 := Ne.symm n_A5_A6
  have n_O0_A2 := Ne.symm (q_df hA2 hO0)
  have n_O0_A3 := Ne.symm (q_df hA3 hO0)
  have n_O0_A4 := Ne.symm (q_df hA4 hO0)
  have n_O0_A5 := Ne.symm (q_df hA5 hO0)
  have hF : q_un ws ws [kO0, kA2, kA3, kA4, kA5, kA6] := q_u0
  refine lv_aload_n hx hb d_15_8_0 rfl (lv_at hl 0 rfl) ?_
  refine q_gov V (q_runV (As := []) (rest := []) (d := 1) (mc := 0) (ms := 0) (ci := 14) C0 V rfl LV_DR_59 (c_DR_trim_8 l D g ws kO0 kA6 qO0 qA1 qA2 qA3 qA4 qA5 qA6 qA7 qA8 qA9 qA10 f2 hO0 hA6 _) rfl rfl hO0 rfl hl.1 rfl (Nat.le_of_ble_eq_true rfl) ⟨by decide, by decide⟩ ⟨Nat.le_of_ble_eq_true rfl, Nat.le_of_ble_eq_true rfl⟩ d_15_8_1) (fun u2 H locs hp1 V => ?_)
  rcases hp1 with ⟨c3, hg4, hO0, hA6⟩ | ⟨c5, hg6, hO0, hA6⟩ | ⟨y12, y13, c7, c8, c9, f10, f11, hg14, hO0, hA6⟩ | ⟨y20, y21, c15, c16, c17, f18, f19, hg22, hO0, hA6⟩
  ·
    replace hF := q_uc hF hg4 (q_sc (.head _) (q_sc (List.mem_of_getElem? (i := 5) rfl) (fun _ h => absurd h List.not_mem_nil)))
    refine lv_aload_n hx hb d_15_8_4 rfl (lv_at hl 0 rfl) ?_
    refine q_get (ci := 14) (j := 8) (v := .int 1) C0 V i_DR rfl rfl hO0 (by decide) w_2011 rfl d_15_8_5 ?_
    refine lv_sipush (v := 1000) hx hb d_15_8_8 (by decide) ?_
    refine lv_icmp_gt (tgt := 36) hx hb d_15_8_11 (by decide) (fun c23 => absurd c23 (by decide)) (fun c23 => ?_)
    refine lv_aload_n hx hb d_15_8_14 rfl (lv_at hl 0 rfl) ?_
    refine q_get (ci := 14) (j := 9) (v := .long 0) C0 V i_DR rfl rfl hO0 (by decide) w_2012 rfl d_15_8_15 ?_
    refine q_ldc2 C0 rfl w_2417 d_15_8_18 ?_
    refine W.lcmp hx hb d_15_8_21 ?_
    refine q_ti (v := 1) (by decide) ?_
    refine lv_if_lt (tgt := 36) hx hb d_15_8_22 (by decide) (fun c24 => absurd c24 (by decide)) (fun c24 => ?_)
    refine lv_aload_n hx hb d_15_8_25 rfl (lv_at hl 0 rfl) ?_
    refine q_get (ci := 14) (j := 9) (v := .long 0) C0 V i_DR rfl rfl hO0 (by decide) w_2012 rfl d_15_8_26 ?_
    refine q_ldc2 C0 rfl w_2418 d_15_8_29 ?_
    refine W.lcmp hx hb d_15_8_32 ?_
    refine q_ti (v := (-1)) (by decide) ?_
    refine lv_if_le (tgt := 45) hx hb d_15_8_33 (by decide) (fun c25 => ?_) (fun c25 => absurd (by decide) c25)
    refine lv_iconst (v := 0) hx hb d_15_8_45 (by decide) ?_
    refine lv_istore_n (lv' := [(2, .int 0), (0, .ref qO0), (1, .int x1)]) hx hb d_15_8_46 rfl hl (by decide) rfl (fun ls hl => ?_)
    refine lv_iload_n hx hb d_15_8_47 rfl (lv_at hl 0 rfl) ?_
    refine lv_aload_n hx hb d_15_8_48 rfl (lv_at hl 1 rfl) ?_
    refine q_get (ci := 14) (j := 8) (v := .int 1) C0 V i_DR rfl rfl hO0 (by decide) w_2011 rfl d_15_8_49 ?_
    refine lv_icmp_ge (tgt := 79) hx hb d_15_8_52 (by decide) (fun c26 => absurd c26 (by decide)) (fun c26 => ?_)
    refine lv_aload_n hx hb d_15_8_55 rfl (lv_at hl 1 rfl) ?_
    refine q_get (ci := 14) (j := 3) (v := .ref qA2) C0 V i_DR rfl rfl hO0 (by decide) w_2002 rfl d_15_8_56 ?_
    refine lv_sipush (v := 1000) hx hb d_15_8_59 (by decide) ?_
    refine lv_iload_n hx hb d_15_8_62 rfl (lv_at hl 2 rfl) ?_
    refine lv_imul hx hb d_15_8_63 ?_
    refine lv_iload_n hx hb d_15_8_64 rfl (lv_at hl 0 rfl) ?_
    refine lv_iadd hx hb d_15_8_65 ?_
    refine q_ti (v := 1000 * x1) (by simp) ?_
    refine lv_aload_n hx hb d_15_8_66 rfl (lv_at hl 1 rfl) ?_
    refine q_get (ci := 14) (j := 7) (v := .ref qA6) C0 V i_DR rfl rfl hO0 (by decide) w_2010 rfl d_15_8_67 ?_
    refine lv_iload_n hx hb d_15_8_70 rfl (lv_at hl 0 rfl) ?_
    refine q_iald C0 V hA6 (by unfold vp_in; decide) d_15_8_71 ?_
    refine q_ti (v := (f2 (18 : Int32).toNatClampNeg)) (by first | rfl | decide | simp [upd, vp_updL, sb_cl0]) ?_
    replace hA2 := (hg4 _ (q_nc n_A2_O0 (q_nc n_A2_A6 List.not_mem_nil))).trans (hA2)
    refine q_iast C0 V hA2 (q_ix (x := (1000 * x1.toInt)) (q_mulI (x := 1000) (y := x1.toInt) (by decide) rfl (by have t1 : 0 ≤ x1.toInt := q_leI x1lo; have t2 : x1.toInt ≤ 9 := q_leI x1hi; omega) (by have t1 : 0 ≤ x1.toInt := q_leI x1lo; have t2 : x1.toInt ≤ 9 := q_leI x1hi; omega)) (by have t1 : 0 ≤ x1.toInt := q_leI x1lo; have t2 : x1.toInt ≤ 9 := q_leI x1hi; omega) (by have t1 : 0 ≤ x1.toInt := q_leI x1lo; have t2 : x1.toInt ≤ 9 := q_leI x1hi; omega)) d_15_8_72 (fun H locs w27 hu28 hA2 V => ?_)
    replace hA2 : w27[kA2]? = (some (qA2, .inl (g 0, 10000, .inl (upd (fun _ => 0) ((1000 * x1).toNatClampNeg) (f2 (18 : Int32).toNatClampNeg)))) : Option (Nat × va_E)) := hA2
    replace hF := q_us hF hu28 (.tail _ (.head _))
    refine lv_iinc (v := 1) (lv' := [(2, .int 1), (0, .ref qO0), (1, .int x1)]) hx hb d_15_8_73 hl (k := 0) rfl (by decide) (by decide) rfl (fun ls hl => ?_)
    refine lv_goto (tgt := 47) hx hb d_15_8_76 (by decide) ?_
    refine lv_iload_n hx hb d_15_8_47 rfl (lv_at hl 0 rfl) ?_
    refine lv_aload_n hx hb d_15_8_48 rfl (lv_at hl 1 rfl) ?_
    replace hO0 := (hu28 _ n_O0_A2).trans (hO0)
    refine q_get (ci := 14) (j := 8) (v := .int 1) C0 V i_DR rfl rfl hO0 (by decide) w_2011 rfl d_15_8_49 ?_
    refine lv_icmp_ge (tgt := 79) hx hb d_15_8_52 (by decide) (fun c29 => ?_) (fun c29 => absurd (by decide) c29)
    refine lv_aload_n hx hb d_15_8_79 rfl (lv_at hl 1 rfl) ?_
    refine q_get (ci := 14) (j := 4) (v := .ref qA3) C0 V i_DR rfl rfl hO0 (by decide) w_2004 rfl d_15_8_80 ?_
    refine lv_iload_n hx hb d_15_8_83 rfl (lv_at hl 2 rfl) ?_
    refine lv_aload_n hx hb d_15_8_84 rfl (lv_at hl 1 rfl) ?_
    refine q_get (ci := 14) (j := 8) (v := .int 1) C0 V i_DR rfl rfl hO0 (by decide) w_2011 rfl d_15_8_85 ?_
    replace hA3 := (hu28 _ n_A3_A2).trans ((hg4 _ (q_nc n_A3_O0 (q_nc n_A3_A6 List.not_mem_nil))).trans (hA3))
    refine q_iast C0 V hA3 (q_ix (x := x1.toInt) rfl (by have t1 : 0 ≤ x1.toInt := q_leI x1lo; have t2 : x1.toInt ≤ 9 := q_leI x1hi; omega) (by have t1 : 0 ≤ x1.toInt := q_leI x1lo; have t2 : x1.toInt ≤ 9 := q_leI x1hi; omega)) d_15_8_88 (fun H locs w30 hu31 hA3 V => ?_)
    replace hA3 : w30[kA3]? = (some (qA3, .inl (g 0, 10, .inl (upd (upd (upd (upd (upd (upd (upd (upd (upd (upd (upd (fun _ => 0) 0 1) 1 1) 2 1) 3 1) 4 1) 5 1) 6 1) 7 1) 8 1) 9 1) x1.toNatClampNeg 1))) : Option (Nat × va_E)) := hA3
    replace hF := q_us hF hu31 (.tail _ (.tail _ (.head _)))
    refine lv_aload_n hx hb d_15_8_89 rfl (lv_at hl 1 rfl) ?_
    replace hO0 := (hu31 _ n_O0_A3).trans (hO0)
    refine q_get (ci := 14) (j := 5) (v := .ref qA4) C0 V i_DR rfl rfl hO0 (by decide) w_2006 rfl d_15_8_90 ?_
    refine lv_iload_n hx hb d_15_8_93 rfl (lv_at hl 2 rfl) ?_
    refine lv_aload_n hx hb d_15_8_94 rfl (lv_at hl 1 rfl) ?_
    refine q_get (ci := 14) (j := 11) (v := .int 0) C0 V i_DR rfl rfl hO0 (by decide) w_2014 rfl d_15_8_95 ?_
    replace hA4 := (hu31 _ n_A4_A3).trans ((hu28 _ n_A4_A2).trans ((hg4 _ (q_nc n_A4_O0 (q_nc n_A4_A6 List.not_mem_nil))).trans (hA4)))
    refine q_zast C0 V hA4 (q_ix (x := x1.toInt) rfl (by have t1 : 0 ≤ x1.toInt := q_leI x1lo; have t2 : x1.toInt ≤ 9 := q_leI x1hi; omega) (by have t1 : 0 ≤ x1.toInt := q_leI x1lo; have t2 : x1.toInt ≤ 9 := q_leI x1hi; omega)) d_15_8_98 (fun H locs w32 hu33 hA4 V => ?_)
    replace hA4 := q_re (y := (qA4, .inl (g 3, 10, .inl (fun _ => 0)))) hA4 (q_eI q_upd0)
    replace hA4 : w32[kA4]? = (some (qA4, .inl (g 3, 10, .inl (fun _ => 0))) : Option (Nat × va_E)) := hA4
    replace hF := q_us hF hu33 (List.mem_of_getElem? (i := 3) rfl)
    refine lv_aload_n hx hb d_15_8_99 rfl (lv_at hl 1 rfl) ?_
    replace hO0 := (hu33 _ n_O0_A4).trans (hO0)
    refine q_get (ci := 14) (j := 6) (v := .ref qA5) C0 V i_DR rfl rfl hO0 (by decide) w_2008 rfl d_15_8_100 ?_
    refine lv_iload_n hx hb d_15_8_103 rfl (lv_at hl 2 rfl) ?_
    refine lv_aload_n hx hb d_15_8_104 rfl (lv_at hl 1 rfl) ?_
    refine q_get (ci := 14) (j := 9) (v := .long 0) C0 V i_DR rfl rfl hO0 (by decide) w_2012 rfl d_15_8_105 ?_
    refine lv_l2i hx hb d_15_8_108 rfl ?_
    refine q_ti (v := 0) (by decide) ?_
    replace hA5 := (hu33 _ n_A5_A4).trans ((hu31 _ n_A5_A3).trans ((hu28 _ n_A5_A2).trans ((hg4 _ (q_nc n_A5_O0 (q_nc n_A5_A6 List.not_mem_nil))).trans (hA5))))
    refine q_iast C0 V hA5 (q_ix (x := x1.toInt) rfl (by have t1 : 0 ≤ x1.toInt := q_leI x1lo; have t2 : x1.toInt ≤ 9 := q_leI x1hi; omega) (by have t1 : 0 ≤ x1.toInt := q_leI x1lo; have t2 : x1.toInt ≤ 9 := q_leI x1hi; omega)) d_15_8_109 (fun H locs w34 hu35 hA5 V => ?_)
    replace hA5 := q_re (y := (qA5, .inl (g 0, 10, .inl (fun _ => 0)))) hA5 (q_eI q_upd0)
    replace hA5 : w34[kA5]? = (some (qA5, .inl (g 0, 10, .inl (fun _ => 0))) : Option (Nat × va_E)) := hA5
    replace hF := q_us hF hu35 (List.mem_of_getElem? (i := 4) rfl)
    replace hO0 := (hu35 _ n_O0_A5).trans (hO0)
    replace hA2 := (hu35 _ n_A2_A5).trans ((hu33 _ n_A2_A4).trans ((hu31 _ n_A2_A3).trans (hA2)))
    replace hA3 := (hu35 _ n_A3_A5).trans ((hu33 _ n_A3_A4).trans (hA3))
    replace hA4 := (hu35 _ n_A4_A5).trans (hA4)
    replace hA6 := (hu35 _ n_A6_A5).trans ((hu33 _ n_A6_A4).trans ((hu31 _ n_A6_A3).trans ((hu28 _ n_A6_A2).trans (hA6))))
    exact q_retv C0 V (Or.inl ⟨c3, hF, hO0, hA2, hA3, hA4, hA5, hA6⟩) d_15_8_110
  ·
    replace hF := q_uc hF hg6 (q_sc (.head _) (q_sc (List.mem_of_getElem? (i := 5) rfl) (fun _ h => absurd h List.not_mem_nil)))
    refine lv_aload_n hx hb d_15_8_4 rfl (lv_at hl 0 rfl) ?_
    refine q_get (ci := 14) (j := 8) (v := .int 1) C0 V i_DR rfl rfl hO0 (by decide) w_2011 rfl d_15_8_5 ?_
    refine lv_sipush (v := 1000) hx hb d_15_8_8 (by decide) ?_
    refine lv_icmp_gt (tgt := 36) hx hb d_15_8_11 (by decide) (fun c36 => absurd c36 (by decide)) (fun c36 => ?_)
    refine lv_aload_n hx hb d_15_8_14 rfl (lv_at hl 0 rfl) ?_
    refine q_get (ci := 14) (j := 9) (v := .long 0) C0 V i_DR rfl rfl hO0 (by decide) w_2012 rfl d_15_8_15 ?_
    refine q_ldc2 C0 rfl w_2417 d_15_8_18 ?_
    refine W.lcmp hx hb d_15_8_21 ?_
    refine q_ti (v := 1) (by decide) ?_
    refine lv_if_lt (tgt := 36) hx hb d_15_8_22 (by decide) (fun c37 => absurd c37 (by decide)) (fun c37 => ?_)
    refine lv_aload_n hx hb d_15_8_25 rfl (lv_at hl 0 rfl) ?_
    refine q_get (ci := 14) (j := 9) (v := .long 0) C0 V i_DR rfl rfl hO0 (by decide) w_2012 rfl d_15_8_26 ?_
    refine q_ldc2 C0 rfl w_2418 d_15_8_29 ?_
    refine W.lcmp hx hb d_15_8_32 ?_
    refine q_ti (v := (-1)) (by decide) ?_
    refine lv_if_le (tgt := 45) hx hb d_15_8_33 (by decide) (fun c38 => ?_) (fun c38 => absurd (by decide) c38)
    refine lv_iconst (v := 0) hx hb d_15_8_45 (by decide) ?_
    refine lv_istore_n (lv' := [(2, .int 0), (0, .ref qO0), (1, .int x1)]) hx hb d_15_8_46 rfl hl (by decide) rfl (fun ls hl => ?_)
    refine lv_iload_n hx hb d_15_8_47 rfl (lv_at hl 0 rfl) ?_
    refine lv_aload_n hx hb d_15_8_48 rfl (lv_at hl 1 rfl) ?_
    refine q_get (ci := 14) (j := 8) (v := .int 1) C0 V i_DR rfl rfl hO0 (by decide) w_2011 rfl d_15_8_49 ?_
    refine lv_icmp_ge (tgt := 79) hx hb d_15_8_52 (by decide) (fun c39 => absurd c39 (by decide)) (fun c39 => ?_)
    refine lv_aload_n hx hb d_15_8_55 rfl (lv_at hl 1 rfl) ?_
    refine q_get (ci := 14) (j := 3) (v := .ref qA2) C0 V i_DR rfl rfl hO0 (by decide) w_2002 rfl d_15_8_56 ?_
    refine lv_sipush (v := 1000) hx hb d_15_8_59 (by decide) ?_
    refine lv_iload_n hx hb d_15_8_62 rfl (lv_at hl 2 rfl) ?_
    refine lv_imul hx hb d_15_8_63 ?_
    refine lv_iload_n hx hb d_15_8_64 rfl (lv_at hl 0 rfl) ?_
    refine lv_iadd hx hb d_15_8_65 ?_
    refine q_ti (v := 1000 * x1) (by simp) ?_
    refine lv_aload_n hx hb d_15_8_66 rfl (lv_at hl 1 rfl) ?_
    refine q_get (ci := 14) (j := 7) (v := .ref qA6) C0 V i_DR rfl rfl hO0 (by decide) w_2010 rfl d_15_8_67 ?_
    refine lv_iload_n hx hb d_15_8_70 rfl (lv_at hl 0 rfl) ?_
    refine q_iald C0 V hA6 (by unfold vp_in; decide) d_15_8_71 ?_
    refine q_ti (v := (f2 (18 : Int32).toNatClampNeg)) (by first | rfl | decide | simp [upd, vp_updL, sb_cl0]) ?_
    replace hA2 := (hg6 _ (q_nc n_A2_O0 (q_nc n_A2_A6 List.not_mem_nil))).trans (hA2)
    refine q_iast C0 V hA2 (q_ix (x := (1000 * x1.toInt)) (q_mulI (x := 1000) (y := x1.toInt) (by decide) rfl (by have t1 : 0 ≤ x1.toInt := q_leI x1lo; have t2 : x1.toInt ≤ 9 := q_leI x1hi; omega) (by have t1 : 0 ≤ x1.toInt := q_leI x1lo; have t2 : x1.toInt ≤ 9 := q_leI x1hi; omega)) (by have t1 : 0 ≤ x1.toInt := q_leI x1lo; have t2 : x1.toInt ≤ 9 := q_leI x1hi; omega) (by have t1 : 0 ≤ x1.toInt := q_leI x1lo; have t2 : x1.toInt ≤ 9 := q_leI x1hi; omega)) d_15_8_72 (fun H locs w40 hu41 hA2 V => ?_)
    replace hA2 : w40[kA2]? = (some (qA2, .inl (g 0, 10000, .inl (upd (fun _ => 0) ((1000 * x1).toNatClampNeg) (f2 (18 : Int32).toNatClampNeg)))) : Option (Nat × va_E)) := hA2
    replace hF := q_us hF hu41 (.tail _ (.head _))
    refine lv_iinc (v := 1) (lv' := [(2, .int 1), (0, .ref qO0), (1, .int x1)]) hx hb d_15_8_73 hl (k := 0) rfl (by decide) (by decide) rfl (fun ls hl => ?_)
    refine lv_goto (tgt := 47) hx hb d_15_8_76 (by decide) ?_
    refine lv_iload_n hx hb d_15_8_47 rfl (lv_at hl 0 rfl) ?_
    refine lv_aload_n hx hb d_15_8_48 rfl (lv_at hl 1 rfl) ?_
    replace hO0 := (hu41 _ n_O0_A2).trans (hO0)
    refine q_get (ci := 14) (j := 8) (v := .int 1) C0 V i_DR rfl rfl hO0 (by decide) w_2011 rfl d_15_8_49 ?_
    refine lv_icmp_ge (tgt := 79) hx hb d_15_8_52 (by decide) (fun c42 => ?_) (fun c42 => absurd (by decide) c42)
    refine lv_aload_n hx hb d_15_8_79 rfl (lv_at hl 1 rfl) ?_
    refine q_get (ci := 14) (j := 4) (v := .ref qA3) C0 V i_DR rfl rfl hO0 (by decide) w_2004 rfl d_15_8_80 ?_
    refine lv_iload_n hx hb d_15_8_83 rfl (lv_at hl 2 rfl) ?_
    refine lv_aload_n hx hb d_15_8_84 rfl (lv_at hl 1 rfl) ?_
    refine q_get (ci := 14) (j := 8) (v := .int 1) C0 V i_DR rfl rfl hO0 (by decide) w_2011 rfl d_15_8_85 ?_
    replace hA3 := (hu41 _ n_A3_A2).trans ((hg6 _ (q_nc n_A3_O0 (q_nc n_A3_A6 List.not_mem_nil))).trans (hA3))
    refine q_iast C0 V hA3 (q_ix (x := x1.toInt) rfl (by have t1 : 0 ≤ x1.toInt := q_leI x1lo; have t2 : x1.toInt ≤ 9 := q_leI x1hi; omega) (by have t1 : 0 ≤ x1.toInt := q_leI x1lo; have t2 : x1.toInt ≤ 9 := q_leI x1hi; omega)) d_15_8_88 (fun H locs w43 hu44 hA3 V => ?_)
    replace hA3 : w43[kA3]? = (some (qA3, .inl (g 0, 10, .inl (upd (upd (upd (upd (upd (upd (upd (upd (upd (upd (upd (fun _ => 0) 0 1) 1 1) 2 1) 3 1) 4 1) 5 1) 6 1) 7 1) 8 1) 9 1) x1.toNatClampNeg 1))) : Option (Nat × va_E)) := hA3
    replace hF := q_us hF hu44 (.tail _ (.tail _ (.head _)))
    refine lv_aload_n hx hb d_15_8_89 rfl (lv_at hl 1 rfl) ?_
    replace hO0 := (hu44 _ n_O0_A3).trans (hO0)
    refine q_get (ci := 14) (j := 5) (v := .ref qA4) C0 V i_DR rfl rfl hO0 (by decide) w_2006 rfl d_15_8_90 ?_
    refine lv_iload_n hx hb d_15_8_93 rfl (lv_at hl 2 rfl) ?_
    refine lv_aload_n hx hb d_15_8_94 rfl (lv_at hl 1 rfl) ?_
    refine q_get (ci := 14) (j := 11) (v := .int 1) C0 V i_DR rfl rfl hO0 (by decide) w_2014 rfl d_15_8_95 ?_
    replace hA4 := (hu44 _ n_A4_A3).trans ((hu41 _ n_A4_A2).trans ((hg6 _ (q_nc n_A4_O0 (q_nc n_A4_A6 List.not_mem_nil))).trans (hA4)))
    refine q_zast C0 V hA4 (q_ix (x := x1.toInt) rfl (by have t1 : 0 ≤ x1.toInt := q_leI x1lo; have t2 : x1.toInt ≤ 9 := q_leI x1hi; omega) (by have t1 : 0 ≤ x1.toInt := q_leI x1lo; have t2 : x1.toInt ≤ 9 := q_leI x1hi; omega)) d_15_8_98 (fun H locs w45 hu46 hA4 V => ?_)
    replace hA4 : w45[kA4]? = (some (qA4, .inl (g 3, 10, .inl (upd (fun _ => 0) x1.toNatClampNeg (vp_nar .boolean 1)))) : Option (Nat × va_E)) := hA4
    replace hF := q_us hF hu46 (List.mem_of_getElem? (i := 3) rfl)
    refine lv_aload_n hx hb d_15_8_99 rfl (lv_at hl 1 rfl) ?_
    replace hO0 := (hu46 _ n_O0_A4).trans (hO0)
    refine q_get (ci := 14) (j := 6) (v := .ref qA5) C0 V i_DR rfl rfl hO0 (by decide) w_2008 rfl d_15_8_100 ?_
    refine lv_iload_n hx hb d_15_8_103 rfl (lv_at hl 2 rfl) ?_
    refine lv_aload_n hx hb d_15_8_104 rfl (lv_at hl 1 rfl) ?_
    refine q_get (ci := 14) (j := 9) (v := .long 0) C0 V i_DR rfl rfl hO0 (by decide) w_2012 rfl d_15_8_105 ?_
    refine lv_l2i hx hb d_15_8_108 rfl ?_
    refine q_ti (v := 0) (by decide) ?_
    replace hA5 := (hu46 _ n_A5_A4).trans ((hu44 _ n_A5_A3).trans ((hu41 _ n_A5_A2).trans ((hg6 _ (q_nc n_A5_O0 (q_nc n_A5_A6 List.not_mem_nil))).trans (hA5))))
    refine q_iast C0 V hA5 (q_ix (x := x1.toInt) rfl (by have t1 : 0 ≤ x1.toInt := q_leI x1lo; have t2 : x1.toInt ≤ 9 := q_leI x1hi; omega) (by have t1 : 0 ≤ x1.toInt := q_leI x1lo; have t2 : x1.toInt ≤ 9 := q_leI x1hi; omega)) d_15_8_109 (fun H locs w47 hu48 hA5 V => ?_)
    replace hA5 := q_re (y := (qA5, .inl (g 0, 10, .inl (fun _ => 0)))) hA5 (q_eI q_upd0)
    replace hA5 : w47[kA5]? = (some (qA5, .inl (g 0, 10, .inl (fun _ => 0))) : Option (Nat × va_E)) := hA5
    replace hF := q_us hF hu48 (List.mem_of_getElem? (i := 4) rfl)
    replace hO0 := (hu48 _ n_O0_A5).trans (hO0)
    replace hA2 := (hu48 _ n_A2_A5).trans ((hu46 _ n_A2_A4).trans ((hu44 _ n_A2_A3).trans (hA2)))
    replace hA3 := (hu48 _ n_A3_A5).trans ((hu46 _ n_A3_A4).trans (hA3))
    replace hA4 := (hu48 _ n_A4_A5).trans (hA4)
    replace hA6 := (hu48 _ n_A6_A5).trans ((hu46 _ n_A6_A4).trans ((hu44 _ n_A6_A3).trans ((hu41 _ n_A6_A2).trans (hA6))))
    exact q_retv C0 V (Or.inr (Or.inl ⟨c5, hF, hO0, hA2, hA3, hA4, hA5, hA6⟩)) d_15_8_110
  ·
    replace hF := q_uc hF hg14 (q_sc (.head _) (q_sc (List.mem_of_getElem? (i := 5) rfl) (fun _ h => absurd h List.not_mem_nil)))
    refine lv_aload_n hx hb d_15_8_4 rfl (lv_at hl 0 rfl) ?_
    refine q_get (ci := 14) (j := 8) (v := .int (19 - y12)) C0 V i_DR rfl rfl hO0 (by decide) w_2011 rfl d_15_8_5 ?_
    refine lv_sipush (v := 1000) hx hb d_15_8_8 (by decide) ?_
    refine lv_icmp_gt (tgt := 36) hx hb d_15_8_11 (by decide) (fun c49 => absurd c49 (Int32.not_lt.mpr (q_Ile (x := (19 - y12.toInt)) (y := 1000) (q_subI (x := 19) (y := y12.toInt) (by decide) rfl (by have t1 : (y12.toInt + 1) < 19 := by { have e1 : (19 : Int32).toInt = 19 := (by decide); have e2 : ((y12 + 1) : Int32).toInt = (y12.toInt + 1) := (q_addI (x := y12.toInt) (y := 1) rfl (by decide) (by have t1 : 0 ≤ y12.toInt := q_leI f10; have t2 : y12.toInt ≤ 17 := q_leI f11; omega) (by have t1 : 0 ≤ y12.toInt := q_leI f10; have t2 : y12.toInt ≤ 17 := q_leI f11; omega)); have e3 := q_nleI c7; omega }; have t2 : 0 ≤ y12.toInt := q_leI f10; have t3 : y12.toInt ≤ 17 := q_leI f11; omega) (by have t1 : (y12.toInt + 1) < 19 := by { have e1 : (19 : Int32).toInt = 19 := (by decide); have e2 : ((y12 + 1) : Int32).toInt = (y12.toInt + 1) := (q_addI (x := y12.toInt) (y := 1) rfl (by decide) (by have t1 : 0 ≤ y12.toInt := q_leI f10; have t2 : y12.toInt ≤ 17 := q_leI f11; omega) (by have t1 : 0 ≤ y12.toInt := q_leI f10; have t2 : y12.toInt ≤ 17 := q_leI f11; omega)); have e3 := q_nleI c7; omega }; have t2 : 0 ≤ y12.toInt := q_leI f10; have t3 : y12.toInt ≤ 17 := q_leI f11; omega)) (by decide) (by have t1 : (y12.toInt + 1) < 19 := by { have e1 : (19 : Int32).toInt = 19 := (by decide); have e2 : ((y12 + 1) : Int32).toInt = (y12.toInt + 1) := (q_addI (x := y12.toInt) (y := 1) rfl (by decide) (by have t1 : 0 ≤ y12.toInt := q_leI f10; have t2 : y12.toInt ≤ 17 := q_leI f11; omega) (by have t1 : 0 ≤ y12.toInt := q_leI f10; have t2 : y12.toInt ≤ 17 := q_leI f11; omega)); have e3 := q_nleI c7; omega }; have t2 : 0 ≤ y12.toInt := q_leI f10; have t3 : y12.toInt ≤ 17 := q_leI f11; omega)))) (fun c49 => ?_)
    refine lv_aload_n hx hb d_15_8_14 rfl (lv_at hl 0 rfl) ?_
    refine q_get (ci := 14) (j := 9) (v := .long 0) C0 V i_DR rfl rfl hO0 (by decide) w_2012 rfl d_15_8_15 ?_
    refine q_ldc2 C0 rfl w_2417 d_15_8_18 ?_
    refine W.lcmp hx hb d_15_8_21 ?_
    refine q_ti (v := 1) (by decide) ?_
    refine lv_if_lt (tgt := 36) hx hb d_15_8_22 (by decide) (fun c50 => absurd c50 (by decide)) (fun c50 => ?_)
    refine lv_aload_n hx hb d_15_8_25 rfl (lv_at hl 0 rfl) ?_
    refine q_get (ci := 14) (j := 9) (v := .long 0) C0 V i_DR rfl rfl hO0 (by decide) w_2012 rfl d_15_8_26 ?_
    refine q_ldc2 C0 rfl w_2418 d_15_8_29 ?_
    refine W.lcmp hx hb d_15_8_32 ?_
    refine q_ti (v := (-1)) (by decide) ?_
    refine lv_if_le (tgt := 45) hx hb d_15_8_33 (by decide) (fun c51 => ?_) (fun c51 => absurd (by decide) c51)
    refine lv_iconst (v := 0) hx hb d_15_8_45 (by decide) ?_
    refine lv_istore_n (lv' := [(2, .int 0), (0, .ref qO0), (1, .int x1)]) hx hb d_15_8_46 rfl hl (by decide) rfl (fun ls hl => ?_)
    replace hA2 := (hg14 _ (q_nc n_A2_O0 (q_nc n_A2_A6 List.not_mem_nil))).trans (hA2)
    replace hA3 := (hg14 _ (q_nc n_A3_O0 (q_nc n_A3_A6 List.not_mem_nil))).trans (hA3)
    replace hA4 := (hg14 _ (q_nc n_A4_O0 (q_nc n_A4_A6 List.not_mem_nil))).trans (hA4)
    replace hA5 := (hg14 _ (q_nc n_A5_O0 (q_nc n_A5_A6 List.not_mem_nil))).trans (hA5)
    refine q_loop (X := Int32 × (Nat → Int32)) (fun z H locs ls w54 => (0 ≤ z.1.toInt ∧ (z.1.toInt ≤ (19 - y12.toInt) ∨ z.1.toInt = 0)) ∧ q_Wd D g (va_A ws sz) s w54 H locs ∧ lv_has ls 3 [(2, .int z.1), (0, .ref qO0), (1, .int x1)] ∧ q_un ws w54 [kO0, kA2, kA3, kA4, kA5, kA6] ∧ w54[kO0]? = (some (qO0, .inr (14, [.int 0, .ref qA1, .int 0, .ref qA2, .ref qA3, .ref qA4, .ref qA5, .ref qA6, .int (19 - y12), .long 0, .int 0, .int 0, .ref qA7, .int 0, .ref qA8, .int 0, .ref qA9, .int 0, .ref qA10, .int 0, .int 2])) : Option (Nat × va_E)) ∧ w54[kA2]? = (some (qA2, .inl (g 0, 10000, .inl z.2)) : Option (Nat × va_E)) ∧ w54[kA3]? = (some (qA3, .inl (g 0, 10, .inl (upd (upd (upd (upd (upd (upd (upd (upd (upd (upd (fun _ => 0) 0 1) 1 1) 2 1) 3 1) 4 1) 5 1) 6 1) 7 1) 8 1) 9 1))) : Option (Nat × va_E)) ∧ w54[kA4]? = (some (qA4, .inl (g 3, 10, .inl (fun _ => 0))) : Option (Nat × va_E)) ∧ w54[kA5]? = (some (qA5, .inl (g 0, 10, .inl (fun _ => 0))) : Option (Nat × va_E)) ∧ w54[kA6]? = (some (qA6, .inl (g 0, 4400, .inl y13)) : Option (Nat × va_E))) (fun z => ((19 - y12.toInt) - z.1.toInt).toNat) ?_ ((0 : Int32), (fun _ => 0 : (Nat → Int32))) _ _ _ u2 ⟨⟨(by dsimp only; decide), Or.inr (by dsimp only; decide)⟩, V, hl, hF, hO0, hA2, hA3, hA4, hA5, hA6⟩
    rintro ⟨lx52, lx53⟩ H locs ls w54 ⟨i55, V, hl, hF, hO0, hA2, hA3, hA4, hA5, hA6⟩ ih56
    replace i55 : 0 ≤ lx52.toInt ∧ (lx52.toInt ≤ (19 - y12.toInt) ∨ lx52.toInt = 0) := i55
    replace hl : lv_has ls 3 [(2, .int lx52), (0, .ref qO0), (1, .int x1)] := hl
    replace hO0 : w54[kO0]? = (some (qO0, .inr (14, [.int 0, .ref qA1, .int 0, .ref qA2, .ref qA3, .ref qA4, .ref qA5, .ref qA6, .int (19 - y12), .long 0, .int 0, .int 0, .ref qA7, .int 0, .ref qA8, .int 0, .ref qA9, .int 0, .ref qA10, .int 0, .int 2])) : Option (Nat × va_E)) := hO0
    replace hA2 : w54[kA2]? = (some (qA2, .inl (g 0, 10000, .inl lx53)) : Option (Nat × va_E)) := hA2
    replace hA3 : w54[kA3]? = (some (qA3, .inl (g 0, 10, .inl (upd (upd (upd (upd (upd (upd (upd (upd (upd (upd (fun _ => 0) 0 1) 1 1) 2 1) 3 1) 4 1) 5 1) 6 1) 7 1) 8 1) 9 1))) : Option (Nat × va_E)) := hA3
    replace hA4 : w54[kA4]? = (some (qA4, .inl (g 3, 10, .inl (fun _ => 0))) : Option (Nat × va_E)) := hA4
    replace hA5 : w54[kA5]? = (some (qA5, .inl (g 0, 10, .inl (fun _ => 0))) : Option (Nat × va_E)) := hA5
    replace hA6 : w54[kA6]? = (some (qA6, .inl (g 0, 4400, .inl y13)) : Option (Nat × va_E)) := hA6
    refine lv_iload_n hx hb d_15_8_47 rfl (lv_at hl 0 rfl) ?_
    refine lv_aload_n hx hb d_15_8_48 rfl (lv_at hl 1 rfl) ?_
    refine q_get (ci := 14) (j := 8) (v := .int (19 - y12)) C0 V i_DR rfl rfl hO0 (by decide) w_2011 rfl d_15_8_49 ?_
    refine lv_icmp_ge (tgt := 79) hx hb d_15_8_52 (by decide) (fun c57 => ?_) (fun c57 => ?_)
    ·
      refine lv_aload_n hx hb d_15_8_79 rfl (lv_at hl 1 rfl) ?_
      refine q_get (ci := 14) (j := 4) (v := .ref qA3) C0 V i_DR rfl rfl hO0 (by decide) w_2004 rfl d_15_8_80 ?_
      refine lv_iload_n hx hb d_15_8_83 rfl (lv_at hl 2 rfl) ?_
      refine lv_aload_n hx hb d_15_8_84 rfl (lv_at hl 1 rfl) ?_
      refine q_get (ci := 14) (j := 8) (v := .int (19 - y12)) C0 V i_DR rfl rfl hO0 (by decide) w_2011 rfl d_15_8_85 ?_
      refine q_iast C0 V hA3 (q_ix (x := x1.toInt) rfl (by have t1 : 0 ≤ x1.toInt := q_leI x1lo; have t2 : x1.toInt ≤ 9 := q_leI x1hi; omega) (by have t1 : 0 ≤ x1.toInt := q_leI x1lo; have t2 : x1.toInt ≤ 9 := q_leI x1hi; omega)) d_15_8_88 (fun H locs w58 hu59 hA3 V => ?_)
      replace hA3 : w58[kA3]? = (some (qA3, .inl (g 0, 10, .inl (upd (upd (upd (upd (upd (upd (upd (upd (upd (upd (upd (fun _ => 0) 0 1) 1 1) 2 1) 3 1) 4 1) 5 1) 6 1) 7 1) 8 1) 9 1) x1.toNatClampNeg (19 - y12)))) : Option (Nat × va_E)) := hA3
      replace hF := q_us hF hu59 (.tail _ (.tail _ (.head _)))
      refine lv_aload_n hx hb d_15_8_89 rfl (lv_at hl 1 rfl) ?_
      replace hO0 := (hu59 _ n_O0_A3).trans (hO0)
      refine q_get (ci := 14) (j := 5) (v := .ref qA4) C0 V i_DR rfl rfl hO0 (by decide) w_2006 rfl d_15_8_90 ?_
      refine lv_iload_n hx hb d_15_8_93 rfl (lv_at hl 2 rfl) ?_
      refine lv_aload_n hx hb d_15_8_94 rfl (lv_at hl 1 rfl) ?_
      refine q_get (ci := 14) (j := 11) (v := .int 0) C0 V i_DR rfl rfl hO0 (by decide) w_2014 rfl d_15_8_95 ?_
      replace hA4 := (hu59 _ n_A4_A3).trans (hA4)
      refine q_zast C0 V hA4 (q_ix (x := x1.toInt) rfl (by have t1 : 0 ≤ x1.toInt := q_leI x1lo; have t2 : x1.toInt ≤ 9 := q_leI x1hi; omega) (by have t1 : 0 ≤ x1.toInt := q_leI x1lo; have t2 : x1.toInt ≤ 9 := q_leI x1hi; omega)) d_15_8_98 (fun H locs w60 hu61 hA4 V => ?_)
      replace hA4 := q_re (y := (qA4, .inl (g 3, 10, .inl (fun _ => 0)))) hA4 (q_eI q_upd0)
      replace hA4 : w60[kA4]? = (some (qA4, .inl (g 3, 10, .inl (fun _ => 0))) : Option (Nat × va_E)) := hA4
      replace hF := q_us hF hu61 (List.mem_of_getElem? (i := 3) rfl)
      refine lv_aload_n hx hb d_15_8_99 rfl (lv_at hl 1 rfl) ?_
      replace hO0 := (hu61 _ n_O0_A4).trans (hO0)
      refine q_get (ci := 14) (j := 6) (v := .ref qA5) C0 V i_DR rfl rfl hO0 (by decide) w_2008 rfl d_15_8_100 ?_
      refine lv_iload_n hx hb d_15_8_103 rfl (lv_at hl 2 rfl) ?_
      refine lv_aload_n hx hb d_15_8_104 rfl (lv_at hl 1 rfl) ?_
      refine q_get (ci := 14) (j := 9) (v := .long 0) C0 V i_DR rfl rfl hO0 (by decide) w_2012 rfl d_15_8_105 ?_
      refine lv_l2i hx hb d_15_8_108 rfl ?_
      refine q_ti (v := 0) (by decide) ?_
      replace hA5 := (hu61 _ n_A5_A4).trans ((hu59 _ n_A5_A3).trans (hA5))
      refine q_iast C0 V hA5 (q_ix (x := x1.toInt) rfl (by have t1 : 0 ≤ x1.toInt := q_leI x1lo; have t2 : x1.toInt ≤ 9 := q_leI x1hi; omega) (by have t1 : 0 ≤ x1.toInt := q_leI x1lo; have t2 : x1.toInt ≤ 9 := q_leI x1hi; omega)) d_15_8_109 (fun H locs w62 hu63 hA5 V => ?_)
      replace hA5 := q_re (y := (qA5, .inl (g 0, 10, .inl (fun _ => 0)))) hA5 (q_eI q_upd0)
      replace hA5 : w62[kA5]? = (some (qA5, .inl (g 0, 10, .inl (fun _ => 0))) : Option (Nat × va_E)) := hA5
      replace hF := q_us hF hu63 (List.mem_of_getElem? (i := 4) rfl)
      replace hO0 := (hu63 _ n_O0_A5).trans (hO0)
      replace hA2 := (hu63 _ n_A2_A5).trans ((hu61 _ n_A2_A4).trans ((hu59 _ n_A2_A3).trans (hA2)))
      replace hA3 := (hu63 _ n_A3_A5).trans ((hu61 _ n_A3_A4).trans (hA3))
      replace hA4 := (hu63 _ n_A4_A5).trans (hA4)
      replace hA6 := (hu63 _ n_A6_A5).trans ((hu61 _ n_A6_A4).trans ((hu59 _ n_A6_A3).trans (hA6)))
      exact q_retv C0 V (Or.inr (Or.inr (Or.inl ⟨y12, lx53, y13, c7, c8, c9, f10, f11, hF, hO0, hA2, hA3, hA4, hA5, hA6⟩))) d_15_8_110
    ·
      refine lv_aload_n hx hb d_15_8_55 rfl (lv_at hl 1 rfl) ?_
      refine q_get (ci := 14) (j := 3) (v := .ref qA2) C0 V i_DR rfl rfl hO0 (by decide) w_2002 rfl d_15_8_56 ?_
      refine lv_sipush (v := 1000) hx hb d_15_8_59 (by decide) ?_
      refine lv_iload_n hx hb d_15_8_62 rfl (lv_at hl 2 rfl) ?_
      refine lv_imul hx hb d_15_8_63 ?_
      refine lv_iload_n hx hb d_15_8_64 rfl (lv_at hl 0 rfl) ?_
      refine lv_iadd hx hb d_15_8_65 ?_
      refine lv_aload_n hx hb d_15_8_66 rfl (lv_at hl 1 rfl) ?_
      refine q_get (ci := 14) (j := 7) (v := .ref qA6) C0 V i_DR rfl rfl hO0 (by decide) w_2010 rfl d_15_8_67 ?_
      refine lv_iload_n hx hb d_15_8_70 rfl (lv_at hl 0 rfl) ?_
      refine q_iald C0 V hA6 (q_ix (x := lx52.toInt) rfl (by have t1 : (y12.toInt + 1) < 19 := by { have e1 : (19 : Int32).toInt = 19 := (by decide); have e2 : ((y12 + 1) : Int32).toInt = (y12.toInt + 1) := (q_addI (x := y12.toInt) (y := 1) rfl (by decide) (by have t1 : 0 ≤ y12.toInt := q_leI f10; have t2 : y12.toInt ≤ 17 := q_leI f11; omega) (by have t1 : 0 ≤ y12.toInt := q_leI f10; have t2 : y12.toInt ≤ 17 := q_leI f11; omega)); have e3 := q_nleI c7; omega }; have t2 : lx52.toInt < (19 - y12.toInt) := by { have e1 : ((19 - y12) : Int32).toInt = (19 - y12.toInt) := (q_subI (x := 19) (y := y12.toInt) (by decide) rfl (by have t1 : 0 ≤ y12.toInt := q_leI f10; have t2 : y12.toInt ≤ 17 := q_leI f11; omega) (by have t1 : 0 ≤ y12.toInt := q_leI f10; have t2 : y12.toInt ≤ 17 := q_leI f11; omega)); have e2 : (lx52 : Int32).toInt = lx52.toInt := rfl; have e3 := q_nleI c57; omega }; have t3 : 0 ≤ y12.toInt := q_leI f10; have t4 : y12.toInt ≤ 17 := q_leI f11; omega) (by have t1 : (y12.toInt + 1) < 19 := by { have e1 : (19 : Int32).toInt = 19 := (by decide); have e2 : ((y12 + 1) : Int32).toInt = (y12.toInt + 1) := (q_addI (x := y12.toInt) (y := 1) rfl (by decide) (by have t1 : 0 ≤ y12.toInt := q_leI f10; have t2 : y12.toInt ≤ 17 := q_leI f11; omega) (by have t1 : 0 ≤ y12.toInt := q_leI f10; have t2 : y12.toInt ≤ 17 := q_leI f11; omega)); have e3 := q_nleI c7; omega }; have t2 : lx52.toInt < (19 - y12.toInt) := by { have e1 : ((19 - y12) : Int32).toInt = (19 - y12.toInt) := (q_subI (x := 19) (y := y12.toInt) (by decide) rfl (by have t1 : 0 ≤ y12.toInt := q_leI f10; have t2 : y12.toInt ≤ 17 := q_leI f11; omega) (by have t1 : 0 ≤ y12.toInt := q_leI f10; have t2 : y12.toInt ≤ 17 := q_leI f11; omega)); have e2 : (lx52 : Int32).toInt = lx52.toInt := rfl; have e3 := q_nleI c57; omega }; have t3 : 0 ≤ y12.toInt := q_leI f10; have t4 : y12.toInt ≤ 17 := q_leI f11; omega)) d_15_8_71 ?_
      refine q_iast C0 V hA2 (q_ix (x := ((1000 * x1.toInt) + lx52.toInt)) (q_addI (x := (1000 * x1.toInt)) (y := lx52.toInt) (q_mulI (x := 1000) (y := x1.toInt) (by decide) rfl (by have t1 : 0 ≤ x1.toInt := q_leI x1lo; have t2 : x1.toInt ≤ 9 := q_leI x1hi; omega) (by have t1 : 0 ≤ x1.toInt := q_leI x1lo; have t2 : x1.toInt ≤ 9 := q_leI x1hi; omega)) rfl (by have t1 : 0 ≤ x1.toInt := q_leI x1lo; have t2 : x1.toInt ≤ 9 := q_leI x1hi; have t3 : (y12.toInt + 1) < 19 := by { have e1 : (19 : Int32).toInt = 19 := (by decide); have e2 : ((y12 + 1) : Int32).toInt = (y12.toInt + 1) := (q_addI (x := y12.toInt) (y := 1) rfl (by decide) (by have t1 : 0 ≤ y12.toInt := q_leI f10; have t2 : y12.toInt ≤ 17 := q_leI f11; omega) (by have t1 : 0 ≤ y12.toInt := q_leI f10; have t2 : y12.toInt ≤ 17 := q_leI f11; omega)); have e3 := q_nleI c7; omega }; have t4 : lx52.toInt < (19 - y12.toInt) := by { have e1 : ((19 - y12) : Int32).toInt = (19 - y12.toInt) := (q_subI (x := 19) (y := y12.toInt) (by decide) rfl (by have t1 : 0 ≤ y12.toInt := q_leI f10; have t2 : y12.toInt ≤ 17 := q_leI f11; omega) (by have t1 : 0 ≤ y12.toInt := q_leI f10; have t2 : y12.toInt ≤ 17 := q_leI f11; omega)); have e2 : (lx52 : Int32).toInt = lx52.toInt := rfl; have e3 := q_nleI c57; omega }; have t5 : 0 ≤ y12.toInt := q_leI f10; have t6 : y12.toInt ≤ 17 := q_leI f11; omega) (by have t1 : 0 ≤ x1.toInt := q_leI x1lo; have t2 : x1.toInt ≤ 9 := q_leI x1hi; have t3 : (y12.toInt + 1) < 19 := by { have e1 : (19 : Int32).toInt = 19 := (by decide); have e2 : ((y12 + 1) : Int32).toInt = (y12.toInt + 1) := (q_addI (x := y12.toInt) (y := 1) rfl (by decide) (by have t1 : 0 ≤ y12.toInt := q_leI f10; have t2 : y12.toInt ≤ 17 := q_leI f11; omega) (by have t1 : 0 ≤ y12.toInt := q_leI f10; have t2 : y12.toInt ≤ 17 := q_leI f11; omega)); have e3 := q_nleI c7; omega }; have t4 : lx52.toInt < (19 - y12.toInt) := by { have e1 : ((19 - y12) : Int32).toInt = (19 - y12.toInt) := (q_subI (x := 19) (y := y12.toInt) (by decide) rfl (by have t1 : 0 ≤ y12.toInt := q_leI f10; have t2 : y12.toInt ≤ 17 := q_leI f11; omega) (by have t1 : 0 ≤ y12.toInt := q_leI f10; have t2 : y12.toInt ≤ 17 := q_leI f11; omega)); have e2 : (lx52 : Int32).toInt = lx52.toInt := rfl; have e3 := q_nleI c57; omega }; have t5 : 0 ≤ y12.toInt := q_leI f10; have t6 : y12.toInt ≤ 17 := q_leI f11; omega)) (by have t1 : 0 ≤ x1.toInt := q_leI x1lo; have t2 : x1.toInt ≤ 9 := q_leI x1hi; have t3 : (y12.toInt + 1) < 19 := by { have e1 : (19 : Int32).toInt = 19 := (by decide); have e2 : ((y12 + 1) : Int32).toInt = (y12.toInt + 1) := (q_addI (x := y12.toInt) (y := 1) rfl (by decide) (by have t1 : 0 ≤ y12.toInt := q_leI f10; have t2 : y12.toInt ≤ 17 := q_leI f11; omega) (by have t1 : 0 ≤ y12.toInt := q_leI f10; have t2 : y12.toInt ≤ 17 := q_leI f11; omega)); have e3 := q_nleI c7; omega }; have t4 : lx52.toInt < (19 - y12.toInt) := by { have e1 : ((19 - y12) : Int32).toInt = (19 - y12.toInt) := (q_subI (x := 19) (y := y12.toInt) (by decide) rfl (by have t1 : 0 ≤ y12.toInt := q_leI f10; have t2 : y12.toInt ≤ 17 := q_leI f11; omega) (by have t1 : 0 ≤ y12.toInt := q_leI f10; have t2 : y12.toInt ≤ 17 := q_leI f11; omega)); have e2 : (lx52 : Int32).toInt = lx52.toInt := rfl; have e3 := q_nleI c57; omega }; have t5 : 0 ≤ y12.toInt := q_leI f10; have t6 : y12.toInt ≤ 17 := q_leI f11; omega) (by have t1 : 0 ≤ x1.toInt := q_leI x1lo; have t2 : x1.toInt ≤ 9 := q_leI x1hi; have t3 : (y12.toInt + 1) < 19 := by { have e1 : (19 : Int32).toInt = 19 := (by decide); have e2 : ((y12 + 1) : Int32).toInt = (y12.toInt + 1) := (q_addI (x := y12.toInt) (y := 1) rfl (by decide) (by have t1 : 0 ≤ y12.toInt := q_leI f10; have t2 : y12.toInt ≤ 17 := q_leI f11; omega) (by have t1 : 0 ≤ y12.toInt := q_leI f10; have t2 : y12.toInt ≤ 17 := q_leI f11; omega)); have e3 := q_nleI c7; omega }; have t4 : lx52.toInt < (19 - y12.toInt) := by { have e1 : ((19 - y12) : Int32).toInt = (19 - y12.toInt) := (q_subI (x := 19) (y := y12.toInt) (by decide) rfl (by have t1 : 0 ≤ y12.toInt := q_leI f10; have t2 : y12.toInt ≤ 17 := q_leI f11; omega) (by have t1 : 0 ≤ y12.toInt := q_leI f10; have t2 : y12.toInt ≤ 17 := q_leI f11; omega)); have e2 : (lx52 : Int32).toInt = lx52.toInt := rfl; have e3 := q_nleI c57; omega }; have t5 : 0 ≤ y12.toInt := q_leI f10; have t6 : y12.toInt ≤ 17 := q_leI f11; omega)) d_15_8_72 (fun H locs w64 hu65 hA2 V => ?_)
      replace hA2 : w64[kA2]? = (some (qA2, .inl (g 0, 10000, .inl (upd lx53 (((1000 * x1) + lx52).toNatClampNeg) (y13 lx52.toNatClampNeg)))) : Option (Nat × va_E)) := hA2
      replace hF := q_us hF hu65 (.tail _ (.head _))
      refine lv_iinc (v := lx52 + 1) (lv' := [(2, .int (lx52 + 1)), (0, .ref qO0), (1, .int x1)]) hx hb d_15_8_73 hl (k := 0) rfl (rfl) (by decide) rfl (fun ls hl => ?_)
      refine lv_goto (tgt := 47) hx hb d_15_8_76 (by decide) ?_
      replace hO0 := (hu65 _ n_O0_A2).trans (hO0)
      replace hA3 := (hu65 _ n_A3_A2).trans (hA3)
      replace hA4 := (hu65 _ n_A4_A2).trans (hA4)
      replace hA5 := (hu65 _ n_A5_A2).trans (hA5)
      replace hA6 := (hu65 _ n_A6_A2).trans (hA6)
      exact ih56 ((lx52 + 1 : Int32), (upd lx53 (((1000 * x1) + lx52).toNatClampNeg) (y13 lx52.toNatClampNeg) : Nat → Int32)) _ _ _ _ (show ((19 - y12.toInt) - (lx52 + 1).toInt).toNat < ((19 - y12.toInt) - lx52.toInt).toNat from by have t1 : (y12.toInt + 1) < 19 := by { have e1 : (19 : Int32).toInt = 19 := (by decide); have e2 : ((y12 + 1) : Int32).toInt = (y12.toInt + 1) := (q_addI (x := y12.toInt) (y := 1) rfl (by decide) (by have t1 : 0 ≤ y12.toInt := q_leI f10; have t2 : y12.toInt ≤ 17 := q_leI f11; omega) (by have t1 : 0 ≤ y12.toInt := q_leI f10; have t2 : y12.toInt ≤ 17 := q_leI f11; omega)); have e3 := q_nleI c7; omega }; have t2 : lx52.toInt < (19 - y12.toInt) := by { have e1 : ((19 - y12) : Int32).toInt = (19 - y12.toInt) := (q_subI (x := 19) (y := y12.toInt) (by decide) rfl (by have t1 : 0 ≤ y12.toInt := q_leI f10; have t2 : y12.toInt ≤ 17 := q_leI f11; omega) (by have t1 : 0 ≤ y12.toInt := q_leI f10; have t2 : y12.toInt ≤ 17 := q_leI f11; omega)); have e2 : (lx52 : Int32).toInt = lx52.toInt := rfl; have e3 := q_nleI c57; omega }; have t3 : 0 ≤ y12.toInt := q_leI f10; have t4 : y12.toInt ≤ 17 := q_leI f11; have e : (lx52 + 1).toInt = (lx52.toInt + 1) := (q_addI (x := lx52.toInt) (y := 1) rfl (by decide) (by have t1 : (y12.toInt + 1) < 19 := by { have e1 : (19 : Int32).toInt = 19 := (by decide); have e2 : ((y12 + 1) : Int32).toInt = (y12.toInt + 1) := (q_addI (x := y12.toInt) (y := 1) rfl (by decide) (by have t1 : 0 ≤ y12.toInt := q_leI f10; have t2 : y12.toInt ≤ 17 := q_leI f11; omega) (by have t1 : 0 ≤ y12.toInt := q_leI f10; have t2 : y12.toInt ≤ 17 := q_leI f11; omega)); have e3 := q_nleI c7; omega }; have t2 : lx52.toInt < (19 - y12.toInt) := by { have e1 : ((19 - y12) : Int32).toInt = (19 - y12.toInt) := (q_subI (x := 19) (y := y12.toInt) (by decide) rfl (by have t1 : 0 ≤ y12.toInt := q_leI f10; have t2 : y12.toInt ≤ 17 := q_leI f11; omega) (by have t1 : 0 ≤ y12.toInt := q_leI f10; have t2 : y12.toInt ≤ 17 := q_leI f11; omega)); have e2 : (lx52 : Int32).toInt = lx52.toInt := rfl; have e3 := q_nleI c57; omega }; have t3 : 0 ≤ y12.toInt := q_leI f10; have t4 : y12.toInt ≤ 17 := q_leI f11; omega) (by have t1 : (y12.toInt + 1) < 19 := by { have e1 : (19 : Int32).toInt = 19 := (by decide); have e2 : ((y12 + 1) : Int32).toInt = (y12.toInt + 1) := (q_addI (x := y12.toInt) (y := 1) rfl (by decide) (by have t1 : 0 ≤ y12.toInt := q_leI f10; have t2 : y12.toInt ≤ 17 := q_leI f11; omega) (by have t1 : 0 ≤ y12.toInt := q_leI f10; have t2 : y12.toInt ≤ 17 := q_leI f11; omega)); have e3 := q_nleI c7; omega }; have t2 : lx52.toInt < (19 - y12.toInt) := by { have e1 : ((19 - y12) : Int32).toInt = (19 - y12.toInt) := (q_subI (x := 19) (y := y12.toInt) (by decide) rfl (by have t1 : 0 ≤ y12.toInt := q_leI f10; have t2 : y12.toInt ≤ 17 := q_leI f11; omega) (by have t1 : 0 ≤ y12.toInt := q_leI f10; have t2 : y12.toInt ≤ 17 := q_leI f11; omega)); have e2 : (lx52 : Int32).toInt = lx52.toInt := rfl; have e3 := q_nleI c57; omega }; have t3 : 0 ≤ y12.toInt := q_leI f10; have t4 : y12.toInt ≤ 17 := q_leI f11; omega)); omega) ⟨(show 0 ≤ (lx52 + 1).toInt ∧ ((lx52 + 1).toInt ≤ (19 - y12.toInt) ∨ (lx52 + 1).toInt = 0) from by have t1 : (y12.toInt + 1) < 19 := by { have e1 : (19 : Int32).toInt = 19 := (by decide); have e2 : ((y12 + 1) : Int32).toInt = (y12.toInt + 1) := (q_addI (x := y12.toInt) (y := 1) rfl (by decide) (by have t1 : 0 ≤ y12.toInt := q_leI f10; have t2 : y12.toInt ≤ 17 := q_leI f11; omega) (by have t1 : 0 ≤ y12.toInt := q_leI f10; have t2 : y12.toInt ≤ 17 := q_leI f11; omega)); have e3 := q_nleI c7; omega }; have t2 : lx52.toInt < (19 - y12.toInt) := by { have e1 : ((19 - y12) : Int32).toInt = (19 - y12.toInt) := (q_subI (x := 19) (y := y12.toInt) (by decide) rfl (by have t1 : 0 ≤ y12.toInt := q_leI f10; have t2 : y12.toInt ≤ 17 := q_leI f11; omega) (by have t1 : 0 ≤ y12.toInt := q_leI f10; have t2 : y12.toInt ≤ 17 := q_leI f11; omega)); have e2 : (lx52 : Int32).toInt = lx52.toInt := rfl; have e3 := q_nleI c57; omega }; have t3 : 0 ≤ y12.toInt := q_leI f10; have t4 : y12.toInt ≤ 17 := q_leI f11; have e : (lx52 + 1).toInt = (lx52.toInt + 1) := (q_addI (x := lx52.toInt) (y := 1) rfl (by decide) (by have t1 : (y12.toInt + 1) < 19 := by { have e1 : (19 : Int32).toInt = 19 := (by decide); have e2 : ((y12 + 1) : Int32).toInt = (y12.toInt + 1) := (q_addI (x := y12.toInt) (y := 1) rfl (by decide) (by have t1 : 0 ≤ y12.toInt := q_leI f10; have t2 : y12.toInt ≤ 17 := q_leI f11; omega) (by have t1 : 0 ≤ y12.toInt := q_leI f10; have t2 : y12.toInt ≤ 17 := q_leI f11; omega)); have e3 := q_nleI c7; omega }; have t2 : lx52.toInt < (19 - y12.toInt) := by { have e1 : ((19 - y12) : Int32).toInt = (19 - y12.toInt) := (q_subI (x := 19) (y := y12.toInt) (by decide) rfl (by have t1 : 0 ≤ y12.toInt := q_leI f10; have t2 : y12.toInt ≤ 17 := q_leI f11; omega) (by have t1 : 0 ≤ y12.toInt := q_leI f10; have t2 : y12.toInt ≤ 17 := q_leI f11; omega)); have e2 : (lx52 : Int32).toInt = lx52.toInt := rfl; have e3 := q_nleI c57; omega }; have t3 : 0 ≤ y12.toInt := q_leI f10; have t4 : y12.toInt ≤ 17 := q_leI f11; omega) (by have t1 : (y12.toInt + 1) < 19 := by { have e1 : (19 : Int32).toInt = 19 := (by decide); have e2 : ((y12 + 1) : Int32).toInt = (y12.toInt + 1) := (q_addI (x := y12.toInt) (y := 1) rfl (by decide) (by have t1 : 0 ≤ y12.toInt := q_leI f10; have t2 : y12.toInt ≤ 17 := q_leI f11; omega) (by have t1 : 0 ≤ y12.toInt := q_leI f10; have t2 : y12.toInt ≤ 17 := q_leI f11; omega)); have e3 := q_nleI c7; omega }; have t2 : lx52.toInt < (19 - y12.toInt) := by { have e1 : ((19 - y12) : Int32).toInt = (19 - y12.toInt) := (q_subI (x := 19) (y := y12.toInt) (by decide) rfl (by have t1 : 0 ≤ y12.toInt := q_leI f10; have t2 : y12.toInt ≤ 17 := q_leI f11; omega) (by have t1 : 0 ≤ y12.toInt := q_leI f10; have t2 : y12.toInt ≤ 17 := q_leI f11; omega)); have e2 : (lx52 : Int32).toInt = lx52.toInt := rfl; have e3 := q_nleI c57; omega }; have t3 : 0 ≤ y12.toInt := q_leI f10; have t4 : y12.toInt ≤ 17 := q_leI f11; omega)); omega), V, q_lw hl (q_lw1 0 rfl (q_lw1 1 rfl (q_lw1 2 rfl q_lw0))), hF, hO0, hA2, hA3, hA4, hA5, hA6⟩
  ·
    replace hF := q_uc hF hg22 (q_sc (.head _) (q_sc (List.mem_of_getElem? (i := 5) rfl) (fun _ h => absurd h List.not_mem_nil)))
    refine lv_aload_n hx hb d_15_8_4 rfl (lv_at hl 0 rfl) ?_
    refine q_get (ci := 14) (j := 8) (v := .int (19 - y20)) C0 V i_DR rfl rfl hO0 (by decide) w_2011 rfl d_15_8_5 ?_
    refine lv_sipush (v := 1000) hx hb d_15_8_8 (by decide) ?_
    refine lv_icmp_gt (tgt := 36) hx hb d_15_8_11 (by decide) (fun c66 => absurd c66 (Int32.not_lt.mpr (q_Ile (x := (19 - y20.toInt)) (y := 1000) (q_subI (x := 19) (y := y20.toInt) (by decide) rfl (by have t1 : (y20.toInt + 1) < 19 := by { have e1 : (19 : Int32).toInt = 19 := (by decide); have e2 : ((y20 + 1) : Int32).toInt = (y20.toInt + 1) := (q_addI (x := y20.toInt) (y := 1) rfl (by decide) (by have t1 : 0 ≤ y20.toInt := q_leI f18; have t2 : y20.toInt ≤ 17 := q_leI f19; omega) (by have t1 : 0 ≤ y20.toInt := q_leI f18; have t2 : y20.toInt ≤ 17 := q_leI f19; omega)); have e3 := q_nleI c15; omega }; have t2 : 0 ≤ y20.toInt := q_leI f18; have t3 : y20.toInt ≤ 17 := q_leI f19; omega) (by have t1 : (y20.toInt + 1) < 19 := by { have e1 : (19 : Int32).toInt = 19 := (by decide); have e2 : ((y20 + 1) : Int32).toInt = (y20.toInt + 1) := (q_addI (x := y20.toInt) (y := 1) rfl (by decide) (by have t1 : 0 ≤ y20.toInt := q_leI f18; have t2 : y20.toInt ≤ 17 := q_leI f19; omega) (by have t1 : 0 ≤ y20.toInt := q_leI f18; have t2 : y20.toInt ≤ 17 := q_leI f19; omega)); have e3 := q_nleI c15; omega }; have t2 : 0 ≤ y20.toInt := q_leI f18; have t3 : y20.toInt ≤ 17 := q_leI f19; omega)) (by decide) (by have t1 : (y20.toInt + 1) < 19 := by { have e1 : (19 : Int32).toInt = 19 := (by decide); have e2 : ((y20 + 1) : Int32).toInt = (y20.toInt + 1) := (q_addI (x := y20.toInt) (y := 1) rfl (by decide) (by have t1 : 0 ≤ y20.toInt := q_leI f18; have t2 : y20.toInt ≤ 17 := q_leI f19; omega) (by have t1 : 0 ≤ y20.toInt := q_leI f18; have t2 : y20.toInt ≤ 17 := q_leI f19; omega)); have e3 := q_nleI c15; omega }; have t2 : 0 ≤ y20.toInt := q_leI f18; have t3 : y20.toInt ≤ 17 := q_leI f19; omega)))) (fun c66 => ?_)
    refine lv_aload_n hx hb d_15_8_14 rfl (lv_at hl 0 rfl) ?_
    refine q_get (ci := 14) (j := 9) (v := .long 0) C0 V i_DR rfl rfl hO0 (by decide) w_2012 rfl d_15_8_15 ?_
    refine q_ldc2 C0 rfl w_2417 d_15_8_18 ?_
    refine W.lcmp hx hb d_15_8_21 ?_
    refine q_ti (v := 1) (by decide) ?_
    refine lv_if_lt (tgt := 36) hx hb d_15_8_22 (by decide) (fun c67 => absurd c67 (by decide)) (fun c67 => ?_)
    refine lv_aload_n hx hb d_15_8_25 rfl (lv_at hl 0 rfl) ?_
    refine q_get (ci := 14) (j := 9) (v := .long 0) C0 V i_DR rfl rfl hO0 (by decide) w_2012 rfl d_15_8_26 ?_
    refine q_ldc2 C0 rfl w_2418 d_15_8_29 ?_
    refine W.lcmp hx hb d_15_8_32 ?_
    refine q_ti (v := (-1)) (by decide) ?_
    refine lv_if_le (tgt := 45) hx hb d_15_8_33 (by decide) (fun c68 => ?_) (fun c68 => absurd (by decide) c68)
    refine lv_iconst (v := 0) hx hb d_15_8_45 (by decide) ?_
    refine lv_istore_n (lv' := [(2, .int 0), (0, .ref qO0), (1, .int x1)]) hx hb d_15_8_46 rfl hl (by decide) rfl (fun ls hl => ?_)
    replace hA2 := (hg22 _ (q_nc n_A2_O0 (q_nc n_A2_A6 List.not_mem_nil))).trans (hA2)
    replace hA3 := (hg22 _ (q_nc n_A3_O0 (q_nc n_A3_A6 List.not_mem_nil))).trans (hA3)
    replace hA4 := (hg22 _ (q_nc n_A4_O0 (q_nc n_A4_A6 List.not_mem_nil))).trans (hA4)
    replace hA5 := (hg22 _ (q_nc n_A5_O0 (q_nc n_A5_A6 List.not_mem_nil))).trans (hA5)
    refine q_loop (X := Int32 × (Nat → Int32)) (fun z H locs ls w71 => (0 ≤ z.1.toInt ∧ (z.1.toInt ≤ (19 - y20.toInt) ∨ z.1.toInt = 0)) ∧ q_Wd D g (va_A ws sz) s w71 H locs ∧ lv_has ls 3 [(2, .int z.1), (0, .ref qO0), (1, .int x1)] ∧ q_un ws w71 [kO0, kA2, kA3, kA4, kA5, kA6] ∧ w71[kO0]? = (some (qO0, .inr (14, [.int 0, .ref qA1, .int 0, .ref qA2, .ref qA3, .ref qA4, .ref qA5, .ref qA6, .int (19 - y20), .long 0, .int 0, .int 1, .ref qA7, .int 0, .ref qA8, .int 0, .ref qA9, .int 0, .ref qA10, .int 0, .int 2])) : Option (Nat × va_E)) ∧ w71[kA2]? = (some (qA2, .inl (g 0, 10000, .inl z.2)) : Option (Nat × va_E)) ∧ w71[kA3]? = (some (qA3, .inl (g 0, 10, .inl (upd (upd (upd (upd (upd (upd (upd (upd (upd (upd (fun _ => 0) 0 1) 1 1) 2 1) 3 1) 4 1) 5 1) 6 1) 7 1) 8 1) 9 1))) : Option (Nat × va_E)) ∧ w71[kA4]? = (some (qA4, .inl (g 3, 10, .inl (fun _ => 0))) : Option (Nat × va_E)) ∧ w71[kA5]? = (some (qA5, .inl (g 0, 10, .inl (fun _ => 0))) : Option (Nat × va_E)) ∧ w71[kA6]? = (some (qA6, .inl (g 0, 4400, .inl y21)) : Option (Nat × va_E))) (fun z => ((19 - y20.toInt) - z.1.toInt).toNat) ?_ ((0 : Int32), (fun _ => 0 : (Nat → Int32))) _ _ _ u2 ⟨⟨(by dsimp only; decide), Or.inr (by dsimp only; decide)⟩, V, hl, hF, hO0, hA2, hA3, hA4, hA5, hA6⟩
    rintro ⟨lx69, lx70⟩ H locs ls w71 ⟨i72, V, hl, hF, hO0, hA2, hA3, hA4, hA5, hA6⟩ ih73
    replace i72 : 0 ≤ lx69.toInt ∧ (lx69.toInt ≤ (19 - y20.toInt) ∨ lx69.toInt = 0) := i72
    replace hl : lv_has ls 3 [(2, .int lx69), (0, .ref qO0), (1, .int x1)] := hl
    replace hO0 : w71[kO0]? = (some (qO0, .inr (14, [.int 0, .ref qA1, .int 0, .ref qA2, .ref qA3, .ref qA4, .ref qA5, .ref qA6, .int (19 - y20), .long 0, .int 0, .int 1, .ref qA7, .int 0, .ref qA8, .int 0, .ref qA9, .int 0, .ref qA10, .int 0, .int 2])) : Option (Nat × va_E)) := hO0
    replace hA2 : w71[kA2]? = (some (qA2, .inl (g 0, 10000, .inl lx70)) : Option (Nat × va_E)) := hA2
    replace hA3 : w71[kA3]? = (some (qA3, .inl (g 0, 10, .inl (upd (upd (upd (upd (upd (upd (upd (upd (upd (upd (fun _ => 0) 0 1) 1 1) 2 1) 3 1) 4 1) 5 1) 6 1) 7 1) 8 1) 9 1))) : Option (Nat × va_E)) := hA3
    replace hA4 : w71[kA4]? = (some (qA4, .inl (g 3, 10, .inl (fun _ => 0))) : Option (Nat × va_E)) := hA4
    replace hA5 : w71[kA5]? = (some (qA5, .inl (g 0, 10, .inl (fun _ => 0))) : Option (Nat × va_E)) := hA5
    replace hA6 : w71[kA6]? = (some (qA6, .inl (g 0, 4400, .inl y21)) : Option (Nat × va_E)) := hA6
    refine lv_iload_n hx hb d_15_8_47 rfl (lv_at hl 0 rfl) ?_
    refine lv_aload_n hx hb d_15_8_48 rfl (lv_at hl 1 rfl) ?_
    refine q_get (ci := 14) (j := 8) (v := .int (19 - y20)) C0 V i_DR rfl rfl hO0 (by decide) w_2011 rfl d_15_8_49 ?_
    refine lv_icmp_ge (tgt := 79) hx hb d_15_8_52 (by decide) (fun c74 => ?_) (fun c74 => ?_)
    ·
      refine lv_aload_n hx hb d_15_8_79 rfl (lv_at hl 1 rfl) ?_
      refine q_get (ci := 14) (j := 4) (v := .ref qA3) C0 V i_DR rfl rfl hO0 (by decide) w_2004 rfl d_15_8_80 ?_
      refine lv_iload_n hx hb d_15_8_83 rfl (lv_at hl 2 rfl) ?_
      refine lv_aload_n hx hb d_15_8_84 rfl (lv_at hl 1 rfl) ?_
      refine q_get (ci := 14) (j := 8) (v := .int (19 - y20)) C0 V i_DR rfl rfl hO0 (by decide) w_2011 rfl d_15_8_85 ?_
      refine q_iast C0 V hA3 (q_ix (x := x1.toInt) rfl (by have t1 : 0 ≤ x1.toInt := q_leI x1lo; have t2 : x1.toInt ≤ 9 := q_leI x1hi; omega) (by have t1 : 0 ≤ x1.toInt := q_leI x1lo; have t2 : x1.toInt ≤ 9 := q_leI x1hi; omega)) d_15_8_88 (fun H locs w75 hu76 hA3 V => ?_)
      replace hA3 : w75[kA3]? = (some (qA3, .inl (g 0, 10, .inl (upd (upd (upd (upd (upd (upd (upd (upd (upd (upd (upd (fun _ => 0) 0 1) 1 1) 2 1) 3 1) 4 1) 5 1) 6 1) 7 1) 8 1) 9 1) x1.toNatClampNeg (19 - y20)))) : Option (Nat × va_E)) := hA3
      replace hF := q_us hF hu76 (.tail _ (.tail _ (.head _)))
      refine lv_aload_n hx hb d_15_8_89 rfl (lv_at hl 1 rfl) ?_
      replace hO0 := (hu76 _ n_O0_A3).trans (hO0)
      refine q_get (ci := 14) (j := 5) (v := .ref qA4) C0 V i_DR rfl rfl hO0 (by decide) w_2006 rfl d_15_8_90 ?_
      refine lv_iload_n hx hb d_15_8_93 rfl (lv_at hl 2 rfl) ?_
      refine lv_aload_n hx hb d_15_8_94 rfl (lv_at hl 1 rfl) ?_
      refine q_get (ci := 14) (j := 11) (v := .int 1) C0 V i_DR rfl rfl hO0 (by decide) w_2014 rfl d_15_8_95 ?_
      replace hA4 := (hu76 _ n_A4_A3).trans (hA4)
      refine q_zast C0 V hA4 (q_ix (x := x1.toInt) rfl (by have t1 : 0 ≤ x1.toInt := q_leI x1lo; have t2 : x1.toInt ≤ 9 := q_leI x1hi; omega) (by have t1 : 0 ≤ x1.toInt := q_leI x1lo; have t2 : x1.toInt ≤ 9 := q_leI x1hi; omega)) d_15_8_98 (fun H locs w77 hu78 hA4 V => ?_)
      replace hA4 : w77[kA4]? = (some (qA4, .inl (g 3, 10, .inl (upd (fun _ => 0) x1.toNatClampNeg (vp_nar .boolean 1)))) : Option (Nat × va_E)) := hA4
      replace hF := q_us hF hu78 (List.mem_of_getElem? (i := 3) rfl)
      refine lv_aload_n hx hb d_15_8_99 rfl (lv_at hl 1 rfl) ?_
      replace hO0 := (hu78 _ n_O0_A4).trans (hO0)
      refine q_get (ci := 14) (j := 6) (v := .ref qA5) C0 V i_DR rfl rfl hO0 (by decide) w_2008 rfl d_15_8_100 ?_
      refine lv_iload_n hx hb d_15_8_103 rfl (lv_at hl 2 rfl) ?_
      refine lv_aload_n hx hb d_15_8_104 rfl (lv_at hl 1 rfl) ?_
      refine q_get (ci := 14) (j := 9) (v := .long 0) C0 V i_DR rfl rfl hO0 (by decide) w_2012 rfl d_15_8_105 ?_
      refine lv_l2i hx hb d_15_8_108 rfl ?_
      refine q_ti (v := 0) (by decide) ?_
      replace hA5 := (hu78 _ n_A5_A4).trans ((hu76 _ n_A5_A3).trans (hA5))
      refine q_iast C0 V hA5 (q_ix (x := x1.toInt) rfl (by have t1 : 0 ≤ x1.toInt := q_leI x1lo; have t2 : x1.toInt ≤ 9 := q_leI x1hi; omega) (by have t1 : 0 ≤ x1.toInt := q_leI x1lo; have t2 : x1.toInt ≤ 9 := q_leI x1hi; omega)) d_15_8_109 (fun H locs w79 hu80 hA5 V => ?_)
      replace hA5 := q_re (y := (qA5, .inl (g 0, 10, .inl (fun _ => 0)))) hA5 (q_eI q_upd0)
      replace hA5 : w79[kA5]? = (some (qA5, .inl (g 0, 10, .inl (fun _ => 0))) : Option (Nat × va_E)) := hA5
      replace hF := q_us hF hu80 (List.mem_of_getElem? (i := 4) rfl)
      replace hO0 := (hu80 _ n_O0_A5).trans (hO0)
      replace hA2 := (hu80 _ n_A2_A5).trans ((hu78 _ n_A2_A4).trans ((hu76 _ n_A2_A3).trans (hA2)))
      replace hA3 := (hu80 _ n_A3_A5).trans ((hu78 _ n_A3_A4).trans (hA3))
      replace hA4 := (hu80 _ n_A4_A5).trans (hA4)
      replace hA6 := (hu80 _ n_A6_A5).trans ((hu78 _ n_A6_A4).trans ((hu76 _ n_A6_A3).trans (hA6)))
      exact q_retv C0 V (Or.inr (Or.inr (Or.inr (⟨y20, lx70, y21, c15, c16, c17, f18, f19, hF, hO0, hA2, hA3, hA4, hA5, hA6⟩)))) d_15_8_110
    ·
      refine lv_aload_n hx hb d_15_8_55 rfl (lv_at hl 1 rfl) ?_
      refine q_get (ci := 14) (j := 3) (v := .ref qA2) C0 V i_DR rfl rfl hO0 (by decide) w_2002 rfl d_15_8_56 ?_
      refine lv_sipush (v := 1000) hx hb d_15_8_59 (by decide) ?_
      refine lv_iload_n hx hb d_15_8_62 rfl (lv_at hl 2 rfl) ?_
      refine lv_imul hx hb d_15_8_63 ?_
      refine lv_iload_n hx hb d_15_8_64 rfl (lv_at hl 0 rfl) ?_
      refine lv_iadd hx hb d_15_8_65 ?_
      refine lv_aload_n hx hb d_15_8_66 rfl (lv_at hl 1 rfl) ?_
      refine q_get (ci := 14) (j := 7) (v := .ref qA6) C0 V i_DR rfl rfl hO0 (by decide) w_2010 rfl d_15_8_67 ?_
      refine lv_iload_n hx hb d_15_8_70 rfl (lv_at hl 0 rfl) ?_
      refine q_iald C0 V hA6 (q_ix (x := lx69.toInt) rfl (by have t1 : (y20.toInt + 1) < 19 := by { have e1 : (19 : Int32).toInt = 19 := (by decide); have e2 : ((y20 + 1) : Int32).toInt = (y20.toInt + 1) := (q_addI (x := y20.toInt) (y := 1) rfl (by decide) (by have t1 : 0 ≤ y20.toInt := q_leI f18; have t2 : y20.toInt ≤ 17 := q_leI f19; omega) (by have t1 : 0 ≤ y20.toInt := q_leI f18; have t2 : y20.toInt ≤ 17 := q_leI f19; omega)); have e3 := q_nleI c15; omega }; have t2 : lx69.toInt < (19 - y20.toInt) := by { have e1 : ((19 - y20) : Int32).toInt = (19 - y20.toInt) := (q_subI (x := 19) (y := y20.toInt) (by decide) rfl (by have t1 : 0 ≤ y20.toInt := q_leI f18; have t2 : y20.toInt ≤ 17 := q_leI f19; omega) (by have t1 : 0 ≤ y20.toInt := q_leI f18; have t2 : y20.toInt ≤ 17 := q_leI f19; omega)); have e2 : (lx69 : Int32).toInt = lx69.toInt := rfl; have e3 := q_nleI c74; omega }; have t3 : 0 ≤ y20.toInt := q_leI f18; have t4 : y20.toInt ≤ 17 := q_leI f19; omega) (by have t1 : (y20.toInt + 1) < 19 := by { have e1 : (19 : Int32).toInt = 19 := (by decide); have e2 : ((y20 + 1) : Int32).toInt = (y20.toInt + 1) := (q_addI (x := y20.toInt) (y := 1) rfl (by decide) (by have t1 : 0 ≤ y20.toInt := q_leI f18; have t2 : y20.toInt ≤ 17 := q_leI f19; omega) (by have t1 : 0 ≤ y20.toInt := q_leI f18; have t2 : y20.toInt ≤ 17 := q_leI f19; omega)); have e3 := q_nleI c15; omega }; have t2 : lx69.toInt < (19 - y20.toInt) := by { have e1 : ((19 - y20) : Int32).toInt = (19 - y20.toInt) := (q_subI (x := 19) (y := y20.toInt) (by decide) rfl (by have t1 : 0 ≤ y20.toInt := q_leI f18; have t2 : y20.toInt ≤ 17 := q_leI f19; omega) (by have t1 : 0 ≤ y20.toInt := q_leI f18; have t2 : y20.toInt ≤ 17 := q_leI f19; omega)); have e2 : (lx69 : Int32).toInt = lx69.toInt := rfl; have e3 := q_nleI c74; omega }; have t3 : 0 ≤ y20.toInt := q_leI f18; have t4 : y20.toInt ≤ 17 := q_leI f19; omega)) d_15_8_71 ?_
      refine q_iast C0 V hA2 (q_ix (x := ((1000 * x1.toInt) + lx69.toInt)) (q_addI (x := (1000 * x1.toInt)) (y := lx69.toInt) (q_mulI (x := 1000) (y := x1.toInt) (by decide) rfl (by have t1 : 0 ≤ x1.toInt := q_leI x1lo; have t2 : x1.toInt ≤ 9 := q_leI x1hi; omega) (by have t1 : 0 ≤ x1.toInt := q_leI x1lo; have t2 : x1.toInt ≤ 9 := q_leI x1hi; omega)) rfl (by have t1 : 0 ≤ x1.toInt := q_leI x1lo; have t2 : x1.toInt ≤ 9 := q_leI x1hi; have t3 : (y20.toInt + 1) < 19 := by { have e1 : (19 : Int32).toInt = 19 := (by decide); have e2 : ((y20 + 1) : Int32).toInt = (y20.toInt + 1) := (q_addI (x := y20.toInt) (y := 1) rfl (by decide) (by have t1 : 0 ≤ y20.toInt := q_leI f18; have t2 : y20.toInt ≤ 17 := q_leI f19; omega) (by have t1 : 0 ≤ y20.toInt := q_leI f18; have t2 : y20.toInt ≤ 17 := q_leI f19; omega)); have e3 := q_nleI c15; omega }; have t4 : lx69.toInt < (19 - y20.toInt) := by { have e1 : ((19 - y20) : Int32).toInt = (19 - y20.toInt) := (q_subI (x := 19) (y := y20.toInt) (by decide) rfl (by have t1 : 0 ≤ y20.toInt := q_leI f18; have t2 : y20.toInt ≤ 17 := q_leI f19; omega) (by have t1 : 0 ≤ y20.toInt := q_leI f18; have t2 : y20.toInt ≤ 17 := q_leI f19; omega)); have e2 : (lx69 : Int32).toInt = lx69.toInt := rfl; have e3 := q_nleI c74; omega }; have t5 : 0 ≤ y20.toInt := q_leI f18; have t6 : y20.toInt ≤ 17 := q_leI f19; omega) (by have t1 : 0 ≤ x1.toInt := q_leI x1lo; have t2 : x1.toInt ≤ 9 := q_leI x1hi; have t3 : (y20.toInt + 1) < 19 := by { have e1 : (19 : Int32).toInt = 19 := (by decide); have e2 : ((y20 + 1) : Int32).toInt = (y20.toInt + 1) := (q_addI (x := y20.toInt) (y := 1) rfl (by decide) (by have t1 : 0 ≤ y20.toInt := q_leI f18; have t2 : y20.toInt ≤ 17 := q_leI f19; omega) (by have t1 : 0 ≤ y20.toInt := q_leI f18; have t2 : y20.toInt ≤ 17 := q_leI f19; omega)); have e3 := q_nleI c15; omega }; have t4 : lx69.toInt < (19 - y20.toInt) := by { have e1 : ((19 - y20) : Int32).toInt = (19 - y20.toInt) := (q_subI (x := 19) (y := y20.toInt) (by decide) rfl (by have t1 : 0 ≤ y20.toInt := q_leI f18; have t2 : y20.toInt ≤ 17 := q_leI f19; omega) (by have t1 : 0 ≤ y20.toInt := q_leI f18; have t2 : y20.toInt ≤ 17 := q_leI f19; omega)); have e2 : (lx69 : Int32).toInt = lx69.toInt := rfl; have e3 := q_nleI c74; omega }; have t5 : 0 ≤ y20.toInt := q_leI f18; have t6 : y20.toInt ≤ 17 := q_leI f19; omega)) (by have t1 : 0 ≤ x1.toInt := q_leI x1lo; have t2 : x1.toInt ≤ 9 := q_leI x1hi; have t3 : (y20.toInt + 1) < 19 := by { have e1 : (19 : Int32).toInt = 19 := (by decide); have e2 : ((y20 + 1) : Int32).toInt = (y20.toInt + 1) := (q_addI (x := y20.toInt) (y := 1) rfl (by decide) (by have t1 : 0 ≤ y20.toInt := q_leI f18; have t2 : y20.toInt ≤ 17 := q_leI f19; omega) (by have t1 : 0 ≤ y20.toInt := q_leI f18; have t2 : y20.toInt ≤ 17 := q_leI f19; omega)); have e3 := q_nleI c15; omega }; have t4 : lx69.toInt < (19 - y20.toInt) := by { have e1 : ((19 - y20) : Int32).toInt = (19 - y20.toInt) := (q_subI (x := 19) (y := y20.toInt) (by decide) rfl (by have t1 : 0 ≤ y20.toInt := q_leI f18; have t2 : y20.toInt ≤ 17 := q_leI f19; omega) (by have t1 : 0 ≤ y20.toInt := q_leI f18; have t2 : y20.toInt ≤ 17 := q_leI f19; omega)); have e2 : (lx69 : Int32).toInt = lx69.toInt := rfl; have e3 := q_nleI c74; omega }; have t5 : 0 ≤ y20.toInt := q_leI f18; have t6 : y20.toInt ≤ 17 := q_leI f19; omega) (by have t1 : 0 ≤ x1.toInt := q_leI x1lo; have t2 : x1.toInt ≤ 9 := q_leI x1hi; have t3 : (y20.toInt + 1) < 19 := by { have e1 : (19 : Int32).toInt = 19 := (by decide); have e2 : ((y20 + 1) : Int32).toInt = (y20.toInt + 1) := (q_addI (x := y20.toInt) (y := 1) rfl (by decide) (by have t1 : 0 ≤ y20.toInt := q_leI f18; have t2 : y20.toInt ≤ 17 := q_leI f19; omega) (by have t1 : 0 ≤ y20.toInt := q_leI f18; have t2 : y20.toInt ≤ 17 := q_leI f19; omega)); have e3 := q_nleI c15; omega }; have t4 : lx69.toInt < (19 - y20.toInt) := by { have e1 : ((19 - y20) : Int32).toInt = (19 - y20.toInt) := (q_subI (x := 19) (y := y20.toInt) (by decide) rfl (by have t1 : 0 ≤ y20.toInt := q_leI f18; have t2 : y20.toInt ≤ 17 := q_leI f19; omega) (by have t1 : 0 ≤ y20.toInt := q_leI f18; have t2 : y20.toInt ≤ 17 := q_leI f19; omega)); have e2 : (lx69 : Int32).toInt = lx69.toInt := rfl; have e3 := q_nleI c74; omega }; have t5 : 0 ≤ y20.toInt := q_leI f18; have t6 : y20.toInt ≤ 17 := q_leI f19; omega)) d_15_8_72 (fun H locs w81 hu82 hA2 V => ?_)
      replace hA2 : w81[kA2]? = (some (qA2, .inl (g 0, 10000, .inl (upd lx70 (((1000 * x1) + lx69).toNatClampNeg) (y21 lx69.toNatClampNeg)))) : Option (Nat × va_E)) := hA2
      replace hF := q_us hF hu82 (.tail _ (.head _))
      refine lv_iinc (v := lx69 + 1) (lv' := [(2, .int (lx69 + 1)), (0, .ref qO0), (1, .int x1)]) hx hb d_15_8_73 hl (k := 0) rfl (rfl) (by decide) rfl (fun ls hl => ?_)
      refine lv_goto (tgt := 47) hx hb d_15_8_76 (by decide) ?_
      replace hO0 := (hu82 _ n_O0_A2).trans (hO0)
      replace hA3 := (hu82 _ n_A3_A2).trans (hA3)
      replace hA4 := (hu82 _ n_A4_A2).trans (hA4)
      replace hA5 := (hu82 _ n_A5_A2).trans (hA5)
      replace hA6 := (hu82 _ n_A6_A2).trans (hA6)
      exact ih73 ((lx69 + 1 : Int32), (upd lx70 (((1000 * x1) + lx69).toNatClampNeg) (y21 lx69.toNatClampNeg) : Nat → Int32)) _ _ _ _ (show ((19 - y20.toInt) - (lx69 + 1).toInt).toNat < ((19 - y20.toInt) - lx69.toInt).toNat from by have t1 : (y20.toInt + 1) < 19 := by { have e1 : (19 : Int32).toInt = 19 := (by decide); have e2 : ((y20 + 1) : Int32).toInt = (y20.toInt + 1) := (q_addI (x := y20.toInt) (y := 1) rfl (by decide) (by have t1 : 0 ≤ y20.toInt := q_leI f18; have t2 : y20.toInt ≤ 17 := q_leI f19; omega) (by have t1 : 0 ≤ y20.toInt := q_leI f18; have t2 : y20.toInt ≤ 17 := q_leI f19; omega)); have e3 := q_nleI c15; omega }; have t2 : lx69.toInt < (19 - y20.toInt) := by { have e1 : ((19 - y20) : Int32).toInt = (19 - y20.toInt) := (q_subI (x := 19) (y := y20.toInt) (by decide) rfl (by have t1 : 0 ≤ y20.toInt := q_leI f18; have t2 : y20.toInt ≤ 17 := q_leI f19; omega) (by have t1 : 0 ≤ y20.toInt := q_leI f18; have t2 : y20.toInt ≤ 17 := q_leI f19; omega)); have e2 : (lx69 : Int32).toInt = lx69.toInt := rfl; have e3 := q_nleI c74; omega }; have t3 : 0 ≤ y20.toInt := q_leI f18; have t4 : y20.toInt ≤ 17 := q_leI f19; have e : (lx69 + 1).toInt = (lx69.toInt + 1) := (q_addI (x := lx69.toInt) (y := 1) rfl (by decide) (by have t1 : (y20.toInt + 1) < 19 := by { have e1 : (19 : Int32).toInt = 19 := (by decide); have e2 : ((y20 + 1) : Int32).toInt = (y20.toInt + 1) := (q_addI (x := y20.toInt) (y := 1) rfl (by decide) (by have t1 : 0 ≤ y20.toInt := q_leI f18; have t2 : y20.toInt ≤ 17 := q_leI f19; omega) (by have t1 : 0 ≤ y20.toInt := q_leI f18; have t2 : y20.toInt ≤ 17 := q_leI f19; omega)); have e3 := q_nleI c15; omega }; have t2 : lx69.toInt < (19 - y20.toInt) := by { have e1 : ((19 - y20) : Int32).toInt = (19 - y20.toInt) := (q_subI (x := 19) (y := y20.toInt) (by decide) rfl (by have t1 : 0 ≤ y20.toInt := q_leI f18; have t2 : y20.toInt ≤ 17 := q_leI f19; omega) (by have t1 : 0 ≤ y20.toInt := q_leI f18; have t2 : y20.toInt ≤ 17 := q_leI f19; omega)); have e2 : (lx69 : Int32).toInt = lx69.toInt := rfl; have e3 := q_nleI c74; omega }; have t3 : 0 ≤ y20.toInt := q_leI f18; have t4 : y20.toInt ≤ 17 := q_leI f19; omega) (by have t1 : (y20.toInt + 1) < 19 := by { have e1 : (19 : Int32).toInt = 19 := (by decide); have e2 : ((y20 + 1) : Int32).toInt = (y20.toInt + 1) := (q_addI (x := y20.toInt) (y := 1) rfl (by decide) (by have t1 : 0 ≤ y20.toInt := q_leI f18; have t2 : y20.toInt ≤ 17 := q_leI f19; omega) (by have t1 : 0 ≤ y20.toInt := q_leI f18; have t2 : y20.toInt ≤ 17 := q_leI f19; omega)); have e3 := q_nleI c15; omega }; have t2 : lx69.toInt < (19 - y20.toInt) := by { have e1 : ((19 - y20) : Int32).toInt = (19 - y20.toInt) := (q_subI (x := 19) (y := y20.toInt) (by decide) rfl (by have t1 : 0 ≤ y20.toInt := q_leI f18; have t2 : y20.toInt ≤ 17 := q_leI f19; omega) (by have t1 : 0 ≤ y20.toInt := q_leI f18; have t2 : y20.toInt ≤ 17 := q_leI f19; omega)); have e2 : (lx69 : Int32).toInt = lx69.toInt := rfl; have e3 := q_nleI c74; omega }; have t3 : 0 ≤ y20.toInt := q_leI f18; have t4 : y20.toInt ≤ 17 := q_leI f19; omega)); omega) ⟨(show 0 ≤ (lx69 + 1).toInt ∧ ((lx69 + 1).toInt ≤ (19 - y20.toInt) ∨ (lx69 + 1).toInt = 0) from by have t1 : (y20.toInt + 1) < 19 := by { have e1 : (19 : Int32).toInt = 19 := (by decide); have e2 : ((y20 + 1) : Int32).toInt = (y20.toInt + 1) := (q_addI (x := y20.toInt) (y := 1) rfl (by decide) (by have t1 : 0 ≤ y20.toInt := q_leI f18; have t2 : y20.toInt ≤ 17 := q_leI f19; omega) (by have t1 : 0 ≤ y20.toInt := q_leI f18; have t2 : y20.toInt ≤ 17 := q_leI f19; omega)); have e3 := q_nleI c15; omega }; have t2 : lx69.toInt < (19 - y20.toInt) := by { have e1 : ((19 - y20) : Int32).toInt = (19 - y20.toInt) := (q_subI (x := 19) (y := y20.toInt) (by decide) rfl (by have t1 : 0 ≤ y20.toInt := q_leI f18; have t2 : y20.toInt ≤ 17 := q_leI f19; omega) (by have t1 : 0 ≤ y20.toInt := q_leI f18; have t2 : y20.toInt ≤ 17 := q_leI f19; omega)); have e2 : (lx69 : Int32).toInt = lx69.toInt := rfl; have e3 := q_nleI c74; omega }; have t3 : 0 ≤ y20.toInt := q_leI f18; have t4 : y20.toInt ≤ 17 := q_leI f19; have e : (lx69 + 1).toInt = (lx69.toInt + 1) := (q_addI (x := lx69.toInt) (y := 1) rfl (by decide) (by have t1 : (y20.toInt + 1) < 19 := by { have e1 : (19 : Int32).toInt = 19 := (by decide); have e2 : ((y20 + 1) : Int32).toInt = (y20.toInt + 1) := (q_addI (x := y20.toInt) (y := 1) rfl (by decide) (by have t1 : 0 ≤ y20.toInt := q_leI f18; have t2 : y20.toInt ≤ 17 := q_leI f19; omega) (by have t1 : 0 ≤ y20.toInt := q_leI f18; have t2 : y20.toInt ≤ 17 := q_leI f19; omega)); have e3 := q_nleI c15; omega }; have t2 : lx69.toInt < (19 - y20.toInt) := by { have e1 : ((19 - y20) : Int32).toInt = (19 - y20.toInt) := (q_subI (x := 19) (y := y20.toInt) (by decide) rfl (by have t1 : 0 ≤ y20.toInt := q_leI f18; have t2 : y20.toInt ≤ 17 := q_leI f19; omega) (by have t1 : 0 ≤ y20.toInt := q_leI f18; have t2 : y20.toInt ≤ 17 := q_leI f19; omega)); have e2 : (lx69 : Int32).toInt = lx69.toInt := rfl; have e3 := q_nleI c74; omega }; have t3 : 0 ≤ y20.toInt := q_leI f18; have t4 : y20.toInt ≤ 17 := q_leI f19; omega) (by have t1 : (y20.toInt + 1) < 19 := by { have e1 : (19 : Int32).toInt = 19 := (by decide); have e2 : ((y20 + 1) : Int32).toInt = (y20.toInt + 1) := (q_addI (x := y20.toInt) (y := 1) rfl (by decide) (by have t1 : 0 ≤ y20.toInt := q_leI f18; have t2 : y20.toInt ≤ 17 := q_leI f19; omega) (by have t1 : 0 ≤ y20.toInt := q_leI f18; have t2 : y20.toInt ≤ 17 := q_leI f19; omega)); have e3 := q_nleI c15; omega }; have t2 : lx69.toInt < (19 - y20.toInt) := by { have e1 : ((19 - y20) : Int32).toInt = (19 - y20.toInt) := (q_subI (x := 19) (y := y20.toInt) (by decide) rfl (by have t1 : 0 ≤ y20.toInt := q_leI f18; have t2 : y20.toInt ≤ 17 := q_leI f19; omega) (by have t1 : 0 ≤ y20.toInt := q_leI f18; have t2 : y20.toInt ≤ 17 := q_leI f19; omega)); have e2 : (lx69 : Int32).toInt = lx69.toInt := rfl; have e3 := q_nleI c74; omega }; have t3 : 0 ≤ y20.toInt := q_leI f18; have t4 : y20.toInt ≤ 17 := q_leI f19; omega)); omega), V, q_lw hl (q_lw1 0 rfl (q_lw1 1 rfl (q_lw1 2 rfl q_lw0))), hF, hO0, hA2, hA3, hA4, hA5, hA6⟩
theorem d_15_22_0 : decode prog_15_method_22_code 0 = .ok (.aload_n 0, 1) := by decide +kernel
theorem d_15_22_1 : decode prog_15_method_22_code 1 = .ok (.iload_n 1, 1) := by decide +kernel
theorem d_15_22_2 : decode prog_15_method_22_code 2 = .ok (.invokestatic 113, 3) := by decide +kernel
theorem d_15_22_5 : decode prog_15_method_22_code 5 = .ok (.ifCond .eq 7, 3) := by decide +kernel
theorem d_15_22_12 : decode prog_15_method_22_code 12 = .ok (.iconst 0, 1) := by decide +kernel
theorem d_15_22_13 : decode prog_15_method_22_code 13 = .ok (.putfield 41, 3) := by decide +kernel
theorem d_15_22_16 : decode prog_15_method_22_code 16 = .ok (.aload_n 0, 1) := by decide +kernel
theorem d_15_22_17 : decode prog_15_method_22_code 17 = .ok (.getfield 41, 3) := by decide +kernel
theorem d_15_22_20 : decode prog_15_method_22_code 20 = .ok (.ifCond .le 4, 3) := by decide +kernel
theorem d_15_22_24 : decode prog_15_method_22_code 24 = .ok (.aload_n 0, 1) := by decide +kernel
theorem d_15_22_25 : decode prog_15_method_22_code 25 = .ok (.iconst 2, 1) := by decide +kernel
theorem d_15_22_26 : decode prog_15_method_22_code 26 = .ok (.putfield 66, 3) := by decide +kernel
theorem d_15_22_29 : decode prog_15_method_22_code 29 = .ok (.aload_n 0, 1) := by decide +kernel
theorem d_15_22_30 : decode prog_15_method_22_code 30 = .ok (.lload_n 2, 1) := by decide +kernel
theorem d_15_22_31 : decode prog_15_method_22_code 31 = .ok (.lconst 0, 1) := by decide +kernel
theorem d_15_22_32 : decode prog_15_method_22_code 32 = .ok (.lcmp, 1) := by decide +kernel
theorem d_15_22_33 : decode prog_15_method_22_code 33 = .ok (.ifCond .ge 7, 3) := by decide +kernel
theorem d_15_22_40 : decode prog_15_method_22_code 40 = .ok (.iconst 0, 1) := by decide +kernel
theorem d_15_22_41 : decode prog_15_method_22_code 41 = .ok (.putfield 56, 3) := by decide +kernel
theorem d_15_22_44 : decode prog_15_method_22_code 44 = .ok (.aload_n 0, 1) := by decide +kernel
theorem d_15_22_45 : decode prog_15_method_22_code 45 = .ok (.iconst 0, 1) := by decide +kernel
theorem d_15_22_46 : decode prog_15_method_22_code 46 = .ok (.putfield 52, 3) := by decide +kernel
theorem d_15_22_49 : decode prog_15_method_22_code 49 = .ok (.aload_n 0, 1) := by decide +kernel
theorem d_15_22_50 : decode prog_15_method_22_code 50 = .ok (.iload 4, 2) := by decide +kernel
theorem d_15_22_52 : decode prog_15_method_22_code 52 = .ok (.i2l, 1) := by decide +kernel
theorem d_15_22_53 : decode prog_15_method_22_code 53 = .ok (.putfield 48, 3) := by decide +kernel
theorem d_15_22_56 : decode prog_15_method_22_code 56 = .ok (.aload_n 0, 1) := by decide +kernel
theorem d_15_22_57 : decode prog_15_method_22_code 57 = .ok (.bipush 19, 2) := by decide +kernel
theorem d_15_22_59 : decode prog_15_method_22_code 59 = .ok (.putfield 45, 3) := by decide +kernel
theorem d_15_22_62 : decode prog_15_method_22_code 62 = .ok (.lload_n 2, 1) := by decide +kernel
theorem d_15_22_63 : decode prog_15_method_22_code 63 = .ok (.lstore 5, 2) := by decide +kernel
theorem d_15_22_65 : decode prog_15_method_22_code 65 = .ok (.bipush 18, 2) := by decide +kernel
theorem d_15_22_67 : decode prog_15_method_22_code 67 = .ok (.istore 7, 2) := by decide +kernel
theorem d_15_22_69 : decode prog_15_method_22_code 69 = .ok (.iload 7, 2) := by decide +kernel
theorem d_15_22_71 : decode prog_15_method_22_code 71 = .ok (.ifCond .lt 48, 3) := by decide +kernel
theorem d_15_22_119 : decode prog_15_method_22_code 119 = .ok (.aload_n 0, 1) := by decide +kernel
theorem d_15_22_120 : decode prog_15_method_22_code 120 = .ok (.iload_n 1, 1) := by decide +kernel
theorem d_15_22_121 : decode prog_15_method_22_code 121 = .ok (.invokevirtual 89, 3) := by decide +kernel
theorem d_15_22_124 : decode prog_15_method_22_code 124 = .ok (.return_, 1) := by decide +kernel
theorem d_15_22_74 : decode prog_15_method_22_code 74 = .ok (.lload 5, 2) := by decide +kernel
theorem d_15_22_76 : decode prog_15_method_22_code 76 = .ok (.ldc2_w 109, 3) := by decide +kernel
theorem w_2407 : (Cond.constantLong "NumberHouseModel$DecimalRows" (109 : Nat) (10 : Int64)) ∈ q_tbl := q_of 2407 (by decide +kernel) (by decide +kernel)
theorem d_15_22_79 : decode prog_15_method_22_code 79 = .ok (.lrem, 1) := by decide +kernel
theorem d_15_22_80 : decode prog_15_method_22_code 80 = .ok (.lstore 8, 2) := by decide +kernel
theorem d_15_22_82 : decode prog_15_method_22_code 82 = .ok (.aload_n 0, 1) := by decide +kernel
theorem d_15_22_83 : decode prog_15_method_22_code 83 = .ok (.getfield 26, 3) := by decide +kernel
theorem d_15_22_86 : decode prog_15_method_22_code 86 = .ok (.iload 7, 2) := by decide +kernel
theorem d_15_22_88 : decode prog_15_method_22_code 88 = .ok (.lload 8, 2) := by decide +kernel
theorem d_15_22_90 : decode prog_15_method_22_code 90 = .ok (.lconst 0, 1) := by decide +kernel
theorem d_15_22_91 : decode prog_15_method_22_code 91 = .ok (.lcmp, 1) := by decide +kernel
theorem d_15_22_92 : decode prog_15_method_22_code 92 = .ok (.ifCond .ge 9, 3) := by decide +kernel
theorem d_15_22_101 : decode prog_15_method_22_code 101 = .ok (.lload 8, 2) := by decide +kernel
theorem d_15_22_103 : decode prog_15_method_22_code 103 = .ok (.l2i, 1) := by decide +kernel
theorem d_15_22_104 : decode prog_15_method_22_code 104 = .ok (.iastore, 1) := by decide +kernel
theorem d_15_22_105 : decode prog_15_method_22_code 105 = .ok (.lload 5, 2) := by decide +kernel
theorem d_15_22_107 : decode prog_15_method_22_code 107 = .ok (.ldc2_w 109, 3) := by decide +kernel
theorem d_15_22_110 : decode prog_15_method_22_code 110 = .ok (.ldiv, 1) := by decide +kernel
theorem d_15_22_111 : decode prog_15_method_22_code 111 = .ok (.lstore 5, 2) := by decide +kernel
theorem d_15_22_113 : decode prog_15_method_22_code 113 = .ok (.iinc 7 (-1), 3) := by decide +kernel
theorem d_15_22_116 : decode prog_15_method_22_code 116 = .ok (.goto (-47), 3) := by decide +kernel
theorem d_15_22_95 : decode prog_15_method_22_code 95 = .ok (.lload 8, 2) := by decide +kernel
theorem d_15_22_97 : decode prog_15_method_22_code 97 = .ok (.lneg, 1) := by decide +kernel
theorem d_15_22_98 : decode prog_15_method_22_code 98 = .ok (.goto 5, 3) := by decide +kernel
theorem d_15_22_36 : decode prog_15_method_22_code 36 = .ok (.iconst 1, 1) := by decide +kernel
theorem d_15_22_37 : decode prog_15_method_22_code 37 = .ok (.goto 4, 3) := by decide +kernel
def y_DR_put : MethodName := ⟨"NumberHouseModel$DecimalRows", "put", "(IJI)V"⟩
set_option maxRecDepth 100000 in
set_option maxHeartbeats 4000000 in
theorem c_DR_put (l : Launch) (D : va_G) (g : Nat → ClassId) (ws : va_W) (kO0 kA2 kA3 kA4 kA5 kA6 qO0 qA1 qA2 qA3 qA4 qA5 qA6 qA7 qA8 qA9 qA10 : Nat) (x1 : Int32) (x2 : Int64) (hO0 : ws[kO0]? = (some (qO0, .inr (14, [.int 0, .ref qA1, .int 0, .ref qA2, .ref qA3, .ref qA4, .ref qA5, .ref qA6, .int 0, .long 0, .int 0, .int 0, .ref qA7, .int 0, .ref qA8, .int 0, .ref qA9, .int 0, .ref qA10, .int 0, .int 0])) : Option (Nat × va_E))) (hA2 : ws[kA2]? = (some (qA2, .inl (g 0, 10000, .inl (fun _ => 0))) : Option (Nat × va_E))) (hA3 : ws[kA3]? = (some (qA3, .inl (g 0, 10, .inl (upd (upd (upd (upd (upd (upd (upd (upd (upd (upd (fun _ => 0) 0 1) 1 1) 2 1) 3 1) 4 1) 5 1) 6 1) 7 1) 8 1) 9 1))) : Option (Nat × va_E))) (hA4 : ws[kA4]? = (some (qA4, .inl (g 3, 10, .inl (fun _ => 0))) : Option (Nat × va_E))) (hA5 : ws[kA5]? = (some (qA5, .inl (g 0, 10, .inl (fun _ => 0))) : Option (Nat × va_E))) (hA6 : ws[kA6]? = (some (qA6, .inl (g 0, 4400, .inl (fun _ => 0))) : Option (Nat × va_E))) (n_A2_A3 : kA2 ≠ kA3) (n_A2_A4 : kA2 ≠ kA4) (n_A2_A5 : kA2 ≠ kA5) (n_A2_A6 : kA2 ≠ kA6) (n_A3_A4 : kA3 ≠ kA4) (n_A3_A5 : kA3 ≠ kA5) (n_A3_A6 : kA3 ≠ kA6) (n_A4_A5 : kA4 ≠ kA5) (n_A4_A6 : kA4 ≠ kA6) (n_A5_A6 : kA5 ≠ kA6) (x1lo : 0 ≤ x1) (x1hi : x1 ≤ 9) : q_mV l y_DR_put prog_15_method_22_code 10 3 0 0 D g [.ref qO0, .int x1, .long x2, .int 0] ws (fun u => (∃ (ex0 : Nat → Int32), 0 ≤ (lg_cmp x2 0) ∧ q_un ws u [kO0, kA2, kA3, kA4, kA5, kA6] ∧ u[kO0]? = (some (qO0, .inr (14, [.int 0, .ref qA1, .int 0, .ref qA2, .ref qA3, .ref qA4, .ref qA5, .ref qA6, .int 1, .long 0, .int 0, .int 0, .ref qA7, .int 0, .ref qA8, .int 0, .ref qA9, .int 0, .ref qA10, .int 0, .int 2])) : Option (Nat × va_E)) ∧ u[kA2]? = (some (qA2, .inl (g 0, 10000, .inl (upd (fun _ => 0) ((1000 * x1).toNatClampNeg) (ex0 (18 : Int32).toNatClampNeg)))) : Option (Nat × va_E)) ∧ u[kA3]? = (some (qA3, .inl (g 0, 10, .inl (upd (upd (upd (upd (upd (upd (upd (upd (upd (upd (upd (fun _ => 0) 0 1) 1 1) 2 1) 3 1) 4 1) 5 1) 6 1) 7 1) 8 1) 9 1) x1.toNatClampNeg 1))) : Option (Nat × va_E)) ∧ u[kA4]? = (some (qA4, .inl (g 3, 10, .inl (fun _ => 0))) : Option (Nat × va_E)) ∧ u[kA5]? = (some (qA5, .inl (g 0, 10, .inl (fun _ => 0))) : Option (Nat × va_E)) ∧ u[kA6]? = (some (qA6, .inl (g 0, 4400, .inl (upd ex0 0 (ex0 (18 : Int32).toNatClampNeg)))) : Option (Nat × va_E))) ∨ (∃ (ex0 : Int32) (ex1 : Nat → Int32) (ex2 : Nat → Int32), 0 ≤ (lg_cmp x2 0) ∧ ¬ 19 ≤ (ex0 + 1) ∧ 0 ≤ ex0 ∧ ex0 ≤ 17 ∧ q_un ws u [kO0, kA2, kA3, kA4, kA5, kA6] ∧ u[kO0]? = (some (qO0, .inr (14, [.int 0, .ref qA1, .int 0, .ref qA2, .ref qA3, .ref qA4, .ref qA5, .ref qA6, .int (19 - ex0), .long 0, .int 0, .int 0, .ref qA7, .int 0, .ref qA8, .int 0, .ref qA9, .int 0, .ref qA10, .int 0, .int 2])) : Option (Nat × va_E)) ∧ u[kA2]? = (some (qA2, .inl (g 0, 10000, .inl ex1)) : Option (Nat × va_E)) ∧ u[kA3]? = (some (qA3, .inl (g 0, 10, .inl (upd (upd (upd (upd (upd (upd (upd (upd (upd (upd (upd (fun _ => 0) 0 1) 1 1) 2 1) 3 1) 4 1) 5 1) 6 1) 7 1) 8 1) 9 1) x1.toNatClampNeg (19 - ex0)))) : Option (Nat × va_E)) ∧ u[kA4]? = (some (qA4, .inl (g 3, 10, .inl (fun _ => 0))) : Option (Nat × va_E)) ∧ u[kA5]? = (some (qA5, .inl (g 0, 10, .inl (fun _ => 0))) : Option (Nat × va_E)) ∧ u[kA6]? = (some (qA6, .inl (g 0, 4400, .inl ex2)) : Option (Nat × va_E))) ∨ (∃ (ex0 : Nat → Int32), ¬ 0 ≤ (lg_cmp x2 0) ∧ (ex0 (18 : Int32).toNatClampNeg) = 0 ∧ q_un ws u [kO0, kA2, kA3, kA4, kA5, kA6] ∧ u[kO0]? = (some (qO0, .inr (14, [.int 0, .ref qA1, .int 0, .ref qA2, .ref qA3, .ref qA4, .ref qA5, .ref qA6, .int 1, .long 0, .int 0, .int 0, .ref qA7, .int 0, .ref qA8, .int 0, .ref qA9, .int 0, .ref qA10, .int 0, .int 2])) : Option (Nat × va_E)) ∧ u[kA2]? = (some (qA2, .inl (g 0, 10000, .inl (upd (fun _ => 0) ((1000 * x1).toNatClampNeg) (ex0 (18 : Int32).toNatClampNeg)))) : Option (Nat × va_E)) ∧ u[kA3]? = (some (qA3, .inl (g 0, 10, .inl (upd (upd (upd (upd (upd (upd (upd (upd (upd (upd (upd (fun _ => 0) 0 1) 1 1) 2 1) 3 1) 4 1) 5 1) 6 1) 7 1) 8 1) 9 1) x1.toNatClampNeg 1))) : Option (Nat × va_E)) ∧ u[kA4]? = (some (qA4, .inl (g 3, 10, .inl (fun _ => 0))) : Option (Nat × va_E)) ∧ u[kA5]? = (some (qA5, .inl (g 0, 10, .inl (fun _ => 0))) : Option (Nat × va_E)) ∧ u[kA6]? = (some (qA6, .inl (g 0, 4400, .inl (upd ex0 0 (ex0 (18 : Int32).toNatClampNeg)))) : Option (Nat × va_E))) ∨ (∃ (ex0 : Nat → Int32), ¬ 0 ≤ (lg_cmp x2 0) ∧ ¬ (ex0 (18 : Int32).toNatClampNeg) = 0 ∧ q_un ws u [kO0, kA2, kA3, kA4, kA5, kA6] ∧ u[kO0]? = (some (qO0, .inr (14, [.int 0, .ref qA1, .int 0, .ref qA2, .ref qA3, .ref qA4, .ref qA5, .ref qA6, .int 1, .long 0, .int 0, .int 1, .ref qA7, .int 0, .ref qA8, .int 0, .ref qA9, .int 0, .ref qA10, .int 0, .int 2])) : Option (Nat × va_E)) ∧ u[kA2]? = (some (qA2, .inl (g 0, 10000, .inl (upd (fun _ => 0) ((1000 * x1).toNatClampNeg) (ex0 (18 : Int32).toNatClampNeg)))) : Option (Nat × va_E)) ∧ u[kA3]? = (some (qA3, .inl (g 0, 10, .inl (upd (upd (upd (upd (upd (upd (upd (upd (upd (upd (upd (fun _ => 0) 0 1) 1 1) 2 1) 3 1) 4 1) 5 1) 6 1) 7 1) 8 1) 9 1) x1.toNatClampNeg 1))) : Option (Nat × va_E)) ∧ u[kA4]? = (some (qA4, .inl (g 3, 10, .inl (upd (fun _ => 0) x1.toNatClampNeg (vp_nar .boolean 1)))) : Option (Nat × va_E)) ∧ u[kA5]? = (some (qA5, .inl (g 0, 10, .inl (fun _ => 0))) : Option (Nat × va_E)) ∧ u[kA6]? = (some (qA6, .inl (g 0, 4400, .inl (upd ex0 0 (ex0 (18 : Int32).toNatClampNeg)))) : Option (Nat × va_E))) ∨ (∃ (ex0 : Int32) (ex1 : Nat → Int32) (ex2 : Nat → Int32), ¬ 0 ≤ (lg_cmp x2 0) ∧ ¬ 19 ≤ (ex0 + 1) ∧ (ex2 (0 : Int32).toNatClampNeg) = 0 ∧ 0 ≤ ex0 ∧ ex0 ≤ 17 ∧ q_un ws u [kO0, kA2, kA3, kA4, kA5, kA6] ∧ u[kO0]? = (some (qO0, .inr (14, [.int 0, .ref qA1, .int 0, .ref qA2, .ref qA3, .ref qA4, .ref qA5, .ref qA6, .int (19 - ex0), .long 0, .int 0, .int 0, .ref qA7, .int 0, .ref qA8, .int 0, .ref qA9, .int 0, .ref qA10, .int 0, .int 2])) : Option (Nat × va_E)) ∧ u[kA2]? = (some (qA2, .inl (g 0, 10000, .inl ex1)) : Option (Nat × va_E)) ∧ u[kA3]? = (some (qA3, .inl (g 0, 10, .inl (upd (upd (upd (upd (upd (upd (upd (upd (upd (upd (upd (fun _ => 0) 0 1) 1 1) 2 1) 3 1) 4 1) 5 1) 6 1) 7 1) 8 1) 9 1) x1.toNatClampNeg (19 - ex0)))) : Option (Nat × va_E)) ∧ u[kA4]? = (some (qA4, .inl (g 3, 10, .inl (fun _ => 0))) : Option (Nat × va_E)) ∧ u[kA5]? = (some (qA5, .inl (g 0, 10, .inl (fun _ => 0))) : Option (Nat × va_E)) ∧ u[kA6]? = (some (qA6, .inl (g 0, 4400, .inl ex2)) : Option (Nat × va_E))) ∨ (∃ (ex0 : Int32) (ex1 : Nat → Int32) (ex2 : Nat → Int32), ¬ 0 ≤ (lg_cmp x2 0) ∧ ¬ 19 ≤ (ex0 + 1) ∧ ¬ (ex2 (0 : Int32).toNatClampNeg) = 0 ∧ 0 ≤ ex0 ∧ ex0 ≤ 17 ∧ q_un ws u [kO0, kA2, kA3, kA4, kA5, kA6] ∧ u[kO0]? = (some (qO0, .inr (14, [.int 0, .ref qA1, .int 0, .ref qA2, .ref qA3, .ref qA4, .ref qA5, .ref qA6, .int (19 - ex0), .long 0, .int 0, .int 1, .ref qA7, .int 0, .ref qA8, .int 0, .ref qA9, .int 0, .ref qA10, .int 0, .int 2])) : Option (Nat × va_E)) ∧ u[kA2]? = (some (qA2, .inl (g 0, 10000, .inl ex1)) : Option (Nat × va_E)) ∧ u[kA3]? = (some (qA3, .inl (g 0, 10, .inl (upd (upd (upd (upd (upd (upd (upd (upd (upd (upd (upd (fun _ => 0) 0 1) 1 1) 2 1) 3 1) 4 1) 5 1) 6 1) 7 1) 8 1) 9 1) x1.toNatClampNeg (19 - ex0)))) : Option (Nat × va_E)) ∧ u[kA4]? = (some (qA4, .inl (g 3, 10, .inl (upd (fun _ => 0) x1.toNatClampNeg (vp_nar .boolean 1)))) : Option (Nat × va_E)) ∧ u[kA5]? = (some (qA5, .inl (g 0, 10, .inl (fun _ => 0))) : Option (Nat × va_E)) ∧ u[kA6]? = (some (qA6, .inl (g 0, 4400, .inl ex2)) : Option (Nat × va_E)))) := by
  intro sz
  refine q_into (by decide) (Nat.le_of_ble_eq_true rfl) ?_
  intro p e s m below meth c ls hsz C0 V hl
  have hx := C0.1
  have hb := C0.2.1
  have hl : lv_has ls 10 [(0, .ref qO0), (1, .int x1), (2, .long x2), (4, .int 0)] := hl
  have n_A2_O0 := q_df hA2 hO0
  have n_A3_O0 := q_df hA3 hO0
  have n_A4_O0 := q_df hA4 hO0
  have n_A5_O0 := q_df hA5 hO0
  have n_A6_O0 := q_df hA6 hO0
  have n_O0_A6 := Ne.symm (q_df hA6 hO0)
  have hF : q_un ws ws [kO0, kA2, kA3, kA4, kA5, kA6] := q_u0
  refine lv_aload_n hx hb d_15_22_0 rfl (lv_at hl 0 rfl) ?_
  refine lv_iload_n hx hb d_15_22_1 rfl (lv_at hl 1 rfl) ?_
  refine q_goi V (q_runS (As := [.int x1]) (rest := [.ref qO0]) (d := 1) (mc := 0) (ms := 0) C0 V rfl LS_DR_113 (c_DR_no l D g ws x1 x1lo x1hi _) rfl hl.1 rfl (Nat.le_of_ble_eq_true rfl) ⟨by decide, by decide⟩ ⟨Nat.le_of_ble_eq_true rfl, Nat.le_of_ble_eq_true rfl⟩ d_15_22_2) (fun v3 u2 H locs hp1 V => ?_)
  obtain ⟨rfl, rfl⟩ := hp1
  refine lv_if_eq (tgt := 12) hx hb d_15_22_5 (by decide) (fun c5 => ?_) (fun c5 => absurd (by decide) c5)
  refine lv_iconst (v := 0) hx hb d_15_22_12 (by decide) ?_
  refine q_put (ci := 14) (j := 0) (v := .int 0) (ty := .int) C0 V i_DR o_DR n_DR rfl rfl hO0 (by decide) w_1996 rfl rfl rfl rfl (Nat.le_of_ble_eq_true rfl) d_15_22_13 (fun H locs w6 hu7 hO0 V => ?_)
  replace hO0 : w6[kO0]? = (some (qO0, .inr (14, [.int 0, .ref qA1, .int 0, .ref qA2, .ref qA3, .ref qA4, .ref qA5, .ref qA6, .int 0, .long 0, .int 0, .int 0, .ref qA7, .int 0, .ref qA8, .int 0, .ref qA9, .int 0, .ref qA10, .int 0, .int 0])) : Option (Nat × va_E)) := hO0
  replace hF := q_us hF hu7 (.head _)
  refine lv_aload_n hx hb d_15_22_16 rfl (lv_at hl 0 rfl) ?_
  refine q_get (ci := 14) (j := 0) (v := .int 0) C0 V i_DR rfl rfl hO0 (by decide) w_1996 rfl d_15_22_17 ?_
  refine lv_if_le (tgt := 24) hx hb d_15_22_20 (by decide) (fun c8 => ?_) (fun c8 => absurd (by decide) c8)
  refine lv_aload_n hx hb d_15_22_24 rfl (lv_at hl 0 rfl) ?_
  refine lv_iconst (v := 2) hx hb d_15_22_25 (by decide) ?_
  refine q_put (ci := 14) (j := 20) (v := .int 2) (ty := .int) C0 V i_DR o_DR n_DR rfl rfl hO0 (by decide) w_2024 rfl rfl rfl rfl (Nat.le_of_ble_eq_true rfl) d_15_22_26 (fun H locs w9 hu10 hO0 V => ?_)
  replace hO0 : w9[kO0]? = (some (qO0, .inr (14, [.int 0, .ref qA1, .int 0, .ref qA2, .ref qA3, .ref qA4, .ref qA5, .ref qA6, .int 0, .long 0, .int 0, .int 0, .ref qA7, .int 0, .ref qA8, .int 0, .ref qA9, .int 0, .ref qA10, .int 0, .int 2])) : Option (Nat × va_E)) := hO0
  replace hF := q_us hF hu10 (.head _)
  refine lv_aload_n hx hb d_15_22_29 rfl (lv_at hl 0 rfl) ?_
  refine lv_lload_n hx hb d_15_22_30 rfl (lv_at hl 2 rfl) ?_
  refine lv_lconst (v := 0) hx hb d_15_22_31 (by decide) ?_
  refine W.lcmp hx hb d_15_22_32 ?_
  refine lv_if_ge (tgt := 40) hx hb d_15_22_33 (by decide) (fun c11 => ?_) (fun c11 => ?_)
  ·
    refine lv_iconst (v := 0) hx hb d_15_22_40 (by decide) ?_
    refine q_put (ci := 14) (j := 11) (v := .int 0) (ty := .boolean) C0 V i_DR o_DR n_DR rfl rfl hO0 (by decide) w_2014 rfl rfl rfl rfl (Nat.le_of_ble_eq_true rfl) d_15_22_41 (fun H locs w12 hu13 hO0 V => ?_)
    replace hO0 : w12[kO0]? = (some (qO0, .inr (14, [.int 0, .ref qA1, .int 0, .ref qA2, .ref qA3, .ref qA4, .ref qA5, .ref qA6, .int 0, .long 0, .int 0, .int 0, .ref qA7, .int 0, .ref qA8, .int 0, .ref qA9, .int 0, .ref qA10, .int 0, .int 2])) : Option (Nat × va_E)) := hO0
    replace hF := q_us hF hu13 (.head _)
    refine lv_aload_n hx hb d_15_22_44 rfl (lv_at hl 0 rfl) ?_
    refine lv_iconst (v := 0) hx hb d_15_22_45 (by decide) ?_
    refine q_put (ci := 14) (j := 10) (v := .int 0) (ty := .boolean) C0 V i_DR o_DR n_DR rfl rfl hO0 (by decide) w_2013 rfl rfl rfl rfl (Nat.le_of_ble_eq_true rfl) d_15_22_46 (fun H locs w14 hu15 hO0 V => ?_)
    replace hO0 : w14[kO0]? = (some (qO0, .inr (14, [.int 0, .ref qA1, .int 0, .ref qA2, .ref qA3, .ref qA4, .ref qA5, .ref qA6, .int 0, .long 0, .int 0, .int 0, .ref qA7, .int 0, .ref qA8, .int 0, .ref qA9, .int 0, .ref qA10, .int 0, .int 2])) : Option (Nat × va_E)) := hO0
    replace hF := q_us hF hu15 (.head _)
    refine lv_aload_n hx hb d_15_22_49 rfl (lv_at hl 0 rfl) ?_
    refine lv_iload hx hb d_15_22_50 (lv_at hl 3 rfl) ?_
    refine lv_i2l hx hb d_15_22_52 rfl ?_
    refine q_tl (v := 0) (by decide) ?_
    refine q_put (ci := 14) (j := 9) (v := .long 0) (ty := .long) C0 V i_DR o_DR n_DR rfl rfl hO0 (by decide) w_2012 rfl rfl rfl rfl (Nat.le_of_ble_eq_true rfl) d_15_22_53 (fun H locs w16 hu17 hO0 V => ?_)
    replace hO0 : w16[kO0]? = (some (qO0, .inr (14, [.int 0, .ref qA1, .int 0, .ref qA2, .ref qA3, .ref qA4, .ref qA5, .ref qA6, .int 0, .long 0, .int 0, .int 0, .ref qA7, .int 0, .ref qA8, .int 0, .ref qA9, .int 0, .ref qA10, .int 0, .int 2])) : Option (Nat × va_E)) := hO0
    replace hF := q_us hF hu17 (.head _)
    refine lv_aload_n hx hb d_15_22_56 rfl (lv_at hl 0 rfl) ?_
    refine lv_bipush (v := 19) hx hb d_15_22_57 (by decide) ?_
    refine q_put (ci := 14) (j := 8) (v := .int 19) (ty := .int) C0 V i_DR o_DR n_DR rfl rfl hO0 (by decide) w_2011 rfl rfl rfl rfl (Nat.le_of_ble_eq_true rfl) d_15_22_59 (fun H locs w18 hu19 hO0 V => ?_)
    replace hO0 : w18[kO0]? = (some (qO0, .inr (14, [.int 0, .ref qA1, .int 0, .ref qA2, .ref qA3, .ref qA4, .ref qA5, .ref qA6, .int 19, .long 0, .int 0, .int 0, .ref qA7, .int 0, .ref qA8, .int 0, .ref qA9, .int 0, .ref qA10, .int 0, .int 2])) : Option (Nat × va_E)) := hO0
    replace hF := q_us hF hu19 (.head _)
    refine lv_lload_n hx hb d_15_22_62 rfl (lv_at hl 2 rfl) ?_
    refine lv_lstore (lv' := [(5, .long x2), (0, .ref qO0), (1, .int x1), (2, .long x2), (4, .int 0)]) hx hb d_15_22_63 hl (by decide) rfl (fun ls hl => ?_)
    refine lv_bipush (v := 18) hx hb d_15_22_65 (by decide) ?_
    refine lv_istore (lv' := [(7, .int 18), (5, .long x2), (0, .ref qO0), (1, .int x1), (2, .long x2), (4, .int 0)]) hx hb d_15_22_67 hl (by decide) rfl (fun ls hl => ?_)
    replace hA6 := (hu19 _ n_A6_O0).trans ((hu17 _ n_A6_O0).trans ((hu15 _ n_A6_O0).trans ((hu13 _ n_A6_O0).trans ((hu10 _ n_A6_O0).trans ((hu7 _ n_A6_O0).trans (hA6))))))
    replace hA2 := (hu19 _ n_A2_O0).trans ((hu17 _ n_A2_O0).trans ((hu15 _ n_A2_O0).trans ((hu13 _ n_A2_O0).trans ((hu10 _ n_A2_O0).trans ((hu7 _ n_A2_O0).trans (hA2))))))
    replace hA3 := (hu19 _ n_A3_O0).trans ((hu17 _ n_A3_O0).trans ((hu15 _ n_A3_O0).trans ((hu13 _ n_A3_O0).trans ((hu10 _ n_A3_O0).trans ((hu7 _ n_A3_O0).trans (hA3))))))
    replace hA4 := (hu19 _ n_A4_O0).trans ((hu17 _ n_A4_O0).trans ((hu15 _ n_A4_O0).trans ((hu13 _ n_A4_O0).trans ((hu10 _ n_A4_O0).trans ((hu7 _ n_A4_O0).trans (hA4))))))
    replace hA5 := (hu19 _ n_A5_O0).trans ((hu17 _ n_A5_O0).trans ((hu15 _ n_A5_O0).trans ((hu13 _ n_A5_O0).trans ((hu10 _ n_A5_O0).trans ((hu7 _ n_A5_O0).trans (hA5))))))
    refine q_loop (X := Int32 × Int64 × (Nat → Int32)) (fun z H locs ls w23 => ((-1) ≤ z.1.toInt ∧ z.1.toInt ≤ 18) ∧ q_Wd D g (va_A ws sz) s w23 H locs ∧ lv_has ls 10 [(7, .int z.1), (5, .long z.2.1), (0, .ref qO0), (1, .int x1), (2, .long x2), (4, .int 0)] ∧ q_un ws w23 [kO0, kA2, kA3, kA4, kA5, kA6] ∧ w23[kO0]? = (some (qO0, .inr (14, [.int 0, .ref qA1, .int 0, .ref qA2, .ref qA3, .ref qA4, .ref qA5, .ref qA6, .int 19, .long 0, .int 0, .int 0, .ref qA7, .int 0, .ref qA8, .int 0, .ref qA9, .int 0, .ref qA10, .int 0, .int 2])) : Option (Nat × va_E)) ∧ w23[kA2]? = (some (qA2, .inl (g 0, 10000, .inl (fun _ => 0))) : Option (Nat × va_E)) ∧ w23[kA3]? = (some (qA3, .inl (g 0, 10, .inl (upd (upd (upd (upd (upd (upd (upd (upd (upd (upd (fun _ => 0) 0 1) 1 1) 2 1) 3 1) 4 1) 5 1) 6 1) 7 1) 8 1) 9 1))) : Option (Nat × va_E)) ∧ w23[kA4]? = (some (qA4, .inl (g 3, 10, .inl (fun _ => 0))) : Option (Nat × va_E)) ∧ w23[kA5]? = (some (qA5, .inl (g 0, 10, .inl (fun _ => 0))) : Option (Nat × va_E)) ∧ w23[kA6]? = (some (qA6, .inl (g 0, 4400, .inl z.2.2)) : Option (Nat × va_E))) (fun z => (z.1.toInt - (-1)).toNat) ?_ ((18 : Int32), (x2 : Int64), (fun _ => 0 : (Nat → Int32))) _ _ _ w18 ⟨⟨(by dsimp only; decide), (by dsimp only; decide)⟩, V, hl, hF, hO0, hA2, hA3, hA4, hA5, hA6⟩
    rintro ⟨lx20, lx21, lx22⟩ H locs ls w23 ⟨i24, V, hl, hF, hO0, hA2, hA3, hA4, hA5, hA6⟩ ih25
    replace i24 : (-1) ≤ lx20.toInt ∧ lx20.toInt ≤ 18 := i24
    replace hl : lv_has ls 10 [(7, .int lx20), (5, .long lx21), (0, .ref qO0), (1, .int x1), (2, .long x2), (4, .int 0)] := hl
    replace hO0 : w23[kO0]? = (some (qO0, .inr (14, [.int 0, .ref qA1, .int 0, .ref qA2, .ref qA3, .ref qA4, .ref qA5, .ref qA6, .int 19, .long 0, .int 0, .int 0, .ref qA7, .int 0, .ref qA8, .int 0, .ref qA9, .int 0, .ref qA10, .int 0, .int 2])) : Option (Nat × va_E)) := hO0
    replace hA2 : w23[kA2]? = (some (qA2, .inl (g 0, 10000, .inl (fun _ => 0))) : Option (Nat × va_E)) := hA2
    replace hA3 : w23[kA3]? = (some (qA3, .inl (g 0, 10, .inl (upd (upd (upd (upd (upd (upd (upd (upd (upd (upd (fun _ => 0) 0 1) 1 1) 2 1) 3 1) 4 1) 5 1) 6 1) 7 1) 8 1) 9 1))) : Option (Nat × va_E)) := hA3
    replace hA4 : w23[kA4]? = (some (qA4, .inl (g 3, 10, .inl (fun _ => 0))) : Option (Nat × va_E)) := hA4
    replace hA5 : w23[kA5]? = (some (qA5, .inl (g 0, 10, .inl (fun _ => 0))) : Option (Nat × va_E)) := hA5
    replace hA6 : w23[kA6]? = (some (qA6, .inl (g 0, 4400, .inl lx22)) : Option (Nat × va_E)) := hA6
    refine lv_iload hx hb d_15_22_69 (lv_at hl 0 rfl) ?_
    refine lv_if_lt (tgt := 119) hx hb d_15_22_71 (by decide) (fun c26 => ?_) (fun c26 => ?_)
    ·
      refine lv_aload_n hx hb d_15_22_119 rfl (lv_at hl 2 rfl) ?_
      refine lv_iload_n hx hb d_15_22_120 rfl (lv_at hl 3 rfl) ?_
      refine q_gov V (q_runV (As := [.int x1]) (rest := []) (d := 2) (mc := 0) (ms := 0) (ci := 14) C0 V rfl LV_DR_89 (c_DR_store_7 l D g w23 kO0 kA2 kA3 kA4 kA5 kA6 qO0 qA1 qA2 qA3 qA4 qA5 qA6 qA7 qA8 qA9 qA10 x1 lx22 hO0 hA2 hA3 hA4 hA5 hA6 n_A2_A3 n_A2_A4 n_A2_A5 n_A2_A6 n_A3_A4 n_A3_A5 n_A3_A6 n_A4_A5 n_A4_A6 n_A5_A6 x1lo x1hi _) rfl rfl hO0 rfl hl.1 rfl (Nat.le_of_ble_eq_true rfl) ⟨by decide, by decide⟩ ⟨Nat.le_of_ble_eq_true rfl, Nat.le_of_ble_eq_true rfl⟩ d_15_22_121) (fun u28 H locs hp27 V => ?_)
      rcases hp27 with ⟨hg29, hO0, hA2, hA3, hA4, hA5, hA6⟩ | ⟨y34, y35, y36, c30, c31, f32, f33, hg37, hO0, hA2, hA3, hA4, hA5, hA6⟩
      ·
        replace hF := q_uc hF hg29 (q_sc (.head _) (q_sc (.tail _ (.head _)) (q_sc (.tail _ (.tail _ (.head _))) (q_sc (List.mem_of_getElem? (i := 3) rfl) (q_sc (List.mem_of_getElem? (i := 4) rfl) (q_sc (List.mem_of_getElem? (i := 5) rfl) (fun _ h => absurd h List.not_mem_nil)))))))
        exact q_retv C0 V (Or.inl ⟨lx22, c11, hF, hO0, hA2, hA3, hA4, hA5, hA6⟩) d_15_22_124
      ·
        replace hF := q_uc hF hg37 (q_sc (.head _) (q_sc (.tail _ (.head _)) (q_sc (.tail _ (.tail _ (.head _))) (q_sc (List.mem_of_getElem? (i := 3) rfl) (q_sc (List.mem_of_getElem? (i := 4) rfl) (q_sc (List.mem_of_getElem? (i := 5) rfl) (fun _ h => absurd h List.not_mem_nil)))))))
        exact q_retv C0 V (Or.inr (Or.inl ⟨y34, y35, y36, c11, c30, f32, f33, hF, hO0, hA2, hA3, hA4, hA5, hA6⟩)) d_15_22_124
    ·
      refine lv_lload hx hb d_15_22_74 (lv_at hl 1 rfl) ?_
      refine q_ldc2 C0 rfl w_2407 d_15_22_76 ?_
      refine lv_lrem hx hb d_15_22_79 (by decide) ?_
      refine lv_lstore (lv' := [(8, .long (lx21 - lx21 / 10 * 10)), (7, .int lx20), (5, .long lx21), (0, .ref qO0), (1, .int x1), (2, .long x2), (4, .int 0)]) hx hb d_15_22_80 hl (by decide) rfl (fun ls hl => ?_)
      refine lv_aload_n hx hb d_15_22_82 rfl (lv_at hl 3 rfl) ?_
      refine q_get (ci := 14) (j := 7) (v := .ref qA6) C0 V i_DR rfl rfl hO0 (by decide) w_2010 rfl d_15_22_83 ?_
      refine lv_iload hx hb d_15_22_86 (lv_at hl 1 rfl) ?_
      refine lv_lload hx hb d_15_22_88 (lv_at hl 0 rfl) ?_
      refine lv_lconst (v := 0) hx hb d_15_22_90 (by decide) ?_
      refine W.lcmp hx hb d_15_22_91 ?_
      refine lv_if_ge (tgt := 101) hx hb d_15_22_92 (by decide) (fun c38 => ?_) (fun c38 => ?_)
      ·
        refine lv_lload hx hb d_15_22_101 (lv_at hl 0 rfl) ?_
        refine lv_l2i hx hb d_15_22_103 rfl ?_
        refine q_iast C0 V hA6 (q_ix (x := lx20.toInt) rfl (by have t1 : 0 ≤ lx20.toInt := q_nltI c26; omega) (by have t1 : 0 ≤ lx20.toInt := q_nltI c26; omega)) d_15_22_104 (fun H locs w39 hu40 hA6 V => ?_)
        replace hA6 : w39[kA6]? = (some (qA6, .inl (g 0, 4400, .inl (upd lx22 lx20.toNatClampNeg ((lx21 - lx21 / 10 * 10).toInt32)))) : Option (Nat × va_E)) := hA6
        replace hF := q_us hF hu40 (List.mem_of_getElem? (i := 5) rfl)
        refine lv_lload hx hb d_15_22_105 (lv_at hl 2 rfl) ?_
        refine q_ldc2 C0 rfl w_2407 d_15_22_107 ?_
        refine lv_ldiv hx hb d_15_22_110 (by decide) ?_
        refine lv_lstore (lv' := [(5, .long (lx21 / 10)), (8, .long (lx21 - lx21 / 10 * 10)), (7, .int lx20), (0, .ref qO0), (1, .int x1), (2, .long x2), (4, .int 0)]) hx hb d_15_22_111 hl (by decide) rfl (fun ls hl => ?_)
        refine lv_iinc (v := lx20 + (-1)) (lv' := [(7, .int (lx20 + (-1))), (5, .long (lx21 / 10)), (8, .long (lx21 - lx21 / 10 * 10)), (0, .ref qO0), (1, .int x1), (2, .long x2), (4, .int 0)]) hx hb d_15_22_113 hl (k := 2) rfl (rfl) (by decide) rfl (fun ls hl => ?_)
        refine lv_goto (tgt := 69) hx hb d_15_22_116 (by decide) ?_
        replace hO0 := (hu40 _ n_O0_A6).trans (hO0)
        replace hA2 := (hu40 _ n_A2_A6).trans (hA2)
        replace hA3 := (hu40 _ n_A3_A6).trans (hA3)
        replace hA4 := (hu40 _ n_A4_A6).trans (hA4)
        replace hA5 := (hu40 _ n_A5_A6).trans (hA5)
        exact ih25 ((lx20 + (-1) : Int32), (lx21 / 10 : Int64), (upd lx22 lx20.toNatClampNeg ((lx21 - lx21 / 10 * 10).toInt32) : Nat → Int32)) _ _ _ _ (show ((lx20 + (-1)).toInt - (-1)).toNat < (lx20.toInt - (-1)).toNat from by have t1 : 0 ≤ lx20.toInt := q_nltI c26; have e : (lx20 + (-1)).toInt = (lx20.toInt + (-1)) := (q_addI (x := lx20.toInt) (y := (-1)) rfl (by decide) (by have t1 : 0 ≤ lx20.toInt := q_nltI c26; omega) (by have t1 : 0 ≤ lx20.toInt := q_nltI c26; omega)); omega) ⟨(show (-1) ≤ (lx20 + (-1)).toInt ∧ (lx20 + (-1)).toInt ≤ 18 from by have t1 : 0 ≤ lx20.toInt := q_nltI c26; have e : (lx20 + (-1)).toInt = (lx20.toInt + (-1)) := (q_addI (x := lx20.toInt) (y := (-1)) rfl (by decide) (by have t1 : 0 ≤ lx20.toInt := q_nltI c26; omega) (by have t1 : 0 ≤ lx20.toInt := q_nltI c26; omega)); omega), V, q_lw hl (q_lw1 0 rfl (q_lw1 1 rfl (q_lw1 3 rfl (q_lw1 4 rfl (q_lw1 5 rfl (q_lw1 6 rfl q_lw0)))))), hF, hO0, hA2, hA3, hA4, hA5, hA6⟩
      ·
        refine lv_lload hx hb d_15_22_95 (lv_at hl 0 rfl) ?_
        refine lv_lneg hx hb d_15_22_97 ?_
        refine lv_goto (tgt := 103) hx hb d_15_22_98 (by decide) ?_
        refine lv_l2i hx hb d_15_22_103 rfl ?_
        refine q_iast C0 V hA6 (q_ix (x := lx20.toInt) rfl (by have t1 : 0 ≤ lx20.toInt := q_nltI c26; omega) (by have t1 : 0 ≤ lx20.toInt := q_nltI c26; omega)) d_15_22_104 (fun H locs w41 hu42 hA6 V => ?_)
        replace hA6 : w41[kA6]? = (some (qA6, .inl (g 0, 4400, .inl (upd lx22 lx20.toNatClampNeg ((-(lx21 - lx21 / 10 * 10)).toInt32)))) : Option (Nat × va_E)) := hA6
        replace hF := q_us hF hu42 (List.mem_of_getElem? (i := 5) rfl)
        refine lv_lload hx hb d_15_22_105 (lv_at hl 2 rfl) ?_
        refine q_ldc2 C0 rfl w_2407 d_15_22_107 ?_
        refine lv_ldiv hx hb d_15_22_110 (by decide) ?_
        refine lv_lstore (lv' := [(5, .long (lx21 / 10)), (8, .long (lx21 - lx21 / 10 * 10)), (7, .int lx20), (0, .ref qO0), (1, .int x1), (2, .long x2), (4, .int 0)]) hx hb d_15_22_111 hl (by decide) rfl (fun ls hl => ?_)
        refine lv_iinc (v := lx20 + (-1)) (lv' := [(7, .int (lx20 + (-1))), (5, .long (lx21 / 10)), (8, .long (lx21 - lx21 / 10 * 10)), (0, .ref qO0), (1, .int x1), (2, .long x2), (4, .int 0)]) hx hb d_15_22_113 hl (k := 2) rfl (rfl) (by decide) rfl (fun ls hl => ?_)
        refine lv_goto (tgt := 69) hx hb d_15_22_116 (by decide) ?_
        replace hO0 := (hu42 _ n_O0_A6).trans (hO0)
        replace hA2 := (hu42 _ n_A2_A6).trans (hA2)
        replace hA3 := (hu42 _ n_A3_A6).trans (hA3)
        replace hA4 := (hu42 _ n_A4_A6).trans (hA4)
        replace hA5 := (hu42 _ n_A5_A6).trans (hA5)
        exact ih25 ((lx20 + (-1) : Int32), (lx21 / 10 : Int64), (upd lx22 lx20.toNatClampNeg ((-(lx21 - lx21 / 10 * 10)).toInt32) : Nat → Int32)) _ _ _ _ (show ((lx20 + (-1)).toInt - (-1)).toNat < (lx20.toInt - (-1)).toNat from by have t1 : 0 ≤ lx20.toInt := q_nltI c26; have e : (lx20 + (-1)).toInt = (lx20.toInt + (-1)) := (q_addI (x := lx20.toInt) (y := (-1)) rfl (by decide) (by have t1 : 0 ≤ lx20.toInt := q_nltI c26; omega) (by have t1 : 0 ≤ lx20.toInt := q_nltI c26; omega)); omega) ⟨(show (-1) ≤ (lx20 + (-1)).toInt ∧ (lx20 + (-1)).toInt ≤ 18 from by have t1 : 0 ≤ lx20.toInt := q_nltI c26; have e : (lx20 + (-1)).toInt = (lx20.toInt + (-1)) := (q_addI (x := lx20.toInt) (y := (-1)) rfl (by decide) (by have t1 : 0 ≤ lx20.toInt := q_nltI c26; omega) (by have t1 : 0 ≤ lx20.toInt := q_nltI c26; omega)); omega), V, q_lw hl (q_lw1 0 rfl (q_lw1 1 rfl (q_lw1 3 rfl (q_lw1 4 rfl (q_lw1 5 rfl (q_lw1 6 rfl q_lw0)))))), hF, hO0, hA2, hA3, hA4, hA5, hA6⟩
  ·
    refine lv_iconst (v := 1) hx hb d_15_22_36 (by decide) ?_
    refine lv_goto (tgt := 41) hx hb d_15_22_37 (by decide) ?_
    refine q_put (ci := 14) (j := 11) (v := .int 1) (ty := .boolean) C0 V i_DR o_DR n_DR rfl rfl hO0 (by decide) w_2014 rfl rfl rfl rfl (Nat.le_of_ble_eq_true rfl) d_15_22_41 (fun H locs w43 hu44 hO0 V => ?_)
    replace hO0 : w43[kO0]? = (some (qO0, .inr (14, [.int 0, .ref qA1, .int 0, .ref qA2, .ref qA3, .ref qA4, .ref qA5, .ref qA6, .int 0, .long 0, .int 0, .int 1, .ref qA7, .int 0, .ref qA8, .int 0, .ref qA9, .int 0, .ref qA10, .int 0, .int 2])) : Option (Nat × va_E)) := hO0
    replace hF := q_us hF hu44 (.head _)
    refine lv_aload_n hx hb d_15_22_44 rfl (lv_at hl 0 rfl) ?_
    refine lv_iconst (v := 0) hx hb d_15_22_45 (by decide) ?_
    refine q_put (ci := 14) (j := 10) (v := .int 0) (ty := .boolean) C0 V i_DR o_DR n_DR rfl rfl hO0 (by decide) w_2013 rfl rfl rfl rfl (Nat.le_of_ble_eq_true rfl) d_15_22_46 (fun H locs w45 hu46 hO0 V => ?_)
    replace hO0 : w45[kO0]? = (some (qO0, .inr (14, [.int 0, .ref qA1, .int 0, .ref qA2, .ref qA3, .ref qA4, .ref qA5, .ref qA6, .int 0, .long 0, .int 0, .int 1, .ref qA7, .int 0, .ref qA8, .int 0, .ref qA9, .int 0, .ref qA10, .int 0, .int 2])) : Option (Nat × va_E)) := hO0
    replace hF := q_us hF hu46 (.head _)
    refine lv_aload_n hx hb d_15_22_49 rfl (lv_at hl 0 rfl) ?_
    refine lv_iload hx hb d_15_22_50 (lv_at hl 3 rfl) ?_
    refine lv_i2l hx hb d_15_22_52 rfl ?_
    refine q_tl (v := 0) (by decide) ?_
    refine q_put (ci := 14) (j := 9) (v := .long 0) (ty := .long) C0 V i_DR o_DR n_DR rfl rfl hO0 (by decide) w_2012 rfl rfl rfl rfl (Nat.le_of_ble_eq_true rfl) d_15_22_53 (fun H locs w47 hu48 hO0 V => ?_)
    replace hO0 : w47[kO0]? = (some (qO0, .inr (14, [.int 0, .ref qA1, .int 0, .ref qA2, .ref qA3, .ref qA4, .ref qA5, .ref qA6, .int 0, .long 0, .int 0, .int 1, .ref qA7, .int 0, .ref qA8, .int 0, .ref qA9, .int 0, .ref qA10, .int 0, .int 2])) : Option (Nat × va_E)) := hO0
    replace hF := q_us hF hu48 (.head _)
    refine lv_aload_n hx hb d_15_22_56 rfl (lv_at hl 0 rfl) ?_
    refine lv_bipush (v := 19) hx hb d_15_22_57 (by decide) ?_
    refine q_put (ci := 14) (j := 8) (v := .int 19) (ty := .int) C0 V i_DR o_DR n_DR rfl rfl hO0 (by decide) w_2011 rfl rfl rfl rfl (Nat.le_of_ble_eq_true rfl) d_15_22_59 (fun H locs w49 hu50 hO0 V => ?_)
    replace hO0 : w49[kO0]? = (some (qO0, .inr (14, [.int 0, .ref qA1, .int 0, .ref qA2, .ref qA3, .ref qA4, .ref qA5, .ref qA6, .int 19, .long 0, .int 0, .int 1, .ref qA7, .int 0, .ref qA8, .int 0, .ref qA9, .int 0, .ref qA10, .int 0, .int 2])) : Option (Nat × va_E)) := hO0
    replace hF := q_us hF hu50 (.head _)
    refine lv_lload_n hx hb d_15_22_62 rfl (lv_at hl 2 rfl) ?_
    refine lv_lstore (lv' := [(5, .long x2), (0, .ref qO0), (1, .int x1), (2, .long x2), (4, .int 0)]) hx hb d_15_22_63 hl (by decide) rfl (fun ls hl => ?_)
    refine lv_bipush (v := 18) hx hb d_15_22_65 (by decide) ?_
    refine lv_istore (lv' := [(7, .int 18), (5, .long x2), (0, .ref qO0), (1, .int x1), (2, .long x2), (4, .int 0)]) hx hb d_15_22_67 hl (by decide) rfl (fun ls hl => ?_)
    replace hA6 := (hu50 _ n_A6_O0).trans ((hu48 _ n_A6_O0).trans ((hu46 _ n_A6_O0).trans ((hu44 _ n_A6_O0).trans ((hu10 _ n_A6_O0).trans ((hu7 _ n_A6_O0).trans (hA6))))))
    replace hA2 := (hu50 _ n_A2_O0).trans ((hu48 _ n_A2_O0).trans ((hu46 _ n_A2_O0).trans ((hu44 _ n_A2_O0).trans ((hu10 _ n_A2_O0).trans ((hu7 _ n_A2_O0).trans (hA2))))))
    replace hA3 := (hu50 _ n_A3_O0).trans ((hu48 _ n_A3_O0).trans ((hu46 _ n_A3_O0).trans ((hu44 _ n_A3_O0).trans ((hu10 _ n_A3_O0).trans ((hu7 _ n_A3_O0).trans (hA3))))))
    replace hA4 := (hu50 _ n_A4_O0).trans ((hu48 _ n_A4_O0).trans ((hu46 _ n_A4_O0).trans ((hu44 _ n_A4_O0).trans ((hu10 _ n_A4_O0).trans ((hu7 _ n_A4_O0).trans (hA4))))))
    replace hA5 := (hu50 _ n_A5_O0).trans ((hu48 _ n_A5_O0).trans ((hu46 _ n_A5_O0).trans ((hu44 _ n_A5_O0).trans ((hu10 _ n_A5_O0).trans ((hu7 _ n_A5_O0).trans (hA5))))))
    refine q_loop (X := Int32 × Int64 × (Nat → Int32)) (fun z H locs ls w54 => ((-1) ≤ z.1.toInt ∧ z.1.toInt ≤ 18) ∧ q_Wd D g (va_A ws sz) s w54 H locs ∧ lv_has ls 10 [(7, .int z.1), (5, .long z.2.1), (0, .ref qO0), (1, .int x1), (2, .long x2), (4, .int 0)] ∧ q_un ws w54 [kO0, kA2, kA3, kA4, kA5, kA6] ∧ w54[kO0]? = (some (qO0, .inr (14, [.int 0, .ref qA1, .int 0, .ref qA2, .ref qA3, .ref qA4, .ref qA5, .ref qA6, .int 19, .long 0, .int 0, .int 1, .ref qA7, .int 0, .ref qA8, .int 0, .ref qA9, .int 0, .ref qA10, .int 0, .int 2])) : Option (Nat × va_E)) ∧ w54[kA2]? = (some (qA2, .inl (g 0, 10000, .inl (fun _ => 0))) : Option (Nat × va_E)) ∧ w54[kA3]? = (some (qA3, .inl (g 0, 10, .inl (upd (upd (upd (upd (upd (upd (upd (upd (upd (upd (fun _ => 0) 0 1) 1 1) 2 1) 3 1) 4 1) 5 1) 6 1) 7 1) 8 1) 9 1))) : Option (Nat × va_E)) ∧ w54[kA4]? = (some (qA4, .inl (g 3, 10, .inl (fun _ => 0))) : Option (Nat × va_E)) ∧ w54[kA5]? = (some (qA5, .inl (g 0, 10, .inl (fun _ => 0))) : Option (Nat × va_E)) ∧ w54[kA6]? = (some (qA6, .inl (g 0, 4400, .inl z.2.2)) : Option (Nat × va_E))) (fun z => (z.1.toInt - (-1)).toNat) ?_ ((18 : Int32), (x2 : Int64), (fun _ => 0 : (Nat → Int32))) _ _ _ w49 ⟨⟨(by dsimp only; decide), (by dsimp only; decide)⟩, V, hl, hF, hO0, hA2, hA3, hA4, hA5, hA6⟩
    rintro ⟨lx51, lx52, lx53⟩ H locs ls w54 ⟨i55, V, hl, hF, hO0, hA2, hA3, hA4, hA5, hA6⟩ ih56
    replace i55 : (-1) ≤ lx51.toInt ∧ lx51.toInt ≤ 18 := i55
    replace hl : lv_has ls 10 [(7, .int lx51), (5, .long lx52), (0, .ref qO0), (1, .int x1), (2, .long x2), (4, .int 0)] := hl
    replace hO0 : w54[kO0]? = (some (qO0, .inr (14, [.int 0, .ref qA1, .int 0, .ref qA2, .ref qA3, .ref qA4, .ref qA5, .ref qA6, .int 19, .long 0, .int 0, .int 1, .ref qA7, .int 0, .ref qA8, .int 0, .ref qA9, .int 0, .ref qA10, .int 0, .int 2])) : Option (Nat × va_E)) := hO0
    replace hA2 : w54[kA2]? = (some (qA2, .inl (g 0, 10000, .inl (fun _ => 0))) : Option (Nat × va_E)) := hA2
    replace hA3 : w54[kA3]? = (some (qA3, .inl (g 0, 10, .inl (upd (upd (upd (upd (upd (upd (upd (upd (upd (upd (fun _ => 0) 0 1) 1 1) 2 1) 3 1) 4 1) 5 1) 6 1) 7 1) 8 1) 9 1))) : Option (Nat × va_E)) := hA3
    replace hA4 : w54[kA4]? = (some (qA4, .inl (g 3, 10, .inl (fun _ => 0))) : Option (Nat × va_E)) := hA4
    replace hA5 : w54[kA5]? = (some (qA5, .inl (g 0, 10, .inl (fun _ => 0))) : Option (Nat × va_E)) := hA5
    replace hA6 : w54[kA6]? = (some (qA6, .inl (g 0, 4400, .inl lx53)) : Option (Nat × va_E)) := hA6
    refine lv_iload hx hb d_15_22_69 (lv_at hl 0 rfl) ?_
    refine lv_if_lt (tgt := 119) hx hb d_15_22_71 (by decide) (fun c57 => ?_) (fun c57 => ?_)
    ·
      refine lv_aload_n hx hb d_15_22_119 rfl (lv_at hl 2 rfl) ?_
      refine lv_iload_n hx hb d_15_22_120 rfl (lv_at hl 3 rfl) ?_
      refine q_gov V (q_runV (As := [.int x1]) (rest := []) (d := 2) (mc := 0) (ms := 0) (ci := 14) C0 V rfl LV_DR_89 (c_DR_store_8 l D g w54 kO0 kA2 kA3 kA4 kA5 kA6 qO0 qA1 qA2 qA3 qA4 qA5 qA6 qA7 qA8 qA9 qA10 x1 lx53 hO0 hA2 hA3 hA4 hA5 hA6 n_A2_A3 n_A2_A4 n_A2_A5 n_A2_A6 n_A3_A4 n_A3_A5 n_A3_A6 n_A4_A5 n_A4_A6 n_A5_A6 x1lo x1hi _) rfl rfl hO0 rfl hl.1 rfl (Nat.le_of_ble_eq_true rfl) ⟨by decide, by decide⟩ ⟨Nat.le_of_ble_eq_true rfl, Nat.le_of_ble_eq_true rfl⟩ d_15_22_121) (fun u59 H locs hp58 V => ?_)
      rcases hp58 with ⟨c60, hg61, hO0, hA2, hA3, hA4, hA5, hA6⟩ | ⟨c62, hg63, hO0, hA2, hA3, hA4, hA5, hA6⟩ | ⟨y69, y70, y71, c64, c65, c66, f67, f68, hg72, hO0, hA2, hA3, hA4, hA5, hA6⟩ | ⟨y78, y79, y80, c73, c74, c75, f76, f77, hg81, hO0, hA2, hA3, hA4, hA5, hA6⟩
      ·
        replace hF := q_uc hF hg61 (q_sc (.head _) (q_sc (.tail _ (.head _)) (q_sc (.tail _ (.tail _ (.head _))) (q_sc (List.mem_of_getElem? (i := 3) rfl) (q_sc (List.mem_of_getElem? (i := 4) rfl) (q_sc (List.mem_of_getElem? (i := 5) rfl) (fun _ h => absurd h List.not_mem_nil)))))))
        exact q_retv C0 V (Or.inr (Or.inr (Or.inl ⟨lx53, c11, c60, hF, hO0, hA2, hA3, hA4, hA5, hA6⟩))) d_15_22_124
      ·
        replace hF := q_uc hF hg63 (q_sc (.head _) (q_sc (.tail _ (.head _)) (q_sc (.tail _ (.tail _ (.head _))) (q_sc (List.mem_of_getElem? (i := 3) rfl) (q_sc (List.mem_of_getElem? (i := 4) rfl) (q_sc (List.mem_of_getElem? (i := 5) rfl) (fun _ h => absurd h List.not_mem_nil)))))))
        exact q_retv C0 V (Or.inr (Or.inr (Or.inr (Or.inl ⟨lx53, c11, c62, hF, hO0, hA2, hA3, hA4, hA5, hA6⟩)))) d_15_22_124
      ·
        replace hF := q_uc hF hg72 (q_sc (.head _) (q_sc (.tail _ (.head _)) (q_sc (.tail _ (.tail _ (.head _))) (q_sc (List.mem_of_getElem? (i := 3) rfl) (q_sc (List.mem_of_getElem? (i := 4) rfl) (q_sc (List.mem_of_getElem? (i := 5) rfl) (fun _ h => absurd h List.not_mem_nil)))))))
        exact q_retv C0 V (Or.inr (Or.inr (Or.inr (Or.inr (Or.inl ⟨y69, y70, y71, c11, c64, c66, f67, f68, hF, hO0, hA2, hA3, hA4, hA5, hA6⟩))))) d_15_22_124
      ·
        replace hF := q_uc hF hg81 (q_sc (.head _) (q_sc (.tail _ (.head _)) (q_sc (.tail _ (.tail _ (.head _))) (q_sc (List.mem_of_getElem? (i := 3) rfl) (q_sc (List.mem_of_getElem? (i := 4) rfl) (q_sc (List.mem_of_getElem? (i := 5) rfl) (fun _ h => absurd h List.not_mem_nil)))))))
        exact q_retv C0 V (Or.inr (Or.inr (Or.inr (Or.inr (Or.inr (⟨y78, y79, y80, c11, c73, c75, f76, f77, hF, hO0, hA2, hA3, hA4, hA5, hA6⟩)))))) d_15_22_124
    ·
      refine lv_lload hx hb d_15_22_74 (lv_at hl 1 rfl) ?_
      refine q_ldc2 C0 rfl w_2407 d_15_22_76 ?_
      refine lv_lrem hx hb d_15_22_79 (by decide) ?_
      refine lv_lstore (lv' := [(8, .long (lx52 - lx52 / 10 * 10)), (7, .int lx51), (5, .long lx52), (0, .ref qO0), (1, .int x1), (2, .long x2), (4, .int 0)]) hx hb d_15_22_80 hl (by decide) rfl (fun ls hl => ?_)
      refine lv_aload_n hx hb d_15_22_82 rfl (lv_at hl 3 rfl) ?_
      refine q_get (ci := 14) (j := 7) (v := .ref qA6) C0 V i_DR rfl rfl hO0 (by decide) w_2010 rfl d_15_22_83 ?_
      refine lv_iload hx hb d_15_22_86 (lv_at hl 1 rfl) ?_
      refine lv_lload hx hb d_15_22_88 (lv_at hl 0 rfl) ?_
      refine lv_lconst (v := 0) hx hb d_15_22_90 (by decide) ?_
      refine W.lcmp hx hb d_15_22_91 ?_
      refine lv_if_ge (tgt := 101) hx hb d_15_22_92 (by decide) (fun c82 => ?_) (fun c82 => ?_)
      ·
        refine lv_lload hx hb d_15_22_101 (lv_at hl 0 rfl) ?_
        refine lv_l2i hx hb d_15_22_103 rfl ?_
        refine q_iast C0 V hA6 (q_ix (x := lx51.toInt) rfl (by have t1 : 0 ≤ lx51.toInt := q_nltI c57; omega) (by have t1 : 0 ≤ lx51.toInt := q_nltI c57; omega)) d_15_22_104 (fun H locs w83 hu84 hA6 V => ?_)
        replace hA6 : w83[kA6]? = (some (qA6, .inl (g 0, 4400, .inl (upd lx53 lx51.toNatClampNeg ((lx52 - lx52 / 10 * 10).toInt32)))) : Option (Nat × va_E)) := hA6
        replace hF := q_us hF hu84 (List.mem_of_getElem? (i := 5) rfl)
        refine lv_lload hx hb d_15_22_105 (lv_at hl 2 rfl) ?_
        refine q_ldc2 C0 rfl w_2407 d_15_22_107 ?_
        refine lv_ldiv hx hb d_15_22_110 (by decide) ?_
        refine lv_lstore (lv' := [(5, .long (lx52 / 10)), (8, .long (lx52 - lx52 / 10 * 10)), (7, .int lx51), (0, .ref qO0), (1, .int x1), (2, .long x2), (4, .int 0)]) hx hb d_15_22_111 hl (by decide) rfl (fun ls hl => ?_)
        refine lv_iinc (v := lx51 + (-1)) (lv' := [(7, .int (lx51 + (-1))), (5, .long (lx52 / 10)), (8, .long (lx52 - lx52 / 10 * 10)), (0, .ref qO0), (1, .int x1), (2, .long x2), (4, .int 0)]) hx hb d_15_22_113 hl (k := 2) rfl (rfl) (by decide) rfl (fun ls hl => ?_)
        refine lv_goto (tgt := 69) hx hb d_15_22_116 (by decide) ?_
        replace hO0 := (hu84 _ n_O0_A6).trans (hO0)
        replace hA2 := (hu84 _ n_A2_A6).trans (hA2)
        replace hA3 := (hu84 _ n_A3_A6).trans (hA3)
        replace hA4 := (hu84 _ n_A4_A6).trans (hA4)
        replace hA5 := (hu84 _ n_A5_A6).trans (hA5)
        exact ih56 ((lx51 + (-1) : Int32), (lx52 / 10 : Int64), (upd lx53 lx51.toNatClampNeg ((lx52 - lx52 / 10 * 10).toInt32) : Nat → Int32)) _ _ _ _ (show ((lx51 + (-1)).toInt - (-1)).toNat < (lx51.toInt - (-1)).toNat from by have t1 : 0 ≤ lx51.toInt := q_nltI c57; have e : (lx51 + (-1)).toInt = (lx51.toInt + (-1)) := (q_addI (x := lx51.toInt) (y := (-1)) rfl (by decide) (by have t1 : 0 ≤ lx51.toInt := q_nltI c57; omega) (by have t1 : 0 ≤ lx51.toInt := q_nltI c57; omega)); omega) ⟨(show (-1) ≤ (lx51 + (-1)).toInt ∧ (lx51 + (-1)).toInt ≤ 18 from by have t1 : 0 ≤ lx51.toInt := q_nltI c57; have e : (lx51 + (-1)).toInt = (lx51.toInt + (-1)) := (q_addI (x := lx51.toInt) (y := (-1)) rfl (by decide) (by have t1 : 0 ≤ lx51.toInt := q_nltI c57; omega) (by have t1 : 0 ≤ lx51.toInt := q_nltI c57; omega)); omega), V, q_lw hl (q_lw1 0 rfl (q_lw1 1 rfl (q_lw1 3 rfl (q_lw1 4 rfl (q_lw1 5 rfl (q_lw1 6 rfl q_lw0)))))), hF, hO0, hA2, hA3, hA4, hA5, hA6⟩
      ·
        refine lv_lload hx hb d_15_22_95 (lv_at hl 0 rfl) ?_
        refine lv_lneg hx hb d_15_22_97 ?_
        refine lv_goto (tgt := 103) hx hb d_15_22_98 (by decide) ?_
        refine lv_l2i hx hb d_15_22_103 rfl ?_
        refine q_iast C0 V hA6 (q_ix (x := lx51.toInt) rfl (by have t1 : 0 ≤ lx51.toInt := q_nltI c57; omega) (by have t1 : 0 ≤ lx51.toInt := q_nltI c57; omega)) d_15_22_104 (fun H locs w85 hu86 hA6 V => ?_)
        replace hA6 : w85[kA6]? = (some (qA6, .inl (g 0, 4400, .inl (upd lx53 lx51.toNatClampNeg ((-(lx52 - lx52 / 10 * 10)).toInt32)))) : Option (Nat × va_E)) := hA6
        replace hF := q_us hF hu86 (List.mem_of_getElem? (i := 5) rfl)
        refine lv_lload hx hb d_15_22_105 (lv_at hl 2 rfl) ?_
        refine q_ldc2 C0 rfl w_2407 d_15_22_107 ?_
        refine lv_ldiv hx hb d_15_22_110 (by decide) ?_
        refine lv_lstore (lv' := [(5, .long (lx52 / 10)), (8, .long (lx52 - lx52 / 10 * 10)), (7, .int lx51), (0, .ref qO0), (1, .int x1), (2, .long x2), (4, .int 0)]) hx hb d_15_22_111 hl (by decide) rfl (fun ls hl => ?_)
        refine lv_iinc (v := lx51 + (-1)) (lv' := [(7, .int (lx51 + (-1))), (5, .long (lx52 / 10)), (8, .long (lx52 - lx52 / 10 * 10)), (0, .ref qO0), (1, .int x1), (2, .long x2), (4, .int 0)]) hx hb d_15_22_113 hl (k := 2) rfl (rfl) (by decide) rfl (fun ls hl => ?_)
        refine lv_goto (tgt := 69) hx hb d_15_22_116 (by decide) ?_
        replace hO0 := (hu86 _ n_O0_A6).trans (hO0)
        replace hA2 := (hu86 _ n_A2_A6).trans (hA2)
        replace hA3 := (hu86 _ n_A3_A6).trans (hA3)
        replace hA4 := (hu86 _ n_A4_A6).trans (hA4)
        replace hA5 := (hu86 _ n_A5_A6).trans (hA5)
        exact ih56 ((lx51 + (-1) : Int32), (lx52 / 10 : Int64), (upd lx53 lx51.toNatClampNeg ((-(lx52 - lx52 / 10 * 10)).toInt32) : Nat → Int32)) _ _ _ _ (show ((lx51 + (-1)).toInt - (-1)).toNat < (lx51.toInt - (-1)).toNat from by have t1 : 0 ≤ lx51.toInt := q_nltI c57; have e : (lx51 + (-1)).toInt = (lx51.toInt + (-1)) := (q_addI (x := lx51.toInt) (y := (-1)) rfl (by decide) (by have t1 : 0 ≤ lx51.toInt := q_nltI c57; omega) (by have t1 : 0 ≤ lx51.toInt := q_nltI c57; omega)); omega) ⟨(show (-1) ≤ (lx51 + (-1)).toInt ∧ (lx51 + (-1)).toInt ≤ 18 from by have t1 : 0 ≤ lx51.toInt := q_nltI c57; have e : (lx51 + (-1)).toInt = (lx51.toInt + (-1)) := (q_addI (x := lx51.toInt) (y := (-1)) rfl (by decide) (by have t1 : 0 ≤ lx51.toInt := q_nltI c57; omega) (by have t1 : 0 ≤ lx51.toInt := q_nltI c57; omega)); omega), V, q_lw hl (q_lw1 0 rfl (q_lw1 1 rfl (q_lw1 3 rfl (q_lw1 4 rfl (q_lw1 5 rfl (q_lw1 6 rfl q_lw0)))))), hF, hO0, hA2, hA3, hA4, hA5, hA6⟩
