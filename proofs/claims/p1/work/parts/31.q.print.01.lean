set_option maxRecDepth 100000 in
set_option maxHeartbeats 4000000 in
theorem c_NM_show_4 (l : Launch) (D : va_G) (g : Nat → ClassId) (ws : va_W) ( qO0 qA1 qA2 qA3 qO4 qO5 qO6 qO7 qO8 qA9 qA10 : Nat) (x1 : Int32) (f2 : Nat → Int32) (hO0 : ws[116]? = (some (qO0, .inr (12, [.int 0, .ref qA2, .int 0, .ref qA3, .int 0, .ref qO4, .ref qO5, .ref qO6, .ref qO7, .ref qO8, .ref qA9, .ref qA10])) : Option (Nat × va_E))) (hA1 : ws[152]? = (some (qA1, .inl (g 0, 1600, .inl f2)) : Option (Nat × va_E))) (hA3 : ws[118]? = (some (qA3, .inl (g 0, 12200, .inl (fun _ => 0))) : Option (Nat × va_E))) (x1lo : 7 ≤ x1) (x1hi : x1 ≤ 7) : q_mI l y_NM_show prog_14_method_5_code 4 (.int) 1 0 0 D g [.ref qO0, .ref qA1, .int x1] ws (fun r u => 7 = r ∧ q_un ws u [116, 118] ∧ u[116]? = (some (qO0, .inr (12, [.int 0, .ref qA2, .int 0, .ref qA3, .int 7, .ref qO4, .ref qO5, .ref qO6, .ref qO7, .ref qO8, .ref qA9, .ref qA10])) : Option (Nat × va_E)) ∧ u[118]? = (some (qA3, .inl (g 0, 12200, .inl (upd (upd (upd (upd (upd (upd (upd (fun _ => 0) 0 (f2 (0 : Int32).toNatClampNeg)) 1 (f2 (1 : Int32).toNatClampNeg)) 2 (f2 (2 : Int32).toNatClampNeg)) 3 (f2 (3 : Int32).toNatClampNeg)) 4 (f2 (4 : Int32).toNatClampNeg)) 5 (f2 (5 : Int32).toNatClampNeg)) 6 (f2 (6 : Int32).toNatClampNeg)))) : Option (Nat × va_E))) := by
  intro sz
  refine q_into (by decide) (Nat.le_of_ble_eq_true rfl) ?_
  intro p e s m below meth c ls hsz C0 V hl
  have hx := C0.1
  have hb := C0.2.1
  have hl : lv_has ls 4 [(0, .ref qO0), (1, .ref qA1), (2, .int x1)] := hl
  have hF : q_un ws ws [116, 118] := q_u0
  refine lv_iconst (v := 0) hx hb d_14_5_0 (by decide) ?_
  refine lv_istore_n (lv' := [(3, .int 0), (0, .ref qO0), (1, .ref qA1), (2, .int x1)]) hx hb d_14_5_1 rfl hl (by decide) rfl (fun ls hl => ?_)
  refine lv_iload_n hx hb d_14_5_2 rfl (lv_at hl 0 rfl) ?_
  refine lv_iload_n hx hb d_14_5_3 rfl (lv_at hl 3 rfl) ?_
  refine q_ti (v := 7) (q_Ieq (x := x1.toInt) (y := 7) rfl (by decide) (by have t1 : 7 ≤ x1.toInt := q_leI x1lo; have t2 : x1.toInt ≤ 7 := q_leI x1hi; omega)) ?_
  refine lv_icmp_ge (tgt := 22) hx hb d_14_5_4 (by decide) (fun c1 => absurd c1 (by decide)) (fun c1 => ?_)
  refine lv_aload_n hx hb d_14_5_7 rfl (lv_at hl 1 rfl) ?_
  refine q_get (ci := 12) (j := 3) (v := .ref qA3) C0 V i_NM rfl rfl hO0 (by decide) w_2301 rfl d_14_5_8 ?_
  refine lv_iload_n hx hb d_14_5_11 rfl (lv_at hl 0 rfl) ?_
  refine lv_aload_n hx hb d_14_5_12 rfl (lv_at hl 2 rfl) ?_
  refine lv_iload_n hx hb d_14_5_13 rfl (lv_at hl 0 rfl) ?_
  refine q_iald C0 V hA1 (by unfold vp_in; decide) d_14_5_14 ?_
  refine q_iast C0 V hA3 (by unfold vp_in; decide) d_14_5_15 (fun H locs w2 hu3 hA3 V => ?_)
  replace hA3 : w2[118]? = (some (qA3, .inl (g 0, 12200, .inl (upd (fun _ => 0) 0 (f2 (0 : Int32).toNatClampNeg)))) : Option (Nat × va_E)) := hA3
  replace hF := q_us hF hu3 (.tail _ (.head _))
  refine lv_iinc (v := 1) (lv' := [(3, .int 1), (0, .ref qO0), (1, .ref qA1), (2, .int x1)]) hx hb d_14_5_16 hl (k := 0) rfl (by decide) (by decide) rfl (fun ls hl => ?_)
  refine lv_goto (tgt := 2) hx hb d_14_5_19 (by decide) ?_
  refine lv_iload_n hx hb d_14_5_2 rfl (lv_at hl 0 rfl) ?_
  refine lv_iload_n hx hb d_14_5_3 rfl (lv_at hl 3 rfl) ?_
  refine q_ti (v := 7) (q_Ieq (x := x1.toInt) (y := 7) rfl (by decide) (by have t1 : 7 ≤ x1.toInt := q_leI x1lo; have t2 : x1.toInt ≤ 7 := q_leI x1hi; omega)) ?_
  refine lv_icmp_ge (tgt := 22) hx hb d_14_5_4 (by decide) (fun c4 => absurd c4 (by decide)) (fun c4 => ?_)
  refine lv_aload_n hx hb d_14_5_7 rfl (lv_at hl 1 rfl) ?_
  replace hO0 := (hu3 _ (q_pd 116 118 rfl)).trans (hO0)
  refine q_get (ci := 12) (j := 3) (v := .ref qA3) C0 V i_NM rfl rfl hO0 (by decide) w_2301 rfl d_14_5_8 ?_
  refine lv_iload_n hx hb d_14_5_11 rfl (lv_at hl 0 rfl) ?_
  refine lv_aload_n hx hb d_14_5_12 rfl (lv_at hl 2 rfl) ?_
  refine lv_iload_n hx hb d_14_5_13 rfl (lv_at hl 0 rfl) ?_
  replace hA1 := (hu3 _ (q_pd 152 118 rfl)).trans (hA1)
  refine q_iald C0 V hA1 (by unfold vp_in; decide) d_14_5_14 ?_
  refine q_iast C0 V hA3 (by unfold vp_in; decide) d_14_5_15 (fun H locs w5 hu6 hA3 V => ?_)
  replace hA3 : w5[118]? = (some (qA3, .inl (g 0, 12200, .inl (upd (upd (fun _ => 0) 0 (f2 (0 : Int32).toNatClampNeg)) 1 (f2 (1 : Int32).toNatClampNeg)))) : Option (Nat × va_E)) := hA3
  replace hF := q_us hF hu6 (.tail _ (.head _))
  refine lv_iinc (v := 2) (lv' := [(3, .int 2), (0, .ref qO0), (1, .ref qA1), (2, .int x1)]) hx hb d_14_5_16 hl (k := 0) rfl (by decide) (by decide) rfl (fun ls hl => ?_)
  refine lv_goto (tgt := 2) hx hb d_14_5_19 (by decide) ?_
  refine lv_iload_n hx hb d_14_5_2 rfl (lv_at hl 0 rfl) ?_
  refine lv_iload_n hx hb d_14_5_3 rfl (lv_at hl 3 rfl) ?_
  refine q_ti (v := 7) (q_Ieq (x := x1.toInt) (y := 7) rfl (by decide) (by have t1 : 7 ≤ x1.toInt := q_leI x1lo; have t2 : x1.toInt ≤ 7 := q_leI x1hi; omega)) ?_
  refine lv_icmp_ge (tgt := 22) hx hb d_14_5_4 (by decide) (fun c7 => absurd c7 (by decide)) (fun c7 => ?_)
  refine lv_aload_n hx hb d_14_5_7 rfl (lv_at hl 1 rfl) ?_
  replace hO0 := (hu6 _ (q_pd 116 118 rfl)).trans (hO0)
  refine q_get (ci := 12) (j := 3) (v := .ref qA3) C0 V i_NM rfl rfl hO0 (by decide) w_2301 rfl d_14_5_8 ?_
  refine lv_iload_n hx hb d_14_5_11 rfl (lv_at hl 0 rfl) ?_
  refine lv_aload_n hx hb d_14_5_12 rfl (lv_at hl 2 rfl) ?_
  refine lv_iload_n hx hb d_14_5_13 rfl (lv_at hl 0 rfl) ?_
  replace hA1 := (hu6 _ (q_pd 152 118 rfl)).trans (hA1)
  refine q_iald C0 V hA1 (by unfold vp_in; decide) d_14_5_14 ?_
  refine q_iast C0 V hA3 (by unfold vp_in; decide) d_14_5_15 (fun H locs w8 hu9 hA3 V => ?_)
  replace hA3 : w8[118]? = (some (qA3, .inl (g 0, 12200, .inl (upd (upd (upd (fun _ => 0) 0 (f2 (0 : Int32).toNatClampNeg)) 1 (f2 (1 : Int32).toNatClampNeg)) 2 (f2 (2 : Int32).toNatClampNeg)))) : Option (Nat × va_E)) := hA3
  replace hF := q_us hF hu9 (.tail _ (.head _))
  refine lv_iinc (v := 3) (lv' := [(3, .int 3), (0, .ref qO0), (1, .ref qA1), (2, .int x1)]) hx hb d_14_5_16 hl (k := 0) rfl (by decide) (by decide) rfl (fun ls hl => ?_)
  refine lv_goto (tgt := 2) hx hb d_14_5_19 (by decide) ?_
  refine lv_iload_n hx hb d_14_5_2 rfl (lv_at hl 0 rfl) ?_
  refine lv_iload_n hx hb d_14_5_3 rfl (lv_at hl 3 rfl) ?_
  refine q_ti (v := 7) (q_Ieq (x := x1.toInt) (y := 7) rfl (by decide) (by have t1 : 7 ≤ x1.toInt := q_leI x1lo; have t2 : x1.toInt ≤ 7 := q_leI x1hi; omega)) ?_
  refine lv_icmp_ge (tgt := 22) hx hb d_14_5_4 (by decide) (fun c10 => absurd c10 (by decide)) (fun c10 => ?_)
  refine lv_aload_n hx hb d_14_5_7 rfl (lv_at hl 1 rfl) ?_
  replace hO0 := (hu9 _ (q_pd 116 118 rfl)).trans (hO0)
  refine q_get (ci := 12) (j := 3) (v := .ref qA3) C0 V i_NM rfl rfl hO0 (by decide) w_2301 rfl d_14_5_8 ?_
  refine lv_iload_n hx hb d_14_5_11 rfl (lv_at hl 0 rfl) ?_
  refine lv_aload_n hx hb d_14_5_12 rfl (lv_at hl 2 rfl) ?_
  refine lv_iload_n hx hb d_14_5_13 rfl (lv_at hl 0 rfl) ?_
  replace hA1 := (hu9 _ (q_pd 152 118 rfl)).trans (hA1)
  refine q_iald C0 V hA1 (by unfold vp_in; decide) d_14_5_14 ?_
  refine q_iast C0 V hA3 (by unfold vp_in; decide) d_14_5_15 (fun H locs w11 hu12 hA3 V => ?_)
  replace hA3 : w11[118]? = (some (qA3, .inl (g 0, 12200, .inl (upd (upd (upd (upd (fun _ => 0) 0 (f2 (0 : Int32).toNatClampNeg)) 1 (f2 (1 : Int32).toNatClampNeg)) 2 (f2 (2 : Int32).toNatClampNeg)) 3 (f2 (3 : Int32).toNatClampNeg)))) : Option (Nat × va_E)) := hA3
  replace hF := q_us hF hu12 (.tail _ (.head _))
  refine lv_iinc (v := 4) (lv' := [(3, .int 4), (0, .ref qO0), (1, .ref qA1), (2, .int x1)]) hx hb d_14_5_16 hl (k := 0) rfl (by decide) (by decide) rfl (fun ls hl => ?_)
  refine lv_goto (tgt := 2) hx hb d_14_5_19 (by decide) ?_
  refine lv_iload_n hx hb d_14_5_2 rfl (lv_at hl 0 rfl) ?_
  refine lv_iload_n hx hb d_14_5_3 rfl (lv_at hl 3 rfl) ?_
  refine q_ti (v := 7) (q_Ieq (x := x1.toInt) (y := 7) rfl (by decide) (by have t1 : 7 ≤ x1.toInt := q_leI x1lo; have t2 : x1.toInt ≤ 7 := q_leI x1hi; omega)) ?_
  refine lv_icmp_ge (tgt := 22) hx hb d_14_5_4 (by decide) (fun c13 => absurd c13 (by decide)) (fun c13 => ?_)
  refine lv_aload_n hx hb d_14_5_7 rfl (lv_at hl 1 rfl) ?_
  replace hO0 := (hu12 _ (q_pd 116 118 rfl)).trans (hO0)
  refine q_get (ci := 12) (j := 3) (v := .ref qA3) C0 V i_NM rfl rfl hO0 (by decide) w_2301 rfl d_14_5_8 ?_
  refine lv_iload_n hx hb d_14_5_11 rfl (lv_at hl 0 rfl) ?_
  refine lv_aload_n hx hb d_14_5_12 rfl (lv_at hl 2 rfl) ?_
  refine lv_iload_n hx hb d_14_5_13 rfl (lv_at hl 0 rfl) ?_
  replace hA1 := (hu12 _ (q_pd 152 118 rfl)).trans (hA1)
  refine q_iald C0 V hA1 (by unfold vp_in; decide) d_14_5_14 ?_
  refine q_iast C0 V hA3 (by unfold vp_in; decide) d_14_5_15 (fun H locs w14 hu15 hA3 V => ?_)
  replace hA3 : w14[118]? = (some (qA3, .inl (g 0, 12200, .inl (upd (upd (upd (upd (upd (fun _ => 0) 0 (f2 (0 : Int32).toNatClampNeg)) 1 (f2 (1 : Int32).toNatClampNeg)) 2 (f2 (2 : Int32).toNatClampNeg)) 3 (f2 (3 : Int32).toNatClampNeg)) 4 (f2 (4 : Int32).toNatClampNeg)))) : Option (Nat × va_E)) := hA3
  replace hF := q_us hF hu15 (.tail _ (.head _))
  refine lv_iinc (v := 5) (lv' := [(3, .int 5), (0, .ref qO0), (1, .ref qA1), (2, .int x1)]) hx hb d_14_5_16 hl (k := 0) rfl (by decide) (by decide) rfl (fun ls hl => ?_)
  refine lv_goto (tgt := 2) hx hb d_14_5_19 (by decide) ?_
  refine lv_iload_n hx hb d_14_5_2 rfl (lv_at hl 0 rfl) ?_
  refine lv_iload_n hx hb d_14_5_3 rfl (lv_at hl 3 rfl) ?_
  refine q_ti (v := 7) (q_Ieq (x := x1.toInt) (y := 7) rfl (by decide) (by have t1 : 7 ≤ x1.toInt := q_leI x1lo; have t2 : x1.toInt ≤ 7 := q_leI x1hi; omega)) ?_
  refine lv_icmp_ge (tgt := 22) hx hb d_14_5_4 (by decide) (fun c16 => absurd c16 (by decide)) (fun c16 => ?_)
  refine lv_aload_n hx hb d_14_5_7 rfl (lv_at hl 1 rfl) ?_
  replace hO0 := (hu15 _ (q_pd 116 118 rfl)).trans (hO0)
  refine q_get (ci := 12) (j := 3) (v := .ref qA3) C0 V i_NM rfl rfl hO0 (by decide) w_2301 rfl d_14_5_8 ?_
  refine lv_iload_n hx hb d_14_5_11 rfl (lv_at hl 0 rfl) ?_
  refine lv_aload_n hx hb d_14_5_12 rfl (lv_at hl 2 rfl) ?_
  refine lv_iload_n hx hb d_14_5_13 rfl (lv_at hl 0 rfl) ?_
  replace hA1 := (hu15 _ (q_pd 152 118 rfl)).trans (hA1)
  refine q_iald C0 V hA1 (by unfold vp_in; decide) d_14_5_14 ?_
  refine q_iast C0 V hA3 (by unfold vp_in; decide) d_14_5_15 (fun H locs w17 hu18 hA3 V => ?_)
  replace hA3 : w17[118]? = (some (qA3, .inl (g 0, 12200, .inl (upd (upd (upd (upd (upd (upd (fun _ => 0) 0 (f2 (0 : Int32).toNatClampNeg)) 1 (f2 (1 : Int32).toNatClampNeg)) 2 (f2 (2 : Int32).toNatClampNeg)) 3 (f2 (3 : Int32).toNatClampNeg)) 4 (f2 (4 : Int32).toNatClampNeg)) 5 (f2 (5 : Int32).toNatClampNeg)))) : Option (Nat × va_E)) := hA3
  replace hF := q_us hF hu18 (.tail _ (.head _))
  refine lv_iinc (v := 6) (lv' := [(3, .int 6), (0, .ref qO0), (1, .ref qA1), (2, .int x1)]) hx hb d_14_5_16 hl (k := 0) rfl (by decide) (by decide) rfl (fun ls hl => ?_)
  refine lv_goto (tgt := 2) hx hb d_14_5_19 (by decide) ?_
  refine lv_iload_n hx hb d_14_5_2 rfl (lv_at hl 0 rfl) ?_
  refine lv_iload_n hx hb d_14_5_3 rfl (lv_at hl 3 rfl) ?_
  refine q_ti (v := 7) (q_Ieq (x := x1.toInt) (y := 7) rfl (by decide) (by have t1 : 7 ≤ x1.toInt := q_leI x1lo; have t2 : x1.toInt ≤ 7 := q_leI x1hi; omega)) ?_
  refine lv_icmp_ge (tgt := 22) hx hb d_14_5_4 (by decide) (fun c19 => absurd c19 (by decide)) (fun c19 => ?_)
  refine lv_aload_n hx hb d_14_5_7 rfl (lv_at hl 1 rfl) ?_
  replace hO0 := (hu18 _ (q_pd 116 118 rfl)).trans (hO0)
  refine q_get (ci := 12) (j := 3) (v := .ref qA3) C0 V i_NM rfl rfl hO0 (by decide) w_2301 rfl d_14_5_8 ?_
  refine lv_iload_n hx hb d_14_5_11 rfl (lv_at hl 0 rfl) ?_
  refine lv_aload_n hx hb d_14_5_12 rfl (lv_at hl 2 rfl) ?_
  refine lv_iload_n hx hb d_14_5_13 rfl (lv_at hl 0 rfl) ?_
  replace hA1 := (hu18 _ (q_pd 152 118 rfl)).trans (hA1)
  refine q_iald C0 V hA1 (by unfold vp_in; decide) d_14_5_14 ?_
  refine q_iast C0 V hA3 (by unfold vp_in; decide) d_14_5_15 (fun H locs w20 hu21 hA3 V => ?_)
  replace hA3 : w20[118]? = (some (qA3, .inl (g 0, 12200, .inl (upd (upd (upd (upd (upd (upd (upd (fun _ => 0) 0 (f2 (0 : Int32).toNatClampNeg)) 1 (f2 (1 : Int32).toNatClampNeg)) 2 (f2 (2 : Int32).toNatClampNeg)) 3 (f2 (3 : Int32).toNatClampNeg)) 4 (f2 (4 : Int32).toNatClampNeg)) 5 (f2 (5 : Int32).toNatClampNeg)) 6 (f2 (6 : Int32).toNatClampNeg)))) : Option (Nat × va_E)) := hA3
  replace hF := q_us hF hu21 (.tail _ (.head _))
  refine lv_iinc (v := 7) (lv' := [(3, .int 7), (0, .ref qO0), (1, .ref qA1), (2, .int x1)]) hx hb d_14_5_16 hl (k := 0) rfl (by decide) (by decide) rfl (fun ls hl => ?_)
  refine lv_goto (tgt := 2) hx hb d_14_5_19 (by decide) ?_
  refine lv_iload_n hx hb d_14_5_2 rfl (lv_at hl 0 rfl) ?_
  refine lv_iload_n hx hb d_14_5_3 rfl (lv_at hl 3 rfl) ?_
  refine q_ti (v := 7) (q_Ieq (x := x1.toInt) (y := 7) rfl (by decide) (by have t1 : 7 ≤ x1.toInt := q_leI x1lo; have t2 : x1.toInt ≤ 7 := q_leI x1hi; omega)) ?_
  refine lv_icmp_ge (tgt := 22) hx hb d_14_5_4 (by decide) (fun c22 => ?_) (fun c22 => absurd (by decide) c22)
  refine lv_aload_n hx hb d_14_5_22 rfl (lv_at hl 1 rfl) ?_
  refine lv_iload_n hx hb d_14_5_23 rfl (lv_at hl 3 rfl) ?_
  refine q_ti (v := 7) (q_Ieq (x := x1.toInt) (y := 7) rfl (by decide) (by have t1 : 7 ≤ x1.toInt := q_leI x1lo; have t2 : x1.toInt ≤ 7 := q_leI x1hi; omega)) ?_
  replace hO0 := (hu21 _ (q_pd 116 118 rfl)).trans (hO0)
  refine q_put (ci := 12) (j := 4) (v := .int 7) (ty := .int) C0 V i_NM o_NM n_NM rfl rfl hO0 (by decide) w_2302 rfl rfl rfl rfl (Nat.le_of_ble_eq_true rfl) d_14_5_24 (fun H locs w23 hu24 hO0 V => ?_)
  replace hO0 : w23[116]? = (some (qO0, .inr (12, [.int 0, .ref qA2, .int 0, .ref qA3, .int 7, .ref qO4, .ref qO5, .ref qO6, .ref qO7, .ref qO8, .ref qA9, .ref qA10])) : Option (Nat × va_E)) := hO0
  replace hF := q_us hF hu24 (.head _)
  refine lv_iload_n hx hb d_14_5_27 rfl (lv_at hl 3 rfl) ?_
  refine q_ti (v := 7) (q_Ieq (x := x1.toInt) (y := 7) rfl (by decide) (by have t1 : 7 ≤ x1.toInt := q_leI x1lo; have t2 : x1.toInt ≤ 7 := q_leI x1hi; omega)) ?_
  replace hA3 := (hu24 _ (q_pd 118 116 rfl)).trans (hA3)
  exact q_reti C0 V (⟨rfl, hF, hO0, hA3⟩) d_14_5_28
set_option maxRecDepth 100000 in
set_option maxHeartbeats 4000000 in
theorem c_FR_add_10 (l : Launch) (D : va_G) (g : Nat → ClassId) (ws : va_W) (kO0 kA7 qO0 qA1 qA2 qA3 qA4 qA5 qA6 qA7 : Nat) (hO0 : ws[kO0]? = (some (qO0, .inr (15, [.int 0, .ref qA1, .ref qA2, .ref qA3, .ref qA4, .ref qA5, .ref qA6, .ref qA7, .int 1, .int 0, .int 0, .long 0, .int 23, .int 255, .long 0, .int (-149), .long 0, .int 0])) : Option (Nat × va_E))) (hA7 : ws[kA7]? = (some (qA7, .inl (g 0, 1600, .inl (upd (fun _ => 0) 0 48))) : Option (Nat × va_E))) : q_mV l y_FR_add prog_17_method_16_code 2 1 0 0 D g [.ref qO0, .int 120] ws (fun u => q_un ws u [kO0, kA7] ∧ u[kO0]? = (some (qO0, .inr (15, [.int 0, .ref qA1, .ref qA2, .ref qA3, .ref qA4, .ref qA5, .ref qA6, .ref qA7, .int 2, .int 0, .int 0, .long 0, .int 23, .int 255, .long 0, .int (-149), .long 0, .int 0])) : Option (Nat × va_E)) ∧ u[kA7]? = (some (qA7, .inl (g 0, 1600, .inl (upd (upd (fun _ => 0) 0 48) 1 120))) : Option (Nat × va_E))) := by
  intro sz
  refine q_into (by decide) (Nat.le_of_ble_eq_true rfl) ?_
  intro p e s m below meth c ls hsz C0 V hl
  have hx := C0.1
  have hb := C0.2.1
  have hl : lv_has ls 2 [(0, .ref qO0), (1, .int 120)] := hl
  have n_A7_O0 := q_df hA7 hO0
  have n_O0_A7 := Ne.symm (q_df hA7 hO0)
  have hF : q_un ws ws [kO0, kA7] := q_u0
  refine lv_aload_n hx hb d_17_16_0 rfl (lv_at hl 0 rfl) ?_
  refine q_get (ci := 15) (j := 7) (v := .ref qA7) C0 V i_FR rfl rfl hO0 (by decide) w_2082 rfl d_17_16_1 ?_
  refine lv_aload_n hx hb d_17_16_4 rfl (lv_at hl 0 rfl) ?_
  refine q_get (ci := 15) (j := 8) (v := .int 1) C0 V i_FR rfl rfl hO0 (by decide) w_2084 rfl d_17_16_5 ?_
  refine lv_iload_n hx hb d_17_16_8 rfl (lv_at hl 1 rfl) ?_
  refine q_iast C0 V hA7 (by unfold vp_in; decide) d_17_16_9 (fun H locs w1 hu2 hA7 V => ?_)
  replace hA7 : w1[kA7]? = (some (qA7, .inl (g 0, 1600, .inl (upd (upd (fun _ => 0) 0 48) 1 120))) : Option (Nat × va_E)) := hA7
  replace hF := q_us hF hu2 (.tail _ (.head _))
  refine lv_aload_n hx hb d_17_16_10 rfl (lv_at hl 0 rfl) ?_
  refine lv_dup hx hb d_17_16_11 rfl ?_
  replace hO0 := (hu2 _ n_O0_A7).trans (hO0)
  refine q_get (ci := 15) (j := 8) (v := .int 1) C0 V i_FR rfl rfl hO0 (by decide) w_2084 rfl d_17_16_12 ?_
  refine lv_iconst (v := 1) hx hb d_17_16_15 (by decide) ?_
  refine lv_iadd hx hb d_17_16_16 ?_
  refine q_ti (v := 2) (by decide) ?_
  refine q_put (ci := 15) (j := 8) (v := .int 2) (ty := .int) C0 V i_FR o_FR n_FR rfl rfl hO0 (by decide) w_2084 rfl rfl rfl rfl (Nat.le_of_ble_eq_true rfl) d_17_16_17 (fun H locs w3 hu4 hO0 V => ?_)
  replace hO0 : w3[kO0]? = (some (qO0, .inr (15, [.int 0, .ref qA1, .ref qA2, .ref qA3, .ref qA4, .ref qA5, .ref qA6, .ref qA7, .int 2, .int 0, .int 0, .long 0, .int 23, .int 255, .long 0, .int (-149), .long 0, .int 0])) : Option (Nat × va_E)) := hO0
  replace hF := q_us hF hu4 (.head _)
  replace hA7 := (hu4 _ n_A7_O0).trans (hA7)
  exact q_retv C0 V (⟨hF, hO0, hA7⟩) d_17_16_20
set_option maxRecDepth 100000 in
set_option maxHeartbeats 4000000 in
theorem c_FR_add_11 (l : Launch) (D : va_G) (g : Nat → ClassId) (ws : va_W) (kO0 kA7 qO0 qA1 qA2 qA3 qA4 qA5 qA6 qA7 : Nat) (y1 : Int32) (f2 : Nat → Int32) (hO0 : ws[kO0]? = (some (qO0, .inr (15, [.int 0, .ref qA1, .ref qA2, .ref qA3, .ref qA4, .ref qA5, .ref qA6, .ref qA7, .int y1, .int 0, .int 0, .long 0, .int 23, .int 255, .long 0, .int (-149), .long 0, .int 0])) : Option (Nat × va_E))) (hA7 : ws[kA7]? = (some (qA7, .inl (g 0, 1600, .inl f2)) : Option (Nat × va_E))) (y1lo : 3 ≤ y1) (y1hi : y1 ≤ 3) : q_mV l y_FR_add prog_17_method_16_code 2 1 0 0 D g [.ref qO0, .int 46] ws (fun u => q_un ws u [kO0, kA7] ∧ u[kO0]? = (some (qO0, .inr (15, [.int 0, .ref qA1, .ref qA2, .ref qA3, .ref qA4, .ref qA5, .ref qA6, .ref qA7, .int 4, .int 0, .int 0, .long 0, .int 23, .int 255, .long 0, .int (-149), .long 0, .int 0])) : Option (Nat × va_E)) ∧ u[kA7]? = (some (qA7, .inl (g 0, 1600, .inl (upd f2 3 46))) : Option (Nat × va_E))) := by
  intro sz
  refine q_into (by decide) (Nat.le_of_ble_eq_true rfl) ?_
  intro p e s m below meth c ls hsz C0 V hl
  have hx := C0.1
  have hb := C0.2.1
  have hl : lv_has ls 2 [(0, .ref qO0), (1, .int 46)] := hl
  have n_A7_O0 := q_df hA7 hO0
  have n_O0_A7 := Ne.symm (q_df hA7 hO0)
  have hF : q_un ws ws [kO0, kA7] := q_u0
  refine lv_aload_n hx hb d_17_16_0 rfl (lv_at hl 0 rfl) ?_
  refine q_get (ci := 15) (j := 7) (v := .ref qA7) C0 V i_FR rfl rfl hO0 (by decide) w_2082 rfl d_17_16_1 ?_
  refine lv_aload_n hx hb d_17_16_4 rfl (lv_at hl 0 rfl) ?_
  refine q_get (ci := 15) (j := 8) (v := .int y1) C0 V i_FR rfl rfl hO0 (by decide) w_2084 rfl d_17_16_5 ?_
  refine q_ti (v := 3) (q_Ieq (x := y1.toInt) (y := 3) rfl (by decide) (by have t1 : 3 ≤ y1.toInt := q_leI y1lo; have t2 : y1.toInt ≤ 3 := q_leI y1hi; omega)) ?_
  refine lv_iload_n hx hb d_17_16_8 rfl (lv_at hl 1 rfl) ?_
  refine q_iast C0 V hA7 (by unfold vp_in; decide) d_17_16_9 (fun H locs w1 hu2 hA7 V => ?_)
  replace hA7 : w1[kA7]? = (some (qA7, .inl (g 0, 1600, .inl (upd f2 3 46))) : Option (Nat × va_E)) := hA7
  replace hF := q_us hF hu2 (.tail _ (.head _))
  refine lv_aload_n hx hb d_17_16_10 rfl (lv_at hl 0 rfl) ?_
  refine lv_dup hx hb d_17_16_11 rfl ?_
  replace hO0 := (hu2 _ n_O0_A7).trans (hO0)
  refine q_get (ci := 15) (j := 8) (v := .int y1) C0 V i_FR rfl rfl hO0 (by decide) w_2084 rfl d_17_16_12 ?_
  refine q_ti (v := 3) (q_Ieq (x := y1.toInt) (y := 3) rfl (by decide) (by have t1 : 3 ≤ y1.toInt := q_leI y1lo; have t2 : y1.toInt ≤ 3 := q_leI y1hi; omega)) ?_
  refine lv_iconst (v := 1) hx hb d_17_16_15 (by decide) ?_
  refine lv_iadd hx hb d_17_16_16 ?_
  refine q_ti (v := 4) (by decide) ?_
  refine q_put (ci := 15) (j := 8) (v := .int 4) (ty := .int) C0 V i_FR o_FR n_FR rfl rfl hO0 (by decide) w_2084 rfl rfl rfl rfl (Nat.le_of_ble_eq_true rfl) d_17_16_17 (fun H locs w3 hu4 hO0 V => ?_)
  replace hO0 : w3[kO0]? = (some (qO0, .inr (15, [.int 0, .ref qA1, .ref qA2, .ref qA3, .ref qA4, .ref qA5, .ref qA6, .ref qA7, .int 4, .int 0, .int 0, .long 0, .int 23, .int 255, .long 0, .int (-149), .long 0, .int 0])) : Option (Nat × va_E)) := hO0
  replace hF := q_us hF hu4 (.head _)
  replace hA7 := (hu4 _ n_A7_O0).trans (hA7)
  exact q_retv C0 V (⟨hF, hO0, hA7⟩) d_17_16_20
set_option maxRecDepth 100000 in
set_option maxHeartbeats 4000000 in
theorem c_FR_hexadecimalFigure_2 (l : Launch) (D : va_G) (g : Nat → ClassId) (ws : va_W) (kO0 kA7 qO0 qA1 qA2 qA3 qA4 qA5 qA6 qA7 : Nat) (f1 : Nat → Int32) (hO0 : ws[kO0]? = (some (qO0, .inr (15, [.int 0, .ref qA1, .ref qA2, .ref qA3, .ref qA4, .ref qA5, .ref qA6, .ref qA7, .int 4, .int 0, .int 0, .long 0, .int 23, .int 255, .long 0, .int (-149), .long 0, .int 0])) : Option (Nat × va_E))) (hA7 : ws[kA7]? = (some (qA7, .inl (g 0, 1600, .inl (upd f1 3 46))) : Option (Nat × va_E))) : q_mV l y_FR_hexadecimalFigure prog_17_method_24_code 3 2 0 0 D g [.ref qO0, .long 0] ws (fun u => q_un ws u [kO0, kA7] ∧ u[kO0]? = (some (qO0, .inr (15, [.int 0, .ref qA1, .ref qA2, .ref qA3, .ref qA4, .ref qA5, .ref qA6, .ref qA7, .int (4 + 1), .int 0, .int 0, .long 0, .int 23, .int 255, .long 0, .int (-149), .long 0, .int 0])) : Option (Nat × va_E)) ∧ u[kA7]? = (some (qA7, .inl (g 0, 1600, .inl (upd (upd f1 3 46) (4 : Int32).toNatClampNeg 48))) : Option (Nat × va_E))) := by
  intro sz
  refine q_into (by decide) (Nat.le_of_ble_eq_true rfl) ?_
  intro p e s m below meth c ls hsz C0 V hl
  have hx := C0.1
  have hb := C0.2.1
  have hl : lv_has ls 3 [(0, .ref qO0), (1, .long 0)] := hl
  have hF : q_un ws ws [kO0, kA7] := q_u0
  refine lv_aload_n hx hb d_17_24_0 rfl (lv_at hl 0 rfl) ?_
  refine lv_lload_n hx hb d_17_24_1 rfl (lv_at hl 1 rfl) ?_
  refine q_ldc2 C0 rfl w_2639 d_17_24_2 ?_
  refine W.lcmp hx hb d_17_24_5 ?_
  refine q_ti (v := (-1)) (by decide) ?_
  refine lv_if_ge (tgt := 17) hx hb d_17_24_6 (by decide) (fun c1 => absurd c1 (by decide)) (fun c1 => ?_)
  refine q_ldc2 C0 rfl w_3055 d_17_24_9 ?_
  refine lv_lload_n hx hb d_17_24_12 rfl (lv_at hl 1 rfl) ?_
  refine lv_ladd hx hb d_17_24_13 ?_
  refine q_tl (v := 48) (by decide) ?_
  refine lv_goto (tgt := 26) hx hb d_17_24_14 (by decide) ?_
  refine lv_l2i hx hb d_17_24_26 rfl ?_
  refine q_ti (v := 48) (by decide) ?_
  refine q_gov V (q_runV (As := [.int 48]) (rest := []) (d := 1) (mc := 0) (ms := 0) (ci := 15) C0 V rfl LV_FR_110 (c_FR_add_6 l D g ws kO0 kA7 qO0 qA1 qA2 qA3 qA4 qA5 qA6 qA7 4 (upd f1 3 46) hO0 hA7 (q_Ile (x := 2) (y := 4) (by decide) (by decide) (by omega)) (q_Ile (x := 4) (y := 1076) (by decide) (by decide) (by omega)) _) rfl rfl hO0 rfl hl.1 rfl (Nat.le_of_ble_eq_true rfl) ⟨by decide, by decide⟩ ⟨Nat.le_of_ble_eq_true rfl, Nat.le_of_ble_eq_true rfl⟩ d_17_24_27) (fun u3 H locs hp2 V => ?_)
  obtain ⟨hg4, hO0, hA7⟩ := hp2
  replace hF := q_uc hF hg4 (q_sc (.head _) (q_sc (.tail _ (.head _)) (fun _ h => absurd h List.not_mem_nil)))
  exact q_retv C0 V (⟨hF, hO0, hA7⟩) d_17_24_30
set_option maxRecDepth 100000 in
set_option maxHeartbeats 4000000 in
theorem c_FR_add_12 (l : Launch) (D : va_G) (g : Nat → ClassId) (ws : va_W) (kO0 kA7 qO0 qA1 qA2 qA3 qA4 qA5 qA6 qA7 : Nat) (y1 : Int32) (f2 : Nat → Int32) (hO0 : ws[kO0]? = (some (qO0, .inr (15, [.int 0, .ref qA1, .ref qA2, .ref qA3, .ref qA4, .ref qA5, .ref qA6, .ref qA7, .int y1, .int 0, .int 0, .long 0, .int 23, .int 255, .long 0, .int (-149), .long 0, .int 0])) : Option (Nat × va_E))) (hA7 : ws[kA7]? = (some (qA7, .inl (g 0, 1600, .inl f2)) : Option (Nat × va_E))) (y1lo : 5 ≤ y1) (y1hi : y1 ≤ 5) : q_mV l y_FR_add prog_17_method_16_code 2 1 0 0 D g [.ref qO0, .int 112] ws (fun u => q_un ws u [kO0, kA7] ∧ u[kO0]? = (some (qO0, .inr (15, [.int 0, .ref qA1, .ref qA2, .ref qA3, .ref qA4, .ref qA5, .ref qA6, .ref qA7, .int 6, .int 0, .int 0, .long 0, .int 23, .int 255, .long 0, .int (-149), .long 0, .int 0])) : Option (Nat × va_E)) ∧ u[kA7]? = (some (qA7, .inl (g 0, 1600, .inl (upd f2 5 112))) : Option (Nat × va_E))) := by
  intro sz
  refine q_into (by decide) (Nat.le_of_ble_eq_true rfl) ?_
  intro p e s m below meth c ls hsz C0 V hl
  have hx := C0.1
  have hb := C0.2.1
  have hl : lv_has ls 2 [(0, .ref qO0), (1, .int 112)] := hl
  have n_A7_O0 := q_df hA7 hO0
  have n_O0_A7 := Ne.symm (q_df hA7 hO0)
  have hF : q_un ws ws [kO0, kA7] := q_u0
  refine lv_aload_n hx hb d_17_16_0 rfl (lv_at hl 0 rfl) ?_
  refine q_get (ci := 15) (j := 7) (v := .ref qA7) C0 V i_FR rfl rfl hO0 (by decide) w_2082 rfl d_17_16_1 ?_
  refine lv_aload_n hx hb d_17_16_4 rfl (lv_at hl 0 rfl) ?_
  refine q_get (ci := 15) (j := 8) (v := .int y1) C0 V i_FR rfl rfl hO0 (by decide) w_2084 rfl d_17_16_5 ?_
  refine q_ti (v := 5) (q_Ieq (x := y1.toInt) (y := 5) rfl (by decide) (by have t1 : 5 ≤ y1.toInt := q_leI y1lo; have t2 : y1.toInt ≤ 5 := q_leI y1hi; omega)) ?_
  refine lv_iload_n hx hb d_17_16_8 rfl (lv_at hl 1 rfl) ?_
  refine q_iast C0 V hA7 (by unfold vp_in; decide) d_17_16_9 (fun H locs w1 hu2 hA7 V => ?_)
  replace hA7 : w1[kA7]? = (some (qA7, .inl (g 0, 1600, .inl (upd f2 5 112))) : Option (Nat × va_E)) := hA7
  replace hF := q_us hF hu2 (.tail _ (.head _))
  refine lv_aload_n hx hb d_17_16_10 rfl (lv_at hl 0 rfl) ?_
  refine lv_dup hx hb d_17_16_11 rfl ?_
  replace hO0 := (hu2 _ n_O0_A7).trans (hO0)
  refine q_get (ci := 15) (j := 8) (v := .int y1) C0 V i_FR rfl rfl hO0 (by decide) w_2084 rfl d_17_16_12 ?_
  refine q_ti (v := 5) (q_Ieq (x := y1.toInt) (y := 5) rfl (by decide) (by have t1 : 5 ≤ y1.toInt := q_leI y1lo; have t2 : y1.toInt ≤ 5 := q_leI y1hi; omega)) ?_
  refine lv_iconst (v := 1) hx hb d_17_16_15 (by decide) ?_
  refine lv_iadd hx hb d_17_16_16 ?_
  refine q_ti (v := 6) (by decide) ?_
  refine q_put (ci := 15) (j := 8) (v := .int 6) (ty := .int) C0 V i_FR o_FR n_FR rfl rfl hO0 (by decide) w_2084 rfl rfl rfl rfl (Nat.le_of_ble_eq_true rfl) d_17_16_17 (fun H locs w3 hu4 hO0 V => ?_)
  replace hO0 : w3[kO0]? = (some (qO0, .inr (15, [.int 0, .ref qA1, .ref qA2, .ref qA3, .ref qA4, .ref qA5, .ref qA6, .ref qA7, .int 6, .int 0, .int 0, .long 0, .int 23, .int 255, .long 0, .int (-149), .long 0, .int 0])) : Option (Nat × va_E)) := hO0
  replace hF := q_us hF hu4 (.head _)
  replace hA7 := (hu4 _ n_A7_O0).trans (hA7)
  exact q_retv C0 V (⟨hF, hO0, hA7⟩) d_17_16_20
set_option maxRecDepth 100000 in
set_option maxHeartbeats 4000000 in
theorem c_FR_number_2 (l : Launch) (D : va_G) (g : Nat → ClassId) (ws : va_W) (kO0 kA7 qO0 qA1 qA2 qA3 qA4 qA5 qA6 qA7 : Nat) (f1 : Nat → Int32) (hO0 : ws[kO0]? = (some (qO0, .inr (15, [.int 0, .ref qA1, .ref qA2, .ref qA3, .ref qA4, .ref qA5, .ref qA6, .ref qA7, .int 6, .int 0, .int 0, .long 0, .int 23, .int 255, .long 0, .int (-149), .long 0, .int 0])) : Option (Nat × va_E))) (hA7 : ws[kA7]? = (some (qA7, .inl (g 0, 1600, .inl (upd f1 5 112))) : Option (Nat × va_E))) : q_mV l y_FR_number prog_17_method_19_code 3 2 0 0 D g [.ref qO0, .int 0] ws (fun u => q_un ws u [kO0, kA7] ∧ u[kO0]? = (some (qO0, .inr (15, [.int 0, .ref qA1, .ref qA2, .ref qA3, .ref qA4, .ref qA5, .ref qA6, .ref qA7, .int (6 + 1), .int 0, .int 0, .long 0, .int 23, .int 255, .long 0, .int (-149), .long 0, .int 0])) : Option (Nat × va_E)) ∧ u[kA7]? = (some (qA7, .inl (g 0, 1600, .inl (upd (upd f1 5 112) (6 : Int32).toNatClampNeg 48))) : Option (Nat × va_E))) := by
  intro sz
  refine q_into (by decide) (Nat.le_of_ble_eq_true rfl) ?_
  intro p e s m below meth c ls hsz C0 V hl
  have hx := C0.1
  have hb := C0.2.1
  have hl : lv_has ls 3 [(0, .ref qO0), (1, .int 0)] := hl
  have hF : q_un ws ws [kO0, kA7] := q_u0
  refine lv_iconst (v := 1) hx hb d_17_19_0 (by decide) ?_
  refine lv_istore_n (lv' := [(2, .int 1), (0, .ref qO0), (1, .int 0)]) hx hb d_17_19_1 rfl hl (by decide) rfl (fun ls hl => ?_)
  refine lv_iload_n hx hb d_17_19_2 rfl (lv_at hl 2 rfl) ?_
  refine lv_iload_n hx hb d_17_19_3 rfl (lv_at hl 0 rfl) ?_
  refine lv_idiv hx hb d_17_19_4 (by decide) ?_
  refine q_ti (v := 0) (by decide) ?_
  refine lv_bipush (v := 9) hx hb d_17_19_5 (by decide) ?_
  refine lv_icmp_le (tgt := 18) hx hb d_17_19_7 (by decide) (fun c1 => ?_) (fun c1 => absurd (by decide) c1)
  refine lv_iload_n hx hb d_17_19_18 rfl (lv_at hl 0 rfl) ?_
  refine lv_if_le (tgt := 43) hx hb d_17_19_19 (by decide) (fun c2 => absurd c2 (by decide)) (fun c2 => ?_)
  refine lv_aload_n hx hb d_17_19_22 rfl (lv_at hl 1 rfl) ?_
  refine lv_bipush (v := 48) hx hb d_17_19_23 (by decide) ?_
  refine lv_iload_n hx hb d_17_19_25 rfl (lv_at hl 2 rfl) ?_
  refine lv_iload_n hx hb d_17_19_26 rfl (lv_at hl 0 rfl) ?_
  refine lv_idiv hx hb d_17_19_27 (by decide) ?_
  refine q_ti (v := 0) (by decide) ?_
  refine lv_bipush (v := 10) hx hb d_17_19_28 (by decide) ?_
  refine lv_irem hx hb d_17_19_30 (by decide) ?_
  refine q_ti (v := 0) (by decide) ?_
  refine lv_iadd hx hb d_17_19_31 ?_
  refine q_ti (v := 48) (by decide) ?_
  refine q_gov V (q_runV (As := [.int 48]) (rest := []) (d := 1) (mc := 0) (ms := 0) (ci := 15) C0 V rfl LV_FR_110 (c_FR_add_6 l D g ws kO0 kA7 qO0 qA1 qA2 qA3 qA4 qA5 qA6 qA7 6 (upd f1 5 112) hO0 hA7 (q_Ile (x := 2) (y := 6) (by decide) (by decide) (by omega)) (q_Ile (x := 6) (y := 1076) (by decide) (by decide) (by omega)) _) rfl rfl hO0 rfl hl.1 rfl (Nat.le_of_ble_eq_true rfl) ⟨by decide, by decide⟩ ⟨Nat.le_of_ble_eq_true rfl, Nat.le_of_ble_eq_true rfl⟩ d_17_19_32) (fun u4 H locs hp3 V => ?_)
  obtain ⟨hg5, hO0, hA7⟩ := hp3
  replace hF := q_uc hF hg5 (q_sc (.head _) (q_sc (.tail _ (.head _)) (fun _ h => absurd h List.not_mem_nil)))
  refine lv_iload_n hx hb d_17_19_35 rfl (lv_at hl 0 rfl) ?_
  refine lv_bipush (v := 10) hx hb d_17_19_36 (by decide) ?_
  refine lv_idiv hx hb d_17_19_38 (by decide) ?_
  refine q_ti (v := 0) (by decide) ?_
  refine lv_istore_n (lv' := [(2, .int 0), (0, .ref qO0), (1, .int 0)]) hx hb d_17_19_39 rfl hl (by decide) rfl (fun ls hl => ?_)
  refine lv_goto (tgt := 18) hx hb d_17_19_40 (by decide) ?_
  refine lv_iload_n hx hb d_17_19_18 rfl (lv_at hl 0 rfl) ?_
  refine lv_if_le (tgt := 43) hx hb d_17_19_19 (by decide) (fun c6 => ?_) (fun c6 => absurd (by decide) c6)
  exact q_retv C0 V (⟨hF, hO0, hA7⟩) d_17_19_43
theorem d_17_25_92 : decode prog_17_method_25_code 92 = .ok (.ldc2_w 71, 3) := by decide +kernel
theorem w_2615 : (Cond.constantLong "NumberHouseModel$FloatRows" (71 : Nat) (2 : Int64)) ∈ q_tbl := q_of 2615 (by decide +kernel) (by decide +kernel)
theorem d_17_25_95 : decode prog_17_method_25_code 95 = .ok (.aload_n 0, 1) := by decide +kernel
theorem d_17_25_96 : decode prog_17_method_25_code 96 = .ok (.getfield 48, 3) := by decide +kernel
theorem d_17_25_99 : decode prog_17_method_25_code 99 = .ok (.lmul, 1) := by decide +kernel
theorem d_17_25_100 : decode prog_17_method_25_code 100 = .ok (.goto 7, 3) := by decide +kernel
theorem d_17_25_113 : decode prog_17_method_25_code 113 = .ok (.bipush 20, 2) := by decide +kernel
theorem d_17_25_115 : decode prog_17_method_25_code 115 = .ok (.goto 5, 3) := by decide +kernel
set_option maxRecDepth 100000 in
set_option maxHeartbeats 4000000 in
theorem c_FR_hexadecimal_2 (l : Launch) (D : va_G) (g : Nat → ClassId) (ws : va_W) (kO0 kA7 qO0 qA1 qA2 qA3 qA4 qA5 qA6 qA7 : Nat) (hO0 : ws[kO0]? = (some (qO0, .inr (15, [.int 0, .ref qA1, .ref qA2, .ref qA3, .ref qA4, .ref qA5, .ref qA6, .ref qA7, .int 0, .int 0, .int 0, .long 0, .int 0, .int 0, .long 0, .int 0, .long 0, .int 0])) : Option (Nat × va_E))) (hA7 : ws[kA7]? = (some (qA7, .inl (g 0, 1600, .inl (fun _ => 0))) : Option (Nat × va_E))) : q_mI l y_FR_hexadecimal prog_17_method_25_code 8 (.int) 3 0 0 D g [.ref qO0, .long 0, .int 1] ws (fun r u => 6 + 1 = r ∧ q_un ws u [kO0, kA7] ∧ u[kO0]? = (some (qO0, .inr (15, [.int 0, .ref qA1, .ref qA2, .ref qA3, .ref qA4, .ref qA5, .ref qA6, .ref qA7, .int (6 + 1), .int 0, .int 0, .long 0, .int 23, .int 255, .long 0, .int (-149), .long 0, .int 0])) : Option (Nat × va_E)) ∧ u[kA7]? = (some (qA7, .inl (g 0, 1600, .inl (upd (upd (upd (upd (upd (upd (upd (fun _ => 0) 0 48) 1 120) (2 : Int32).toNatClampNeg 48) 3 46) (4 : Int32).toNatClampNeg 48) 5 112) (6 : Int32).toNatClampNeg 48))) : Option (Nat × va_E))) := by
  intro sz
  refine q_into (by decide) (Nat.le_of_ble_eq_true rfl) ?_
  intro p e s m below meth c ls hsz C0 V hl
  have hx := C0.1
  have hb := C0.2.1
  have hl : lv_has ls 8 [(0, .ref qO0), (1, .long 0), (3, .int 1)] := hl
  have n_A7_O0 := q_df hA7 hO0
  have hF : q_un ws ws [kO0, kA7] := q_u0
  refine lv_aload_n hx hb d_17_25_0 rfl (lv_at hl 0 rfl) ?_
  refine lv_lload_n hx hb d_17_25_1 rfl (lv_at hl 1 rfl) ?_
  refine lv_iload_n hx hb d_17_25_2 rfl (lv_at hl 2 rfl) ?_
  refine q_goi V (q_runS (As := [.long 0, .int 1]) (rest := [.ref qO0]) (d := 1) (mc := 0) (ms := 0) C0 V rfl LS_FR_122 (c_FR_isWrong_2 l D g ws _) rfl hl.1 rfl (Nat.le_of_ble_eq_true rfl) ⟨by decide, by decide⟩ ⟨Nat.le_of_ble_eq_true rfl, Nat.le_of_ble_eq_true rfl⟩ d_17_25_3) (fun v3 u2 H locs hp1 V => ?_)
  obtain ⟨rfl, rfl⟩ := hp1
  refine lv_if_eq (tgt := 13) hx hb d_17_25_6 (by decide) (fun c5 => ?_) (fun c5 => absurd (by decide) c5)
  refine lv_iconst (v := 0) hx hb d_17_25_13 (by decide) ?_
  refine q_put (ci := 15) (j := 0) (v := .int 0) (ty := .int) C0 V i_FR o_FR n_FR rfl rfl hO0 (by decide) w_2074 rfl rfl rfl rfl (Nat.le_of_ble_eq_true rfl) d_17_25_14 (fun H locs w6 hu7 hO0 V => ?_)
  replace hO0 : w6[kO0]? = (some (qO0, .inr (15, [.int 0, .ref qA1, .ref qA2, .ref qA3, .ref qA4, .ref qA5, .ref qA6, .ref qA7, .int 0, .int 0, .int 0, .long 0, .int 0, .int 0, .long 0, .int 0, .long 0, .int 0])) : Option (Nat × va_E)) := hO0
  replace hF := q_us hF hu7 (.head _)
  refine lv_aload_n hx hb d_17_25_17 rfl (lv_at hl 0 rfl) ?_
  refine q_get (ci := 15) (j := 0) (v := .int 0) C0 V i_FR rfl rfl hO0 (by decide) w_2074 rfl d_17_25_18 ?_
  refine lv_if_le (tgt := 26) hx hb d_17_25_21 (by decide) (fun c8 => ?_) (fun c8 => absurd (by decide) c8)
  refine lv_aload_n hx hb d_17_25_26 rfl (lv_at hl 0 rfl) ?_
  refine lv_lload_n hx hb d_17_25_27 rfl (lv_at hl 1 rfl) ?_
  refine lv_iload_n hx hb d_17_25_28 rfl (lv_at hl 2 rfl) ?_
  refine q_gov V (q_runV (As := [.long 0, .int 1]) (rest := []) (d := 1) (mc := 0) (ms := 0) (ci := 15) C0 V rfl LV_FR_126 (c_FR_open_2 l D g w6 kO0 qO0 qA1 qA2 qA3 qA4 qA5 qA6 qA7 hO0 _) rfl rfl hO0 rfl hl.1 rfl (Nat.le_of_ble_eq_true rfl) ⟨by decide, by decide⟩ ⟨Nat.le_of_ble_eq_true rfl, Nat.le_of_ble_eq_true rfl⟩ d_17_25_29) (fun u10 H locs hp9 V => ?_)
  obtain ⟨hg11, hO0⟩ := hp9
  replace hF := q_uc hF hg11 (q_sc (.head _) (fun _ h => absurd h List.not_mem_nil))
  refine lv_aload_n hx hb d_17_25_32 rfl (lv_at hl 0 rfl) ?_
  refine q_goi V (q_runV (As := []) (rest := []) (d := 1) (mc := 0) (ms := 0) (ci := 15) C0 V rfl LV_FR_130 (c_FR_isFinite_2 l D g u10 kO0 qO0 qA1 qA2 qA3 qA4 qA5 qA6 qA7 hO0 _) rfl rfl hO0 rfl hl.1 rfl (Nat.le_of_ble_eq_true rfl) ⟨by decide, by decide⟩ ⟨Nat.le_of_ble_eq_true rfl, Nat.le_of_ble_eq_true rfl⟩ d_17_25_33) (fun v14 u13 H locs hp12 V => ?_)
  obtain ⟨rfl, rfl⟩ := hp12
  refine lv_if_ne (tgt := 48) hx hb d_17_25_36 (by decide) (fun c16 => ?_) (fun c16 => absurd c16 (by decide))
  refine lv_aload_n hx hb d_17_25_48 rfl (lv_at hl 0 rfl) ?_
  refine q_gov V (q_runV (As := []) (rest := []) (d := 1) (mc := 0) (ms := 0) (ci := 15) C0 V rfl LV_FR_113 (c_FR_begin_2 l D g u10 kO0 qO0 qA1 qA2 qA3 qA4 qA5 qA6 qA7 hO0 _) rfl rfl hO0 rfl hl.1 rfl (Nat.le_of_ble_eq_true rfl) ⟨by decide, by decide⟩ ⟨Nat.le_of_ble_eq_true rfl, Nat.le_of_ble_eq_true rfl⟩ d_17_25_49) (fun u18 H locs hp17 V => ?_)
  obtain ⟨hg19, hO0⟩ := hp17
  replace hF := q_uc hF hg19 (q_sc (.head _) (fun _ h => absurd h List.not_mem_nil))
  refine lv_aload_n hx hb d_17_25_52 rfl (lv_at hl 0 rfl) ?_
  refine lv_bipush (v := 48) hx hb d_17_25_53 (by decide) ?_
  replace hA7 := (hg19 _ (q_nc n_A7_O0 List.not_mem_nil)).trans ((hg11 _ (q_nc n_A7_O0 List.not_mem_nil)).trans ((hu7 _ n_A7_O0).trans (hA7)))
  refine q_gov V (q_runV (As := [.int 48]) (rest := []) (d := 1) (mc := 0) (ms := 0) (ci := 15) C0 V rfl LV_FR_110 (c_FR_add_4 l D g u18 kO0 kA7 qO0 qA1 qA2 qA3 qA4 qA5 qA6 qA7 hO0 hA7 _) rfl rfl hO0 rfl hl.1 rfl (Nat.le_of_ble_eq_true rfl) ⟨by decide, by decide⟩ ⟨Nat.le_of_ble_eq_true rfl, Nat.le_of_ble_eq_true rfl⟩ d_17_25_55) (fun u21 H locs hp20 V => ?_)
  obtain ⟨hg22, hO0, hA7⟩ := hp20
  replace hF := q_uc hF hg22 (q_sc (.head _) (q_sc (.tail _ (.head _)) (fun _ h => absurd h List.not_mem_nil)))
  refine lv_aload_n hx hb d_17_25_58 rfl (lv_at hl 0 rfl) ?_
  refine lv_bipush (v := 120) hx hb d_17_25_59 (by decide) ?_
  refine q_gov V (q_runV (As := [.int 120]) (rest := []) (d := 1) (mc := 0) (ms := 0) (ci := 15) C0 V rfl LV_FR_110 (c_FR_add_10 l D g u21 kO0 kA7 qO0 qA1 qA2 qA3 qA4 qA5 qA6 qA7 hO0 hA7 _) rfl rfl hO0 rfl hl.1 rfl (Nat.le_of_ble_eq_true rfl) ⟨by decide, by decide⟩ ⟨Nat.le_of_ble_eq_true rfl, Nat.le_of_ble_eq_true rfl⟩ d_17_25_61) (fun u24 H locs hp23 V => ?_)
  obtain ⟨hg25, hO0, hA7⟩ := hp23
  replace hF := q_uc hF hg25 (q_sc (.head _) (q_sc (.tail _ (.head _)) (fun _ h => absurd h List.not_mem_nil)))
  refine lv_aload_n hx hb d_17_25_64 rfl (lv_at hl 0 rfl) ?_
  refine lv_aload_n hx hb d_17_25_65 rfl (lv_at hl 0 rfl) ?_
  refine q_get (ci := 15) (j := 10) (v := .int 0) C0 V i_FR rfl rfl hO0 (by decide) w_2086 rfl d_17_25_66 ?_
  refine lv_if_le (tgt := 77) hx hb d_17_25_69 (by decide) (fun c26 => ?_) (fun c26 => absurd (by decide) c26)
  refine lv_bipush (v := 48) hx hb d_17_25_77 (by decide) ?_
  refine q_gov V (q_runV (As := [.int 48]) (rest := []) (d := 1) (mc := 0) (ms := 0) (ci := 15) C0 V rfl LV_FR_110 (c_FR_add_6 l D g u24 kO0 kA7 qO0 qA1 qA2 qA3 qA4 qA5 qA6 qA7 2 (upd (upd (fun _ => 0) 0 48) 1 120) hO0 hA7 (q_Ile (x := 2) (y := 2) (by decide) (by decide) (by omega)) (q_Ile (x := 2) (y := 1076) (by decide) (by decide) (by omega)) _) rfl rfl hO0 rfl hl.1 rfl (Nat.le_of_ble_eq_true rfl) ⟨by decide, by decide⟩ ⟨Nat.le_of_ble_eq_true rfl, Nat.le_of_ble_eq_true rfl⟩ d_17_25_79) (fun u28 H locs hp27 V => ?_)
  obtain ⟨hg29, hO0, hA7⟩ := hp27
  replace hF := q_uc hF hg29 (q_sc (.head _) (q_sc (.tail _ (.head _)) (fun _ h => absurd h List.not_mem_nil)))
  refine lv_aload_n hx hb d_17_25_82 rfl (lv_at hl 0 rfl) ?_
  refine lv_bipush (v := 46) hx hb d_17_25_83 (by decide) ?_
  refine q_gov V (q_runV (As := [.int 46]) (rest := []) (d := 1) (mc := 0) (ms := 0) (ci := 15) C0 V rfl LV_FR_110 (c_FR_add_11 l D g u28 kO0 kA7 qO0 qA1 qA2 qA3 qA4 qA5 qA6 qA7 (2 + 1) (upd (upd (upd (fun _ => 0) 0 48) 1 120) (2 : Int32).toNatClampNeg 48) hO0 hA7 (q_Ile (x := 3) (y := (2 + 1)) (by decide) (q_addI (x := 2) (y := 1) (by decide) (by decide) (by omega) (by omega)) (by omega)) (q_Ile (x := (2 + 1)) (y := 3) (q_addI (x := 2) (y := 1) (by decide) (by decide) (by omega) (by omega)) (by decide) (by omega)) _) rfl rfl hO0 rfl hl.1 rfl (Nat.le_of_ble_eq_true rfl) ⟨by decide, by decide⟩ ⟨Nat.le_of_ble_eq_true rfl, Nat.le_of_ble_eq_true rfl⟩ d_17_25_85) (fun u31 H locs hp30 V => ?_)
  obtain ⟨hg32, hO0, hA7⟩ := hp30
  replace hF := q_uc hF hg32 (q_sc (.head _) (q_sc (.tail _ (.head _)) (fun _ h => absurd h List.not_mem_nil)))
  refine lv_iload_n hx hb d_17_25_88 rfl (lv_at hl 2 rfl) ?_
  refine lv_if_eq (tgt := 103) hx hb d_17_25_89 (by decide) (fun c33 => absurd c33 (by decide)) (fun c33 => ?_)
  refine q_ldc2 C0 rfl w_2615 d_17_25_92 ?_
  refine lv_aload_n hx hb d_17_25_95 rfl (lv_at hl 0 rfl) ?_
  refine q_get (ci := 15) (j := 11) (v := .long 0) C0 V i_FR rfl rfl hO0 (by decide) w_2087 rfl d_17_25_96 ?_
  refine lv_lmul hx hb d_17_25_99 ?_
  refine q_tl (v := 0) (by decide) ?_
  refine lv_goto (tgt := 107) hx hb d_17_25_100 (by decide) ?_
  refine lv_lstore (lv' := [(4, .long 0), (0, .ref qO0), (1, .long 0), (3, .int 1)]) hx hb d_17_25_107 hl (by decide) rfl (fun ls hl => ?_)
  refine lv_iload_n hx hb d_17_25_109 rfl (lv_at hl 3 rfl) ?_
  refine lv_if_eq (tgt := 118) hx hb d_17_25_110 (by decide) (fun c34 => absurd c34 (by decide)) (fun c34 => ?_)
  refine lv_bipush (v := 20) hx hb d_17_25_113 (by decide) ?_
  refine lv_goto (tgt := 120) hx hb d_17_25_115 (by decide) ?_
  refine lv_istore (lv' := [(6, .int 20), (4, .long 0), (0, .ref qO0), (1, .long 0), (3, .int 1)]) hx hb d_17_25_120 hl (by decide) rfl (fun ls hl => ?_)
  refine lv_aload_n hx hb d_17_25_122 rfl (lv_at hl 2 rfl) ?_
  refine lv_lload hx hb d_17_25_123 (lv_at hl 1 rfl) ?_
  refine lv_iload hx hb d_17_25_125 (lv_at hl 0 rfl) ?_
  refine lv_lshr hx hb d_17_25_127 rfl ?_
  refine q_tl (v := 0) (by decide) ?_
  refine q_ldc2 C0 rfl w_3050 d_17_25_128 ?_
  refine lv_land hx hb d_17_25_131 ?_
  refine q_tl (v := 0) (by decide) ?_
  refine q_gov V (q_runV (As := [.long 0]) (rest := []) (d := 2) (mc := 0) (ms := 0) (ci := 15) C0 V rfl LV_FR_158 (c_FR_hexadecimalFigure_2 l D g u31 kO0 kA7 qO0 qA1 qA2 qA3 qA4 qA5 qA6 qA7 (upd (upd (upd (fun _ => 0) 0 48) 1 120) (2 : Int32).toNatClampNeg 48) hO0 hA7 _) rfl rfl hO0 rfl hl.1 rfl (Nat.le_of_ble_eq_true rfl) ⟨by decide, by decide⟩ ⟨Nat.le_of_ble_eq_true rfl, Nat.le_of_ble_eq_true rfl⟩ d_17_25_132) (fun u36 H locs hp35 V => ?_)
  obtain ⟨hg37, hO0, hA7⟩ := hp35
  replace hF := q_uc hF hg37 (q_sc (.head _) (q_sc (.tail _ (.head _)) (fun _ h => absurd h List.not_mem_nil)))
  refine lv_lload hx hb d_17_25_135 (lv_at hl 1 rfl) ?_
  refine lv_lconst (v := 1) hx hb d_17_25_137 (by decide) ?_
  refine lv_iload hx hb d_17_25_138 (lv_at hl 0 rfl) ?_
  refine lv_lshl hx hb d_17_25_140 rfl ?_
  refine q_tl (v := 1048576) (by decide) ?_
  refine lv_lconst (v := 1) hx hb d_17_25_141 (by decide) ?_
  refine lv_lsub hx hb d_17_25_142 ?_
  refine q_tl (v := 1048575) (by decide) ?_
  refine lv_land hx hb d_17_25_143 ?_
  refine q_tl (v := 0) (by decide) ?_
  refine lv_lconst (v := 0) hx hb d_17_25_144 (by decide) ?_
  refine W.lcmp hx hb d_17_25_145 ?_
  refine q_ti (v := 0) (by decide) ?_
  refine lv_if_eq (tgt := 171) hx hb d_17_25_146 (by decide) (fun c38 => ?_) (fun c38 => absurd (by decide) c38)
  refine lv_aload_n hx hb d_17_25_171 rfl (lv_at hl 2 rfl) ?_
  refine lv_bipush (v := 112) hx hb d_17_25_172 (by decide) ?_
  refine q_gov V (q_runV (As := [.int 112]) (rest := []) (d := 1) (mc := 0) (ms := 0) (ci := 15) C0 V rfl LV_FR_110 (c_FR_add_12 l D g u36 kO0 kA7 qO0 qA1 qA2 qA3 qA4 qA5 qA6 qA7 (4 + 1) (upd (upd (upd (upd (upd (fun _ => 0) 0 48) 1 120) (2 : Int32).toNatClampNeg 48) 3 46) (4 : Int32).toNatClampNeg 48) hO0 hA7 (q_Ile (x := 5) (y := (4 + 1)) (by decide) (q_addI (x := 4) (y := 1) (by decide) (by decide) (by omega) (by omega)) (by omega)) (q_Ile (x := (4 + 1)) (y := 5) (q_addI (x := 4) (y := 1) (by decide) (by decide) (by omega) (by omega)) (by decide) (by omega)) _) rfl rfl hO0 rfl hl.1 rfl (Nat.le_of_ble_eq_true rfl) ⟨by decide, by decide⟩ ⟨Nat.le_of_ble_eq_true rfl, Nat.le_of_ble_eq_true rfl⟩ d_17_25_174) (fun u40 H locs hp39 V => ?_)
  obtain ⟨hg41, hO0, hA7⟩ := hp39
  replace hF := q_uc hF hg41 (q_sc (.head _) (q_sc (.tail _ (.head _)) (fun _ h => absurd h List.not_mem_nil)))
  refine lv_aload_n hx hb d_17_25_177 rfl (lv_at hl 2 rfl) ?_
  refine q_get (ci := 15) (j := 14) (v := .long 0) C0 V i_FR rfl rfl hO0 (by decide) w_2090 rfl d_17_25_178 ?_
  refine lv_lconst (v := 0) hx hb d_17_25_181 (by decide) ?_
  refine W.lcmp hx hb d_17_25_182 ?_
  refine q_ti (v := 0) (by decide) ?_
  refine lv_if_ne (tgt := 190) hx hb d_17_25_183 (by decide) (fun c42 => absurd (by decide) c42) (fun c42 => ?_)
  refine lv_iconst (v := 0) hx hb d_17_25_186 (by decide) ?_
  refine lv_goto (tgt := 199) hx hb d_17_25_187 (by decide) ?_
  refine lv_istore (lv' := [(7, .int 0), (6, .int 20), (4, .long 0), (0, .ref qO0), (1, .long 0), (3, .int 1)]) hx hb d_17_25_199 hl (by decide) rfl (fun ls hl => ?_)
  refine lv_iload hx hb d_17_25_201 (lv_at hl 0 rfl) ?_
  refine lv_if_ge (tgt := 212) hx hb d_17_25_203 (by decide) (fun c43 => ?_) (fun c43 => absurd (by decide) c43)
  refine lv_aload_n hx hb d_17_25_212 rfl (lv_at hl 3 rfl) ?_
  refine lv_iload hx hb d_17_25_213 (lv_at hl 0 rfl) ?_
  refine lv_if_ge (tgt := 224) hx hb d_17_25_215 (by decide) (fun c44 => ?_) (fun c44 => absurd (by decide) c44)
  refine lv_iload hx hb d_17_25_224 (lv_at hl 0 rfl) ?_
  refine q_gov V (q_runV (As := [.int 0]) (rest := []) (d := 2) (mc := 0) (ms := 0) (ci := 15) C0 V rfl LV_FR_149 (c_FR_number_2 l D g u40 kO0 kA7 qO0 qA1 qA2 qA3 qA4 qA5 qA6 qA7 (upd (upd (upd (upd (upd (fun _ => 0) 0 48) 1 120) (2 : Int32).toNatClampNeg 48) 3 46) (4 : Int32).toNatClampNeg 48) hO0 hA7 _) rfl rfl hO0 rfl hl.1 rfl (Nat.le_of_ble_eq_true rfl) ⟨by decide, by decide⟩ ⟨Nat.le_of_ble_eq_true rfl, Nat.le_of_ble_eq_true rfl⟩ d_17_25_226) (fun u46 H locs hp45 V => ?_)
  obtain ⟨hg47, hO0, hA7⟩ := hp45
  replace hF := q_uc hF hg47 (q_sc (.head _) (q_sc (.tail _ (.head _)) (fun _ h => absurd h List.not_mem_nil)))
  refine lv_aload_n hx hb d_17_25_229 rfl (lv_at hl 3 rfl) ?_
  refine q_get (ci := 15) (j := 8) (v := .int (6 + 1)) C0 V i_FR rfl rfl hO0 (by decide) w_2084 rfl d_17_25_230 ?_
  exact q_reti C0 V (⟨rfl, hF, hO0, hA7⟩) d_17_25_233
theorem d_17_23_0 : decode prog_17_method_23_code 0 = .ok (.aload_n 0, 1) := by decide +kernel
theorem d_17_23_1 : decode prog_17_method_23_code 1 = .ok (.lload_n 1, 1) := by decide +kernel
theorem d_17_23_2 : decode prog_17_method_23_code 2 = .ok (.iload_n 3, 1) := by decide +kernel
theorem d_17_23_3 : decode prog_17_method_23_code 3 = .ok (.invokestatic 122, 3) := by decide +kernel
theorem d_17_23_6 : decode prog_17_method_23_code 6 = .ok (.ifCond .eq 7, 3) := by decide +kernel
theorem d_17_23_13 : decode prog_17_method_23_code 13 = .ok (.iconst 0, 1) := by decide +kernel
theorem d_17_23_14 : decode prog_17_method_23_code 14 = .ok (.putfield 31, 3) := by decide +kernel
theorem d_17_23_17 : decode prog_17_method_23_code 17 = .ok (.aload_n 0, 1) := by decide +kernel
theorem d_17_23_18 : decode prog_17_method_23_code 18 = .ok (.getfield 31, 3) := by decide +kernel
theorem d_17_23_21 : decode prog_17_method_23_code 21 = .ok (.ifCond .le 5, 3) := by decide +kernel
theorem d_17_23_26 : decode prog_17_method_23_code 26 = .ok (.aload_n 0, 1) := by decide +kernel
theorem d_17_23_27 : decode prog_17_method_23_code 27 = .ok (.lload_n 1, 1) := by decide +kernel
theorem d_17_23_28 : decode prog_17_method_23_code 28 = .ok (.iload_n 3, 1) := by decide +kernel
theorem d_17_23_29 : decode prog_17_method_23_code 29 = .ok (.invokevirtual 126, 3) := by decide +kernel
theorem d_17_23_32 : decode prog_17_method_23_code 32 = .ok (.aload_n 0, 1) := by decide +kernel
theorem d_17_23_33 : decode prog_17_method_23_code 33 = .ok (.invokevirtual 130, 3) := by decide +kernel
theorem d_17_23_36 : decode prog_17_method_23_code 36 = .ok (.ifCond .ne 12, 3) := by decide +kernel
theorem d_17_23_48 : decode prog_17_method_23_code 48 = .ok (.aload_n 0, 1) := by decide +kernel
theorem d_17_23_49 : decode prog_17_method_23_code 49 = .ok (.invokevirtual 113, 3) := by decide +kernel
theorem d_17_23_52 : decode prog_17_method_23_code 52 = .ok (.aload_n 0, 1) := by decide +kernel
theorem d_17_23_53 : decode prog_17_method_23_code 53 = .ok (.getfield 52, 3) := by decide +kernel
theorem d_17_23_56 : decode prog_17_method_23_code 56 = .ok (.lconst 0, 1) := by decide +kernel
theorem d_17_23_57 : decode prog_17_method_23_code 57 = .ok (.lcmp, 1) := by decide +kernel
theorem d_17_23_58 : decode prog_17_method_23_code 58 = .ok (.ifCond .ne 26, 3) := by decide +kernel
theorem d_17_23_61 : decode prog_17_method_23_code 61 = .ok (.aload_n 0, 1) := by decide +kernel
theorem d_17_23_62 : decode prog_17_method_23_code 62 = .ok (.bipush 48, 2) := by decide +kernel
theorem d_17_23_64 : decode prog_17_method_23_code 64 = .ok (.invokevirtual 110, 3) := by decide +kernel
theorem d_17_23_67 : decode prog_17_method_23_code 67 = .ok (.aload_n 0, 1) := by decide +kernel
theorem d_17_23_68 : decode prog_17_method_23_code 68 = .ok (.bipush 46, 2) := by decide +kernel
theorem d_17_23_70 : decode prog_17_method_23_code 70 = .ok (.invokevirtual 110, 3) := by decide +kernel
theorem d_17_23_73 : decode prog_17_method_23_code 73 = .ok (.aload_n 0, 1) := by decide +kernel
theorem d_17_23_74 : decode prog_17_method_23_code 74 = .ok (.bipush 48, 2) := by decide +kernel
theorem d_17_23_76 : decode prog_17_method_23_code 76 = .ok (.invokevirtual 110, 3) := by decide +kernel
theorem d_17_23_79 : decode prog_17_method_23_code 79 = .ok (.aload_n 0, 1) := by decide +kernel
theorem d_17_23_80 : decode prog_17_method_23_code 80 = .ok (.getfield 107, 3) := by decide +kernel
theorem d_17_23_83 : decode prog_17_method_23_code 83 = .ok (.ireturn, 1) := by decide +kernel
def y_FR_print : MethodName := ⟨"NumberHouseModel$FloatRows", "print", "(JZ)I"⟩
set_option maxRecDepth 100000 in
set_option maxHeartbeats 4000000 in
theorem c_FR_print (l : Launch) (D : va_G) (g : Nat → ClassId) (ws : va_W) (kO0 kA7 qO0 qA1 qA2 qA3 qA4 qA5 qA6 qA7 : Nat) (hO0 : ws[kO0]? = (some (qO0, .inr (15, [.int 0, .ref qA1, .ref qA2, .ref qA3, .ref qA4, .ref qA5, .ref qA6, .ref qA7, .int 0, .int 0, .int 0, .long 0, .int 0, .int 0, .long 0, .int 0, .long 0, .int 0])) : Option (Nat × va_E))) (hA7 : ws[kA7]? = (some (qA7, .inl (g 0, 1600, .inl (fun _ => 0))) : Option (Nat × va_E))) : q_mI l y_FR_print prog_17_method_23_code 11 (.int) 2 0 0 D g [.ref qO0, .long 0, .int 0] ws (fun r u => 2 + 1 = r ∧ q_un ws u [kO0, kA7] ∧ u[kO0]? = (some (qO0, .inr (15, [.int 0, .ref qA1, .ref qA2, .ref qA3, .ref qA4, .ref qA5, .ref qA6, .ref qA7, .int (2 + 1), .int 0, .int 0, .long 0, .int 52, .int 2047, .long 0, .int (-1074), .long 0, .int 0])) : Option (Nat × va_E)) ∧ u[kA7]? = (some (qA7, .inl (g 0, 1600, .inl (upd (upd (upd (fun _ => 0) 0 48) 1 46) (2 : Int32).toNatClampNeg 48))) : Option (Nat × va_E))) := by
  intro sz
  refine q_into (by decide) (Nat.le_of_ble_eq_true rfl) ?_
  intro p e s m below meth c ls hsz C0 V hl
  have hx := C0.1
  have hb := C0.2.1
  have hl : lv_has ls 11 [(0, .ref qO0), (1, .long 0), (3, .int 0)] := hl
  have n_A7_O0 := q_df hA7 hO0
  have hF : q_un ws ws [kO0, kA7] := q_u0
  refine lv_aload_n hx hb d_17_23_0 rfl (lv_at hl 0 rfl) ?_
  refine lv_lload_n hx hb d_17_23_1 rfl (lv_at hl 1 rfl) ?_
  refine lv_iload_n hx hb d_17_23_2 rfl (lv_at hl 2 rfl) ?_
  refine q_goi V (q_runS (As := [.long 0, .int 0]) (rest := [.ref qO0]) (d := 1) (mc := 0) (ms := 0) C0 V rfl LS_FR_122 (c_FR_isWrong l D g ws _) rfl hl.1 rfl (Nat.le_of_ble_eq_true rfl) ⟨by decide, by decide⟩ ⟨Nat.le_of_ble_eq_true rfl, Nat.le_of_ble_eq_true rfl⟩ d_17_23_3) (fun v3 u2 H locs hp1 V => ?_)
  obtain ⟨rfl, rfl⟩ := hp1
  refine lv_if_eq (tgt := 13) hx hb d_17_23_6 (by decide) (fun c5 => ?_) (fun c5 => absurd (by decide) c5)
  refine lv_iconst (v := 0) hx hb d_17_23_13 (by decide) ?_
  refine q_put (ci := 15) (j := 0) (v := .int 0) (ty := .int) C0 V i_FR o_FR n_FR rfl rfl hO0 (by decide) w_2074 rfl rfl rfl rfl (Nat.le_of_ble_eq_true rfl) d_17_23_14 (fun H locs w6 hu7 hO0 V => ?_)
  replace hO0 : w6[kO0]? = (some (qO0, .inr (15, [.int 0, .ref qA1, .ref qA2, .ref qA3, .ref qA4, .ref qA5, .ref qA6, .ref qA7, .int 0, .int 0, .int 0, .long 0, .int 0, .int 0, .long 0, .int 0, .long 0, .int 0])) : Option (Nat × va_E)) := hO0
  replace hF := q_us hF hu7 (.head _)
  refine lv_aload_n hx hb d_17_23_17 rfl (lv_at hl 0 rfl) ?_
  refine q_get (ci := 15) (j := 0) (v := .int 0) C0 V i_FR rfl rfl hO0 (by decide) w_2074 rfl d_17_23_18 ?_
  refine lv_if_le (tgt := 26) hx hb d_17_23_21 (by decide) (fun c8 => ?_) (fun c8 => absurd (by decide) c8)
  refine lv_aload_n hx hb d_17_23_26 rfl (lv_at hl 0 rfl) ?_
  refine lv_lload_n hx hb d_17_23_27 rfl (lv_at hl 1 rfl) ?_
  refine lv_iload_n hx hb d_17_23_28 rfl (lv_at hl 2 rfl) ?_
  refine q_gov V (q_runV (As := [.long 0, .int 0]) (rest := []) (d := 1) (mc := 0) (ms := 0) (ci := 15) C0 V rfl LV_FR_126 (c_FR_open l D g w6 kO0 qO0 qA1 qA2 qA3 qA4 qA5 qA6 qA7 hO0 _) rfl rfl hO0 rfl hl.1 rfl (Nat.le_of_ble_eq_true rfl) ⟨by decide, by decide⟩ ⟨Nat.le_of_ble_eq_true rfl, Nat.le_of_ble_eq_true rfl⟩ d_17_23_29) (fun u10 H locs hp9 V => ?_)
  obtain ⟨hg11, hO0⟩ := hp9
  replace hF := q_uc hF hg11 (q_sc (.head _) (fun _ h => absurd h List.not_mem_nil))
  refine lv_aload_n hx hb d_17_23_32 rfl (lv_at hl 0 rfl) ?_
  refine q_goi V (q_runV (As := []) (rest := []) (d := 1) (mc := 0) (ms := 0) (ci := 15) C0 V rfl LV_FR_130 (c_FR_isFinite l D g u10 kO0 qO0 qA1 qA2 qA3 qA4 qA5 qA6 qA7 hO0 _) rfl rfl hO0 rfl hl.1 rfl (Nat.le_of_ble_eq_true rfl) ⟨by decide, by decide⟩ ⟨Nat.le_of_ble_eq_true rfl, Nat.le_of_ble_eq_true rfl⟩ d_17_23_33) (fun v14 u13 H locs hp12 V => ?_)
  obtain ⟨rfl, rfl⟩ := hp12
  refine lv_if_ne (tgt := 48) hx hb d_17_23_36 (by decide) (fun c16 => ?_) (fun c16 => absurd c16 (by decide))
  refine lv_aload_n hx hb d_17_23_48 rfl (lv_at hl 0 rfl) ?_
  refine q_gov V (q_runV (As := []) (rest := []) (d := 1) (mc := 0) (ms := 0) (ci := 15) C0 V rfl LV_FR_113 (c_FR_begin l D g u10 kO0 qO0 qA1 qA2 qA3 qA4 qA5 qA6 qA7 hO0 _) rfl rfl hO0 rfl hl.1 rfl (Nat.le_of_ble_eq_true rfl) ⟨by decide, by decide⟩ ⟨Nat.le_of_ble_eq_true rfl, Nat.le_of_ble_eq_true rfl⟩ d_17_23_49) (fun u18 H locs hp17 V => ?_)
  obtain ⟨hg19, hO0⟩ := hp17
  replace hF := q_uc hF hg19 (q_sc (.head _) (fun _ h => absurd h List.not_mem_nil))
  refine lv_aload_n hx hb d_17_23_52 rfl (lv_at hl 0 rfl) ?_
  refine q_get (ci := 15) (j := 14) (v := .long 0) C0 V i_FR rfl rfl hO0 (by decide) w_2090 rfl d_17_23_53 ?_
  refine lv_lconst (v := 0) hx hb d_17_23_56 (by decide) ?_
  refine W.lcmp hx hb d_17_23_57 ?_
  refine q_ti (v := 0) (by decide) ?_
  refine lv_if_ne (tgt := 84) hx hb d_17_23_58 (by decide) (fun c20 => absurd (by decide) c20) (fun c20 => ?_)
  refine lv_aload_n hx hb d_17_23_61 rfl (lv_at hl 0 rfl) ?_
  refine lv_bipush (v := 48) hx hb d_17_23_62 (by decide) ?_
  replace hA7 := (hg19 _ (q_nc n_A7_O0 List.not_mem_nil)).trans ((hg11 _ (q_nc n_A7_O0 List.not_mem_nil)).trans ((hu7 _ n_A7_O0).trans (hA7)))
  refine q_gov V (q_runV (As := [.int 48]) (rest := []) (d := 1) (mc := 0) (ms := 0) (ci := 15) C0 V rfl LV_FR_110 (c_FR_add l D g u18 kO0 kA7 qO0 qA1 qA2 qA3 qA4 qA5 qA6 qA7 hO0 hA7 _) rfl rfl hO0 rfl hl.1 rfl (Nat.le_of_ble_eq_true rfl) ⟨by decide, by decide⟩ ⟨Nat.le_of_ble_eq_true rfl, Nat.le_of_ble_eq_true rfl⟩ d_17_23_64) (fun u22 H locs hp21 V => ?_)
  obtain ⟨hg23, hO0, hA7⟩ := hp21
  replace hF := q_uc hF hg23 (q_sc (.head _) (q_sc (.tail _ (.head _)) (fun _ h => absurd h List.not_mem_nil)))
  refine lv_aload_n hx hb d_17_23_67 rfl (lv_at hl 0 rfl) ?_
  refine lv_bipush (v := 46) hx hb d_17_23_68 (by decide) ?_
  refine q_gov V (q_runV (As := [.int 46]) (rest := []) (d := 1) (mc := 0) (ms := 0) (ci := 15) C0 V rfl LV_FR_110 (c_FR_add_2 l D g u22 kO0 kA7 qO0 qA1 qA2 qA3 qA4 qA5 qA6 qA7 hO0 hA7 _) rfl rfl hO0 rfl hl.1 rfl (Nat.le_of_ble_eq_true rfl) ⟨by decide, by decide⟩ ⟨Nat.le_of_ble_eq_true rfl, Nat.le_of_ble_eq_true rfl⟩ d_17_23_70) (fun u25 H locs hp24 V => ?_)
  obtain ⟨hg26, hO0, hA7⟩ := hp24
  replace hF := q_uc hF hg26 (q_sc (.head _) (q_sc (.tail _ (.head _)) (fun _ h => absurd h List.not_mem_nil)))
  refine lv_aload_n hx hb d_17_23_73 rfl (lv_at hl 0 rfl) ?_
  refine lv_bipush (v := 48) hx hb d_17_23_74 (by decide) ?_
  refine q_gov V (q_runV (As := [.int 48]) (rest := []) (d := 1) (mc := 0) (ms := 0) (ci := 15) C0 V rfl LV_FR_110 (c_FR_add_3 l D g u25 kO0 kA7 qO0 qA1 qA2 qA3 qA4 qA5 qA6 qA7 2 (upd (upd (fun _ => 0) 0 48) 1 46) hO0 hA7 (q_Ile (x := 2) (y := 2) (by decide) (by decide) (by omega)) (q_Ile (x := 2) (y := 1076) (by decide) (by decide) (by omega)) _) rfl rfl hO0 rfl hl.1 rfl (Nat.le_of_ble_eq_true rfl) ⟨by decide, by decide⟩ ⟨Nat.le_of_ble_eq_true rfl, Nat.le_of_ble_eq_true rfl⟩ d_17_23_76) (fun u28 H locs hp27 V => ?_)
  obtain ⟨hg29, hO0, hA7⟩ := hp27
  replace hF := q_uc hF hg29 (q_sc (.head _) (q_sc (.tail _ (.head _)) (fun _ h => absurd h List.not_mem_nil)))
  refine lv_aload_n hx hb d_17_23_79 rfl (lv_at hl 0 rfl) ?_
  refine q_get (ci := 15) (j := 8) (v := .int (2 + 1)) C0 V i_FR rfl rfl hO0 (by decide) w_2084 rfl d_17_23_80 ?_
  exact q_reti C0 V (⟨rfl, hF, hO0, hA7⟩) d_17_23_83
set_option maxRecDepth 100000 in
set_option maxHeartbeats 4000000 in
theorem c_NM_show_5 (l : Launch) (D : va_G) (g : Nat → ClassId) (ws : va_W) ( qO0 qA1 qA2 qA3 qO4 qO5 qO6 qO7 qO8 qA9 qA10 : Nat) (x1 : Int32) (f2 : Nat → Int32) (hO0 : ws[116]? = (some (qO0, .inr (12, [.int 0, .ref qA2, .int 0, .ref qA3, .int 0, .ref qO4, .ref qO5, .ref qO6, .ref qO7, .ref qO8, .ref qA9, .ref qA10])) : Option (Nat × va_E))) (hA1 : ws[152]? = (some (qA1, .inl (g 0, 1600, .inl f2)) : Option (Nat × va_E))) (hA3 : ws[118]? = (some (qA3, .inl (g 0, 12200, .inl (fun _ => 0))) : Option (Nat × va_E))) (x1lo : 3 ≤ x1) (x1hi : x1 ≤ 3) : q_mI l y_NM_show prog_14_method_5_code 4 (.int) 1 0 0 D g [.ref qO0, .ref qA1, .int x1] ws (fun r u => 3 = r ∧ q_un ws u [116, 118] ∧ u[116]? = (some (qO0, .inr (12, [.int 0, .ref qA2, .int 0, .ref qA3, .int 3, .ref qO4, .ref qO5, .ref qO6, .ref qO7, .ref qO8, .ref qA9, .ref qA10])) : Option (Nat × va_E)) ∧ u[118]? = (some (qA3, .inl (g 0, 12200, .inl (upd (upd (upd (fun _ => 0) 0 (f2 (0 : Int32).toNatClampNeg)) 1 (f2 (1 : Int32).toNatClampNeg)) 2 (f2 (2 : Int32).toNatClampNeg)))) : Option (Nat × va_E))) := by
  intro sz
  refine q_into (by decide) (Nat.le_of_ble_eq_true rfl) ?_
  intro p e s m below meth c ls hsz C0 V hl
  have hx := C0.1
  have hb := C0.2.1
  have hl : lv_has ls 4 [(0, .ref qO0), (1, .ref qA1), (2, .int x1)] := hl
  have hF : q_un ws ws [116, 118] := q_u0
  refine lv_iconst (v := 0) hx hb d_14_5_0 (by decide) ?_
  refine lv_istore_n (lv' := [(3, .int 0), (0, .ref qO0), (1, .ref qA1), (2, .int x1)]) hx hb d_14_5_1 rfl hl (by decide) rfl (fun ls hl => ?_)
  refine lv_iload_n hx hb d_14_5_2 rfl (lv_at hl 0 rfl) ?_
  refine lv_iload_n hx hb d_14_5_3 rfl (lv_at hl 3 rfl) ?_
  refine q_ti (v := 3) (q_Ieq (x := x1.toInt) (y := 3) rfl (by decide) (by have t1 : 3 ≤ x1.toInt := q_leI x1lo; have t2 : x1.toInt ≤ 3 := q_leI x1hi; omega)) ?_
  refine lv_icmp_ge (tgt := 22) hx hb d_14_5_4 (by decide) (fun c1 => absurd c1 (by decide)) (fun c1 => ?_)
  refine lv_aload_n hx hb d_14_5_7 rfl (lv_at hl 1 rfl) ?_
  refine q_get (ci := 12) (j := 3) (v := .ref qA3) C0 V i_NM rfl rfl hO0 (by decide) w_2301 rfl d_14_5_8 ?_
  refine lv_iload_n hx hb d_14_5_11 rfl (lv_at hl 0 rfl) ?_
  refine lv_aload_n hx hb d_14_5_12 rfl (lv_at hl 2 rfl) ?_
  refine lv_iload_n hx hb d_14_5_13 rfl (lv_at hl 0 rfl) ?_
  refine q_iald C0 V hA1 (by unfold vp_in; decide) d_14_5_14 ?_
  refine q_iast C0 V hA3 (by unfold vp_in; decide) d_14_5_15 (fun H locs w2 hu3 hA3 V => ?_)
  replace hA3 : w2[118]? = (some (qA3, .inl (g 0, 12200, .inl (upd (fun _ => 0) 0 (f2 (0 : Int32).toNatClampNeg)))) : Option (Nat × va_E)) := hA3
  replace hF := q_us hF hu3 (.tail _ (.head _))
  refine lv_iinc (v := 1) (lv' := [(3, .int 1), (0, .ref qO0), (1, .ref qA1), (2, .int x1)]) hx hb d_14_5_16 hl (k := 0) rfl (by decide) (by decide) rfl (fun ls hl => ?_)
  refine lv_goto (tgt := 2) hx hb d_14_5_19 (by decide) ?_
  refine lv_iload_n hx hb d_14_5_2 rfl (lv_at hl 0 rfl) ?_
  refine lv_iload_n hx hb d_14_5_3 rfl (lv_at hl 3 rfl) ?_
  refine q_ti (v := 3) (q_Ieq (x := x1.toInt) (y := 3) rfl (by decide) (by have t1 : 3 ≤ x1.toInt := q_leI x1lo; have t2 : x1.toInt ≤ 3 := q_leI x1hi; omega)) ?_
  refine lv_icmp_ge (tgt := 22) hx hb d_14_5_4 (by decide) (fun c4 => absurd c4 (by decide)) (fun c4 => ?_)
  refine lv_aload_n hx hb d_14_5_7 rfl (lv_at hl 1 rfl) ?_
  replace hO0 := (hu3 _ (q_pd 116 118 rfl)).trans (hO0)
  refine q_get (ci := 12) (j := 3) (v := .ref qA3) C0 V i_NM rfl rfl hO0 (by decide) w_2301 rfl d_14_5_8 ?_
  refine lv_iload_n hx hb d_14_5_11 rfl (lv_at hl 0 rfl) ?_
  refine lv_aload_n hx hb d_14_5_12 rfl (lv_at hl 2 rfl) ?_
  refine lv_iload_n hx hb d_14_5_13 rfl (lv_at hl 0 rfl) ?_
  replace hA1 := (hu3 _ (q_pd 152 118 rfl)).trans (hA1)
  refine q_iald C0 V hA1 (by unfold vp_in; decide) d_14_5_14 ?_
  refine q_iast C0 V hA3 (by unfold vp_in; decide) d_14_5_15 (fun H locs w5 hu6 hA3 V => ?_)
  replace hA3 : w5[118]? = (some (qA3, .inl (g 0, 12200, .inl (upd (upd (fun _ => 0) 0 (f2 (0 : Int32).toNatClampNeg)) 1 (f2 (1 : Int32).toNatClampNeg)))) : Option (Nat × va_E)) := hA3
  replace hF := q_us hF hu6 (.tail _ (.head _))
  refine lv_iinc (v := 2) (lv' := [(3, .int 2), (0, .ref qO0), (1, .ref qA1), (2, .int x1)]) hx hb d_14_5_16 hl (k := 0) rfl (by decide) (by decide) rfl (fun ls hl => ?_)
  refine lv_goto (tgt := 2) hx hb d_14_5_19 (by decide) ?_
  refine lv_iload_n hx hb d_14_5_2 rfl (lv_at hl 0 rfl) ?_
  refine lv_iload_n hx hb d_14_5_3 rfl (lv_at hl 3 rfl) ?_
  refine q_ti (v := 3) (q_Ieq (x := x1.toInt) (y := 3) rfl (by decide) (by have t1 : 3 ≤ x1.toInt := q_leI x1lo; have t2 : x1.toInt ≤ 3 := q_leI x1hi; omega)) ?_
  refine lv_icmp_ge (tgt := 22) hx hb d_14_5_4 (by decide) (fun c7 => absurd c7 (by decide)) (fun c7 => ?_)
  refine lv_aload_n hx hb d_14_5_7 rfl (lv_at hl 1 rfl) ?_
  replace hO0 := (hu6 _ (q_pd 116 118 rfl)).trans (hO0)
  refine q_get (ci := 12) (j := 3) (v := .ref qA3) C0 V i_NM rfl rfl hO0 (by decide) w_2301 rfl d_14_5_8 ?_
  refine lv_iload_n hx hb d_14_5_11 rfl (lv_at hl 0 rfl) ?_
  refine lv_aload_n hx hb d_14_5_12 rfl (lv_at hl 2 rfl) ?_
  refine lv_iload_n hx hb d_14_5_13 rfl (lv_at hl 0 rfl) ?_
  replace hA1 := (hu6 _ (q_pd 152 118 rfl)).trans (hA1)
  refine q_iald C0 V hA1 (by unfold vp_in; decide) d_14_5_14 ?_
  refine q_iast C0 V hA3 (by unfold vp_in; decide) d_14_5_15 (fun H locs w8 hu9 hA3 V => ?_)
  replace hA3 : w8[118]? = (some (qA3, .inl (g 0, 12200, .inl (upd (upd (upd (fun _ => 0) 0 (f2 (0 : Int32).toNatClampNeg)) 1 (f2 (1 : Int32).toNatClampNeg)) 2 (f2 (2 : Int32).toNatClampNeg)))) : Option (Nat × va_E)) := hA3
  replace hF := q_us hF hu9 (.tail _ (.head _))
  refine lv_iinc (v := 3) (lv' := [(3, .int 3), (0, .ref qO0), (1, .ref qA1), (2, .int x1)]) hx hb d_14_5_16 hl (k := 0) rfl (by decide) (by decide) rfl (fun ls hl => ?_)
  refine lv_goto (tgt := 2) hx hb d_14_5_19 (by decide) ?_
  refine lv_iload_n hx hb d_14_5_2 rfl (lv_at hl 0 rfl) ?_
  refine lv_iload_n hx hb d_14_5_3 rfl (lv_at hl 3 rfl) ?_
  refine q_ti (v := 3) (q_Ieq (x := x1.toInt) (y := 3) rfl (by decide) (by have t1 : 3 ≤ x1.toInt := q_leI x1lo; have t2 : x1.toInt ≤ 3 := q_leI x1hi; omega)) ?_
  refine lv_icmp_ge (tgt := 22) hx hb d_14_5_4 (by decide) (fun c10 => ?_) (fun c10 => absurd (by decide) c10)
  refine lv_aload_n hx hb d_14_5_22 rfl (lv_at hl 1 rfl) ?_
  refine lv_iload_n hx hb d_14_5_23 rfl (lv_at hl 3 rfl) ?_
  refine q_ti (v := 3) (q_Ieq (x := x1.toInt) (y := 3) rfl (by decide) (by have t1 : 3 ≤ x1.toInt := q_leI x1lo; have t2 : x1.toInt ≤ 3 := q_leI x1hi; omega)) ?_
  replace hO0 := (hu9 _ (q_pd 116 118 rfl)).trans (hO0)
  refine q_put (ci := 12) (j := 4) (v := .int 3) (ty := .int) C0 V i_NM o_NM n_NM rfl rfl hO0 (by decide) w_2302 rfl rfl rfl rfl (Nat.le_of_ble_eq_true rfl) d_14_5_24 (fun H locs w11 hu12 hO0 V => ?_)
  replace hO0 : w11[116]? = (some (qO0, .inr (12, [.int 0, .ref qA2, .int 0, .ref qA3, .int 3, .ref qO4, .ref qO5, .ref qO6, .ref qO7, .ref qO8, .ref qA9, .ref qA10])) : Option (Nat × va_E)) := hO0
  replace hF := q_us hF hu12 (.head _)
  refine lv_iload_n hx hb d_14_5_27 rfl (lv_at hl 3 rfl) ?_
  refine q_ti (v := 3) (q_Ieq (x := x1.toInt) (y := 3) rfl (by decide) (by have t1 : 3 ≤ x1.toInt := q_leI x1lo; have t2 : x1.toInt ≤ 3 := q_leI x1hi; omega)) ?_
  replace hA3 := (hu12 _ (q_pd 118 116 rfl)).trans (hA3)
  exact q_reti C0 V (⟨rfl, hF, hO0, hA3⟩) d_14_5_28
set_option maxRecDepth 100000 in
set_option maxHeartbeats 4000000 in
theorem c_FR_print_2 (l : Launch) (D : va_G) (g : Nat → ClassId) (ws : va_W) (kO0 kA7 qO0 qA1 qA2 qA3 qA4 qA5 qA6 qA7 : Nat) (hO0 : ws[kO0]? = (some (qO0, .inr (15, [.int 0, .ref qA1, .ref qA2, .ref qA3, .ref qA4, .ref qA5, .ref qA6, .ref qA7, .int 0, .int 0, .int 0, .long 0, .int 0, .int 0, .long 0, .int 0, .long 0, .int 0])) : Option (Nat × va_E))) (hA7 : ws[kA7]? = (some (qA7, .inl (g 0, 1600, .inl (fun _ => 0))) : Option (Nat × va_E))) : q_mI l y_FR_print prog_17_method_23_code 11 (.int) 2 0 0 D g [.ref qO0, .long 0, .int 1] ws (fun r u => 2 + 1 = r ∧ q_un ws u [kO0, kA7] ∧ u[kO0]? = (some (qO0, .inr (15, [.int 0, .ref qA1, .ref qA2, .ref qA3, .ref qA4, .ref qA5, .ref qA6, .ref qA7, .int (2 + 1), .int 0, .int 0, .long 0, .int 23, .int 255, .long 0, .int (-149), .long 0, .int 0])) : Option (Nat × va_E)) ∧ u[kA7]? = (some (qA7, .inl (g 0, 1600, .inl (upd (upd (upd (fun _ => 0) 0 48) 1 46) (2 : Int32).toNatClampNeg 48))) : Option (Nat × va_E))) := by
  intro sz
  refine q_into (by decide) (Nat.le_of_ble_eq_true rfl) ?_
  intro p e s m below meth c ls hsz C0 V hl
  have hx := C0.1
  have hb := C0.2.1
  have hl : lv_has ls 11 [(0, .ref qO0), (1, .long 0), (3, .int 1)] := hl
  have n_A7_O0 := q_df hA7 hO0
  have hF : q_un ws ws [kO0, kA7] := q_u0
  refine lv_aload_n hx hb d_17_23_0 rfl (lv_at hl 0 rfl) ?_
  refine lv_lload_n hx hb d_17_23_1 rfl (lv_at hl 1 rfl) ?_
  refine lv_iload_n hx hb d_17_23_2 rfl (lv_at hl 2 rfl) ?_
  refine q_goi V (q_runS (As := [.long 0, .int 1]) (rest := [.ref qO0]) (d := 1) (mc := 0) (ms := 0) C0 V rfl LS_FR_122 (c_FR_isWrong_2 l D g ws _) rfl hl.1 rfl (Nat.le_of_ble_eq_true rfl) ⟨by decide, by decide⟩ ⟨Nat.le_of_ble_eq_true rfl, Nat.le_of_ble_eq_true rfl⟩ d_17_23_3) (fun v3 u2 H locs hp1 V => ?_)
  obtain ⟨rfl, rfl⟩ := hp1
  refine lv_if_eq (tgt := 13) hx hb d_17_23_6 (by decide) (fun c5 => ?_) (fun c5 => absurd (by decide) c5)
  refine lv_iconst (v := 0) hx hb d_17_23_13 (by decide) ?_
  refine q_put (ci := 15) (j := 0) (v := .int 0) (ty := .int) C0 V i_FR o_FR n_FR rfl rfl hO0 (by decide) w_2074 rfl rfl rfl rfl (Nat.le_of_ble_eq_true rfl) d_17_23_14 (fun H locs w6 hu7 hO0 V => ?_)
  replace hO0 : w6[kO0]? = (some (qO0, .inr (15, [.int 0, .ref qA1, .ref qA2, .ref qA3, .ref qA4, .ref qA5, .ref qA6, .ref qA7, .int 0, .int 0, .int 0, .long 0, .int 0, .int 0, .long 0, .int 0, .long 0, .int 0])) : Option (Nat × va_E)) := hO0
  replace hF := q_us hF hu7 (.head _)
  refine lv_aload_n hx hb d_17_23_17 rfl (lv_at hl 0 rfl) ?_
  refine q_get (ci := 15) (j := 0) (v := .int 0) C0 V i_FR rfl rfl hO0 (by decide) w_2074 rfl d_17_23_18 ?_
  refine lv_if_le (tgt := 26) hx hb d_17_23_21 (by decide) (fun c8 => ?_) (fun c8 => absurd (by decide) c8)
  refine lv_aload_n hx hb d_17_23_26 rfl (lv_at hl 0 rfl) ?_
  refine lv_lload_n hx hb d_17_23_27 rfl (lv_at hl 1 rfl) ?_
  refine lv_iload_n hx hb d_17_23_28 rfl (lv_at hl 2 rfl) ?_
  refine q_gov V (q_runV (As := [.long 0, .int 1]) (rest := []) (d := 1) (mc := 0) (ms := 0) (ci := 15) C0 V rfl LV_FR_126 (c_FR_open_2 l D g w6 kO0 qO0 qA1 qA2 qA3 qA4 qA5 qA6 qA7 hO0 _) rfl rfl hO0 rfl hl.1 rfl (Nat.le_of_ble_eq_true rfl) ⟨by decide, by decide⟩ ⟨Nat.le_of_ble_eq_true rfl, Nat.le_of_ble_eq_true rfl⟩ d_17_23_29) (fun u10 H locs hp9 V => ?_)
  obtain ⟨hg11, hO0⟩ := hp9
  replace hF := q_uc hF hg11 (q_sc (.head _) (fun _ h => absurd h List.not_mem_nil))
  refine lv_aload_n hx hb d_17_23_32 rfl (lv_at hl 0 rfl) ?_
  refine q_goi V (q_runV (As := []) (rest := []) (d := 1) (mc := 0) (ms := 0) (ci := 15) C0 V rfl LV_FR_130 (c_FR_isFinite_2 l D g u10 kO0 qO0 qA1 qA2 qA3 qA4 qA5 qA6 qA7 hO0 _) rfl rfl hO0 rfl hl.1 rfl (Nat.le_of_ble_eq_true rfl) ⟨by decide, by decide⟩ ⟨Nat.le_of_ble_eq_true rfl, Nat.le_of_ble_eq_true rfl⟩ d_17_23_33) (fun v14 u13 H locs hp12 V => ?_)
  obtain ⟨rfl, rfl⟩ := hp12
  refine lv_if_ne (tgt := 48) hx hb d_17_23_36 (by decide) (fun c16 => ?_) (fun c16 => absurd c16 (by decide))
  refine lv_aload_n hx hb d_17_23_48 rfl (lv_at hl 0 rfl) ?_
  refine q_gov V (q_runV (As := []) (rest := []) (d := 1) (mc := 0) (ms := 0) (ci := 15) C0 V rfl LV_FR_113 (c_FR_begin_2 l D g u10 kO0 qO0 qA1 qA2 qA3 qA4 qA5 qA6 qA7 hO0 _) rfl rfl hO0 rfl hl.1 rfl (Nat.le_of_ble_eq_true rfl) ⟨by decide, by decide⟩ ⟨Nat.le_of_ble_eq_true rfl, Nat.le_of_ble_eq_true rfl⟩ d_17_23_49) (fun u18 H locs hp17 V => ?_)
  obtain ⟨hg19, hO0⟩ := hp17
  replace hF := q_uc hF hg19 (q_sc (.head _) (fun _ h => absurd h List.not_mem_nil))
  refine lv_aload_n hx hb d_17_23_52 rfl (lv_at hl 0 rfl) ?_
  refine q_get (ci := 15) (j := 14) (v := .long 0) C0 V i_FR rfl rfl hO0 (by decide) w_2090 rfl d_17_23_53 ?_
  refine lv_lconst (v := 0) hx hb d_17_23_56 (by decide) ?_
  refine W.lcmp hx hb d_17_23_57 ?_
  refine q_ti (v := 0) (by decide) ?_
  refine lv_if_ne (tgt := 84) hx hb d_17_23_58 (by decide) (fun c20 => absurd (by decide) c20) (fun c20 => ?_)
  refine lv_aload_n hx hb d_17_23_61 rfl (lv_at hl 0 rfl) ?_
  refine lv_bipush (v := 48) hx hb d_17_23_62 (by decide) ?_
  replace hA7 := (hg19 _ (q_nc n_A7_O0 List.not_mem_nil)).trans ((hg11 _ (q_nc n_A7_O0 List.not_mem_nil)).trans ((hu7 _ n_A7_O0).trans (hA7)))
  refine q_gov V (q_runV (As := [.int 48]) (rest := []) (d := 1) (mc := 0) (ms := 0) (ci := 15) C0 V rfl LV_FR_110 (c_FR_add_4 l D g u18 kO0 kA7 qO0 qA1 qA2 qA3 qA4 qA5 qA6 qA7 hO0 hA7 _) rfl rfl hO0 rfl hl.1 rfl (Nat.le_of_ble_eq_true rfl) ⟨by decide, by decide⟩ ⟨Nat.le_of_ble_eq_true rfl, Nat.le_of_ble_eq_true rfl⟩ d_17_23_64) (fun u22 H locs hp21 V => ?_)
  obtain ⟨hg23, hO0, hA7⟩ := hp21
  replace hF := q_uc hF hg23 (q_sc (.head _) (q_sc (.tail _ (.head _)) (fun _ h => absurd h List.not_mem_nil)))
  refine lv_aload_n hx hb d_17_23_67 rfl (lv_at hl 0 rfl) ?_
  refine lv_bipush (v := 46) hx hb d_17_23_68 (by decide) ?_
  refine q_gov V (q_runV (As := [.int 46]) (rest := []) (d := 1) (mc := 0) (ms := 0) (ci := 15) C0 V rfl LV_FR_110 (c_FR_add_5 l D g u22 kO0 kA7 qO0 qA1 qA2 qA3 qA4 qA5 qA6 qA7 hO0 hA7 _) rfl rfl hO0 rfl hl.1 rfl (Nat.le_of_ble_eq_true rfl) ⟨by decide, by decide⟩ ⟨Nat.le_of_ble_eq_true rfl, Nat.le_of_ble_eq_true rfl⟩ d_17_23_70) (fun u25 H locs hp24 V => ?_)
  obtain ⟨hg26, hO0, hA7⟩ := hp24
  replace hF := q_uc hF hg26 (q_sc (.head _) (q_sc (.tail _ (.head _)) (fun _ h => absurd h List.not_mem_nil)))
  refine lv_aload_n hx hb d_17_23_73 rfl (lv_at hl 0 rfl) ?_
  refine lv_bipush (v := 48) hx hb d_17_23_74 (by decide) ?_
  refine q_gov V (q_runV (As := [.int 48]) (rest := []) (d := 1) (mc := 0) (ms := 0) (ci := 15) C0 V rfl LV_FR_110 (c_FR_add_6 l D g u25 kO0 kA7 qO0 qA1 qA2 qA3 qA4 qA5 qA6 qA7 2 (upd (upd (fun _ => 0) 0 48) 1 46) hO0 hA7 (q_Ile (x := 2) (y := 2) (by decide) (by decide) (by omega)) (q_Ile (x := 2) (y := 1076) (by decide) (by decide) (by omega)) _) rfl rfl hO0 rfl hl.1 rfl (Nat.le_of_ble_eq_true rfl) ⟨by decide, by decide⟩ ⟨Nat.le_of_ble_eq_true rfl, Nat.le_of_ble_eq_true rfl⟩ d_17_23_76) (fun u28 H locs hp27 V => ?_)
  obtain ⟨hg29, hO0, hA7⟩ := hp27
  replace hF := q_uc hF hg29 (q_sc (.head _) (q_sc (.tail _ (.head _)) (fun _ h => absurd h List.not_mem_nil)))
  refine lv_aload_n hx hb d_17_23_79 rfl (lv_at hl 0 rfl) ?_
  refine q_get (ci := 15) (j := 8) (v := .int (2 + 1)) C0 V i_FR rfl rfl hO0 (by decide) w_2084 rfl d_17_23_80 ?_
  exact q_reti C0 V (⟨rfl, hF, hO0, hA7⟩) d_17_23_83
theorem d_14_33_0 : decode prog_14_method_33_code 0 = .ok (.iload_n 1, 1) := by decide +kernel
theorem d_14_33_1 : decode prog_14_method_33_code 1 = .ok (.iload_n 2, 1) := by decide +kernel
theorem d_14_33_2 : decode prog_14_method_33_code 2 = .ok (.invokestatic 84, 3) := by decide +kernel
theorem d_14_33_5 : decode prog_14_method_33_code 5 = .ok (.ifCond .ne 29, 3) := by decide +kernel
theorem d_14_33_34 : decode prog_14_method_33_code 34 = .ok (.iconst 1, 1) := by decide +kernel
theorem d_14_33_35 : decode prog_14_method_33_code 35 = .ok (.goto 4, 3) := by decide +kernel
theorem d_14_33_39 : decode prog_14_method_33_code 39 = .ok (.istore 4, 2) := by decide +kernel
theorem d_14_33_41 : decode prog_14_method_33_code 41 = .ok (.aload_n 0, 1) := by decide +kernel
theorem d_14_33_42 : decode prog_14_method_33_code 42 = .ok (.iload 4, 2) := by decide +kernel
theorem d_14_33_44 : decode prog_14_method_33_code 44 = .ok (.ifCond .ne 18, 3) := by decide +kernel
theorem d_14_33_62 : decode prog_14_method_33_code 62 = .ok (.iconst 1, 1) := by decide +kernel
theorem d_14_33_63 : decode prog_14_method_33_code 63 = .ok (.goto 4, 3) := by decide +kernel
theorem d_14_33_67 : decode prog_14_method_33_code 67 = .ok (.putfield 58, 3) := by decide +kernel
theorem d_14_33_70 : decode prog_14_method_33_code 70 = .ok (.aload_n 0, 1) := by decide +kernel
theorem d_14_33_71 : decode prog_14_method_33_code 71 = .ok (.getfield 58, 3) := by decide +kernel
theorem d_14_33_74 : decode prog_14_method_33_code 74 = .ok (.ifCond .le 5, 3) := by decide +kernel
theorem d_14_33_77 : decode prog_14_method_33_code 77 = .ok (.iconst 0, 1) := by decide +kernel
theorem d_14_33_78 : decode prog_14_method_33_code 78 = .ok (.ireturn, 1) := by decide +kernel
theorem d_14_33_8 : decode prog_14_method_33_code 8 = .ok (.iload_n 3, 1) := by decide +kernel
theorem d_14_33_9 : decode prog_14_method_33_code 9 = .ok (.ifCond .lt 25, 3) := by decide +kernel
theorem d_14_33_12 : decode prog_14_method_33_code 12 = .ok (.iload_n 1, 1) := by decide +kernel
theorem d_14_33_13 : decode prog_14_method_33_code 13 = .ok (.invokestatic 250, 3) := by decide +kernel
theorem d_14_33_16 : decode prog_14_method_33_code 16 = .ok (.ifCond .eq 8, 3) := by decide +kernel
theorem d_14_33_24 : decode prog_14_method_33_code 24 = .ok (.iload_n 1, 1) := by decide +kernel
theorem d_14_33_25 : decode prog_14_method_33_code 25 = .ok (.iconst 1, 1) := by decide +kernel
theorem d_14_33_26 : decode prog_14_method_33_code 26 = .ok (.if_icmp .ne 12, 3) := by decide +kernel
theorem d_14_33_38 : decode prog_14_method_33_code 38 = .ok (.iconst 0, 1) := by decide +kernel
theorem d_14_33_47 : decode prog_14_method_33_code 47 = .ok (.iload_n 1, 1) := by decide +kernel
theorem d_14_33_48 : decode prog_14_method_33_code 48 = .ok (.ifCond .ne 18, 3) := by decide +kernel
theorem d_14_33_51 : decode prog_14_method_33_code 51 = .ok (.iload_n 3, 1) := by decide +kernel
theorem d_14_33_52 : decode prog_14_method_33_code 52 = .ok (.iconst 2, 1) := by decide +kernel
theorem d_14_33_53 : decode prog_14_method_33_code 53 = .ok (.if_icmp .lt 9, 3) := by decide +kernel
theorem d_14_33_56 : decode prog_14_method_33_code 56 = .ok (.iload_n 3, 1) := by decide +kernel
theorem d_14_33_57 : decode prog_14_method_33_code 57 = .ok (.bipush 36, 2) := by decide +kernel
theorem d_14_33_59 : decode prog_14_method_33_code 59 = .ok (.if_icmp .le 7, 3) := by decide +kernel
theorem d_14_33_66 : decode prog_14_method_33_code 66 = .ok (.iconst 0, 1) := by decide +kernel
theorem d_14_33_79 : decode prog_14_method_33_code 79 = .ok (.iload_n 1, 1) := by decide +kernel
theorem d_14_33_80 : decode prog_14_method_33_code 80 = .ok (.ifCond .ne 24, 3) := by decide +kernel
theorem d_14_33_83 : decode prog_14_method_33_code 83 = .ok (.aload_n 0, 1) := by decide +kernel
theorem d_14_33_84 : decode prog_14_method_33_code 84 = .ok (.aload_n 0, 1) := by decide +kernel
theorem d_14_33_85 : decode prog_14_method_33_code 85 = .ok (.getfield 19, 3) := by decide +kernel
theorem d_14_33_88 : decode prog_14_method_33_code 88 = .ok (.getfield 248, 3) := by decide +kernel
theorem d_14_33_91 : decode prog_14_method_33_code 91 = .ok (.aload_n 0, 1) := by decide +kernel
theorem d_14_33_92 : decode prog_14_method_33_code 92 = .ok (.getfield 19, 3) := by decide +kernel
theorem d_14_33_95 : decode prog_14_method_33_code 95 = .ok (.iload_n 2, 1) := by decide +kernel
theorem d_14_33_96 : decode prog_14_method_33_code 96 = .ok (.iload_n 3, 1) := by decide +kernel
theorem d_14_33_97 : decode prog_14_method_33_code 97 = .ok (.invokevirtual 249, 3) := by decide +kernel
theorem d_14_33_100 : decode prog_14_method_33_code 100 = .ok (.invokevirtual 269, 3) := by decide +kernel
theorem d_14_33_103 : decode prog_14_method_33_code 103 = .ok (.ireturn, 1) := by decide +kernel
theorem d_14_33_29 : decode prog_14_method_33_code 29 = .ok (.iload_n 3, 1) := by decide +kernel
theorem d_14_33_30 : decode prog_14_method_33_code 30 = .ok (.iconst 2, 1) := by decide +kernel
theorem d_14_33_31 : decode prog_14_method_33_code 31 = .ok (.if_icmp .le 7, 3) := by decide +kernel
theorem d_14_33_104 : decode prog_14_method_33_code 104 = .ok (.iload_n 1, 1) := by decide +kernel
theorem d_14_33_105 : decode prog_14_method_33_code 105 = .ok (.iconst 1, 1) := by decide +kernel
theorem d_14_33_106 : decode prog_14_method_33_code 106 = .ok (.if_icmp .ne 24, 3) := by decide +kernel
theorem d_14_33_109 : decode prog_14_method_33_code 109 = .ok (.aload_n 0, 1) := by decide +kernel
theorem d_14_33_110 : decode prog_14_method_33_code 110 = .ok (.aload_n 0, 1) := by decide +kernel
theorem d_14_33_111 : decode prog_14_method_33_code 111 = .ok (.getfield 26, 3) := by decide +kernel
theorem d_14_33_114 : decode prog_14_method_33_code 114 = .ok (.getfield 243, 3) := by decide +kernel
theorem d_14_33_117 : decode prog_14_method_33_code 117 = .ok (.aload_n 0, 1) := by decide +kernel
theorem d_14_33_118 : decode prog_14_method_33_code 118 = .ok (.getfield 26, 3) := by decide +kernel
theorem d_14_33_121 : decode prog_14_method_33_code 121 = .ok (.iload_n 2, 1) := by decide +kernel
theorem d_14_33_122 : decode prog_14_method_33_code 122 = .ok (.iload_n 3, 1) := by decide +kernel
theorem d_14_33_123 : decode prog_14_method_33_code 123 = .ok (.invokevirtual 240, 3) := by decide +kernel
theorem d_14_33_126 : decode prog_14_method_33_code 126 = .ok (.invokevirtual 269, 3) := by decide +kernel
theorem d_14_33_129 : decode prog_14_method_33_code 129 = .ok (.ireturn, 1) := by decide +kernel
theorem d_14_33_19 : decode prog_14_method_33_code 19 = .ok (.iload_n 3, 1) := by decide +kernel
theorem d_14_33_20 : decode prog_14_method_33_code 20 = .ok (.iconst 1, 1) := by decide +kernel
theorem d_14_33_21 : decode prog_14_method_33_code 21 = .ok (.if_icmp .gt 13, 3) := by decide +kernel
theorem d_14_33_130 : decode prog_14_method_33_code 130 = .ok (.aload_n 0, 1) := by decide +kernel
theorem d_14_33_131 : decode prog_14_method_33_code 131 = .ok (.iload_n 1, 1) := by decide +kernel
theorem d_14_33_132 : decode prog_14_method_33_code 132 = .ok (.iload_n 2, 1) := by decide +kernel
theorem d_14_33_133 : decode prog_14_method_33_code 133 = .ok (.invokevirtual 138, 3) := by decide +kernel
theorem d_14_33_136 : decode prog_14_method_33_code 136 = .ok (.lstore 5, 2) := by decide +kernel
theorem d_14_33_138 : decode prog_14_method_33_code 138 = .ok (.aload_n 0, 1) := by decide +kernel
theorem d_14_33_139 : decode prog_14_method_33_code 139 = .ok (.aload_n 0, 1) := by decide +kernel
theorem d_14_33_140 : decode prog_14_method_33_code 140 = .ok (.getfield 33, 3) := by decide +kernel
theorem d_14_33_143 : decode prog_14_method_33_code 143 = .ok (.getfield 231, 3) := by decide +kernel
theorem d_14_33_146 : decode prog_14_method_33_code 146 = .ok (.iload_n 3, 1) := by decide +kernel
theorem d_14_33_147 : decode prog_14_method_33_code 147 = .ok (.ifCond .ne 25, 3) := by decide +kernel
theorem d_14_33_172 : decode prog_14_method_33_code 172 = .ok (.aload_n 0, 1) := by decide +kernel
theorem d_14_33_173 : decode prog_14_method_33_code 173 = .ok (.getfield 33, 3) := by decide +kernel
theorem d_14_33_176 : decode prog_14_method_33_code 176 = .ok (.lload 5, 2) := by decide +kernel
theorem d_14_33_178 : decode prog_14_method_33_code 178 = .ok (.iload_n 1, 1) := by decide +kernel
theorem d_14_33_179 : decode prog_14_method_33_code 179 = .ok (.iconst 3, 1) := by decide +kernel
theorem d_14_33_180 : decode prog_14_method_33_code 180 = .ok (.if_icmp .ne 7, 3) := by decide +kernel
theorem d_14_33_187 : decode prog_14_method_33_code 187 = .ok (.iconst 0, 1) := by decide +kernel
theorem d_14_33_188 : decode prog_14_method_33_code 188 = .ok (.invokevirtual 276, 3) := by decide +kernel
theorem w_3049 : (Cond.code ({ cls := "NumberHouseModel$FloatRows", name := "hexadecimal", desc := "(JZ)I" } : MethodName) prog_17_method_25_code (8 : Nat) (some .int)) ∈ q_tbl := q_of 3049 (by decide +kernel) (by decide +kernel)
theorem w_3046 : (Cond.methodLink "NumberHouseModel" (276 : Nat) ({ cls := "NumberHouseModel$FloatRows", name := "hexadecimal", desc := "(JZ)I" } : MethodName)) ∈ q_tbl := q_of 3046 (by decide +kernel) (by decide +kernel)
theorem w_3047 : (Cond.instanceMethod ({ cls := "NumberHouseModel$FloatRows", name := "hexadecimal", desc := "(JZ)I" } : MethodName)) ∈ q_tbl := q_of 3047 (by decide +kernel) (by decide +kernel)
theorem w_3048 : (Cond.selects "NumberHouseModel$FloatRows" ({ cls := "NumberHouseModel$FloatRows", name := "hexadecimal", desc := "(JZ)I" } : MethodName) ({ cls := "NumberHouseModel$FloatRows", name := "hexadecimal", desc := "(JZ)I" } : MethodName)) ∈ q_tbl := q_of 3048 (by decide +kernel) (by decide +kernel)
theorem LV_NM_276 : q_LV "NumberHouseModel" 276 y_FR_hexadecimal prog_17_method_25_code 8 (some .int) 2 := ⟨w_3049, w_17, w_3046, w_3047, w_3048, ⟨by decide, by decide, by decide +kernel⟩⟩
theorem d_14_33_191 : decode prog_14_method_33_code 191 = .ok (.invokevirtual 269, 3) := by decide +kernel
theorem d_14_33_194 : decode prog_14_method_33_code 194 = .ok (.ireturn, 1) := by decide +kernel
theorem d_14_33_183 : decode prog_14_method_33_code 183 = .ok (.iconst 1, 1) := by decide +kernel
theorem d_14_33_184 : decode prog_14_method_33_code 184 = .ok (.goto 4, 3) := by decide +kernel
theorem d_14_33_150 : decode prog_14_method_33_code 150 = .ok (.aload_n 0, 1) := by decide +kernel
theorem d_14_33_151 : decode prog_14_method_33_code 151 = .ok (.getfield 33, 3) := by decide +kernel
theorem d_14_33_154 : decode prog_14_method_33_code 154 = .ok (.lload 5, 2) := by decide +kernel
theorem d_14_33_156 : decode prog_14_method_33_code 156 = .ok (.iload_n 1, 1) := by decide +kernel
theorem d_14_33_157 : decode prog_14_method_33_code 157 = .ok (.iconst 3, 1) := by decide +kernel
theorem d_14_33_158 : decode prog_14_method_33_code 158 = .ok (.if_icmp .ne 7, 3) := by decide +kernel
theorem d_14_33_165 : decode prog_14_method_33_code 165 = .ok (.iconst 0, 1) := by decide +kernel
theorem d_14_33_166 : decode prog_14_method_33_code 166 = .ok (.invokevirtual 273, 3) := by decide +kernel
theorem w_3022 : (Cond.code ({ cls := "NumberHouseModel$FloatRows", name := "print", desc := "(JZ)I" } : MethodName) prog_17_method_23_code (11 : Nat) (some .int)) ∈ q_tbl := q_of 3022 (by decide +kernel) (by decide +kernel)
theorem w_3019 : (Cond.methodLink "NumberHouseModel" (273 : Nat) ({ cls := "NumberHouseModel$FloatRows", name := "print", desc := "(JZ)I" } : MethodName)) ∈ q_tbl := q_of 3019 (by decide +kernel) (by decide +kernel)
theorem w_3020 : (Cond.instanceMethod ({ cls := "NumberHouseModel$FloatRows", name := "print", desc := "(JZ)I" } : MethodName)) ∈ q_tbl := q_of 3020 (by decide +kernel) (by decide +kernel)
theorem w_3021 : (Cond.selects "NumberHouseModel$FloatRows" ({ cls := "NumberHouseModel$FloatRows", name := "print", desc := "(JZ)I" } : MethodName) ({ cls := "NumberHouseModel$FloatRows", name := "print", desc := "(JZ)I" } : MethodName)) ∈ q_tbl := q_of 3021 (by decide +kernel) (by decide +kernel)
theorem LV_NM_273 : q_LV "NumberHouseModel" 273 y_FR_print prog_17_method_23_code 11 (some .int) 2 := ⟨w_3022, w_17, w_3019, w_3020, w_3021, ⟨by decide, by decide, by decide +kernel⟩⟩
theorem d_14_33_169 : decode prog_14_method_33_code 169 = .ok (.goto 22, 3) := by decide +kernel
theorem d_14_33_161 : decode prog_14_method_33_code 161 = .ok (.iconst 1, 1) := by decide +kernel
theorem d_14_33_162 : decode prog_14_method_33_code 162 = .ok (.goto 4, 3) := by decide +kernel
def y_NM_print : MethodName := ⟨"NumberHouseModel", "print", "(III)I"⟩
