set_option maxRecDepth 100000 in
set_option maxHeartbeats 4000000 in
theorem c_FR_set_2 (l : Launch) (D : va_G) (g : Nat → ClassId) (ws : va_W) (kO0 kA1 kA3 qO0 qA1 qA2 qA3 qA4 qA5 qA6 qA7 : Nat) (hO0 : ws[kO0]? = (some (qO0, .inr (15, [.int 0, .ref qA2, .ref qA3, .ref qA1, .ref qA4, .ref qA5, .ref qA6, .ref qA7, .int 0, .int 0, .int 0, .long 0, .int 23, .int 255, .long 0, .int (-149), .long 0, .int 0])) : Option (Nat × va_E))) (hA1 : ws[kA1]? = (some (qA1, .inl (g 0, 1404, .inl (fun _ => 0))) : Option (Nat × va_E))) (hA3 : ws[kA3]? = (some (qA3, .inl (g 0, 156, .inl (fun _ => 0))) : Option (Nat × va_E))) (n_A1_A3 : kA1 ≠ kA3) : q_mV l y_FR_set prog_17_method_7_code 12 1 0 0 D g [.ref qO0, .ref qA1, .long 0] ws (fun u => q_un ws u [kA1, kA3] ∧ u[kA1]? = (some (qA1, .inl (g 0, 1404, .inl (fun _ => 0))) : Option (Nat × va_E)) ∧ u[kA3]? = (some (qA3, .inl (g 0, 156, .inl (fun _ => 0))) : Option (Nat × va_E))) := by
  intro sz
  refine q_into (by decide) (Nat.le_of_ble_eq_true rfl) ?_
  intro p e s m below meth c ls hsz C0 V hl
  have hx := C0.1
  have hb := C0.2.1
  have hl : lv_has ls 12 [(0, .ref qO0), (1, .ref qA1), (2, .long 0)] := hl
  have n_A3_A1 := Ne.symm n_A1_A3
  have n_O0_A1 := Ne.symm (q_df hA1 hO0)
  have n_O0_A3 := Ne.symm (q_df hA3 hO0)
  have hF : q_un ws ws [kA1, kA3] := q_u0
  refine lv_iconst (v := 0) hx hb d_17_7_0 (by decide) ?_
  refine lv_istore (lv' := [(4, .int 0), (0, .ref qO0), (1, .ref qA1), (2, .long 0)]) hx hb d_17_7_1 hl (by decide) rfl (fun ls hl => ?_)
  refine q_loop (X := Int32) (fun z H locs ls w2 => (0 ≤ z.toInt ∧ (z.toInt ≤ 156 ∨ z.toInt = 0)) ∧ q_Wd D g (va_A ws sz) s w2 H locs ∧ lv_has ls 12 [(4, .int z), (0, .ref qO0), (1, .ref qA1), (2, .long 0)] ∧ q_un ws w2 [kA1, kA3] ∧ w2[kO0]? = (some (qO0, .inr (15, [.int 0, .ref qA2, .ref qA3, .ref qA1, .ref qA4, .ref qA5, .ref qA6, .ref qA7, .int 0, .int 0, .int 0, .long 0, .int 23, .int 255, .long 0, .int (-149), .long 0, .int 0])) : Option (Nat × va_E)) ∧ w2[kA1]? = (some (qA1, .inl (g 0, 1404, .inl (fun _ => 0))) : Option (Nat × va_E)) ∧ w2[kA3]? = (some (qA3, .inl (g 0, 156, .inl (fun _ => 0))) : Option (Nat × va_E))) (fun z => (156 - z.toInt).toNat) ?_ ((0 : Int32)) _ _ _ ws ⟨⟨by decide, Or.inr (by decide)⟩, V, hl, hF, hO0, hA1, hA3⟩
  rintro lx1 H locs ls w2 ⟨i3, V, hl, hF, hO0, hA1, hA3⟩ ih4
  replace i3 : 0 ≤ lx1.toInt ∧ (lx1.toInt ≤ 156 ∨ lx1.toInt = 0) := i3
  replace hl : lv_has ls 12 [(4, .int lx1), (0, .ref qO0), (1, .ref qA1), (2, .long 0)] := hl
  replace hO0 : w2[kO0]? = (some (qO0, .inr (15, [.int 0, .ref qA2, .ref qA3, .ref qA1, .ref qA4, .ref qA5, .ref qA6, .ref qA7, .int 0, .int 0, .int 0, .long 0, .int 23, .int 255, .long 0, .int (-149), .long 0, .int 0])) : Option (Nat × va_E)) := hO0
  replace hA1 : w2[kA1]? = (some (qA1, .inl (g 0, 1404, .inl (fun _ => 0))) : Option (Nat × va_E)) := hA1
  replace hA3 : w2[kA3]? = (some (qA3, .inl (g 0, 156, .inl (fun _ => 0))) : Option (Nat × va_E)) := hA3
  refine lv_iload hx hb d_17_7_3 (lv_at hl 0 rfl) ?_
  refine lv_sipush (v := 156) hx hb d_17_7_5 (by decide) ?_
  refine lv_icmp_ge (tgt := 25) hx hb d_17_7_8 (by decide) (fun c5 => ?_) (fun c5 => ?_)
  ·
    refine lv_lload_n hx hb d_17_7_25 rfl (lv_at hl 3 rfl) ?_
    refine lv_lstore (lv' := [(4, .long 0), (0, .ref qO0), (1, .ref qA1), (2, .long 0)]) hx hb d_17_7_26 hl (by decide) rfl (fun ls hl => ?_)
    refine lv_iconst (v := 0) hx hb d_17_7_28 (by decide) ?_
    refine lv_istore (lv' := [(6, .int 0), (4, .long 0), (0, .ref qO0), (1, .ref qA1), (2, .long 0)]) hx hb d_17_7_29 hl (by decide) rfl (fun ls hl => ?_)
    refine lv_lload hx hb d_17_7_31 (lv_at hl 1 rfl) ?_
    refine lv_lconst (v := 0) hx hb d_17_7_33 (by decide) ?_
    refine W.lcmp hx hb d_17_7_34 ?_
    refine q_ti (v := 0) (by decide) ?_
    refine lv_if_le (tgt := 131) hx hb d_17_7_35 (by decide) (fun c6 => ?_) (fun c6 => absurd (by decide) c6)
    refine lv_iconst (v := 0) hx hb d_17_7_131 (by decide) ?_
    refine lv_istore (lv' := [(6, .int 0), (4, .long 0), (0, .ref qO0), (1, .ref qA1), (2, .long 0)]) hx hb d_17_7_132 hl (by decide) rfl (fun ls hl => ?_)
    refine q_loop (X := Int32) (fun z H locs ls w8 => (0 ≤ z.toInt ∧ (z.toInt ≤ 156 ∨ z.toInt = 0)) ∧ q_Wd D g (va_A ws sz) s w8 H locs ∧ lv_has ls 12 [(6, .int z), (4, .long 0), (0, .ref qO0), (1, .ref qA1), (2, .long 0)] ∧ q_un ws w8 [kA1, kA3] ∧ w8[kO0]? = (some (qO0, .inr (15, [.int 0, .ref qA2, .ref qA3, .ref qA1, .ref qA4, .ref qA5, .ref qA6, .ref qA7, .int 0, .int 0, .int 0, .long 0, .int 23, .int 255, .long 0, .int (-149), .long 0, .int 0])) : Option (Nat × va_E)) ∧ w8[kA1]? = (some (qA1, .inl (g 0, 1404, .inl (fun _ => 0))) : Option (Nat × va_E)) ∧ w8[kA3]? = (some (qA3, .inl (g 0, 156, .inl (fun _ => 0))) : Option (Nat × va_E))) (fun z => (156 - z.toInt).toNat) ?_ ((0 : Int32)) _ _ _ w2 ⟨⟨by decide, Or.inr (by decide)⟩, V, hl, hF, hO0, hA1, hA3⟩
    rintro lx7 H locs ls w8 ⟨i9, V, hl, hF, hO0, hA1, hA3⟩ ih10
    replace i9 : 0 ≤ lx7.toInt ∧ (lx7.toInt ≤ 156 ∨ lx7.toInt = 0) := i9
    replace hl : lv_has ls 12 [(6, .int lx7), (4, .long 0), (0, .ref qO0), (1, .ref qA1), (2, .long 0)] := hl
    replace hO0 : w8[kO0]? = (some (qO0, .inr (15, [.int 0, .ref qA2, .ref qA3, .ref qA1, .ref qA4, .ref qA5, .ref qA6, .ref qA7, .int 0, .int 0, .int 0, .long 0, .int 23, .int 255, .long 0, .int (-149), .long 0, .int 0])) : Option (Nat × va_E)) := hO0
    replace hA1 : w8[kA1]? = (some (qA1, .inl (g 0, 1404, .inl (fun _ => 0))) : Option (Nat × va_E)) := hA1
    replace hA3 : w8[kA3]? = (some (qA3, .inl (g 0, 156, .inl (fun _ => 0))) : Option (Nat × va_E)) := hA3
    refine lv_iload hx hb d_17_7_134 (lv_at hl 0 rfl) ?_
    refine lv_sipush (v := 156) hx hb d_17_7_136 (by decide) ?_
    refine lv_icmp_ge (tgt := 199) hx hb d_17_7_139 (by decide) (fun c11 => ?_) (fun c11 => ?_)
    ·
      exact q_retv C0 V (⟨hF, hA1, hA3⟩) d_17_7_199
    ·
      refine lv_aload_n hx hb d_17_7_142 rfl (lv_at hl 2 rfl) ?_
      refine q_get (ci := 15) (j := 2) (v := .ref qA3) C0 V i_FR rfl rfl hO0 (by decide) w_2077 rfl d_17_7_143 ?_
      refine lv_iload hx hb d_17_7_146 (lv_at hl 0 rfl) ?_
      refine q_iald C0 V hA3 (q_ix (x := lx7.toInt) rfl (by have t1 : lx7.toInt < 156 := q_nleI c11; omega) (by have t1 : lx7.toInt < 156 := q_nleI c11; omega)) d_17_7_148 ?_
      refine q_ti (v := 0) (by first | rfl | decide | simp [upd, vp_updL, sb_cl0]) ?_
      refine lv_istore (lv' := [(7, .int 0), (6, .int lx7), (4, .long 0), (0, .ref qO0), (1, .ref qA1), (2, .long 0)]) hx hb d_17_7_149 hl (by decide) rfl (fun ls hl => ?_)
      refine lv_bipush (v := 9) hx hb d_17_7_151 (by decide) ?_
      refine lv_iload hx hb d_17_7_153 (lv_at hl 1 rfl) ?_
      refine lv_imul hx hb d_17_7_155 ?_
      refine lv_istore (lv' := [(8, .int (9 * lx7)), (7, .int 0), (6, .int lx7), (4, .long 0), (0, .ref qO0), (1, .ref qA1), (2, .long 0)]) hx hb d_17_7_156 hl (by decide) rfl (fun ls hl => ?_)
      refine lv_iload hx hb d_17_7_158 (lv_at hl 0 rfl) ?_
      refine lv_bipush (v := 9) hx hb d_17_7_160 (by decide) ?_
      refine lv_iload hx hb d_17_7_162 (lv_at hl 2 rfl) ?_
      refine lv_imul hx hb d_17_7_164 ?_
      refine lv_bipush (v := 9) hx hb d_17_7_165 (by decide) ?_
      refine lv_iadd hx hb d_17_7_167 ?_
      refine lv_icmp_ge (tgt := 193) hx hb d_17_7_168 (by decide) (fun c12 => absurd c12 (Int32.not_le.mpr (q_Ilt (x := (9 * lx7.toInt)) (y := ((9 * lx7.toInt) + 9)) (q_mulI (x := 9) (y := lx7.toInt) (by decide) rfl (by have t1 : lx7.toInt < 156 := q_nleI c11; omega) (by have t1 : lx7.toInt < 156 := q_nleI c11; omega)) (q_addI (x := (9 * lx7.toInt)) (y := 9) (q_mulI (x := 9) (y := lx7.toInt) (by decide) rfl (by have t1 : lx7.toInt < 156 := q_nleI c11; omega) (by have t1 : lx7.toInt < 156 := q_nleI c11; omega)) (by decide) (by have t1 : lx7.toInt < 156 := q_nleI c11; omega) (by have t1 : lx7.toInt < 156 := q_nleI c11; omega)) (by have t1 : lx7.toInt < 156 := q_nleI c11; omega)))) (fun c12 => ?_)
      refine lv_aload_n hx hb d_17_7_171 rfl (lv_at hl 5 rfl) ?_
      refine lv_iload hx hb d_17_7_172 (lv_at hl 0 rfl) ?_
      refine lv_iload hx hb d_17_7_174 (lv_at hl 1 rfl) ?_
      refine lv_bipush (v := 10) hx hb d_17_7_176 (by decide) ?_
      refine lv_irem hx hb d_17_7_178 (by decide) ?_
      refine q_ti (v := 0) (by decide) ?_
      refine q_iast C0 V hA1 (q_ix (x := (9 * lx7.toInt)) (q_mulI (x := 9) (y := lx7.toInt) (by decide) rfl (by have t1 : lx7.toInt < 156 := q_nleI c11; omega) (by have t1 : lx7.toInt < 156 := q_nleI c11; omega)) (by have t1 : lx7.toInt < 156 := q_nleI c11; omega) (by have t1 : lx7.toInt < 156 := q_nleI c11; omega)) d_17_7_179 (fun H locs w13 hu14 hA1 V => ?_)
      replace hA1 := q_re (y := (qA1, .inl (g 0, 1404, .inl (fun _ => 0)))) hA1 (q_eI q_upd0)
      replace hA1 : w13[kA1]? = (some (qA1, .inl (g 0, 1404, .inl (fun _ => 0))) : Option (Nat × va_E)) := hA1
      replace hF := q_us hF hu14 (.head _)
      refine lv_iload hx hb d_17_7_180 (lv_at hl 1 rfl) ?_
      refine lv_bipush (v := 10) hx hb d_17_7_182 (by decide) ?_
      refine lv_idiv hx hb d_17_7_184 (by decide) ?_
      refine q_ti (v := 0) (by decide) ?_
      refine lv_istore (lv' := [(7, .int 0), (8, .int (9 * lx7)), (6, .int lx7), (4, .long 0), (0, .ref qO0), (1, .ref qA1), (2, .long 0)]) hx hb d_17_7_185 hl (by decide) rfl (fun ls hl => ?_)
      refine lv_iinc (v := (9 * lx7) + 1) (lv' := [(8, .int ((9 * lx7) + 1)), (7, .int 0), (6, .int lx7), (4, .long 0), (0, .ref qO0), (1, .ref qA1), (2, .long 0)]) hx hb d_17_7_187 hl (k := 1) rfl (rfl) (by decide) rfl (fun ls hl => ?_)
      refine lv_goto (tgt := 158) hx hb d_17_7_190 (by decide) ?_
      refine lv_iload hx hb d_17_7_158 (lv_at hl 0 rfl) ?_
      refine lv_bipush (v := 9) hx hb d_17_7_160 (by decide) ?_
      refine lv_iload hx hb d_17_7_162 (lv_at hl 2 rfl) ?_
      refine lv_imul hx hb d_17_7_164 ?_
      refine lv_bipush (v := 9) hx hb d_17_7_165 (by decide) ?_
      refine lv_iadd hx hb d_17_7_167 ?_
      refine lv_icmp_ge (tgt := 193) hx hb d_17_7_168 (by decide) (fun c15 => absurd c15 (Int32.not_le.mpr (q_Ilt (x := ((9 * lx7.toInt) + 1)) (y := ((9 * lx7.toInt) + 9)) (q_addI (x := (9 * lx7.toInt)) (y := 1) (q_mulI (x := 9) (y := lx7.toInt) (by decide) rfl (by have t1 : lx7.toInt < 156 := q_nleI c11; omega) (by have t1 : lx7.toInt < 156 := q_nleI c11; omega)) (by decide) (by have t1 : lx7.toInt < 156 := q_nleI c11; omega) (by have t1 : lx7.toInt < 156 := q_nleI c11; omega)) (q_addI (x := (9 * lx7.toInt)) (y := 9) (q_mulI (x := 9) (y := lx7.toInt) (by decide) rfl (by have t1 : lx7.toInt < 156 := q_nleI c11; omega) (by have t1 : lx7.toInt < 156 := q_nleI c11; omega)) (by decide) (by have t1 : lx7.toInt < 156 := q_nleI c11; omega) (by have t1 : lx7.toInt < 156 := q_nleI c11; omega)) (by have t1 : lx7.toInt < 156 := q_nleI c11; omega)))) (fun c15 => ?_)
      refine lv_aload_n hx hb d_17_7_171 rfl (lv_at hl 5 rfl) ?_
      refine lv_iload hx hb d_17_7_172 (lv_at hl 0 rfl) ?_
      refine lv_iload hx hb d_17_7_174 (lv_at hl 1 rfl) ?_
      refine lv_bipush (v := 10) hx hb d_17_7_176 (by decide) ?_
      refine lv_irem hx hb d_17_7_178 (by decide) ?_
      refine q_ti (v := 0) (by decide) ?_
      refine q_iast C0 V hA1 (q_ix (x := ((9 * lx7.toInt) + 1)) (q_addI (x := (9 * lx7.toInt)) (y := 1) (q_mulI (x := 9) (y := lx7.toInt) (by decide) rfl (by have t1 : lx7.toInt < 156 := q_nleI c11; omega) (by have t1 : lx7.toInt < 156 := q_nleI c11; omega)) (by decide) (by have t1 : lx7.toInt < 156 := q_nleI c11; omega) (by have t1 : lx7.toInt < 156 := q_nleI c11; omega)) (by have t1 : lx7.toInt < 156 := q_nleI c11; omega) (by have t1 : lx7.toInt < 156 := q_nleI c11; omega)) d_17_7_179 (fun H locs w16 hu17 hA1 V => ?_)
      replace hA1 := q_re (y := (qA1, .inl (g 0, 1404, .inl (fun _ => 0)))) hA1 (q_eI q_upd0)
      replace hA1 : w16[kA1]? = (some (qA1, .inl (g 0, 1404, .inl (fun _ => 0))) : Option (Nat × va_E)) := hA1
      replace hF := q_us hF hu17 (.head _)
      refine lv_iload hx hb d_17_7_180 (lv_at hl 1 rfl) ?_
      refine lv_bipush (v := 10) hx hb d_17_7_182 (by decide) ?_
      refine lv_idiv hx hb d_17_7_184 (by decide) ?_
      refine q_ti (v := 0) (by decide) ?_
      refine lv_istore (lv' := [(7, .int 0), (8, .int ((9 * lx7) + 1)), (6, .int lx7), (4, .long 0), (0, .ref qO0), (1, .ref qA1), (2, .long 0)]) hx hb d_17_7_185 hl (by decide) rfl (fun ls hl => ?_)
      refine lv_iinc (v := ((9 * lx7) + 1) + 1) (lv' := [(8, .int (((9 * lx7) + 1) + 1)), (7, .int 0), (6, .int lx7), (4, .long 0), (0, .ref qO0), (1, .ref qA1), (2, .long 0)]) hx hb d_17_7_187 hl (k := 1) rfl (rfl) (by decide) rfl (fun ls hl => ?_)
      refine lv_goto (tgt := 158) hx hb d_17_7_190 (by decide) ?_
      refine lv_iload hx hb d_17_7_158 (lv_at hl 0 rfl) ?_
      refine lv_bipush (v := 9) hx hb d_17_7_160 (by decide) ?_
      refine lv_iload hx hb d_17_7_162 (lv_at hl 2 rfl) ?_
      refine lv_imul hx hb d_17_7_164 ?_
      refine lv_bipush (v := 9) hx hb d_17_7_165 (by decide) ?_
      refine lv_iadd hx hb d_17_7_167 ?_
      refine lv_icmp_ge (tgt := 193) hx hb d_17_7_168 (by decide) (fun c18 => absurd c18 (Int32.not_le.mpr (q_Ilt (x := (((9 * lx7.toInt) + 1) + 1)) (y := ((9 * lx7.toInt) + 9)) (q_addI (x := ((9 * lx7.toInt) + 1)) (y := 1) (q_addI (x := (9 * lx7.toInt)) (y := 1) (q_mulI (x := 9) (y := lx7.toInt) (by decide) rfl (by have t1 : lx7.toInt < 156 := q_nleI c11; omega) (by have t1 : lx7.toInt < 156 := q_nleI c11; omega)) (by decide) (by have t1 : lx7.toInt < 156 := q_nleI c11; omega) (by have t1 : lx7.toInt < 156 := q_nleI c11; omega)) (by decide) (by have t1 : lx7.toInt < 156 := q_nleI c11; omega) (by have t1 : lx7.toInt < 156 := q_nleI c11; omega)) (q_addI (x := (9 * lx7.toInt)) (y := 9) (q_mulI (x := 9) (y := lx7.toInt) (by decide) rfl (by have t1 : lx7.toInt < 156 := q_nleI c11; omega) (by have t1 : lx7.toInt < 156 := q_nleI c11; omega)) (by decide) (by have t1 : lx7.toInt < 156 := q_nleI c11; omega) (by have t1 : lx7.toInt < 156 := q_nleI c11; omega)) (by have t1 : lx7.toInt < 156 := q_nleI c11; omega)))) (fun c18 => ?_)
      refine lv_aload_n hx hb d_17_7_171 rfl (lv_at hl 5 rfl) ?_
      refine lv_iload hx hb d_17_7_172 (lv_at hl 0 rfl) ?_
      refine lv_iload hx hb d_17_7_174 (lv_at hl 1 rfl) ?_
      refine lv_bipush (v := 10) hx hb d_17_7_176 (by decide) ?_
      refine lv_irem hx hb d_17_7_178 (by decide) ?_
      refine q_ti (v := 0) (by decide) ?_
      refine q_iast C0 V hA1 (q_ix (x := (((9 * lx7.toInt) + 1) + 1)) (q_addI (x := ((9 * lx7.toInt) + 1)) (y := 1) (q_addI (x := (9 * lx7.toInt)) (y := 1) (q_mulI (x := 9) (y := lx7.toInt) (by decide) rfl (by have t1 : lx7.toInt < 156 := q_nleI c11; omega) (by have t1 : lx7.toInt < 156 := q_nleI c11; omega)) (by decide) (by have t1 : lx7.toInt < 156 := q_nleI c11; omega) (by have t1 : lx7.toInt < 156 := q_nleI c11; omega)) (by decide) (by have t1 : lx7.toInt < 156 := q_nleI c11; omega) (by have t1 : lx7.toInt < 156 := q_nleI c11; omega)) (by have t1 : lx7.toInt < 156 := q_nleI c11; omega) (by have t1 : lx7.toInt < 156 := q_nleI c11; omega)) d_17_7_179 (fun H locs w19 hu20 hA1 V => ?_)
      replace hA1 := q_re (y := (qA1, .inl (g 0, 1404, .inl (fun _ => 0)))) hA1 (q_eI q_upd0)
      replace hA1 : w19[kA1]? = (some (qA1, .inl (g 0, 1404, .inl (fun _ => 0))) : Option (Nat × va_E)) := hA1
      replace hF := q_us hF hu20 (.head _)
      refine lv_iload hx hb d_17_7_180 (lv_at hl 1 rfl) ?_
      refine lv_bipush (v := 10) hx hb d_17_7_182 (by decide) ?_
      refine lv_idiv hx hb d_17_7_184 (by decide) ?_
      refine q_ti (v := 0) (by decide) ?_
      refine lv_istore (lv' := [(7, .int 0), (8, .int (((9 * lx7) + 1) + 1)), (6, .int lx7), (4, .long 0), (0, .ref qO0), (1, .ref qA1), (2, .long 0)]) hx hb d_17_7_185 hl (by decide) rfl (fun ls hl => ?_)
      refine lv_iinc (v := (((9 * lx7) + 1) + 1) + 1) (lv' := [(8, .int ((((9 * lx7) + 1) + 1) + 1)), (7, .int 0), (6, .int lx7), (4, .long 0), (0, .ref qO0), (1, .ref qA1), (2, .long 0)]) hx hb d_17_7_187 hl (k := 1) rfl (rfl) (by decide) rfl (fun ls hl => ?_)
      refine lv_goto (tgt := 158) hx hb d_17_7_190 (by decide) ?_
      refine lv_iload hx hb d_17_7_158 (lv_at hl 0 rfl) ?_
      refine lv_bipush (v := 9) hx hb d_17_7_160 (by decide) ?_
      refine lv_iload hx hb d_17_7_162 (lv_at hl 2 rfl) ?_
      refine lv_imul hx hb d_17_7_164 ?_
      refine lv_bipush (v := 9) hx hb d_17_7_165 (by decide) ?_
      refine lv_iadd hx hb d_17_7_167 ?_
      refine lv_icmp_ge (tgt := 193) hx hb d_17_7_168 (by decide) (fun c21 => absurd c21 (Int32.not_le.mpr (q_Ilt (x := ((((9 * lx7.toInt) + 1) + 1) + 1)) (y := ((9 * lx7.toInt) + 9)) (q_addI (x := (((9 * lx7.toInt) + 1) + 1)) (y := 1) (q_addI (x := ((9 * lx7.toInt) + 1)) (y := 1) (q_addI (x := (9 * lx7.toInt)) (y := 1) (q_mulI (x := 9) (y := lx7.toInt) (by decide) rfl (by have t1 : lx7.toInt < 156 := q_nleI c11; omega) (by have t1 : lx7.toInt < 156 := q_nleI c11; omega)) (by decide) (by have t1 : lx7.toInt < 156 := q_nleI c11; omega) (by have t1 : lx7.toInt < 156 := q_nleI c11; omega)) (by decide) (by have t1 : lx7.toInt < 156 := q_nleI c11; omega) (by have t1 : lx7.toInt < 156 := q_nleI c11; omega)) (by decide) (by have t1 : lx7.toInt < 156 := q_nleI c11; omega) (by have t1 : lx7.toInt < 156 := q_nleI c11; omega)) (q_addI (x := (9 * lx7.toInt)) (y := 9) (q_mulI (x := 9) (y := lx7.toInt) (by decide) rfl (by have t1 : lx7.toInt < 156 := q_nleI c11; omega) (by have t1 : lx7.toInt < 156 := q_nleI c11; omega)) (by decide) (by have t1 : lx7.toInt < 156 := q_nleI c11; omega) (by have t1 : lx7.toInt < 156 := q_nleI c11; omega)) (by have t1 : lx7.toInt < 156 := q_nleI c11; omega)))) (fun c21 => ?_)
      refine lv_aload_n hx hb d_17_7_171 rfl (lv_at hl 5 rfl) ?_
      refine lv_iload hx hb d_17_7_172 (lv_at hl 0 rfl) ?_
      refine lv_iload hx hb d_17_7_174 (lv_at hl 1 rfl) ?_
      refine lv_bipush (v := 10) hx hb d_17_7_176 (by decide) ?_
      refine lv_irem hx hb d_17_7_178 (by decide) ?_
      refine q_ti (v := 0) (by decide) ?_
      refine q_iast C0 V hA1 (q_ix (x := ((((9 * lx7.toInt) + 1) + 1) + 1)) (q_addI (x := (((9 * lx7.toInt) + 1) + 1)) (y := 1) (q_addI (x := ((9 * lx7.toInt) + 1)) (y := 1) (q_addI (x := (9 * lx7.toInt)) (y := 1) (q_mulI (x := 9) (y := lx7.toInt) (by decide) rfl (by have t1 : lx7.toInt < 156 := q_nleI c11; omega) (by have t1 : lx7.toInt < 156 := q_nleI c11; omega)) (by decide) (by have t1 : lx7.toInt < 156 := q_nleI c11; omega) (by have t1 : lx7.toInt < 156 := q_nleI c11; omega)) (by decide) (by have t1 : lx7.toInt < 156 := q_nleI c11; omega) (by have t1 : lx7.toInt < 156 := q_nleI c11; omega)) (by decide) (by have t1 : lx7.toInt < 156 := q_nleI c11; omega) (by have t1 : lx7.toInt < 156 := q_nleI c11; omega)) (by have t1 : lx7.toInt < 156 := q_nleI c11; omega) (by have t1 : lx7.toInt < 156 := q_nleI c11; omega)) d_17_7_179 (fun H locs w22 hu23 hA1 V => ?_)
      replace hA1 := q_re (y := (qA1, .inl (g 0, 1404, .inl (fun _ => 0)))) hA1 (q_eI q_upd0)
      replace hA1 : w22[kA1]? = (some (qA1, .inl (g 0, 1404, .inl (fun _ => 0))) : Option (Nat × va_E)) := hA1
      replace hF := q_us hF hu23 (.head _)
      refine lv_iload hx hb d_17_7_180 (lv_at hl 1 rfl) ?_
      refine lv_bipush (v := 10) hx hb d_17_7_182 (by decide) ?_
      refine lv_idiv hx hb d_17_7_184 (by decide) ?_
      refine q_ti (v := 0) (by decide) ?_
      refine lv_istore (lv' := [(7, .int 0), (8, .int ((((9 * lx7) + 1) + 1) + 1)), (6, .int lx7), (4, .long 0), (0, .ref qO0), (1, .ref qA1), (2, .long 0)]) hx hb d_17_7_185 hl (by decide) rfl (fun ls hl => ?_)
      refine lv_iinc (v := ((((9 * lx7) + 1) + 1) + 1) + 1) (lv' := [(8, .int (((((9 * lx7) + 1) + 1) + 1) + 1)), (7, .int 0), (6, .int lx7), (4, .long 0), (0, .ref qO0), (1, .ref qA1), (2, .long 0)]) hx hb d_17_7_187 hl (k := 1) rfl (rfl) (by decide) rfl (fun ls hl => ?_)
      refine lv_goto (tgt := 158) hx hb d_17_7_190 (by decide) ?_
      refine lv_iload hx hb d_17_7_158 (lv_at hl 0 rfl) ?_
      refine lv_bipush (v := 9) hx hb d_17_7_160 (by decide) ?_
      refine lv_iload hx hb d_17_7_162 (lv_at hl 2 rfl) ?_
      refine lv_imul hx hb d_17_7_164 ?_
      refine lv_bipush (v := 9) hx hb d_17_7_165 (by decide) ?_
      refine lv_iadd hx hb d_17_7_167 ?_
      refine lv_icmp_ge (tgt := 193) hx hb d_17_7_168 (by decide) (fun c24 => absurd c24 (Int32.not_le.mpr (q_Ilt (x := (((((9 * lx7.toInt) + 1) + 1) + 1) + 1)) (y := ((9 * lx7.toInt) + 9)) (q_addI (x := ((((9 * lx7.toInt) + 1) + 1) + 1)) (y := 1) (q_addI (x := (((9 * lx7.toInt) + 1) + 1)) (y := 1) (q_addI (x := ((9 * lx7.toInt) + 1)) (y := 1) (q_addI (x := (9 * lx7.toInt)) (y := 1) (q_mulI (x := 9) (y := lx7.toInt) (by decide) rfl (by have t1 : lx7.toInt < 156 := q_nleI c11; omega) (by have t1 : lx7.toInt < 156 := q_nleI c11; omega)) (by decide) (by have t1 : lx7.toInt < 156 := q_nleI c11; omega) (by have t1 : lx7.toInt < 156 := q_nleI c11; omega)) (by decide) (by have t1 : lx7.toInt < 156 := q_nleI c11; omega) (by have t1 : lx7.toInt < 156 := q_nleI c11; omega)) (by decide) (by have t1 : lx7.toInt < 156 := q_nleI c11; omega) (by have t1 : lx7.toInt < 156 := q_nleI c11; omega)) (by decide) (by have t1 : lx7.toInt < 156 := q_nleI c11; omega) (by have t1 : lx7.toInt < 156 := q_nleI c11; omega)) (q_addI (x := (9 * lx7.toInt)) (y := 9) (q_mulI (x := 9) (y := lx7.toInt) (by decide) rfl (by have t1 : lx7.toInt < 156 := q_nleI c11; omega) (by have t1 : lx7.toInt < 156 := q_nleI c11; omega)) (by decide) (by have t1 : lx7.toInt < 156 := q_nleI c11; omega) (by have t1 : lx7.toInt < 156 := q_nleI c11; omega)) (by have t1 : lx7.toInt < 156 := q_nleI c11; omega)))) (fun c24 => ?_)
      refine lv_aload_n hx hb d_17_7_171 rfl (lv_at hl 5 rfl) ?_
      refine lv_iload hx hb d_17_7_172 (lv_at hl 0 rfl) ?_
      refine lv_iload hx hb d_17_7_174 (lv_at hl 1 rfl) ?_
      refine lv_bipush (v := 10) hx hb d_17_7_176 (by decide) ?_
      refine lv_irem hx hb d_17_7_178 (by decide) ?_
      refine q_ti (v := 0) (by decide) ?_
      refine q_iast C0 V hA1 (q_ix (x := (((((9 * lx7.toInt) + 1) + 1) + 1) + 1)) (q_addI (x := ((((9 * lx7.toInt) + 1) + 1) + 1)) (y := 1) (q_addI (x := (((9 * lx7.toInt) + 1) + 1)) (y := 1) (q_addI (x := ((9 * lx7.toInt) + 1)) (y := 1) (q_addI (x := (9 * lx7.toInt)) (y := 1) (q_mulI (x := 9) (y := lx7.toInt) (by decide) rfl (by have t1 : lx7.toInt < 156 := q_nleI c11; omega) (by have t1 : lx7.toInt < 156 := q_nleI c11; omega)) (by decide) (by have t1 : lx7.toInt < 156 := q_nleI c11; omega) (by have t1 : lx7.toInt < 156 := q_nleI c11; omega)) (by decide) (by have t1 : lx7.toInt < 156 := q_nleI c11; omega) (by have t1 : lx7.toInt < 156 := q_nleI c11; omega)) (by decide) (by have t1 : lx7.toInt < 156 := q_nleI c11; omega) (by have t1 : lx7.toInt < 156 := q_nleI c11; omega)) (by decide) (by have t1 : lx7.toInt < 156 := q_nleI c11; omega) (by have t1 : lx7.toInt < 156 := q_nleI c11; omega)) (by have t1 : lx7.toInt < 156 := q_nleI c11; omega) (by have t1 : lx7.toInt < 156 := q_nleI c11; omega)) d_17_7_179 (fun H locs w25 hu26 hA1 V => ?_)
      replace hA1 := q_re (y := (qA1, .inl (g 0, 1404, .inl (fun _ => 0)))) hA1 (q_eI q_upd0)
      replace hA1 : w25[kA1]? = (some (qA1, .inl (g 0, 1404, .inl (fun _ => 0))) : Option (Nat × va_E)) := hA1
      replace hF := q_us hF hu26 (.head _)
      refine lv_iload hx hb d_17_7_180 (lv_at hl 1 rfl) ?_
      refine lv_bipush (v := 10) hx hb d_17_7_182 (by decide) ?_
      refine lv_idiv hx hb d_17_7_184 (by decide) ?_
      refine q_ti (v := 0) (by decide) ?_
      refine lv_istore (lv' := [(7, .int 0), (8, .int (((((9 * lx7) + 1) + 1) + 1) + 1)), (6, .int lx7), (4, .long 0), (0, .ref qO0), (1, .ref qA1), (2, .long 0)]) hx hb d_17_7_185 hl (by decide) rfl (fun ls hl => ?_)
      refine lv_iinc (v := (((((9 * lx7) + 1) + 1) + 1) + 1) + 1) (lv' := [(8, .int ((((((9 * lx7) + 1) + 1) + 1) + 1) + 1)), (7, .int 0), (6, .int lx7), (4, .long 0), (0, .ref qO0), (1, .ref qA1), (2, .long 0)]) hx hb d_17_7_187 hl (k := 1) rfl (rfl) (by decide) rfl (fun ls hl => ?_)
      refine lv_goto (tgt := 158) hx hb d_17_7_190 (by decide) ?_
      refine lv_iload hx hb d_17_7_158 (lv_at hl 0 rfl) ?_
      refine lv_bipush (v := 9) hx hb d_17_7_160 (by decide) ?_
      refine lv_iload hx hb d_17_7_162 (lv_at hl 2 rfl) ?_
      refine lv_imul hx hb d_17_7_164 ?_
      refine lv_bipush (v := 9) hx hb d_17_7_165 (by decide) ?_
      refine lv_iadd hx hb d_17_7_167 ?_
      refine lv_icmp_ge (tgt := 193) hx hb d_17_7_168 (by decide) (fun c27 => absurd c27 (Int32.not_le.mpr (q_Ilt (x := ((((((9 * lx7.toInt) + 1) + 1) + 1) + 1) + 1)) (y := ((9 * lx7.toInt) + 9)) (q_addI (x := (((((9 * lx7.toInt) + 1) + 1) + 1) + 1)) (y := 1) (q_addI (x := ((((9 * lx7.toInt) + 1) + 1) + 1)) (y := 1) (q_addI (x := (((9 * lx7.toInt) + 1) + 1)) (y := 1) (q_addI (x := ((9 * lx7.toInt) + 1)) (y := 1) (q_addI (x := (9 * lx7.toInt)) (y := 1) (q_mulI (x := 9) (y := lx7.toInt) (by decide) rfl (by have t1 : lx7.toInt < 156 := q_nleI c11; omega) (by have t1 : lx7.toInt < 156 := q_nleI c11; omega)) (by decide) (by have t1 : lx7.toInt < 156 := q_nleI c11; omega) (by have t1 : lx7.toInt < 156 := q_nleI c11; omega)) (by decide) (by have t1 : lx7.toInt < 156 := q_nleI c11; omega) (by have t1 : lx7.toInt < 156 := q_nleI c11; omega)) (by decide) (by have t1 : lx7.toInt < 156 := q_nleI c11; omega) (by have t1 : lx7.toInt < 156 := q_nleI c11; omega)) (by decide) (by have t1 : lx7.toInt < 156 := q_nleI c11; omega) (by have t1 : lx7.toInt < 156 := q_nleI c11; omega)) (by decide) (by have t1 : lx7.toInt < 156 := q_nleI c11; omega) (by have t1 : lx7.toInt < 156 := q_nleI c11; omega)) (q_addI (x := (9 * lx7.toInt)) (y := 9) (q_mulI (x := 9) (y := lx7.toInt) (by decide) rfl (by have t1 : lx7.toInt < 156 := q_nleI c11; omega) (by have t1 : lx7.toInt < 156 := q_nleI c11; omega)) (by decide) (by have t1 : lx7.toInt < 156 := q_nleI c11; omega) (by have t1 : lx7.toInt < 156 := q_nleI c11; omega)) (by have t1 : lx7.toInt < 156 := q_nleI c11; omega)))) (fun c27 => ?_)
      refine lv_aload_n hx hb d_17_7_171 rfl (lv_at hl 5 rfl) ?_
      refine lv_iload hx hb d_17_7_172 (lv_at hl 0 rfl) ?_
      refine lv_iload hx hb d_17_7_174 (lv_at hl 1 rfl) ?_
      refine lv_bipush (v := 10) hx hb d_17_7_176 (by decide) ?_
      refine lv_irem hx hb d_17_7_178 (by decide) ?_
      refine q_ti (v := 0) (by decide) ?_
      refine q_iast C0 V hA1 (q_ix (x := ((((((9 * lx7.toInt) + 1) + 1) + 1) + 1) + 1)) (q_addI (x := (((((9 * lx7.toInt) + 1) + 1) + 1) + 1)) (y := 1) (q_addI (x := ((((9 * lx7.toInt) + 1) + 1) + 1)) (y := 1) (q_addI (x := (((9 * lx7.toInt) + 1) + 1)) (y := 1) (q_addI (x := ((9 * lx7.toInt) + 1)) (y := 1) (q_addI (x := (9 * lx7.toInt)) (y := 1) (q_mulI (x := 9) (y := lx7.toInt) (by decide) rfl (by have t1 : lx7.toInt < 156 := q_nleI c11; omega) (by have t1 : lx7.toInt < 156 := q_nleI c11; omega)) (by decide) (by have t1 : lx7.toInt < 156 := q_nleI c11; omega) (by have t1 : lx7.toInt < 156 := q_nleI c11; omega)) (by decide) (by have t1 : lx7.toInt < 156 := q_nleI c11; omega) (by have t1 : lx7.toInt < 156 := q_nleI c11; omega)) (by decide) (by have t1 : lx7.toInt < 156 := q_nleI c11; omega) (by have t1 : lx7.toInt < 156 := q_nleI c11; omega)) (by decide) (by have t1 : lx7.toInt < 156 := q_nleI c11; omega) (by have t1 : lx7.toInt < 156 := q_nleI c11; omega)) (by decide) (by have t1 : lx7.toInt < 156 := q_nleI c11; omega) (by have t1 : lx7.toInt < 156 := q_nleI c11; omega)) (by have t1 : lx7.toInt < 156 := q_nleI c11; omega) (by have t1 : lx7.toInt < 156 := q_nleI c11; omega)) d_17_7_179 (fun H locs w28 hu29 hA1 V => ?_)
      replace hA1 := q_re (y := (qA1, .inl (g 0, 1404, .inl (fun _ => 0)))) hA1 (q_eI q_upd0)
      replace hA1 : w28[kA1]? = (some (qA1, .inl (g 0, 1404, .inl (fun _ => 0))) : Option (Nat × va_E)) := hA1
      replace hF := q_us hF hu29 (.head _)
      refine lv_iload hx hb d_17_7_180 (lv_at hl 1 rfl) ?_
      refine lv_bipush (v := 10) hx hb d_17_7_182 (by decide) ?_
      refine lv_idiv hx hb d_17_7_184 (by decide) ?_
      refine q_ti (v := 0) (by decide) ?_
      refine lv_istore (lv' := [(7, .int 0), (8, .int ((((((9 * lx7) + 1) + 1) + 1) + 1) + 1)), (6, .int lx7), (4, .long 0), (0, .ref qO0), (1, .ref qA1), (2, .long 0)]) hx hb d_17_7_185 hl (by decide) rfl (fun ls hl => ?_)
      refine lv_iinc (v := ((((((9 * lx7) + 1) + 1) + 1) + 1) + 1) + 1) (lv' := [(8, .int (((((((9 * lx7) + 1) + 1) + 1) + 1) + 1) + 1)), (7, .int 0), (6, .int lx7), (4, .long 0), (0, .ref qO0), (1, .ref qA1), (2, .long 0)]) hx hb d_17_7_187 hl (k := 1) rfl (rfl) (by decide) rfl (fun ls hl => ?_)
      refine lv_goto (tgt := 158) hx hb d_17_7_190 (by decide) ?_
      refine lv_iload hx hb d_17_7_158 (lv_at hl 0 rfl) ?_
      refine lv_bipush (v := 9) hx hb d_17_7_160 (by decide) ?_
      refine lv_iload hx hb d_17_7_162 (lv_at hl 2 rfl) ?_
      refine lv_imul hx hb d_17_7_164 ?_
      refine lv_bipush (v := 9) hx hb d_17_7_165 (by decide) ?_
      refine lv_iadd hx hb d_17_7_167 ?_
      refine lv_icmp_ge (tgt := 193) hx hb d_17_7_168 (by decide) (fun c30 => absurd c30 (Int32.not_le.mpr (q_Ilt (x := (((((((9 * lx7.toInt) + 1) + 1) + 1) + 1) + 1) + 1)) (y := ((9 * lx7.toInt) + 9)) (q_addI (x := ((((((9 * lx7.toInt) + 1) + 1) + 1) + 1) + 1)) (y := 1) (q_addI (x := (((((9 * lx7.toInt) + 1) + 1) + 1) + 1)) (y := 1) (q_addI (x := ((((9 * lx7.toInt) + 1) + 1) + 1)) (y := 1) (q_addI (x := (((9 * lx7.toInt) + 1) + 1)) (y := 1) (q_addI (x := ((9 * lx7.toInt) + 1)) (y := 1) (q_addI (x := (9 * lx7.toInt)) (y := 1) (q_mulI (x := 9) (y := lx7.toInt) (by decide) rfl (by have t1 : lx7.toInt < 156 := q_nleI c11; omega) (by have t1 : lx7.toInt < 156 := q_nleI c11; omega)) (by decide) (by have t1 : lx7.toInt < 156 := q_nleI c11; omega) (by have t1 : lx7.toInt < 156 := q_nleI c11; omega)) (by decide) (by have t1 : lx7.toInt < 156 := q_nleI c11; omega) (by have t1 : lx7.toInt < 156 := q_nleI c11; omega)) (by decide) (by have t1 : lx7.toInt < 156 := q_nleI c11; omega) (by have t1 : lx7.toInt < 156 := q_nleI c11; omega)) (by decide) (by have t1 : lx7.toInt < 156 := q_nleI c11; omega) (by have t1 : lx7.toInt < 156 := q_nleI c11; omega)) (by decide) (by have t1 : lx7.toInt < 156 := q_nleI c11; omega) (by have t1 : lx7.toInt < 156 := q_nleI c11; omega)) (by decide) (by have t1 : lx7.toInt < 156 := q_nleI c11; omega) (by have t1 : lx7.toInt < 156 := q_nleI c11; omega)) (q_addI (x := (9 * lx7.toInt)) (y := 9) (q_mulI (x := 9) (y := lx7.toInt) (by decide) rfl (by have t1 : lx7.toInt < 156 := q_nleI c11; omega) (by have t1 : lx7.toInt < 156 := q_nleI c11; omega)) (by decide) (by have t1 : lx7.toInt < 156 := q_nleI c11; omega) (by have t1 : lx7.toInt < 156 := q_nleI c11; omega)) (by have t1 : lx7.toInt < 156 := q_nleI c11; omega)))) (fun c30 => ?_)
      refine lv_aload_n hx hb d_17_7_171 rfl (lv_at hl 5 rfl) ?_
      refine lv_iload hx hb d_17_7_172 (lv_at hl 0 rfl) ?_
      refine lv_iload hx hb d_17_7_174 (lv_at hl 1 rfl) ?_
      refine lv_bipush (v := 10) hx hb d_17_7_176 (by decide) ?_
      refine lv_irem hx hb d_17_7_178 (by decide) ?_
      refine q_ti (v := 0) (by decide) ?_
      refine q_iast C0 V hA1 (q_ix (x := (((((((9 * lx7.toInt) + 1) + 1) + 1) + 1) + 1) + 1)) (q_addI (x := ((((((9 * lx7.toInt) + 1) + 1) + 1) + 1) + 1)) (y := 1) (q_addI (x := (((((9 * lx7.toInt) + 1) + 1) + 1) + 1)) (y := 1) (q_addI (x := ((((9 * lx7.toInt) + 1) + 1) + 1)) (y := 1) (q_addI (x := (((9 * lx7.toInt) + 1) + 1)) (y := 1) (q_addI (x := ((9 * lx7.toInt) + 1)) (y := 1) (q_addI (x := (9 * lx7.toInt)) (y := 1) (q_mulI (x := 9) (y := lx7.toInt) (by decide) rfl (by have t1 : lx7.toInt < 156 := q_nleI c11; omega) (by have t1 : lx7.toInt < 156 := q_nleI c11; omega)) (by decide) (by have t1 : lx7.toInt < 156 := q_nleI c11; omega) (by have t1 : lx7.toInt < 156 := q_nleI c11; omega)) (by decide) (by have t1 : lx7.toInt < 156 := q_nleI c11; omega) (by have t1 : lx7.toInt < 156 := q_nleI c11; omega)) (by decide) (by have t1 : lx7.toInt < 156 := q_nleI c11; omega) (by have t1 : lx7.toInt < 156 := q_nleI c11; omega)) (by decide) (by have t1 : lx7.toInt < 156 := q_nleI c11; omega) (by have t1 : lx7.toInt < 156 := q_nleI c11; omega)) (by decide) (by have t1 : lx7.toInt < 156 := q_nleI c11; omega) (by have t1 : lx7.toInt < 156 := q_nleI c11; omega)) (by decide) (by have t1 : lx7.toInt < 156 := q_nleI c11; omega) (by have t1 : lx7.toInt < 156 := q_nleI c11; omega)) (by have t1 : lx7.toInt < 156 := q_nleI c11; omega) (by have t1 : lx7.toInt < 156 := q_nleI c11; omega)) d_17_7_179 (fun H locs w31 hu32 hA1 V => ?_)
      replace hA1 := q_re (y := (qA1, .inl (g 0, 1404, .inl (fun _ => 0)))) hA1 (q_eI q_upd0)
      replace hA1 : w31[kA1]? = (some (qA1, .inl (g 0, 1404, .inl (fun _ => 0))) : Option (Nat × va_E)) := hA1
      replace hF := q_us hF hu32 (.head _)
      refine lv_iload hx hb d_17_7_180 (lv_at hl 1 rfl) ?_
      refine lv_bipush (v := 10) hx hb d_17_7_182 (by decide) ?_
      refine lv_idiv hx hb d_17_7_184 (by decide) ?_
      refine q_ti (v := 0) (by decide) ?_
      refine lv_istore (lv' := [(7, .int 0), (8, .int (((((((9 * lx7) + 1) + 1) + 1) + 1) + 1) + 1)), (6, .int lx7), (4, .long 0), (0, .ref qO0), (1, .ref qA1), (2, .long 0)]) hx hb d_17_7_185 hl (by decide) rfl (fun ls hl => ?_)
      refine lv_iinc (v := (((((((9 * lx7) + 1) + 1) + 1) + 1) + 1) + 1) + 1) (lv' := [(8, .int ((((((((9 * lx7) + 1) + 1) + 1) + 1) + 1) + 1) + 1)), (7, .int 0), (6, .int lx7), (4, .long 0), (0, .ref qO0), (1, .ref qA1), (2, .long 0)]) hx hb d_17_7_187 hl (k := 1) rfl (rfl) (by decide) rfl (fun ls hl => ?_)
      refine lv_goto (tgt := 158) hx hb d_17_7_190 (by decide) ?_
      refine lv_iload hx hb d_17_7_158 (lv_at hl 0 rfl) ?_
      refine lv_bipush (v := 9) hx hb d_17_7_160 (by decide) ?_
      refine lv_iload hx hb d_17_7_162 (lv_at hl 2 rfl) ?_
      refine lv_imul hx hb d_17_7_164 ?_
      refine lv_bipush (v := 9) hx hb d_17_7_165 (by decide) ?_
      refine lv_iadd hx hb d_17_7_167 ?_
      refine lv_icmp_ge (tgt := 193) hx hb d_17_7_168 (by decide) (fun c33 => absurd c33 (Int32.not_le.mpr (q_Ilt (x := ((((((((9 * lx7.toInt) + 1) + 1) + 1) + 1) + 1) + 1) + 1)) (y := ((9 * lx7.toInt) + 9)) (q_addI (x := (((((((9 * lx7.toInt) + 1) + 1) + 1) + 1) + 1) + 1)) (y := 1) (q_addI (x := ((((((9 * lx7.toInt) + 1) + 1) + 1) + 1) + 1)) (y := 1) (q_addI (x := (((((9 * lx7.toInt) + 1) + 1) + 1) + 1)) (y := 1) (q_addI (x := ((((9 * lx7.toInt) + 1) + 1) + 1)) (y := 1) (q_addI (x := (((9 * lx7.toInt) + 1) + 1)) (y := 1) (q_addI (x := ((9 * lx7.toInt) + 1)) (y := 1) (q_addI (x := (9 * lx7.toInt)) (y := 1) (q_mulI (x := 9) (y := lx7.toInt) (by decide) rfl (by have t1 : lx7.toInt < 156 := q_nleI c11; omega) (by have t1 : lx7.toInt < 156 := q_nleI c11; omega)) (by decide) (by have t1 : lx7.toInt < 156 := q_nleI c11; omega) (by have t1 : lx7.toInt < 156 := q_nleI c11; omega)) (by decide) (by have t1 : lx7.toInt < 156 := q_nleI c11; omega) (by have t1 : lx7.toInt < 156 := q_nleI c11; omega)) (by decide) (by have t1 : lx7.toInt < 156 := q_nleI c11; omega) (by have t1 : lx7.toInt < 156 := q_nleI c11; omega)) (by decide) (by have t1 : lx7.toInt < 156 := q_nleI c11; omega) (by have t1 : lx7.toInt < 156 := q_nleI c11; omega)) (by decide) (by have t1 : lx7.toInt < 156 := q_nleI c11; omega) (by have t1 : lx7.toInt < 156 := q_nleI c11; omega)) (by decide) (by have t1 : lx7.toInt < 156 := q_nleI c11; omega) (by have t1 : lx7.toInt < 156 := q_nleI c11; omega)) (by decide) (by have t1 : lx7.toInt < 156 := q_nleI c11; omega) (by have t1 : lx7.toInt < 156 := q_nleI c11; omega)) (q_addI (x := (9 * lx7.toInt)) (y := 9) (q_mulI (x := 9) (y := lx7.toInt) (by decide) rfl (by have t1 : lx7.toInt < 156 := q_nleI c11; omega) (by have t1 : lx7.toInt < 156 := q_nleI c11; omega)) (by decide) (by have t1 : lx7.toInt < 156 := q_nleI c11; omega) (by have t1 : lx7.toInt < 156 := q_nleI c11; omega)) (by have t1 : lx7.toInt < 156 := q_nleI c11; omega)))) (fun c33 => ?_)
      refine lv_aload_n hx hb d_17_7_171 rfl (lv_at hl 5 rfl) ?_
      refine lv_iload hx hb d_17_7_172 (lv_at hl 0 rfl) ?_
      refine lv_iload hx hb d_17_7_174 (lv_at hl 1 rfl) ?_
      refine lv_bipush (v := 10) hx hb d_17_7_176 (by decide) ?_
      refine lv_irem hx hb d_17_7_178 (by decide) ?_
      refine q_ti (v := 0) (by decide) ?_
      refine q_iast C0 V hA1 (q_ix (x := ((((((((9 * lx7.toInt) + 1) + 1) + 1) + 1) + 1) + 1) + 1)) (q_addI (x := (((((((9 * lx7.toInt) + 1) + 1) + 1) + 1) + 1) + 1)) (y := 1) (q_addI (x := ((((((9 * lx7.toInt) + 1) + 1) + 1) + 1) + 1)) (y := 1) (q_addI (x := (((((9 * lx7.toInt) + 1) + 1) + 1) + 1)) (y := 1) (q_addI (x := ((((9 * lx7.toInt) + 1) + 1) + 1)) (y := 1) (q_addI (x := (((9 * lx7.toInt) + 1) + 1)) (y := 1) (q_addI (x := ((9 * lx7.toInt) + 1)) (y := 1) (q_addI (x := (9 * lx7.toInt)) (y := 1) (q_mulI (x := 9) (y := lx7.toInt) (by decide) rfl (by have t1 : lx7.toInt < 156 := q_nleI c11; omega) (by have t1 : lx7.toInt < 156 := q_nleI c11; omega)) (by decide) (by have t1 : lx7.toInt < 156 := q_nleI c11; omega) (by have t1 : lx7.toInt < 156 := q_nleI c11; omega)) (by decide) (by have t1 : lx7.toInt < 156 := q_nleI c11; omega) (by have t1 : lx7.toInt < 156 := q_nleI c11; omega)) (by decide) (by have t1 : lx7.toInt < 156 := q_nleI c11; omega) (by have t1 : lx7.toInt < 156 := q_nleI c11; omega)) (by decide) (by have t1 : lx7.toInt < 156 := q_nleI c11; omega) (by have t1 : lx7.toInt < 156 := q_nleI c11; omega)) (by decide) (by have t1 : lx7.toInt < 156 := q_nleI c11; omega) (by have t1 : lx7.toInt < 156 := q_nleI c11; omega)) (by decide) (by have t1 : lx7.toInt < 156 := q_nleI c11; omega) (by have t1 : lx7.toInt < 156 := q_nleI c11; omega)) (by decide) (by have t1 : lx7.toInt < 156 := q_nleI c11; omega) (by have t1 : lx7.toInt < 156 := q_nleI c11; omega)) (by have t1 : lx7.toInt < 156 := q_nleI c11; omega) (by have t1 : lx7.toInt < 156 := q_nleI c11; omega)) d_17_7_179 (fun H locs w34 hu35 hA1 V => ?_)
      replace hA1 := q_re (y := (qA1, .inl (g 0, 1404, .inl (fun _ => 0)))) hA1 (q_eI q_upd0)
      replace hA1 : w34[kA1]? = (some (qA1, .inl (g 0, 1404, .inl (fun _ => 0))) : Option (Nat × va_E)) := hA1
      replace hF := q_us hF hu35 (.head _)
      refine lv_iload hx hb d_17_7_180 (lv_at hl 1 rfl) ?_
      refine lv_bipush (v := 10) hx hb d_17_7_182 (by decide) ?_
      refine lv_idiv hx hb d_17_7_184 (by decide) ?_
      refine q_ti (v := 0) (by decide) ?_
      refine lv_istore (lv' := [(7, .int 0), (8, .int ((((((((9 * lx7) + 1) + 1) + 1) + 1) + 1) + 1) + 1)), (6, .int lx7), (4, .long 0), (0, .ref qO0), (1, .ref qA1), (2, .long 0)]) hx hb d_17_7_185 hl (by decide) rfl (fun ls hl => ?_)
      refine lv_iinc (v := ((((((((9 * lx7) + 1) + 1) + 1) + 1) + 1) + 1) + 1) + 1) (lv' := [(8, .int (((((((((9 * lx7) + 1) + 1) + 1) + 1) + 1) + 1) + 1) + 1)), (7, .int 0), (6, .int lx7), (4, .long 0), (0, .ref qO0), (1, .ref qA1), (2, .long 0)]) hx hb d_17_7_187 hl (k := 1) rfl (rfl) (by decide) rfl (fun ls hl => ?_)
      refine lv_goto (tgt := 158) hx hb d_17_7_190 (by decide) ?_
      refine lv_iload hx hb d_17_7_158 (lv_at hl 0 rfl) ?_
      refine lv_bipush (v := 9) hx hb d_17_7_160 (by decide) ?_
      refine lv_iload hx hb d_17_7_162 (lv_at hl 2 rfl) ?_
      refine lv_imul hx hb d_17_7_164 ?_
      refine lv_bipush (v := 9) hx hb d_17_7_165 (by decide) ?_
      refine lv_iadd hx hb d_17_7_167 ?_
      refine lv_icmp_ge (tgt := 193) hx hb d_17_7_168 (by decide) (fun c36 => absurd c36 (Int32.not_le.mpr (q_Ilt (x := (((((((((9 * lx7.toInt) + 1) + 1) + 1) + 1) + 1) + 1) + 1) + 1)) (y := ((9 * lx7.toInt) + 9)) (q_addI (x := ((((((((9 * lx7.toInt) + 1) + 1) + 1) + 1) + 1) + 1) + 1)) (y := 1) (q_addI (x := (((((((9 * lx7.toInt) + 1) + 1) + 1) + 1) + 1) + 1)) (y := 1) (q_addI (x := ((((((9 * lx7.toInt) + 1) + 1) + 1) + 1) + 1)) (y := 1) (q_addI (x := (((((9 * lx7.toInt) + 1) + 1) + 1) + 1)) (y := 1) (q_addI (x := ((((9 * lx7.toInt) + 1) + 1) + 1)) (y := 1) (q_addI (x := (((9 * lx7.toInt) + 1) + 1)) (y := 1) (q_addI (x := ((9 * lx7.toInt) + 1)) (y := 1) (q_addI (x := (9 * lx7.toInt)) (y := 1) (q_mulI (x := 9) (y := lx7.toInt) (by decide) rfl (by have t1 : lx7.toInt < 156 := q_nleI c11; omega) (by have t1 : lx7.toInt < 156 := q_nleI c11; omega)) (by decide) (by have t1 : lx7.toInt < 156 := q_nleI c11; omega) (by have t1 : lx7.toInt < 156 := q_nleI c11; omega)) (by decide) (by have t1 : lx7.toInt < 156 := q_nleI c11; omega) (by have t1 : lx7.toInt < 156 := q_nleI c11; omega)) (by decide) (by have t1 : lx7.toInt < 156 := q_nleI c11; omega) (by have t1 : lx7.toInt < 156 := q_nleI c11; omega)) (by decide) (by have t1 : lx7.toInt < 156 := q_nleI c11; omega) (by have t1 : lx7.toInt < 156 := q_nleI c11; omega)) (by decide) (by have t1 : lx7.toInt < 156 := q_nleI c11; omega) (by have t1 : lx7.toInt < 156 := q_nleI c11; omega)) (by decide) (by have t1 : lx7.toInt < 156 := q_nleI c11; omega) (by have t1 : lx7.toInt < 156 := q_nleI c11; omega)) (by decide) (by have t1 : lx7.toInt < 156 := q_nleI c11; omega) (by have t1 : lx7.toInt < 156 := q_nleI c11; omega)) (by decide) (by have t1 : lx7.toInt < 156 := q_nleI c11; omega) (by have t1 : lx7.toInt < 156 := q_nleI c11; omega)) (q_addI (x := (9 * lx7.toInt)) (y := 9) (q_mulI (x := 9) (y := lx7.toInt) (by decide) rfl (by have t1 : lx7.toInt < 156 := q_nleI c11; omega) (by have t1 : lx7.toInt < 156 := q_nleI c11; omega)) (by decide) (by have t1 : lx7.toInt < 156 := q_nleI c11; omega) (by have t1 : lx7.toInt < 156 := q_nleI c11; omega)) (by have t1 : lx7.toInt < 156 := q_nleI c11; omega)))) (fun c36 => ?_)
      refine lv_aload_n hx hb d_17_7_171 rfl (lv_at hl 5 rfl) ?_
      refine lv_iload hx hb d_17_7_172 (lv_at hl 0 rfl) ?_
      refine lv_iload hx hb d_17_7_174 (lv_at hl 1 rfl) ?_
      refine lv_bipush (v := 10) hx hb d_17_7_176 (by decide) ?_
      refine lv_irem hx hb d_17_7_178 (by decide) ?_
      refine q_ti (v := 0) (by decide) ?_
      refine q_iast C0 V hA1 (q_ix (x := (((((((((9 * lx7.toInt) + 1) + 1) + 1) + 1) + 1) + 1) + 1) + 1)) (q_addI (x := ((((((((9 * lx7.toInt) + 1) + 1) + 1) + 1) + 1) + 1) + 1)) (y := 1) (q_addI (x := (((((((9 * lx7.toInt) + 1) + 1) + 1) + 1) + 1) + 1)) (y := 1) (q_addI (x := ((((((9 * lx7.toInt) + 1) + 1) + 1) + 1) + 1)) (y := 1) (q_addI (x := (((((9 * lx7.toInt) + 1) + 1) + 1) + 1)) (y := 1) (q_addI (x := ((((9 * lx7.toInt) + 1) + 1) + 1)) (y := 1) (q_addI (x := (((9 * lx7.toInt) + 1) + 1)) (y := 1) (q_addI (x := ((9 * lx7.toInt) + 1)) (y := 1) (q_addI (x := (9 * lx7.toInt)) (y := 1) (q_mulI (x := 9) (y := lx7.toInt) (by decide) rfl (by have t1 : lx7.toInt < 156 := q_nleI c11; omega) (by have t1 : lx7.toInt < 156 := q_nleI c11; omega)) (by decide) (by have t1 : lx7.toInt < 156 := q_nleI c11; omega) (by have t1 : lx7.toInt < 156 := q_nleI c11; omega)) (by decide) (by have t1 : lx7.toInt < 156 := q_nleI c11; omega) (by have t1 : lx7.toInt < 156 := q_nleI c11; omega)) (by decide) (by have t1 : lx7.toInt < 156 := q_nleI c11; omega) (by have t1 : lx7.toInt < 156 := q_nleI c11; omega)) (by decide) (by have t1 : lx7.toInt < 156 := q_nleI c11; omega) (by have t1 : lx7.toInt < 156 := q_nleI c11; omega)) (by decide) (by have t1 : lx7.toInt < 156 := q_nleI c11; omega) (by have t1 : lx7.toInt < 156 := q_nleI c11; omega)) (by decide) (by have t1 : lx7.toInt < 156 := q_nleI c11; omega) (by have t1 : lx7.toInt < 156 := q_nleI c11; omega)) (by decide) (by have t1 : lx7.toInt < 156 := q_nleI c11; omega) (by have t1 : lx7.toInt < 156 := q_nleI c11; omega)) (by decide) (by have t1 : lx7.toInt < 156 := q_nleI c11; omega) (by have t1 : lx7.toInt < 156 := q_nleI c11; omega)) (by have t1 : lx7.toInt < 156 := q_nleI c11; omega) (by have t1 : lx7.toInt < 156 := q_nleI c11; omega)) d_17_7_179 (fun H locs w37 hu38 hA1 V => ?_)
      replace hA1 := q_re (y := (qA1, .inl (g 0, 1404, .inl (fun _ => 0)))) hA1 (q_eI q_upd0)
      replace hA1 : w37[kA1]? = (some (qA1, .inl (g 0, 1404, .inl (fun _ => 0))) : Option (Nat × va_E)) := hA1
      replace hF := q_us hF hu38 (.head _)
      refine lv_iload hx hb d_17_7_180 (lv_at hl 1 rfl) ?_
      refine lv_bipush (v := 10) hx hb d_17_7_182 (by decide) ?_
      refine lv_idiv hx hb d_17_7_184 (by decide) ?_
      refine q_ti (v := 0) (by decide) ?_
      refine lv_istore (lv' := [(7, .int 0), (8, .int (((((((((9 * lx7) + 1) + 1) + 1) + 1) + 1) + 1) + 1) + 1)), (6, .int lx7), (4, .long 0), (0, .ref qO0), (1, .ref qA1), (2, .long 0)]) hx hb d_17_7_185 hl (by decide) rfl (fun ls hl => ?_)
      refine lv_iinc (v := (((((((((9 * lx7) + 1) + 1) + 1) + 1) + 1) + 1) + 1) + 1) + 1) (lv' := [(8, .int ((((((((((9 * lx7) + 1) + 1) + 1) + 1) + 1) + 1) + 1) + 1) + 1)), (7, .int 0), (6, .int lx7), (4, .long 0), (0, .ref qO0), (1, .ref qA1), (2, .long 0)]) hx hb d_17_7_187 hl (k := 1) rfl (rfl) (by decide) rfl (fun ls hl => ?_)
      refine lv_goto (tgt := 158) hx hb d_17_7_190 (by decide) ?_
      refine lv_iload hx hb d_17_7_158 (lv_at hl 0 rfl) ?_
      refine lv_bipush (v := 9) hx hb d_17_7_160 (by decide) ?_
      refine lv_iload hx hb d_17_7_162 (lv_at hl 2 rfl) ?_
      refine lv_imul hx hb d_17_7_164 ?_
      refine lv_bipush (v := 9) hx hb d_17_7_165 (by decide) ?_
      refine lv_iadd hx hb d_17_7_167 ?_
      refine lv_icmp_ge (tgt := 193) hx hb d_17_7_168 (by decide) (fun c39 => ?_) (fun c39 => absurd (q_Ile (x := ((9 * lx7.toInt) + 9)) (y := ((((((((((9 * lx7.toInt) + 1) + 1) + 1) + 1) + 1) + 1) + 1) + 1) + 1)) (q_addI (x := (9 * lx7.toInt)) (y := 9) (q_mulI (x := 9) (y := lx7.toInt) (by decide) rfl (by have t1 : lx7.toInt < 156 := q_nleI c11; omega) (by have t1 : lx7.toInt < 156 := q_nleI c11; omega)) (by decide) (by have t1 : lx7.toInt < 156 := q_nleI c11; omega) (by have t1 : lx7.toInt < 156 := q_nleI c11; omega)) (q_addI (x := (((((((((9 * lx7.toInt) + 1) + 1) + 1) + 1) + 1) + 1) + 1) + 1)) (y := 1) (q_addI (x := ((((((((9 * lx7.toInt) + 1) + 1) + 1) + 1) + 1) + 1) + 1)) (y := 1) (q_addI (x := (((((((9 * lx7.toInt) + 1) + 1) + 1) + 1) + 1) + 1)) (y := 1) (q_addI (x := ((((((9 * lx7.toInt) + 1) + 1) + 1) + 1) + 1)) (y := 1) (q_addI (x := (((((9 * lx7.toInt) + 1) + 1) + 1) + 1)) (y := 1) (q_addI (x := ((((9 * lx7.toInt) + 1) + 1) + 1)) (y := 1) (q_addI (x := (((9 * lx7.toInt) + 1) + 1)) (y := 1) (q_addI (x := ((9 * lx7.toInt) + 1)) (y := 1) (q_addI (x := (9 * lx7.toInt)) (y := 1) (q_mulI (x := 9) (y := lx7.toInt) (by decide) rfl (by have t1 : lx7.toInt < 156 := q_nleI c11; omega) (by have t1 : lx7.toInt < 156 := q_nleI c11; omega)) (by decide) (by have t1 : lx7.toInt < 156 := q_nleI c11; omega) (by have t1 : lx7.toInt < 156 := q_nleI c11; omega)) (by decide) (by have t1 : lx7.toInt < 156 := q_nleI c11; omega) (by have t1 : lx7.toInt < 156 := q_nleI c11; omega)) (by decide) (by have t1 : lx7.toInt < 156 := q_nleI c11; omega) (by have t1 : lx7.toInt < 156 := q_nleI c11; omega)) (by decide) (by have t1 : lx7.toInt < 156 := q_nleI c11; omega) (by have t1 : lx7.toInt < 156 := q_nleI c11; omega)) (by decide) (by have t1 : lx7.toInt < 156 := q_nleI c11; omega) (by have t1 : lx7.toInt < 156 := q_nleI c11; omega)) (by decide) (by have t1 : lx7.toInt < 156 := q_nleI c11; omega) (by have t1 : lx7.toInt < 156 := q_nleI c11; omega)) (by decide) (by have t1 : lx7.toInt < 156 := q_nleI c11; omega) (by have t1 : lx7.toInt < 156 := q_nleI c11; omega)) (by decide) (by have t1 : lx7.toInt < 156 := q_nleI c11; omega) (by have t1 : lx7.toInt < 156 := q_nleI c11; omega)) (by decide) (by have t1 : lx7.toInt < 156 := q_nleI c11; omega) (by have t1 : lx7.toInt < 156 := q_nleI c11; omega)) (by have t1 : lx7.toInt < 156 := q_nleI c11; omega)) c39)
      refine lv_iinc (v := lx7 + 1) (lv' := [(6, .int (lx7 + 1)), (8, .int ((((((((((9 * lx7) + 1) + 1) + 1) + 1) + 1) + 1) + 1) + 1) + 1)), (7, .int 0), (4, .long 0), (0, .ref qO0), (1, .ref qA1), (2, .long 0)]) hx hb d_17_7_193 hl (k := 2) rfl (rfl) (by decide) rfl (fun ls hl => ?_)
      refine lv_goto (tgt := 134) hx hb d_17_7_196 (by decide) ?_
      replace hO0 := (hu38 _ n_O0_A1).trans ((hu35 _ n_O0_A1).trans ((hu32 _ n_O0_A1).trans ((hu29 _ n_O0_A1).trans ((hu26 _ n_O0_A1).trans ((hu23 _ n_O0_A1).trans ((hu20 _ n_O0_A1).trans ((hu17 _ n_O0_A1).trans ((hu14 _ n_O0_A1).trans (hO0)))))))))
      replace hA3 := (hu38 _ n_A3_A1).trans ((hu35 _ n_A3_A1).trans ((hu32 _ n_A3_A1).trans ((hu29 _ n_A3_A1).trans ((hu26 _ n_A3_A1).trans ((hu23 _ n_A3_A1).trans ((hu20 _ n_A3_A1).trans ((hu17 _ n_A3_A1).trans ((hu14 _ n_A3_A1).trans (hA3)))))))))
      exact ih10 ((lx7 + 1 : Int32)) _ _ _ _ (show (156 - (lx7 + 1).toInt).toNat < (156 - lx7.toInt).toNat from by have t1 : lx7.toInt < 156 := q_nleI c11; have e : (lx7 + 1).toInt = (lx7.toInt + 1) := (q_addI (x := lx7.toInt) (y := 1) rfl (by decide) (by have t1 : lx7.toInt < 156 := q_nleI c11; omega) (by have t1 : lx7.toInt < 156 := q_nleI c11; omega)); omega) ⟨(show 0 ≤ (lx7 + 1).toInt ∧ ((lx7 + 1).toInt ≤ 156 ∨ (lx7 + 1).toInt = 0) from by have t1 : lx7.toInt < 156 := q_nleI c11; have e : (lx7 + 1).toInt = (lx7.toInt + 1) := (q_addI (x := lx7.toInt) (y := 1) rfl (by decide) (by have t1 : lx7.toInt < 156 := q_nleI c11; omega) (by have t1 : lx7.toInt < 156 := q_nleI c11; omega)); omega), V, q_lw hl (q_lw1 0 rfl (q_lw1 3 rfl (q_lw1 4 rfl (q_lw1 5 rfl (q_lw1 6 rfl q_lw0))))), hF, hO0, hA1, hA3⟩
  ·
    refine lv_aload_n hx hb d_17_7_11 rfl (lv_at hl 1 rfl) ?_
    refine q_get (ci := 15) (j := 2) (v := .ref qA3) C0 V i_FR rfl rfl hO0 (by decide) w_2077 rfl d_17_7_12 ?_
    refine lv_iload hx hb d_17_7_15 (lv_at hl 0 rfl) ?_
    refine lv_iconst (v := 0) hx hb d_17_7_17 (by decide) ?_
    refine q_iast C0 V hA3 (q_ix (x := lx1.toInt) rfl (by have t1 : lx1.toInt < 156 := q_nleI c5; omega) (by have t1 : lx1.toInt < 156 := q_nleI c5; omega)) d_17_7_18 (fun H locs w40 hu41 hA3 V => ?_)
    replace hA3 := q_re (y := (qA3, .inl (g 0, 156, .inl (fun _ => 0)))) hA3 (q_eI q_upd0)
    replace hA3 : w40[kA3]? = (some (qA3, .inl (g 0, 156, .inl (fun _ => 0))) : Option (Nat × va_E)) := hA3
    replace hF := q_us hF hu41 (.tail _ (.head _))
    refine lv_iinc (v := lx1 + 1) (lv' := [(4, .int (lx1 + 1)), (0, .ref qO0), (1, .ref qA1), (2, .long 0)]) hx hb d_17_7_19 hl (k := 0) rfl (rfl) (by decide) rfl (fun ls hl => ?_)
    refine lv_goto (tgt := 3) hx hb d_17_7_22 (by decide) ?_
    replace hO0 := (hu41 _ n_O0_A3).trans (hO0)
    replace hA1 := (hu41 _ n_A1_A3).trans (hA1)
    exact ih4 ((lx1 + 1 : Int32)) _ _ _ _ (show (156 - (lx1 + 1).toInt).toNat < (156 - lx1.toInt).toNat from by have t1 : lx1.toInt < 156 := q_nleI c5; have e : (lx1 + 1).toInt = (lx1.toInt + 1) := (q_addI (x := lx1.toInt) (y := 1) rfl (by decide) (by have t1 : lx1.toInt < 156 := q_nleI c5; omega) (by have t1 : lx1.toInt < 156 := q_nleI c5; omega)); omega) ⟨(show 0 ≤ (lx1 + 1).toInt ∧ ((lx1 + 1).toInt ≤ 156 ∨ (lx1 + 1).toInt = 0) from by have t1 : lx1.toInt < 156 := q_nleI c5; have e : (lx1 + 1).toInt = (lx1.toInt + 1) := (q_addI (x := lx1.toInt) (y := 1) rfl (by decide) (by have t1 : lx1.toInt < 156 := q_nleI c5; omega) (by have t1 : lx1.toInt < 156 := q_nleI c5; omega)); omega), V, q_lw hl (q_lw1 0 rfl (q_lw1 1 rfl (q_lw1 2 rfl (q_lw1 3 rfl q_lw0)))), hF, hO0, hA1, hA3⟩
set_option maxRecDepth 100000 in
set_option maxHeartbeats 4000000 in
theorem c_FR_setValue_2 (l : Launch) (D : va_G) (g : Nat → ClassId) (ws : va_W) (kO0 kA1 kA2 kA3 qO0 qA1 qA2 qA3 qA4 qA5 qA6 qA7 : Nat) (hO0 : ws[kO0]? = (some (qO0, .inr (15, [.int 0, .ref qA1, .ref qA2, .ref qA3, .ref qA4, .ref qA5, .ref qA6, .ref qA7, .int 0, .int 0, .int 0, .long 0, .int 23, .int 255, .long 0, .int (-149), .long 0, .int 0])) : Option (Nat × va_E))) (hA1 : ws[kA1]? = (some (qA1, .inl (g 0, 156, .inl (fun _ => 0))) : Option (Nat × va_E))) (hA2 : ws[kA2]? = (some (qA2, .inl (g 0, 156, .inl (fun _ => 0))) : Option (Nat × va_E))) (hA3 : ws[kA3]? = (some (qA3, .inl (g 0, 1404, .inl (fun _ => 0))) : Option (Nat × va_E))) (n_A1_A2 : kA1 ≠ kA2) (n_A1_A3 : kA1 ≠ kA3) (n_A3_A2 : kA3 ≠ kA2) : q_mV l y_FR_setValue prog_17_method_28_code 1 2 0 0 D g [.ref qO0] ws (fun u => ∃ (ex0 : Nat → Int32), q_un ws u [kA1, kA2, kA3] ∧ u[kA1]? = (some (qA1, .inl (g 0, 156, .inl ex0)) : Option (Nat × va_E)) ∧ u[kA2]? = (some (qA2, .inl (g 0, 156, .inl (fun _ => 0))) : Option (Nat × va_E)) ∧ u[kA3]? = (some (qA3, .inl (g 0, 1404, .inl (fun _ => 0))) : Option (Nat × va_E))) := by
  intro sz
  refine q_into (by decide) (Nat.le_of_ble_eq_true rfl) ?_
  intro p e s m below meth c ls hsz C0 V hl
  have hx := C0.1
  have hb := C0.2.1
  have hl : lv_has ls 1 [(0, .ref qO0)] := hl
  have n_A2_A1 := Ne.symm n_A1_A2
  have n_A3_A1 := Ne.symm n_A1_A3
  have n_O0_A1 := Ne.symm (q_df hA1 hO0)
  have n_O0_A2 := Ne.symm (q_df hA2 hO0)
  have n_O0_A3 := Ne.symm (q_df hA3 hO0)
  have hF : q_un ws ws [kA1, kA2, kA3] := q_u0
  refine lv_aload_n hx hb d_17_28_0 rfl (lv_at hl 0 rfl) ?_
  refine lv_aload_n hx hb d_17_28_1 rfl (lv_at hl 0 rfl) ?_
  refine q_get (ci := 15) (j := 15) (v := .int (-149)) C0 V i_FR rfl rfl hO0 (by decide) w_2091 rfl d_17_28_2 ?_
  refine q_gov V (q_runV (As := [.int (-149)]) (rest := []) (d := 1) (mc := 0) (ms := 0) (ci := 15) C0 V rfl LV_FR_61 (c_FR_setUnit_2 l D g ws kO0 kA1 qO0 qA1 qA2 qA3 qA4 qA5 qA6 qA7 hO0 hA1 _) rfl rfl hO0 rfl hl.1 rfl (Nat.le_of_ble_eq_true rfl) ⟨by decide, by decide⟩ ⟨Nat.le_of_ble_eq_true rfl, Nat.le_of_ble_eq_true rfl⟩ d_17_28_5) (fun u2 H locs hp1 V => ?_)
  obtain ⟨y3, hg4, hA1⟩ := hp1
  replace hF := q_uc hF hg4 (q_sc (.head _) (fun _ h => absurd h List.not_mem_nil))
  refine lv_aload_n hx hb d_17_28_8 rfl (lv_at hl 0 rfl) ?_
  refine lv_aload_n hx hb d_17_28_9 rfl (lv_at hl 0 rfl) ?_
  replace hO0 := (hg4 _ (q_nc n_O0_A1 List.not_mem_nil)).trans (hO0)
  refine q_get (ci := 15) (j := 3) (v := .ref qA3) C0 V i_FR rfl rfl hO0 (by decide) w_2078 rfl d_17_28_10 ?_
  refine lv_aload_n hx hb d_17_28_13 rfl (lv_at hl 0 rfl) ?_
  refine q_get (ci := 15) (j := 14) (v := .long 0) C0 V i_FR rfl rfl hO0 (by decide) w_2090 rfl d_17_28_14 ?_
  replace hA3 := (hg4 _ (q_nc n_A3_A1 List.not_mem_nil)).trans (hA3)
  replace hA2 := (hg4 _ (q_nc n_A2_A1 List.not_mem_nil)).trans (hA2)
  refine q_gov V (q_runV (As := [.ref qA3, .long 0]) (rest := []) (d := 1) (mc := 0) (ms := 0) (ci := 15) C0 V rfl LV_FR_67 (c_FR_set_2 l D g u2 kO0 kA3 kA2 qO0 qA3 qA1 qA2 qA4 qA5 qA6 qA7 hO0 hA3 hA2 n_A3_A2 _) rfl rfl hO0 rfl hl.1 rfl (Nat.le_of_ble_eq_true rfl) ⟨by decide, by decide⟩ ⟨Nat.le_of_ble_eq_true rfl, Nat.le_of_ble_eq_true rfl⟩ d_17_28_17) (fun u6 H locs hp5 V => ?_)
  obtain ⟨hg7, hA3, hA2⟩ := hp5
  replace hF := q_uc hF hg7 (q_sc (.tail _ (.tail _ (.head _))) (q_sc (.tail _ (.head _)) (fun _ h => absurd h List.not_mem_nil)))
  replace hA1 := (hg7 _ (q_nc n_A1_A3 (q_nc n_A1_A2 List.not_mem_nil))).trans (hA1)
  exact q_retv C0 V (⟨y3, hF, hA1, hA2, hA3⟩) d_17_28_20
set_option maxRecDepth 100000 in
set_option maxHeartbeats 4000000 in
theorem c_FR_isMore_3 (l : Launch) (D : va_G) (g : Nat → ClassId) (ws : va_W) (kO0 kA3 qO0 qA1 qA2 qA3 qA4 qA5 qA6 qA7 : Nat) (hO0 : ws[kO0]? = (some (qO0, .inr (15, [.int 0, .ref qA1, .ref qA2, .ref qA3, .ref qA4, .ref qA5, .ref qA6, .ref qA7, .int 0, .int 0, .int 0, .long 0, .int 23, .int 255, .long 0, .int (-149), .long 0, .int 0])) : Option (Nat × va_E))) (hA3 : ws[kA3]? = (some (qA3, .inl (g 0, 1404, .inl (fun _ => 0))) : Option (Nat × va_E))) : q_mI l y_FR_isMore prog_17_method_26_code 5 (.boolean) 1 0 0 D g [.ref qO0, .int 6, .int 0] ws (fun r u => 0 = r ∧ ws = u) := by
  intro sz
  refine q_into (by decide) (Nat.le_of_ble_eq_true rfl) ?_
  intro p e s m below meth c ls hsz C0 V hl
  have hx := C0.1
  have hb := C0.2.1
  have hl : lv_has ls 5 [(0, .ref qO0), (1, .int 6), (2, .int 0)] := hl
  refine lv_iconst (v := 0) hx hb d_17_26_0 (by decide) ?_
  refine lv_istore_n (lv' := [(3, .int 0), (0, .ref qO0), (1, .int 6), (2, .int 0)]) hx hb d_17_26_1 rfl hl (by decide) rfl (fun ls hl => ?_)
  refine lv_iconst (v := 0) hx hb d_17_26_2 (by decide) ?_
  refine lv_istore (lv' := [(4, .int 0), (3, .int 0), (0, .ref qO0), (1, .int 6), (2, .int 0)]) hx hb d_17_26_3 hl (by decide) rfl (fun ls hl => ?_)
  refine lv_iload hx hb d_17_26_5 (lv_at hl 0 rfl) ?_
  refine lv_iload_n hx hb d_17_26_7 rfl (lv_at hl 3 rfl) ?_
  refine lv_icmp_ge (tgt := 37) hx hb d_17_26_8 (by decide) (fun c1 => absurd c1 (by decide)) (fun c1 => ?_)
  refine lv_iload_n hx hb d_17_26_11 rfl (lv_at hl 1 rfl) ?_
  refine lv_if_ne (tgt := 25) hx hb d_17_26_12 (by decide) (fun c2 => absurd (by decide) c2) (fun c2 => ?_)
  refine lv_aload_n hx hb d_17_26_15 rfl (lv_at hl 2 rfl) ?_
  refine q_get (ci := 15) (j := 3) (v := .ref qA3) C0 V i_FR rfl rfl hO0 (by decide) w_2078 rfl d_17_26_16 ?_
  refine lv_iload hx hb d_17_26_19 (lv_at hl 0 rfl) ?_
  refine q_iald C0 V hA3 (by unfold vp_in; decide) d_17_26_21 ?_
  refine q_ti (v := 0) (by first | rfl | decide | simp [upd, vp_updL, sb_cl0]) ?_
  refine lv_if_eq (tgt := 29) hx hb d_17_26_22 (by decide) (fun c3 => ?_) (fun c3 => absurd (by decide) c3)
  refine lv_iconst (v := 0) hx hb d_17_26_29 (by decide) ?_
  refine lv_istore_n (lv' := [(3, .int 0), (4, .int 0), (0, .ref qO0), (1, .int 6), (2, .int 0)]) hx hb d_17_26_30 rfl hl (by decide) rfl (fun ls hl => ?_)
  refine lv_iinc (v := 1) (lv' := [(4, .int 1), (3, .int 0), (0, .ref qO0), (1, .int 6), (2, .int 0)]) hx hb d_17_26_31 hl (k := 1) rfl (by decide) (by decide) rfl (fun ls hl => ?_)
  refine lv_goto (tgt := 5) hx hb d_17_26_34 (by decide) ?_
  refine lv_iload hx hb d_17_26_5 (lv_at hl 0 rfl) ?_
  refine lv_iload_n hx hb d_17_26_7 rfl (lv_at hl 3 rfl) ?_
  refine lv_icmp_ge (tgt := 37) hx hb d_17_26_8 (by decide) (fun c4 => absurd c4 (by decide)) (fun c4 => ?_)
  refine lv_iload_n hx hb d_17_26_11 rfl (lv_at hl 1 rfl) ?_
  refine lv_if_ne (tgt := 25) hx hb d_17_26_12 (by decide) (fun c5 => absurd (by decide) c5) (fun c5 => ?_)
  refine lv_aload_n hx hb d_17_26_15 rfl (lv_at hl 2 rfl) ?_
  refine q_get (ci := 15) (j := 3) (v := .ref qA3) C0 V i_FR rfl rfl hO0 (by decide) w_2078 rfl d_17_26_16 ?_
  refine lv_iload hx hb d_17_26_19 (lv_at hl 0 rfl) ?_
  refine q_iald C0 V hA3 (by unfold vp_in; decide) d_17_26_21 ?_
  refine q_ti (v := 0) (by first | rfl | decide | simp [upd, vp_updL, sb_cl0]) ?_
  refine lv_if_eq (tgt := 29) hx hb d_17_26_22 (by decide) (fun c6 => ?_) (fun c6 => absurd (by decide) c6)
  refine lv_iconst (v := 0) hx hb d_17_26_29 (by decide) ?_
  refine lv_istore_n (lv' := [(3, .int 0), (4, .int 1), (0, .ref qO0), (1, .int 6), (2, .int 0)]) hx hb d_17_26_30 rfl hl (by decide) rfl (fun ls hl => ?_)
  refine lv_iinc (v := 2) (lv' := [(4, .int 2), (3, .int 0), (0, .ref qO0), (1, .int 6), (2, .int 0)]) hx hb d_17_26_31 hl (k := 1) rfl (by decide) (by decide) rfl (fun ls hl => ?_)
  refine lv_goto (tgt := 5) hx hb d_17_26_34 (by decide) ?_
  refine lv_iload hx hb d_17_26_5 (lv_at hl 0 rfl) ?_
  refine lv_iload_n hx hb d_17_26_7 rfl (lv_at hl 3 rfl) ?_
  refine lv_icmp_ge (tgt := 37) hx hb d_17_26_8 (by decide) (fun c7 => absurd c7 (by decide)) (fun c7 => ?_)
  refine lv_iload_n hx hb d_17_26_11 rfl (lv_at hl 1 rfl) ?_
  refine lv_if_ne (tgt := 25) hx hb d_17_26_12 (by decide) (fun c8 => absurd (by decide) c8) (fun c8 => ?_)
  refine lv_aload_n hx hb d_17_26_15 rfl (lv_at hl 2 rfl) ?_
  refine q_get (ci := 15) (j := 3) (v := .ref qA3) C0 V i_FR rfl rfl hO0 (by decide) w_2078 rfl d_17_26_16 ?_
  refine lv_iload hx hb d_17_26_19 (lv_at hl 0 rfl) ?_
  refine q_iald C0 V hA3 (by unfold vp_in; decide) d_17_26_21 ?_
  refine q_ti (v := 0) (by first | rfl | decide | simp [upd, vp_updL, sb_cl0]) ?_
  refine lv_if_eq (tgt := 29) hx hb d_17_26_22 (by decide) (fun c9 => ?_) (fun c9 => absurd (by decide) c9)
  refine lv_iconst (v := 0) hx hb d_17_26_29 (by decide) ?_
  refine lv_istore_n (lv' := [(3, .int 0), (4, .int 2), (0, .ref qO0), (1, .int 6), (2, .int 0)]) hx hb d_17_26_30 rfl hl (by decide) rfl (fun ls hl => ?_)
  refine lv_iinc (v := 3) (lv' := [(4, .int 3), (3, .int 0), (0, .ref qO0), (1, .int 6), (2, .int 0)]) hx hb d_17_26_31 hl (k := 1) rfl (by decide) (by decide) rfl (fun ls hl => ?_)
  refine lv_goto (tgt := 5) hx hb d_17_26_34 (by decide) ?_
  refine lv_iload hx hb d_17_26_5 (lv_at hl 0 rfl) ?_
  refine lv_iload_n hx hb d_17_26_7 rfl (lv_at hl 3 rfl) ?_
  refine lv_icmp_ge (tgt := 37) hx hb d_17_26_8 (by decide) (fun c10 => absurd c10 (by decide)) (fun c10 => ?_)
  refine lv_iload_n hx hb d_17_26_11 rfl (lv_at hl 1 rfl) ?_
  refine lv_if_ne (tgt := 25) hx hb d_17_26_12 (by decide) (fun c11 => absurd (by decide) c11) (fun c11 => ?_)
  refine lv_aload_n hx hb d_17_26_15 rfl (lv_at hl 2 rfl) ?_
  refine q_get (ci := 15) (j := 3) (v := .ref qA3) C0 V i_FR rfl rfl hO0 (by decide) w_2078 rfl d_17_26_16 ?_
  refine lv_iload hx hb d_17_26_19 (lv_at hl 0 rfl) ?_
  refine q_iald C0 V hA3 (by unfold vp_in; decide) d_17_26_21 ?_
  refine q_ti (v := 0) (by first | rfl | decide | simp [upd, vp_updL, sb_cl0]) ?_
  refine lv_if_eq (tgt := 29) hx hb d_17_26_22 (by decide) (fun c12 => ?_) (fun c12 => absurd (by decide) c12)
  refine lv_iconst (v := 0) hx hb d_17_26_29 (by decide) ?_
  refine lv_istore_n (lv' := [(3, .int 0), (4, .int 3), (0, .ref qO0), (1, .int 6), (2, .int 0)]) hx hb d_17_26_30 rfl hl (by decide) rfl (fun ls hl => ?_)
  refine lv_iinc (v := 4) (lv' := [(4, .int 4), (3, .int 0), (0, .ref qO0), (1, .int 6), (2, .int 0)]) hx hb d_17_26_31 hl (k := 1) rfl (by decide) (by decide) rfl (fun ls hl => ?_)
  refine lv_goto (tgt := 5) hx hb d_17_26_34 (by decide) ?_
  refine lv_iload hx hb d_17_26_5 (lv_at hl 0 rfl) ?_
  refine lv_iload_n hx hb d_17_26_7 rfl (lv_at hl 3 rfl) ?_
  refine lv_icmp_ge (tgt := 37) hx hb d_17_26_8 (by decide) (fun c13 => absurd c13 (by decide)) (fun c13 => ?_)
  refine lv_iload_n hx hb d_17_26_11 rfl (lv_at hl 1 rfl) ?_
  refine lv_if_ne (tgt := 25) hx hb d_17_26_12 (by decide) (fun c14 => absurd (by decide) c14) (fun c14 => ?_)
  refine lv_aload_n hx hb d_17_26_15 rfl (lv_at hl 2 rfl) ?_
  refine q_get (ci := 15) (j := 3) (v := .ref qA3) C0 V i_FR rfl rfl hO0 (by decide) w_2078 rfl d_17_26_16 ?_
  refine lv_iload hx hb d_17_26_19 (lv_at hl 0 rfl) ?_
  refine q_iald C0 V hA3 (by unfold vp_in; decide) d_17_26_21 ?_
  refine q_ti (v := 0) (by first | rfl | decide | simp [upd, vp_updL, sb_cl0]) ?_
  refine lv_if_eq (tgt := 29) hx hb d_17_26_22 (by decide) (fun c15 => ?_) (fun c15 => absurd (by decide) c15)
  refine lv_iconst (v := 0) hx hb d_17_26_29 (by decide) ?_
  refine lv_istore_n (lv' := [(3, .int 0), (4, .int 4), (0, .ref qO0), (1, .int 6), (2, .int 0)]) hx hb d_17_26_30 rfl hl (by decide) rfl (fun ls hl => ?_)
  refine lv_iinc (v := 5) (lv' := [(4, .int 5), (3, .int 0), (0, .ref qO0), (1, .int 6), (2, .int 0)]) hx hb d_17_26_31 hl (k := 1) rfl (by decide) (by decide) rfl (fun ls hl => ?_)
  refine lv_goto (tgt := 5) hx hb d_17_26_34 (by decide) ?_
  refine lv_iload hx hb d_17_26_5 (lv_at hl 0 rfl) ?_
  refine lv_iload_n hx hb d_17_26_7 rfl (lv_at hl 3 rfl) ?_
  refine lv_icmp_ge (tgt := 37) hx hb d_17_26_8 (by decide) (fun c16 => absurd c16 (by decide)) (fun c16 => ?_)
  refine lv_iload_n hx hb d_17_26_11 rfl (lv_at hl 1 rfl) ?_
  refine lv_if_ne (tgt := 25) hx hb d_17_26_12 (by decide) (fun c17 => absurd (by decide) c17) (fun c17 => ?_)
  refine lv_aload_n hx hb d_17_26_15 rfl (lv_at hl 2 rfl) ?_
  refine q_get (ci := 15) (j := 3) (v := .ref qA3) C0 V i_FR rfl rfl hO0 (by decide) w_2078 rfl d_17_26_16 ?_
  refine lv_iload hx hb d_17_26_19 (lv_at hl 0 rfl) ?_
  refine q_iald C0 V hA3 (by unfold vp_in; decide) d_17_26_21 ?_
  refine q_ti (v := 0) (by first | rfl | decide | simp [upd, vp_updL, sb_cl0]) ?_
  refine lv_if_eq (tgt := 29) hx hb d_17_26_22 (by decide) (fun c18 => ?_) (fun c18 => absurd (by decide) c18)
  refine lv_iconst (v := 0) hx hb d_17_26_29 (by decide) ?_
  refine lv_istore_n (lv' := [(3, .int 0), (4, .int 5), (0, .ref qO0), (1, .int 6), (2, .int 0)]) hx hb d_17_26_30 rfl hl (by decide) rfl (fun ls hl => ?_)
  refine lv_iinc (v := 6) (lv' := [(4, .int 6), (3, .int 0), (0, .ref qO0), (1, .int 6), (2, .int 0)]) hx hb d_17_26_31 hl (k := 1) rfl (by decide) (by decide) rfl (fun ls hl => ?_)
  refine lv_goto (tgt := 5) hx hb d_17_26_34 (by decide) ?_
  refine lv_iload hx hb d_17_26_5 (lv_at hl 0 rfl) ?_
  refine lv_iload_n hx hb d_17_26_7 rfl (lv_at hl 3 rfl) ?_
  refine lv_icmp_ge (tgt := 37) hx hb d_17_26_8 (by decide) (fun c19 => ?_) (fun c19 => absurd (by decide) c19)
  refine lv_iload_n hx hb d_17_26_37 rfl (lv_at hl 1 rfl) ?_
  refine lv_if_eq (tgt := 45) hx hb d_17_26_38 (by decide) (fun c20 => ?_) (fun c20 => absurd (by decide) c20)
  refine lv_iconst (v := 0) hx hb d_17_26_45 (by decide) ?_
  exact q_retz C0 V (rfl) (⟨rfl, rfl⟩) d_17_26_46
set_option maxRecDepth 100000 in
set_option maxHeartbeats 4000000 in
theorem c_FR_cut_3 (l : Launch) (D : va_G) (g : Nat → ClassId) (ws : va_W) (kO0 kA3 kA6 qO0 qA1 qA2 qA3 qA4 qA5 qA6 qA7 : Nat) (hO0 : ws[kO0]? = (some (qO0, .inr (15, [.int 0, .ref qA1, .ref qA2, .ref qA3, .ref qA4, .ref qA5, .ref qA6, .ref qA7, .int 0, .int 0, .int 0, .long 0, .int 23, .int 255, .long 0, .int (-149), .long 0, .int 0])) : Option (Nat × va_E))) (hA3 : ws[kA3]? = (some (qA3, .inl (g 0, 1404, .inl (fun _ => 0))) : Option (Nat × va_E))) (hA6 : ws[kA6]? = (some (qA6, .inl (g 0, 1404, .inl (fun _ => 0))) : Option (Nat × va_E))) (n_A3_A6 : kA3 ≠ kA6) : q_mV l y_FR_cut prog_17_method_11_code 5 1 0 0 D g [.ref qO0, .int 6, .int 0] ws (fun u => q_un ws u [kA6] ∧ u[kA6]? = (some (qA6, .inl (g 0, 1404, .inl (fun _ => 0))) : Option (Nat × va_E))) := by
  intro sz
  refine q_into (by decide) (Nat.le_of_ble_eq_true rfl) ?_
  intro p e s m below meth c ls hsz C0 V hl
  have hx := C0.1
  have hb := C0.2.1
  have hl : lv_has ls 5 [(0, .ref qO0), (1, .int 6), (2, .int 0)] := hl
  have n_O0_A6 := Ne.symm (q_df hA6 hO0)
  have hF : q_un ws ws [kA6] := q_u0
  refine lv_iconst (v := 0) hx hb d_17_11_0 (by decide) ?_
  refine lv_istore_n (lv' := [(3, .int 0), (0, .ref qO0), (1, .int 6), (2, .int 0)]) hx hb d_17_11_1 rfl hl (by decide) rfl (fun ls hl => ?_)
  refine q_loop (X := Int32) (fun z H locs ls w2 => (0 ≤ z.toInt ∧ (z.toInt ≤ 1404 ∨ z.toInt = 0)) ∧ q_Wd D g (va_A ws sz) s w2 H locs ∧ lv_has ls 5 [(3, .int z), (0, .ref qO0), (1, .int 6), (2, .int 0)] ∧ q_un ws w2 [kA6] ∧ w2[kO0]? = (some (qO0, .inr (15, [.int 0, .ref qA1, .ref qA2, .ref qA3, .ref qA4, .ref qA5, .ref qA6, .ref qA7, .int 0, .int 0, .int 0, .long 0, .int 23, .int 255, .long 0, .int (-149), .long 0, .int 0])) : Option (Nat × va_E)) ∧ w2[kA3]? = (some (qA3, .inl (g 0, 1404, .inl (fun _ => 0))) : Option (Nat × va_E)) ∧ w2[kA6]? = (some (qA6, .inl (g 0, 1404, .inl (fun _ => 0))) : Option (Nat × va_E))) (fun z => (1404 - z.toInt).toNat) ?_ ((0 : Int32)) _ _ _ ws ⟨⟨by decide, Or.inr (by decide)⟩, V, hl, hF, hO0, hA3, hA6⟩
  rintro lx1 H locs ls w2 ⟨i3, V, hl, hF, hO0, hA3, hA6⟩ ih4
  replace i3 : 0 ≤ lx1.toInt ∧ (lx1.toInt ≤ 1404 ∨ lx1.toInt = 0) := i3
  replace hl : lv_has ls 5 [(3, .int lx1), (0, .ref qO0), (1, .int 6), (2, .int 0)] := hl
  replace hO0 : w2[kO0]? = (some (qO0, .inr (15, [.int 0, .ref qA1, .ref qA2, .ref qA3, .ref qA4, .ref qA5, .ref qA6, .ref qA7, .int 0, .int 0, .int 0, .long 0, .int 23, .int 255, .long 0, .int (-149), .long 0, .int 0])) : Option (Nat × va_E)) := hO0
  replace hA3 : w2[kA3]? = (some (qA3, .inl (g 0, 1404, .inl (fun _ => 0))) : Option (Nat × va_E)) := hA3
  replace hA6 : w2[kA6]? = (some (qA6, .inl (g 0, 1404, .inl (fun _ => 0))) : Option (Nat × va_E)) := hA6
  refine lv_iload_n hx hb d_17_11_2 rfl (lv_at hl 0 rfl) ?_
  refine lv_sipush (v := 1404) hx hb d_17_11_3 (by decide) ?_
  refine lv_icmp_ge (tgt := 36) hx hb d_17_11_6 (by decide) (fun c5 => ?_) (fun c5 => ?_)
  ·
    refine lv_iload_n hx hb d_17_11_36 rfl (lv_at hl 2 rfl) ?_
    refine lv_istore_n (lv' := [(3, .int 6), (0, .ref qO0), (1, .int 6), (2, .int 0)]) hx hb d_17_11_37 rfl hl (by decide) rfl (fun ls hl => ?_)
    refine lv_iload_n hx hb d_17_11_38 rfl (lv_at hl 3 rfl) ?_
    refine lv_istore (lv' := [(4, .int 0), (3, .int 6), (0, .ref qO0), (1, .int 6), (2, .int 0)]) hx hb d_17_11_39 hl (by decide) rfl (fun ls hl => ?_)
    refine lv_iload hx hb d_17_11_41 (lv_at hl 0 rfl) ?_
    refine lv_if_eq (tgt := 97) hx hb d_17_11_43 (by decide) (fun c6 => ?_) (fun c6 => absurd (by decide) c6)
    exact q_retv C0 V (⟨hF, hA6⟩) d_17_11_97
  ·
    refine lv_aload_n hx hb d_17_11_9 rfl (lv_at hl 1 rfl) ?_
    refine q_get (ci := 15) (j := 6) (v := .ref qA6) C0 V i_FR rfl rfl hO0 (by decide) w_2081 rfl d_17_11_10 ?_
    refine lv_iload_n hx hb d_17_11_13 rfl (lv_at hl 0 rfl) ?_
    refine lv_iload_n hx hb d_17_11_14 rfl (lv_at hl 0 rfl) ?_
    refine lv_iload_n hx hb d_17_11_15 rfl (lv_at hl 2 rfl) ?_
    refine lv_icmp_ge (tgt := 23) hx hb d_17_11_16 (by decide) (fun c7 => ?_) (fun c7 => ?_)
    ·
      refine lv_aload_n hx hb d_17_11_23 rfl (lv_at hl 1 rfl) ?_
      refine q_get (ci := 15) (j := 3) (v := .ref qA3) C0 V i_FR rfl rfl hO0 (by decide) w_2078 rfl d_17_11_24 ?_
      refine lv_iload_n hx hb d_17_11_27 rfl (lv_at hl 0 rfl) ?_
      refine q_iald C0 V hA3 (q_ix (x := lx1.toInt) rfl (by have t1 : lx1.toInt < 1404 := q_nleI c5; have t2 : 6 ≤ lx1.toInt := q_leI c7; omega) (by have t1 : lx1.toInt < 1404 := q_nleI c5; have t2 : 6 ≤ lx1.toInt := q_leI c7; omega)) d_17_11_28 ?_
      refine q_ti (v := 0) (by first | rfl | decide | simp [upd, vp_updL, sb_cl0]) ?_
      refine q_iast C0 V hA6 (q_ix (x := lx1.toInt) rfl (by have t1 : lx1.toInt < 1404 := q_nleI c5; have t2 : 6 ≤ lx1.toInt := q_leI c7; omega) (by have t1 : lx1.toInt < 1404 := q_nleI c5; have t2 : 6 ≤ lx1.toInt := q_leI c7; omega)) d_17_11_29 (fun H locs w8 hu9 hA6 V => ?_)
      replace hA6 := q_re (y := (qA6, .inl (g 0, 1404, .inl (fun _ => 0)))) hA6 (q_eI q_upd0)
      replace hA6 : w8[kA6]? = (some (qA6, .inl (g 0, 1404, .inl (fun _ => 0))) : Option (Nat × va_E)) := hA6
      replace hF := q_us hF hu9 (.head _)
      refine lv_iinc (v := lx1 + 1) (lv' := [(3, .int (lx1 + 1)), (0, .ref qO0), (1, .int 6), (2, .int 0)]) hx hb d_17_11_30 hl (k := 0) rfl (rfl) (by decide) rfl (fun ls hl => ?_)
      refine lv_goto (tgt := 2) hx hb d_17_11_33 (by decide) ?_
      replace hO0 := (hu9 _ n_O0_A6).trans (hO0)
      replace hA3 := (hu9 _ n_A3_A6).trans (hA3)
      exact ih4 ((lx1 + 1 : Int32)) _ _ _ _ (show (1404 - (lx1 + 1).toInt).toNat < (1404 - lx1.toInt).toNat from by have t1 : lx1.toInt < 1404 := q_nleI c5; have t2 : 6 ≤ lx1.toInt := q_leI c7; have e : (lx1 + 1).toInt = (lx1.toInt + 1) := (q_addI (x := lx1.toInt) (y := 1) rfl (by decide) (by have t1 : lx1.toInt < 1404 := q_nleI c5; have t2 : 6 ≤ lx1.toInt := q_leI c7; omega) (by have t1 : lx1.toInt < 1404 := q_nleI c5; have t2 : 6 ≤ lx1.toInt := q_leI c7; omega)); omega) ⟨(show 0 ≤ (lx1 + 1).toInt ∧ ((lx1 + 1).toInt ≤ 1404 ∨ (lx1 + 1).toInt = 0) from by have t1 : lx1.toInt < 1404 := q_nleI c5; have t2 : 6 ≤ lx1.toInt := q_leI c7; have e : (lx1 + 1).toInt = (lx1.toInt + 1) := (q_addI (x := lx1.toInt) (y := 1) rfl (by decide) (by have t1 : lx1.toInt < 1404 := q_nleI c5; have t2 : 6 ≤ lx1.toInt := q_leI c7; omega) (by have t1 : lx1.toInt < 1404 := q_nleI c5; have t2 : 6 ≤ lx1.toInt := q_leI c7; omega)); omega), V, q_lw hl (q_lw1 0 rfl (q_lw1 1 rfl (q_lw1 2 rfl (q_lw1 3 rfl q_lw0)))), hF, hO0, hA3, hA6⟩
    ·
      refine lv_iconst (v := 0) hx hb d_17_11_19 (by decide) ?_
      refine lv_goto (tgt := 29) hx hb d_17_11_20 (by decide) ?_
      refine q_iast C0 V hA6 (q_ix (x := lx1.toInt) rfl (by have t1 : lx1.toInt < 1404 := q_nleI c5; have t2 : lx1.toInt < 6 := q_nleI c7; omega) (by have t1 : lx1.toInt < 1404 := q_nleI c5; have t2 : lx1.toInt < 6 := q_nleI c7; omega)) d_17_11_29 (fun H locs w10 hu11 hA6 V => ?_)
      replace hA6 := q_re (y := (qA6, .inl (g 0, 1404, .inl (fun _ => 0)))) hA6 (q_eI q_upd0)
      replace hA6 : w10[kA6]? = (some (qA6, .inl (g 0, 1404, .inl (fun _ => 0))) : Option (Nat × va_E)) := hA6
      replace hF := q_us hF hu11 (.head _)
      refine lv_iinc (v := lx1 + 1) (lv' := [(3, .int (lx1 + 1)), (0, .ref qO0), (1, .int 6), (2, .int 0)]) hx hb d_17_11_30 hl (k := 0) rfl (rfl) (by decide) rfl (fun ls hl => ?_)
      refine lv_goto (tgt := 2) hx hb d_17_11_33 (by decide) ?_
      replace hO0 := (hu11 _ n_O0_A6).trans (hO0)
      replace hA3 := (hu11 _ n_A3_A6).trans (hA3)
      exact ih4 ((lx1 + 1 : Int32)) _ _ _ _ (show (1404 - (lx1 + 1).toInt).toNat < (1404 - lx1.toInt).toNat from by have t1 : lx1.toInt < 1404 := q_nleI c5; have t2 : lx1.toInt < 6 := q_nleI c7; have e : (lx1 + 1).toInt = (lx1.toInt + 1) := (q_addI (x := lx1.toInt) (y := 1) rfl (by decide) (by have t1 : lx1.toInt < 1404 := q_nleI c5; have t2 : lx1.toInt < 6 := q_nleI c7; omega) (by have t1 : lx1.toInt < 1404 := q_nleI c5; have t2 : lx1.toInt < 6 := q_nleI c7; omega)); omega) ⟨(show 0 ≤ (lx1 + 1).toInt ∧ ((lx1 + 1).toInt ≤ 1404 ∨ (lx1 + 1).toInt = 0) from by have t1 : lx1.toInt < 1404 := q_nleI c5; have t2 : lx1.toInt < 6 := q_nleI c7; have e : (lx1 + 1).toInt = (lx1.toInt + 1) := (q_addI (x := lx1.toInt) (y := 1) rfl (by decide) (by have t1 : lx1.toInt < 1404 := q_nleI c5; have t2 : lx1.toInt < 6 := q_nleI c7; omega) (by have t1 : lx1.toInt < 1404 := q_nleI c5; have t2 : lx1.toInt < 6 := q_nleI c7; omega)); omega), V, q_lw hl (q_lw1 0 rfl (q_lw1 1 rfl (q_lw1 2 rfl (q_lw1 3 rfl q_lw0)))), hF, hO0, hA3, hA6⟩
set_option maxRecDepth 100000 in
set_option maxHeartbeats 4000000 in
theorem c_FR_begin_2 (l : Launch) (D : va_G) (g : Nat → ClassId) (ws : va_W) (kO0 qO0 qA1 qA2 qA3 qA4 qA5 qA6 qA7 : Nat) (hO0 : ws[kO0]? = (some (qO0, .inr (15, [.int 0, .ref qA1, .ref qA2, .ref qA3, .ref qA4, .ref qA5, .ref qA6, .ref qA7, .int 0, .int 0, .int 0, .long 0, .int 23, .int 255, .long 0, .int (-149), .long 0, .int 0])) : Option (Nat × va_E))) : q_mV l y_FR_begin prog_17_method_17_code 1 1 0 0 D g [.ref qO0] ws (fun u => q_un ws u [kO0] ∧ u[kO0]? = (some (qO0, .inr (15, [.int 0, .ref qA1, .ref qA2, .ref qA3, .ref qA4, .ref qA5, .ref qA6, .ref qA7, .int 0, .int 0, .int 0, .long 0, .int 23, .int 255, .long 0, .int (-149), .long 0, .int 0])) : Option (Nat × va_E))) := by
  intro sz
  refine q_into (by decide) (Nat.le_of_ble_eq_true rfl) ?_
  intro p e s m below meth c ls hsz C0 V hl
  have hx := C0.1
  have hb := C0.2.1
  have hl : lv_has ls 1 [(0, .ref qO0)] := hl
  have hF : q_un ws ws [kO0] := q_u0
  refine lv_aload_n hx hb d_17_17_0 rfl (lv_at hl 0 rfl) ?_
  refine lv_iconst (v := 0) hx hb d_17_17_1 (by decide) ?_
  refine q_put (ci := 15) (j := 8) (v := .int 0) (ty := .int) C0 V i_FR o_FR n_FR rfl rfl hO0 (by decide) w_2084 rfl rfl rfl rfl (Nat.le_of_ble_eq_true rfl) d_17_17_2 (fun H locs w1 hu2 hO0 V => ?_)
  replace hO0 : w1[kO0]? = (some (qO0, .inr (15, [.int 0, .ref qA1, .ref qA2, .ref qA3, .ref qA4, .ref qA5, .ref qA6, .ref qA7, .int 0, .int 0, .int 0, .long 0, .int 23, .int 255, .long 0, .int (-149), .long 0, .int 0])) : Option (Nat × va_E)) := hO0
  replace hF := q_us hF hu2 (.head _)
  refine lv_aload_n hx hb d_17_17_5 rfl (lv_at hl 0 rfl) ?_
  refine q_get (ci := 15) (j := 9) (v := .int 0) C0 V i_FR rfl rfl hO0 (by decide) w_2085 rfl d_17_17_6 ?_
  refine lv_if_eq (tgt := 18) hx hb d_17_17_9 (by decide) (fun c3 => ?_) (fun c3 => absurd (by decide) c3)
  exact q_retv C0 V (⟨hF, hO0⟩) d_17_17_18
set_option maxRecDepth 100000 in
set_option maxHeartbeats 4000000 in
theorem c_FR_figureAt_3 (l : Launch) (D : va_G) (g : Nat → ClassId) (ws : va_W) (kO0 kA6 qO0 qA1 qA2 qA3 qA4 qA5 qA6 qA7 : Nat) (hO0 : ws[kO0]? = (some (qO0, .inr (15, [.int 0, .ref qA1, .ref qA2, .ref qA3, .ref qA4, .ref qA5, .ref qA6, .ref qA7, .int 0, .int 0, .int 0, .long 0, .int 23, .int 255, .long 0, .int (-149), .long 0, .int 0])) : Option (Nat × va_E))) (hA6 : ws[kA6]? = (some (qA6, .inl (g 0, 1404, .inl (fun _ => 0))) : Option (Nat × va_E))) : q_mI l y_FR_figureAt prog_17_method_27_code 3 (.int) 1 0 0 D g [.ref qO0, .int 0] ws (fun r u => 0 = r ∧ ws = u) := by
  intro sz
  refine q_into (by decide) (Nat.le_of_ble_eq_true rfl) ?_
  intro p e s m below meth c ls hsz C0 V hl
  have hx := C0.1
  have hb := C0.2.1
  have hl : lv_has ls 3 [(0, .ref qO0), (1, .int 0)] := hl
  refine lv_iload_n hx hb d_17_27_0 rfl (lv_at hl 1 rfl) ?_
  refine lv_sipush (v := 1080) hx hb d_17_27_1 (by decide) ?_
  refine lv_iadd hx hb d_17_27_4 ?_
  refine q_ti (v := 1080) (by decide) ?_
  refine lv_istore_n (lv' := [(2, .int 1080), (0, .ref qO0), (1, .int 0)]) hx hb d_17_27_5 rfl hl (by decide) rfl (fun ls hl => ?_)
  refine lv_iload_n hx hb d_17_27_6 rfl (lv_at hl 0 rfl) ?_
  refine lv_if_lt (tgt := 17) hx hb d_17_27_7 (by decide) (fun c1 => absurd c1 (by decide)) (fun c1 => ?_)
  refine lv_iload_n hx hb d_17_27_10 rfl (lv_at hl 0 rfl) ?_
  refine lv_sipush (v := 1404) hx hb d_17_27_11 (by decide) ?_
  refine lv_icmp_lt (tgt := 21) hx hb d_17_27_14 (by decide) (fun c2 => ?_) (fun c2 => absurd (by decide) c2)
  refine lv_aload_n hx hb d_17_27_21 rfl (lv_at hl 1 rfl) ?_
  refine q_get (ci := 15) (j := 6) (v := .ref qA6) C0 V i_FR rfl rfl hO0 (by decide) w_2081 rfl d_17_27_22 ?_
  refine lv_iload_n hx hb d_17_27_25 rfl (lv_at hl 0 rfl) ?_
  refine q_iald C0 V hA6 (by unfold vp_in; decide) d_17_27_26 ?_
  refine q_ti (v := 0) (by first | rfl | decide | simp [upd, vp_updL, sb_cl0]) ?_
  exact q_reti C0 V (⟨rfl, rfl⟩) d_17_27_27
set_option maxRecDepth 100000 in
set_option maxHeartbeats 4000000 in
theorem c_FR_add_4 (l : Launch) (D : va_G) (g : Nat → ClassId) (ws : va_W) (kO0 kA7 qO0 qA1 qA2 qA3 qA4 qA5 qA6 qA7 : Nat) (hO0 : ws[kO0]? = (some (qO0, .inr (15, [.int 0, .ref qA1, .ref qA2, .ref qA3, .ref qA4, .ref qA5, .ref qA6, .ref qA7, .int 0, .int 0, .int 0, .long 0, .int 23, .int 255, .long 0, .int (-149), .long 0, .int 0])) : Option (Nat × va_E))) (hA7 : ws[kA7]? = (some (qA7, .inl (g 0, 1600, .inl (fun _ => 0))) : Option (Nat × va_E))) : q_mV l y_FR_add prog_17_method_16_code 2 1 0 0 D g [.ref qO0, .int 48] ws (fun u => q_un ws u [kO0, kA7] ∧ u[kO0]? = (some (qO0, .inr (15, [.int 0, .ref qA1, .ref qA2, .ref qA3, .ref qA4, .ref qA5, .ref qA6, .ref qA7, .int 1, .int 0, .int 0, .long 0, .int 23, .int 255, .long 0, .int (-149), .long 0, .int 0])) : Option (Nat × va_E)) ∧ u[kA7]? = (some (qA7, .inl (g 0, 1600, .inl (upd (fun _ => 0) 0 48))) : Option (Nat × va_E))) := by
  intro sz
  refine q_into (by decide) (Nat.le_of_ble_eq_true rfl) ?_
  intro p e s m below meth c ls hsz C0 V hl
  have hx := C0.1
  have hb := C0.2.1
  have hl : lv_has ls 2 [(0, .ref qO0), (1, .int 48)] := hl
  have n_A7_O0 := q_df hA7 hO0
  have n_O0_A7 := Ne.symm (q_df hA7 hO0)
  have hF : q_un ws ws [kO0, kA7] := q_u0
  refine lv_aload_n hx hb d_17_16_0 rfl (lv_at hl 0 rfl) ?_
  refine q_get (ci := 15) (j := 7) (v := .ref qA7) C0 V i_FR rfl rfl hO0 (by decide) w_2082 rfl d_17_16_1 ?_
  refine lv_aload_n hx hb d_17_16_4 rfl (lv_at hl 0 rfl) ?_
  refine q_get (ci := 15) (j := 8) (v := .int 0) C0 V i_FR rfl rfl hO0 (by decide) w_2084 rfl d_17_16_5 ?_
  refine lv_iload_n hx hb d_17_16_8 rfl (lv_at hl 1 rfl) ?_
  refine q_iast C0 V hA7 (by unfold vp_in; decide) d_17_16_9 (fun H locs w1 hu2 hA7 V => ?_)
  replace hA7 : w1[kA7]? = (some (qA7, .inl (g 0, 1600, .inl (upd (fun _ => 0) 0 48))) : Option (Nat × va_E)) := hA7
  replace hF := q_us hF hu2 (.tail _ (.head _))
  refine lv_aload_n hx hb d_17_16_10 rfl (lv_at hl 0 rfl) ?_
  refine lv_dup hx hb d_17_16_11 rfl ?_
  replace hO0 := (hu2 _ n_O0_A7).trans (hO0)
  refine q_get (ci := 15) (j := 8) (v := .int 0) C0 V i_FR rfl rfl hO0 (by decide) w_2084 rfl d_17_16_12 ?_
  refine lv_iconst (v := 1) hx hb d_17_16_15 (by decide) ?_
  refine lv_iadd hx hb d_17_16_16 ?_
  refine q_ti (v := 1) (by decide) ?_
  refine q_put (ci := 15) (j := 8) (v := .int 1) (ty := .int) C0 V i_FR o_FR n_FR rfl rfl hO0 (by decide) w_2084 rfl rfl rfl rfl (Nat.le_of_ble_eq_true rfl) d_17_16_17 (fun H locs w3 hu4 hO0 V => ?_)
  replace hO0 : w3[kO0]? = (some (qO0, .inr (15, [.int 0, .ref qA1, .ref qA2, .ref qA3, .ref qA4, .ref qA5, .ref qA6, .ref qA7, .int 1, .int 0, .int 0, .long 0, .int 23, .int 255, .long 0, .int (-149), .long 0, .int 0])) : Option (Nat × va_E)) := hO0
  replace hF := q_us hF hu4 (.head _)
  replace hA7 := (hu4 _ n_A7_O0).trans (hA7)
  exact q_retv C0 V (⟨hF, hO0, hA7⟩) d_17_16_20
set_option maxRecDepth 100000 in
set_option maxHeartbeats 4000000 in
theorem c_FR_add_5 (l : Launch) (D : va_G) (g : Nat → ClassId) (ws : va_W) (kO0 kA7 qO0 qA1 qA2 qA3 qA4 qA5 qA6 qA7 : Nat) (hO0 : ws[kO0]? = (some (qO0, .inr (15, [.int 0, .ref qA1, .ref qA2, .ref qA3, .ref qA4, .ref qA5, .ref qA6, .ref qA7, .int 1, .int 0, .int 0, .long 0, .int 23, .int 255, .long 0, .int (-149), .long 0, .int 0])) : Option (Nat × va_E))) (hA7 : ws[kA7]? = (some (qA7, .inl (g 0, 1600, .inl (upd (fun _ => 0) 0 48))) : Option (Nat × va_E))) : q_mV l y_FR_add prog_17_method_16_code 2 1 0 0 D g [.ref qO0, .int 46] ws (fun u => q_un ws u [kO0, kA7] ∧ u[kO0]? = (some (qO0, .inr (15, [.int 0, .ref qA1, .ref qA2, .ref qA3, .ref qA4, .ref qA5, .ref qA6, .ref qA7, .int 2, .int 0, .int 0, .long 0, .int 23, .int 255, .long 0, .int (-149), .long 0, .int 0])) : Option (Nat × va_E)) ∧ u[kA7]? = (some (qA7, .inl (g 0, 1600, .inl (upd (upd (fun _ => 0) 0 48) 1 46))) : Option (Nat × va_E))) := by
  intro sz
  refine q_into (by decide) (Nat.le_of_ble_eq_true rfl) ?_
  intro p e s m below meth c ls hsz C0 V hl
  have hx := C0.1
  have hb := C0.2.1
  have hl : lv_has ls 2 [(0, .ref qO0), (1, .int 46)] := hl
  have n_A7_O0 := q_df hA7 hO0
  have n_O0_A7 := Ne.symm (q_df hA7 hO0)
  have hF : q_un ws ws [kO0, kA7] := q_u0
  refine lv_aload_n hx hb d_17_16_0 rfl (lv_at hl 0 rfl) ?_
  refine q_get (ci := 15) (j := 7) (v := .ref qA7) C0 V i_FR rfl rfl hO0 (by decide) w_2082 rfl d_17_16_1 ?_
  refine lv_aload_n hx hb d_17_16_4 rfl (lv_at hl 0 rfl) ?_
  refine q_get (ci := 15) (j := 8) (v := .int 1) C0 V i_FR rfl rfl hO0 (by decide) w_2084 rfl d_17_16_5 ?_
  refine lv_iload_n hx hb d_17_16_8 rfl (lv_at hl 1 rfl) ?_
  refine q_iast C0 V hA7 (by unfold vp_in; decide) d_17_16_9 (fun H locs w1 hu2 hA7 V => ?_)
  replace hA7 : w1[kA7]? = (some (qA7, .inl (g 0, 1600, .inl (upd (upd (fun _ => 0) 0 48) 1 46))) : Option (Nat × va_E)) := hA7
  replace hF := q_us hF hu2 (.tail _ (.head _))
  refine lv_aload_n hx hb d_17_16_10 rfl (lv_at hl 0 rfl) ?_
  refine lv_dup hx hb d_17_16_11 rfl ?_
  replace hO0 := (hu2 _ n_O0_A7).trans (hO0)
  refine q_get (ci := 15) (j := 8) (v := .int 1) C0 V i_FR rfl rfl hO0 (by decide) w_2084 rfl d_17_16_12 ?_
  refine lv_iconst (v := 1) hx hb d_17_16_15 (by decide) ?_
  refine lv_iadd hx hb d_17_16_16 ?_
  refine q_ti (v := 2) (by decide) ?_
  refine q_put (ci := 15) (j := 8) (v := .int 2) (ty := .int) C0 V i_FR o_FR n_FR rfl rfl hO0 (by decide) w_2084 rfl rfl rfl rfl (Nat.le_of_ble_eq_true rfl) d_17_16_17 (fun H locs w3 hu4 hO0 V => ?_)
  replace hO0 : w3[kO0]? = (some (qO0, .inr (15, [.int 0, .ref qA1, .ref qA2, .ref qA3, .ref qA4, .ref qA5, .ref qA6, .ref qA7, .int 2, .int 0, .int 0, .long 0, .int 23, .int 255, .long 0, .int (-149), .long 0, .int 0])) : Option (Nat × va_E)) := hO0
  replace hF := q_us hF hu4 (.head _)
  replace hA7 := (hu4 _ n_A7_O0).trans (hA7)
  exact q_retv C0 V (⟨hF, hO0, hA7⟩) d_17_16_20
set_option maxRecDepth 100000 in
set_option maxHeartbeats 4000000 in
theorem c_FR_figureAt_4 (l : Launch) (D : va_G) (g : Nat → ClassId) (ws : va_W) (kO0 kA6 qO0 qA1 qA2 qA3 qA4 qA5 qA6 qA7 : Nat) (x1 : Int32) (y2 : Int32) (hO0 : ws[kO0]? = (some (qO0, .inr (15, [.int 0, .ref qA1, .ref qA2, .ref qA3, .ref qA4, .ref qA5, .ref qA6, .ref qA7, .int y2, .int 0, .int 0, .long 0, .int 23, .int 255, .long 0, .int (-149), .long 0, .int 0])) : Option (Nat × va_E))) (hA6 : ws[kA6]? = (some (qA6, .inl (g 0, 1404, .inl (fun _ => 0))) : Option (Nat × va_E))) (x1lo : (-1074) ≤ x1) (x1hi : x1 ≤ (-1)) (y2lo : 2 ≤ y2) (y2hi : y2 ≤ 1076) : q_mI l y_FR_figureAt prog_17_method_27_code 3 (.int) 1 0 0 D g [.ref qO0, .int x1] ws (fun r u => 0 = r ∧ ws = u) := by
  intro sz
  refine q_into (by decide) (Nat.le_of_ble_eq_true rfl) ?_
  intro p e s m below meth c ls hsz C0 V hl
  have hx := C0.1
  have hb := C0.2.1
  have hl : lv_has ls 3 [(0, .ref qO0), (1, .int x1)] := hl
  refine lv_iload_n hx hb d_17_27_0 rfl (lv_at hl 1 rfl) ?_
  refine lv_sipush (v := 1080) hx hb d_17_27_1 (by decide) ?_
  refine lv_iadd hx hb d_17_27_4 ?_
  refine lv_istore_n (lv' := [(2, .int (x1 + 1080)), (0, .ref qO0), (1, .int x1)]) hx hb d_17_27_5 rfl hl (by decide) rfl (fun ls hl => ?_)
  refine lv_iload_n hx hb d_17_27_6 rfl (lv_at hl 0 rfl) ?_
  refine lv_if_lt (tgt := 17) hx hb d_17_27_7 (by decide) (fun c1 => absurd c1 (Int32.not_lt.mpr (q_Ile (x := 0) (y := (x1.toInt + 1080)) (by decide) (q_addI (x := x1.toInt) (y := 1080) rfl (by decide) (by have t1 : (-1074) ≤ x1.toInt := q_leI x1lo; have t2 : x1.toInt ≤ (-1) := q_leI x1hi; omega) (by have t1 : (-1074) ≤ x1.toInt := q_leI x1lo; have t2 : x1.toInt ≤ (-1) := q_leI x1hi; omega)) (by have t1 : (-1074) ≤ x1.toInt := q_leI x1lo; have t2 : x1.toInt ≤ (-1) := q_leI x1hi; omega)))) (fun c1 => ?_)
  refine lv_iload_n hx hb d_17_27_10 rfl (lv_at hl 0 rfl) ?_
  refine lv_sipush (v := 1404) hx hb d_17_27_11 (by decide) ?_
  refine lv_icmp_lt (tgt := 21) hx hb d_17_27_14 (by decide) (fun c2 => ?_) (fun c2 => absurd (q_Ilt (x := (x1.toInt + 1080)) (y := 1404) (q_addI (x := x1.toInt) (y := 1080) rfl (by decide) (by have t1 : (-1074) ≤ x1.toInt := q_leI x1lo; have t2 : x1.toInt ≤ (-1) := q_leI x1hi; omega) (by have t1 : (-1074) ≤ x1.toInt := q_leI x1lo; have t2 : x1.toInt ≤ (-1) := q_leI x1hi; omega)) (by decide) (by have t1 : (-1074) ≤ x1.toInt := q_leI x1lo; have t2 : x1.toInt ≤ (-1) := q_leI x1hi; omega)) c2)
  refine lv_aload_n hx hb d_17_27_21 rfl (lv_at hl 1 rfl) ?_
  refine q_get (ci := 15) (j := 6) (v := .ref qA6) C0 V i_FR rfl rfl hO0 (by decide) w_2081 rfl d_17_27_22 ?_
  refine lv_iload_n hx hb d_17_27_25 rfl (lv_at hl 0 rfl) ?_
  refine q_iald C0 V hA6 (q_ix (x := (x1.toInt + 1080)) (q_addI (x := x1.toInt) (y := 1080) rfl (by decide) (by have t1 : (-1074) ≤ x1.toInt := q_leI x1lo; have t2 : x1.toInt ≤ (-1) := q_leI x1hi; omega) (by have t1 : (-1074) ≤ x1.toInt := q_leI x1lo; have t2 : x1.toInt ≤ (-1) := q_leI x1hi; omega)) (by have t1 : (-1074) ≤ x1.toInt := q_leI x1lo; have t2 : x1.toInt ≤ (-1) := q_leI x1hi; omega) (by have t1 : (-1074) ≤ x1.toInt := q_leI x1lo; have t2 : x1.toInt ≤ (-1) := q_leI x1hi; omega)) d_17_27_26 ?_
  refine q_ti (v := 0) (by first | rfl | decide | simp [upd, vp_updL, sb_cl0]) ?_
  exact q_reti C0 V (⟨rfl, rfl⟩) d_17_27_27
set_option maxRecDepth 100000 in
set_option maxHeartbeats 4000000 in
theorem c_FR_add_6 (l : Launch) (D : va_G) (g : Nat → ClassId) (ws : va_W) (kO0 kA7 qO0 qA1 qA2 qA3 qA4 qA5 qA6 qA7 : Nat) (y1 : Int32) (f3 : Nat → Int32) (hO0 : ws[kO0]? = (some (qO0, .inr (15, [.int 0, .ref qA1, .ref qA2, .ref qA3, .ref qA4, .ref qA5, .ref qA6, .ref qA7, .int y1, .int 0, .int 0, .long 0, .int 23, .int 255, .long 0, .int (-149), .long 0, .int 0])) : Option (Nat × va_E))) (hA7 : ws[kA7]? = (some (qA7, .inl (g 0, 1600, .inl f3)) : Option (Nat × va_E))) (y1lo : 2 ≤ y1) (y1hi : y1 ≤ 1076) : q_mV l y_FR_add prog_17_method_16_code 2 1 0 0 D g [.ref qO0, .int 48] ws (fun u => q_un ws u [kO0, kA7] ∧ u[kO0]? = (some (qO0, .inr (15, [.int 0, .ref qA1, .ref qA2, .ref qA3, .ref qA4, .ref qA5, .ref qA6, .ref qA7, .int (y1 + 1), .int 0, .int 0, .long 0, .int 23, .int 255, .long 0, .int (-149), .long 0, .int 0])) : Option (Nat × va_E)) ∧ u[kA7]? = (some (qA7, .inl (g 0, 1600, .inl (upd f3 y1.toNatClampNeg 48))) : Option (Nat × va_E))) := by
  intro sz
  refine q_into (by decide) (Nat.le_of_ble_eq_true rfl) ?_
  intro p e s m below meth c ls hsz C0 V hl
  have hx := C0.1
  have hb := C0.2.1
  have hl : lv_has ls 2 [(0, .ref qO0), (1, .int 48)] := hl
  have n_A7_O0 := q_df hA7 hO0
  have n_O0_A7 := Ne.symm (q_df hA7 hO0)
  have hF : q_un ws ws [kO0, kA7] := q_u0
  refine lv_aload_n hx hb d_17_16_0 rfl (lv_at hl 0 rfl) ?_
  refine q_get (ci := 15) (j := 7) (v := .ref qA7) C0 V i_FR rfl rfl hO0 (by decide) w_2082 rfl d_17_16_1 ?_
  refine lv_aload_n hx hb d_17_16_4 rfl (lv_at hl 0 rfl) ?_
  refine q_get (ci := 15) (j := 8) (v := .int y1) C0 V i_FR rfl rfl hO0 (by decide) w_2084 rfl d_17_16_5 ?_
  refine lv_iload_n hx hb d_17_16_8 rfl (lv_at hl 1 rfl) ?_
  refine q_iast C0 V hA7 (q_ix (x := y1.toInt) rfl (by have t1 : 2 ≤ y1.toInt := q_leI y1lo; have t2 : y1.toInt ≤ 1076 := q_leI y1hi; omega) (by have t1 : 2 ≤ y1.toInt := q_leI y1lo; have t2 : y1.toInt ≤ 1076 := q_leI y1hi; omega)) d_17_16_9 (fun H locs w1 hu2 hA7 V => ?_)
  replace hA7 : w1[kA7]? = (some (qA7, .inl (g 0, 1600, .inl (upd f3 y1.toNatClampNeg 48))) : Option (Nat × va_E)) := hA7
  replace hF := q_us hF hu2 (.tail _ (.head _))
  refine lv_aload_n hx hb d_17_16_10 rfl (lv_at hl 0 rfl) ?_
  refine lv_dup hx hb d_17_16_11 rfl ?_
  replace hO0 := (hu2 _ n_O0_A7).trans (hO0)
  refine q_get (ci := 15) (j := 8) (v := .int y1) C0 V i_FR rfl rfl hO0 (by decide) w_2084 rfl d_17_16_12 ?_
  refine lv_iconst (v := 1) hx hb d_17_16_15 (by decide) ?_
  refine lv_iadd hx hb d_17_16_16 ?_
  refine q_put (ci := 15) (j := 8) (v := .int (y1 + 1)) (ty := .int) C0 V i_FR o_FR n_FR rfl rfl hO0 (by decide) w_2084 rfl rfl rfl rfl (Nat.le_of_ble_eq_true rfl) d_17_16_17 (fun H locs w3 hu4 hO0 V => ?_)
  replace hO0 : w3[kO0]? = (some (qO0, .inr (15, [.int 0, .ref qA1, .ref qA2, .ref qA3, .ref qA4, .ref qA5, .ref qA6, .ref qA7, .int (y1 + 1), .int 0, .int 0, .long 0, .int 23, .int 255, .long 0, .int (-149), .long 0, .int 0])) : Option (Nat × va_E)) := hO0
  replace hF := q_us hF hu4 (.head _)
  replace hA7 := (hu4 _ n_A7_O0).trans (hA7)
  exact q_retv C0 V (⟨hF, hO0, hA7⟩) d_17_16_20
theorem d_17_29_6 : decode prog_17_method_29_code 6 = .ok (.lload_n 1, 1) := by decide +kernel
theorem d_17_29_7 : decode prog_17_method_29_code 7 = .ok (.iload_n 3, 1) := by decide +kernel
theorem d_17_29_8 : decode prog_17_method_29_code 8 = .ok (.invokestatic 122, 3) := by decide +kernel
theorem d_17_29_11 : decode prog_17_method_29_code 11 = .ok (.ifCond .ne 7, 3) := by decide +kernel
theorem d_17_29_14 : decode prog_17_method_29_code 14 = .ok (.iconst 1, 1) := by decide +kernel
theorem d_17_29_15 : decode prog_17_method_29_code 15 = .ok (.goto 4, 3) := by decide +kernel
set_option maxRecDepth 100000 in
set_option maxHeartbeats 4000000 in
theorem c_FR_fixed_3 (l : Launch) (D : va_G) (g : Nat → ClassId) (ws : va_W) (kO0 kA1 kA2 kA3 kA6 kA7 qO0 qA1 qA2 qA3 qA4 qA5 qA6 qA7 : Nat) (hO0 : ws[kO0]? = (some (qO0, .inr (15, [.int 0, .ref qA1, .ref qA2, .ref qA3, .ref qA4, .ref qA5, .ref qA6, .ref qA7, .int 0, .int 0, .int 0, .long 0, .int 0, .int 0, .long 0, .int 0, .long 0, .int 0])) : Option (Nat × va_E))) (hA1 : ws[kA1]? = (some (qA1, .inl (g 0, 156, .inl (fun _ => 0))) : Option (Nat × va_E))) (hA2 : ws[kA2]? = (some (qA2, .inl (g 0, 156, .inl (fun _ => 0))) : Option (Nat × va_E))) (hA3 : ws[kA3]? = (some (qA3, .inl (g 0, 1404, .inl (fun _ => 0))) : Option (Nat × va_E))) (hA6 : ws[kA6]? = (some (qA6, .inl (g 0, 1404, .inl (fun _ => 0))) : Option (Nat × va_E))) (hA7 : ws[kA7]? = (some (qA7, .inl (g 0, 1600, .inl (fun _ => 0))) : Option (Nat × va_E))) (n_A1_A2 : kA1 ≠ kA2) (n_A1_A3 : kA1 ≠ kA3) (n_A1_A6 : kA1 ≠ kA6) (n_A1_A7 : kA1 ≠ kA7) (n_A2_A6 : kA2 ≠ kA6) (n_A2_A7 : kA2 ≠ kA7) (n_A3_A2 : kA3 ≠ kA2) (n_A3_A6 : kA3 ≠ kA6) (n_A3_A7 : kA3 ≠ kA7) (n_A6_A7 : kA6 ≠ kA7) : q_mI l y_FR_fixed prog_17_method_29_code 9 (.int) 3 0 0 D g [.ref qO0, .long 0, .int 1, .int 1074, .int 0] ws (fun r u => ∃ (ex0 : Nat → Int32), 1076 = r ∧ q_un ws u [kO0, kA1, kA2, kA3, kA6, kA7] ∧ u[kO0]? = (some (qO0, .inr (15, [.int 0, .ref qA1, .ref qA2, .ref qA3, .ref qA4, .ref qA5, .ref qA6, .ref qA7, .int 1076, .int 0, .int 0, .long 0, .int 23, .int 255, .long 0, .int (-149), .long 0, .int 0])) : Option (Nat × va_E)) ∧ u[kA1]? = (some (qA1, .inl (g 0, 156, .inl ex0)) : Option (Nat × va_E)) ∧ u[kA2]? = (some (qA2, .inl (g 0, 156, .inl (fun _ => 0))) : Option (Nat × va_E)) ∧ u[kA3]? = (some (qA3, .inl (g 0, 1404, .inl (fun _ => 0))) : Option (Nat × va_E)) ∧ u[kA6]? = (some (qA6, .inl (g 0, 1404, .inl (fun _ => 0))) : Option (Nat × va_E)) ∧ u[kA7]? = (some (qA7, .inl (g 0, 1600, .inl (q_fil (upd (upd (fun _ => 0) 0 48) 1 46) 2 48 1076))) : Option (Nat × va_E))) := by
  intro sz
  refine q_into (by decide) (Nat.le_of_ble_eq_true rfl) ?_
  intro p e s m below meth c ls hsz C0 V hl
  have hx := C0.1
  have hb := C0.2.1
  have hl : lv_has ls 9 [(0, .ref qO0), (1, .long 0), (3, .int 1), (4, .int 1074), (5, .int 0)] := hl
  have n_A1_O0 := q_df hA1 hO0
  have n_A2_O0 := q_df hA2 hO0
  have n_A3_O0 := q_df hA3 hO0
  have n_A6_A1 := Ne.symm n_A1_A6
  have n_A6_A2 := Ne.symm n_A2_A6
  have n_A6_A3 := Ne.symm n_A3_A6
  have n_A6_O0 := q_df hA6 hO0
  have n_A7_A1 := Ne.symm n_A1_A7
  have n_A7_A2 := Ne.symm n_A2_A7
  have n_A7_A3 := Ne.symm n_A3_A7
  have n_A7_A6 := Ne.symm n_A6_A7
  have n_A7_O0 := q_df hA7 hO0
  have n_O0_A1 := Ne.symm (q_df hA1 hO0)
  have n_O0_A2 := Ne.symm (q_df hA2 hO0)
  have n_O0_A3 := Ne.symm (q_df hA3 hO0)
  have n_O0_A6 := Ne.symm (q_df hA6 hO0)
  have hF : q_un ws ws [kO0, kA1, kA2, kA3, kA6, kA7] := q_u0
  refine lv_aload_n hx hb d_17_29_0 rfl (lv_at hl 0 rfl) ?_
  refine lv_lload_n hx hb d_17_29_1 rfl (lv_at hl 1 rfl) ?_
  refine lv_iload_n hx hb d_17_29_2 rfl (lv_at hl 2 rfl) ?_
  refine lv_if_eq (tgt := 18) hx hb d_17_29_3 (by decide) (fun c1 => absurd c1 (by decide)) (fun c1 => ?_)
  refine lv_lload_n hx hb d_17_29_6 rfl (lv_at hl 1 rfl) ?_
  refine lv_iload_n hx hb d_17_29_7 rfl (lv_at hl 2 rfl) ?_
  refine q_goi V (q_runS (As := [.long 0, .int 1]) (rest := [.long 0, .ref qO0]) (d := 1) (mc := 0) (ms := 0) C0 V rfl LS_FR_122 (c_FR_isWrong_2 l D g ws _) rfl hl.1 rfl (Nat.le_of_ble_eq_true rfl) ⟨by decide, by decide⟩ ⟨Nat.le_of_ble_eq_true rfl, Nat.le_of_ble_eq_true rfl⟩ d_17_29_8) (fun v4 u3 H locs hp2 V => ?_)
  obtain ⟨rfl, rfl⟩ := hp2
  refine lv_if_ne (tgt := 18) hx hb d_17_29_11 (by decide) (fun c6 => absurd (by decide) c6) (fun c6 => ?_)
  refine lv_iconst (v := 1) hx hb d_17_29_14 (by decide) ?_
  refine lv_goto (tgt := 19) hx hb d_17_29_15 (by decide) ?_
  refine q_gov V (q_runV (As := [.long 0, .int 1]) (rest := []) (d := 1) (mc := 0) (ms := 0) (ci := 15) C0 V rfl LV_FR_126 (c_FR_open_2 l D g ws kO0 qO0 qA1 qA2 qA3 qA4 qA5 qA6 qA7 hO0 _) rfl rfl hO0 rfl hl.1 rfl (Nat.le_of_ble_eq_true rfl) ⟨by decide, by decide⟩ ⟨Nat.le_of_ble_eq_true rfl, Nat.le_of_ble_eq_true rfl⟩ d_17_29_19) (fun u8 H locs hp7 V => ?_)
  obtain ⟨hg9, hO0⟩ := hp7
  replace hF := q_uc hF hg9 (q_sc (.head _) (fun _ h => absurd h List.not_mem_nil))
  refine lv_aload_n hx hb d_17_29_22 rfl (lv_at hl 0 rfl) ?_
  refine lv_lload_n hx hb d_17_29_23 rfl (lv_at hl 1 rfl) ?_
  refine lv_iload_n hx hb d_17_29_24 rfl (lv_at hl 2 rfl) ?_
  refine q_goi V (q_runS (As := [.long 0, .int 1]) (rest := [.ref qO0]) (d := 1) (mc := 0) (ms := 0) C0 V rfl LS_FR_122 (c_FR_isWrong_2 l D g u8 _) rfl hl.1 rfl (Nat.le_of_ble_eq_true rfl) ⟨by decide, by decide⟩ ⟨Nat.le_of_ble_eq_true rfl, Nat.le_of_ble_eq_true rfl⟩ d_17_29_25) (fun v12 u11 H locs hp10 V => ?_)
  obtain ⟨rfl, rfl⟩ := hp10
  refine lv_if_ne (tgt := 55) hx hb d_17_29_28 (by decide) (fun c14 => absurd (by decide) c14) (fun c14 => ?_)
  refine lv_iload hx hb d_17_29_31 (lv_at hl 3 rfl) ?_
  refine lv_if_lt (tgt := 55) hx hb d_17_29_33 (by decide) (fun c15 => absurd c15 (by decide)) (fun c15 => ?_)
  refine lv_iload hx hb d_17_29_36 (lv_at hl 3 rfl) ?_
  refine lv_sipush (v := 1100) hx hb d_17_29_38 (by decide) ?_
  refine lv_icmp_gt (tgt := 55) hx hb d_17_29_41 (by decide) (fun c16 => absurd c16 (by decide)) (fun c16 => ?_)
  refine lv_iload hx hb d_17_29_44 (lv_at hl 4 rfl) ?_
  refine lv_if_lt (tgt := 55) hx hb d_17_29_46 (by decide) (fun c17 => absurd c17 (by decide)) (fun c17 => ?_)
  refine lv_iload hx hb d_17_29_49 (lv_at hl 4 rfl) ?_
  refine lv_iconst (v := 3) hx hb d_17_29_51 (by decide) ?_
  refine lv_icmp_le (tgt := 59) hx hb d_17_29_52 (by decide) (fun c18 => ?_) (fun c18 => absurd (by decide) c18)
  refine lv_aload_n hx hb d_17_29_59 rfl (lv_at hl 0 rfl) ?_
  refine q_goi V (q_runV (As := []) (rest := [.ref qO0]) (d := 1) (mc := 0) (ms := 0) (ci := 15) C0 V rfl LV_FR_130 (c_FR_isFinite_2 l D g u8 kO0 qO0 qA1 qA2 qA3 qA4 qA5 qA6 qA7 hO0 _) rfl rfl hO0 rfl hl.1 rfl (Nat.le_of_ble_eq_true rfl) ⟨by decide, by decide⟩ ⟨Nat.le_of_ble_eq_true rfl, Nat.le_of_ble_eq_true rfl⟩ d_17_29_60) (fun v21 u20 H locs hp19 V => ?_)
  obtain ⟨rfl, rfl⟩ := hp19
  refine lv_if_ne (tgt := 70) hx hb d_17_29_63 (by decide) (fun c23 => ?_) (fun c23 => absurd c23 (by decide))
  refine lv_iconst (v := 0) hx hb d_17_29_70 (by decide) ?_
  refine q_put (ci := 15) (j := 0) (v := .int 0) (ty := .int) C0 V i_FR o_FR n_FR rfl rfl hO0 (by decide) w_2074 rfl rfl rfl rfl (Nat.le_of_ble_eq_true rfl) d_17_29_71 (fun H locs w24 hu25 hO0 V => ?_)
  replace hO0 : w24[kO0]? = (some (qO0, .inr (15, [.int 0, .ref qA1, .ref qA2, .ref qA3, .ref qA4, .ref qA5, .ref qA6, .ref qA7, .int 0, .int 0, .int 0, .long 0, .int 23, .int 255, .long 0, .int (-149), .long 0, .int 0])) : Option (Nat × va_E)) := hO0
  replace hF := q_us hF hu25 (.head _)
  refine lv_aload_n hx hb d_17_29_74 rfl (lv_at hl 0 rfl) ?_
  refine q_get (ci := 15) (j := 0) (v := .int 0) C0 V i_FR rfl rfl hO0 (by decide) w_2074 rfl d_17_29_75 ?_
  refine lv_if_le (tgt := 83) hx hb d_17_29_78 (by decide) (fun c26 => ?_) (fun c26 => absurd (by decide) c26)
  refine lv_aload_n hx hb d_17_29_83 rfl (lv_at hl 0 rfl) ?_
  replace hA1 := (hu25 _ n_A1_O0).trans ((hg9 _ (q_nc n_A1_O0 List.not_mem_nil)).trans (hA1))
  replace hA2 := (hu25 _ n_A2_O0).trans ((hg9 _ (q_nc n_A2_O0 List.not_mem_nil)).trans (hA2))
  replace hA3 := (hu25 _ n_A3_O0).trans ((hg9 _ (q_nc n_A3_O0 List.not_mem_nil)).trans (hA3))
  refine q_gov V (q_runV (As := []) (rest := []) (d := 2) (mc := 0) (ms := 0) (ci := 15) C0 V rfl LV_FR_162 (c_FR_setValue_2 l D g w24 kO0 kA1 kA2 kA3 qO0 qA1 qA2 qA3 qA4 qA5 qA6 qA7 hO0 hA1 hA2 hA3 n_A1_A2 n_A1_A3 n_A3_A2 _) rfl rfl hO0 rfl hl.1 rfl (Nat.le_of_ble_eq_true rfl) ⟨by decide, by decide⟩ ⟨Nat.le_of_ble_eq_true rfl, Nat.le_of_ble_eq_true rfl⟩ d_17_29_84) (fun u28 H locs hp27 V => ?_)
  obtain ⟨y29, hg30, hA1, hA2, hA3⟩ := hp27
  replace hF := q_uc hF hg30 (q_sc (.tail _ (.head _)) (q_sc (.tail _ (.tail _ (.head _))) (q_sc (List.mem_of_getElem? (i := 3) rfl) (fun _ h => absurd h List.not_mem_nil))))
  refine lv_iload hx hb d_17_29_87 (lv_at hl 3 rfl) ?_
  refine lv_sipush (v := 1080) hx hb d_17_29_89 (by decide) ?_
  refine lv_icmp_le (tgt := 99) hx hb d_17_29_92 (by decide) (fun c31 => ?_) (fun c31 => absurd (by decide) c31)
  refine lv_sipush (v := 1080) hx hb d_17_29_99 (by decide) ?_
  refine lv_iload hx hb d_17_29_102 (lv_at hl 3 rfl) ?_
  refine lv_isub hx hb d_17_29_104 ?_
  refine q_ti (v := 6) (by decide) ?_
  refine lv_istore (lv' := [(6, .int 6), (0, .ref qO0), (1, .long 0), (3, .int 1), (4, .int 1074), (5, .int 0)]) hx hb d_17_29_105 hl (by decide) rfl (fun ls hl => ?_)
  refine lv_aload_n hx hb d_17_29_107 rfl (lv_at hl 1 rfl) ?_
  refine lv_iload hx hb d_17_29_108 (lv_at hl 0 rfl) ?_
  refine lv_aload_n hx hb d_17_29_110 rfl (lv_at hl 1 rfl) ?_
  refine lv_iload hx hb d_17_29_111 (lv_at hl 0 rfl) ?_
  refine lv_iload hx hb d_17_29_113 (lv_at hl 5 rfl) ?_
  replace hO0 := (hg30 _ (q_nc n_O0_A1 (q_nc n_O0_A2 (q_nc n_O0_A3 List.not_mem_nil)))).trans (hO0)
  refine q_goi V (q_runV (As := [.int 6, .int 0]) (rest := [.int 6, .ref qO0]) (d := 1) (mc := 0) (ms := 0) (ci := 15) C0 V rfl LV_FR_165 (c_FR_isMore_3 l D g u28 kO0 kA3 qO0 qA1 qA2 qA3 qA4 qA5 qA6 qA7 hO0 hA3 _) rfl rfl hO0 rfl hl.1 rfl (Nat.le_of_ble_eq_true rfl) ⟨by decide, by decide⟩ ⟨Nat.le_of_ble_eq_true rfl, Nat.le_of_ble_eq_true rfl⟩ d_17_29_115) (fun v34 u33 H locs hp32 V => ?_)
  obtain ⟨rfl, rfl⟩ := hp32
  replace hA6 := (hg30 _ (q_nc n_A6_A1 (q_nc n_A6_A2 (q_nc n_A6_A3 List.not_mem_nil)))).trans ((hu25 _ n_A6_O0).trans ((hg9 _ (q_nc n_A6_O0 List.not_mem_nil)).trans (hA6)))
  refine q_gov V (q_runV (As := [.int 6, .int 0]) (rest := []) (d := 1) (mc := 0) (ms := 0) (ci := 15) C0 V rfl LV_FR_81 (c_FR_cut_3 l D g u28 kO0 kA3 kA6 qO0 qA1 qA2 qA3 qA4 qA5 qA6 qA7 hO0 hA3 hA6 n_A3_A6 _) rfl rfl hO0 rfl hl.1 rfl (Nat.le_of_ble_eq_true rfl) ⟨by decide, by decide⟩ ⟨Nat.le_of_ble_eq_true rfl, Nat.le_of_ble_eq_true rfl⟩ d_17_29_118) (fun u37 H locs hp36 V => ?_)
  obtain ⟨hg38, hA6⟩ := hp36
  replace hF := q_uc hF hg38 (q_sc (List.mem_of_getElem? (i := 4) rfl) (fun _ h => absurd h List.not_mem_nil))
  refine lv_aload_n hx hb d_17_29_121 rfl (lv_at hl 1 rfl) ?_
  replace hO0 := (hg38 _ (q_nc n_O0_A6 List.not_mem_nil)).trans (hO0)
  refine q_gov V (q_runV (As := []) (rest := []) (d := 1) (mc := 0) (ms := 0) (ci := 15) C0 V rfl LV_FR_113 (c_FR_begin_2 l D g u37 kO0 qO0 qA1 qA2 qA3 qA4 qA5 qA6 qA7 hO0 _) rfl rfl hO0 rfl hl.1 rfl (Nat.le_of_ble_eq_true rfl) ⟨by decide, by decide⟩ ⟨Nat.le_of_ble_eq_true rfl, Nat.le_of_ble_eq_true rfl⟩ d_17_29_122) (fun u40 H locs hp39 V => ?_)
  obtain ⟨hg41, hO0⟩ := hp39
  replace hF := q_uc hF hg41 (q_sc (.head _) (fun _ h => absurd h List.not_mem_nil))
  refine lv_sipush (v := 1403) hx hb d_17_29_125 (by decide) ?_
  refine lv_istore (lv' := [(7, .int 1403), (6, .int 6), (0, .ref qO0), (1, .long 0), (3, .int 1), (4, .int 1074), (5, .int 0)]) hx hb d_17_29_128 hl (by decide) rfl (fun ls hl => ?_)
  replace hA1 := (hg41 _ (q_nc n_A1_O0 List.not_mem_nil)).trans ((hg38 _ (q_nc n_A1_A6 List.not_mem_nil)).trans (hA1))
  replace hA2 := (hg41 _ (q_nc n_A2_O0 List.not_mem_nil)).trans ((hg38 _ (q_nc n_A2_A6 List.not_mem_nil)).trans (hA2))
  replace hA3 := (hg41 _ (q_nc n_A3_O0 List.not_mem_nil)).trans ((hg38 _ (q_nc n_A3_A6 List.not_mem_nil)).trans (hA3))
  replace hA6 := (hg41 _ (q_nc n_A6_O0 List.not_mem_nil)).trans (hA6)
  replace hA7 := (hg41 _ (q_nc n_A7_O0 List.not_mem_nil)).trans ((hg38 _ (q_nc n_A7_A6 List.not_mem_nil)).trans ((hg30 _ (q_nc n_A7_A1 (q_nc n_A7_A2 (q_nc n_A7_A3 List.not_mem_nil)))).trans ((hu25 _ n_A7_O0).trans ((hg9 _ (q_nc n_A7_O0 List.not_mem_nil)).trans (hA7)))))
  refine q_loop (X := Int32) (fun z H locs ls w43 => (1080 ≤ z.toInt ∧ z.toInt ≤ 1403) ∧ q_Wd D g (va_A ws sz) s w43 H locs ∧ lv_has ls 9 [(7, .int z), (6, .int 6), (0, .ref qO0), (1, .long 0), (3, .int 1), (4, .int 1074), (5, .int 0)] ∧ q_un ws w43 [kO0, kA1, kA2, kA3, kA6, kA7] ∧ w43[kO0]? = (some (qO0, .inr (15, [.int 0, .ref qA1, .ref qA2, .ref qA3, .ref qA4, .ref qA5, .ref qA6, .ref qA7, .int 0, .int 0, .int 0, .long 0, .int 23, .int 255, .long 0, .int (-149), .long 0, .int 0])) : Option (Nat × va_E)) ∧ w43[kA1]? = (some (qA1, .inl (g 0, 156, .inl y29)) : Option (Nat × va_E)) ∧ w43[kA2]? = (some (qA2, .inl (g 0, 156, .inl (fun _ => 0))) : Option (Nat × va_E)) ∧ w43[kA3]? = (some (qA3, .inl (g 0, 1404, .inl (fun _ => 0))) : Option (Nat × va_E)) ∧ w43[kA6]? = (some (qA6, .inl (g 0, 1404, .inl (fun _ => 0))) : Option (Nat × va_E)) ∧ w43[kA7]? = (some (qA7, .inl (g 0, 1600, .inl (fun _ => 0))) : Option (Nat × va_E))) (fun z => (z.toInt - 1080).toNat) ?_ ((1403 : Int32)) _ _ _ u40 ⟨⟨by decide, by decide⟩, V, hl, hF, hO0, hA1, hA2, hA3, hA6, hA7⟩
  rintro lx42 H locs ls w43 ⟨i44, V, hl, hF, hO0, hA1, hA2, hA3, hA6, hA7⟩ ih45
  replace i44 : 1080 ≤ lx42.toInt ∧ lx42.toInt ≤ 1403 := i44
  replace hl : lv_has ls 9 [(7, .int lx42), (6, .int 6), (0, .ref qO0), (1, .long 0), (3, .int 1), (4, .int 1074), (5, .int 0)] := hl
  replace hO0 : w43[kO0]? = (some (qO0, .inr (15, [.int 0, .ref qA1, .ref qA2, .ref qA3, .ref qA4, .ref qA5, .ref qA6, .ref qA7, .int 0, .int 0, .int 0, .long 0, .int 23, .int 255, .long 0, .int (-149), .long 0, .int 0])) : Option (Nat × va_E)) := hO0
  replace hA1 : w43[kA1]? = (some (qA1, .inl (g 0, 156, .inl y29)) : Option (Nat × va_E)) := hA1
  replace hA2 : w43[kA2]? = (some (qA2, .inl (g 0, 156, .inl (fun _ => 0))) : Option (Nat × va_E)) := hA2
  replace hA3 : w43[kA3]? = (some (qA3, .inl (g 0, 1404, .inl (fun _ => 0))) : Option (Nat × va_E)) := hA3
  replace hA6 : w43[kA6]? = (some (qA6, .inl (g 0, 1404, .inl (fun _ => 0))) : Option (Nat × va_E)) := hA6
  replace hA7 : w43[kA7]? = (some (qA7, .inl (g 0, 1600, .inl (fun _ => 0))) : Option (Nat × va_E)) := hA7
  refine lv_iload hx hb d_17_29_130 (lv_at hl 0 rfl) ?_
  refine lv_sipush (v := 1080) hx hb d_17_29_132 (by decide) ?_
  refine lv_icmp_le (tgt := 154) hx hb d_17_29_135 (by decide) (fun c46 => ?_) (fun c46 => ?_)
  ·
    refine lv_iload hx hb d_17_29_154 (lv_at hl 0 rfl) ?_
    refine q_ti (v := 1080) (q_Ieq (x := lx42.toInt) (y := 1080) rfl (by decide) (by have t1 : lx42.toInt ≤ 1080 := q_leI c46; omega)) ?_
    refine lv_sipush (v := 1080) hx hb d_17_29_156 (by decide) ?_
    refine lv_isub hx hb d_17_29_159 ?_
    refine q_ti (v := 0) (by decide) ?_
    refine lv_istore (lv' := [(8, .int 0), (7, .int lx42), (6, .int 6), (0, .ref qO0), (1, .long 0), (3, .int 1), (4, .int 1074), (5, .int 0)]) hx hb d_17_29_160 hl (by decide) rfl (fun ls hl => ?_)
    refine lv_iload hx hb d_17_29_162 (lv_at hl 0 rfl) ?_
    refine lv_if_lt (tgt := 186) hx hb d_17_29_164 (by decide) (fun c47 => absurd c47 (by decide)) (fun c47 => ?_)
    refine lv_aload_n hx hb d_17_29_167 rfl (lv_at hl 3 rfl) ?_
    refine lv_bipush (v := 48) hx hb d_17_29_168 (by decide) ?_
    refine lv_aload_n hx hb d_17_29_170 rfl (lv_at hl 3 rfl) ?_
    refine lv_iload hx hb d_17_29_171 (lv_at hl 0 rfl) ?_
    refine q_goi V (q_runV (As := [.int 0]) (rest := [.int 48, .ref qO0]) (d := 1) (mc := 0) (ms := 0) (ci := 15) C0 V rfl LV_FR_169 (c_FR_figureAt_3 l D g w43 kO0 kA6 qO0 qA1 qA2 qA3 qA4 qA5 qA6 qA7 hO0 hA6 _) rfl rfl hO0 rfl hl.1 rfl (Nat.le_of_ble_eq_true rfl) ⟨by decide, by decide⟩ ⟨Nat.le_of_ble_eq_true rfl, Nat.le_of_ble_eq_true rfl⟩ d_17_29_173) (fun v50 u49 H locs hp48 V => ?_)
    obtain ⟨rfl, rfl⟩ := hp48
    refine lv_iadd hx hb d_17_29_176 ?_
    refine q_ti (v := 48) (by decide) ?_
    refine q_gov V (q_runV (As := [.int 48]) (rest := []) (d := 1) (mc := 0) (ms := 0) (ci := 15) C0 V rfl LV_FR_110 (c_FR_add_4 l D g w43 kO0 kA7 qO0 qA1 qA2 qA3 qA4 qA5 qA6 qA7 hO0 hA7 _) rfl rfl hO0 rfl hl.1 rfl (Nat.le_of_ble_eq_true rfl) ⟨by decide, by decide⟩ ⟨Nat.le_of_ble_eq_true rfl, Nat.le_of_ble_eq_true rfl⟩ d_17_29_177) (fun u53 H locs hp52 V => ?_)
    obtain ⟨hg54, hO0, hA7⟩ := hp52
    replace hF := q_uc hF hg54 (q_sc (.head _) (q_sc (List.mem_of_getElem? (i := 5) rfl) (fun _ h => absurd h List.not_mem_nil)))
    refine lv_iinc (v := (-1)) (lv' := [(8, .int (-1)), (7, .int lx42), (6, .int 6), (0, .ref qO0), (1, .long 0), (3, .int 1), (4, .int 1074), (5, .int 0)]) hx hb d_17_29_180 hl (k := 0) rfl (by decide) (by decide) rfl (fun ls hl => ?_)
    refine lv_goto (tgt := 162) hx hb d_17_29_183 (by decide) ?_
    refine lv_iload hx hb d_17_29_162 (lv_at hl 0 rfl) ?_
    refine lv_if_lt (tgt := 186) hx hb d_17_29_164 (by decide) (fun c55 => ?_) (fun c55 => absurd (by decide) c55)
    refine lv_iload hx hb d_17_29_186 (lv_at hl 6 rfl) ?_
    refine lv_if_le (tgt := 197) hx hb d_17_29_188 (by decide) (fun c56 => absurd c56 (by decide)) (fun c56 => ?_)
    refine lv_aload_n hx hb d_17_29_191 rfl (lv_at hl 3 rfl) ?_
    refine lv_bipush (v := 46) hx hb d_17_29_192 (by decide) ?_
    refine q_gov V (q_runV (As := [.int 46]) (rest := []) (d := 1) (mc := 0) (ms := 0) (ci := 15) C0 V rfl LV_FR_110 (c_FR_add_5 l D g u53 kO0 kA7 qO0 qA1 qA2 qA3 qA4 qA5 qA6 qA7 hO0 hA7 _) rfl rfl hO0 rfl hl.1 rfl (Nat.le_of_ble_eq_true rfl) ⟨by decide, by decide⟩ ⟨Nat.le_of_ble_eq_true rfl, Nat.le_of_ble_eq_true rfl⟩ d_17_29_194) (fun u58 H locs hp57 V => ?_)
    obtain ⟨hg59, hO0, hA7⟩ := hp57
    replace hF := q_uc hF hg59 (q_sc (.head _) (q_sc (List.mem_of_getElem? (i := 5) rfl) (fun _ h => absurd h List.not_mem_nil)))
    refine lv_iconst (v := (-1)) hx hb d_17_29_197 (by decide) ?_
    refine lv_istore (lv' := [(8, .int (-1)), (7, .int lx42), (6, .int 6), (0, .ref qO0), (1, .long 0), (3, .int 1), (4, .int 1074), (5, .int 0)]) hx hb d_17_29_198 hl (by decide) rfl (fun ls hl => ?_)
    replace hA1 := (hg59 _ (q_nc n_A1_O0 (q_nc n_A1_A7 List.not_mem_nil))).trans ((hg54 _ (q_nc n_A1_O0 (q_nc n_A1_A7 List.not_mem_nil))).trans (hA1))
    replace hA2 := (hg59 _ (q_nc n_A2_O0 (q_nc n_A2_A7 List.not_mem_nil))).trans ((hg54 _ (q_nc n_A2_O0 (q_nc n_A2_A7 List.not_mem_nil))).trans (hA2))
    replace hA3 := (hg59 _ (q_nc n_A3_O0 (q_nc n_A3_A7 List.not_mem_nil))).trans ((hg54 _ (q_nc n_A3_O0 (q_nc n_A3_A7 List.not_mem_nil))).trans (hA3))
    replace hA6 := (hg59 _ (q_nc n_A6_O0 (q_nc n_A6_A7 List.not_mem_nil))).trans ((hg54 _ (q_nc n_A6_O0 (q_nc n_A6_A7 List.not_mem_nil))).trans (hA6))
    refine q_loop (X := Int32 × Int32) (fun z H locs ls w62 => ((-1075) ≤ z.1.toInt ∧ z.1.toInt ≤ -1) ∧ (z.2.toInt = 2 + 1 * ((-1) - z.1.toInt)) ∧ q_Wd D g (va_A ws sz) s w62 H locs ∧ lv_has ls 9 [(8, .int z.1), (7, .int lx42), (6, .int 6), (0, .ref qO0), (1, .long 0), (3, .int 1), (4, .int 1074), (5, .int 0)] ∧ q_un ws w62 [kO0, kA1, kA2, kA3, kA6, kA7] ∧ w62[kO0]? = (some (qO0, .inr (15, [.int 0, .ref qA1, .ref qA2, .ref qA3, .ref qA4, .ref qA5, .ref qA6, .ref qA7, .int z.2, .int 0, .int 0, .long 0, .int 23, .int 255, .long 0, .int (-149), .long 0, .int 0])) : Option (Nat × va_E)) ∧ w62[kA1]? = (some (qA1, .inl (g 0, 156, .inl y29)) : Option (Nat × va_E)) ∧ w62[kA2]? = (some (qA2, .inl (g 0, 156, .inl (fun _ => 0))) : Option (Nat × va_E)) ∧ w62[kA3]? = (some (qA3, .inl (g 0, 1404, .inl (fun _ => 0))) : Option (Nat × va_E)) ∧ w62[kA6]? = (some (qA6, .inl (g 0, 1404, .inl (fun _ => 0))) : Option (Nat × va_E)) ∧ w62[kA7]? = (some (qA7, .inl (g 0, 1600, .inl (q_fil (upd (upd (fun _ => 0) 0 48) 1 46) 2 48 z.2))) : Option (Nat × va_E))) (fun z => (z.1.toInt - (-1075)).toNat) ?_ (((-1) : Int32), (2 : Int32)) _ _ _ u58 ⟨⟨(by dsimp only; decide), (by dsimp only; decide)⟩, (show (2 : Int32).toInt = 2 + 1 * ((-1) - ((-1) : Int32).toInt) from by have t1 : lx42.toInt ≤ 1080 := q_leI c46; have e1 : (2 : Int32).toInt = 2 := (by decide); have e2 : (((-1) : Int32)).toInt = (-1) := (by decide); omega), V, hl, hF, hO0, hA1, hA2, hA3, hA6, q_re hA7 (q_eI q_fl0)⟩
    rintro ⟨lx60, lx61⟩ H locs ls w62 ⟨i63, i64, V, hl, hF, hO0, hA1, hA2, hA3, hA6, hA7⟩ ih65
    replace i63 : (-1075) ≤ lx60.toInt ∧ lx60.toInt ≤ -1 := i63
    replace i64 : lx61.toInt = 2 + 1 * ((-1) - lx60.toInt) := i64
    replace hl : lv_has ls 9 [(8, .int lx60), (7, .int lx42), (6, .int 6), (0, .ref qO0), (1, .long 0), (3, .int 1), (4, .int 1074), (5, .int 0)] := hl
    replace hO0 : w62[kO0]? = (some (qO0, .inr (15, [.int 0, .ref qA1, .ref qA2, .ref qA3, .ref qA4, .ref qA5, .ref qA6, .ref qA7, .int lx61, .int 0, .int 0, .long 0, .int 23, .int 255, .long 0, .int (-149), .long 0, .int 0])) : Option (Nat × va_E)) := hO0
    replace hA1 : w62[kA1]? = (some (qA1, .inl (g 0, 156, .inl y29)) : Option (Nat × va_E)) := hA1
    replace hA2 : w62[kA2]? = (some (qA2, .inl (g 0, 156, .inl (fun _ => 0))) : Option (Nat × va_E)) := hA2
    replace hA3 : w62[kA3]? = (some (qA3, .inl (g 0, 1404, .inl (fun _ => 0))) : Option (Nat × va_E)) := hA3
    replace hA6 : w62[kA6]? = (some (qA6, .inl (g 0, 1404, .inl (fun _ => 0))) : Option (Nat × va_E)) := hA6
    replace hA7 : w62[kA7]? = (some (qA7, .inl (g 0, 1600, .inl (q_fil (upd (upd (fun _ => 0) 0 48) 1 46) 2 48 lx61))) : Option (Nat × va_E)) := hA7
    refine lv_iload hx hb d_17_29_200 (lv_at hl 0 rfl) ?_
    refine lv_iload hx hb d_17_29_202 (lv_at hl 6 rfl) ?_
    refine lv_ineg hx hb d_17_29_204 ?_
    refine q_ti (v := (-1074)) (by decide) ?_
    refine lv_icmp_lt (tgt := 227) hx hb d_17_29_205 (by decide) (fun c66 => ?_) (fun c66 => ?_)
    ·
      have hzz : lx61 = 1076 := q_Ieq (x := lx61.toInt) (y := 1076) rfl (by decide) (by have t1 : lx42.toInt ≤ 1080 := q_leI c46; have t2 : lx60.toInt < (-1074) := q_ltI c66; omega)
      subst hzz
      refine lv_aload_n hx hb d_17_29_227 rfl (lv_at hl 3 rfl) ?_
      refine q_get (ci := 15) (j := 8) (v := .int 1076) C0 V i_FR rfl rfl hO0 (by decide) w_2084 rfl d_17_29_228 ?_
      exact q_reti C0 V (⟨y29, rfl, hF, hO0, hA1, hA2, hA3, hA6, hA7⟩) d_17_29_231
    ·
      refine lv_aload_n hx hb d_17_29_208 rfl (lv_at hl 3 rfl) ?_
      refine lv_bipush (v := 48) hx hb d_17_29_209 (by decide) ?_
      refine lv_aload_n hx hb d_17_29_211 rfl (lv_at hl 3 rfl) ?_
      refine lv_iload hx hb d_17_29_212 (lv_at hl 0 rfl) ?_
      refine q_goi V (q_runV (As := [.int lx60]) (rest := [.int 48, .ref qO0]) (d := 1) (mc := 0) (ms := 0) (ci := 15) C0 V rfl LV_FR_169 (c_FR_figureAt_4 l D g w62 kO0 kA6 qO0 qA1 qA2 qA3 qA4 qA5 qA6 qA7 lx60 lx61 hO0 hA6 (q_Ile (x := (-1074)) (y := lx60.toInt) (by decide) rfl (by have t1 : (-1074) ≤ lx60.toInt := q_nltI c66; omega)) (q_Ile (x := lx60.toInt) (y := (-1)) rfl (by decide) (by have t1 : (-1074) ≤ lx60.toInt := q_nltI c66; omega)) (q_Ile (x := 2) (y := lx61.toInt) (by decide) rfl (by have t1 : (-1074) ≤ lx60.toInt := q_nltI c66; omega)) (q_Ile (x := lx61.toInt) (y := 1076) rfl (by decide) (by have t1 : (-1074) ≤ lx60.toInt := q_nltI c66; omega)) _) rfl rfl hO0 rfl hl.1 rfl (Nat.le_of_ble_eq_true rfl) ⟨by decide, by decide⟩ ⟨Nat.le_of_ble_eq_true rfl, Nat.le_of_ble_eq_true rfl⟩ d_17_29_214) (fun v69 u68 H locs hp67 V => ?_)
      obtain ⟨rfl, rfl⟩ := hp67
      refine lv_iadd hx hb d_17_29_217 ?_
      refine q_ti (v := 48) (by decide) ?_
      refine q_gov V (q_runV (As := [.int 48]) (rest := []) (d := 1) (mc := 0) (ms := 0) (ci := 15) C0 V rfl LV_FR_110 (c_FR_add_6 l D g w62 kO0 kA7 qO0 qA1 qA2 qA3 qA4 qA5 qA6 qA7 lx61 (q_fil (upd (upd (fun _ => 0) 0 48) 1 46) 2 48 lx61) hO0 hA7 (q_Ile (x := 2) (y := lx61.toInt) (by decide) rfl (by have t1 : (-1074) ≤ lx60.toInt := q_nltI c66; omega)) (q_Ile (x := lx61.toInt) (y := 1076) rfl (by decide) (by have t1 : (-1074) ≤ lx60.toInt := q_nltI c66; omega)) _) rfl rfl hO0 rfl hl.1 rfl (Nat.le_of_ble_eq_true rfl) ⟨by decide, by decide⟩ ⟨Nat.le_of_ble_eq_true rfl, Nat.le_of_ble_eq_true rfl⟩ d_17_29_218) (fun u72 H locs hp71 V => ?_)
      obtain ⟨hg73, hO0, hA7⟩ := hp71
      replace hF := q_uc hF hg73 (q_sc (.head _) (q_sc (List.mem_of_getElem? (i := 5) rfl) (fun _ h => absurd h List.not_mem_nil)))
      refine lv_iinc (v := lx60 + (-1)) (lv' := [(8, .int (lx60 + (-1))), (7, .int lx42), (6, .int 6), (0, .ref qO0), (1, .long 0), (3, .int 1), (4, .int 1074), (5, .int 0)]) hx hb d_17_29_221 hl (k := 0) rfl (rfl) (by decide) rfl (fun ls hl => ?_)
      refine lv_goto (tgt := 200) hx hb d_17_29_224 (by decide) ?_
      replace hA7 : u72[kA7]? = (some (qA7, .inl (g 0, 1600, .inl (q_fil (upd (upd (fun _ => 0) 0 48) 1 46) 2 48 (lx61 + 1)))) : Option (Nat × va_E)) := q_re hA7 (q_eI (q_fls (x := lx61) (y := lx61 + 1) (by have t1 : (-1074) ≤ lx60.toInt := q_nltI c66; omega) (show (lx61 + 1).toInt = lx61.toInt + 1 from (q_addI (x := lx61.toInt) (y := 1) rfl (by decide) (by have t1 : (-1074) ≤ lx60.toInt := q_nltI c66; omega) (by have t1 : (-1074) ≤ lx60.toInt := q_nltI c66; omega)))))
      replace hA1 := (hg73 _ (q_nc n_A1_O0 (q_nc n_A1_A7 List.not_mem_nil))).trans (hA1)
      replace hA2 := (hg73 _ (q_nc n_A2_O0 (q_nc n_A2_A7 List.not_mem_nil))).trans (hA2)
      replace hA3 := (hg73 _ (q_nc n_A3_O0 (q_nc n_A3_A7 List.not_mem_nil))).trans (hA3)
      replace hA6 := (hg73 _ (q_nc n_A6_O0 (q_nc n_A6_A7 List.not_mem_nil))).trans (hA6)
      exact ih65 ((lx60 + (-1) : Int32), (lx61 + 1 : Int32)) _ _ _ _ (show ((lx60 + (-1)).toInt - (-1075)).toNat < (lx60.toInt - (-1075)).toNat from by have t1 : (-1074) ≤ lx60.toInt := q_nltI c66; have e : (lx60 + (-1)).toInt = (lx60.toInt + (-1)) := (q_addI (x := lx60.toInt) (y := (-1)) rfl (by decide) (by have t1 : (-1074) ≤ lx60.toInt := q_nltI c66; omega) (by have t1 : (-1074) ≤ lx60.toInt := q_nltI c66; omega)); omega) ⟨(show (-1075) ≤ (lx60 + (-1)).toInt ∧ (lx60 + (-1)).toInt ≤ -1 from by have t1 : (-1074) ≤ lx60.toInt := q_nltI c66; have e : (lx60 + (-1)).toInt = (lx60.toInt + (-1)) := (q_addI (x := lx60.toInt) (y := (-1)) rfl (by decide) (by have t1 : (-1074) ≤ lx60.toInt := q_nltI c66; omega) (by have t1 : (-1074) ≤ lx60.toInt := q_nltI c66; omega)); omega), (show (lx61 + 1 : Int32).toInt = 2 + 1 * ((-1) - (lx60 + (-1) : Int32).toInt) from by have t1 : lx42.toInt ≤ 1080 := q_leI c46; have t2 : (-1074) ≤ lx60.toInt := q_nltI c66; have e0 : (lx60 + (-1) : Int32).toInt = (lx60.toInt + (-1)) := (q_addI (x := lx60.toInt) (y := (-1)) rfl (by decide) (by have t1 : (-1074) ≤ lx60.toInt := q_nltI c66; omega) (by have t1 : (-1074) ≤ lx60.toInt := q_nltI c66; omega)); have e1 : (lx61 + 1 : Int32).toInt = (lx61.toInt + 1) := (q_addI (x := lx61.toInt) (y := 1) rfl (by decide) (by have t1 : (-1074) ≤ lx60.toInt := q_nltI c66; omega) (by have t1 : (-1074) ≤ lx60.toInt := q_nltI c66; omega)); omega), V, q_lw hl (q_lw1 0 rfl (q_lw1 1 rfl (q_lw1 2 rfl (q_lw1 3 rfl (q_lw1 4 rfl (q_lw1 5 rfl (q_lw1 6 rfl (q_lw1 7 rfl q_lw0)))))))), hF, hO0, hA1, hA2, hA3, hA6, hA7⟩
  ·
    refine lv_aload_n hx hb d_17_29_138 rfl (lv_at hl 2 rfl) ?_
    refine q_get (ci := 15) (j := 6) (v := .ref qA6) C0 V i_FR rfl rfl hO0 (by decide) w_2081 rfl d_17_29_139 ?_
    refine lv_iload hx hb d_17_29_142 (lv_at hl 0 rfl) ?_
    refine q_iald C0 V hA6 (q_ix (x := lx42.toInt) rfl (by have t1 : 1080 < lx42.toInt := q_nleI c46; omega) (by have t1 : 1080 < lx42.toInt := q_nleI c46; omega)) d_17_29_144 ?_
    refine q_ti (v := 0) (by first | rfl | decide | simp [upd, vp_updL, sb_cl0]) ?_
    refine lv_if_ne (tgt := 154) hx hb d_17_29_145 (by decide) (fun c74 => absurd (by decide) c74) (fun c74 => ?_)
    refine lv_iinc (v := lx42 + (-1)) (lv' := [(7, .int (lx42 + (-1))), (6, .int 6), (0, .ref qO0), (1, .long 0), (3, .int 1), (4, .int 1074), (5, .int 0)]) hx hb d_17_29_148 hl (k := 0) rfl (rfl) (by decide) rfl (fun ls hl => ?_)
    refine lv_goto (tgt := 130) hx hb d_17_29_151 (by decide) ?_
    exact ih45 ((lx42 + (-1) : Int32)) _ _ _ _ (show ((lx42 + (-1)).toInt - 1080).toNat < (lx42.toInt - 1080).toNat from by have t1 : 1080 < lx42.toInt := q_nleI c46; have e : (lx42 + (-1)).toInt = (lx42.toInt + (-1)) := (q_addI (x := lx42.toInt) (y := (-1)) rfl (by decide) (by have t1 : 1080 < lx42.toInt := q_nleI c46; omega) (by have t1 : 1080 < lx42.toInt := q_nleI c46; omega)); omega) ⟨(show 1080 ≤ (lx42 + (-1)).toInt ∧ (lx42 + (-1)).toInt ≤ 1403 from by have t1 : 1080 < lx42.toInt := q_nleI c46; have e : (lx42 + (-1)).toInt = (lx42.toInt + (-1)) := (q_addI (x := lx42.toInt) (y := (-1)) rfl (by decide) (by have t1 : 1080 < lx42.toInt := q_nleI c46; omega) (by have t1 : 1080 < lx42.toInt := q_nleI c46; omega)); omega), V, q_lw hl (q_lw1 0 rfl (q_lw1 1 rfl (q_lw1 2 rfl (q_lw1 3 rfl (q_lw1 4 rfl (q_lw1 5 rfl (q_lw1 6 rfl q_lw0))))))), hF, hO0, hA1, hA2, hA3, hA6, hA7⟩
theorem d_14_28_10 : decode prog_14_method_28_code 10 = .ok (.iconst 1, 1) := by decide +kernel
theorem d_14_28_11 : decode prog_14_method_28_code 11 = .ok (.goto 4, 3) := by decide +kernel
