/-! the reference on a fresh object: convert -/
theorem d_14_10_0 : decode prog_14_method_10_code 0 = .ok (.iload_n 0, 1) := by decide +kernel
theorem d_14_10_1 : decode prog_14_method_10_code 1 = .ok (.iconst 1, 1) := by decide +kernel
theorem d_14_10_2 : decode prog_14_method_10_code 2 = .ok (.if_icmp .le 7, 3) := by decide +kernel
theorem d_14_10_9 : decode prog_14_method_10_code 9 = .ok (.iconst 0, 1) := by decide +kernel
theorem d_14_10_10 : decode prog_14_method_10_code 10 = .ok (.ireturn, 1) := by decide +kernel
theorem d_14_10_5 : decode prog_14_method_10_code 5 = .ok (.iconst 1, 1) := by decide +kernel
theorem d_14_10_6 : decode prog_14_method_10_code 6 = .ok (.goto 4, 3) := by decide +kernel
def y_NM_isFloat : MethodName := ⟨"NumberHouseModel", "isFloat", "(I)Z"⟩
set_option maxRecDepth 100000 in
set_option maxHeartbeats 4000000 in
theorem c_NM_isFloat (l : Launch) (D : va_G) (g : Nat → ClassId) (ws : va_W) (x1 : Int32) (x1lo : 0 ≤ x1) (x1hi : x1 ≤ 3) : q_mI l y_NM_isFloat prog_14_method_10_code 1 (.boolean) 1 0 0 D g [.int x1] ws (fun r u => (x1 ≤ 1 ∧ 0 = r ∧ ws = u) ∨ (¬ x1 ≤ 1 ∧ 1 = r ∧ ws = u)) := by
  intro sz
  refine q_into (by decide) (Nat.le_of_ble_eq_true rfl) ?_
  intro p e s m below meth c ls hsz C0 V hl
  have hx := C0.1
  have hb := C0.2.1
  have hl : lv_has ls 1 [(0, .int x1)] := hl
  refine lv_iload_n hx hb d_14_10_0 rfl (lv_at hl 0 rfl) ?_
  refine lv_iconst (v := 1) hx hb d_14_10_1 (by decide) ?_
  refine lv_icmp_le (tgt := 9) hx hb d_14_10_2 (by decide) (fun c1 => ?_) (fun c1 => ?_)
  ·
    refine lv_iconst (v := 0) hx hb d_14_10_9 (by decide) ?_
    exact q_retz C0 V (rfl) (Or.inl ⟨c1, rfl, rfl⟩) d_14_10_10
  ·
    refine lv_iconst (v := 1) hx hb d_14_10_5 (by decide) ?_
    refine lv_goto (tgt := 10) hx hb d_14_10_6 (by decide) ?_
    exact q_retz C0 V (rfl) (Or.inr (⟨c1, rfl, rfl⟩)) d_14_10_10
set_option maxRecDepth 100000 in
set_option maxHeartbeats 4000000 in
theorem c_NM_bitsOf_2 (l : Launch) (D : va_G) (g : Nat → ClassId) (ws : va_W) ( qO0 qA1 qA2 qO3 qO4 qO5 qO6 qO7 qA8 qA9 : Nat) (x1 : Int32) (hO0 : ws[116]? = (some (qO0, .inr (12, [.int 0, .ref qA1, .int 0, .ref qA2, .int 0, .ref qO3, .ref qO4, .ref qO5, .ref qO6, .ref qO7, .ref qA8, .ref qA9])) : Option (Nat × va_E))) (hA8 : ws[167]? = (some (qA8, .inl (g 1, 20, .inr (.inl (fun _ => 0)))) : Option (Nat × va_E))) (x1lo : 0 ≤ x1) (x1hi : x1 ≤ 9) : q_mL l y_NM_bitsOf prog_14_method_11_code 3 1 0 0 D g [.ref qO0, .int 1, .int x1] ws (fun r u => 0 = r ∧ ws = u) := by
  intro sz
  refine q_into (by decide) (Nat.le_of_ble_eq_true rfl) ?_
  intro p e s m below meth c ls hsz C0 V hl
  have hx := C0.1
  have hb := C0.2.1
  have hl : lv_has ls 3 [(0, .ref qO0), (1, .int 1), (2, .int x1)] := hl
  refine lv_aload_n hx hb d_14_11_0 rfl (lv_at hl 0 rfl) ?_
  refine q_get (ci := 12) (j := 10) (v := .ref qA8) C0 V i_NM rfl rfl hO0 (by decide) w_2308 rfl d_14_11_1 ?_
  refine lv_iload_n hx hb d_14_11_4 rfl (lv_at hl 1 rfl) ?_
  refine lv_iconst (v := 3) hx hb d_14_11_5 (by decide) ?_
  refine lv_icmp_ne (tgt := 16) hx hb d_14_11_6 (by decide) (fun c1 => ?_) (fun c1 => absurd c1 (by decide))
  refine lv_iload_n hx hb d_14_11_16 rfl (lv_at hl 2 rfl) ?_
  refine q_lald C0 V hA8 (q_ix (x := x1.toInt) rfl (by have t1 : 0 ≤ x1.toInt := q_leI x1lo; have t2 : x1.toInt ≤ 9 := q_leI x1hi; omega) (by have t1 : 0 ≤ x1.toInt := q_leI x1lo; have t2 : x1.toInt ≤ 9 := q_leI x1hi; omega)) d_14_11_17 ?_
  refine q_tl (v := 0) (by first | rfl | decide | simp [upd, vp_updL, sb_cl0]) ?_
  exact q_retl C0 V (⟨rfl, rfl⟩) d_14_11_18
theorem d_17_6_0 : decode prog_17_method_6_code 0 = .ok (.iconst 0, 1) := by decide +kernel
theorem d_17_6_1 : decode prog_17_method_6_code 1 = .ok (.istore_n 2, 1) := by decide +kernel
theorem d_17_6_2 : decode prog_17_method_6_code 2 = .ok (.iload_n 2, 1) := by decide +kernel
theorem d_17_6_3 : decode prog_17_method_6_code 3 = .ok (.sipush 156, 3) := by decide +kernel
theorem d_17_6_6 : decode prog_17_method_6_code 6 = .ok (.if_icmp .ge 26, 3) := by decide +kernel
theorem d_17_6_32 : decode prog_17_method_6_code 32 = .ok (.iload_n 1, 1) := by decide +kernel
theorem d_17_6_33 : decode prog_17_method_6_code 33 = .ok (.istore_n 2, 1) := by decide +kernel
theorem d_17_6_34 : decode prog_17_method_6_code 34 = .ok (.iload_n 2, 1) := by decide +kernel
theorem d_17_6_35 : decode prog_17_method_6_code 35 = .ok (.ifCond .le 68, 3) := by decide +kernel
theorem d_17_6_103 : decode prog_17_method_6_code 103 = .ok (.iload_n 1, 1) := by decide +kernel
theorem d_17_6_104 : decode prog_17_method_6_code 104 = .ok (.istore_n 2, 1) := by decide +kernel
theorem d_17_6_105 : decode prog_17_method_6_code 105 = .ok (.iload_n 2, 1) := by decide +kernel
theorem d_17_6_106 : decode prog_17_method_6_code 106 = .ok (.ifCond .ge 57, 3) := by decide +kernel
theorem d_17_6_163 : decode prog_17_method_6_code 163 = .ok (.return_, 1) := by decide +kernel
theorem d_17_6_109 : decode prog_17_method_6_code 109 = .ok (.iconst 0, 1) := by decide +kernel
theorem d_17_6_110 : decode prog_17_method_6_code 110 = .ok (.istore_n 3, 1) := by decide +kernel
theorem d_17_6_111 : decode prog_17_method_6_code 111 = .ok (.sipush 155, 3) := by decide +kernel
theorem d_17_6_114 : decode prog_17_method_6_code 114 = .ok (.istore 4, 2) := by decide +kernel
theorem d_17_6_116 : decode prog_17_method_6_code 116 = .ok (.iload 4, 2) := by decide +kernel
theorem d_17_6_118 : decode prog_17_method_6_code 118 = .ok (.ifCond .lt 39, 3) := by decide +kernel
theorem d_17_6_157 : decode prog_17_method_6_code 157 = .ok (.iinc 2 1, 3) := by decide +kernel
theorem d_17_6_160 : decode prog_17_method_6_code 160 = .ok (.goto (-55), 3) := by decide +kernel
theorem d_17_6_121 : decode prog_17_method_6_code 121 = .ok (.aload_n 0, 1) := by decide +kernel
theorem d_17_6_122 : decode prog_17_method_6_code 122 = .ok (.getfield 7, 3) := by decide +kernel
theorem d_17_6_125 : decode prog_17_method_6_code 125 = .ok (.iload 4, 2) := by decide +kernel
theorem d_17_6_127 : decode prog_17_method_6_code 127 = .ok (.iaload, 1) := by decide +kernel
theorem d_17_6_128 : decode prog_17_method_6_code 128 = .ok (.iload_n 3, 1) := by decide +kernel
theorem d_17_6_129 : decode prog_17_method_6_code 129 = .ok (.ldc 58, 2) := by decide +kernel
theorem w_2608 : (Cond.constant "NumberHouseModel$FloatRows" (58 : Nat) (1000000000 : Int32)) ∈ q_tbl := q_of 2608 (by decide +kernel) (by decide +kernel)
theorem d_17_6_131 : decode prog_17_method_6_code 131 = .ok (.imul, 1) := by decide +kernel
theorem d_17_6_132 : decode prog_17_method_6_code 132 = .ok (.iadd, 1) := by decide +kernel
theorem d_17_6_133 : decode prog_17_method_6_code 133 = .ok (.istore 5, 2) := by decide +kernel
theorem d_17_6_135 : decode prog_17_method_6_code 135 = .ok (.iload 5, 2) := by decide +kernel
theorem d_17_6_137 : decode prog_17_method_6_code 137 = .ok (.iconst 1, 1) := by decide +kernel
theorem d_17_6_138 : decode prog_17_method_6_code 138 = .ok (.iand, 1) := by decide +kernel
theorem d_17_6_139 : decode prog_17_method_6_code 139 = .ok (.istore_n 3, 1) := by decide +kernel
theorem d_17_6_140 : decode prog_17_method_6_code 140 = .ok (.aload_n 0, 1) := by decide +kernel
theorem d_17_6_141 : decode prog_17_method_6_code 141 = .ok (.getfield 7, 3) := by decide +kernel
theorem d_17_6_144 : decode prog_17_method_6_code 144 = .ok (.iload 4, 2) := by decide +kernel
theorem d_17_6_146 : decode prog_17_method_6_code 146 = .ok (.iload 5, 2) := by decide +kernel
theorem d_17_6_148 : decode prog_17_method_6_code 148 = .ok (.iconst 2, 1) := by decide +kernel
theorem d_17_6_149 : decode prog_17_method_6_code 149 = .ok (.idiv, 1) := by decide +kernel
theorem d_17_6_150 : decode prog_17_method_6_code 150 = .ok (.iastore, 1) := by decide +kernel
theorem d_17_6_151 : decode prog_17_method_6_code 151 = .ok (.iinc 4 (-1), 3) := by decide +kernel
theorem d_17_6_154 : decode prog_17_method_6_code 154 = .ok (.goto (-38), 3) := by decide +kernel
theorem d_17_6_9 : decode prog_17_method_6_code 9 = .ok (.aload_n 0, 1) := by decide +kernel
theorem d_17_6_10 : decode prog_17_method_6_code 10 = .ok (.getfield 7, 3) := by decide +kernel
theorem d_17_6_13 : decode prog_17_method_6_code 13 = .ok (.iload_n 2, 1) := by decide +kernel
theorem d_17_6_14 : decode prog_17_method_6_code 14 = .ok (.iload_n 2, 1) := by decide +kernel
theorem d_17_6_15 : decode prog_17_method_6_code 15 = .ok (.bipush 120, 2) := by decide +kernel
theorem d_17_6_17 : decode prog_17_method_6_code 17 = .ok (.if_icmp .ne 7, 3) := by decide +kernel
theorem d_17_6_24 : decode prog_17_method_6_code 24 = .ok (.iconst 0, 1) := by decide +kernel
theorem d_17_6_25 : decode prog_17_method_6_code 25 = .ok (.iastore, 1) := by decide +kernel
theorem d_17_6_26 : decode prog_17_method_6_code 26 = .ok (.iinc 2 1, 3) := by decide +kernel
theorem d_17_6_29 : decode prog_17_method_6_code 29 = .ok (.goto (-27), 3) := by decide +kernel
theorem d_17_6_20 : decode prog_17_method_6_code 20 = .ok (.iconst 1, 1) := by decide +kernel
theorem d_17_6_21 : decode prog_17_method_6_code 21 = .ok (.goto 4, 3) := by decide +kernel
def y_FR_setUnit : MethodName := ⟨"NumberHouseModel$FloatRows", "setUnit", "(I)V"⟩
set_option maxRecDepth 100000 in
set_option maxHeartbeats 4000000 in
theorem c_FR_setUnit (l : Launch) (D : va_G) (g : Nat → ClassId) (ws : va_W) (kO0 kA1 qO0 qA1 qA2 qA3 qA4 qA5 qA6 qA7 : Nat) (hO0 : ws[kO0]? = (some (qO0, .inr (15, [.int 0, .ref qA1, .ref qA2, .ref qA3, .ref qA4, .ref qA5, .ref qA6, .ref qA7, .int 0, .int 0, .int 0, .long 0, .int 52, .int 2047, .long 0, .int (-1074), .long 0, .int 0])) : Option (Nat × va_E))) (hA1 : ws[kA1]? = (some (qA1, .inl (g 0, 156, .inl (fun _ => 0))) : Option (Nat × va_E))) : q_mV l y_FR_setUnit prog_17_method_6_code 6 1 0 0 D g [.ref qO0, .int (-1074)] ws (fun u => ∃ (ex0 : Nat → Int32), q_un ws u [kA1] ∧ u[kA1]? = (some (qA1, .inl (g 0, 156, .inl ex0)) : Option (Nat × va_E))) := by
  intro sz
  refine q_into (by decide) (Nat.le_of_ble_eq_true rfl) ?_
  intro p e s m below meth c ls hsz C0 V hl
  have hx := C0.1
  have hb := C0.2.1
  have hl : lv_has ls 6 [(0, .ref qO0), (1, .int (-1074))] := hl
  have n_O0_A1 := Ne.symm (q_df hA1 hO0)
  have hF : q_un ws ws [kA1] := q_u0
  refine lv_iconst (v := 0) hx hb d_17_6_0 (by decide) ?_
  refine lv_istore_n (lv' := [(2, .int 0), (0, .ref qO0), (1, .int (-1074))]) hx hb d_17_6_1 rfl hl (by decide) rfl (fun ls hl => ?_)
  refine q_loop (X := Int32 × (Nat → Int32)) (fun z H locs ls w3 => (0 ≤ z.1.toInt ∧ (z.1.toInt ≤ 156 ∨ z.1.toInt = 0)) ∧ q_Wd D g (va_A ws sz) s w3 H locs ∧ lv_has ls 6 [(2, .int z.1), (0, .ref qO0), (1, .int (-1074))] ∧ q_un ws w3 [kA1] ∧ w3[kO0]? = (some (qO0, .inr (15, [.int 0, .ref qA1, .ref qA2, .ref qA3, .ref qA4, .ref qA5, .ref qA6, .ref qA7, .int 0, .int 0, .int 0, .long 0, .int 52, .int 2047, .long 0, .int (-1074), .long 0, .int 0])) : Option (Nat × va_E)) ∧ w3[kA1]? = (some (qA1, .inl (g 0, 156, .inl z.2)) : Option (Nat × va_E))) (fun z => (156 - z.1.toInt).toNat) ?_ ((0 : Int32), (fun _ => 0 : (Nat → Int32))) _ _ _ ws ⟨⟨(by dsimp only; decide), Or.inr (by dsimp only; decide)⟩, V, hl, hF, hO0, hA1⟩
  rintro ⟨lx1, lx2⟩ H locs ls w3 ⟨i4, V, hl, hF, hO0, hA1⟩ ih5
  replace i4 : 0 ≤ lx1.toInt ∧ (lx1.toInt ≤ 156 ∨ lx1.toInt = 0) := i4
  replace hl : lv_has ls 6 [(2, .int lx1), (0, .ref qO0), (1, .int (-1074))] := hl
  replace hO0 : w3[kO0]? = (some (qO0, .inr (15, [.int 0, .ref qA1, .ref qA2, .ref qA3, .ref qA4, .ref qA5, .ref qA6, .ref qA7, .int 0, .int 0, .int 0, .long 0, .int 52, .int 2047, .long 0, .int (-1074), .long 0, .int 0])) : Option (Nat × va_E)) := hO0
  replace hA1 : w3[kA1]? = (some (qA1, .inl (g 0, 156, .inl lx2)) : Option (Nat × va_E)) := hA1
  refine lv_iload_n hx hb d_17_6_2 rfl (lv_at hl 0 rfl) ?_
  refine lv_sipush (v := 156) hx hb d_17_6_3 (by decide) ?_
  refine lv_icmp_ge (tgt := 32) hx hb d_17_6_6 (by decide) (fun c6 => ?_) (fun c6 => ?_)
  ·
    refine lv_iload_n hx hb d_17_6_32 rfl (lv_at hl 2 rfl) ?_
    refine lv_istore_n (lv' := [(2, .int (-1074)), (0, .ref qO0), (1, .int (-1074))]) hx hb d_17_6_33 rfl hl (by decide) rfl (fun ls hl => ?_)
    refine lv_iload_n hx hb d_17_6_34 rfl (lv_at hl 0 rfl) ?_
    refine lv_if_le (tgt := 103) hx hb d_17_6_35 (by decide) (fun c7 => ?_) (fun c7 => absurd (by decide) c7)
    refine lv_iload_n hx hb d_17_6_103 rfl (lv_at hl 2 rfl) ?_
    refine lv_istore_n (lv' := [(2, .int (-1074)), (0, .ref qO0), (1, .int (-1074))]) hx hb d_17_6_104 rfl hl (by decide) rfl (fun ls hl => ?_)
    refine q_loop (X := Int32 × (Nat → Int32)) (fun z H locs ls w10 => ((-1074) ≤ z.1.toInt ∧ (z.1.toInt ≤ 0 ∨ z.1.toInt = (-1074))) ∧ q_Wd D g (va_A ws sz) s w10 H locs ∧ lv_has ls 6 [(2, .int z.1), (0, .ref qO0), (1, .int (-1074))] ∧ q_un ws w10 [kA1] ∧ w10[kO0]? = (some (qO0, .inr (15, [.int 0, .ref qA1, .ref qA2, .ref qA3, .ref qA4, .ref qA5, .ref qA6, .ref qA7, .int 0, .int 0, .int 0, .long 0, .int 52, .int 2047, .long 0, .int (-1074), .long 0, .int 0])) : Option (Nat × va_E)) ∧ w10[kA1]? = (some (qA1, .inl (g 0, 156, .inl z.2)) : Option (Nat × va_E))) (fun z => (0 - z.1.toInt).toNat) ?_ (((-1074) : Int32), (lx2 : (Nat → Int32))) _ _ _ w3 ⟨⟨(by dsimp only; decide), Or.inr (by dsimp only; decide)⟩, V, hl, hF, hO0, hA1⟩
    rintro ⟨lx8, lx9⟩ H locs ls w10 ⟨i11, V, hl, hF, hO0, hA1⟩ ih12
    replace i11 : (-1074) ≤ lx8.toInt ∧ (lx8.toInt ≤ 0 ∨ lx8.toInt = (-1074)) := i11
    replace hl : lv_has ls 6 [(2, .int lx8), (0, .ref qO0), (1, .int (-1074))] := hl
    replace hO0 : w10[kO0]? = (some (qO0, .inr (15, [.int 0, .ref qA1, .ref qA2, .ref qA3, .ref qA4, .ref qA5, .ref qA6, .ref qA7, .int 0, .int 0, .int 0, .long 0, .int 52, .int 2047, .long 0, .int (-1074), .long 0, .int 0])) : Option (Nat × va_E)) := hO0
    replace hA1 : w10[kA1]? = (some (qA1, .inl (g 0, 156, .inl lx9)) : Option (Nat × va_E)) := hA1
    refine lv_iload_n hx hb d_17_6_105 rfl (lv_at hl 0 rfl) ?_
    refine lv_if_ge (tgt := 163) hx hb d_17_6_106 (by decide) (fun c13 => ?_) (fun c13 => ?_)
    ·
      exact q_retv C0 V (⟨lx9, hF, hA1⟩) d_17_6_163
    ·
      refine lv_iconst (v := 0) hx hb d_17_6_109 (by decide) ?_
      refine lv_istore_n (lv' := [(3, .int 0), (2, .int lx8), (0, .ref qO0), (1, .int (-1074))]) hx hb d_17_6_110 rfl hl (by decide) rfl (fun ls hl => ?_)
      refine lv_sipush (v := 155) hx hb d_17_6_111 (by decide) ?_
      refine lv_istore (lv' := [(4, .int 155), (3, .int 0), (2, .int lx8), (0, .ref qO0), (1, .int (-1074))]) hx hb d_17_6_114 hl (by decide) rfl (fun ls hl => ?_)
      refine q_loop (X := Int32 × Int32 × (Nat → Int32)) (fun z H locs ls w17 => ((-1) ≤ z.1.toInt ∧ z.1.toInt ≤ 155) ∧ q_Wd D g (va_A ws sz) s w17 H locs ∧ lv_has ls 6 [(4, .int z.1), (3, .int z.2.1), (2, .int lx8), (0, .ref qO0), (1, .int (-1074))] ∧ q_un ws w17 [kA1] ∧ w17[kO0]? = (some (qO0, .inr (15, [.int 0, .ref qA1, .ref qA2, .ref qA3, .ref qA4, .ref qA5, .ref qA6, .ref qA7, .int 0, .int 0, .int 0, .long 0, .int 52, .int 2047, .long 0, .int (-1074), .long 0, .int 0])) : Option (Nat × va_E)) ∧ w17[kA1]? = (some (qA1, .inl (g 0, 156, .inl z.2.2)) : Option (Nat × va_E))) (fun z => (z.1.toInt - (-1)).toNat) ?_ ((155 : Int32), (0 : Int32), (lx9 : (Nat → Int32))) _ _ _ w10 ⟨⟨(by dsimp only; decide), (by dsimp only; decide)⟩, V, hl, hF, hO0, hA1⟩
      rintro ⟨lx14, lx15, lx16⟩ H locs ls w17 ⟨i18, V, hl, hF, hO0, hA1⟩ ih19
      replace i18 : (-1) ≤ lx14.toInt ∧ lx14.toInt ≤ 155 := i18
      replace hl : lv_has ls 6 [(4, .int lx14), (3, .int lx15), (2, .int lx8), (0, .ref qO0), (1, .int (-1074))] := hl
      replace hO0 : w17[kO0]? = (some (qO0, .inr (15, [.int 0, .ref qA1, .ref qA2, .ref qA3, .ref qA4, .ref qA5, .ref qA6, .ref qA7, .int 0, .int 0, .int 0, .long 0, .int 52, .int 2047, .long 0, .int (-1074), .long 0, .int 0])) : Option (Nat × va_E)) := hO0
      replace hA1 : w17[kA1]? = (some (qA1, .inl (g 0, 156, .inl lx16)) : Option (Nat × va_E)) := hA1
      refine lv_iload hx hb d_17_6_116 (lv_at hl 0 rfl) ?_
      refine lv_if_lt (tgt := 157) hx hb d_17_6_118 (by decide) (fun c20 => ?_) (fun c20 => ?_)
      ·
        refine lv_iinc (v := lx8 + 1) (lv' := [(2, .int (lx8 + 1)), (4, .int lx14), (3, .int lx15), (0, .ref qO0), (1, .int (-1074))]) hx hb d_17_6_157 hl (k := 2) rfl (rfl) (by decide) rfl (fun ls hl => ?_)
        refine lv_goto (tgt := 105) hx hb d_17_6_160 (by decide) ?_
        exact ih12 ((lx8 + 1 : Int32), (lx16 : Nat → Int32)) _ _ _ _ (show (0 - (lx8 + 1).toInt).toNat < (0 - lx8.toInt).toNat from by have t1 : lx8.toInt < 0 := q_nleI c13; have e : (lx8 + 1).toInt = (lx8.toInt + 1) := (q_addI (x := lx8.toInt) (y := 1) rfl (by decide) (by have t1 : lx8.toInt < 0 := q_nleI c13; omega) (by have t1 : lx8.toInt < 0 := q_nleI c13; omega)); omega) ⟨(show (-1074) ≤ (lx8 + 1).toInt ∧ ((lx8 + 1).toInt ≤ 0 ∨ (lx8 + 1).toInt = (-1074)) from by have t1 : lx8.toInt < 0 := q_nleI c13; have e : (lx8 + 1).toInt = (lx8.toInt + 1) := (q_addI (x := lx8.toInt) (y := 1) rfl (by decide) (by have t1 : lx8.toInt < 0 := q_nleI c13; omega) (by have t1 : lx8.toInt < 0 := q_nleI c13; omega)); omega), V, q_lw hl (q_lw1 0 rfl (q_lw1 3 rfl (q_lw1 4 rfl q_lw0))), hF, hO0, hA1⟩
      ·
        refine lv_aload_n hx hb d_17_6_121 rfl (lv_at hl 3 rfl) ?_
        refine q_get (ci := 15) (j := 1) (v := .ref qA1) C0 V i_FR rfl rfl hO0 (by decide) w_2076 rfl d_17_6_122 ?_
        refine lv_iload hx hb d_17_6_125 (lv_at hl 0 rfl) ?_
        refine q_iald C0 V hA1 (q_ix (x := lx14.toInt) rfl (by have t1 : 0 ≤ lx14.toInt := q_nltI c20; omega) (by have t1 : 0 ≤ lx14.toInt := q_nltI c20; omega)) d_17_6_127 ?_
        refine lv_iload_n hx hb d_17_6_128 rfl (lv_at hl 1 rfl) ?_
        refine q_ldc C0 rfl w_2608 d_17_6_129 ?_
        refine lv_imul hx hb d_17_6_131 ?_
        refine lv_iadd hx hb d_17_6_132 ?_
        refine lv_istore (lv' := [(5, .int ((lx16 lx14.toNatClampNeg) + (lx15 * 1000000000))), (4, .int lx14), (3, .int lx15), (2, .int lx8), (0, .ref qO0), (1, .int (-1074))]) hx hb d_17_6_133 hl (by decide) rfl (fun ls hl => ?_)
        refine lv_iload hx hb d_17_6_135 (lv_at hl 0 rfl) ?_
        refine lv_iconst (v := 1) hx hb d_17_6_137 (by decide) ?_
        refine lv_iand hx hb d_17_6_138 ?_
        refine lv_istore_n (lv' := [(3, .int (((lx16 lx14.toNatClampNeg) + (lx15 * 1000000000)) &&& 1)), (5, .int ((lx16 lx14.toNatClampNeg) + (lx15 * 1000000000))), (4, .int lx14), (2, .int lx8), (0, .ref qO0), (1, .int (-1074))]) hx hb d_17_6_139 rfl hl (by decide) rfl (fun ls hl => ?_)
        refine lv_aload_n hx hb d_17_6_140 rfl (lv_at hl 4 rfl) ?_
        refine q_get (ci := 15) (j := 1) (v := .ref qA1) C0 V i_FR rfl rfl hO0 (by decide) w_2076 rfl d_17_6_141 ?_
        refine lv_iload hx hb d_17_6_144 (lv_at hl 2 rfl) ?_
        refine lv_iload hx hb d_17_6_146 (lv_at hl 1 rfl) ?_
        refine lv_iconst (v := 2) hx hb d_17_6_148 (by decide) ?_
        refine lv_idiv hx hb d_17_6_149 (by decide) ?_
        refine q_iast C0 V hA1 (q_ix (x := lx14.toInt) rfl (by have t1 : 0 ≤ lx14.toInt := q_nltI c20; omega) (by have t1 : 0 ≤ lx14.toInt := q_nltI c20; omega)) d_17_6_150 (fun H locs w21 hu22 hA1 V => ?_)
        replace hA1 : w21[kA1]? = (some (qA1, .inl (g 0, 156, .inl (upd lx16 lx14.toNatClampNeg (((lx16 lx14.toNatClampNeg) + (lx15 * 1000000000)) / 2)))) : Option (Nat × va_E)) := hA1
        replace hF := q_us hF hu22 (.head _)
        refine lv_iinc (v := lx14 + (-1)) (lv' := [(4, .int (lx14 + (-1))), (3, .int (((lx16 lx14.toNatClampNeg) + (lx15 * 1000000000)) &&& 1)), (5, .int ((lx16 lx14.toNatClampNeg) + (lx15 * 1000000000))), (2, .int lx8), (0, .ref qO0), (1, .int (-1074))]) hx hb d_17_6_151 hl (k := 2) rfl (rfl) (by decide) rfl (fun ls hl => ?_)
        refine lv_goto (tgt := 116) hx hb d_17_6_154 (by decide) ?_
        replace hO0 := (hu22 _ n_O0_A1).trans (hO0)
        exact ih19 ((lx14 + (-1) : Int32), (((lx16 lx14.toNatClampNeg) + (lx15 * 1000000000)) &&& 1 : Int32), (upd lx16 lx14.toNatClampNeg (((lx16 lx14.toNatClampNeg) + (lx15 * 1000000000)) / 2) : Nat → Int32)) _ _ _ _ (show ((lx14 + (-1)).toInt - (-1)).toNat < (lx14.toInt - (-1)).toNat from by have t1 : 0 ≤ lx14.toInt := q_nltI c20; have e : (lx14 + (-1)).toInt = (lx14.toInt + (-1)) := (q_addI (x := lx14.toInt) (y := (-1)) rfl (by decide) (by have t1 : 0 ≤ lx14.toInt := q_nltI c20; omega) (by have t1 : 0 ≤ lx14.toInt := q_nltI c20; omega)); omega) ⟨(show (-1) ≤ (lx14 + (-1)).toInt ∧ (lx14 + (-1)).toInt ≤ 155 from by have t1 : 0 ≤ lx14.toInt := q_nltI c20; have e : (lx14 + (-1)).toInt = (lx14.toInt + (-1)) := (q_addI (x := lx14.toInt) (y := (-1)) rfl (by decide) (by have t1 : 0 ≤ lx14.toInt := q_nltI c20; omega) (by have t1 : 0 ≤ lx14.toInt := q_nltI c20; omega)); omega), V, q_lw hl (q_lw1 0 rfl (q_lw1 1 rfl (q_lw1 3 rfl (q_lw1 4 rfl (q_lw1 5 rfl q_lw0))))), hF, hO0, hA1⟩
  ·
    refine lv_aload_n hx hb d_17_6_9 rfl (lv_at hl 1 rfl) ?_
    refine q_get (ci := 15) (j := 1) (v := .ref qA1) C0 V i_FR rfl rfl hO0 (by decide) w_2076 rfl d_17_6_10 ?_
    refine lv_iload_n hx hb d_17_6_13 rfl (lv_at hl 0 rfl) ?_
    refine lv_iload_n hx hb d_17_6_14 rfl (lv_at hl 0 rfl) ?_
    refine lv_bipush (v := 120) hx hb d_17_6_15 (by decide) ?_
    refine lv_icmp_ne (tgt := 24) hx hb d_17_6_17 (by decide) (fun c23 => ?_) (fun c23 => ?_)
    ·
      refine lv_iconst (v := 0) hx hb d_17_6_24 (by decide) ?_
      refine q_iast C0 V hA1 (q_ix (x := lx1.toInt) rfl (by have t1 : lx1.toInt < 156 := q_nleI c6; have t2 : lx1.toInt ≠ 120 := q_neI c23; omega) (by have t1 : lx1.toInt < 156 := q_nleI c6; have t2 : lx1.toInt ≠ 120 := q_neI c23; omega)) d_17_6_25 (fun H locs w24 hu25 hA1 V => ?_)
      replace hA1 : w24[kA1]? = (some (qA1, .inl (g 0, 156, .inl (upd lx2 lx1.toNatClampNeg 0))) : Option (Nat × va_E)) := hA1
      replace hF := q_us hF hu25 (.head _)
      refine lv_iinc (v := lx1 + 1) (lv' := [(2, .int (lx1 + 1)), (0, .ref qO0), (1, .int (-1074))]) hx hb d_17_6_26 hl (k := 0) rfl (rfl) (by decide) rfl (fun ls hl => ?_)
      refine lv_goto (tgt := 2) hx hb d_17_6_29 (by decide) ?_
      replace hO0 := (hu25 _ n_O0_A1).trans (hO0)
      exact ih5 ((lx1 + 1 : Int32), (upd lx2 lx1.toNatClampNeg 0 : Nat → Int32)) _ _ _ _ (show (156 - (lx1 + 1).toInt).toNat < (156 - lx1.toInt).toNat from by have t1 : lx1.toInt < 156 := q_nleI c6; have t2 : lx1.toInt ≠ 120 := q_neI c23; have e : (lx1 + 1).toInt = (lx1.toInt + 1) := (q_addI (x := lx1.toInt) (y := 1) rfl (by decide) (by have t1 : lx1.toInt < 156 := q_nleI c6; have t2 : lx1.toInt ≠ 120 := q_neI c23; omega) (by have t1 : lx1.toInt < 156 := q_nleI c6; have t2 : lx1.toInt ≠ 120 := q_neI c23; omega)); omega) ⟨(show 0 ≤ (lx1 + 1).toInt ∧ ((lx1 + 1).toInt ≤ 156 ∨ (lx1 + 1).toInt = 0) from by have t1 : lx1.toInt < 156 := q_nleI c6; have t2 : lx1.toInt ≠ 120 := q_neI c23; have e : (lx1 + 1).toInt = (lx1.toInt + 1) := (q_addI (x := lx1.toInt) (y := 1) rfl (by decide) (by have t1 : lx1.toInt < 156 := q_nleI c6; have t2 : lx1.toInt ≠ 120 := q_neI c23; omega) (by have t1 : lx1.toInt < 156 := q_nleI c6; have t2 : lx1.toInt ≠ 120 := q_neI c23; omega)); omega), V, q_lw hl (q_lw1 0 rfl (q_lw1 1 rfl (q_lw1 2 rfl q_lw0))), hF, hO0, hA1⟩
    ·
      refine lv_iconst (v := 1) hx hb d_17_6_20 (by decide) ?_
      refine lv_goto (tgt := 25) hx hb d_17_6_21 (by decide) ?_
      refine q_iast C0 V hA1 (q_ix (x := lx1.toInt) rfl (by have t1 : lx1.toInt < 156 := q_nleI c6; have t2 : lx1.toInt = 120 := q_eqI c23; omega) (by have t1 : lx1.toInt < 156 := q_nleI c6; have t2 : lx1.toInt = 120 := q_eqI c23; omega)) d_17_6_25 (fun H locs w26 hu27 hA1 V => ?_)
      replace hA1 : w26[kA1]? = (some (qA1, .inl (g 0, 156, .inl (upd lx2 lx1.toNatClampNeg 1))) : Option (Nat × va_E)) := hA1
      replace hF := q_us hF hu27 (.head _)
      refine lv_iinc (v := lx1 + 1) (lv' := [(2, .int (lx1 + 1)), (0, .ref qO0), (1, .int (-1074))]) hx hb d_17_6_26 hl (k := 0) rfl (rfl) (by decide) rfl (fun ls hl => ?_)
      refine lv_goto (tgt := 2) hx hb d_17_6_29 (by decide) ?_
      replace hO0 := (hu27 _ n_O0_A1).trans (hO0)
      exact ih5 ((lx1 + 1 : Int32), (upd lx2 lx1.toNatClampNeg 1 : Nat → Int32)) _ _ _ _ (show (156 - (lx1 + 1).toInt).toNat < (156 - lx1.toInt).toNat from by have t1 : lx1.toInt < 156 := q_nleI c6; have t2 : lx1.toInt = 120 := q_eqI c23; have e : (lx1 + 1).toInt = (lx1.toInt + 1) := (q_addI (x := lx1.toInt) (y := 1) rfl (by decide) (by have t1 : lx1.toInt < 156 := q_nleI c6; have t2 : lx1.toInt = 120 := q_eqI c23; omega) (by have t1 : lx1.toInt < 156 := q_nleI c6; have t2 : lx1.toInt = 120 := q_eqI c23; omega)); omega) ⟨(show 0 ≤ (lx1 + 1).toInt ∧ ((lx1 + 1).toInt ≤ 156 ∨ (lx1 + 1).toInt = 0) from by have t1 : lx1.toInt < 156 := q_nleI c6; have t2 : lx1.toInt = 120 := q_eqI c23; have e : (lx1 + 1).toInt = (lx1.toInt + 1) := (q_addI (x := lx1.toInt) (y := 1) rfl (by decide) (by have t1 : lx1.toInt < 156 := q_nleI c6; have t2 : lx1.toInt = 120 := q_eqI c23; omega) (by have t1 : lx1.toInt < 156 := q_nleI c6; have t2 : lx1.toInt = 120 := q_eqI c23; omega)); omega), V, q_lw hl (q_lw1 0 rfl (q_lw1 1 rfl (q_lw1 2 rfl q_lw0))), hF, hO0, hA1⟩
theorem d_17_7_0 : decode prog_17_method_7_code 0 = .ok (.iconst 0, 1) := by decide +kernel
theorem d_17_7_1 : decode prog_17_method_7_code 1 = .ok (.istore 4, 2) := by decide +kernel
theorem d_17_7_3 : decode prog_17_method_7_code 3 = .ok (.iload 4, 2) := by decide +kernel
theorem d_17_7_5 : decode prog_17_method_7_code 5 = .ok (.sipush 156, 3) := by decide +kernel
theorem d_17_7_8 : decode prog_17_method_7_code 8 = .ok (.if_icmp .ge 17, 3) := by decide +kernel
theorem d_17_7_25 : decode prog_17_method_7_code 25 = .ok (.lload_n 2, 1) := by decide +kernel
theorem d_17_7_26 : decode prog_17_method_7_code 26 = .ok (.lstore 4, 2) := by decide +kernel
theorem d_17_7_28 : decode prog_17_method_7_code 28 = .ok (.iconst 0, 1) := by decide +kernel
theorem d_17_7_29 : decode prog_17_method_7_code 29 = .ok (.istore 6, 2) := by decide +kernel
theorem d_17_7_31 : decode prog_17_method_7_code 31 = .ok (.lload 4, 2) := by decide +kernel
theorem d_17_7_33 : decode prog_17_method_7_code 33 = .ok (.lconst 0, 1) := by decide +kernel
theorem d_17_7_34 : decode prog_17_method_7_code 34 = .ok (.lcmp, 1) := by decide +kernel
theorem d_17_7_35 : decode prog_17_method_7_code 35 = .ok (.ifCond .le 96, 3) := by decide +kernel
theorem d_17_7_131 : decode prog_17_method_7_code 131 = .ok (.iconst 0, 1) := by decide +kernel
theorem d_17_7_132 : decode prog_17_method_7_code 132 = .ok (.istore 6, 2) := by decide +kernel
theorem d_17_7_134 : decode prog_17_method_7_code 134 = .ok (.iload 6, 2) := by decide +kernel
theorem d_17_7_136 : decode prog_17_method_7_code 136 = .ok (.sipush 156, 3) := by decide +kernel
theorem d_17_7_139 : decode prog_17_method_7_code 139 = .ok (.if_icmp .ge 60, 3) := by decide +kernel
theorem d_17_7_199 : decode prog_17_method_7_code 199 = .ok (.return_, 1) := by decide +kernel
theorem d_17_7_142 : decode prog_17_method_7_code 142 = .ok (.aload_n 0, 1) := by decide +kernel
theorem d_17_7_143 : decode prog_17_method_7_code 143 = .ok (.getfield 13, 3) := by decide +kernel
theorem d_17_7_146 : decode prog_17_method_7_code 146 = .ok (.iload 6, 2) := by decide +kernel
theorem d_17_7_148 : decode prog_17_method_7_code 148 = .ok (.iaload, 1) := by decide +kernel
theorem d_17_7_149 : decode prog_17_method_7_code 149 = .ok (.istore 7, 2) := by decide +kernel
theorem d_17_7_151 : decode prog_17_method_7_code 151 = .ok (.bipush 9, 2) := by decide +kernel
theorem d_17_7_153 : decode prog_17_method_7_code 153 = .ok (.iload 6, 2) := by decide +kernel
theorem d_17_7_155 : decode prog_17_method_7_code 155 = .ok (.imul, 1) := by decide +kernel
theorem d_17_7_156 : decode prog_17_method_7_code 156 = .ok (.istore 8, 2) := by decide +kernel
theorem d_17_7_158 : decode prog_17_method_7_code 158 = .ok (.iload 8, 2) := by decide +kernel
theorem d_17_7_160 : decode prog_17_method_7_code 160 = .ok (.bipush 9, 2) := by decide +kernel
theorem d_17_7_162 : decode prog_17_method_7_code 162 = .ok (.iload 6, 2) := by decide +kernel
theorem d_17_7_164 : decode prog_17_method_7_code 164 = .ok (.imul, 1) := by decide +kernel
theorem d_17_7_165 : decode prog_17_method_7_code 165 = .ok (.bipush 9, 2) := by decide +kernel
theorem d_17_7_167 : decode prog_17_method_7_code 167 = .ok (.iadd, 1) := by decide +kernel
theorem d_17_7_168 : decode prog_17_method_7_code 168 = .ok (.if_icmp .ge 25, 3) := by decide +kernel
theorem d_17_7_171 : decode prog_17_method_7_code 171 = .ok (.aload_n 1, 1) := by decide +kernel
theorem d_17_7_172 : decode prog_17_method_7_code 172 = .ok (.iload 8, 2) := by decide +kernel
theorem d_17_7_174 : decode prog_17_method_7_code 174 = .ok (.iload 7, 2) := by decide +kernel
theorem d_17_7_176 : decode prog_17_method_7_code 176 = .ok (.bipush 10, 2) := by decide +kernel
theorem d_17_7_178 : decode prog_17_method_7_code 178 = .ok (.irem, 1) := by decide +kernel
theorem d_17_7_179 : decode prog_17_method_7_code 179 = .ok (.iastore, 1) := by decide +kernel
theorem d_17_7_180 : decode prog_17_method_7_code 180 = .ok (.iload 7, 2) := by decide +kernel
theorem d_17_7_182 : decode prog_17_method_7_code 182 = .ok (.bipush 10, 2) := by decide +kernel
theorem d_17_7_184 : decode prog_17_method_7_code 184 = .ok (.idiv, 1) := by decide +kernel
theorem d_17_7_185 : decode prog_17_method_7_code 185 = .ok (.istore 7, 2) := by decide +kernel
theorem d_17_7_187 : decode prog_17_method_7_code 187 = .ok (.iinc 8 1, 3) := by decide +kernel
theorem d_17_7_190 : decode prog_17_method_7_code 190 = .ok (.goto (-32), 3) := by decide +kernel
theorem d_17_7_193 : decode prog_17_method_7_code 193 = .ok (.iinc 6 1, 3) := by decide +kernel
theorem d_17_7_196 : decode prog_17_method_7_code 196 = .ok (.goto (-62), 3) := by decide +kernel
theorem d_17_7_11 : decode prog_17_method_7_code 11 = .ok (.aload_n 0, 1) := by decide +kernel
theorem d_17_7_12 : decode prog_17_method_7_code 12 = .ok (.getfield 13, 3) := by decide +kernel
theorem d_17_7_15 : decode prog_17_method_7_code 15 = .ok (.iload 4, 2) := by decide +kernel
theorem d_17_7_17 : decode prog_17_method_7_code 17 = .ok (.iconst 0, 1) := by decide +kernel
theorem d_17_7_18 : decode prog_17_method_7_code 18 = .ok (.iastore, 1) := by decide +kernel
theorem d_17_7_19 : decode prog_17_method_7_code 19 = .ok (.iinc 4 1, 3) := by decide +kernel
theorem d_17_7_22 : decode prog_17_method_7_code 22 = .ok (.goto (-19), 3) := by decide +kernel
def y_FR_set : MethodName := ⟨"NumberHouseModel$FloatRows", "set", "([IJ)V"⟩
set_option maxRecDepth 100000 in
set_option maxHeartbeats 4000000 in
theorem c_FR_set (l : Launch) (D : va_G) (g : Nat → ClassId) (ws : va_W) (kO0 kA1 kA3 qO0 qA1 qA2 qA3 qA4 qA5 qA6 qA7 : Nat) (hO0 : ws[kO0]? = (some (qO0, .inr (15, [.int 0, .ref qA2, .ref qA3, .ref qA1, .ref qA4, .ref qA5, .ref qA6, .ref qA7, .int 0, .int 0, .int 0, .long 0, .int 52, .int 2047, .long 0, .int (-1074), .long 0, .int 0])) : Option (Nat × va_E))) (hA1 : ws[kA1]? = (some (qA1, .inl (g 0, 1404, .inl (fun _ => 0))) : Option (Nat × va_E))) (hA3 : ws[kA3]? = (some (qA3, .inl (g 0, 156, .inl (fun _ => 0))) : Option (Nat × va_E))) (n_A1_A3 : kA1 ≠ kA3) : q_mV l y_FR_set prog_17_method_7_code 12 1 0 0 D g [.ref qO0, .ref qA1, .long 0] ws (fun u => q_un ws u [kA1, kA3] ∧ u[kA1]? = (some (qA1, .inl (g 0, 1404, .inl (fun _ => 0))) : Option (Nat × va_E)) ∧ u[kA3]? = (some (qA3, .inl (g 0, 156, .inl (fun _ => 0))) : Option (Nat × va_E))) := by
  intro sz
  refine q_into (by decide) (Nat.le_of_ble_eq_true rfl) ?_
  intro p e s m below meth c ls hsz C0 V hl
  have hx := C0.1
  have hb := C0.2.1
  have hl : lv_has ls 12 [(0, .ref qO0), (1, .ref qA1), (2, .long 0)] := hl
  have n_A3_A1 := Ne.symm n_A1_A3
  have n_O0_A1 := Ne.symm (q_df hA1 hO0)
  have n_O0_A3 := Ne.symm (q_df hA3 hO0)
  have hF : q_un ws ws [kA1, kA3] := q_u0
  refine lv_iconst (v := 0) hx hb d_17_7_0 (by decide) ?_
  refine lv_istore (lv' := [(4, .int 0), (0, .ref qO0), (1, .ref qA1), (2, .long 0)]) hx hb d_17_7_1 hl (by decide) rfl (fun ls hl => ?_)
  refine q_loop (X := Int32) (fun z H locs ls w2 => (0 ≤ z.toInt ∧ (z.toInt ≤ 156 ∨ z.toInt = 0)) ∧ q_Wd D g (va_A ws sz) s w2 H locs ∧ lv_has ls 12 [(4, .int z), (0, .ref qO0), (1, .ref qA1), (2, .long 0)] ∧ q_un ws w2 [kA1, kA3] ∧ w2[kO0]? = (some (qO0, .inr (15, [.int 0, .ref qA2, .ref qA3, .ref qA1, .ref qA4, .ref qA5, .ref qA6, .ref qA7, .int 0, .int 0, .int 0, .long 0, .int 52, .int 2047, .long 0, .int (-1074), .long 0, .int 0])) : Option (Nat × va_E)) ∧ w2[kA1]? = (some (qA1, .inl (g 0, 1404, .inl (fun _ => 0))) : Option (Nat × va_E)) ∧ w2[kA3]? = (some (qA3, .inl (g 0, 156, .inl (fun _ => 0))) : Option (Nat × va_E))) (fun z => (156 - z.toInt).toNat) ?_ ((0 : Int32)) _ _ _ ws ⟨⟨by decide, Or.inr (by decide)⟩, V, hl, hF, hO0, hA1, hA3⟩
  rintro lx1 H locs ls w2 ⟨i3, V, hl, hF, hO0, hA1, hA3⟩ ih4
  replace i3 : 0 ≤ lx1.toInt ∧ (lx1.toInt ≤ 156 ∨ lx1.toInt = 0) := i3
  replace hl : lv_has ls 12 [(4, .int lx1), (0, .ref qO0), (1, .ref qA1), (2, .long 0)] := hl
  replace hO0 : w2[kO0]? = (some (qO0, .inr (15, [.int 0, .ref qA2, .ref qA3, .ref qA1, .ref qA4, .ref qA5, .ref qA6, .ref qA7, .int 0, .int 0, .int 0, .long 0, .int 52, .int 2047, .long 0, .int (-1074), .long 0, .int 0])) : Option (Nat × va_E)) := hO0
  replace hA1 : w2[kA1]? = (some (qA1, .inl (g 0, 1404, .inl (fun _ => 0))) : Option (Nat × va_E)) := hA1
  replace hA3 : w2[kA3]? = (some (qA3, .inl (g 0, 156, .inl (fun _ => 0))) : Option (Nat × va_E)) := hA3
  refine lv_iload hx hb d_17_7_3 (lv_at hl 0 rfl) ?_
  refine lv_sipush (v := 156) hx hb d_17_7_5 (by decide) ?_
  refine lv_icmp_ge (tgt := 25) hx hb d_17_7_8 (by decide) (fun c5 => ?_) (fun c5 => ?_)
  ·
    refine lv_lload_n hx hb d_17_7_25 rfl (lv_at hl 3 rfl) ?_
    refine lv_lstore (lv' := [(4, .long 0), (0, .ref qO0), (1, .ref qA1), (2, .long 0)]) hx hb d_17_7_26 hl (by decide) rfl (fun ls hl => ?_)
    refine lv_iconst (v := 0) hx hb d_17_7_28 (by decide) ?_
    refine lv_istore (lv' := [(6, .int 0), (4, .long 0), (0, .ref qO0), (1, .ref qA1), (2, .long 0)]) hx hb d_17_7_29 hl (by decide) rfl (fun ls hl => ?_)
    refine lv_lload hx hb d_17_7_31 (lv_at hl 1 rfl) ?_
    refine lv_lconst (v := 0) hx hb d_17_7_33 (by decide) ?_
    refine W.lcmp hx hb d_17_7_34 ?_
    refine q_ti (v := 0) (by decide) ?_
    refine lv_if_le (tgt := 131) hx hb d_17_7_35 (by decide) (fun c6 => ?_) (fun c6 => absurd (by decide) c6)
    refine lv_iconst (v := 0) hx hb d_17_7_131 (by decide) ?_
    refine lv_istore (lv' := [(6, .int 0), (4, .long 0), (0, .ref qO0), (1, .ref qA1), (2, .long 0)]) hx hb d_17_7_132 hl (by decide) rfl (fun ls hl => ?_)
    refine q_loop (X := Int32) (fun z H locs ls w8 => (0 ≤ z.toInt ∧ (z.toInt ≤ 156 ∨ z.toInt = 0)) ∧ q_Wd D g (va_A ws sz) s w8 H locs ∧ lv_has ls 12 [(6, .int z), (4, .long 0), (0, .ref qO0), (1, .ref qA1), (2, .long 0)] ∧ q_un ws w8 [kA1, kA3] ∧ w8[kO0]? = (some (qO0, .inr (15, [.int 0, .ref qA2, .ref qA3, .ref qA1, .ref qA4, .ref qA5, .ref qA6, .ref qA7, .int 0, .int 0, .int 0, .long 0, .int 52, .int 2047, .long 0, .int (-1074), .long 0, .int 0])) : Option (Nat × va_E)) ∧ w8[kA1]? = (some (qA1, .inl (g 0, 1404, .inl (fun _ => 0))) : Option (Nat × va_E)) ∧ w8[kA3]? = (some (qA3, .inl (g 0, 156, .inl (fun _ => 0))) : Option (Nat × va_E))) (fun z => (156 - z.toInt).toNat) ?_ ((0 : Int32)) _ _ _ w2 ⟨⟨by decide, Or.inr (by decide)⟩, V, hl, hF, hO0, hA1, hA3⟩
    rintro lx7 H locs ls w8 ⟨i9, V, hl, hF, hO0, hA1, hA3⟩ ih10
    replace i9 : 0 ≤ lx7.toInt ∧ (lx7.toInt ≤ 156 ∨ lx7.toInt = 0) := i9
    replace hl : lv_has ls 12 [(6, .int lx7), (4, .long 0), (0, .ref qO0), (1, .ref qA1), (2, .long 0)] := hl
    replace hO0 : w8[kO0]? = (some (qO0, .inr (15, [.int 0, .ref qA2, .ref qA3, .ref qA1, .ref qA4, .ref qA5, .ref qA6, .ref qA7, .int 0, .int 0, .int 0, .long 0, .int 52, .int 2047, .long 0, .int (-1074), .long 0, .int 0])) : Option (Nat × va_E)) := hO0
    replace hA1 : w8[kA1]? = (some (qA1, .inl (g 0, 1404, .inl (fun _ => 0))) : Option (Nat × va_E)) := hA1
    replace hA3 : w8[kA3]? = (some (qA3, .inl (g 0, 156, .inl (fun _ => 0))) : Option (Nat × va_E)) := hA3
    refine lv_iload hx hb d_17_7_134 (lv_at hl 0 rfl) ?_
    refine lv_sipush (v := 156) hx hb d_17_7_136 (by decide) ?_
    refine lv_icmp_ge (tgt := 199) hx hb d_17_7_139 (by decide) (fun c11 => ?_) (fun c11 => ?_)
    ·
      exact q_retv C0 V (⟨hF, hA1, hA3⟩) d_17_7_199
    ·
      refine lv_aload_n hx hb d_17_7_142 rfl (lv_at hl 2 rfl) ?_
      refine q_get (ci := 15) (j := 2) (v := .ref qA3) C0 V i_FR rfl rfl hO0 (by decide) w_2077 rfl d_17_7_143 ?_
      refine lv_iload hx hb d_17_7_146 (lv_at hl 0 rfl) ?_
      refine q_iald C0 V hA3 (q_ix (x := lx7.toInt) rfl (by have t1 : lx7.toInt < 156 := q_nleI c11; omega) (by have t1 : lx7.toInt < 156 := q_nleI c11; omega)) d_17_7_148 ?_
      refine q_ti (v := 0) (by first | rfl | decide | simp [upd, vp_updL, sb_cl0]) ?_
      refine lv_istore (lv' := [(7, .int 0), (6, .int lx7), (4, .long 0), (0, .ref qO0), (1, .ref qA1), (2, .long 0)]) hx hb d_17_7_149 hl (by decide) rfl (fun ls hl => ?_)
      refine lv_bipush (v := 9) hx hb d_17_7_151 (by decide) ?_
      refine lv_iload hx hb d_17_7_153 (lv_at hl 1 rfl) ?_
      refine lv_imul hx hb d_17_7_155 ?_
      refine lv_istore (lv' := [(8, .int (9 * lx7)), (7, .int 0), (6, .int lx7), (4, .long 0), (0, .ref qO0), (1, .ref qA1), (2, .long 0)]) hx hb d_17_7_156 hl (by decide) rfl (fun ls hl => ?_)
      refine lv_iload hx hb d_17_7_158 (lv_at hl 0 rfl) ?_
      refine lv_bipush (v := 9) hx hb d_17_7_160 (by decide) ?_
      refine lv_iload hx hb d_17_7_162 (lv_at hl 2 rfl) ?_
      refine lv_imul hx hb d_17_7_164 ?_
      refine lv_bipush (v := 9) hx hb d_17_7_165 (by decide) ?_
      refine lv_iadd hx hb d_17_7_167 ?_
      refine lv_icmp_ge (tgt := 193) hx hb d_17_7_168 (by decide) (fun c12 => absurd c12 (Int32.not_le.mpr (q_Ilt (x := (9 * lx7.toInt)) (y := ((9 * lx7.toInt) + 9)) (q_mulI (x := 9) (y := lx7.toInt) (by decide) rfl (by have t1 : lx7.toInt < 156 := q_nleI c11; omega) (by have t1 : lx7.toInt < 156 := q_nleI c11; omega)) (q_addI (x := (9 * lx7.toInt)) (y := 9) (q_mulI (x := 9) (y := lx7.toInt) (by decide) rfl (by have t1 : lx7.toInt < 156 := q_nleI c11; omega) (by have t1 : lx7.toInt < 156 := q_nleI c11; omega)) (by decide) (by have t1 : lx7.toInt < 156 := q_nleI c11; omega) (by have t1 : lx7.toInt < 156 := q_nleI c11; omega)) (by have t1 : lx7.toInt < 156 := q_nleI c11; omega)))) (fun c12 => ?_)
      refine lv_aload_n hx hb d_17_7_171 rfl (lv_at hl 5 rfl) ?_
      refine lv_iload hx hb d_17_7_172 (lv_at hl 0 rfl) ?_
      refine lv_iload hx hb d_17_7_174 (lv_at hl 1 rfl) ?_
      refine lv_bipush (v := 10) hx hb d_17_7_176 (by decide) ?_
      refine lv_irem hx hb d_17_7_178 (by decide) ?_
      refine q_ti (v := 0) (by decide) ?_
      refine q_iast C0 V hA1 (q_ix (x := (9 * lx7.toInt)) (q_mulI (x := 9) (y := lx7.toInt) (by decide) rfl (by have t1 : lx7.toInt < 156 := q_nleI c11; omega) (by have t1 : lx7.toInt < 156 := q_nleI c11; omega)) (by have t1 : lx7.toInt < 156 := q_nleI c11; omega) (by have t1 : lx7.toInt < 156 := q_nleI c11; omega)) d_17_7_179 (fun H locs w13 hu14 hA1 V => ?_)
      replace hA1 := q_re (y := (qA1, .inl (g 0, 1404, .inl (fun _ => 0)))) hA1 (q_eI q_upd0)
      replace hA1 : w13[kA1]? = (some (qA1, .inl (g 0, 1404, .inl (fun _ => 0))) : Option (Nat × va_E)) := hA1
      replace hF := q_us hF hu14 (.head _)
      refine lv_iload hx hb d_17_7_180 (lv_at hl 1 rfl) ?_
      refine lv_bipush (v := 10) hx hb d_17_7_182 (by decide) ?_
      refine lv_idiv hx hb d_17_7_184 (by decide) ?_
      refine q_ti (v := 0) (by decide) ?_
      refine lv_istore (lv' := [(7, .int 0), (8, .int (9 * lx7)), (6, .int lx7), (4, .long 0), (0, .ref qO0), (1, .ref qA1), (2, .long 0)]) hx hb d_17_7_185 hl (by decide) rfl (fun ls hl => ?_)
      refine lv_iinc (v := (9 * lx7) + 1) (lv' := [(8, .int ((9 * lx7) + 1)), (7, .int 0), (6, .int lx7), (4, .long 0), (0, .ref qO0), (1, .ref qA1), (2, .long 0)]) hx hb d_17_7_187 hl (k := 1) rfl (rfl) (by decide) rfl (fun ls hl => ?_)
      refine lv_goto (tgt := 158) hx hb d_17_7_190 (by decide) ?_
      refine lv_iload hx hb d_17_7_158 (lv_at hl 0 rfl) ?_
      refine lv_bipush (v := 9) hx hb d_17_7_160 (by decide) ?_
      refine lv_iload hx hb d_17_7_162 (lv_at hl 2 rfl) ?_
      refine lv_imul hx hb d_17_7_164 ?_
      refine lv_bipush (v := 9) hx hb d_17_7_165 (by decide) ?_
      refine lv_iadd hx hb d_17_7_167 ?_
      refine lv_icmp_ge (tgt := 193) hx hb d_17_7_168 (by decide) (fun c15 => absurd c15 (Int32.not_le.mpr (q_Ilt (x := ((9 * lx7.toInt) + 1)) (y := ((9 * lx7.toInt) + 9)) (q_addI (x := (9 * lx7.toInt)) (y := 1) (q_mulI (x := 9) (y := lx7.toInt) (by decide) rfl (by have t1 : lx7.toInt < 156 := q_nleI c11; omega) (by have t1 : lx7.toInt < 156 := q_nleI c11; omega)) (by decide) (by have t1 : lx7.toInt < 156 := q_nleI c11; omega) (by have t1 : lx7.toInt < 156 := q_nleI c11; omega)) (q_addI (x := (9 * lx7.toInt)) (y := 9) (q_mulI (x := 9) (y := lx7.toInt) (by decide) rfl (by have t1 : lx7.toInt < 156 := q_nleI c11; omega) (by have t1 : lx7.toInt < 156 := q_nleI c11; omega)) (by decide) (by have t1 : lx7.toInt < 156 := q_nleI c11; omega) (by have t1 : lx7.toInt < 156 := q_nleI c11; omega)) (by have t1 : lx7.toInt < 156 := q_nleI c11; omega)))) (fun c15 => ?_)
      refine lv_aload_n hx hb d_17_7_171 rfl (lv_at hl 5 rfl) ?_
      refine lv_iload hx hb d_17_7_172 (lv_at hl 0 rfl) ?_
      refine lv_iload hx hb d_17_7_174 (lv_at hl 1 rfl) ?_
      refine lv_bipush (v := 10) hx hb d_17_7_176 (by decide) ?_
      refine lv_irem hx hb d_17_7_178 (by decide) ?_
      refine q_ti (v := 0) (by decide) ?_
      refine q_iast C0 V hA1 (q_ix (x := ((9 * lx7.toInt) + 1)) (q_addI (x := (9 * lx7.toInt)) (y := 1) (q_mulI (x := 9) (y := lx7.toInt) (by decide) rfl (by have t1 : lx7.toInt < 156 := q_nleI c11; omega) (by have t1 : lx7.toInt < 156 := q_nleI c11; omega)) (by decide) (by have t1 : lx7.toInt < 156 := q_nleI c11; omega) (by have t1 : lx7.toInt < 156 := q_nleI c11; omega)) (by have t1 : lx7.toInt < 156 := q_nleI c11; omega) (by have t1 : lx7.toInt < 156 := q_nleI c11; omega)) d_17_7_179 (fun H locs w16 hu17 hA1 V => ?_)
      replace hA1 := q_re (y := (qA1, .inl (g 0, 1404, .inl (fun _ => 0)))) hA1 (q_eI q_upd0)
      replace hA1 : w16[kA1]? = (some (qA1, .inl (g 0, 1404, .inl (fun _ => 0))) : Option (Nat × va_E)) := hA1
      replace hF := q_us hF hu17 (.head _)
      refine lv_iload hx hb d_17_7_180 (lv_at hl 1 rfl) ?_
      refine lv_bipush (v := 10) hx hb d_17_7_182 (by decide) ?_
      refine lv_idiv hx hb d_17_7_184 (by decide) ?_
      refine q_ti (v := 0) (by decide) ?_
      refine lv_istore (lv' := [(7, .int 0), (8, .int ((9 * lx7) + 1)), (6, .int lx7), (4, .long 0), (0, .ref qO0), (1, .ref qA1), (2, .long 0)]) hx hb d_17_7_185 hl (by decide) rfl (fun ls hl => ?_)
      refine lv_iinc (v := ((9 * lx7) + 1) + 1) (lv' := [(8, .int (((9 * lx7) + 1) + 1)), (7, .int 0), (6, .int lx7), (4, .long 0), (0, .ref qO0), (1, .ref qA1), (2, .long 0)]) hx hb d_17_7_187 hl (k := 1) rfl (rfl) (by decide) rfl (fun ls hl => ?_)
      refine lv_goto (tgt := 158) hx hb d_17_7_190 (by decide) ?_
      refine lv_iload hx hb d_17_7_158 (lv_at hl 0 rfl) ?_
      refine lv_bipush (v := 9) hx hb d_17_7_160 (by decide) ?_
      refine lv_iload hx hb d_17_7_162 (lv_at hl 2 rfl) ?_
      refine lv_imul hx hb d_17_7_164 ?_
      refine lv_bipush (v := 9) hx hb d_17_7_165 (by decide) ?_
      refine lv_iadd hx hb d_17_7_167 ?_
      refine lv_icmp_ge (tgt := 193) hx hb d_17_7_168 (by decide) (fun c18 => absurd c18 (Int32.not_le.mpr (q_Ilt (x := (((9 * lx7.toInt) + 1) + 1)) (y := ((9 * lx7.toInt) + 9)) (q_addI (x := ((9 * lx7.toInt) + 1)) (y := 1) (q_addI (x := (9 * lx7.toInt)) (y := 1) (q_mulI (x := 9) (y := lx7.toInt) (by decide) rfl (by have t1 : lx7.toInt < 156 := q_nleI c11; omega) (by have t1 : lx7.toInt < 156 := q_nleI c11; omega)) (by decide) (by have t1 : lx7.toInt < 156 := q_nleI c11; omega) (by have t1 : lx7.toInt < 156 := q_nleI c11; omega)) (by decide) (by have t1 : lx7.toInt < 156 := q_nleI c11; omega) (by have t1 : lx7.toInt < 156 := q_nleI c11; omega)) (q_addI (x := (9 * lx7.toInt)) (y := 9) (q_mulI (x := 9) (y := lx7.toInt) (by decide) rfl (by have t1 : lx7.toInt < 156 := q_nleI c11; omega) (by have t1 : lx7.toInt < 156 := q_nleI c11; omega)) (by decide) (by have t1 : lx7.toInt < 156 := q_nleI c11; omega) (by have t1 : lx7.toInt < 156 := q_nleI c11; omega)) (by have t1 : lx7.toInt < 156 := q_nleI c11; omega)))) (fun c18 => ?_)
      refine lv_aload_n hx hb d_17_7_171 rfl (lv_at hl 5 rfl) ?_
      refine lv_iload hx hb d_17_7_172 (lv_at hl 0 rfl) ?_
      refine lv_iload hx hb d_17_7_174 (lv_at hl 1 rfl) ?_
      refine lv_bipush (v := 10) hx hb d_17_7_176 (by decide) ?_
      refine lv_irem hx hb d_17_7_178 (by decide) ?_
      refine q_ti (v := 0) (by decide) ?_
      refine q_iast C0 V hA1 (q_ix (x := (((9 * lx7.toInt) + 1) + 1)) (q_addI (x := ((9 * lx7.toInt) + 1)) (y := 1) (q_addI (x := (9 * lx7.toInt)) (y := 1) (q_mulI (x := 9) (y := lx7.toInt) (by decide) rfl (by have t1 : lx7.toInt < 156 := q_nleI c11; omega) (by have t1 : lx7.toInt < 156 := q_nleI c11; omega)) (by decide) (by have t1 : lx7.toInt < 156 := q_nleI c11; omega) (by have t1 : lx7.toInt < 156 := q_nleI c11; omega)) (by decide) (by have t1 : lx7.toInt < 156 := q_nleI c11; omega) (by have t1 : lx7.toInt < 156 := q_nleI c11; omega)) (by have t1 : lx7.toInt < 156 := q_nleI c11; omega) (by have t1 : lx7.toInt < 156 := q_nleI c11; omega)) d_17_7_179 (fun H locs w19 hu20 hA1 V => ?_)
      replace hA1 := q_re (y := (qA1, .inl (g 0, 1404, .inl (fun _ => 0)))) hA1 (q_eI q_upd0)
      replace hA1 : w19[kA1]? = (some (qA1, .inl (g 0, 1404, .inl (fun _ => 0))) : Option (Nat × va_E)) := hA1
      replace hF := q_us hF hu20 (.head _)
      refine lv_iload hx hb d_17_7_180 (lv_at hl 1 rfl) ?_
      refine lv_bipush (v := 10) hx hb d_17_7_182 (by decide) ?_
      refine lv_idiv hx hb d_17_7_184 (by decide) ?_
      refine q_ti (v := 0) (by decide) ?_
      refine lv_istore (lv' := [(7, .int 0), (8, .int (((9 * lx7) + 1) + 1)), (6, .int lx7), (4, .long 0), (0, .ref qO0), (1, .ref qA1), (2, .long 0)]) hx hb d_17_7_185 hl (by decide) rfl (fun ls hl => ?_)
      refine lv_iinc (v := (((9 * lx7) + 1) + 1) + 1) (lv' := [(8, .int ((((9 * lx7) + 1) + 1) + 1)), (7, .int 0), (6, .int lx7), (4, .long 0), (0, .ref qO0), (1, .ref qA1), (2, .long 0)]) hx hb d_17_7_187 hl (k := 1) rfl (rfl) (by decide) rfl (fun ls hl => ?_)
      refine lv_goto (tgt := 158) hx hb d_17_7_190 (by decide) ?_
      refine lv_iload hx hb d_17_7_158 (lv_at hl 0 rfl) ?_
      refine lv_bipush (v := 9) hx hb d_17_7_160 (by decide) ?_
      refine lv_iload hx hb d_17_7_162 (lv_at hl 2 rfl) ?_
      refine lv_imul hx hb d_17_7_164 ?_
      refine lv_bipush (v := 9) hx hb d_17_7_165 (by decide) ?_
      refine lv_iadd hx hb d_17_7_167 ?_
      refine lv_icmp_ge (tgt := 193) hx hb d_17_7_168 (by decide) (fun c21 => absurd c21 (Int32.not_le.mpr (q_Ilt (x := ((((9 * lx7.toInt) + 1) + 1) + 1)) (y := ((9 * lx7.toInt) + 9)) (q_addI (x := (((9 * lx7.toInt) + 1) + 1)) (y := 1) (q_addI (x := ((9 * lx7.toInt) + 1)) (y := 1) (q_addI (x := (9 * lx7.toInt)) (y := 1) (q_mulI (x := 9) (y := lx7.toInt) (by decide) rfl (by have t1 : lx7.toInt < 156 := q_nleI c11; omega) (by have t1 : lx7.toInt < 156 := q_nleI c11; omega)) (by decide) (by have t1 : lx7.toInt < 156 := q_nleI c11; omega) (by have t1 : lx7.toInt < 156 := q_nleI c11; omega)) (by decide) (by have t1 : lx7.toInt < 156 := q_nleI c11; omega) (by have t1 : lx7.toInt < 156 := q_nleI c11; omega)) (by decide) (by have t1 : lx7.toInt < 156 := q_nleI c11; omega) (by have t1 : lx7.toInt < 156 := q_nleI c11; omega)) (q_addI (x := (9 * lx7.toInt)) (y := 9) (q_mulI (x := 9) (y := lx7.toInt) (by decide) rfl (by have t1 : lx7.toInt < 156 := q_nleI c11; omega) (by have t1 : lx7.toInt < 156 := q_nleI c11; omega)) (by decide) (by have t1 : lx7.toInt < 156 := q_nleI c11; omega) (by have t1 : lx7.toInt < 156 := q_nleI c11; omega)) (by have t1 : lx7.toInt < 156 := q_nleI c11; omega)))) (fun c21 => ?_)
      refine lv_aload_n hx hb d_17_7_171 rfl (lv_at hl 5 rfl) ?_
      refine lv_iload hx hb d_17_7_172 (lv_at hl 0 rfl) ?_
      refine lv_iload hx hb d_17_7_174 (lv_at hl 1 rfl) ?_
      refine lv_bipush (v := 10) hx hb d_17_7_176 (by decide) ?_
      refine lv_irem hx hb d_17_7_178 (by decide) ?_
      refine q_ti (v := 0) (by decide) ?_
      refine q_iast C0 V hA1 (q_ix (x := ((((9 * lx7.toInt) + 1) + 1) + 1)) (q_addI (x := (((9 * lx7.toInt) + 1) + 1)) (y := 1) (q_addI (x := ((9 * lx7.toInt) + 1)) (y := 1) (q_addI (x := (9 * lx7.toInt)) (y := 1) (q_mulI (x := 9) (y := lx7.toInt) (by decide) rfl (by have t1 : lx7.toInt < 156 := q_nleI c11; omega) (by have t1 : lx7.toInt < 156 := q_nleI c11; omega)) (by decide) (by have t1 : lx7.toInt < 156 := q_nleI c11; omega) (by have t1 : lx7.toInt < 156 := q_nleI c11; omega)) (by decide) (by have t1 : lx7.toInt < 156 := q_nleI c11; omega) (by have t1 : lx7.toInt < 156 := q_nleI c11; omega)) (by decide) (by have t1 : lx7.toInt < 156 := q_nleI c11; omega) (by have t1 : lx7.toInt < 156 := q_nleI c11; omega)) (by have t1 : lx7.toInt < 156 := q_nleI c11; omega) (by have t1 : lx7.toInt < 156 := q_nleI c11; omega)) d_17_7_179 (fun H locs w22 hu23 hA1 V => ?_)
      replace hA1 := q_re (y := (qA1, .inl (g 0, 1404, .inl (fun _ => 0)))) hA1 (q_eI q_upd0)
      replace hA1 : w22[kA1]? = (some (qA1, .inl (g 0, 1404, .inl (fun _ => 0))) : Option (Nat × va_E)) := hA1
      replace hF := q_us hF hu23 (.head _)
      refine lv_iload hx hb d_17_7_180 (lv_at hl 1 rfl) ?_
      refine lv_bipush (v := 10) hx hb d_17_7_182 (by decide) ?_
      refine lv_idiv hx hb d_17_7_184 (by decide) ?_
      refine q_ti (v := 0) (by decide) ?_
      refine lv_istore (lv' := [(7, .int 0), (8, .int ((((9 * lx7) + 1) + 1) + 1)), (6, .int lx7), (4, .long 0), (0, .ref qO0), (1, .ref qA1), (2, .long 0)]) hx hb d_17_7_185 hl (by decide) rfl (fun ls hl => ?_)
      refine lv_iinc (v := ((((9 * lx7) + 1) + 1) + 1) + 1) (lv' := [(8, .int (((((9 * lx7) + 1) + 1) + 1) + 1)), (7, .int 0), (6, .int lx7), (4, .long 0), (0, .ref qO0), (1, .ref qA1), (2, .long 0)]) hx hb d_17_7_187 hl (k := 1) rfl (rfl) (by decide) rfl (fun ls hl => ?_)
      refine lv_goto (tgt := 158) hx hb d_17_7_190 (by decide) ?_
      refine lv_iload hx hb d_17_7_158 (lv_at hl 0 rfl) ?_
      refine lv_bipush (v := 9) hx hb d_17_7_160 (by decide) ?_
      refine lv_iload hx hb d_17_7_162 (lv_at hl 2 rfl) ?_
      refine lv_imul hx hb d_17_7_164 ?_
      refine lv_bipush (v := 9) hx hb d_17_7_165 (by decide) ?_
      refine lv_iadd hx hb d_17_7_167 ?_
      refine lv_icmp_ge (tgt := 193) hx hb d_17_7_168 (by decide) (fun c24 => absurd c24 (Int32.not_le.mpr (q_Ilt (x := (((((9 * lx7.toInt) + 1) + 1) + 1) + 1)) (y := ((9 * lx7.toInt) + 9)) (q_addI (x := ((((9 * lx7.toInt) + 1) + 1) + 1)) (y := 1) (q_addI (x := (((9 * lx7.toInt) + 1) + 1)) (y := 1) (q_addI (x := ((9 * lx7.toInt) + 1)) (y := 1) (q_addI (x := (9 * lx7.toInt)) (y := 1) (q_mulI (x := 9) (y := lx7.toInt) (by decide) rfl (by have t1 : lx7.toInt < 156 := q_nleI c11; omega) (by have t1 : lx7.toInt < 156 := q_nleI c11; omega)) (by decide) (by have t1 : lx7.toInt < 156 := q_nleI c11; omega) (by have t1 : lx7.toInt < 156 := q_nleI c11; omega)) (by decide) (by have t1 : lx7.toInt < 156 := q_nleI c11; omega) (by have t1 : lx7.toInt < 156 := q_nleI c11; omega)) (by decide) (by have t1 : lx7.toInt < 156 := q_nleI c11; omega) (by have t1 : lx7.toInt < 156 := q_nleI c11; omega)) (by decide) (by have t1 : lx7.toInt < 156 := q_nleI c11; omega) (by have t1 : lx7.toInt < 156 := q_nleI c11; omega)) (q_addI (x := (9 * lx7.toInt)) (y := 9) (q_mulI (x := 9) (y := lx7.toInt) (by decide) rfl (by have t1 : lx7.toInt < 156 := q_nleI c11; omega) (by have t1 : lx7.toInt < 156 := q_nleI c11; omega)) (by decide) (by have t1 : lx7.toInt < 156 := q_nleI c11; omega) (by have t1 : lx7.toInt < 156 := q_nleI c11; omega)) (by have t1 : lx7.toInt < 156 := q_nleI c11; omega)))) (fun c24 => ?_)
      refine lv_aload_n hx hb d_17_7_171 rfl (lv_at hl 5 rfl) ?_
      refine lv_iload hx hb d_17_7_172 (lv_at hl 0 rfl) ?_
      refine lv_iload hx hb d_17_7_174 (lv_at hl 1 rfl) ?_
      refine lv_bipush (v := 10) hx hb d_17_7_176 (by decide) ?_
      refine lv_irem hx hb d_17_7_178 (by decide) ?_
      refine q_ti (v := 0) (by decide) ?_
      refine q_iast C0 V hA1 (q_ix (x := (((((9 * lx7.toInt) + 1) + 1) + 1) + 1)) (q_addI (x := ((((9 * lx7.toInt) + 1) + 1) + 1)) (y := 1) (q_addI (x := (((9 * lx7.toInt) + 1) + 1)) (y := 1) (q_addI (x := ((9 * lx7.toInt) + 1)) (y := 1) (q_addI (x := (9 * lx7.toInt)) (y := 1) (q_mulI (x := 9) (y := lx7.toInt) (by decide) rfl (by have t1 : lx7.toInt < 156 := q_nleI c11; omega) (by have t1 : lx7.toInt < 156 := q_nleI c11; omega)) (by decide) (by have t1 : lx7.toInt < 156 := q_nleI c11; omega) (by have t1 : lx7.toInt < 156 := q_nleI c11; omega)) (by decide) (by have t1 : lx7.toInt < 156 := q_nleI c11; omega) (by have t1 : lx7.toInt < 156 := q_nleI c11; omega)) (by decide) (by have t1 : lx7.toInt < 156 := q_nleI c11; omega) (by have t1 : lx7.toInt < 156 := q_nleI c11; omega)) (by decide) (by have t1 : lx7.toInt < 156 := q_nleI c11; omega) (by have t1 : lx7.toInt < 156 := q_nleI c11; omega)) (by have t1 : lx7.toInt < 156 := q_nleI c11; omega) (by have t1 : lx7.toInt < 156 := q_nleI c11; omega)) d_17_7_179 (fun H locs w25 hu26 hA1 V => ?_)
      replace hA1 := q_re (y := (qA1, .inl (g 0, 1404, .inl (fun _ => 0)))) hA1 (q_eI q_upd0)
      replace hA1 : w25[kA1]? = (some (qA1, .inl (g 0, 1404, .inl (fun _ => 0))) : Option (Nat × va_E)) := hA1
      replace hF := q_us hF hu26 (.head _)
      refine lv_iload hx hb d_17_7_180 (lv_at hl 1 rfl) ?_
      refine lv_bipush (v := 10) hx hb d_17_7_182 (by decide) ?_
      refine lv_idiv hx hb d_17_7_184 (by decide) ?_
      refine q_ti (v := 0) (by decide) ?_
      refine lv_istore (lv' := [(7, .int 0), (8, .int (((((9 * lx7) + 1) + 1) + 1) + 1)), (6, .int lx7), (4, .long 0), (0, .ref qO0), (1, .ref qA1), (2, .long 0)]) hx hb d_17_7_185 hl (by decide) rfl (fun ls hl => ?_)
      refine lv_iinc (v := (((((9 * lx7) + 1) + 1) + 1) + 1) + 1) (lv' := [(8, .int ((((((9 * lx7) + 1) + 1) + 1) + 1) + 1)), (7, .int 0), (6, .int lx7), (4, .long 0), (0, .ref qO0), (1, .ref qA1), (2, .long 0)]) hx hb d_17_7_187 hl (k := 1) rfl (rfl) (by decide) rfl (fun ls hl => ?_)
      refine lv_goto (tgt := 158) hx hb d_17_7_190 (by decide) ?_
      refine lv_iload hx hb d_17_7_158 (lv_at hl 0 rfl) ?_
      refine lv_bipush (v := 9) hx hb d_17_7_160 (by decide) ?_
      refine lv_iload hx hb d_17_7_162 (lv_at hl 2 rfl) ?_
      refine lv_imul hx hb d_17_7_164 ?_
      refine lv_bipush (v := 9) hx hb d_17_7_165 (by decide) ?_
      refine lv_iadd hx hb d_17_7_167 ?_
      refine lv_icmp_ge (tgt := 193) hx hb d_17_7_168 (by decide) (fun c27 => absurd c27 (Int32.not_le.mpr (q_Ilt (x := ((((((9 * lx7.toInt) + 1) + 1) + 1) + 1) + 1)) (y := ((9 * lx7.toInt) + 9)) (q_addI (x := (((((9 * lx7.toInt) + 1) + 1) + 1) + 1)) (y := 1) (q_addI (x := ((((9 * lx7.toInt) + 1) + 1) + 1)) (y := 1) (q_addI (x := (((9 * lx7.toInt) + 1) + 1)) (y := 1) (q_addI (x := ((9 * lx7.toInt) + 1)) (y := 1) (q_addI (x := (9 * lx7.toInt)) (y := 1) (q_mulI (x := 9) (y := lx7.toInt) (by decide) rfl (by have t1 : lx7.toInt < 156 := q_nleI c11; omega) (by have t1 : lx7.toInt < 156 := q_nleI c11; omega)) (by decide) (by have t1 : lx7.toInt < 156 := q_nleI c11; omega) (by have t1 : lx7.toInt < 156 := q_nleI c11; omega)) (by decide) (by have t1 : lx7.toInt < 156 := q_nleI c11; omega) (by have t1 : lx7.toInt < 156 := q_nleI c11; omega)) (by decide) (by have t1 : lx7.toInt < 156 := q_nleI c11; omega) (by have t1 : lx7.toInt < 156 := q_nleI c11; omega)) (by decide) (by have t1 : lx7.toInt < 156 := q_nleI c11; omega) (by have t1 : lx7.toInt < 156 := q_nleI c11; omega)) (by decide) (by have t1 : lx7.toInt < 156 := q_nleI c11; omega) (by have t1 : lx7.toInt < 156 := q_nleI c11; omega)) (q_addI (x := (9 * lx7.toInt)) (y := 9) (q_mulI (x := 9) (y := lx7.toInt) (by decide) rfl (by have t1 : lx7.toInt < 156 := q_nleI c11; omega) (by have t1 : lx7.toInt < 156 := q_nleI c11; omega)) (by decide) (by have t1 : lx7.toInt < 156 := q_nleI c11; omega) (by have t1 : lx7.toInt < 156 := q_nleI c11; omega)) (by have t1 : lx7.toInt < 156 := q_nleI c11; omega)))) (fun c27 => ?_)
      refine lv_aload_n hx hb d_17_7_171 rfl (lv_at hl 5 rfl) ?_
      refine lv_iload hx hb d_17_7_172 (lv_at hl 0 rfl) ?_
      refine lv_iload hx hb d_17_7_174 (lv_at hl 1 rfl) ?_
      refine lv_bipush (v := 10) hx hb d_17_7_176 (by decide) ?_
      refine lv_irem hx hb d_17_7_178 (by decide) ?_
      refine q_ti (v := 0) (by decide) ?_
      refine q_iast C0 V hA1 (q_ix (x := ((((((9 * lx7.toInt) + 1) + 1) + 1) + 1) + 1)) (q_addI (x := (((((9 * lx7.toInt) + 1) + 1) + 1) + 1)) (y := 1) (q_addI (x := ((((9 * lx7.toInt) + 1) + 1) + 1)) (y := 1) (q_addI (x := (((9 * lx7.toInt) + 1) + 1)) (y := 1) (q_addI (x := ((9 * lx7.toInt) + 1)) (y := 1) (q_addI (x := (9 * lx7.toInt)) (y := 1) (q_mulI (x := 9) (y := lx7.toInt) (by decide) rfl (by have t1 : lx7.toInt < 156 := q_nleI c11; omega) (by have t1 : lx7.toInt < 156 := q_nleI c11; omega)) (by decide) (by have t1 : lx7.toInt < 156 := q_nleI c11; omega) (by have t1 : lx7.toInt < 156 := q_nleI c11; omega)) (by decide) (by have t1 : lx7.toInt < 156 := q_nleI c11; omega) (by have t1 : lx7.toInt < 156 := q_nleI c11; omega)) (by decide) (by have t1 : lx7.toInt < 156 := q_nleI c11; omega) (by have t1 : lx7.toInt < 156 := q_nleI c11; omega)) (by decide) (by have t1 : lx7.toInt < 156 := q_nleI c11; omega) (by have t1 : lx7.toInt < 156 := q_nleI c11; omega)) (by decide) (by have t1 : lx7.toInt < 156 := q_nleI c11; omega) (by have t1 : lx7.toInt < 156 := q_nleI c11; omega)) (by have t1 : lx7.toInt < 156 := q_nleI c11; omega) (by have t1 : lx7.toInt < 156 := q_nleI c11; omega)) d_17_7_179 (fun H locs w28 hu29 hA1 V => ?_)
      replace hA1 := q_re (y := (qA1, .inl (g 0, 1404, .inl (fun _ => 0)))) hA1 (q_eI q_upd0)
      replace hA1 : w28[kA1]? = (some (qA1, .inl (g 0, 1404, .inl (fun _ => 0))) : Option (Nat × va_E)) := hA1
      replace hF := q_us hF hu29 (.head _)
      refine lv_iload hx hb d_17_7_180 (lv_at hl 1 rfl) ?_
      refine lv_bipush (v := 10) hx hb d_17_7_182 (by decide) ?_
      refine lv_idiv hx hb d_17_7_184 (by decide) ?_
      refine q_ti (v := 0) (by decide) ?_
      refine lv_istore (lv' := [(7, .int 0), (8, .int ((((((9 * lx7) + 1) + 1) + 1) + 1) + 1)), (6, .int lx7), (4, .long 0), (0, .ref qO0), (1, .ref qA1), (2, .long 0)]) hx hb d_17_7_185 hl (by decide) rfl (fun ls hl => ?_)
      refine lv_iinc (v := ((((((9 * lx7) + 1) + 1) + 1) + 1) + 1) + 1) (lv' := [(8, .int (((((((9 * lx7) + 1) + 1) + 1) + 1) + 1) + 1)), (7, .int 0), (6, .int lx7), (4, .long 0), (0, .ref qO0), (1, .ref qA1), (2, .long 0)]) hx hb d_17_7_187 hl (k := 1) rfl (rfl) (by decide) rfl (fun ls hl => ?_)
      refine lv_goto (tgt := 158) hx hb d_17_7_190 (by decide) ?_
      refine lv_iload hx hb d_17_7_158 (lv_at hl 0 rfl) ?_
      refine lv_bipush (v := 9) hx hb d_17_7_160 (by decide) ?_
      refine lv_iload hx hb d_17_7_162 (lv_at hl 2 rfl) ?_
      refine lv_imul hx hb d_17_7_164 ?_
      refine lv_bipush (v := 9) hx hb d_17_7_165 (by decide) ?_
      refine lv_iadd hx hb d_17_7_167 ?_
      refine lv_icmp_ge (tgt := 193) hx hb d_17_7_168 (by decide) (fun c30 => absurd c30 (Int32.not_le.mpr (q_Ilt (x := (((((((9 * lx7.toInt) + 1) + 1) + 1) + 1) + 1) + 1)) (y := ((9 * lx7.toInt) + 9)) (q_addI (x := ((((((9 * lx7.toInt) + 1) + 1) + 1) + 1) + 1)) (y := 1) (q_addI (x := (((((9 * lx7.toInt) + 1) + 1) + 1) + 1)) (y := 1) (q_addI (x := ((((9 * lx7.toInt) + 1) + 1) + 1)) (y := 1) (q_addI (x := (((9 * lx7.toInt) + 1) + 1)) (y := 1) (q_addI (x := ((9 * lx7.toInt) + 1)) (y := 1) (q_addI (x := (9 * lx7.toInt)) (y := 1) (q_mulI (x := 9) (y := lx7.toInt) (by decide) rfl (by have t1 : lx7.toInt < 156 := q_nleI c11; omega) (by have t1 : lx7.toInt < 156 := q_nleI c11; omega)) (by decide) (by have t1 : lx7.toInt < 156 := q_nleI c11; omega) (by have t1 : lx7.toInt < 156 := q_nleI c11; omega)) (by decide) (by have t1 : lx7.toInt < 156 := q_nleI c11; omega) (by have t1 : lx7.toInt < 156 := q_nleI c11; omega)) (by decide) (by have t1 : lx7.toInt < 156 := q_nleI c11; omega) (by have t1 : lx7.toInt < 156 := q_nleI c11; omega)) (by decide) (by have t1 : lx7.toInt < 156 := q_nleI c11; omega) (by have t1 : lx7.toInt < 156 := q_nleI c11; omega)) (by decide) (by have t1 : lx7.toInt < 156 := q_nleI c11; omega) (by have t1 : lx7.toInt < 156 := q_nleI c11; omega)) (by decide) (by have t1 : lx7.toInt < 156 := q_nleI c11; omega) (by have t1 : lx7.toInt < 156 := q_nleI c11; omega)) (q_addI (x := (9 * lx7.toInt)) (y := 9) (q_mulI (x := 9) (y := lx7.toInt) (by decide) rfl (by have t1 : lx7.toInt < 156 := q_nleI c11; omega) (by have t1 : lx7.toInt < 156 := q_nleI c11; omega)) (by decide) (by have t1 : lx7.toInt < 156 := q_nleI c11; omega) (by have t1 : lx7.toInt < 156 := q_nleI c11; omega)) (by have t1 : lx7.toInt < 156 := q_nleI c11; omega)))) (fun c30 => ?_)
      refine lv_aload_n hx hb d_17_7_171 rfl (lv_at hl 5 rfl) ?_
      refine lv_iload hx hb d_17_7_172 (lv_at hl 0 rfl) ?_
      refine lv_iload hx hb d_17_7_174 (lv_at hl 1 rfl) ?_
      refine lv_bipush (v := 10) hx hb d_17_7_176 (by decide) ?_
      refine lv_irem hx hb d_17_7_178 (by decide) ?_
      refine q_ti (v := 0) (by decide) ?_
      refine q_iast C0 V hA1 (q_ix (x := (((((((9 * lx7.toInt) + 1) + 1) + 1) + 1) + 1) + 1)) (q_addI (x := ((((((9 * lx7.toInt) + 1) + 1) + 1) + 1) + 1)) (y := 1) (q_addI (x := (((((9 * lx7.toInt) + 1) + 1) + 1) + 1)) (y := 1) (q_addI (x := ((((9 * lx7.toInt) + 1) + 1) + 1)) (y := 1) (q_addI (x := (((9 * lx7.toInt) + 1) + 1)) (y := 1) (q_addI (x := ((9 * lx7.toInt) + 1)) (y := 1) (q_addI (x := (9 * lx7.toInt)) (y := 1) (q_mulI (x := 9) (y := lx7.toInt) (by decide) rfl (by have t1 : lx7.toInt < 156 := q_nleI c11; omega) (by have t1 : lx7.toInt < 156 := q_nleI c11; omega)) (by decide) (by have t1 : lx7.toInt < 156 := q_nleI c11; omega) (by have t1 : lx7.toInt < 156 := q_nleI c11; omega)) (by decide) (by have t1 : lx7.toInt < 156 := q_nleI c11; omega) (by have t1 : lx7.toInt < 156 := q_nleI c11; omega)) (by decide) (by have t1 : lx7.toInt < 156 := q_nleI c11; omega) (by have t1 : lx7.toInt < 156 := q_nleI c11; omega)) (by decide) (by have t1 : lx7.toInt < 156 := q_nleI c11; omega) (by have t1 : lx7.toInt < 156 := q_nleI c11; omega)) (by decide) (by have t1 : lx7.toInt < 156 := q_nleI c11; omega) (by have t1 : lx7.toInt < 156 := q_nleI c11; omega)) (by decide) (by have t1 : lx7.toInt < 156 := q_nleI c11; omega) (by have t1 : lx7.toInt < 156 := q_nleI c11; omega)) (by have t1 : lx7.toInt < 156 := q_nleI c11; omega) (by have t1 : lx7.toInt < 156 := q_nleI c11; omega)) d_17_7_179 (fun H locs w31 hu32 hA1 V => ?_)
      replace hA1 := q_re (y := (qA1, .inl (g 0, 1404, .inl (fun _ => 0)))) hA1 (q_eI q_upd0)
      replace hA1 : w31[kA1]? = (some (qA1, .inl (g 0, 1404, .inl (fun _ => 0))) : Option (Nat × va_E)) := hA1
      replace hF := q_us hF hu32 (.head _)
      refine lv_iload hx hb d_17_7_180 (lv_at hl 1 rfl) ?_
      refine lv_bipush (v := 10) hx hb d_17_7_182 (by decide) ?_
      refine lv_idiv hx hb d_17_7_184 (by decide) ?_
      refine q_ti (v := 0) (by decide) ?_
      refine lv_istore (lv' := [(7, .int 0), (8, .int (((((((9 * lx7) + 1) + 1) + 1) + 1) + 1) + 1)), (6, .int lx7), (4, .long 0), (0, .ref qO0), (1, .ref qA1), (2, .long 0)]) hx hb d_17_7_185 hl (by decide) rfl (fun ls hl => ?_)
      refine lv_iinc (v := (((((((9 * lx7) + 1) + 1) + 1) + 1) + 1) + 1) + 1) (lv' := [(8, .int ((((((((9 * lx7) + 1) + 1) + 1) + 1) + 1) + 1) + 1)), (7, .int 0), (6, .int lx7), (4, .long 0), (0, .ref qO0), (1, .ref qA1), (2, .long 0)]) hx hb d_17_7_187 hl (k := 1) rfl (rfl) (by decide) rfl (fun ls hl => ?_)
      refine lv_goto (tgt := 158) hx hb d_17_7_190 (by decide) ?_
      refine lv_iload hx hb d_17_7_158 (lv_at hl 0 rfl) ?_
      refine lv_bipush (v := 9) hx hb d_17_7_160 (by decide) ?_
      refine lv_iload hx hb d_17_7_162 (lv_at hl 2 rfl) ?_
      refine lv_imul hx hb d_17_7_164 ?_
      refine lv_bipush (v := 9) hx hb d_17_7_165 (by decide) ?_
      refine lv_iadd hx hb d_17_7_167 ?_
      refine lv_icmp_ge (tgt := 193) hx hb d_17_7_168 (by decide) (fun c33 => absurd c33 (Int32.not_le.mpr (q_Ilt (x := ((((((((9 * lx7.toInt) + 1) + 1) + 1) + 1) + 1) + 1) + 1)) (y := ((9 * lx7.toInt) + 9)) (q_addI (x := (((((((9 * lx7.toInt) + 1) + 1) + 1) + 1) + 1) + 1)) (y := 1) (q_addI (x := ((((((9 * lx7.toInt) + 1) + 1) + 1) + 1) + 1)) (y := 1) (q_addI (x := (((((9 * lx7.toInt) + 1) + 1) + 1) + 1)) (y := 1) (q_addI (x := ((((9 * lx7.toInt) + 1) + 1) + 1)) (y := 1) (q_addI (x := (((9 * lx7.toInt) + 1) + 1)) (y := 1) (q_addI (x := ((9 * lx7.toInt) + 1)) (y := 1) (q_addI (x := (9 * lx7.toInt)) (y := 1) (q_mulI (x := 9) (y := lx7.toInt) (by decide) rfl (by have t1 : lx7.toInt < 156 := q_nleI c11; omega) (by have t1 : lx7.toInt < 156 := q_nleI c11; omega)) (by decide) (by have t1 : lx7.toInt < 156 := q_nleI c11; omega) (by have t1 : lx7.toInt < 156 := q_nleI c11; omega)) (by decide) (by have t1 : lx7.toInt < 156 := q_nleI c11; omega) (by have t1 : lx7.toInt < 156 := q_nleI c11; omega)) (by decide) (by have t1 : lx7.toInt < 156 := q_nleI c11; omega) (by have t1 : lx7.toInt < 156 := q_nleI c11; omega)) (by decide) (by have t1 : lx7.toInt < 156 := q_nleI c11; omega) (by have t1 : lx7.toInt < 156 := q_nleI c11; omega)) (by decide) (by have t1 : lx7.toInt < 156 := q_nleI c11; omega) (by have t1 : lx7.toInt < 156 := q_nleI c11; omega)) (by decide) (by have t1 : lx7.toInt < 156 := q_nleI c11; omega) (by have t1 : lx7.toInt < 156 := q_nleI c11; omega)) (by decide) (by have t1 : lx7.toInt < 156 := q_nleI c11; omega) (by have t1 : lx7.toInt < 156 := q_nleI c11; omega)) (q_addI (x := (9 * lx7.toInt)) (y := 9) (q_mulI (x := 9) (y := lx7.toInt) (by decide) rfl (by have t1 : lx7.toInt < 156 := q_nleI c11; omega) (by have t1 : lx7.toInt < 156 := q_nleI c11; omega)) (by decide) (by have t1 : lx7.toInt < 156 := q_nleI c11; omega) (by have t1 : lx7.toInt < 156 := q_nleI c11; omega)) (by have t1 : lx7.toInt < 156 := q_nleI c11; omega)))) (fun c33 => ?_)
      refine lv_aload_n hx hb d_17_7_171 rfl (lv_at hl 5 rfl) ?_
      refine lv_iload hx hb d_17_7_172 (lv_at hl 0 rfl) ?_
      refine lv_iload hx hb d_17_7_174 (lv_at hl 1 rfl) ?_
      refine lv_bipush (v := 10) hx hb d_17_7_176 (by decide) ?_
      refine lv_irem hx hb d_17_7_178 (by decide) ?_
      refine q_ti (v := 0) (by decide) ?_
      refine q_iast C0 V hA1 (q_ix (x := ((((((((9 * lx7.toInt) + 1) + 1) + 1) + 1) + 1) + 1) + 1)) (q_addI (x := (((((((9 * lx7.toInt) + 1) + 1) + 1) + 1) + 1) + 1)) (y := 1) (q_addI (x := ((((((9 * lx7.toInt) + 1) + 1) + 1) + 1) + 1)) (y := 1) (q_addI (x := (((((9 * lx7.toInt) + 1) + 1) + 1) + 1)) (y := 1) (q_addI (x := ((((9 * lx7.toInt) + 1) + 1) + 1)) (y := 1) (q_addI (x := (((9 * lx7.toInt) + 1) + 1)) (y := 1) (q_addI (x := ((9 * lx7.toInt) + 1)) (y := 1) (q_addI (x := (9 * lx7.toInt)) (y := 1) (q_mulI (x := 9) (y := lx7.toInt) (by decide) rfl (by have t1 : lx7.toInt < 156 := q_nleI c11; omega) (by have t1 : lx7.toInt < 156 := q_nleI c11; omega)) (by decide) (by have t1 : lx7.toInt < 156 := q_nleI c11; omega) (by have t1 : lx7.toInt < 156 := q_nleI c11; omega)) (by decide) (by have t1 : lx7.toInt < 156 := q_nleI c11; omega) (by have t1 : lx7.toInt < 156 := q_nleI c11; omega)) (by decide) (by have t1 : lx7.toInt < 156 := q_nleI c11; omega) (by have t1 : lx7.toInt < 156 := q_nleI c11; omega)) (by decide) (by have t1 : lx7.toInt < 156 := q_nleI c11; omega) (by have t1 : lx7.toInt < 156 := q_nleI c11; omega)) (by decide) (by have t1 : lx7.toInt < 156 := q_nleI c11; omega) (by have t1 : lx7.toInt < 156 := q_nleI c11; omega)) (by decide) (by have t1 : lx7.toInt < 156 := q_nleI c11; omega) (by have t1 : lx7.toInt < 156 := q_nleI c11; omega)) (by decide) (by have t1 : lx7.toInt < 156 := q_nleI c11; omega) (by have t1 : lx7.toInt < 156 := q_nleI c11; omega)) (by have t1 : lx7.toInt < 156 := q_nleI c11; omega) (by have t1 : lx7.toInt < 156 := q_nleI c11; omega)) d_17_7_179 (fun H locs w34 hu35 hA1 V => ?_)
      replace hA1 := q_re (y := (qA1, .inl (g 0, 1404, .inl (fun _ => 0)))) hA1 (q_eI q_upd0)
      replace hA1 : w34[kA1]? = (some (qA1, .inl (g 0, 1404, .inl (fun _ => 0))) : Option (Nat × va_E)) := hA1
      replace hF := q_us hF hu35 (.head _)
      refine lv_iload hx hb d_17_7_180 (lv_at hl 1 rfl) ?_
      refine lv_bipush (v := 10) hx hb d_17_7_182 (by decide) ?_
      refine lv_idiv hx hb d_17_7_184 (by decide) ?_
      refine q_ti (v := 0) (by decide) ?_
      refine lv_istore (lv' := [(7, .int 0), (8, .int ((((((((9 * lx7) + 1) + 1) + 1) + 1) + 1) + 1) + 1)), (6, .int lx7), (4, .long 0), (0, .ref qO0), (1, .ref qA1), (2, .long 0)]) hx hb d_17_7_185 hl (by decide) rfl (fun ls hl => ?_)
      refine lv_iinc (v := ((((((((9 * lx7) + 1) + 1) + 1) + 1) + 1) + 1) + 1) + 1) (lv' := [(8, .int (((((((((9 * lx7) + 1) + 1) + 1) + 1) + 1) + 1) + 1) + 1)), (7, .int 0), (6, .int lx7), (4, .long 0), (0, .ref qO0), (1, .ref qA1), (2, .long 0)]) hx hb d_17_7_187 hl (k := 1) rfl (rfl) (by decide) rfl (fun ls hl => ?_)
      refine lv_goto (tgt := 158) hx hb d_17_7_190 (by decide) ?_
      refine lv_iload hx hb d_17_7_158 (lv_at hl 0 rfl) ?_
      refine lv_bipush (v := 9) hx hb d_17_7_160 (by decide) ?_
      refine lv_iload hx hb d_17_7_162 (lv_at hl 2 rfl) ?_
      refine lv_imul hx hb d_17_7_164 ?_
      refine lv_bipush (v := 9) hx hb d_17_7_165 (by decide) ?_
      refine lv_iadd hx hb d_17_7_167 ?_
      refine lv_icmp_ge (tgt := 193) hx hb d_17_7_168 (by decide) (fun c36 => absurd c36 (Int32.not_le.mpr (q_Ilt (x := (((((((((9 * lx7.toInt) + 1) + 1) + 1) + 1) + 1) + 1) + 1) + 1)) (y := ((9 * lx7.toInt) + 9)) (q_addI (x := ((((((((9 * lx7.toInt) + 1) + 1) + 1) + 1) + 1) + 1) + 1)) (y := 1) (q_addI (x := (((((((9 * lx7.toInt) + 1) + 1) + 1) + 1) + 1) + 1)) (y := 1) (q_addI (x := ((((((9 * lx7.toInt) + 1) + 1) + 1) + 1) + 1)) (y := 1) (q_addI (x := (((((9 * lx7.toInt) + 1) + 1) + 1) + 1)) (y := 1) (q_addI (x := ((((9 * lx7.toInt) + 1) + 1) + 1)) (y := 1) (q_addI (x := (((9 * lx7.toInt) + 1) + 1)) (y := 1) (q_addI (x := ((9 * lx7.toInt) + 1)) (y := 1) (q_addI (x := (9 * lx7.toInt)) (y := 1) (q_mulI (x := 9) (y := lx7.toInt) (by decide) rfl (by have t1 : lx7.toInt < 156 := q_nleI c11; omega) (by have t1 : lx7.toInt < 156 := q_nleI c11; omega)) (by decide) (by have t1 : lx7.toInt < 156 := q_nleI c11; omega) (by have t1 : lx7.toInt < 156 := q_nleI c11; omega)) (by decide) (by have t1 : lx7.toInt < 156 := q_nleI c11; omega) (by have t1 : lx7.toInt < 156 := q_nleI c11; omega)) (by decide) (by have t1 : lx7.toInt < 156 := q_nleI c11; omega) (by have t1 : lx7.toInt < 156 := q_nleI c11; omega)) (by decide) (by have t1 : lx7.toInt < 156 := q_nleI c11; omega) (by have t1 : lx7.toInt < 156 := q_nleI c11; omega)) (by decide) (by have t1 : lx7.toInt < 156 := q_nleI c11; omega) (by have t1 : lx7.toInt < 156 := q_nleI c11; omega)) (by decide) (by have t1 : lx7.toInt < 156 := q_nleI c11; omega) (by have t1 : lx7.toInt < 156 := q_nleI c11; omega)) (by decide) (by have t1 : lx7.toInt < 156 := q_nleI c11; omega) (by have t1 : lx7.toInt < 156 := q_nleI c11; omega)) (by decide) (by have t1 : lx7.toInt < 156 := q_nleI c11; omega) (by have t1 : lx7.toInt < 156 := q_nleI c11; omega)) (q_addI (x := (9 * lx7.toInt)) (y := 9) (q_mulI (x := 9) (y := lx7.toInt) (by decide) rfl (by have t1 : lx7.toInt < 156 := q_nleI c11; omega) (by have t1 : lx7.toInt < 156 := q_nleI c11; omega)) (by decide) (by have t1 : lx7.toInt < 156 := q_nleI c11; omega) (by have t1 : lx7.toInt < 156 := q_nleI c11; omega)) (by have t1 : lx7.toInt < 156 := q_nleI c11; omega)))) (fun c36 => ?_)
      refine lv_aload_n hx hb d_17_7_171 rfl (lv_at hl 5 rfl) ?_
      refine lv_iload hx hb d_17_7_172 (lv_at hl 0 rfl) ?_
      refine lv_iload hx hb d_17_7_174 (lv_at hl 1 rfl) ?_
      refine lv_bipush (v := 10) hx hb d_17_7_176 (by decide) ?_
      refine lv_irem hx hb d_17_7_178 (by decide) ?_
      refine q_ti (v := 0) (by decide) ?_
      refine q_iast C0 V hA1 (q_ix (x := (((((((((9 * lx7.toInt) + 1) + 1) + 1) + 1) + 1) + 1) + 1) + 1)) (q_addI (x := ((((((((9 * lx7.toInt) + 1) + 1) + 1) + 1) + 1) + 1) + 1)) (y := 1) (q_addI (x := (((((((9 * lx7.toInt) + 1) + 1) + 1) + 1) + 1) + 1)) (y := 1) (q_addI (x := ((((((9 * lx7.toInt) + 1) + 1) + 1) + 1) + 1)) (y := 1) (q_addI (x := (((((9 * lx7.toInt) + 1) + 1) + 1) + 1)) (y := 1) (q_addI (x := ((((9 * lx7.toInt) + 1) + 1) + 1)) (y := 1) (q_addI (x := (((9 * lx7.toInt) + 1) + 1)) (y := 1) (q_addI (x := ((9 * lx7.toInt) + 1)) (y := 1) (q_addI (x := (9 * lx7.toInt)) (y := 1) (q_mulI (x := 9) (y := lx7.toInt) (by decide) rfl (by have t1 : lx7.toInt < 156 := q_nleI c11; omega) (by have t1 : lx7.toInt < 156 := q_nleI c11; omega)) (by decide) (by have t1 : lx7.toInt < 156 := q_nleI c11; omega) (by have t1 : lx7.toInt < 156 := q_nleI c11; omega)) (by decide) (by have t1 : lx7.toInt < 156 := q_nleI c11; omega) (by have t1 : lx7.toInt < 156 := q_nleI c11; omega)) (by decide) (by have t1 : lx7.toInt < 156 := q_nleI c11; omega) (by have t1 : lx7.toInt < 156 := q_nleI c11; omega)) (by decide) (by have t1 : lx7.toInt < 156 := q_nleI c11; omega) (by have t1 : lx7.toInt < 156 := q_nleI c11; omega)) (by decide) (by have t1 : lx7.toInt < 156 := q_nleI c11; omega) (by have t1 : lx7.toInt < 156 := q_nleI c11; omega)) (by decide) (by have t1 : lx7.toInt < 156 := q_nleI c11; omega) (by have t1 : lx7.toInt < 156 := q_nleI c11; omega)) (by decide) (by have t1 : lx7.toInt < 156 := q_nleI c11; omega) (by have t1 : lx7.toInt < 156 := q_nleI c11; omega)) (by decide) (by have t1 : lx7.toInt < 156 := q_nleI c11; omega) (by have t1 : lx7.toInt < 156 := q_nleI c11; omega)) (by have t1 : lx7.toInt < 156 := q_nleI c11; omega) (by have t1 : lx7.toInt < 156 := q_nleI c11; omega)) d_17_7_179 (fun H locs w37 hu38 hA1 V => ?_)
      replace hA1 := q_re (y := (qA1, .inl (g 0, 1404, .inl (fun _ => 0)))) hA1 (q_eI q_upd0)
      replace hA1 : w37[kA1]? = (some (qA1, .inl (g 0, 1404, .inl (fun _ => 0))) : Option (Nat × va_E)) := hA1
      replace hF := q_us hF hu38 (.head _)
      refine lv_iload hx hb d_17_7_180 (lv_at hl 1 rfl) ?_
      refine lv_bipush (v := 10) hx hb d_17_7_182 (by decide) ?_
      refine lv_idiv hx hb d_17_7_184 (by decide) ?_
      refine q_ti (v := 0) (by decide) ?_
      refine lv_istore (lv' := [(7, .int 0), (8, .int (((((((((9 * lx7) + 1) + 1) + 1) + 1) + 1) + 1) + 1) + 1)), (6, .int lx7), (4, .long 0), (0, .ref qO0), (1, .ref qA1), (2, .long 0)]) hx hb d_17_7_185 hl (by decide) rfl (fun ls hl => ?_)
      refine lv_iinc (v := (((((((((9 * lx7) + 1) + 1) + 1) + 1) + 1) + 1) + 1) + 1) + 1) (lv' := [(8, .int ((((((((((9 * lx7) + 1) + 1) + 1) + 1) + 1) + 1) + 1) + 1) + 1)), (7, .int 0), (6, .int lx7), (4, .long 0), (0, .ref qO0), (1, .ref qA1), (2, .long 0)]) hx hb d_17_7_187 hl (k := 1) rfl (rfl) (by decide) rfl (fun ls hl => ?_)
      refine lv_goto (tgt := 158) hx hb d_17_7_190 (by decide) ?_
      refine lv_iload hx hb d_17_7_158 (lv_at hl 0 rfl) ?_
      refine lv_bipush (v := 9) hx hb d_17_7_160 (by decide) ?_
      refine lv_iload hx hb d_17_7_162 (lv_at hl 2 rfl) ?_
      refine lv_imul hx hb d_17_7_164 ?_
      refine lv_bipush (v := 9) hx hb d_17_7_165 (by decide) ?_
      refine lv_iadd hx hb d_17_7_167 ?_
      refine lv_icmp_ge (tgt := 193) hx hb d_17_7_168 (by decide) (fun c39 => ?_) (fun c39 => absurd (q_Ile (x := ((9 * lx7.toInt) + 9)) (y := ((((((((((9 * lx7.toInt) + 1) + 1) + 1) + 1) + 1) + 1) + 1) + 1) + 1)) (q_addI (x := (9 * lx7.toInt)) (y := 9) (q_mulI (x := 9) (y := lx7.toInt) (by decide) rfl (by have t1 : lx7.toInt < 156 := q_nleI c11; omega) (by have t1 : lx7.toInt < 156 := q_nleI c11; omega)) (by decide) (by have t1 : lx7.toInt < 156 := q_nleI c11; omega) (by have t1 : lx7.toInt < 156 := q_nleI c11; omega)) (q_addI (x := (((((((((9 * lx7.toInt) + 1) + 1) + 1) + 1) + 1) + 1) + 1) + 1)) (y := 1) (q_addI (x := ((((((((9 * lx7.toInt) + 1) + 1) + 1) + 1) + 1) + 1) + 1)) (y := 1) (q_addI (x := (((((((9 * lx7.toInt) + 1) + 1) + 1) + 1) + 1) + 1)) (y := 1) (q_addI (x := ((((((9 * lx7.toInt) + 1) + 1) + 1) + 1) + 1)) (y := 1) (q_addI (x := (((((9 * lx7.toInt) + 1) + 1) + 1) + 1)) (y := 1) (q_addI (x := ((((9 * lx7.toInt) + 1) + 1) + 1)) (y := 1) (q_addI (x := (((9 * lx7.toInt) + 1) + 1)) (y := 1) (q_addI (x := ((9 * lx7.toInt) + 1)) (y := 1) (q_addI (x := (9 * lx7.toInt)) (y := 1) (q_mulI (x := 9) (y := lx7.toInt) (by decide) rfl (by have t1 : lx7.toInt < 156 := q_nleI c11; omega) (by have t1 : lx7.toInt < 156 := q_nleI c11; omega)) (by decide) (by have t1 : lx7.toInt < 156 := q_nleI c11; omega) (by have t1 : lx7.toInt < 156 := q_nleI c11; omega)) (by decide) (by have t1 : lx7.toInt < 156 := q_nleI c11; omega) (by have t1 : lx7.toInt < 156 := q_nleI c11; omega)) (by decide) (by have t1 : lx7.toInt < 156 := q_nleI c11; omega) (by have t1 : lx7.toInt < 156 := q_nleI c11; omega)) (by decide) (by have t1 : lx7.toInt < 156 := q_nleI c11; omega) (by have t1 : lx7.toInt < 156 := q_nleI c11; omega)) (by decide) (by have t1 : lx7.toInt < 156 := q_nleI c11; omega) (by have t1 : lx7.toInt < 156 := q_nleI c11; omega)) (by decide) (by have t1 : lx7.toInt < 156 := q_nleI c11; omega) (by have t1 : lx7.toInt < 156 := q_nleI c11; omega)) (by decide) (by have t1 : lx7.toInt < 156 := q_nleI c11; omega) (by have t1 : lx7.toInt < 156 := q_nleI c11; omega)) (by decide) (by have t1 : lx7.toInt < 156 := q_nleI c11; omega) (by have t1 : lx7.toInt < 156 := q_nleI c11; omega)) (by decide) (by have t1 : lx7.toInt < 156 := q_nleI c11; omega) (by have t1 : lx7.toInt < 156 := q_nleI c11; omega)) (by have t1 : lx7.toInt < 156 := q_nleI c11; omega)) c39)
      refine lv_iinc (v := lx7 + 1) (lv' := [(6, .int (lx7 + 1)), (8, .int ((((((((((9 * lx7) + 1) + 1) + 1) + 1) + 1) + 1) + 1) + 1) + 1)), (7, .int 0), (4, .long 0), (0, .ref qO0), (1, .ref qA1), (2, .long 0)]) hx hb d_17_7_193 hl (k := 2) rfl (rfl) (by decide) rfl (fun ls hl => ?_)
      refine lv_goto (tgt := 134) hx hb d_17_7_196 (by decide) ?_
      replace hO0 := (hu38 _ n_O0_A1).trans ((hu35 _ n_O0_A1).trans ((hu32 _ n_O0_A1).trans ((hu29 _ n_O0_A1).trans ((hu26 _ n_O0_A1).trans ((hu23 _ n_O0_A1).trans ((hu20 _ n_O0_A1).trans ((hu17 _ n_O0_A1).trans ((hu14 _ n_O0_A1).trans (hO0)))))))))
      replace hA3 := (hu38 _ n_A3_A1).trans ((hu35 _ n_A3_A1).trans ((hu32 _ n_A3_A1).trans ((hu29 _ n_A3_A1).trans ((hu26 _ n_A3_A1).trans ((hu23 _ n_A3_A1).trans ((hu20 _ n_A3_A1).trans ((hu17 _ n_A3_A1).trans ((hu14 _ n_A3_A1).trans (hA3)))))))))
      exact ih10 ((lx7 + 1 : Int32)) _ _ _ _ (show (156 - (lx7 + 1).toInt).toNat < (156 - lx7.toInt).toNat from by have t1 : lx7.toInt < 156 := q_nleI c11; have e : (lx7 + 1).toInt = (lx7.toInt + 1) := (q_addI (x := lx7.toInt) (y := 1) rfl (by decide) (by have t1 : lx7.toInt < 156 := q_nleI c11; omega) (by have t1 : lx7.toInt < 156 := q_nleI c11; omega)); omega) ⟨(show 0 ≤ (lx7 + 1).toInt ∧ ((lx7 + 1).toInt ≤ 156 ∨ (lx7 + 1).toInt = 0) from by have t1 : lx7.toInt < 156 := q_nleI c11; have e : (lx7 + 1).toInt = (lx7.toInt + 1) := (q_addI (x := lx7.toInt) (y := 1) rfl (by decide) (by have t1 : lx7.toInt < 156 := q_nleI c11; omega) (by have t1 : lx7.toInt < 156 := q_nleI c11; omega)); omega), V, q_lw hl (q_lw1 0 rfl (q_lw1 3 rfl (q_lw1 4 rfl (q_lw1 5 rfl (q_lw1 6 rfl q_lw0))))), hF, hO0, hA1, hA3⟩
  ·
    refine lv_aload_n hx hb d_17_7_11 rfl (lv_at hl 1 rfl) ?_
    refine q_get (ci := 15) (j := 2) (v := .ref qA3) C0 V i_FR rfl rfl hO0 (by decide) w_2077 rfl d_17_7_12 ?_
    refine lv_iload hx hb d_17_7_15 (lv_at hl 0 rfl) ?_
    refine lv_iconst (v := 0) hx hb d_17_7_17 (by decide) ?_
    refine q_iast C0 V hA3 (q_ix (x := lx1.toInt) rfl (by have t1 : lx1.toInt < 156 := q_nleI c5; omega) (by have t1 : lx1.toInt < 156 := q_nleI c5; omega)) d_17_7_18 (fun H locs w40 hu41 hA3 V => ?_)
    replace hA3 := q_re (y := (qA3, .inl (g 0, 156, .inl (fun _ => 0)))) hA3 (q_eI q_upd0)
    replace hA3 : w40[kA3]? = (some (qA3, .inl (g 0, 156, .inl (fun _ => 0))) : Option (Nat × va_E)) := hA3
    replace hF := q_us hF hu41 (.tail _ (.head _))
    refine lv_iinc (v := lx1 + 1) (lv' := [(4, .int (lx1 + 1)), (0, .ref qO0), (1, .ref qA1), (2, .long 0)]) hx hb d_17_7_19 hl (k := 0) rfl (rfl) (by decide) rfl (fun ls hl => ?_)
    refine lv_goto (tgt := 3) hx hb d_17_7_22 (by decide) ?_
    replace hO0 := (hu41 _ n_O0_A3).trans (hO0)
    replace hA1 := (hu41 _ n_A1_A3).trans (hA1)
    exact ih4 ((lx1 + 1 : Int32)) _ _ _ _ (show (156 - (lx1 + 1).toInt).toNat < (156 - lx1.toInt).toNat from by have t1 : lx1.toInt < 156 := q_nleI c5; have e : (lx1 + 1).toInt = (lx1.toInt + 1) := (q_addI (x := lx1.toInt) (y := 1) rfl (by decide) (by have t1 : lx1.toInt < 156 := q_nleI c5; omega) (by have t1 : lx1.toInt < 156 := q_nleI c5; omega)); omega) ⟨(show 0 ≤ (lx1 + 1).toInt ∧ ((lx1 + 1).toInt ≤ 156 ∨ (lx1 + 1).toInt = 0) from by have t1 : lx1.toInt < 156 := q_nleI c5; have e : (lx1 + 1).toInt = (lx1.toInt + 1) := (q_addI (x := lx1.toInt) (y := 1) rfl (by decide) (by have t1 : lx1.toInt < 156 := q_nleI c5; omega) (by have t1 : lx1.toInt < 156 := q_nleI c5; omega)); omega), V, q_lw hl (q_lw1 0 rfl (q_lw1 1 rfl (q_lw1 2 rfl (q_lw1 3 rfl q_lw0)))), hF, hO0, hA1, hA3⟩
theorem d_17_28_0 : decode prog_17_method_28_code 0 = .ok (.aload_n 0, 1) := by decide +kernel
theorem d_17_28_1 : decode prog_17_method_28_code 1 = .ok (.aload_n 0, 1) := by decide +kernel
theorem d_17_28_2 : decode prog_17_method_28_code 2 = .ok (.getfield 55, 3) := by decide +kernel
theorem d_17_28_5 : decode prog_17_method_28_code 5 = .ok (.invokevirtual 61, 3) := by decide +kernel
theorem w_2607 : (Cond.code ({ cls := "NumberHouseModel$FloatRows", name := "setUnit", desc := "(I)V" } : MethodName) prog_17_method_6_code (6 : Nat) (none : Option ClassFile.FieldType)) ∈ q_tbl := q_of 2607 (by decide +kernel) (by decide +kernel)
theorem w_2604 : (Cond.methodLink "NumberHouseModel$FloatRows" (61 : Nat) ({ cls := "NumberHouseModel$FloatRows", name := "setUnit", desc := "(I)V" } : MethodName)) ∈ q_tbl := q_of 2604 (by decide +kernel) (by decide +kernel)
theorem w_2606 : (Cond.instanceMethod ({ cls := "NumberHouseModel$FloatRows", name := "setUnit", desc := "(I)V" } : MethodName)) ∈ q_tbl := q_of 2606 (by decide +kernel) (by decide +kernel)
theorem ws_93 : Cond.selects "NumberHouseModel$FloatRows" (⟨"NumberHouseModel$FloatRows", "setUnit", "(I)V"⟩ : MethodName) (⟨"NumberHouseModel$FloatRows", "setUnit", "(I)V"⟩ : MethodName) ∈ q_tbl := q_ofs 93 (by decide +kernel) (by decide +kernel)
theorem LV_FR_61 : q_LV "NumberHouseModel$FloatRows" 61 y_FR_setUnit prog_17_method_6_code 6 none 1 := ⟨w_2607, w_17, w_2604, w_2606, ws_93, ⟨by decide, by decide, by decide +kernel⟩⟩
theorem d_17_28_8 : decode prog_17_method_28_code 8 = .ok (.aload_n 0, 1) := by decide +kernel
theorem d_17_28_9 : decode prog_17_method_28_code 9 = .ok (.aload_n 0, 1) := by decide +kernel
theorem d_17_28_10 : decode prog_17_method_28_code 10 = .ok (.getfield 16, 3) := by decide +kernel
theorem d_17_28_13 : decode prog_17_method_28_code 13 = .ok (.aload_n 0, 1) := by decide +kernel
theorem d_17_28_14 : decode prog_17_method_28_code 14 = .ok (.getfield 52, 3) := by decide +kernel
theorem d_17_28_17 : decode prog_17_method_28_code 17 = .ok (.invokevirtual 67, 3) := by decide +kernel
theorem w_2613 : (Cond.code ({ cls := "NumberHouseModel$FloatRows", name := "set", desc := "([IJ)V" } : MethodName) prog_17_method_7_code (12 : Nat) (none : Option ClassFile.FieldType)) ∈ q_tbl := q_of 2613 (by decide +kernel) (by decide +kernel)
theorem w_2610 : (Cond.methodLink "NumberHouseModel$FloatRows" (67 : Nat) ({ cls := "NumberHouseModel$FloatRows", name := "set", desc := "([IJ)V" } : MethodName)) ∈ q_tbl := q_of 2610 (by decide +kernel) (by decide +kernel)
theorem w_2612 : (Cond.instanceMethod ({ cls := "NumberHouseModel$FloatRows", name := "set", desc := "([IJ)V" } : MethodName)) ∈ q_tbl := q_of 2612 (by decide +kernel) (by decide +kernel)
theorem ws_94 : Cond.selects "NumberHouseModel$FloatRows" (⟨"NumberHouseModel$FloatRows", "set", "([IJ)V"⟩ : MethodName) (⟨"NumberHouseModel$FloatRows", "set", "([IJ)V"⟩ : MethodName) ∈ q_tbl := q_ofs 94 (by decide +kernel) (by decide +kernel)
theorem LV_FR_67 : q_LV "NumberHouseModel$FloatRows" 67 y_FR_set prog_17_method_7_code 12 none 2 := ⟨w_2613, w_17, w_2610, w_2612, ws_94, ⟨by decide, by decide, by decide +kernel⟩⟩
theorem d_17_28_20 : decode prog_17_method_28_code 20 = .ok (.return_, 1) := by decide +kernel
def y_FR_setValue : MethodName := ⟨"NumberHouseModel$FloatRows", "setValue", "()V"⟩
set_option maxRecDepth 100000 in
set_option maxHeartbeats 4000000 in
theorem c_FR_setValue (l : Launch) (D : va_G) (g : Nat → ClassId) (ws : va_W) (kO0 kA1 kA2 kA3 qO0 qA1 qA2 qA3 qA4 qA5 qA6 qA7 : Nat) (hO0 : ws[kO0]? = (some (qO0, .inr (15, [.int 0, .ref qA1, .ref qA2, .ref qA3, .ref qA4, .ref qA5, .ref qA6, .ref qA7, .int 0, .int 0, .int 0, .long 0, .int 52, .int 2047, .long 0, .int (-1074), .long 0, .int 0])) : Option (Nat × va_E))) (hA1 : ws[kA1]? = (some (qA1, .inl (g 0, 156, .inl (fun _ => 0))) : Option (Nat × va_E))) (hA2 : ws[kA2]? = (some (qA2, .inl (g 0, 156, .inl (fun _ => 0))) : Option (Nat × va_E))) (hA3 : ws[kA3]? = (some (qA3, .inl (g 0, 1404, .inl (fun _ => 0))) : Option (Nat × va_E))) (n_A1_A2 : kA1 ≠ kA2) (n_A1_A3 : kA1 ≠ kA3) (n_A3_A2 : kA3 ≠ kA2) : q_mV l y_FR_setValue prog_17_method_28_code 1 2 0 0 D g [.ref qO0] ws (fun u => ∃ (ex0 : Nat → Int32), q_un ws u [kA1, kA2, kA3] ∧ u[kA1]? = (some (qA1, .inl (g 0, 156, .inl ex0)) : Option (Nat × va_E)) ∧ u[kA2]? = (some (qA2, .inl (g 0, 156, .inl (fun _ => 0))) : Option (Nat × va_E)) ∧ u[kA3]? = (some (qA3, .inl (g 0, 1404, .inl (fun _ => 0))) : Option (Nat × va_E))) := by
  intro sz
  refine q_into (by decide) (Nat.le_of_ble_eq_true rfl) ?_
  intro p e s m below meth c ls hsz C0 V hl
  have hx := C0.1
  have hb := C0.2.1
  have hl : lv_has ls 1 [(0, .ref qO0)] := hl
  have n_A2_A1 := Ne.symm n_A1_A2
  have n_A3_A1 := Ne.symm n_A1_A3
  have n_O0_A1 := Ne.symm (q_df hA1 hO0)
  have n_O0_A2 := Ne.symm (q_df hA2 hO0)
  have n_O0_A3 := Ne.symm (q_df hA3 hO0)
  have hF : q_un ws ws [kA1, kA2, kA3] := q_u0
  refine lv_aload_n hx hb d_17_28_0 rfl (lv_at hl 0 rfl) ?_
  refine lv_aload_n hx hb d_17_28_1 rfl (lv_at hl 0 rfl) ?_
  refine q_get (ci := 15) (j := 15) (v := .int (-1074)) C0 V i_FR rfl rfl hO0 (by decide) w_2091 rfl d_17_28_2 ?_
  refine q_gov V (q_runV (As := [.int (-1074)]) (rest := []) (d := 1) (mc := 0) (ms := 0) (ci := 15) C0 V rfl LV_FR_61 (c_FR_setUnit l D g ws kO0 kA1 qO0 qA1 qA2 qA3 qA4 qA5 qA6 qA7 hO0 hA1 _) rfl rfl hO0 rfl hl.1 rfl (Nat.le_of_ble_eq_true rfl) ⟨by decide, by decide⟩ ⟨Nat.le_of_ble_eq_true rfl, Nat.le_of_ble_eq_true rfl⟩ d_17_28_5) (fun u2 H locs hp1 V => ?_)
  obtain ⟨y3, hg4, hA1⟩ := hp1
  replace hF := q_uc hF hg4 (q_sc (.head _) (fun _ h => absurd h List.not_mem_nil))
  refine lv_aload_n hx hb d_17_28_8 rfl (lv_at hl 0 rfl) ?_
  refine lv_aload_n hx hb d_17_28_9 rfl (lv_at hl 0 rfl) ?_
  replace hO0 := (hg4 _ (q_nc n_O0_A1 List.not_mem_nil)).trans (hO0)
  refine q_get (ci := 15) (j := 3) (v := .ref qA3) C0 V i_FR rfl rfl hO0 (by decide) w_2078 rfl d_17_28_10 ?_
  refine lv_aload_n hx hb d_17_28_13 rfl (lv_at hl 0 rfl) ?_
  refine q_get (ci := 15) (j := 14) (v := .long 0) C0 V i_FR rfl rfl hO0 (by decide) w_2090 rfl d_17_28_14 ?_
  replace hA3 := (hg4 _ (q_nc n_A3_A1 List.not_mem_nil)).trans (hA3)
  replace hA2 := (hg4 _ (q_nc n_A2_A1 List.not_mem_nil)).trans (hA2)
  refine q_gov V (q_runV (As := [.ref qA3, .long 0]) (rest := []) (d := 1) (mc := 0) (ms := 0) (ci := 15) C0 V rfl LV_FR_67 (c_FR_set l D g u2 kO0 kA3 kA2 qO0 qA3 qA1 qA2 qA4 qA5 qA6 qA7 hO0 hA3 hA2 n_A3_A2 _) rfl rfl hO0 rfl hl.1 rfl (Nat.le_of_ble_eq_true rfl) ⟨by decide, by decide⟩ ⟨Nat.le_of_ble_eq_true rfl, Nat.le_of_ble_eq_true rfl⟩ d_17_28_17) (fun u6 H locs hp5 V => ?_)
  obtain ⟨hg7, hA3, hA2⟩ := hp5
  replace hF := q_uc hF hg7 (q_sc (.tail _ (.tail _ (.head _))) (q_sc (.tail _ (.head _)) (fun _ h => absurd h List.not_mem_nil)))
  replace hA1 := (hg7 _ (q_nc n_A1_A3 (q_nc n_A1_A2 List.not_mem_nil))).trans (hA1)
  exact q_retv C0 V (⟨y3, hF, hA1, hA2, hA3⟩) d_17_28_20
theorem d_17_26_0 : decode prog_17_method_26_code 0 = .ok (.iconst 0, 1) := by decide +kernel
theorem d_17_26_1 : decode prog_17_method_26_code 1 = .ok (.istore_n 3, 1) := by decide +kernel
theorem d_17_26_2 : decode prog_17_method_26_code 2 = .ok (.iconst 0, 1) := by decide +kernel
theorem d_17_26_3 : decode prog_17_method_26_code 3 = .ok (.istore 4, 2) := by decide +kernel
theorem d_17_26_5 : decode prog_17_method_26_code 5 = .ok (.iload 4, 2) := by decide +kernel
theorem d_17_26_7 : decode prog_17_method_26_code 7 = .ok (.iload_n 1, 1) := by decide +kernel
theorem d_17_26_8 : decode prog_17_method_26_code 8 = .ok (.if_icmp .ge 29, 3) := by decide +kernel
theorem d_17_26_11 : decode prog_17_method_26_code 11 = .ok (.iload_n 3, 1) := by decide +kernel
theorem d_17_26_12 : decode prog_17_method_26_code 12 = .ok (.ifCond .ne 13, 3) := by decide +kernel
theorem d_17_26_15 : decode prog_17_method_26_code 15 = .ok (.aload_n 0, 1) := by decide +kernel
theorem d_17_26_16 : decode prog_17_method_26_code 16 = .ok (.getfield 16, 3) := by decide +kernel
theorem d_17_26_19 : decode prog_17_method_26_code 19 = .ok (.iload 4, 2) := by decide +kernel
theorem d_17_26_21 : decode prog_17_method_26_code 21 = .ok (.iaload, 1) := by decide +kernel
theorem d_17_26_22 : decode prog_17_method_26_code 22 = .ok (.ifCond .eq 7, 3) := by decide +kernel
theorem d_17_26_29 : decode prog_17_method_26_code 29 = .ok (.iconst 0, 1) := by decide +kernel
theorem d_17_26_30 : decode prog_17_method_26_code 30 = .ok (.istore_n 3, 1) := by decide +kernel
theorem d_17_26_31 : decode prog_17_method_26_code 31 = .ok (.iinc 4 1, 3) := by decide +kernel
theorem d_17_26_34 : decode prog_17_method_26_code 34 = .ok (.goto (-29), 3) := by decide +kernel
theorem d_17_26_37 : decode prog_17_method_26_code 37 = .ok (.iload_n 3, 1) := by decide +kernel
theorem d_17_26_38 : decode prog_17_method_26_code 38 = .ok (.ifCond .eq 7, 3) := by decide +kernel
theorem d_17_26_45 : decode prog_17_method_26_code 45 = .ok (.iconst 0, 1) := by decide +kernel
theorem d_17_26_46 : decode prog_17_method_26_code 46 = .ok (.ireturn, 1) := by decide +kernel
def y_FR_isMore : MethodName := ⟨"NumberHouseModel$FloatRows", "isMore", "(II)Z"⟩
set_option maxRecDepth 100000 in
set_option maxHeartbeats 4000000 in
theorem c_FR_isMore (l : Launch) (D : va_G) (g : Nat → ClassId) (ws : va_W) (kO0 kA3 qO0 qA1 qA2 qA3 qA4 qA5 qA6 qA7 : Nat) (hO0 : ws[kO0]? = (some (qO0, .inr (15, [.int 0, .ref qA1, .ref qA2, .ref qA3, .ref qA4, .ref qA5, .ref qA6, .ref qA7, .int 0, .int 0, .int 0, .long 0, .int 52, .int 2047, .long 0, .int (-1074), .long 0, .int 0])) : Option (Nat × va_E))) (hA3 : ws[kA3]? = (some (qA3, .inl (g 0, 1404, .inl (fun _ => 0))) : Option (Nat × va_E))) : q_mI l y_FR_isMore prog_17_method_26_code 5 (.boolean) 1 0 0 D g [.ref qO0, .int 6, .int 0] ws (fun r u => 0 = r ∧ ws = u) := by
  intro sz
  refine q_into (by decide) (Nat.le_of_ble_eq_true rfl) ?_
  intro p e s m below meth c ls hsz C0 V hl
  have hx := C0.1
  have hb := C0.2.1
  have hl : lv_has ls 5 [(0, .ref qO0), (1, .int 6), (2, .int 0)] := hl
  refine lv_iconst (v := 0) hx hb d_17_26_0 (by decide) ?_
  refine lv_istore_n (lv' := [(3, .int 0), (0, .ref qO0), (1, .int 6), (2, .int 0)]) hx hb d_17_26_1 rfl hl (by decide) rfl (fun ls hl => ?_)
  refine lv_iconst (v := 0) hx hb d_17_26_2 (by decide) ?_
  refine lv_istore (lv' := [(4, .int 0), (3, .int 0), (0, .ref qO0), (1, .int 6), (2, .int 0)]) hx hb d_17_26_3 hl (by decide) rfl (fun ls hl => ?_)
  refine lv_iload hx hb d_17_26_5 (lv_at hl 0 rfl) ?_
  refine lv_iload_n hx hb d_17_26_7 rfl (lv_at hl 3 rfl) ?_
  refine lv_icmp_ge (tgt := 37) hx hb d_17_26_8 (by decide) (fun c1 => absurd c1 (by decide)) (fun c1 => ?_)
  refine lv_iload_n hx hb d_17_26_11 rfl (lv_at hl 1 rfl) ?_
  refine lv_if_ne (tgt := 25) hx hb d_17_26_12 (by decide) (fun c2 => absurd (by decide) c2) (fun c2 => ?_)
  refine lv_aload_n hx hb d_17_26_15 rfl (lv_at hl 2 rfl) ?_
  refine q_get (ci := 15) (j := 3) (v := .ref qA3) C0 V i_FR rfl rfl hO0 (by decide) w_2078 rfl d_17_26_16 ?_
  refine lv_iload hx hb d_17_26_19 (lv_at hl 0 rfl) ?_
  refine q_iald C0 V hA3 (by unfold vp_in; decide) d_17_26_21 ?_
  refine q_ti (v := 0) (by first | rfl | decide | simp [upd, vp_updL, sb_cl0]) ?_
  refine lv_if_eq (tgt := 29) hx hb d_17_26_22 (by decide) (fun c3 => ?_) (fun c3 => absurd (by decide) c3)
  refine lv_iconst (v := 0) hx hb d_17_26_29 (by decide) ?_
  refine lv_istore_n (lv' := [(3, .int 0), (4, .int 0), (0, .ref qO0), (1, .int 6), (2, .int 0)]) hx hb d_17_26_30 rfl hl (by decide) rfl (fun ls hl => ?_)
  refine lv_iinc (v := 1) (lv' := [(4, .int 1), (3, .int 0), (0, .ref qO0), (1, .int 6), (2, .int 0)]) hx hb d_17_26_31 hl (k := 1) rfl (by decide) (by decide) rfl (fun ls hl => ?_)
  refine lv_goto (tgt := 5) hx hb d_17_26_34 (by decide) ?_
  refine lv_iload hx hb d_17_26_5 (lv_at hl 0 rfl) ?_
  refine lv_iload_n hx hb d_17_26_7 rfl (lv_at hl 3 rfl) ?_
  refine lv_icmp_ge (tgt := 37) hx hb d_17_26_8 (by decide) (fun c4 => absurd c4 (by decide)) (fun c4 => ?_)
  refine lv_iload_n hx hb d_17_26_11 rfl (lv_at hl 1 rfl) ?_
  refine lv_if_ne (tgt := 25) hx hb d_17_26_12 (by decide) (fun c5 => absurd (by decide) c5) (fun c5 => ?_)
  refine lv_aload_n hx hb d_17_26_15 rfl (lv_at hl 2 rfl) ?_
  refine q_get (ci := 15) (j := 3) (v := .ref qA3) C0 V i_FR rfl rfl hO0 (by decide) w_2078 rfl d_17_26_16 ?_
  refine lv_iload hx hb d_17_26_19 (lv_at hl 0 rfl) ?_
  refine q_iald C0 V hA3 (by unfold vp_in; decide) d_17_26_21 ?_
  refine q_ti (v := 0) (by first | rfl | decide | simp [upd, vp_updL, sb_cl0]) ?_
  refine lv_if_eq (tgt := 29) hx hb d_17_26_22 (by decide) (fun c6 => ?_) (fun c6 => absurd (by decide) c6)
  refine lv_iconst (v := 0) hx hb d_17_26_29 (by decide) ?_
  refine lv_istore_n (lv' := [(3, .int 0), (4, .int 1), (0, .ref qO0), (1, .int 6), (2, .int 0)]) hx hb d_17_26_30 rfl hl (by decide) rfl (fun ls hl => ?_)
  refine lv_iinc (v := 2) (lv' := [(4, .int 2), (3, .int 0), (0, .ref qO0), (1, .int 6), (2, .int 0)]) hx hb d_17_26_31 hl (k := 1) rfl (by decide) (by decide) rfl (fun ls hl => ?_)
  refine lv_goto (tgt := 5) hx hb d_17_26_34 (by decide) ?_
  refine lv_iload hx hb d_17_26_5 (lv_at hl 0 rfl) ?_
  refine lv_iload_n hx hb d_17_26_7 rfl (lv_at hl 3 rfl) ?_
  refine lv_icmp_ge (tgt := 37) hx hb d_17_26_8 (by decide) (fun c7 => absurd c7 (by decide)) (fun c7 => ?_)
  refine lv_iload_n hx hb d_17_26_11 rfl (lv_at hl 1 rfl) ?_
  refine lv_if_ne (tgt := 25) hx hb d_17_26_12 (by decide) (fun c8 => absurd (by decide) c8) (fun c8 => ?_)
  refine lv_aload_n hx hb d_17_26_15 rfl (lv_at hl 2 rfl) ?_
  refine q_get (ci := 15) (j := 3) (v := .ref qA3) C0 V i_FR rfl rfl hO0 (by decide) w_2078 rfl d_17_26_16 ?_
  refine lv_iload hx hb d_17_26_19 (lv_at hl 0 rfl) ?_
  refine q_iald C0 V hA3 (by unfold vp_in; decide) d_17_26_21 ?_
  refine q_ti (v := 0) (by first | rfl | decide | simp [upd, vp_updL, sb_cl0]) ?_
  refine lv_if_eq (tgt := 29) hx hb d_17_26_22 (by decide) (fun c9 => ?_) (fun c9 => absurd (by decide) c9)
  refine lv_iconst (v := 0) hx hb d_17_26_29 (by decide) ?_
  refine lv_istore_n (lv' := [(3, .int 0), (4, .int 2), (0, .ref qO0), (1, .int 6), (2, .int 0)]) hx hb d_17_26_30 rfl hl (by decide) rfl (fun ls hl => ?_)
  refine lv_iinc (v := 3) (lv' := [(4, .int 3), (3, .int 0), (0, .ref qO0), (1, .int 6), (2, .int 0)]) hx hb d_17_26_31 hl (k := 1) rfl (by decide) (by decide) rfl (fun ls hl => ?_)
  refine lv_goto (tgt := 5) hx hb d_17_26_34 (by decide) ?_
  refine lv_iload hx hb d_17_26_5 (lv_at hl 0 rfl) ?_
  refine lv_iload_n hx hb d_17_26_7 rfl (lv_at hl 3 rfl) ?_
  refine lv_icmp_ge (tgt := 37) hx hb d_17_26_8 (by decide) (fun c10 => absurd c10 (by decide)) (fun c10 => ?_)
  refine lv_iload_n hx hb d_17_26_11 rfl (lv_at hl 1 rfl) ?_
  refine lv_if_ne (tgt := 25) hx hb d_17_26_12 (by decide) (fun c11 => absurd (by decide) c11) (fun c11 => ?_)
  refine lv_aload_n hx hb d_17_26_15 rfl (lv_at hl 2 rfl) ?_
  refine q_get (ci := 15) (j := 3) (v := .ref qA3) C0 V i_FR rfl rfl hO0 (by decide) w_2078 rfl d_17_26_16 ?_
  refine lv_iload hx hb d_17_26_19 (lv_at hl 0 rfl) ?_
  refine q_iald C0 V hA3 (by unfold vp_in; decide) d_17_26_21 ?_
  refine q_ti (v := 0) (by first | rfl | decide | simp [upd, vp_updL, sb_cl0]) ?_
  refine lv_if_eq (tgt := 29) hx hb d_17_26_22 (by decide) (fun c12 => ?_) (fun c12 => absurd (by decide) c12)
  refine lv_iconst (v := 0) hx hb d_17_26_29 (by decide) ?_
  refine lv_istore_n (lv' := [(3, .int 0), (4, .int 3), (0, .ref qO0), (1, .int 6), (2, .int 0)]) hx hb d_17_26_30 rfl hl (by decide) rfl (fun ls hl => ?_)
  refine lv_iinc (v := 4) (lv' := [(4, .int 4), (3, .int 0), (0, .ref qO0), (1, .int 6), (2, .int 0)]) hx hb d_17_26_31 hl (k := 1) rfl (by decide) (by decide) rfl (fun ls hl => ?_)
  refine lv_goto (tgt := 5) hx hb d_17_26_34 (by decide) ?_
  refine lv_iload hx hb d_17_26_5 (lv_at hl 0 rfl) ?_
  refine lv_iload_n hx hb d_17_26_7 rfl (lv_at hl 3 rfl) ?_
  refine lv_icmp_ge (tgt := 37) hx hb d_17_26_8 (by decide) (fun c13 => absurd c13 (by decide)) (fun c13 => ?_)
  refine lv_iload_n hx hb d_17_26_11 rfl (lv_at hl 1 rfl) ?_
  refine lv_if_ne (tgt := 25) hx hb d_17_26_12 (by decide) (fun c14 => absurd (by decide) c14) (fun c14 => ?_)
  refine lv_aload_n hx hb d_17_26_15 rfl (lv_at hl 2 rfl) ?_
  refine q_get (ci := 15) (j := 3) (v := .ref qA3) C0 V i_FR rfl rfl hO0 (by decide) w_2078 rfl d_17_26_16 ?_
  refine lv_iload hx hb d_17_26_19 (lv_at hl 0 rfl) ?_
  refine q_iald C0 V hA3 (by unfold vp_in; decide) d_17_26_21 ?_
  refine q_ti (v := 0) (by first | rfl | decide | simp [upd, vp_updL, sb_cl0]) ?_
  refine lv_if_eq (tgt := 29) hx hb d_17_26_22 (by decide) (fun c15 => ?_) (fun c15 => absurd (by decide) c15)
  refine lv_iconst (v := 0) hx hb d_17_26_29 (by decide) ?_
  refine lv_istore_n (lv' := [(3, .int 0), (4, .int 4), (0, .ref qO0), (1, .int 6), (2, .int 0)]) hx hb d_17_26_30 rfl hl (by decide) rfl (fun ls hl => ?_)
  refine lv_iinc (v := 5) (lv' := [(4, .int 5), (3, .int 0), (0, .ref qO0), (1, .int 6), (2, .int 0)]) hx hb d_17_26_31 hl (k := 1) rfl (by decide) (by decide) rfl (fun ls hl => ?_)
  refine lv_goto (tgt := 5) hx hb d_17_26_34 (by decide) ?_
  refine lv_iload hx hb d_17_26_5 (lv_at hl 0 rfl) ?_
  refine lv_iload_n hx hb d_17_26_7 rfl (lv_at hl 3 rfl) ?_
  refine lv_icmp_ge (tgt := 37) hx hb d_17_26_8 (by decide) (fun c16 => absurd c16 (by decide)) (fun c16 => ?_)
  refine lv_iload_n hx hb d_17_26_11 rfl (lv_at hl 1 rfl) ?_
  refine lv_if_ne (tgt := 25) hx hb d_17_26_12 (by decide) (fun c17 => absurd (by decide) c17) (fun c17 => ?_)
  refine lv_aload_n hx hb d_17_26_15 rfl (lv_at hl 2 rfl) ?_
  refine q_get (ci := 15) (j := 3) (v := .ref qA3) C0 V i_FR rfl rfl hO0 (by decide) w_2078 rfl d_17_26_16 ?_
  refine lv_iload hx hb d_17_26_19 (lv_at hl 0 rfl) ?_
  refine q_iald C0 V hA3 (by unfold vp_in; decide) d_17_26_21 ?_
  refine q_ti (v := 0) (by first | rfl | decide | simp [upd, vp_updL, sb_cl0]) ?_
  refine lv_if_eq (tgt := 29) hx hb d_17_26_22 (by decide) (fun c18 => ?_) (fun c18 => absurd (by decide) c18)
  refine lv_iconst (v := 0) hx hb d_17_26_29 (by decide) ?_
  refine lv_istore_n (lv' := [(3, .int 0), (4, .int 5), (0, .ref qO0), (1, .int 6), (2, .int 0)]) hx hb d_17_26_30 rfl hl (by decide) rfl (fun ls hl => ?_)
  refine lv_iinc (v := 6) (lv' := [(4, .int 6), (3, .int 0), (0, .ref qO0), (1, .int 6), (2, .int 0)]) hx hb d_17_26_31 hl (k := 1) rfl (by decide) (by decide) rfl (fun ls hl => ?_)
  refine lv_goto (tgt := 5) hx hb d_17_26_34 (by decide) ?_
  refine lv_iload hx hb d_17_26_5 (lv_at hl 0 rfl) ?_
  refine lv_iload_n hx hb d_17_26_7 rfl (lv_at hl 3 rfl) ?_
  refine lv_icmp_ge (tgt := 37) hx hb d_17_26_8 (by decide) (fun c19 => ?_) (fun c19 => absurd (by decide) c19)
  refine lv_iload_n hx hb d_17_26_37 rfl (lv_at hl 1 rfl) ?_
  refine lv_if_eq (tgt := 45) hx hb d_17_26_38 (by decide) (fun c20 => ?_) (fun c20 => absurd (by decide) c20)
  refine lv_iconst (v := 0) hx hb d_17_26_45 (by decide) ?_
  exact q_retz C0 V (rfl) (⟨rfl, rfl⟩) d_17_26_46
theorem d_17_11_0 : decode prog_17_method_11_code 0 = .ok (.iconst 0, 1) := by decide +kernel
theorem d_17_11_1 : decode prog_17_method_11_code 1 = .ok (.istore_n 3, 1) := by decide +kernel
theorem d_17_11_2 : decode prog_17_method_11_code 2 = .ok (.iload_n 3, 1) := by decide +kernel
theorem d_17_11_3 : decode prog_17_method_11_code 3 = .ok (.sipush 1404, 3) := by decide +kernel
theorem d_17_11_6 : decode prog_17_method_11_code 6 = .ok (.if_icmp .ge 30, 3) := by decide +kernel
theorem d_17_11_36 : decode prog_17_method_11_code 36 = .ok (.iload_n 1, 1) := by decide +kernel
theorem d_17_11_37 : decode prog_17_method_11_code 37 = .ok (.istore_n 3, 1) := by decide +kernel
theorem d_17_11_38 : decode prog_17_method_11_code 38 = .ok (.iload_n 2, 1) := by decide +kernel
theorem d_17_11_39 : decode prog_17_method_11_code 39 = .ok (.istore 4, 2) := by decide +kernel
theorem d_17_11_41 : decode prog_17_method_11_code 41 = .ok (.iload 4, 2) := by decide +kernel
theorem d_17_11_43 : decode prog_17_method_11_code 43 = .ok (.ifCond .eq 54, 3) := by decide +kernel
theorem d_17_11_97 : decode prog_17_method_11_code 97 = .ok (.return_, 1) := by decide +kernel
theorem d_17_11_9 : decode prog_17_method_11_code 9 = .ok (.aload_n 0, 1) := by decide +kernel
theorem d_17_11_10 : decode prog_17_method_11_code 10 = .ok (.getfield 25, 3) := by decide +kernel
theorem d_17_11_13 : decode prog_17_method_11_code 13 = .ok (.iload_n 3, 1) := by decide +kernel
theorem d_17_11_14 : decode prog_17_method_11_code 14 = .ok (.iload_n 3, 1) := by decide +kernel
theorem d_17_11_15 : decode prog_17_method_11_code 15 = .ok (.iload_n 1, 1) := by decide +kernel
theorem d_17_11_16 : decode prog_17_method_11_code 16 = .ok (.if_icmp .ge 7, 3) := by decide +kernel
theorem d_17_11_23 : decode prog_17_method_11_code 23 = .ok (.aload_n 0, 1) := by decide +kernel
theorem d_17_11_24 : decode prog_17_method_11_code 24 = .ok (.getfield 16, 3) := by decide +kernel
theorem d_17_11_27 : decode prog_17_method_11_code 27 = .ok (.iload_n 3, 1) := by decide +kernel
theorem d_17_11_28 : decode prog_17_method_11_code 28 = .ok (.iaload, 1) := by decide +kernel
theorem d_17_11_29 : decode prog_17_method_11_code 29 = .ok (.iastore, 1) := by decide +kernel
theorem d_17_11_30 : decode prog_17_method_11_code 30 = .ok (.iinc 3 1, 3) := by decide +kernel
theorem d_17_11_33 : decode prog_17_method_11_code 33 = .ok (.goto (-31), 3) := by decide +kernel
theorem d_17_11_19 : decode prog_17_method_11_code 19 = .ok (.iconst 0, 1) := by decide +kernel
theorem d_17_11_20 : decode prog_17_method_11_code 20 = .ok (.goto 9, 3) := by decide +kernel
def y_FR_cut : MethodName := ⟨"NumberHouseModel$FloatRows", "cut", "(IZ)V"⟩
