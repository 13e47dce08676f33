def F_Dig_goesOutwards_J63 (K_F_Dig_goesOutwards_L26 : Int32 → Int32 → Int32) (x2 : Int32) (x3 : Int32) (t0_0 : Int32) (t0_1 : Int32) (t1_0 : (Nat → Int32)) (a11 : Int32) (lx14 : Int32) (lx32 : Int32) (lx33 : Int32) : Int32 := if (1 : Int32) < x3 then (if a11 = (5 : Int32) then (if lx33 = (0 : Int32) then (if x3 = (2 : Int32) then ((1 : Int32)) else (if (((F_Dig_figure (x2 - 1 : Int32) t0_0 t0_1 t1_0) : Int32) &&& 1 : Int32) = (1 : Int32) then ((1 : Int32)) else ((0 : Int32)))) else ((1 : Int32))) else (if a11 < (5 : Int32) then ((0 : Int32)) else ((1 : Int32)))) else (if x3 = (1 : Int32) then (if a11 = (0 : Int32) then (if lx33 = (0 : Int32) then ((0 : Int32)) else ((1 : Int32))) else ((1 : Int32))) else ((0 : Int32)))
def F_Dig_goesOutwards_L26 (x2 : Int32) (x3 : Int32) (t0_0 : Int32) (t0_1 : Int32) (t1_0 : (Nat → Int32)) (a11 : Int32) (lx14 : Int32) : Nat → Int32 → Int32 → Int32
  | 0, _, _ => default
  | fm + 1, lx32, lx33 => if t0_0 ≤ lx32 then (F_Dig_goesOutwards_J63 (F_Dig_goesOutwards_L26 x2 x3 t0_0 t0_1 t1_0 a11 lx14 fm) x2 x3 t0_0 t0_1 t1_0 a11 lx14 lx32 lx33) else (if lx33 = (0 : Int32) then (if (t1_0 lx32.toNatClampNeg : Int32) = (0 : Int32) then (F_Dig_goesOutwards_L26 x2 x3 t0_0 t0_1 t1_0 a11 lx14 fm (lx32 + 1 : Int32) 0) else (F_Dig_goesOutwards_L26 x2 x3 t0_0 t0_1 t1_0 a11 lx14 fm (lx32 + 1 : Int32) 1)) else (F_Dig_goesOutwards_J63 (F_Dig_goesOutwards_L26 x2 x3 t0_0 t0_1 t1_0 a11 lx14 fm) x2 x3 t0_0 t0_1 t1_0 a11 lx14 lx32 lx33))
def F_Dig_goesOutwards_J15 (x2 : Int32) (x3 : Int32) (t0_0 : Int32) (t0_1 : Int32) (t1_0 : (Nat → Int32)) (a11 : Int32) (lx14 : Int32) : Int32 := F_Dig_goesOutwards_L26 x2 x3 t0_0 t0_1 t1_0 a11 lx14 ((1026 - (if (x2 + 1 : Int32) < 0 then 0 else (x2 + 1 : Int32) : Int32).toInt).toNat + 1) (if (x2 + 1 : Int32) < 0 then 0 else (x2 + 1 : Int32) : Int32) lx14
def F_Dig_goesOutwards (x2 : Int32) (x3 : Int32) (t0_0 : Int32) (t0_1 : Int32) (t1_0 : (Nat → Int32)) : Int32 := if (0 : Int32) ≤ x2 then (F_Dig_goesOutwards_J15 x2 x3 t0_0 t0_1 t1_0 ((F_Dig_figure x2 t0_0 t0_1 t1_0) : Int32) 0) else (F_Dig_goesOutwards_J15 x2 x3 t0_0 t0_1 t1_0 ((F_Dig_figure x2 t0_0 t0_1 t1_0) : Int32) 1)
set_option maxRecDepth 100000 in
set_option maxHeartbeats 4000000 in
theorem X_Dig_goesOutwards (l : Launch) (D : va_G) (g : Nat → ClassId) (q : Nat → Nat) (ws : va_W) (x2 : Int32) (x3 : Int32) (hI : q_I (nsh g q) q ws) (t0_0 : Int32) (t0_1 : Int32) (hT0 : ws[36]? = (some (q 36, .inr (7, [.int t0_0, .int t0_1, .ref (q 37)])) : Option (Nat × va_E))) (t1_0 : (Nat → Int32)) (hT1 : ws[37]? = (some (q 37, .inl (g 2, 1026, .inl t1_0)) : Option (Nat × va_E))) : q_mI l y_Dig_goesOutwards prog_5_method_7_code 6 (.boolean) 2 0 0 D g [.ref (q 36), .int x2, .int x3] ws (fun r u => ws = u ∧ (0 ≤ r.toInt) ∧ (r.toInt ≤ 1) ∧ r = (F_Dig_goesOutwards x2 x3 t0_0 t0_1 t1_0)) := by
  intro sz
  refine q_into (by decide) (Nat.le_of_ble_eq_true rfl) ?_
  intro p e s m below meth c ls hsz C0 V hl
  have hx := C0.1
  have hb := C0.2.1
  obtain ⟨yy0_0, yy0_1, hh0, btt0_0, btt0_1⟩ := n_o36 hI
  obtain ⟨rfl, rfl⟩ : t0_0 = yy0_0 ∧ t0_1 = yy0_1 := by have z := Option.some.inj (hT0.symm.trans hh0); simpa using z
  replace btt0_0 : q_F (0 ≤ t0_0.toInt ∧ t0_0.toInt ≤ 1026) := btt0_0
  replace btt0_1 : q_F (-1000000 ≤ t0_1.toInt ∧ t0_1.toInt ≤ 1000000) := btt0_1
  have hl : lv_has ls 6 [(0, .ref (q 36)), (1, .int x2), (2, .int x3)] := hl
  refine lv_aload_n hx hb d_5_7_0 rfl (lv_at hl 0 rfl) ?_
  refine lv_iload_n hx hb d_5_7_1 rfl (lv_at hl 1 rfl) ?_
  refine q_goi V (q_runV (As := [.int x2]) (rest := []) (d := 1) (mc := 0) (ms := 0) (ci := 7) C0 V rfl LV_Dig_49 (X_Dig_figure l D g q ws  x2 hI t0_0 t0_1 hT0 t1_0 hT1  _) rfl rfl hT0 rfl hl.1 rfl (Nat.le_of_ble_eq_true rfl) ⟨by decide, by decide⟩ ⟨Nat.le_of_ble_eq_true rfl, Nat.le_of_ble_eq_true rfl⟩ d_5_7_2) (fun a11 u9 H locs hp10 V => ?_)
  obtain ⟨rfl, hE12⟩ := hp10
  have e13 : a11 = (F_Dig_figure x2 t0_0 t0_1 t1_0) := hE12
  refine lv_istore_n (lv' := [(3, .int a11), (0, .ref (q 36)), (1, .int x2), (2, .int x3)]) hx hb d_5_7_5 rfl hl (by decide) rfl (fun ls hl => ?_)
  refine lv_iload_n hx hb d_5_7_6 rfl (lv_at hl 2 rfl) ?_
  refine q_join (X := Int32) (fun z H locs ls _ => q_F (0 ≤ z.toInt) ∧ q_F (z.toInt ≤ 1) ∧ q_Wd D g (va_A ws sz) s ws H locs ∧ lv_has ls 6 [(3, .int a11), (0, .ref (q 36)), (1, .int x2), (2, .int x3)] ∧ F_Dig_goesOutwards_J15 x2 x3 t0_0 t0_1 t1_0 a11 z = (F_Dig_goesOutwards x2 x3 t0_0 t0_1 t1_0)) (fun z => [.int z]) 15 0 0 ?_ ?_
  ·
    rintro lx14 H locs ls _ ⟨i18, i19, V, hl, hR20⟩
    replace i18 : q_F (0 ≤ lx14.toInt) := i18
    replace i19 : q_F (lx14.toInt ≤ 1) := i19
    replace hl : lv_has ls 6 [(3, .int a11), (0, .ref (q 36)), (1, .int x2), (2, .int x3)] := hl
    refine lv_istore (lv' := [(4, .int lx14), (3, .int a11), (0, .ref (q 36)), (1, .int x2), (2, .int x3)]) hx hb d_5_7_15 hl (by decide) rfl (fun ls hl => ?_)
    refine lv_iload_n hx hb d_5_7_17 rfl (lv_at hl 3 rfl) ?_
    refine lv_iconst (v := 1) hx hb d_5_7_18 (by decide) ?_
    refine lv_iadd hx hb d_5_7_19 ?_
    obtain ⟨a25, e26⟩ := q_nm (x2 + 1 : Int32)
    refine q_ti (v := a25) e26 ?_
    refine lv_iconst (v := 0) hx hb d_5_7_20 (by decide) ?_
    refine q_max C0 hl.1 rfl w_1571 w_803 w_7 w_804 ⟨Nat.le_of_ble_eq_true rfl, Nat.le_of_ble_eq_true rfl⟩ ⟨Nat.le_of_ble_eq_true rfl, Nat.le_of_ble_eq_true rfl⟩ d_5_7_21 ?_
    obtain ⟨a27, e28⟩ := q_nm (if a25 < 0 then 0 else a25 : Int32)
    refine q_ti (v := a27) e28 ?_
    have b29 : q_F (a25.toInt ≤ a27.toInt ∧ 0 ≤ a27.toInt ∧ (a27.toInt = a25.toInt ∨ a27.toInt = 0)) := (by rw [← e28]; show a25.toInt ≤ (if a25 < 0 then 0 else a25 : Int32).toInt ∧ 0 ≤ (if a25 < 0 then 0 else a25 : Int32).toInt ∧ ((if a25 < 0 then 0 else a25 : Int32).toInt = a25.toInt ∨ (if a25 < 0 then 0 else a25 : Int32).toInt = 0); exact (by have y1 : (0 : Int32).toInt = 0 := rfl; have z := s_max (a := a25) (b := 0); omega))
    refine lv_istore (lv' := [(5, .int a27), (4, .int lx14), (3, .int a11), (0, .ref (q 36)), (1, .int x2), (2, .int x3)]) hx hb d_5_7_24 hl (by decide) rfl (fun ls hl => ?_)
    refine q_loop (X := Int32 × Int32) (fun z H locs ls _ => q_F (z.2.toInt ≤ 1) ∧ q_F (lx14.toInt ≤ z.2.toInt) ∧ q_F (z.2.toInt + a27.toInt ≤ z.1.toInt + lx14.toInt) ∧ q_Wd D g (va_A ws sz) s ws H locs ∧ lv_has ls 6 [(5, .int z.1), (4, .int z.2), (3, .int a11), (0, .ref (q 36)), (1, .int x2), (2, .int x3)] ∧ (∃ n, (1026 - z.1.toInt).toNat < n ∧ F_Dig_goesOutwards_L26 x2 x3 t0_0 t0_1 t1_0 a11 lx14 n z.1 z.2 = (F_Dig_goesOutwards x2 x3 t0_0 t0_1 t1_0))) (fun z => (1026 - z.1.toInt).toNat) ?_ ((a27 : Int32), (lx14 : Int32)) _ _ _ ws ⟨(show q_F (lx14.toInt ≤ 1) from (show lx14.toInt ≤ 1 from by have t1 : lx14.toInt ≤ 1 := i19; omega)), (show q_F (lx14.toInt ≤ lx14.toInt) from (show lx14.toInt ≤ lx14.toInt from by omega)), (show q_F (lx14.toInt + a27.toInt ≤ a27.toInt + lx14.toInt) from (show lx14.toInt + a27.toInt ≤ a27.toInt + lx14.toInt from by omega)), V, q_lw hl (q_lw1 0 rfl (q_lw1 1 rfl (q_lw1 2 rfl (q_lw1 3 rfl (q_lw1 4 rfl (q_lw1 5 rfl q_lw0)))))), ⟨((1026 - a27.toInt).toNat + 1), Nat.lt_succ_self _, (show F_Dig_goesOutwards_L26 x2 x3 t0_0 t0_1 t1_0 a11 lx14 ((1026 - a27.toInt).toNat + 1) a27 lx14 = (F_Dig_goesOutwards x2 x3 t0_0 t0_1 t1_0) from Eq.trans (by rw [← e28, ← e26, F_Dig_goesOutwards_J15.eq_1]) hR20)⟩⟩
    rintro ⟨lx32, lx33⟩ H locs ls _ ⟨i34, i35, i36, V, hl, ⟨fu40, hf41, hR38⟩⟩ ih37
    obtain ⟨fm42, rfl⟩ : ∃ m, fu40 = m + 1 := ⟨fu40 - 1, by omega⟩
    replace i34 : q_F (lx33.toInt ≤ 1) := i34
    replace i35 : q_F (lx14.toInt ≤ lx33.toInt) := i35
    replace i36 : q_F (lx33.toInt + a27.toInt ≤ lx32.toInt + lx14.toInt) := i36
    replace hl : lv_has ls 6 [(5, .int lx32), (4, .int lx33), (3, .int a11), (0, .ref (q 36)), (1, .int x2), (2, .int x3)] := hl
    refine lv_iload hx hb d_5_7_26 (lv_at hl 0 rfl) ?_
    refine lv_aload_n hx hb d_5_7_28 rfl (lv_at hl 3 rfl) ?_
    refine q_get (ci := 7) (j := 0) (v := .int t0_0) C0 V i_Dig rfl rfl hT0 (by decide) w_264 rfl d_5_7_29 ?_
    refine q_join (X := Unit) (fun z H locs ls _ => q_Wd D g (va_A ws sz) s ws H locs ∧ lv_has ls 6 [(4, .int lx33), (3, .int a11), (0, .ref (q 36)), (1, .int x2), (2, .int x3)] ∧ F_Dig_goesOutwards_J63 (F_Dig_goesOutwards_L26 x2 x3 t0_0 t0_1 t1_0 a11 lx14 fm42) x2 x3 t0_0 t0_1 t1_0 a11 lx14 lx32 lx33 = (F_Dig_goesOutwards x2 x3 t0_0 t0_1 t1_0)) (fun z => []) 63 0 0 ?_ ?_
    ·
      rintro _ H locs ls _ ⟨V, hl, hR46⟩
      replace hl : lv_has ls 6 [(4, .int lx33), (3, .int a11), (0, .ref (q 36)), (1, .int x2), (2, .int x3)] := hl
      refine lv_iload_n hx hb d_5_7_63 rfl (lv_at hl 4 rfl) ?_
      refine lv_iconst (v := 1) hx hb d_5_7_64 (by decide) ?_
      refine lv_icmp_gt (tgt := 88) hx hb d_5_7_65 (by decide) (fun c51 => ?_) (fun c51 => ?_)
      ·
        have b52 : q_F (1 < x3.toInt) := (q_ltI c51)
        refine lv_iload_n hx hb d_5_7_88 rfl (lv_at hl 1 rfl) ?_
        refine lv_iconst (v := 5) hx hb d_5_7_89 (by decide) ?_
        refine lv_icmp_ne (tgt := 98) hx hb d_5_7_90 (by decide) (fun c53 => ?_) (fun c53 => ?_)
        ·
          have b54 : q_F (a11.toInt ≠ 5) := (q_neI c53)
          refine lv_iload_n hx hb d_5_7_98 rfl (lv_at hl 1 rfl) ?_
          refine lv_iconst (v := 5) hx hb d_5_7_99 (by decide) ?_
          refine lv_icmp_lt (tgt := 107) hx hb d_5_7_100 (by decide) (fun c55 => ?_) (fun c55 => ?_)
          ·
            have b56 : q_F (a11.toInt < 5) := (q_ltI c55)
            refine lv_iconst (v := 0) hx hb d_5_7_107 (by decide) ?_
            exact q_retz C0 V (by decide) (⟨rfl, (show 0 ≤ (0 : Int32).toInt from (by have z5 : (0 : Int32).toInt = 0 := rfl; omega)), (show (0 : Int32).toInt ≤ 1 from (by have z5 : (0 : Int32).toInt = 0 := rfl; omega)), (show (0 : Int32) = (F_Dig_goesOutwards x2 x3 t0_0 t0_1 t1_0) from Eq.trans (by rw [F_Dig_goesOutwards_J63.eq_1, if_pos c51, if_neg c53, if_pos c55]) hR46)⟩) d_5_7_108
          ·
            have b57 : q_F (5 ≤ a11.toInt) := (q_nltI c55)
            refine lv_iconst (v := 1) hx hb d_5_7_103 (by decide) ?_
            refine lv_goto (tgt := 108) hx hb d_5_7_104 (by decide) ?_
            exact q_retz C0 V (by decide) (⟨rfl, (show 0 ≤ (1 : Int32).toInt from (by have z5 : (1 : Int32).toInt = 1 := rfl; omega)), (show (1 : Int32).toInt ≤ 1 from (by have z5 : (1 : Int32).toInt = 1 := rfl; omega)), (show (1 : Int32) = (F_Dig_goesOutwards x2 x3 t0_0 t0_1 t1_0) from Eq.trans (by rw [F_Dig_goesOutwards_J63.eq_1, if_pos c51, if_neg c53, if_neg c55]) hR46)⟩) d_5_7_108
        ·
          have b58 : q_F (a11.toInt = 5) := (q_eqI c53)
          refine lv_iload hx hb d_5_7_93 (lv_at hl 0 rfl) ?_
          refine lv_if_eq (tgt := 109) hx hb d_5_7_95 (by decide) (fun c59 => ?_) (fun c59 => ?_)
          ·
            have b60 : q_F (lx33.toInt = 0) := (q_eqI c59)
            refine lv_iload_n hx hb d_5_7_109 rfl (lv_at hl 4 rfl) ?_
            refine lv_iconst (v := 2) hx hb d_5_7_110 (by decide) ?_
            refine lv_icmp_eq (tgt := 127) hx hb d_5_7_111 (by decide) (fun c61 => ?_) (fun c61 => ?_)
            ·
              have b62 : q_F (x3.toInt = 2) := (q_eqI c61)
              refine lv_iconst (v := 1) hx hb d_5_7_127 (by decide) ?_
              refine lv_goto (tgt := 132) hx hb d_5_7_128 (by decide) ?_
              exact q_retz C0 V (by decide) (⟨rfl, (show 0 ≤ (1 : Int32).toInt from (by have z5 : (1 : Int32).toInt = 1 := rfl; omega)), (show (1 : Int32).toInt ≤ 1 from (by have z5 : (1 : Int32).toInt = 1 := rfl; omega)), (show (1 : Int32) = (F_Dig_goesOutwards x2 x3 t0_0 t0_1 t1_0) from Eq.trans (by rw [F_Dig_goesOutwards_J63.eq_1, if_pos c51, if_pos c53, if_pos c59, if_pos c61]) hR46)⟩) d_5_7_132
            ·
              have b63 : q_F (x3.toInt ≠ 2) := (q_neI c61)
              refine lv_aload_n hx hb d_5_7_114 rfl (lv_at hl 2 rfl) ?_
              refine lv_iload_n hx hb d_5_7_115 rfl (lv_at hl 3 rfl) ?_
              refine lv_iconst (v := 1) hx hb d_5_7_116 (by decide) ?_
              refine lv_isub hx hb d_5_7_117 ?_
              obtain ⟨a64, e65⟩ := q_nm (x2 - 1 : Int32)
              refine q_ti (v := a64) e65 ?_
              refine q_goi V (q_runV (As := [.int a64]) (rest := []) (d := 1) (mc := 0) (ms := 0) (ci := 7) C0 V rfl LV_Dig_49 (X_Dig_figure l D g q ws  a64 hI t0_0 t0_1 hT0 t1_0 hT1  _) rfl rfl hT0 rfl hl.1 rfl (Nat.le_of_ble_eq_true rfl) ⟨by decide, by decide⟩ ⟨Nat.le_of_ble_eq_true rfl, Nat.le_of_ble_eq_true rfl⟩ d_5_7_118) (fun a68 u66 H locs hp67 V => ?_)
              obtain ⟨rfl, hE69⟩ := hp67
              have e70 : a68 = (F_Dig_figure a64 t0_0 t0_1 t1_0) := hE69
              refine lv_iconst (v := 1) hx hb d_5_7_121 (by decide) ?_
              refine lv_iand hx hb d_5_7_122 ?_
              obtain ⟨a71, e72⟩ := q_nm (a68 &&& 1 : Int32)
              refine q_ti (v := a71) e72 ?_
              have b73 : q_F (0 ≤ a71.toInt ∧ a71.toInt ≤ 1) := (by rw [← e72]; show 0 ≤ (a68 &&& 1 : Int32).toInt ∧ (a68 &&& 1 : Int32).toInt ≤ 1; exact s_and (by decide))
              refine lv_iconst (v := 1) hx hb d_5_7_123 (by decide) ?_
              refine lv_icmp_ne (tgt := 131) hx hb d_5_7_124 (by decide) (fun c74 => ?_) (fun c74 => ?_)
              ·
                have b75 : q_F (a71.toInt ≠ 1) := (q_neI c74)
                refine lv_iconst (v := 0) hx hb d_5_7_131 (by decide) ?_
                exact q_retz C0 V (by decide) (⟨rfl, (show 0 ≤ (0 : Int32).toInt from (by have z5 : (0 : Int32).toInt = 0 := rfl; omega)), (show (0 : Int32).toInt ≤ 1 from (by have z5 : (0 : Int32).toInt = 0 := rfl; omega)), (show (0 : Int32) = (F_Dig_goesOutwards x2 x3 t0_0 t0_1 t1_0) from Eq.trans (by have c74x := c74; rw [← e72, e70, ← e65] at c74x; rw [F_Dig_goesOutwards_J63.eq_1, if_pos c51, if_pos c53, if_pos c59, if_neg c61, if_neg c74x]) hR46)⟩) d_5_7_132
              ·
                have b76 : q_F (a71.toInt = 1) := (q_eqI c74)
                refine lv_iconst (v := 1) hx hb d_5_7_127 (by decide) ?_
                refine lv_goto (tgt := 132) hx hb d_5_7_128 (by decide) ?_
                exact q_retz C0 V (by decide) (⟨rfl, (show 0 ≤ (1 : Int32).toInt from (by have z5 : (1 : Int32).toInt = 1 := rfl; omega)), (show (1 : Int32).toInt ≤ 1 from (by have z5 : (1 : Int32).toInt = 1 := rfl; omega)), (show (1 : Int32) = (F_Dig_goesOutwards x2 x3 t0_0 t0_1 t1_0) from Eq.trans (by have c74x := c74; rw [← e72, e70, ← e65] at c74x; rw [F_Dig_goesOutwards_J63.eq_1, if_pos c51, if_pos c53, if_pos c59, if_neg c61, if_pos c74x]) hR46)⟩) d_5_7_132
          ·
            have b77 : q_F (lx33.toInt ≠ 0) := (q_neI c59)
            refine lv_iload_n hx hb d_5_7_98 rfl (lv_at hl 1 rfl) ?_
            refine lv_iconst (v := 5) hx hb d_5_7_99 (by decide) ?_
            refine lv_icmp_lt (tgt := 107) hx hb d_5_7_100 (by decide) (fun c78 => absurd (show a11.toInt < 5 from q_ltI c78) (by have t1 : a11.toInt = 5 := b58; omega)) (fun c78 => ?_)
            refine lv_iconst (v := 1) hx hb d_5_7_103 (by decide) ?_
            refine lv_goto (tgt := 108) hx hb d_5_7_104 (by decide) ?_
            exact q_retz C0 V (by decide) (⟨rfl, (show 0 ≤ (1 : Int32).toInt from (by have z5 : (1 : Int32).toInt = 1 := rfl; omega)), (show (1 : Int32).toInt ≤ 1 from (by have z5 : (1 : Int32).toInt = 1 := rfl; omega)), (show (1 : Int32) = (F_Dig_goesOutwards x2 x3 t0_0 t0_1 t1_0) from Eq.trans (by rw [F_Dig_goesOutwards_J63.eq_1, if_pos c51, if_pos c53, if_neg c59]) hR46)⟩) d_5_7_108
      ·
        have b79 : q_F (x3.toInt ≤ 1) := (q_nltI c51)
        refine lv_iload_n hx hb d_5_7_68 rfl (lv_at hl 4 rfl) ?_
        refine lv_iconst (v := 1) hx hb d_5_7_69 (by decide) ?_
        refine lv_icmp_ne (tgt := 86) hx hb d_5_7_70 (by decide) (fun c80 => ?_) (fun c80 => ?_)
        ·
          have b81 : q_F (x3.toInt ≠ 1) := (q_neI c80)
          refine lv_iconst (v := 0) hx hb d_5_7_86 (by decide) ?_
          exact q_retz C0 V (by decide) (⟨rfl, (show 0 ≤ (0 : Int32).toInt from (by have z5 : (0 : Int32).toInt = 0 := rfl; omega)), (show (0 : Int32).toInt ≤ 1 from (by have z5 : (0 : Int32).toInt = 0 := rfl; omega)), (show (0 : Int32) = (F_Dig_goesOutwards x2 x3 t0_0 t0_1 t1_0) from Eq.trans (by rw [F_Dig_goesOutwards_J63.eq_1, if_neg c51, if_neg c80]) hR46)⟩) d_5_7_87
        ·
          have b82 : q_F (x3.toInt = 1) := (q_eqI c80)
          refine lv_iload_n hx hb d_5_7_73 rfl (lv_at hl 1 rfl) ?_
          refine lv_if_ne (tgt := 82) hx hb d_5_7_74 (by decide) (fun c83 => ?_) (fun c83 => ?_)
          ·
            have b84 : q_F (a11.toInt ≠ 0) := (q_neI c83)
            refine lv_iconst (v := 1) hx hb d_5_7_82 (by decide) ?_
            refine lv_goto (tgt := 87) hx hb d_5_7_83 (by decide) ?_
            exact q_retz C0 V (by decide) (⟨rfl, (show 0 ≤ (1 : Int32).toInt from (by have z5 : (1 : Int32).toInt = 1 := rfl; omega)), (show (1 : Int32).toInt ≤ 1 from (by have z5 : (1 : Int32).toInt = 1 := rfl; omega)), (show (1 : Int32) = (F_Dig_goesOutwards x2 x3 t0_0 t0_1 t1_0) from Eq.trans (by rw [F_Dig_goesOutwards_J63.eq_1, if_neg c51, if_pos c80, if_neg c83]) hR46)⟩) d_5_7_87
          ·
            have b85 : q_F (a11.toInt = 0) := (q_eqI c83)
            refine lv_iload hx hb d_5_7_77 (lv_at hl 0 rfl) ?_
            refine lv_if_eq (tgt := 86) hx hb d_5_7_79 (by decide) (fun c86 => ?_) (fun c86 => ?_)
            ·
              have b87 : q_F (lx33.toInt = 0) := (q_eqI c86)
              refine lv_iconst (v := 0) hx hb d_5_7_86 (by decide) ?_
              exact q_retz C0 V (by decide) (⟨rfl, (show 0 ≤ (0 : Int32).toInt from (by have z5 : (0 : Int32).toInt = 0 := rfl; omega)), (show (0 : Int32).toInt ≤ 1 from (by have z5 : (0 : Int32).toInt = 0 := rfl; omega)), (show (0 : Int32) = (F_Dig_goesOutwards x2 x3 t0_0 t0_1 t1_0) from Eq.trans (by rw [F_Dig_goesOutwards_J63.eq_1, if_neg c51, if_pos c80, if_pos c83, if_pos c86]) hR46)⟩) d_5_7_87
            ·
              have b88 : q_F (lx33.toInt ≠ 0) := (q_neI c86)
              refine lv_iconst (v := 1) hx hb d_5_7_82 (by decide) ?_
              refine lv_goto (tgt := 87) hx hb d_5_7_83 (by decide) ?_
              exact q_retz C0 V (by decide) (⟨rfl, (show 0 ≤ (1 : Int32).toInt from (by have z5 : (1 : Int32).toInt = 1 := rfl; omega)), (show (1 : Int32).toInt ≤ 1 from (by have z5 : (1 : Int32).toInt = 1 := rfl; omega)), (show (1 : Int32) = (F_Dig_goesOutwards x2 x3 t0_0 t0_1 t1_0) from Eq.trans (by rw [F_Dig_goesOutwards_J63.eq_1, if_neg c51, if_pos c80, if_pos c83, if_neg c86]) hR46)⟩) d_5_7_87
    ·
      intro J45
      refine lv_icmp_ge (tgt := 63) hx hb d_5_7_32 (by decide) (fun c89 => ?_) (fun c89 => ?_)
      ·
        have b90 : q_F (t0_0.toInt ≤ lx32.toInt) := (q_leI c89)
        exact J45 (()) _ _ _ ws ⟨V, q_lw hl (q_lw1 1 rfl (q_lw1 2 rfl (q_lw1 3 rfl (q_lw1 4 rfl (q_lw1 5 rfl q_lw0))))), (show F_Dig_goesOutwards_J63 (F_Dig_goesOutwards_L26 x2 x3 t0_0 t0_1 t1_0 a11 lx14 fm42) x2 x3 t0_0 t0_1 t1_0 a11 lx14 lx32 lx33 = (F_Dig_goesOutwards x2 x3 t0_0 t0_1 t1_0) from Eq.trans (by rw [F_Dig_goesOutwards_L26.eq_2, if_pos c89]) hR38)⟩
      ·
        have b91 : q_F (lx32.toInt < t0_0.toInt) := (q_nleI c89)
        refine lv_iload hx hb d_5_7_35 (lv_at hl 1 rfl) ?_
        refine lv_if_ne (tgt := 63) hx hb d_5_7_37 (by decide) (fun c92 => ?_) (fun c92 => ?_)
        ·
          have b93 : q_F (lx33.toInt ≠ 0) := (q_neI c92)
          exact J45 (()) _ _ _ ws ⟨V, q_lw hl (q_lw1 1 rfl (q_lw1 2 rfl (q_lw1 3 rfl (q_lw1 4 rfl (q_lw1 5 rfl q_lw0))))), (show F_Dig_goesOutwards_J63 (F_Dig_goesOutwards_L26 x2 x3 t0_0 t0_1 t1_0 a11 lx14 fm42) x2 x3 t0_0 t0_1 t1_0 a11 lx14 lx32 lx33 = (F_Dig_goesOutwards x2 x3 t0_0 t0_1 t1_0) from Eq.trans (by rw [F_Dig_goesOutwards_L26.eq_2, if_neg c89, if_neg c92]) hR38)⟩
        ·
          have b94 : q_F (lx33.toInt = 0) := (q_eqI c92)
          refine lv_aload_n hx hb d_5_7_40 rfl (lv_at hl 3 rfl) ?_
          refine q_get (ci := 7) (j := 2) (v := .ref (q 37)) C0 V i_Dig rfl rfl hT0 (by decide) w_269 rfl d_5_7_41 ?_
          refine lv_iload hx hb d_5_7_44 (lv_at hl 0 rfl) ?_
          refine q_bald C0 V hT1 (q_ix (x := lx32.toInt) rfl (by have t1 : a25.toInt ≤ a27.toInt ∧ 0 ≤ a27.toInt ∧ (a27.toInt = a25.toInt ∨ a27.toInt = 0) := b29; have t2 : lx14.toInt ≤ lx33.toInt := i35; have t3 : lx33.toInt + a27.toInt ≤ lx32.toInt + lx14.toInt := i36; omega) (by have t1 : a25.toInt ≤ a27.toInt ∧ 0 ≤ a27.toInt ∧ (a27.toInt = a25.toInt ∨ a27.toInt = 0) := b29; have t2 : lx14.toInt ≤ lx33.toInt := i35; have t3 : lx33.toInt + a27.toInt ≤ lx32.toInt + lx14.toInt := i36; have t4 : 0 ≤ t0_0.toInt ∧ t0_0.toInt ≤ 1026 := btt0_0; have t5 : lx32.toInt < t0_0.toInt := b91; omega)) d_5_7_46 ?_
          obtain ⟨a95, e96⟩ := q_nm (t1_0 lx32.toNatClampNeg : Int32)
          refine q_ti (v := a95) e96 ?_
          refine lv_if_eq (tgt := 54) hx hb d_5_7_47 (by decide) (fun c97 => ?_) (fun c97 => ?_)
          ·
            have b98 : q_F (a95.toInt = 0) := (q_eqI c97)
            refine lv_iconst (v := 0) hx hb d_5_7_54 (by decide) ?_
            refine lv_istore (lv' := [(4, .int 0), (5, .int lx32), (3, .int a11), (0, .ref (q 36)), (1, .int x2), (2, .int x3)]) hx hb d_5_7_55 hl (by decide) rfl (fun ls hl => ?_)
            obtain ⟨a99, e100⟩ := q_nm (lx32 + 1 : Int32)
            have b101 : q_F (a99.toInt = lx32.toInt + 1) := (by rw [← e100]; exact q_addI (y := 1) rfl (by decide) (by have _ := q_lo32 (x := lx32); have _ := q_hi32 (x := lx32); have t1 : lx32.toInt < t0_0.toInt := b91; have _ := q_lo32 (x := t0_0); have _ := q_hi32 (x := t0_0); omega) (by have _ := q_lo32 (x := lx32); have _ := q_hi32 (x := lx32); have t1 : lx32.toInt < t0_0.toInt := b91; have _ := q_lo32 (x := t0_0); have _ := q_hi32 (x := t0_0); omega))
            refine lv_iinc (v := a99) (lv' := [(5, .int a99), (4, .int 0), (3, .int a11), (0, .ref (q 36)), (1, .int x2), (2, .int x3)]) hx hb d_5_7_57 hl (k := 1) rfl (e100) (by decide) rfl (fun ls hl => ?_)
            refine lv_goto (tgt := 26) hx hb d_5_7_60 (by decide) ?_
            exact ih37 ((a99 : Int32), (0 : Int32)) _ _ _ ws (show (1026 - a99.toInt).toNat < (1026 - lx32.toInt).toNat from by have t1 : a99.toInt = lx32.toInt + 1 := b101; have t2 : 0 ≤ t0_0.toInt ∧ t0_0.toInt ≤ 1026 := btt0_0; have t3 : lx32.toInt < t0_0.toInt := b91; omega) ⟨(show q_F (0 ≤ 1) from (show 0 ≤ 1 from by omega)), (show q_F (lx14.toInt ≤ 0) from (show lx14.toInt ≤ 0 from by have t1 : lx14.toInt ≤ lx33.toInt := i35; have t2 : lx33.toInt = 0 := b94; omega)), (show q_F (0 + a27.toInt ≤ a99.toInt + lx14.toInt) from (show 0 + a27.toInt ≤ a99.toInt + lx14.toInt from by have t1 : 0 ≤ lx14.toInt := i18; have t2 : lx14.toInt ≤ lx33.toInt := i35; have t3 : lx33.toInt + a27.toInt ≤ lx32.toInt + lx14.toInt := i36; have t4 : a99.toInt = lx32.toInt + 1 := b101; omega)), V, q_lw hl (q_lw1 0 rfl (q_lw1 1 rfl (q_lw1 2 rfl (q_lw1 3 rfl (q_lw1 4 rfl (q_lw1 5 rfl q_lw0)))))), ⟨fm42, Nat.lt_of_lt_of_le (show (1026 - a99.toInt).toNat < (1026 - lx32.toInt).toNat from by have t1 : a99.toInt = lx32.toInt + 1 := b101; have t2 : 0 ≤ t0_0.toInt ∧ t0_0.toInt ≤ 1026 := btt0_0; have t3 : lx32.toInt < t0_0.toInt := b91; omega) (Nat.le_of_lt_succ hf41), (show F_Dig_goesOutwards_L26 x2 x3 t0_0 t0_1 t1_0 a11 lx14 fm42 a99 0 = (F_Dig_goesOutwards x2 x3 t0_0 t0_1 t1_0) from Eq.trans (by have c97x := c97; rw [← e96] at c97x; rw [← e100, F_Dig_goesOutwards_L26.eq_2, if_neg c89, if_pos c92, if_pos c97x]) hR38)⟩⟩
          ·
            have b102 : q_F (a95.toInt ≠ 0) := (q_neI c97)
            refine lv_iconst (v := 1) hx hb d_5_7_50 (by decide) ?_
            refine lv_goto (tgt := 55) hx hb d_5_7_51 (by decide) ?_
            refine lv_istore (lv' := [(4, .int 1), (5, .int lx32), (3, .int a11), (0, .ref (q 36)), (1, .int x2), (2, .int x3)]) hx hb d_5_7_55 hl (by decide) rfl (fun ls hl => ?_)
            obtain ⟨a103, e104⟩ := q_nm (lx32 + 1 : Int32)
            have b105 : q_F (a103.toInt = lx32.toInt + 1) := (by rw [← e104]; exact q_addI (y := 1) rfl (by decide) (by have _ := q_lo32 (x := lx32); have _ := q_hi32 (x := lx32); have t1 : lx32.toInt < t0_0.toInt := b91; have _ := q_lo32 (x := t0_0); have _ := q_hi32 (x := t0_0); omega) (by have _ := q_lo32 (x := lx32); have _ := q_hi32 (x := lx32); have t1 : lx32.toInt < t0_0.toInt := b91; have _ := q_lo32 (x := t0_0); have _ := q_hi32 (x := t0_0); omega))
            refine lv_iinc (v := a103) (lv' := [(5, .int a103), (4, .int 1), (3, .int a11), (0, .ref (q 36)), (1, .int x2), (2, .int x3)]) hx hb d_5_7_57 hl (k := 1) rfl (e104) (by decide) rfl (fun ls hl => ?_)
            refine lv_goto (tgt := 26) hx hb d_5_7_60 (by decide) ?_
            exact ih37 ((a103 : Int32), (1 : Int32)) _ _ _ ws (show (1026 - a103.toInt).toNat < (1026 - lx32.toInt).toNat from by have t1 : a103.toInt = lx32.toInt + 1 := b105; have t2 : 0 ≤ t0_0.toInt ∧ t0_0.toInt ≤ 1026 := btt0_0; have t3 : lx32.toInt < t0_0.toInt := b91; omega) ⟨(show q_F (1 ≤ 1) from (show 1 ≤ 1 from by omega)), (show q_F (lx14.toInt ≤ 1) from (show lx14.toInt ≤ 1 from by have t1 : lx14.toInt ≤ 1 := i19; omega)), (show q_F (1 + a27.toInt ≤ a103.toInt + lx14.toInt) from (show 1 + a27.toInt ≤ a103.toInt + lx14.toInt from by have t1 : 0 ≤ lx14.toInt := i18; have t2 : lx14.toInt ≤ lx33.toInt := i35; have t3 : lx33.toInt + a27.toInt ≤ lx32.toInt + lx14.toInt := i36; have t4 : a103.toInt = lx32.toInt + 1 := b105; omega)), V, q_lw hl (q_lw1 0 rfl (q_lw1 1 rfl (q_lw1 2 rfl (q_lw1 3 rfl (q_lw1 4 rfl (q_lw1 5 rfl q_lw0)))))), ⟨fm42, Nat.lt_of_lt_of_le (show (1026 - a103.toInt).toNat < (1026 - lx32.toInt).toNat from by have t1 : a103.toInt = lx32.toInt + 1 := b105; have t2 : 0 ≤ t0_0.toInt ∧ t0_0.toInt ≤ 1026 := btt0_0; have t3 : lx32.toInt < t0_0.toInt := b91; omega) (Nat.le_of_lt_succ hf41), (show F_Dig_goesOutwards_L26 x2 x3 t0_0 t0_1 t1_0 a11 lx14 fm42 a103 1 = (F_Dig_goesOutwards x2 x3 t0_0 t0_1 t1_0) from Eq.trans (by have c97x := c97; rw [← e96] at c97x; rw [← e104, F_Dig_goesOutwards_L26.eq_2, if_neg c89, if_pos c92, if_neg c97x]) hR38)⟩⟩
  ·
    intro J17
    refine lv_if_ge (tgt := 14) hx hb d_5_7_7 (by decide) (fun c106 => ?_) (fun c106 => ?_)
    ·
      have b107 : q_F (0 ≤ x2.toInt) := (q_leI c106)
      refine lv_iconst (v := 0) hx hb d_5_7_14 (by decide) ?_
      exact J17 ((0 : Int32)) _ _ _ ws ⟨(show q_F (0 ≤ 0) from (show 0 ≤ 0 from by omega)), (show q_F (0 ≤ 1) from (show 0 ≤ 1 from by omega)), V, q_lw hl (q_lw1 0 rfl (q_lw1 1 rfl (q_lw1 2 rfl (q_lw1 3 rfl q_lw0)))), (show F_Dig_goesOutwards_J15 x2 x3 t0_0 t0_1 t1_0 a11 0 = (F_Dig_goesOutwards x2 x3 t0_0 t0_1 t1_0) from (by rw [e13, F_Dig_goesOutwards.eq_1, if_pos c106]))⟩
    ·
      have b108 : q_F (x2.toInt < 0) := (q_nleI c106)
      refine lv_iconst (v := 1) hx hb d_5_7_10 (by decide) ?_
      refine lv_goto (tgt := 15) hx hb d_5_7_11 (by decide) ?_
      exact J17 ((1 : Int32)) _ _ _ ws ⟨(show q_F (0 ≤ 1) from (show 0 ≤ 1 from by omega)), (show q_F (1 ≤ 1) from (show 1 ≤ 1 from by omega)), V, q_lw hl (q_lw1 0 rfl (q_lw1 1 rfl (q_lw1 2 rfl (q_lw1 3 rfl q_lw0)))), (show F_Dig_goesOutwards_J15 x2 x3 t0_0 t0_1 t1_0 a11 1 = (F_Dig_goesOutwards x2 x3 t0_0 t0_1 t1_0) from (by rw [e13, F_Dig_goesOutwards.eq_1, if_neg c106]))⟩
def F_Dig_stepOutwards_J28 (K_F_Dig_stepOutwards_L7 : Int32 → (Int32 × Int32 × (Nat → Int32))) (x2 : Int32) (t0_0 : Int32) (t0_1 : Int32) (t1_0 : (Nat → Int32)) (lx13 : Int32) : Int32 × Int32 × (Nat → Int32) := if lx13 < (0 : Int32) then (if x2 ≤ (0 : Int32) then (((1 : Int32), (t0_1 + (1 - x2 : Int32) : Int32), (upd t1_0 (0 : Int32).toNatClampNeg (vp_nar .byte 1) : (Nat → Int32)))) else (((1 : Int32), (t0_1 + 1 : Int32), (upd t1_0 (0 : Int32).toNatClampNeg (vp_nar .byte 1) : (Nat → Int32))))) else (((lx13 + 1 : Int32), t0_1, (upd t1_0 lx13.toNatClampNeg (vp_nar .byte (((t1_0 lx13.toNatClampNeg : Int32) + 1 : Int32).toInt8.toInt32 : Int32)) : (Nat → Int32))))
def F_Dig_stepOutwards_L7 (x2 : Int32) (t0_0 : Int32) (t0_1 : Int32) (t1_0 : (Nat → Int32)) : Nat → Int32 → (Int32 × Int32 × (Nat → Int32))
  | 0, _ => default
  | fm + 1, lx13 => if lx13 < (0 : Int32) then (F_Dig_stepOutwards_J28 (F_Dig_stepOutwards_L7 x2 t0_0 t0_1 t1_0 fm) x2 t0_0 t0_1 t1_0 lx13) else (if (t1_0 lx13.toNatClampNeg : Int32) = (9 : Int32) then (F_Dig_stepOutwards_L7 x2 t0_0 t0_1 t1_0 fm (lx13 + (-1) : Int32)) else (F_Dig_stepOutwards_J28 (F_Dig_stepOutwards_L7 x2 t0_0 t0_1 t1_0 fm) x2 t0_0 t0_1 t1_0 lx13))
def F_Dig_stepOutwards (x2 : Int32) (t0_0 : Int32) (t0_1 : Int32) (t1_0 : (Nat → Int32)) : Int32 × Int32 × (Nat → Int32) := F_Dig_stepOutwards_L7 x2 t0_0 t0_1 t1_0 (((t0_0 - 1 : Int32).toInt - ((-1000000))).toNat + 1) (t0_0 - 1 : Int32)
set_option maxRecDepth 100000 in
set_option maxHeartbeats 4000000 in
theorem X_Dig_stepOutwards (l : Launch) (D : va_G) (g : Nat → ClassId) (q : Nat → Nat) (ws : va_W) (x2 : Int32) (hI : q_I (nsh g q) q ws) (t0_0 : Int32) (t0_1 : Int32) (hT0 : ws[36]? = (some (q 36, .inr (7, [.int t0_0, .int t0_1, .ref (q 37)])) : Option (Nat × va_E))) (t1_0 : (Nat → Int32)) (hT1 : ws[37]? = (some (q 37, .inl (g 2, 1026, .inl t1_0)) : Option (Nat × va_E))) (pre0 : 0 ≤ x2.toInt + 100000) (pre1 : x2.toInt ≤ 100000) (pre2 : 0 ≤ t0_1.toInt + 200000) (pre3 : t0_1.toInt ≤ 200000) : q_mV l y_Dig_stepOutwards prog_5_method_8_code 3 1 0 0 D g [.ref (q 36), .int x2] ws (fun u => q_I (nsh g q) q u ∧ q_un ws u [36, 37] ∧ ∃ (u0_0 : Int32) (u0_1 : Int32) (u1_0 : (Nat → Int32)), u[36]? = (some (q 36, .inr (7, [.int u0_0, .int u0_1, .ref (q 37)])) : Option (Nat × va_E)) ∧ u[37]? = (some (q 37, .inl (g 2, 1026, .inl u1_0)) : Option (Nat × va_E)) ∧ (1 ≤ u0_0.toInt) ∧ (u0_0.toInt ≤ 1026) ∧ (u0_0.toInt ≤ t0_0.toInt + 1) ∧ (t0_1.toInt ≤ u0_1.toInt) ∧ (u0_1.toInt ≤ t0_1.toInt + 100001) ∧ (u0_0, u0_1, u1_0) = (F_Dig_stepOutwards x2 t0_0 t0_1 t1_0)) := by
  intro sz
  refine q_into (by decide) (Nat.le_of_ble_eq_true rfl) ?_
  intro p e s m below meth c ls hsz C0 V hl
  have hx := C0.1
  have hb := C0.2.1
  obtain ⟨yy0_0, yy0_1, hh0, btt0_0, btt0_1⟩ := n_o36 hI
  obtain ⟨rfl, rfl⟩ : t0_0 = yy0_0 ∧ t0_1 = yy0_1 := by have z := Option.some.inj (hT0.symm.trans hh0); simpa using z
  replace btt0_0 : q_F (0 ≤ t0_0.toInt ∧ t0_0.toInt ≤ 1026) := btt0_0
  replace btt0_1 : q_F (-1000000 ≤ t0_1.toInt ∧ t0_1.toInt ≤ 1000000) := btt0_1
  replace pre0 : q_F (0 ≤ x2.toInt + 100000) := pre0
  replace pre1 : q_F (x2.toInt ≤ 100000) := pre1
  replace pre2 : q_F (0 ≤ t0_1.toInt + 200000) := pre2
  replace pre3 : q_F (t0_1.toInt ≤ 200000) := pre3
  have hF : q_un ws ws [36, 37] := q_u0
  have hl : lv_has ls 3 [(0, .ref (q 36)), (1, .int x2)] := hl
  refine lv_aload_n hx hb d_5_8_0 rfl (lv_at hl 0 rfl) ?_
  refine q_get (ci := 7) (j := 0) (v := .int t0_0) C0 V i_Dig rfl rfl hT0 (by decide) w_264 rfl d_5_8_1 ?_
  refine lv_iconst (v := 1) hx hb d_5_8_4 (by decide) ?_
  refine lv_isub hx hb d_5_8_5 ?_
  obtain ⟨a9, e10⟩ := q_nm (t0_0 - 1 : Int32)
  refine q_ti (v := a9) e10 ?_
  have b11 : q_F (a9.toInt = t0_0.toInt - 1) := (by rw [← e10]; show (t0_0 - 1 : Int32).toInt = t0_0.toInt - 1; exact q_subI (x := t0_0.toInt) (y := 1) rfl (by decide) (by have t1 : 0 ≤ t0_0.toInt ∧ t0_0.toInt ≤ 1026 := btt0_0; omega) (by have t1 : 0 ≤ t0_0.toInt ∧ t0_0.toInt ≤ 1026 := btt0_0; omega))
  refine lv_istore_n (lv' := [(2, .int a9), (0, .ref (q 36)), (1, .int x2)]) hx hb d_5_8_6 rfl hl (by decide) rfl (fun ls hl => ?_)
  refine q_loop (X := Int32) (fun z H locs ls _ => q_F (0 ≤ z.toInt + 1) ∧ q_F (z.toInt + 1 ≤ t0_0.toInt) ∧ q_Wd D g (va_A ws sz) s ws H locs ∧ lv_has ls 3 [(2, .int z), (0, .ref (q 36)), (1, .int x2)] ∧ (∃ n, (z.toInt - ((-1000000))).toNat < n ∧ F_Dig_stepOutwards_L7 x2 t0_0 t0_1 t1_0 n z = (F_Dig_stepOutwards x2 t0_0 t0_1 t1_0))) (fun z => (z.toInt - ((-1000000))).toNat) ?_ ((a9 : Int32)) _ _ _ ws ⟨(show q_F (0 ≤ a9.toInt + 1) from (show 0 ≤ a9.toInt + 1 from by have t1 : 0 ≤ t0_0.toInt ∧ t0_0.toInt ≤ 1026 := btt0_0; have t2 : a9.toInt = t0_0.toInt - 1 := b11; omega)), (show q_F (a9.toInt + 1 ≤ t0_0.toInt) from (show a9.toInt + 1 ≤ t0_0.toInt from by have t1 : a9.toInt = t0_0.toInt - 1 := b11; omega)), V, q_lw hl (q_lw1 0 rfl (q_lw1 1 rfl (q_lw1 2 rfl q_lw0))), ⟨((a9.toInt - ((-1000000))).toNat + 1), Nat.lt_succ_self _, (show F_Dig_stepOutwards_L7 x2 t0_0 t0_1 t1_0 ((a9.toInt - ((-1000000))).toNat + 1) a9 = (F_Dig_stepOutwards x2 t0_0 t0_1 t1_0) from (by rw [← e10, F_Dig_stepOutwards.eq_1]))⟩⟩
  rintro lx13 H locs ls _ ⟨i14, i15, V, hl, ⟨fu19, hf20, hR17⟩⟩ ih16
  obtain ⟨fm21, rfl⟩ : ∃ m, fu19 = m + 1 := ⟨fu19 - 1, by omega⟩
  replace i14 : q_F (0 ≤ lx13.toInt + 1) := i14
  replace i15 : q_F (lx13.toInt + 1 ≤ t0_0.toInt) := i15
  replace hl : lv_has ls 3 [(2, .int lx13), (0, .ref (q 36)), (1, .int x2)] := hl
  refine lv_iload_n hx hb d_5_8_7 rfl (lv_at hl 0 rfl) ?_
  refine q_join (X := Unit) (fun z H locs ls _ => q_Wd D g (va_A ws sz) s ws H locs ∧ lv_has ls 3 [(2, .int lx13), (0, .ref (q 36)), (1, .int x2)] ∧ F_Dig_stepOutwards_J28 (F_Dig_stepOutwards_L7 x2 t0_0 t0_1 t1_0 fm21) x2 t0_0 t0_1 t1_0 lx13 = (F_Dig_stepOutwards x2 t0_0 t0_1 t1_0)) (fun z => []) 28 0 0 ?_ ?_
  ·
    rintro _ H locs ls _ ⟨V, hl, hR25⟩
    replace hl : lv_has ls 3 [(2, .int lx13), (0, .ref (q 36)), (1, .int x2)] := hl
    refine lv_iload_n hx hb d_5_8_28 rfl (lv_at hl 0 rfl) ?_
    refine lv_if_lt (tgt := 51) hx hb d_5_8_29 (by decide) (fun c30 => ?_) (fun c30 => ?_)
    ·
      have b31 : q_F (lx13.toInt < 0) := (q_ltI c30)
      refine lv_aload_n hx hb d_5_8_51 rfl (lv_at hl 1 rfl) ?_
      refine lv_dup hx hb d_5_8_52 rfl ?_
      refine q_get (ci := 7) (j := 1) (v := .int t0_1) C0 V i_Dig rfl rfl hT0 (by decide) w_266 rfl d_5_8_53 ?_
      refine lv_iload_n hx hb d_5_8_56 rfl (lv_at hl 2 rfl) ?_
      refine lv_if_le (tgt := 64) hx hb d_5_8_57 (by decide) (fun c32 => ?_) (fun c32 => ?_)
      ·
        have b33 : q_F (x2.toInt ≤ 0) := (q_leI c32)
        refine lv_iconst (v := 1) hx hb d_5_8_64 (by decide) ?_
        refine lv_iload_n hx hb d_5_8_65 rfl (lv_at hl 2 rfl) ?_
        refine lv_isub hx hb d_5_8_66 ?_
        obtain ⟨a34, e35⟩ := q_nm (1 - x2 : Int32)
        refine q_ti (v := a34) e35 ?_
        have b36 : q_F (a34.toInt = 1 - x2.toInt) := (by rw [← e35]; show (1 - x2 : Int32).toInt = 1 - x2.toInt; exact q_subI (x := 1) (y := x2.toInt) (by decide) rfl (by have t1 : x2.toInt ≤ 100000 := pre1; have t2 : 0 ≤ x2.toInt + 100000 := pre0; omega) (by have t1 : x2.toInt ≤ 100000 := pre1; have t2 : 0 ≤ x2.toInt + 100000 := pre0; omega))
        refine lv_iadd hx hb d_5_8_67 ?_
        obtain ⟨a37, e38⟩ := q_nm (t0_1 + a34 : Int32)
        refine q_ti (v := a37) e38 ?_
        have b39 : q_F (a37.toInt = t0_1.toInt + a34.toInt) := (by rw [← e38]; show (t0_1 + a34 : Int32).toInt = t0_1.toInt + a34.toInt; exact q_addI (x := t0_1.toInt) (y := a34.toInt) rfl rfl (by have t1 : -1000000 ≤ t0_1.toInt ∧ t0_1.toInt ≤ 1000000 := btt0_1; have t2 : x2.toInt ≤ 100000 := pre1; have t3 : a34.toInt = 1 - x2.toInt := b36; have t4 : 0 ≤ x2.toInt + 100000 := pre0; omega) (by have t1 : -1000000 ≤ t0_1.toInt ∧ t0_1.toInt ≤ 1000000 := btt0_1; have t2 : x2.toInt ≤ 100000 := pre1; have t3 : a34.toInt = 1 - x2.toInt := b36; have t4 : 0 ≤ x2.toInt + 100000 := pre0; omega))
        refine q_put (ci := 7) (j := 1) (v := .int a37) (ty := .int) C0 V i_Dig o_Dig n_Dig rfl rfl hT0 (by decide) w_266 rfl rfl rfl rfl (Nat.le_of_ble_eq_true rfl) d_5_8_68 (fun H locs w40 hu41 hT0 V => ?_)
        replace hT0 : w40[36]? = (some (q 36, .inr (7, [.int t0_0, .int a37, .ref (q 37)])) : Option (Nat × va_E)) := hT0
        replace hI := n_p36 hI hu41 hT0 ⟨(by have t1 : 0 ≤ t0_0.toInt ∧ t0_0.toInt ≤ 1026 := btt0_0; omega), (by have t1 : 0 ≤ t0_0.toInt ∧ t0_0.toInt ≤ 1026 := btt0_0; omega)⟩ ⟨(by have t1 : x2.toInt ≤ 100000 := pre1; have t2 : 0 ≤ t0_1.toInt + 200000 := pre2; have t3 : a34.toInt = 1 - x2.toInt := b36; have t4 : a37.toInt = t0_1.toInt + a34.toInt := b39; omega), (by have t1 : 0 ≤ x2.toInt + 100000 := pre0; have t2 : t0_1.toInt ≤ 200000 := pre3; have t3 : a34.toInt = 1 - x2.toInt := b36; have t4 : a37.toInt = t0_1.toInt + a34.toInt := b39; omega)⟩
        replace hT1 := (hu41 _ (by decide)).trans hT1
        replace hF := q_us hF hu41 (by simp)
        refine lv_aload_n hx hb d_5_8_71 rfl (lv_at hl 1 rfl) ?_
        refine q_get (ci := 7) (j := 2) (v := .ref (q 37)) C0 V i_Dig rfl rfl hT0 (by decide) w_269 rfl d_5_8_72 ?_
        refine lv_iconst (v := 0) hx hb d_5_8_75 (by decide) ?_
        refine lv_iconst (v := 1) hx hb d_5_8_76 (by decide) ?_
        refine q_bast C0 V hT1 (q_ix (x := 0) (by decide) (by omega) (by omega)) d_5_8_77 (fun H locs w42 hu43 hT1 V => ?_)
        replace hI := n_ai' hI (n_s37 g q) hu43 hT1 (q_updB (fun _ => s_bnd) s_bnd)
        replace hT0 := (hu43 _ (by decide)).trans hT0
        replace hF := q_us hF hu43 (by simp)
        obtain ⟨f44, e45⟩ := q_nm (upd t1_0 (0 : Int32).toNatClampNeg (vp_nar .byte 1) : (Nat → Int32))
        rw [e45] at hT1
        refine lv_aload_n hx hb d_5_8_78 rfl (lv_at hl 1 rfl) ?_
        refine lv_iconst (v := 1) hx hb d_5_8_79 (by decide) ?_
        refine q_put (ci := 7) (j := 0) (v := .int 1) (ty := .int) C0 V i_Dig o_Dig n_Dig rfl rfl hT0 (by decide) w_264 rfl rfl rfl rfl (Nat.le_of_ble_eq_true rfl) d_5_8_80 (fun H locs w46 hu47 hT0 V => ?_)
        replace hT0 : w46[36]? = (some (q 36, .inr (7, [.int 1, .int a37, .ref (q 37)])) : Option (Nat × va_E)) := hT0
        replace hI := n_p36 hI hu47 hT0 ⟨(by have z9 : (1 : Int32).toInt = 1 := rfl; omega), (by have z9 : (1 : Int32).toInt = 1 := rfl; omega)⟩ ⟨(by have t1 : x2.toInt ≤ 100000 := pre1; have t2 : 0 ≤ t0_1.toInt + 200000 := pre2; have t3 : a34.toInt = 1 - x2.toInt := b36; have t4 : a37.toInt = t0_1.toInt + a34.toInt := b39; omega), (by have t1 : 0 ≤ x2.toInt + 100000 := pre0; have t2 : t0_1.toInt ≤ 200000 := pre3; have t3 : a34.toInt = 1 - x2.toInt := b36; have t4 : a37.toInt = t0_1.toInt + a34.toInt := b39; omega)⟩
        replace hT1 := (hu47 _ (by decide)).trans hT1
        replace hF := q_us hF hu47 (by simp)
        exact q_retv C0 V (⟨hI, hF, 1, a37, f44, hT0, hT1, (show 1 ≤ (1 : Int32).toInt from (by have z4 : (1 : Int32).toInt = 1 := rfl; omega)), (show (1 : Int32).toInt ≤ 1026 from (by have z4 : (1 : Int32).toInt = 1 := rfl; omega)), (show (1 : Int32).toInt ≤ t0_0.toInt + 1 from (by have z4 : (1 : Int32).toInt = 1 := rfl; have t1 : 0 ≤ t0_0.toInt ∧ t0_0.toInt ≤ 1026 := btt0_0; omega)), (show t0_1.toInt ≤ a37.toInt from (by have z4 : (1 : Int32).toInt = 1 := rfl; have t1 : x2.toInt ≤ 0 := b33; have t2 : a34.toInt = 1 - x2.toInt := b36; have t3 : a37.toInt = t0_1.toInt + a34.toInt := b39; omega)), (show a37.toInt ≤ t0_1.toInt + 100001 from (by have z4 : (1 : Int32).toInt = 1 := rfl; have t1 : 0 ≤ x2.toInt + 100000 := pre0; have t2 : a34.toInt = 1 - x2.toInt := b36; have t3 : a37.toInt = t0_1.toInt + a34.toInt := b39; omega)), (show ((1 : Int32), a37, f44) = (F_Dig_stepOutwards x2 t0_0 t0_1 t1_0) from Eq.trans (by rw [← e45, ← e38, ← e35, F_Dig_stepOutwards_J28.eq_1, if_pos c30, if_pos c32]) hR25)⟩) d_5_8_83
      ·
        have b48 : q_F (0 < x2.toInt) := (q_nleI c32)
        refine lv_iconst (v := 1) hx hb d_5_8_60 (by decide) ?_
        refine lv_goto (tgt := 67) hx hb d_5_8_61 (by decide) ?_
        refine lv_iadd hx hb d_5_8_67 ?_
        obtain ⟨a49, e50⟩ := q_nm (t0_1 + 1 : Int32)
        refine q_ti (v := a49) e50 ?_
        have b51 : q_F (a49.toInt = t0_1.toInt + 1) := (by rw [← e50]; show (t0_1 + 1 : Int32).toInt = t0_1.toInt + 1; exact q_addI (x := t0_1.toInt) (y := 1) rfl (by decide) (by have t1 : -1000000 ≤ t0_1.toInt ∧ t0_1.toInt ≤ 1000000 := btt0_1; omega) (by have t1 : -1000000 ≤ t0_1.toInt ∧ t0_1.toInt ≤ 1000000 := btt0_1; omega))
        refine q_put (ci := 7) (j := 1) (v := .int a49) (ty := .int) C0 V i_Dig o_Dig n_Dig rfl rfl hT0 (by decide) w_266 rfl rfl rfl rfl (Nat.le_of_ble_eq_true rfl) d_5_8_68 (fun H locs w52 hu53 hT0 V => ?_)
        replace hT0 : w52[36]? = (some (q 36, .inr (7, [.int t0_0, .int a49, .ref (q 37)])) : Option (Nat × va_E)) := hT0
        replace hI := n_p36 hI hu53 hT0 ⟨(by have t1 : 0 ≤ t0_0.toInt ∧ t0_0.toInt ≤ 1026 := btt0_0; omega), (by have t1 : 0 ≤ t0_0.toInt ∧ t0_0.toInt ≤ 1026 := btt0_0; omega)⟩ ⟨(by have t1 : -1000000 ≤ t0_1.toInt ∧ t0_1.toInt ≤ 1000000 := btt0_1; have t2 : a49.toInt = t0_1.toInt + 1 := b51; omega), (by have t1 : t0_1.toInt ≤ 200000 := pre3; have t2 : a49.toInt = t0_1.toInt + 1 := b51; omega)⟩
        replace hT1 := (hu53 _ (by decide)).trans hT1
        replace hF := q_us hF hu53 (by simp)
        refine lv_aload_n hx hb d_5_8_71 rfl (lv_at hl 1 rfl) ?_
        refine q_get (ci := 7) (j := 2) (v := .ref (q 37)) C0 V i_Dig rfl rfl hT0 (by decide) w_269 rfl d_5_8_72 ?_
        refine lv_iconst (v := 0) hx hb d_5_8_75 (by decide) ?_
        refine lv_iconst (v := 1) hx hb d_5_8_76 (by decide) ?_
        refine q_bast C0 V hT1 (q_ix (x := 0) (by decide) (by omega) (by omega)) d_5_8_77 (fun H locs w54 hu55 hT1 V => ?_)
        replace hI := n_ai' hI (n_s37 g q) hu55 hT1 (q_updB (fun _ => s_bnd) s_bnd)
        replace hT0 := (hu55 _ (by decide)).trans hT0
        replace hF := q_us hF hu55 (by simp)
        obtain ⟨f56, e57⟩ := q_nm (upd t1_0 (0 : Int32).toNatClampNeg (vp_nar .byte 1) : (Nat → Int32))
        rw [e57] at hT1
        refine lv_aload_n hx hb d_5_8_78 rfl (lv_at hl 1 rfl) ?_
        refine lv_iconst (v := 1) hx hb d_5_8_79 (by decide) ?_
        refine q_put (ci := 7) (j := 0) (v := .int 1) (ty := .int) C0 V i_Dig o_Dig n_Dig rfl rfl hT0 (by decide) w_264 rfl rfl rfl rfl (Nat.le_of_ble_eq_true rfl) d_5_8_80 (fun H locs w58 hu59 hT0 V => ?_)
        replace hT0 : w58[36]? = (some (q 36, .inr (7, [.int 1, .int a49, .ref (q 37)])) : Option (Nat × va_E)) := hT0
        replace hI := n_p36 hI hu59 hT0 ⟨(by have z9 : (1 : Int32).toInt = 1 := rfl; omega), (by have z9 : (1 : Int32).toInt = 1 := rfl; omega)⟩ ⟨(by have t1 : -1000000 ≤ t0_1.toInt ∧ t0_1.toInt ≤ 1000000 := btt0_1; have t2 : a49.toInt = t0_1.toInt + 1 := b51; omega), (by have t1 : t0_1.toInt ≤ 200000 := pre3; have t2 : a49.toInt = t0_1.toInt + 1 := b51; omega)⟩
        replace hT1 := (hu59 _ (by decide)).trans hT1
        replace hF := q_us hF hu59 (by simp)
        exact q_retv C0 V (⟨hI, hF, 1, a49, f56, hT0, hT1, (show 1 ≤ (1 : Int32).toInt from (by have z4 : (1 : Int32).toInt = 1 := rfl; omega)), (show (1 : Int32).toInt ≤ 1026 from (by have z4 : (1 : Int32).toInt = 1 := rfl; omega)), (show (1 : Int32).toInt ≤ t0_0.toInt + 1 from (by have z4 : (1 : Int32).toInt = 1 := rfl; have t1 : 0 ≤ t0_0.toInt ∧ t0_0.toInt ≤ 1026 := btt0_0; omega)), (show t0_1.toInt ≤ a49.toInt from (by have z4 : (1 : Int32).toInt = 1 := rfl; have t1 : a49.toInt = t0_1.toInt + 1 := b51; omega)), (show a49.toInt ≤ t0_1.toInt + 100001 from (by have z4 : (1 : Int32).toInt = 1 := rfl; have t1 : a49.toInt = t0_1.toInt + 1 := b51; omega)), (show ((1 : Int32), a49, f56) = (F_Dig_stepOutwards x2 t0_0 t0_1 t1_0) from Eq.trans (by rw [← e57, ← e50, F_Dig_stepOutwards_J28.eq_1, if_pos c30, if_neg c32]) hR25)⟩) d_5_8_83
    ·
      have b60 : q_F (0 ≤ lx13.toInt) := (q_nltI c30)
      refine lv_aload_n hx hb d_5_8_32 rfl (lv_at hl 1 rfl) ?_
      refine q_get (ci := 7) (j := 2) (v := .ref (q 37)) C0 V i_Dig rfl rfl hT0 (by decide) w_269 rfl d_5_8_33 ?_
      refine lv_iload_n hx hb d_5_8_36 rfl (lv_at hl 0 rfl) ?_
      refine lv_dup2_11 hx hb d_5_8_37 rfl rfl ?_
      refine q_bald C0 V hT1 (q_ix (x := lx13.toInt) rfl (by have t1 : 0 ≤ lx13.toInt := b60; omega) (by have t1 : 0 ≤ lx13.toInt := b60; have t2 : 0 ≤ t0_0.toInt ∧ t0_0.toInt ≤ 1026 := btt0_0; have t3 : lx13.toInt + 1 ≤ t0_0.toInt := i15; omega)) d_5_8_38 ?_
      obtain ⟨a61, e62⟩ := q_nm (t1_0 lx13.toNatClampNeg : Int32)
      refine q_ti (v := a61) e62 ?_
      refine lv_iconst (v := 1) hx hb d_5_8_39 (by decide) ?_
      refine lv_iadd hx hb d_5_8_40 ?_
      obtain ⟨a63, e64⟩ := q_nm (a61 + 1 : Int32)
      refine q_ti (v := a63) e64 ?_
      refine lv_i2b hx hb d_5_8_41 rfl ?_
      obtain ⟨a65, e66⟩ := q_nm (a63.toInt8.toInt32 : Int32)
      refine q_ti (v := a65) e66 ?_
      refine q_bast C0 V hT1 (q_ix (x := lx13.toInt) rfl (by have t1 : 0 ≤ lx13.toInt := b60; omega) (by have t1 : 0 ≤ lx13.toInt := b60; have t2 : 0 ≤ t0_0.toInt ∧ t0_0.toInt ≤ 1026 := btt0_0; have t3 : lx13.toInt + 1 ≤ t0_0.toInt := i15; omega)) d_5_8_42 (fun H locs w67 hu68 hT1 V => ?_)
      replace hI := n_ai' hI (n_s37 g q) hu68 hT1 (q_updB (fun _ => s_bnd) s_bnd)
      replace hT0 := (hu68 _ (by decide)).trans hT0
      replace hF := q_us hF hu68 (by simp)
      obtain ⟨f69, e70⟩ := q_nm (upd t1_0 lx13.toNatClampNeg (vp_nar .byte a65) : (Nat → Int32))
      rw [e70] at hT1
      refine lv_aload_n hx hb d_5_8_43 rfl (lv_at hl 1 rfl) ?_
      refine lv_iload_n hx hb d_5_8_44 rfl (lv_at hl 0 rfl) ?_
      refine lv_iconst (v := 1) hx hb d_5_8_45 (by decide) ?_
      refine lv_iadd hx hb d_5_8_46 ?_
      obtain ⟨a71, e72⟩ := q_nm (lx13 + 1 : Int32)
      refine q_ti (v := a71) e72 ?_
      have b73 : q_F (a71.toInt = lx13.toInt + 1) := (by rw [← e72]; show (lx13 + 1 : Int32).toInt = lx13.toInt + 1; exact q_addI (x := lx13.toInt) (y := 1) rfl (by decide) (by have t1 : 0 ≤ lx13.toInt + 1 := i14; have t2 : lx13.toInt + 1 ≤ t0_0.toInt := i15; have _ := q_lo32 (x := t0_0); have _ := q_hi32 (x := t0_0); omega) (by have t1 : 0 ≤ lx13.toInt + 1 := i14; have t2 : lx13.toInt + 1 ≤ t0_0.toInt := i15; have _ := q_lo32 (x := t0_0); have _ := q_hi32 (x := t0_0); omega))
      refine q_put (ci := 7) (j := 0) (v := .int a71) (ty := .int) C0 V i_Dig o_Dig n_Dig rfl rfl hT0 (by decide) w_264 rfl rfl rfl rfl (Nat.le_of_ble_eq_true rfl) d_5_8_47 (fun H locs w74 hu75 hT0 V => ?_)
      replace hT0 : w74[36]? = (some (q 36, .inr (7, [.int a71, .int t0_1, .ref (q 37)])) : Option (Nat × va_E)) := hT0
      replace hI := n_p36 hI hu75 hT0 ⟨(by have t1 : 0 ≤ lx13.toInt + 1 := i14; have t2 : a71.toInt = lx13.toInt + 1 := b73; omega), (by have t1 : 0 ≤ t0_0.toInt ∧ t0_0.toInt ≤ 1026 := btt0_0; have t2 : lx13.toInt + 1 ≤ t0_0.toInt := i15; have t3 : a71.toInt = lx13.toInt + 1 := b73; omega)⟩ ⟨(by have t1 : -1000000 ≤ t0_1.toInt ∧ t0_1.toInt ≤ 1000000 := btt0_1; omega), (by have t1 : -1000000 ≤ t0_1.toInt ∧ t0_1.toInt ≤ 1000000 := btt0_1; omega)⟩
      replace hT1 := (hu75 _ (by decide)).trans hT1
      replace hF := q_us hF hu75 (by simp)
      exact q_retv C0 V (⟨hI, hF, a71, t0_1, f69, hT0, hT1, (show 1 ≤ a71.toInt from (by have t1 : 0 ≤ lx13.toInt := b60; have t2 : a71.toInt = lx13.toInt + 1 := b73; omega)), (show a71.toInt ≤ 1026 from (by have t1 : 0 ≤ t0_0.toInt ∧ t0_0.toInt ≤ 1026 := btt0_0; have t2 : lx13.toInt + 1 ≤ t0_0.toInt := i15; have t3 : a71.toInt = lx13.toInt + 1 := b73; omega)), (show a71.toInt ≤ t0_0.toInt + 1 from (by have t1 : lx13.toInt + 1 ≤ t0_0.toInt := i15; have t2 : a71.toInt = lx13.toInt + 1 := b73; omega)), (show t0_1.toInt ≤ t0_1.toInt from (by omega)), (show t0_1.toInt ≤ t0_1.toInt + 100001 from (by omega)), (show (a71, t0_1, f69) = (F_Dig_stepOutwards x2 t0_0 t0_1 t1_0) from Eq.trans (by rw [← e72, ← e70, ← e66, ← e64, ← e62, F_Dig_stepOutwards_J28.eq_1, if_neg c30]) hR25)⟩) d_5_8_50
  ·
    intro J24
    refine lv_if_lt (tgt := 28) hx hb d_5_8_8 (by decide) (fun c76 => ?_) (fun c76 => ?_)
    ·
      have b77 : q_F (lx13.toInt < 0) := (q_ltI c76)
      exact J24 (()) _ _ _ ws ⟨V, q_lw hl (q_lw1 0 rfl (q_lw1 1 rfl (q_lw1 2 rfl q_lw0))), (show F_Dig_stepOutwards_J28 (F_Dig_stepOutwards_L7 x2 t0_0 t0_1 t1_0 fm21) x2 t0_0 t0_1 t1_0 lx13 = (F_Dig_stepOutwards x2 t0_0 t0_1 t1_0) from Eq.trans (by rw [F_Dig_stepOutwards_L7.eq_2, if_pos c76]) hR17)⟩
    ·
      have b78 : q_F (0 ≤ lx13.toInt) := (q_nltI c76)
      refine lv_aload_n hx hb d_5_8_11 rfl (lv_at hl 1 rfl) ?_
      refine q_get (ci := 7) (j := 2) (v := .ref (q 37)) C0 V i_Dig rfl rfl hT0 (by decide) w_269 rfl d_5_8_12 ?_
      refine lv_iload_n hx hb d_5_8_15 rfl (lv_at hl 0 rfl) ?_
      refine q_bald C0 V hT1 (q_ix (x := lx13.toInt) rfl (by have t1 : 0 ≤ lx13.toInt := b78; omega) (by have t1 : 0 ≤ lx13.toInt := b78; have t2 : 0 ≤ t0_0.toInt ∧ t0_0.toInt ≤ 1026 := btt0_0; have t3 : lx13.toInt + 1 ≤ t0_0.toInt := i15; omega)) d_5_8_16 ?_
      obtain ⟨a79, e80⟩ := q_nm (t1_0 lx13.toNatClampNeg : Int32)
      refine q_ti (v := a79) e80 ?_
      refine lv_bipush (v := 9) hx hb d_5_8_17 (by decide) ?_
      refine lv_icmp_ne (tgt := 28) hx hb d_5_8_19 (by decide) (fun c81 => ?_) (fun c81 => ?_)
      ·
        have b82 : q_F (a79.toInt ≠ 9) := (q_neI c81)
        exact J24 (()) _ _ _ ws ⟨V, q_lw hl (q_lw1 0 rfl (q_lw1 1 rfl (q_lw1 2 rfl q_lw0))), (show F_Dig_stepOutwards_J28 (F_Dig_stepOutwards_L7 x2 t0_0 t0_1 t1_0 fm21) x2 t0_0 t0_1 t1_0 lx13 = (F_Dig_stepOutwards x2 t0_0 t0_1 t1_0) from Eq.trans (by have c81x := c81; rw [← e80] at c81x; rw [F_Dig_stepOutwards_L7.eq_2, if_neg c76, if_neg c81x]) hR17)⟩
      ·
        have b83 : q_F (a79.toInt = 9) := (q_eqI c81)
        obtain ⟨a84, e85⟩ := q_nm (lx13 + (-1) : Int32)
        have b86 : q_F (a84.toInt = lx13.toInt + (-1)) := (by rw [← e85]; exact q_addI (y := (-1)) rfl (by decide) (by have t1 : 0 ≤ lx13.toInt + 1 := i14; have _ := q_lo32 (x := lx13); have _ := q_hi32 (x := lx13); omega) (by have t1 : 0 ≤ lx13.toInt + 1 := i14; have _ := q_lo32 (x := lx13); have _ := q_hi32 (x := lx13); omega))
        refine lv_iinc (v := a84) (lv' := [(2, .int a84), (0, .ref (q 36)), (1, .int x2)]) hx hb d_5_8_22 hl (k := 0) rfl (e85) (by decide) rfl (fun ls hl => ?_)
        refine lv_goto (tgt := 7) hx hb d_5_8_25 (by decide) ?_
        exact ih16 ((a84 : Int32)) _ _ _ ws (show (a84.toInt - ((-1000000))).toNat < (lx13.toInt - ((-1000000))).toNat from by have t1 : a84.toInt = lx13.toInt + (-1) := b86; have t2 : 0 ≤ lx13.toInt + 1 := i14; omega) ⟨(show q_F (0 ≤ a84.toInt + 1) from (show 0 ≤ a84.toInt + 1 from by have t1 : 0 ≤ lx13.toInt := b78; have t2 : a84.toInt = lx13.toInt + (-1) := b86; omega)), (show q_F (a84.toInt + 1 ≤ t0_0.toInt) from (show a84.toInt + 1 ≤ t0_0.toInt from by have t1 : lx13.toInt + 1 ≤ t0_0.toInt := i15; have t2 : a84.toInt = lx13.toInt + (-1) := b86; omega)), V, q_lw hl (q_lw1 0 rfl (q_lw1 1 rfl (q_lw1 2 rfl q_lw0))), ⟨fm21, Nat.lt_of_lt_of_le (show (a84.toInt - ((-1000000))).toNat < (lx13.toInt - ((-1000000))).toNat from by have t1 : a84.toInt = lx13.toInt + (-1) := b86; have t2 : 0 ≤ lx13.toInt + 1 := i14; omega) (Nat.le_of_lt_succ hf20), (show F_Dig_stepOutwards_L7 x2 t0_0 t0_1 t1_0 fm21 a84 = (F_Dig_stepOutwards x2 t0_0 t0_1 t1_0) from Eq.trans (by have c81x := c81; rw [← e80] at c81x; rw [← e85, F_Dig_stepOutwards_L7.eq_2, if_neg c76, if_pos c81x]) hR17)⟩⟩
def F_Dig_round_c31 (x2 : Int32) (x3 : Int32) (t0_0 : Int32) (t0_1 : Int32) (t1_0 : (Nat → Int32)) (a13 : Int32) (p45 : (Int32 × Int32 × (Nat → Int32))) : Int32 × Int32 × (Nat → Int32) := ((p45.1 : Int32), (p45.2.1 : Int32), (p45.2.2 : (Nat → Int32)))
def F_Dig_round (x2 : Int32) (x3 : Int32) (t0_0 : Int32) (t0_1 : Int32) (t1_0 : (Nat → Int32)) : Int32 × Int32 × (Nat → Int32) := if x2 < t0_0 then (if ((F_Dig_goesOutwards x2 x3 t0_0 t0_1 t1_0) : Int32) = (0 : Int32) then (if (if x2 < 0 then 0 else x2 : Int32) = (0 : Int32) then (((if x2 < 0 then 0 else x2 : Int32), (0 : Int32), t1_0)) else (((if x2 < 0 then 0 else x2 : Int32), t0_1, t1_0))) else (F_Dig_round_c31 x2 x3 t0_0 t0_1 t1_0 ((F_Dig_goesOutwards x2 x3 t0_0 t0_1 t1_0) : Int32) ((F_Dig_stepOutwards x2 (if x2 < 0 then 0 else x2 : Int32) t0_1 t1_0) : (Int32 × Int32 × (Nat → Int32))))) else ((t0_0, t0_1, t1_0))
set_option maxRecDepth 100000 in
set_option maxHeartbeats 4000000 in
theorem X_Dig_round (l : Launch) (D : va_G) (g : Nat → ClassId) (q : Nat → Nat) (ws : va_W) (x2 : Int32) (x3 : Int32) (hI : q_I (nsh g q) q ws) (t0_0 : Int32) (t0_1 : Int32) (hT0 : ws[36]? = (some (q 36, .inr (7, [.int t0_0, .int t0_1, .ref (q 37)])) : Option (Nat × va_E))) (t1_0 : (Nat → Int32)) (hT1 : ws[37]? = (some (q 37, .inl (g 2, 1026, .inl t1_0)) : Option (Nat × va_E))) (pre0 : 0 ≤ x2.toInt + 100000) (pre1 : x2.toInt ≤ 100000) (pre2 : 0 ≤ t0_1.toInt + 200000) (pre3 : t0_1.toInt ≤ 200000) : q_mV l y_Dig_round prog_5_method_6_code 4 3 0 0 D g [.ref (q 36), .int x2, .int x3] ws (fun u => q_I (nsh g q) q u ∧ q_un ws u [36, 37] ∧ ∃ (u0_0 : Int32) (u0_1 : Int32) (u1_0 : (Nat → Int32)), u[36]? = (some (q 36, .inr (7, [.int u0_0, .int u0_1, .ref (q 37)])) : Option (Nat × va_E)) ∧ u[37]? = (some (q 37, .inl (g 2, 1026, .inl u1_0)) : Option (Nat × va_E)) ∧ (0 ≤ u0_0.toInt) ∧ (u0_0.toInt ≤ 1026) ∧ (0 ≤ u0_1.toInt + 200000) ∧ (u0_1.toInt ≤ 300001) ∧ (u0_0.toInt ≤ x2.toInt + 100001) ∧ (u0_0.toInt ≤ t0_0.toInt + 1) ∧ (t0_1.toInt ≤ u0_1.toInt + 200000) ∧ (u0_1.toInt ≤ t0_1.toInt + 200000) ∧ (u0_1.toInt ≤ u0_0.toInt + 300000) ∧ (u0_0, u0_1, u1_0) = (F_Dig_round x2 x3 t0_0 t0_1 t1_0)) := by
  intro sz
  refine q_into (by decide) (Nat.le_of_ble_eq_true rfl) ?_
  intro p e s m below meth c ls hsz C0 V hl
  have hx := C0.1
  have hb := C0.2.1
  obtain ⟨yy0_0, yy0_1, hh0, btt0_0, btt0_1⟩ := n_o36 hI
  obtain ⟨rfl, rfl⟩ : t0_0 = yy0_0 ∧ t0_1 = yy0_1 := by have z := Option.some.inj (hT0.symm.trans hh0); simpa using z
  replace btt0_0 : q_F (0 ≤ t0_0.toInt ∧ t0_0.toInt ≤ 1026) := btt0_0
  replace btt0_1 : q_F (-1000000 ≤ t0_1.toInt ∧ t0_1.toInt ≤ 1000000) := btt0_1
  replace pre0 : q_F (0 ≤ x2.toInt + 100000) := pre0
  replace pre1 : q_F (x2.toInt ≤ 100000) := pre1
  replace pre2 : q_F (0 ≤ t0_1.toInt + 200000) := pre2
  replace pre3 : q_F (t0_1.toInt ≤ 200000) := pre3
  have hF : q_un ws ws [36, 37] := q_u0
  have hl : lv_has ls 4 [(0, .ref (q 36)), (1, .int x2), (2, .int x3)] := hl
  refine lv_iload_n hx hb d_5_6_0 rfl (lv_at hl 1 rfl) ?_
  refine lv_aload_n hx hb d_5_6_1 rfl (lv_at hl 0 rfl) ?_
  refine q_get (ci := 7) (j := 0) (v := .int t0_0) C0 V i_Dig rfl rfl hT0 (by decide) w_264 rfl d_5_6_2 ?_
  refine lv_icmp_lt (tgt := 9) hx hb d_5_6_5 (by decide) (fun c9 => ?_) (fun c9 => ?_)
  ·
    have b10 : q_F (x2.toInt < t0_0.toInt) := (q_ltI c9)
    refine lv_aload_n hx hb d_5_6_9 rfl (lv_at hl 0 rfl) ?_
    refine lv_iload_n hx hb d_5_6_10 rfl (lv_at hl 1 rfl) ?_
    refine lv_iload_n hx hb d_5_6_11 rfl (lv_at hl 2 rfl) ?_
    refine q_goi V (q_runV (As := [.int x2, .int x3]) (rest := []) (d := 2) (mc := 0) (ms := 0) (ci := 7) C0 V rfl LV_Dig_36 (X_Dig_goesOutwards l D g q ws  x2 x3 hI t0_0 t0_1 hT0 t1_0 hT1  _) rfl rfl hT0 rfl hl.1 rfl (Nat.le_of_ble_eq_true rfl) ⟨by decide, by decide⟩ ⟨Nat.le_of_ble_eq_true rfl, Nat.le_of_ble_eq_true rfl⟩ d_5_6_12) (fun a13 u11 H locs hp12 V => ?_)
    obtain ⟨rfl, b14, b15, hE16⟩ := hp12
    have e17 : a13 = (F_Dig_goesOutwards x2 x3 t0_0 t0_1 t1_0) := hE16
    replace b14 : q_F (0 ≤ a13.toInt) := b14
    replace b15 : q_F (a13.toInt ≤ 1) := b15
    refine lv_istore_n (lv' := [(3, .int a13), (0, .ref (q 36)), (1, .int x2), (2, .int x3)]) hx hb d_5_6_15 rfl hl (by decide) rfl (fun ls hl => ?_)
    refine lv_aload_n hx hb d_5_6_16 rfl (lv_at hl 1 rfl) ?_
    refine lv_iload_n hx hb d_5_6_17 rfl (lv_at hl 2 rfl) ?_
    refine lv_iconst (v := 0) hx hb d_5_6_18 (by decide) ?_
    refine q_max C0 hl.1 rfl w_1571 w_803 w_7 w_804 ⟨Nat.le_of_ble_eq_true rfl, Nat.le_of_ble_eq_true rfl⟩ ⟨Nat.le_of_ble_eq_true rfl, Nat.le_of_ble_eq_true rfl⟩ d_5_6_19 ?_
    obtain ⟨a18, e19⟩ := q_nm (if x2 < 0 then 0 else x2 : Int32)
    refine q_ti (v := a18) e19 ?_
    have b20 : q_F (x2.toInt ≤ a18.toInt ∧ 0 ≤ a18.toInt ∧ (a18.toInt = x2.toInt ∨ a18.toInt = 0)) := (by rw [← e19]; show x2.toInt ≤ (if x2 < 0 then 0 else x2 : Int32).toInt ∧ 0 ≤ (if x2 < 0 then 0 else x2 : Int32).toInt ∧ ((if x2 < 0 then 0 else x2 : Int32).toInt = x2.toInt ∨ (if x2 < 0 then 0 else x2 : Int32).toInt = 0); exact (by have y1 : (0 : Int32).toInt = 0 := rfl; have z := s_max (a := x2) (b := 0); omega))
    refine q_put (ci := 7) (j := 0) (v := .int a18) (ty := .int) C0 V i_Dig o_Dig n_Dig rfl rfl hT0 (by decide) w_264 rfl rfl rfl rfl (Nat.le_of_ble_eq_true rfl) d_5_6_22 (fun H locs w21 hu22 hT0 V => ?_)
    replace hT0 : w21[36]? = (some (q 36, .inr (7, [.int a18, .int t0_1, .ref (q 37)])) : Option (Nat × va_E)) := hT0
    replace hI := n_p36 hI hu22 hT0 ⟨(by have t1 : x2.toInt ≤ a18.toInt ∧ 0 ≤ a18.toInt ∧ (a18.toInt = x2.toInt ∨ a18.toInt = 0) := b20; omega), (by have t1 : 0 ≤ t0_0.toInt ∧ t0_0.toInt ≤ 1026 := btt0_0; have t2 : x2.toInt < t0_0.toInt := b10; have t3 : x2.toInt ≤ a18.toInt ∧ 0 ≤ a18.toInt ∧ (a18.toInt = x2.toInt ∨ a18.toInt = 0) := b20; omega)⟩ ⟨(by have t1 : -1000000 ≤ t0_1.toInt ∧ t0_1.toInt ≤ 1000000 := btt0_1; omega), (by have t1 : -1000000 ≤ t0_1.toInt ∧ t0_1.toInt ≤ 1000000 := btt0_1; omega)⟩
    replace hT1 := (hu22 _ (by decide)).trans hT1
    replace hF := q_us hF hu22 (by simp)
    refine lv_iload_n hx hb d_5_6_25 rfl (lv_at hl 0 rfl) ?_
    refine lv_if_eq (tgt := 34) hx hb d_5_6_26 (by decide) (fun c23 => ?_) (fun c23 => ?_)
    ·
      have b24 : q_F (a13.toInt = 0) := (q_eqI c23)
      refine lv_aload_n hx hb d_5_6_34 rfl (lv_at hl 1 rfl) ?_
      refine q_get (ci := 7) (j := 0) (v := .int a18) C0 V i_Dig rfl rfl hT0 (by decide) w_264 rfl d_5_6_35 ?_
      refine lv_if_ne (tgt := 46) hx hb d_5_6_38 (by decide) (fun c25 => ?_) (fun c25 => ?_)
      ·
        have b26 : q_F (a18.toInt ≠ 0) := (q_neI c25)
        exact q_retv C0 V (⟨hI, hF, a18, t0_1, t1_0, hT0, hT1, (show 0 ≤ a18.toInt from (by have t1 : x2.toInt ≤ a18.toInt ∧ 0 ≤ a18.toInt ∧ (a18.toInt = x2.toInt ∨ a18.toInt = 0) := b20; omega)), (show a18.toInt ≤ 1026 from (by have t1 : 0 ≤ t0_0.toInt ∧ t0_0.toInt ≤ 1026 := btt0_0; have t2 : x2.toInt < t0_0.toInt := b10; have t3 : x2.toInt ≤ a18.toInt ∧ 0 ≤ a18.toInt ∧ (a18.toInt = x2.toInt ∨ a18.toInt = 0) := b20; omega)), (show 0 ≤ t0_1.toInt + 200000 from (by have t1 : 0 ≤ t0_1.toInt + 200000 := pre2; omega)), (show t0_1.toInt ≤ 300001 from (by have t1 : t0_1.toInt ≤ 200000 := pre3; omega)), (show a18.toInt ≤ x2.toInt + 100001 from (by have t1 : 0 ≤ x2.toInt + 100000 := pre0; have t2 : x2.toInt ≤ a18.toInt ∧ 0 ≤ a18.toInt ∧ (a18.toInt = x2.toInt ∨ a18.toInt = 0) := b20; omega)), (show a18.toInt ≤ t0_0.toInt + 1 from (by have t1 : 0 ≤ t0_0.toInt ∧ t0_0.toInt ≤ 1026 := btt0_0; have t2 : x2.toInt < t0_0.toInt := b10; have t3 : x2.toInt ≤ a18.toInt ∧ 0 ≤ a18.toInt ∧ (a18.toInt = x2.toInt ∨ a18.toInt = 0) := b20; omega)), (show t0_1.toInt ≤ t0_1.toInt + 200000 from (by omega)), (show t0_1.toInt ≤ t0_1.toInt + 200000 from (by omega)), (show t0_1.toInt ≤ a18.toInt + 300000 from (by have t1 : t0_1.toInt ≤ 200000 := pre3; have t2 : x2.toInt ≤ a18.toInt ∧ 0 ≤ a18.toInt ∧ (a18.toInt = x2.toInt ∨ a18.toInt = 0) := b20; omega)), (show (a18, t0_1, t1_0) = (F_Dig_round x2 x3 t0_0 t0_1 t1_0) from (by have c23x := c23; rw [e17] at c23x; have c25x := c25; rw [← e19] at c25x; rw [← e19, F_Dig_round.eq_1, if_pos c9, if_pos c23x, if_neg c25x]))⟩) d_5_6_46
      ·
        have b27 : q_F (a18.toInt = 0) := (q_eqI c25)
        refine lv_aload_n hx hb d_5_6_41 rfl (lv_at hl 1 rfl) ?_
        refine lv_iconst (v := 0) hx hb d_5_6_42 (by decide) ?_
        refine q_put (ci := 7) (j := 1) (v := .int 0) (ty := .int) C0 V i_Dig o_Dig n_Dig rfl rfl hT0 (by decide) w_266 rfl rfl rfl rfl (Nat.le_of_ble_eq_true rfl) d_5_6_43 (fun H locs w28 hu29 hT0 V => ?_)
        replace hT0 : w28[36]? = (some (q 36, .inr (7, [.int a18, .int 0, .ref (q 37)])) : Option (Nat × va_E)) := hT0
        replace hI := n_p36 hI hu29 hT0 ⟨(by have t1 : x2.toInt ≤ a18.toInt ∧ 0 ≤ a18.toInt ∧ (a18.toInt = x2.toInt ∨ a18.toInt = 0) := b20; omega), (by have t1 : a18.toInt = 0 := b27; omega)⟩ ⟨(by have z9 : (0 : Int32).toInt = 0 := rfl; omega), (by have z9 : (0 : Int32).toInt = 0 := rfl; omega)⟩
        replace hT1 := (hu29 _ (by decide)).trans hT1
        replace hF := q_us hF hu29 (by simp)
        exact q_retv C0 V (⟨hI, hF, a18, 0, t1_0, hT0, hT1, (show 0 ≤ a18.toInt from (by have z6 : (0 : Int32).toInt = 0 := rfl; have t1 : x2.toInt ≤ a18.toInt ∧ 0 ≤ a18.toInt ∧ (a18.toInt = x2.toInt ∨ a18.toInt = 0) := b20; omega)), (show a18.toInt ≤ 1026 from (by have z6 : (0 : Int32).toInt = 0 := rfl; have t1 : a18.toInt = 0 := b27; omega)), (show 0 ≤ (0 : Int32).toInt + 200000 from (by have z6 : (0 : Int32).toInt = 0 := rfl; omega)), (show (0 : Int32).toInt ≤ 300001 from (by have z6 : (0 : Int32).toInt = 0 := rfl; omega)), (show a18.toInt ≤ x2.toInt + 100001 from (by have z6 : (0 : Int32).toInt = 0 := rfl; have t1 : 0 ≤ x2.toInt + 100000 := pre0; have t2 : x2.toInt ≤ a18.toInt ∧ 0 ≤ a18.toInt ∧ (a18.toInt = x2.toInt ∨ a18.toInt = 0) := b20; omega)), (show a18.toInt ≤ t0_0.toInt + 1 from (by have z6 : (0 : Int32).toInt = 0 := rfl; have t1 : 0 ≤ t0_0.toInt ∧ t0_0.toInt ≤ 1026 := btt0_0; have t2 : x2.toInt < t0_0.toInt := b10; have t3 : x2.toInt ≤ a18.toInt ∧ 0 ≤ a18.toInt ∧ (a18.toInt = x2.toInt ∨ a18.toInt = 0) := b20; omega)), (show t0_1.toInt ≤ (0 : Int32).toInt + 200000 from (by have z6 : (0 : Int32).toInt = 0 := rfl; have t1 : t0_1.toInt ≤ 200000 := pre3; omega)), (show (0 : Int32).toInt ≤ t0_1.toInt + 200000 from (by have z6 : (0 : Int32).toInt = 0 := rfl; have t1 : 0 ≤ t0_1.toInt + 200000 := pre2; omega)), (show (0 : Int32).toInt ≤ a18.toInt + 300000 from (by have z6 : (0 : Int32).toInt = 0 := rfl; have t1 : x2.toInt ≤ a18.toInt ∧ 0 ≤ a18.toInt ∧ (a18.toInt = x2.toInt ∨ a18.toInt = 0) := b20; omega)), (show (a18, (0 : Int32), t1_0) = (F_Dig_round x2 x3 t0_0 t0_1 t1_0) from (by have c23x := c23; rw [e17] at c23x; have c25x := c25; rw [← e19] at c25x; rw [← e19, F_Dig_round.eq_1, if_pos c9, if_pos c23x, if_pos c25x]))⟩) d_5_6_46
    ·
      have b30 : q_F (a13.toInt ≠ 0) := (q_neI c23)
      refine lv_aload_n hx hb d_5_6_29 rfl (lv_at hl 1 rfl) ?_
      refine lv_iload_n hx hb d_5_6_30 rfl (lv_at hl 2 rfl) ?_
      refine q_gov V (q_runV (As := [.int x2]) (rest := []) (d := 1) (mc := 0) (ms := 0) (ci := 7) C0 V rfl LV_Dig_46 (X_Dig_stepOutwards l D g q w21  x2 hI a18 t0_1 hT0 t1_0 hT1 (by have t1 : 0 ≤ x2.toInt + 100000 := pre0; omega) (by have t1 : x2.toInt ≤ 100000 := pre1; omega) (by have t1 : 0 ≤ t0_1.toInt + 200000 := pre2; omega) (by have t1 : t0_1.toInt ≤ 200000 := pre3; omega) _) rfl rfl hT0 rfl hl.1 rfl (Nat.le_of_ble_eq_true rfl) ⟨by decide, by decide⟩ ⟨Nat.le_of_ble_eq_true rfl, Nat.le_of_ble_eq_true rfl⟩ d_5_6_31) (fun u31 H locs hp32 V => ?_)
      obtain ⟨hI, hu44, y34, y35, f36, hO33, hA37, b38, b39, b40, b41, b42, hE43⟩ := hp32
      replace hO33 : u31[36]? = (some (q 36, .inr (7, [.int y34, .int y35, .ref (q 37)])) : Option (Nat × va_E)) := hO33
      replace hA37 : u31[37]? = (some (q 37, .inl (g 2, 1026, .inl f36)) : Option (Nat × va_E)) := hA37
      obtain ⟨p45, e46⟩ : ∃ z, z = (F_Dig_stepOutwards x2 a18 t0_1 t1_0) := ⟨_, rfl⟩
      have e47 : y34 = p45.1 := congrArg (fun z => z.1) (hE43.trans e46.symm)
      have e48 : y35 = p45.2.1 := congrArg (fun z => z.2.1) (hE43.trans e46.symm)
      have e49 : f36 = p45.2.2 := congrArg (fun z => z.2.2) (hE43.trans e46.symm)
      replace b38 : q_F (1 ≤ y34.toInt) := b38
      replace b39 : q_F (y34.toInt ≤ 1026) := b39
      replace b40 : q_F (y34.toInt ≤ a18.toInt + 1) := b40
      replace b41 : q_F (t0_1.toInt ≤ y35.toInt) := b41
      replace b42 : q_F (y35.toInt ≤ t0_1.toInt + 100001) := b42
      replace hF := q_uc hF hu44 (by simp)
      have hR50 := (show F_Dig_round_c31 x2 x3 t0_0 t0_1 t1_0 a13 p45 = (F_Dig_round x2 x3 t0_0 t0_1 t1_0) from (by have c23x := c23; rw [e17] at c23x; rw [e46, ← e19, e17, F_Dig_round.eq_1, if_pos c9, if_neg c23x]))
      refine lv_aload_n hx hb d_5_6_34 rfl (lv_at hl 1 rfl) ?_
      refine q_get (ci := 7) (j := 0) (v := .int y34) C0 V i_Dig rfl rfl hO33 (by decide) w_264 rfl d_5_6_35 ?_
      refine lv_if_ne (tgt := 46) hx hb d_5_6_38 (by decide) (fun c55 => ?_) (fun c55 => absurd (show y34.toInt = 0 from q_eqI c55) (by have t1 : 1 ≤ y34.toInt := b38; omega))
      exact q_retv C0 V (⟨hI, hF, y34, y35, f36, hO33, hA37, (show 0 ≤ y34.toInt from (by have t1 : 1 ≤ y34.toInt := b38; omega)), (show y34.toInt ≤ 1026 from (by have t1 : y34.toInt ≤ 1026 := b39; omega)), (show 0 ≤ y35.toInt + 200000 from (by have t1 : 0 ≤ t0_1.toInt + 200000 := pre2; have t2 : t0_1.toInt ≤ y35.toInt := b41; omega)), (show y35.toInt ≤ 300001 from (by have t1 : t0_1.toInt ≤ 200000 := pre3; have t2 : y35.toInt ≤ t0_1.toInt + 100001 := b42; omega)), (show y34.toInt ≤ x2.toInt + 100001 from (by have t1 : 0 ≤ x2.toInt + 100000 := pre0; have t2 : x2.toInt ≤ a18.toInt ∧ 0 ≤ a18.toInt ∧ (a18.toInt = x2.toInt ∨ a18.toInt = 0) := b20; have t3 : y34.toInt ≤ a18.toInt + 1 := b40; omega)), (show y34.toInt ≤ t0_0.toInt + 1 from (by have t1 : 0 ≤ t0_0.toInt ∧ t0_0.toInt ≤ 1026 := btt0_0; have t2 : x2.toInt < t0_0.toInt := b10; have t3 : x2.toInt ≤ a18.toInt ∧ 0 ≤ a18.toInt ∧ (a18.toInt = x2.toInt ∨ a18.toInt = 0) := b20; have t4 : y34.toInt ≤ a18.toInt + 1 := b40; omega)), (show t0_1.toInt ≤ y35.toInt + 200000 from (by have t1 : t0_1.toInt ≤ y35.toInt := b41; omega)), (show y35.toInt ≤ t0_1.toInt + 200000 from (by have t1 : y35.toInt ≤ t0_1.toInt + 100001 := b42; omega)), (show y35.toInt ≤ y34.toInt + 300000 from (by have t1 : t0_1.toInt ≤ 200000 := pre3; have t2 : 1 ≤ y34.toInt := b38; have t3 : y35.toInt ≤ t0_1.toInt + 100001 := b42; omega)), (show (y34, y35, f36) = (F_Dig_round x2 x3 t0_0 t0_1 t1_0) from Eq.trans (by rw [e49, e48, e47, F_Dig_round_c31.eq_1]) hR50)⟩) d_5_6_46
  ·
    have b56 : q_F (t0_0.toInt ≤ x2.toInt) := (q_nltI c9)
    exact q_retv C0 V (⟨hI, hF, t0_0, t0_1, t1_0, hT0, hT1, (show 0 ≤ t0_0.toInt from (by have t1 : 0 ≤ t0_0.toInt ∧ t0_0.toInt ≤ 1026 := btt0_0; omega)), (show t0_0.toInt ≤ 1026 from (by have t1 : 0 ≤ t0_0.toInt ∧ t0_0.toInt ≤ 1026 := btt0_0; omega)), (show 0 ≤ t0_1.toInt + 200000 from (by have t1 : 0 ≤ t0_1.toInt + 200000 := pre2; omega)), (show t0_1.toInt ≤ 300001 from (by have t1 : t0_1.toInt ≤ 200000 := pre3; omega)), (show t0_0.toInt ≤ x2.toInt + 100001 from (by have t1 : t0_0.toInt ≤ x2.toInt := b56; omega)), (show t0_0.toInt ≤ t0_0.toInt + 1 from (by omega)), (show t0_1.toInt ≤ t0_1.toInt + 200000 from (by omega)), (show t0_1.toInt ≤ t0_1.toInt + 200000 from (by omega)), (show t0_1.toInt ≤ t0_0.toInt + 300000 from (by have t1 : 0 ≤ t0_0.toInt ∧ t0_0.toInt ≤ 1026 := btt0_0; have t2 : t0_1.toInt ≤ 200000 := pre3; omega)), (show (t0_0, t0_1, t1_0) = (F_Dig_round x2 x3 t0_0 t0_1 t1_0) from (by rw [F_Dig_round.eq_1, if_neg c9]))⟩) d_5_6_8
def F_Dig_writePlain_c100 (K_F_Dig_writePlain_L10 : Int32 → Int32 → (Nat → Int64) → (Int32 × (Nat → Int64))) (K_F_Dig_writePlain_L79 : Int32 → Int32 → (Nat → Int64) → (Int32 × (Nat → Int64))) (R : Int32) (N : Int32) (K : Int32) (x3 : Int32) (x4 : Int32) (x5 : Int32) (t0_0 : Int32) (t0_1 : Int32) (t1_0 : (Nat → Int32)) (t2_0 : Int32) (t3_0 : (Nat → Int64)) (lx21 : Int32) (lx22 : Int32) (lx23 : (Nat → Int64)) (lx40 : Int32) (lx41 : (Nat → Int64)) (lx58 : Int32) (lx59 : Int32) (lx60 : (Nat → Int64)) (p99 : (Int32 × (Nat → Int64))) : Int32 × (Nat → Int64) := K_F_Dig_writePlain_L79 (lx58 + 1 : Int32) (p99.1 : Int32) (p99.2 : (Nat → Int64))
def F_Dig_writePlain_L79 (K_F_Dig_writePlain_L10 : Int32 → Int32 → (Nat → Int64) → (Int32 × (Nat → Int64))) (R : Int32) (N : Int32) (K : Int32) (x3 : Int32) (x4 : Int32) (x5 : Int32) (t0_0 : Int32) (t0_1 : Int32) (t1_0 : (Nat → Int32)) (t2_0 : Int32) (t3_0 : (Nat → Int64)) (lx21 : Int32) (lx22 : Int32) (lx23 : (Nat → Int64)) (lx40 : Int32) (lx41 : (Nat → Int64)) : Nat → Int32 → Int32 → (Nat → Int64) → (Int32 × (Nat → Int64))
  | 0, _, _, _ => default
  | fm + 1, lx58, lx59, lx60 => if x3 < lx58 then ((lx59, lx60)) else (F_Dig_writePlain_c100 K_F_Dig_writePlain_L10 (F_Dig_writePlain_L79 K_F_Dig_writePlain_L10 R N K x3 x4 x5 t0_0 t0_1 t1_0 t2_0 t3_0 lx21 lx22 lx23 lx40 lx41 fm) R N K x3 x4 x5 t0_0 t0_1 t1_0 t2_0 t3_0 lx21 lx22 lx23 lx40 lx41 lx58 lx59 lx60 ((F_She_add_p R N K (48 + ((F_Dig_figure (t0_1 + lx58 : Int32) t0_0 t0_1 t1_0) : Int32) : Int32) lx59 lx60) : (Int32 × (Nat → Int64))))
def F_Dig_writePlain_J76 (K_F_Dig_writePlain_L10 : Int32 → Int32 → (Nat → Int64) → (Int32 × (Nat → Int64))) (R : Int32) (N : Int32) (K : Int32) (x3 : Int32) (x4 : Int32) (x5 : Int32) (t0_0 : Int32) (t0_1 : Int32) (t1_0 : (Nat → Int32)) (t2_0 : Int32) (t3_0 : (Nat → Int64)) (lx21 : Int32) (lx22 : Int32) (lx23 : (Nat → Int64)) (lx40 : Int32) (lx41 : (Nat → Int64)) : Int32 × (Nat → Int64) := F_Dig_writePlain_L79 K_F_Dig_writePlain_L10 R N K x3 x4 x5 t0_0 t0_1 t1_0 t2_0 t3_0 lx21 lx22 lx23 lx40 lx41 ((200000 - (1 : Int32).toInt).toNat + 1) 1 lx40 lx41
def F_Dig_writePlain_c73 (K_F_Dig_writePlain_L10 : Int32 → Int32 → (Nat → Int64) → (Int32 × (Nat → Int64))) (R : Int32) (N : Int32) (K : Int32) (x3 : Int32) (x4 : Int32) (x5 : Int32) (t0_0 : Int32) (t0_1 : Int32) (t1_0 : (Nat → Int32)) (t2_0 : Int32) (t3_0 : (Nat → Int64)) (lx21 : Int32) (lx22 : Int32) (lx23 : (Nat → Int64)) (p131 : (Int32 × (Nat → Int64))) : Int32 × (Nat → Int64) := F_Dig_writePlain_J76 K_F_Dig_writePlain_L10 R N K x3 x4 x5 t0_0 t0_1 t1_0 t2_0 t3_0 lx21 lx22 lx23 (p131.1 : Int32) (p131.2 : (Nat → Int64))
def F_Dig_writePlain_J70 (K_F_Dig_writePlain_L10 : Int32 → Int32 → (Nat → Int64) → (Int32 × (Nat → Int64))) (R : Int32) (N : Int32) (K : Int32) (x3 : Int32) (x4 : Int32) (x5 : Int32) (t0_0 : Int32) (t0_1 : Int32) (t1_0 : (Nat → Int32)) (t2_0 : Int32) (t3_0 : (Nat → Int64)) (lx21 : Int32) (lx22 : Int32) (lx23 : (Nat → Int64)) : Int32 × (Nat → Int64) := F_Dig_writePlain_c73 K_F_Dig_writePlain_L10 R N K x3 x4 x5 t0_0 t0_1 t1_0 t2_0 t3_0 lx21 lx22 lx23 ((F_She_add_p R N K (46 : Int32) lx22 lx23) : (Int32 × (Nat → Int64)))
def F_Dig_writePlain_c52 (K_F_Dig_writePlain_L10 : Int32 → Int32 → (Nat → Int64) → (Int32 × (Nat → Int64))) (R : Int32) (N : Int32) (K : Int32) (x3 : Int32) (x4 : Int32) (x5 : Int32) (t0_0 : Int32) (t0_1 : Int32) (t1_0 : (Nat → Int32)) (t2_0 : Int32) (t3_0 : (Nat → Int64)) (lx21 : Int32) (lx22 : Int32) (lx23 : (Nat → Int64)) (p167 : (Int32 × (Nat → Int64))) (p207 : (Int32 × (Nat → Int64))) : Int32 × (Nat → Int64) := K_F_Dig_writePlain_L10 (lx21 + (-1) : Int32) (p207.1 : Int32) (p207.2 : (Nat → Int64))
def F_Dig_writePlain_c30 (K_F_Dig_writePlain_L10 : Int32 → Int32 → (Nat → Int64) → (Int32 × (Nat → Int64))) (R : Int32) (N : Int32) (K : Int32) (x3 : Int32) (x4 : Int32) (x5 : Int32) (t0_0 : Int32) (t0_1 : Int32) (t1_0 : (Nat → Int32)) (t2_0 : Int32) (t3_0 : (Nat → Int64)) (lx21 : Int32) (lx22 : Int32) (lx23 : (Nat → Int64)) (p167 : (Int32 × (Nat → Int64))) : Int32 × (Nat → Int64) := if x4 = (0 : Int32) then (K_F_Dig_writePlain_L10 (lx21 + (-1) : Int32) (p167.1 : Int32) (p167.2 : (Nat → Int64))) else (if lx21 ≤ (0 : Int32) then (K_F_Dig_writePlain_L10 (lx21 + (-1) : Int32) (p167.1 : Int32) (p167.2 : (Nat → Int64))) else (if (lx21 - lx21 / 3 * 3 : Int32) = (0 : Int32) then (F_Dig_writePlain_c52 K_F_Dig_writePlain_L10 R N K x3 x4 x5 t0_0 t0_1 t1_0 t2_0 t3_0 lx21 lx22 lx23 p167 ((F_She_add_p R N K (44 : Int32) (p167.1 : Int32) (p167.2 : (Nat → Int64))) : (Int32 × (Nat → Int64)))) else (K_F_Dig_writePlain_L10 (lx21 + (-1) : Int32) (p167.1 : Int32) (p167.2 : (Nat → Int64)))))
def F_Dig_writePlain_L10 (R : Int32) (N : Int32) (K : Int32) (x3 : Int32) (x4 : Int32) (x5 : Int32) (t0_0 : Int32) (t0_1 : Int32) (t1_0 : (Nat → Int32)) (t2_0 : Int32) (t3_0 : (Nat → Int64)) : Nat → Int32 → Int32 → (Nat → Int64) → (Int32 × (Nat → Int64))
  | 0, _, _, _ => default
  | fm + 1, lx21, lx22, lx23 => if lx21 < (0 : Int32) then (if (0 : Int32) < x3 then (F_Dig_writePlain_J70 (F_Dig_writePlain_L10 R N K x3 x4 x5 t0_0 t0_1 t1_0 t2_0 t3_0 fm) R N K x3 x4 x5 t0_0 t0_1 t1_0 t2_0 t3_0 lx21 lx22 lx23) else (if x5 = (0 : Int32) then (F_Dig_writePlain_J76 (F_Dig_writePlain_L10 R N K x3 x4 x5 t0_0 t0_1 t1_0 t2_0 t3_0 fm) R N K x3 x4 x5 t0_0 t0_1 t1_0 t2_0 t3_0 lx21 lx22 lx23 lx22 lx23) else (F_Dig_writePlain_J70 (F_Dig_writePlain_L10 R N K x3 x4 x5 t0_0 t0_1 t1_0 t2_0 t3_0 fm) R N K x3 x4 x5 t0_0 t0_1 t1_0 t2_0 t3_0 lx21 lx22 lx23))) else (F_Dig_writePlain_c30 (F_Dig_writePlain_L10 R N K x3 x4 x5 t0_0 t0_1 t1_0 t2_0 t3_0 fm) R N K x3 x4 x5 t0_0 t0_1 t1_0 t2_0 t3_0 lx21 lx22 lx23 ((F_She_add_p R N K (48 + ((F_Dig_figure (t0_1 - lx21 : Int32) t0_0 t0_1 t1_0) : Int32) : Int32) lx22 lx23) : (Int32 × (Nat → Int64))))
def F_Dig_writePlain (R : Int32) (N : Int32) (K : Int32) (x3 : Int32) (x4 : Int32) (x5 : Int32) (t0_0 : Int32) (t0_1 : Int32) (t1_0 : (Nat → Int32)) (t2_0 : Int32) (t3_0 : (Nat → Int64)) : Int32 × (Nat → Int64) := F_Dig_writePlain_L10 R N K x3 x4 x5 t0_0 t0_1 t1_0 t2_0 t3_0 (((if t0_1 < 0 then 0 else t0_1 : Int32).toInt - ((-1000000))).toNat + 1) (if t0_1 < 0 then 0 else t0_1 : Int32) t2_0 t3_0
set_option maxRecDepth 100000 in
set_option maxHeartbeats 4000000 in
theorem X_Dig_writePlain (l : Launch) (D : va_G) (g : Nat → ClassId) (q : Nat → Nat) (ws : va_W) (k2 : Nat) (R N K : Int32) (hB2 : q_isShe (nsh g q) g q k2 R N K) (x3 : Int32) (x4 : Int32) (x5 : Int32) (hI : q_I (nsh g q) q ws) (t0_0 : Int32) (t0_1 : Int32) (hT0 : ws[36]? = (some (q 36, .inr (7, [.int t0_0, .int t0_1, .ref (q 37)])) : Option (Nat × va_E))) (t1_0 : (Nat → Int32)) (hT1 : ws[37]? = (some (q 37, .inl (g 2, 1026, .inl t1_0)) : Option (Nat × va_E))) (t2_0 : Int32) (hT2 : ws[k2]? = (some (q k2, .inr (1, [.ref (q (k2 + 1)), .int R, .int t2_0])) : Option (Nat × va_E))) (t3_0 : (Nat → Int64)) (hT3 : ws[k2 + 1]? = (some (q (k2 + 1), .inl (g 1, N.toNatClampNeg, .inr (.inl t3_0))) : Option (Nat × va_E))) (hzx4 : 0 ≤ x4.toInt ∧ x4.toInt ≤ 1) (hzx5 : 0 ≤ x5.toInt ∧ x5.toInt ≤ 1) (pre0 : t0_1.toInt ≤ 200000) (pre1 : x3.toInt ≤ 20000) (pre2 : t2_0.toInt ≤ 400000) (pre3 : 1000000 ≤ K.toInt) : q_mV l y_Dig_writePlain prog_5_method_9_code 6 2 0 0 D g [.ref (q 36), .ref (q k2), .int x3, .int x4, .int x5] ws (fun u => q_I (nsh g q) q u ∧ q_un ws u [k2, k2 + 1] ∧ ∃ (u2_0 : Int32) (u3_0 : (Nat → Int64)), u[k2]? = (some (q k2, .inr (1, [.ref (q (k2 + 1)), .int R, .int u2_0])) : Option (Nat × va_E)) ∧ u[k2 + 1]? = (some (q (k2 + 1), .inl (g 1, N.toNatClampNeg, .inr (.inl u3_0))) : Option (Nat × va_E)) ∧ (x3.toInt + 1 ≤ u2_0.toInt) ∧ (x5.toInt + 1 ≤ u2_0.toInt) ∧ (t0_1.toInt + 1 ≤ u2_0.toInt) ∧ (u2_0.toInt ≤ t0_1.toInt + 1420003) ∧ (t2_0.toInt + 1 ≤ u2_0.toInt) ∧ (u2_0.toInt ≤ t2_0.toInt + 420003) ∧ (u2_0, u3_0) = (F_Dig_writePlain R N K x3 x4 x5 t0_0 t0_1 t1_0 t2_0 t3_0)) := by
  intro sz
  refine q_into (by decide) (Nat.le_of_ble_eq_true rfl) ?_
  intro p e s m below meth c ls hsz C0 V hl
  have hx := C0.1
  have hb := C0.2.1
  have hfk20 : q_F (0 ≤ R.toInt ∧ R.toInt ≤ 8 * N.toInt ∧ 0 ≤ N.toInt ∧ N.toInt ≤ 1376 ∧ 64 ≤ R.toInt ∧ 64 ≤ K.toInt ∧ K.toInt ≤ 1000000) := hB2.2.2.1
  replace hzx4 : q_F (0 ≤ x4.toInt ∧ x4.toInt ≤ 1) := hzx4
  replace hzx5 : q_F (0 ≤ x5.toInt ∧ x5.toInt ≤ 1) := hzx5
  obtain ⟨yy0_0, yy0_1, hh0, btt0_0, btt0_1⟩ := n_o36 hI
  obtain ⟨rfl, rfl⟩ : t0_0 = yy0_0 ∧ t0_1 = yy0_1 := by have z := Option.some.inj (hT0.symm.trans hh0); simpa using z
  replace btt0_0 : q_F (0 ≤ t0_0.toInt ∧ t0_0.toInt ≤ 1026) := btt0_0
  replace btt0_1 : q_F (-1000000 ≤ t0_1.toInt ∧ t0_1.toInt ≤ 1000000) := btt0_1
  obtain ⟨yy2_0, hh2, btt2_0⟩ := n_shO hI hB2
  obtain ⟨rfl⟩ : t2_0 = yy2_0 := by have z := Option.some.inj (hT2.symm.trans hh2); simpa using z
  replace btt2_0 : q_F (0 ≤ t2_0.toInt ∧ t2_0.toInt ≤ K.toInt) := btt2_0
  replace pre0 : q_F (t0_1.toInt ≤ 200000) := pre0
  replace pre1 : q_F (x3.toInt ≤ 20000) := pre1
  replace pre2 : q_F (t2_0.toInt ≤ 400000) := pre2
  replace pre3 : q_F (1000000 ≤ K.toInt) := pre3
  have hF : q_un ws ws [k2, k2 + 1] := q_u0
  have hl : lv_has ls 6 [(0, .ref (q 36)), (1, .ref (q k2)), (2, .int x3), (3, .int x4), (4, .int x5)] := hl
  refine lv_aload_n hx hb d_5_9_0 rfl (lv_at hl 0 rfl) ?_
  refine q_get (ci := 7) (j := 1) (v := .int t0_1) C0 V i_Dig rfl rfl hT0 (by decide) w_266 rfl d_5_9_1 ?_
  refine lv_iconst (v := 0) hx hb d_5_9_4 (by decide) ?_
  refine q_max C0 hl.1 rfl w_1571 w_803 w_7 w_804 ⟨Nat.le_of_ble_eq_true rfl, Nat.le_of_ble_eq_true rfl⟩ ⟨Nat.le_of_ble_eq_true rfl, Nat.le_of_ble_eq_true rfl⟩ d_5_9_5 ?_
  obtain ⟨a14, e15⟩ := q_nm (if t0_1 < 0 then 0 else t0_1 : Int32)
  refine q_ti (v := a14) e15 ?_
  have b16 : q_F (t0_1.toInt ≤ a14.toInt ∧ 0 ≤ a14.toInt ∧ (a14.toInt = t0_1.toInt ∨ a14.toInt = 0)) := (by rw [← e15]; show t0_1.toInt ≤ (if t0_1 < 0 then 0 else t0_1 : Int32).toInt ∧ 0 ≤ (if t0_1 < 0 then 0 else t0_1 : Int32).toInt ∧ ((if t0_1 < 0 then 0 else t0_1 : Int32).toInt = t0_1.toInt ∨ (if t0_1 < 0 then 0 else t0_1 : Int32).toInt = 0); exact (by have y1 : (0 : Int32).toInt = 0 := rfl; have z := s_max (a := t0_1) (b := 0); omega))
  refine lv_istore (lv' := [(5, .int a14), (0, .ref (q 36)), (1, .ref (q k2)), (2, .int x3), (3, .int x4), (4, .int x5)]) hx hb d_5_9_8 hl (by decide) rfl (fun ls hl => ?_)
  refine q_loop (X := Int32 × Int32 × (Nat → Int64)) (fun z H locs ls w28 => q_F (0 ≤ z.1.toInt + 1) ∧ q_F (a14.toInt + t2_0.toInt ≤ z.1.toInt + z.2.1.toInt) ∧ q_F (z.2.1.toInt + 2 * z.1.toInt ≤ t2_0.toInt + 2 * a14.toInt) ∧ q_Wd D g (va_A ws sz) s w28 H locs ∧ lv_has ls 6 [(5, .int z.1), (0, .ref (q 36)), (1, .ref (q k2)), (2, .int x3), (3, .int x4), (4, .int x5)] ∧ q_I (nsh g q) q w28 ∧ q_un ws w28 [k2, k2 + 1] ∧ w28[36]? = (some (q 36, .inr (7, [.int t0_0, .int t0_1, .ref (q 37)])) : Option (Nat × va_E)) ∧ w28[37]? = (some (q 37, .inl (g 2, 1026, .inl t1_0)) : Option (Nat × va_E)) ∧ w28[k2]? = (some (q k2, .inr (1, [.ref (q (k2 + 1)), .int R, .int z.2.1])) : Option (Nat × va_E)) ∧ w28[k2 + 1]? = (some (q (k2 + 1), .inl (g 1, N.toNatClampNeg, .inr (.inl z.2.2))) : Option (Nat × va_E)) ∧ (∃ n, (z.1.toInt - ((-1000000))).toNat < n ∧ F_Dig_writePlain_L10 R N K x3 x4 x5 t0_0 t0_1 t1_0 t2_0 t3_0 n z.1 z.2.1 z.2.2 = (F_Dig_writePlain R N K x3 x4 x5 t0_0 t0_1 t1_0 t2_0 t3_0))) (fun z => (z.1.toInt - ((-1000000))).toNat) ?_ ((a14 : Int32), (t2_0 : Int32), (t3_0 : (Nat → Int64))) _ _ _ ws ⟨(show q_F (0 ≤ a14.toInt + 1) from (show 0 ≤ a14.toInt + 1 from by have t1 : t0_1.toInt ≤ a14.toInt ∧ 0 ≤ a14.toInt ∧ (a14.toInt = t0_1.toInt ∨ a14.toInt = 0) := b16; omega)), (show q_F (a14.toInt + t2_0.toInt ≤ a14.toInt + t2_0.toInt) from (show a14.toInt + t2_0.toInt ≤ a14.toInt + t2_0.toInt from by omega)), (show q_F (t2_0.toInt + 2 * a14.toInt ≤ t2_0.toInt + 2 * a14.toInt) from (show t2_0.toInt + 2 * a14.toInt ≤ t2_0.toInt + 2 * a14.toInt from by omega)), V, q_lw hl (q_lw1 0 rfl (q_lw1 1 rfl (q_lw1 2 rfl (q_lw1 3 rfl (q_lw1 4 rfl (q_lw1 5 rfl q_lw0)))))), hI, hF, hT0, hT1, hT2, hT3, ⟨((a14.toInt - ((-1000000))).toNat + 1), Nat.lt_succ_self _, (show F_Dig_writePlain_L10 R N K x3 x4 x5 t0_0 t0_1 t1_0 t2_0 t3_0 ((a14.toInt - ((-1000000))).toNat + 1) a14 t2_0 t3_0 = (F_Dig_writePlain R N K x3 x4 x5 t0_0 t0_1 t1_0 t2_0 t3_0) from (by rw [← e15, F_Dig_writePlain.eq_1]))⟩⟩
  rintro ⟨lx21, lx22, lx23⟩ H locs ls w28 ⟨i24, i25, i26, V, hl, hI, hF, hO29, hO30, hO31, hO32, ⟨fu35, hf36, hR33⟩⟩ ih27
  obtain ⟨fm37, rfl⟩ : ∃ m, fu35 = m + 1 := ⟨fu35 - 1, by omega⟩
  replace i24 : q_F (0 ≤ lx21.toInt + 1) := i24
  replace i25 : q_F (a14.toInt + t2_0.toInt ≤ lx21.toInt + lx22.toInt) := i25
  replace i26 : q_F (lx22.toInt + 2 * lx21.toInt ≤ t2_0.toInt + 2 * a14.toInt) := i26
  replace hl : lv_has ls 6 [(5, .int lx21), (0, .ref (q 36)), (1, .ref (q k2)), (2, .int x3), (3, .int x4), (4, .int x5)] := hl
  replace hO29 : w28[36]? = (some (q 36, .inr (7, [.int t0_0, .int t0_1, .ref (q 37)])) : Option (Nat × va_E)) := hO29
  replace hO30 : w28[37]? = (some (q 37, .inl (g 2, 1026, .inl t1_0)) : Option (Nat × va_E)) := hO30
  replace hO31 : w28[k2]? = (some (q k2, .inr (1, [.ref (q (k2 + 1)), .int R, .int lx22])) : Option (Nat × va_E)) := hO31
  replace hO32 : w28[k2 + 1]? = (some (q (k2 + 1), .inl (g 1, N.toNatClampNeg, .inr (.inl lx23))) : Option (Nat × va_E)) := hO32
  refine lv_iload hx hb d_5_9_10 (lv_at hl 0 rfl) ?_
  refine lv_if_lt (tgt := 61) hx hb d_5_9_12 (by decide) (fun c38 => ?_) (fun c38 => ?_)
  ·
    have b39 : q_F (lx21.toInt < 0) := (q_ltI c38)
    refine lv_iload_n hx hb d_5_9_61 rfl (lv_at hl 3 rfl) ?_
    refine q_join (X := Int32 × (Nat → Int64)) (fun z H locs ls w51 => q_F (x3.toInt ≤ z.1.toInt + 19998) ∧ q_F (x5.toInt + 1 ≤ z.1.toInt) ∧ q_F (lx22.toInt ≤ z.1.toInt) ∧ q_F (z.1.toInt ≤ lx22.toInt + 1) ∧ q_Wd D g (va_A ws sz) s w51 H locs ∧ lv_has ls 6 [(0, .ref (q 36)), (1, .ref (q k2)), (2, .int x3)] ∧ q_I (nsh g q) q w51 ∧ q_un ws w51 [k2, k2 + 1] ∧ w51[36]? = (some (q 36, .inr (7, [.int t0_0, .int t0_1, .ref (q 37)])) : Option (Nat × va_E)) ∧ w51[37]? = (some (q 37, .inl (g 2, 1026, .inl t1_0)) : Option (Nat × va_E)) ∧ w51[k2]? = (some (q k2, .inr (1, [.ref (q (k2 + 1)), .int R, .int z.1])) : Option (Nat × va_E)) ∧ w51[k2 + 1]? = (some (q (k2 + 1), .inl (g 1, N.toNatClampNeg, .inr (.inl z.2))) : Option (Nat × va_E)) ∧ F_Dig_writePlain_J76 (F_Dig_writePlain_L10 R N K x3 x4 x5 t0_0 t0_1 t1_0 t2_0 t3_0 fm37) R N K x3 x4 x5 t0_0 t0_1 t1_0 t2_0 t3_0 lx21 lx22 lx23 z.1 z.2 = (F_Dig_writePlain R N K x3 x4 x5 t0_0 t0_1 t1_0 t2_0 t3_0)) (fun z => []) 76 0 0 ?_ ?_
    ·
      rintro ⟨lx40, lx41⟩ H locs ls w51 ⟨i47, i48, i49, i50, V, hl, hI, hF, hO42, hA43, hO44, hA45, hR52⟩
      replace i47 : q_F (x3.toInt ≤ lx40.toInt + 19998) := i47
      replace i48 : q_F (x5.toInt + 1 ≤ lx40.toInt) := i48
      replace i49 : q_F (lx22.toInt ≤ lx40.toInt) := i49
      replace i50 : q_F (lx40.toInt ≤ lx22.toInt + 1) := i50
      replace hl : lv_has ls 6 [(0, .ref (q 36)), (1, .ref (q k2)), (2, .int x3)] := hl
      replace hO42 : w51[36]? = (some (q 36, .inr (7, [.int t0_0, .int t0_1, .ref (q 37)])) : Option (Nat × va_E)) := hO42
      replace hA43 : w51[37]? = (some (q 37, .inl (g 2, 1026, .inl t1_0)) : Option (Nat × va_E)) := hA43
      replace hO44 : w51[k2]? = (some (q k2, .inr (1, [.ref (q (k2 + 1)), .int R, .int lx40])) : Option (Nat × va_E)) := hO44
      replace hA45 : w51[k2 + 1]? = (some (q (k2 + 1), .inl (g 1, N.toNatClampNeg, .inr (.inl lx41))) : Option (Nat × va_E)) := hA45
      refine lv_iconst (v := 1) hx hb d_5_9_76 (by decide) ?_
      refine lv_istore (lv' := [(5, .int 1), (0, .ref (q 36)), (1, .ref (q k2)), (2, .int x3)]) hx hb d_5_9_77 hl (by decide) rfl (fun ls hl => ?_)
      refine q_loop (X := Int32 × Int32 × (Nat → Int64)) (fun z H locs ls w66 => q_F (z.1.toInt ≤ 20001) ∧ q_F (lx40.toInt + 1 ≤ z.1.toInt + z.2.1.toInt) ∧ q_F (z.2.1.toInt + 1 ≤ z.1.toInt + lx40.toInt) ∧ q_F (z.1.toInt + lx40.toInt ≤ z.2.1.toInt + 1) ∧ q_Wd D g (va_A ws sz) s w66 H locs ∧ lv_has ls 6 [(5, .int z.1), (0, .ref (q 36)), (1, .ref (q k2)), (2, .int x3)] ∧ q_I (nsh g q) q w66 ∧ q_un ws w66 [k2, k2 + 1] ∧ w66[36]? = (some (q 36, .inr (7, [.int t0_0, .int t0_1, .ref (q 37)])) : Option (Nat × va_E)) ∧ w66[37]? = (some (q 37, .inl (g 2, 1026, .inl t1_0)) : Option (Nat × va_E)) ∧ w66[k2]? = (some (q k2, .inr (1, [.ref (q (k2 + 1)), .int R, .int z.2.1])) : Option (Nat × va_E)) ∧ w66[k2 + 1]? = (some (q (k2 + 1), .inl (g 1, N.toNatClampNeg, .inr (.inl z.2.2))) : Option (Nat × va_E)) ∧ (∃ n, (200000 - z.1.toInt).toNat < n ∧ F_Dig_writePlain_L79 (F_Dig_writePlain_L10 R N K x3 x4 x5 t0_0 t0_1 t1_0 t2_0 t3_0 fm37) R N K x3 x4 x5 t0_0 t0_1 t1_0 t2_0 t3_0 lx21 lx22 lx23 lx40 lx41 n z.1 z.2.1 z.2.2 = (F_Dig_writePlain R N K x3 x4 x5 t0_0 t0_1 t1_0 t2_0 t3_0))) (fun z => (200000 - z.1.toInt).toNat) ?_ ((1 : Int32), (lx40 : Int32), (lx41 : (Nat → Int64))) _ _ _ w51 ⟨(show q_F (1 ≤ 20001) from (show 1 ≤ 20001 from by omega)), (show q_F (lx40.toInt + 1 ≤ 1 + lx40.toInt) from (show lx40.toInt + 1 ≤ 1 + lx40.toInt from by omega)), (show q_F (lx40.toInt + 1 ≤ 1 + lx40.toInt) from (show lx40.toInt + 1 ≤ 1 + lx40.toInt from by omega)), (show q_F (1 + lx40.toInt ≤ lx40.toInt + 1) from (show 1 + lx40.toInt ≤ lx40.toInt + 1 from by omega)), V, q_lw hl (q_lw1 0 rfl (q_lw1 1 rfl (q_lw1 2 rfl (q_lw1 3 rfl q_lw0)))), hI, hF, hO42, hA43, hO44, hA45, ⟨((200000 - (1 : Int32).toInt).toNat + 1), Nat.lt_succ_self _, (show F_Dig_writePlain_L79 (F_Dig_writePlain_L10 R N K x3 x4 x5 t0_0 t0_1 t1_0 t2_0 t3_0 fm37) R N K x3 x4 x5 t0_0 t0_1 t1_0 t2_0 t3_0 lx21 lx22 lx23 lx40 lx41 ((200000 - (1 : Int32).toInt).toNat + 1) 1 lx40 lx41 = (F_Dig_writePlain R N K x3 x4 x5 t0_0 t0_1 t1_0 t2_0 t3_0) from Eq.trans (by rw [F_Dig_writePlain_J76.eq_1]) hR52)⟩⟩
      rintro ⟨lx58, lx59, lx60⟩ H locs ls w66 ⟨i61, i62, i63, i64, V, hl, hI, hF, hO67, hO68, hO69, hO70, ⟨fu73, hf74, hR71⟩⟩ ih65
      obtain ⟨fm75, rfl⟩ : ∃ m, fu73 = m + 1 := ⟨fu73 - 1, by omega⟩
      replace i61 : q_F (lx58.toInt ≤ 20001) := i61
      replace i62 : q_F (lx40.toInt + 1 ≤ lx58.toInt + lx59.toInt) := i62
      replace i63 : q_F (lx59.toInt + 1 ≤ lx58.toInt + lx40.toInt) := i63
      replace i64 : q_F (lx58.toInt + lx40.toInt ≤ lx59.toInt + 1) := i64
      replace hl : lv_has ls 6 [(5, .int lx58), (0, .ref (q 36)), (1, .ref (q k2)), (2, .int x3)] := hl
      replace hO67 : w66[36]? = (some (q 36, .inr (7, [.int t0_0, .int t0_1, .ref (q 37)])) : Option (Nat × va_E)) := hO67
      replace hO68 : w66[37]? = (some (q 37, .inl (g 2, 1026, .inl t1_0)) : Option (Nat × va_E)) := hO68
      replace hO69 : w66[k2]? = (some (q k2, .inr (1, [.ref (q (k2 + 1)), .int R, .int lx59])) : Option (Nat × va_E)) := hO69
      replace hO70 : w66[k2 + 1]? = (some (q (k2 + 1), .inl (g 1, N.toNatClampNeg, .inr (.inl lx60))) : Option (Nat × va_E)) := hO70
      refine lv_iload hx hb d_5_9_79 (lv_at hl 0 rfl) ?_
      refine lv_iload_n hx hb d_5_9_81 rfl (lv_at hl 3 rfl) ?_
      refine lv_icmp_gt (tgt := 109) hx hb d_5_9_82 (by decide) (fun c76 => ?_) (fun c76 => ?_)
      ·
        have b77 : q_F (x3.toInt < lx58.toInt) := (q_ltI c76)
        exact q_retv C0 V (⟨hI, hF, lx59, lx60, hO69, hO70, (show x3.toInt + 1 ≤ lx59.toInt from (by have t1 : 0 ≤ x5.toInt ∧ x5.toInt ≤ 1 := hzx5; have t2 : x5.toInt + 1 ≤ lx40.toInt := i48; have t3 : lx58.toInt + lx40.toInt ≤ lx59.toInt + 1 := i64; have t4 : x3.toInt < lx58.toInt := b77; omega)), (show x5.toInt + 1 ≤ lx59.toInt from (by have t1 : x5.toInt + 1 ≤ lx40.toInt := i48; have t2 : lx40.toInt + 1 ≤ lx58.toInt + lx59.toInt := i62; have t3 : lx58.toInt + lx40.toInt ≤ lx59.toInt + 1 := i64; omega)), (show t0_1.toInt + 1 ≤ lx59.toInt from (by have t1 : 0 ≤ t2_0.toInt ∧ t2_0.toInt ≤ K.toInt := btt2_0; have t2 : t0_1.toInt ≤ a14.toInt ∧ 0 ≤ a14.toInt ∧ (a14.toInt = t0_1.toInt ∨ a14.toInt = 0) := b16; have t3 : a14.toInt + t2_0.toInt ≤ lx21.toInt + lx22.toInt := i25; have t4 : lx21.toInt < 0 := b39; have t5 : lx22.toInt ≤ lx40.toInt := i49; have t6 : lx40.toInt + 1 ≤ lx58.toInt + lx59.toInt := i62; have t7 : lx58.toInt + lx40.toInt ≤ lx59.toInt + 1 := i64; omega)), (show lx59.toInt ≤ t0_1.toInt + 1420003 from (by have t1 : -1000000 ≤ t0_1.toInt ∧ t0_1.toInt ≤ 1000000 := btt0_1; have t2 : t2_0.toInt ≤ 400000 := pre2; have t3 : t0_1.toInt ≤ a14.toInt ∧ 0 ≤ a14.toInt ∧ (a14.toInt = t0_1.toInt ∨ a14.toInt = 0) := b16; have t4 : 0 ≤ lx21.toInt + 1 := i24; have t5 : lx22.toInt + 2 * lx21.toInt ≤ t2_0.toInt + 2 * a14.toInt := i26; have t6 : lx40.toInt ≤ lx22.toInt + 1 := i50; have t7 : lx58.toInt ≤ 20001 := i61; have t8 : lx59.toInt + 1 ≤ lx58.toInt + lx40.toInt := i63; omega)), (show t2_0.toInt + 1 ≤ lx59.toInt from (by have t1 : t0_1.toInt ≤ a14.toInt ∧ 0 ≤ a14.toInt ∧ (a14.toInt = t0_1.toInt ∨ a14.toInt = 0) := b16; have t2 : a14.toInt + t2_0.toInt ≤ lx21.toInt + lx22.toInt := i25; have t3 : lx21.toInt < 0 := b39; have t4 : lx22.toInt ≤ lx40.toInt := i49; have t5 : lx40.toInt + 1 ≤ lx58.toInt + lx59.toInt := i62; have t6 : lx58.toInt + lx40.toInt ≤ lx59.toInt + 1 := i64; omega)), (show lx59.toInt ≤ t2_0.toInt + 420003 from (by have t1 : t0_1.toInt ≤ 200000 := pre0; have t2 : t0_1.toInt ≤ a14.toInt ∧ 0 ≤ a14.toInt ∧ (a14.toInt = t0_1.toInt ∨ a14.toInt = 0) := b16; have t3 : 0 ≤ lx21.toInt + 1 := i24; have t4 : lx22.toInt + 2 * lx21.toInt ≤ t2_0.toInt + 2 * a14.toInt := i26; have t5 : lx40.toInt ≤ lx22.toInt + 1 := i50; have t6 : lx58.toInt ≤ 20001 := i61; have t7 : lx59.toInt + 1 ≤ lx58.toInt + lx40.toInt := i63; omega)), (show (lx59, lx60) = (F_Dig_writePlain R N K x3 x4 x5 t0_0 t0_1 t1_0 t2_0 t3_0) from Eq.trans (by rw [F_Dig_writePlain_L79.eq_2, if_pos c76]) hR71)⟩) d_5_9_109
      ·
        have b78 : q_F (lx58.toInt ≤ x3.toInt) := (q_nltI c76)
        refine lv_aload_n hx hb d_5_9_85 rfl (lv_at hl 2 rfl) ?_
        refine lv_bipush (v := 48) hx hb d_5_9_86 (by decide) ?_
        refine lv_aload_n hx hb d_5_9_88 rfl (lv_at hl 1 rfl) ?_
        refine lv_aload_n hx hb d_5_9_89 rfl (lv_at hl 1 rfl) ?_
        refine q_get (ci := 7) (j := 1) (v := .int t0_1) C0 V i_Dig rfl rfl hO67 (by decide) w_266 rfl d_5_9_90 ?_
        refine lv_iload hx hb d_5_9_93 (lv_at hl 0 rfl) ?_
        refine lv_iadd hx hb d_5_9_95 ?_
        obtain ⟨a79, e80⟩ := q_nm (t0_1 + lx58 : Int32)
        refine q_ti (v := a79) e80 ?_
        have b81 : q_F (a79.toInt = t0_1.toInt + lx58.toInt) := (by rw [← e80]; show (t0_1 + lx58 : Int32).toInt = t0_1.toInt + lx58.toInt; exact q_addI (x := t0_1.toInt) (y := lx58.toInt) rfl rfl (by have t1 : -1000000 ≤ t0_1.toInt ∧ t0_1.toInt ≤ 1000000 := btt0_1; have t2 : lx40.toInt + 1 ≤ lx58.toInt + lx59.toInt := i62; have t3 : lx59.toInt + 1 ≤ lx58.toInt + lx40.toInt := i63; have t4 : lx58.toInt ≤ 20001 := i61; omega) (by have t1 : -1000000 ≤ t0_1.toInt ∧ t0_1.toInt ≤ 1000000 := btt0_1; have t2 : lx40.toInt + 1 ≤ lx58.toInt + lx59.toInt := i62; have t3 : lx59.toInt + 1 ≤ lx58.toInt + lx40.toInt := i63; have t4 : lx58.toInt ≤ 20001 := i61; omega))
        refine q_goi V (q_runV (As := [.int a79]) (rest := [.int 48, .ref (q k2)]) (d := 1) (mc := 0) (ms := 0) (ci := 7) C0 V rfl LV_Dig_49 (X_Dig_figure l D g q w66  a79 hI t0_0 t0_1 hO67 t1_0 hO68  _) rfl rfl hO67 rfl hl.1 rfl (Nat.le_of_ble_eq_true rfl) ⟨by decide, by decide⟩ ⟨Nat.le_of_ble_eq_true rfl, Nat.le_of_ble_eq_true rfl⟩ d_5_9_96) (fun a84 u82 H locs hp83 V => ?_)
        obtain ⟨rfl, hE85⟩ := hp83
        have e86 : a84 = (F_Dig_figure a79 t0_0 t0_1 t1_0) := hE85
        refine lv_iadd hx hb d_5_9_99 ?_
        obtain ⟨a87, e88⟩ := q_nm (48 + a84 : Int32)
        refine q_ti (v := a87) e88 ?_
        refine q_gov V (q_runV (As := [.int a87]) (rest := []) (d := 1) (mc := 0) (ms := 0) (ci := 1) C0 V rfl LV_Dig_52 (X_She_add_p l D g q w66 k2 R N K hB2 a87 hI lx59 hO69 lx60 hO70 (by have t1 : t0_1.toInt ≤ 200000 := pre0; have t2 : t2_0.toInt ≤ 400000 := pre2; have t3 : 1000000 ≤ K.toInt := pre3; have t4 : t0_1.toInt ≤ a14.toInt ∧ 0 ≤ a14.toInt ∧ (a14.toInt = t0_1.toInt ∨ a14.toInt = 0) := b16; have t5 : 0 ≤ lx21.toInt + 1 := i24; have t6 : lx22.toInt + 2 * lx21.toInt ≤ t2_0.toInt + 2 * a14.toInt := i26; have t7 : lx40.toInt ≤ lx22.toInt + 1 := i50; have t8 : lx58.toInt ≤ 20001 := i61; have t9 : lx59.toInt + 1 ≤ lx58.toInt + lx40.toInt := i63; omega) _) rfl rfl hO69 rfl hl.1 rfl (Nat.le_of_ble_eq_true rfl) ⟨by decide, by decide⟩ ⟨Nat.le_of_ble_eq_true rfl, Nat.le_of_ble_eq_true rfl⟩ d_5_9_100) (fun u89 H locs hp90 V => ?_)
        obtain ⟨hI, hu98, y92, f93, hO91, hA94, b95, b96, hE97⟩ := hp90
        replace hO91 : u89[k2]? = (some (q k2, .inr (1, [.ref (q (k2 + 1)), .int R, .int y92])) : Option (Nat × va_E)) := hO91
        replace hA94 : u89[k2 + 1]? = (some (q (k2 + 1), .inl (g 1, N.toNatClampNeg, .inr (.inl f93))) : Option (Nat × va_E)) := hA94
        obtain ⟨p99, e100⟩ : ∃ z, z = (F_She_add_p R N K a87 lx59 lx60) := ⟨_, rfl⟩
        have e101 : y92 = p99.1 := congrArg (fun z => z.1) (hE97.trans e100.symm)
        have e102 : f93 = p99.2 := congrArg (fun z => z.2) (hE97.trans e100.symm)
        replace b95 : q_F (lx59.toInt + 1 ≤ y92.toInt) := b95
        replace b96 : q_F (y92.toInt ≤ lx59.toInt + 1) := b96
        replace hO67 := (hu98 _ (by have z0 := hB2.2.2.2; simp only [List.mem_cons, List.not_mem_nil, or_false, not_or]; omega)).trans hO67
        replace hO68 := (hu98 _ (by have z0 := hB2.2.2.2; simp only [List.mem_cons, List.not_mem_nil, or_false, not_or]; omega)).trans hO68
        replace hF := q_uc hF hu98 (by simp)
        have hR103 := (show F_Dig_writePlain_c100 (F_Dig_writePlain_L10 R N K x3 x4 x5 t0_0 t0_1 t1_0 t2_0 t3_0 fm37) (F_Dig_writePlain_L79 (F_Dig_writePlain_L10 R N K x3 x4 x5 t0_0 t0_1 t1_0 t2_0 t3_0 fm37) R N K x3 x4 x5 t0_0 t0_1 t1_0 t2_0 t3_0 lx21 lx22 lx23 lx40 lx41 fm75) R N K x3 x4 x5 t0_0 t0_1 t1_0 t2_0 t3_0 lx21 lx22 lx23 lx40 lx41 lx58 lx59 lx60 p99 = (F_Dig_writePlain R N K x3 x4 x5 t0_0 t0_1 t1_0 t2_0 t3_0) from Eq.trans (by rw [e100, ← e88, e86, ← e80, F_Dig_writePlain_L79.eq_2, if_neg c76]) hR71)
        obtain ⟨a108, e109⟩ := q_nm (lx58 + 1 : Int32)
        have b110 : q_F (a108.toInt = lx58.toInt + 1) := (by rw [← e109]; exact q_addI (y := 1) rfl (by decide) (by have t1 : lx40.toInt + 1 ≤ lx58.toInt + lx59.toInt := i62; have t2 : lx59.toInt + 1 ≤ lx58.toInt + lx40.toInt := i63; have t3 : lx58.toInt ≤ 20001 := i61; omega) (by have t1 : lx40.toInt + 1 ≤ lx58.toInt + lx59.toInt := i62; have t2 : lx59.toInt + 1 ≤ lx58.toInt + lx40.toInt := i63; have t3 : lx58.toInt ≤ 20001 := i61; omega))
        refine lv_iinc (v := a108) (lv' := [(5, .int a108), (0, .ref (q 36)), (1, .ref (q k2)), (2, .int x3)]) hx hb d_5_9_103 hl (k := 0) rfl (e109) (by decide) rfl (fun ls hl => ?_)
        refine lv_goto (tgt := 79) hx hb d_5_9_106 (by decide) ?_
        exact ih65 ((a108 : Int32), (y92 : Int32), (f93 : (Nat → Int64))) _ _ _ _ (show (200000 - a108.toInt).toNat < (200000 - lx58.toInt).toNat from by have t1 : a108.toInt = lx58.toInt + 1 := b110; have t2 : lx58.toInt ≤ 20001 := i61; omega) ⟨(show q_F (a108.toInt ≤ 20001) from (show a108.toInt ≤ 20001 from by have t1 : x3.toInt ≤ 20000 := pre1; have t2 : lx58.toInt ≤ x3.toInt := b78; have t3 : a108.toInt = lx58.toInt + 1 := b110; omega)), (show q_F (lx40.toInt + 1 ≤ a108.toInt + y92.toInt) from (show lx40.toInt + 1 ≤ a108.toInt + y92.toInt from by have t1 : lx40.toInt + 1 ≤ lx58.toInt + lx59.toInt := i62; have t2 : lx59.toInt + 1 ≤ y92.toInt := b95; have t3 : a108.toInt = lx58.toInt + 1 := b110; omega)), (show q_F (y92.toInt + 1 ≤ a108.toInt + lx40.toInt) from (show y92.toInt + 1 ≤ a108.toInt + lx40.toInt from by have t1 : lx59.toInt + 1 ≤ lx58.toInt + lx40.toInt := i63; have t2 : y92.toInt ≤ lx59.toInt + 1 := b96; have t3 : a108.toInt = lx58.toInt + 1 := b110; omega)), (show q_F (a108.toInt + lx40.toInt ≤ y92.toInt + 1) from (show a108.toInt + lx40.toInt ≤ y92.toInt + 1 from by have t1 : lx58.toInt + lx40.toInt ≤ lx59.toInt + 1 := i64; have t2 : lx59.toInt + 1 ≤ y92.toInt := b95; have t3 : a108.toInt = lx58.toInt + 1 := b110; omega)), V, q_lw hl (q_lw1 0 rfl (q_lw1 1 rfl (q_lw1 2 rfl (q_lw1 3 rfl q_lw0)))), hI, hF, hO67, hO68, hO91, hA94, ⟨fm75, Nat.lt_of_lt_of_le (show (200000 - a108.toInt).toNat < (200000 - lx58.toInt).toNat from by have t1 : a108.toInt = lx58.toInt + 1 := b110; have t2 : lx58.toInt ≤ 20001 := i61; omega) (Nat.le_of_lt_succ hf74), (show F_Dig_writePlain_L79 (F_Dig_writePlain_L10 R N K x3 x4 x5 t0_0 t0_1 t1_0 t2_0 t3_0 fm37) R N K x3 x4 x5 t0_0 t0_1 t1_0 t2_0 t3_0 lx21 lx22 lx23 lx40 lx41 fm75 a108 y92 f93 = (F_Dig_writePlain R N K x3 x4 x5 t0_0 t0_1 t1_0 t2_0 t3_0) from Eq.trans (by rw [← e109, e102, e101, F_Dig_writePlain_c100.eq_1]) hR103)⟩⟩
    ·
      intro J46
      refine q_join (X := Unit) (fun z H locs ls _ => q_Wd D g (va_A ws sz) s w28 H locs ∧ lv_has ls 6 [(0, .ref (q 36)), (1, .ref (q k2)), (2, .int x3)] ∧ F_Dig_writePlain_J70 (F_Dig_writePlain_L10 R N K x3 x4 x5 t0_0 t0_1 t1_0 t2_0 t3_0 fm37) R N K x3 x4 x5 t0_0 t0_1 t1_0 t2_0 t3_0 lx21 lx22 lx23 = (F_Dig_writePlain R N K x3 x4 x5 t0_0 t0_1 t1_0 t2_0 t3_0)) (fun z => []) 70 0 0 ?_ ?_
      ·
        rintro _ H locs ls _ ⟨V, hl, hR116⟩
        replace hl : lv_has ls 6 [(0, .ref (q 36)), (1, .ref (q k2)), (2, .int x3)] := hl
        refine lv_aload_n hx hb d_5_9_70 rfl (lv_at hl 1 rfl) ?_
        refine lv_bipush (v := 46) hx hb d_5_9_71 (by decide) ?_
        refine q_gov V (q_runV (As := [.int 46]) (rest := []) (d := 1) (mc := 0) (ms := 0) (ci := 1) C0 V rfl LV_Dig_52 (X_She_add_p l D g q w28 k2 R N K hB2 46 hI lx22 hO31 lx23 hO32 (by have y0 : (46 : Int32).toInt = 46 := rfl; have t1 : t0_1.toInt ≤ 200000 := pre0; have t2 : t2_0.toInt ≤ 400000 := pre2; have t3 : 1000000 ≤ K.toInt := pre3; have t4 : t0_1.toInt ≤ a14.toInt ∧ 0 ≤ a14.toInt ∧ (a14.toInt = t0_1.toInt ∨ a14.toInt = 0) := b16; have t5 : 0 ≤ lx21.toInt + 1 := i24; have t6 : lx22.toInt + 2 * lx21.toInt ≤ t2_0.toInt + 2 * a14.toInt := i26; omega) _) rfl rfl hO31 rfl hl.1 rfl (Nat.le_of_ble_eq_true rfl) ⟨by decide, by decide⟩ ⟨Nat.le_of_ble_eq_true rfl, Nat.le_of_ble_eq_true rfl⟩ d_5_9_73) (fun u121 H locs hp122 V => ?_)
        obtain ⟨hI, hu130, y124, f125, hO123, hA126, b127, b128, hE129⟩ := hp122
        replace hO123 : u121[k2]? = (some (q k2, .inr (1, [.ref (q (k2 + 1)), .int R, .int y124])) : Option (Nat × va_E)) := hO123
        replace hA126 : u121[k2 + 1]? = (some (q (k2 + 1), .inl (g 1, N.toNatClampNeg, .inr (.inl f125))) : Option (Nat × va_E)) := hA126
        obtain ⟨p131, e132⟩ : ∃ z, z = (F_She_add_p R N K (46 : Int32) lx22 lx23) := ⟨_, rfl⟩
        have e133 : y124 = p131.1 := congrArg (fun z => z.1) (hE129.trans e132.symm)
        have e134 : f125 = p131.2 := congrArg (fun z => z.2) (hE129.trans e132.symm)
        replace b127 : q_F (lx22.toInt + 1 ≤ y124.toInt) := b127
        replace b128 : q_F (y124.toInt ≤ lx22.toInt + 1) := b128
        replace hO29 := (hu130 _ (by have z0 := hB2.2.2.2; simp only [List.mem_cons, List.not_mem_nil, or_false, not_or]; omega)).trans hO29
        replace hO30 := (hu130 _ (by have z0 := hB2.2.2.2; simp only [List.mem_cons, List.not_mem_nil, or_false, not_or]; omega)).trans hO30
        replace hF := q_uc hF hu130 (by simp)
        have hR135 := (show F_Dig_writePlain_c73 (F_Dig_writePlain_L10 R N K x3 x4 x5 t0_0 t0_1 t1_0 t2_0 t3_0 fm37) R N K x3 x4 x5 t0_0 t0_1 t1_0 t2_0 t3_0 lx21 lx22 lx23 p131 = (F_Dig_writePlain R N K x3 x4 x5 t0_0 t0_1 t1_0 t2_0 t3_0) from Eq.trans (by rw [e132, F_Dig_writePlain_J70.eq_1]) hR116)
        exact J46 ((y124 : Int32), (f125 : (Nat → Int64))) _ _ _ _ ⟨(show q_F (x3.toInt ≤ y124.toInt + 19998) from (show x3.toInt ≤ y124.toInt + 19998 from by have t1 : 0 ≤ t2_0.toInt ∧ t2_0.toInt ≤ K.toInt := btt2_0; have t2 : x3.toInt ≤ 20000 := pre1; have t3 : t0_1.toInt ≤ a14.toInt ∧ 0 ≤ a14.toInt ∧ (a14.toInt = t0_1.toInt ∨ a14.toInt = 0) := b16; have t4 : a14.toInt + t2_0.toInt ≤ lx21.toInt + lx22.toInt := i25; have t5 : lx21.toInt < 0 := b39; have t6 : lx22.toInt + 1 ≤ y124.toInt := b127; omega)), (show q_F (x5.toInt + 1 ≤ y124.toInt) from (show x5.toInt + 1 ≤ y124.toInt from by have t1 : 0 ≤ x5.toInt ∧ x5.toInt ≤ 1 := hzx5; have t2 : 0 ≤ t2_0.toInt ∧ t2_0.toInt ≤ K.toInt := btt2_0; have t3 : t0_1.toInt ≤ a14.toInt ∧ 0 ≤ a14.toInt ∧ (a14.toInt = t0_1.toInt ∨ a14.toInt = 0) := b16; have t4 : a14.toInt + t2_0.toInt ≤ lx21.toInt + lx22.toInt := i25; have t5 : lx21.toInt < 0 := b39; have t6 : lx22.toInt + 1 ≤ y124.toInt := b127; omega)), (show q_F (lx22.toInt ≤ y124.toInt) from (show lx22.toInt ≤ y124.toInt from by have t1 : lx22.toInt + 1 ≤ y124.toInt := b127; omega)), (show q_F (y124.toInt ≤ lx22.toInt + 1) from (show y124.toInt ≤ lx22.toInt + 1 from by have t1 : y124.toInt ≤ lx22.toInt + 1 := b128; omega)), V, q_lw hl (q_lw1 0 rfl (q_lw1 1 rfl (q_lw1 2 rfl q_lw0))), hI, hF, hO29, hO30, hO123, hA126, (show F_Dig_writePlain_J76 (F_Dig_writePlain_L10 R N K x3 x4 x5 t0_0 t0_1 t1_0 t2_0 t3_0 fm37) R N K x3 x4 x5 t0_0 t0_1 t1_0 t2_0 t3_0 lx21 lx22 lx23 y124 f125 = (F_Dig_writePlain R N K x3 x4 x5 t0_0 t0_1 t1_0 t2_0 t3_0) from Eq.trans (by rw [e134, e133, F_Dig_writePlain_c73.eq_1]) hR135)⟩
      ·
        intro J115
        refine lv_if_gt (tgt := 70) hx hb d_5_9_62 (by decide) (fun c140 => ?_) (fun c140 => ?_)
        ·
          have b141 : q_F (0 < x3.toInt) := (q_ltI c140)
          exact J115 (()) _ _ _ w28 ⟨V, q_lw hl (q_lw1 1 rfl (q_lw1 2 rfl (q_lw1 3 rfl q_lw0))), (show F_Dig_writePlain_J70 (F_Dig_writePlain_L10 R N K x3 x4 x5 t0_0 t0_1 t1_0 t2_0 t3_0 fm37) R N K x3 x4 x5 t0_0 t0_1 t1_0 t2_0 t3_0 lx21 lx22 lx23 = (F_Dig_writePlain R N K x3 x4 x5 t0_0 t0_1 t1_0 t2_0 t3_0) from Eq.trans (by rw [F_Dig_writePlain_L10.eq_2, if_pos c38, if_pos c140]) hR33)⟩
        ·
          have b142 : q_F (x3.toInt ≤ 0) := (q_nltI c140)
          refine lv_iload hx hb d_5_9_65 (lv_at hl 5 rfl) ?_
          refine lv_if_eq (tgt := 76) hx hb d_5_9_67 (by decide) (fun c143 => ?_) (fun c143 => ?_)
          ·
            have b144 : q_F (x5.toInt = 0) := (q_eqI c143)
            exact J46 ((lx22 : Int32), (lx23 : (Nat → Int64))) _ _ _ _ ⟨(show q_F (x3.toInt ≤ lx22.toInt + 19998) from (show x3.toInt ≤ lx22.toInt + 19998 from by have t1 : 0 ≤ t2_0.toInt ∧ t2_0.toInt ≤ K.toInt := btt2_0; have t2 : a14.toInt + t2_0.toInt ≤ lx21.toInt + lx22.toInt := i25; have t3 : lx22.toInt + 2 * lx21.toInt ≤ t2_0.toInt + 2 * a14.toInt := i26; have t4 : x3.toInt ≤ 0 := b142; omega)), (show q_F (x5.toInt + 1 ≤ lx22.toInt) from (show x5.toInt + 1 ≤ lx22.toInt from by have t1 : 0 ≤ t2_0.toInt ∧ t2_0.toInt ≤ K.toInt := btt2_0; have t2 : t0_1.toInt ≤ a14.toInt ∧ 0 ≤ a14.toInt ∧ (a14.toInt = t0_1.toInt ∨ a14.toInt = 0) := b16; have t3 : a14.toInt + t2_0.toInt ≤ lx21.toInt + lx22.toInt := i25; have t4 : lx21.toInt < 0 := b39; have t5 : x5.toInt = 0 := b144; omega)), (show q_F (lx22.toInt ≤ lx22.toInt) from (show lx22.toInt ≤ lx22.toInt from by omega)), (show q_F (lx22.toInt ≤ lx22.toInt + 1) from (show lx22.toInt ≤ lx22.toInt + 1 from by omega)), V, q_lw hl (q_lw1 1 rfl (q_lw1 2 rfl (q_lw1 3 rfl q_lw0))), hI, hF, hO29, hO30, hO31, hO32, (show F_Dig_writePlain_J76 (F_Dig_writePlain_L10 R N K x3 x4 x5 t0_0 t0_1 t1_0 t2_0 t3_0 fm37) R N K x3 x4 x5 t0_0 t0_1 t1_0 t2_0 t3_0 lx21 lx22 lx23 lx22 lx23 = (F_Dig_writePlain R N K x3 x4 x5 t0_0 t0_1 t1_0 t2_0 t3_0) from Eq.trans (by rw [F_Dig_writePlain_L10.eq_2, if_pos c38, if_neg c140, if_pos c143]) hR33)⟩
          ·
            have b145 : q_F (x5.toInt ≠ 0) := (q_neI c143)
            exact J115 (()) _ _ _ w28 ⟨V, q_lw hl (q_lw1 1 rfl (q_lw1 2 rfl (q_lw1 3 rfl q_lw0))), (show F_Dig_writePlain_J70 (F_Dig_writePlain_L10 R N K x3 x4 x5 t0_0 t0_1 t1_0 t2_0 t3_0 fm37) R N K x3 x4 x5 t0_0 t0_1 t1_0 t2_0 t3_0 lx21 lx22 lx23 = (F_Dig_writePlain R N K x3 x4 x5 t0_0 t0_1 t1_0 t2_0 t3_0) from Eq.trans (by rw [F_Dig_writePlain_L10.eq_2, if_pos c38, if_neg c140, if_neg c143]) hR33)⟩
  ·
    have b146 : q_F (0 ≤ lx21.toInt) := (q_nltI c38)
    refine lv_aload_n hx hb d_5_9_15 rfl (lv_at hl 2 rfl) ?_
    refine lv_bipush (v := 48) hx hb d_5_9_16 (by decide) ?_
    refine lv_aload_n hx hb d_5_9_18 rfl (lv_at hl 1 rfl) ?_
    refine lv_aload_n hx hb d_5_9_19 rfl (lv_at hl 1 rfl) ?_
    refine q_get (ci := 7) (j := 1) (v := .int t0_1) C0 V i_Dig rfl rfl hO29 (by decide) w_266 rfl d_5_9_20 ?_
    refine lv_iload hx hb d_5_9_23 (lv_at hl 0 rfl) ?_
    refine lv_isub hx hb d_5_9_25 ?_
    obtain ⟨a147, e148⟩ := q_nm (t0_1 - lx21 : Int32)
    refine q_ti (v := a147) e148 ?_
    have b149 : q_F (a147.toInt = t0_1.toInt - lx21.toInt) := (by rw [← e148]; show (t0_1 - lx21 : Int32).toInt = t0_1.toInt - lx21.toInt; exact q_subI (x := t0_1.toInt) (y := lx21.toInt) rfl rfl (by have t1 : -1000000 ≤ t0_1.toInt ∧ t0_1.toInt ≤ 1000000 := btt0_1; have t2 : t0_1.toInt ≤ a14.toInt ∧ 0 ≤ a14.toInt ∧ (a14.toInt = t0_1.toInt ∨ a14.toInt = 0) := b16; have t3 : a14.toInt + t2_0.toInt ≤ lx21.toInt + lx22.toInt := i25; have t4 : lx22.toInt + 2 * lx21.toInt ≤ t2_0.toInt + 2 * a14.toInt := i26; have t5 : 0 ≤ lx21.toInt + 1 := i24; omega) (by have t1 : -1000000 ≤ t0_1.toInt ∧ t0_1.toInt ≤ 1000000 := btt0_1; have t2 : t0_1.toInt ≤ a14.toInt ∧ 0 ≤ a14.toInt ∧ (a14.toInt = t0_1.toInt ∨ a14.toInt = 0) := b16; have t3 : a14.toInt + t2_0.toInt ≤ lx21.toInt + lx22.toInt := i25; have t4 : lx22.toInt + 2 * lx21.toInt ≤ t2_0.toInt + 2 * a14.toInt := i26; have t5 : 0 ≤ lx21.toInt + 1 := i24; omega))
    refine q_goi V (q_runV (As := [.int a147]) (rest := [.int 48, .ref (q k2)]) (d := 1) (mc := 0) (ms := 0) (ci := 7) C0 V rfl LV_Dig_49 (X_Dig_figure l D g q w28  a147 hI t0_0 t0_1 hO29 t1_0 hO30  _) rfl rfl hO29 rfl hl.1 rfl (Nat.le_of_ble_eq_true rfl) ⟨by decide, by decide⟩ ⟨Nat.le_of_ble_eq_true rfl, Nat.le_of_ble_eq_true rfl⟩ d_5_9_26) (fun a152 u150 H locs hp151 V => ?_)
    obtain ⟨rfl, hE153⟩ := hp151
    have e154 : a152 = (F_Dig_figure a147 t0_0 t0_1 t1_0) := hE153
    refine lv_iadd hx hb d_5_9_29 ?_
    obtain ⟨a155, e156⟩ := q_nm (48 + a152 : Int32)
    refine q_ti (v := a155) e156 ?_
    refine q_gov V (q_runV (As := [.int a155]) (rest := []) (d := 1) (mc := 0) (ms := 0) (ci := 1) C0 V rfl LV_Dig_52 (X_She_add_p l D g q w28 k2 R N K hB2 a155 hI lx22 hO31 lx23 hO32 (by have t1 : t0_1.toInt ≤ 200000 := pre0; have t2 : t2_0.toInt ≤ 400000 := pre2; have t3 : 1000000 ≤ K.toInt := pre3; have t4 : t0_1.toInt ≤ a14.toInt ∧ 0 ≤ a14.toInt ∧ (a14.toInt = t0_1.toInt ∨ a14.toInt = 0) := b16; have t5 : 0 ≤ lx21.toInt + 1 := i24; have t6 : lx22.toInt + 2 * lx21.toInt ≤ t2_0.toInt + 2 * a14.toInt := i26; omega) _) rfl rfl hO31 rfl hl.1 rfl (Nat.le_of_ble_eq_true rfl) ⟨by decide, by decide⟩ ⟨Nat.le_of_ble_eq_true rfl, Nat.le_of_ble_eq_true rfl⟩ d_5_9_30) (fun u157 H locs hp158 V => ?_)
    obtain ⟨hI, hu166, y160, f161, hO159, hA162, b163, b164, hE165⟩ := hp158
    replace hO159 : u157[k2]? = (some (q k2, .inr (1, [.ref (q (k2 + 1)), .int R, .int y160])) : Option (Nat × va_E)) := hO159
    replace hA162 : u157[k2 + 1]? = (some (q (k2 + 1), .inl (g 1, N.toNatClampNeg, .inr (.inl f161))) : Option (Nat × va_E)) := hA162
    obtain ⟨p167, e168⟩ : ∃ z, z = (F_She_add_p R N K a155 lx22 lx23) := ⟨_, rfl⟩
    have e169 : y160 = p167.1 := congrArg (fun z => z.1) (hE165.trans e168.symm)
    have e170 : f161 = p167.2 := congrArg (fun z => z.2) (hE165.trans e168.symm)
    replace b163 : q_F (lx22.toInt + 1 ≤ y160.toInt) := b163
    replace b164 : q_F (y160.toInt ≤ lx22.toInt + 1) := b164
    replace hO29 := (hu166 _ (by have z0 := hB2.2.2.2; simp only [List.mem_cons, List.not_mem_nil, or_false, not_or]; omega)).trans hO29
    replace hO30 := (hu166 _ (by have z0 := hB2.2.2.2; simp only [List.mem_cons, List.not_mem_nil, or_false, not_or]; omega)).trans hO30
    replace hF := q_uc hF hu166 (by simp)
    have hR171 := (show F_Dig_writePlain_c30 (F_Dig_writePlain_L10 R N K x3 x4 x5 t0_0 t0_1 t1_0 t2_0 t3_0 fm37) R N K x3 x4 x5 t0_0 t0_1 t1_0 t2_0 t3_0 lx21 lx22 lx23 p167 = (F_Dig_writePlain R N K x3 x4 x5 t0_0 t0_1 t1_0 t2_0 t3_0) from Eq.trans (by rw [e168, ← e156, e154, ← e148, F_Dig_writePlain_L10.eq_2, if_neg c38]) hR33)
    refine lv_iload_n hx hb d_5_9_33 rfl (lv_at hl 4 rfl) ?_
    refine lv_if_eq (tgt := 55) hx hb d_5_9_34 (by decide) (fun c176 => ?_) (fun c176 => ?_)
    ·
      have b177 : q_F (x4.toInt = 0) := (q_eqI c176)
      obtain ⟨a178, e179⟩ := q_nm (lx21 + (-1) : Int32)
      have b180 : q_F (a178.toInt = lx21.toInt + (-1)) := (by rw [← e179]; exact q_addI (y := (-1)) rfl (by decide) (by have t1 : 0 ≤ lx21.toInt + 1 := i24; have t2 : a14.toInt + t2_0.toInt ≤ lx21.toInt + lx22.toInt := i25; have t3 : lx22.toInt + 2 * lx21.toInt ≤ t2_0.toInt + 2 * a14.toInt := i26; have _ := q_lo32 (x := a14); have _ := q_hi32 (x := a14); omega) (by have t1 : 0 ≤ lx21.toInt + 1 := i24; have t2 : a14.toInt + t2_0.toInt ≤ lx21.toInt + lx22.toInt := i25; have t3 : lx22.toInt + 2 * lx21.toInt ≤ t2_0.toInt + 2 * a14.toInt := i26; have _ := q_lo32 (x := a14); have _ := q_hi32 (x := a14); omega))
      refine lv_iinc (v := a178) (lv' := [(5, .int a178), (0, .ref (q 36)), (1, .ref (q k2)), (2, .int x3), (3, .int x4), (4, .int x5)]) hx hb d_5_9_55 hl (k := 0) rfl (e179) (by decide) rfl (fun ls hl => ?_)
      refine lv_goto (tgt := 10) hx hb d_5_9_58 (by decide) ?_
      exact ih27 ((a178 : Int32), (y160 : Int32), (f161 : (Nat → Int64))) _ _ _ _ (show (a178.toInt - ((-1000000))).toNat < (lx21.toInt - ((-1000000))).toNat from by have t1 : a178.toInt = lx21.toInt + (-1) := b180; have t2 : 0 ≤ lx21.toInt + 1 := i24; omega) ⟨(show q_F (0 ≤ a178.toInt + 1) from (show 0 ≤ a178.toInt + 1 from by have t1 : 0 ≤ lx21.toInt := b146; have t2 : a178.toInt = lx21.toInt + (-1) := b180; omega)), (show q_F (a14.toInt + t2_0.toInt ≤ a178.toInt + y160.toInt) from (show a14.toInt + t2_0.toInt ≤ a178.toInt + y160.toInt from by have t1 : a14.toInt + t2_0.toInt ≤ lx21.toInt + lx22.toInt := i25; have t2 : lx22.toInt + 1 ≤ y160.toInt := b163; have t3 : a178.toInt = lx21.toInt + (-1) := b180; omega)), (show q_F (y160.toInt + 2 * a178.toInt ≤ t2_0.toInt + 2 * a14.toInt) from (show y160.toInt + 2 * a178.toInt ≤ t2_0.toInt + 2 * a14.toInt from by have t1 : lx22.toInt + 2 * lx21.toInt ≤ t2_0.toInt + 2 * a14.toInt := i26; have t2 : y160.toInt ≤ lx22.toInt + 1 := b164; have t3 : a178.toInt = lx21.toInt + (-1) := b180; omega)), V, q_lw hl (q_lw1 0 rfl (q_lw1 1 rfl (q_lw1 2 rfl (q_lw1 3 rfl (q_lw1 4 rfl (q_lw1 5 rfl q_lw0)))))), hI, hF, hO29, hO30, hO159, hA162, ⟨fm37, Nat.lt_of_lt_of_le (show (a178.toInt - ((-1000000))).toNat < (lx21.toInt - ((-1000000))).toNat from by have t1 : a178.toInt = lx21.toInt + (-1) := b180; have t2 : 0 ≤ lx21.toInt + 1 := i24; omega) (Nat.le_of_lt_succ hf36), (show F_Dig_writePlain_L10 R N K x3 x4 x5 t0_0 t0_1 t1_0 t2_0 t3_0 fm37 a178 y160 f161 = (F_Dig_writePlain R N K x3 x4 x5 t0_0 t0_1 t1_0 t2_0 t3_0) from Eq.trans (by rw [← e179, e170, e169, F_Dig_writePlain_c30.eq_1, if_pos c176]) hR171)⟩⟩
    ·
      have b181 : q_F (x4.toInt ≠ 0) := (q_neI c176)
      refine lv_iload hx hb d_5_9_37 (lv_at hl 0 rfl) ?_
      refine lv_if_le (tgt := 55) hx hb d_5_9_39 (by decide) (fun c182 => ?_) (fun c182 => ?_)
      ·
        have b183 : q_F (lx21.toInt ≤ 0) := (q_leI c182)
        obtain ⟨a184, e185⟩ := q_nm (lx21 + (-1) : Int32)
        have b186 : q_F (a184.toInt = lx21.toInt + (-1)) := (by rw [← e185]; exact q_addI (y := (-1)) rfl (by decide) (by have t1 : 0 ≤ lx21.toInt + 1 := i24; have t2 : lx21.toInt ≤ 0 := b183; omega) (by have t1 : 0 ≤ lx21.toInt + 1 := i24; have t2 : lx21.toInt ≤ 0 := b183; omega))
        refine lv_iinc (v := a184) (lv' := [(5, .int a184), (0, .ref (q 36)), (1, .ref (q k2)), (2, .int x3), (3, .int x4), (4, .int x5)]) hx hb d_5_9_55 hl (k := 0) rfl (e185) (by decide) rfl (fun ls hl => ?_)
        refine lv_goto (tgt := 10) hx hb d_5_9_58 (by decide) ?_
        exact ih27 ((a184 : Int32), (y160 : Int32), (f161 : (Nat → Int64))) _ _ _ _ (show (a184.toInt - ((-1000000))).toNat < (lx21.toInt - ((-1000000))).toNat from by have t1 : a184.toInt = lx21.toInt + (-1) := b186; have t2 : 0 ≤ lx21.toInt + 1 := i24; omega) ⟨(show q_F (0 ≤ a184.toInt + 1) from (show 0 ≤ a184.toInt + 1 from by have t1 : 0 ≤ lx21.toInt := b146; have t2 : a184.toInt = lx21.toInt + (-1) := b186; omega)), (show q_F (a14.toInt + t2_0.toInt ≤ a184.toInt + y160.toInt) from (show a14.toInt + t2_0.toInt ≤ a184.toInt + y160.toInt from by have t1 : a14.toInt + t2_0.toInt ≤ lx21.toInt + lx22.toInt := i25; have t2 : lx22.toInt + 1 ≤ y160.toInt := b163; have t3 : a184.toInt = lx21.toInt + (-1) := b186; omega)), (show q_F (y160.toInt + 2 * a184.toInt ≤ t2_0.toInt + 2 * a14.toInt) from (show y160.toInt + 2 * a184.toInt ≤ t2_0.toInt + 2 * a14.toInt from by have t1 : lx22.toInt + 2 * lx21.toInt ≤ t2_0.toInt + 2 * a14.toInt := i26; have t2 : y160.toInt ≤ lx22.toInt + 1 := b164; have t3 : a184.toInt = lx21.toInt + (-1) := b186; omega)), V, q_lw hl (q_lw1 0 rfl (q_lw1 1 rfl (q_lw1 2 rfl (q_lw1 3 rfl (q_lw1 4 rfl (q_lw1 5 rfl q_lw0)))))), hI, hF, hO29, hO30, hO159, hA162, ⟨fm37, Nat.lt_of_lt_of_le (show (a184.toInt - ((-1000000))).toNat < (lx21.toInt - ((-1000000))).toNat from by have t1 : a184.toInt = lx21.toInt + (-1) := b186; have t2 : 0 ≤ lx21.toInt + 1 := i24; omega) (Nat.le_of_lt_succ hf36), (show F_Dig_writePlain_L10 R N K x3 x4 x5 t0_0 t0_1 t1_0 t2_0 t3_0 fm37 a184 y160 f161 = (F_Dig_writePlain R N K x3 x4 x5 t0_0 t0_1 t1_0 t2_0 t3_0) from Eq.trans (by rw [← e185, e170, e169, F_Dig_writePlain_c30.eq_1, if_neg c176, if_pos c182]) hR171)⟩⟩
      ·
        have b187 : q_F (0 < lx21.toInt) := (q_nleI c182)
        refine lv_iload hx hb d_5_9_42 (lv_at hl 0 rfl) ?_
        refine lv_iconst (v := 3) hx hb d_5_9_44 (by decide) ?_
        refine lv_irem hx hb d_5_9_45 (by decide) ?_
        obtain ⟨a188, e189⟩ := q_nm (lx21 - lx21 / 3 * 3 : Int32)
        refine q_ti (v := a188) e189 ?_
        have b190 : q_F (0 ≤ a188.toInt ∧ a188.toInt ≤ 2 ∧ a188.toInt ≤ lx21.toInt) := (by rw [← e189]; show 0 ≤ (lx21 - lx21 / 3 * 3 : Int32).toInt ∧ (lx21 - lx21 / 3 * 3 : Int32).toInt ≤ 2 ∧ (lx21 - lx21 / 3 * 3 : Int32).toInt ≤ lx21.toInt; exact (by have z := s_rem' (x := lx21) (b := 3) (by have t1 : 0 ≤ lx21.toInt := b146; omega) (by decide); have z8 : (3 : Int32).toInt = 3 := rfl; omega))
        refine lv_if_ne (tgt := 55) hx hb d_5_9_46 (by decide) (fun c191 => ?_) (fun c191 => ?_)
        ·
          have b192 : q_F (a188.toInt ≠ 0) := (q_neI c191)
          obtain ⟨a193, e194⟩ := q_nm (lx21 + (-1) : Int32)
          have b195 : q_F (a193.toInt = lx21.toInt + (-1)) := (by rw [← e194]; exact q_addI (y := (-1)) rfl (by decide) (by have t1 : 0 ≤ lx21.toInt + 1 := i24; have t2 : a14.toInt + t2_0.toInt ≤ lx21.toInt + lx22.toInt := i25; have t3 : lx22.toInt + 2 * lx21.toInt ≤ t2_0.toInt + 2 * a14.toInt := i26; have _ := q_lo32 (x := a14); have _ := q_hi32 (x := a14); omega) (by have t1 : 0 ≤ lx21.toInt + 1 := i24; have t2 : a14.toInt + t2_0.toInt ≤ lx21.toInt + lx22.toInt := i25; have t3 : lx22.toInt + 2 * lx21.toInt ≤ t2_0.toInt + 2 * a14.toInt := i26; have _ := q_lo32 (x := a14); have _ := q_hi32 (x := a14); omega))
          refine lv_iinc (v := a193) (lv' := [(5, .int a193), (0, .ref (q 36)), (1, .ref (q k2)), (2, .int x3), (3, .int x4), (4, .int x5)]) hx hb d_5_9_55 hl (k := 0) rfl (e194) (by decide) rfl (fun ls hl => ?_)
          refine lv_goto (tgt := 10) hx hb d_5_9_58 (by decide) ?_
          exact ih27 ((a193 : Int32), (y160 : Int32), (f161 : (Nat → Int64))) _ _ _ _ (show (a193.toInt - ((-1000000))).toNat < (lx21.toInt - ((-1000000))).toNat from by have t1 : a193.toInt = lx21.toInt + (-1) := b195; have t2 : 0 ≤ lx21.toInt + 1 := i24; omega) ⟨(show q_F (0 ≤ a193.toInt + 1) from (show 0 ≤ a193.toInt + 1 from by have t1 : 0 ≤ lx21.toInt := b146; have t2 : a193.toInt = lx21.toInt + (-1) := b195; omega)), (show q_F (a14.toInt + t2_0.toInt ≤ a193.toInt + y160.toInt) from (show a14.toInt + t2_0.toInt ≤ a193.toInt + y160.toInt from by have t1 : a14.toInt + t2_0.toInt ≤ lx21.toInt + lx22.toInt := i25; have t2 : lx22.toInt + 1 ≤ y160.toInt := b163; have t3 : a193.toInt = lx21.toInt + (-1) := b195; omega)), (show q_F (y160.toInt + 2 * a193.toInt ≤ t2_0.toInt + 2 * a14.toInt) from (show y160.toInt + 2 * a193.toInt ≤ t2_0.toInt + 2 * a14.toInt from by have t1 : lx22.toInt + 2 * lx21.toInt ≤ t2_0.toInt + 2 * a14.toInt := i26; have t2 : y160.toInt ≤ lx22.toInt + 1 := b164; have t3 : a193.toInt = lx21.toInt + (-1) := b195; omega)), V, q_lw hl (q_lw1 0 rfl (q_lw1 1 rfl (q_lw1 2 rfl (q_lw1 3 rfl (q_lw1 4 rfl (q_lw1 5 rfl q_lw0)))))), hI, hF, hO29, hO30, hO159, hA162, ⟨fm37, Nat.lt_of_lt_of_le (show (a193.toInt - ((-1000000))).toNat < (lx21.toInt - ((-1000000))).toNat from by have t1 : a193.toInt = lx21.toInt + (-1) := b195; have t2 : 0 ≤ lx21.toInt + 1 := i24; omega) (Nat.le_of_lt_succ hf36), (show F_Dig_writePlain_L10 R N K x3 x4 x5 t0_0 t0_1 t1_0 t2_0 t3_0 fm37 a193 y160 f161 = (F_Dig_writePlain R N K x3 x4 x5 t0_0 t0_1 t1_0 t2_0 t3_0) from Eq.trans (by have c191x := c191; rw [← e189] at c191x; rw [← e194, e170, e169, F_Dig_writePlain_c30.eq_1, if_neg c176, if_neg c182, if_neg c191x]) hR171)⟩⟩
        ·
          have b196 : q_F (a188.toInt = 0) := (q_eqI c191)
          refine lv_aload_n hx hb d_5_9_49 rfl (lv_at hl 2 rfl) ?_
          refine lv_bipush (v := 44) hx hb d_5_9_50 (by decide) ?_
          refine q_gov V (q_runV (As := [.int 44]) (rest := []) (d := 1) (mc := 0) (ms := 0) (ci := 1) C0 V rfl LV_Dig_52 (X_She_add_p l D g q u157 k2 R N K hB2 44 hI y160 hO159 f161 hA162 (by have y0 : (44 : Int32).toInt = 44 := rfl; have t1 : t0_1.toInt ≤ 200000 := pre0; have t2 : t2_0.toInt ≤ 400000 := pre2; have t3 : 1000000 ≤ K.toInt := pre3; have t4 : t0_1.toInt ≤ a14.toInt ∧ 0 ≤ a14.toInt ∧ (a14.toInt = t0_1.toInt ∨ a14.toInt = 0) := b16; have t5 : 0 ≤ lx21.toInt + 1 := i24; have t6 : lx22.toInt + 2 * lx21.toInt ≤ t2_0.toInt + 2 * a14.toInt := i26; have t7 : y160.toInt ≤ lx22.toInt + 1 := b164; omega) _) rfl rfl hO159 rfl hl.1 rfl (Nat.le_of_ble_eq_true rfl) ⟨by decide, by decide⟩ ⟨Nat.le_of_ble_eq_true rfl, Nat.le_of_ble_eq_true rfl⟩ d_5_9_52) (fun u197 H locs hp198 V => ?_)
          obtain ⟨hI, hu206, y200, f201, hO199, hA202, b203, b204, hE205⟩ := hp198
          replace hO199 : u197[k2]? = (some (q k2, .inr (1, [.ref (q (k2 + 1)), .int R, .int y200])) : Option (Nat × va_E)) := hO199
          replace hA202 : u197[k2 + 1]? = (some (q (k2 + 1), .inl (g 1, N.toNatClampNeg, .inr (.inl f201))) : Option (Nat × va_E)) := hA202
          obtain ⟨p207, e208⟩ : ∃ z, z = (F_She_add_p R N K (44 : Int32) y160 f161) := ⟨_, rfl⟩
          have e209 : y200 = p207.1 := congrArg (fun z => z.1) (hE205.trans e208.symm)
          have e210 : f201 = p207.2 := congrArg (fun z => z.2) (hE205.trans e208.symm)
          replace b203 : q_F (y160.toInt + 1 ≤ y200.toInt) := b203
          replace b204 : q_F (y200.toInt ≤ y160.toInt + 1) := b204
          replace hO29 := (hu206 _ (by have z0 := hB2.2.2.2; simp only [List.mem_cons, List.not_mem_nil, or_false, not_or]; omega)).trans hO29
          replace hO30 := (hu206 _ (by have z0 := hB2.2.2.2; simp only [List.mem_cons, List.not_mem_nil, or_false, not_or]; omega)).trans hO30
          replace hF := q_uc hF hu206 (by simp)
          have hR211 := (show F_Dig_writePlain_c52 (F_Dig_writePlain_L10 R N K x3 x4 x5 t0_0 t0_1 t1_0 t2_0 t3_0 fm37) R N K x3 x4 x5 t0_0 t0_1 t1_0 t2_0 t3_0 lx21 lx22 lx23 p167 p207 = (F_Dig_writePlain R N K x3 x4 x5 t0_0 t0_1 t1_0 t2_0 t3_0) from Eq.trans (by have c191x := c191; rw [← e189] at c191x; rw [e208, e170, e169, F_Dig_writePlain_c30.eq_1, if_neg c176, if_neg c182, if_pos c191x]) hR171)
          obtain ⟨a216, e217⟩ := q_nm (lx21 + (-1) : Int32)
          have b218 : q_F (a216.toInt = lx21.toInt + (-1)) := (by rw [← e217]; exact q_addI (y := (-1)) rfl (by decide) (by have t1 : 0 ≤ lx21.toInt + 1 := i24; have t2 : a14.toInt + t2_0.toInt ≤ lx21.toInt + lx22.toInt := i25; have t3 : lx22.toInt + 2 * lx21.toInt ≤ t2_0.toInt + 2 * a14.toInt := i26; have _ := q_lo32 (x := a14); have _ := q_hi32 (x := a14); omega) (by have t1 : 0 ≤ lx21.toInt + 1 := i24; have t2 : a14.toInt + t2_0.toInt ≤ lx21.toInt + lx22.toInt := i25; have t3 : lx22.toInt + 2 * lx21.toInt ≤ t2_0.toInt + 2 * a14.toInt := i26; have _ := q_lo32 (x := a14); have _ := q_hi32 (x := a14); omega))
          refine lv_iinc (v := a216) (lv' := [(5, .int a216), (0, .ref (q 36)), (1, .ref (q k2)), (2, .int x3), (3, .int x4), (4, .int x5)]) hx hb d_5_9_55 hl (k := 0) rfl (e217) (by decide) rfl (fun ls hl => ?_)
          refine lv_goto (tgt := 10) hx hb d_5_9_58 (by decide) ?_
          exact ih27 ((a216 : Int32), (y200 : Int32), (f201 : (Nat → Int64))) _ _ _ _ (show (a216.toInt - ((-1000000))).toNat < (lx21.toInt - ((-1000000))).toNat from by have t1 : a216.toInt = lx21.toInt + (-1) := b218; have t2 : 0 ≤ lx21.toInt + 1 := i24; omega) ⟨(show q_F (0 ≤ a216.toInt + 1) from (show 0 ≤ a216.toInt + 1 from by have t1 : 0 ≤ lx21.toInt := b146; have t2 : a216.toInt = lx21.toInt + (-1) := b218; omega)), (show q_F (a14.toInt + t2_0.toInt ≤ a216.toInt + y200.toInt) from (show a14.toInt + t2_0.toInt ≤ a216.toInt + y200.toInt from by have t1 : a14.toInt + t2_0.toInt ≤ lx21.toInt + lx22.toInt := i25; have t2 : lx22.toInt + 1 ≤ y160.toInt := b163; have t3 : y160.toInt + 1 ≤ y200.toInt := b203; have t4 : a216.toInt = lx21.toInt + (-1) := b218; omega)), (show q_F (y200.toInt + 2 * a216.toInt ≤ t2_0.toInt + 2 * a14.toInt) from (show y200.toInt + 2 * a216.toInt ≤ t2_0.toInt + 2 * a14.toInt from by have t1 : lx22.toInt + 2 * lx21.toInt ≤ t2_0.toInt + 2 * a14.toInt := i26; have t2 : y160.toInt ≤ lx22.toInt + 1 := b164; have t3 : y200.toInt ≤ y160.toInt + 1 := b204; have t4 : a216.toInt = lx21.toInt + (-1) := b218; omega)), V, q_lw hl (q_lw1 0 rfl (q_lw1 1 rfl (q_lw1 2 rfl (q_lw1 3 rfl (q_lw1 4 rfl (q_lw1 5 rfl q_lw0)))))), hI, hF, hO29, hO30, hO199, hA202, ⟨fm37, Nat.lt_of_lt_of_le (show (a216.toInt - ((-1000000))).toNat < (lx21.toInt - ((-1000000))).toNat from by have t1 : a216.toInt = lx21.toInt + (-1) := b218; have t2 : 0 ≤ lx21.toInt + 1 := i24; omega) (Nat.le_of_lt_succ hf36), (show F_Dig_writePlain_L10 R N K x3 x4 x5 t0_0 t0_1 t1_0 t2_0 t3_0 fm37 a216 y200 f201 = (F_Dig_writePlain R N K x3 x4 x5 t0_0 t0_1 t1_0 t2_0 t3_0) from Eq.trans (by rw [← e217, e210, e209, F_Dig_writePlain_c52.eq_1]) hR211)⟩⟩
