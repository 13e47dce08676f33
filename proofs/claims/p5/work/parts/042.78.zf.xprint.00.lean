/-! Printer, exactly -/
theorem n_aiB {sh : List q_Ok} {q : Nat → Nat} {ws : va_W} {k n : Nat} {c : ClassId} {lo hi : Int} {f : Nat → Int32} (h : q_I sh q ws) (hk : sh[k]? = some (k_ai c n lo hi)) (hT : ws[k]? = (some (q k, .inl (c, n, .inl f)) : Option (Nat × va_E))) : ∀ i, lo ≤ (f i).toInt ∧ (f i).toInt ≤ hi := by
  obtain ⟨f', e, b⟩ := n_ai h hk
  have z := hT.symm.trans e
  injection z with z
  injection z with _ z
  injection z with z
  injection z with _ z
  injection z with _ z
  injection z with z
  rw [z]
  exact b
theorem n_h48 (g : Nat → ClassId) (q : Nat → Nat) : q_isShe (nsh g q) g q 48 64 8 64 := n_t g q (j := 0) (by decide)
theorem n_h50 (g : Nat → ClassId) (q : Nat → Nat) : q_isShe (nsh g q) g q 50 64 8 64 := n_t g q (j := 1) (by decide)
theorem n_h52 (g : Nat → ClassId) (q : Nat → Nat) : q_isShe (nsh g q) g q 52 64 8 64 := n_t g q (j := 2) (by decide)
theorem n_h54 (g : Nat → ClassId) (q : Nat → Nat) : q_isShe (nsh g q) g q 54 64 8 64 := n_t g q (j := 3) (by decide)
theorem n_h56 (g : Nat → ClassId) (q : Nat → Nat) : q_isShe (nsh g q) g q 56 64 8 64 := n_t g q (j := 4) (by decide)
theorem n_h58 (g : Nat → ClassId) (q : Nat → Nat) : q_isShe (nsh g q) g q 58 64 8 64 := n_t g q (j := 5) (by decide)
theorem n_h60 (g : Nat → ClassId) (q : Nat → Nat) : q_isShe (nsh g q) g q 60 64 8 64 := n_t g q (j := 6) (by decide)
theorem n_h62 (g : Nat → ClassId) (q : Nat → Nat) : q_isShe (nsh g q) g q 62 64 8 64 := n_t g q (j := 7) (by decide)
theorem n_h64 (g : Nat → ClassId) (q : Nat → Nat) : q_isShe (nsh g q) g q 64 64 8 64 := n_t g q (j := 8) (by decide)
def F_Pri_copyInto_c17 (K_F_Pri_copyInto_L3 : Int32 → Int32 → (Nat → Int64) → (Int32 × (Nat → Int64))) (R : Int32) (N : Int32) (K : Int32) (R2 : Int32) (N2 : Int32) (K2 : Int32) (x3 : Int32) (x4 : Int32) (t0_0 : Int32) (t1_0 : (Nat → Int64)) (t2_0 : Int32) (t3_0 : (Nat → Int64)) (lx12 : Int32) (lx13 : Int32) (lx14 : (Nat → Int64)) (p55 : (Int32 × (Nat → Int64))) : Int32 × (Nat → Int64) := K_F_Pri_copyInto_L3 (lx12 + 1 : Int32) (p55.1 : Int32) (p55.2 : (Nat → Int64))
def F_Pri_copyInto_L3 (R : Int32) (N : Int32) (K : Int32) (R2 : Int32) (N2 : Int32) (K2 : Int32) (x3 : Int32) (x4 : Int32) (t0_0 : Int32) (t1_0 : (Nat → Int64)) (t2_0 : Int32) (t3_0 : (Nat → Int64)) : Nat → Int32 → Int32 → (Nat → Int64) → (Int32 × (Nat → Int64))
  | 0, _, _, _ => default
  | fm + 1, lx12, lx13, lx14 => if x4 ≤ lx12 then ((lx13, lx14)) else (F_Pri_copyInto_c17 (F_Pri_copyInto_L3 R N K R2 N2 K2 x3 x4 t0_0 t1_0 t2_0 t3_0 fm) R N K R2 N2 K2 x3 x4 t0_0 t1_0 t2_0 t3_0 lx12 lx13 lx14 ((F_She_add_p R N K ((F_She_at_p R2 N2 K2 (lx12.toInt64 : Int64) t2_0 t3_0) : Int32) lx13 lx14) : (Int32 × (Nat → Int64))))
def F_Pri_copyInto (R : Int32) (N : Int32) (K : Int32) (R2 : Int32) (N2 : Int32) (K2 : Int32) (x3 : Int32) (x4 : Int32) (t0_0 : Int32) (t1_0 : (Nat → Int64)) (t2_0 : Int32) (t3_0 : (Nat → Int64)) : Int32 × (Nat → Int64) := F_Pri_copyInto_L3 R N K R2 N2 K2 x3 x4 t0_0 t1_0 t2_0 t3_0 ((x4.toInt - x3.toInt).toNat + 1) x3 t0_0 t1_0
set_option maxRecDepth 100000 in
set_option maxHeartbeats 4000000 in
theorem X_Pri_copyInto (l : Launch) (D : va_G) (g : Nat → ClassId) (q : Nat → Nat) (ws : va_W) (k1 : Nat) (R N K : Int32) (hB1 : q_isShe (nsh g q) g q k1 R N K) (k2 : Nat) (R2 N2 K2 : Int32) (hB2 : q_isShe (nsh g q) g q k2 R2 N2 K2) (x3 : Int32) (x4 : Int32) (ne_k1_k2 : k1 ≠ k2) (ne_k1_k2p1 : k1 ≠ k2 + 1) (ne_k2_k1p1 : k2 ≠ k1 + 1) (hI : q_I (nsh g q) q ws) (t0_0 : Int32) (hT0 : ws[k1]? = (some (q k1, .inr (1, [.ref (q (k1 + 1)), .int R, .int t0_0])) : Option (Nat × va_E))) (t1_0 : (Nat → Int64)) (hT1 : ws[k1 + 1]? = (some (q (k1 + 1), .inl (g 1, N.toNatClampNeg, .inr (.inl t1_0))) : Option (Nat × va_E))) (t2_0 : Int32) (hT2 : ws[k2]? = (some (q k2, .inr (1, [.ref (q (k2 + 1)), .int R2, .int t2_0])) : Option (Nat × va_E))) (t3_0 : (Nat → Int64)) (hT3 : ws[k2 + 1]? = (some (q (k2 + 1), .inl (g 1, N2.toNatClampNeg, .inr (.inl t3_0))) : Option (Nat × va_E))) (pre0 : 0 ≤ x3.toInt) (pre1 : 0 ≤ x4.toInt) (pre2 : t0_0.toInt + x4.toInt ≤ x3.toInt + K.toInt) : q_mV l y_Pri_copyInto prog_9_method_16_code 5 2 0 0 D g [.ref (q k1), .ref (q k2), .int x3, .int x4] ws (fun u => q_I (nsh g q) q u ∧ q_un ws u [k1, k1 + 1] ∧ ∃ (u0_0 : Int32) (u1_0 : (Nat → Int64)), u[k1]? = (some (q k1, .inr (1, [.ref (q (k1 + 1)), .int R, .int u0_0])) : Option (Nat × va_E)) ∧ u[k1 + 1]? = (some (q (k1 + 1), .inl (g 1, N.toNatClampNeg, .inr (.inl u1_0))) : Option (Nat × va_E)) ∧ (t0_0.toInt ≤ u0_0.toInt) ∧ (u0_0.toInt ≤ K.toInt) ∧ (u0_0.toInt ≤ t0_0.toInt + x4.toInt) ∧ (u0_0, u1_0) = (F_Pri_copyInto R N K R2 N2 K2 x3 x4 t0_0 t1_0 t2_0 t3_0)) := by
  intro sz
  refine q_into (by decide) (Nat.le_of_ble_eq_true rfl) ?_
  intro p e s m below meth c ls hsz C0 V hl
  have hx := C0.1
  have hb := C0.2.1
  have btt0_0 := n_shW hI hB1 hT0
  replace btt0_0 : q_F (0 ≤ t0_0.toInt ∧ t0_0.toInt ≤ K.toInt) := btt0_0
  have btt2_0 := n_shW hI hB2 hT2
  clear btt2_0
  replace pre0 : q_F (0 ≤ x3.toInt) := pre0
  replace pre1 : q_F (0 ≤ x4.toInt) := pre1
  replace pre2 : q_F (t0_0.toInt + x4.toInt ≤ x3.toInt + K.toInt) := pre2
  have hF : q_un ws ws [k1, k1 + 1] := q_u0
  have hl : lv_has ls 5 [(0, .ref (q k1)), (1, .ref (q k2)), (2, .int x3), (3, .int x4)] := hl
  refine lv_iload_n hx hb d_9_16_0 rfl (lv_at hl 2 rfl) ?_
  refine lv_istore (lv' := [(4, .int x3), (0, .ref (q k1)), (1, .ref (q k2)), (2, .int x3), (3, .int x4)]) hx hb d_9_16_1 hl (by decide) rfl (fun ls hl => ?_)
  refine q_loop (X := Int32 × Int32 × (Nat → Int64)) (fun z H locs ls w21 => q_F (z.2.1.toInt ≤ K.toInt) ∧ q_F (z.1.toInt ≤ x3.toInt + x4.toInt) ∧ q_F (x3.toInt + t0_0.toInt ≤ z.1.toInt + z.2.1.toInt) ∧ q_F (z.2.1.toInt + x3.toInt ≤ z.1.toInt + t0_0.toInt) ∧ q_F (z.1.toInt + t0_0.toInt ≤ z.2.1.toInt + x3.toInt) ∧ q_Wd D g (va_A ws sz) s w21 H locs ∧ lv_has ls 5 [(4, .int z.1), (0, .ref (q k1)), (1, .ref (q k2)), (3, .int x4)] ∧ q_I (nsh g q) q w21 ∧ q_un ws w21 [k1, k1 + 1] ∧ w21[k1]? = (some (q k1, .inr (1, [.ref (q (k1 + 1)), .int R, .int z.2.1])) : Option (Nat × va_E)) ∧ w21[k1 + 1]? = (some (q (k1 + 1), .inl (g 1, N.toNatClampNeg, .inr (.inl z.2.2))) : Option (Nat × va_E)) ∧ w21[k2]? = (some (q k2, .inr (1, [.ref (q (k2 + 1)), .int R2, .int t2_0])) : Option (Nat × va_E)) ∧ w21[k2 + 1]? = (some (q (k2 + 1), .inl (g 1, N2.toNatClampNeg, .inr (.inl t3_0))) : Option (Nat × va_E)) ∧ (∃ n, (x4.toInt - z.1.toInt).toNat < n ∧ F_Pri_copyInto_L3 R N K R2 N2 K2 x3 x4 t0_0 t1_0 t2_0 t3_0 n z.1 z.2.1 z.2.2 = (F_Pri_copyInto R N K R2 N2 K2 x3 x4 t0_0 t1_0 t2_0 t3_0))) (fun z => (x4.toInt - z.1.toInt).toNat) ?_ ((x3 : Int32), (t0_0 : Int32), (t1_0 : (Nat → Int64))) _ _ _ ws ⟨(show q_F (t0_0.toInt ≤ K.toInt) from (show t0_0.toInt ≤ K.toInt from by have t1 : 0 ≤ t0_0.toInt ∧ t0_0.toInt ≤ K.toInt := btt0_0; omega)), (show q_F (x3.toInt ≤ x3.toInt + x4.toInt) from (show x3.toInt ≤ x3.toInt + x4.toInt from by have t1 : 0 ≤ x4.toInt := pre1; omega)), (show q_F (x3.toInt + t0_0.toInt ≤ x3.toInt + t0_0.toInt) from (show x3.toInt + t0_0.toInt ≤ x3.toInt + t0_0.toInt from by omega)), (show q_F (t0_0.toInt + x3.toInt ≤ x3.toInt + t0_0.toInt) from (show t0_0.toInt + x3.toInt ≤ x3.toInt + t0_0.toInt from by omega)), (show q_F (x3.toInt + t0_0.toInt ≤ t0_0.toInt + x3.toInt) from (show x3.toInt + t0_0.toInt ≤ t0_0.toInt + x3.toInt from by omega)), V, q_lw hl (q_lw1 0 rfl (q_lw1 1 rfl (q_lw1 2 rfl (q_lw1 4 rfl q_lw0)))), hI, hF, hT0, hT1, hT2, hT3, ⟨((x4.toInt - x3.toInt).toNat + 1), Nat.lt_succ_self _, (show F_Pri_copyInto_L3 R N K R2 N2 K2 x3 x4 t0_0 t1_0 t2_0 t3_0 ((x4.toInt - x3.toInt).toNat + 1) x3 t0_0 t1_0 = (F_Pri_copyInto R N K R2 N2 K2 x3 x4 t0_0 t1_0 t2_0 t3_0) from (by rw [F_Pri_copyInto.eq_1]))⟩⟩
  rintro ⟨lx12, lx13, lx14⟩ H locs ls w21 ⟨i15, i16, i17, i18, i19, V, hl, hI, hF, hO22, hO23, hO24, hO25, ⟨fu28, hf29, hR26⟩⟩ ih20
  obtain ⟨fm30, rfl⟩ : ∃ m, fu28 = m + 1 := ⟨fu28 - 1, by omega⟩
  replace i15 : q_F (lx13.toInt ≤ K.toInt) := i15
  replace i16 : q_F (lx12.toInt ≤ x3.toInt + x4.toInt) := i16
  replace i17 : q_F (x3.toInt + t0_0.toInt ≤ lx12.toInt + lx13.toInt) := i17
  replace i18 : q_F (lx13.toInt + x3.toInt ≤ lx12.toInt + t0_0.toInt) := i18
  replace i19 : q_F (lx12.toInt + t0_0.toInt ≤ lx13.toInt + x3.toInt) := i19
  replace hl : lv_has ls 5 [(4, .int lx12), (0, .ref (q k1)), (1, .ref (q k2)), (3, .int x4)] := hl
  replace hO22 : w21[k1]? = (some (q k1, .inr (1, [.ref (q (k1 + 1)), .int R, .int lx13])) : Option (Nat × va_E)) := hO22
  replace hO23 : w21[k1 + 1]? = (some (q (k1 + 1), .inl (g 1, N.toNatClampNeg, .inr (.inl lx14))) : Option (Nat × va_E)) := hO23
  replace hO24 : w21[k2]? = (some (q k2, .inr (1, [.ref (q (k2 + 1)), .int R2, .int t2_0])) : Option (Nat × va_E)) := hO24
  replace hO25 : w21[k2 + 1]? = (some (q (k2 + 1), .inl (g 1, N2.toNatClampNeg, .inr (.inl t3_0))) : Option (Nat × va_E)) := hO25
  refine lv_iload hx hb d_9_16_3 (lv_at hl 0 rfl) ?_
  refine lv_iload_n hx hb d_9_16_5 rfl (lv_at hl 3 rfl) ?_
  refine lv_icmp_ge (tgt := 26) hx hb d_9_16_6 (by decide) (fun c31 => ?_) (fun c31 => ?_)
  ·
    exact q_retv C0 V (⟨hI, hF, lx13, lx14, hO22, hO23, (show t0_0.toInt ≤ lx13.toInt from (by have t1 : x3.toInt + t0_0.toInt ≤ lx12.toInt + lx13.toInt := i17; have t2 : lx12.toInt + t0_0.toInt ≤ lx13.toInt + x3.toInt := i19; omega)), (show lx13.toInt ≤ K.toInt from (by first | with_reducible exact q_fe i15 | (have t1 : lx13.toInt ≤ K.toInt := i15; omega))), (show lx13.toInt ≤ t0_0.toInt + x4.toInt from (by have t1 : lx12.toInt ≤ x3.toInt + x4.toInt := i16; have t2 : lx13.toInt + x3.toInt ≤ lx12.toInt + t0_0.toInt := i18; omega)), (show (lx13, lx14) = (F_Pri_copyInto R N K R2 N2 K2 x3 x4 t0_0 t1_0 t2_0 t3_0) from Eq.trans (by rw [F_Pri_copyInto_L3.eq_2, if_pos c31]) hR26)⟩) d_9_16_26
  ·
    have b33 : q_F (lx12.toInt < x4.toInt) := (q_nleI c31)
    refine lv_aload_n hx hb d_9_16_9 rfl (lv_at hl 1 rfl) ?_
    refine lv_aload_n hx hb d_9_16_10 rfl (lv_at hl 2 rfl) ?_
    refine lv_iload hx hb d_9_16_11 (lv_at hl 0 rfl) ?_
    refine lv_i2l hx hb d_9_16_13 rfl ?_
    obtain ⟨j34, e35⟩ := q_nm (lx12.toInt64 : Int64)
    refine q_tl (v := j34) e35 ?_
    refine q_goi V (q_runV (As := [.long j34]) (rest := [.ref (q k1)]) (d := 1) (mc := 0) (ms := 0) (ci := 1) C0 V rfl LV_Pri_93 (X_She_at_p l D g q w21 k2 R2 N2 K2 hB2 j34 hI t2_0 hO24 t3_0 hO25  _) rfl rfl hO24 rfl hl.1 rfl (Nat.le_of_ble_eq_true rfl) ⟨by decide, by decide⟩ ⟨Nat.le_of_ble_eq_true rfl, Nat.le_of_ble_eq_true rfl⟩ d_9_16_14) (fun a39 u37 H locs hp38 V => ?_)
    obtain ⟨rfl, b40, b41, b42, hE43⟩ := hp38
    have e44 : a39 = (F_She_at_p R2 N2 K2 j34 t2_0 t3_0) := hE43
    clear b40
    clear b41
    clear b42
    refine q_gov V (q_runV (As := [.int a39]) (rest := []) (d := 1) (mc := 0) (ms := 0) (ci := 1) C0 V rfl LV_Pri_113 (X_She_add_p l D g q w21 k1 R N K hB1 a39 hI lx13 hO22 lx14 hO23 (by have t1 : t0_0.toInt + x4.toInt ≤ x3.toInt + K.toInt := pre2; have t2 : lx13.toInt + x3.toInt ≤ lx12.toInt + t0_0.toInt := i18; have t3 : lx12.toInt < x4.toInt := b33; omega) _) rfl rfl hO22 rfl hl.1 rfl (Nat.le_of_ble_eq_true rfl) ⟨by decide, by decide⟩ ⟨Nat.le_of_ble_eq_true rfl, Nat.le_of_ble_eq_true rfl⟩ d_9_16_17) (fun u45 H locs hp46 V => ?_)
    obtain ⟨hI, hZ9⟩ := hp46
    obtain ⟨hu54, hZ9⟩ := hZ9
    obtain ⟨y48, hZ9⟩ := hZ9
    obtain ⟨f49, hZ9⟩ := hZ9
    obtain ⟨hO47, hZ9⟩ := hZ9
    obtain ⟨hA50, hZ9⟩ := hZ9
    obtain ⟨b51, hZ9⟩ := hZ9
    obtain ⟨b52, hE53⟩ := hZ9
    replace hO47 : u45[k1]? = (some (q k1, .inr (1, [.ref (q (k1 + 1)), .int R, .int y48])) : Option (Nat × va_E)) := hO47
    replace hA50 : u45[k1 + 1]? = (some (q (k1 + 1), .inl (g 1, N.toNatClampNeg, .inr (.inl f49))) : Option (Nat × va_E)) := hA50
    obtain ⟨p55, e56⟩ : ∃ z, z = (F_She_add_p R N K a39 lx13 lx14) := ⟨_, rfl⟩
    have e57 : y48 = p55.1 := congrArg (fun z => z.1) (hE53.trans e56.symm)
    have e58 : f49 = p55.2 := congrArg (fun z => z.2) (hE53.trans e56.symm)
    replace b51 : q_F (lx13.toInt + 1 ≤ y48.toInt) := b51
    replace b52 : q_F (y48.toInt ≤ lx13.toInt + 1) := b52
    replace hO24 := (hu54 _ (q_nc (by have z := ne_k1_k2; omega) (q_nc (by have z := ne_k2_k1p1; omega) List.not_mem_nil))).trans hO24
    replace hO25 := (hu54 _ (q_nc (by have z := ne_k1_k2p1; omega) (q_nc (by have z := ne_k1_k2; omega) List.not_mem_nil))).trans hO25
    replace hF := q_uc hF hu54 (by first | exact (q_sk (q_mi 0 rfl) (q_sk (q_mi 1 rfl) q_s0)) | simp)
    have hR59 := (show F_Pri_copyInto_c17 (F_Pri_copyInto_L3 R N K R2 N2 K2 x3 x4 t0_0 t1_0 t2_0 t3_0 fm30) R N K R2 N2 K2 x3 x4 t0_0 t1_0 t2_0 t3_0 lx12 lx13 lx14 p55 = (F_Pri_copyInto R N K R2 N2 K2 x3 x4 t0_0 t1_0 t2_0 t3_0) from Eq.trans (by rw [e56, e44, ← e35, F_Pri_copyInto_L3.eq_2, if_neg c31]) hR26)
    obtain ⟨a64, e65⟩ := q_nm (lx12 + 1 : Int32)
    have b66 : q_F (a64.toInt = lx12.toInt + 1) := (by rw [← e65]; exact q_addI (y := 1) rfl (by decide) (by have _ := q_lo32 (x := lx12); have _ := q_hi32 (x := lx12); have t1 : lx12.toInt < x4.toInt := b33; have _ := q_lo32 (x := x4); have _ := q_hi32 (x := x4); omega) (by have _ := q_lo32 (x := lx12); have _ := q_hi32 (x := lx12); have t1 : lx12.toInt < x4.toInt := b33; have _ := q_lo32 (x := x4); have _ := q_hi32 (x := x4); omega))
    refine lv_iinc (v := a64) (lv' := [(4, .int a64), (0, .ref (q k1)), (1, .ref (q k2)), (3, .int x4)]) hx hb d_9_16_20 hl (k := 0) rfl (e65) (by decide) rfl (fun ls hl => ?_)
    refine lv_goto (tgt := 3) hx hb d_9_16_23 (by decide) ?_
    exact ih20 ((a64 : Int32), (y48 : Int32), (f49 : (Nat → Int64))) _ _ _ _ (show (x4.toInt - a64.toInt).toNat < (x4.toInt - lx12.toInt).toNat from by have t1 : a64.toInt = lx12.toInt + 1 := b66; have t2 : lx12.toInt < x4.toInt := b33; omega) ⟨(show q_F (y48.toInt ≤ K.toInt) from (show y48.toInt ≤ K.toInt from by have t1 : t0_0.toInt + x4.toInt ≤ x3.toInt + K.toInt := pre2; have t2 : lx13.toInt + x3.toInt ≤ lx12.toInt + t0_0.toInt := i18; have t3 : lx12.toInt < x4.toInt := b33; have t4 : y48.toInt ≤ lx13.toInt + 1 := b52; omega)), (show q_F (a64.toInt ≤ x3.toInt + x4.toInt) from (show a64.toInt ≤ x3.toInt + x4.toInt from by have t1 : 0 ≤ x3.toInt := pre0; have t2 : lx12.toInt < x4.toInt := b33; have t3 : a64.toInt = lx12.toInt + 1 := b66; omega)), (show q_F (x3.toInt + t0_0.toInt ≤ a64.toInt + y48.toInt) from (show x3.toInt + t0_0.toInt ≤ a64.toInt + y48.toInt from by have t1 : x3.toInt + t0_0.toInt ≤ lx12.toInt + lx13.toInt := i17; have t2 : lx13.toInt + 1 ≤ y48.toInt := b51; have t3 : a64.toInt = lx12.toInt + 1 := b66; omega)), (show q_F (y48.toInt + x3.toInt ≤ a64.toInt + t0_0.toInt) from (show y48.toInt + x3.toInt ≤ a64.toInt + t0_0.toInt from by have t1 : lx13.toInt + x3.toInt ≤ lx12.toInt + t0_0.toInt := i18; have t2 : y48.toInt ≤ lx13.toInt + 1 := b52; have t3 : a64.toInt = lx12.toInt + 1 := b66; omega)), (show q_F (a64.toInt + t0_0.toInt ≤ y48.toInt + x3.toInt) from (show a64.toInt + t0_0.toInt ≤ y48.toInt + x3.toInt from by have t1 : lx12.toInt + t0_0.toInt ≤ lx13.toInt + x3.toInt := i19; have t2 : lx13.toInt + 1 ≤ y48.toInt := b51; have t3 : a64.toInt = lx12.toInt + 1 := b66; omega)), V, q_lw hl (q_lw1 0 rfl (q_lw1 1 rfl (q_lw1 2 rfl (q_lw1 3 rfl q_lw0)))), hI, hF, hO47, hA50, hO24, hO25, ⟨fm30, Nat.lt_of_lt_of_le (show (x4.toInt - a64.toInt).toNat < (x4.toInt - lx12.toInt).toNat from by have t1 : a64.toInt = lx12.toInt + 1 := b66; have t2 : lx12.toInt < x4.toInt := b33; omega) (Nat.le_of_lt_succ hf29), (show F_Pri_copyInto_L3 R N K R2 N2 K2 x3 x4 t0_0 t1_0 t2_0 t3_0 fm30 a64 y48 f49 = (F_Pri_copyInto R N K R2 N2 K2 x3 x4 t0_0 t1_0 t2_0 t3_0) from Eq.trans (by rw [← e65, e58, e57, F_Pri_copyInto_c17.eq_1]) hR59)⟩⟩
def F_Pri_enlarge_L2 (R : Int32) (N : Int32) (K : Int32) (x2 : Int32) (t0_0 : Int32) (t1_0 : (Nat → Int64)) : Nat → Int32 → (Nat → Int64) → (Nat → Int64)
  | 0, _, _ => default
  | fm + 1, lx7, lx8 => if t0_0 ≤ lx7 then (lx8) else (if ((F_She_at_p R N K (lx7.toInt64 : Int64) t0_0 lx8) : Int32) < (97 : Int32) then (F_Pri_enlarge_L2 R N K x2 t0_0 t1_0 fm (lx7 + 1 : Int32) lx8) else (if (122 : Int32) < ((F_She_at_p R N K (lx7.toInt64 : Int64) t0_0 lx8) : Int32) then (F_Pri_enlarge_L2 R N K x2 t0_0 t1_0 fm (lx7 + 1 : Int32) lx8) else (F_Pri_enlarge_L2 R N K x2 t0_0 t1_0 fm (lx7 + 1 : Int32) ((F_She_replace_p R N K lx7 (((F_She_at_p R N K (lx7.toInt64 : Int64) t0_0 lx8) : Int32) - 32 : Int32) t0_0 lx8) : (Nat → Int64)))))
def F_Pri_enlarge (R : Int32) (N : Int32) (K : Int32) (x2 : Int32) (t0_0 : Int32) (t1_0 : (Nat → Int64)) : (Nat → Int64) := F_Pri_enlarge_L2 R N K x2 t0_0 t1_0 ((1000000 - x2.toInt).toNat + 1) x2 t1_0
set_option maxRecDepth 100000 in
set_option maxHeartbeats 4000000 in
theorem X_Pri_enlarge (l : Launch) (D : va_G) (g : Nat → ClassId) (q : Nat → Nat) (ws : va_W) (k1 : Nat) (R N K : Int32) (hB1 : q_isShe (nsh g q) g q k1 R N K) (x2 : Int32) (hI : q_I (nsh g q) q ws) (t0_0 : Int32) (hT0 : ws[k1]? = (some (q k1, .inr (1, [.ref (q (k1 + 1)), .int R, .int t0_0])) : Option (Nat × va_E))) (t1_0 : (Nat → Int64)) (hT1 : ws[k1 + 1]? = (some (q (k1 + 1), .inl (g 1, N.toNatClampNeg, .inr (.inl t1_0))) : Option (Nat × va_E))) : q_mV l y_Pri_enlarge prog_9_method_17_code 4 3 0 0 D g [.ref (q k1), .int x2] ws (fun u => q_I (nsh g q) q u ∧ q_un ws u [k1 + 1] ∧ ∃ (u1_0 : (Nat → Int64)), u[k1 + 1]? = (some (q (k1 + 1), .inl (g 1, N.toNatClampNeg, .inr (.inl u1_0))) : Option (Nat × va_E)) ∧ u1_0 = (F_Pri_enlarge R N K x2 t0_0 t1_0)) := by
  intro sz
  refine q_into (by decide) (Nat.le_of_ble_eq_true rfl) ?_
  intro p e s m below meth c ls hsz C0 V hl
  have hx := C0.1
  have hb := C0.2.1
  have hfk10 : q_F (0 ≤ R.toInt ∧ R.toInt ≤ 8 * N.toInt ∧ 0 ≤ N.toInt ∧ N.toInt ≤ 1376 ∧ 64 ≤ R.toInt ∧ 64 ≤ K.toInt ∧ K.toInt ≤ 1000000) := hB1.2.2.1
  have btt0_0 := n_shW hI hB1 hT0
  replace btt0_0 : q_F (0 ≤ t0_0.toInt ∧ t0_0.toInt ≤ K.toInt) := btt0_0
  have hF : q_un ws ws [k1 + 1] := q_u0
  have hl : lv_has ls 4 [(0, .ref (q k1)), (1, .int x2)] := hl
  refine lv_iload_n hx hb d_9_17_0 rfl (lv_at hl 1 rfl) ?_
  refine lv_istore_n (lv' := [(2, .int x2), (0, .ref (q k1)), (1, .int x2)]) hx hb d_9_17_1 rfl hl (by decide) rfl (fun ls hl => ?_)
  refine q_loop (X := Int32 × (Nat → Int64)) (fun z H locs ls w11 => q_F (x2.toInt ≤ z.1.toInt) ∧ q_Wd D g (va_A ws sz) s w11 H locs ∧ lv_has ls 4 [(2, .int z.1), (0, .ref (q k1))] ∧ q_I (nsh g q) q w11 ∧ q_un ws w11 [k1 + 1] ∧ w11[k1]? = (some (q k1, .inr (1, [.ref (q (k1 + 1)), .int R, .int t0_0])) : Option (Nat × va_E)) ∧ w11[k1 + 1]? = (some (q (k1 + 1), .inl (g 1, N.toNatClampNeg, .inr (.inl z.2))) : Option (Nat × va_E)) ∧ (∃ n, (1000000 - z.1.toInt).toNat < n ∧ F_Pri_enlarge_L2 R N K x2 t0_0 t1_0 n z.1 z.2 = (F_Pri_enlarge R N K x2 t0_0 t1_0))) (fun z => (1000000 - z.1.toInt).toNat) ?_ ((x2 : Int32), (t1_0 : (Nat → Int64))) _ _ _ ws ⟨(show q_F (x2.toInt ≤ x2.toInt) from (show x2.toInt ≤ x2.toInt from by omega)), V, q_lw hl (q_lw1 0 rfl (q_lw1 1 rfl q_lw0)), hI, hF, hT0, hT1, ⟨((1000000 - x2.toInt).toNat + 1), Nat.lt_succ_self _, (show F_Pri_enlarge_L2 R N K x2 t0_0 t1_0 ((1000000 - x2.toInt).toNat + 1) x2 t1_0 = (F_Pri_enlarge R N K x2 t0_0 t1_0) from (by rw [F_Pri_enlarge.eq_1]))⟩⟩
  rintro ⟨lx7, lx8⟩ H locs ls w11 ⟨i9, V, hl, hI, hF, hO12, hO13, ⟨fu16, hf17, hR14⟩⟩ ih10
  obtain ⟨fm18, rfl⟩ : ∃ m, fu16 = m + 1 := ⟨fu16 - 1, by omega⟩
  replace i9 : q_F (x2.toInt ≤ lx7.toInt) := i9
  replace hl : lv_has ls 4 [(2, .int lx7), (0, .ref (q k1))] := hl
  replace hO12 : w11[k1]? = (some (q k1, .inr (1, [.ref (q (k1 + 1)), .int R, .int t0_0])) : Option (Nat × va_E)) := hO12
  replace hO13 : w11[k1 + 1]? = (some (q (k1 + 1), .inl (g 1, N.toNatClampNeg, .inr (.inl lx8))) : Option (Nat × va_E)) := hO13
  refine lv_iload_n hx hb d_9_17_2 rfl (lv_at hl 0 rfl) ?_
  refine lv_aload_n hx hb d_9_17_3 rfl (lv_at hl 1 rfl) ?_
  refine q_get (ci := 1) (j := 2) (v := .int t0_0) C0 V i_She rfl rfl hO12 (by decide) w_58 rfl d_9_17_4 ?_
  refine lv_icmp_ge (tgt := 44) hx hb d_9_17_7 (by decide) (fun c19 => ?_) (fun c19 => ?_)
  ·
    exact q_retv C0 V (⟨hI, hF, lx8, hO13, (show lx8 = (F_Pri_enlarge R N K x2 t0_0 t1_0) from Eq.trans (by rw [F_Pri_enlarge_L2.eq_2, if_pos c19]) hR14)⟩) d_9_17_44
  ·
    have b21 : q_F (lx7.toInt < t0_0.toInt) := (q_nleI c19)
    refine lv_aload_n hx hb d_9_17_10 rfl (lv_at hl 1 rfl) ?_
    refine lv_iload_n hx hb d_9_17_11 rfl (lv_at hl 0 rfl) ?_
    refine lv_i2l hx hb d_9_17_12 rfl ?_
    obtain ⟨j22, e23⟩ := q_nm (lx7.toInt64 : Int64)
    refine q_tl (v := j22) e23 ?_
    refine q_goi V (q_runV (As := [.long j22]) (rest := []) (d := 1) (mc := 0) (ms := 0) (ci := 1) C0 V rfl LV_Pri_93 (X_She_at_p l D g q w11 k1 R N K hB1 j22 hI t0_0 hO12 lx8 hO13  _) rfl rfl hO12 rfl hl.1 rfl (Nat.le_of_ble_eq_true rfl) ⟨by decide, by decide⟩ ⟨Nat.le_of_ble_eq_true rfl, Nat.le_of_ble_eq_true rfl⟩ d_9_17_13) (fun a27 u25 H locs hp26 V => ?_)
    obtain ⟨rfl, b28, b29, b30, hE31⟩ := hp26
    have e32 : a27 = (F_She_at_p R N K j22 t0_0 lx8) := hE31
    clear b28
    clear b29
    clear b30
    refine lv_istore_n (lv' := [(3, .int a27), (2, .int lx7), (0, .ref (q k1))]) hx hb d_9_17_16 rfl hl (by decide) rfl (fun ls hl => ?_)
    refine lv_iload_n hx hb d_9_17_17 rfl (lv_at hl 0 rfl) ?_
    refine lv_bipush (v := 97) hx hb d_9_17_18 (by decide) ?_
    refine lv_icmp_lt (tgt := 38) hx hb d_9_17_20 (by decide) (fun c33 => ?_) (fun c33 => ?_)
    ·
      obtain ⟨a35, e36⟩ := q_nm (lx7 + 1 : Int32)
      have b37 : q_F (a35.toInt = lx7.toInt + 1) := (by rw [← e36]; exact q_addI (y := 1) rfl (by decide) (by have _ := q_lo32 (x := lx7); have _ := q_hi32 (x := lx7); have t1 : lx7.toInt < t0_0.toInt := b21; have _ := q_lo32 (x := t0_0); have _ := q_hi32 (x := t0_0); omega) (by have _ := q_lo32 (x := lx7); have _ := q_hi32 (x := lx7); have t1 : lx7.toInt < t0_0.toInt := b21; have _ := q_lo32 (x := t0_0); have _ := q_hi32 (x := t0_0); omega))
      refine lv_iinc (v := a35) (lv' := [(2, .int a35), (3, .int a27), (0, .ref (q k1))]) hx hb d_9_17_38 hl (k := 1) rfl (e36) (by decide) rfl (fun ls hl => ?_)
      refine lv_goto (tgt := 2) hx hb d_9_17_41 (by decide) ?_
      exact ih10 ((a35 : Int32), (lx8 : (Nat → Int64))) _ _ _ _ (show (1000000 - a35.toInt).toNat < (1000000 - lx7.toInt).toNat from by have t1 : a35.toInt = lx7.toInt + 1 := b37; have t2 : 0 ≤ R.toInt ∧ R.toInt ≤ 8 * N.toInt ∧ 0 ≤ N.toInt ∧ N.toInt ≤ 1376 ∧ 64 ≤ R.toInt ∧ 64 ≤ K.toInt ∧ K.toInt ≤ 1000000 := hfk10; have t3 : 0 ≤ t0_0.toInt ∧ t0_0.toInt ≤ K.toInt := btt0_0; have t4 : lx7.toInt < t0_0.toInt := b21; omega) ⟨(show q_F (x2.toInt ≤ a35.toInt) from (show x2.toInt ≤ a35.toInt from by have t1 : x2.toInt ≤ lx7.toInt := i9; have t2 : a35.toInt = lx7.toInt + 1 := b37; omega)), V, q_lw hl (q_lw1 0 rfl (q_lw1 2 rfl q_lw0)), hI, hF, hO12, hO13, ⟨fm18, Nat.lt_of_lt_of_le (show (1000000 - a35.toInt).toNat < (1000000 - lx7.toInt).toNat from by have t1 : a35.toInt = lx7.toInt + 1 := b37; have t2 : 0 ≤ R.toInt ∧ R.toInt ≤ 8 * N.toInt ∧ 0 ≤ N.toInt ∧ N.toInt ≤ 1376 ∧ 64 ≤ R.toInt ∧ 64 ≤ K.toInt ∧ K.toInt ≤ 1000000 := hfk10; have t3 : 0 ≤ t0_0.toInt ∧ t0_0.toInt ≤ K.toInt := btt0_0; have t4 : lx7.toInt < t0_0.toInt := b21; omega) (Nat.le_of_lt_succ hf17), (show F_Pri_enlarge_L2 R N K x2 t0_0 t1_0 fm18 a35 lx8 = (F_Pri_enlarge R N K x2 t0_0 t1_0) from Eq.trans (by have c33x := c33; rw [e32, ← e23] at c33x; rw [← e36, F_Pri_enlarge_L2.eq_2, if_neg c19, if_pos c33x]) hR14)⟩⟩
    ·
      refine lv_iload_n hx hb d_9_17_23 rfl (lv_at hl 0 rfl) ?_
      refine lv_bipush (v := 122) hx hb d_9_17_24 (by decide) ?_
      refine lv_icmp_gt (tgt := 38) hx hb d_9_17_26 (by decide) (fun c39 => ?_) (fun c39 => ?_)
      ·
        obtain ⟨a41, e42⟩ := q_nm (lx7 + 1 : Int32)
        have b43 : q_F (a41.toInt = lx7.toInt + 1) := (by rw [← e42]; exact q_addI (y := 1) rfl (by decide) (by have _ := q_lo32 (x := lx7); have _ := q_hi32 (x := lx7); have t1 : lx7.toInt < t0_0.toInt := b21; have _ := q_lo32 (x := t0_0); have _ := q_hi32 (x := t0_0); omega) (by have _ := q_lo32 (x := lx7); have _ := q_hi32 (x := lx7); have t1 : lx7.toInt < t0_0.toInt := b21; have _ := q_lo32 (x := t0_0); have _ := q_hi32 (x := t0_0); omega))
        refine lv_iinc (v := a41) (lv' := [(2, .int a41), (3, .int a27), (0, .ref (q k1))]) hx hb d_9_17_38 hl (k := 1) rfl (e42) (by decide) rfl (fun ls hl => ?_)
        refine lv_goto (tgt := 2) hx hb d_9_17_41 (by decide) ?_
        exact ih10 ((a41 : Int32), (lx8 : (Nat → Int64))) _ _ _ _ (show (1000000 - a41.toInt).toNat < (1000000 - lx7.toInt).toNat from by have t1 : a41.toInt = lx7.toInt + 1 := b43; have t2 : 0 ≤ R.toInt ∧ R.toInt ≤ 8 * N.toInt ∧ 0 ≤ N.toInt ∧ N.toInt ≤ 1376 ∧ 64 ≤ R.toInt ∧ 64 ≤ K.toInt ∧ K.toInt ≤ 1000000 := hfk10; have t3 : 0 ≤ t0_0.toInt ∧ t0_0.toInt ≤ K.toInt := btt0_0; have t4 : lx7.toInt < t0_0.toInt := b21; omega) ⟨(show q_F (x2.toInt ≤ a41.toInt) from (show x2.toInt ≤ a41.toInt from by have t1 : x2.toInt ≤ lx7.toInt := i9; have t2 : a41.toInt = lx7.toInt + 1 := b43; omega)), V, q_lw hl (q_lw1 0 rfl (q_lw1 2 rfl q_lw0)), hI, hF, hO12, hO13, ⟨fm18, Nat.lt_of_lt_of_le (show (1000000 - a41.toInt).toNat < (1000000 - lx7.toInt).toNat from by have t1 : a41.toInt = lx7.toInt + 1 := b43; have t2 : 0 ≤ R.toInt ∧ R.toInt ≤ 8 * N.toInt ∧ 0 ≤ N.toInt ∧ N.toInt ≤ 1376 ∧ 64 ≤ R.toInt ∧ 64 ≤ K.toInt ∧ K.toInt ≤ 1000000 := hfk10; have t3 : 0 ≤ t0_0.toInt ∧ t0_0.toInt ≤ K.toInt := btt0_0; have t4 : lx7.toInt < t0_0.toInt := b21; omega) (Nat.le_of_lt_succ hf17), (show F_Pri_enlarge_L2 R N K x2 t0_0 t1_0 fm18 a41 lx8 = (F_Pri_enlarge R N K x2 t0_0 t1_0) from Eq.trans (by have c33x := c33; rw [e32, ← e23] at c33x; have c39x := c39; rw [e32, ← e23] at c39x; rw [← e42, F_Pri_enlarge_L2.eq_2, if_neg c19, if_neg c33x, if_pos c39x]) hR14)⟩⟩
      ·
        refine lv_aload_n hx hb d_9_17_29 rfl (lv_at hl 2 rfl) ?_
        refine lv_iload_n hx hb d_9_17_30 rfl (lv_at hl 1 rfl) ?_
        refine lv_iload_n hx hb d_9_17_31 rfl (lv_at hl 0 rfl) ?_
        refine lv_bipush (v := 32) hx hb d_9_17_32 (by decide) ?_
        refine lv_isub hx hb d_9_17_34 ?_
        obtain ⟨a45, e46⟩ := q_nm (a27 - 32 : Int32)
        refine q_ti (v := a45) e46 ?_
        refine q_gov V (q_runV (As := [.int lx7, .int a45]) (rest := []) (d := 2) (mc := 0) (ms := 0) (ci := 1) C0 V rfl LV_Pri_243 (X_She_replace_p l D g q w11 k1 R N K hB1 lx7 a45 hI t0_0 hO12 lx8 hO13  _) rfl rfl hO12 rfl hl.1 rfl (Nat.le_of_ble_eq_true rfl) ⟨by decide, by decide⟩ ⟨Nat.le_of_ble_eq_true rfl, Nat.le_of_ble_eq_true rfl⟩ d_9_17_35) (fun u48 H locs hp49 V => ?_)
        obtain ⟨hI, hu53, f50, hA51, hE52⟩ := hp49
        replace hA51 : u48[k1 + 1]? = (some (q (k1 + 1), .inl (g 1, N.toNatClampNeg, .inr (.inl f50))) : Option (Nat × va_E)) := hA51
        have e54 : f50 = (F_She_replace_p R N K lx7 a45 t0_0 lx8) := hE52
        replace hO12 := (hu53 _ (by have z0 := hB1.2.2.2; simp only [List.mem_cons, List.not_mem_nil, or_false, not_or]; omega)).trans hO12
        replace hF := q_uc hF hu53 (by simp)
        obtain ⟨a55, e56⟩ := q_nm (lx7 + 1 : Int32)
        have b57 : q_F (a55.toInt = lx7.toInt + 1) := (by rw [← e56]; exact q_addI (y := 1) rfl (by decide) (by have _ := q_lo32 (x := lx7); have _ := q_hi32 (x := lx7); have t1 : lx7.toInt < t0_0.toInt := b21; have _ := q_lo32 (x := t0_0); have _ := q_hi32 (x := t0_0); omega) (by have _ := q_lo32 (x := lx7); have _ := q_hi32 (x := lx7); have t1 : lx7.toInt < t0_0.toInt := b21; have _ := q_lo32 (x := t0_0); have _ := q_hi32 (x := t0_0); omega))
        refine lv_iinc (v := a55) (lv' := [(2, .int a55), (3, .int a27), (0, .ref (q k1))]) hx hb d_9_17_38 hl (k := 1) rfl (e56) (by decide) rfl (fun ls hl => ?_)
        refine lv_goto (tgt := 2) hx hb d_9_17_41 (by decide) ?_
        exact ih10 ((a55 : Int32), (f50 : (Nat → Int64))) _ _ _ _ (show (1000000 - a55.toInt).toNat < (1000000 - lx7.toInt).toNat from by have t1 : a55.toInt = lx7.toInt + 1 := b57; have t2 : 0 ≤ R.toInt ∧ R.toInt ≤ 8 * N.toInt ∧ 0 ≤ N.toInt ∧ N.toInt ≤ 1376 ∧ 64 ≤ R.toInt ∧ 64 ≤ K.toInt ∧ K.toInt ≤ 1000000 := hfk10; have t3 : 0 ≤ t0_0.toInt ∧ t0_0.toInt ≤ K.toInt := btt0_0; have t4 : lx7.toInt < t0_0.toInt := b21; omega) ⟨(show q_F (x2.toInt ≤ a55.toInt) from (show x2.toInt ≤ a55.toInt from by have t1 : x2.toInt ≤ lx7.toInt := i9; have t2 : a55.toInt = lx7.toInt + 1 := b57; omega)), V, q_lw hl (q_lw1 0 rfl (q_lw1 2 rfl q_lw0)), hI, hF, hO12, hA51, ⟨fm18, Nat.lt_of_lt_of_le (show (1000000 - a55.toInt).toNat < (1000000 - lx7.toInt).toNat from by have t1 : a55.toInt = lx7.toInt + 1 := b57; have t2 : 0 ≤ R.toInt ∧ R.toInt ≤ 8 * N.toInt ∧ 0 ≤ N.toInt ∧ N.toInt ≤ 1376 ∧ 64 ≤ R.toInt ∧ 64 ≤ K.toInt ∧ K.toInt ≤ 1000000 := hfk10; have t3 : 0 ≤ t0_0.toInt ∧ t0_0.toInt ≤ K.toInt := btt0_0; have t4 : lx7.toInt < t0_0.toInt := b21; omega) (Nat.le_of_lt_succ hf17), (show F_Pri_enlarge_L2 R N K x2 t0_0 t1_0 fm18 a55 f50 = (F_Pri_enlarge R N K x2 t0_0 t1_0) from Eq.trans (by have c33x := c33; rw [e32, ← e23] at c33x; have c39x := c39; rw [e32, ← e23] at c39x; rw [← e56, e54, ← e46, e32, ← e23, F_Pri_enlarge_L2.eq_2, if_neg c19, if_neg c33x, if_neg c39x]) hR14)⟩⟩
def F_Pri_canTake (R : Int32) (t0_0 : Int32) (t0_1 : Int32) (t1_0 : Int32) (t1_1 : Int32) (t2_0 : (Nat → Int32)) : Int32 := if ((F_Big_fitsLong R t1_0 t1_1 t2_0) : Int32) = (0 : Int32) then ((0 : Int32)) else (if t0_0 < (0 : Int32) then ((0 : Int32)) else (if (40 : Int32) < t0_0 then ((0 : Int32)) else ((1 : Int32))))
set_option maxRecDepth 100000 in
set_option maxHeartbeats 4000000 in
theorem X_Pri_canTake (l : Launch) (D : va_G) (g : Nat → ClassId) (q : Nat → Nat) (ws : va_W) (k2 : Nat) (R : Int32) (hB2 : q_isDec (nsh g q) g q k2 R) (zk2 : (10 ≤ k2 ∧ k2 ≤ 31) ∨ 66 ≤ k2) (hI : q_I (nsh g q) q ws) (t0_0 : Int32) (t0_1 : Int32) (hT0 : ws[k2]? = (some (q k2, .inr (3, [.ref (q (k2 + 1)), .int t0_0, .int t0_1])) : Option (Nat × va_E))) (t1_0 : Int32) (t1_1 : Int32) (hT1 : ws[k2 + 1]? = (some (q (k2 + 1), .inr (2, [.ref (q (k2 + 2)), .int t1_0, .int t1_1])) : Option (Nat × va_E))) (t2_0 : (Nat → Int32)) (hT2 : ws[k2 + 2]? = (some (q (k2 + 2), .inl (g 0, R.toNatClampNeg, .inl t2_0)) : Option (Nat × va_E))) : q_mI l y_Pri_canTake prog_9_method_2_code 2 (.boolean) 6 0 0 D g [.ref (q 40), .ref (q k2)] ws (fun r u => ws = u ∧ (0 ≤ r.toInt) ∧ (r.toInt ≤ 1) ∧ (r.toInt ≤ t0_0.toInt + 10000) ∧ r = (F_Pri_canTake R t0_0 t0_1 t1_0 t1_1 t2_0)) := by
  intro sz
  refine q_into (by decide) (Nat.le_of_ble_eq_true rfl) ?_
  intro p e s m below meth c ls hsz C0 V hl
  have hx := C0.1
  have hb := C0.2.1
  have btt0_0 := (n_deW hI hB2 hT0).1
  replace btt0_0 : q_F (-10000 ≤ t0_0.toInt ∧ t0_0.toInt ≤ 10000) := btt0_0
  have btt1_1 := (q_bigW hI hB2.2 hT1).2
  clear btt1_1
  have hl : lv_has ls 2 [(0, .ref (q 40)), (1, .ref (q k2))] := hl
  refine lv_aload_n hx hb d_9_2_0 rfl (lv_at hl 1 rfl) ?_
  refine q_get (ci := 3) (j := 0) (v := .ref (q (k2 + 1))) C0 V i_Dec rfl rfl hT0 (by decide) w_172 rfl d_9_2_1 ?_
  refine q_goi V (q_runV (As := []) (rest := []) (d := 5) (mc := 0) (ms := 0) (ci := 2) C0 V rfl LV_Pri_57 (X_Big_fitsLong l D g q ws (k2 + 1) R hB2.2 (by have z := zk2; omega)  hI t1_0 t1_1 hT1 t2_0 hT2  _) rfl rfl hT1 rfl hl.1 rfl (Nat.le_of_ble_eq_true rfl) ⟨by decide, by decide⟩ ⟨Nat.le_of_ble_eq_true rfl, Nat.le_of_ble_eq_true rfl⟩ d_9_2_4) (fun a16 u14 H locs hp15 V => ?_)
  obtain ⟨rfl, b17, b18, hE19⟩ := hp15
  have e20 : a16 = (F_Big_fitsLong R t1_0 t1_1 t2_0) := hE19
  clear b17
  clear b18
  refine lv_if_eq (tgt := 30) hx hb d_9_2_7 (by decide) (fun c21 => ?_) (fun c21 => ?_)
  ·
    refine lv_iconst (v := 0) hx hb d_9_2_30 (by decide) ?_
    exact q_retz C0 V (by decide) (⟨rfl, (show 0 ≤ (0 : Int32).toInt from (by have z6 : (0 : Int32).toInt = 0 := rfl; omega)), (show (0 : Int32).toInt ≤ 1 from (by have z6 : (0 : Int32).toInt = 0 := rfl; omega)), (show (0 : Int32).toInt ≤ t0_0.toInt + 10000 from (by have z6 : (0 : Int32).toInt = 0 := rfl; have t1 : -10000 ≤ t0_0.toInt ∧ t0_0.toInt ≤ 10000 := btt0_0; omega)), (show (0 : Int32) = (F_Pri_canTake R t0_0 t0_1 t1_0 t1_1 t2_0) from (by have c21x := c21; rw [e20] at c21x; rw [F_Pri_canTake.eq_1, if_pos c21x]))⟩) d_9_2_31
  ·
    refine lv_aload_n hx hb d_9_2_10 rfl (lv_at hl 1 rfl) ?_
    refine q_get (ci := 3) (j := 1) (v := .int t0_0) C0 V i_Dec rfl rfl hT0 (by decide) w_175 rfl d_9_2_11 ?_
    refine lv_if_lt (tgt := 30) hx hb d_9_2_14 (by decide) (fun c24 => ?_) (fun c24 => ?_)
    ·
      refine lv_iconst (v := 0) hx hb d_9_2_30 (by decide) ?_
      exact q_retz C0 V (by decide) (⟨rfl, (show 0 ≤ (0 : Int32).toInt from (by have z6 : (0 : Int32).toInt = 0 := rfl; omega)), (show (0 : Int32).toInt ≤ 1 from (by have z6 : (0 : Int32).toInt = 0 := rfl; omega)), (show (0 : Int32).toInt ≤ t0_0.toInt + 10000 from (by have z6 : (0 : Int32).toInt = 0 := rfl; have t1 : -10000 ≤ t0_0.toInt ∧ t0_0.toInt ≤ 10000 := btt0_0; omega)), (show (0 : Int32) = (F_Pri_canTake R t0_0 t0_1 t1_0 t1_1 t2_0) from (by have c21x := c21; rw [e20] at c21x; rw [F_Pri_canTake.eq_1, if_neg c21x, if_pos c24]))⟩) d_9_2_31
    ·
      have b26 : q_F (0 ≤ t0_0.toInt) := (q_nltI c24)
      refine lv_aload_n hx hb d_9_2_17 rfl (lv_at hl 1 rfl) ?_
      refine q_get (ci := 3) (j := 1) (v := .int t0_0) C0 V i_Dec rfl rfl hT0 (by decide) w_175 rfl d_9_2_18 ?_
      refine lv_bipush (v := 40) hx hb d_9_2_21 (by decide) ?_
      refine lv_icmp_gt (tgt := 30) hx hb d_9_2_23 (by decide) (fun c27 => ?_) (fun c27 => ?_)
      ·
        refine lv_iconst (v := 0) hx hb d_9_2_30 (by decide) ?_
        exact q_retz C0 V (by decide) (⟨rfl, (show 0 ≤ (0 : Int32).toInt from (by have z6 : (0 : Int32).toInt = 0 := rfl; omega)), (show (0 : Int32).toInt ≤ 1 from (by have z6 : (0 : Int32).toInt = 0 := rfl; omega)), (show (0 : Int32).toInt ≤ t0_0.toInt + 10000 from (by have z6 : (0 : Int32).toInt = 0 := rfl; have t1 : -10000 ≤ t0_0.toInt ∧ t0_0.toInt ≤ 10000 := btt0_0; omega)), (show (0 : Int32) = (F_Pri_canTake R t0_0 t0_1 t1_0 t1_1 t2_0) from (by have c21x := c21; rw [e20] at c21x; rw [F_Pri_canTake.eq_1, if_neg c21x, if_neg c24, if_pos c27]))⟩) d_9_2_31
      ·
        refine lv_iconst (v := 1) hx hb d_9_2_26 (by decide) ?_
        refine lv_goto (tgt := 31) hx hb d_9_2_27 (by decide) ?_
        exact q_retz C0 V (by decide) (⟨rfl, (show 0 ≤ (1 : Int32).toInt from (by have z6 : (1 : Int32).toInt = 1 := rfl; omega)), (show (1 : Int32).toInt ≤ 1 from (by have z6 : (1 : Int32).toInt = 1 := rfl; omega)), (show (1 : Int32).toInt ≤ t0_0.toInt + 10000 from (by have z6 : (1 : Int32).toInt = 1 := rfl; have t1 : 0 ≤ t0_0.toInt := b26; omega)), (show (1 : Int32) = (F_Pri_canTake R t0_0 t0_1 t1_0 t1_1 t2_0) from (by have c21x := c21; rw [e20] at c21x; rw [F_Pri_canTake.eq_1, if_neg c21x, if_neg c24, if_neg c27]))⟩) d_9_2_31
def F_Pri_addNumber (x2 : Int32) (x3 : Int64) (x4 : Int32) (t0_0 : Int32) (t0_1 : Int32) (t0_2 : Int32) (t0_3 : Int32) (t1_0 : (Nat → Int32)) (t2_0 : (Nat → Int64)) (t3_0 : (Nat → Int32)) : Int32 × Int32 × Int32 × Int32 × (Nat → Int32) × (Nat → Int64) × (Nat → Int32) := if (9 : Int32) ≤ t0_0 then ((t0_0, t0_1, t0_2, t0_3, t1_0, t2_0, t3_0)) else (((t0_0 + 1 : Int32), t0_1, t0_2, t0_3, (upd t1_0 t0_0.toNatClampNeg x2 : (Nat → Int32)), (vp_updL t2_0 t0_0.toNatClampNeg x3 : (Nat → Int64)), (upd t3_0 t0_0.toNatClampNeg x4 : (Nat → Int32))))
set_option maxRecDepth 100000 in
set_option maxHeartbeats 4000000 in
theorem X_Pri_addNumber (l : Launch) (D : va_G) (g : Nat → ClassId) (q : Nat → Nat) (ws : va_W) (x2 : Int32) (x3 : Int64) (x4 : Int32) (hI : q_I (nsh g q) q ws) (t0_0 : Int32) (t0_1 : Int32) (t0_2 : Int32) (t0_3 : Int32) (hT0 : ws[40]? = (some (q 40, .inr (11, [.int t0_0, .ref (q 41), .ref (q 42), .ref (q 43), .ref (q 44), .ref (q 1), .ref (q 47), .ref (q 36), .ref (q 45), .int t0_1, .int t0_2, .int t0_3])) : Option (Nat × va_E))) (t1_0 : (Nat → Int32)) (hT1 : ws[41]? = (some (q 41, .inl (g 0, 9, .inl t1_0)) : Option (Nat × va_E))) (t2_0 : (Nat → Int64)) (hT2 : ws[42]? = (some (q 42, .inl (g 1, 9, .inr (.inl t2_0))) : Option (Nat × va_E))) (t3_0 : (Nat → Int32)) (hT3 : ws[43]? = (some (q 43, .inl (g 0, 9, .inl t3_0)) : Option (Nat × va_E))) (pre0 : 0 ≤ x4.toInt + 10000) (pre1 : x4.toInt ≤ 10000) : q_mV l y_Pri_addNumber prog_9_method_3_code 5 1 0 0 D g [.ref (q 40), .int x2, .long x3, .int x4] ws (fun u => q_I (nsh g q) q u ∧ q_un ws u [40, 41, 42, 43] ∧ ∃ (u0_0 : Int32) (u0_1 : Int32) (u0_2 : Int32) (u0_3 : Int32) (u1_0 : (Nat → Int32)) (u2_0 : (Nat → Int64)) (u3_0 : (Nat → Int32)), u[40]? = (some (q 40, .inr (11, [.int u0_0, .ref (q 41), .ref (q 42), .ref (q 43), .ref (q 44), .ref (q 1), .ref (q 47), .ref (q 36), .ref (q 45), .int u0_1, .int u0_2, .int u0_3])) : Option (Nat × va_E)) ∧ u[41]? = (some (q 41, .inl (g 0, 9, .inl u1_0)) : Option (Nat × va_E)) ∧ u[42]? = (some (q 42, .inl (g 1, 9, .inr (.inl u2_0))) : Option (Nat × va_E)) ∧ u[43]? = (some (q 43, .inl (g 0, 9, .inl u3_0)) : Option (Nat × va_E)) ∧ (1 ≤ u0_0.toInt) ∧ (u0_0.toInt ≤ 9) ∧ (t0_0.toInt ≤ u0_0.toInt) ∧ (u0_0.toInt ≤ t0_0.toInt + 1) ∧ (t0_1.toInt ≤ u0_1.toInt) ∧ (u0_1.toInt ≤ t0_1.toInt) ∧ (t0_2.toInt ≤ u0_2.toInt) ∧ (u0_2.toInt ≤ t0_2.toInt) ∧ (t0_3.toInt ≤ u0_3.toInt) ∧ (u0_3.toInt ≤ t0_3.toInt) ∧ (u0_0, u0_1, u0_2, u0_3, u1_0, u2_0, u3_0) = (F_Pri_addNumber x2 x3 x4 t0_0 t0_1 t0_2 t0_3 t1_0 t2_0 t3_0)) := by
  intro sz
  refine q_into (by decide) (Nat.le_of_ble_eq_true rfl) ?_
  intro p e s m below meth c ls hsz C0 V hl
  have hx := C0.1
  have hb := C0.2.1
  obtain ⟨btt0_0, hZ9⟩ := n_w40 hI hT0
  obtain ⟨btt0_1, btt0_3⟩ := hZ9
  replace btt0_0 : q_F (0 ≤ t0_0.toInt ∧ t0_0.toInt ≤ 9) := btt0_0
  replace btt0_1 : q_F (-1 ≤ t0_1.toInt ∧ t0_1.toInt ≤ 1000000) := btt0_1
  replace btt0_3 : q_F (-1 ≤ t0_3.toInt ∧ t0_3.toInt ≤ 8) := btt0_3
  replace pre0 : q_F (0 ≤ x4.toInt + 10000) := pre0
  replace pre1 : q_F (x4.toInt ≤ 10000) := pre1
  have hF : q_un ws ws [40, 41, 42, 43] := q_u0
  have hl : lv_has ls 5 [(0, .ref (q 40)), (1, .int x2), (2, .long x3), (4, .int x4)] := hl
  refine lv_aload_n hx hb d_9_3_0 rfl (lv_at hl 0 rfl) ?_
  refine q_get (ci := 11) (j := 0) (v := .int t0_0) C0 V i_Pri rfl rfl hT0 (by decide) w_384 rfl d_9_3_1 ?_
  refine lv_bipush (v := 9) hx hb d_9_3_4 (by decide) ?_
  refine lv_icmp_ge (tgt := 50) hx hb d_9_3_6 (by decide) (fun c17 => ?_) (fun c17 => ?_)
  ·
    have b18 : q_F (9 ≤ t0_0.toInt) := (q_leI c17)
    exact q_retv C0 V (⟨hI, hF, t0_0, t0_1, t0_2, t0_3, t1_0, t2_0, t3_0, hT0, hT1, hT2, hT3, (show 1 ≤ t0_0.toInt from (by first | with_reducible exact q_fe b18 | (have t1 : 9 ≤ t0_0.toInt := b18; omega))), (show t0_0.toInt ≤ 9 from (by first | with_reducible exact (q_fe btt0_0).2 | with_reducible exact (q_fe btt0_0).1 | (have t1 : 0 ≤ t0_0.toInt ∧ t0_0.toInt ≤ 9 := btt0_0; omega))), (show t0_0.toInt ≤ t0_0.toInt from (by omega)), (show t0_0.toInt ≤ t0_0.toInt + 1 from (by omega)), (show t0_1.toInt ≤ t0_1.toInt from (by omega)), (show t0_1.toInt ≤ t0_1.toInt from (by omega)), (show t0_2.toInt ≤ t0_2.toInt from (by omega)), (show t0_2.toInt ≤ t0_2.toInt from (by omega)), (show t0_3.toInt ≤ t0_3.toInt from (by omega)), (show t0_3.toInt ≤ t0_3.toInt from (by omega)), (show (t0_0, t0_1, t0_2, t0_3, t1_0, t2_0, t3_0) = (F_Pri_addNumber x2 x3 x4 t0_0 t0_1 t0_2 t0_3 t1_0 t2_0 t3_0) from (by rw [F_Pri_addNumber.eq_1, if_pos c17]))⟩) d_9_3_50
  ·
    have b19 : q_F (t0_0.toInt < 9) := (q_nleI c17)
    refine lv_aload_n hx hb d_9_3_9 rfl (lv_at hl 0 rfl) ?_
    refine q_get (ci := 11) (j := 1) (v := .ref (q 41)) C0 V i_Pri rfl rfl hT0 (by decide) w_386 rfl d_9_3_10 ?_
    refine lv_aload_n hx hb d_9_3_13 rfl (lv_at hl 0 rfl) ?_
    refine q_get (ci := 11) (j := 0) (v := .int t0_0) C0 V i_Pri rfl rfl hT0 (by decide) w_384 rfl d_9_3_14 ?_
    refine lv_iload_n hx hb d_9_3_17 rfl (lv_at hl 1 rfl) ?_
    refine q_iast C0 V hT1 (q_ix (x := t0_0.toInt) rfl (by first | with_reducible exact (q_fe btt0_0).2 | with_reducible exact (q_fe btt0_0).1 | (have t1 : 0 ≤ t0_0.toInt ∧ t0_0.toInt ≤ 9 := btt0_0; omega)) (by have t1 : 0 ≤ t0_0.toInt ∧ t0_0.toInt ≤ 9 := btt0_0; have t2 : t0_0.toInt < 9 := b19; omega)) d_9_3_18 (fun H locs w20 hu21 hT1 V => ?_)
    replace hI := n_ai' hI (n_s41 g q) hu21 hT1 (q_updB (fun _ => s_bnd) s_bnd)
    replace hT0 := (hu21 _ (by decide)).trans hT0
    replace hT2 := (hu21 _ (by decide)).trans hT2
    replace hT3 := (hu21 _ (by decide)).trans hT3
    replace hF := q_us hF hu21 (by simp)
    obtain ⟨f22, e23⟩ := q_nm (upd t1_0 t0_0.toNatClampNeg x2 : (Nat → Int32))
    rw [e23] at hT1
    refine lv_aload_n hx hb d_9_3_19 rfl (lv_at hl 0 rfl) ?_
    refine q_get (ci := 11) (j := 2) (v := .ref (q 42)) C0 V i_Pri rfl rfl hT0 (by decide) w_387 rfl d_9_3_20 ?_
    refine lv_aload_n hx hb d_9_3_23 rfl (lv_at hl 0 rfl) ?_
    refine q_get (ci := 11) (j := 0) (v := .int t0_0) C0 V i_Pri rfl rfl hT0 (by decide) w_384 rfl d_9_3_24 ?_
    refine lv_lload_n hx hb d_9_3_27 rfl (lv_at hl 2 rfl) ?_
    refine q_last C0 V hT2 (q_ix (x := t0_0.toInt) rfl (by first | with_reducible exact (q_fe btt0_0).2 | with_reducible exact (q_fe btt0_0).1 | (have t1 : 0 ≤ t0_0.toInt ∧ t0_0.toInt ≤ 9 := btt0_0; omega)) (by have t1 : 0 ≤ t0_0.toInt ∧ t0_0.toInt ≤ 9 := btt0_0; have t2 : t0_0.toInt < 9 := b19; omega)) d_9_3_28 (fun H locs w24 hu25 hT2 V => ?_)
    replace hI := n_al' hI (n_s42 g q) hu25 hT2
    replace hT0 := (hu25 _ (by decide)).trans hT0
    replace hT1 := (hu25 _ (by decide)).trans hT1
    replace hT3 := (hu25 _ (by decide)).trans hT3
    replace hF := q_us hF hu25 (by simp)
    obtain ⟨f26, e27⟩ := q_nm (vp_updL t2_0 t0_0.toNatClampNeg x3 : (Nat → Int64))
    rw [e27] at hT2
    refine lv_aload_n hx hb d_9_3_29 rfl (lv_at hl 0 rfl) ?_
    refine q_get (ci := 11) (j := 3) (v := .ref (q 43)) C0 V i_Pri rfl rfl hT0 (by decide) w_388 rfl d_9_3_30 ?_
    refine lv_aload_n hx hb d_9_3_33 rfl (lv_at hl 0 rfl) ?_
    refine q_get (ci := 11) (j := 0) (v := .int t0_0) C0 V i_Pri rfl rfl hT0 (by decide) w_384 rfl d_9_3_34 ?_
    refine lv_iload hx hb d_9_3_37 (lv_at hl 3 rfl) ?_
    have bf30 := n_aiB hI (n_s43 g q) hT3
    refine q_iast C0 V hT3 (q_ix (x := t0_0.toInt) rfl (by first | with_reducible exact (q_fe btt0_0).2 | with_reducible exact (q_fe btt0_0).1 | (have t1 : 0 ≤ t0_0.toInt ∧ t0_0.toInt ≤ 9 := btt0_0; omega)) (by have t1 : 0 ≤ t0_0.toInt ∧ t0_0.toInt ≤ 9 := btt0_0; have t2 : t0_0.toInt < 9 := b19; omega)) d_9_3_39 (fun H locs w28 hu29 hT3 V => ?_)
    replace hI := n_ai' hI (n_s43 g q) hu29 hT3 (q_updB bf30 ⟨(by first | with_reducible exact q_fe pre0 | (have t1 : 0 ≤ x4.toInt + 10000 := pre0; omega)), (by first | with_reducible exact q_fe pre1 | (have t1 : x4.toInt ≤ 10000 := pre1; omega))⟩)
    replace hT0 := (hu29 _ (by decide)).trans hT0
    replace hT1 := (hu29 _ (by decide)).trans hT1
    replace hT2 := (hu29 _ (by decide)).trans hT2
    replace hF := q_us hF hu29 (by simp)
    obtain ⟨f31, e32⟩ := q_nm (upd t3_0 t0_0.toNatClampNeg x4 : (Nat → Int32))
    rw [e32] at hT3
    refine lv_aload_n hx hb d_9_3_40 rfl (lv_at hl 0 rfl) ?_
    refine lv_dup hx hb d_9_3_41 rfl ?_
    refine q_get (ci := 11) (j := 0) (v := .int t0_0) C0 V i_Pri rfl rfl hT0 (by decide) w_384 rfl d_9_3_42 ?_
    refine lv_iconst (v := 1) hx hb d_9_3_45 (by decide) ?_
    refine lv_iadd hx hb d_9_3_46 ?_
    obtain ⟨a33, e34⟩ := q_nm (t0_0 + 1 : Int32)
    refine q_ti (v := a33) e34 ?_
    have b35 : q_F (a33.toInt = t0_0.toInt + 1) := (by rw [← e34]; show (t0_0 + 1 : Int32).toInt = t0_0.toInt + 1; exact q_addI (x := t0_0.toInt) (y := 1) rfl (by decide) (by first | with_reducible exact (q_fe btt0_0).2 | with_reducible exact (q_fe btt0_0).1 | (have t1 : 0 ≤ t0_0.toInt ∧ t0_0.toInt ≤ 9 := btt0_0; omega)) (by first | with_reducible exact (q_fe btt0_0).2 | with_reducible exact (q_fe btt0_0).1 | (have t1 : 0 ≤ t0_0.toInt ∧ t0_0.toInt ≤ 9 := btt0_0; omega)))
    refine q_put (ci := 11) (j := 0) (v := .int a33) (ty := .int) C0 V i_Pri o_Pri n_Pri rfl rfl hT0 (by decide) w_384 rfl rfl rfl rfl (Nat.le_of_ble_eq_true rfl) d_9_3_47 (fun H locs w36 hu37 hT0 V => ?_)
    replace hT0 : w36[40]? = (some (q 40, .inr (11, [.int a33, .ref (q 41), .ref (q 42), .ref (q 43), .ref (q 44), .ref (q 1), .ref (q 47), .ref (q 36), .ref (q 45), .int t0_1, .int t0_2, .int t0_3])) : Option (Nat × va_E)) := hT0
    replace hI := n_p40 hI hu37 hT0 ⟨(by have t1 : 0 ≤ t0_0.toInt ∧ t0_0.toInt ≤ 9 := btt0_0; have t2 : a33.toInt = t0_0.toInt + 1 := b35; omega), (by have t1 : t0_0.toInt < 9 := b19; have t2 : a33.toInt = t0_0.toInt + 1 := b35; omega)⟩ (by first | with_reducible exact q_fe btt0_1 | exact ⟨(by have t1 : -1 ≤ t0_1.toInt ∧ t0_1.toInt ≤ 1000000 := btt0_1; omega), (by have t1 : -1 ≤ t0_1.toInt ∧ t0_1.toInt ≤ 1000000 := btt0_1; omega)⟩) (by first | with_reducible exact q_fe btt0_3 | exact ⟨(by have t1 : -1 ≤ t0_3.toInt ∧ t0_3.toInt ≤ 8 := btt0_3; omega), (by have t1 : -1 ≤ t0_3.toInt ∧ t0_3.toInt ≤ 8 := btt0_3; omega)⟩)
    replace hT1 := (hu37 _ (by decide)).trans hT1
    replace hT2 := (hu37 _ (by decide)).trans hT2
    replace hT3 := (hu37 _ (by decide)).trans hT3
    replace hF := q_us hF hu37 (by simp)
    exact q_retv C0 V (⟨hI, hF, a33, t0_1, t0_2, t0_3, f22, f26, f31, hT0, hT1, hT2, hT3, (show 1 ≤ a33.toInt from (by have t1 : 0 ≤ t0_0.toInt ∧ t0_0.toInt ≤ 9 := btt0_0; have t2 : a33.toInt = t0_0.toInt + 1 := b35; omega)), (show a33.toInt ≤ 9 from (by have t1 : t0_0.toInt < 9 := b19; have t2 : a33.toInt = t0_0.toInt + 1 := b35; omega)), (show t0_0.toInt ≤ a33.toInt from (by first | with_reducible exact q_fe b35 | (have t1 : a33.toInt = t0_0.toInt + 1 := b35; omega))), (show a33.toInt ≤ t0_0.toInt + 1 from (by first | with_reducible exact q_fe b35 | (have t1 : a33.toInt = t0_0.toInt + 1 := b35; omega))), (show t0_1.toInt ≤ t0_1.toInt from (by omega)), (show t0_1.toInt ≤ t0_1.toInt from (by omega)), (show t0_2.toInt ≤ t0_2.toInt from (by omega)), (show t0_2.toInt ≤ t0_2.toInt from (by omega)), (show t0_3.toInt ≤ t0_3.toInt from (by omega)), (show t0_3.toInt ≤ t0_3.toInt from (by omega)), (show (a33, t0_1, t0_2, t0_3, f22, f26, f31) = (F_Pri_addNumber x2 x3 x4 t0_0 t0_1 t0_2 t0_3 t1_0 t2_0 t3_0) from (by rw [← e34, ← e32, ← e27, ← e23, F_Pri_addNumber.eq_1, if_neg c17]))⟩) d_9_3_50
def F_Pri_addText_c49 (t0_0 : Int32) (t0_1 : Int32) (t0_2 : Int32) (t0_3 : Int32) (t1_0 : (Nat → Int32)) (t2_0 : (Nat → Int64)) (t3_0 : (Nat → Int32)) (t4_0 : Int32) (t5_0 : (Nat → Int64)) (t6_0 : Int32) (t7_0 : (Nat → Int64)) (t8_0 : Int32) (t9_0 : (Nat → Int64)) (t10_0 : Int32) (t11_0 : (Nat → Int64)) (t12_0 : Int32) (t13_0 : (Nat → Int64)) (t14_0 : Int32) (t15_0 : (Nat → Int64)) (t16_0 : Int32) (t17_0 : (Nat → Int64)) (t18_0 : Int32) (t19_0 : (Nat → Int64)) (t20_0 : Int32) (t21_0 : (Nat → Int64)) (t22_0 : Int32) (t23_0 : (Nat → Int64)) (p96 : (Int32 × (Nat → Int64))) (y88 : Int32) (f89 : (Nat → Int64)) (p130 : (Int32 × Int32 × Int32 × Int32 × (Nat → Int32) × (Nat → Int64) × (Nat → Int32))) : Int32 × Int32 × Int32 × Int32 × (Nat → Int32) × (Nat → Int64) × (Nat → Int32) × Int32 × (Nat → Int64) × Int32 × (Nat → Int64) × Int32 × (Nat → Int64) × Int32 × (Nat → Int64) × Int32 × (Nat → Int64) × Int32 × (Nat → Int64) × Int32 × (Nat → Int64) × Int32 × (Nat → Int64) × Int32 × (Nat → Int64) := ((p130.1 : Int32), (p130.2.1 : Int32), (p130.2.2.1 : Int32), (p130.2.2.2.1 : Int32), (p130.2.2.2.2.1 : (Nat → Int32)), (p130.2.2.2.2.2.1 : (Nat → Int64)), (p130.2.2.2.2.2.2 : (Nat → Int32)), y88, f89, t8_0, t9_0, t10_0, t11_0, t12_0, t13_0, t14_0, t15_0, t16_0, t17_0, t18_0, t19_0, t20_0, t21_0, t22_0, t23_0)
def F_Pri_addText_c42 (t0_0 : Int32) (t0_1 : Int32) (t0_2 : Int32) (t0_3 : Int32) (t1_0 : (Nat → Int32)) (t2_0 : (Nat → Int64)) (t3_0 : (Nat → Int32)) (t4_0 : Int32) (t5_0 : (Nat → Int64)) (t6_0 : Int32) (t7_0 : (Nat → Int64)) (t8_0 : Int32) (t9_0 : (Nat → Int64)) (t10_0 : Int32) (t11_0 : (Nat → Int64)) (t12_0 : Int32) (t13_0 : (Nat → Int64)) (t14_0 : Int32) (t15_0 : (Nat → Int64)) (t16_0 : Int32) (t17_0 : (Nat → Int64)) (t18_0 : Int32) (t19_0 : (Nat → Int64)) (t20_0 : Int32) (t21_0 : (Nat → Int64)) (t22_0 : Int32) (t23_0 : (Nat → Int64)) (p96 : (Int32 × (Nat → Int64))) : Int32 × Int32 × Int32 × Int32 × (Nat → Int32) × (Nat → Int64) × (Nat → Int32) × Int32 × (Nat → Int64) × Int32 × (Nat → Int64) × Int32 × (Nat → Int64) × Int32 × (Nat → Int64) × Int32 × (Nat → Int64) × Int32 × (Nat → Int64) × Int32 × (Nat → Int64) × Int32 × (Nat → Int64) × Int32 × (Nat → Int64) := F_Pri_addText_c49 t0_0 t0_1 t0_2 t0_3 t1_0 t2_0 t3_0 t4_0 t5_0 t6_0 t7_0 t8_0 t9_0 t10_0 t11_0 t12_0 t13_0 t14_0 t15_0 t16_0 t17_0 t18_0 t19_0 t20_0 t21_0 t22_0 t23_0 p96 (p96.1 : Int32) (p96.2 : (Nat → Int64)) ((F_Pri_addNumber (4 : Int32) (0 : Int64) (0 : Int32) t0_0 t0_1 t0_2 t0_3 t1_0 t2_0 t3_0) : (Int32 × Int32 × Int32 × Int32 × (Nat → Int32) × (Nat → Int64) × (Nat → Int32)))
def F_Pri_addText_c49_4 (t0_0 : Int32) (t0_1 : Int32) (t0_2 : Int32) (t0_3 : Int32) (t1_0 : (Nat → Int32)) (t2_0 : (Nat → Int64)) (t3_0 : (Nat → Int32)) (t4_0 : Int32) (t5_0 : (Nat → Int64)) (t6_0 : Int32) (t7_0 : (Nat → Int64)) (t8_0 : Int32) (t9_0 : (Nat → Int64)) (t10_0 : Int32) (t11_0 : (Nat → Int64)) (t12_0 : Int32) (t13_0 : (Nat → Int64)) (t14_0 : Int32) (t15_0 : (Nat → Int64)) (t16_0 : Int32) (t17_0 : (Nat → Int64)) (t18_0 : Int32) (t19_0 : (Nat → Int64)) (t20_0 : Int32) (t21_0 : (Nat → Int64)) (t22_0 : Int32) (t23_0 : (Nat → Int64)) (p171 : (Int32 × (Nat → Int64))) (y163 : Int32) (f164 : (Nat → Int64)) (p205 : (Int32 × Int32 × Int32 × Int32 × (Nat → Int32) × (Nat → Int64) × (Nat → Int32))) : Int32 × Int32 × Int32 × Int32 × (Nat → Int32) × (Nat → Int64) × (Nat → Int32) × Int32 × (Nat → Int64) × Int32 × (Nat → Int64) × Int32 × (Nat → Int64) × Int32 × (Nat → Int64) × Int32 × (Nat → Int64) × Int32 × (Nat → Int64) × Int32 × (Nat → Int64) × Int32 × (Nat → Int64) × Int32 × (Nat → Int64) := ((p205.1 : Int32), (p205.2.1 : Int32), (p205.2.2.1 : Int32), (p205.2.2.2.1 : Int32), (p205.2.2.2.2.1 : (Nat → Int32)), (p205.2.2.2.2.2.1 : (Nat → Int64)), (p205.2.2.2.2.2.2 : (Nat → Int32)), t6_0, t7_0, y163, f164, t10_0, t11_0, t12_0, t13_0, t14_0, t15_0, t16_0, t17_0, t18_0, t19_0, t20_0, t21_0, t22_0, t23_0)
def F_Pri_addText_c42_3 (t0_0 : Int32) (t0_1 : Int32) (t0_2 : Int32) (t0_3 : Int32) (t1_0 : (Nat → Int32)) (t2_0 : (Nat → Int64)) (t3_0 : (Nat → Int32)) (t4_0 : Int32) (t5_0 : (Nat → Int64)) (t6_0 : Int32) (t7_0 : (Nat → Int64)) (t8_0 : Int32) (t9_0 : (Nat → Int64)) (t10_0 : Int32) (t11_0 : (Nat → Int64)) (t12_0 : Int32) (t13_0 : (Nat → Int64)) (t14_0 : Int32) (t15_0 : (Nat → Int64)) (t16_0 : Int32) (t17_0 : (Nat → Int64)) (t18_0 : Int32) (t19_0 : (Nat → Int64)) (t20_0 : Int32) (t21_0 : (Nat → Int64)) (t22_0 : Int32) (t23_0 : (Nat → Int64)) (p171 : (Int32 × (Nat → Int64))) : Int32 × Int32 × Int32 × Int32 × (Nat → Int32) × (Nat → Int64) × (Nat → Int32) × Int32 × (Nat → Int64) × Int32 × (Nat → Int64) × Int32 × (Nat → Int64) × Int32 × (Nat → Int64) × Int32 × (Nat → Int64) × Int32 × (Nat → Int64) × Int32 × (Nat → Int64) × Int32 × (Nat → Int64) × Int32 × (Nat → Int64) := F_Pri_addText_c49_4 t0_0 t0_1 t0_2 t0_3 t1_0 t2_0 t3_0 t4_0 t5_0 t6_0 t7_0 t8_0 t9_0 t10_0 t11_0 t12_0 t13_0 t14_0 t15_0 t16_0 t17_0 t18_0 t19_0 t20_0 t21_0 t22_0 t23_0 p171 (p171.1 : Int32) (p171.2 : (Nat → Int64)) ((F_Pri_addNumber (4 : Int32) (0 : Int64) (0 : Int32) t0_0 t0_1 t0_2 t0_3 t1_0 t2_0 t3_0) : (Int32 × Int32 × Int32 × Int32 × (Nat → Int32) × (Nat → Int64) × (Nat → Int32)))
def F_Pri_addText_c49_6 (t0_0 : Int32) (t0_1 : Int32) (t0_2 : Int32) (t0_3 : Int32) (t1_0 : (Nat → Int32)) (t2_0 : (Nat → Int64)) (t3_0 : (Nat → Int32)) (t4_0 : Int32) (t5_0 : (Nat → Int64)) (t6_0 : Int32) (t7_0 : (Nat → Int64)) (t8_0 : Int32) (t9_0 : (Nat → Int64)) (t10_0 : Int32) (t11_0 : (Nat → Int64)) (t12_0 : Int32) (t13_0 : (Nat → Int64)) (t14_0 : Int32) (t15_0 : (Nat → Int64)) (t16_0 : Int32) (t17_0 : (Nat → Int64)) (t18_0 : Int32) (t19_0 : (Nat → Int64)) (t20_0 : Int32) (t21_0 : (Nat → Int64)) (t22_0 : Int32) (t23_0 : (Nat → Int64)) (p246 : (Int32 × (Nat → Int64))) (y238 : Int32) (f239 : (Nat → Int64)) (p280 : (Int32 × Int32 × Int32 × Int32 × (Nat → Int32) × (Nat → Int64) × (Nat → Int32))) : Int32 × Int32 × Int32 × Int32 × (Nat → Int32) × (Nat → Int64) × (Nat → Int32) × Int32 × (Nat → Int64) × Int32 × (Nat → Int64) × Int32 × (Nat → Int64) × Int32 × (Nat → Int64) × Int32 × (Nat → Int64) × Int32 × (Nat → Int64) × Int32 × (Nat → Int64) × Int32 × (Nat → Int64) × Int32 × (Nat → Int64) := ((p280.1 : Int32), (p280.2.1 : Int32), (p280.2.2.1 : Int32), (p280.2.2.2.1 : Int32), (p280.2.2.2.2.1 : (Nat → Int32)), (p280.2.2.2.2.2.1 : (Nat → Int64)), (p280.2.2.2.2.2.2 : (Nat → Int32)), t6_0, t7_0, t8_0, t9_0, y238, f239, t12_0, t13_0, t14_0, t15_0, t16_0, t17_0, t18_0, t19_0, t20_0, t21_0, t22_0, t23_0)
def F_Pri_addText_c42_5 (t0_0 : Int32) (t0_1 : Int32) (t0_2 : Int32) (t0_3 : Int32) (t1_0 : (Nat → Int32)) (t2_0 : (Nat → Int64)) (t3_0 : (Nat → Int32)) (t4_0 : Int32) (t5_0 : (Nat → Int64)) (t6_0 : Int32) (t7_0 : (Nat → Int64)) (t8_0 : Int32) (t9_0 : (Nat → Int64)) (t10_0 : Int32) (t11_0 : (Nat → Int64)) (t12_0 : Int32) (t13_0 : (Nat → Int64)) (t14_0 : Int32) (t15_0 : (Nat → Int64)) (t16_0 : Int32) (t17_0 : (Nat → Int64)) (t18_0 : Int32) (t19_0 : (Nat → Int64)) (t20_0 : Int32) (t21_0 : (Nat → Int64)) (t22_0 : Int32) (t23_0 : (Nat → Int64)) (p246 : (Int32 × (Nat → Int64))) : Int32 × Int32 × Int32 × Int32 × (Nat → Int32) × (Nat → Int64) × (Nat → Int32) × Int32 × (Nat → Int64) × Int32 × (Nat → Int64) × Int32 × (Nat → Int64) × Int32 × (Nat → Int64) × Int32 × (Nat → Int64) × Int32 × (Nat → Int64) × Int32 × (Nat → Int64) × Int32 × (Nat → Int64) × Int32 × (Nat → Int64) := F_Pri_addText_c49_6 t0_0 t0_1 t0_2 t0_3 t1_0 t2_0 t3_0 t4_0 t5_0 t6_0 t7_0 t8_0 t9_0 t10_0 t11_0 t12_0 t13_0 t14_0 t15_0 t16_0 t17_0 t18_0 t19_0 t20_0 t21_0 t22_0 t23_0 p246 (p246.1 : Int32) (p246.2 : (Nat → Int64)) ((F_Pri_addNumber (4 : Int32) (0 : Int64) (0 : Int32) t0_0 t0_1 t0_2 t0_3 t1_0 t2_0 t3_0) : (Int32 × Int32 × Int32 × Int32 × (Nat → Int32) × (Nat → Int64) × (Nat → Int32)))
def F_Pri_addText_c49_8 (t0_0 : Int32) (t0_1 : Int32) (t0_2 : Int32) (t0_3 : Int32) (t1_0 : (Nat → Int32)) (t2_0 : (Nat → Int64)) (t3_0 : (Nat → Int32)) (t4_0 : Int32) (t5_0 : (Nat → Int64)) (t6_0 : Int32) (t7_0 : (Nat → Int64)) (t8_0 : Int32) (t9_0 : (Nat → Int64)) (t10_0 : Int32) (t11_0 : (Nat → Int64)) (t12_0 : Int32) (t13_0 : (Nat → Int64)) (t14_0 : Int32) (t15_0 : (Nat → Int64)) (t16_0 : Int32) (t17_0 : (Nat → Int64)) (t18_0 : Int32) (t19_0 : (Nat → Int64)) (t20_0 : Int32) (t21_0 : (Nat → Int64)) (t22_0 : Int32) (t23_0 : (Nat → Int64)) (p321 : (Int32 × (Nat → Int64))) (y313 : Int32) (f314 : (Nat → Int64)) (p355 : (Int32 × Int32 × Int32 × Int32 × (Nat → Int32) × (Nat → Int64) × (Nat → Int32))) : Int32 × Int32 × Int32 × Int32 × (Nat → Int32) × (Nat → Int64) × (Nat → Int32) × Int32 × (Nat → Int64) × Int32 × (Nat → Int64) × Int32 × (Nat → Int64) × Int32 × (Nat → Int64) × Int32 × (Nat → Int64) × Int32 × (Nat → Int64) × Int32 × (Nat → Int64) × Int32 × (Nat → Int64) × Int32 × (Nat → Int64) := ((p355.1 : Int32), (p355.2.1 : Int32), (p355.2.2.1 : Int32), (p355.2.2.2.1 : Int32), (p355.2.2.2.2.1 : (Nat → Int32)), (p355.2.2.2.2.2.1 : (Nat → Int64)), (p355.2.2.2.2.2.2 : (Nat → Int32)), t6_0, t7_0, t8_0, t9_0, t10_0, t11_0, y313, f314, t14_0, t15_0, t16_0, t17_0, t18_0, t19_0, t20_0, t21_0, t22_0, t23_0)
def F_Pri_addText_c42_7 (t0_0 : Int32) (t0_1 : Int32) (t0_2 : Int32) (t0_3 : Int32) (t1_0 : (Nat → Int32)) (t2_0 : (Nat → Int64)) (t3_0 : (Nat → Int32)) (t4_0 : Int32) (t5_0 : (Nat → Int64)) (t6_0 : Int32) (t7_0 : (Nat → Int64)) (t8_0 : Int32) (t9_0 : (Nat → Int64)) (t10_0 : Int32) (t11_0 : (Nat → Int64)) (t12_0 : Int32) (t13_0 : (Nat → Int64)) (t14_0 : Int32) (t15_0 : (Nat → Int64)) (t16_0 : Int32) (t17_0 : (Nat → Int64)) (t18_0 : Int32) (t19_0 : (Nat → Int64)) (t20_0 : Int32) (t21_0 : (Nat → Int64)) (t22_0 : Int32) (t23_0 : (Nat → Int64)) (p321 : (Int32 × (Nat → Int64))) : Int32 × Int32 × Int32 × Int32 × (Nat → Int32) × (Nat → Int64) × (Nat → Int32) × Int32 × (Nat → Int64) × Int32 × (Nat → Int64) × Int32 × (Nat → Int64) × Int32 × (Nat → Int64) × Int32 × (Nat → Int64) × Int32 × (Nat → Int64) × Int32 × (Nat → Int64) × Int32 × (Nat → Int64) × Int32 × (Nat → Int64) := F_Pri_addText_c49_8 t0_0 t0_1 t0_2 t0_3 t1_0 t2_0 t3_0 t4_0 t5_0 t6_0 t7_0 t8_0 t9_0 t10_0 t11_0 t12_0 t13_0 t14_0 t15_0 t16_0 t17_0 t18_0 t19_0 t20_0 t21_0 t22_0 t23_0 p321 (p321.1 : Int32) (p321.2 : (Nat → Int64)) ((F_Pri_addNumber (4 : Int32) (0 : Int64) (0 : Int32) t0_0 t0_1 t0_2 t0_3 t1_0 t2_0 t3_0) : (Int32 × Int32 × Int32 × Int32 × (Nat → Int32) × (Nat → Int64) × (Nat → Int32)))
def F_Pri_addText_c49_10 (t0_0 : Int32) (t0_1 : Int32) (t0_2 : Int32) (t0_3 : Int32) (t1_0 : (Nat → Int32)) (t2_0 : (Nat → Int64)) (t3_0 : (Nat → Int32)) (t4_0 : Int32) (t5_0 : (Nat → Int64)) (t6_0 : Int32) (t7_0 : (Nat → Int64)) (t8_0 : Int32) (t9_0 : (Nat → Int64)) (t10_0 : Int32) (t11_0 : (Nat → Int64)) (t12_0 : Int32) (t13_0 : (Nat → Int64)) (t14_0 : Int32) (t15_0 : (Nat → Int64)) (t16_0 : Int32) (t17_0 : (Nat → Int64)) (t18_0 : Int32) (t19_0 : (Nat → Int64)) (t20_0 : Int32) (t21_0 : (Nat → Int64)) (t22_0 : Int32) (t23_0 : (Nat → Int64)) (p396 : (Int32 × (Nat → Int64))) (y388 : Int32) (f389 : (Nat → Int64)) (p430 : (Int32 × Int32 × Int32 × Int32 × (Nat → Int32) × (Nat → Int64) × (Nat → Int32))) : Int32 × Int32 × Int32 × Int32 × (Nat → Int32) × (Nat → Int64) × (Nat → Int32) × Int32 × (Nat → Int64) × Int32 × (Nat → Int64) × Int32 × (Nat → Int64) × Int32 × (Nat → Int64) × Int32 × (Nat → Int64) × Int32 × (Nat → Int64) × Int32 × (Nat → Int64) × Int32 × (Nat → Int64) × Int32 × (Nat → Int64) := ((p430.1 : Int32), (p430.2.1 : Int32), (p430.2.2.1 : Int32), (p430.2.2.2.1 : Int32), (p430.2.2.2.2.1 : (Nat → Int32)), (p430.2.2.2.2.2.1 : (Nat → Int64)), (p430.2.2.2.2.2.2 : (Nat → Int32)), t6_0, t7_0, t8_0, t9_0, t10_0, t11_0, t12_0, t13_0, y388, f389, t16_0, t17_0, t18_0, t19_0, t20_0, t21_0, t22_0, t23_0)
def F_Pri_addText_c42_9 (t0_0 : Int32) (t0_1 : Int32) (t0_2 : Int32) (t0_3 : Int32) (t1_0 : (Nat → Int32)) (t2_0 : (Nat → Int64)) (t3_0 : (Nat → Int32)) (t4_0 : Int32) (t5_0 : (Nat → Int64)) (t6_0 : Int32) (t7_0 : (Nat → Int64)) (t8_0 : Int32) (t9_0 : (Nat → Int64)) (t10_0 : Int32) (t11_0 : (Nat → Int64)) (t12_0 : Int32) (t13_0 : (Nat → Int64)) (t14_0 : Int32) (t15_0 : (Nat → Int64)) (t16_0 : Int32) (t17_0 : (Nat → Int64)) (t18_0 : Int32) (t19_0 : (Nat → Int64)) (t20_0 : Int32) (t21_0 : (Nat → Int64)) (t22_0 : Int32) (t23_0 : (Nat → Int64)) (p396 : (Int32 × (Nat → Int64))) : Int32 × Int32 × Int32 × Int32 × (Nat → Int32) × (Nat → Int64) × (Nat → Int32) × Int32 × (Nat → Int64) × Int32 × (Nat → Int64) × Int32 × (Nat → Int64) × Int32 × (Nat → Int64) × Int32 × (Nat → Int64) × Int32 × (Nat → Int64) × Int32 × (Nat → Int64) × Int32 × (Nat → Int64) × Int32 × (Nat → Int64) := F_Pri_addText_c49_10 t0_0 t0_1 t0_2 t0_3 t1_0 t2_0 t3_0 t4_0 t5_0 t6_0 t7_0 t8_0 t9_0 t10_0 t11_0 t12_0 t13_0 t14_0 t15_0 t16_0 t17_0 t18_0 t19_0 t20_0 t21_0 t22_0 t23_0 p396 (p396.1 : Int32) (p396.2 : (Nat → Int64)) ((F_Pri_addNumber (4 : Int32) (0 : Int64) (0 : Int32) t0_0 t0_1 t0_2 t0_3 t1_0 t2_0 t3_0) : (Int32 × Int32 × Int32 × Int32 × (Nat → Int32) × (Nat → Int64) × (Nat → Int32)))
def F_Pri_addText_c49_12 (t0_0 : Int32) (t0_1 : Int32) (t0_2 : Int32) (t0_3 : Int32) (t1_0 : (Nat → Int32)) (t2_0 : (Nat → Int64)) (t3_0 : (Nat → Int32)) (t4_0 : Int32) (t5_0 : (Nat → Int64)) (t6_0 : Int32) (t7_0 : (Nat → Int64)) (t8_0 : Int32) (t9_0 : (Nat → Int64)) (t10_0 : Int32) (t11_0 : (Nat → Int64)) (t12_0 : Int32) (t13_0 : (Nat → Int64)) (t14_0 : Int32) (t15_0 : (Nat → Int64)) (t16_0 : Int32) (t17_0 : (Nat → Int64)) (t18_0 : Int32) (t19_0 : (Nat → Int64)) (t20_0 : Int32) (t21_0 : (Nat → Int64)) (t22_0 : Int32) (t23_0 : (Nat → Int64)) (p471 : (Int32 × (Nat → Int64))) (y463 : Int32) (f464 : (Nat → Int64)) (p505 : (Int32 × Int32 × Int32 × Int32 × (Nat → Int32) × (Nat → Int64) × (Nat → Int32))) : Int32 × Int32 × Int32 × Int32 × (Nat → Int32) × (Nat → Int64) × (Nat → Int32) × Int32 × (Nat → Int64) × Int32 × (Nat → Int64) × Int32 × (Nat → Int64) × Int32 × (Nat → Int64) × Int32 × (Nat → Int64) × Int32 × (Nat → Int64) × Int32 × (Nat → Int64) × Int32 × (Nat → Int64) × Int32 × (Nat → Int64) := ((p505.1 : Int32), (p505.2.1 : Int32), (p505.2.2.1 : Int32), (p505.2.2.2.1 : Int32), (p505.2.2.2.2.1 : (Nat → Int32)), (p505.2.2.2.2.2.1 : (Nat → Int64)), (p505.2.2.2.2.2.2 : (Nat → Int32)), t6_0, t7_0, t8_0, t9_0, t10_0, t11_0, t12_0, t13_0, t14_0, t15_0, y463, f464, t18_0, t19_0, t20_0, t21_0, t22_0, t23_0)
def F_Pri_addText_c42_11 (t0_0 : Int32) (t0_1 : Int32) (t0_2 : Int32) (t0_3 : Int32) (t1_0 : (Nat → Int32)) (t2_0 : (Nat → Int64)) (t3_0 : (Nat → Int32)) (t4_0 : Int32) (t5_0 : (Nat → Int64)) (t6_0 : Int32) (t7_0 : (Nat → Int64)) (t8_0 : Int32) (t9_0 : (Nat → Int64)) (t10_0 : Int32) (t11_0 : (Nat → Int64)) (t12_0 : Int32) (t13_0 : (Nat → Int64)) (t14_0 : Int32) (t15_0 : (Nat → Int64)) (t16_0 : Int32) (t17_0 : (Nat → Int64)) (t18_0 : Int32) (t19_0 : (Nat → Int64)) (t20_0 : Int32) (t21_0 : (Nat → Int64)) (t22_0 : Int32) (t23_0 : (Nat → Int64)) (p471 : (Int32 × (Nat → Int64))) : Int32 × Int32 × Int32 × Int32 × (Nat → Int32) × (Nat → Int64) × (Nat → Int32) × Int32 × (Nat → Int64) × Int32 × (Nat → Int64) × Int32 × (Nat → Int64) × Int32 × (Nat → Int64) × Int32 × (Nat → Int64) × Int32 × (Nat → Int64) × Int32 × (Nat → Int64) × Int32 × (Nat → Int64) × Int32 × (Nat → Int64) := F_Pri_addText_c49_12 t0_0 t0_1 t0_2 t0_3 t1_0 t2_0 t3_0 t4_0 t5_0 t6_0 t7_0 t8_0 t9_0 t10_0 t11_0 t12_0 t13_0 t14_0 t15_0 t16_0 t17_0 t18_0 t19_0 t20_0 t21_0 t22_0 t23_0 p471 (p471.1 : Int32) (p471.2 : (Nat → Int64)) ((F_Pri_addNumber (4 : Int32) (0 : Int64) (0 : Int32) t0_0 t0_1 t0_2 t0_3 t1_0 t2_0 t3_0) : (Int32 × Int32 × Int32 × Int32 × (Nat → Int32) × (Nat → Int64) × (Nat → Int32)))
def F_Pri_addText_c49_14 (t0_0 : Int32) (t0_1 : Int32) (t0_2 : Int32) (t0_3 : Int32) (t1_0 : (Nat → Int32)) (t2_0 : (Nat → Int64)) (t3_0 : (Nat → Int32)) (t4_0 : Int32) (t5_0 : (Nat → Int64)) (t6_0 : Int32) (t7_0 : (Nat → Int64)) (t8_0 : Int32) (t9_0 : (Nat → Int64)) (t10_0 : Int32) (t11_0 : (Nat → Int64)) (t12_0 : Int32) (t13_0 : (Nat → Int64)) (t14_0 : Int32) (t15_0 : (Nat → Int64)) (t16_0 : Int32) (t17_0 : (Nat → Int64)) (t18_0 : Int32) (t19_0 : (Nat → Int64)) (t20_0 : Int32) (t21_0 : (Nat → Int64)) (t22_0 : Int32) (t23_0 : (Nat → Int64)) (p546 : (Int32 × (Nat → Int64))) (y538 : Int32) (f539 : (Nat → Int64)) (p580 : (Int32 × Int32 × Int32 × Int32 × (Nat → Int32) × (Nat → Int64) × (Nat → Int32))) : Int32 × Int32 × Int32 × Int32 × (Nat → Int32) × (Nat → Int64) × (Nat → Int32) × Int32 × (Nat → Int64) × Int32 × (Nat → Int64) × Int32 × (Nat → Int64) × Int32 × (Nat → Int64) × Int32 × (Nat → Int64) × Int32 × (Nat → Int64) × Int32 × (Nat → Int64) × Int32 × (Nat → Int64) × Int32 × (Nat → Int64) := ((p580.1 : Int32), (p580.2.1 : Int32), (p580.2.2.1 : Int32), (p580.2.2.2.1 : Int32), (p580.2.2.2.2.1 : (Nat → Int32)), (p580.2.2.2.2.2.1 : (Nat → Int64)), (p580.2.2.2.2.2.2 : (Nat → Int32)), t6_0, t7_0, t8_0, t9_0, t10_0, t11_0, t12_0, t13_0, t14_0, t15_0, t16_0, t17_0, y538, f539, t20_0, t21_0, t22_0, t23_0)
def F_Pri_addText_c42_13 (t0_0 : Int32) (t0_1 : Int32) (t0_2 : Int32) (t0_3 : Int32) (t1_0 : (Nat → Int32)) (t2_0 : (Nat → Int64)) (t3_0 : (Nat → Int32)) (t4_0 : Int32) (t5_0 : (Nat → Int64)) (t6_0 : Int32) (t7_0 : (Nat → Int64)) (t8_0 : Int32) (t9_0 : (Nat → Int64)) (t10_0 : Int32) (t11_0 : (Nat → Int64)) (t12_0 : Int32) (t13_0 : (Nat → Int64)) (t14_0 : Int32) (t15_0 : (Nat → Int64)) (t16_0 : Int32) (t17_0 : (Nat → Int64)) (t18_0 : Int32) (t19_0 : (Nat → Int64)) (t20_0 : Int32) (t21_0 : (Nat → Int64)) (t22_0 : Int32) (t23_0 : (Nat → Int64)) (p546 : (Int32 × (Nat → Int64))) : Int32 × Int32 × Int32 × Int32 × (Nat → Int32) × (Nat → Int64) × (Nat → Int32) × Int32 × (Nat → Int64) × Int32 × (Nat → Int64) × Int32 × (Nat → Int64) × Int32 × (Nat → Int64) × Int32 × (Nat → Int64) × Int32 × (Nat → Int64) × Int32 × (Nat → Int64) × Int32 × (Nat → Int64) × Int32 × (Nat → Int64) := F_Pri_addText_c49_14 t0_0 t0_1 t0_2 t0_3 t1_0 t2_0 t3_0 t4_0 t5_0 t6_0 t7_0 t8_0 t9_0 t10_0 t11_0 t12_0 t13_0 t14_0 t15_0 t16_0 t17_0 t18_0 t19_0 t20_0 t21_0 t22_0 t23_0 p546 (p546.1 : Int32) (p546.2 : (Nat → Int64)) ((F_Pri_addNumber (4 : Int32) (0 : Int64) (0 : Int32) t0_0 t0_1 t0_2 t0_3 t1_0 t2_0 t3_0) : (Int32 × Int32 × Int32 × Int32 × (Nat → Int32) × (Nat → Int64) × (Nat → Int32)))
def F_Pri_addText_c49_16 (t0_0 : Int32) (t0_1 : Int32) (t0_2 : Int32) (t0_3 : Int32) (t1_0 : (Nat → Int32)) (t2_0 : (Nat → Int64)) (t3_0 : (Nat → Int32)) (t4_0 : Int32) (t5_0 : (Nat → Int64)) (t6_0 : Int32) (t7_0 : (Nat → Int64)) (t8_0 : Int32) (t9_0 : (Nat → Int64)) (t10_0 : Int32) (t11_0 : (Nat → Int64)) (t12_0 : Int32) (t13_0 : (Nat → Int64)) (t14_0 : Int32) (t15_0 : (Nat → Int64)) (t16_0 : Int32) (t17_0 : (Nat → Int64)) (t18_0 : Int32) (t19_0 : (Nat → Int64)) (t20_0 : Int32) (t21_0 : (Nat → Int64)) (t22_0 : Int32) (t23_0 : (Nat → Int64)) (p621 : (Int32 × (Nat → Int64))) (y613 : Int32) (f614 : (Nat → Int64)) (p655 : (Int32 × Int32 × Int32 × Int32 × (Nat → Int32) × (Nat → Int64) × (Nat → Int32))) : Int32 × Int32 × Int32 × Int32 × (Nat → Int32) × (Nat → Int64) × (Nat → Int32) × Int32 × (Nat → Int64) × Int32 × (Nat → Int64) × Int32 × (Nat → Int64) × Int32 × (Nat → Int64) × Int32 × (Nat → Int64) × Int32 × (Nat → Int64) × Int32 × (Nat → Int64) × Int32 × (Nat → Int64) × Int32 × (Nat → Int64) := ((p655.1 : Int32), (p655.2.1 : Int32), (p655.2.2.1 : Int32), (p655.2.2.2.1 : Int32), (p655.2.2.2.2.1 : (Nat → Int32)), (p655.2.2.2.2.2.1 : (Nat → Int64)), (p655.2.2.2.2.2.2 : (Nat → Int32)), t6_0, t7_0, t8_0, t9_0, t10_0, t11_0, t12_0, t13_0, t14_0, t15_0, t16_0, t17_0, t18_0, t19_0, y613, f614, t22_0, t23_0)
def F_Pri_addText_c42_15 (t0_0 : Int32) (t0_1 : Int32) (t0_2 : Int32) (t0_3 : Int32) (t1_0 : (Nat → Int32)) (t2_0 : (Nat → Int64)) (t3_0 : (Nat → Int32)) (t4_0 : Int32) (t5_0 : (Nat → Int64)) (t6_0 : Int32) (t7_0 : (Nat → Int64)) (t8_0 : Int32) (t9_0 : (Nat → Int64)) (t10_0 : Int32) (t11_0 : (Nat → Int64)) (t12_0 : Int32) (t13_0 : (Nat → Int64)) (t14_0 : Int32) (t15_0 : (Nat → Int64)) (t16_0 : Int32) (t17_0 : (Nat → Int64)) (t18_0 : Int32) (t19_0 : (Nat → Int64)) (t20_0 : Int32) (t21_0 : (Nat → Int64)) (t22_0 : Int32) (t23_0 : (Nat → Int64)) (p621 : (Int32 × (Nat → Int64))) : Int32 × Int32 × Int32 × Int32 × (Nat → Int32) × (Nat → Int64) × (Nat → Int32) × Int32 × (Nat → Int64) × Int32 × (Nat → Int64) × Int32 × (Nat → Int64) × Int32 × (Nat → Int64) × Int32 × (Nat → Int64) × Int32 × (Nat → Int64) × Int32 × (Nat → Int64) × Int32 × (Nat → Int64) × Int32 × (Nat → Int64) := F_Pri_addText_c49_16 t0_0 t0_1 t0_2 t0_3 t1_0 t2_0 t3_0 t4_0 t5_0 t6_0 t7_0 t8_0 t9_0 t10_0 t11_0 t12_0 t13_0 t14_0 t15_0 t16_0 t17_0 t18_0 t19_0 t20_0 t21_0 t22_0 t23_0 p621 (p621.1 : Int32) (p621.2 : (Nat → Int64)) ((F_Pri_addNumber (4 : Int32) (0 : Int64) (0 : Int32) t0_0 t0_1 t0_2 t0_3 t1_0 t2_0 t3_0) : (Int32 × Int32 × Int32 × Int32 × (Nat → Int32) × (Nat → Int64) × (Nat → Int32)))
def F_Pri_addText_c49_18 (t0_0 : Int32) (t0_1 : Int32) (t0_2 : Int32) (t0_3 : Int32) (t1_0 : (Nat → Int32)) (t2_0 : (Nat → Int64)) (t3_0 : (Nat → Int32)) (t4_0 : Int32) (t5_0 : (Nat → Int64)) (t6_0 : Int32) (t7_0 : (Nat → Int64)) (t8_0 : Int32) (t9_0 : (Nat → Int64)) (t10_0 : Int32) (t11_0 : (Nat → Int64)) (t12_0 : Int32) (t13_0 : (Nat → Int64)) (t14_0 : Int32) (t15_0 : (Nat → Int64)) (t16_0 : Int32) (t17_0 : (Nat → Int64)) (t18_0 : Int32) (t19_0 : (Nat → Int64)) (t20_0 : Int32) (t21_0 : (Nat → Int64)) (t22_0 : Int32) (t23_0 : (Nat → Int64)) (p696 : (Int32 × (Nat → Int64))) (y688 : Int32) (f689 : (Nat → Int64)) (p730 : (Int32 × Int32 × Int32 × Int32 × (Nat → Int32) × (Nat → Int64) × (Nat → Int32))) : Int32 × Int32 × Int32 × Int32 × (Nat → Int32) × (Nat → Int64) × (Nat → Int32) × Int32 × (Nat → Int64) × Int32 × (Nat → Int64) × Int32 × (Nat → Int64) × Int32 × (Nat → Int64) × Int32 × (Nat → Int64) × Int32 × (Nat → Int64) × Int32 × (Nat → Int64) × Int32 × (Nat → Int64) × Int32 × (Nat → Int64) := ((p730.1 : Int32), (p730.2.1 : Int32), (p730.2.2.1 : Int32), (p730.2.2.2.1 : Int32), (p730.2.2.2.2.1 : (Nat → Int32)), (p730.2.2.2.2.2.1 : (Nat → Int64)), (p730.2.2.2.2.2.2 : (Nat → Int32)), t6_0, t7_0, t8_0, t9_0, t10_0, t11_0, t12_0, t13_0, t14_0, t15_0, t16_0, t17_0, t18_0, t19_0, t20_0, t21_0, y688, f689)
def F_Pri_addText_c42_17 (t0_0 : Int32) (t0_1 : Int32) (t0_2 : Int32) (t0_3 : Int32) (t1_0 : (Nat → Int32)) (t2_0 : (Nat → Int64)) (t3_0 : (Nat → Int32)) (t4_0 : Int32) (t5_0 : (Nat → Int64)) (t6_0 : Int32) (t7_0 : (Nat → Int64)) (t8_0 : Int32) (t9_0 : (Nat → Int64)) (t10_0 : Int32) (t11_0 : (Nat → Int64)) (t12_0 : Int32) (t13_0 : (Nat → Int64)) (t14_0 : Int32) (t15_0 : (Nat → Int64)) (t16_0 : Int32) (t17_0 : (Nat → Int64)) (t18_0 : Int32) (t19_0 : (Nat → Int64)) (t20_0 : Int32) (t21_0 : (Nat → Int64)) (t22_0 : Int32) (t23_0 : (Nat → Int64)) (p696 : (Int32 × (Nat → Int64))) : Int32 × Int32 × Int32 × Int32 × (Nat → Int32) × (Nat → Int64) × (Nat → Int32) × Int32 × (Nat → Int64) × Int32 × (Nat → Int64) × Int32 × (Nat → Int64) × Int32 × (Nat → Int64) × Int32 × (Nat → Int64) × Int32 × (Nat → Int64) × Int32 × (Nat → Int64) × Int32 × (Nat → Int64) × Int32 × (Nat → Int64) := F_Pri_addText_c49_18 t0_0 t0_1 t0_2 t0_3 t1_0 t2_0 t3_0 t4_0 t5_0 t6_0 t7_0 t8_0 t9_0 t10_0 t11_0 t12_0 t13_0 t14_0 t15_0 t16_0 t17_0 t18_0 t19_0 t20_0 t21_0 t22_0 t23_0 p696 (p696.1 : Int32) (p696.2 : (Nat → Int64)) ((F_Pri_addNumber (4 : Int32) (0 : Int64) (0 : Int32) t0_0 t0_1 t0_2 t0_3 t1_0 t2_0 t3_0) : (Int32 × Int32 × Int32 × Int32 × (Nat → Int32) × (Nat → Int64) × (Nat → Int32)))
def F_Pri_addText (t0_0 : Int32) (t0_1 : Int32) (t0_2 : Int32) (t0_3 : Int32) (t1_0 : (Nat → Int32)) (t2_0 : (Nat → Int64)) (t3_0 : (Nat → Int32)) (t4_0 : Int32) (t5_0 : (Nat → Int64)) (t6_0 : Int32) (t7_0 : (Nat → Int64)) (t8_0 : Int32) (t9_0 : (Nat → Int64)) (t10_0 : Int32) (t11_0 : (Nat → Int64)) (t12_0 : Int32) (t13_0 : (Nat → Int64)) (t14_0 : Int32) (t15_0 : (Nat → Int64)) (t16_0 : Int32) (t17_0 : (Nat → Int64)) (t18_0 : Int32) (t19_0 : (Nat → Int64)) (t20_0 : Int32) (t21_0 : (Nat → Int64)) (t22_0 : Int32) (t23_0 : (Nat → Int64)) : Int32 × Int32 × Int32 × Int32 × (Nat → Int32) × (Nat → Int64) × (Nat → Int32) × Int32 × (Nat → Int64) × Int32 × (Nat → Int64) × Int32 × (Nat → Int64) × Int32 × (Nat → Int64) × Int32 × (Nat → Int64) × Int32 × (Nat → Int64) × Int32 × (Nat → Int64) × Int32 × (Nat → Int64) × Int32 × (Nat → Int64) := if (9 : Int32) ≤ t0_0 then ((t0_0, t0_1, t0_2, t0_3, t1_0, t2_0, t3_0, t6_0, t7_0, t8_0, t9_0, t10_0, t11_0, t12_0, t13_0, t14_0, t15_0, t16_0, t17_0, t18_0, t19_0, t20_0, t21_0, t22_0, t23_0)) else (if t0_0 = (0 : Int32) then (F_Pri_addText_c42 t0_0 t0_1 t0_2 t0_3 t1_0 t2_0 t3_0 t4_0 t5_0 t6_0 t7_0 t8_0 t9_0 t10_0 t11_0 t12_0 t13_0 t14_0 t15_0 t16_0 t17_0 t18_0 t19_0 t20_0 t21_0 t22_0 t23_0 ((F_Pri_copyInto (64 : Int32) (8 : Int32) (64 : Int32) (4100 : Int32) (513 : Int32) (4100 : Int32) (0 : Int32) t4_0 ((F_She_clear (64 : Int32) (8 : Int32) (64 : Int32) t6_0) : Int32) t7_0 t4_0 t5_0) : (Int32 × (Nat → Int64)))) else (if t0_0 = (1 : Int32) then (F_Pri_addText_c42_3 t0_0 t0_1 t0_2 t0_3 t1_0 t2_0 t3_0 t4_0 t5_0 t6_0 t7_0 t8_0 t9_0 t10_0 t11_0 t12_0 t13_0 t14_0 t15_0 t16_0 t17_0 t18_0 t19_0 t20_0 t21_0 t22_0 t23_0 ((F_Pri_copyInto (64 : Int32) (8 : Int32) (64 : Int32) (4100 : Int32) (513 : Int32) (4100 : Int32) (0 : Int32) t4_0 ((F_She_clear (64 : Int32) (8 : Int32) (64 : Int32) t8_0) : Int32) t9_0 t4_0 t5_0) : (Int32 × (Nat → Int64)))) else (if t0_0 = (2 : Int32) then (F_Pri_addText_c42_5 t0_0 t0_1 t0_2 t0_3 t1_0 t2_0 t3_0 t4_0 t5_0 t6_0 t7_0 t8_0 t9_0 t10_0 t11_0 t12_0 t13_0 t14_0 t15_0 t16_0 t17_0 t18_0 t19_0 t20_0 t21_0 t22_0 t23_0 ((F_Pri_copyInto (64 : Int32) (8 : Int32) (64 : Int32) (4100 : Int32) (513 : Int32) (4100 : Int32) (0 : Int32) t4_0 ((F_She_clear (64 : Int32) (8 : Int32) (64 : Int32) t10_0) : Int32) t11_0 t4_0 t5_0) : (Int32 × (Nat → Int64)))) else (if t0_0 = (3 : Int32) then (F_Pri_addText_c42_7 t0_0 t0_1 t0_2 t0_3 t1_0 t2_0 t3_0 t4_0 t5_0 t6_0 t7_0 t8_0 t9_0 t10_0 t11_0 t12_0 t13_0 t14_0 t15_0 t16_0 t17_0 t18_0 t19_0 t20_0 t21_0 t22_0 t23_0 ((F_Pri_copyInto (64 : Int32) (8 : Int32) (64 : Int32) (4100 : Int32) (513 : Int32) (4100 : Int32) (0 : Int32) t4_0 ((F_She_clear (64 : Int32) (8 : Int32) (64 : Int32) t12_0) : Int32) t13_0 t4_0 t5_0) : (Int32 × (Nat → Int64)))) else (if t0_0 = (4 : Int32) then (F_Pri_addText_c42_9 t0_0 t0_1 t0_2 t0_3 t1_0 t2_0 t3_0 t4_0 t5_0 t6_0 t7_0 t8_0 t9_0 t10_0 t11_0 t12_0 t13_0 t14_0 t15_0 t16_0 t17_0 t18_0 t19_0 t20_0 t21_0 t22_0 t23_0 ((F_Pri_copyInto (64 : Int32) (8 : Int32) (64 : Int32) (4100 : Int32) (513 : Int32) (4100 : Int32) (0 : Int32) t4_0 ((F_She_clear (64 : Int32) (8 : Int32) (64 : Int32) t14_0) : Int32) t15_0 t4_0 t5_0) : (Int32 × (Nat → Int64)))) else (if t0_0 = (5 : Int32) then (F_Pri_addText_c42_11 t0_0 t0_1 t0_2 t0_3 t1_0 t2_0 t3_0 t4_0 t5_0 t6_0 t7_0 t8_0 t9_0 t10_0 t11_0 t12_0 t13_0 t14_0 t15_0 t16_0 t17_0 t18_0 t19_0 t20_0 t21_0 t22_0 t23_0 ((F_Pri_copyInto (64 : Int32) (8 : Int32) (64 : Int32) (4100 : Int32) (513 : Int32) (4100 : Int32) (0 : Int32) t4_0 ((F_She_clear (64 : Int32) (8 : Int32) (64 : Int32) t16_0) : Int32) t17_0 t4_0 t5_0) : (Int32 × (Nat → Int64)))) else (if t0_0 = (6 : Int32) then (F_Pri_addText_c42_13 t0_0 t0_1 t0_2 t0_3 t1_0 t2_0 t3_0 t4_0 t5_0 t6_0 t7_0 t8_0 t9_0 t10_0 t11_0 t12_0 t13_0 t14_0 t15_0 t16_0 t17_0 t18_0 t19_0 t20_0 t21_0 t22_0 t23_0 ((F_Pri_copyInto (64 : Int32) (8 : Int32) (64 : Int32) (4100 : Int32) (513 : Int32) (4100 : Int32) (0 : Int32) t4_0 ((F_She_clear (64 : Int32) (8 : Int32) (64 : Int32) t18_0) : Int32) t19_0 t4_0 t5_0) : (Int32 × (Nat → Int64)))) else (if t0_0 = (7 : Int32) then (F_Pri_addText_c42_15 t0_0 t0_1 t0_2 t0_3 t1_0 t2_0 t3_0 t4_0 t5_0 t6_0 t7_0 t8_0 t9_0 t10_0 t11_0 t12_0 t13_0 t14_0 t15_0 t16_0 t17_0 t18_0 t19_0 t20_0 t21_0 t22_0 t23_0 ((F_Pri_copyInto (64 : Int32) (8 : Int32) (64 : Int32) (4100 : Int32) (513 : Int32) (4100 : Int32) (0 : Int32) t4_0 ((F_She_clear (64 : Int32) (8 : Int32) (64 : Int32) t20_0) : Int32) t21_0 t4_0 t5_0) : (Int32 × (Nat → Int64)))) else (F_Pri_addText_c42_17 t0_0 t0_1 t0_2 t0_3 t1_0 t2_0 t3_0 t4_0 t5_0 t6_0 t7_0 t8_0 t9_0 t10_0 t11_0 t12_0 t13_0 t14_0 t15_0 t16_0 t17_0 t18_0 t19_0 t20_0 t21_0 t22_0 t23_0 ((F_Pri_copyInto (64 : Int32) (8 : Int32) (64 : Int32) (4100 : Int32) (513 : Int32) (4100 : Int32) (0 : Int32) t4_0 ((F_She_clear (64 : Int32) (8 : Int32) (64 : Int32) t22_0) : Int32) t23_0 t4_0 t5_0) : (Int32 × (Nat → Int64))))))))))))
set_option maxRecDepth 100000 in
set_option maxHeartbeats 4000000 in
theorem X_Pri_addText (l : Launch) (D : va_G) (g : Nat → ClassId) (q : Nat → Nat) (ws : va_W) (hI : q_I (nsh g q) q ws) (t0_0 : Int32) (t0_1 : Int32) (t0_2 : Int32) (t0_3 : Int32) (hT0 : ws[40]? = (some (q 40, .inr (11, [.int t0_0, .ref (q 41), .ref (q 42), .ref (q 43), .ref (q 44), .ref (q 1), .ref (q 47), .ref (q 36), .ref (q 45), .int t0_1, .int t0_2, .int t0_3])) : Option (Nat × va_E))) (t1_0 : (Nat → Int32)) (hT1 : ws[41]? = (some (q 41, .inl (g 0, 9, .inl t1_0)) : Option (Nat × va_E))) (t2_0 : (Nat → Int64)) (hT2 : ws[42]? = (some (q 42, .inl (g 1, 9, .inr (.inl t2_0))) : Option (Nat × va_E))) (t3_0 : (Nat → Int32)) (hT3 : ws[43]? = (some (q 43, .inl (g 0, 9, .inl t3_0)) : Option (Nat × va_E))) (t4_0 : Int32) (hT4 : ws[1]? = (some (q 1, .inr (1, [.ref (q 2), .int 4100, .int t4_0])) : Option (Nat × va_E))) (t5_0 : (Nat → Int64)) (hT5 : ws[2]? = (some (q 2, .inl (g 1, (513 : Int32).toNatClampNeg, .inr (.inl t5_0))) : Option (Nat × va_E))) (t6_0 : Int32) (hT6 : ws[48]? = (some (q 48, .inr (1, [.ref (q 49), .int 64, .int t6_0])) : Option (Nat × va_E))) (t7_0 : (Nat → Int64)) (hT7 : ws[49]? = (some (q 49, .inl (g 1, (8 : Int32).toNatClampNeg, .inr (.inl t7_0))) : Option (Nat × va_E))) (t8_0 : Int32) (hT8 : ws[50]? = (some (q 50, .inr (1, [.ref (q 51), .int 64, .int t8_0])) : Option (Nat × va_E))) (t9_0 : (Nat → Int64)) (hT9 : ws[51]? = (some (q 51, .inl (g 1, (8 : Int32).toNatClampNeg, .inr (.inl t9_0))) : Option (Nat × va_E))) (t10_0 : Int32) (hT10 : ws[52]? = (some (q 52, .inr (1, [.ref (q 53), .int 64, .int t10_0])) : Option (Nat × va_E))) (t11_0 : (Nat → Int64)) (hT11 : ws[53]? = (some (q 53, .inl (g 1, (8 : Int32).toNatClampNeg, .inr (.inl t11_0))) : Option (Nat × va_E))) (t12_0 : Int32) (hT12 : ws[54]? = (some (q 54, .inr (1, [.ref (q 55), .int 64, .int t12_0])) : Option (Nat × va_E))) (t13_0 : (Nat → Int64)) (hT13 : ws[55]? = (some (q 55, .inl (g 1, (8 : Int32).toNatClampNeg, .inr (.inl t13_0))) : Option (Nat × va_E))) (t14_0 : Int32) (hT14 : ws[56]? = (some (q 56, .inr (1, [.ref (q 57), .int 64, .int t14_0])) : Option (Nat × va_E))) (t15_0 : (Nat → Int64)) (hT15 : ws[57]? = (some (q 57, .inl (g 1, (8 : Int32).toNatClampNeg, .inr (.inl t15_0))) : Option (Nat × va_E))) (t16_0 : Int32) (hT16 : ws[58]? = (some (q 58, .inr (1, [.ref (q 59), .int 64, .int t16_0])) : Option (Nat × va_E))) (t17_0 : (Nat → Int64)) (hT17 : ws[59]? = (some (q 59, .inl (g 1, (8 : Int32).toNatClampNeg, .inr (.inl t17_0))) : Option (Nat × va_E))) (t18_0 : Int32) (hT18 : ws[60]? = (some (q 60, .inr (1, [.ref (q 61), .int 64, .int t18_0])) : Option (Nat × va_E))) (t19_0 : (Nat → Int64)) (hT19 : ws[61]? = (some (q 61, .inl (g 1, (8 : Int32).toNatClampNeg, .inr (.inl t19_0))) : Option (Nat × va_E))) (t20_0 : Int32) (hT20 : ws[62]? = (some (q 62, .inr (1, [.ref (q 63), .int 64, .int t20_0])) : Option (Nat × va_E))) (t21_0 : (Nat → Int64)) (hT21 : ws[63]? = (some (q 63, .inl (g 1, (8 : Int32).toNatClampNeg, .inr (.inl t21_0))) : Option (Nat × va_E))) (t22_0 : Int32) (hT22 : ws[64]? = (some (q 64, .inr (1, [.ref (q 65), .int 64, .int t22_0])) : Option (Nat × va_E))) (t23_0 : (Nat → Int64)) (hT23 : ws[65]? = (some (q 65, .inl (g 1, (8 : Int32).toNatClampNeg, .inr (.inl t23_0))) : Option (Nat × va_E))) (pre0 : t4_0.toInt ≤ 64) : q_mV l y_Pri_addText prog_9_method_4_code 1 3 0 0 D g [.ref (q 40)] ws (fun u => q_I (nsh g q) q u ∧ q_un ws u [40, 41, 42, 43, 48, 49, 50, 51, 52, 53, 54, 55, 56, 57, 58, 59, 60, 61, 62, 63, 64, 65] ∧ ∃ (u0_0 : Int32) (u0_1 : Int32) (u0_2 : Int32) (u0_3 : Int32) (u1_0 : (Nat → Int32)) (u2_0 : (Nat → Int64)) (u3_0 : (Nat → Int32)) (u6_0 : Int32) (u7_0 : (Nat → Int64)) (u8_0 : Int32) (u9_0 : (Nat → Int64)) (u10_0 : Int32) (u11_0 : (Nat → Int64)) (u12_0 : Int32) (u13_0 : (Nat → Int64)) (u14_0 : Int32) (u15_0 : (Nat → Int64)) (u16_0 : Int32) (u17_0 : (Nat → Int64)) (u18_0 : Int32) (u19_0 : (Nat → Int64)) (u20_0 : Int32) (u21_0 : (Nat → Int64)) (u22_0 : Int32) (u23_0 : (Nat → Int64)), u[40]? = (some (q 40, .inr (11, [.int u0_0, .ref (q 41), .ref (q 42), .ref (q 43), .ref (q 44), .ref (q 1), .ref (q 47), .ref (q 36), .ref (q 45), .int u0_1, .int u0_2, .int u0_3])) : Option (Nat × va_E)) ∧ u[41]? = (some (q 41, .inl (g 0, 9, .inl u1_0)) : Option (Nat × va_E)) ∧ u[42]? = (some (q 42, .inl (g 1, 9, .inr (.inl u2_0))) : Option (Nat × va_E)) ∧ u[43]? = (some (q 43, .inl (g 0, 9, .inl u3_0)) : Option (Nat × va_E)) ∧ u[48]? = (some (q 48, .inr (1, [.ref (q 49), .int 64, .int u6_0])) : Option (Nat × va_E)) ∧ u[49]? = (some (q 49, .inl (g 1, (8 : Int32).toNatClampNeg, .inr (.inl u7_0))) : Option (Nat × va_E)) ∧ u[50]? = (some (q 50, .inr (1, [.ref (q 51), .int 64, .int u8_0])) : Option (Nat × va_E)) ∧ u[51]? = (some (q 51, .inl (g 1, (8 : Int32).toNatClampNeg, .inr (.inl u9_0))) : Option (Nat × va_E)) ∧ u[52]? = (some (q 52, .inr (1, [.ref (q 53), .int 64, .int u10_0])) : Option (Nat × va_E)) ∧ u[53]? = (some (q 53, .inl (g 1, (8 : Int32).toNatClampNeg, .inr (.inl u11_0))) : Option (Nat × va_E)) ∧ u[54]? = (some (q 54, .inr (1, [.ref (q 55), .int 64, .int u12_0])) : Option (Nat × va_E)) ∧ u[55]? = (some (q 55, .inl (g 1, (8 : Int32).toNatClampNeg, .inr (.inl u13_0))) : Option (Nat × va_E)) ∧ u[56]? = (some (q 56, .inr (1, [.ref (q 57), .int 64, .int u14_0])) : Option (Nat × va_E)) ∧ u[57]? = (some (q 57, .inl (g 1, (8 : Int32).toNatClampNeg, .inr (.inl u15_0))) : Option (Nat × va_E)) ∧ u[58]? = (some (q 58, .inr (1, [.ref (q 59), .int 64, .int u16_0])) : Option (Nat × va_E)) ∧ u[59]? = (some (q 59, .inl (g 1, (8 : Int32).toNatClampNeg, .inr (.inl u17_0))) : Option (Nat × va_E)) ∧ u[60]? = (some (q 60, .inr (1, [.ref (q 61), .int 64, .int u18_0])) : Option (Nat × va_E)) ∧ u[61]? = (some (q 61, .inl (g 1, (8 : Int32).toNatClampNeg, .inr (.inl u19_0))) : Option (Nat × va_E)) ∧ u[62]? = (some (q 62, .inr (1, [.ref (q 63), .int 64, .int u20_0])) : Option (Nat × va_E)) ∧ u[63]? = (some (q 63, .inl (g 1, (8 : Int32).toNatClampNeg, .inr (.inl u21_0))) : Option (Nat × va_E)) ∧ u[64]? = (some (q 64, .inr (1, [.ref (q 65), .int 64, .int u22_0])) : Option (Nat × va_E)) ∧ u[65]? = (some (q 65, .inl (g 1, (8 : Int32).toNatClampNeg, .inr (.inl u23_0))) : Option (Nat × va_E)) ∧ (1 ≤ u0_0.toInt) ∧ (u0_0.toInt ≤ 9) ∧ (0 ≤ u0_1.toInt + 1) ∧ (u0_1.toInt ≤ 1000000) ∧ (0 ≤ u0_3.toInt + 1) ∧ (u0_3.toInt ≤ 8) ∧ (0 ≤ u6_0.toInt) ∧ (u6_0.toInt ≤ 64) ∧ (0 ≤ u8_0.toInt) ∧ (u8_0.toInt ≤ 64) ∧ (0 ≤ u10_0.toInt) ∧ (u10_0.toInt ≤ 64) ∧ (0 ≤ u12_0.toInt) ∧ (u12_0.toInt ≤ 64) ∧ (0 ≤ u14_0.toInt) ∧ (u14_0.toInt ≤ 64) ∧ (0 ≤ u16_0.toInt) ∧ (u16_0.toInt ≤ 64) ∧ (0 ≤ u18_0.toInt) ∧ (u18_0.toInt ≤ 64) ∧ (0 ≤ u20_0.toInt) ∧ (u20_0.toInt ≤ 64) ∧ (0 ≤ u22_0.toInt) ∧ (u22_0.toInt ≤ 64) ∧ (t0_0.toInt ≤ u0_0.toInt) ∧ (u0_0.toInt ≤ t0_0.toInt + 1) ∧ (t0_1.toInt ≤ u0_1.toInt) ∧ (u0_1.toInt ≤ t0_1.toInt) ∧ (t0_2.toInt ≤ u0_2.toInt) ∧ (u0_2.toInt ≤ t0_2.toInt) ∧ (t0_3.toInt ≤ u0_3.toInt) ∧ (u0_3.toInt ≤ t0_3.toInt) ∧ (u0_0, u0_1, u0_2, u0_3, u1_0, u2_0, u3_0, u6_0, u7_0, u8_0, u9_0, u10_0, u11_0, u12_0, u13_0, u14_0, u15_0, u16_0, u17_0, u18_0, u19_0, u20_0, u21_0, u22_0, u23_0) = (F_Pri_addText t0_0 t0_1 t0_2 t0_3 t1_0 t2_0 t3_0 t4_0 t5_0 t6_0 t7_0 t8_0 t9_0 t10_0 t11_0 t12_0 t13_0 t14_0 t15_0 t16_0 t17_0 t18_0 t19_0 t20_0 t21_0 t22_0 t23_0)) := by
  intro sz
  refine q_into (by decide) (Nat.le_of_ble_eq_true rfl) ?_
  intro p e s m below meth c ls hsz C0 V hl
  have hx := C0.1
  have hb := C0.2.1
  obtain ⟨btt0_0, hZ9⟩ := n_w40 hI hT0
  obtain ⟨btt0_1, btt0_3⟩ := hZ9
  replace btt0_0 : q_F (0 ≤ t0_0.toInt ∧ t0_0.toInt ≤ 9) := btt0_0
  replace btt0_1 : q_F (-1 ≤ t0_1.toInt ∧ t0_1.toInt ≤ 1000000) := btt0_1
  replace btt0_3 : q_F (-1 ≤ t0_3.toInt ∧ t0_3.toInt ≤ 8) := btt0_3
  have btt4_0 := n_shW hI (n_h1 g q) hT4
  replace btt4_0 : q_F (0 ≤ t4_0.toInt ∧ t4_0.toInt ≤ 4100) := btt4_0
  have btt6_0 := n_shW hI (n_h48 g q) hT6
  replace btt6_0 : q_F (0 ≤ t6_0.toInt ∧ t6_0.toInt ≤ 64) := btt6_0
  have btt8_0 := n_shW hI (n_h50 g q) hT8
  replace btt8_0 : q_F (0 ≤ t8_0.toInt ∧ t8_0.toInt ≤ 64) := btt8_0
  have btt10_0 := n_shW hI (n_h52 g q) hT10
  replace btt10_0 : q_F (0 ≤ t10_0.toInt ∧ t10_0.toInt ≤ 64) := btt10_0
  have btt12_0 := n_shW hI (n_h54 g q) hT12
  replace btt12_0 : q_F (0 ≤ t12_0.toInt ∧ t12_0.toInt ≤ 64) := btt12_0
  have btt14_0 := n_shW hI (n_h56 g q) hT14
  replace btt14_0 : q_F (0 ≤ t14_0.toInt ∧ t14_0.toInt ≤ 64) := btt14_0
  have btt16_0 := n_shW hI (n_h58 g q) hT16
  replace btt16_0 : q_F (0 ≤ t16_0.toInt ∧ t16_0.toInt ≤ 64) := btt16_0
  have btt18_0 := n_shW hI (n_h60 g q) hT18
  replace btt18_0 : q_F (0 ≤ t18_0.toInt ∧ t18_0.toInt ≤ 64) := btt18_0
  have btt20_0 := n_shW hI (n_h62 g q) hT20
  replace btt20_0 : q_F (0 ≤ t20_0.toInt ∧ t20_0.toInt ≤ 64) := btt20_0
  have btt22_0 := n_shW hI (n_h64 g q) hT22
  replace btt22_0 : q_F (0 ≤ t22_0.toInt ∧ t22_0.toInt ≤ 64) := btt22_0
  replace pre0 : q_F (t4_0.toInt ≤ 64) := pre0
  have hF : q_un ws ws [40, 41, 42, 43, 48, 49, 50, 51, 52, 53, 54, 55, 56, 57, 58, 59, 60, 61, 62, 63, 64, 65] := q_u0
  have hl : lv_has ls 1 [(0, .ref (q 40))] := hl
  refine lv_aload_n hx hb d_9_4_0 rfl (lv_at hl 0 rfl) ?_
  refine q_get (ci := 11) (j := 0) (v := .int t0_0) C0 V i_Pri rfl rfl hT0 (by decide) w_384 rfl d_9_4_1 ?_
  refine lv_bipush (v := 9) hx hb d_9_4_4 (by decide) ?_
  refine lv_icmp_ge (tgt := 52) hx hb d_9_4_6 (by decide) (fun c67 => ?_) (fun c67 => ?_)
  ·
    have b68 : q_F (9 ≤ t0_0.toInt) := (q_leI c67)
    exact q_retv C0 V (⟨hI, hF, t0_0, t0_1, t0_2, t0_3, t1_0, t2_0, t3_0, t6_0, t7_0, t8_0, t9_0, t10_0, t11_0, t12_0, t13_0, t14_0, t15_0, t16_0, t17_0, t18_0, t19_0, t20_0, t21_0, t22_0, t23_0, hT0, hT1, hT2, hT3, hT6, hT7, hT8, hT9, hT10, hT11, hT12, hT13, hT14, hT15, hT16, hT17, hT18, hT19, hT20, hT21, hT22, hT23, (show 1 ≤ t0_0.toInt from (by first | with_reducible exact q_fe b68 | (have t1 : 9 ≤ t0_0.toInt := b68; omega))), (show t0_0.toInt ≤ 9 from (by first | with_reducible exact (q_fe btt0_0).2 | with_reducible exact (q_fe btt0_0).1 | (have t1 : 0 ≤ t0_0.toInt ∧ t0_0.toInt ≤ 9 := btt0_0; omega))), (show 0 ≤ t0_1.toInt + 1 from (by first | with_reducible exact (q_fe btt0_1).2 | with_reducible exact (q_fe btt0_1).1 | (have t1 : -1 ≤ t0_1.toInt ∧ t0_1.toInt ≤ 1000000 := btt0_1; omega))), (show t0_1.toInt ≤ 1000000 from (by first | with_reducible exact (q_fe btt0_1).2 | with_reducible exact (q_fe btt0_1).1 | (have t1 : -1 ≤ t0_1.toInt ∧ t0_1.toInt ≤ 1000000 := btt0_1; omega))), (show 0 ≤ t0_3.toInt + 1 from (by first | with_reducible exact (q_fe btt0_3).2 | with_reducible exact (q_fe btt0_3).1 | (have t1 : -1 ≤ t0_3.toInt ∧ t0_3.toInt ≤ 8 := btt0_3; omega))), (show t0_3.toInt ≤ 8 from (by first | with_reducible exact (q_fe btt0_3).2 | with_reducible exact (q_fe btt0_3).1 | (have t1 : -1 ≤ t0_3.toInt ∧ t0_3.toInt ≤ 8 := btt0_3; omega))), (show 0 ≤ t6_0.toInt from (by first | with_reducible exact (q_fe btt6_0).2 | with_reducible exact (q_fe btt6_0).1 | (have t1 : 0 ≤ t6_0.toInt ∧ t6_0.toInt ≤ 64 := btt6_0; omega))), (show t6_0.toInt ≤ 64 from (by first | with_reducible exact (q_fe btt6_0).2 | with_reducible exact (q_fe btt6_0).1 | (have t1 : 0 ≤ t6_0.toInt ∧ t6_0.toInt ≤ 64 := btt6_0; omega))), (show 0 ≤ t8_0.toInt from (by first | with_reducible exact (q_fe btt8_0).2 | with_reducible exact (q_fe btt8_0).1 | (have t1 : 0 ≤ t8_0.toInt ∧ t8_0.toInt ≤ 64 := btt8_0; omega))), (show t8_0.toInt ≤ 64 from (by first | with_reducible exact (q_fe btt8_0).2 | with_reducible exact (q_fe btt8_0).1 | (have t1 : 0 ≤ t8_0.toInt ∧ t8_0.toInt ≤ 64 := btt8_0; omega))), (show 0 ≤ t10_0.toInt from (by first | with_reducible exact (q_fe btt10_0).2 | with_reducible exact (q_fe btt10_0).1 | (have t1 : 0 ≤ t10_0.toInt ∧ t10_0.toInt ≤ 64 := btt10_0; omega))), (show t10_0.toInt ≤ 64 from (by first | with_reducible exact (q_fe btt10_0).2 | with_reducible exact (q_fe btt10_0).1 | (have t1 : 0 ≤ t10_0.toInt ∧ t10_0.toInt ≤ 64 := btt10_0; omega))), (show 0 ≤ t12_0.toInt from (by first | with_reducible exact (q_fe btt12_0).2 | with_reducible exact (q_fe btt12_0).1 | (have t1 : 0 ≤ t12_0.toInt ∧ t12_0.toInt ≤ 64 := btt12_0; omega))), (show t12_0.toInt ≤ 64 from (by first | with_reducible exact (q_fe btt12_0).2 | with_reducible exact (q_fe btt12_0).1 | (have t1 : 0 ≤ t12_0.toInt ∧ t12_0.toInt ≤ 64 := btt12_0; omega))), (show 0 ≤ t14_0.toInt from (by first | with_reducible exact (q_fe btt14_0).2 | with_reducible exact (q_fe btt14_0).1 | (have t1 : 0 ≤ t14_0.toInt ∧ t14_0.toInt ≤ 64 := btt14_0; omega))), (show t14_0.toInt ≤ 64 from (by first | with_reducible exact (q_fe btt14_0).2 | with_reducible exact (q_fe btt14_0).1 | (have t1 : 0 ≤ t14_0.toInt ∧ t14_0.toInt ≤ 64 := btt14_0; omega))), (show 0 ≤ t16_0.toInt from (by first | with_reducible exact (q_fe btt16_0).2 | with_reducible exact (q_fe btt16_0).1 | (have t1 : 0 ≤ t16_0.toInt ∧ t16_0.toInt ≤ 64 := btt16_0; omega))), (show t16_0.toInt ≤ 64 from (by first | with_reducible exact (q_fe btt16_0).2 | with_reducible exact (q_fe btt16_0).1 | (have t1 : 0 ≤ t16_0.toInt ∧ t16_0.toInt ≤ 64 := btt16_0; omega))), (show 0 ≤ t18_0.toInt from (by first | with_reducible exact (q_fe btt18_0).2 | with_reducible exact (q_fe btt18_0).1 | (have t1 : 0 ≤ t18_0.toInt ∧ t18_0.toInt ≤ 64 := btt18_0; omega))), (show t18_0.toInt ≤ 64 from (by first | with_reducible exact (q_fe btt18_0).2 | with_reducible exact (q_fe btt18_0).1 | (have t1 : 0 ≤ t18_0.toInt ∧ t18_0.toInt ≤ 64 := btt18_0; omega))), (show 0 ≤ t20_0.toInt from (by first | with_reducible exact (q_fe btt20_0).2 | with_reducible exact (q_fe btt20_0).1 | (have t1 : 0 ≤ t20_0.toInt ∧ t20_0.toInt ≤ 64 := btt20_0; omega))), (show t20_0.toInt ≤ 64 from (by first | with_reducible exact (q_fe btt20_0).2 | with_reducible exact (q_fe btt20_0).1 | (have t1 : 0 ≤ t20_0.toInt ∧ t20_0.toInt ≤ 64 := btt20_0; omega))), (show 0 ≤ t22_0.toInt from (by first | with_reducible exact (q_fe btt22_0).2 | with_reducible exact (q_fe btt22_0).1 | (have t1 : 0 ≤ t22_0.toInt ∧ t22_0.toInt ≤ 64 := btt22_0; omega))), (show t22_0.toInt ≤ 64 from (by first | with_reducible exact (q_fe btt22_0).2 | with_reducible exact (q_fe btt22_0).1 | (have t1 : 0 ≤ t22_0.toInt ∧ t22_0.toInt ≤ 64 := btt22_0; omega))), (show t0_0.toInt ≤ t0_0.toInt from (by omega)), (show t0_0.toInt ≤ t0_0.toInt + 1 from (by omega)), (show t0_1.toInt ≤ t0_1.toInt from (by omega)), (show t0_1.toInt ≤ t0_1.toInt from (by omega)), (show t0_2.toInt ≤ t0_2.toInt from (by omega)), (show t0_2.toInt ≤ t0_2.toInt from (by omega)), (show t0_3.toInt ≤ t0_3.toInt from (by omega)), (show t0_3.toInt ≤ t0_3.toInt from (by omega)), (show (t0_0, t0_1, t0_2, t0_3, t1_0, t2_0, t3_0, t6_0, t7_0, t8_0, t9_0, t10_0, t11_0, t12_0, t13_0, t14_0, t15_0, t16_0, t17_0, t18_0, t19_0, t20_0, t21_0, t22_0, t23_0) = (F_Pri_addText t0_0 t0_1 t0_2 t0_3 t1_0 t2_0 t3_0 t4_0 t5_0 t6_0 t7_0 t8_0 t9_0 t10_0 t11_0 t12_0 t13_0 t14_0 t15_0 t16_0 t17_0 t18_0 t19_0 t20_0 t21_0 t22_0 t23_0) from (by rw [F_Pri_addText.eq_1, if_pos c67]))⟩) d_9_4_52
  ·
    have b69 : q_F (t0_0.toInt < 9) := (q_nleI c67)
    refine lv_aload_n hx hb d_9_4_9 rfl (lv_at hl 0 rfl) ?_
    refine q_get (ci := 11) (j := 4) (v := .ref (q 44)) C0 V i_Pri rfl rfl hT0 (by decide) w_389 rfl d_9_4_10 ?_
    refine lv_aload_n hx hb d_9_4_13 rfl (lv_at hl 0 rfl) ?_
    refine q_get (ci := 11) (j := 0) (v := .int t0_0) C0 V i_Pri rfl rfl hT0 (by decide) w_384 rfl d_9_4_14 ?_
    by_cases c70 : t0_0 = 0
    ·
      have b71 : q_F (t0_0.toInt = 0) := (q_eqI c70)
      refine q_ti (v := 0) c70 ?_
      have hX72 := n_fx hI (n_s44 g q)
      refine q_aald (t := 6) (q := q 48) C0 V hX72 rfl (q_ix (x := 0) (by decide) (by omega) (by omega)) (show n_ft q ((0 : Int32).toNatClampNeg) = _ from n_ftv (j := 0) (by decide)) d_9_4_17 ?_
      refine q_gov V (q_runV (As := []) (rest := []) (d := 1) (mc := 0) (ms := 0) (ci := 1) C0 V rfl LV_Pri_70 (X_She_clear l D g q ws 48 64 8 64 (n_h48 g q)  hI t6_0 hT6  _) rfl rfl hT6 rfl hl.1 rfl (Nat.le_of_ble_eq_true rfl) ⟨by decide, by decide⟩ ⟨Nat.le_of_ble_eq_true rfl, Nat.le_of_ble_eq_true rfl⟩ d_9_4_18) (fun u73 H locs hp74 V => ?_)
      obtain ⟨hI, hZ9⟩ := hp74
      obtain ⟨hu80, hZ9⟩ := hZ9
      obtain ⟨y76, hZ9⟩ := hZ9
      obtain ⟨hO75, hZ9⟩ := hZ9
      obtain ⟨b77, hZ9⟩ := hZ9
      obtain ⟨b78, hE79⟩ := hZ9
      replace hO75 : u73[48]? = (some (q 48, .inr (1, [.ref (q 49), .int 64, .int y76])) : Option (Nat × va_E)) := hO75
      have e81 : y76 = (F_She_clear (64 : Int32) (8 : Int32) (64 : Int32) t6_0) := hE79
      replace b77 : q_F (0 ≤ y76.toInt) := b77
      replace b78 : q_F (y76.toInt ≤ 0) := b78
      replace hT0 := (hu80 _ (by decide)).trans hT0
      replace hT1 := (hu80 _ (by decide)).trans hT1
      replace hT2 := (hu80 _ (by decide)).trans hT2
      replace hT3 := (hu80 _ (by decide)).trans hT3
      replace hT4 := (hu80 _ (by decide)).trans hT4
      replace hT5 := (hu80 _ (by decide)).trans hT5
      replace hT7 := (hu80 _ (by decide)).trans hT7
      replace hT8 := (hu80 _ (by decide)).trans hT8
      replace hT9 := (hu80 _ (by decide)).trans hT9
      replace hT10 := (hu80 _ (by decide)).trans hT10
      replace hT11 := (hu80 _ (by decide)).trans hT11
      replace hT12 := (hu80 _ (by decide)).trans hT12
      replace hT13 := (hu80 _ (by decide)).trans hT13
      replace hT14 := (hu80 _ (by decide)).trans hT14
      replace hT15 := (hu80 _ (by decide)).trans hT15
      replace hT16 := (hu80 _ (by decide)).trans hT16
      replace hT17 := (hu80 _ (by decide)).trans hT17
      replace hT18 := (hu80 _ (by decide)).trans hT18
      replace hT19 := (hu80 _ (by decide)).trans hT19
      replace hT20 := (hu80 _ (by decide)).trans hT20
      replace hT21 := (hu80 _ (by decide)).trans hT21
      replace hT22 := (hu80 _ (by decide)).trans hT22
      replace hT23 := (hu80 _ (by decide)).trans hT23
      replace hF := q_uc hF hu80 (by first | exact (q_sk (q_mi 4 rfl) q_s0) | simp)
      refine lv_aload_n hx hb d_9_4_21 rfl (lv_at hl 0 rfl) ?_
      refine q_get (ci := 11) (j := 4) (v := .ref (q 44)) C0 V i_Pri rfl rfl hT0 (by decide) w_389 rfl d_9_4_22 ?_
      refine lv_aload_n hx hb d_9_4_25 rfl (lv_at hl 0 rfl) ?_
      refine q_get (ci := 11) (j := 0) (v := .int t0_0) C0 V i_Pri rfl rfl hT0 (by decide) w_384 rfl d_9_4_26 ?_
      have c82 : t0_0 = 0 := q_Ieq (x := t0_0.toInt) (y := 0) rfl (by decide) (by have t1 : 0 ≤ t0_0.toInt ∧ t0_0.toInt ≤ 9 := btt0_0; have t2 : t0_0.toInt < 9 := b69; have t3 : t0_0.toInt = 0 := b71; omega)
      refine q_ti (v := 0) c82 ?_
      have hX84 := n_fx hI (n_s44 g q)
      refine q_aald (t := 6) (q := q 48) C0 V hX84 rfl (q_ix (x := 0) (by decide) (by omega) (by omega)) (show n_ft q ((0 : Int32).toNatClampNeg) = _ from n_ftv (j := 0) (by decide)) d_9_4_29 ?_
      refine lv_aload_n hx hb d_9_4_30 rfl (lv_at hl 0 rfl) ?_
      refine q_get (ci := 11) (j := 5) (v := .ref (q 1)) C0 V i_Pri rfl rfl hT0 (by decide) w_390 rfl d_9_4_31 ?_
      refine lv_iconst (v := 0) hx hb d_9_4_34 (by decide) ?_
      refine lv_aload_n hx hb d_9_4_35 rfl (lv_at hl 0 rfl) ?_
      refine q_get (ci := 11) (j := 5) (v := .ref (q 1)) C0 V i_Pri rfl rfl hT0 (by decide) w_390 rfl d_9_4_36 ?_
      refine q_get (ci := 1) (j := 2) (v := .int t4_0) C0 V i_She rfl rfl hT4 (by decide) w_58 rfl d_9_4_39 ?_
      refine q_gov V (q_runS (As := [.ref (q 48), .ref (q 1), .int 0, .int t4_0]) (rest := []) (d := 2) (mc := 0) (ms := 0) C0 V rfl LS_Pri_76 (X_Pri_copyInto l D g q u73 48 64 8 64 (n_h48 g q) 1 4100 513 4100 (n_h1 g q) 0 t4_0 (by decide) (by decide) (by decide) hI y76 hO75 t7_0 hT7 t4_0 hT4 t5_0 hT5 (by have y0 : (64 : Int32).toInt = 64 := rfl; have y1 : (8 : Int32).toInt = 8 := rfl; have y2 : (64 : Int32).toInt = 64 := rfl; have y3 : (4100 : Int32).toInt = 4100 := rfl; have y4 : (513 : Int32).toInt = 513 := rfl; have y5 : (4100 : Int32).toInt = 4100 := rfl; have y6 : (0 : Int32).toInt = 0 := rfl; omega) (by have y0 : (64 : Int32).toInt = 64 := rfl; have y1 : (8 : Int32).toInt = 8 := rfl; have y2 : (64 : Int32).toInt = 64 := rfl; have y3 : (4100 : Int32).toInt = 4100 := rfl; have y4 : (513 : Int32).toInt = 513 := rfl; have y5 : (4100 : Int32).toInt = 4100 := rfl; have y6 : (0 : Int32).toInt = 0 := rfl; have t1 : 0 ≤ t4_0.toInt ∧ t4_0.toInt ≤ 4100 := btt4_0; omega) (by have y0 : (64 : Int32).toInt = 64 := rfl; have y1 : (8 : Int32).toInt = 8 := rfl; have y2 : (64 : Int32).toInt = 64 := rfl; have y3 : (4100 : Int32).toInt = 4100 := rfl; have y4 : (513 : Int32).toInt = 513 := rfl; have y5 : (4100 : Int32).toInt = 4100 := rfl; have y6 : (0 : Int32).toInt = 0 := rfl; have t1 : t4_0.toInt ≤ 64 := pre0; have t2 : y76.toInt ≤ 0 := b78; omega) _) rfl hl.1 rfl (Nat.le_of_ble_eq_true rfl) ⟨by decide, by decide⟩ ⟨Nat.le_of_ble_eq_true rfl, Nat.le_of_ble_eq_true rfl⟩ d_9_4_42) (fun u85 H locs hp86 V => ?_)
      obtain ⟨hI, hZ9⟩ := hp86
      obtain ⟨hu95, hZ9⟩ := hZ9
      obtain ⟨y88, hZ9⟩ := hZ9
      obtain ⟨f89, hZ9⟩ := hZ9
      obtain ⟨hO87, hZ9⟩ := hZ9
      obtain ⟨hA90, hZ9⟩ := hZ9
      obtain ⟨b91, hZ9⟩ := hZ9
      obtain ⟨b92, hZ9⟩ := hZ9
      obtain ⟨-, hE94⟩ := hZ9
      replace hO87 : u85[48]? = (some (q 48, .inr (1, [.ref (q 49), .int 64, .int y88])) : Option (Nat × va_E)) := hO87
      replace hA90 : u85[49]? = (some (q 49, .inl (g 1, (8 : Int32).toNatClampNeg, .inr (.inl f89))) : Option (Nat × va_E)) := hA90
      obtain ⟨p96, e97⟩ : ∃ z, z = (F_Pri_copyInto (64 : Int32) (8 : Int32) (64 : Int32) (4100 : Int32) (513 : Int32) (4100 : Int32) (0 : Int32) t4_0 y76 t7_0 t4_0 t5_0) := ⟨_, rfl⟩
      have e98 : y88 = p96.1 := congrArg (fun z => z.1) (hE94.trans e97.symm)
      have e99 : f89 = p96.2 := congrArg (fun z => z.2) (hE94.trans e97.symm)
      replace b91 : q_F (y76.toInt ≤ y88.toInt) := b91
      replace b92 : q_F (y88.toInt ≤ 64) := b92
      replace hT0 := (hu95 _ (by decide)).trans hT0
      replace hT1 := (hu95 _ (by decide)).trans hT1
      replace hT2 := (hu95 _ (by decide)).trans hT2
      replace hT3 := (hu95 _ (by decide)).trans hT3
      replace hT8 := (hu95 _ (by decide)).trans hT8
      replace hT9 := (hu95 _ (by decide)).trans hT9
      replace hT10 := (hu95 _ (by decide)).trans hT10
      replace hT11 := (hu95 _ (by decide)).trans hT11
      replace hT12 := (hu95 _ (by decide)).trans hT12
      replace hT13 := (hu95 _ (by decide)).trans hT13
      replace hT14 := (hu95 _ (by decide)).trans hT14
      replace hT15 := (hu95 _ (by decide)).trans hT15
      replace hT16 := (hu95 _ (by decide)).trans hT16
      replace hT17 := (hu95 _ (by decide)).trans hT17
      replace hT18 := (hu95 _ (by decide)).trans hT18
      replace hT19 := (hu95 _ (by decide)).trans hT19
      replace hT20 := (hu95 _ (by decide)).trans hT20
      replace hT21 := (hu95 _ (by decide)).trans hT21
      replace hT22 := (hu95 _ (by decide)).trans hT22
      replace hT23 := (hu95 _ (by decide)).trans hT23
      replace hF := q_uc hF hu95 (by first | exact (q_sk (q_mi 4 rfl) (q_sk (q_mi 5 rfl) q_s0)) | simp)
      have hR100 := (show F_Pri_addText_c42 t0_0 t0_1 t0_2 t0_3 t1_0 t2_0 t3_0 t4_0 t5_0 t6_0 t7_0 t8_0 t9_0 t10_0 t11_0 t12_0 t13_0 t14_0 t15_0 t16_0 t17_0 t18_0 t19_0 t20_0 t21_0 t22_0 t23_0 p96 = (F_Pri_addText t0_0 t0_1 t0_2 t0_3 t1_0 t2_0 t3_0 t4_0 t5_0 t6_0 t7_0 t8_0 t9_0 t10_0 t11_0 t12_0 t13_0 t14_0 t15_0 t16_0 t17_0 t18_0 t19_0 t20_0 t21_0 t22_0 t23_0) from (by rw [e97, e81, F_Pri_addText.eq_1, if_neg c67, if_pos c70]))
      refine lv_aload_n hx hb d_9_4_45 rfl (lv_at hl 0 rfl) ?_
      refine lv_iconst (v := 4) hx hb d_9_4_46 (by decide) ?_
      refine lv_lconst (v := 0) hx hb d_9_4_47 (by decide) ?_
      refine lv_iconst (v := 0) hx hb d_9_4_48 (by decide) ?_
      refine q_gov V (q_runV (As := [.int 4, .long 0, .int 0]) (rest := []) (d := 1) (mc := 0) (ms := 0) (ci := 11) C0 V rfl LV_Pri_80 (X_Pri_addNumber l D g q u85  4 0 0 hI t0_0 t0_1 t0_2 t0_3 hT0 t1_0 hT1 t2_0 hT2 t3_0 hT3 (by have y0 : (4 : Int32).toInt = 4 := rfl; have y1 : (0 : Int64).toInt = 0 := rfl; have y2 : (0 : Int32).toInt = 0 := rfl; omega) (by have y0 : (4 : Int32).toInt = 4 := rfl; have y1 : (0 : Int64).toInt = 0 := rfl; have y2 : (0 : Int32).toInt = 0 := rfl; omega) _) rfl rfl hT0 rfl hl.1 rfl (Nat.le_of_ble_eq_true rfl) ⟨by decide, by decide⟩ ⟨Nat.le_of_ble_eq_true rfl, Nat.le_of_ble_eq_true rfl⟩ d_9_4_49) (fun u105 H locs hp106 V => ?_)
      obtain ⟨hI, hZ9⟩ := hp106
      obtain ⟨hu129, hZ9⟩ := hZ9
      obtain ⟨y108, hZ9⟩ := hZ9
      obtain ⟨y109, hZ9⟩ := hZ9
      obtain ⟨y110, hZ9⟩ := hZ9
      obtain ⟨y111, hZ9⟩ := hZ9
      obtain ⟨f112, hZ9⟩ := hZ9
      obtain ⟨f114, hZ9⟩ := hZ9
      obtain ⟨f116, hZ9⟩ := hZ9
      obtain ⟨hO107, hZ9⟩ := hZ9
      obtain ⟨hA113, hZ9⟩ := hZ9
      obtain ⟨hA115, hZ9⟩ := hZ9
      obtain ⟨hA117, hZ9⟩ := hZ9
      obtain ⟨b118, hZ9⟩ := hZ9
      obtain ⟨b119, hZ9⟩ := hZ9
      replace hZ9 := hZ9.2
      obtain ⟨b121, hZ9⟩ := hZ9
      obtain ⟨b122, hZ9⟩ := hZ9
      obtain ⟨b123, hZ9⟩ := hZ9
      obtain ⟨b124, hZ9⟩ := hZ9
      obtain ⟨b125, hZ9⟩ := hZ9
      obtain ⟨b126, hZ9⟩ := hZ9
      obtain ⟨b127, hE128⟩ := hZ9
      replace hO107 : u105[40]? = (some (q 40, .inr (11, [.int y108, .ref (q 41), .ref (q 42), .ref (q 43), .ref (q 44), .ref (q 1), .ref (q 47), .ref (q 36), .ref (q 45), .int y109, .int y110, .int y111])) : Option (Nat × va_E)) := hO107
      replace hA113 : u105[41]? = (some (q 41, .inl (g 0, 9, .inl f112)) : Option (Nat × va_E)) := hA113
      replace hA115 : u105[42]? = (some (q 42, .inl (g 1, 9, .inr (.inl f114))) : Option (Nat × va_E)) := hA115
      replace hA117 : u105[43]? = (some (q 43, .inl (g 0, 9, .inl f116)) : Option (Nat × va_E)) := hA117
      obtain ⟨p130, e131⟩ : ∃ z, z = (F_Pri_addNumber (4 : Int32) (0 : Int64) (0 : Int32) t0_0 t0_1 t0_2 t0_3 t1_0 t2_0 t3_0) := ⟨_, rfl⟩
      have e132 : y108 = p130.1 := congrArg (fun z => z.1) (hE128.trans e131.symm)
      have e133 : y109 = p130.2.1 := congrArg (fun z => z.2.1) (hE128.trans e131.symm)
      have e134 : y110 = p130.2.2.1 := congrArg (fun z => z.2.2.1) (hE128.trans e131.symm)
      have e135 : y111 = p130.2.2.2.1 := congrArg (fun z => z.2.2.2.1) (hE128.trans e131.symm)
      have e136 : f112 = p130.2.2.2.2.1 := congrArg (fun z => z.2.2.2.2.1) (hE128.trans e131.symm)
      have e137 : f114 = p130.2.2.2.2.2.1 := congrArg (fun z => z.2.2.2.2.2.1) (hE128.trans e131.symm)
      have e138 : f116 = p130.2.2.2.2.2.2 := congrArg (fun z => z.2.2.2.2.2.2) (hE128.trans e131.symm)
      replace b118 : q_F (1 ≤ y108.toInt) := b118
      replace b119 : q_F (y108.toInt ≤ 9) := b119
      replace b121 : q_F (y108.toInt ≤ t0_0.toInt + 1) := b121
      replace b122 : q_F (t0_1.toInt ≤ y109.toInt) := b122
      replace b123 : q_F (y109.toInt ≤ t0_1.toInt) := b123
      replace b124 : q_F (t0_2.toInt ≤ y110.toInt) := b124
      replace b125 : q_F (y110.toInt ≤ t0_2.toInt) := b125
      replace b126 : q_F (t0_3.toInt ≤ y111.toInt) := b126
      replace b127 : q_F (y111.toInt ≤ t0_3.toInt) := b127
      replace hO87 := (hu129 _ (by decide)).trans hO87
      replace hA90 := (hu129 _ (by decide)).trans hA90
      replace hT8 := (hu129 _ (by decide)).trans hT8
      replace hT9 := (hu129 _ (by decide)).trans hT9
      replace hT10 := (hu129 _ (by decide)).trans hT10
      replace hT11 := (hu129 _ (by decide)).trans hT11
      replace hT12 := (hu129 _ (by decide)).trans hT12
      replace hT13 := (hu129 _ (by decide)).trans hT13
      replace hT14 := (hu129 _ (by decide)).trans hT14
      replace hT15 := (hu129 _ (by decide)).trans hT15
      replace hT16 := (hu129 _ (by decide)).trans hT16
      replace hT17 := (hu129 _ (by decide)).trans hT17
      replace hT18 := (hu129 _ (by decide)).trans hT18
      replace hT19 := (hu129 _ (by decide)).trans hT19
      replace hT20 := (hu129 _ (by decide)).trans hT20
      replace hT21 := (hu129 _ (by decide)).trans hT21
      replace hT22 := (hu129 _ (by decide)).trans hT22
      replace hT23 := (hu129 _ (by decide)).trans hT23
      replace hF := q_uc hF hu129 (by first | exact (q_sk (q_mi 0 rfl) (q_sk (q_mi 1 rfl) (q_sk (q_mi 2 rfl) (q_sk (q_mi 3 rfl) q_s0)))) | simp)
      have hR139 := (show F_Pri_addText_c49 t0_0 t0_1 t0_2 t0_3 t1_0 t2_0 t3_0 t4_0 t5_0 t6_0 t7_0 t8_0 t9_0 t10_0 t11_0 t12_0 t13_0 t14_0 t15_0 t16_0 t17_0 t18_0 t19_0 t20_0 t21_0 t22_0 t23_0 p96 y88 f89 p130 = (F_Pri_addText t0_0 t0_1 t0_2 t0_3 t1_0 t2_0 t3_0 t4_0 t5_0 t6_0 t7_0 t8_0 t9_0 t10_0 t11_0 t12_0 t13_0 t14_0 t15_0 t16_0 t17_0 t18_0 t19_0 t20_0 t21_0 t22_0 t23_0) from Eq.trans (by rw [e131, e99, e98, F_Pri_addText_c42.eq_1]) hR100)
      exact q_retv C0 V (⟨hI, hF, y108, y109, y110, y111, f112, f114, f116, y88, f89, t8_0, t9_0, t10_0, t11_0, t12_0, t13_0, t14_0, t15_0, t16_0, t17_0, t18_0, t19_0, t20_0, t21_0, t22_0, t23_0, hO107, hA113, hA115, hA117, hO87, hA90, hT8, hT9, hT10, hT11, hT12, hT13, hT14, hT15, hT16, hT17, hT18, hT19, hT20, hT21, hT22, hT23, (show 1 ≤ y108.toInt from (by first | with_reducible exact q_fe b118 | (have t1 : 1 ≤ y108.toInt := b118; omega))), (show y108.toInt ≤ 9 from (by first | with_reducible exact q_fe b119 | (have t1 : y108.toInt ≤ 9 := b119; omega))), (show 0 ≤ y109.toInt + 1 from (by have t1 : -1 ≤ t0_1.toInt ∧ t0_1.toInt ≤ 1000000 := btt0_1; have t2 : t0_1.toInt ≤ y109.toInt := b122; omega)), (show y109.toInt ≤ 1000000 from (by have t1 : -1 ≤ t0_1.toInt ∧ t0_1.toInt ≤ 1000000 := btt0_1; have t2 : y109.toInt ≤ t0_1.toInt := b123; omega)), (show 0 ≤ y111.toInt + 1 from (by have t1 : -1 ≤ t0_3.toInt ∧ t0_3.toInt ≤ 8 := btt0_3; have t2 : t0_3.toInt ≤ y111.toInt := b126; omega)), (show y111.toInt ≤ 8 from (by have t1 : -1 ≤ t0_3.toInt ∧ t0_3.toInt ≤ 8 := btt0_3; have t2 : y111.toInt ≤ t0_3.toInt := b127; omega)), (show 0 ≤ y88.toInt from (by have t1 : 0 ≤ y76.toInt := b77; have t2 : y76.toInt ≤ y88.toInt := b91; omega)), (show y88.toInt ≤ 64 from (by first | with_reducible exact q_fe b92 | (have t1 : y88.toInt ≤ 64 := b92; omega))), (show 0 ≤ t8_0.toInt from (by first | with_reducible exact (q_fe btt8_0).2 | with_reducible exact (q_fe btt8_0).1 | (have t1 : 0 ≤ t8_0.toInt ∧ t8_0.toInt ≤ 64 := btt8_0; omega))), (show t8_0.toInt ≤ 64 from (by first | with_reducible exact (q_fe btt8_0).2 | with_reducible exact (q_fe btt8_0).1 | (have t1 : 0 ≤ t8_0.toInt ∧ t8_0.toInt ≤ 64 := btt8_0; omega))), (show 0 ≤ t10_0.toInt from (by first | with_reducible exact (q_fe btt10_0).2 | with_reducible exact (q_fe btt10_0).1 | (have t1 : 0 ≤ t10_0.toInt ∧ t10_0.toInt ≤ 64 := btt10_0; omega))), (show t10_0.toInt ≤ 64 from (by first | with_reducible exact (q_fe btt10_0).2 | with_reducible exact (q_fe btt10_0).1 | (have t1 : 0 ≤ t10_0.toInt ∧ t10_0.toInt ≤ 64 := btt10_0; omega))), (show 0 ≤ t12_0.toInt from (by first | with_reducible exact (q_fe btt12_0).2 | with_reducible exact (q_fe btt12_0).1 | (have t1 : 0 ≤ t12_0.toInt ∧ t12_0.toInt ≤ 64 := btt12_0; omega))), (show t12_0.toInt ≤ 64 from (by first | with_reducible exact (q_fe btt12_0).2 | with_reducible exact (q_fe btt12_0).1 | (have t1 : 0 ≤ t12_0.toInt ∧ t12_0.toInt ≤ 64 := btt12_0; omega))), (show 0 ≤ t14_0.toInt from (by first | with_reducible exact (q_fe btt14_0).2 | with_reducible exact (q_fe btt14_0).1 | (have t1 : 0 ≤ t14_0.toInt ∧ t14_0.toInt ≤ 64 := btt14_0; omega))), (show t14_0.toInt ≤ 64 from (by first | with_reducible exact (q_fe btt14_0).2 | with_reducible exact (q_fe btt14_0).1 | (have t1 : 0 ≤ t14_0.toInt ∧ t14_0.toInt ≤ 64 := btt14_0; omega))), (show 0 ≤ t16_0.toInt from (by first | with_reducible exact (q_fe btt16_0).2 | with_reducible exact (q_fe btt16_0).1 | (have t1 : 0 ≤ t16_0.toInt ∧ t16_0.toInt ≤ 64 := btt16_0; omega))), (show t16_0.toInt ≤ 64 from (by first | with_reducible exact (q_fe btt16_0).2 | with_reducible exact (q_fe btt16_0).1 | (have t1 : 0 ≤ t16_0.toInt ∧ t16_0.toInt ≤ 64 := btt16_0; omega))), (show 0 ≤ t18_0.toInt from (by first | with_reducible exact (q_fe btt18_0).2 | with_reducible exact (q_fe btt18_0).1 | (have t1 : 0 ≤ t18_0.toInt ∧ t18_0.toInt ≤ 64 := btt18_0; omega))), (show t18_0.toInt ≤ 64 from (by first | with_reducible exact (q_fe btt18_0).2 | with_reducible exact (q_fe btt18_0).1 | (have t1 : 0 ≤ t18_0.toInt ∧ t18_0.toInt ≤ 64 := btt18_0; omega))), (show 0 ≤ t20_0.toInt from (by first | with_reducible exact (q_fe btt20_0).2 | with_reducible exact (q_fe btt20_0).1 | (have t1 : 0 ≤ t20_0.toInt ∧ t20_0.toInt ≤ 64 := btt20_0; omega))), (show t20_0.toInt ≤ 64 from (by first | with_reducible exact (q_fe btt20_0).2 | with_reducible exact (q_fe btt20_0).1 | (have t1 : 0 ≤ t20_0.toInt ∧ t20_0.toInt ≤ 64 := btt20_0; omega))), (show 0 ≤ t22_0.toInt from (by first | with_reducible exact (q_fe btt22_0).2 | with_reducible exact (q_fe btt22_0).1 | (have t1 : 0 ≤ t22_0.toInt ∧ t22_0.toInt ≤ 64 := btt22_0; omega))), (show t22_0.toInt ≤ 64 from (by first | with_reducible exact (q_fe btt22_0).2 | with_reducible exact (q_fe btt22_0).1 | (have t1 : 0 ≤ t22_0.toInt ∧ t22_0.toInt ≤ 64 := btt22_0; omega))), (show t0_0.toInt ≤ y108.toInt from (by have t1 : t0_0.toInt = 0 := b71; have t2 : 1 ≤ y108.toInt := b118; omega)), (show y108.toInt ≤ t0_0.toInt + 1 from (by first | with_reducible exact q_fe b121 | (have t1 : y108.toInt ≤ t0_0.toInt + 1 := b121; omega))), (show t0_1.toInt ≤ y109.toInt from (by first | with_reducible exact q_fe b122 | (have t1 : t0_1.toInt ≤ y109.toInt := b122; omega))), (show y109.toInt ≤ t0_1.toInt from (by first | with_reducible exact q_fe b123 | (have t1 : y109.toInt ≤ t0_1.toInt := b123; omega))), (show t0_2.toInt ≤ y110.toInt from (by first | with_reducible exact q_fe b124 | (have t1 : t0_2.toInt ≤ y110.toInt := b124; omega))), (show y110.toInt ≤ t0_2.toInt from (by first | with_reducible exact q_fe b125 | (have t1 : y110.toInt ≤ t0_2.toInt := b125; omega))), (show t0_3.toInt ≤ y111.toInt from (by first | with_reducible exact q_fe b126 | (have t1 : t0_3.toInt ≤ y111.toInt := b126; omega))), (show y111.toInt ≤ t0_3.toInt from (by first | with_reducible exact q_fe b127 | (have t1 : y111.toInt ≤ t0_3.toInt := b127; omega))), (show (y108, y109, y110, y111, f112, f114, f116, y88, f89, t8_0, t9_0, t10_0, t11_0, t12_0, t13_0, t14_0, t15_0, t16_0, t17_0, t18_0, t19_0, t20_0, t21_0, t22_0, t23_0) = (F_Pri_addText t0_0 t0_1 t0_2 t0_3 t1_0 t2_0 t3_0 t4_0 t5_0 t6_0 t7_0 t8_0 t9_0 t10_0 t11_0 t12_0 t13_0 t14_0 t15_0 t16_0 t17_0 t18_0 t19_0 t20_0 t21_0 t22_0 t23_0) from Eq.trans (by rw [e138, e137, e136, e135, e134, e133, e132, F_Pri_addText_c49.eq_1]) hR139)⟩) d_9_4_52
    have b144 : q_F (t0_0.toInt ≠ 0) := (q_neI c70)
    by_cases c145 : t0_0 = 1
    ·
      have b146 : q_F (t0_0.toInt = 1) := (q_eqI c145)
      refine q_ti (v := 1) c145 ?_
      have hX147 := n_fx hI (n_s44 g q)
      refine q_aald (t := 6) (q := q 50) C0 V hX147 rfl (q_ix (x := 1) (by decide) (by omega) (by omega)) (show n_ft q ((1 : Int32).toNatClampNeg) = _ from n_ftv (j := 1) (by decide)) d_9_4_17 ?_
      refine q_gov V (q_runV (As := []) (rest := []) (d := 1) (mc := 0) (ms := 0) (ci := 1) C0 V rfl LV_Pri_70 (X_She_clear l D g q ws 50 64 8 64 (n_h50 g q)  hI t8_0 hT8  _) rfl rfl hT8 rfl hl.1 rfl (Nat.le_of_ble_eq_true rfl) ⟨by decide, by decide⟩ ⟨Nat.le_of_ble_eq_true rfl, Nat.le_of_ble_eq_true rfl⟩ d_9_4_18) (fun u148 H locs hp149 V => ?_)
      obtain ⟨hI, hZ9⟩ := hp149
      obtain ⟨hu155, hZ9⟩ := hZ9
      obtain ⟨y151, hZ9⟩ := hZ9
      obtain ⟨hO150, hZ9⟩ := hZ9
      obtain ⟨b152, hZ9⟩ := hZ9
      obtain ⟨b153, hE154⟩ := hZ9
      replace hO150 : u148[50]? = (some (q 50, .inr (1, [.ref (q 51), .int 64, .int y151])) : Option (Nat × va_E)) := hO150
      have e156 : y151 = (F_She_clear (64 : Int32) (8 : Int32) (64 : Int32) t8_0) := hE154
      replace b152 : q_F (0 ≤ y151.toInt) := b152
      replace b153 : q_F (y151.toInt ≤ 0) := b153
      replace hT0 := (hu155 _ (by decide)).trans hT0
      replace hT1 := (hu155 _ (by decide)).trans hT1
      replace hT2 := (hu155 _ (by decide)).trans hT2
      replace hT3 := (hu155 _ (by decide)).trans hT3
      replace hT4 := (hu155 _ (by decide)).trans hT4
      replace hT5 := (hu155 _ (by decide)).trans hT5
      replace hT6 := (hu155 _ (by decide)).trans hT6
      replace hT7 := (hu155 _ (by decide)).trans hT7
      replace hT9 := (hu155 _ (by decide)).trans hT9
      replace hT10 := (hu155 _ (by decide)).trans hT10
      replace hT11 := (hu155 _ (by decide)).trans hT11
      replace hT12 := (hu155 _ (by decide)).trans hT12
      replace hT13 := (hu155 _ (by decide)).trans hT13
      replace hT14 := (hu155 _ (by decide)).trans hT14
      replace hT15 := (hu155 _ (by decide)).trans hT15
      replace hT16 := (hu155 _ (by decide)).trans hT16
      replace hT17 := (hu155 _ (by decide)).trans hT17
      replace hT18 := (hu155 _ (by decide)).trans hT18
      replace hT19 := (hu155 _ (by decide)).trans hT19
      replace hT20 := (hu155 _ (by decide)).trans hT20
      replace hT21 := (hu155 _ (by decide)).trans hT21
      replace hT22 := (hu155 _ (by decide)).trans hT22
      replace hT23 := (hu155 _ (by decide)).trans hT23
      replace hF := q_uc hF hu155 (by first | exact (q_sk (q_mi 6 rfl) q_s0) | simp)
      refine lv_aload_n hx hb d_9_4_21 rfl (lv_at hl 0 rfl) ?_
      refine q_get (ci := 11) (j := 4) (v := .ref (q 44)) C0 V i_Pri rfl rfl hT0 (by decide) w_389 rfl d_9_4_22 ?_
      refine lv_aload_n hx hb d_9_4_25 rfl (lv_at hl 0 rfl) ?_
      refine q_get (ci := 11) (j := 0) (v := .int t0_0) C0 V i_Pri rfl rfl hT0 (by decide) w_384 rfl d_9_4_26 ?_
      have c157 : t0_0 = 1 := q_Ieq (x := t0_0.toInt) (y := 1) rfl (by decide) (by have t1 : 0 ≤ t0_0.toInt ∧ t0_0.toInt ≤ 9 := btt0_0; have t2 : t0_0.toInt < 9 := b69; have t3 : t0_0.toInt ≠ 0 := b144; have t4 : t0_0.toInt = 1 := b146; omega)
      refine q_ti (v := 1) c157 ?_
      have hX159 := n_fx hI (n_s44 g q)
      refine q_aald (t := 6) (q := q 50) C0 V hX159 rfl (q_ix (x := 1) (by decide) (by omega) (by omega)) (show n_ft q ((1 : Int32).toNatClampNeg) = _ from n_ftv (j := 1) (by decide)) d_9_4_29 ?_
      refine lv_aload_n hx hb d_9_4_30 rfl (lv_at hl 0 rfl) ?_
      refine q_get (ci := 11) (j := 5) (v := .ref (q 1)) C0 V i_Pri rfl rfl hT0 (by decide) w_390 rfl d_9_4_31 ?_
      refine lv_iconst (v := 0) hx hb d_9_4_34 (by decide) ?_
      refine lv_aload_n hx hb d_9_4_35 rfl (lv_at hl 0 rfl) ?_
      refine q_get (ci := 11) (j := 5) (v := .ref (q 1)) C0 V i_Pri rfl rfl hT0 (by decide) w_390 rfl d_9_4_36 ?_
      refine q_get (ci := 1) (j := 2) (v := .int t4_0) C0 V i_She rfl rfl hT4 (by decide) w_58 rfl d_9_4_39 ?_
      refine q_gov V (q_runS (As := [.ref (q 50), .ref (q 1), .int 0, .int t4_0]) (rest := []) (d := 2) (mc := 0) (ms := 0) C0 V rfl LS_Pri_76 (X_Pri_copyInto l D g q u148 50 64 8 64 (n_h50 g q) 1 4100 513 4100 (n_h1 g q) 0 t4_0 (by decide) (by decide) (by decide) hI y151 hO150 t9_0 hT9 t4_0 hT4 t5_0 hT5 (by have y0 : (64 : Int32).toInt = 64 := rfl; have y1 : (8 : Int32).toInt = 8 := rfl; have y2 : (64 : Int32).toInt = 64 := rfl; have y3 : (4100 : Int32).toInt = 4100 := rfl; have y4 : (513 : Int32).toInt = 513 := rfl; have y5 : (4100 : Int32).toInt = 4100 := rfl; have y6 : (0 : Int32).toInt = 0 := rfl; omega) (by have y0 : (64 : Int32).toInt = 64 := rfl; have y1 : (8 : Int32).toInt = 8 := rfl; have y2 : (64 : Int32).toInt = 64 := rfl; have y3 : (4100 : Int32).toInt = 4100 := rfl; have y4 : (513 : Int32).toInt = 513 := rfl; have y5 : (4100 : Int32).toInt = 4100 := rfl; have y6 : (0 : Int32).toInt = 0 := rfl; have t1 : 0 ≤ t4_0.toInt ∧ t4_0.toInt ≤ 4100 := btt4_0; omega) (by have y0 : (64 : Int32).toInt = 64 := rfl; have y1 : (8 : Int32).toInt = 8 := rfl; have y2 : (64 : Int32).toInt = 64 := rfl; have y3 : (4100 : Int32).toInt = 4100 := rfl; have y4 : (513 : Int32).toInt = 513 := rfl; have y5 : (4100 : Int32).toInt = 4100 := rfl; have y6 : (0 : Int32).toInt = 0 := rfl; have t1 : t4_0.toInt ≤ 64 := pre0; have t2 : y151.toInt ≤ 0 := b153; omega) _) rfl hl.1 rfl (Nat.le_of_ble_eq_true rfl) ⟨by decide, by decide⟩ ⟨Nat.le_of_ble_eq_true rfl, Nat.le_of_ble_eq_true rfl⟩ d_9_4_42) (fun u160 H locs hp161 V => ?_)
      obtain ⟨hI, hZ9⟩ := hp161
      obtain ⟨hu170, hZ9⟩ := hZ9
      obtain ⟨y163, hZ9⟩ := hZ9
      obtain ⟨f164, hZ9⟩ := hZ9
      obtain ⟨hO162, hZ9⟩ := hZ9
      obtain ⟨hA165, hZ9⟩ := hZ9
      obtain ⟨b166, hZ9⟩ := hZ9
      obtain ⟨b167, hZ9⟩ := hZ9
      obtain ⟨-, hE169⟩ := hZ9
      replace hO162 : u160[50]? = (some (q 50, .inr (1, [.ref (q 51), .int 64, .int y163])) : Option (Nat × va_E)) := hO162
      replace hA165 : u160[51]? = (some (q 51, .inl (g 1, (8 : Int32).toNatClampNeg, .inr (.inl f164))) : Option (Nat × va_E)) := hA165
      obtain ⟨p171, e172⟩ : ∃ z, z = (F_Pri_copyInto (64 : Int32) (8 : Int32) (64 : Int32) (4100 : Int32) (513 : Int32) (4100 : Int32) (0 : Int32) t4_0 y151 t9_0 t4_0 t5_0) := ⟨_, rfl⟩
      have e173 : y163 = p171.1 := congrArg (fun z => z.1) (hE169.trans e172.symm)
      have e174 : f164 = p171.2 := congrArg (fun z => z.2) (hE169.trans e172.symm)
      replace b166 : q_F (y151.toInt ≤ y163.toInt) := b166
      replace b167 : q_F (y163.toInt ≤ 64) := b167
      replace hT0 := (hu170 _ (by decide)).trans hT0
      replace hT1 := (hu170 _ (by decide)).trans hT1
      replace hT2 := (hu170 _ (by decide)).trans hT2
      replace hT3 := (hu170 _ (by decide)).trans hT3
      replace hT6 := (hu170 _ (by decide)).trans hT6
      replace hT7 := (hu170 _ (by decide)).trans hT7
      replace hT10 := (hu170 _ (by decide)).trans hT10
      replace hT11 := (hu170 _ (by decide)).trans hT11
      replace hT12 := (hu170 _ (by decide)).trans hT12
      replace hT13 := (hu170 _ (by decide)).trans hT13
      replace hT14 := (hu170 _ (by decide)).trans hT14
      replace hT15 := (hu170 _ (by decide)).trans hT15
      replace hT16 := (hu170 _ (by decide)).trans hT16
      replace hT17 := (hu170 _ (by decide)).trans hT17
      replace hT18 := (hu170 _ (by decide)).trans hT18
      replace hT19 := (hu170 _ (by decide)).trans hT19
      replace hT20 := (hu170 _ (by decide)).trans hT20
      replace hT21 := (hu170 _ (by decide)).trans hT21
      replace hT22 := (hu170 _ (by decide)).trans hT22
      replace hT23 := (hu170 _ (by decide)).trans hT23
      replace hF := q_uc hF hu170 (by first | exact (q_sk (q_mi 6 rfl) (q_sk (q_mi 7 rfl) q_s0)) | simp)
      have hR175 := (show F_Pri_addText_c42_3 t0_0 t0_1 t0_2 t0_3 t1_0 t2_0 t3_0 t4_0 t5_0 t6_0 t7_0 t8_0 t9_0 t10_0 t11_0 t12_0 t13_0 t14_0 t15_0 t16_0 t17_0 t18_0 t19_0 t20_0 t21_0 t22_0 t23_0 p171 = (F_Pri_addText t0_0 t0_1 t0_2 t0_3 t1_0 t2_0 t3_0 t4_0 t5_0 t6_0 t7_0 t8_0 t9_0 t10_0 t11_0 t12_0 t13_0 t14_0 t15_0 t16_0 t17_0 t18_0 t19_0 t20_0 t21_0 t22_0 t23_0) from (by rw [e172, e156, F_Pri_addText.eq_1, if_neg c67, if_neg c70, if_pos c145]))
      refine lv_aload_n hx hb d_9_4_45 rfl (lv_at hl 0 rfl) ?_
      refine lv_iconst (v := 4) hx hb d_9_4_46 (by decide) ?_
      refine lv_lconst (v := 0) hx hb d_9_4_47 (by decide) ?_
      refine lv_iconst (v := 0) hx hb d_9_4_48 (by decide) ?_
      refine q_gov V (q_runV (As := [.int 4, .long 0, .int 0]) (rest := []) (d := 1) (mc := 0) (ms := 0) (ci := 11) C0 V rfl LV_Pri_80 (X_Pri_addNumber l D g q u160  4 0 0 hI t0_0 t0_1 t0_2 t0_3 hT0 t1_0 hT1 t2_0 hT2 t3_0 hT3 (by have y0 : (4 : Int32).toInt = 4 := rfl; have y1 : (0 : Int64).toInt = 0 := rfl; have y2 : (0 : Int32).toInt = 0 := rfl; omega) (by have y0 : (4 : Int32).toInt = 4 := rfl; have y1 : (0 : Int64).toInt = 0 := rfl; have y2 : (0 : Int32).toInt = 0 := rfl; omega) _) rfl rfl hT0 rfl hl.1 rfl (Nat.le_of_ble_eq_true rfl) ⟨by decide, by decide⟩ ⟨Nat.le_of_ble_eq_true rfl, Nat.le_of_ble_eq_true rfl⟩ d_9_4_49) (fun u180 H locs hp181 V => ?_)
      obtain ⟨hI, hZ9⟩ := hp181
      obtain ⟨hu204, hZ9⟩ := hZ9
      obtain ⟨y183, hZ9⟩ := hZ9
      obtain ⟨y184, hZ9⟩ := hZ9
      obtain ⟨y185, hZ9⟩ := hZ9
      obtain ⟨y186, hZ9⟩ := hZ9
      obtain ⟨f187, hZ9⟩ := hZ9
      obtain ⟨f189, hZ9⟩ := hZ9
      obtain ⟨f191, hZ9⟩ := hZ9
      obtain ⟨hO182, hZ9⟩ := hZ9
      obtain ⟨hA188, hZ9⟩ := hZ9
      obtain ⟨hA190, hZ9⟩ := hZ9
      obtain ⟨hA192, hZ9⟩ := hZ9
      obtain ⟨b193, hZ9⟩ := hZ9
      obtain ⟨b194, hZ9⟩ := hZ9
      replace hZ9 := hZ9.2
      obtain ⟨b196, hZ9⟩ := hZ9
      obtain ⟨b197, hZ9⟩ := hZ9
      obtain ⟨b198, hZ9⟩ := hZ9
      obtain ⟨b199, hZ9⟩ := hZ9
      obtain ⟨b200, hZ9⟩ := hZ9
      obtain ⟨b201, hZ9⟩ := hZ9
      obtain ⟨b202, hE203⟩ := hZ9
      replace hO182 : u180[40]? = (some (q 40, .inr (11, [.int y183, .ref (q 41), .ref (q 42), .ref (q 43), .ref (q 44), .ref (q 1), .ref (q 47), .ref (q 36), .ref (q 45), .int y184, .int y185, .int y186])) : Option (Nat × va_E)) := hO182
      replace hA188 : u180[41]? = (some (q 41, .inl (g 0, 9, .inl f187)) : Option (Nat × va_E)) := hA188
      replace hA190 : u180[42]? = (some (q 42, .inl (g 1, 9, .inr (.inl f189))) : Option (Nat × va_E)) := hA190
      replace hA192 : u180[43]? = (some (q 43, .inl (g 0, 9, .inl f191)) : Option (Nat × va_E)) := hA192
      obtain ⟨p205, e206⟩ : ∃ z, z = (F_Pri_addNumber (4 : Int32) (0 : Int64) (0 : Int32) t0_0 t0_1 t0_2 t0_3 t1_0 t2_0 t3_0) := ⟨_, rfl⟩
      have e207 : y183 = p205.1 := congrArg (fun z => z.1) (hE203.trans e206.symm)
      have e208 : y184 = p205.2.1 := congrArg (fun z => z.2.1) (hE203.trans e206.symm)
      have e209 : y185 = p205.2.2.1 := congrArg (fun z => z.2.2.1) (hE203.trans e206.symm)
      have e210 : y186 = p205.2.2.2.1 := congrArg (fun z => z.2.2.2.1) (hE203.trans e206.symm)
      have e211 : f187 = p205.2.2.2.2.1 := congrArg (fun z => z.2.2.2.2.1) (hE203.trans e206.symm)
      have e212 : f189 = p205.2.2.2.2.2.1 := congrArg (fun z => z.2.2.2.2.2.1) (hE203.trans e206.symm)
      have e213 : f191 = p205.2.2.2.2.2.2 := congrArg (fun z => z.2.2.2.2.2.2) (hE203.trans e206.symm)
      replace b193 : q_F (1 ≤ y183.toInt) := b193
      replace b194 : q_F (y183.toInt ≤ 9) := b194
      replace b196 : q_F (y183.toInt ≤ t0_0.toInt + 1) := b196
      replace b197 : q_F (t0_1.toInt ≤ y184.toInt) := b197
      replace b198 : q_F (y184.toInt ≤ t0_1.toInt) := b198
      replace b199 : q_F (t0_2.toInt ≤ y185.toInt) := b199
      replace b200 : q_F (y185.toInt ≤ t0_2.toInt) := b200
      replace b201 : q_F (t0_3.toInt ≤ y186.toInt) := b201
      replace b202 : q_F (y186.toInt ≤ t0_3.toInt) := b202
      replace hT6 := (hu204 _ (by decide)).trans hT6
      replace hT7 := (hu204 _ (by decide)).trans hT7
      replace hO162 := (hu204 _ (by decide)).trans hO162
      replace hA165 := (hu204 _ (by decide)).trans hA165
      replace hT10 := (hu204 _ (by decide)).trans hT10
      replace hT11 := (hu204 _ (by decide)).trans hT11
      replace hT12 := (hu204 _ (by decide)).trans hT12
      replace hT13 := (hu204 _ (by decide)).trans hT13
      replace hT14 := (hu204 _ (by decide)).trans hT14
      replace hT15 := (hu204 _ (by decide)).trans hT15
      replace hT16 := (hu204 _ (by decide)).trans hT16
      replace hT17 := (hu204 _ (by decide)).trans hT17
      replace hT18 := (hu204 _ (by decide)).trans hT18
      replace hT19 := (hu204 _ (by decide)).trans hT19
      replace hT20 := (hu204 _ (by decide)).trans hT20
      replace hT21 := (hu204 _ (by decide)).trans hT21
      replace hT22 := (hu204 _ (by decide)).trans hT22
      replace hT23 := (hu204 _ (by decide)).trans hT23
      replace hF := q_uc hF hu204 (by first | exact (q_sk (q_mi 0 rfl) (q_sk (q_mi 1 rfl) (q_sk (q_mi 2 rfl) (q_sk (q_mi 3 rfl) q_s0)))) | simp)
      have hR214 := (show F_Pri_addText_c49_4 t0_0 t0_1 t0_2 t0_3 t1_0 t2_0 t3_0 t4_0 t5_0 t6_0 t7_0 t8_0 t9_0 t10_0 t11_0 t12_0 t13_0 t14_0 t15_0 t16_0 t17_0 t18_0 t19_0 t20_0 t21_0 t22_0 t23_0 p171 y163 f164 p205 = (F_Pri_addText t0_0 t0_1 t0_2 t0_3 t1_0 t2_0 t3_0 t4_0 t5_0 t6_0 t7_0 t8_0 t9_0 t10_0 t11_0 t12_0 t13_0 t14_0 t15_0 t16_0 t17_0 t18_0 t19_0 t20_0 t21_0 t22_0 t23_0) from Eq.trans (by rw [e206, e174, e173, F_Pri_addText_c42_3.eq_1]) hR175)
      exact q_retv C0 V (⟨hI, hF, y183, y184, y185, y186, f187, f189, f191, t6_0, t7_0, y163, f164, t10_0, t11_0, t12_0, t13_0, t14_0, t15_0, t16_0, t17_0, t18_0, t19_0, t20_0, t21_0, t22_0, t23_0, hO182, hA188, hA190, hA192, hT6, hT7, hO162, hA165, hT10, hT11, hT12, hT13, hT14, hT15, hT16, hT17, hT18, hT19, hT20, hT21, hT22, hT23, (show 1 ≤ y183.toInt from (by first | with_reducible exact q_fe b193 | (have t1 : 1 ≤ y183.toInt := b193; omega))), (show y183.toInt ≤ 9 from (by first | with_reducible exact q_fe b194 | (have t1 : y183.toInt ≤ 9 := b194; omega))), (show 0 ≤ y184.toInt + 1 from (by have t1 : -1 ≤ t0_1.toInt ∧ t0_1.toInt ≤ 1000000 := btt0_1; have t2 : t0_1.toInt ≤ y184.toInt := b197; omega)), (show y184.toInt ≤ 1000000 from (by have t1 : -1 ≤ t0_1.toInt ∧ t0_1.toInt ≤ 1000000 := btt0_1; have t2 : y184.toInt ≤ t0_1.toInt := b198; omega)), (show 0 ≤ y186.toInt + 1 from (by have t1 : -1 ≤ t0_3.toInt ∧ t0_3.toInt ≤ 8 := btt0_3; have t2 : t0_3.toInt ≤ y186.toInt := b201; omega)), (show y186.toInt ≤ 8 from (by have t1 : -1 ≤ t0_3.toInt ∧ t0_3.toInt ≤ 8 := btt0_3; have t2 : y186.toInt ≤ t0_3.toInt := b202; omega)), (show 0 ≤ t6_0.toInt from (by first | with_reducible exact (q_fe btt6_0).2 | with_reducible exact (q_fe btt6_0).1 | (have t1 : 0 ≤ t6_0.toInt ∧ t6_0.toInt ≤ 64 := btt6_0; omega))), (show t6_0.toInt ≤ 64 from (by first | with_reducible exact (q_fe btt6_0).2 | with_reducible exact (q_fe btt6_0).1 | (have t1 : 0 ≤ t6_0.toInt ∧ t6_0.toInt ≤ 64 := btt6_0; omega))), (show 0 ≤ y163.toInt from (by have t1 : 0 ≤ y151.toInt := b152; have t2 : y151.toInt ≤ y163.toInt := b166; omega)), (show y163.toInt ≤ 64 from (by first | with_reducible exact q_fe b167 | (have t1 : y163.toInt ≤ 64 := b167; omega))), (show 0 ≤ t10_0.toInt from (by first | with_reducible exact (q_fe btt10_0).2 | with_reducible exact (q_fe btt10_0).1 | (have t1 : 0 ≤ t10_0.toInt ∧ t10_0.toInt ≤ 64 := btt10_0; omega))), (show t10_0.toInt ≤ 64 from (by first | with_reducible exact (q_fe btt10_0).2 | with_reducible exact (q_fe btt10_0).1 | (have t1 : 0 ≤ t10_0.toInt ∧ t10_0.toInt ≤ 64 := btt10_0; omega))), (show 0 ≤ t12_0.toInt from (by first | with_reducible exact (q_fe btt12_0).2 | with_reducible exact (q_fe btt12_0).1 | (have t1 : 0 ≤ t12_0.toInt ∧ t12_0.toInt ≤ 64 := btt12_0; omega))), (show t12_0.toInt ≤ 64 from (by first | with_reducible exact (q_fe btt12_0).2 | with_reducible exact (q_fe btt12_0).1 | (have t1 : 0 ≤ t12_0.toInt ∧ t12_0.toInt ≤ 64 := btt12_0; omega))), (show 0 ≤ t14_0.toInt from (by first | with_reducible exact (q_fe btt14_0).2 | with_reducible exact (q_fe btt14_0).1 | (have t1 : 0 ≤ t14_0.toInt ∧ t14_0.toInt ≤ 64 := btt14_0; omega))), (show t14_0.toInt ≤ 64 from (by first | with_reducible exact (q_fe btt14_0).2 | with_reducible exact (q_fe btt14_0).1 | (have t1 : 0 ≤ t14_0.toInt ∧ t14_0.toInt ≤ 64 := btt14_0; omega))), (show 0 ≤ t16_0.toInt from (by first | with_reducible exact (q_fe btt16_0).2 | with_reducible exact (q_fe btt16_0).1 | (have t1 : 0 ≤ t16_0.toInt ∧ t16_0.toInt ≤ 64 := btt16_0; omega))), (show t16_0.toInt ≤ 64 from (by first | with_reducible exact (q_fe btt16_0).2 | with_reducible exact (q_fe btt16_0).1 | (have t1 : 0 ≤ t16_0.toInt ∧ t16_0.toInt ≤ 64 := btt16_0; omega))), (show 0 ≤ t18_0.toInt from (by first | with_reducible exact (q_fe btt18_0).2 | with_reducible exact (q_fe btt18_0).1 | (have t1 : 0 ≤ t18_0.toInt ∧ t18_0.toInt ≤ 64 := btt18_0; omega))), (show t18_0.toInt ≤ 64 from (by first | with_reducible exact (q_fe btt18_0).2 | with_reducible exact (q_fe btt18_0).1 | (have t1 : 0 ≤ t18_0.toInt ∧ t18_0.toInt ≤ 64 := btt18_0; omega))), (show 0 ≤ t20_0.toInt from (by first | with_reducible exact (q_fe btt20_0).2 | with_reducible exact (q_fe btt20_0).1 | (have t1 : 0 ≤ t20_0.toInt ∧ t20_0.toInt ≤ 64 := btt20_0; omega))), (show t20_0.toInt ≤ 64 from (by first | with_reducible exact (q_fe btt20_0).2 | with_reducible exact (q_fe btt20_0).1 | (have t1 : 0 ≤ t20_0.toInt ∧ t20_0.toInt ≤ 64 := btt20_0; omega))), (show 0 ≤ t22_0.toInt from (by first | with_reducible exact (q_fe btt22_0).2 | with_reducible exact (q_fe btt22_0).1 | (have t1 : 0 ≤ t22_0.toInt ∧ t22_0.toInt ≤ 64 := btt22_0; omega))), (show t22_0.toInt ≤ 64 from (by first | with_reducible exact (q_fe btt22_0).2 | with_reducible exact (q_fe btt22_0).1 | (have t1 : 0 ≤ t22_0.toInt ∧ t22_0.toInt ≤ 64 := btt22_0; omega))), (show t0_0.toInt ≤ y183.toInt from (by have t1 : t0_0.toInt = 1 := b146; have t2 : 1 ≤ y183.toInt := b193; omega)), (show y183.toInt ≤ t0_0.toInt + 1 from (by first | with_reducible exact q_fe b196 | (have t1 : y183.toInt ≤ t0_0.toInt + 1 := b196; omega))), (show t0_1.toInt ≤ y184.toInt from (by first | with_reducible exact q_fe b197 | (have t1 : t0_1.toInt ≤ y184.toInt := b197; omega))), (show y184.toInt ≤ t0_1.toInt from (by first | with_reducible exact q_fe b198 | (have t1 : y184.toInt ≤ t0_1.toInt := b198; omega))), (show t0_2.toInt ≤ y185.toInt from (by first | with_reducible exact q_fe b199 | (have t1 : t0_2.toInt ≤ y185.toInt := b199; omega))), (show y185.toInt ≤ t0_2.toInt from (by first | with_reducible exact q_fe b200 | (have t1 : y185.toInt ≤ t0_2.toInt := b200; omega))), (show t0_3.toInt ≤ y186.toInt from (by first | with_reducible exact q_fe b201 | (have t1 : t0_3.toInt ≤ y186.toInt := b201; omega))), (show y186.toInt ≤ t0_3.toInt from (by first | with_reducible exact q_fe b202 | (have t1 : y186.toInt ≤ t0_3.toInt := b202; omega))), (show (y183, y184, y185, y186, f187, f189, f191, t6_0, t7_0, y163, f164, t10_0, t11_0, t12_0, t13_0, t14_0, t15_0, t16_0, t17_0, t18_0, t19_0, t20_0, t21_0, t22_0, t23_0) = (F_Pri_addText t0_0 t0_1 t0_2 t0_3 t1_0 t2_0 t3_0 t4_0 t5_0 t6_0 t7_0 t8_0 t9_0 t10_0 t11_0 t12_0 t13_0 t14_0 t15_0 t16_0 t17_0 t18_0 t19_0 t20_0 t21_0 t22_0 t23_0) from Eq.trans (by rw [e213, e212, e211, e210, e209, e208, e207, F_Pri_addText_c49_4.eq_1]) hR214)⟩) d_9_4_52
    have b219 : q_F (t0_0.toInt ≠ 1) := (q_neI c145)
    by_cases c220 : t0_0 = 2
    ·
      have b221 : q_F (t0_0.toInt = 2) := (q_eqI c220)
      refine q_ti (v := 2) c220 ?_
      have hX222 := n_fx hI (n_s44 g q)
      refine q_aald (t := 6) (q := q 52) C0 V hX222 rfl (q_ix (x := 2) (by decide) (by omega) (by omega)) (show n_ft q ((2 : Int32).toNatClampNeg) = _ from n_ftv (j := 2) (by decide)) d_9_4_17 ?_
      refine q_gov V (q_runV (As := []) (rest := []) (d := 1) (mc := 0) (ms := 0) (ci := 1) C0 V rfl LV_Pri_70 (X_She_clear l D g q ws 52 64 8 64 (n_h52 g q)  hI t10_0 hT10  _) rfl rfl hT10 rfl hl.1 rfl (Nat.le_of_ble_eq_true rfl) ⟨by decide, by decide⟩ ⟨Nat.le_of_ble_eq_true rfl, Nat.le_of_ble_eq_true rfl⟩ d_9_4_18) (fun u223 H locs hp224 V => ?_)
      obtain ⟨hI, hZ9⟩ := hp224
      obtain ⟨hu230, hZ9⟩ := hZ9
      obtain ⟨y226, hZ9⟩ := hZ9
      obtain ⟨hO225, hZ9⟩ := hZ9
      obtain ⟨b227, hZ9⟩ := hZ9
      obtain ⟨b228, hE229⟩ := hZ9
      replace hO225 : u223[52]? = (some (q 52, .inr (1, [.ref (q 53), .int 64, .int y226])) : Option (Nat × va_E)) := hO225
      have e231 : y226 = (F_She_clear (64 : Int32) (8 : Int32) (64 : Int32) t10_0) := hE229
      replace b227 : q_F (0 ≤ y226.toInt) := b227
      replace b228 : q_F (y226.toInt ≤ 0) := b228
      replace hT0 := (hu230 _ (by decide)).trans hT0
      replace hT1 := (hu230 _ (by decide)).trans hT1
      replace hT2 := (hu230 _ (by decide)).trans hT2
      replace hT3 := (hu230 _ (by decide)).trans hT3
      replace hT4 := (hu230 _ (by decide)).trans hT4
      replace hT5 := (hu230 _ (by decide)).trans hT5
      replace hT6 := (hu230 _ (by decide)).trans hT6
      replace hT7 := (hu230 _ (by decide)).trans hT7
      replace hT8 := (hu230 _ (by decide)).trans hT8
      replace hT9 := (hu230 _ (by decide)).trans hT9
      replace hT11 := (hu230 _ (by decide)).trans hT11
      replace hT12 := (hu230 _ (by decide)).trans hT12
      replace hT13 := (hu230 _ (by decide)).trans hT13
      replace hT14 := (hu230 _ (by decide)).trans hT14
      replace hT15 := (hu230 _ (by decide)).trans hT15
      replace hT16 := (hu230 _ (by decide)).trans hT16
      replace hT17 := (hu230 _ (by decide)).trans hT17
      replace hT18 := (hu230 _ (by decide)).trans hT18
      replace hT19 := (hu230 _ (by decide)).trans hT19
      replace hT20 := (hu230 _ (by decide)).trans hT20
      replace hT21 := (hu230 _ (by decide)).trans hT21
      replace hT22 := (hu230 _ (by decide)).trans hT22
      replace hT23 := (hu230 _ (by decide)).trans hT23
      replace hF := q_uc hF hu230 (by first | exact (q_sk (q_mi 8 rfl) q_s0) | simp)
      refine lv_aload_n hx hb d_9_4_21 rfl (lv_at hl 0 rfl) ?_
      refine q_get (ci := 11) (j := 4) (v := .ref (q 44)) C0 V i_Pri rfl rfl hT0 (by decide) w_389 rfl d_9_4_22 ?_
      refine lv_aload_n hx hb d_9_4_25 rfl (lv_at hl 0 rfl) ?_
      refine q_get (ci := 11) (j := 0) (v := .int t0_0) C0 V i_Pri rfl rfl hT0 (by decide) w_384 rfl d_9_4_26 ?_
      have c232 : t0_0 = 2 := q_Ieq (x := t0_0.toInt) (y := 2) rfl (by decide) (by have t1 : 0 ≤ t0_0.toInt ∧ t0_0.toInt ≤ 9 := btt0_0; have t2 : t0_0.toInt < 9 := b69; have t3 : t0_0.toInt ≠ 0 := b144; have t4 : t0_0.toInt ≠ 1 := b219; have t5 : t0_0.toInt = 2 := b221; omega)
      refine q_ti (v := 2) c232 ?_
      have hX234 := n_fx hI (n_s44 g q)
      refine q_aald (t := 6) (q := q 52) C0 V hX234 rfl (q_ix (x := 2) (by decide) (by omega) (by omega)) (show n_ft q ((2 : Int32).toNatClampNeg) = _ from n_ftv (j := 2) (by decide)) d_9_4_29 ?_
      refine lv_aload_n hx hb d_9_4_30 rfl (lv_at hl 0 rfl) ?_
      refine q_get (ci := 11) (j := 5) (v := .ref (q 1)) C0 V i_Pri rfl rfl hT0 (by decide) w_390 rfl d_9_4_31 ?_
      refine lv_iconst (v := 0) hx hb d_9_4_34 (by decide) ?_
      refine lv_aload_n hx hb d_9_4_35 rfl (lv_at hl 0 rfl) ?_
      refine q_get (ci := 11) (j := 5) (v := .ref (q 1)) C0 V i_Pri rfl rfl hT0 (by decide) w_390 rfl d_9_4_36 ?_
      refine q_get (ci := 1) (j := 2) (v := .int t4_0) C0 V i_She rfl rfl hT4 (by decide) w_58 rfl d_9_4_39 ?_
      refine q_gov V (q_runS (As := [.ref (q 52), .ref (q 1), .int 0, .int t4_0]) (rest := []) (d := 2) (mc := 0) (ms := 0) C0 V rfl LS_Pri_76 (X_Pri_copyInto l D g q u223 52 64 8 64 (n_h52 g q) 1 4100 513 4100 (n_h1 g q) 0 t4_0 (by decide) (by decide) (by decide) hI y226 hO225 t11_0 hT11 t4_0 hT4 t5_0 hT5 (by have y0 : (64 : Int32).toInt = 64 := rfl; have y1 : (8 : Int32).toInt = 8 := rfl; have y2 : (64 : Int32).toInt = 64 := rfl; have y3 : (4100 : Int32).toInt = 4100 := rfl; have y4 : (513 : Int32).toInt = 513 := rfl; have y5 : (4100 : Int32).toInt = 4100 := rfl; have y6 : (0 : Int32).toInt = 0 := rfl; omega) (by have y0 : (64 : Int32).toInt = 64 := rfl; have y1 : (8 : Int32).toInt = 8 := rfl; have y2 : (64 : Int32).toInt = 64 := rfl; have y3 : (4100 : Int32).toInt = 4100 := rfl; have y4 : (513 : Int32).toInt = 513 := rfl; have y5 : (4100 : Int32).toInt = 4100 := rfl; have y6 : (0 : Int32).toInt = 0 := rfl; have t1 : 0 ≤ t4_0.toInt ∧ t4_0.toInt ≤ 4100 := btt4_0; omega) (by have y0 : (64 : Int32).toInt = 64 := rfl; have y1 : (8 : Int32).toInt = 8 := rfl; have y2 : (64 : Int32).toInt = 64 := rfl; have y3 : (4100 : Int32).toInt = 4100 := rfl; have y4 : (513 : Int32).toInt = 513 := rfl; have y5 : (4100 : Int32).toInt = 4100 := rfl; have y6 : (0 : Int32).toInt = 0 := rfl; have t1 : t4_0.toInt ≤ 64 := pre0; have t2 : y226.toInt ≤ 0 := b228; omega) _) rfl hl.1 rfl (Nat.le_of_ble_eq_true rfl) ⟨by decide, by decide⟩ ⟨Nat.le_of_ble_eq_true rfl, Nat.le_of_ble_eq_true rfl⟩ d_9_4_42) (fun u235 H locs hp236 V => ?_)
      obtain ⟨hI, hZ9⟩ := hp236
      obtain ⟨hu245, hZ9⟩ := hZ9
      obtain ⟨y238, hZ9⟩ := hZ9
      obtain ⟨f239, hZ9⟩ := hZ9
      obtain ⟨hO237, hZ9⟩ := hZ9
      obtain ⟨hA240, hZ9⟩ := hZ9
      obtain ⟨b241, hZ9⟩ := hZ9
      obtain ⟨b242, hZ9⟩ := hZ9
      obtain ⟨-, hE244⟩ := hZ9
      replace hO237 : u235[52]? = (some (q 52, .inr (1, [.ref (q 53), .int 64, .int y238])) : Option (Nat × va_E)) := hO237
      replace hA240 : u235[53]? = (some (q 53, .inl (g 1, (8 : Int32).toNatClampNeg, .inr (.inl f239))) : Option (Nat × va_E)) := hA240
      obtain ⟨p246, e247⟩ : ∃ z, z = (F_Pri_copyInto (64 : Int32) (8 : Int32) (64 : Int32) (4100 : Int32) (513 : Int32) (4100 : Int32) (0 : Int32) t4_0 y226 t11_0 t4_0 t5_0) := ⟨_, rfl⟩
      have e248 : y238 = p246.1 := congrArg (fun z => z.1) (hE244.trans e247.symm)
      have e249 : f239 = p246.2 := congrArg (fun z => z.2) (hE244.trans e247.symm)
      replace b241 : q_F (y226.toInt ≤ y238.toInt) := b241
      replace b242 : q_F (y238.toInt ≤ 64) := b242
      replace hT0 := (hu245 _ (by decide)).trans hT0
      replace hT1 := (hu245 _ (by decide)).trans hT1
      replace hT2 := (hu245 _ (by decide)).trans hT2
      replace hT3 := (hu245 _ (by decide)).trans hT3
      replace hT6 := (hu245 _ (by decide)).trans hT6
      replace hT7 := (hu245 _ (by decide)).trans hT7
      replace hT8 := (hu245 _ (by decide)).trans hT8
      replace hT9 := (hu245 _ (by decide)).trans hT9
      replace hT12 := (hu245 _ (by decide)).trans hT12
      replace hT13 := (hu245 _ (by decide)).trans hT13
      replace hT14 := (hu245 _ (by decide)).trans hT14
      replace hT15 := (hu245 _ (by decide)).trans hT15
      replace hT16 := (hu245 _ (by decide)).trans hT16
      replace hT17 := (hu245 _ (by decide)).trans hT17
      replace hT18 := (hu245 _ (by decide)).trans hT18
      replace hT19 := (hu245 _ (by decide)).trans hT19
      replace hT20 := (hu245 _ (by decide)).trans hT20
      replace hT21 := (hu245 _ (by decide)).trans hT21
      replace hT22 := (hu245 _ (by decide)).trans hT22
      replace hT23 := (hu245 _ (by decide)).trans hT23
      replace hF := q_uc hF hu245 (by first | exact (q_sk (q_mi 8 rfl) (q_sk (q_mi 9 rfl) q_s0)) | simp)
      have hR250 := (show F_Pri_addText_c42_5 t0_0 t0_1 t0_2 t0_3 t1_0 t2_0 t3_0 t4_0 t5_0 t6_0 t7_0 t8_0 t9_0 t10_0 t11_0 t12_0 t13_0 t14_0 t15_0 t16_0 t17_0 t18_0 t19_0 t20_0 t21_0 t22_0 t23_0 p246 = (F_Pri_addText t0_0 t0_1 t0_2 t0_3 t1_0 t2_0 t3_0 t4_0 t5_0 t6_0 t7_0 t8_0 t9_0 t10_0 t11_0 t12_0 t13_0 t14_0 t15_0 t16_0 t17_0 t18_0 t19_0 t20_0 t21_0 t22_0 t23_0) from (by rw [e247, e231, F_Pri_addText.eq_1, if_neg c67, if_neg c70, if_neg c145, if_pos c220]))
      refine lv_aload_n hx hb d_9_4_45 rfl (lv_at hl 0 rfl) ?_
      refine lv_iconst (v := 4) hx hb d_9_4_46 (by decide) ?_
      refine lv_lconst (v := 0) hx hb d_9_4_47 (by decide) ?_
      refine lv_iconst (v := 0) hx hb d_9_4_48 (by decide) ?_
      refine q_gov V (q_runV (As := [.int 4, .long 0, .int 0]) (rest := []) (d := 1) (mc := 0) (ms := 0) (ci := 11) C0 V rfl LV_Pri_80 (X_Pri_addNumber l D g q u235  4 0 0 hI t0_0 t0_1 t0_2 t0_3 hT0 t1_0 hT1 t2_0 hT2 t3_0 hT3 (by have y0 : (4 : Int32).toInt = 4 := rfl; have y1 : (0 : Int64).toInt = 0 := rfl; have y2 : (0 : Int32).toInt = 0 := rfl; omega) (by have y0 : (4 : Int32).toInt = 4 := rfl; have y1 : (0 : Int64).toInt = 0 := rfl; have y2 : (0 : Int32).toInt = 0 := rfl; omega) _) rfl rfl hT0 rfl hl.1 rfl (Nat.le_of_ble_eq_true rfl) ⟨by decide, by decide⟩ ⟨Nat.le_of_ble_eq_true rfl, Nat.le_of_ble_eq_true rfl⟩ d_9_4_49) (fun u255 H locs hp256 V => ?_)
      obtain ⟨hI, hZ9⟩ := hp256
      obtain ⟨hu279, hZ9⟩ := hZ9
      obtain ⟨y258, hZ9⟩ := hZ9
      obtain ⟨y259, hZ9⟩ := hZ9
      obtain ⟨y260, hZ9⟩ := hZ9
      obtain ⟨y261, hZ9⟩ := hZ9
      obtain ⟨f262, hZ9⟩ := hZ9
      obtain ⟨f264, hZ9⟩ := hZ9
      obtain ⟨f266, hZ9⟩ := hZ9
      obtain ⟨hO257, hZ9⟩ := hZ9
      obtain ⟨hA263, hZ9⟩ := hZ9
      obtain ⟨hA265, hZ9⟩ := hZ9
      obtain ⟨hA267, hZ9⟩ := hZ9
      obtain ⟨b268, hZ9⟩ := hZ9
      obtain ⟨b269, hZ9⟩ := hZ9
      obtain ⟨b270, hZ9⟩ := hZ9
      obtain ⟨b271, hZ9⟩ := hZ9
      obtain ⟨b272, hZ9⟩ := hZ9
      obtain ⟨b273, hZ9⟩ := hZ9
      obtain ⟨b274, hZ9⟩ := hZ9
      obtain ⟨b275, hZ9⟩ := hZ9
      obtain ⟨b276, hZ9⟩ := hZ9
      obtain ⟨b277, hE278⟩ := hZ9
      replace hO257 : u255[40]? = (some (q 40, .inr (11, [.int y258, .ref (q 41), .ref (q 42), .ref (q 43), .ref (q 44), .ref (q 1), .ref (q 47), .ref (q 36), .ref (q 45), .int y259, .int y260, .int y261])) : Option (Nat × va_E)) := hO257
      replace hA263 : u255[41]? = (some (q 41, .inl (g 0, 9, .inl f262)) : Option (Nat × va_E)) := hA263
      replace hA265 : u255[42]? = (some (q 42, .inl (g 1, 9, .inr (.inl f264))) : Option (Nat × va_E)) := hA265
      replace hA267 : u255[43]? = (some (q 43, .inl (g 0, 9, .inl f266)) : Option (Nat × va_E)) := hA267
      obtain ⟨p280, e281⟩ : ∃ z, z = (F_Pri_addNumber (4 : Int32) (0 : Int64) (0 : Int32) t0_0 t0_1 t0_2 t0_3 t1_0 t2_0 t3_0) := ⟨_, rfl⟩
      have e282 : y258 = p280.1 := congrArg (fun z => z.1) (hE278.trans e281.symm)
      have e283 : y259 = p280.2.1 := congrArg (fun z => z.2.1) (hE278.trans e281.symm)
      have e284 : y260 = p280.2.2.1 := congrArg (fun z => z.2.2.1) (hE278.trans e281.symm)
      have e285 : y261 = p280.2.2.2.1 := congrArg (fun z => z.2.2.2.1) (hE278.trans e281.symm)
      have e286 : f262 = p280.2.2.2.2.1 := congrArg (fun z => z.2.2.2.2.1) (hE278.trans e281.symm)
      have e287 : f264 = p280.2.2.2.2.2.1 := congrArg (fun z => z.2.2.2.2.2.1) (hE278.trans e281.symm)
      have e288 : f266 = p280.2.2.2.2.2.2 := congrArg (fun z => z.2.2.2.2.2.2) (hE278.trans e281.symm)
      replace b268 : q_F (1 ≤ y258.toInt) := b268
      replace b269 : q_F (y258.toInt ≤ 9) := b269
      replace b270 : q_F (t0_0.toInt ≤ y258.toInt) := b270
      replace b271 : q_F (y258.toInt ≤ t0_0.toInt + 1) := b271
      replace b272 : q_F (t0_1.toInt ≤ y259.toInt) := b272
      replace b273 : q_F (y259.toInt ≤ t0_1.toInt) := b273
      replace b274 : q_F (t0_2.toInt ≤ y260.toInt) := b274
      replace b275 : q_F (y260.toInt ≤ t0_2.toInt) := b275
      replace b276 : q_F (t0_3.toInt ≤ y261.toInt) := b276
      replace b277 : q_F (y261.toInt ≤ t0_3.toInt) := b277
      replace hT6 := (hu279 _ (by decide)).trans hT6
      replace hT7 := (hu279 _ (by decide)).trans hT7
      replace hT8 := (hu279 _ (by decide)).trans hT8
      replace hT9 := (hu279 _ (by decide)).trans hT9
      replace hO237 := (hu279 _ (by decide)).trans hO237
      replace hA240 := (hu279 _ (by decide)).trans hA240
      replace hT12 := (hu279 _ (by decide)).trans hT12
      replace hT13 := (hu279 _ (by decide)).trans hT13
      replace hT14 := (hu279 _ (by decide)).trans hT14
      replace hT15 := (hu279 _ (by decide)).trans hT15
      replace hT16 := (hu279 _ (by decide)).trans hT16
      replace hT17 := (hu279 _ (by decide)).trans hT17
      replace hT18 := (hu279 _ (by decide)).trans hT18
      replace hT19 := (hu279 _ (by decide)).trans hT19
      replace hT20 := (hu279 _ (by decide)).trans hT20
      replace hT21 := (hu279 _ (by decide)).trans hT21
      replace hT22 := (hu279 _ (by decide)).trans hT22
      replace hT23 := (hu279 _ (by decide)).trans hT23
      replace hF := q_uc hF hu279 (by first | exact (q_sk (q_mi 0 rfl) (q_sk (q_mi 1 rfl) (q_sk (q_mi 2 rfl) (q_sk (q_mi 3 rfl) q_s0)))) | simp)
      have hR289 := (show F_Pri_addText_c49_6 t0_0 t0_1 t0_2 t0_3 t1_0 t2_0 t3_0 t4_0 t5_0 t6_0 t7_0 t8_0 t9_0 t10_0 t11_0 t12_0 t13_0 t14_0 t15_0 t16_0 t17_0 t18_0 t19_0 t20_0 t21_0 t22_0 t23_0 p246 y238 f239 p280 = (F_Pri_addText t0_0 t0_1 t0_2 t0_3 t1_0 t2_0 t3_0 t4_0 t5_0 t6_0 t7_0 t8_0 t9_0 t10_0 t11_0 t12_0 t13_0 t14_0 t15_0 t16_0 t17_0 t18_0 t19_0 t20_0 t21_0 t22_0 t23_0) from Eq.trans (by rw [e281, e249, e248, F_Pri_addText_c42_5.eq_1]) hR250)
      exact q_retv C0 V (⟨hI, hF, y258, y259, y260, y261, f262, f264, f266, t6_0, t7_0, t8_0, t9_0, y238, f239, t12_0, t13_0, t14_0, t15_0, t16_0, t17_0, t18_0, t19_0, t20_0, t21_0, t22_0, t23_0, hO257, hA263, hA265, hA267, hT6, hT7, hT8, hT9, hO237, hA240, hT12, hT13, hT14, hT15, hT16, hT17, hT18, hT19, hT20, hT21, hT22, hT23, (show 1 ≤ y258.toInt from (by first | with_reducible exact q_fe b268 | (have t1 : 1 ≤ y258.toInt := b268; omega))), (show y258.toInt ≤ 9 from (by first | with_reducible exact q_fe b269 | (have t1 : y258.toInt ≤ 9 := b269; omega))), (show 0 ≤ y259.toInt + 1 from (by have t1 : -1 ≤ t0_1.toInt ∧ t0_1.toInt ≤ 1000000 := btt0_1; have t2 : t0_1.toInt ≤ y259.toInt := b272; omega)), (show y259.toInt ≤ 1000000 from (by have t1 : -1 ≤ t0_1.toInt ∧ t0_1.toInt ≤ 1000000 := btt0_1; have t2 : y259.toInt ≤ t0_1.toInt := b273; omega)), (show 0 ≤ y261.toInt + 1 from (by have t1 : -1 ≤ t0_3.toInt ∧ t0_3.toInt ≤ 8 := btt0_3; have t2 : t0_3.toInt ≤ y261.toInt := b276; omega)), (show y261.toInt ≤ 8 from (by have t1 : -1 ≤ t0_3.toInt ∧ t0_3.toInt ≤ 8 := btt0_3; have t2 : y261.toInt ≤ t0_3.toInt := b277; omega)), (show 0 ≤ t6_0.toInt from (by first | with_reducible exact (q_fe btt6_0).2 | with_reducible exact (q_fe btt6_0).1 | (have t1 : 0 ≤ t6_0.toInt ∧ t6_0.toInt ≤ 64 := btt6_0; omega))), (show t6_0.toInt ≤ 64 from (by first | with_reducible exact (q_fe btt6_0).2 | with_reducible exact (q_fe btt6_0).1 | (have t1 : 0 ≤ t6_0.toInt ∧ t6_0.toInt ≤ 64 := btt6_0; omega))), (show 0 ≤ t8_0.toInt from (by first | with_reducible exact (q_fe btt8_0).2 | with_reducible exact (q_fe btt8_0).1 | (have t1 : 0 ≤ t8_0.toInt ∧ t8_0.toInt ≤ 64 := btt8_0; omega))), (show t8_0.toInt ≤ 64 from (by first | with_reducible exact (q_fe btt8_0).2 | with_reducible exact (q_fe btt8_0).1 | (have t1 : 0 ≤ t8_0.toInt ∧ t8_0.toInt ≤ 64 := btt8_0; omega))), (show 0 ≤ y238.toInt from (by have t1 : 0 ≤ y226.toInt := b227; have t2 : y226.toInt ≤ y238.toInt := b241; omega)), (show y238.toInt ≤ 64 from (by first | with_reducible exact q_fe b242 | (have t1 : y238.toInt ≤ 64 := b242; omega))), (show 0 ≤ t12_0.toInt from (by first | with_reducible exact (q_fe btt12_0).2 | with_reducible exact (q_fe btt12_0).1 | (have t1 : 0 ≤ t12_0.toInt ∧ t12_0.toInt ≤ 64 := btt12_0; omega))), (show t12_0.toInt ≤ 64 from (by first | with_reducible exact (q_fe btt12_0).2 | with_reducible exact (q_fe btt12_0).1 | (have t1 : 0 ≤ t12_0.toInt ∧ t12_0.toInt ≤ 64 := btt12_0; omega))), (show 0 ≤ t14_0.toInt from (by first | with_reducible exact (q_fe btt14_0).2 | with_reducible exact (q_fe btt14_0).1 | (have t1 : 0 ≤ t14_0.toInt ∧ t14_0.toInt ≤ 64 := btt14_0; omega))), (show t14_0.toInt ≤ 64 from (by first | with_reducible exact (q_fe btt14_0).2 | with_reducible exact (q_fe btt14_0).1 | (have t1 : 0 ≤ t14_0.toInt ∧ t14_0.toInt ≤ 64 := btt14_0; omega))), (show 0 ≤ t16_0.toInt from (by first | with_reducible exact (q_fe btt16_0).2 | with_reducible exact (q_fe btt16_0).1 | (have t1 : 0 ≤ t16_0.toInt ∧ t16_0.toInt ≤ 64 := btt16_0; omega))), (show t16_0.toInt ≤ 64 from (by first | with_reducible exact (q_fe btt16_0).2 | with_reducible exact (q_fe btt16_0).1 | (have t1 : 0 ≤ t16_0.toInt ∧ t16_0.toInt ≤ 64 := btt16_0; omega))), (show 0 ≤ t18_0.toInt from (by first | with_reducible exact (q_fe btt18_0).2 | with_reducible exact (q_fe btt18_0).1 | (have t1 : 0 ≤ t18_0.toInt ∧ t18_0.toInt ≤ 64 := btt18_0; omega))), (show t18_0.toInt ≤ 64 from (by first | with_reducible exact (q_fe btt18_0).2 | with_reducible exact (q_fe btt18_0).1 | (have t1 : 0 ≤ t18_0.toInt ∧ t18_0.toInt ≤ 64 := btt18_0; omega))), (show 0 ≤ t20_0.toInt from (by first | with_reducible exact (q_fe btt20_0).2 | with_reducible exact (q_fe btt20_0).1 | (have t1 : 0 ≤ t20_0.toInt ∧ t20_0.toInt ≤ 64 := btt20_0; omega))), (show t20_0.toInt ≤ 64 from (by first | with_reducible exact (q_fe btt20_0).2 | with_reducible exact (q_fe btt20_0).1 | (have t1 : 0 ≤ t20_0.toInt ∧ t20_0.toInt ≤ 64 := btt20_0; omega))), (show 0 ≤ t22_0.toInt from (by first | with_reducible exact (q_fe btt22_0).2 | with_reducible exact (q_fe btt22_0).1 | (have t1 : 0 ≤ t22_0.toInt ∧ t22_0.toInt ≤ 64 := btt22_0; omega))), (show t22_0.toInt ≤ 64 from (by first | with_reducible exact (q_fe btt22_0).2 | with_reducible exact (q_fe btt22_0).1 | (have t1 : 0 ≤ t22_0.toInt ∧ t22_0.toInt ≤ 64 := btt22_0; omega))), (show t0_0.toInt ≤ y258.toInt from (by first | with_reducible exact q_fe b270 | (have t1 : t0_0.toInt ≤ y258.toInt := b270; omega))), (show y258.toInt ≤ t0_0.toInt + 1 from (by first | with_reducible exact q_fe b271 | (have t1 : y258.toInt ≤ t0_0.toInt + 1 := b271; omega))), (show t0_1.toInt ≤ y259.toInt from (by first | with_reducible exact q_fe b272 | (have t1 : t0_1.toInt ≤ y259.toInt := b272; omega))), (show y259.toInt ≤ t0_1.toInt from (by first | with_reducible exact q_fe b273 | (have t1 : y259.toInt ≤ t0_1.toInt := b273; omega))), (show t0_2.toInt ≤ y260.toInt from (by first | with_reducible exact q_fe b274 | (have t1 : t0_2.toInt ≤ y260.toInt := b274; omega))), (show y260.toInt ≤ t0_2.toInt from (by first | with_reducible exact q_fe b275 | (have t1 : y260.toInt ≤ t0_2.toInt := b275; omega))), (show t0_3.toInt ≤ y261.toInt from (by first | with_reducible exact q_fe b276 | (have t1 : t0_3.toInt ≤ y261.toInt := b276; omega))), (show y261.toInt ≤ t0_3.toInt from (by first | with_reducible exact q_fe b277 | (have t1 : y261.toInt ≤ t0_3.toInt := b277; omega))), (show (y258, y259, y260, y261, f262, f264, f266, t6_0, t7_0, t8_0, t9_0, y238, f239, t12_0, t13_0, t14_0, t15_0, t16_0, t17_0, t18_0, t19_0, t20_0, t21_0, t22_0, t23_0) = (F_Pri_addText t0_0 t0_1 t0_2 t0_3 t1_0 t2_0 t3_0 t4_0 t5_0 t6_0 t7_0 t8_0 t9_0 t10_0 t11_0 t12_0 t13_0 t14_0 t15_0 t16_0 t17_0 t18_0 t19_0 t20_0 t21_0 t22_0 t23_0) from Eq.trans (by rw [e288, e287, e286, e285, e284, e283, e282, F_Pri_addText_c49_6.eq_1]) hR289)⟩) d_9_4_52
    have b294 : q_F (t0_0.toInt ≠ 2) := (q_neI c220)
    by_cases c295 : t0_0 = 3
    ·
      have b296 : q_F (t0_0.toInt = 3) := (q_eqI c295)
      refine q_ti (v := 3) c295 ?_
      have hX297 := n_fx hI (n_s44 g q)
      refine q_aald (t := 6) (q := q 54) C0 V hX297 rfl (q_ix (x := 3) (by decide) (by omega) (by omega)) (show n_ft q ((3 : Int32).toNatClampNeg) = _ from n_ftv (j := 3) (by decide)) d_9_4_17 ?_
      refine q_gov V (q_runV (As := []) (rest := []) (d := 1) (mc := 0) (ms := 0) (ci := 1) C0 V rfl LV_Pri_70 (X_She_clear l D g q ws 54 64 8 64 (n_h54 g q)  hI t12_0 hT12  _) rfl rfl hT12 rfl hl.1 rfl (Nat.le_of_ble_eq_true rfl) ⟨by decide, by decide⟩ ⟨Nat.le_of_ble_eq_true rfl, Nat.le_of_ble_eq_true rfl⟩ d_9_4_18) (fun u298 H locs hp299 V => ?_)
      obtain ⟨hI, hZ9⟩ := hp299
      obtain ⟨hu305, hZ9⟩ := hZ9
      obtain ⟨y301, hZ9⟩ := hZ9
      obtain ⟨hO300, hZ9⟩ := hZ9
      obtain ⟨b302, hZ9⟩ := hZ9
      obtain ⟨b303, hE304⟩ := hZ9
      replace hO300 : u298[54]? = (some (q 54, .inr (1, [.ref (q 55), .int 64, .int y301])) : Option (Nat × va_E)) := hO300
      have e306 : y301 = (F_She_clear (64 : Int32) (8 : Int32) (64 : Int32) t12_0) := hE304
      replace b302 : q_F (0 ≤ y301.toInt) := b302
      replace b303 : q_F (y301.toInt ≤ 0) := b303
      replace hT0 := (hu305 _ (by decide)).trans hT0
      replace hT1 := (hu305 _ (by decide)).trans hT1
      replace hT2 := (hu305 _ (by decide)).trans hT2
      replace hT3 := (hu305 _ (by decide)).trans hT3
      replace hT4 := (hu305 _ (by decide)).trans hT4
      replace hT5 := (hu305 _ (by decide)).trans hT5
      replace hT6 := (hu305 _ (by decide)).trans hT6
      replace hT7 := (hu305 _ (by decide)).trans hT7
      replace hT8 := (hu305 _ (by decide)).trans hT8
      replace hT9 := (hu305 _ (by decide)).trans hT9
      replace hT10 := (hu305 _ (by decide)).trans hT10
      replace hT11 := (hu305 _ (by decide)).trans hT11
      replace hT13 := (hu305 _ (by decide)).trans hT13
      replace hT14 := (hu305 _ (by decide)).trans hT14
      replace hT15 := (hu305 _ (by decide)).trans hT15
      replace hT16 := (hu305 _ (by decide)).trans hT16
      replace hT17 := (hu305 _ (by decide)).trans hT17
      replace hT18 := (hu305 _ (by decide)).trans hT18
      replace hT19 := (hu305 _ (by decide)).trans hT19
      replace hT20 := (hu305 _ (by decide)).trans hT20
      replace hT21 := (hu305 _ (by decide)).trans hT21
      replace hT22 := (hu305 _ (by decide)).trans hT22
      replace hT23 := (hu305 _ (by decide)).trans hT23
      replace hF := q_uc hF hu305 (by first | exact (q_sk (q_mi 10 rfl) q_s0) | simp)
      refine lv_aload_n hx hb d_9_4_21 rfl (lv_at hl 0 rfl) ?_
      refine q_get (ci := 11) (j := 4) (v := .ref (q 44)) C0 V i_Pri rfl rfl hT0 (by decide) w_389 rfl d_9_4_22 ?_
      refine lv_aload_n hx hb d_9_4_25 rfl (lv_at hl 0 rfl) ?_
      refine q_get (ci := 11) (j := 0) (v := .int t0_0) C0 V i_Pri rfl rfl hT0 (by decide) w_384 rfl d_9_4_26 ?_
      have c307 : t0_0 = 3 := q_Ieq (x := t0_0.toInt) (y := 3) rfl (by decide) (by have t1 : 0 ≤ t0_0.toInt ∧ t0_0.toInt ≤ 9 := btt0_0; have t2 : t0_0.toInt < 9 := b69; have t3 : t0_0.toInt ≠ 0 := b144; have t4 : t0_0.toInt ≠ 1 := b219; have t5 : t0_0.toInt ≠ 2 := b294; have t6 : t0_0.toInt = 3 := b296; omega)
      refine q_ti (v := 3) c307 ?_
      have hX309 := n_fx hI (n_s44 g q)
      refine q_aald (t := 6) (q := q 54) C0 V hX309 rfl (q_ix (x := 3) (by decide) (by omega) (by omega)) (show n_ft q ((3 : Int32).toNatClampNeg) = _ from n_ftv (j := 3) (by decide)) d_9_4_29 ?_
      refine lv_aload_n hx hb d_9_4_30 rfl (lv_at hl 0 rfl) ?_
      refine q_get (ci := 11) (j := 5) (v := .ref (q 1)) C0 V i_Pri rfl rfl hT0 (by decide) w_390 rfl d_9_4_31 ?_
      refine lv_iconst (v := 0) hx hb d_9_4_34 (by decide) ?_
      refine lv_aload_n hx hb d_9_4_35 rfl (lv_at hl 0 rfl) ?_
      refine q_get (ci := 11) (j := 5) (v := .ref (q 1)) C0 V i_Pri rfl rfl hT0 (by decide) w_390 rfl d_9_4_36 ?_
      refine q_get (ci := 1) (j := 2) (v := .int t4_0) C0 V i_She rfl rfl hT4 (by decide) w_58 rfl d_9_4_39 ?_
      refine q_gov V (q_runS (As := [.ref (q 54), .ref (q 1), .int 0, .int t4_0]) (rest := []) (d := 2) (mc := 0) (ms := 0) C0 V rfl LS_Pri_76 (X_Pri_copyInto l D g q u298 54 64 8 64 (n_h54 g q) 1 4100 513 4100 (n_h1 g q) 0 t4_0 (by decide) (by decide) (by decide) hI y301 hO300 t13_0 hT13 t4_0 hT4 t5_0 hT5 (by have y0 : (64 : Int32).toInt = 64 := rfl; have y1 : (8 : Int32).toInt = 8 := rfl; have y2 : (64 : Int32).toInt = 64 := rfl; have y3 : (4100 : Int32).toInt = 4100 := rfl; have y4 : (513 : Int32).toInt = 513 := rfl; have y5 : (4100 : Int32).toInt = 4100 := rfl; have y6 : (0 : Int32).toInt = 0 := rfl; omega) (by have y0 : (64 : Int32).toInt = 64 := rfl; have y1 : (8 : Int32).toInt = 8 := rfl; have y2 : (64 : Int32).toInt = 64 := rfl; have y3 : (4100 : Int32).toInt = 4100 := rfl; have y4 : (513 : Int32).toInt = 513 := rfl; have y5 : (4100 : Int32).toInt = 4100 := rfl; have y6 : (0 : Int32).toInt = 0 := rfl; have t1 : 0 ≤ t4_0.toInt ∧ t4_0.toInt ≤ 4100 := btt4_0; omega) (by have y0 : (64 : Int32).toInt = 64 := rfl; have y1 : (8 : Int32).toInt = 8 := rfl; have y2 : (64 : Int32).toInt = 64 := rfl; have y3 : (4100 : Int32).toInt = 4100 := rfl; have y4 : (513 : Int32).toInt = 513 := rfl; have y5 : (4100 : Int32).toInt = 4100 := rfl; have y6 : (0 : Int32).toInt = 0 := rfl; have t1 : t4_0.toInt ≤ 64 := pre0; have t2 : y301.toInt ≤ 0 := b303; omega) _) rfl hl.1 rfl (Nat.le_of_ble_eq_true rfl) ⟨by decide, by decide⟩ ⟨Nat.le_of_ble_eq_true rfl, Nat.le_of_ble_eq_true rfl⟩ d_9_4_42) (fun u310 H locs hp311 V => ?_)
      obtain ⟨hI, hZ9⟩ := hp311
      obtain ⟨hu320, hZ9⟩ := hZ9
      obtain ⟨y313, hZ9⟩ := hZ9
      obtain ⟨f314, hZ9⟩ := hZ9
      obtain ⟨hO312, hZ9⟩ := hZ9
      obtain ⟨hA315, hZ9⟩ := hZ9
      obtain ⟨b316, hZ9⟩ := hZ9
      obtain ⟨b317, hZ9⟩ := hZ9
      obtain ⟨-, hE319⟩ := hZ9
      replace hO312 : u310[54]? = (some (q 54, .inr (1, [.ref (q 55), .int 64, .int y313])) : Option (Nat × va_E)) := hO312
      replace hA315 : u310[55]? = (some (q 55, .inl (g 1, (8 : Int32).toNatClampNeg, .inr (.inl f314))) : Option (Nat × va_E)) := hA315
      obtain ⟨p321, e322⟩ : ∃ z, z = (F_Pri_copyInto (64 : Int32) (8 : Int32) (64 : Int32) (4100 : Int32) (513 : Int32) (4100 : Int32) (0 : Int32) t4_0 y301 t13_0 t4_0 t5_0) := ⟨_, rfl⟩
      have e323 : y313 = p321.1 := congrArg (fun z => z.1) (hE319.trans e322.symm)
      have e324 : f314 = p321.2 := congrArg (fun z => z.2) (hE319.trans e322.symm)
      replace b316 : q_F (y301.toInt ≤ y313.toInt) := b316
      replace b317 : q_F (y313.toInt ≤ 64) := b317
      replace hT0 := (hu320 _ (by decide)).trans hT0
      replace hT1 := (hu320 _ (by decide)).trans hT1
      replace hT2 := (hu320 _ (by decide)).trans hT2
      replace hT3 := (hu320 _ (by decide)).trans hT3
      replace hT6 := (hu320 _ (by decide)).trans hT6
      replace hT7 := (hu320 _ (by decide)).trans hT7
      replace hT8 := (hu320 _ (by decide)).trans hT8
      replace hT9 := (hu320 _ (by decide)).trans hT9
      replace hT10 := (hu320 _ (by decide)).trans hT10
      replace hT11 := (hu320 _ (by decide)).trans hT11
      replace hT14 := (hu320 _ (by decide)).trans hT14
      replace hT15 := (hu320 _ (by decide)).trans hT15
      replace hT16 := (hu320 _ (by decide)).trans hT16
      replace hT17 := (hu320 _ (by decide)).trans hT17
      replace hT18 := (hu320 _ (by decide)).trans hT18
      replace hT19 := (hu320 _ (by decide)).trans hT19
      replace hT20 := (hu320 _ (by decide)).trans hT20
      replace hT21 := (hu320 _ (by decide)).trans hT21
      replace hT22 := (hu320 _ (by decide)).trans hT22
      replace hT23 := (hu320 _ (by decide)).trans hT23
      replace hF := q_uc hF hu320 (by first | exact (q_sk (q_mi 10 rfl) (q_sk (q_mi 11 rfl) q_s0)) | simp)
      have hR325 := (show F_Pri_addText_c42_7 t0_0 t0_1 t0_2 t0_3 t1_0 t2_0 t3_0 t4_0 t5_0 t6_0 t7_0 t8_0 t9_0 t10_0 t11_0 t12_0 t13_0 t14_0 t15_0 t16_0 t17_0 t18_0 t19_0 t20_0 t21_0 t22_0 t23_0 p321 = (F_Pri_addText t0_0 t0_1 t0_2 t0_3 t1_0 t2_0 t3_0 t4_0 t5_0 t6_0 t7_0 t8_0 t9_0 t10_0 t11_0 t12_0 t13_0 t14_0 t15_0 t16_0 t17_0 t18_0 t19_0 t20_0 t21_0 t22_0 t23_0) from (by rw [e322, e306, F_Pri_addText.eq_1, if_neg c67, if_neg c70, if_neg c145, if_neg c220, if_pos c295]))
      refine lv_aload_n hx hb d_9_4_45 rfl (lv_at hl 0 rfl) ?_
      refine lv_iconst (v := 4) hx hb d_9_4_46 (by decide) ?_
      refine lv_lconst (v := 0) hx hb d_9_4_47 (by decide) ?_
      refine lv_iconst (v := 0) hx hb d_9_4_48 (by decide) ?_
      refine q_gov V (q_runV (As := [.int 4, .long 0, .int 0]) (rest := []) (d := 1) (mc := 0) (ms := 0) (ci := 11) C0 V rfl LV_Pri_80 (X_Pri_addNumber l D g q u310  4 0 0 hI t0_0 t0_1 t0_2 t0_3 hT0 t1_0 hT1 t2_0 hT2 t3_0 hT3 (by have y0 : (4 : Int32).toInt = 4 := rfl; have y1 : (0 : Int64).toInt = 0 := rfl; have y2 : (0 : Int32).toInt = 0 := rfl; omega) (by have y0 : (4 : Int32).toInt = 4 := rfl; have y1 : (0 : Int64).toInt = 0 := rfl; have y2 : (0 : Int32).toInt = 0 := rfl; omega) _) rfl rfl hT0 rfl hl.1 rfl (Nat.le_of_ble_eq_true rfl) ⟨by decide, by decide⟩ ⟨Nat.le_of_ble_eq_true rfl, Nat.le_of_ble_eq_true rfl⟩ d_9_4_49) (fun u330 H locs hp331 V => ?_)
      obtain ⟨hI, hZ9⟩ := hp331
      obtain ⟨hu354, hZ9⟩ := hZ9
      obtain ⟨y333, hZ9⟩ := hZ9
      obtain ⟨y334, hZ9⟩ := hZ9
      obtain ⟨y335, hZ9⟩ := hZ9
      obtain ⟨y336, hZ9⟩ := hZ9
      obtain ⟨f337, hZ9⟩ := hZ9
      obtain ⟨f339, hZ9⟩ := hZ9
      obtain ⟨f341, hZ9⟩ := hZ9
      obtain ⟨hO332, hZ9⟩ := hZ9
      obtain ⟨hA338, hZ9⟩ := hZ9
      obtain ⟨hA340, hZ9⟩ := hZ9
      obtain ⟨hA342, hZ9⟩ := hZ9
      obtain ⟨b343, hZ9⟩ := hZ9
      obtain ⟨b344, hZ9⟩ := hZ9
      obtain ⟨b345, hZ9⟩ := hZ9
      obtain ⟨b346, hZ9⟩ := hZ9
      obtain ⟨b347, hZ9⟩ := hZ9
      obtain ⟨b348, hZ9⟩ := hZ9
      obtain ⟨b349, hZ9⟩ := hZ9
      obtain ⟨b350, hZ9⟩ := hZ9
      obtain ⟨b351, hZ9⟩ := hZ9
      obtain ⟨b352, hE353⟩ := hZ9
      replace hO332 : u330[40]? = (some (q 40, .inr (11, [.int y333, .ref (q 41), .ref (q 42), .ref (q 43), .ref (q 44), .ref (q 1), .ref (q 47), .ref (q 36), .ref (q 45), .int y334, .int y335, .int y336])) : Option (Nat × va_E)) := hO332
      replace hA338 : u330[41]? = (some (q 41, .inl (g 0, 9, .inl f337)) : Option (Nat × va_E)) := hA338
      replace hA340 : u330[42]? = (some (q 42, .inl (g 1, 9, .inr (.inl f339))) : Option (Nat × va_E)) := hA340
      replace hA342 : u330[43]? = (some (q 43, .inl (g 0, 9, .inl f341)) : Option (Nat × va_E)) := hA342
      obtain ⟨p355, e356⟩ : ∃ z, z = (F_Pri_addNumber (4 : Int32) (0 : Int64) (0 : Int32) t0_0 t0_1 t0_2 t0_3 t1_0 t2_0 t3_0) := ⟨_, rfl⟩
      have e357 : y333 = p355.1 := congrArg (fun z => z.1) (hE353.trans e356.symm)
      have e358 : y334 = p355.2.1 := congrArg (fun z => z.2.1) (hE353.trans e356.symm)
      have e359 : y335 = p355.2.2.1 := congrArg (fun z => z.2.2.1) (hE353.trans e356.symm)
      have e360 : y336 = p355.2.2.2.1 := congrArg (fun z => z.2.2.2.1) (hE353.trans e356.symm)
      have e361 : f337 = p355.2.2.2.2.1 := congrArg (fun z => z.2.2.2.2.1) (hE353.trans e356.symm)
      have e362 : f339 = p355.2.2.2.2.2.1 := congrArg (fun z => z.2.2.2.2.2.1) (hE353.trans e356.symm)
      have e363 : f341 = p355.2.2.2.2.2.2 := congrArg (fun z => z.2.2.2.2.2.2) (hE353.trans e356.symm)
      replace b343 : q_F (1 ≤ y333.toInt) := b343
      replace b344 : q_F (y333.toInt ≤ 9) := b344
      replace b345 : q_F (t0_0.toInt ≤ y333.toInt) := b345
      replace b346 : q_F (y333.toInt ≤ t0_0.toInt + 1) := b346
      replace b347 : q_F (t0_1.toInt ≤ y334.toInt) := b347
      replace b348 : q_F (y334.toInt ≤ t0_1.toInt) := b348
      replace b349 : q_F (t0_2.toInt ≤ y335.toInt) := b349
      replace b350 : q_F (y335.toInt ≤ t0_2.toInt) := b350
      replace b351 : q_F (t0_3.toInt ≤ y336.toInt) := b351
      replace b352 : q_F (y336.toInt ≤ t0_3.toInt) := b352
      replace hT6 := (hu354 _ (by decide)).trans hT6
      replace hT7 := (hu354 _ (by decide)).trans hT7
      replace hT8 := (hu354 _ (by decide)).trans hT8
      replace hT9 := (hu354 _ (by decide)).trans hT9
      replace hT10 := (hu354 _ (by decide)).trans hT10
      replace hT11 := (hu354 _ (by decide)).trans hT11
      replace hO312 := (hu354 _ (by decide)).trans hO312
      replace hA315 := (hu354 _ (by decide)).trans hA315
      replace hT14 := (hu354 _ (by decide)).trans hT14
      replace hT15 := (hu354 _ (by decide)).trans hT15
      replace hT16 := (hu354 _ (by decide)).trans hT16
      replace hT17 := (hu354 _ (by decide)).trans hT17
      replace hT18 := (hu354 _ (by decide)).trans hT18
      replace hT19 := (hu354 _ (by decide)).trans hT19
      replace hT20 := (hu354 _ (by decide)).trans hT20
      replace hT21 := (hu354 _ (by decide)).trans hT21
      replace hT22 := (hu354 _ (by decide)).trans hT22
      replace hT23 := (hu354 _ (by decide)).trans hT23
      replace hF := q_uc hF hu354 (by first | exact (q_sk (q_mi 0 rfl) (q_sk (q_mi 1 rfl) (q_sk (q_mi 2 rfl) (q_sk (q_mi 3 rfl) q_s0)))) | simp)
      have hR364 := (show F_Pri_addText_c49_8 t0_0 t0_1 t0_2 t0_3 t1_0 t2_0 t3_0 t4_0 t5_0 t6_0 t7_0 t8_0 t9_0 t10_0 t11_0 t12_0 t13_0 t14_0 t15_0 t16_0 t17_0 t18_0 t19_0 t20_0 t21_0 t22_0 t23_0 p321 y313 f314 p355 = (F_Pri_addText t0_0 t0_1 t0_2 t0_3 t1_0 t2_0 t3_0 t4_0 t5_0 t6_0 t7_0 t8_0 t9_0 t10_0 t11_0 t12_0 t13_0 t14_0 t15_0 t16_0 t17_0 t18_0 t19_0 t20_0 t21_0 t22_0 t23_0) from Eq.trans (by rw [e356, e324, e323, F_Pri_addText_c42_7.eq_1]) hR325)
      exact q_retv C0 V (⟨hI, hF, y333, y334, y335, y336, f337, f339, f341, t6_0, t7_0, t8_0, t9_0, t10_0, t11_0, y313, f314, t14_0, t15_0, t16_0, t17_0, t18_0, t19_0, t20_0, t21_0, t22_0, t23_0, hO332, hA338, hA340, hA342, hT6, hT7, hT8, hT9, hT10, hT11, hO312, hA315, hT14, hT15, hT16, hT17, hT18, hT19, hT20, hT21, hT22, hT23, (show 1 ≤ y333.toInt from (by first | with_reducible exact q_fe b343 | (have t1 : 1 ≤ y333.toInt := b343; omega))), (show y333.toInt ≤ 9 from (by first | with_reducible exact q_fe b344 | (have t1 : y333.toInt ≤ 9 := b344; omega))), (show 0 ≤ y334.toInt + 1 from (by have t1 : -1 ≤ t0_1.toInt ∧ t0_1.toInt ≤ 1000000 := btt0_1; have t2 : t0_1.toInt ≤ y334.toInt := b347; omega)), (show y334.toInt ≤ 1000000 from (by have t1 : -1 ≤ t0_1.toInt ∧ t0_1.toInt ≤ 1000000 := btt0_1; have t2 : y334.toInt ≤ t0_1.toInt := b348; omega)), (show 0 ≤ y336.toInt + 1 from (by have t1 : -1 ≤ t0_3.toInt ∧ t0_3.toInt ≤ 8 := btt0_3; have t2 : t0_3.toInt ≤ y336.toInt := b351; omega)), (show y336.toInt ≤ 8 from (by have t1 : -1 ≤ t0_3.toInt ∧ t0_3.toInt ≤ 8 := btt0_3; have t2 : y336.toInt ≤ t0_3.toInt := b352; omega)), (show 0 ≤ t6_0.toInt from (by first | with_reducible exact (q_fe btt6_0).2 | with_reducible exact (q_fe btt6_0).1 | (have t1 : 0 ≤ t6_0.toInt ∧ t6_0.toInt ≤ 64 := btt6_0; omega))), (show t6_0.toInt ≤ 64 from (by first | with_reducible exact (q_fe btt6_0).2 | with_reducible exact (q_fe btt6_0).1 | (have t1 : 0 ≤ t6_0.toInt ∧ t6_0.toInt ≤ 64 := btt6_0; omega))), (show 0 ≤ t8_0.toInt from (by first | with_reducible exact (q_fe btt8_0).2 | with_reducible exact (q_fe btt8_0).1 | (have t1 : 0 ≤ t8_0.toInt ∧ t8_0.toInt ≤ 64 := btt8_0; omega))), (show t8_0.toInt ≤ 64 from (by first | with_reducible exact (q_fe btt8_0).2 | with_reducible exact (q_fe btt8_0).1 | (have t1 : 0 ≤ t8_0.toInt ∧ t8_0.toInt ≤ 64 := btt8_0; omega))), (show 0 ≤ t10_0.toInt from (by first | with_reducible exact (q_fe btt10_0).2 | with_reducible exact (q_fe btt10_0).1 | (have t1 : 0 ≤ t10_0.toInt ∧ t10_0.toInt ≤ 64 := btt10_0; omega))), (show t10_0.toInt ≤ 64 from (by first | with_reducible exact (q_fe btt10_0).2 | with_reducible exact (q_fe btt10_0).1 | (have t1 : 0 ≤ t10_0.toInt ∧ t10_0.toInt ≤ 64 := btt10_0; omega))), (show 0 ≤ y313.toInt from (by have t1 : 0 ≤ y301.toInt := b302; have t2 : y301.toInt ≤ y313.toInt := b316; omega)), (show y313.toInt ≤ 64 from (by first | with_reducible exact q_fe b317 | (have t1 : y313.toInt ≤ 64 := b317; omega))), (show 0 ≤ t14_0.toInt from (by first | with_reducible exact (q_fe btt14_0).2 | with_reducible exact (q_fe btt14_0).1 | (have t1 : 0 ≤ t14_0.toInt ∧ t14_0.toInt ≤ 64 := btt14_0; omega))), (show t14_0.toInt ≤ 64 from (by first | with_reducible exact (q_fe btt14_0).2 | with_reducible exact (q_fe btt14_0).1 | (have t1 : 0 ≤ t14_0.toInt ∧ t14_0.toInt ≤ 64 := btt14_0; omega))), (show 0 ≤ t16_0.toInt from (by first | with_reducible exact (q_fe btt16_0).2 | with_reducible exact (q_fe btt16_0).1 | (have t1 : 0 ≤ t16_0.toInt ∧ t16_0.toInt ≤ 64 := btt16_0; omega))), (show t16_0.toInt ≤ 64 from (by first | with_reducible exact (q_fe btt16_0).2 | with_reducible exact (q_fe btt16_0).1 | (have t1 : 0 ≤ t16_0.toInt ∧ t16_0.toInt ≤ 64 := btt16_0; omega))), (show 0 ≤ t18_0.toInt from (by first | with_reducible exact (q_fe btt18_0).2 | with_reducible exact (q_fe btt18_0).1 | (have t1 : 0 ≤ t18_0.toInt ∧ t18_0.toInt ≤ 64 := btt18_0; omega))), (show t18_0.toInt ≤ 64 from (by first | with_reducible exact (q_fe btt18_0).2 | with_reducible exact (q_fe btt18_0).1 | (have t1 : 0 ≤ t18_0.toInt ∧ t18_0.toInt ≤ 64 := btt18_0; omega))), (show 0 ≤ t20_0.toInt from (by first | with_reducible exact (q_fe btt20_0).2 | with_reducible exact (q_fe btt20_0).1 | (have t1 : 0 ≤ t20_0.toInt ∧ t20_0.toInt ≤ 64 := btt20_0; omega))), (show t20_0.toInt ≤ 64 from (by first | with_reducible exact (q_fe btt20_0).2 | with_reducible exact (q_fe btt20_0).1 | (have t1 : 0 ≤ t20_0.toInt ∧ t20_0.toInt ≤ 64 := btt20_0; omega))), (show 0 ≤ t22_0.toInt from (by first | with_reducible exact (q_fe btt22_0).2 | with_reducible exact (q_fe btt22_0).1 | (have t1 : 0 ≤ t22_0.toInt ∧ t22_0.toInt ≤ 64 := btt22_0; omega))), (show t22_0.toInt ≤ 64 from (by first | with_reducible exact (q_fe btt22_0).2 | with_reducible exact (q_fe btt22_0).1 | (have t1 : 0 ≤ t22_0.toInt ∧ t22_0.toInt ≤ 64 := btt22_0; omega))), (show t0_0.toInt ≤ y333.toInt from (by first | with_reducible exact q_fe b345 | (have t1 : t0_0.toInt ≤ y333.toInt := b345; omega))), (show y333.toInt ≤ t0_0.toInt + 1 from (by first | with_reducible exact q_fe b346 | (have t1 : y333.toInt ≤ t0_0.toInt + 1 := b346; omega))), (show t0_1.toInt ≤ y334.toInt from (by first | with_reducible exact q_fe b347 | (have t1 : t0_1.toInt ≤ y334.toInt := b347; omega))), (show y334.toInt ≤ t0_1.toInt from (by first | with_reducible exact q_fe b348 | (have t1 : y334.toInt ≤ t0_1.toInt := b348; omega))), (show t0_2.toInt ≤ y335.toInt from (by first | with_reducible exact q_fe b349 | (have t1 : t0_2.toInt ≤ y335.toInt := b349; omega))), (show y335.toInt ≤ t0_2.toInt from (by first | with_reducible exact q_fe b350 | (have t1 : y335.toInt ≤ t0_2.toInt := b350; omega))), (show t0_3.toInt ≤ y336.toInt from (by first | with_reducible exact q_fe b351 | (have t1 : t0_3.toInt ≤ y336.toInt := b351; omega))), (show y336.toInt ≤ t0_3.toInt from (by first | with_reducible exact q_fe b352 | (have t1 : y336.toInt ≤ t0_3.toInt := b352; omega))), (show (y333, y334, y335, y336, f337, f339, f341, t6_0, t7_0, t8_0, t9_0, t10_0, t11_0, y313, f314, t14_0, t15_0, t16_0, t17_0, t18_0, t19_0, t20_0, t21_0, t22_0, t23_0) = (F_Pri_addText t0_0 t0_1 t0_2 t0_3 t1_0 t2_0 t3_0 t4_0 t5_0 t6_0 t7_0 t8_0 t9_0 t10_0 t11_0 t12_0 t13_0 t14_0 t15_0 t16_0 t17_0 t18_0 t19_0 t20_0 t21_0 t22_0 t23_0) from Eq.trans (by rw [e363, e362, e361, e360, e359, e358, e357, F_Pri_addText_c49_8.eq_1]) hR364)⟩) d_9_4_52
    have b369 : q_F (t0_0.toInt ≠ 3) := (q_neI c295)
    by_cases c370 : t0_0 = 4
    ·
      have b371 : q_F (t0_0.toInt = 4) := (q_eqI c370)
      refine q_ti (v := 4) c370 ?_
      have hX372 := n_fx hI (n_s44 g q)
      refine q_aald (t := 6) (q := q 56) C0 V hX372 rfl (q_ix (x := 4) (by decide) (by omega) (by omega)) (show n_ft q ((4 : Int32).toNatClampNeg) = _ from n_ftv (j := 4) (by decide)) d_9_4_17 ?_
      refine q_gov V (q_runV (As := []) (rest := []) (d := 1) (mc := 0) (ms := 0) (ci := 1) C0 V rfl LV_Pri_70 (X_She_clear l D g q ws 56 64 8 64 (n_h56 g q)  hI t14_0 hT14  _) rfl rfl hT14 rfl hl.1 rfl (Nat.le_of_ble_eq_true rfl) ⟨by decide, by decide⟩ ⟨Nat.le_of_ble_eq_true rfl, Nat.le_of_ble_eq_true rfl⟩ d_9_4_18) (fun u373 H locs hp374 V => ?_)
      obtain ⟨hI, hZ9⟩ := hp374
      obtain ⟨hu380, hZ9⟩ := hZ9
      obtain ⟨y376, hZ9⟩ := hZ9
      obtain ⟨hO375, hZ9⟩ := hZ9
      obtain ⟨b377, hZ9⟩ := hZ9
      obtain ⟨b378, hE379⟩ := hZ9
      replace hO375 : u373[56]? = (some (q 56, .inr (1, [.ref (q 57), .int 64, .int y376])) : Option (Nat × va_E)) := hO375
      have e381 : y376 = (F_She_clear (64 : Int32) (8 : Int32) (64 : Int32) t14_0) := hE379
      replace b377 : q_F (0 ≤ y376.toInt) := b377
      replace b378 : q_F (y376.toInt ≤ 0) := b378
      replace hT0 := (hu380 _ (by decide)).trans hT0
      replace hT1 := (hu380 _ (by decide)).trans hT1
      replace hT2 := (hu380 _ (by decide)).trans hT2
      replace hT3 := (hu380 _ (by decide)).trans hT3
      replace hT4 := (hu380 _ (by decide)).trans hT4
      replace hT5 := (hu380 _ (by decide)).trans hT5
      replace hT6 := (hu380 _ (by decide)).trans hT6
      replace hT7 := (hu380 _ (by decide)).trans hT7
      replace hT8 := (hu380 _ (by decide)).trans hT8
      replace hT9 := (hu380 _ (by decide)).trans hT9
      replace hT10 := (hu380 _ (by decide)).trans hT10
      replace hT11 := (hu380 _ (by decide)).trans hT11
      replace hT12 := (hu380 _ (by decide)).trans hT12
      replace hT13 := (hu380 _ (by decide)).trans hT13
      replace hT15 := (hu380 _ (by decide)).trans hT15
      replace hT16 := (hu380 _ (by decide)).trans hT16
      replace hT17 := (hu380 _ (by decide)).trans hT17
      replace hT18 := (hu380 _ (by decide)).trans hT18
      replace hT19 := (hu380 _ (by decide)).trans hT19
      replace hT20 := (hu380 _ (by decide)).trans hT20
      replace hT21 := (hu380 _ (by decide)).trans hT21
      replace hT22 := (hu380 _ (by decide)).trans hT22
      replace hT23 := (hu380 _ (by decide)).trans hT23
      replace hF := q_uc hF hu380 (by first | exact (q_sk (q_mi 12 rfl) q_s0) | simp)
      refine lv_aload_n hx hb d_9_4_21 rfl (lv_at hl 0 rfl) ?_
      refine q_get (ci := 11) (j := 4) (v := .ref (q 44)) C0 V i_Pri rfl rfl hT0 (by decide) w_389 rfl d_9_4_22 ?_
      refine lv_aload_n hx hb d_9_4_25 rfl (lv_at hl 0 rfl) ?_
      refine q_get (ci := 11) (j := 0) (v := .int t0_0) C0 V i_Pri rfl rfl hT0 (by decide) w_384 rfl d_9_4_26 ?_
      have c382 : t0_0 = 4 := q_Ieq (x := t0_0.toInt) (y := 4) rfl (by decide) (by have t1 : 0 ≤ t0_0.toInt ∧ t0_0.toInt ≤ 9 := btt0_0; have t2 : t0_0.toInt < 9 := b69; have t3 : t0_0.toInt ≠ 0 := b144; have t4 : t0_0.toInt ≠ 1 := b219; have t5 : t0_0.toInt ≠ 2 := b294; have t6 : t0_0.toInt ≠ 3 := b369; have t7 : t0_0.toInt = 4 := b371; omega)
      refine q_ti (v := 4) c382 ?_
      have hX384 := n_fx hI (n_s44 g q)
      refine q_aald (t := 6) (q := q 56) C0 V hX384 rfl (q_ix (x := 4) (by decide) (by omega) (by omega)) (show n_ft q ((4 : Int32).toNatClampNeg) = _ from n_ftv (j := 4) (by decide)) d_9_4_29 ?_
      refine lv_aload_n hx hb d_9_4_30 rfl (lv_at hl 0 rfl) ?_
      refine q_get (ci := 11) (j := 5) (v := .ref (q 1)) C0 V i_Pri rfl rfl hT0 (by decide) w_390 rfl d_9_4_31 ?_
      refine lv_iconst (v := 0) hx hb d_9_4_34 (by decide) ?_
      refine lv_aload_n hx hb d_9_4_35 rfl (lv_at hl 0 rfl) ?_
      refine q_get (ci := 11) (j := 5) (v := .ref (q 1)) C0 V i_Pri rfl rfl hT0 (by decide) w_390 rfl d_9_4_36 ?_
      refine q_get (ci := 1) (j := 2) (v := .int t4_0) C0 V i_She rfl rfl hT4 (by decide) w_58 rfl d_9_4_39 ?_
      refine q_gov V (q_runS (As := [.ref (q 56), .ref (q 1), .int 0, .int t4_0]) (rest := []) (d := 2) (mc := 0) (ms := 0) C0 V rfl LS_Pri_76 (X_Pri_copyInto l D g q u373 56 64 8 64 (n_h56 g q) 1 4100 513 4100 (n_h1 g q) 0 t4_0 (by decide) (by decide) (by decide) hI y376 hO375 t15_0 hT15 t4_0 hT4 t5_0 hT5 (by have y0 : (64 : Int32).toInt = 64 := rfl; have y1 : (8 : Int32).toInt = 8 := rfl; have y2 : (64 : Int32).toInt = 64 := rfl; have y3 : (4100 : Int32).toInt = 4100 := rfl; have y4 : (513 : Int32).toInt = 513 := rfl; have y5 : (4100 : Int32).toInt = 4100 := rfl; have y6 : (0 : Int32).toInt = 0 := rfl; omega) (by have y0 : (64 : Int32).toInt = 64 := rfl; have y1 : (8 : Int32).toInt = 8 := rfl; have y2 : (64 : Int32).toInt = 64 := rfl; have y3 : (4100 : Int32).toInt = 4100 := rfl; have y4 : (513 : Int32).toInt = 513 := rfl; have y5 : (4100 : Int32).toInt = 4100 := rfl; have y6 : (0 : Int32).toInt = 0 := rfl; have t1 : 0 ≤ t4_0.toInt ∧ t4_0.toInt ≤ 4100 := btt4_0; omega) (by have y0 : (64 : Int32).toInt = 64 := rfl; have y1 : (8 : Int32).toInt = 8 := rfl; have y2 : (64 : Int32).toInt = 64 := rfl; have y3 : (4100 : Int32).toInt = 4100 := rfl; have y4 : (513 : Int32).toInt = 513 := rfl; have y5 : (4100 : Int32).toInt = 4100 := rfl; have y6 : (0 : Int32).toInt = 0 := rfl; have t1 : t4_0.toInt ≤ 64 := pre0; have t2 : y376.toInt ≤ 0 := b378; omega) _) rfl hl.1 rfl (Nat.le_of_ble_eq_true rfl) ⟨by decide, by decide⟩ ⟨Nat.le_of_ble_eq_true rfl, Nat.le_of_ble_eq_true rfl⟩ d_9_4_42) (fun u385 H locs hp386 V => ?_)
      obtain ⟨hI, hZ9⟩ := hp386
      obtain ⟨hu395, hZ9⟩ := hZ9
      obtain ⟨y388, hZ9⟩ := hZ9
      obtain ⟨f389, hZ9⟩ := hZ9
      obtain ⟨hO387, hZ9⟩ := hZ9
      obtain ⟨hA390, hZ9⟩ := hZ9
      obtain ⟨b391, hZ9⟩ := hZ9
      obtain ⟨b392, hZ9⟩ := hZ9
      obtain ⟨-, hE394⟩ := hZ9
      replace hO387 : u385[56]? = (some (q 56, .inr (1, [.ref (q 57), .int 64, .int y388])) : Option (Nat × va_E)) := hO387
      replace hA390 : u385[57]? = (some (q 57, .inl (g 1, (8 : Int32).toNatClampNeg, .inr (.inl f389))) : Option (Nat × va_E)) := hA390
      obtain ⟨p396, e397⟩ : ∃ z, z = (F_Pri_copyInto (64 : Int32) (8 : Int32) (64 : Int32) (4100 : Int32) (513 : Int32) (4100 : Int32) (0 : Int32) t4_0 y376 t15_0 t4_0 t5_0) := ⟨_, rfl⟩
      have e398 : y388 = p396.1 := congrArg (fun z => z.1) (hE394.trans e397.symm)
      have e399 : f389 = p396.2 := congrArg (fun z => z.2) (hE394.trans e397.symm)
      replace b391 : q_F (y376.toInt ≤ y388.toInt) := b391
      replace b392 : q_F (y388.toInt ≤ 64) := b392
      replace hT0 := (hu395 _ (by decide)).trans hT0
      replace hT1 := (hu395 _ (by decide)).trans hT1
      replace hT2 := (hu395 _ (by decide)).trans hT2
      replace hT3 := (hu395 _ (by decide)).trans hT3
      replace hT6 := (hu395 _ (by decide)).trans hT6
      replace hT7 := (hu395 _ (by decide)).trans hT7
      replace hT8 := (hu395 _ (by decide)).trans hT8
      replace hT9 := (hu395 _ (by decide)).trans hT9
      replace hT10 := (hu395 _ (by decide)).trans hT10
      replace hT11 := (hu395 _ (by decide)).trans hT11
      replace hT12 := (hu395 _ (by decide)).trans hT12
      replace hT13 := (hu395 _ (by decide)).trans hT13
      replace hT16 := (hu395 _ (by decide)).trans hT16
      replace hT17 := (hu395 _ (by decide)).trans hT17
      replace hT18 := (hu395 _ (by decide)).trans hT18
      replace hT19 := (hu395 _ (by decide)).trans hT19
      replace hT20 := (hu395 _ (by decide)).trans hT20
      replace hT21 := (hu395 _ (by decide)).trans hT21
      replace hT22 := (hu395 _ (by decide)).trans hT22
      replace hT23 := (hu395 _ (by decide)).trans hT23
      replace hF := q_uc hF hu395 (by first | exact (q_sk (q_mi 12 rfl) (q_sk (q_mi 13 rfl) q_s0)) | simp)
      have hR400 := (show F_Pri_addText_c42_9 t0_0 t0_1 t0_2 t0_3 t1_0 t2_0 t3_0 t4_0 t5_0 t6_0 t7_0 t8_0 t9_0 t10_0 t11_0 t12_0 t13_0 t14_0 t15_0 t16_0 t17_0 t18_0 t19_0 t20_0 t21_0 t22_0 t23_0 p396 = (F_Pri_addText t0_0 t0_1 t0_2 t0_3 t1_0 t2_0 t3_0 t4_0 t5_0 t6_0 t7_0 t8_0 t9_0 t10_0 t11_0 t12_0 t13_0 t14_0 t15_0 t16_0 t17_0 t18_0 t19_0 t20_0 t21_0 t22_0 t23_0) from (by rw [e397, e381, F_Pri_addText.eq_1, if_neg c67, if_neg c70, if_neg c145, if_neg c220, if_neg c295, if_pos c370]))
      refine lv_aload_n hx hb d_9_4_45 rfl (lv_at hl 0 rfl) ?_
      refine lv_iconst (v := 4) hx hb d_9_4_46 (by decide) ?_
      refine lv_lconst (v := 0) hx hb d_9_4_47 (by decide) ?_
      refine lv_iconst (v := 0) hx hb d_9_4_48 (by decide) ?_
      refine q_gov V (q_runV (As := [.int 4, .long 0, .int 0]) (rest := []) (d := 1) (mc := 0) (ms := 0) (ci := 11) C0 V rfl LV_Pri_80 (X_Pri_addNumber l D g q u385  4 0 0 hI t0_0 t0_1 t0_2 t0_3 hT0 t1_0 hT1 t2_0 hT2 t3_0 hT3 (by have y0 : (4 : Int32).toInt = 4 := rfl; have y1 : (0 : Int64).toInt = 0 := rfl; have y2 : (0 : Int32).toInt = 0 := rfl; omega) (by have y0 : (4 : Int32).toInt = 4 := rfl; have y1 : (0 : Int64).toInt = 0 := rfl; have y2 : (0 : Int32).toInt = 0 := rfl; omega) _) rfl rfl hT0 rfl hl.1 rfl (Nat.le_of_ble_eq_true rfl) ⟨by decide, by decide⟩ ⟨Nat.le_of_ble_eq_true rfl, Nat.le_of_ble_eq_true rfl⟩ d_9_4_49) (fun u405 H locs hp406 V => ?_)
      obtain ⟨hI, hZ9⟩ := hp406
      obtain ⟨hu429, hZ9⟩ := hZ9
      obtain ⟨y408, hZ9⟩ := hZ9
      obtain ⟨y409, hZ9⟩ := hZ9
      obtain ⟨y410, hZ9⟩ := hZ9
      obtain ⟨y411, hZ9⟩ := hZ9
      obtain ⟨f412, hZ9⟩ := hZ9
      obtain ⟨f414, hZ9⟩ := hZ9
      obtain ⟨f416, hZ9⟩ := hZ9
      obtain ⟨hO407, hZ9⟩ := hZ9
      obtain ⟨hA413, hZ9⟩ := hZ9
      obtain ⟨hA415, hZ9⟩ := hZ9
      obtain ⟨hA417, hZ9⟩ := hZ9
      obtain ⟨b418, hZ9⟩ := hZ9
      obtain ⟨b419, hZ9⟩ := hZ9
      obtain ⟨b420, hZ9⟩ := hZ9
      obtain ⟨b421, hZ9⟩ := hZ9
      obtain ⟨b422, hZ9⟩ := hZ9
      obtain ⟨b423, hZ9⟩ := hZ9
      obtain ⟨b424, hZ9⟩ := hZ9
      obtain ⟨b425, hZ9⟩ := hZ9
      obtain ⟨b426, hZ9⟩ := hZ9
      obtain ⟨b427, hE428⟩ := hZ9
      replace hO407 : u405[40]? = (some (q 40, .inr (11, [.int y408, .ref (q 41), .ref (q 42), .ref (q 43), .ref (q 44), .ref (q 1), .ref (q 47), .ref (q 36), .ref (q 45), .int y409, .int y410, .int y411])) : Option (Nat × va_E)) := hO407
      replace hA413 : u405[41]? = (some (q 41, .inl (g 0, 9, .inl f412)) : Option (Nat × va_E)) := hA413
      replace hA415 : u405[42]? = (some (q 42, .inl (g 1, 9, .inr (.inl f414))) : Option (Nat × va_E)) := hA415
      replace hA417 : u405[43]? = (some (q 43, .inl (g 0, 9, .inl f416)) : Option (Nat × va_E)) := hA417
      obtain ⟨p430, e431⟩ : ∃ z, z = (F_Pri_addNumber (4 : Int32) (0 : Int64) (0 : Int32) t0_0 t0_1 t0_2 t0_3 t1_0 t2_0 t3_0) := ⟨_, rfl⟩
      have e432 : y408 = p430.1 := congrArg (fun z => z.1) (hE428.trans e431.symm)
      have e433 : y409 = p430.2.1 := congrArg (fun z => z.2.1) (hE428.trans e431.symm)
      have e434 : y410 = p430.2.2.1 := congrArg (fun z => z.2.2.1) (hE428.trans e431.symm)
      have e435 : y411 = p430.2.2.2.1 := congrArg (fun z => z.2.2.2.1) (hE428.trans e431.symm)
      have e436 : f412 = p430.2.2.2.2.1 := congrArg (fun z => z.2.2.2.2.1) (hE428.trans e431.symm)
      have e437 : f414 = p430.2.2.2.2.2.1 := congrArg (fun z => z.2.2.2.2.2.1) (hE428.trans e431.symm)
      have e438 : f416 = p430.2.2.2.2.2.2 := congrArg (fun z => z.2.2.2.2.2.2) (hE428.trans e431.symm)
      replace b418 : q_F (1 ≤ y408.toInt) := b418
      replace b419 : q_F (y408.toInt ≤ 9) := b419
      replace b420 : q_F (t0_0.toInt ≤ y408.toInt) := b420
      replace b421 : q_F (y408.toInt ≤ t0_0.toInt + 1) := b421
      replace b422 : q_F (t0_1.toInt ≤ y409.toInt) := b422
      replace b423 : q_F (y409.toInt ≤ t0_1.toInt) := b423
      replace b424 : q_F (t0_2.toInt ≤ y410.toInt) := b424
      replace b425 : q_F (y410.toInt ≤ t0_2.toInt) := b425
      replace b426 : q_F (t0_3.toInt ≤ y411.toInt) := b426
      replace b427 : q_F (y411.toInt ≤ t0_3.toInt) := b427
      replace hT6 := (hu429 _ (by decide)).trans hT6
      replace hT7 := (hu429 _ (by decide)).trans hT7
      replace hT8 := (hu429 _ (by decide)).trans hT8
      replace hT9 := (hu429 _ (by decide)).trans hT9
      replace hT10 := (hu429 _ (by decide)).trans hT10
      replace hT11 := (hu429 _ (by decide)).trans hT11
      replace hT12 := (hu429 _ (by decide)).trans hT12
      replace hT13 := (hu429 _ (by decide)).trans hT13
      replace hO387 := (hu429 _ (by decide)).trans hO387
      replace hA390 := (hu429 _ (by decide)).trans hA390
      replace hT16 := (hu429 _ (by decide)).trans hT16
      replace hT17 := (hu429 _ (by decide)).trans hT17
      replace hT18 := (hu429 _ (by decide)).trans hT18
      replace hT19 := (hu429 _ (by decide)).trans hT19
      replace hT20 := (hu429 _ (by decide)).trans hT20
      replace hT21 := (hu429 _ (by decide)).trans hT21
      replace hT22 := (hu429 _ (by decide)).trans hT22
      replace hT23 := (hu429 _ (by decide)).trans hT23
      replace hF := q_uc hF hu429 (by first | exact (q_sk (q_mi 0 rfl) (q_sk (q_mi 1 rfl) (q_sk (q_mi 2 rfl) (q_sk (q_mi 3 rfl) q_s0)))) | simp)
      have hR439 := (show F_Pri_addText_c49_10 t0_0 t0_1 t0_2 t0_3 t1_0 t2_0 t3_0 t4_0 t5_0 t6_0 t7_0 t8_0 t9_0 t10_0 t11_0 t12_0 t13_0 t14_0 t15_0 t16_0 t17_0 t18_0 t19_0 t20_0 t21_0 t22_0 t23_0 p396 y388 f389 p430 = (F_Pri_addText t0_0 t0_1 t0_2 t0_3 t1_0 t2_0 t3_0 t4_0 t5_0 t6_0 t7_0 t8_0 t9_0 t10_0 t11_0 t12_0 t13_0 t14_0 t15_0 t16_0 t17_0 t18_0 t19_0 t20_0 t21_0 t22_0 t23_0) from Eq.trans (by rw [e431, e399, e398, F_Pri_addText_c42_9.eq_1]) hR400)
      exact q_retv C0 V (⟨hI, hF, y408, y409, y410, y411, f412, f414, f416, t6_0, t7_0, t8_0, t9_0, t10_0, t11_0, t12_0, t13_0, y388, f389, t16_0, t17_0, t18_0, t19_0, t20_0, t21_0, t22_0, t23_0, hO407, hA413, hA415, hA417, hT6, hT7, hT8, hT9, hT10, hT11, hT12, hT13, hO387, hA390, hT16, hT17, hT18, hT19, hT20, hT21, hT22, hT23, (show 1 ≤ y408.toInt from (by first | with_reducible exact q_fe b418 | (have t1 : 1 ≤ y408.toInt := b418; omega))), (show y408.toInt ≤ 9 from (by first | with_reducible exact q_fe b419 | (have t1 : y408.toInt ≤ 9 := b419; omega))), (show 0 ≤ y409.toInt + 1 from (by have t1 : -1 ≤ t0_1.toInt ∧ t0_1.toInt ≤ 1000000 := btt0_1; have t2 : t0_1.toInt ≤ y409.toInt := b422; omega)), (show y409.toInt ≤ 1000000 from (by have t1 : -1 ≤ t0_1.toInt ∧ t0_1.toInt ≤ 1000000 := btt0_1; have t2 : y409.toInt ≤ t0_1.toInt := b423; omega)), (show 0 ≤ y411.toInt + 1 from (by have t1 : -1 ≤ t0_3.toInt ∧ t0_3.toInt ≤ 8 := btt0_3; have t2 : t0_3.toInt ≤ y411.toInt := b426; omega)), (show y411.toInt ≤ 8 from (by have t1 : -1 ≤ t0_3.toInt ∧ t0_3.toInt ≤ 8 := btt0_3; have t2 : y411.toInt ≤ t0_3.toInt := b427; omega)), (show 0 ≤ t6_0.toInt from (by first | with_reducible exact (q_fe btt6_0).2 | with_reducible exact (q_fe btt6_0).1 | (have t1 : 0 ≤ t6_0.toInt ∧ t6_0.toInt ≤ 64 := btt6_0; omega))), (show t6_0.toInt ≤ 64 from (by first | with_reducible exact (q_fe btt6_0).2 | with_reducible exact (q_fe btt6_0).1 | (have t1 : 0 ≤ t6_0.toInt ∧ t6_0.toInt ≤ 64 := btt6_0; omega))), (show 0 ≤ t8_0.toInt from (by first | with_reducible exact (q_fe btt8_0).2 | with_reducible exact (q_fe btt8_0).1 | (have t1 : 0 ≤ t8_0.toInt ∧ t8_0.toInt ≤ 64 := btt8_0; omega))), (show t8_0.toInt ≤ 64 from (by first | with_reducible exact (q_fe btt8_0).2 | with_reducible exact (q_fe btt8_0).1 | (have t1 : 0 ≤ t8_0.toInt ∧ t8_0.toInt ≤ 64 := btt8_0; omega))), (show 0 ≤ t10_0.toInt from (by first | with_reducible exact (q_fe btt10_0).2 | with_reducible exact (q_fe btt10_0).1 | (have t1 : 0 ≤ t10_0.toInt ∧ t10_0.toInt ≤ 64 := btt10_0; omega))), (show t10_0.toInt ≤ 64 from (by first | with_reducible exact (q_fe btt10_0).2 | with_reducible exact (q_fe btt10_0).1 | (have t1 : 0 ≤ t10_0.toInt ∧ t10_0.toInt ≤ 64 := btt10_0; omega))), (show 0 ≤ t12_0.toInt from (by first | with_reducible exact (q_fe btt12_0).2 | with_reducible exact (q_fe btt12_0).1 | (have t1 : 0 ≤ t12_0.toInt ∧ t12_0.toInt ≤ 64 := btt12_0; omega))), (show t12_0.toInt ≤ 64 from (by first | with_reducible exact (q_fe btt12_0).2 | with_reducible exact (q_fe btt12_0).1 | (have t1 : 0 ≤ t12_0.toInt ∧ t12_0.toInt ≤ 64 := btt12_0; omega))), (show 0 ≤ y388.toInt from (by have t1 : 0 ≤ y376.toInt := b377; have t2 : y376.toInt ≤ y388.toInt := b391; omega)), (show y388.toInt ≤ 64 from (by first | with_reducible exact q_fe b392 | (have t1 : y388.toInt ≤ 64 := b392; omega))), (show 0 ≤ t16_0.toInt from (by first | with_reducible exact (q_fe btt16_0).2 | with_reducible exact (q_fe btt16_0).1 | (have t1 : 0 ≤ t16_0.toInt ∧ t16_0.toInt ≤ 64 := btt16_0; omega))), (show t16_0.toInt ≤ 64 from (by first | with_reducible exact (q_fe btt16_0).2 | with_reducible exact (q_fe btt16_0).1 | (have t1 : 0 ≤ t16_0.toInt ∧ t16_0.toInt ≤ 64 := btt16_0; omega))), (show 0 ≤ t18_0.toInt from (by first | with_reducible exact (q_fe btt18_0).2 | with_reducible exact (q_fe btt18_0).1 | (have t1 : 0 ≤ t18_0.toInt ∧ t18_0.toInt ≤ 64 := btt18_0; omega))), (show t18_0.toInt ≤ 64 from (by first | with_reducible exact (q_fe btt18_0).2 | with_reducible exact (q_fe btt18_0).1 | (have t1 : 0 ≤ t18_0.toInt ∧ t18_0.toInt ≤ 64 := btt18_0; omega))), (show 0 ≤ t20_0.toInt from (by first | with_reducible exact (q_fe btt20_0).2 | with_reducible exact (q_fe btt20_0).1 | (have t1 : 0 ≤ t20_0.toInt ∧ t20_0.toInt ≤ 64 := btt20_0; omega))), (show t20_0.toInt ≤ 64 from (by first | with_reducible exact (q_fe btt20_0).2 | with_reducible exact (q_fe btt20_0).1 | (have t1 : 0 ≤ t20_0.toInt ∧ t20_0.toInt ≤ 64 := btt20_0; omega))), (show 0 ≤ t22_0.toInt from (by first | with_reducible exact (q_fe btt22_0).2 | with_reducible exact (q_fe btt22_0).1 | (have t1 : 0 ≤ t22_0.toInt ∧ t22_0.toInt ≤ 64 := btt22_0; omega))), (show t22_0.toInt ≤ 64 from (by first | with_reducible exact (q_fe btt22_0).2 | with_reducible exact (q_fe btt22_0).1 | (have t1 : 0 ≤ t22_0.toInt ∧ t22_0.toInt ≤ 64 := btt22_0; omega))), (show t0_0.toInt ≤ y408.toInt from (by first | with_reducible exact q_fe b420 | (have t1 : t0_0.toInt ≤ y408.toInt := b420; omega))), (show y408.toInt ≤ t0_0.toInt + 1 from (by first | with_reducible exact q_fe b421 | (have t1 : y408.toInt ≤ t0_0.toInt + 1 := b421; omega))), (show t0_1.toInt ≤ y409.toInt from (by first | with_reducible exact q_fe b422 | (have t1 : t0_1.toInt ≤ y409.toInt := b422; omega))), (show y409.toInt ≤ t0_1.toInt from (by first | with_reducible exact q_fe b423 | (have t1 : y409.toInt ≤ t0_1.toInt := b423; omega))), (show t0_2.toInt ≤ y410.toInt from (by first | with_reducible exact q_fe b424 | (have t1 : t0_2.toInt ≤ y410.toInt := b424; omega))), (show y410.toInt ≤ t0_2.toInt from (by first | with_reducible exact q_fe b425 | (have t1 : y410.toInt ≤ t0_2.toInt := b425; omega))), (show t0_3.toInt ≤ y411.toInt from (by first | with_reducible exact q_fe b426 | (have t1 : t0_3.toInt ≤ y411.toInt := b426; omega))), (show y411.toInt ≤ t0_3.toInt from (by first | with_reducible exact q_fe b427 | (have t1 : y411.toInt ≤ t0_3.toInt := b427; omega))), (show (y408, y409, y410, y411, f412, f414, f416, t6_0, t7_0, t8_0, t9_0, t10_0, t11_0, t12_0, t13_0, y388, f389, t16_0, t17_0, t18_0, t19_0, t20_0, t21_0, t22_0, t23_0) = (F_Pri_addText t0_0 t0_1 t0_2 t0_3 t1_0 t2_0 t3_0 t4_0 t5_0 t6_0 t7_0 t8_0 t9_0 t10_0 t11_0 t12_0 t13_0 t14_0 t15_0 t16_0 t17_0 t18_0 t19_0 t20_0 t21_0 t22_0 t23_0) from Eq.trans (by rw [e438, e437, e436, e435, e434, e433, e432, F_Pri_addText_c49_10.eq_1]) hR439)⟩) d_9_4_52
    have b444 : q_F (t0_0.toInt ≠ 4) := (q_neI c370)
    by_cases c445 : t0_0 = 5
    ·
      have b446 : q_F (t0_0.toInt = 5) := (q_eqI c445)
      refine q_ti (v := 5) c445 ?_
      have hX447 := n_fx hI (n_s44 g q)
      refine q_aald (t := 6) (q := q 58) C0 V hX447 rfl (q_ix (x := 5) (by decide) (by omega) (by omega)) (show n_ft q ((5 : Int32).toNatClampNeg) = _ from n_ftv (j := 5) (by decide)) d_9_4_17 ?_
      refine q_gov V (q_runV (As := []) (rest := []) (d := 1) (mc := 0) (ms := 0) (ci := 1) C0 V rfl LV_Pri_70 (X_She_clear l D g q ws 58 64 8 64 (n_h58 g q)  hI t16_0 hT16  _) rfl rfl hT16 rfl hl.1 rfl (Nat.le_of_ble_eq_true rfl) ⟨by decide, by decide⟩ ⟨Nat.le_of_ble_eq_true rfl, Nat.le_of_ble_eq_true rfl⟩ d_9_4_18) (fun u448 H locs hp449 V => ?_)
      obtain ⟨hI, hZ9⟩ := hp449
      obtain ⟨hu455, hZ9⟩ := hZ9
      obtain ⟨y451, hZ9⟩ := hZ9
      obtain ⟨hO450, hZ9⟩ := hZ9
      obtain ⟨b452, hZ9⟩ := hZ9
      obtain ⟨b453, hE454⟩ := hZ9
      replace hO450 : u448[58]? = (some (q 58, .inr (1, [.ref (q 59), .int 64, .int y451])) : Option (Nat × va_E)) := hO450
      have e456 : y451 = (F_She_clear (64 : Int32) (8 : Int32) (64 : Int32) t16_0) := hE454
      replace b452 : q_F (0 ≤ y451.toInt) := b452
      replace b453 : q_F (y451.toInt ≤ 0) := b453
      replace hT0 := (hu455 _ (by decide)).trans hT0
      replace hT1 := (hu455 _ (by decide)).trans hT1
      replace hT2 := (hu455 _ (by decide)).trans hT2
      replace hT3 := (hu455 _ (by decide)).trans hT3
      replace hT4 := (hu455 _ (by decide)).trans hT4
      replace hT5 := (hu455 _ (by decide)).trans hT5
      replace hT6 := (hu455 _ (by decide)).trans hT6
      replace hT7 := (hu455 _ (by decide)).trans hT7
      replace hT8 := (hu455 _ (by decide)).trans hT8
      replace hT9 := (hu455 _ (by decide)).trans hT9
      replace hT10 := (hu455 _ (by decide)).trans hT10
      replace hT11 := (hu455 _ (by decide)).trans hT11
      replace hT12 := (hu455 _ (by decide)).trans hT12
      replace hT13 := (hu455 _ (by decide)).trans hT13
      replace hT14 := (hu455 _ (by decide)).trans hT14
      replace hT15 := (hu455 _ (by decide)).trans hT15
      replace hT17 := (hu455 _ (by decide)).trans hT17
      replace hT18 := (hu455 _ (by decide)).trans hT18
      replace hT19 := (hu455 _ (by decide)).trans hT19
      replace hT20 := (hu455 _ (by decide)).trans hT20
      replace hT21 := (hu455 _ (by decide)).trans hT21
      replace hT22 := (hu455 _ (by decide)).trans hT22
      replace hT23 := (hu455 _ (by decide)).trans hT23
      replace hF := q_uc hF hu455 (by first | exact (q_sk (q_mi 14 rfl) q_s0) | simp)
      refine lv_aload_n hx hb d_9_4_21 rfl (lv_at hl 0 rfl) ?_
      refine q_get (ci := 11) (j := 4) (v := .ref (q 44)) C0 V i_Pri rfl rfl hT0 (by decide) w_389 rfl d_9_4_22 ?_
      refine lv_aload_n hx hb d_9_4_25 rfl (lv_at hl 0 rfl) ?_
      refine q_get (ci := 11) (j := 0) (v := .int t0_0) C0 V i_Pri rfl rfl hT0 (by decide) w_384 rfl d_9_4_26 ?_
      have c457 : t0_0 = 5 := q_Ieq (x := t0_0.toInt) (y := 5) rfl (by decide) (by have t1 : 0 ≤ t0_0.toInt ∧ t0_0.toInt ≤ 9 := btt0_0; have t2 : t0_0.toInt < 9 := b69; have t3 : t0_0.toInt ≠ 0 := b144; have t4 : t0_0.toInt ≠ 1 := b219; have t5 : t0_0.toInt ≠ 2 := b294; have t6 : t0_0.toInt ≠ 3 := b369; have t7 : t0_0.toInt ≠ 4 := b444; have t8 : t0_0.toInt = 5 := b446; omega)
      refine q_ti (v := 5) c457 ?_
      have hX459 := n_fx hI (n_s44 g q)
      refine q_aald (t := 6) (q := q 58) C0 V hX459 rfl (q_ix (x := 5) (by decide) (by omega) (by omega)) (show n_ft q ((5 : Int32).toNatClampNeg) = _ from n_ftv (j := 5) (by decide)) d_9_4_29 ?_
      refine lv_aload_n hx hb d_9_4_30 rfl (lv_at hl 0 rfl) ?_
      refine q_get (ci := 11) (j := 5) (v := .ref (q 1)) C0 V i_Pri rfl rfl hT0 (by decide) w_390 rfl d_9_4_31 ?_
      refine lv_iconst (v := 0) hx hb d_9_4_34 (by decide) ?_
      refine lv_aload_n hx hb d_9_4_35 rfl (lv_at hl 0 rfl) ?_
      refine q_get (ci := 11) (j := 5) (v := .ref (q 1)) C0 V i_Pri rfl rfl hT0 (by decide) w_390 rfl d_9_4_36 ?_
      refine q_get (ci := 1) (j := 2) (v := .int t4_0) C0 V i_She rfl rfl hT4 (by decide) w_58 rfl d_9_4_39 ?_
      refine q_gov V (q_runS (As := [.ref (q 58), .ref (q 1), .int 0, .int t4_0]) (rest := []) (d := 2) (mc := 0) (ms := 0) C0 V rfl LS_Pri_76 (X_Pri_copyInto l D g q u448 58 64 8 64 (n_h58 g q) 1 4100 513 4100 (n_h1 g q) 0 t4_0 (by decide) (by decide) (by decide) hI y451 hO450 t17_0 hT17 t4_0 hT4 t5_0 hT5 (by have y0 : (64 : Int32).toInt = 64 := rfl; have y1 : (8 : Int32).toInt = 8 := rfl; have y2 : (64 : Int32).toInt = 64 := rfl; have y3 : (4100 : Int32).toInt = 4100 := rfl; have y4 : (513 : Int32).toInt = 513 := rfl; have y5 : (4100 : Int32).toInt = 4100 := rfl; have y6 : (0 : Int32).toInt = 0 := rfl; omega) (by have y0 : (64 : Int32).toInt = 64 := rfl; have y1 : (8 : Int32).toInt = 8 := rfl; have y2 : (64 : Int32).toInt = 64 := rfl; have y3 : (4100 : Int32).toInt = 4100 := rfl; have y4 : (513 : Int32).toInt = 513 := rfl; have y5 : (4100 : Int32).toInt = 4100 := rfl; have y6 : (0 : Int32).toInt = 0 := rfl; have t1 : 0 ≤ t4_0.toInt ∧ t4_0.toInt ≤ 4100 := btt4_0; omega) (by have y0 : (64 : Int32).toInt = 64 := rfl; have y1 : (8 : Int32).toInt = 8 := rfl; have y2 : (64 : Int32).toInt = 64 := rfl; have y3 : (4100 : Int32).toInt = 4100 := rfl; have y4 : (513 : Int32).toInt = 513 := rfl; have y5 : (4100 : Int32).toInt = 4100 := rfl; have y6 : (0 : Int32).toInt = 0 := rfl; have t1 : t4_0.toInt ≤ 64 := pre0; have t2 : y451.toInt ≤ 0 := b453; omega) _) rfl hl.1 rfl (Nat.le_of_ble_eq_true rfl) ⟨by decide, by decide⟩ ⟨Nat.le_of_ble_eq_true rfl, Nat.le_of_ble_eq_true rfl⟩ d_9_4_42) (fun u460 H locs hp461 V => ?_)
      obtain ⟨hI, hZ9⟩ := hp461
      obtain ⟨hu470, hZ9⟩ := hZ9
      obtain ⟨y463, hZ9⟩ := hZ9
      obtain ⟨f464, hZ9⟩ := hZ9
      obtain ⟨hO462, hZ9⟩ := hZ9
      obtain ⟨hA465, hZ9⟩ := hZ9
      obtain ⟨b466, hZ9⟩ := hZ9
      obtain ⟨b467, hZ9⟩ := hZ9
      obtain ⟨-, hE469⟩ := hZ9
      replace hO462 : u460[58]? = (some (q 58, .inr (1, [.ref (q 59), .int 64, .int y463])) : Option (Nat × va_E)) := hO462
      replace hA465 : u460[59]? = (some (q 59, .inl (g 1, (8 : Int32).toNatClampNeg, .inr (.inl f464))) : Option (Nat × va_E)) := hA465
      obtain ⟨p471, e472⟩ : ∃ z, z = (F_Pri_copyInto (64 : Int32) (8 : Int32) (64 : Int32) (4100 : Int32) (513 : Int32) (4100 : Int32) (0 : Int32) t4_0 y451 t17_0 t4_0 t5_0) := ⟨_, rfl⟩
      have e473 : y463 = p471.1 := congrArg (fun z => z.1) (hE469.trans e472.symm)
      have e474 : f464 = p471.2 := congrArg (fun z => z.2) (hE469.trans e472.symm)
      replace b466 : q_F (y451.toInt ≤ y463.toInt) := b466
      replace b467 : q_F (y463.toInt ≤ 64) := b467
      replace hT0 := (hu470 _ (by decide)).trans hT0
      replace hT1 := (hu470 _ (by decide)).trans hT1
      replace hT2 := (hu470 _ (by decide)).trans hT2
      replace hT3 := (hu470 _ (by decide)).trans hT3
      replace hT6 := (hu470 _ (by decide)).trans hT6
      replace hT7 := (hu470 _ (by decide)).trans hT7
      replace hT8 := (hu470 _ (by decide)).trans hT8
      replace hT9 := (hu470 _ (by decide)).trans hT9
      replace hT10 := (hu470 _ (by decide)).trans hT10
      replace hT11 := (hu470 _ (by decide)).trans hT11
      replace hT12 := (hu470 _ (by decide)).trans hT12
      replace hT13 := (hu470 _ (by decide)).trans hT13
      replace hT14 := (hu470 _ (by decide)).trans hT14
      replace hT15 := (hu470 _ (by decide)).trans hT15
      replace hT18 := (hu470 _ (by decide)).trans hT18
      replace hT19 := (hu470 _ (by decide)).trans hT19
      replace hT20 := (hu470 _ (by decide)).trans hT20
      replace hT21 := (hu470 _ (by decide)).trans hT21
      replace hT22 := (hu470 _ (by decide)).trans hT22
      replace hT23 := (hu470 _ (by decide)).trans hT23
      replace hF := q_uc hF hu470 (by first | exact (q_sk (q_mi 14 rfl) (q_sk (q_mi 15 rfl) q_s0)) | simp)
      have hR475 := (show F_Pri_addText_c42_11 t0_0 t0_1 t0_2 t0_3 t1_0 t2_0 t3_0 t4_0 t5_0 t6_0 t7_0 t8_0 t9_0 t10_0 t11_0 t12_0 t13_0 t14_0 t15_0 t16_0 t17_0 t18_0 t19_0 t20_0 t21_0 t22_0 t23_0 p471 = (F_Pri_addText t0_0 t0_1 t0_2 t0_3 t1_0 t2_0 t3_0 t4_0 t5_0 t6_0 t7_0 t8_0 t9_0 t10_0 t11_0 t12_0 t13_0 t14_0 t15_0 t16_0 t17_0 t18_0 t19_0 t20_0 t21_0 t22_0 t23_0) from (by rw [e472, e456, F_Pri_addText.eq_1, if_neg c67, if_neg c70, if_neg c145, if_neg c220, if_neg c295, if_neg c370, if_pos c445]))
      refine lv_aload_n hx hb d_9_4_45 rfl (lv_at hl 0 rfl) ?_
      refine lv_iconst (v := 4) hx hb d_9_4_46 (by decide) ?_
      refine lv_lconst (v := 0) hx hb d_9_4_47 (by decide) ?_
      refine lv_iconst (v := 0) hx hb d_9_4_48 (by decide) ?_
      refine q_gov V (q_runV (As := [.int 4, .long 0, .int 0]) (rest := []) (d := 1) (mc := 0) (ms := 0) (ci := 11) C0 V rfl LV_Pri_80 (X_Pri_addNumber l D g q u460  4 0 0 hI t0_0 t0_1 t0_2 t0_3 hT0 t1_0 hT1 t2_0 hT2 t3_0 hT3 (by have y0 : (4 : Int32).toInt = 4 := rfl; have y1 : (0 : Int64).toInt = 0 := rfl; have y2 : (0 : Int32).toInt = 0 := rfl; omega) (by have y0 : (4 : Int32).toInt = 4 := rfl; have y1 : (0 : Int64).toInt = 0 := rfl; have y2 : (0 : Int32).toInt = 0 := rfl; omega) _) rfl rfl hT0 rfl hl.1 rfl (Nat.le_of_ble_eq_true rfl) ⟨by decide, by decide⟩ ⟨Nat.le_of_ble_eq_true rfl, Nat.le_of_ble_eq_true rfl⟩ d_9_4_49) (fun u480 H locs hp481 V => ?_)
      obtain ⟨hI, hZ9⟩ := hp481
      obtain ⟨hu504, hZ9⟩ := hZ9
      obtain ⟨y483, hZ9⟩ := hZ9
      obtain ⟨y484, hZ9⟩ := hZ9
      obtain ⟨y485, hZ9⟩ := hZ9
      obtain ⟨y486, hZ9⟩ := hZ9
      obtain ⟨f487, hZ9⟩ := hZ9
      obtain ⟨f489, hZ9⟩ := hZ9
      obtain ⟨f491, hZ9⟩ := hZ9
      obtain ⟨hO482, hZ9⟩ := hZ9
      obtain ⟨hA488, hZ9⟩ := hZ9
      obtain ⟨hA490, hZ9⟩ := hZ9
      obtain ⟨hA492, hZ9⟩ := hZ9
      obtain ⟨b493, hZ9⟩ := hZ9
      obtain ⟨b494, hZ9⟩ := hZ9
      obtain ⟨b495, hZ9⟩ := hZ9
      obtain ⟨b496, hZ9⟩ := hZ9
      obtain ⟨b497, hZ9⟩ := hZ9
      obtain ⟨b498, hZ9⟩ := hZ9
      obtain ⟨b499, hZ9⟩ := hZ9
      obtain ⟨b500, hZ9⟩ := hZ9
      obtain ⟨b501, hZ9⟩ := hZ9
      obtain ⟨b502, hE503⟩ := hZ9
      replace hO482 : u480[40]? = (some (q 40, .inr (11, [.int y483, .ref (q 41), .ref (q 42), .ref (q 43), .ref (q 44), .ref (q 1), .ref (q 47), .ref (q 36), .ref (q 45), .int y484, .int y485, .int y486])) : Option (Nat × va_E)) := hO482
      replace hA488 : u480[41]? = (some (q 41, .inl (g 0, 9, .inl f487)) : Option (Nat × va_E)) := hA488
      replace hA490 : u480[42]? = (some (q 42, .inl (g 1, 9, .inr (.inl f489))) : Option (Nat × va_E)) := hA490
      replace hA492 : u480[43]? = (some (q 43, .inl (g 0, 9, .inl f491)) : Option (Nat × va_E)) := hA492
      obtain ⟨p505, e506⟩ : ∃ z, z = (F_Pri_addNumber (4 : Int32) (0 : Int64) (0 : Int32) t0_0 t0_1 t0_2 t0_3 t1_0 t2_0 t3_0) := ⟨_, rfl⟩
      have e507 : y483 = p505.1 := congrArg (fun z => z.1) (hE503.trans e506.symm)
      have e508 : y484 = p505.2.1 := congrArg (fun z => z.2.1) (hE503.trans e506.symm)
      have e509 : y485 = p505.2.2.1 := congrArg (fun z => z.2.2.1) (hE503.trans e506.symm)
      have e510 : y486 = p505.2.2.2.1 := congrArg (fun z => z.2.2.2.1) (hE503.trans e506.symm)
      have e511 : f487 = p505.2.2.2.2.1 := congrArg (fun z => z.2.2.2.2.1) (hE503.trans e506.symm)
      have e512 : f489 = p505.2.2.2.2.2.1 := congrArg (fun z => z.2.2.2.2.2.1) (hE503.trans e506.symm)
      have e513 : f491 = p505.2.2.2.2.2.2 := congrArg (fun z => z.2.2.2.2.2.2) (hE503.trans e506.symm)
      replace b493 : q_F (1 ≤ y483.toInt) := b493
      replace b494 : q_F (y483.toInt ≤ 9) := b494
      replace b495 : q_F (t0_0.toInt ≤ y483.toInt) := b495
      replace b496 : q_F (y483.toInt ≤ t0_0.toInt + 1) := b496
      replace b497 : q_F (t0_1.toInt ≤ y484.toInt) := b497
      replace b498 : q_F (y484.toInt ≤ t0_1.toInt) := b498
      replace b499 : q_F (t0_2.toInt ≤ y485.toInt) := b499
      replace b500 : q_F (y485.toInt ≤ t0_2.toInt) := b500
      replace b501 : q_F (t0_3.toInt ≤ y486.toInt) := b501
      replace b502 : q_F (y486.toInt ≤ t0_3.toInt) := b502
      replace hT6 := (hu504 _ (by decide)).trans hT6
      replace hT7 := (hu504 _ (by decide)).trans hT7
      replace hT8 := (hu504 _ (by decide)).trans hT8
      replace hT9 := (hu504 _ (by decide)).trans hT9
      replace hT10 := (hu504 _ (by decide)).trans hT10
      replace hT11 := (hu504 _ (by decide)).trans hT11
      replace hT12 := (hu504 _ (by decide)).trans hT12
      replace hT13 := (hu504 _ (by decide)).trans hT13
      replace hT14 := (hu504 _ (by decide)).trans hT14
      replace hT15 := (hu504 _ (by decide)).trans hT15
      replace hO462 := (hu504 _ (by decide)).trans hO462
      replace hA465 := (hu504 _ (by decide)).trans hA465
      replace hT18 := (hu504 _ (by decide)).trans hT18
      replace hT19 := (hu504 _ (by decide)).trans hT19
      replace hT20 := (hu504 _ (by decide)).trans hT20
      replace hT21 := (hu504 _ (by decide)).trans hT21
      replace hT22 := (hu504 _ (by decide)).trans hT22
      replace hT23 := (hu504 _ (by decide)).trans hT23
      replace hF := q_uc hF hu504 (by first | exact (q_sk (q_mi 0 rfl) (q_sk (q_mi 1 rfl) (q_sk (q_mi 2 rfl) (q_sk (q_mi 3 rfl) q_s0)))) | simp)
      have hR514 := (show F_Pri_addText_c49_12 t0_0 t0_1 t0_2 t0_3 t1_0 t2_0 t3_0 t4_0 t5_0 t6_0 t7_0 t8_0 t9_0 t10_0 t11_0 t12_0 t13_0 t14_0 t15_0 t16_0 t17_0 t18_0 t19_0 t20_0 t21_0 t22_0 t23_0 p471 y463 f464 p505 = (F_Pri_addText t0_0 t0_1 t0_2 t0_3 t1_0 t2_0 t3_0 t4_0 t5_0 t6_0 t7_0 t8_0 t9_0 t10_0 t11_0 t12_0 t13_0 t14_0 t15_0 t16_0 t17_0 t18_0 t19_0 t20_0 t21_0 t22_0 t23_0) from Eq.trans (by rw [e506, e474, e473, F_Pri_addText_c42_11.eq_1]) hR475)
      exact q_retv C0 V (⟨hI, hF, y483, y484, y485, y486, f487, f489, f491, t6_0, t7_0, t8_0, t9_0, t10_0, t11_0, t12_0, t13_0, t14_0, t15_0, y463, f464, t18_0, t19_0, t20_0, t21_0, t22_0, t23_0, hO482, hA488, hA490, hA492, hT6, hT7, hT8, hT9, hT10, hT11, hT12, hT13, hT14, hT15, hO462, hA465, hT18, hT19, hT20, hT21, hT22, hT23, (show 1 ≤ y483.toInt from (by first | with_reducible exact q_fe b493 | (have t1 : 1 ≤ y483.toInt := b493; omega))), (show y483.toInt ≤ 9 from (by first | with_reducible exact q_fe b494 | (have t1 : y483.toInt ≤ 9 := b494; omega))), (show 0 ≤ y484.toInt + 1 from (by have t1 : -1 ≤ t0_1.toInt ∧ t0_1.toInt ≤ 1000000 := btt0_1; have t2 : t0_1.toInt ≤ y484.toInt := b497; omega)), (show y484.toInt ≤ 1000000 from (by have t1 : -1 ≤ t0_1.toInt ∧ t0_1.toInt ≤ 1000000 := btt0_1; have t2 : y484.toInt ≤ t0_1.toInt := b498; omega)), (show 0 ≤ y486.toInt + 1 from (by have t1 : -1 ≤ t0_3.toInt ∧ t0_3.toInt ≤ 8 := btt0_3; have t2 : t0_3.toInt ≤ y486.toInt := b501; omega)), (show y486.toInt ≤ 8 from (by have t1 : -1 ≤ t0_3.toInt ∧ t0_3.toInt ≤ 8 := btt0_3; have t2 : y486.toInt ≤ t0_3.toInt := b502; omega)), (show 0 ≤ t6_0.toInt from (by first | with_reducible exact (q_fe btt6_0).2 | with_reducible exact (q_fe btt6_0).1 | (have t1 : 0 ≤ t6_0.toInt ∧ t6_0.toInt ≤ 64 := btt6_0; omega))), (show t6_0.toInt ≤ 64 from (by first | with_reducible exact (q_fe btt6_0).2 | with_reducible exact (q_fe btt6_0).1 | (have t1 : 0 ≤ t6_0.toInt ∧ t6_0.toInt ≤ 64 := btt6_0; omega))), (show 0 ≤ t8_0.toInt from (by first | with_reducible exact (q_fe btt8_0).2 | with_reducible exact (q_fe btt8_0).1 | (have t1 : 0 ≤ t8_0.toInt ∧ t8_0.toInt ≤ 64 := btt8_0; omega))), (show t8_0.toInt ≤ 64 from (by first | with_reducible exact (q_fe btt8_0).2 | with_reducible exact (q_fe btt8_0).1 | (have t1 : 0 ≤ t8_0.toInt ∧ t8_0.toInt ≤ 64 := btt8_0; omega))), (show 0 ≤ t10_0.toInt from (by first | with_reducible exact (q_fe btt10_0).2 | with_reducible exact (q_fe btt10_0).1 | (have t1 : 0 ≤ t10_0.toInt ∧ t10_0.toInt ≤ 64 := btt10_0; omega))), (show t10_0.toInt ≤ 64 from (by first | with_reducible exact (q_fe btt10_0).2 | with_reducible exact (q_fe btt10_0).1 | (have t1 : 0 ≤ t10_0.toInt ∧ t10_0.toInt ≤ 64 := btt10_0; omega))), (show 0 ≤ t12_0.toInt from (by first | with_reducible exact (q_fe btt12_0).2 | with_reducible exact (q_fe btt12_0).1 | (have t1 : 0 ≤ t12_0.toInt ∧ t12_0.toInt ≤ 64 := btt12_0; omega))), (show t12_0.toInt ≤ 64 from (by first | with_reducible exact (q_fe btt12_0).2 | with_reducible exact (q_fe btt12_0).1 | (have t1 : 0 ≤ t12_0.toInt ∧ t12_0.toInt ≤ 64 := btt12_0; omega))), (show 0 ≤ t14_0.toInt from (by first | with_reducible exact (q_fe btt14_0).2 | with_reducible exact (q_fe btt14_0).1 | (have t1 : 0 ≤ t14_0.toInt ∧ t14_0.toInt ≤ 64 := btt14_0; omega))), (show t14_0.toInt ≤ 64 from (by first | with_reducible exact (q_fe btt14_0).2 | with_reducible exact (q_fe btt14_0).1 | (have t1 : 0 ≤ t14_0.toInt ∧ t14_0.toInt ≤ 64 := btt14_0; omega))), (show 0 ≤ y463.toInt from (by have t1 : 0 ≤ y451.toInt := b452; have t2 : y451.toInt ≤ y463.toInt := b466; omega)), (show y463.toInt ≤ 64 from (by first | with_reducible exact q_fe b467 | (have t1 : y463.toInt ≤ 64 := b467; omega))), (show 0 ≤ t18_0.toInt from (by first | with_reducible exact (q_fe btt18_0).2 | with_reducible exact (q_fe btt18_0).1 | (have t1 : 0 ≤ t18_0.toInt ∧ t18_0.toInt ≤ 64 := btt18_0; omega))), (show t18_0.toInt ≤ 64 from (by first | with_reducible exact (q_fe btt18_0).2 | with_reducible exact (q_fe btt18_0).1 | (have t1 : 0 ≤ t18_0.toInt ∧ t18_0.toInt ≤ 64 := btt18_0; omega))), (show 0 ≤ t20_0.toInt from (by first | with_reducible exact (q_fe btt20_0).2 | with_reducible exact (q_fe btt20_0).1 | (have t1 : 0 ≤ t20_0.toInt ∧ t20_0.toInt ≤ 64 := btt20_0; omega))), (show t20_0.toInt ≤ 64 from (by first | with_reducible exact (q_fe btt20_0).2 | with_reducible exact (q_fe btt20_0).1 | (have t1 : 0 ≤ t20_0.toInt ∧ t20_0.toInt ≤ 64 := btt20_0; omega))), (show 0 ≤ t22_0.toInt from (by first | with_reducible exact (q_fe btt22_0).2 | with_reducible exact (q_fe btt22_0).1 | (have t1 : 0 ≤ t22_0.toInt ∧ t22_0.toInt ≤ 64 := btt22_0; omega))), (show t22_0.toInt ≤ 64 from (by first | with_reducible exact (q_fe btt22_0).2 | with_reducible exact (q_fe btt22_0).1 | (have t1 : 0 ≤ t22_0.toInt ∧ t22_0.toInt ≤ 64 := btt22_0; omega))), (show t0_0.toInt ≤ y483.toInt from (by first | with_reducible exact q_fe b495 | (have t1 : t0_0.toInt ≤ y483.toInt := b495; omega))), (show y483.toInt ≤ t0_0.toInt + 1 from (by first | with_reducible exact q_fe b496 | (have t1 : y483.toInt ≤ t0_0.toInt + 1 := b496; omega))), (show t0_1.toInt ≤ y484.toInt from (by first | with_reducible exact q_fe b497 | (have t1 : t0_1.toInt ≤ y484.toInt := b497; omega))), (show y484.toInt ≤ t0_1.toInt from (by first | with_reducible exact q_fe b498 | (have t1 : y484.toInt ≤ t0_1.toInt := b498; omega))), (show t0_2.toInt ≤ y485.toInt from (by first | with_reducible exact q_fe b499 | (have t1 : t0_2.toInt ≤ y485.toInt := b499; omega))), (show y485.toInt ≤ t0_2.toInt from (by first | with_reducible exact q_fe b500 | (have t1 : y485.toInt ≤ t0_2.toInt := b500; omega))), (show t0_3.toInt ≤ y486.toInt from (by first | with_reducible exact q_fe b501 | (have t1 : t0_3.toInt ≤ y486.toInt := b501; omega))), (show y486.toInt ≤ t0_3.toInt from (by first | with_reducible exact q_fe b502 | (have t1 : y486.toInt ≤ t0_3.toInt := b502; omega))), (show (y483, y484, y485, y486, f487, f489, f491, t6_0, t7_0, t8_0, t9_0, t10_0, t11_0, t12_0, t13_0, t14_0, t15_0, y463, f464, t18_0, t19_0, t20_0, t21_0, t22_0, t23_0) = (F_Pri_addText t0_0 t0_1 t0_2 t0_3 t1_0 t2_0 t3_0 t4_0 t5_0 t6_0 t7_0 t8_0 t9_0 t10_0 t11_0 t12_0 t13_0 t14_0 t15_0 t16_0 t17_0 t18_0 t19_0 t20_0 t21_0 t22_0 t23_0) from Eq.trans (by rw [e513, e512, e511, e510, e509, e508, e507, F_Pri_addText_c49_12.eq_1]) hR514)⟩) d_9_4_52
    have b519 : q_F (t0_0.toInt ≠ 5) := (q_neI c445)
    by_cases c520 : t0_0 = 6
    ·
      have b521 : q_F (t0_0.toInt = 6) := (q_eqI c520)
      refine q_ti (v := 6) c520 ?_
      have hX522 := n_fx hI (n_s44 g q)
      refine q_aald (t := 6) (q := q 60) C0 V hX522 rfl (q_ix (x := 6) (by decide) (by omega) (by omega)) (show n_ft q ((6 : Int32).toNatClampNeg) = _ from n_ftv (j := 6) (by decide)) d_9_4_17 ?_
      refine q_gov V (q_runV (As := []) (rest := []) (d := 1) (mc := 0) (ms := 0) (ci := 1) C0 V rfl LV_Pri_70 (X_She_clear l D g q ws 60 64 8 64 (n_h60 g q)  hI t18_0 hT18  _) rfl rfl hT18 rfl hl.1 rfl (Nat.le_of_ble_eq_true rfl) ⟨by decide, by decide⟩ ⟨Nat.le_of_ble_eq_true rfl, Nat.le_of_ble_eq_true rfl⟩ d_9_4_18) (fun u523 H locs hp524 V => ?_)
      obtain ⟨hI, hZ9⟩ := hp524
      obtain ⟨hu530, hZ9⟩ := hZ9
      obtain ⟨y526, hZ9⟩ := hZ9
      obtain ⟨hO525, hZ9⟩ := hZ9
      obtain ⟨b527, hZ9⟩ := hZ9
      obtain ⟨b528, hE529⟩ := hZ9
      replace hO525 : u523[60]? = (some (q 60, .inr (1, [.ref (q 61), .int 64, .int y526])) : Option (Nat × va_E)) := hO525
      have e531 : y526 = (F_She_clear (64 : Int32) (8 : Int32) (64 : Int32) t18_0) := hE529
      replace b527 : q_F (0 ≤ y526.toInt) := b527
      replace b528 : q_F (y526.toInt ≤ 0) := b528
      replace hT0 := (hu530 _ (by decide)).trans hT0
      replace hT1 := (hu530 _ (by decide)).trans hT1
      replace hT2 := (hu530 _ (by decide)).trans hT2
      replace hT3 := (hu530 _ (by decide)).trans hT3
      replace hT4 := (hu530 _ (by decide)).trans hT4
      replace hT5 := (hu530 _ (by decide)).trans hT5
      replace hT6 := (hu530 _ (by decide)).trans hT6
      replace hT7 := (hu530 _ (by decide)).trans hT7
      replace hT8 := (hu530 _ (by decide)).trans hT8
      replace hT9 := (hu530 _ (by decide)).trans hT9
      replace hT10 := (hu530 _ (by decide)).trans hT10
      replace hT11 := (hu530 _ (by decide)).trans hT11
      replace hT12 := (hu530 _ (by decide)).trans hT12
      replace hT13 := (hu530 _ (by decide)).trans hT13
      replace hT14 := (hu530 _ (by decide)).trans hT14
      replace hT15 := (hu530 _ (by decide)).trans hT15
      replace hT16 := (hu530 _ (by decide)).trans hT16
      replace hT17 := (hu530 _ (by decide)).trans hT17
      replace hT19 := (hu530 _ (by decide)).trans hT19
      replace hT20 := (hu530 _ (by decide)).trans hT20
      replace hT21 := (hu530 _ (by decide)).trans hT21
      replace hT22 := (hu530 _ (by decide)).trans hT22
      replace hT23 := (hu530 _ (by decide)).trans hT23
      replace hF := q_uc hF hu530 (by first | exact (q_sk (q_mi 16 rfl) q_s0) | simp)
      refine lv_aload_n hx hb d_9_4_21 rfl (lv_at hl 0 rfl) ?_
      refine q_get (ci := 11) (j := 4) (v := .ref (q 44)) C0 V i_Pri rfl rfl hT0 (by decide) w_389 rfl d_9_4_22 ?_
      refine lv_aload_n hx hb d_9_4_25 rfl (lv_at hl 0 rfl) ?_
      refine q_get (ci := 11) (j := 0) (v := .int t0_0) C0 V i_Pri rfl rfl hT0 (by decide) w_384 rfl d_9_4_26 ?_
      have c532 : t0_0 = 6 := q_Ieq (x := t0_0.toInt) (y := 6) rfl (by decide) (by have t1 : 0 ≤ t0_0.toInt ∧ t0_0.toInt ≤ 9 := btt0_0; have t2 : t0_0.toInt < 9 := b69; have t3 : t0_0.toInt ≠ 0 := b144; have t4 : t0_0.toInt ≠ 1 := b219; have t5 : t0_0.toInt ≠ 2 := b294; have t6 : t0_0.toInt ≠ 3 := b369; have t7 : t0_0.toInt ≠ 4 := b444; have t8 : t0_0.toInt ≠ 5 := b519; have t9 : t0_0.toInt = 6 := b521; omega)
      refine q_ti (v := 6) c532 ?_
      have hX534 := n_fx hI (n_s44 g q)
      refine q_aald (t := 6) (q := q 60) C0 V hX534 rfl (q_ix (x := 6) (by decide) (by omega) (by omega)) (show n_ft q ((6 : Int32).toNatClampNeg) = _ from n_ftv (j := 6) (by decide)) d_9_4_29 ?_
      refine lv_aload_n hx hb d_9_4_30 rfl (lv_at hl 0 rfl) ?_
      refine q_get (ci := 11) (j := 5) (v := .ref (q 1)) C0 V i_Pri rfl rfl hT0 (by decide) w_390 rfl d_9_4_31 ?_
      refine lv_iconst (v := 0) hx hb d_9_4_34 (by decide) ?_
      refine lv_aload_n hx hb d_9_4_35 rfl (lv_at hl 0 rfl) ?_
      refine q_get (ci := 11) (j := 5) (v := .ref (q 1)) C0 V i_Pri rfl rfl hT0 (by decide) w_390 rfl d_9_4_36 ?_
      refine q_get (ci := 1) (j := 2) (v := .int t4_0) C0 V i_She rfl rfl hT4 (by decide) w_58 rfl d_9_4_39 ?_
      refine q_gov V (q_runS (As := [.ref (q 60), .ref (q 1), .int 0, .int t4_0]) (rest := []) (d := 2) (mc := 0) (ms := 0) C0 V rfl LS_Pri_76 (X_Pri_copyInto l D g q u523 60 64 8 64 (n_h60 g q) 1 4100 513 4100 (n_h1 g q) 0 t4_0 (by decide) (by decide) (by decide) hI y526 hO525 t19_0 hT19 t4_0 hT4 t5_0 hT5 (by have y0 : (64 : Int32).toInt = 64 := rfl; have y1 : (8 : Int32).toInt = 8 := rfl; have y2 : (64 : Int32).toInt = 64 := rfl; have y3 : (4100 : Int32).toInt = 4100 := rfl; have y4 : (513 : Int32).toInt = 513 := rfl; have y5 : (4100 : Int32).toInt = 4100 := rfl; have y6 : (0 : Int32).toInt = 0 := rfl; omega) (by have y0 : (64 : Int32).toInt = 64 := rfl; have y1 : (8 : Int32).toInt = 8 := rfl; have y2 : (64 : Int32).toInt = 64 := rfl; have y3 : (4100 : Int32).toInt = 4100 := rfl; have y4 : (513 : Int32).toInt = 513 := rfl; have y5 : (4100 : Int32).toInt = 4100 := rfl; have y6 : (0 : Int32).toInt = 0 := rfl; have t1 : 0 ≤ t4_0.toInt ∧ t4_0.toInt ≤ 4100 := btt4_0; omega) (by have y0 : (64 : Int32).toInt = 64 := rfl; have y1 : (8 : Int32).toInt = 8 := rfl; have y2 : (64 : Int32).toInt = 64 := rfl; have y3 : (4100 : Int32).toInt = 4100 := rfl; have y4 : (513 : Int32).toInt = 513 := rfl; have y5 : (4100 : Int32).toInt = 4100 := rfl; have y6 : (0 : Int32).toInt = 0 := rfl; have t1 : t4_0.toInt ≤ 64 := pre0; have t2 : y526.toInt ≤ 0 := b528; omega) _) rfl hl.1 rfl (Nat.le_of_ble_eq_true rfl) ⟨by decide, by decide⟩ ⟨Nat.le_of_ble_eq_true rfl, Nat.le_of_ble_eq_true rfl⟩ d_9_4_42) (fun u535 H locs hp536 V => ?_)
      obtain ⟨hI, hZ9⟩ := hp536
      obtain ⟨hu545, hZ9⟩ := hZ9
      obtain ⟨y538, hZ9⟩ := hZ9
      obtain ⟨f539, hZ9⟩ := hZ9
      obtain ⟨hO537, hZ9⟩ := hZ9
      obtain ⟨hA540, hZ9⟩ := hZ9
      obtain ⟨b541, hZ9⟩ := hZ9
      obtain ⟨b542, hZ9⟩ := hZ9
      obtain ⟨-, hE544⟩ := hZ9
      replace hO537 : u535[60]? = (some (q 60, .inr (1, [.ref (q 61), .int 64, .int y538])) : Option (Nat × va_E)) := hO537
      replace hA540 : u535[61]? = (some (q 61, .inl (g 1, (8 : Int32).toNatClampNeg, .inr (.inl f539))) : Option (Nat × va_E)) := hA540
      obtain ⟨p546, e547⟩ : ∃ z, z = (F_Pri_copyInto (64 : Int32) (8 : Int32) (64 : Int32) (4100 : Int32) (513 : Int32) (4100 : Int32) (0 : Int32) t4_0 y526 t19_0 t4_0 t5_0) := ⟨_, rfl⟩
      have e548 : y538 = p546.1 := congrArg (fun z => z.1) (hE544.trans e547.symm)
      have e549 : f539 = p546.2 := congrArg (fun z => z.2) (hE544.trans e547.symm)
      replace b541 : q_F (y526.toInt ≤ y538.toInt) := b541
      replace b542 : q_F (y538.toInt ≤ 64) := b542
      replace hT0 := (hu545 _ (by decide)).trans hT0
      replace hT1 := (hu545 _ (by decide)).trans hT1
      replace hT2 := (hu545 _ (by decide)).trans hT2
      replace hT3 := (hu545 _ (by decide)).trans hT3
      replace hT6 := (hu545 _ (by decide)).trans hT6
      replace hT7 := (hu545 _ (by decide)).trans hT7
      replace hT8 := (hu545 _ (by decide)).trans hT8
      replace hT9 := (hu545 _ (by decide)).trans hT9
      replace hT10 := (hu545 _ (by decide)).trans hT10
      replace hT11 := (hu545 _ (by decide)).trans hT11
      replace hT12 := (hu545 _ (by decide)).trans hT12
      replace hT13 := (hu545 _ (by decide)).trans hT13
      replace hT14 := (hu545 _ (by decide)).trans hT14
      replace hT15 := (hu545 _ (by decide)).trans hT15
      replace hT16 := (hu545 _ (by decide)).trans hT16
      replace hT17 := (hu545 _ (by decide)).trans hT17
      replace hT20 := (hu545 _ (by decide)).trans hT20
      replace hT21 := (hu545 _ (by decide)).trans hT21
      replace hT22 := (hu545 _ (by decide)).trans hT22
      replace hT23 := (hu545 _ (by decide)).trans hT23
      replace hF := q_uc hF hu545 (by first | exact (q_sk (q_mi 16 rfl) (q_sk (q_mi 17 rfl) q_s0)) | simp)
      have hR550 := (show F_Pri_addText_c42_13 t0_0 t0_1 t0_2 t0_3 t1_0 t2_0 t3_0 t4_0 t5_0 t6_0 t7_0 t8_0 t9_0 t10_0 t11_0 t12_0 t13_0 t14_0 t15_0 t16_0 t17_0 t18_0 t19_0 t20_0 t21_0 t22_0 t23_0 p546 = (F_Pri_addText t0_0 t0_1 t0_2 t0_3 t1_0 t2_0 t3_0 t4_0 t5_0 t6_0 t7_0 t8_0 t9_0 t10_0 t11_0 t12_0 t13_0 t14_0 t15_0 t16_0 t17_0 t18_0 t19_0 t20_0 t21_0 t22_0 t23_0) from (by rw [e547, e531, F_Pri_addText.eq_1, if_neg c67, if_neg c70, if_neg c145, if_neg c220, if_neg c295, if_neg c370, if_neg c445, if_pos c520]))
      refine lv_aload_n hx hb d_9_4_45 rfl (lv_at hl 0 rfl) ?_
      refine lv_iconst (v := 4) hx hb d_9_4_46 (by decide) ?_
      refine lv_lconst (v := 0) hx hb d_9_4_47 (by decide) ?_
      refine lv_iconst (v := 0) hx hb d_9_4_48 (by decide) ?_
      refine q_gov V (q_runV (As := [.int 4, .long 0, .int 0]) (rest := []) (d := 1) (mc := 0) (ms := 0) (ci := 11) C0 V rfl LV_Pri_80 (X_Pri_addNumber l D g q u535  4 0 0 hI t0_0 t0_1 t0_2 t0_3 hT0 t1_0 hT1 t2_0 hT2 t3_0 hT3 (by have y0 : (4 : Int32).toInt = 4 := rfl; have y1 : (0 : Int64).toInt = 0 := rfl; have y2 : (0 : Int32).toInt = 0 := rfl; omega) (by have y0 : (4 : Int32).toInt = 4 := rfl; have y1 : (0 : Int64).toInt = 0 := rfl; have y2 : (0 : Int32).toInt = 0 := rfl; omega) _) rfl rfl hT0 rfl hl.1 rfl (Nat.le_of_ble_eq_true rfl) ⟨by decide, by decide⟩ ⟨Nat.le_of_ble_eq_true rfl, Nat.le_of_ble_eq_true rfl⟩ d_9_4_49) (fun u555 H locs hp556 V => ?_)
      obtain ⟨hI, hZ9⟩ := hp556
      obtain ⟨hu579, hZ9⟩ := hZ9
      obtain ⟨y558, hZ9⟩ := hZ9
      obtain ⟨y559, hZ9⟩ := hZ9
      obtain ⟨y560, hZ9⟩ := hZ9
      obtain ⟨y561, hZ9⟩ := hZ9
      obtain ⟨f562, hZ9⟩ := hZ9
      obtain ⟨f564, hZ9⟩ := hZ9
      obtain ⟨f566, hZ9⟩ := hZ9
      obtain ⟨hO557, hZ9⟩ := hZ9
      obtain ⟨hA563, hZ9⟩ := hZ9
      obtain ⟨hA565, hZ9⟩ := hZ9
      obtain ⟨hA567, hZ9⟩ := hZ9
      obtain ⟨b568, hZ9⟩ := hZ9
      obtain ⟨b569, hZ9⟩ := hZ9
      obtain ⟨b570, hZ9⟩ := hZ9
      obtain ⟨b571, hZ9⟩ := hZ9
      obtain ⟨b572, hZ9⟩ := hZ9
      obtain ⟨b573, hZ9⟩ := hZ9
      obtain ⟨b574, hZ9⟩ := hZ9
      obtain ⟨b575, hZ9⟩ := hZ9
      obtain ⟨b576, hZ9⟩ := hZ9
      obtain ⟨b577, hE578⟩ := hZ9
      replace hO557 : u555[40]? = (some (q 40, .inr (11, [.int y558, .ref (q 41), .ref (q 42), .ref (q 43), .ref (q 44), .ref (q 1), .ref (q 47), .ref (q 36), .ref (q 45), .int y559, .int y560, .int y561])) : Option (Nat × va_E)) := hO557
      replace hA563 : u555[41]? = (some (q 41, .inl (g 0, 9, .inl f562)) : Option (Nat × va_E)) := hA563
      replace hA565 : u555[42]? = (some (q 42, .inl (g 1, 9, .inr (.inl f564))) : Option (Nat × va_E)) := hA565
      replace hA567 : u555[43]? = (some (q 43, .inl (g 0, 9, .inl f566)) : Option (Nat × va_E)) := hA567
      obtain ⟨p580, e581⟩ : ∃ z, z = (F_Pri_addNumber (4 : Int32) (0 : Int64) (0 : Int32) t0_0 t0_1 t0_2 t0_3 t1_0 t2_0 t3_0) := ⟨_, rfl⟩
      have e582 : y558 = p580.1 := congrArg (fun z => z.1) (hE578.trans e581.symm)
      have e583 : y559 = p580.2.1 := congrArg (fun z => z.2.1) (hE578.trans e581.symm)
      have e584 : y560 = p580.2.2.1 := congrArg (fun z => z.2.2.1) (hE578.trans e581.symm)
      have e585 : y561 = p580.2.2.2.1 := congrArg (fun z => z.2.2.2.1) (hE578.trans e581.symm)
      have e586 : f562 = p580.2.2.2.2.1 := congrArg (fun z => z.2.2.2.2.1) (hE578.trans e581.symm)
      have e587 : f564 = p580.2.2.2.2.2.1 := congrArg (fun z => z.2.2.2.2.2.1) (hE578.trans e581.symm)
      have e588 : f566 = p580.2.2.2.2.2.2 := congrArg (fun z => z.2.2.2.2.2.2) (hE578.trans e581.symm)
      replace b568 : q_F (1 ≤ y558.toInt) := b568
      replace b569 : q_F (y558.toInt ≤ 9) := b569
      replace b570 : q_F (t0_0.toInt ≤ y558.toInt) := b570
      replace b571 : q_F (y558.toInt ≤ t0_0.toInt + 1) := b571
      replace b572 : q_F (t0_1.toInt ≤ y559.toInt) := b572
      replace b573 : q_F (y559.toInt ≤ t0_1.toInt) := b573
      replace b574 : q_F (t0_2.toInt ≤ y560.toInt) := b574
      replace b575 : q_F (y560.toInt ≤ t0_2.toInt) := b575
      replace b576 : q_F (t0_3.toInt ≤ y561.toInt) := b576
      replace b577 : q_F (y561.toInt ≤ t0_3.toInt) := b577
      replace hT6 := (hu579 _ (by decide)).trans hT6
      replace hT7 := (hu579 _ (by decide)).trans hT7
      replace hT8 := (hu579 _ (by decide)).trans hT8
      replace hT9 := (hu579 _ (by decide)).trans hT9
      replace hT10 := (hu579 _ (by decide)).trans hT10
      replace hT11 := (hu579 _ (by decide)).trans hT11
      replace hT12 := (hu579 _ (by decide)).trans hT12
      replace hT13 := (hu579 _ (by decide)).trans hT13
      replace hT14 := (hu579 _ (by decide)).trans hT14
      replace hT15 := (hu579 _ (by decide)).trans hT15
      replace hT16 := (hu579 _ (by decide)).trans hT16
      replace hT17 := (hu579 _ (by decide)).trans hT17
      replace hO537 := (hu579 _ (by decide)).trans hO537
      replace hA540 := (hu579 _ (by decide)).trans hA540
      replace hT20 := (hu579 _ (by decide)).trans hT20
      replace hT21 := (hu579 _ (by decide)).trans hT21
      replace hT22 := (hu579 _ (by decide)).trans hT22
      replace hT23 := (hu579 _ (by decide)).trans hT23
      replace hF := q_uc hF hu579 (by first | exact (q_sk (q_mi 0 rfl) (q_sk (q_mi 1 rfl) (q_sk (q_mi 2 rfl) (q_sk (q_mi 3 rfl) q_s0)))) | simp)
      have hR589 := (show F_Pri_addText_c49_14 t0_0 t0_1 t0_2 t0_3 t1_0 t2_0 t3_0 t4_0 t5_0 t6_0 t7_0 t8_0 t9_0 t10_0 t11_0 t12_0 t13_0 t14_0 t15_0 t16_0 t17_0 t18_0 t19_0 t20_0 t21_0 t22_0 t23_0 p546 y538 f539 p580 = (F_Pri_addText t0_0 t0_1 t0_2 t0_3 t1_0 t2_0 t3_0 t4_0 t5_0 t6_0 t7_0 t8_0 t9_0 t10_0 t11_0 t12_0 t13_0 t14_0 t15_0 t16_0 t17_0 t18_0 t19_0 t20_0 t21_0 t22_0 t23_0) from Eq.trans (by rw [e581, e549, e548, F_Pri_addText_c42_13.eq_1]) hR550)
      exact q_retv C0 V (⟨hI, hF, y558, y559, y560, y561, f562, f564, f566, t6_0, t7_0, t8_0, t9_0, t10_0, t11_0, t12_0, t13_0, t14_0, t15_0, t16_0, t17_0, y538, f539, t20_0, t21_0, t22_0, t23_0, hO557, hA563, hA565, hA567, hT6, hT7, hT8, hT9, hT10, hT11, hT12, hT13, hT14, hT15, hT16, hT17, hO537, hA540, hT20, hT21, hT22, hT23, (show 1 ≤ y558.toInt from (by first | with_reducible exact q_fe b568 | (have t1 : 1 ≤ y558.toInt := b568; omega))), (show y558.toInt ≤ 9 from (by first | with_reducible exact q_fe b569 | (have t1 : y558.toInt ≤ 9 := b569; omega))), (show 0 ≤ y559.toInt + 1 from (by have t1 : -1 ≤ t0_1.toInt ∧ t0_1.toInt ≤ 1000000 := btt0_1; have t2 : t0_1.toInt ≤ y559.toInt := b572; omega)), (show y559.toInt ≤ 1000000 from (by have t1 : -1 ≤ t0_1.toInt ∧ t0_1.toInt ≤ 1000000 := btt0_1; have t2 : y559.toInt ≤ t0_1.toInt := b573; omega)), (show 0 ≤ y561.toInt + 1 from (by have t1 : -1 ≤ t0_3.toInt ∧ t0_3.toInt ≤ 8 := btt0_3; have t2 : t0_3.toInt ≤ y561.toInt := b576; omega)), (show y561.toInt ≤ 8 from (by have t1 : -1 ≤ t0_3.toInt ∧ t0_3.toInt ≤ 8 := btt0_3; have t2 : y561.toInt ≤ t0_3.toInt := b577; omega)), (show 0 ≤ t6_0.toInt from (by first | with_reducible exact (q_fe btt6_0).2 | with_reducible exact (q_fe btt6_0).1 | (have t1 : 0 ≤ t6_0.toInt ∧ t6_0.toInt ≤ 64 := btt6_0; omega))), (show t6_0.toInt ≤ 64 from (by first | with_reducible exact (q_fe btt6_0).2 | with_reducible exact (q_fe btt6_0).1 | (have t1 : 0 ≤ t6_0.toInt ∧ t6_0.toInt ≤ 64 := btt6_0; omega))), (show 0 ≤ t8_0.toInt from (by first | with_reducible exact (q_fe btt8_0).2 | with_reducible exact (q_fe btt8_0).1 | (have t1 : 0 ≤ t8_0.toInt ∧ t8_0.toInt ≤ 64 := btt8_0; omega))), (show t8_0.toInt ≤ 64 from (by first | with_reducible exact (q_fe btt8_0).2 | with_reducible exact (q_fe btt8_0).1 | (have t1 : 0 ≤ t8_0.toInt ∧ t8_0.toInt ≤ 64 := btt8_0; omega))), (show 0 ≤ t10_0.toInt from (by first | with_reducible exact (q_fe btt10_0).2 | with_reducible exact (q_fe btt10_0).1 | (have t1 : 0 ≤ t10_0.toInt ∧ t10_0.toInt ≤ 64 := btt10_0; omega))), (show t10_0.toInt ≤ 64 from (by first | with_reducible exact (q_fe btt10_0).2 | with_reducible exact (q_fe btt10_0).1 | (have t1 : 0 ≤ t10_0.toInt ∧ t10_0.toInt ≤ 64 := btt10_0; omega))), (show 0 ≤ t12_0.toInt from (by first | with_reducible exact (q_fe btt12_0).2 | with_reducible exact (q_fe btt12_0).1 | (have t1 : 0 ≤ t12_0.toInt ∧ t12_0.toInt ≤ 64 := btt12_0; omega))), (show t12_0.toInt ≤ 64 from (by first | with_reducible exact (q_fe btt12_0).2 | with_reducible exact (q_fe btt12_0).1 | (have t1 : 0 ≤ t12_0.toInt ∧ t12_0.toInt ≤ 64 := btt12_0; omega))), (show 0 ≤ t14_0.toInt from (by first | with_reducible exact (q_fe btt14_0).2 | with_reducible exact (q_fe btt14_0).1 | (have t1 : 0 ≤ t14_0.toInt ∧ t14_0.toInt ≤ 64 := btt14_0; omega))), (show t14_0.toInt ≤ 64 from (by first | with_reducible exact (q_fe btt14_0).2 | with_reducible exact (q_fe btt14_0).1 | (have t1 : 0 ≤ t14_0.toInt ∧ t14_0.toInt ≤ 64 := btt14_0; omega))), (show 0 ≤ t16_0.toInt from (by first | with_reducible exact (q_fe btt16_0).2 | with_reducible exact (q_fe btt16_0).1 | (have t1 : 0 ≤ t16_0.toInt ∧ t16_0.toInt ≤ 64 := btt16_0; omega))), (show t16_0.toInt ≤ 64 from (by first | with_reducible exact (q_fe btt16_0).2 | with_reducible exact (q_fe btt16_0).1 | (have t1 : 0 ≤ t16_0.toInt ∧ t16_0.toInt ≤ 64 := btt16_0; omega))), (show 0 ≤ y538.toInt from (by have t1 : 0 ≤ y526.toInt := b527; have t2 : y526.toInt ≤ y538.toInt := b541; omega)), (show y538.toInt ≤ 64 from (by first | with_reducible exact q_fe b542 | (have t1 : y538.toInt ≤ 64 := b542; omega))), (show 0 ≤ t20_0.toInt from (by first | with_reducible exact (q_fe btt20_0).2 | with_reducible exact (q_fe btt20_0).1 | (have t1 : 0 ≤ t20_0.toInt ∧ t20_0.toInt ≤ 64 := btt20_0; omega))), (show t20_0.toInt ≤ 64 from (by first | with_reducible exact (q_fe btt20_0).2 | with_reducible exact (q_fe btt20_0).1 | (have t1 : 0 ≤ t20_0.toInt ∧ t20_0.toInt ≤ 64 := btt20_0; omega))), (show 0 ≤ t22_0.toInt from (by first | with_reducible exact (q_fe btt22_0).2 | with_reducible exact (q_fe btt22_0).1 | (have t1 : 0 ≤ t22_0.toInt ∧ t22_0.toInt ≤ 64 := btt22_0; omega))), (show t22_0.toInt ≤ 64 from (by first | with_reducible exact (q_fe btt22_0).2 | with_reducible exact (q_fe btt22_0).1 | (have t1 : 0 ≤ t22_0.toInt ∧ t22_0.toInt ≤ 64 := btt22_0; omega))), (show t0_0.toInt ≤ y558.toInt from (by first | with_reducible exact q_fe b570 | (have t1 : t0_0.toInt ≤ y558.toInt := b570; omega))), (show y558.toInt ≤ t0_0.toInt + 1 from (by first | with_reducible exact q_fe b571 | (have t1 : y558.toInt ≤ t0_0.toInt + 1 := b571; omega))), (show t0_1.toInt ≤ y559.toInt from (by first | with_reducible exact q_fe b572 | (have t1 : t0_1.toInt ≤ y559.toInt := b572; omega))), (show y559.toInt ≤ t0_1.toInt from (by first | with_reducible exact q_fe b573 | (have t1 : y559.toInt ≤ t0_1.toInt := b573; omega))), (show t0_2.toInt ≤ y560.toInt from (by first | with_reducible exact q_fe b574 | (have t1 : t0_2.toInt ≤ y560.toInt := b574; omega))), (show y560.toInt ≤ t0_2.toInt from (by first | with_reducible exact q_fe b575 | (have t1 : y560.toInt ≤ t0_2.toInt := b575; omega))), (show t0_3.toInt ≤ y561.toInt from (by first | with_reducible exact q_fe b576 | (have t1 : t0_3.toInt ≤ y561.toInt := b576; omega))), (show y561.toInt ≤ t0_3.toInt from (by first | with_reducible exact q_fe b577 | (have t1 : y561.toInt ≤ t0_3.toInt := b577; omega))), (show (y558, y559, y560, y561, f562, f564, f566, t6_0, t7_0, t8_0, t9_0, t10_0, t11_0, t12_0, t13_0, t14_0, t15_0, t16_0, t17_0, y538, f539, t20_0, t21_0, t22_0, t23_0) = (F_Pri_addText t0_0 t0_1 t0_2 t0_3 t1_0 t2_0 t3_0 t4_0 t5_0 t6_0 t7_0 t8_0 t9_0 t10_0 t11_0 t12_0 t13_0 t14_0 t15_0 t16_0 t17_0 t18_0 t19_0 t20_0 t21_0 t22_0 t23_0) from Eq.trans (by rw [e588, e587, e586, e585, e584, e583, e582, F_Pri_addText_c49_14.eq_1]) hR589)⟩) d_9_4_52
    have b594 : q_F (t0_0.toInt ≠ 6) := (q_neI c520)
    by_cases c595 : t0_0 = 7
    ·
      have b596 : q_F (t0_0.toInt = 7) := (q_eqI c595)
      refine q_ti (v := 7) c595 ?_
      have hX597 := n_fx hI (n_s44 g q)
      refine q_aald (t := 6) (q := q 62) C0 V hX597 rfl (q_ix (x := 7) (by decide) (by omega) (by omega)) (show n_ft q ((7 : Int32).toNatClampNeg) = _ from n_ftv (j := 7) (by decide)) d_9_4_17 ?_
      refine q_gov V (q_runV (As := []) (rest := []) (d := 1) (mc := 0) (ms := 0) (ci := 1) C0 V rfl LV_Pri_70 (X_She_clear l D g q ws 62 64 8 64 (n_h62 g q)  hI t20_0 hT20  _) rfl rfl hT20 rfl hl.1 rfl (Nat.le_of_ble_eq_true rfl) ⟨by decide, by decide⟩ ⟨Nat.le_of_ble_eq_true rfl, Nat.le_of_ble_eq_true rfl⟩ d_9_4_18) (fun u598 H locs hp599 V => ?_)
      obtain ⟨hI, hZ9⟩ := hp599
      obtain ⟨hu605, hZ9⟩ := hZ9
      obtain ⟨y601, hZ9⟩ := hZ9
      obtain ⟨hO600, hZ9⟩ := hZ9
      obtain ⟨b602, hZ9⟩ := hZ9
      obtain ⟨b603, hE604⟩ := hZ9
      replace hO600 : u598[62]? = (some (q 62, .inr (1, [.ref (q 63), .int 64, .int y601])) : Option (Nat × va_E)) := hO600
      have e606 : y601 = (F_She_clear (64 : Int32) (8 : Int32) (64 : Int32) t20_0) := hE604
      replace b602 : q_F (0 ≤ y601.toInt) := b602
      replace b603 : q_F (y601.toInt ≤ 0) := b603
      replace hT0 := (hu605 _ (by decide)).trans hT0
      replace hT1 := (hu605 _ (by decide)).trans hT1
      replace hT2 := (hu605 _ (by decide)).trans hT2
      replace hT3 := (hu605 _ (by decide)).trans hT3
      replace hT4 := (hu605 _ (by decide)).trans hT4
      replace hT5 := (hu605 _ (by decide)).trans hT5
      replace hT6 := (hu605 _ (by decide)).trans hT6
      replace hT7 := (hu605 _ (by decide)).trans hT7
      replace hT8 := (hu605 _ (by decide)).trans hT8
      replace hT9 := (hu605 _ (by decide)).trans hT9
      replace hT10 := (hu605 _ (by decide)).trans hT10
      replace hT11 := (hu605 _ (by decide)).trans hT11
      replace hT12 := (hu605 _ (by decide)).trans hT12
      replace hT13 := (hu605 _ (by decide)).trans hT13
      replace hT14 := (hu605 _ (by decide)).trans hT14
      replace hT15 := (hu605 _ (by decide)).trans hT15
      replace hT16 := (hu605 _ (by decide)).trans hT16
      replace hT17 := (hu605 _ (by decide)).trans hT17
      replace hT18 := (hu605 _ (by decide)).trans hT18
      replace hT19 := (hu605 _ (by decide)).trans hT19
      replace hT21 := (hu605 _ (by decide)).trans hT21
      replace hT22 := (hu605 _ (by decide)).trans hT22
      replace hT23 := (hu605 _ (by decide)).trans hT23
      replace hF := q_uc hF hu605 (by first | exact (q_sk (q_mi 18 rfl) q_s0) | simp)
      refine lv_aload_n hx hb d_9_4_21 rfl (lv_at hl 0 rfl) ?_
      refine q_get (ci := 11) (j := 4) (v := .ref (q 44)) C0 V i_Pri rfl rfl hT0 (by decide) w_389 rfl d_9_4_22 ?_
      refine lv_aload_n hx hb d_9_4_25 rfl (lv_at hl 0 rfl) ?_
      refine q_get (ci := 11) (j := 0) (v := .int t0_0) C0 V i_Pri rfl rfl hT0 (by decide) w_384 rfl d_9_4_26 ?_
      have c607 : t0_0 = 7 := q_Ieq (x := t0_0.toInt) (y := 7) rfl (by decide) (by have t1 : 0 ≤ t0_0.toInt ∧ t0_0.toInt ≤ 9 := btt0_0; have t2 : t0_0.toInt < 9 := b69; have t3 : t0_0.toInt ≠ 0 := b144; have t4 : t0_0.toInt ≠ 1 := b219; have t5 : t0_0.toInt ≠ 2 := b294; have t6 : t0_0.toInt ≠ 3 := b369; have t7 : t0_0.toInt ≠ 4 := b444; have t8 : t0_0.toInt ≠ 5 := b519; have t9 : t0_0.toInt ≠ 6 := b594; have t10 : t0_0.toInt = 7 := b596; omega)
      refine q_ti (v := 7) c607 ?_
      have hX609 := n_fx hI (n_s44 g q)
      refine q_aald (t := 6) (q := q 62) C0 V hX609 rfl (q_ix (x := 7) (by decide) (by omega) (by omega)) (show n_ft q ((7 : Int32).toNatClampNeg) = _ from n_ftv (j := 7) (by decide)) d_9_4_29 ?_
      refine lv_aload_n hx hb d_9_4_30 rfl (lv_at hl 0 rfl) ?_
      refine q_get (ci := 11) (j := 5) (v := .ref (q 1)) C0 V i_Pri rfl rfl hT0 (by decide) w_390 rfl d_9_4_31 ?_
      refine lv_iconst (v := 0) hx hb d_9_4_34 (by decide) ?_
      refine lv_aload_n hx hb d_9_4_35 rfl (lv_at hl 0 rfl) ?_
      refine q_get (ci := 11) (j := 5) (v := .ref (q 1)) C0 V i_Pri rfl rfl hT0 (by decide) w_390 rfl d_9_4_36 ?_
      refine q_get (ci := 1) (j := 2) (v := .int t4_0) C0 V i_She rfl rfl hT4 (by decide) w_58 rfl d_9_4_39 ?_
      refine q_gov V (q_runS (As := [.ref (q 62), .ref (q 1), .int 0, .int t4_0]) (rest := []) (d := 2) (mc := 0) (ms := 0) C0 V rfl LS_Pri_76 (X_Pri_copyInto l D g q u598 62 64 8 64 (n_h62 g q) 1 4100 513 4100 (n_h1 g q) 0 t4_0 (by decide) (by decide) (by decide) hI y601 hO600 t21_0 hT21 t4_0 hT4 t5_0 hT5 (by have y0 : (64 : Int32).toInt = 64 := rfl; have y1 : (8 : Int32).toInt = 8 := rfl; have y2 : (64 : Int32).toInt = 64 := rfl; have y3 : (4100 : Int32).toInt = 4100 := rfl; have y4 : (513 : Int32).toInt = 513 := rfl; have y5 : (4100 : Int32).toInt = 4100 := rfl; have y6 : (0 : Int32).toInt = 0 := rfl; omega) (by have y0 : (64 : Int32).toInt = 64 := rfl; have y1 : (8 : Int32).toInt = 8 := rfl; have y2 : (64 : Int32).toInt = 64 := rfl; have y3 : (4100 : Int32).toInt = 4100 := rfl; have y4 : (513 : Int32).toInt = 513 := rfl; have y5 : (4100 : Int32).toInt = 4100 := rfl; have y6 : (0 : Int32).toInt = 0 := rfl; have t1 : 0 ≤ t4_0.toInt ∧ t4_0.toInt ≤ 4100 := btt4_0; omega) (by have y0 : (64 : Int32).toInt = 64 := rfl; have y1 : (8 : Int32).toInt = 8 := rfl; have y2 : (64 : Int32).toInt = 64 := rfl; have y3 : (4100 : Int32).toInt = 4100 := rfl; have y4 : (513 : Int32).toInt = 513 := rfl; have y5 : (4100 : Int32).toInt = 4100 := rfl; have y6 : (0 : Int32).toInt = 0 := rfl; have t1 : t4_0.toInt ≤ 64 := pre0; have t2 : y601.toInt ≤ 0 := b603; omega) _) rfl hl.1 rfl (Nat.le_of_ble_eq_true rfl) ⟨by decide, by decide⟩ ⟨Nat.le_of_ble_eq_true rfl, Nat.le_of_ble_eq_true rfl⟩ d_9_4_42) (fun u610 H locs hp611 V => ?_)
      obtain ⟨hI, hZ9⟩ := hp611
      obtain ⟨hu620, hZ9⟩ := hZ9
      obtain ⟨y613, hZ9⟩ := hZ9
      obtain ⟨f614, hZ9⟩ := hZ9
      obtain ⟨hO612, hZ9⟩ := hZ9
      obtain ⟨hA615, hZ9⟩ := hZ9
      obtain ⟨b616, hZ9⟩ := hZ9
      obtain ⟨b617, hZ9⟩ := hZ9
      obtain ⟨-, hE619⟩ := hZ9
      replace hO612 : u610[62]? = (some (q 62, .inr (1, [.ref (q 63), .int 64, .int y613])) : Option (Nat × va_E)) := hO612
      replace hA615 : u610[63]? = (some (q 63, .inl (g 1, (8 : Int32).toNatClampNeg, .inr (.inl f614))) : Option (Nat × va_E)) := hA615
      obtain ⟨p621, e622⟩ : ∃ z, z = (F_Pri_copyInto (64 : Int32) (8 : Int32) (64 : Int32) (4100 : Int32) (513 : Int32) (4100 : Int32) (0 : Int32) t4_0 y601 t21_0 t4_0 t5_0) := ⟨_, rfl⟩
      have e623 : y613 = p621.1 := congrArg (fun z => z.1) (hE619.trans e622.symm)
      have e624 : f614 = p621.2 := congrArg (fun z => z.2) (hE619.trans e622.symm)
      replace b616 : q_F (y601.toInt ≤ y613.toInt) := b616
      replace b617 : q_F (y613.toInt ≤ 64) := b617
      replace hT0 := (hu620 _ (by decide)).trans hT0
      replace hT1 := (hu620 _ (by decide)).trans hT1
      replace hT2 := (hu620 _ (by decide)).trans hT2
      replace hT3 := (hu620 _ (by decide)).trans hT3
      replace hT6 := (hu620 _ (by decide)).trans hT6
      replace hT7 := (hu620 _ (by decide)).trans hT7
      replace hT8 := (hu620 _ (by decide)).trans hT8
      replace hT9 := (hu620 _ (by decide)).trans hT9
      replace hT10 := (hu620 _ (by decide)).trans hT10
      replace hT11 := (hu620 _ (by decide)).trans hT11
      replace hT12 := (hu620 _ (by decide)).trans hT12
      replace hT13 := (hu620 _ (by decide)).trans hT13
      replace hT14 := (hu620 _ (by decide)).trans hT14
      replace hT15 := (hu620 _ (by decide)).trans hT15
      replace hT16 := (hu620 _ (by decide)).trans hT16
      replace hT17 := (hu620 _ (by decide)).trans hT17
      replace hT18 := (hu620 _ (by decide)).trans hT18
      replace hT19 := (hu620 _ (by decide)).trans hT19
      replace hT22 := (hu620 _ (by decide)).trans hT22
      replace hT23 := (hu620 _ (by decide)).trans hT23
      replace hF := q_uc hF hu620 (by first | exact (q_sk (q_mi 18 rfl) (q_sk (q_mi 19 rfl) q_s0)) | simp)
      have hR625 := (show F_Pri_addText_c42_15 t0_0 t0_1 t0_2 t0_3 t1_0 t2_0 t3_0 t4_0 t5_0 t6_0 t7_0 t8_0 t9_0 t10_0 t11_0 t12_0 t13_0 t14_0 t15_0 t16_0 t17_0 t18_0 t19_0 t20_0 t21_0 t22_0 t23_0 p621 = (F_Pri_addText t0_0 t0_1 t0_2 t0_3 t1_0 t2_0 t3_0 t4_0 t5_0 t6_0 t7_0 t8_0 t9_0 t10_0 t11_0 t12_0 t13_0 t14_0 t15_0 t16_0 t17_0 t18_0 t19_0 t20_0 t21_0 t22_0 t23_0) from (by rw [e622, e606, F_Pri_addText.eq_1, if_neg c67, if_neg c70, if_neg c145, if_neg c220, if_neg c295, if_neg c370, if_neg c445, if_neg c520, if_pos c595]))
      refine lv_aload_n hx hb d_9_4_45 rfl (lv_at hl 0 rfl) ?_
      refine lv_iconst (v := 4) hx hb d_9_4_46 (by decide) ?_
      refine lv_lconst (v := 0) hx hb d_9_4_47 (by decide) ?_
      refine lv_iconst (v := 0) hx hb d_9_4_48 (by decide) ?_
      refine q_gov V (q_runV (As := [.int 4, .long 0, .int 0]) (rest := []) (d := 1) (mc := 0) (ms := 0) (ci := 11) C0 V rfl LV_Pri_80 (X_Pri_addNumber l D g q u610  4 0 0 hI t0_0 t0_1 t0_2 t0_3 hT0 t1_0 hT1 t2_0 hT2 t3_0 hT3 (by have y0 : (4 : Int32).toInt = 4 := rfl; have y1 : (0 : Int64).toInt = 0 := rfl; have y2 : (0 : Int32).toInt = 0 := rfl; omega) (by have y0 : (4 : Int32).toInt = 4 := rfl; have y1 : (0 : Int64).toInt = 0 := rfl; have y2 : (0 : Int32).toInt = 0 := rfl; omega) _) rfl rfl hT0 rfl hl.1 rfl (Nat.le_of_ble_eq_true rfl) ⟨by decide, by decide⟩ ⟨Nat.le_of_ble_eq_true rfl, Nat.le_of_ble_eq_true rfl⟩ d_9_4_49) (fun u630 H locs hp631 V => ?_)
      obtain ⟨hI, hZ9⟩ := hp631
      obtain ⟨hu654, hZ9⟩ := hZ9
      obtain ⟨y633, hZ9⟩ := hZ9
      obtain ⟨y634, hZ9⟩ := hZ9
      obtain ⟨y635, hZ9⟩ := hZ9
      obtain ⟨y636, hZ9⟩ := hZ9
      obtain ⟨f637, hZ9⟩ := hZ9
      obtain ⟨f639, hZ9⟩ := hZ9
      obtain ⟨f641, hZ9⟩ := hZ9
      obtain ⟨hO632, hZ9⟩ := hZ9
      obtain ⟨hA638, hZ9⟩ := hZ9
      obtain ⟨hA640, hZ9⟩ := hZ9
      obtain ⟨hA642, hZ9⟩ := hZ9
      obtain ⟨b643, hZ9⟩ := hZ9
      obtain ⟨b644, hZ9⟩ := hZ9
      obtain ⟨b645, hZ9⟩ := hZ9
      obtain ⟨b646, hZ9⟩ := hZ9
      obtain ⟨b647, hZ9⟩ := hZ9
      obtain ⟨b648, hZ9⟩ := hZ9
      obtain ⟨b649, hZ9⟩ := hZ9
      obtain ⟨b650, hZ9⟩ := hZ9
      obtain ⟨b651, hZ9⟩ := hZ9
      obtain ⟨b652, hE653⟩ := hZ9
      replace hO632 : u630[40]? = (some (q 40, .inr (11, [.int y633, .ref (q 41), .ref (q 42), .ref (q 43), .ref (q 44), .ref (q 1), .ref (q 47), .ref (q 36), .ref (q 45), .int y634, .int y635, .int y636])) : Option (Nat × va_E)) := hO632
      replace hA638 : u630[41]? = (some (q 41, .inl (g 0, 9, .inl f637)) : Option (Nat × va_E)) := hA638
      replace hA640 : u630[42]? = (some (q 42, .inl (g 1, 9, .inr (.inl f639))) : Option (Nat × va_E)) := hA640
      replace hA642 : u630[43]? = (some (q 43, .inl (g 0, 9, .inl f641)) : Option (Nat × va_E)) := hA642
      obtain ⟨p655, e656⟩ : ∃ z, z = (F_Pri_addNumber (4 : Int32) (0 : Int64) (0 : Int32) t0_0 t0_1 t0_2 t0_3 t1_0 t2_0 t3_0) := ⟨_, rfl⟩
      have e657 : y633 = p655.1 := congrArg (fun z => z.1) (hE653.trans e656.symm)
      have e658 : y634 = p655.2.1 := congrArg (fun z => z.2.1) (hE653.trans e656.symm)
      have e659 : y635 = p655.2.2.1 := congrArg (fun z => z.2.2.1) (hE653.trans e656.symm)
      have e660 : y636 = p655.2.2.2.1 := congrArg (fun z => z.2.2.2.1) (hE653.trans e656.symm)
      have e661 : f637 = p655.2.2.2.2.1 := congrArg (fun z => z.2.2.2.2.1) (hE653.trans e656.symm)
      have e662 : f639 = p655.2.2.2.2.2.1 := congrArg (fun z => z.2.2.2.2.2.1) (hE653.trans e656.symm)
      have e663 : f641 = p655.2.2.2.2.2.2 := congrArg (fun z => z.2.2.2.2.2.2) (hE653.trans e656.symm)
      replace b643 : q_F (1 ≤ y633.toInt) := b643
      replace b644 : q_F (y633.toInt ≤ 9) := b644
      replace b645 : q_F (t0_0.toInt ≤ y633.toInt) := b645
      replace b646 : q_F (y633.toInt ≤ t0_0.toInt + 1) := b646
      replace b647 : q_F (t0_1.toInt ≤ y634.toInt) := b647
      replace b648 : q_F (y634.toInt ≤ t0_1.toInt) := b648
      replace b649 : q_F (t0_2.toInt ≤ y635.toInt) := b649
      replace b650 : q_F (y635.toInt ≤ t0_2.toInt) := b650
      replace b651 : q_F (t0_3.toInt ≤ y636.toInt) := b651
      replace b652 : q_F (y636.toInt ≤ t0_3.toInt) := b652
      replace hT6 := (hu654 _ (by decide)).trans hT6
      replace hT7 := (hu654 _ (by decide)).trans hT7
      replace hT8 := (hu654 _ (by decide)).trans hT8
      replace hT9 := (hu654 _ (by decide)).trans hT9
      replace hT10 := (hu654 _ (by decide)).trans hT10
      replace hT11 := (hu654 _ (by decide)).trans hT11
      replace hT12 := (hu654 _ (by decide)).trans hT12
      replace hT13 := (hu654 _ (by decide)).trans hT13
      replace hT14 := (hu654 _ (by decide)).trans hT14
      replace hT15 := (hu654 _ (by decide)).trans hT15
      replace hT16 := (hu654 _ (by decide)).trans hT16
      replace hT17 := (hu654 _ (by decide)).trans hT17
      replace hT18 := (hu654 _ (by decide)).trans hT18
      replace hT19 := (hu654 _ (by decide)).trans hT19
      replace hO612 := (hu654 _ (by decide)).trans hO612
      replace hA615 := (hu654 _ (by decide)).trans hA615
      replace hT22 := (hu654 _ (by decide)).trans hT22
      replace hT23 := (hu654 _ (by decide)).trans hT23
      replace hF := q_uc hF hu654 (by first | exact (q_sk (q_mi 0 rfl) (q_sk (q_mi 1 rfl) (q_sk (q_mi 2 rfl) (q_sk (q_mi 3 rfl) q_s0)))) | simp)
      have hR664 := (show F_Pri_addText_c49_16 t0_0 t0_1 t0_2 t0_3 t1_0 t2_0 t3_0 t4_0 t5_0 t6_0 t7_0 t8_0 t9_0 t10_0 t11_0 t12_0 t13_0 t14_0 t15_0 t16_0 t17_0 t18_0 t19_0 t20_0 t21_0 t22_0 t23_0 p621 y613 f614 p655 = (F_Pri_addText t0_0 t0_1 t0_2 t0_3 t1_0 t2_0 t3_0 t4_0 t5_0 t6_0 t7_0 t8_0 t9_0 t10_0 t11_0 t12_0 t13_0 t14_0 t15_0 t16_0 t17_0 t18_0 t19_0 t20_0 t21_0 t22_0 t23_0) from Eq.trans (by rw [e656, e624, e623, F_Pri_addText_c42_15.eq_1]) hR625)
      exact q_retv C0 V (⟨hI, hF, y633, y634, y635, y636, f637, f639, f641, t6_0, t7_0, t8_0, t9_0, t10_0, t11_0, t12_0, t13_0, t14_0, t15_0, t16_0, t17_0, t18_0, t19_0, y613, f614, t22_0, t23_0, hO632, hA638, hA640, hA642, hT6, hT7, hT8, hT9, hT10, hT11, hT12, hT13, hT14, hT15, hT16, hT17, hT18, hT19, hO612, hA615, hT22, hT23, (show 1 ≤ y633.toInt from (by first | with_reducible exact q_fe b643 | (have t1 : 1 ≤ y633.toInt := b643; omega))), (show y633.toInt ≤ 9 from (by first | with_reducible exact q_fe b644 | (have t1 : y633.toInt ≤ 9 := b644; omega))), (show 0 ≤ y634.toInt + 1 from (by have t1 : -1 ≤ t0_1.toInt ∧ t0_1.toInt ≤ 1000000 := btt0_1; have t2 : t0_1.toInt ≤ y634.toInt := b647; omega)), (show y634.toInt ≤ 1000000 from (by have t1 : -1 ≤ t0_1.toInt ∧ t0_1.toInt ≤ 1000000 := btt0_1; have t2 : y634.toInt ≤ t0_1.toInt := b648; omega)), (show 0 ≤ y636.toInt + 1 from (by have t1 : -1 ≤ t0_3.toInt ∧ t0_3.toInt ≤ 8 := btt0_3; have t2 : t0_3.toInt ≤ y636.toInt := b651; omega)), (show y636.toInt ≤ 8 from (by have t1 : -1 ≤ t0_3.toInt ∧ t0_3.toInt ≤ 8 := btt0_3; have t2 : y636.toInt ≤ t0_3.toInt := b652; omega)), (show 0 ≤ t6_0.toInt from (by first | with_reducible exact (q_fe btt6_0).2 | with_reducible exact (q_fe btt6_0).1 | (have t1 : 0 ≤ t6_0.toInt ∧ t6_0.toInt ≤ 64 := btt6_0; omega))), (show t6_0.toInt ≤ 64 from (by first | with_reducible exact (q_fe btt6_0).2 | with_reducible exact (q_fe btt6_0).1 | (have t1 : 0 ≤ t6_0.toInt ∧ t6_0.toInt ≤ 64 := btt6_0; omega))), (show 0 ≤ t8_0.toInt from (by first | with_reducible exact (q_fe btt8_0).2 | with_reducible exact (q_fe btt8_0).1 | (have t1 : 0 ≤ t8_0.toInt ∧ t8_0.toInt ≤ 64 := btt8_0; omega))), (show t8_0.toInt ≤ 64 from (by first | with_reducible exact (q_fe btt8_0).2 | with_reducible exact (q_fe btt8_0).1 | (have t1 : 0 ≤ t8_0.toInt ∧ t8_0.toInt ≤ 64 := btt8_0; omega))), (show 0 ≤ t10_0.toInt from (by first | with_reducible exact (q_fe btt10_0).2 | with_reducible exact (q_fe btt10_0).1 | (have t1 : 0 ≤ t10_0.toInt ∧ t10_0.toInt ≤ 64 := btt10_0; omega))), (show t10_0.toInt ≤ 64 from (by first | with_reducible exact (q_fe btt10_0).2 | with_reducible exact (q_fe btt10_0).1 | (have t1 : 0 ≤ t10_0.toInt ∧ t10_0.toInt ≤ 64 := btt10_0; omega))), (show 0 ≤ t12_0.toInt from (by first | with_reducible exact (q_fe btt12_0).2 | with_reducible exact (q_fe btt12_0).1 | (have t1 : 0 ≤ t12_0.toInt ∧ t12_0.toInt ≤ 64 := btt12_0; omega))), (show t12_0.toInt ≤ 64 from (by first | with_reducible exact (q_fe btt12_0).2 | with_reducible exact (q_fe btt12_0).1 | (have t1 : 0 ≤ t12_0.toInt ∧ t12_0.toInt ≤ 64 := btt12_0; omega))), (show 0 ≤ t14_0.toInt from (by first | with_reducible exact (q_fe btt14_0).2 | with_reducible exact (q_fe btt14_0).1 | (have t1 : 0 ≤ t14_0.toInt ∧ t14_0.toInt ≤ 64 := btt14_0; omega))), (show t14_0.toInt ≤ 64 from (by first | with_reducible exact (q_fe btt14_0).2 | with_reducible exact (q_fe btt14_0).1 | (have t1 : 0 ≤ t14_0.toInt ∧ t14_0.toInt ≤ 64 := btt14_0; omega))), (show 0 ≤ t16_0.toInt from (by first | with_reducible exact (q_fe btt16_0).2 | with_reducible exact (q_fe btt16_0).1 | (have t1 : 0 ≤ t16_0.toInt ∧ t16_0.toInt ≤ 64 := btt16_0; omega))), (show t16_0.toInt ≤ 64 from (by first | with_reducible exact (q_fe btt16_0).2 | with_reducible exact (q_fe btt16_0).1 | (have t1 : 0 ≤ t16_0.toInt ∧ t16_0.toInt ≤ 64 := btt16_0; omega))), (show 0 ≤ t18_0.toInt from (by first | with_reducible exact (q_fe btt18_0).2 | with_reducible exact (q_fe btt18_0).1 | (have t1 : 0 ≤ t18_0.toInt ∧ t18_0.toInt ≤ 64 := btt18_0; omega))), (show t18_0.toInt ≤ 64 from (by first | with_reducible exact (q_fe btt18_0).2 | with_reducible exact (q_fe btt18_0).1 | (have t1 : 0 ≤ t18_0.toInt ∧ t18_0.toInt ≤ 64 := btt18_0; omega))), (show 0 ≤ y613.toInt from (by have t1 : 0 ≤ y601.toInt := b602; have t2 : y601.toInt ≤ y613.toInt := b616; omega)), (show y613.toInt ≤ 64 from (by first | with_reducible exact q_fe b617 | (have t1 : y613.toInt ≤ 64 := b617; omega))), (show 0 ≤ t22_0.toInt from (by first | with_reducible exact (q_fe btt22_0).2 | with_reducible exact (q_fe btt22_0).1 | (have t1 : 0 ≤ t22_0.toInt ∧ t22_0.toInt ≤ 64 := btt22_0; omega))), (show t22_0.toInt ≤ 64 from (by first | with_reducible exact (q_fe btt22_0).2 | with_reducible exact (q_fe btt22_0).1 | (have t1 : 0 ≤ t22_0.toInt ∧ t22_0.toInt ≤ 64 := btt22_0; omega))), (show t0_0.toInt ≤ y633.toInt from (by first | with_reducible exact q_fe b645 | (have t1 : t0_0.toInt ≤ y633.toInt := b645; omega))), (show y633.toInt ≤ t0_0.toInt + 1 from (by first | with_reducible exact q_fe b646 | (have t1 : y633.toInt ≤ t0_0.toInt + 1 := b646; omega))), (show t0_1.toInt ≤ y634.toInt from (by first | with_reducible exact q_fe b647 | (have t1 : t0_1.toInt ≤ y634.toInt := b647; omega))), (show y634.toInt ≤ t0_1.toInt from (by first | with_reducible exact q_fe b648 | (have t1 : y634.toInt ≤ t0_1.toInt := b648; omega))), (show t0_2.toInt ≤ y635.toInt from (by first | with_reducible exact q_fe b649 | (have t1 : t0_2.toInt ≤ y635.toInt := b649; omega))), (show y635.toInt ≤ t0_2.toInt from (by first | with_reducible exact q_fe b650 | (have t1 : y635.toInt ≤ t0_2.toInt := b650; omega))), (show t0_3.toInt ≤ y636.toInt from (by first | with_reducible exact q_fe b651 | (have t1 : t0_3.toInt ≤ y636.toInt := b651; omega))), (show y636.toInt ≤ t0_3.toInt from (by first | with_reducible exact q_fe b652 | (have t1 : y636.toInt ≤ t0_3.toInt := b652; omega))), (show (y633, y634, y635, y636, f637, f639, f641, t6_0, t7_0, t8_0, t9_0, t10_0, t11_0, t12_0, t13_0, t14_0, t15_0, t16_0, t17_0, t18_0, t19_0, y613, f614, t22_0, t23_0) = (F_Pri_addText t0_0 t0_1 t0_2 t0_3 t1_0 t2_0 t3_0 t4_0 t5_0 t6_0 t7_0 t8_0 t9_0 t10_0 t11_0 t12_0 t13_0 t14_0 t15_0 t16_0 t17_0 t18_0 t19_0 t20_0 t21_0 t22_0 t23_0) from Eq.trans (by rw [e663, e662, e661, e660, e659, e658, e657, F_Pri_addText_c49_16.eq_1]) hR664)⟩) d_9_4_52
    have b669 : q_F (t0_0.toInt ≠ 7) := (q_neI c595)
    have c670 : t0_0 = 8 := q_Ieq (x := t0_0.toInt) (y := 8) rfl (by decide) (by have t1 : 0 ≤ t0_0.toInt ∧ t0_0.toInt ≤ 9 := btt0_0; have t2 : t0_0.toInt < 9 := b69; have t3 : t0_0.toInt ≠ 0 := b144; have t4 : t0_0.toInt ≠ 1 := b219; have t5 : t0_0.toInt ≠ 2 := b294; have t6 : t0_0.toInt ≠ 3 := b369; have t7 : t0_0.toInt ≠ 4 := b444; have t8 : t0_0.toInt ≠ 5 := b519; have t9 : t0_0.toInt ≠ 6 := b594; have t10 : t0_0.toInt ≠ 7 := b669; omega)
    have b671 : q_F (t0_0.toInt = 8) := (q_eqI c670)
    refine q_ti (v := 8) c670 ?_
    have hX672 := n_fx hI (n_s44 g q)
    refine q_aald (t := 6) (q := q 64) C0 V hX672 rfl (q_ix (x := 8) (by decide) (by omega) (by omega)) (show n_ft q ((8 : Int32).toNatClampNeg) = _ from n_ftv (j := 8) (by decide)) d_9_4_17 ?_
    refine q_gov V (q_runV (As := []) (rest := []) (d := 1) (mc := 0) (ms := 0) (ci := 1) C0 V rfl LV_Pri_70 (X_She_clear l D g q ws 64 64 8 64 (n_h64 g q)  hI t22_0 hT22  _) rfl rfl hT22 rfl hl.1 rfl (Nat.le_of_ble_eq_true rfl) ⟨by decide, by decide⟩ ⟨Nat.le_of_ble_eq_true rfl, Nat.le_of_ble_eq_true rfl⟩ d_9_4_18) (fun u673 H locs hp674 V => ?_)
    obtain ⟨hI, hZ9⟩ := hp674
    obtain ⟨hu680, hZ9⟩ := hZ9
    obtain ⟨y676, hZ9⟩ := hZ9
    obtain ⟨hO675, hZ9⟩ := hZ9
    obtain ⟨b677, hZ9⟩ := hZ9
    obtain ⟨b678, hE679⟩ := hZ9
    replace hO675 : u673[64]? = (some (q 64, .inr (1, [.ref (q 65), .int 64, .int y676])) : Option (Nat × va_E)) := hO675
    have e681 : y676 = (F_She_clear (64 : Int32) (8 : Int32) (64 : Int32) t22_0) := hE679
    replace b677 : q_F (0 ≤ y676.toInt) := b677
    replace b678 : q_F (y676.toInt ≤ 0) := b678
    replace hT0 := (hu680 _ (by decide)).trans hT0
    replace hT1 := (hu680 _ (by decide)).trans hT1
    replace hT2 := (hu680 _ (by decide)).trans hT2
    replace hT3 := (hu680 _ (by decide)).trans hT3
    replace hT4 := (hu680 _ (by decide)).trans hT4
    replace hT5 := (hu680 _ (by decide)).trans hT5
    replace hT6 := (hu680 _ (by decide)).trans hT6
    replace hT7 := (hu680 _ (by decide)).trans hT7
    replace hT8 := (hu680 _ (by decide)).trans hT8
    replace hT9 := (hu680 _ (by decide)).trans hT9
    replace hT10 := (hu680 _ (by decide)).trans hT10
    replace hT11 := (hu680 _ (by decide)).trans hT11
    replace hT12 := (hu680 _ (by decide)).trans hT12
    replace hT13 := (hu680 _ (by decide)).trans hT13
    replace hT14 := (hu680 _ (by decide)).trans hT14
    replace hT15 := (hu680 _ (by decide)).trans hT15
    replace hT16 := (hu680 _ (by decide)).trans hT16
    replace hT17 := (hu680 _ (by decide)).trans hT17
    replace hT18 := (hu680 _ (by decide)).trans hT18
    replace hT19 := (hu680 _ (by decide)).trans hT19
    replace hT20 := (hu680 _ (by decide)).trans hT20
    replace hT21 := (hu680 _ (by decide)).trans hT21
    replace hT23 := (hu680 _ (by decide)).trans hT23
    replace hF := q_uc hF hu680 (by first | exact (q_sk (q_mi 20 rfl) q_s0) | simp)
    refine lv_aload_n hx hb d_9_4_21 rfl (lv_at hl 0 rfl) ?_
    refine q_get (ci := 11) (j := 4) (v := .ref (q 44)) C0 V i_Pri rfl rfl hT0 (by decide) w_389 rfl d_9_4_22 ?_
    refine lv_aload_n hx hb d_9_4_25 rfl (lv_at hl 0 rfl) ?_
    refine q_get (ci := 11) (j := 0) (v := .int t0_0) C0 V i_Pri rfl rfl hT0 (by decide) w_384 rfl d_9_4_26 ?_
    have c682 : t0_0 = 8 := q_Ieq (x := t0_0.toInt) (y := 8) rfl (by decide) (by have t1 : 0 ≤ t0_0.toInt ∧ t0_0.toInt ≤ 9 := btt0_0; have t2 : t0_0.toInt < 9 := b69; have t3 : t0_0.toInt ≠ 0 := b144; have t4 : t0_0.toInt ≠ 1 := b219; have t5 : t0_0.toInt ≠ 2 := b294; have t6 : t0_0.toInt ≠ 3 := b369; have t7 : t0_0.toInt ≠ 4 := b444; have t8 : t0_0.toInt ≠ 5 := b519; have t9 : t0_0.toInt ≠ 6 := b594; have t10 : t0_0.toInt ≠ 7 := b669; have t11 : t0_0.toInt = 8 := b671; omega)
    refine q_ti (v := 8) c682 ?_
    have hX684 := n_fx hI (n_s44 g q)
    refine q_aald (t := 6) (q := q 64) C0 V hX684 rfl (q_ix (x := 8) (by decide) (by omega) (by omega)) (show n_ft q ((8 : Int32).toNatClampNeg) = _ from n_ftv (j := 8) (by decide)) d_9_4_29 ?_
    refine lv_aload_n hx hb d_9_4_30 rfl (lv_at hl 0 rfl) ?_
    refine q_get (ci := 11) (j := 5) (v := .ref (q 1)) C0 V i_Pri rfl rfl hT0 (by decide) w_390 rfl d_9_4_31 ?_
    refine lv_iconst (v := 0) hx hb d_9_4_34 (by decide) ?_
    refine lv_aload_n hx hb d_9_4_35 rfl (lv_at hl 0 rfl) ?_
    refine q_get (ci := 11) (j := 5) (v := .ref (q 1)) C0 V i_Pri rfl rfl hT0 (by decide) w_390 rfl d_9_4_36 ?_
    refine q_get (ci := 1) (j := 2) (v := .int t4_0) C0 V i_She rfl rfl hT4 (by decide) w_58 rfl d_9_4_39 ?_
    refine q_gov V (q_runS (As := [.ref (q 64), .ref (q 1), .int 0, .int t4_0]) (rest := []) (d := 2) (mc := 0) (ms := 0) C0 V rfl LS_Pri_76 (X_Pri_copyInto l D g q u673 64 64 8 64 (n_h64 g q) 1 4100 513 4100 (n_h1 g q) 0 t4_0 (by decide) (by decide) (by decide) hI y676 hO675 t23_0 hT23 t4_0 hT4 t5_0 hT5 (by have y0 : (64 : Int32).toInt = 64 := rfl; have y1 : (8 : Int32).toInt = 8 := rfl; have y2 : (64 : Int32).toInt = 64 := rfl; have y3 : (4100 : Int32).toInt = 4100 := rfl; have y4 : (513 : Int32).toInt = 513 := rfl; have y5 : (4100 : Int32).toInt = 4100 := rfl; have y6 : (0 : Int32).toInt = 0 := rfl; omega) (by have y0 : (64 : Int32).toInt = 64 := rfl; have y1 : (8 : Int32).toInt = 8 := rfl; have y2 : (64 : Int32).toInt = 64 := rfl; have y3 : (4100 : Int32).toInt = 4100 := rfl; have y4 : (513 : Int32).toInt = 513 := rfl; have y5 : (4100 : Int32).toInt = 4100 := rfl; have y6 : (0 : Int32).toInt = 0 := rfl; have t1 : 0 ≤ t4_0.toInt ∧ t4_0.toInt ≤ 4100 := btt4_0; omega) (by have y0 : (64 : Int32).toInt = 64 := rfl; have y1 : (8 : Int32).toInt = 8 := rfl; have y2 : (64 : Int32).toInt = 64 := rfl; have y3 : (4100 : Int32).toInt = 4100 := rfl; have y4 : (513 : Int32).toInt = 513 := rfl; have y5 : (4100 : Int32).toInt = 4100 := rfl; have y6 : (0 : Int32).toInt = 0 := rfl; have t1 : t4_0.toInt ≤ 64 := pre0; have t2 : y676.toInt ≤ 0 := b678; omega) _) rfl hl.1 rfl (Nat.le_of_ble_eq_true rfl) ⟨by decide, by decide⟩ ⟨Nat.le_of_ble_eq_true rfl, Nat.le_of_ble_eq_true rfl⟩ d_9_4_42) (fun u685 H locs hp686 V => ?_)
    obtain ⟨hI, hZ9⟩ := hp686
    obtain ⟨hu695, hZ9⟩ := hZ9
    obtain ⟨y688, hZ9⟩ := hZ9
    obtain ⟨f689, hZ9⟩ := hZ9
    obtain ⟨hO687, hZ9⟩ := hZ9
    obtain ⟨hA690, hZ9⟩ := hZ9
    obtain ⟨b691, hZ9⟩ := hZ9
    obtain ⟨b692, hZ9⟩ := hZ9
    obtain ⟨-, hE694⟩ := hZ9
    replace hO687 : u685[64]? = (some (q 64, .inr (1, [.ref (q 65), .int 64, .int y688])) : Option (Nat × va_E)) := hO687
    replace hA690 : u685[65]? = (some (q 65, .inl (g 1, (8 : Int32).toNatClampNeg, .inr (.inl f689))) : Option (Nat × va_E)) := hA690
    obtain ⟨p696, e697⟩ : ∃ z, z = (F_Pri_copyInto (64 : Int32) (8 : Int32) (64 : Int32) (4100 : Int32) (513 : Int32) (4100 : Int32) (0 : Int32) t4_0 y676 t23_0 t4_0 t5_0) := ⟨_, rfl⟩
    have e698 : y688 = p696.1 := congrArg (fun z => z.1) (hE694.trans e697.symm)
    have e699 : f689 = p696.2 := congrArg (fun z => z.2) (hE694.trans e697.symm)
    replace b691 : q_F (y676.toInt ≤ y688.toInt) := b691
    replace b692 : q_F (y688.toInt ≤ 64) := b692
    replace hT0 := (hu695 _ (by decide)).trans hT0
    replace hT1 := (hu695 _ (by decide)).trans hT1
    replace hT2 := (hu695 _ (by decide)).trans hT2
    replace hT3 := (hu695 _ (by decide)).trans hT3
    replace hT6 := (hu695 _ (by decide)).trans hT6
    replace hT7 := (hu695 _ (by decide)).trans hT7
    replace hT8 := (hu695 _ (by decide)).trans hT8
    replace hT9 := (hu695 _ (by decide)).trans hT9
    replace hT10 := (hu695 _ (by decide)).trans hT10
    replace hT11 := (hu695 _ (by decide)).trans hT11
    replace hT12 := (hu695 _ (by decide)).trans hT12
    replace hT13 := (hu695 _ (by decide)).trans hT13
    replace hT14 := (hu695 _ (by decide)).trans hT14
    replace hT15 := (hu695 _ (by decide)).trans hT15
    replace hT16 := (hu695 _ (by decide)).trans hT16
    replace hT17 := (hu695 _ (by decide)).trans hT17
    replace hT18 := (hu695 _ (by decide)).trans hT18
    replace hT19 := (hu695 _ (by decide)).trans hT19
    replace hT20 := (hu695 _ (by decide)).trans hT20
    replace hT21 := (hu695 _ (by decide)).trans hT21
    replace hF := q_uc hF hu695 (by first | exact (q_sk (q_mi 20 rfl) (q_sk (q_mi 21 rfl) q_s0)) | simp)
    have hR700 := (show F_Pri_addText_c42_17 t0_0 t0_1 t0_2 t0_3 t1_0 t2_0 t3_0 t4_0 t5_0 t6_0 t7_0 t8_0 t9_0 t10_0 t11_0 t12_0 t13_0 t14_0 t15_0 t16_0 t17_0 t18_0 t19_0 t20_0 t21_0 t22_0 t23_0 p696 = (F_Pri_addText t0_0 t0_1 t0_2 t0_3 t1_0 t2_0 t3_0 t4_0 t5_0 t6_0 t7_0 t8_0 t9_0 t10_0 t11_0 t12_0 t13_0 t14_0 t15_0 t16_0 t17_0 t18_0 t19_0 t20_0 t21_0 t22_0 t23_0) from (by rw [e697, e681, F_Pri_addText.eq_1, if_neg c67, if_neg c70, if_neg c145, if_neg c220, if_neg c295, if_neg c370, if_neg c445, if_neg c520, if_neg c595]))
    refine lv_aload_n hx hb d_9_4_45 rfl (lv_at hl 0 rfl) ?_
    refine lv_iconst (v := 4) hx hb d_9_4_46 (by decide) ?_
    refine lv_lconst (v := 0) hx hb d_9_4_47 (by decide) ?_
    refine lv_iconst (v := 0) hx hb d_9_4_48 (by decide) ?_
    refine q_gov V (q_runV (As := [.int 4, .long 0, .int 0]) (rest := []) (d := 1) (mc := 0) (ms := 0) (ci := 11) C0 V rfl LV_Pri_80 (X_Pri_addNumber l D g q u685  4 0 0 hI t0_0 t0_1 t0_2 t0_3 hT0 t1_0 hT1 t2_0 hT2 t3_0 hT3 (by have y0 : (4 : Int32).toInt = 4 := rfl; have y1 : (0 : Int64).toInt = 0 := rfl; have y2 : (0 : Int32).toInt = 0 := rfl; omega) (by have y0 : (4 : Int32).toInt = 4 := rfl; have y1 : (0 : Int64).toInt = 0 := rfl; have y2 : (0 : Int32).toInt = 0 := rfl; omega) _) rfl rfl hT0 rfl hl.1 rfl (Nat.le_of_ble_eq_true rfl) ⟨by decide, by decide⟩ ⟨Nat.le_of_ble_eq_true rfl, Nat.le_of_ble_eq_true rfl⟩ d_9_4_49) (fun u705 H locs hp706 V => ?_)
    obtain ⟨hI, hZ9⟩ := hp706
    obtain ⟨hu729, hZ9⟩ := hZ9
    obtain ⟨y708, hZ9⟩ := hZ9
    obtain ⟨y709, hZ9⟩ := hZ9
    obtain ⟨y710, hZ9⟩ := hZ9
    obtain ⟨y711, hZ9⟩ := hZ9
    obtain ⟨f712, hZ9⟩ := hZ9
    obtain ⟨f714, hZ9⟩ := hZ9
    obtain ⟨f716, hZ9⟩ := hZ9
    obtain ⟨hO707, hZ9⟩ := hZ9
    obtain ⟨hA713, hZ9⟩ := hZ9
    obtain ⟨hA715, hZ9⟩ := hZ9
    obtain ⟨hA717, hZ9⟩ := hZ9
    obtain ⟨b718, hZ9⟩ := hZ9
    obtain ⟨b719, hZ9⟩ := hZ9
    obtain ⟨b720, hZ9⟩ := hZ9
    replace hZ9 := hZ9.2
    obtain ⟨b722, hZ9⟩ := hZ9
    obtain ⟨b723, hZ9⟩ := hZ9
    obtain ⟨b724, hZ9⟩ := hZ9
    obtain ⟨b725, hZ9⟩ := hZ9
    obtain ⟨b726, hZ9⟩ := hZ9
    obtain ⟨b727, hE728⟩ := hZ9
    replace hO707 : u705[40]? = (some (q 40, .inr (11, [.int y708, .ref (q 41), .ref (q 42), .ref (q 43), .ref (q 44), .ref (q 1), .ref (q 47), .ref (q 36), .ref (q 45), .int y709, .int y710, .int y711])) : Option (Nat × va_E)) := hO707
    replace hA713 : u705[41]? = (some (q 41, .inl (g 0, 9, .inl f712)) : Option (Nat × va_E)) := hA713
    replace hA715 : u705[42]? = (some (q 42, .inl (g 1, 9, .inr (.inl f714))) : Option (Nat × va_E)) := hA715
    replace hA717 : u705[43]? = (some (q 43, .inl (g 0, 9, .inl f716)) : Option (Nat × va_E)) := hA717
    obtain ⟨p730, e731⟩ : ∃ z, z = (F_Pri_addNumber (4 : Int32) (0 : Int64) (0 : Int32) t0_0 t0_1 t0_2 t0_3 t1_0 t2_0 t3_0) := ⟨_, rfl⟩
    have e732 : y708 = p730.1 := congrArg (fun z => z.1) (hE728.trans e731.symm)
    have e733 : y709 = p730.2.1 := congrArg (fun z => z.2.1) (hE728.trans e731.symm)
    have e734 : y710 = p730.2.2.1 := congrArg (fun z => z.2.2.1) (hE728.trans e731.symm)
    have e735 : y711 = p730.2.2.2.1 := congrArg (fun z => z.2.2.2.1) (hE728.trans e731.symm)
    have e736 : f712 = p730.2.2.2.2.1 := congrArg (fun z => z.2.2.2.2.1) (hE728.trans e731.symm)
    have e737 : f714 = p730.2.2.2.2.2.1 := congrArg (fun z => z.2.2.2.2.2.1) (hE728.trans e731.symm)
    have e738 : f716 = p730.2.2.2.2.2.2 := congrArg (fun z => z.2.2.2.2.2.2) (hE728.trans e731.symm)
    replace b718 : q_F (1 ≤ y708.toInt) := b718
    replace b719 : q_F (y708.toInt ≤ 9) := b719
    replace b720 : q_F (t0_0.toInt ≤ y708.toInt) := b720
    replace b722 : q_F (t0_1.toInt ≤ y709.toInt) := b722
    replace b723 : q_F (y709.toInt ≤ t0_1.toInt) := b723
    replace b724 : q_F (t0_2.toInt ≤ y710.toInt) := b724
    replace b725 : q_F (y710.toInt ≤ t0_2.toInt) := b725
    replace b726 : q_F (t0_3.toInt ≤ y711.toInt) := b726
    replace b727 : q_F (y711.toInt ≤ t0_3.toInt) := b727
    replace hT6 := (hu729 _ (by decide)).trans hT6
    replace hT7 := (hu729 _ (by decide)).trans hT7
    replace hT8 := (hu729 _ (by decide)).trans hT8
    replace hT9 := (hu729 _ (by decide)).trans hT9
    replace hT10 := (hu729 _ (by decide)).trans hT10
    replace hT11 := (hu729 _ (by decide)).trans hT11
    replace hT12 := (hu729 _ (by decide)).trans hT12
    replace hT13 := (hu729 _ (by decide)).trans hT13
    replace hT14 := (hu729 _ (by decide)).trans hT14
    replace hT15 := (hu729 _ (by decide)).trans hT15
    replace hT16 := (hu729 _ (by decide)).trans hT16
    replace hT17 := (hu729 _ (by decide)).trans hT17
    replace hT18 := (hu729 _ (by decide)).trans hT18
    replace hT19 := (hu729 _ (by decide)).trans hT19
    replace hT20 := (hu729 _ (by decide)).trans hT20
    replace hT21 := (hu729 _ (by decide)).trans hT21
    replace hO687 := (hu729 _ (by decide)).trans hO687
    replace hA690 := (hu729 _ (by decide)).trans hA690
    replace hF := q_uc hF hu729 (by first | exact (q_sk (q_mi 0 rfl) (q_sk (q_mi 1 rfl) (q_sk (q_mi 2 rfl) (q_sk (q_mi 3 rfl) q_s0)))) | simp)
    have hR739 := (show F_Pri_addText_c49_18 t0_0 t0_1 t0_2 t0_3 t1_0 t2_0 t3_0 t4_0 t5_0 t6_0 t7_0 t8_0 t9_0 t10_0 t11_0 t12_0 t13_0 t14_0 t15_0 t16_0 t17_0 t18_0 t19_0 t20_0 t21_0 t22_0 t23_0 p696 y688 f689 p730 = (F_Pri_addText t0_0 t0_1 t0_2 t0_3 t1_0 t2_0 t3_0 t4_0 t5_0 t6_0 t7_0 t8_0 t9_0 t10_0 t11_0 t12_0 t13_0 t14_0 t15_0 t16_0 t17_0 t18_0 t19_0 t20_0 t21_0 t22_0 t23_0) from Eq.trans (by rw [e731, e699, e698, F_Pri_addText_c42_17.eq_1]) hR700)
    exact q_retv C0 V (⟨hI, hF, y708, y709, y710, y711, f712, f714, f716, t6_0, t7_0, t8_0, t9_0, t10_0, t11_0, t12_0, t13_0, t14_0, t15_0, t16_0, t17_0, t18_0, t19_0, t20_0, t21_0, y688, f689, hO707, hA713, hA715, hA717, hT6, hT7, hT8, hT9, hT10, hT11, hT12, hT13, hT14, hT15, hT16, hT17, hT18, hT19, hT20, hT21, hO687, hA690, (show 1 ≤ y708.toInt from (by first | with_reducible exact q_fe b718 | (have t1 : 1 ≤ y708.toInt := b718; omega))), (show y708.toInt ≤ 9 from (by first | with_reducible exact q_fe b719 | (have t1 : y708.toInt ≤ 9 := b719; omega))), (show 0 ≤ y709.toInt + 1 from (by have t1 : -1 ≤ t0_1.toInt ∧ t0_1.toInt ≤ 1000000 := btt0_1; have t2 : t0_1.toInt ≤ y709.toInt := b722; omega)), (show y709.toInt ≤ 1000000 from (by have t1 : -1 ≤ t0_1.toInt ∧ t0_1.toInt ≤ 1000000 := btt0_1; have t2 : y709.toInt ≤ t0_1.toInt := b723; omega)), (show 0 ≤ y711.toInt + 1 from (by have t1 : -1 ≤ t0_3.toInt ∧ t0_3.toInt ≤ 8 := btt0_3; have t2 : t0_3.toInt ≤ y711.toInt := b726; omega)), (show y711.toInt ≤ 8 from (by have t1 : -1 ≤ t0_3.toInt ∧ t0_3.toInt ≤ 8 := btt0_3; have t2 : y711.toInt ≤ t0_3.toInt := b727; omega)), (show 0 ≤ t6_0.toInt from (by first | with_reducible exact (q_fe btt6_0).2 | with_reducible exact (q_fe btt6_0).1 | (have t1 : 0 ≤ t6_0.toInt ∧ t6_0.toInt ≤ 64 := btt6_0; omega))), (show t6_0.toInt ≤ 64 from (by first | with_reducible exact (q_fe btt6_0).2 | with_reducible exact (q_fe btt6_0).1 | (have t1 : 0 ≤ t6_0.toInt ∧ t6_0.toInt ≤ 64 := btt6_0; omega))), (show 0 ≤ t8_0.toInt from (by first | with_reducible exact (q_fe btt8_0).2 | with_reducible exact (q_fe btt8_0).1 | (have t1 : 0 ≤ t8_0.toInt ∧ t8_0.toInt ≤ 64 := btt8_0; omega))), (show t8_0.toInt ≤ 64 from (by first | with_reducible exact (q_fe btt8_0).2 | with_reducible exact (q_fe btt8_0).1 | (have t1 : 0 ≤ t8_0.toInt ∧ t8_0.toInt ≤ 64 := btt8_0; omega))), (show 0 ≤ t10_0.toInt from (by first | with_reducible exact (q_fe btt10_0).2 | with_reducible exact (q_fe btt10_0).1 | (have t1 : 0 ≤ t10_0.toInt ∧ t10_0.toInt ≤ 64 := btt10_0; omega))), (show t10_0.toInt ≤ 64 from (by first | with_reducible exact (q_fe btt10_0).2 | with_reducible exact (q_fe btt10_0).1 | (have t1 : 0 ≤ t10_0.toInt ∧ t10_0.toInt ≤ 64 := btt10_0; omega))), (show 0 ≤ t12_0.toInt from (by first | with_reducible exact (q_fe btt12_0).2 | with_reducible exact (q_fe btt12_0).1 | (have t1 : 0 ≤ t12_0.toInt ∧ t12_0.toInt ≤ 64 := btt12_0; omega))), (show t12_0.toInt ≤ 64 from (by first | with_reducible exact (q_fe btt12_0).2 | with_reducible exact (q_fe btt12_0).1 | (have t1 : 0 ≤ t12_0.toInt ∧ t12_0.toInt ≤ 64 := btt12_0; omega))), (show 0 ≤ t14_0.toInt from (by first | with_reducible exact (q_fe btt14_0).2 | with_reducible exact (q_fe btt14_0).1 | (have t1 : 0 ≤ t14_0.toInt ∧ t14_0.toInt ≤ 64 := btt14_0; omega))), (show t14_0.toInt ≤ 64 from (by first | with_reducible exact (q_fe btt14_0).2 | with_reducible exact (q_fe btt14_0).1 | (have t1 : 0 ≤ t14_0.toInt ∧ t14_0.toInt ≤ 64 := btt14_0; omega))), (show 0 ≤ t16_0.toInt from (by first | with_reducible exact (q_fe btt16_0).2 | with_reducible exact (q_fe btt16_0).1 | (have t1 : 0 ≤ t16_0.toInt ∧ t16_0.toInt ≤ 64 := btt16_0; omega))), (show t16_0.toInt ≤ 64 from (by first | with_reducible exact (q_fe btt16_0).2 | with_reducible exact (q_fe btt16_0).1 | (have t1 : 0 ≤ t16_0.toInt ∧ t16_0.toInt ≤ 64 := btt16_0; omega))), (show 0 ≤ t18_0.toInt from (by first | with_reducible exact (q_fe btt18_0).2 | with_reducible exact (q_fe btt18_0).1 | (have t1 : 0 ≤ t18_0.toInt ∧ t18_0.toInt ≤ 64 := btt18_0; omega))), (show t18_0.toInt ≤ 64 from (by first | with_reducible exact (q_fe btt18_0).2 | with_reducible exact (q_fe btt18_0).1 | (have t1 : 0 ≤ t18_0.toInt ∧ t18_0.toInt ≤ 64 := btt18_0; omega))), (show 0 ≤ t20_0.toInt from (by first | with_reducible exact (q_fe btt20_0).2 | with_reducible exact (q_fe btt20_0).1 | (have t1 : 0 ≤ t20_0.toInt ∧ t20_0.toInt ≤ 64 := btt20_0; omega))), (show t20_0.toInt ≤ 64 from (by first | with_reducible exact (q_fe btt20_0).2 | with_reducible exact (q_fe btt20_0).1 | (have t1 : 0 ≤ t20_0.toInt ∧ t20_0.toInt ≤ 64 := btt20_0; omega))), (show 0 ≤ y688.toInt from (by have t1 : 0 ≤ y676.toInt := b677; have t2 : y676.toInt ≤ y688.toInt := b691; omega)), (show y688.toInt ≤ 64 from (by first | with_reducible exact q_fe b692 | (have t1 : y688.toInt ≤ 64 := b692; omega))), (show t0_0.toInt ≤ y708.toInt from (by first | with_reducible exact q_fe b720 | (have t1 : t0_0.toInt ≤ y708.toInt := b720; omega))), (show y708.toInt ≤ t0_0.toInt + 1 from (by have t1 : 0 ≤ t0_0.toInt ∧ t0_0.toInt ≤ 9 := btt0_0; have t2 : t0_0.toInt ≠ 0 := b144; have t3 : t0_0.toInt ≠ 1 := b219; have t4 : t0_0.toInt ≠ 2 := b294; have t5 : t0_0.toInt ≠ 3 := b369; have t6 : t0_0.toInt ≠ 4 := b444; have t7 : t0_0.toInt ≠ 5 := b519; have t8 : t0_0.toInt ≠ 6 := b594; have t9 : t0_0.toInt ≠ 7 := b669; have t10 : y708.toInt ≤ 9 := b719; omega)), (show t0_1.toInt ≤ y709.toInt from (by first | with_reducible exact q_fe b722 | (have t1 : t0_1.toInt ≤ y709.toInt := b722; omega))), (show y709.toInt ≤ t0_1.toInt from (by first | with_reducible exact q_fe b723 | (have t1 : y709.toInt ≤ t0_1.toInt := b723; omega))), (show t0_2.toInt ≤ y710.toInt from (by first | with_reducible exact q_fe b724 | (have t1 : t0_2.toInt ≤ y710.toInt := b724; omega))), (show y710.toInt ≤ t0_2.toInt from (by first | with_reducible exact q_fe b725 | (have t1 : y710.toInt ≤ t0_2.toInt := b725; omega))), (show t0_3.toInt ≤ y711.toInt from (by first | with_reducible exact q_fe b726 | (have t1 : t0_3.toInt ≤ y711.toInt := b726; omega))), (show y711.toInt ≤ t0_3.toInt from (by first | with_reducible exact q_fe b727 | (have t1 : y711.toInt ≤ t0_3.toInt := b727; omega))), (show (y708, y709, y710, y711, f712, f714, f716, t6_0, t7_0, t8_0, t9_0, t10_0, t11_0, t12_0, t13_0, t14_0, t15_0, t16_0, t17_0, t18_0, t19_0, t20_0, t21_0, y688, f689) = (F_Pri_addText t0_0 t0_1 t0_2 t0_3 t1_0 t2_0 t3_0 t4_0 t5_0 t6_0 t7_0 t8_0 t9_0 t10_0 t11_0 t12_0 t13_0 t14_0 t15_0 t16_0 t17_0 t18_0 t19_0 t20_0 t21_0 t22_0 t23_0) from Eq.trans (by rw [e738, e737, e736, e735, e734, e733, e732, F_Pri_addText_c49_18.eq_1]) hR739)⟩) d_9_4_52

