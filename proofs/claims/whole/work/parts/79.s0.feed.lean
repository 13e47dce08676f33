/-! NumberHouse, exactly: s0.feed -/
theorem d_1_2_0 : decode prog_1_method_2_code 0 = .ok (.iload_n 1, 1) := by decide +kernel
theorem d_1_2_1 : decode prog_1_method_2_code 1 = .ok (.iconst 1, 1) := by decide +kernel
theorem d_1_2_16 : decode prog_1_method_2_code 16 = .ok (.invokestatic 104, 3) := by decide +kernel
theorem d_1_2_19 : decode prog_1_method_2_code 19 = .ok (.aload_n 0, 1) := by decide +kernel
theorem d_1_2_20 : decode prog_1_method_2_code 20 = .ok (.getfield 14, 3) := by decide +kernel
theorem d_1_2_23 : decode prog_1_method_2_code 23 = .ok (.getfield 108, 3) := by decide +kernel
set_option maxRecDepth 100000 in
theorem w_56 : (Cond.fieldLink "NumberHouse" (108 : Nat) "NumberHouse$Sheet" "size" "I") ∈ q_tbl := q_of1 56 rfl (by decide +kernel)
theorem d_1_2_26 : decode prog_1_method_2_code 26 = .ok (.iload_n 1, 1) := by decide +kernel
theorem d_1_2_27 : decode prog_1_method_2_code 27 = .ok (.iadd, 1) := by decide +kernel
theorem d_1_2_28 : decode prog_1_method_2_code 28 = .ok (.sipush 4100, 3) := by decide +kernel
theorem d_1_2_31 : decode prog_1_method_2_code 31 = .ok (.if_icmp .le 5, 3) := by decide +kernel
theorem d_1_2_36 : decode prog_1_method_2_code 36 = .ok (.iconst 0, 1) := by decide +kernel
theorem d_1_2_37 : decode prog_1_method_2_code 37 = .ok (.istore 4, 2) := by decide +kernel
theorem d_1_2_39 : decode prog_1_method_2_code 39 = .ok (.iload 4, 2) := by decide +kernel
theorem d_1_2_41 : decode prog_1_method_2_code 41 = .ok (.iload_n 1, 1) := by decide +kernel
theorem d_1_2_42 : decode prog_1_method_2_code 42 = .ok (.if_icmp .ge 28, 3) := by decide +kernel
theorem d_1_2_70 : decode prog_1_method_2_code 70 = .ok (.aload_n 0, 1) := by decide +kernel
theorem d_1_2_71 : decode prog_1_method_2_code 71 = .ok (.getfield 14, 3) := by decide +kernel
theorem d_1_2_74 : decode prog_1_method_2_code 74 = .ok (.getfield 108, 3) := by decide +kernel
theorem d_1_2_77 : decode prog_1_method_2_code 77 = .ok (.ireturn, 1) := by decide +kernel
theorem d_1_2_45 : decode prog_1_method_2_code 45 = .ok (.aload_n 0, 1) := by decide +kernel
theorem d_1_2_46 : decode prog_1_method_2_code 46 = .ok (.getfield 14, 3) := by decide +kernel
theorem d_1_2_49 : decode prog_1_method_2_code 49 = .ok (.lload_n 2, 1) := by decide +kernel
theorem d_1_2_50 : decode prog_1_method_2_code 50 = .ok (.bipush 8, 2) := by decide +kernel
theorem d_1_2_52 : decode prog_1_method_2_code 52 = .ok (.iload 4, 2) := by decide +kernel
theorem d_1_2_54 : decode prog_1_method_2_code 54 = .ok (.imul, 1) := by decide +kernel
theorem d_1_2_55 : decode prog_1_method_2_code 55 = .ok (.lushr, 1) := by decide +kernel
theorem d_1_2_56 : decode prog_1_method_2_code 56 = .ok (.l2i, 1) := by decide +kernel
theorem d_1_2_57 : decode prog_1_method_2_code 57 = .ok (.sipush 255, 3) := by decide +kernel
theorem d_1_2_60 : decode prog_1_method_2_code 60 = .ok (.iand, 1) := by decide +kernel
theorem d_1_2_61 : decode prog_1_method_2_code 61 = .ok (.invokevirtual 112, 3) := by decide +kernel
set_option maxRecDepth 100000 in
theorem w_561 : (Cond.methodLink "NumberHouse" (112 : Nat) ({ cls := "NumberHouse$Sheet", name := "add", desc := "(I)V" } : MethodName)) ∈ q_tbl := q_of3 81 rfl (by decide +kernel)
theorem LV_NH_112 : q_LV "NumberHouse" 112 y_She_add prog_11_method_3_code 3 none 1 := ⟨w_564, w_2, w_561, w_562, w_563, ⟨by decide, by decide, by decide +kernel⟩⟩
theorem d_1_2_64 : decode prog_1_method_2_code 64 = .ok (.iinc 4 1, 3) := by decide +kernel
theorem d_1_2_67 : decode prog_1_method_2_code 67 = .ok (.goto (-28), 3) := by decide +kernel
theorem d_1_2_34 : decode prog_1_method_2_code 34 = .ok (.iconst (-1), 1) := by decide +kernel
theorem d_1_2_35 : decode prog_1_method_2_code 35 = .ok (.ireturn, 1) := by decide +kernel
theorem d_1_2_15 : decode prog_1_method_2_code 15 = .ok (.iconst 0, 1) := by decide +kernel
theorem d_1_2_2 : decode prog_1_method_2_code 2 = .ok (.if_icmp .lt 13, 3) := by decide +kernel
theorem d_1_2_5 : decode prog_1_method_2_code 5 = .ok (.iload_n 1, 1) := by decide +kernel
theorem d_1_2_6 : decode prog_1_method_2_code 6 = .ok (.bipush 8, 2) := by decide +kernel
theorem d_1_2_8 : decode prog_1_method_2_code 8 = .ok (.if_icmp .gt 7, 3) := by decide +kernel
theorem d_1_2_11 : decode prog_1_method_2_code 11 = .ok (.iconst 1, 1) := by decide +kernel
theorem d_1_2_12 : decode prog_1_method_2_code 12 = .ok (.goto 4, 3) := by decide +kernel
def y_NH_feed : MethodName := ⟨"NumberHouse", "feed", "(IJ)I"⟩
def F_NH_feed_c61 (K_F_NH_feed_L39 : Int32 → Int32 → (Nat → Int64) → (Int32 × Int32 × Int32 × (Nat → Int64))) (x2 : Int32) (x3 : Int64) (t0_0 : Int32) (t1_0 : (Nat → Int64)) (lx6 : Int32) (lx32 : Int32) (lx33 : Int32) (lx34 : (Nat → Int64)) (p74 : (Int32 × (Nat → Int64))) : Int32 × Int32 × Int32 × (Nat → Int64) := K_F_NH_feed_L39 (lx32 + 1 : Int32) (p74.1 : Int32) (p74.2 : (Nat → Int64))
def F_NH_feed_L39 (x2 : Int32) (x3 : Int64) (t0_0 : Int32) (t1_0 : (Nat → Int64)) (lx6 : Int32) : Nat → Int32 → Int32 → (Nat → Int64) → (Int32 × Int32 × Int32 × (Nat → Int64))
  | 0, _, _, _ => default
  | fm + 1, lx32, lx33, lx34 => if x2 ≤ lx32 then (((0 : Int32), lx33, lx33, lx34)) else (F_NH_feed_c61 (F_NH_feed_L39 x2 x3 t0_0 t1_0 lx6 fm) x2 x3 t0_0 t1_0 lx6 lx32 lx33 lx34 ((F_She_add_p (4100 : Int32) (513 : Int32) (4100 : Int32) ((((x3.toUInt64 >>> ((8 * lx32 : Int32).toInt64.toUInt64 &&& Int64.toUInt64 63)).toInt64 : Int64).toInt32 : Int32) &&& 255 : Int32) lx33 lx34) : (Int32 × (Nat → Int64))))
def F_NH_feed_J16 (x2 : Int32) (x3 : Int64) (t0_0 : Int32) (t1_0 : (Nat → Int64)) (lx6 : Int32) : Int32 × Int32 × Int32 × (Nat → Int64) := if (F_NH_need lx6) = (0 : Int32) then (if (t0_0 + x2 : Int32) ≤ (4100 : Int32) then (F_NH_feed_L39 x2 x3 t0_0 t1_0 lx6 ((4100 - (0 : Int32).toInt).toNat + 1) 0 t0_0 t1_0) else (((0 : Int32), (-1 : Int32), t0_0, t1_0))) else (((F_NH_need lx6), (0 : Int32), t0_0, t1_0))
def F_NH_feed_J15 (x2 : Int32) (x3 : Int64) (t0_0 : Int32) (t1_0 : (Nat → Int64)) : Int32 × Int32 × Int32 × (Nat → Int64) := F_NH_feed_J16 x2 x3 t0_0 t1_0 0
def F_NH_feed (x2 : Int32) (x3 : Int64) (t0_0 : Int32) (t1_0 : (Nat → Int64)) : Int32 × Int32 × Int32 × (Nat → Int64) := if x2 < (1 : Int32) then (F_NH_feed_J15 x2 x3 t0_0 t1_0) else (if (8 : Int32) < x2 then (F_NH_feed_J15 x2 x3 t0_0 t1_0) else (F_NH_feed_J16 x2 x3 t0_0 t1_0 1))
def S_NH_feed_c61 (K_S_NH_feed_L39 : Int32 → Int32 → (Nat → Int64) → Prop) (x2 : Int32) (x3 : Int64) (t0_0 : Int32) (t1_0 : (Nat → Int64)) (lx6 : Int32) (lx32 : Int32) (lx33 : Int32) (lx34 : (Nat → Int64)) (p74 : (Int32 × (Nat → Int64))) : Prop := K_S_NH_feed_L39 (lx32 + 1 : Int32) (p74.1 : Int32) (p74.2 : (Nat → Int64))
def S_NH_feed_L39 (x2 : Int32) (x3 : Int64) (t0_0 : Int32) (t1_0 : (Nat → Int64)) (lx6 : Int32) : Nat → Int32 → Int32 → (Nat → Int64) → Prop
  | 0, _, _, _ => False
  | fm + 1, lx32, lx33, lx34 => if x2 ≤ lx32 then (True) else ((lx33.toInt ≤ 4099) ∧ (S_NH_feed_c61 (S_NH_feed_L39 x2 x3 t0_0 t1_0 lx6 fm) x2 x3 t0_0 t1_0 lx6 lx32 lx33 lx34 ((F_She_add_p (4100 : Int32) (513 : Int32) (4100 : Int32) ((((x3.toUInt64 >>> ((8 * lx32 : Int32).toInt64.toUInt64 &&& Int64.toUInt64 63)).toInt64 : Int64).toInt32 : Int32) &&& 255 : Int32) lx33 lx34) : (Int32 × (Nat → Int64)))))
def S_NH_feed_J16 (x2 : Int32) (x3 : Int64) (t0_0 : Int32) (t1_0 : (Nat → Int64)) (lx6 : Int32) : Prop := if (F_NH_need lx6) = (0 : Int32) then (if (t0_0 + x2 : Int32) ≤ (4100 : Int32) then (S_NH_feed_L39 x2 x3 t0_0 t1_0 lx6 ((4100 - (0 : Int32).toInt).toNat + 1) 0 t0_0 t1_0) else (True)) else (True)
def S_NH_feed_J15 (x2 : Int32) (x3 : Int64) (t0_0 : Int32) (t1_0 : (Nat → Int64)) : Prop := S_NH_feed_J16 x2 x3 t0_0 t1_0 0
def S_NH_feed (x2 : Int32) (x3 : Int64) (t0_0 : Int32) (t1_0 : (Nat → Int64)) : Prop := if x2 < (1 : Int32) then (S_NH_feed_J15 x2 x3 t0_0 t1_0) else (if (8 : Int32) < x2 then (S_NH_feed_J15 x2 x3 t0_0 t1_0) else (S_NH_feed_J16 x2 x3 t0_0 t1_0 1))
set_option maxRecDepth 100000 in
set_option maxHeartbeats 4000000 in
theorem X_NH_feed (l : Launch) (D : va_G) (g : Nat → ClassId) (q : Nat → Nat) (ws : va_W) (x2 : Int32) (x3 : Int64) (hlt : l.stackTraces = false) (hI : q_I (nsh g q) q ws) (t0_0 : Int32) (hT0 : ws[1]? = (some (q 1, .inr (1, [.ref (q 2), .int 4100, .int t0_0])) : Option (Nat × va_E))) (t1_0 : (Nat → Int64)) (hT1 : ws[2]? = (some (q 2, .inl (g 1, (513 : Int32).toNatClampNeg, .inr (.inl t1_0))) : Option (Nat × va_E))) (hS : True ∧ S_NH_feed x2 x3 t0_0 t1_0) : ∀ sz, q_Mx l y_NH_feed prog_1_method_2_code 5 (some .int) 8 1 6 D g [.ref (q 0), .int x2, .long x3] ws sz (va_Qi (fun r u => q_I (nsh g q) q u ∧ q_un ws u [1, 2] ∧ ∃ (u0_0 : Int32) (u1_0 : (Nat → Int64)), u[1]? = (some (q 1, .inr (1, [.ref (q 2), .int 4100, .int u0_0])) : Option (Nat × va_E)) ∧ u[2]? = (some (q 2, .inl (g 1, (513 : Int32).toNatClampNeg, .inr (.inl u1_0))) : Option (Nat × va_E)) ∧ (0 ≤ r.toInt + 1) ∧ (u0_0.toInt ≤ 4100) ∧ (t0_0.toInt ≤ u0_0.toInt) ∧ (r.toInt ≤ u0_0.toInt) ∧ ((0 : Int32), r, u0_0, u1_0) = (F_NH_feed x2 x3 t0_0 t1_0)) (q_B D g (va_A ws sz)) (va_A ws sz)) (fun E u => ∃ c : Int32, E = qE c ∧ c ≠ 0 ∧ q_I (nsh g q) q u ∧ q_un ws u [1, 2] ∧ ∃ (u0_0 : Int32) (u1_0 : (Nat → Int64)), u[1]? = (some (q 1, .inr (1, [.ref (q 2), .int 4100, .int u0_0])) : Option (Nat × va_E)) ∧ u[2]? = (some (q 2, .inl (g 1, (513 : Int32).toNatClampNeg, .inr (.inl u1_0))) : Option (Nat × va_E)) ∧ (c, (0 : Int32), u0_0, u1_0) = (F_NH_feed x2 x3 t0_0 t1_0)) := by
  intro sz
  refine q_intoX (by decide) (Nat.le_of_ble_eq_true rfl) ?_
  intro p e s m below meth c ls hsz C0 V hno hl
  have hx := C0.1
  have hb := C0.2.1
  obtain ⟨yy0_0, hh0, btt0_0⟩ := n_shO hI (n_h1 g q)
  obtain ⟨rfl⟩ : t0_0 = yy0_0 := by have z := Option.some.inj (hT0.symm.trans hh0); simpa using z
  replace btt0_0 : q_F (0 ≤ t0_0.toInt ∧ t0_0.toInt ≤ 4100) := btt0_0
  have hF : q_un ws ws [1, 2] := q_u0
  have hl : lv_has ls 5 [(0, .ref (q 0)), (1, .int x2), (2, .long x3)] := hl
  refine lv_iload_n hx hb d_1_2_0 rfl (lv_at hl 1 rfl) ?_
  refine lv_iconst (v := 1) hx hb d_1_2_1 (by decide) ?_
  refine q_join (X := Int32) (fun z H locs ls _ => q_F (0 ≤ z.toInt) ∧ q_F (z.toInt ≤ 1) ∧ q_Wd D g (va_A ws sz) s ws H locs ∧ lv_has ls 5 [(0, .ref (q 0)), (1, .int x2), (2, .long x3)] ∧ F_NH_feed_J16 x2 x3 t0_0 t1_0 z = (F_NH_feed x2 x3 t0_0 t1_0) ∧ True ∧ S_NH_feed_J16 x2 x3 t0_0 t1_0 z) (fun z => [.int z]) 16 0 0 ?_ ?_
  ·
    rintro lx6 H locs ls _ ⟨i10, i11, V, hl, hR12, hS13⟩
    replace i10 : q_F (0 ≤ lx6.toInt) := i10
    replace i11 : q_F (lx6.toInt ≤ 1) := i11
    replace hl : lv_has ls 5 [(0, .ref (q 0)), (1, .int x2), (2, .long x3)] := hl
    refine q_goxv V (q_runSX (As := [.int lx6]) (rest := []) (d := 7) (mc := 1) (ms := 6) C0 V rfl LS_NH_104 (X_NH_need l D g q ws  lx6 hlt hI  ⟨(by have t1 : 0 ≤ lx6.toInt := i10; omega), (by have t1 : lx6.toInt ≤ 1 := i11; omega)⟩ _) rfl hl.1 rfl (Nat.le_of_ble_eq_true rfl) ⟨by decide, by decide⟩ ⟨Nat.le_of_ble_eq_true rfl, Nat.le_of_ble_eq_true rfl⟩ d_1_2_16) (fun qx Ex ce u17 H locs hp18 V hce hcv hcl => ?_) (fun u17 H locs hp18 V => ?_)
    ·
      obtain ⟨cx20, he21, hc22, rfl, hE19⟩ := hp18
      have c23 : ¬ (F_NH_need lx6) = (0 : Int32) := fun z => hc22 (((hE19) : cx20 = _).trans z)
      exact q_outT hno C0 V (⟨(F_NH_need lx6), (he21.trans (congrArg qE ((hE19) : cx20 = _))), c23, hI, hF, t0_0, t1_0, hT0, hT1, (show ((F_NH_need lx6), (0 : Int32), t0_0, t1_0) = (F_NH_feed x2 x3 t0_0 t1_0) from Eq.trans (by rw [F_NH_feed_J16.eq_1, if_neg c23]) hR12)⟩) hce hcv hcl (Nat.le_of_ble_eq_true rfl) (Nat.le_of_ble_eq_true rfl)
    ·
      obtain ⟨rfl, hE24⟩ := hp18
      have c23 : (F_NH_need lx6) = (0 : Int32) := ((hE24) : (0 : Int32) = _).symm
      refine lv_aload_n hx hb d_1_2_19 rfl (lv_at hl 0 rfl) ?_
      have hO26 := n_o0 hI
      refine q_get (ci := 0) (j := 0) (v := .ref (q 1)) C0 V i_NH rfl rfl hO26 (by decide) w_424 rfl d_1_2_20 ?_
      refine q_get (ci := 1) (j := 2) (v := .int t0_0) C0 V i_She rfl rfl hT0 (by decide) w_56 rfl d_1_2_23 ?_
      refine lv_iload_n hx hb d_1_2_26 rfl (lv_at hl 1 rfl) ?_
      refine lv_iadd hx hb d_1_2_27 ?_
      obtain ⟨a27, e28⟩ := q_nm (t0_0 + x2 : Int32)
      refine q_ti (v := a27) e28 ?_
      refine lv_sipush (v := 4100) hx hb d_1_2_28 (by decide) ?_
      refine lv_icmp_le (tgt := 36) hx hb d_1_2_31 (by decide) (fun c29 => ?_) (fun c29 => ?_)
      ·
        have b30 : q_F (a27.toInt ≤ 4100) := (q_leI c29)
        refine lv_iconst (v := 0) hx hb d_1_2_36 (by decide) ?_
        refine lv_istore (lv' := [(4, .int 0), (0, .ref (q 0)), (1, .int x2), (2, .long x3)]) hx hb d_1_2_37 hl (by decide) rfl (fun ls hl => ?_)
        refine q_loop (X := Int32 × Int32 × (Nat → Int64)) (fun z H locs ls w40 => q_F (z.2.1.toInt ≤ 4100) ∧ q_F (t0_0.toInt ≤ z.1.toInt + z.2.1.toInt) ∧ q_F (z.2.1.toInt ≤ z.1.toInt + t0_0.toInt) ∧ q_F (z.1.toInt + t0_0.toInt ≤ z.2.1.toInt) ∧ q_Wd D g (va_A ws sz) s w40 H locs ∧ lv_has ls 5 [(4, .int z.1), (0, .ref (q 0)), (1, .int x2), (2, .long x3)] ∧ q_I (nsh g q) q w40 ∧ q_un ws w40 [1, 2] ∧ w40[1]? = (some (q 1, .inr (1, [.ref (q 2), .int 4100, .int z.2.1])) : Option (Nat × va_E)) ∧ w40[2]? = (some (q 2, .inl (g 1, (513 : Int32).toNatClampNeg, .inr (.inl z.2.2))) : Option (Nat × va_E)) ∧ (∃ n, (4100 - z.1.toInt).toNat < n ∧ F_NH_feed_L39 x2 x3 t0_0 t1_0 lx6 n z.1 z.2.1 z.2.2 = (F_NH_feed x2 x3 t0_0 t1_0) ∧ True ∧ S_NH_feed_L39 x2 x3 t0_0 t1_0 lx6 n z.1 z.2.1 z.2.2)) (fun z => (4100 - z.1.toInt).toNat) ?_ ((0 : Int32), (t0_0 : Int32), (t1_0 : (Nat → Int64))) _ _ _ ws ⟨(show q_F (t0_0.toInt ≤ 4100) from (show t0_0.toInt ≤ 4100 from by have t1 : 0 ≤ t0_0.toInt ∧ t0_0.toInt ≤ 4100 := btt0_0; omega)), (show q_F (t0_0.toInt ≤ 0 + t0_0.toInt) from (show t0_0.toInt ≤ 0 + t0_0.toInt from by omega)), (show q_F (t0_0.toInt ≤ 0 + t0_0.toInt) from (show t0_0.toInt ≤ 0 + t0_0.toInt from by omega)), (show q_F (0 + t0_0.toInt ≤ t0_0.toInt) from (show 0 + t0_0.toInt ≤ t0_0.toInt from by omega)), V, q_lw hl (q_lw1 0 rfl (q_lw1 1 rfl (q_lw1 2 rfl (q_lw1 3 rfl q_lw0)))), hI, hF, hT0, hT1, ⟨((4100 - (0 : Int32).toInt).toNat + 1), Nat.lt_succ_self _, (show F_NH_feed_L39 x2 x3 t0_0 t1_0 lx6 ((4100 - (0 : Int32).toInt).toNat + 1) 0 t0_0 t1_0 = (F_NH_feed x2 x3 t0_0 t1_0) from Eq.trans (by have c29x := c29; rw [← e28] at c29x; rw [F_NH_feed_J16.eq_1, if_pos c23, if_pos c29x]) hR12), (show True ∧ S_NH_feed_L39 x2 x3 t0_0 t1_0 lx6 ((4100 - (0 : Int32).toInt).toNat + 1) 0 t0_0 t1_0 from (by have h := hS13; rw [S_NH_feed_J16.eq_1] at h; rw [if_pos c23] at h; have c29x := c29; rw [← e28] at c29x; rw [if_pos c29x] at h; with_reducible exact h))⟩⟩
        rintro ⟨lx32, lx33, lx34⟩ H locs ls w40 ⟨i35, i36, i37, i38, V, hl, hI, hF, hO41, hO42, ⟨fu45, hf46, hR43, hS44⟩⟩ ih39
        obtain ⟨fm47, rfl⟩ : ∃ m, fu45 = m + 1 := ⟨fu45 - 1, by omega⟩
        replace i35 : q_F (lx33.toInt ≤ 4100) := i35
        replace i36 : q_F (t0_0.toInt ≤ lx32.toInt + lx33.toInt) := i36
        replace i37 : q_F (lx33.toInt ≤ lx32.toInt + t0_0.toInt) := i37
        replace i38 : q_F (lx32.toInt + t0_0.toInt ≤ lx33.toInt) := i38
        replace hl : lv_has ls 5 [(4, .int lx32), (0, .ref (q 0)), (1, .int x2), (2, .long x3)] := hl
        replace hO41 : w40[1]? = (some (q 1, .inr (1, [.ref (q 2), .int 4100, .int lx33])) : Option (Nat × va_E)) := hO41
        replace hO42 : w40[2]? = (some (q 2, .inl (g 1, (513 : Int32).toNatClampNeg, .inr (.inl lx34))) : Option (Nat × va_E)) := hO42
        refine lv_iload hx hb d_1_2_39 (lv_at hl 0 rfl) ?_
        refine lv_iload_n hx hb d_1_2_41 rfl (lv_at hl 2 rfl) ?_
        refine lv_icmp_ge (tgt := 70) hx hb d_1_2_42 (by decide) (fun c48 => ?_) (fun c48 => ?_)
        ·
          have b49 : q_F (x2.toInt ≤ lx32.toInt) := (q_leI c48)
          refine lv_aload_n hx hb d_1_2_70 rfl (lv_at hl 1 rfl) ?_
          have hO50 := n_o0 hI
          refine q_get (ci := 0) (j := 0) (v := .ref (q 1)) C0 V i_NH rfl rfl hO50 (by decide) w_424 rfl d_1_2_71 ?_
          refine q_get (ci := 1) (j := 2) (v := .int lx33) C0 V i_She rfl rfl hO41 (by decide) w_56 rfl d_1_2_74 ?_
          exact q_retX (q_reti C0 V (⟨hI, hF, lx33, lx34, hO41, hO42, (show 0 ≤ lx33.toInt + 1 from (by have t1 : 0 ≤ t0_0.toInt ∧ t0_0.toInt ≤ 4100 := btt0_0; have t2 : t0_0.toInt ≤ lx32.toInt + lx33.toInt := i36; have t3 : lx32.toInt + t0_0.toInt ≤ lx33.toInt := i38; omega)), (show lx33.toInt ≤ 4100 from (by have t1 : lx33.toInt ≤ 4100 := i35; omega)), (show t0_0.toInt ≤ lx33.toInt from (by have t1 : t0_0.toInt ≤ lx32.toInt + lx33.toInt := i36; have t2 : lx32.toInt + t0_0.toInt ≤ lx33.toInt := i38; omega)), (show lx33.toInt ≤ lx33.toInt from (by omega)), (show ((0 : Int32), lx33, lx33, lx34) = (F_NH_feed x2 x3 t0_0 t1_0) from Eq.trans (by rw [F_NH_feed_L39.eq_2, if_pos c48]) hR43)⟩) d_1_2_77)
        ·
          have b51 : q_F (lx32.toInt < x2.toInt) := (q_nleI c48)
          refine lv_aload_n hx hb d_1_2_45 rfl (lv_at hl 1 rfl) ?_
          have hO52 := n_o0 hI
          refine q_get (ci := 0) (j := 0) (v := .ref (q 1)) C0 V i_NH rfl rfl hO52 (by decide) w_424 rfl d_1_2_46 ?_
          refine lv_lload_n hx hb d_1_2_49 rfl (lv_at hl 3 rfl) ?_
          refine lv_bipush (v := 8) hx hb d_1_2_50 (by decide) ?_
          refine lv_iload hx hb d_1_2_52 (lv_at hl 0 rfl) ?_
          refine lv_imul hx hb d_1_2_54 ?_
          obtain ⟨a53, e54⟩ := q_nm (8 * lx32 : Int32)
          refine q_ti (v := a53) e54 ?_
          have b55 : q_F (a53.toInt = 8 * lx32.toInt) := (by rw [← e54]; show (8 * lx32 : Int32).toInt = 8 * lx32.toInt; exact q_mulI (x := 8) (y := lx32.toInt) (by decide) rfl (by have t1 : t0_0.toInt ≤ lx32.toInt + lx33.toInt := i36; have t2 : lx33.toInt ≤ lx32.toInt + t0_0.toInt := i37; have t3 : 0 ≤ t0_0.toInt ∧ t0_0.toInt ≤ 4100 := btt0_0; have t4 : lx33.toInt ≤ 4100 := i35; have t5 : lx32.toInt + t0_0.toInt ≤ lx33.toInt := i38; omega) (by have t1 : t0_0.toInt ≤ lx32.toInt + lx33.toInt := i36; have t2 : lx33.toInt ≤ lx32.toInt + t0_0.toInt := i37; have t3 : 0 ≤ t0_0.toInt ∧ t0_0.toInt ≤ 4100 := btt0_0; have t4 : lx33.toInt ≤ 4100 := i35; have t5 : lx32.toInt + t0_0.toInt ≤ lx33.toInt := i38; omega))
          refine lv_lushr hx hb d_1_2_55 rfl ?_
          obtain ⟨j56, e57⟩ := q_nm ((x3.toUInt64 >>> (a53.toInt64.toUInt64 &&& Int64.toUInt64 63)).toInt64 : Int64)
          refine q_tl (v := j56) e57 ?_
          refine lv_l2i hx hb d_1_2_56 rfl ?_
          obtain ⟨a58, e59⟩ := q_nm (j56.toInt32 : Int32)
          refine q_ti (v := a58) e59 ?_
          refine lv_sipush (v := 255) hx hb d_1_2_57 (by decide) ?_
          refine lv_iand hx hb d_1_2_60 ?_
          obtain ⟨a60, e61⟩ := q_nm (a58 &&& 255 : Int32)
          refine q_ti (v := a60) e61 ?_
          have b62 : q_F (0 ≤ a60.toInt ∧ a60.toInt ≤ 255) := (by rw [← e61]; show 0 ≤ (a58 &&& 255 : Int32).toInt ∧ (a58 &&& 255 : Int32).toInt ≤ 255; exact s_and (by decide))
          have ob63 : q_F (lx33.toInt ≤ 4099) := (by have h := hS44; rw [S_NH_feed_L39.eq_2] at h; rw [if_neg c48] at h; exact h.2.1)
          refine q_gov V (q_runV (As := [.int a60]) (rest := []) (d := 1) (mc := 0) (ms := 0) (ci := 1) C0 V rfl LV_NH_112 (X_She_add_p l D g q w40 1 4100 513 4100 (n_h1 g q) a60 hI lx33 hO41 lx34 hO42 (by have y0 : (4100 : Int32).toInt = 4100 := rfl; have y1 : (513 : Int32).toInt = 513 := rfl; have y2 : (4100 : Int32).toInt = 4100 := rfl; have t1 : lx33.toInt ≤ 4099 := ob63; omega) _) rfl rfl hO41 rfl hl.1 rfl (Nat.le_of_ble_eq_true rfl) ⟨by decide, by decide⟩ ⟨Nat.le_of_ble_eq_true rfl, Nat.le_of_ble_eq_true rfl⟩ d_1_2_61) (fun u64 H locs hp65 V => ?_)
          obtain ⟨hI, hu73, y67, f68, hO66, hA69, b70, b71, hE72⟩ := hp65
          replace hO66 : u64[1]? = (some (q 1, .inr (1, [.ref (q 2), .int 4100, .int y67])) : Option (Nat × va_E)) := hO66
          replace hA69 : u64[2]? = (some (q 2, .inl (g 1, (513 : Int32).toNatClampNeg, .inr (.inl f68))) : Option (Nat × va_E)) := hA69
          obtain ⟨p74, e75⟩ : ∃ z, z = (F_She_add_p (4100 : Int32) (513 : Int32) (4100 : Int32) a60 lx33 lx34) := ⟨_, rfl⟩
          have e76 : y67 = p74.1 := congrArg (fun z => z.1) (hE72.trans e75.symm)
          have e77 : f68 = p74.2 := congrArg (fun z => z.2) (hE72.trans e75.symm)
          replace b70 : q_F (lx33.toInt + 1 ≤ y67.toInt) := b70
          replace b71 : q_F (y67.toInt ≤ lx33.toInt + 1) := b71
          replace hO52 := (hu73 _ (by decide)).trans hO52
          replace hF := q_uc hF hu73 (by simp)
          have hR78 := (show F_NH_feed_c61 (F_NH_feed_L39 x2 x3 t0_0 t1_0 lx6 fm47) x2 x3 t0_0 t1_0 lx6 lx32 lx33 lx34 p74 = (F_NH_feed x2 x3 t0_0 t1_0) from Eq.trans (by rw [e75, ← e61, ← e59, ← e57, ← e54, F_NH_feed_L39.eq_2, if_neg c48]) hR43)
          have hS79 := (show True ∧ S_NH_feed_c61 (S_NH_feed_L39 x2 x3 t0_0 t1_0 lx6 fm47) x2 x3 t0_0 t1_0 lx6 lx32 lx33 lx34 p74 from (by rw [e75, ← e61, ← e59, ← e57, ← e54]; have h := hS44; rw [S_NH_feed_L39.eq_2] at h; rw [if_neg c48] at h; replace h := q_s2 h; with_reducible exact h))
          obtain ⟨a83, e84⟩ := q_nm (lx32 + 1 : Int32)
          have b85 : q_F (a83.toInt = lx32.toInt + 1) := (by rw [← e84]; exact q_addI (y := 1) rfl (by decide) (by have t1 : t0_0.toInt ≤ lx32.toInt + lx33.toInt := i36; have t2 : lx33.toInt ≤ lx32.toInt + t0_0.toInt := i37; have t3 : a53.toInt = 8 * lx32.toInt := b55; have _ := q_lo32 (x := a53); have _ := q_hi32 (x := a53); omega) (by have t1 : t0_0.toInt ≤ lx32.toInt + lx33.toInt := i36; have t2 : lx33.toInt ≤ lx32.toInt + t0_0.toInt := i37; have t3 : a53.toInt = 8 * lx32.toInt := b55; have _ := q_lo32 (x := a53); have _ := q_hi32 (x := a53); omega))
          refine lv_iinc (v := a83) (lv' := [(4, .int a83), (0, .ref (q 0)), (1, .int x2), (2, .long x3)]) hx hb d_1_2_64 hl (k := 0) rfl (e84) (by decide) rfl (fun ls hl => ?_)
          refine lv_goto (tgt := 39) hx hb d_1_2_67 (by decide) ?_
          exact ih39 ((a83 : Int32), (y67 : Int32), (f68 : (Nat → Int64))) _ _ _ _ (show (4100 - a83.toInt).toNat < (4100 - lx32.toInt).toNat from by have t1 : a83.toInt = lx32.toInt + 1 := b85; have t2 : 0 ≤ t0_0.toInt ∧ t0_0.toInt ≤ 4100 := btt0_0; have t3 : lx33.toInt ≤ 4100 := i35; have t4 : lx32.toInt + t0_0.toInt ≤ lx33.toInt := i38; have t5 : lx33.toInt ≤ 4099 := ob63; omega) ⟨(show q_F (y67.toInt ≤ 4100) from (show y67.toInt ≤ 4100 from by have t1 : lx33.toInt ≤ 4099 := ob63; have t2 : y67.toInt ≤ lx33.toInt + 1 := b71; omega)), (show q_F (t0_0.toInt ≤ a83.toInt + y67.toInt) from (show t0_0.toInt ≤ a83.toInt + y67.toInt from by have t1 : t0_0.toInt ≤ lx32.toInt + lx33.toInt := i36; have t2 : lx33.toInt + 1 ≤ y67.toInt := b70; have t3 : a83.toInt = lx32.toInt + 1 := b85; omega)), (show q_F (y67.toInt ≤ a83.toInt + t0_0.toInt) from (show y67.toInt ≤ a83.toInt + t0_0.toInt from by have t1 : lx33.toInt ≤ lx32.toInt + t0_0.toInt := i37; have t2 : y67.toInt ≤ lx33.toInt + 1 := b71; have t3 : a83.toInt = lx32.toInt + 1 := b85; omega)), (show q_F (a83.toInt + t0_0.toInt ≤ y67.toInt) from (show a83.toInt + t0_0.toInt ≤ y67.toInt from by have t1 : lx32.toInt + t0_0.toInt ≤ lx33.toInt := i38; have t2 : lx33.toInt + 1 ≤ y67.toInt := b70; have t3 : a83.toInt = lx32.toInt + 1 := b85; omega)), V, q_lw hl (q_lw1 0 rfl (q_lw1 1 rfl (q_lw1 2 rfl (q_lw1 3 rfl q_lw0)))), hI, hF, hO66, hA69, ⟨fm47, Nat.lt_of_lt_of_le (show (4100 - a83.toInt).toNat < (4100 - lx32.toInt).toNat from by have t1 : a83.toInt = lx32.toInt + 1 := b85; have t2 : 0 ≤ t0_0.toInt ∧ t0_0.toInt ≤ 4100 := btt0_0; have t3 : lx33.toInt ≤ 4100 := i35; have t4 : lx32.toInt + t0_0.toInt ≤ lx33.toInt := i38; have t5 : lx33.toInt ≤ 4099 := ob63; omega) (Nat.le_of_lt_succ hf46), (show F_NH_feed_L39 x2 x3 t0_0 t1_0 lx6 fm47 a83 y67 f68 = (F_NH_feed x2 x3 t0_0 t1_0) from Eq.trans (by rw [← e84, e77, e76, F_NH_feed_c61.eq_1]) hR78), (show True ∧ S_NH_feed_L39 x2 x3 t0_0 t1_0 lx6 fm47 a83 y67 f68 from (by rw [← e84, e77, e76]; have h := hS79; rw [S_NH_feed_c61.eq_1] at h; with_reducible exact h))⟩⟩
      ·
        have b86 : q_F (4100 < a27.toInt) := (q_nleI c29)
        refine lv_iconst (v := (-1)) hx hb d_1_2_34 (by decide) ?_
        exact q_retX (q_reti C0 V (⟨hI, hF, t0_0, t1_0, hT0, hT1, (show 0 ≤ (-1 : Int32).toInt + 1 from (by have z4 : (-1 : Int32).toInt = -1 := rfl; omega)), (show t0_0.toInt ≤ 4100 from (by have z4 : (-1 : Int32).toInt = -1 := rfl; have t1 : 0 ≤ t0_0.toInt ∧ t0_0.toInt ≤ 4100 := btt0_0; omega)), (show t0_0.toInt ≤ t0_0.toInt from (by have z4 : (-1 : Int32).toInt = -1 := rfl; omega)), (show (-1 : Int32).toInt ≤ t0_0.toInt from (by have z4 : (-1 : Int32).toInt = -1 := rfl; have t1 : 0 ≤ t0_0.toInt ∧ t0_0.toInt ≤ 4100 := btt0_0; omega)), (show ((0 : Int32), (-1 : Int32), t0_0, t1_0) = (F_NH_feed x2 x3 t0_0 t1_0) from Eq.trans (by have c29x := c29; rw [← e28] at c29x; rw [F_NH_feed_J16.eq_1, if_pos c23, if_neg c29x]) hR12)⟩) d_1_2_35)
  ·
    intro J9
    refine q_join (X := Unit) (fun z H locs ls _ => q_Wd D g (va_A ws sz) s ws H locs ∧ lv_has ls 5 [(0, .ref (q 0)), (1, .int x2), (2, .long x3)] ∧ F_NH_feed_J15 x2 x3 t0_0 t1_0 = (F_NH_feed x2 x3 t0_0 t1_0) ∧ True ∧ S_NH_feed_J15 x2 x3 t0_0 t1_0) (fun z => []) 15 0 0 ?_ ?_
    ·
      rintro _ H locs ls _ ⟨V, hl, hR90, hS91⟩
      replace hl : lv_has ls 5 [(0, .ref (q 0)), (1, .int x2), (2, .long x3)] := hl
      refine lv_iconst (v := 0) hx hb d_1_2_15 (by decide) ?_
      exact J9 ((0 : Int32)) _ _ _ ws ⟨(show q_F (0 ≤ 0) from (show 0 ≤ 0 from by omega)), (show q_F (0 ≤ 1) from (show 0 ≤ 1 from by omega)), V, q_lw hl (q_lw1 0 rfl (q_lw1 1 rfl (q_lw1 2 rfl q_lw0))), (show F_NH_feed_J16 x2 x3 t0_0 t1_0 0 = (F_NH_feed x2 x3 t0_0 t1_0) from Eq.trans (by rw [F_NH_feed_J15.eq_1]) hR90), (show True ∧ S_NH_feed_J16 x2 x3 t0_0 t1_0 0 from (by have h := hS91; rw [S_NH_feed_J15.eq_1] at h; with_reducible exact h))⟩
    ·
      intro J89
      refine lv_icmp_lt (tgt := 15) hx hb d_1_2_2 (by decide) (fun c95 => ?_) (fun c95 => ?_)
      ·
        have b96 : q_F (x2.toInt < 1) := (q_ltI c95)
        exact J89 (()) _ _ _ ws ⟨V, q_lw hl (q_lw1 0 rfl (q_lw1 1 rfl (q_lw1 2 rfl q_lw0))), (show F_NH_feed_J15 x2 x3 t0_0 t1_0 = (F_NH_feed x2 x3 t0_0 t1_0) from (by rw [F_NH_feed.eq_1, if_pos c95])), (show True ∧ S_NH_feed_J15 x2 x3 t0_0 t1_0 from (by have h := hS; rw [S_NH_feed.eq_1] at h; rw [if_pos c95] at h; with_reducible exact h))⟩
      ·
        have b97 : q_F (1 ≤ x2.toInt) := (q_nltI c95)
        refine lv_iload_n hx hb d_1_2_5 rfl (lv_at hl 1 rfl) ?_
        refine lv_bipush (v := 8) hx hb d_1_2_6 (by decide) ?_
        refine lv_icmp_gt (tgt := 15) hx hb d_1_2_8 (by decide) (fun c98 => ?_) (fun c98 => ?_)
        ·
          have b99 : q_F (8 < x2.toInt) := (q_ltI c98)
          exact J89 (()) _ _ _ ws ⟨V, q_lw hl (q_lw1 0 rfl (q_lw1 1 rfl (q_lw1 2 rfl q_lw0))), (show F_NH_feed_J15 x2 x3 t0_0 t1_0 = (F_NH_feed x2 x3 t0_0 t1_0) from (by rw [F_NH_feed.eq_1, if_neg c95, if_pos c98])), (show True ∧ S_NH_feed_J15 x2 x3 t0_0 t1_0 from (by have h := hS; rw [S_NH_feed.eq_1] at h; rw [if_neg c95] at h; rw [if_pos c98] at h; with_reducible exact h))⟩
        ·
          have b100 : q_F (x2.toInt ≤ 8) := (q_nltI c98)
          refine lv_iconst (v := 1) hx hb d_1_2_11 (by decide) ?_
          refine lv_goto (tgt := 16) hx hb d_1_2_12 (by decide) ?_
          exact J9 ((1 : Int32)) _ _ _ ws ⟨(show q_F (0 ≤ 1) from (show 0 ≤ 1 from by omega)), (show q_F (1 ≤ 1) from (show 1 ≤ 1 from by omega)), V, q_lw hl (q_lw1 0 rfl (q_lw1 1 rfl (q_lw1 2 rfl q_lw0))), (show F_NH_feed_J16 x2 x3 t0_0 t1_0 1 = (F_NH_feed x2 x3 t0_0 t1_0) from (by rw [F_NH_feed.eq_1, if_neg c95, if_neg c98])), (show True ∧ S_NH_feed_J16 x2 x3 t0_0 t1_0 1 from (by have h := hS; rw [S_NH_feed.eq_1] at h; rw [if_neg c95] at h; rw [if_neg c98] at h; with_reducible exact h))⟩
