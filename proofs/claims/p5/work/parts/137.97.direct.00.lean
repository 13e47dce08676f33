/-! DirectiveRows, exactly -/
theorem d_16_6_0 : decode prog_16_method_6_code 0 = .ok (.aload_n 0, 1) := by decide +kernel
theorem d_16_6_1 : decode prog_16_method_6_code 1 = .ok (.iconst 0, 1) := by decide +kernel
theorem d_16_6_2 : decode prog_16_method_6_code 2 = .ok (.putfield 42, 3) := by decide +kernel
set_option maxRecDepth 100000 in
theorem w_2198 : (Cond.fieldLink "NumberHouseModel$DirectiveRows" (42 : Nat) "NumberHouseModel$DirectiveRows" "thrown" "I") ∈ q_tbl := q_of10 38 rfl (by decide +kernel)
theorem d_16_6_5 : decode prog_16_method_6_code 5 = .ok (.aload_n 0, 1) := by decide +kernel
theorem d_16_6_6 : decode prog_16_method_6_code 6 = .ok (.getfield 50, 3) := by decide +kernel
set_option maxRecDepth 100000 in
theorem w_2203 : (Cond.fieldLink "NumberHouseModel$DirectiveRows" (50 : Nat) "NumberHouseModel$DirectiveRows" "arguments" "I") ∈ q_tbl := q_of10 43 rfl (by decide +kernel)
theorem d_16_6_9 : decode prog_16_method_6_code 9 = .ok (.bipush 9, 2) := by decide +kernel
theorem d_16_6_11 : decode prog_16_method_6_code 11 = .ok (.if_icmp .ne 5, 3) := by decide +kernel
theorem d_16_6_16 : decode prog_16_method_6_code 16 = .ok (.aload_n 0, 1) := by decide +kernel
theorem d_16_6_17 : decode prog_16_method_6_code 17 = .ok (.getfield 13, 3) := by decide +kernel
theorem d_16_6_20 : decode prog_16_method_6_code 20 = .ok (.aload_n 0, 1) := by decide +kernel
theorem d_16_6_21 : decode prog_16_method_6_code 21 = .ok (.getfield 50, 3) := by decide +kernel
theorem d_16_6_24 : decode prog_16_method_6_code 24 = .ok (.iload_n 1, 1) := by decide +kernel
theorem d_16_6_25 : decode prog_16_method_6_code 25 = .ok (.iastore, 1) := by decide +kernel
theorem d_16_6_26 : decode prog_16_method_6_code 26 = .ok (.aload_n 0, 1) := by decide +kernel
theorem d_16_6_27 : decode prog_16_method_6_code 27 = .ok (.getfield 16, 3) := by decide +kernel
theorem d_16_6_30 : decode prog_16_method_6_code 30 = .ok (.aload_n 0, 1) := by decide +kernel
theorem d_16_6_31 : decode prog_16_method_6_code 31 = .ok (.getfield 50, 3) := by decide +kernel
theorem d_16_6_34 : decode prog_16_method_6_code 34 = .ok (.iload_n 2, 1) := by decide +kernel
theorem d_16_6_35 : decode prog_16_method_6_code 35 = .ok (.iastore, 1) := by decide +kernel
theorem d_16_6_36 : decode prog_16_method_6_code 36 = .ok (.aload_n 0, 1) := by decide +kernel
theorem d_16_6_37 : decode prog_16_method_6_code 37 = .ok (.getfield 19, 3) := by decide +kernel
theorem d_16_6_40 : decode prog_16_method_6_code 40 = .ok (.aload_n 0, 1) := by decide +kernel
theorem d_16_6_41 : decode prog_16_method_6_code 41 = .ok (.getfield 50, 3) := by decide +kernel
theorem d_16_6_44 : decode prog_16_method_6_code 44 = .ok (.lload_n 3, 1) := by decide +kernel
theorem d_16_6_45 : decode prog_16_method_6_code 45 = .ok (.lastore, 1) := by decide +kernel
theorem d_16_6_46 : decode prog_16_method_6_code 46 = .ok (.aload_n 0, 1) := by decide +kernel
theorem d_16_6_47 : decode prog_16_method_6_code 47 = .ok (.dup, 1) := by decide +kernel
theorem d_16_6_48 : decode prog_16_method_6_code 48 = .ok (.getfield 50, 3) := by decide +kernel
theorem d_16_6_51 : decode prog_16_method_6_code 51 = .ok (.iconst 1, 1) := by decide +kernel
theorem d_16_6_52 : decode prog_16_method_6_code 52 = .ok (.iadd, 1) := by decide +kernel
theorem d_16_6_53 : decode prog_16_method_6_code 53 = .ok (.putfield 50, 3) := by decide +kernel
theorem d_16_6_56 : decode prog_16_method_6_code 56 = .ok (.aload_n 0, 1) := by decide +kernel
theorem d_16_6_57 : decode prog_16_method_6_code 57 = .ok (.getfield 50, 3) := by decide +kernel
theorem d_16_6_60 : decode prog_16_method_6_code 60 = .ok (.ireturn, 1) := by decide +kernel
theorem d_16_6_14 : decode prog_16_method_6_code 14 = .ok (.iconst (-1), 1) := by decide +kernel
theorem d_16_6_15 : decode prog_16_method_6_code 15 = .ok (.ireturn, 1) := by decide +kernel
def y_VR_enter : MethodName := ⟨"NumberHouseModel$DirectiveRows", "enter", "(IIJ)I"⟩
def F_VR_enter (x2 : Int32) (x3 : Int32) (x4 : Int64) (t0_0 : Int32) (t0_1 : Int32) (t0_2 : Int32) (t0_3 : Int32) (t0_4 : Int32) (t0_5 : Int32) (t0_6 : Int32) (t0_7 : Int32) (t0_8 : Int32) (t0_9 : Int32) (t0_10 : Int32) (t0_11 : Int32) (t0_12 : Int32) (t0_13 : Int32) (t0_14 : Int32) (t0_15 : Int32) (t0_16 : Int32) (t0_17 : Int32) (t0_18 : Int32) (t0_19 : Int32) (t0_20 : Int32) (t0_21 : Int32) (t1_0 : (Nat → Int32)) (t2_0 : (Nat → Int32)) (t3_0 : (Nat → Int64)) : Int32 × Int32 × Int32 × (Nat → Int32) × (Nat → Int32) × (Nat → Int64) := if t0_2 = (9 : Int32) then (((-1 : Int32), (0 : Int32), t0_2, t1_0, t2_0, t3_0)) else (((t0_2 + 1 : Int32), (0 : Int32), (t0_2 + 1 : Int32), (upd t1_0 t0_2.toNatClampNeg x2 : (Nat → Int32)), (upd t2_0 t0_2.toNatClampNeg x3 : (Nat → Int32)), (vp_updL t3_0 t0_2.toNatClampNeg x4 : (Nat → Int64))))
set_option maxRecDepth 100000 in
set_option maxHeartbeats 4000000 in
theorem X_VR_enter (l : Launch) (D : va_G) (g : Nat → ClassId) (q : Nat → Nat) (ws : va_W) (x2 : Int32) (x3 : Int32) (x4 : Int64) (hI : q_I (msh g q) q ws) (t0_0 : Int32) (t0_1 : Int32) (t0_2 : Int32) (t0_3 : Int32) (t0_4 : Int32) (t0_5 : Int32) (t0_6 : Int32) (t0_7 : Int32) (t0_8 : Int32) (t0_9 : Int32) (t0_10 : Int32) (t0_11 : Int32) (t0_12 : Int32) (t0_13 : Int32) (t0_14 : Int32) (t0_15 : Int32) (t0_16 : Int32) (t0_17 : Int32) (t0_18 : Int32) (t0_19 : Int32) (t0_20 : Int32) (t0_21 : Int32) (hT0 : ws[157]? = (some (q 157, .inr (17, [.int t0_0, .ref (q 158), .int t0_1, .int t0_2, .ref (q 159), .ref (q 160), .ref (q 161), .ref (q 162), .ref (q 163), .int t0_3, .ref (q 164), .int t0_4, .int t0_5, .int t0_6, .int t0_7, .int t0_8, .int t0_9, .int t0_10, .int t0_11, .int t0_12, .int t0_13, .int t0_14, .int t0_15, .int t0_16, .ref (q 165), .int t0_17, .int t0_18, .int t0_19, .ref (q 166), .int t0_20, .int t0_21])) : Option (Nat × va_E))) (t1_0 : (Nat → Int32)) (hT1 : ws[159]? = (some (q 159, .inl (g 0, (9 : Int32).toNatClampNeg, .inl t1_0)) : Option (Nat × va_E))) (t2_0 : (Nat → Int32)) (hT2 : ws[160]? = (some (q 160, .inl (g 0, (9 : Int32).toNatClampNeg, .inl t2_0)) : Option (Nat × va_E))) (t3_0 : (Nat → Int64)) (hT3 : ws[161]? = (some (q 161, .inl (g 1, 9, .inr (.inl t3_0))) : Option (Nat × va_E))) : q_mI l y_VR_enter prog_16_method_6_code 5 (.int) 1 0 0 D g [.ref (q 157), .int x2, .int x3, .long x4] ws (fun r u => q_I (msh g q) q u ∧ q_un ws u [157, 159, 160, 161] ∧ ∃ (u0_0 : Int32) (u0_2 : Int32) (u1_0 : (Nat → Int32)) (u2_0 : (Nat → Int32)) (u3_0 : (Nat → Int64)), u[157]? = (some (q 157, .inr (17, [.int u0_0, .ref (q 158), .int t0_1, .int u0_2, .ref (q 159), .ref (q 160), .ref (q 161), .ref (q 162), .ref (q 163), .int t0_3, .ref (q 164), .int t0_4, .int t0_5, .int t0_6, .int t0_7, .int t0_8, .int t0_9, .int t0_10, .int t0_11, .int t0_12, .int t0_13, .int t0_14, .int t0_15, .int t0_16, .ref (q 165), .int t0_17, .int t0_18, .int t0_19, .ref (q 166), .int t0_20, .int t0_21])) : Option (Nat × va_E)) ∧ u[159]? = (some (q 159, .inl (g 0, (9 : Int32).toNatClampNeg, .inl u1_0)) : Option (Nat × va_E)) ∧ u[160]? = (some (q 160, .inl (g 0, (9 : Int32).toNatClampNeg, .inl u2_0)) : Option (Nat × va_E)) ∧ u[161]? = (some (q 161, .inl (g 1, 9, .inr (.inl u3_0))) : Option (Nat × va_E)) ∧ (0 ≤ u0_0.toInt) ∧ (u0_0.toInt ≤ 0) ∧ (t0_2.toInt ≤ u0_2.toInt) ∧ (u0_2.toInt ≤ t0_2.toInt + 1) ∧ (u0_0.toInt ≤ r.toInt + 1) ∧ (r.toInt ≤ u0_2.toInt) ∧ (u0_2.toInt ≤ u0_0.toInt + 9) ∧ (u0_0.toInt + 1 ≤ u0_2.toInt) ∧ (r, u0_0, u0_2, u1_0, u2_0, u3_0) = (F_VR_enter x2 x3 x4 t0_0 t0_1 t0_2 t0_3 t0_4 t0_5 t0_6 t0_7 t0_8 t0_9 t0_10 t0_11 t0_12 t0_13 t0_14 t0_15 t0_16 t0_17 t0_18 t0_19 t0_20 t0_21 t1_0 t2_0 t3_0)) := by
  intro sz
  refine q_into (by decide) (Nat.le_of_ble_eq_true rfl) ?_
  intro p e s m below meth c ls hsz C0 V hl
  have hx := C0.1
  have hb := C0.2.1
  obtain ⟨btt0_1, hZ9⟩ := n_w157 hI hT0
  obtain ⟨btt0_2, hZ9⟩ := hZ9
  obtain ⟨btt0_3, hZ9⟩ := hZ9
  obtain ⟨btt0_10, btt0_19⟩ := hZ9
  replace btt0_1 : q_F (0 ≤ t0_1.toInt ∧ t0_1.toInt ≤ 256) := btt0_1
  replace btt0_2 : q_F (0 ≤ t0_2.toInt ∧ t0_2.toInt ≤ 9) := btt0_2
  replace btt0_3 : q_F (0 ≤ t0_3.toInt ∧ t0_3.toInt ≤ 4096) := btt0_3
  replace btt0_10 : q_F (0 ≤ t0_10.toInt ∧ t0_10.toInt ≤ 1) := btt0_10
  replace btt0_19 : q_F (0 ≤ t0_19.toInt ∧ t0_19.toInt ≤ 1) := btt0_19
  have hF : q_un ws ws [157, 159, 160, 161] := q_u0
  have hl : lv_has ls 5 [(0, .ref (q 157)), (1, .int x2), (2, .int x3), (3, .long x4)] := hl
  refine lv_aload_n hx hb d_16_6_0 rfl (lv_at hl 0 rfl) ?_
  refine lv_iconst (v := 0) hx hb d_16_6_1 (by decide) ?_
  refine q_put (ci := 17) (j := 0) (v := .int 0) (ty := .int) C0 V i_VR o_VR n_VR rfl rfl hT0 (by decide) w_2198 rfl rfl rfl rfl (Nat.le_of_ble_eq_true rfl) d_16_6_2 (fun H locs w37 hu38 hT0 V => ?_)
  replace hT0 : w37[157]? = (some (q 157, .inr (17, [.int 0, .ref (q 158), .int t0_1, .int t0_2, .ref (q 159), .ref (q 160), .ref (q 161), .ref (q 162), .ref (q 163), .int t0_3, .ref (q 164), .int t0_4, .int t0_5, .int t0_6, .int t0_7, .int t0_8, .int t0_9, .int t0_10, .int t0_11, .int t0_12, .int t0_13, .int t0_14, .int t0_15, .int t0_16, .ref (q 165), .int t0_17, .int t0_18, .int t0_19, .ref (q 166), .int t0_20, .int t0_21])) : Option (Nat × va_E)) := hT0
  replace hI := n_p157 hI hu38 hT0 (by first | with_reducible exact q_fe btt0_1 | exact ⟨(by have t1 : 0 ≤ t0_1.toInt ∧ t0_1.toInt ≤ 256 := btt0_1; omega), (by have t1 : 0 ≤ t0_1.toInt ∧ t0_1.toInt ≤ 256 := btt0_1; omega)⟩) (by first | with_reducible exact q_fe btt0_2 | exact ⟨(by have t1 : 0 ≤ t0_2.toInt ∧ t0_2.toInt ≤ 9 := btt0_2; omega), (by have t1 : 0 ≤ t0_2.toInt ∧ t0_2.toInt ≤ 9 := btt0_2; omega)⟩) (by first | with_reducible exact q_fe btt0_3 | exact ⟨(by have t1 : 0 ≤ t0_3.toInt ∧ t0_3.toInt ≤ 4096 := btt0_3; omega), (by have t1 : 0 ≤ t0_3.toInt ∧ t0_3.toInt ≤ 4096 := btt0_3; omega)⟩) (by first | with_reducible exact q_fe btt0_10 | exact ⟨(by have t1 : 0 ≤ t0_10.toInt ∧ t0_10.toInt ≤ 1 := btt0_10; omega), (by have t1 : 0 ≤ t0_10.toInt ∧ t0_10.toInt ≤ 1 := btt0_10; omega)⟩) (by first | with_reducible exact q_fe btt0_19 | exact ⟨(by have t1 : 0 ≤ t0_19.toInt ∧ t0_19.toInt ≤ 1 := btt0_19; omega), (by have t1 : 0 ≤ t0_19.toInt ∧ t0_19.toInt ≤ 1 := btt0_19; omega)⟩)
  replace hT1 := (hu38 _ (by decide)).trans hT1
  replace hT2 := (hu38 _ (by decide)).trans hT2
  replace hT3 := (hu38 _ (by decide)).trans hT3
  replace hF := q_us hF hu38 (by simp)
  refine lv_aload_n hx hb d_16_6_5 rfl (lv_at hl 0 rfl) ?_
  refine q_get (ci := 17) (j := 3) (v := .int t0_2) C0 V i_VR rfl rfl hT0 (by decide) w_2203 rfl d_16_6_6 ?_
  refine lv_bipush (v := 9) hx hb d_16_6_9 (by decide) ?_
  refine lv_icmp_ne (tgt := 16) hx hb d_16_6_11 (by decide) (fun c39 => ?_) (fun c39 => ?_)
  ·
    have b40 : q_F (t0_2.toInt ≠ 9) := (q_neI c39)
    refine lv_aload_n hx hb d_16_6_16 rfl (lv_at hl 0 rfl) ?_
    refine q_get (ci := 17) (j := 4) (v := .ref (q 159)) C0 V i_VR rfl rfl hT0 (by decide) w_2205 rfl d_16_6_17 ?_
    refine lv_aload_n hx hb d_16_6_20 rfl (lv_at hl 0 rfl) ?_
    refine q_get (ci := 17) (j := 3) (v := .int t0_2) C0 V i_VR rfl rfl hT0 (by decide) w_2203 rfl d_16_6_21 ?_
    refine lv_iload_n hx hb d_16_6_24 rfl (lv_at hl 1 rfl) ?_
    refine q_iast C0 V hT1 (q_ix (x := t0_2.toInt) rfl (by first | with_reducible exact (q_fe btt0_2).2 | with_reducible exact (q_fe btt0_2).1 | (have t1 : 0 ≤ t0_2.toInt ∧ t0_2.toInt ≤ 9 := btt0_2; omega)) (by have t1 : 0 ≤ t0_2.toInt ∧ t0_2.toInt ≤ 9 := btt0_2; have t2 : t0_2.toInt ≠ 9 := b40; have e9 : (((9 : Int32).toNatClampNeg : Nat) : Int) = 9 := (by decide); omega)) d_16_6_25 (fun H locs w41 hu42 hT1 V => ?_)
    replace hI := n_ai' hI (n_r159 g q).1 hu42 hT1 (q_updB (fun _ => s_bnd) s_bnd)
    replace hT0 := (hu42 _ (by decide)).trans hT0
    replace hT2 := (hu42 _ (by decide)).trans hT2
    replace hT3 := (hu42 _ (by decide)).trans hT3
    replace hF := q_us hF hu42 (by simp)
    obtain ⟨f43, e44⟩ := q_nm (upd t1_0 t0_2.toNatClampNeg x2 : (Nat → Int32))
    rw [e44] at hT1
    refine lv_aload_n hx hb d_16_6_26 rfl (lv_at hl 0 rfl) ?_
    refine q_get (ci := 17) (j := 5) (v := .ref (q 160)) C0 V i_VR rfl rfl hT0 (by decide) w_2206 rfl d_16_6_27 ?_
    refine lv_aload_n hx hb d_16_6_30 rfl (lv_at hl 0 rfl) ?_
    refine q_get (ci := 17) (j := 3) (v := .int t0_2) C0 V i_VR rfl rfl hT0 (by decide) w_2203 rfl d_16_6_31 ?_
    refine lv_iload_n hx hb d_16_6_34 rfl (lv_at hl 2 rfl) ?_
    refine q_iast C0 V hT2 (q_ix (x := t0_2.toInt) rfl (by first | with_reducible exact (q_fe btt0_2).2 | with_reducible exact (q_fe btt0_2).1 | (have t1 : 0 ≤ t0_2.toInt ∧ t0_2.toInt ≤ 9 := btt0_2; omega)) (by have t1 : 0 ≤ t0_2.toInt ∧ t0_2.toInt ≤ 9 := btt0_2; have t2 : t0_2.toInt ≠ 9 := b40; have e9 : (((9 : Int32).toNatClampNeg : Nat) : Int) = 9 := (by decide); omega)) d_16_6_35 (fun H locs w45 hu46 hT2 V => ?_)
    replace hI := n_ai' hI (n_r160 g q).1 hu46 hT2 (q_updB (fun _ => s_bnd) s_bnd)
    replace hT0 := (hu46 _ (by decide)).trans hT0
    replace hT1 := (hu46 _ (by decide)).trans hT1
    replace hT3 := (hu46 _ (by decide)).trans hT3
    replace hF := q_us hF hu46 (by simp)
    obtain ⟨f47, e48⟩ := q_nm (upd t2_0 t0_2.toNatClampNeg x3 : (Nat → Int32))
    rw [e48] at hT2
    refine lv_aload_n hx hb d_16_6_36 rfl (lv_at hl 0 rfl) ?_
    refine q_get (ci := 17) (j := 6) (v := .ref (q 161)) C0 V i_VR rfl rfl hT0 (by decide) w_2207 rfl d_16_6_37 ?_
    refine lv_aload_n hx hb d_16_6_40 rfl (lv_at hl 0 rfl) ?_
    refine q_get (ci := 17) (j := 3) (v := .int t0_2) C0 V i_VR rfl rfl hT0 (by decide) w_2203 rfl d_16_6_41 ?_
    refine lv_lload_n hx hb d_16_6_44 rfl (lv_at hl 3 rfl) ?_
    refine q_last C0 V hT3 (q_ix (x := t0_2.toInt) rfl (by first | with_reducible exact (q_fe btt0_2).2 | with_reducible exact (q_fe btt0_2).1 | (have t1 : 0 ≤ t0_2.toInt ∧ t0_2.toInt ≤ 9 := btt0_2; omega)) (by have t1 : 0 ≤ t0_2.toInt ∧ t0_2.toInt ≤ 9 := btt0_2; have t2 : t0_2.toInt ≠ 9 := b40; omega)) d_16_6_45 (fun H locs w49 hu50 hT3 V => ?_)
    replace hI := n_al' hI (n_s161 g q) hu50 hT3
    replace hT0 := (hu50 _ (by decide)).trans hT0
    replace hT1 := (hu50 _ (by decide)).trans hT1
    replace hT2 := (hu50 _ (by decide)).trans hT2
    replace hF := q_us hF hu50 (by simp)
    obtain ⟨f51, e52⟩ := q_nm (vp_updL t3_0 t0_2.toNatClampNeg x4 : (Nat → Int64))
    rw [e52] at hT3
    refine lv_aload_n hx hb d_16_6_46 rfl (lv_at hl 0 rfl) ?_
    refine lv_dup hx hb d_16_6_47 rfl ?_
    refine q_get (ci := 17) (j := 3) (v := .int t0_2) C0 V i_VR rfl rfl hT0 (by decide) w_2203 rfl d_16_6_48 ?_
    refine lv_iconst (v := 1) hx hb d_16_6_51 (by decide) ?_
    refine lv_iadd hx hb d_16_6_52 ?_
    obtain ⟨a53, e54⟩ := q_nm (t0_2 + 1 : Int32)
    refine q_ti (v := a53) e54 ?_
    have b55 : q_F (a53.toInt = t0_2.toInt + 1) := (by rw [← e54]; show (t0_2 + 1 : Int32).toInt = t0_2.toInt + 1; exact q_addI (x := t0_2.toInt) (y := 1) rfl (by decide) (by first | with_reducible exact (q_fe btt0_2).2 | with_reducible exact (q_fe btt0_2).1 | (have t1 : 0 ≤ t0_2.toInt ∧ t0_2.toInt ≤ 9 := btt0_2; omega)) (by first | with_reducible exact (q_fe btt0_2).2 | with_reducible exact (q_fe btt0_2).1 | (have t1 : 0 ≤ t0_2.toInt ∧ t0_2.toInt ≤ 9 := btt0_2; omega)))
    refine q_put (ci := 17) (j := 3) (v := .int a53) (ty := .int) C0 V i_VR o_VR n_VR rfl rfl hT0 (by decide) w_2203 rfl rfl rfl rfl (Nat.le_of_ble_eq_true rfl) d_16_6_53 (fun H locs w56 hu57 hT0 V => ?_)
    replace hT0 : w56[157]? = (some (q 157, .inr (17, [.int 0, .ref (q 158), .int t0_1, .int a53, .ref (q 159), .ref (q 160), .ref (q 161), .ref (q 162), .ref (q 163), .int t0_3, .ref (q 164), .int t0_4, .int t0_5, .int t0_6, .int t0_7, .int t0_8, .int t0_9, .int t0_10, .int t0_11, .int t0_12, .int t0_13, .int t0_14, .int t0_15, .int t0_16, .ref (q 165), .int t0_17, .int t0_18, .int t0_19, .ref (q 166), .int t0_20, .int t0_21])) : Option (Nat × va_E)) := hT0
    replace hI := n_p157 hI hu57 hT0 (by first | with_reducible exact q_fe btt0_1 | exact ⟨(by have t1 : 0 ≤ t0_1.toInt ∧ t0_1.toInt ≤ 256 := btt0_1; omega), (by have t1 : 0 ≤ t0_1.toInt ∧ t0_1.toInt ≤ 256 := btt0_1; omega)⟩) ⟨(by have t1 : 0 ≤ t0_2.toInt ∧ t0_2.toInt ≤ 9 := btt0_2; have t2 : a53.toInt = t0_2.toInt + 1 := b55; omega), (by have t1 : 0 ≤ t0_2.toInt ∧ t0_2.toInt ≤ 9 := btt0_2; have t2 : t0_2.toInt ≠ 9 := b40; have t3 : a53.toInt = t0_2.toInt + 1 := b55; omega)⟩ (by first | with_reducible exact q_fe btt0_3 | exact ⟨(by have t1 : 0 ≤ t0_3.toInt ∧ t0_3.toInt ≤ 4096 := btt0_3; omega), (by have t1 : 0 ≤ t0_3.toInt ∧ t0_3.toInt ≤ 4096 := btt0_3; omega)⟩) (by first | with_reducible exact q_fe btt0_10 | exact ⟨(by have t1 : 0 ≤ t0_10.toInt ∧ t0_10.toInt ≤ 1 := btt0_10; omega), (by have t1 : 0 ≤ t0_10.toInt ∧ t0_10.toInt ≤ 1 := btt0_10; omega)⟩) (by first | with_reducible exact q_fe btt0_19 | exact ⟨(by have t1 : 0 ≤ t0_19.toInt ∧ t0_19.toInt ≤ 1 := btt0_19; omega), (by have t1 : 0 ≤ t0_19.toInt ∧ t0_19.toInt ≤ 1 := btt0_19; omega)⟩)
    replace hT1 := (hu57 _ (by decide)).trans hT1
    replace hT2 := (hu57 _ (by decide)).trans hT2
    replace hT3 := (hu57 _ (by decide)).trans hT3
    replace hF := q_us hF hu57 (by simp)
    refine lv_aload_n hx hb d_16_6_56 rfl (lv_at hl 0 rfl) ?_
    refine q_get (ci := 17) (j := 3) (v := .int a53) C0 V i_VR rfl rfl hT0 (by decide) w_2203 rfl d_16_6_57 ?_
    exact q_reti C0 V (⟨hI, hF, 0, a53, f43, f47, f51, hT0, hT1, hT2, hT3, (show 0 ≤ (0 : Int32).toInt from (by have z29 : (0 : Int32).toInt = 0 := rfl; omega)), (show (0 : Int32).toInt ≤ 0 from (by have z29 : (0 : Int32).toInt = 0 := rfl; omega)), (show t0_2.toInt ≤ a53.toInt from (by have z29 : (0 : Int32).toInt = 0 := rfl; have t1 : a53.toInt = t0_2.toInt + 1 := b55; omega)), (show a53.toInt ≤ t0_2.toInt + 1 from (by have z29 : (0 : Int32).toInt = 0 := rfl; have t1 : a53.toInt = t0_2.toInt + 1 := b55; omega)), (show (0 : Int32).toInt ≤ a53.toInt + 1 from (by have z29 : (0 : Int32).toInt = 0 := rfl; have t1 : 0 ≤ t0_2.toInt ∧ t0_2.toInt ≤ 9 := btt0_2; have t2 : a53.toInt = t0_2.toInt + 1 := b55; omega)), (show a53.toInt ≤ a53.toInt from (by have z29 : (0 : Int32).toInt = 0 := rfl; omega)), (show a53.toInt ≤ (0 : Int32).toInt + 9 from (by have z29 : (0 : Int32).toInt = 0 := rfl; have t1 : 0 ≤ t0_2.toInt ∧ t0_2.toInt ≤ 9 := btt0_2; have t2 : t0_2.toInt ≠ 9 := b40; have t3 : a53.toInt = t0_2.toInt + 1 := b55; omega)), (show (0 : Int32).toInt + 1 ≤ a53.toInt from (by have z29 : (0 : Int32).toInt = 0 := rfl; have t1 : 0 ≤ t0_2.toInt ∧ t0_2.toInt ≤ 9 := btt0_2; have t2 : a53.toInt = t0_2.toInt + 1 := b55; omega)), (show (a53, (0 : Int32), a53, f43, f47, f51) = (F_VR_enter x2 x3 x4 t0_0 t0_1 t0_2 t0_3 t0_4 t0_5 t0_6 t0_7 t0_8 t0_9 t0_10 t0_11 t0_12 t0_13 t0_14 t0_15 t0_16 t0_17 t0_18 t0_19 t0_20 t0_21 t1_0 t2_0 t3_0) from (by rw [← e54, ← e52, ← e48, ← e44, F_VR_enter.eq_1, if_neg c39]))⟩) d_16_6_60
  ·
    have b58 : q_F (t0_2.toInt = 9) := (q_eqI c39)
    refine lv_iconst (v := (-1)) hx hb d_16_6_14 (by decide) ?_
    exact q_reti C0 V (⟨hI, hF, 0, t0_2, t1_0, t2_0, t3_0, hT0, hT1, hT2, hT3, (show 0 ≤ (0 : Int32).toInt from (by have z28 : (-1 : Int32).toInt = -1 := rfl; have z29 : (0 : Int32).toInt = 0 := rfl; omega)), (show (0 : Int32).toInt ≤ 0 from (by have z28 : (-1 : Int32).toInt = -1 := rfl; have z29 : (0 : Int32).toInt = 0 := rfl; omega)), (show t0_2.toInt ≤ t0_2.toInt from (by have z28 : (-1 : Int32).toInt = -1 := rfl; have z29 : (0 : Int32).toInt = 0 := rfl; omega)), (show t0_2.toInt ≤ t0_2.toInt + 1 from (by have z28 : (-1 : Int32).toInt = -1 := rfl; have z29 : (0 : Int32).toInt = 0 := rfl; omega)), (show (0 : Int32).toInt ≤ (-1 : Int32).toInt + 1 from (by have z28 : (-1 : Int32).toInt = -1 := rfl; have z29 : (0 : Int32).toInt = 0 := rfl; omega)), (show (-1 : Int32).toInt ≤ t0_2.toInt from (by have z28 : (-1 : Int32).toInt = -1 := rfl; have z29 : (0 : Int32).toInt = 0 := rfl; have t1 : 0 ≤ t0_2.toInt ∧ t0_2.toInt ≤ 9 := btt0_2; omega)), (show t0_2.toInt ≤ (0 : Int32).toInt + 9 from (by have z28 : (-1 : Int32).toInt = -1 := rfl; have z29 : (0 : Int32).toInt = 0 := rfl; have t1 : 0 ≤ t0_2.toInt ∧ t0_2.toInt ≤ 9 := btt0_2; omega)), (show (0 : Int32).toInt + 1 ≤ t0_2.toInt from (by have z28 : (-1 : Int32).toInt = -1 := rfl; have z29 : (0 : Int32).toInt = 0 := rfl; have t1 : t0_2.toInt = 9 := b58; omega)), (show ((-1 : Int32), (0 : Int32), t0_2, t1_0, t2_0, t3_0) = (F_VR_enter x2 x3 x4 t0_0 t0_1 t0_2 t0_3 t0_4 t0_5 t0_6 t0_7 t0_8 t0_9 t0_10 t0_11 t0_12 t0_13 t0_14 t0_15 t0_16 t0_17 t0_18 t0_19 t0_20 t0_21 t1_0 t2_0 t3_0) from (by rw [F_VR_enter.eq_1, if_pos c39]))⟩) d_16_6_15
theorem d_16_10_0 : decode prog_16_method_10_code 0 = .ok (.iload_n 1, 1) := by decide +kernel
theorem d_16_10_1 : decode prog_16_method_10_code 1 = .ok (.bipush 8, 2) := by decide +kernel
theorem d_16_10_31 : decode prog_16_method_10_code 31 = .ok (.aload_n 0, 1) := by decide +kernel
theorem d_16_10_32 : decode prog_16_method_10_code 32 = .ok (.iconst 3, 1) := by decide +kernel
theorem d_16_10_33 : decode prog_16_method_10_code 33 = .ok (.iload_n 1, 1) := by decide +kernel
theorem d_16_10_34 : decode prog_16_method_10_code 34 = .ok (.lload_n 2, 1) := by decide +kernel
theorem d_16_10_35 : decode prog_16_method_10_code 35 = .ok (.bipush 64, 2) := by decide +kernel
theorem d_16_10_37 : decode prog_16_method_10_code 37 = .ok (.iload_n 1, 1) := by decide +kernel
theorem d_16_10_38 : decode prog_16_method_10_code 38 = .ok (.isub, 1) := by decide +kernel
theorem d_16_10_39 : decode prog_16_method_10_code 39 = .ok (.lshl, 1) := by decide +kernel
theorem d_16_10_40 : decode prog_16_method_10_code 40 = .ok (.bipush 64, 2) := by decide +kernel
theorem d_16_10_42 : decode prog_16_method_10_code 42 = .ok (.iload_n 1, 1) := by decide +kernel
theorem d_16_10_43 : decode prog_16_method_10_code 43 = .ok (.isub, 1) := by decide +kernel
theorem d_16_10_44 : decode prog_16_method_10_code 44 = .ok (.lshr, 1) := by decide +kernel
theorem d_16_10_45 : decode prog_16_method_10_code 45 = .ok (.invokevirtual 53, 3) := by decide +kernel
set_option maxRecDepth 100000 in
theorem w_3081 : (Cond.code ({ cls := "NumberHouseModel$DirectiveRows", name := "enter", desc := "(IIJ)I" } : MethodName) prog_16_method_6_code (5 : Nat) (some .int)) ∈ q_tbl := q_of13 201 rfl (by decide +kernel)
set_option maxRecDepth 100000 in
theorem w_3078 : (Cond.methodLink "NumberHouseModel$DirectiveRows" (53 : Nat) ({ cls := "NumberHouseModel$DirectiveRows", name := "enter", desc := "(IIJ)I" } : MethodName)) ∈ q_tbl := q_of13 198 rfl (by decide +kernel)
set_option maxRecDepth 100000 in
theorem w_3080 : (Cond.instanceMethod ({ cls := "NumberHouseModel$DirectiveRows", name := "enter", desc := "(IIJ)I" } : MethodName)) ∈ q_tbl := q_of13 200 rfl (by decide +kernel)
theorem ws_149 : Cond.selects "NumberHouseModel$DirectiveRows" (⟨"NumberHouseModel$DirectiveRows", "enter", "(IIJ)I"⟩ : MethodName) (⟨"NumberHouseModel$DirectiveRows", "enter", "(IIJ)I"⟩ : MethodName) ∈ q_tbl := q_ofs 149 (by decide +kernel) (by decide +kernel)
theorem LV_VR_53 : q_LV "NumberHouseModel$DirectiveRows" 53 y_VR_enter prog_16_method_6_code 5 (some .int) 3 := ⟨w_3081, w_19, w_3078, w_3080, ws_149, ⟨by decide, by decide, by decide +kernel⟩⟩
theorem d_16_10_48 : decode prog_16_method_10_code 48 = .ok (.ireturn, 1) := by decide +kernel
theorem d_16_10_3 : decode prog_16_method_10_code 3 = .ok (.if_icmp .eq 28, 3) := by decide +kernel
theorem d_16_10_6 : decode prog_16_method_10_code 6 = .ok (.iload_n 1, 1) := by decide +kernel
theorem d_16_10_7 : decode prog_16_method_10_code 7 = .ok (.bipush 16, 2) := by decide +kernel
theorem d_16_10_9 : decode prog_16_method_10_code 9 = .ok (.if_icmp .eq 22, 3) := by decide +kernel
theorem d_16_10_12 : decode prog_16_method_10_code 12 = .ok (.iload_n 1, 1) := by decide +kernel
theorem d_16_10_13 : decode prog_16_method_10_code 13 = .ok (.bipush 32, 2) := by decide +kernel
theorem d_16_10_15 : decode prog_16_method_10_code 15 = .ok (.if_icmp .eq 16, 3) := by decide +kernel
theorem d_16_10_18 : decode prog_16_method_10_code 18 = .ok (.iload_n 1, 1) := by decide +kernel
theorem d_16_10_19 : decode prog_16_method_10_code 19 = .ok (.bipush 64, 2) := by decide +kernel
theorem d_16_10_21 : decode prog_16_method_10_code 21 = .ok (.if_icmp .eq 10, 3) := by decide +kernel
theorem d_16_10_24 : decode prog_16_method_10_code 24 = .ok (.aload_n 0, 1) := by decide +kernel
theorem d_16_10_25 : decode prog_16_method_10_code 25 = .ok (.iconst 1, 1) := by decide +kernel
theorem d_16_10_26 : decode prog_16_method_10_code 26 = .ok (.putfield 42, 3) := by decide +kernel
theorem d_16_10_29 : decode prog_16_method_10_code 29 = .ok (.iconst 0, 1) := by decide +kernel
theorem d_16_10_30 : decode prog_16_method_10_code 30 = .ok (.ireturn, 1) := by decide +kernel
def y_VR_whole : MethodName := ⟨"NumberHouseModel$DirectiveRows", "whole", "(IJ)I"⟩
def F_VR_whole_c45 (x2 : Int32) (x3 : Int64) (t0_0 : Int32) (t0_1 : Int32) (t0_2 : Int32) (t0_3 : Int32) (t0_4 : Int32) (t0_5 : Int32) (t0_6 : Int32) (t0_7 : Int32) (t0_8 : Int32) (t0_9 : Int32) (t0_10 : Int32) (t0_11 : Int32) (t0_12 : Int32) (t0_13 : Int32) (t0_14 : Int32) (t0_15 : Int32) (t0_16 : Int32) (t0_17 : Int32) (t0_18 : Int32) (t0_19 : Int32) (t0_20 : Int32) (t0_21 : Int32) (t1_0 : (Nat → Int32)) (t2_0 : (Nat → Int32)) (t3_0 : (Nat → Int64)) (p77 : (Int32 × Int32 × Int32 × (Nat → Int32) × (Nat → Int32) × (Nat → Int64))) : Int32 × Int32 × Int32 × (Nat → Int32) × (Nat → Int32) × (Nat → Int64) := ((p77.1 : Int32), (p77.2.1 : Int32), (p77.2.2.1 : Int32), (p77.2.2.2.1 : (Nat → Int32)), (p77.2.2.2.2.1 : (Nat → Int32)), (p77.2.2.2.2.2 : (Nat → Int64)))
def F_VR_whole_J31 (x2 : Int32) (x3 : Int64) (t0_0 : Int32) (t0_1 : Int32) (t0_2 : Int32) (t0_3 : Int32) (t0_4 : Int32) (t0_5 : Int32) (t0_6 : Int32) (t0_7 : Int32) (t0_8 : Int32) (t0_9 : Int32) (t0_10 : Int32) (t0_11 : Int32) (t0_12 : Int32) (t0_13 : Int32) (t0_14 : Int32) (t0_15 : Int32) (t0_16 : Int32) (t0_17 : Int32) (t0_18 : Int32) (t0_19 : Int32) (t0_20 : Int32) (t0_21 : Int32) (t1_0 : (Nat → Int32)) (t2_0 : (Nat → Int32)) (t3_0 : (Nat → Int64)) : Int32 × Int32 × Int32 × (Nat → Int32) × (Nat → Int32) × (Nat → Int64) := F_VR_whole_c45 x2 x3 t0_0 t0_1 t0_2 t0_3 t0_4 t0_5 t0_6 t0_7 t0_8 t0_9 t0_10 t0_11 t0_12 t0_13 t0_14 t0_15 t0_16 t0_17 t0_18 t0_19 t0_20 t0_21 t1_0 t2_0 t3_0 ((F_VR_enter (3 : Int32) x2 ((x3 <<< ((64 - x2 : Int32).toInt64 &&& 63) : Int64) >>> ((64 - x2 : Int32).toInt64 &&& 63) : Int64) t0_0 t0_1 t0_2 t0_3 t0_4 t0_5 t0_6 t0_7 t0_8 t0_9 t0_10 t0_11 t0_12 t0_13 t0_14 t0_15 t0_16 t0_17 t0_18 t0_19 t0_20 t0_21 t1_0 t2_0 t3_0) : (Int32 × Int32 × Int32 × (Nat → Int32) × (Nat → Int32) × (Nat → Int64)))
def F_VR_whole (x2 : Int32) (x3 : Int64) (t0_0 : Int32) (t0_1 : Int32) (t0_2 : Int32) (t0_3 : Int32) (t0_4 : Int32) (t0_5 : Int32) (t0_6 : Int32) (t0_7 : Int32) (t0_8 : Int32) (t0_9 : Int32) (t0_10 : Int32) (t0_11 : Int32) (t0_12 : Int32) (t0_13 : Int32) (t0_14 : Int32) (t0_15 : Int32) (t0_16 : Int32) (t0_17 : Int32) (t0_18 : Int32) (t0_19 : Int32) (t0_20 : Int32) (t0_21 : Int32) (t1_0 : (Nat → Int32)) (t2_0 : (Nat → Int32)) (t3_0 : (Nat → Int64)) : Int32 × Int32 × Int32 × (Nat → Int32) × (Nat → Int32) × (Nat → Int64) := if x2 = (8 : Int32) then (F_VR_whole_J31 x2 x3 t0_0 t0_1 t0_2 t0_3 t0_4 t0_5 t0_6 t0_7 t0_8 t0_9 t0_10 t0_11 t0_12 t0_13 t0_14 t0_15 t0_16 t0_17 t0_18 t0_19 t0_20 t0_21 t1_0 t2_0 t3_0) else (if x2 = (16 : Int32) then (F_VR_whole_J31 x2 x3 t0_0 t0_1 t0_2 t0_3 t0_4 t0_5 t0_6 t0_7 t0_8 t0_9 t0_10 t0_11 t0_12 t0_13 t0_14 t0_15 t0_16 t0_17 t0_18 t0_19 t0_20 t0_21 t1_0 t2_0 t3_0) else (if x2 = (32 : Int32) then (F_VR_whole_J31 x2 x3 t0_0 t0_1 t0_2 t0_3 t0_4 t0_5 t0_6 t0_7 t0_8 t0_9 t0_10 t0_11 t0_12 t0_13 t0_14 t0_15 t0_16 t0_17 t0_18 t0_19 t0_20 t0_21 t1_0 t2_0 t3_0) else (if x2 = (64 : Int32) then (F_VR_whole_J31 x2 x3 t0_0 t0_1 t0_2 t0_3 t0_4 t0_5 t0_6 t0_7 t0_8 t0_9 t0_10 t0_11 t0_12 t0_13 t0_14 t0_15 t0_16 t0_17 t0_18 t0_19 t0_20 t0_21 t1_0 t2_0 t3_0) else (((0 : Int32), (1 : Int32), t0_2, t1_0, t2_0, t3_0)))))
set_option maxRecDepth 100000 in
set_option maxHeartbeats 4000000 in
theorem X_VR_whole (l : Launch) (D : va_G) (g : Nat → ClassId) (q : Nat → Nat) (ws : va_W) (x2 : Int32) (x3 : Int64) (hI : q_I (msh g q) q ws) (t0_0 : Int32) (t0_1 : Int32) (t0_2 : Int32) (t0_3 : Int32) (t0_4 : Int32) (t0_5 : Int32) (t0_6 : Int32) (t0_7 : Int32) (t0_8 : Int32) (t0_9 : Int32) (t0_10 : Int32) (t0_11 : Int32) (t0_12 : Int32) (t0_13 : Int32) (t0_14 : Int32) (t0_15 : Int32) (t0_16 : Int32) (t0_17 : Int32) (t0_18 : Int32) (t0_19 : Int32) (t0_20 : Int32) (t0_21 : Int32) (hT0 : ws[157]? = (some (q 157, .inr (17, [.int t0_0, .ref (q 158), .int t0_1, .int t0_2, .ref (q 159), .ref (q 160), .ref (q 161), .ref (q 162), .ref (q 163), .int t0_3, .ref (q 164), .int t0_4, .int t0_5, .int t0_6, .int t0_7, .int t0_8, .int t0_9, .int t0_10, .int t0_11, .int t0_12, .int t0_13, .int t0_14, .int t0_15, .int t0_16, .ref (q 165), .int t0_17, .int t0_18, .int t0_19, .ref (q 166), .int t0_20, .int t0_21])) : Option (Nat × va_E))) (t1_0 : (Nat → Int32)) (hT1 : ws[159]? = (some (q 159, .inl (g 0, (9 : Int32).toNatClampNeg, .inl t1_0)) : Option (Nat × va_E))) (t2_0 : (Nat → Int32)) (hT2 : ws[160]? = (some (q 160, .inl (g 0, (9 : Int32).toNatClampNeg, .inl t2_0)) : Option (Nat × va_E))) (t3_0 : (Nat → Int64)) (hT3 : ws[161]? = (some (q 161, .inl (g 1, 9, .inr (.inl t3_0))) : Option (Nat × va_E))) : q_mI l y_VR_whole prog_16_method_10_code 4 (.int) 2 0 0 D g [.ref (q 157), .int x2, .long x3] ws (fun r u => q_I (msh g q) q u ∧ q_un ws u [157, 159, 160, 161] ∧ ∃ (u0_0 : Int32) (u0_2 : Int32) (u1_0 : (Nat → Int32)) (u2_0 : (Nat → Int32)) (u3_0 : (Nat → Int64)), u[157]? = (some (q 157, .inr (17, [.int u0_0, .ref (q 158), .int t0_1, .int u0_2, .ref (q 159), .ref (q 160), .ref (q 161), .ref (q 162), .ref (q 163), .int t0_3, .ref (q 164), .int t0_4, .int t0_5, .int t0_6, .int t0_7, .int t0_8, .int t0_9, .int t0_10, .int t0_11, .int t0_12, .int t0_13, .int t0_14, .int t0_15, .int t0_16, .ref (q 165), .int t0_17, .int t0_18, .int t0_19, .ref (q 166), .int t0_20, .int t0_21])) : Option (Nat × va_E)) ∧ u[159]? = (some (q 159, .inl (g 0, (9 : Int32).toNatClampNeg, .inl u1_0)) : Option (Nat × va_E)) ∧ u[160]? = (some (q 160, .inl (g 0, (9 : Int32).toNatClampNeg, .inl u2_0)) : Option (Nat × va_E)) ∧ u[161]? = (some (q 161, .inl (g 1, 9, .inr (.inl u3_0))) : Option (Nat × va_E)) ∧ (0 ≤ u0_0.toInt) ∧ (u0_0.toInt ≤ 1) ∧ (u0_2.toInt ≤ 9) ∧ (t0_2.toInt ≤ u0_2.toInt) ∧ (u0_2.toInt ≤ t0_2.toInt + 1) ∧ (u0_0.toInt ≤ r.toInt + 1) ∧ (r.toInt ≤ u0_2.toInt) ∧ (r, u0_0, u0_2, u1_0, u2_0, u3_0) = (F_VR_whole x2 x3 t0_0 t0_1 t0_2 t0_3 t0_4 t0_5 t0_6 t0_7 t0_8 t0_9 t0_10 t0_11 t0_12 t0_13 t0_14 t0_15 t0_16 t0_17 t0_18 t0_19 t0_20 t0_21 t1_0 t2_0 t3_0)) := by
  intro sz
  refine q_into (by decide) (Nat.le_of_ble_eq_true rfl) ?_
  intro p e s m below meth c ls hsz C0 V hl
  have hx := C0.1
  have hb := C0.2.1
  obtain ⟨btt0_1, hZ9⟩ := n_w157 hI hT0
  obtain ⟨btt0_2, hZ9⟩ := hZ9
  obtain ⟨btt0_3, hZ9⟩ := hZ9
  obtain ⟨btt0_10, btt0_19⟩ := hZ9
  replace btt0_1 : q_F (0 ≤ t0_1.toInt ∧ t0_1.toInt ≤ 256) := btt0_1
  replace btt0_2 : q_F (0 ≤ t0_2.toInt ∧ t0_2.toInt ≤ 9) := btt0_2
  replace btt0_3 : q_F (0 ≤ t0_3.toInt ∧ t0_3.toInt ≤ 4096) := btt0_3
  replace btt0_10 : q_F (0 ≤ t0_10.toInt ∧ t0_10.toInt ≤ 1) := btt0_10
  replace btt0_19 : q_F (0 ≤ t0_19.toInt ∧ t0_19.toInt ≤ 1) := btt0_19
  have hF : q_un ws ws [157, 159, 160, 161] := q_u0
  have hl : lv_has ls 4 [(0, .ref (q 157)), (1, .int x2), (2, .long x3)] := hl
  refine lv_iload_n hx hb d_16_10_0 rfl (lv_at hl 1 rfl) ?_
  refine lv_bipush (v := 8) hx hb d_16_10_1 (by decide) ?_
  refine q_join (X := Unit) (fun z H locs ls _ => q_Wd D g (va_A ws sz) s ws H locs ∧ lv_has ls 4 [(0, .ref (q 157)), (1, .int x2), (2, .long x3)] ∧ F_VR_whole_J31 x2 x3 t0_0 t0_1 t0_2 t0_3 t0_4 t0_5 t0_6 t0_7 t0_8 t0_9 t0_10 t0_11 t0_12 t0_13 t0_14 t0_15 t0_16 t0_17 t0_18 t0_19 t0_20 t0_21 t1_0 t2_0 t3_0 = (F_VR_whole x2 x3 t0_0 t0_1 t0_2 t0_3 t0_4 t0_5 t0_6 t0_7 t0_8 t0_9 t0_10 t0_11 t0_12 t0_13 t0_14 t0_15 t0_16 t0_17 t0_18 t0_19 t0_20 t0_21 t1_0 t2_0 t3_0)) (fun z => []) 31 0 0 ?_ ?_
  ·
    rintro _ H locs ls _ ⟨V, hl, hR42⟩
    replace hl : lv_has ls 4 [(0, .ref (q 157)), (1, .int x2), (2, .long x3)] := hl
    refine lv_aload_n hx hb d_16_10_31 rfl (lv_at hl 0 rfl) ?_
    refine lv_iconst (v := 3) hx hb d_16_10_32 (by decide) ?_
    refine lv_iload_n hx hb d_16_10_33 rfl (lv_at hl 1 rfl) ?_
    refine lv_lload_n hx hb d_16_10_34 rfl (lv_at hl 2 rfl) ?_
    refine lv_bipush (v := 64) hx hb d_16_10_35 (by decide) ?_
    refine lv_iload_n hx hb d_16_10_37 rfl (lv_at hl 1 rfl) ?_
    refine lv_isub hx hb d_16_10_38 ?_
    obtain ⟨a47, e48⟩ := q_nm (64 - x2 : Int32)
    refine q_ti (v := a47) e48 ?_
    refine lv_lshl hx hb d_16_10_39 rfl ?_
    obtain ⟨j49, e50⟩ := q_nm (x3 <<< (a47.toInt64 &&& 63) : Int64)
    refine q_tl (v := j49) e50 ?_
    refine lv_bipush (v := 64) hx hb d_16_10_40 (by decide) ?_
    refine lv_iload_n hx hb d_16_10_42 rfl (lv_at hl 1 rfl) ?_
    refine lv_isub hx hb d_16_10_43 ?_
    obtain ⟨a51, e52⟩ := q_nm (64 - x2 : Int32)
    refine q_ti (v := a51) e52 ?_
    refine lv_lshr hx hb d_16_10_44 rfl ?_
    obtain ⟨j53, e54⟩ := q_nm (j49 >>> (a51.toInt64 &&& 63) : Int64)
    refine q_tl (v := j53) e54 ?_
    refine q_goi V (q_runV (As := [.int 3, .int x2, .long j53]) (rest := []) (d := 1) (mc := 0) (ms := 0) (ci := 17) C0 V rfl LV_VR_53 (X_VR_enter l D g q ws  3 x2 j53 hI t0_0 t0_1 t0_2 t0_3 t0_4 t0_5 t0_6 t0_7 t0_8 t0_9 t0_10 t0_11 t0_12 t0_13 t0_14 t0_15 t0_16 t0_17 t0_18 t0_19 t0_20 t0_21 hT0 t1_0 hT1 t2_0 hT2 t3_0 hT3  _) rfl rfl hT0 rfl hl.1 rfl (Nat.le_of_ble_eq_true rfl) ⟨by decide, by decide⟩ ⟨Nat.le_of_ble_eq_true rfl, Nat.le_of_ble_eq_true rfl⟩ d_16_10_45) (fun a57 u55 H locs hp56 V => ?_)
    obtain ⟨hI, hZ9⟩ := hp56
    obtain ⟨hu76, hZ9⟩ := hZ9
    obtain ⟨y59, hZ9⟩ := hZ9
    obtain ⟨y60, hZ9⟩ := hZ9
    obtain ⟨f61, hZ9⟩ := hZ9
    obtain ⟨f63, hZ9⟩ := hZ9
    obtain ⟨f65, hZ9⟩ := hZ9
    obtain ⟨hO58, hZ9⟩ := hZ9
    obtain ⟨hA62, hZ9⟩ := hZ9
    obtain ⟨hA64, hZ9⟩ := hZ9
    obtain ⟨hA66, hZ9⟩ := hZ9
    obtain ⟨b67, hZ9⟩ := hZ9
    obtain ⟨b68, hZ9⟩ := hZ9
    obtain ⟨b69, hZ9⟩ := hZ9
    obtain ⟨b70, hZ9⟩ := hZ9
    obtain ⟨b71, hZ9⟩ := hZ9
    obtain ⟨b72, hZ9⟩ := hZ9
    obtain ⟨b73, hZ9⟩ := hZ9
    obtain ⟨-, hE75⟩ := hZ9
    replace hO58 : u55[157]? = (some (q 157, .inr (17, [.int y59, .ref (q 158), .int t0_1, .int y60, .ref (q 159), .ref (q 160), .ref (q 161), .ref (q 162), .ref (q 163), .int t0_3, .ref (q 164), .int t0_4, .int t0_5, .int t0_6, .int t0_7, .int t0_8, .int t0_9, .int t0_10, .int t0_11, .int t0_12, .int t0_13, .int t0_14, .int t0_15, .int t0_16, .ref (q 165), .int t0_17, .int t0_18, .int t0_19, .ref (q 166), .int t0_20, .int t0_21])) : Option (Nat × va_E)) := hO58
    replace hA62 : u55[159]? = (some (q 159, .inl (g 0, (9 : Int32).toNatClampNeg, .inl f61)) : Option (Nat × va_E)) := hA62
    replace hA64 : u55[160]? = (some (q 160, .inl (g 0, (9 : Int32).toNatClampNeg, .inl f63)) : Option (Nat × va_E)) := hA64
    replace hA66 : u55[161]? = (some (q 161, .inl (g 1, 9, .inr (.inl f65))) : Option (Nat × va_E)) := hA66
    obtain ⟨p77, e78⟩ : ∃ z, z = (F_VR_enter (3 : Int32) x2 j53 t0_0 t0_1 t0_2 t0_3 t0_4 t0_5 t0_6 t0_7 t0_8 t0_9 t0_10 t0_11 t0_12 t0_13 t0_14 t0_15 t0_16 t0_17 t0_18 t0_19 t0_20 t0_21 t1_0 t2_0 t3_0) := ⟨_, rfl⟩
    have e79 : a57 = p77.1 := congrArg (fun z => z.1) (hE75.trans e78.symm)
    have e80 : y59 = p77.2.1 := congrArg (fun z => z.2.1) (hE75.trans e78.symm)
    have e81 : y60 = p77.2.2.1 := congrArg (fun z => z.2.2.1) (hE75.trans e78.symm)
    have e82 : f61 = p77.2.2.2.1 := congrArg (fun z => z.2.2.2.1) (hE75.trans e78.symm)
    have e83 : f63 = p77.2.2.2.2.1 := congrArg (fun z => z.2.2.2.2.1) (hE75.trans e78.symm)
    have e84 : f65 = p77.2.2.2.2.2 := congrArg (fun z => z.2.2.2.2.2) (hE75.trans e78.symm)
    replace b67 : q_F (0 ≤ y59.toInt) := b67
    replace b68 : q_F (y59.toInt ≤ 0) := b68
    replace b69 : q_F (t0_2.toInt ≤ y60.toInt) := b69
    replace b70 : q_F (y60.toInt ≤ t0_2.toInt + 1) := b70
    replace b71 : q_F (y59.toInt ≤ a57.toInt + 1) := b71
    replace b72 : q_F (a57.toInt ≤ y60.toInt) := b72
    replace b73 : q_F (y60.toInt ≤ y59.toInt + 9) := b73
    replace hF := q_uc hF hu76 (by simp)
    have hR85 := (show F_VR_whole_c45 x2 x3 t0_0 t0_1 t0_2 t0_3 t0_4 t0_5 t0_6 t0_7 t0_8 t0_9 t0_10 t0_11 t0_12 t0_13 t0_14 t0_15 t0_16 t0_17 t0_18 t0_19 t0_20 t0_21 t1_0 t2_0 t3_0 p77 = (F_VR_whole x2 x3 t0_0 t0_1 t0_2 t0_3 t0_4 t0_5 t0_6 t0_7 t0_8 t0_9 t0_10 t0_11 t0_12 t0_13 t0_14 t0_15 t0_16 t0_17 t0_18 t0_19 t0_20 t0_21 t1_0 t2_0 t3_0) from Eq.trans (by rw [e78, ← e54, ← e52, ← e50, ← e48, F_VR_whole_J31.eq_1]) hR42)
    exact q_reti C0 V (⟨hI, hF, y59, y60, f61, f63, f65, hO58, hA62, hA64, hA66, (show 0 ≤ y59.toInt from (by first | with_reducible exact q_fe b67 | (have t1 : 0 ≤ y59.toInt := b67; omega))), (show y59.toInt ≤ 1 from (by first | with_reducible exact q_fe b68 | (have t1 : y59.toInt ≤ 0 := b68; omega))), (show y60.toInt ≤ 9 from (by have t1 : y59.toInt ≤ 0 := b68; have t2 : y60.toInt ≤ y59.toInt + 9 := b73; omega)), (show t0_2.toInt ≤ y60.toInt from (by first | with_reducible exact q_fe b69 | (have t1 : t0_2.toInt ≤ y60.toInt := b69; omega))), (show y60.toInt ≤ t0_2.toInt + 1 from (by first | with_reducible exact q_fe b70 | (have t1 : y60.toInt ≤ t0_2.toInt + 1 := b70; omega))), (show y59.toInt ≤ a57.toInt + 1 from (by first | with_reducible exact q_fe b71 | (have t1 : y59.toInt ≤ a57.toInt + 1 := b71; omega))), (show a57.toInt ≤ y60.toInt from (by first | with_reducible exact q_fe b72 | (have t1 : a57.toInt ≤ y60.toInt := b72; omega))), (show (a57, y59, y60, f61, f63, f65) = (F_VR_whole x2 x3 t0_0 t0_1 t0_2 t0_3 t0_4 t0_5 t0_6 t0_7 t0_8 t0_9 t0_10 t0_11 t0_12 t0_13 t0_14 t0_15 t0_16 t0_17 t0_18 t0_19 t0_20 t0_21 t1_0 t2_0 t3_0) from Eq.trans (by rw [e84, e83, e82, e81, e80, e79, F_VR_whole_c45.eq_1]) hR85)⟩) d_16_10_48
  ·
    intro J41
    refine lv_icmp_eq (tgt := 31) hx hb d_16_10_3 (by decide) (fun c90 => ?_) (fun c90 => ?_)
    ·
      exact J41 (()) _ _ _ ws ⟨V, q_lw hl (q_lw1 0 rfl (q_lw1 1 rfl (q_lw1 2 rfl q_lw0))), (show F_VR_whole_J31 x2 x3 t0_0 t0_1 t0_2 t0_3 t0_4 t0_5 t0_6 t0_7 t0_8 t0_9 t0_10 t0_11 t0_12 t0_13 t0_14 t0_15 t0_16 t0_17 t0_18 t0_19 t0_20 t0_21 t1_0 t2_0 t3_0 = (F_VR_whole x2 x3 t0_0 t0_1 t0_2 t0_3 t0_4 t0_5 t0_6 t0_7 t0_8 t0_9 t0_10 t0_11 t0_12 t0_13 t0_14 t0_15 t0_16 t0_17 t0_18 t0_19 t0_20 t0_21 t1_0 t2_0 t3_0) from (by rw [F_VR_whole.eq_1, if_pos c90]))⟩
    ·
      refine lv_iload_n hx hb d_16_10_6 rfl (lv_at hl 1 rfl) ?_
      refine lv_bipush (v := 16) hx hb d_16_10_7 (by decide) ?_
      refine lv_icmp_eq (tgt := 31) hx hb d_16_10_9 (by decide) (fun c93 => ?_) (fun c93 => ?_)
      ·
        exact J41 (()) _ _ _ ws ⟨V, q_lw hl (q_lw1 0 rfl (q_lw1 1 rfl (q_lw1 2 rfl q_lw0))), (show F_VR_whole_J31 x2 x3 t0_0 t0_1 t0_2 t0_3 t0_4 t0_5 t0_6 t0_7 t0_8 t0_9 t0_10 t0_11 t0_12 t0_13 t0_14 t0_15 t0_16 t0_17 t0_18 t0_19 t0_20 t0_21 t1_0 t2_0 t3_0 = (F_VR_whole x2 x3 t0_0 t0_1 t0_2 t0_3 t0_4 t0_5 t0_6 t0_7 t0_8 t0_9 t0_10 t0_11 t0_12 t0_13 t0_14 t0_15 t0_16 t0_17 t0_18 t0_19 t0_20 t0_21 t1_0 t2_0 t3_0) from (by rw [F_VR_whole.eq_1, if_neg c90, if_pos c93]))⟩
      ·
        refine lv_iload_n hx hb d_16_10_12 rfl (lv_at hl 1 rfl) ?_
        refine lv_bipush (v := 32) hx hb d_16_10_13 (by decide) ?_
        refine lv_icmp_eq (tgt := 31) hx hb d_16_10_15 (by decide) (fun c96 => ?_) (fun c96 => ?_)
        ·
          exact J41 (()) _ _ _ ws ⟨V, q_lw hl (q_lw1 0 rfl (q_lw1 1 rfl (q_lw1 2 rfl q_lw0))), (show F_VR_whole_J31 x2 x3 t0_0 t0_1 t0_2 t0_3 t0_4 t0_5 t0_6 t0_7 t0_8 t0_9 t0_10 t0_11 t0_12 t0_13 t0_14 t0_15 t0_16 t0_17 t0_18 t0_19 t0_20 t0_21 t1_0 t2_0 t3_0 = (F_VR_whole x2 x3 t0_0 t0_1 t0_2 t0_3 t0_4 t0_5 t0_6 t0_7 t0_8 t0_9 t0_10 t0_11 t0_12 t0_13 t0_14 t0_15 t0_16 t0_17 t0_18 t0_19 t0_20 t0_21 t1_0 t2_0 t3_0) from (by rw [F_VR_whole.eq_1, if_neg c90, if_neg c93, if_pos c96]))⟩
        ·
          refine lv_iload_n hx hb d_16_10_18 rfl (lv_at hl 1 rfl) ?_
          refine lv_bipush (v := 64) hx hb d_16_10_19 (by decide) ?_
          refine lv_icmp_eq (tgt := 31) hx hb d_16_10_21 (by decide) (fun c99 => ?_) (fun c99 => ?_)
          ·
            exact J41 (()) _ _ _ ws ⟨V, q_lw hl (q_lw1 0 rfl (q_lw1 1 rfl (q_lw1 2 rfl q_lw0))), (show F_VR_whole_J31 x2 x3 t0_0 t0_1 t0_2 t0_3 t0_4 t0_5 t0_6 t0_7 t0_8 t0_9 t0_10 t0_11 t0_12 t0_13 t0_14 t0_15 t0_16 t0_17 t0_18 t0_19 t0_20 t0_21 t1_0 t2_0 t3_0 = (F_VR_whole x2 x3 t0_0 t0_1 t0_2 t0_3 t0_4 t0_5 t0_6 t0_7 t0_8 t0_9 t0_10 t0_11 t0_12 t0_13 t0_14 t0_15 t0_16 t0_17 t0_18 t0_19 t0_20 t0_21 t1_0 t2_0 t3_0) from (by rw [F_VR_whole.eq_1, if_neg c90, if_neg c93, if_neg c96, if_pos c99]))⟩
          ·
            refine lv_aload_n hx hb d_16_10_24 rfl (lv_at hl 0 rfl) ?_
            refine lv_iconst (v := 1) hx hb d_16_10_25 (by decide) ?_
            refine q_put (ci := 17) (j := 0) (v := .int 1) (ty := .int) C0 V i_VR o_VR n_VR rfl rfl hT0 (by decide) w_2198 rfl rfl rfl rfl (Nat.le_of_ble_eq_true rfl) d_16_10_26 (fun H locs w102 hu103 hT0 V => ?_)
            replace hT0 : w102[157]? = (some (q 157, .inr (17, [.int 1, .ref (q 158), .int t0_1, .int t0_2, .ref (q 159), .ref (q 160), .ref (q 161), .ref (q 162), .ref (q 163), .int t0_3, .ref (q 164), .int t0_4, .int t0_5, .int t0_6, .int t0_7, .int t0_8, .int t0_9, .int t0_10, .int t0_11, .int t0_12, .int t0_13, .int t0_14, .int t0_15, .int t0_16, .ref (q 165), .int t0_17, .int t0_18, .int t0_19, .ref (q 166), .int t0_20, .int t0_21])) : Option (Nat × va_E)) := hT0
            replace hI := n_p157 hI hu103 hT0 (by first | with_reducible exact q_fe btt0_1 | exact ⟨(by have t1 : 0 ≤ t0_1.toInt ∧ t0_1.toInt ≤ 256 := btt0_1; omega), (by have t1 : 0 ≤ t0_1.toInt ∧ t0_1.toInt ≤ 256 := btt0_1; omega)⟩) (by first | with_reducible exact q_fe btt0_2 | exact ⟨(by have t1 : 0 ≤ t0_2.toInt ∧ t0_2.toInt ≤ 9 := btt0_2; omega), (by have t1 : 0 ≤ t0_2.toInt ∧ t0_2.toInt ≤ 9 := btt0_2; omega)⟩) (by first | with_reducible exact q_fe btt0_3 | exact ⟨(by have t1 : 0 ≤ t0_3.toInt ∧ t0_3.toInt ≤ 4096 := btt0_3; omega), (by have t1 : 0 ≤ t0_3.toInt ∧ t0_3.toInt ≤ 4096 := btt0_3; omega)⟩) (by first | with_reducible exact q_fe btt0_10 | exact ⟨(by have t1 : 0 ≤ t0_10.toInt ∧ t0_10.toInt ≤ 1 := btt0_10; omega), (by have t1 : 0 ≤ t0_10.toInt ∧ t0_10.toInt ≤ 1 := btt0_10; omega)⟩) (by first | with_reducible exact q_fe btt0_19 | exact ⟨(by have t1 : 0 ≤ t0_19.toInt ∧ t0_19.toInt ≤ 1 := btt0_19; omega), (by have t1 : 0 ≤ t0_19.toInt ∧ t0_19.toInt ≤ 1 := btt0_19; omega)⟩)
            replace hT1 := (hu103 _ (by decide)).trans hT1
            replace hT2 := (hu103 _ (by decide)).trans hT2
            replace hT3 := (hu103 _ (by decide)).trans hT3
            replace hF := q_us hF hu103 (by simp)
            refine lv_iconst (v := 0) hx hb d_16_10_29 (by decide) ?_
            exact q_reti C0 V (⟨hI, hF, 1, t0_2, t1_0, t2_0, t3_0, hT0, hT1, hT2, hT3, (show 0 ≤ (1 : Int32).toInt from (by have z27 : (0 : Int32).toInt = 0 := rfl; have z28 : (1 : Int32).toInt = 1 := rfl; omega)), (show (1 : Int32).toInt ≤ 1 from (by have z27 : (0 : Int32).toInt = 0 := rfl; have z28 : (1 : Int32).toInt = 1 := rfl; omega)), (show t0_2.toInt ≤ 9 from (by have z27 : (0 : Int32).toInt = 0 := rfl; have z28 : (1 : Int32).toInt = 1 := rfl; have t1 : 0 ≤ t0_2.toInt ∧ t0_2.toInt ≤ 9 := btt0_2; omega)), (show t0_2.toInt ≤ t0_2.toInt from (by have z27 : (0 : Int32).toInt = 0 := rfl; have z28 : (1 : Int32).toInt = 1 := rfl; omega)), (show t0_2.toInt ≤ t0_2.toInt + 1 from (by have z27 : (0 : Int32).toInt = 0 := rfl; have z28 : (1 : Int32).toInt = 1 := rfl; omega)), (show (1 : Int32).toInt ≤ (0 : Int32).toInt + 1 from (by have z27 : (0 : Int32).toInt = 0 := rfl; have z28 : (1 : Int32).toInt = 1 := rfl; omega)), (show (0 : Int32).toInt ≤ t0_2.toInt from (by have z27 : (0 : Int32).toInt = 0 := rfl; have z28 : (1 : Int32).toInt = 1 := rfl; have t1 : 0 ≤ t0_2.toInt ∧ t0_2.toInt ≤ 9 := btt0_2; omega)), (show ((0 : Int32), (1 : Int32), t0_2, t1_0, t2_0, t3_0) = (F_VR_whole x2 x3 t0_0 t0_1 t0_2 t0_3 t0_4 t0_5 t0_6 t0_7 t0_8 t0_9 t0_10 t0_11 t0_12 t0_13 t0_14 t0_15 t0_16 t0_17 t0_18 t0_19 t0_20 t0_21 t1_0 t2_0 t3_0) from (by rw [F_VR_whole.eq_1, if_neg c90, if_neg c93, if_neg c96, if_neg c99]))⟩) d_16_10_30
theorem d_16_12_0 : decode prog_16_method_12_code 0 = .ok (.iload_n 3, 1) := by decide +kernel
theorem d_16_12_1 : decode prog_16_method_12_code 1 = .ok (.ifCond .lt 9, 3) := by decide +kernel
theorem d_16_12_10 : decode prog_16_method_12_code 10 = .ok (.aload_n 0, 1) := by decide +kernel
theorem d_16_12_11 : decode prog_16_method_12_code 11 = .ok (.iconst 1, 1) := by decide +kernel
theorem d_16_12_12 : decode prog_16_method_12_code 12 = .ok (.putfield 42, 3) := by decide +kernel
theorem d_16_12_15 : decode prog_16_method_12_code 15 = .ok (.iconst 0, 1) := by decide +kernel
theorem d_16_12_16 : decode prog_16_method_12_code 16 = .ok (.ireturn, 1) := by decide +kernel
theorem d_16_12_4 : decode prog_16_method_12_code 4 = .ok (.iload_n 3, 1) := by decide +kernel
theorem d_16_12_5 : decode prog_16_method_12_code 5 = .ok (.bipush 40, 2) := by decide +kernel
theorem d_16_12_7 : decode prog_16_method_12_code 7 = .ok (.if_icmp .le 10, 3) := by decide +kernel
theorem d_16_12_17 : decode prog_16_method_12_code 17 = .ok (.aload_n 0, 1) := by decide +kernel
theorem d_16_12_18 : decode prog_16_method_12_code 18 = .ok (.iconst 5, 1) := by decide +kernel
theorem d_16_12_19 : decode prog_16_method_12_code 19 = .ok (.iload_n 3, 1) := by decide +kernel
theorem d_16_12_20 : decode prog_16_method_12_code 20 = .ok (.lload_n 1, 1) := by decide +kernel
theorem d_16_12_21 : decode prog_16_method_12_code 21 = .ok (.invokevirtual 53, 3) := by decide +kernel
theorem d_16_12_24 : decode prog_16_method_12_code 24 = .ok (.ireturn, 1) := by decide +kernel
def y_VR_decimal_JII : MethodName := ⟨"NumberHouseModel$DirectiveRows", "decimal", "(JI)I"⟩
def F_VR_decimal_JII_c21 (x2 : Int64) (x3 : Int32) (t0_0 : Int32) (t0_1 : Int32) (t0_2 : Int32) (t0_3 : Int32) (t0_4 : Int32) (t0_5 : Int32) (t0_6 : Int32) (t0_7 : Int32) (t0_8 : Int32) (t0_9 : Int32) (t0_10 : Int32) (t0_11 : Int32) (t0_12 : Int32) (t0_13 : Int32) (t0_14 : Int32) (t0_15 : Int32) (t0_16 : Int32) (t0_17 : Int32) (t0_18 : Int32) (t0_19 : Int32) (t0_20 : Int32) (t0_21 : Int32) (t1_0 : (Nat → Int32)) (t2_0 : (Nat → Int32)) (t3_0 : (Nat → Int64)) (p66 : (Int32 × Int32 × Int32 × (Nat → Int32) × (Nat → Int32) × (Nat → Int64))) : Int32 × Int32 × Int32 × (Nat → Int32) × (Nat → Int32) × (Nat → Int64) := ((p66.1 : Int32), (p66.2.1 : Int32), (p66.2.2.1 : Int32), (p66.2.2.2.1 : (Nat → Int32)), (p66.2.2.2.2.1 : (Nat → Int32)), (p66.2.2.2.2.2 : (Nat → Int64)))
def F_VR_decimal_JII (x2 : Int64) (x3 : Int32) (t0_0 : Int32) (t0_1 : Int32) (t0_2 : Int32) (t0_3 : Int32) (t0_4 : Int32) (t0_5 : Int32) (t0_6 : Int32) (t0_7 : Int32) (t0_8 : Int32) (t0_9 : Int32) (t0_10 : Int32) (t0_11 : Int32) (t0_12 : Int32) (t0_13 : Int32) (t0_14 : Int32) (t0_15 : Int32) (t0_16 : Int32) (t0_17 : Int32) (t0_18 : Int32) (t0_19 : Int32) (t0_20 : Int32) (t0_21 : Int32) (t1_0 : (Nat → Int32)) (t2_0 : (Nat → Int32)) (t3_0 : (Nat → Int64)) : Int32 × Int32 × Int32 × (Nat → Int32) × (Nat → Int32) × (Nat → Int64) := if x3 < (0 : Int32) then (((0 : Int32), (1 : Int32), t0_2, t1_0, t2_0, t3_0)) else (if x3 ≤ (40 : Int32) then (F_VR_decimal_JII_c21 x2 x3 t0_0 t0_1 t0_2 t0_3 t0_4 t0_5 t0_6 t0_7 t0_8 t0_9 t0_10 t0_11 t0_12 t0_13 t0_14 t0_15 t0_16 t0_17 t0_18 t0_19 t0_20 t0_21 t1_0 t2_0 t3_0 ((F_VR_enter (5 : Int32) x3 x2 t0_0 t0_1 t0_2 t0_3 t0_4 t0_5 t0_6 t0_7 t0_8 t0_9 t0_10 t0_11 t0_12 t0_13 t0_14 t0_15 t0_16 t0_17 t0_18 t0_19 t0_20 t0_21 t1_0 t2_0 t3_0) : (Int32 × Int32 × Int32 × (Nat → Int32) × (Nat → Int32) × (Nat → Int64)))) else (((0 : Int32), (1 : Int32), t0_2, t1_0, t2_0, t3_0)))
set_option maxRecDepth 100000 in
set_option maxHeartbeats 4000000 in
theorem X_VR_decimal_JII (l : Launch) (D : va_G) (g : Nat → ClassId) (q : Nat → Nat) (ws : va_W) (x2 : Int64) (x3 : Int32) (hI : q_I (msh g q) q ws) (t0_0 : Int32) (t0_1 : Int32) (t0_2 : Int32) (t0_3 : Int32) (t0_4 : Int32) (t0_5 : Int32) (t0_6 : Int32) (t0_7 : Int32) (t0_8 : Int32) (t0_9 : Int32) (t0_10 : Int32) (t0_11 : Int32) (t0_12 : Int32) (t0_13 : Int32) (t0_14 : Int32) (t0_15 : Int32) (t0_16 : Int32) (t0_17 : Int32) (t0_18 : Int32) (t0_19 : Int32) (t0_20 : Int32) (t0_21 : Int32) (hT0 : ws[157]? = (some (q 157, .inr (17, [.int t0_0, .ref (q 158), .int t0_1, .int t0_2, .ref (q 159), .ref (q 160), .ref (q 161), .ref (q 162), .ref (q 163), .int t0_3, .ref (q 164), .int t0_4, .int t0_5, .int t0_6, .int t0_7, .int t0_8, .int t0_9, .int t0_10, .int t0_11, .int t0_12, .int t0_13, .int t0_14, .int t0_15, .int t0_16, .ref (q 165), .int t0_17, .int t0_18, .int t0_19, .ref (q 166), .int t0_20, .int t0_21])) : Option (Nat × va_E))) (t1_0 : (Nat → Int32)) (hT1 : ws[159]? = (some (q 159, .inl (g 0, (9 : Int32).toNatClampNeg, .inl t1_0)) : Option (Nat × va_E))) (t2_0 : (Nat → Int32)) (hT2 : ws[160]? = (some (q 160, .inl (g 0, (9 : Int32).toNatClampNeg, .inl t2_0)) : Option (Nat × va_E))) (t3_0 : (Nat → Int64)) (hT3 : ws[161]? = (some (q 161, .inl (g 1, 9, .inr (.inl t3_0))) : Option (Nat × va_E))) : q_mI l y_VR_decimal_JII prog_16_method_12_code 4 (.int) 2 0 0 D g [.ref (q 157), .long x2, .int x3] ws (fun r u => q_I (msh g q) q u ∧ q_un ws u [157, 159, 160, 161] ∧ ∃ (u0_0 : Int32) (u0_2 : Int32) (u1_0 : (Nat → Int32)) (u2_0 : (Nat → Int32)) (u3_0 : (Nat → Int64)), u[157]? = (some (q 157, .inr (17, [.int u0_0, .ref (q 158), .int t0_1, .int u0_2, .ref (q 159), .ref (q 160), .ref (q 161), .ref (q 162), .ref (q 163), .int t0_3, .ref (q 164), .int t0_4, .int t0_5, .int t0_6, .int t0_7, .int t0_8, .int t0_9, .int t0_10, .int t0_11, .int t0_12, .int t0_13, .int t0_14, .int t0_15, .int t0_16, .ref (q 165), .int t0_17, .int t0_18, .int t0_19, .ref (q 166), .int t0_20, .int t0_21])) : Option (Nat × va_E)) ∧ u[159]? = (some (q 159, .inl (g 0, (9 : Int32).toNatClampNeg, .inl u1_0)) : Option (Nat × va_E)) ∧ u[160]? = (some (q 160, .inl (g 0, (9 : Int32).toNatClampNeg, .inl u2_0)) : Option (Nat × va_E)) ∧ u[161]? = (some (q 161, .inl (g 1, 9, .inr (.inl u3_0))) : Option (Nat × va_E)) ∧ (0 ≤ u0_0.toInt) ∧ (u0_0.toInt ≤ 1) ∧ (u0_2.toInt ≤ 9) ∧ (t0_2.toInt ≤ u0_2.toInt) ∧ (u0_2.toInt ≤ t0_2.toInt + 1) ∧ (u0_0.toInt ≤ r.toInt + 1) ∧ (r.toInt ≤ u0_2.toInt) ∧ (r, u0_0, u0_2, u1_0, u2_0, u3_0) = (F_VR_decimal_JII x2 x3 t0_0 t0_1 t0_2 t0_3 t0_4 t0_5 t0_6 t0_7 t0_8 t0_9 t0_10 t0_11 t0_12 t0_13 t0_14 t0_15 t0_16 t0_17 t0_18 t0_19 t0_20 t0_21 t1_0 t2_0 t3_0)) := by
  intro sz
  refine q_into (by decide) (Nat.le_of_ble_eq_true rfl) ?_
  intro p e s m below meth c ls hsz C0 V hl
  have hx := C0.1
  have hb := C0.2.1
  obtain ⟨btt0_1, hZ9⟩ := n_w157 hI hT0
  obtain ⟨btt0_2, hZ9⟩ := hZ9
  obtain ⟨btt0_3, hZ9⟩ := hZ9
  obtain ⟨btt0_10, btt0_19⟩ := hZ9
  replace btt0_1 : q_F (0 ≤ t0_1.toInt ∧ t0_1.toInt ≤ 256) := btt0_1
  replace btt0_2 : q_F (0 ≤ t0_2.toInt ∧ t0_2.toInt ≤ 9) := btt0_2
  replace btt0_3 : q_F (0 ≤ t0_3.toInt ∧ t0_3.toInt ≤ 4096) := btt0_3
  replace btt0_10 : q_F (0 ≤ t0_10.toInt ∧ t0_10.toInt ≤ 1) := btt0_10
  replace btt0_19 : q_F (0 ≤ t0_19.toInt ∧ t0_19.toInt ≤ 1) := btt0_19
  have hF : q_un ws ws [157, 159, 160, 161] := q_u0
  have hl : lv_has ls 4 [(0, .ref (q 157)), (1, .long x2), (3, .int x3)] := hl
  refine lv_iload_n hx hb d_16_12_0 rfl (lv_at hl 2 rfl) ?_
  refine lv_if_lt (tgt := 10) hx hb d_16_12_1 (by decide) (fun c37 => ?_) (fun c37 => ?_)
  ·
    refine lv_aload_n hx hb d_16_12_10 rfl (lv_at hl 0 rfl) ?_
    refine lv_iconst (v := 1) hx hb d_16_12_11 (by decide) ?_
    refine q_put (ci := 17) (j := 0) (v := .int 1) (ty := .int) C0 V i_VR o_VR n_VR rfl rfl hT0 (by decide) w_2198 rfl rfl rfl rfl (Nat.le_of_ble_eq_true rfl) d_16_12_12 (fun H locs w39 hu40 hT0 V => ?_)
    replace hT0 : w39[157]? = (some (q 157, .inr (17, [.int 1, .ref (q 158), .int t0_1, .int t0_2, .ref (q 159), .ref (q 160), .ref (q 161), .ref (q 162), .ref (q 163), .int t0_3, .ref (q 164), .int t0_4, .int t0_5, .int t0_6, .int t0_7, .int t0_8, .int t0_9, .int t0_10, .int t0_11, .int t0_12, .int t0_13, .int t0_14, .int t0_15, .int t0_16, .ref (q 165), .int t0_17, .int t0_18, .int t0_19, .ref (q 166), .int t0_20, .int t0_21])) : Option (Nat × va_E)) := hT0
    replace hI := n_p157 hI hu40 hT0 (by first | with_reducible exact q_fe btt0_1 | exact ⟨(by have t1 : 0 ≤ t0_1.toInt ∧ t0_1.toInt ≤ 256 := btt0_1; omega), (by have t1 : 0 ≤ t0_1.toInt ∧ t0_1.toInt ≤ 256 := btt0_1; omega)⟩) (by first | with_reducible exact q_fe btt0_2 | exact ⟨(by have t1 : 0 ≤ t0_2.toInt ∧ t0_2.toInt ≤ 9 := btt0_2; omega), (by have t1 : 0 ≤ t0_2.toInt ∧ t0_2.toInt ≤ 9 := btt0_2; omega)⟩) (by first | with_reducible exact q_fe btt0_3 | exact ⟨(by have t1 : 0 ≤ t0_3.toInt ∧ t0_3.toInt ≤ 4096 := btt0_3; omega), (by have t1 : 0 ≤ t0_3.toInt ∧ t0_3.toInt ≤ 4096 := btt0_3; omega)⟩) (by first | with_reducible exact q_fe btt0_10 | exact ⟨(by have t1 : 0 ≤ t0_10.toInt ∧ t0_10.toInt ≤ 1 := btt0_10; omega), (by have t1 : 0 ≤ t0_10.toInt ∧ t0_10.toInt ≤ 1 := btt0_10; omega)⟩) (by first | with_reducible exact q_fe btt0_19 | exact ⟨(by have t1 : 0 ≤ t0_19.toInt ∧ t0_19.toInt ≤ 1 := btt0_19; omega), (by have t1 : 0 ≤ t0_19.toInt ∧ t0_19.toInt ≤ 1 := btt0_19; omega)⟩)
    replace hT1 := (hu40 _ (by decide)).trans hT1
    replace hT2 := (hu40 _ (by decide)).trans hT2
    replace hT3 := (hu40 _ (by decide)).trans hT3
    replace hF := q_us hF hu40 (by simp)
    refine lv_iconst (v := 0) hx hb d_16_12_15 (by decide) ?_
    exact q_reti C0 V (⟨hI, hF, 1, t0_2, t1_0, t2_0, t3_0, hT0, hT1, hT2, hT3, (show 0 ≤ (1 : Int32).toInt from (by have z27 : (0 : Int32).toInt = 0 := rfl; have z28 : (1 : Int32).toInt = 1 := rfl; omega)), (show (1 : Int32).toInt ≤ 1 from (by have z27 : (0 : Int32).toInt = 0 := rfl; have z28 : (1 : Int32).toInt = 1 := rfl; omega)), (show t0_2.toInt ≤ 9 from (by have z27 : (0 : Int32).toInt = 0 := rfl; have z28 : (1 : Int32).toInt = 1 := rfl; have t1 : 0 ≤ t0_2.toInt ∧ t0_2.toInt ≤ 9 := btt0_2; omega)), (show t0_2.toInt ≤ t0_2.toInt from (by have z27 : (0 : Int32).toInt = 0 := rfl; have z28 : (1 : Int32).toInt = 1 := rfl; omega)), (show t0_2.toInt ≤ t0_2.toInt + 1 from (by have z27 : (0 : Int32).toInt = 0 := rfl; have z28 : (1 : Int32).toInt = 1 := rfl; omega)), (show (1 : Int32).toInt ≤ (0 : Int32).toInt + 1 from (by have z27 : (0 : Int32).toInt = 0 := rfl; have z28 : (1 : Int32).toInt = 1 := rfl; omega)), (show (0 : Int32).toInt ≤ t0_2.toInt from (by have z27 : (0 : Int32).toInt = 0 := rfl; have z28 : (1 : Int32).toInt = 1 := rfl; have t1 : 0 ≤ t0_2.toInt ∧ t0_2.toInt ≤ 9 := btt0_2; omega)), (show ((0 : Int32), (1 : Int32), t0_2, t1_0, t2_0, t3_0) = (F_VR_decimal_JII x2 x3 t0_0 t0_1 t0_2 t0_3 t0_4 t0_5 t0_6 t0_7 t0_8 t0_9 t0_10 t0_11 t0_12 t0_13 t0_14 t0_15 t0_16 t0_17 t0_18 t0_19 t0_20 t0_21 t1_0 t2_0 t3_0) from (by rw [F_VR_decimal_JII.eq_1, if_pos c37]))⟩) d_16_12_16
  ·
    refine lv_iload_n hx hb d_16_12_4 rfl (lv_at hl 2 rfl) ?_
    refine lv_bipush (v := 40) hx hb d_16_12_5 (by decide) ?_
    refine lv_icmp_le (tgt := 17) hx hb d_16_12_7 (by decide) (fun c42 => ?_) (fun c42 => ?_)
    ·
      refine lv_aload_n hx hb d_16_12_17 rfl (lv_at hl 0 rfl) ?_
      refine lv_iconst (v := 5) hx hb d_16_12_18 (by decide) ?_
      refine lv_iload_n hx hb d_16_12_19 rfl (lv_at hl 2 rfl) ?_
      refine lv_lload_n hx hb d_16_12_20 rfl (lv_at hl 1 rfl) ?_
      refine q_goi V (q_runV (As := [.int 5, .int x3, .long x2]) (rest := []) (d := 1) (mc := 0) (ms := 0) (ci := 17) C0 V rfl LV_VR_53 (X_VR_enter l D g q ws  5 x3 x2 hI t0_0 t0_1 t0_2 t0_3 t0_4 t0_5 t0_6 t0_7 t0_8 t0_9 t0_10 t0_11 t0_12 t0_13 t0_14 t0_15 t0_16 t0_17 t0_18 t0_19 t0_20 t0_21 hT0 t1_0 hT1 t2_0 hT2 t3_0 hT3  _) rfl rfl hT0 rfl hl.1 rfl (Nat.le_of_ble_eq_true rfl) ⟨by decide, by decide⟩ ⟨Nat.le_of_ble_eq_true rfl, Nat.le_of_ble_eq_true rfl⟩ d_16_12_21) (fun a46 u44 H locs hp45 V => ?_)
      obtain ⟨hI, hZ9⟩ := hp45
      obtain ⟨hu65, hZ9⟩ := hZ9
      obtain ⟨y48, hZ9⟩ := hZ9
      obtain ⟨y49, hZ9⟩ := hZ9
      obtain ⟨f50, hZ9⟩ := hZ9
      obtain ⟨f52, hZ9⟩ := hZ9
      obtain ⟨f54, hZ9⟩ := hZ9
      obtain ⟨hO47, hZ9⟩ := hZ9
      obtain ⟨hA51, hZ9⟩ := hZ9
      obtain ⟨hA53, hZ9⟩ := hZ9
      obtain ⟨hA55, hZ9⟩ := hZ9
      obtain ⟨b56, hZ9⟩ := hZ9
      obtain ⟨b57, hZ9⟩ := hZ9
      obtain ⟨b58, hZ9⟩ := hZ9
      obtain ⟨b59, hZ9⟩ := hZ9
      obtain ⟨b60, hZ9⟩ := hZ9
      obtain ⟨b61, hZ9⟩ := hZ9
      obtain ⟨b62, hZ9⟩ := hZ9
      obtain ⟨-, hE64⟩ := hZ9
      replace hO47 : u44[157]? = (some (q 157, .inr (17, [.int y48, .ref (q 158), .int t0_1, .int y49, .ref (q 159), .ref (q 160), .ref (q 161), .ref (q 162), .ref (q 163), .int t0_3, .ref (q 164), .int t0_4, .int t0_5, .int t0_6, .int t0_7, .int t0_8, .int t0_9, .int t0_10, .int t0_11, .int t0_12, .int t0_13, .int t0_14, .int t0_15, .int t0_16, .ref (q 165), .int t0_17, .int t0_18, .int t0_19, .ref (q 166), .int t0_20, .int t0_21])) : Option (Nat × va_E)) := hO47
      replace hA51 : u44[159]? = (some (q 159, .inl (g 0, (9 : Int32).toNatClampNeg, .inl f50)) : Option (Nat × va_E)) := hA51
      replace hA53 : u44[160]? = (some (q 160, .inl (g 0, (9 : Int32).toNatClampNeg, .inl f52)) : Option (Nat × va_E)) := hA53
      replace hA55 : u44[161]? = (some (q 161, .inl (g 1, 9, .inr (.inl f54))) : Option (Nat × va_E)) := hA55
      obtain ⟨p66, e67⟩ : ∃ z, z = (F_VR_enter (5 : Int32) x3 x2 t0_0 t0_1 t0_2 t0_3 t0_4 t0_5 t0_6 t0_7 t0_8 t0_9 t0_10 t0_11 t0_12 t0_13 t0_14 t0_15 t0_16 t0_17 t0_18 t0_19 t0_20 t0_21 t1_0 t2_0 t3_0) := ⟨_, rfl⟩
      have e68 : a46 = p66.1 := congrArg (fun z => z.1) (hE64.trans e67.symm)
      have e69 : y48 = p66.2.1 := congrArg (fun z => z.2.1) (hE64.trans e67.symm)
      have e70 : y49 = p66.2.2.1 := congrArg (fun z => z.2.2.1) (hE64.trans e67.symm)
      have e71 : f50 = p66.2.2.2.1 := congrArg (fun z => z.2.2.2.1) (hE64.trans e67.symm)
      have e72 : f52 = p66.2.2.2.2.1 := congrArg (fun z => z.2.2.2.2.1) (hE64.trans e67.symm)
      have e73 : f54 = p66.2.2.2.2.2 := congrArg (fun z => z.2.2.2.2.2) (hE64.trans e67.symm)
      replace b56 : q_F (0 ≤ y48.toInt) := b56
      replace b57 : q_F (y48.toInt ≤ 0) := b57
      replace b58 : q_F (t0_2.toInt ≤ y49.toInt) := b58
      replace b59 : q_F (y49.toInt ≤ t0_2.toInt + 1) := b59
      replace b60 : q_F (y48.toInt ≤ a46.toInt + 1) := b60
      replace b61 : q_F (a46.toInt ≤ y49.toInt) := b61
      replace b62 : q_F (y49.toInt ≤ y48.toInt + 9) := b62
      replace hF := q_uc hF hu65 (by simp)
      have hR74 := (show F_VR_decimal_JII_c21 x2 x3 t0_0 t0_1 t0_2 t0_3 t0_4 t0_5 t0_6 t0_7 t0_8 t0_9 t0_10 t0_11 t0_12 t0_13 t0_14 t0_15 t0_16 t0_17 t0_18 t0_19 t0_20 t0_21 t1_0 t2_0 t3_0 p66 = (F_VR_decimal_JII x2 x3 t0_0 t0_1 t0_2 t0_3 t0_4 t0_5 t0_6 t0_7 t0_8 t0_9 t0_10 t0_11 t0_12 t0_13 t0_14 t0_15 t0_16 t0_17 t0_18 t0_19 t0_20 t0_21 t1_0 t2_0 t3_0) from (by rw [e67, F_VR_decimal_JII.eq_1, if_neg c37, if_pos c42]))
      exact q_reti C0 V (⟨hI, hF, y48, y49, f50, f52, f54, hO47, hA51, hA53, hA55, (show 0 ≤ y48.toInt from (by first | with_reducible exact q_fe b56 | (have t1 : 0 ≤ y48.toInt := b56; omega))), (show y48.toInt ≤ 1 from (by first | with_reducible exact q_fe b57 | (have t1 : y48.toInt ≤ 0 := b57; omega))), (show y49.toInt ≤ 9 from (by have t1 : y48.toInt ≤ 0 := b57; have t2 : y49.toInt ≤ y48.toInt + 9 := b62; omega)), (show t0_2.toInt ≤ y49.toInt from (by first | with_reducible exact q_fe b58 | (have t1 : t0_2.toInt ≤ y49.toInt := b58; omega))), (show y49.toInt ≤ t0_2.toInt + 1 from (by first | with_reducible exact q_fe b59 | (have t1 : y49.toInt ≤ t0_2.toInt + 1 := b59; omega))), (show y48.toInt ≤ a46.toInt + 1 from (by first | with_reducible exact q_fe b60 | (have t1 : y48.toInt ≤ a46.toInt + 1 := b60; omega))), (show a46.toInt ≤ y49.toInt from (by first | with_reducible exact q_fe b61 | (have t1 : a46.toInt ≤ y49.toInt := b61; omega))), (show (a46, y48, y49, f50, f52, f54) = (F_VR_decimal_JII x2 x3 t0_0 t0_1 t0_2 t0_3 t0_4 t0_5 t0_6 t0_7 t0_8 t0_9 t0_10 t0_11 t0_12 t0_13 t0_14 t0_15 t0_16 t0_17 t0_18 t0_19 t0_20 t0_21 t1_0 t2_0 t3_0) from Eq.trans (by rw [e73, e72, e71, e70, e69, e68, F_VR_decimal_JII_c21.eq_1]) hR74)⟩) d_16_12_24
    ·
      refine lv_aload_n hx hb d_16_12_10 rfl (lv_at hl 0 rfl) ?_
      refine lv_iconst (v := 1) hx hb d_16_12_11 (by decide) ?_
      refine q_put (ci := 17) (j := 0) (v := .int 1) (ty := .int) C0 V i_VR o_VR n_VR rfl rfl hT0 (by decide) w_2198 rfl rfl rfl rfl (Nat.le_of_ble_eq_true rfl) d_16_12_12 (fun H locs w80 hu81 hT0 V => ?_)
      replace hT0 : w80[157]? = (some (q 157, .inr (17, [.int 1, .ref (q 158), .int t0_1, .int t0_2, .ref (q 159), .ref (q 160), .ref (q 161), .ref (q 162), .ref (q 163), .int t0_3, .ref (q 164), .int t0_4, .int t0_5, .int t0_6, .int t0_7, .int t0_8, .int t0_9, .int t0_10, .int t0_11, .int t0_12, .int t0_13, .int t0_14, .int t0_15, .int t0_16, .ref (q 165), .int t0_17, .int t0_18, .int t0_19, .ref (q 166), .int t0_20, .int t0_21])) : Option (Nat × va_E)) := hT0
      replace hI := n_p157 hI hu81 hT0 (by first | with_reducible exact q_fe btt0_1 | exact ⟨(by have t1 : 0 ≤ t0_1.toInt ∧ t0_1.toInt ≤ 256 := btt0_1; omega), (by have t1 : 0 ≤ t0_1.toInt ∧ t0_1.toInt ≤ 256 := btt0_1; omega)⟩) (by first | with_reducible exact q_fe btt0_2 | exact ⟨(by have t1 : 0 ≤ t0_2.toInt ∧ t0_2.toInt ≤ 9 := btt0_2; omega), (by have t1 : 0 ≤ t0_2.toInt ∧ t0_2.toInt ≤ 9 := btt0_2; omega)⟩) (by first | with_reducible exact q_fe btt0_3 | exact ⟨(by have t1 : 0 ≤ t0_3.toInt ∧ t0_3.toInt ≤ 4096 := btt0_3; omega), (by have t1 : 0 ≤ t0_3.toInt ∧ t0_3.toInt ≤ 4096 := btt0_3; omega)⟩) (by first | with_reducible exact q_fe btt0_10 | exact ⟨(by have t1 : 0 ≤ t0_10.toInt ∧ t0_10.toInt ≤ 1 := btt0_10; omega), (by have t1 : 0 ≤ t0_10.toInt ∧ t0_10.toInt ≤ 1 := btt0_10; omega)⟩) (by first | with_reducible exact q_fe btt0_19 | exact ⟨(by have t1 : 0 ≤ t0_19.toInt ∧ t0_19.toInt ≤ 1 := btt0_19; omega), (by have t1 : 0 ≤ t0_19.toInt ∧ t0_19.toInt ≤ 1 := btt0_19; omega)⟩)
      replace hT1 := (hu81 _ (by decide)).trans hT1
      replace hT2 := (hu81 _ (by decide)).trans hT2
      replace hT3 := (hu81 _ (by decide)).trans hT3
      replace hF := q_us hF hu81 (by simp)
      refine lv_iconst (v := 0) hx hb d_16_12_15 (by decide) ?_
      exact q_reti C0 V (⟨hI, hF, 1, t0_2, t1_0, t2_0, t3_0, hT0, hT1, hT2, hT3, (show 0 ≤ (1 : Int32).toInt from (by have z27 : (0 : Int32).toInt = 0 := rfl; have z28 : (1 : Int32).toInt = 1 := rfl; omega)), (show (1 : Int32).toInt ≤ 1 from (by have z27 : (0 : Int32).toInt = 0 := rfl; have z28 : (1 : Int32).toInt = 1 := rfl; omega)), (show t0_2.toInt ≤ 9 from (by have z27 : (0 : Int32).toInt = 0 := rfl; have z28 : (1 : Int32).toInt = 1 := rfl; have t1 : 0 ≤ t0_2.toInt ∧ t0_2.toInt ≤ 9 := btt0_2; omega)), (show t0_2.toInt ≤ t0_2.toInt from (by have z27 : (0 : Int32).toInt = 0 := rfl; have z28 : (1 : Int32).toInt = 1 := rfl; omega)), (show t0_2.toInt ≤ t0_2.toInt + 1 from (by have z27 : (0 : Int32).toInt = 0 := rfl; have z28 : (1 : Int32).toInt = 1 := rfl; omega)), (show (1 : Int32).toInt ≤ (0 : Int32).toInt + 1 from (by have z27 : (0 : Int32).toInt = 0 := rfl; have z28 : (1 : Int32).toInt = 1 := rfl; omega)), (show (0 : Int32).toInt ≤ t0_2.toInt from (by have z27 : (0 : Int32).toInt = 0 := rfl; have z28 : (1 : Int32).toInt = 1 := rfl; have t1 : 0 ≤ t0_2.toInt ∧ t0_2.toInt ≤ 9 := btt0_2; omega)), (show ((0 : Int32), (1 : Int32), t0_2, t1_0, t2_0, t3_0) = (F_VR_decimal_JII x2 x3 t0_0 t0_1 t0_2 t0_3 t0_4 t0_5 t0_6 t0_7 t0_8 t0_9 t0_10 t0_11 t0_12 t0_13 t0_14 t0_15 t0_16 t0_17 t0_18 t0_19 t0_20 t0_21 t1_0 t2_0 t3_0) from (by rw [F_VR_decimal_JII.eq_1, if_neg c37, if_neg c42]))⟩) d_16_12_16
theorem d_16_7_0 : decode prog_16_method_7_code 0 = .ok (.aload_n 0, 1) := by decide +kernel
theorem d_16_7_1 : decode prog_16_method_7_code 1 = .ok (.iconst 0, 1) := by decide +kernel
theorem d_16_7_2 : decode prog_16_method_7_code 2 = .ok (.iconst 0, 1) := by decide +kernel
theorem d_16_7_3 : decode prog_16_method_7_code 3 = .ok (.lconst 0, 1) := by decide +kernel
theorem d_16_7_4 : decode prog_16_method_7_code 4 = .ok (.invokevirtual 53, 3) := by decide +kernel
theorem d_16_7_7 : decode prog_16_method_7_code 7 = .ok (.ireturn, 1) := by decide +kernel
def y_VR_nothing : MethodName := ⟨"NumberHouseModel$DirectiveRows", "nothing", "()I"⟩
def F_VR_nothing_c4 (t0_0 : Int32) (t0_1 : Int32) (t0_2 : Int32) (t0_3 : Int32) (t0_4 : Int32) (t0_5 : Int32) (t0_6 : Int32) (t0_7 : Int32) (t0_8 : Int32) (t0_9 : Int32) (t0_10 : Int32) (t0_11 : Int32) (t0_12 : Int32) (t0_13 : Int32) (t0_14 : Int32) (t0_15 : Int32) (t0_16 : Int32) (t0_17 : Int32) (t0_18 : Int32) (t0_19 : Int32) (t0_20 : Int32) (t0_21 : Int32) (t1_0 : (Nat → Int32)) (t2_0 : (Nat → Int32)) (t3_0 : (Nat → Int64)) (p59 : (Int32 × Int32 × Int32 × (Nat → Int32) × (Nat → Int32) × (Nat → Int64))) : Int32 × Int32 × Int32 × (Nat → Int32) × (Nat → Int32) × (Nat → Int64) := ((p59.1 : Int32), (p59.2.1 : Int32), (p59.2.2.1 : Int32), (p59.2.2.2.1 : (Nat → Int32)), (p59.2.2.2.2.1 : (Nat → Int32)), (p59.2.2.2.2.2 : (Nat → Int64)))
def F_VR_nothing (t0_0 : Int32) (t0_1 : Int32) (t0_2 : Int32) (t0_3 : Int32) (t0_4 : Int32) (t0_5 : Int32) (t0_6 : Int32) (t0_7 : Int32) (t0_8 : Int32) (t0_9 : Int32) (t0_10 : Int32) (t0_11 : Int32) (t0_12 : Int32) (t0_13 : Int32) (t0_14 : Int32) (t0_15 : Int32) (t0_16 : Int32) (t0_17 : Int32) (t0_18 : Int32) (t0_19 : Int32) (t0_20 : Int32) (t0_21 : Int32) (t1_0 : (Nat → Int32)) (t2_0 : (Nat → Int32)) (t3_0 : (Nat → Int64)) : Int32 × Int32 × Int32 × (Nat → Int32) × (Nat → Int32) × (Nat → Int64) := F_VR_nothing_c4 t0_0 t0_1 t0_2 t0_3 t0_4 t0_5 t0_6 t0_7 t0_8 t0_9 t0_10 t0_11 t0_12 t0_13 t0_14 t0_15 t0_16 t0_17 t0_18 t0_19 t0_20 t0_21 t1_0 t2_0 t3_0 ((F_VR_enter (0 : Int32) (0 : Int32) (0 : Int64) t0_0 t0_1 t0_2 t0_3 t0_4 t0_5 t0_6 t0_7 t0_8 t0_9 t0_10 t0_11 t0_12 t0_13 t0_14 t0_15 t0_16 t0_17 t0_18 t0_19 t0_20 t0_21 t1_0 t2_0 t3_0) : (Int32 × Int32 × Int32 × (Nat → Int32) × (Nat → Int32) × (Nat → Int64)))
set_option maxRecDepth 100000 in
set_option maxHeartbeats 4000000 in
theorem X_VR_nothing (l : Launch) (D : va_G) (g : Nat → ClassId) (q : Nat → Nat) (ws : va_W) (hI : q_I (msh g q) q ws) (t0_0 : Int32) (t0_1 : Int32) (t0_2 : Int32) (t0_3 : Int32) (t0_4 : Int32) (t0_5 : Int32) (t0_6 : Int32) (t0_7 : Int32) (t0_8 : Int32) (t0_9 : Int32) (t0_10 : Int32) (t0_11 : Int32) (t0_12 : Int32) (t0_13 : Int32) (t0_14 : Int32) (t0_15 : Int32) (t0_16 : Int32) (t0_17 : Int32) (t0_18 : Int32) (t0_19 : Int32) (t0_20 : Int32) (t0_21 : Int32) (hT0 : ws[157]? = (some (q 157, .inr (17, [.int t0_0, .ref (q 158), .int t0_1, .int t0_2, .ref (q 159), .ref (q 160), .ref (q 161), .ref (q 162), .ref (q 163), .int t0_3, .ref (q 164), .int t0_4, .int t0_5, .int t0_6, .int t0_7, .int t0_8, .int t0_9, .int t0_10, .int t0_11, .int t0_12, .int t0_13, .int t0_14, .int t0_15, .int t0_16, .ref (q 165), .int t0_17, .int t0_18, .int t0_19, .ref (q 166), .int t0_20, .int t0_21])) : Option (Nat × va_E))) (t1_0 : (Nat → Int32)) (hT1 : ws[159]? = (some (q 159, .inl (g 0, (9 : Int32).toNatClampNeg, .inl t1_0)) : Option (Nat × va_E))) (t2_0 : (Nat → Int32)) (hT2 : ws[160]? = (some (q 160, .inl (g 0, (9 : Int32).toNatClampNeg, .inl t2_0)) : Option (Nat × va_E))) (t3_0 : (Nat → Int64)) (hT3 : ws[161]? = (some (q 161, .inl (g 1, 9, .inr (.inl t3_0))) : Option (Nat × va_E))) : q_mI l y_VR_nothing prog_16_method_7_code 1 (.int) 2 0 0 D g [.ref (q 157)] ws (fun r u => q_I (msh g q) q u ∧ q_un ws u [157, 159, 160, 161] ∧ ∃ (u0_0 : Int32) (u0_2 : Int32) (u1_0 : (Nat → Int32)) (u2_0 : (Nat → Int32)) (u3_0 : (Nat → Int64)), u[157]? = (some (q 157, .inr (17, [.int u0_0, .ref (q 158), .int t0_1, .int u0_2, .ref (q 159), .ref (q 160), .ref (q 161), .ref (q 162), .ref (q 163), .int t0_3, .ref (q 164), .int t0_4, .int t0_5, .int t0_6, .int t0_7, .int t0_8, .int t0_9, .int t0_10, .int t0_11, .int t0_12, .int t0_13, .int t0_14, .int t0_15, .int t0_16, .ref (q 165), .int t0_17, .int t0_18, .int t0_19, .ref (q 166), .int t0_20, .int t0_21])) : Option (Nat × va_E)) ∧ u[159]? = (some (q 159, .inl (g 0, (9 : Int32).toNatClampNeg, .inl u1_0)) : Option (Nat × va_E)) ∧ u[160]? = (some (q 160, .inl (g 0, (9 : Int32).toNatClampNeg, .inl u2_0)) : Option (Nat × va_E)) ∧ u[161]? = (some (q 161, .inl (g 1, 9, .inr (.inl u3_0))) : Option (Nat × va_E)) ∧ (0 ≤ u0_0.toInt) ∧ (u0_0.toInt ≤ 0) ∧ (t0_2.toInt ≤ u0_2.toInt) ∧ (u0_2.toInt ≤ t0_2.toInt + 1) ∧ (u0_0.toInt ≤ r.toInt + 1) ∧ (r.toInt ≤ u0_2.toInt) ∧ (u0_2.toInt ≤ u0_0.toInt + 9) ∧ (u0_0.toInt + 1 ≤ u0_2.toInt) ∧ (r, u0_0, u0_2, u1_0, u2_0, u3_0) = (F_VR_nothing t0_0 t0_1 t0_2 t0_3 t0_4 t0_5 t0_6 t0_7 t0_8 t0_9 t0_10 t0_11 t0_12 t0_13 t0_14 t0_15 t0_16 t0_17 t0_18 t0_19 t0_20 t0_21 t1_0 t2_0 t3_0)) := by
  intro sz
  refine q_into (by decide) (Nat.le_of_ble_eq_true rfl) ?_
  intro p e s m below meth c ls hsz C0 V hl
  have hx := C0.1
  have hb := C0.2.1
  have hZ9 := (n_w157 hI hT0).2.2.2
  obtain ⟨-, btt0_19⟩ := hZ9
  clear btt0_19
  have hF : q_un ws ws [157, 159, 160, 161] := q_u0
  have hl : lv_has ls 1 [(0, .ref (q 157))] := hl
  refine lv_aload_n hx hb d_16_7_0 rfl (lv_at hl 0 rfl) ?_
  refine lv_iconst (v := 0) hx hb d_16_7_1 (by decide) ?_
  refine lv_iconst (v := 0) hx hb d_16_7_2 (by decide) ?_
  refine lv_lconst (v := 0) hx hb d_16_7_3 (by decide) ?_
  refine q_goi V (q_runV (As := [.int 0, .int 0, .long 0]) (rest := []) (d := 1) (mc := 0) (ms := 0) (ci := 17) C0 V rfl LV_VR_53 (X_VR_enter l D g q ws  0 0 0 hI t0_0 t0_1 t0_2 t0_3 t0_4 t0_5 t0_6 t0_7 t0_8 t0_9 t0_10 t0_11 t0_12 t0_13 t0_14 t0_15 t0_16 t0_17 t0_18 t0_19 t0_20 t0_21 hT0 t1_0 hT1 t2_0 hT2 t3_0 hT3  _) rfl rfl hT0 rfl hl.1 rfl (Nat.le_of_ble_eq_true rfl) ⟨by decide, by decide⟩ ⟨Nat.le_of_ble_eq_true rfl, Nat.le_of_ble_eq_true rfl⟩ d_16_7_4) (fun a39 u37 H locs hp38 V => ?_)
  obtain ⟨hI, hZ9⟩ := hp38
  obtain ⟨hu58, hZ9⟩ := hZ9
  obtain ⟨y41, hZ9⟩ := hZ9
  obtain ⟨y42, hZ9⟩ := hZ9
  obtain ⟨f43, hZ9⟩ := hZ9
  obtain ⟨f45, hZ9⟩ := hZ9
  obtain ⟨f47, hZ9⟩ := hZ9
  obtain ⟨hO40, hZ9⟩ := hZ9
  obtain ⟨hA44, hZ9⟩ := hZ9
  obtain ⟨hA46, hZ9⟩ := hZ9
  obtain ⟨hA48, hZ9⟩ := hZ9
  obtain ⟨b49, hZ9⟩ := hZ9
  obtain ⟨b50, hZ9⟩ := hZ9
  obtain ⟨b51, hZ9⟩ := hZ9
  obtain ⟨b52, hZ9⟩ := hZ9
  obtain ⟨b53, hZ9⟩ := hZ9
  obtain ⟨b54, hZ9⟩ := hZ9
  obtain ⟨b55, hZ9⟩ := hZ9
  obtain ⟨b56, hE57⟩ := hZ9
  replace hO40 : u37[157]? = (some (q 157, .inr (17, [.int y41, .ref (q 158), .int t0_1, .int y42, .ref (q 159), .ref (q 160), .ref (q 161), .ref (q 162), .ref (q 163), .int t0_3, .ref (q 164), .int t0_4, .int t0_5, .int t0_6, .int t0_7, .int t0_8, .int t0_9, .int t0_10, .int t0_11, .int t0_12, .int t0_13, .int t0_14, .int t0_15, .int t0_16, .ref (q 165), .int t0_17, .int t0_18, .int t0_19, .ref (q 166), .int t0_20, .int t0_21])) : Option (Nat × va_E)) := hO40
  replace hA44 : u37[159]? = (some (q 159, .inl (g 0, (9 : Int32).toNatClampNeg, .inl f43)) : Option (Nat × va_E)) := hA44
  replace hA46 : u37[160]? = (some (q 160, .inl (g 0, (9 : Int32).toNatClampNeg, .inl f45)) : Option (Nat × va_E)) := hA46
  replace hA48 : u37[161]? = (some (q 161, .inl (g 1, 9, .inr (.inl f47))) : Option (Nat × va_E)) := hA48
  obtain ⟨p59, e60⟩ : ∃ z, z = (F_VR_enter (0 : Int32) (0 : Int32) (0 : Int64) t0_0 t0_1 t0_2 t0_3 t0_4 t0_5 t0_6 t0_7 t0_8 t0_9 t0_10 t0_11 t0_12 t0_13 t0_14 t0_15 t0_16 t0_17 t0_18 t0_19 t0_20 t0_21 t1_0 t2_0 t3_0) := ⟨_, rfl⟩
  have e61 : a39 = p59.1 := congrArg (fun z => z.1) (hE57.trans e60.symm)
  have e62 : y41 = p59.2.1 := congrArg (fun z => z.2.1) (hE57.trans e60.symm)
  have e63 : y42 = p59.2.2.1 := congrArg (fun z => z.2.2.1) (hE57.trans e60.symm)
  have e64 : f43 = p59.2.2.2.1 := congrArg (fun z => z.2.2.2.1) (hE57.trans e60.symm)
  have e65 : f45 = p59.2.2.2.2.1 := congrArg (fun z => z.2.2.2.2.1) (hE57.trans e60.symm)
  have e66 : f47 = p59.2.2.2.2.2 := congrArg (fun z => z.2.2.2.2.2) (hE57.trans e60.symm)
  replace b49 : q_F (0 ≤ y41.toInt) := b49
  replace b50 : q_F (y41.toInt ≤ 0) := b50
  replace b51 : q_F (t0_2.toInt ≤ y42.toInt) := b51
  replace b52 : q_F (y42.toInt ≤ t0_2.toInt + 1) := b52
  replace b53 : q_F (y41.toInt ≤ a39.toInt + 1) := b53
  replace b54 : q_F (a39.toInt ≤ y42.toInt) := b54
  replace b55 : q_F (y42.toInt ≤ y41.toInt + 9) := b55
  replace b56 : q_F (y41.toInt + 1 ≤ y42.toInt) := b56
  replace hF := q_uc hF hu58 (by simp)
  have hR67 := (show F_VR_nothing_c4 t0_0 t0_1 t0_2 t0_3 t0_4 t0_5 t0_6 t0_7 t0_8 t0_9 t0_10 t0_11 t0_12 t0_13 t0_14 t0_15 t0_16 t0_17 t0_18 t0_19 t0_20 t0_21 t1_0 t2_0 t3_0 p59 = (F_VR_nothing t0_0 t0_1 t0_2 t0_3 t0_4 t0_5 t0_6 t0_7 t0_8 t0_9 t0_10 t0_11 t0_12 t0_13 t0_14 t0_15 t0_16 t0_17 t0_18 t0_19 t0_20 t0_21 t1_0 t2_0 t3_0) from (by rw [e60, F_VR_nothing.eq_1]))
  exact q_reti C0 V (⟨hI, hF, y41, y42, f43, f45, f47, hO40, hA44, hA46, hA48, (show 0 ≤ y41.toInt from (by first | with_reducible exact q_fe b49 | (have t1 : 0 ≤ y41.toInt := b49; omega))), (show y41.toInt ≤ 0 from (by first | with_reducible exact q_fe b50 | (have t1 : y41.toInt ≤ 0 := b50; omega))), (show t0_2.toInt ≤ y42.toInt from (by first | with_reducible exact q_fe b51 | (have t1 : t0_2.toInt ≤ y42.toInt := b51; omega))), (show y42.toInt ≤ t0_2.toInt + 1 from (by first | with_reducible exact q_fe b52 | (have t1 : y42.toInt ≤ t0_2.toInt + 1 := b52; omega))), (show y41.toInt ≤ a39.toInt + 1 from (by first | with_reducible exact q_fe b53 | (have t1 : y41.toInt ≤ a39.toInt + 1 := b53; omega))), (show a39.toInt ≤ y42.toInt from (by first | with_reducible exact q_fe b54 | (have t1 : a39.toInt ≤ y42.toInt := b54; omega))), (show y42.toInt ≤ y41.toInt + 9 from (by first | with_reducible exact q_fe b55 | (have t1 : y42.toInt ≤ y41.toInt + 9 := b55; omega))), (show y41.toInt + 1 ≤ y42.toInt from (by first | with_reducible exact q_fe b56 | (have t1 : y41.toInt + 1 ≤ y42.toInt := b56; omega))), (show (a39, y41, y42, f43, f45, f47) = (F_VR_nothing t0_0 t0_1 t0_2 t0_3 t0_4 t0_5 t0_6 t0_7 t0_8 t0_9 t0_10 t0_11 t0_12 t0_13 t0_14 t0_15 t0_16 t0_17 t0_18 t0_19 t0_20 t0_21 t1_0 t2_0 t3_0) from Eq.trans (by rw [e66, e65, e64, e63, e62, e61, F_VR_nothing_c4.eq_1]) hR67)⟩) d_16_7_7
theorem d_16_8_0 : decode prog_16_method_8_code 0 = .ok (.aload_n 0, 1) := by decide +kernel
theorem d_16_8_1 : decode prog_16_method_8_code 1 = .ok (.iconst 1, 1) := by decide +kernel
theorem d_16_8_2 : decode prog_16_method_8_code 2 = .ok (.iconst 0, 1) := by decide +kernel
theorem d_16_8_3 : decode prog_16_method_8_code 3 = .ok (.iload_n 1, 1) := by decide +kernel
theorem d_16_8_4 : decode prog_16_method_8_code 4 = .ok (.ifCond .eq 7, 3) := by decide +kernel
theorem d_16_8_11 : decode prog_16_method_8_code 11 = .ok (.lconst 0, 1) := by decide +kernel
theorem d_16_8_12 : decode prog_16_method_8_code 12 = .ok (.invokevirtual 53, 3) := by decide +kernel
theorem d_16_8_15 : decode prog_16_method_8_code 15 = .ok (.ireturn, 1) := by decide +kernel
theorem d_16_8_7 : decode prog_16_method_8_code 7 = .ok (.lconst 1, 1) := by decide +kernel
theorem d_16_8_8 : decode prog_16_method_8_code 8 = .ok (.goto 4, 3) := by decide +kernel
def y_VR_truth : MethodName := ⟨"NumberHouseModel$DirectiveRows", "truth", "(Z)I"⟩
def F_VR_truth_c12 (x2 : Int32) (t0_0 : Int32) (t0_1 : Int32) (t0_2 : Int32) (t0_3 : Int32) (t0_4 : Int32) (t0_5 : Int32) (t0_6 : Int32) (t0_7 : Int32) (t0_8 : Int32) (t0_9 : Int32) (t0_10 : Int32) (t0_11 : Int32) (t0_12 : Int32) (t0_13 : Int32) (t0_14 : Int32) (t0_15 : Int32) (t0_16 : Int32) (t0_17 : Int32) (t0_18 : Int32) (t0_19 : Int32) (t0_20 : Int32) (t0_21 : Int32) (t1_0 : (Nat → Int32)) (t2_0 : (Nat → Int32)) (t3_0 : (Nat → Int64)) (p61 : (Int32 × Int32 × Int32 × (Nat → Int32) × (Nat → Int32) × (Nat → Int64))) : Int32 × Int32 × Int32 × (Nat → Int32) × (Nat → Int32) × (Nat → Int64) := ((p61.1 : Int32), (p61.2.1 : Int32), (p61.2.2.1 : Int32), (p61.2.2.2.1 : (Nat → Int32)), (p61.2.2.2.2.1 : (Nat → Int32)), (p61.2.2.2.2.2 : (Nat → Int64)))
def F_VR_truth_c12_2 (x2 : Int32) (t0_0 : Int32) (t0_1 : Int32) (t0_2 : Int32) (t0_3 : Int32) (t0_4 : Int32) (t0_5 : Int32) (t0_6 : Int32) (t0_7 : Int32) (t0_8 : Int32) (t0_9 : Int32) (t0_10 : Int32) (t0_11 : Int32) (t0_12 : Int32) (t0_13 : Int32) (t0_14 : Int32) (t0_15 : Int32) (t0_16 : Int32) (t0_17 : Int32) (t0_18 : Int32) (t0_19 : Int32) (t0_20 : Int32) (t0_21 : Int32) (t1_0 : (Nat → Int32)) (t2_0 : (Nat → Int32)) (t3_0 : (Nat → Int64)) (p97 : (Int32 × Int32 × Int32 × (Nat → Int32) × (Nat → Int32) × (Nat → Int64))) : Int32 × Int32 × Int32 × (Nat → Int32) × (Nat → Int32) × (Nat → Int64) := ((p97.1 : Int32), (p97.2.1 : Int32), (p97.2.2.1 : Int32), (p97.2.2.2.1 : (Nat → Int32)), (p97.2.2.2.2.1 : (Nat → Int32)), (p97.2.2.2.2.2 : (Nat → Int64)))
def F_VR_truth (x2 : Int32) (t0_0 : Int32) (t0_1 : Int32) (t0_2 : Int32) (t0_3 : Int32) (t0_4 : Int32) (t0_5 : Int32) (t0_6 : Int32) (t0_7 : Int32) (t0_8 : Int32) (t0_9 : Int32) (t0_10 : Int32) (t0_11 : Int32) (t0_12 : Int32) (t0_13 : Int32) (t0_14 : Int32) (t0_15 : Int32) (t0_16 : Int32) (t0_17 : Int32) (t0_18 : Int32) (t0_19 : Int32) (t0_20 : Int32) (t0_21 : Int32) (t1_0 : (Nat → Int32)) (t2_0 : (Nat → Int32)) (t3_0 : (Nat → Int64)) : Int32 × Int32 × Int32 × (Nat → Int32) × (Nat → Int32) × (Nat → Int64) := if x2 = (0 : Int32) then (F_VR_truth_c12 x2 t0_0 t0_1 t0_2 t0_3 t0_4 t0_5 t0_6 t0_7 t0_8 t0_9 t0_10 t0_11 t0_12 t0_13 t0_14 t0_15 t0_16 t0_17 t0_18 t0_19 t0_20 t0_21 t1_0 t2_0 t3_0 ((F_VR_enter (1 : Int32) (0 : Int32) (0 : Int64) t0_0 t0_1 t0_2 t0_3 t0_4 t0_5 t0_6 t0_7 t0_8 t0_9 t0_10 t0_11 t0_12 t0_13 t0_14 t0_15 t0_16 t0_17 t0_18 t0_19 t0_20 t0_21 t1_0 t2_0 t3_0) : (Int32 × Int32 × Int32 × (Nat → Int32) × (Nat → Int32) × (Nat → Int64)))) else (F_VR_truth_c12_2 x2 t0_0 t0_1 t0_2 t0_3 t0_4 t0_5 t0_6 t0_7 t0_8 t0_9 t0_10 t0_11 t0_12 t0_13 t0_14 t0_15 t0_16 t0_17 t0_18 t0_19 t0_20 t0_21 t1_0 t2_0 t3_0 ((F_VR_enter (1 : Int32) (0 : Int32) (1 : Int64) t0_0 t0_1 t0_2 t0_3 t0_4 t0_5 t0_6 t0_7 t0_8 t0_9 t0_10 t0_11 t0_12 t0_13 t0_14 t0_15 t0_16 t0_17 t0_18 t0_19 t0_20 t0_21 t1_0 t2_0 t3_0) : (Int32 × Int32 × Int32 × (Nat → Int32) × (Nat → Int32) × (Nat → Int64))))
set_option maxRecDepth 100000 in
set_option maxHeartbeats 4000000 in
theorem X_VR_truth (l : Launch) (D : va_G) (g : Nat → ClassId) (q : Nat → Nat) (ws : va_W) (x2 : Int32) (hI : q_I (msh g q) q ws) (t0_0 : Int32) (t0_1 : Int32) (t0_2 : Int32) (t0_3 : Int32) (t0_4 : Int32) (t0_5 : Int32) (t0_6 : Int32) (t0_7 : Int32) (t0_8 : Int32) (t0_9 : Int32) (t0_10 : Int32) (t0_11 : Int32) (t0_12 : Int32) (t0_13 : Int32) (t0_14 : Int32) (t0_15 : Int32) (t0_16 : Int32) (t0_17 : Int32) (t0_18 : Int32) (t0_19 : Int32) (t0_20 : Int32) (t0_21 : Int32) (hT0 : ws[157]? = (some (q 157, .inr (17, [.int t0_0, .ref (q 158), .int t0_1, .int t0_2, .ref (q 159), .ref (q 160), .ref (q 161), .ref (q 162), .ref (q 163), .int t0_3, .ref (q 164), .int t0_4, .int t0_5, .int t0_6, .int t0_7, .int t0_8, .int t0_9, .int t0_10, .int t0_11, .int t0_12, .int t0_13, .int t0_14, .int t0_15, .int t0_16, .ref (q 165), .int t0_17, .int t0_18, .int t0_19, .ref (q 166), .int t0_20, .int t0_21])) : Option (Nat × va_E))) (t1_0 : (Nat → Int32)) (hT1 : ws[159]? = (some (q 159, .inl (g 0, (9 : Int32).toNatClampNeg, .inl t1_0)) : Option (Nat × va_E))) (t2_0 : (Nat → Int32)) (hT2 : ws[160]? = (some (q 160, .inl (g 0, (9 : Int32).toNatClampNeg, .inl t2_0)) : Option (Nat × va_E))) (t3_0 : (Nat → Int64)) (hT3 : ws[161]? = (some (q 161, .inl (g 1, 9, .inr (.inl t3_0))) : Option (Nat × va_E))) (hzx2 : 0 ≤ x2.toInt ∧ x2.toInt ≤ 1) : q_mI l y_VR_truth prog_16_method_8_code 2 (.int) 2 0 0 D g [.ref (q 157), .int x2] ws (fun r u => q_I (msh g q) q u ∧ q_un ws u [157, 159, 160, 161] ∧ ∃ (u0_0 : Int32) (u0_2 : Int32) (u1_0 : (Nat → Int32)) (u2_0 : (Nat → Int32)) (u3_0 : (Nat → Int64)), u[157]? = (some (q 157, .inr (17, [.int u0_0, .ref (q 158), .int t0_1, .int u0_2, .ref (q 159), .ref (q 160), .ref (q 161), .ref (q 162), .ref (q 163), .int t0_3, .ref (q 164), .int t0_4, .int t0_5, .int t0_6, .int t0_7, .int t0_8, .int t0_9, .int t0_10, .int t0_11, .int t0_12, .int t0_13, .int t0_14, .int t0_15, .int t0_16, .ref (q 165), .int t0_17, .int t0_18, .int t0_19, .ref (q 166), .int t0_20, .int t0_21])) : Option (Nat × va_E)) ∧ u[159]? = (some (q 159, .inl (g 0, (9 : Int32).toNatClampNeg, .inl u1_0)) : Option (Nat × va_E)) ∧ u[160]? = (some (q 160, .inl (g 0, (9 : Int32).toNatClampNeg, .inl u2_0)) : Option (Nat × va_E)) ∧ u[161]? = (some (q 161, .inl (g 1, 9, .inr (.inl u3_0))) : Option (Nat × va_E)) ∧ (0 ≤ u0_0.toInt) ∧ (u0_0.toInt ≤ 0) ∧ (t0_2.toInt ≤ u0_2.toInt) ∧ (u0_2.toInt ≤ t0_2.toInt + 1) ∧ (u0_0.toInt ≤ r.toInt + 1) ∧ (r.toInt ≤ u0_2.toInt) ∧ (u0_2.toInt ≤ u0_0.toInt + 9) ∧ (u0_0.toInt + 1 ≤ u0_2.toInt) ∧ (r, u0_0, u0_2, u1_0, u2_0, u3_0) = (F_VR_truth x2 t0_0 t0_1 t0_2 t0_3 t0_4 t0_5 t0_6 t0_7 t0_8 t0_9 t0_10 t0_11 t0_12 t0_13 t0_14 t0_15 t0_16 t0_17 t0_18 t0_19 t0_20 t0_21 t1_0 t2_0 t3_0)) := by
  intro sz
  refine q_into (by decide) (Nat.le_of_ble_eq_true rfl) ?_
  intro p e s m below meth c ls hsz C0 V hl
  have hx := C0.1
  have hb := C0.2.1
  clear hzx2
  have hZ9 := (n_w157 hI hT0).2.2.2
  obtain ⟨-, btt0_19⟩ := hZ9
  clear btt0_19
  have hF : q_un ws ws [157, 159, 160, 161] := q_u0
  have hl : lv_has ls 2 [(0, .ref (q 157)), (1, .int x2)] := hl
  refine lv_aload_n hx hb d_16_8_0 rfl (lv_at hl 0 rfl) ?_
  refine lv_iconst (v := 1) hx hb d_16_8_1 (by decide) ?_
  refine lv_iconst (v := 0) hx hb d_16_8_2 (by decide) ?_
  refine lv_iload_n hx hb d_16_8_3 rfl (lv_at hl 1 rfl) ?_
  refine lv_if_eq (tgt := 11) hx hb d_16_8_4 (by decide) (fun c37 => ?_) (fun c37 => ?_)
  ·
    refine lv_lconst (v := 0) hx hb d_16_8_11 (by decide) ?_
    refine q_goi V (q_runV (As := [.int 1, .int 0, .long 0]) (rest := []) (d := 1) (mc := 0) (ms := 0) (ci := 17) C0 V rfl LV_VR_53 (X_VR_enter l D g q ws  1 0 0 hI t0_0 t0_1 t0_2 t0_3 t0_4 t0_5 t0_6 t0_7 t0_8 t0_9 t0_10 t0_11 t0_12 t0_13 t0_14 t0_15 t0_16 t0_17 t0_18 t0_19 t0_20 t0_21 hT0 t1_0 hT1 t2_0 hT2 t3_0 hT3  _) rfl rfl hT0 rfl hl.1 rfl (Nat.le_of_ble_eq_true rfl) ⟨by decide, by decide⟩ ⟨Nat.le_of_ble_eq_true rfl, Nat.le_of_ble_eq_true rfl⟩ d_16_8_12) (fun a41 u39 H locs hp40 V => ?_)
    obtain ⟨hI, hZ9⟩ := hp40
    obtain ⟨hu60, hZ9⟩ := hZ9
    obtain ⟨y43, hZ9⟩ := hZ9
    obtain ⟨y44, hZ9⟩ := hZ9
    obtain ⟨f45, hZ9⟩ := hZ9
    obtain ⟨f47, hZ9⟩ := hZ9
    obtain ⟨f49, hZ9⟩ := hZ9
    obtain ⟨hO42, hZ9⟩ := hZ9
    obtain ⟨hA46, hZ9⟩ := hZ9
    obtain ⟨hA48, hZ9⟩ := hZ9
    obtain ⟨hA50, hZ9⟩ := hZ9
    obtain ⟨b51, hZ9⟩ := hZ9
    obtain ⟨b52, hZ9⟩ := hZ9
    obtain ⟨b53, hZ9⟩ := hZ9
    obtain ⟨b54, hZ9⟩ := hZ9
    obtain ⟨b55, hZ9⟩ := hZ9
    obtain ⟨b56, hZ9⟩ := hZ9
    obtain ⟨b57, hZ9⟩ := hZ9
    obtain ⟨b58, hE59⟩ := hZ9
    replace hO42 : u39[157]? = (some (q 157, .inr (17, [.int y43, .ref (q 158), .int t0_1, .int y44, .ref (q 159), .ref (q 160), .ref (q 161), .ref (q 162), .ref (q 163), .int t0_3, .ref (q 164), .int t0_4, .int t0_5, .int t0_6, .int t0_7, .int t0_8, .int t0_9, .int t0_10, .int t0_11, .int t0_12, .int t0_13, .int t0_14, .int t0_15, .int t0_16, .ref (q 165), .int t0_17, .int t0_18, .int t0_19, .ref (q 166), .int t0_20, .int t0_21])) : Option (Nat × va_E)) := hO42
    replace hA46 : u39[159]? = (some (q 159, .inl (g 0, (9 : Int32).toNatClampNeg, .inl f45)) : Option (Nat × va_E)) := hA46
    replace hA48 : u39[160]? = (some (q 160, .inl (g 0, (9 : Int32).toNatClampNeg, .inl f47)) : Option (Nat × va_E)) := hA48
    replace hA50 : u39[161]? = (some (q 161, .inl (g 1, 9, .inr (.inl f49))) : Option (Nat × va_E)) := hA50
    obtain ⟨p61, e62⟩ : ∃ z, z = (F_VR_enter (1 : Int32) (0 : Int32) (0 : Int64) t0_0 t0_1 t0_2 t0_3 t0_4 t0_5 t0_6 t0_7 t0_8 t0_9 t0_10 t0_11 t0_12 t0_13 t0_14 t0_15 t0_16 t0_17 t0_18 t0_19 t0_20 t0_21 t1_0 t2_0 t3_0) := ⟨_, rfl⟩
    have e63 : a41 = p61.1 := congrArg (fun z => z.1) (hE59.trans e62.symm)
    have e64 : y43 = p61.2.1 := congrArg (fun z => z.2.1) (hE59.trans e62.symm)
    have e65 : y44 = p61.2.2.1 := congrArg (fun z => z.2.2.1) (hE59.trans e62.symm)
    have e66 : f45 = p61.2.2.2.1 := congrArg (fun z => z.2.2.2.1) (hE59.trans e62.symm)
    have e67 : f47 = p61.2.2.2.2.1 := congrArg (fun z => z.2.2.2.2.1) (hE59.trans e62.symm)
    have e68 : f49 = p61.2.2.2.2.2 := congrArg (fun z => z.2.2.2.2.2) (hE59.trans e62.symm)
    replace b51 : q_F (0 ≤ y43.toInt) := b51
    replace b52 : q_F (y43.toInt ≤ 0) := b52
    replace b53 : q_F (t0_2.toInt ≤ y44.toInt) := b53
    replace b54 : q_F (y44.toInt ≤ t0_2.toInt + 1) := b54
    replace b55 : q_F (y43.toInt ≤ a41.toInt + 1) := b55
    replace b56 : q_F (a41.toInt ≤ y44.toInt) := b56
    replace b57 : q_F (y44.toInt ≤ y43.toInt + 9) := b57
    replace b58 : q_F (y43.toInt + 1 ≤ y44.toInt) := b58
    replace hF := q_uc hF hu60 (by simp)
    have hR69 := (show F_VR_truth_c12 x2 t0_0 t0_1 t0_2 t0_3 t0_4 t0_5 t0_6 t0_7 t0_8 t0_9 t0_10 t0_11 t0_12 t0_13 t0_14 t0_15 t0_16 t0_17 t0_18 t0_19 t0_20 t0_21 t1_0 t2_0 t3_0 p61 = (F_VR_truth x2 t0_0 t0_1 t0_2 t0_3 t0_4 t0_5 t0_6 t0_7 t0_8 t0_9 t0_10 t0_11 t0_12 t0_13 t0_14 t0_15 t0_16 t0_17 t0_18 t0_19 t0_20 t0_21 t1_0 t2_0 t3_0) from (by rw [e62, F_VR_truth.eq_1, if_pos c37]))
    exact q_reti C0 V (⟨hI, hF, y43, y44, f45, f47, f49, hO42, hA46, hA48, hA50, (show 0 ≤ y43.toInt from (by first | with_reducible exact q_fe b51 | (have t1 : 0 ≤ y43.toInt := b51; omega))), (show y43.toInt ≤ 0 from (by first | with_reducible exact q_fe b52 | (have t1 : y43.toInt ≤ 0 := b52; omega))), (show t0_2.toInt ≤ y44.toInt from (by first | with_reducible exact q_fe b53 | (have t1 : t0_2.toInt ≤ y44.toInt := b53; omega))), (show y44.toInt ≤ t0_2.toInt + 1 from (by first | with_reducible exact q_fe b54 | (have t1 : y44.toInt ≤ t0_2.toInt + 1 := b54; omega))), (show y43.toInt ≤ a41.toInt + 1 from (by first | with_reducible exact q_fe b55 | (have t1 : y43.toInt ≤ a41.toInt + 1 := b55; omega))), (show a41.toInt ≤ y44.toInt from (by first | with_reducible exact q_fe b56 | (have t1 : a41.toInt ≤ y44.toInt := b56; omega))), (show y44.toInt ≤ y43.toInt + 9 from (by first | with_reducible exact q_fe b57 | (have t1 : y44.toInt ≤ y43.toInt + 9 := b57; omega))), (show y43.toInt + 1 ≤ y44.toInt from (by first | with_reducible exact q_fe b58 | (have t1 : y43.toInt + 1 ≤ y44.toInt := b58; omega))), (show (a41, y43, y44, f45, f47, f49) = (F_VR_truth x2 t0_0 t0_1 t0_2 t0_3 t0_4 t0_5 t0_6 t0_7 t0_8 t0_9 t0_10 t0_11 t0_12 t0_13 t0_14 t0_15 t0_16 t0_17 t0_18 t0_19 t0_20 t0_21 t1_0 t2_0 t3_0) from Eq.trans (by rw [e68, e67, e66, e65, e64, e63, F_VR_truth_c12.eq_1]) hR69)⟩) d_16_8_15
  ·
    refine lv_lconst (v := 1) hx hb d_16_8_7 (by decide) ?_
    refine lv_goto (tgt := 12) hx hb d_16_8_8 (by decide) ?_
    refine q_goi V (q_runV (As := [.int 1, .int 0, .long 1]) (rest := []) (d := 1) (mc := 0) (ms := 0) (ci := 17) C0 V rfl LV_VR_53 (X_VR_enter l D g q ws  1 0 1 hI t0_0 t0_1 t0_2 t0_3 t0_4 t0_5 t0_6 t0_7 t0_8 t0_9 t0_10 t0_11 t0_12 t0_13 t0_14 t0_15 t0_16 t0_17 t0_18 t0_19 t0_20 t0_21 hT0 t1_0 hT1 t2_0 hT2 t3_0 hT3  _) rfl rfl hT0 rfl hl.1 rfl (Nat.le_of_ble_eq_true rfl) ⟨by decide, by decide⟩ ⟨Nat.le_of_ble_eq_true rfl, Nat.le_of_ble_eq_true rfl⟩ d_16_8_12) (fun a77 u75 H locs hp76 V => ?_)
    obtain ⟨hI, hZ9⟩ := hp76
    obtain ⟨hu96, hZ9⟩ := hZ9
    obtain ⟨y79, hZ9⟩ := hZ9
    obtain ⟨y80, hZ9⟩ := hZ9
    obtain ⟨f81, hZ9⟩ := hZ9
    obtain ⟨f83, hZ9⟩ := hZ9
    obtain ⟨f85, hZ9⟩ := hZ9
    obtain ⟨hO78, hZ9⟩ := hZ9
    obtain ⟨hA82, hZ9⟩ := hZ9
    obtain ⟨hA84, hZ9⟩ := hZ9
    obtain ⟨hA86, hZ9⟩ := hZ9
    obtain ⟨b87, hZ9⟩ := hZ9
    obtain ⟨b88, hZ9⟩ := hZ9
    obtain ⟨b89, hZ9⟩ := hZ9
    obtain ⟨b90, hZ9⟩ := hZ9
    obtain ⟨b91, hZ9⟩ := hZ9
    obtain ⟨b92, hZ9⟩ := hZ9
    obtain ⟨b93, hZ9⟩ := hZ9
    obtain ⟨b94, hE95⟩ := hZ9
    replace hO78 : u75[157]? = (some (q 157, .inr (17, [.int y79, .ref (q 158), .int t0_1, .int y80, .ref (q 159), .ref (q 160), .ref (q 161), .ref (q 162), .ref (q 163), .int t0_3, .ref (q 164), .int t0_4, .int t0_5, .int t0_6, .int t0_7, .int t0_8, .int t0_9, .int t0_10, .int t0_11, .int t0_12, .int t0_13, .int t0_14, .int t0_15, .int t0_16, .ref (q 165), .int t0_17, .int t0_18, .int t0_19, .ref (q 166), .int t0_20, .int t0_21])) : Option (Nat × va_E)) := hO78
    replace hA82 : u75[159]? = (some (q 159, .inl (g 0, (9 : Int32).toNatClampNeg, .inl f81)) : Option (Nat × va_E)) := hA82
    replace hA84 : u75[160]? = (some (q 160, .inl (g 0, (9 : Int32).toNatClampNeg, .inl f83)) : Option (Nat × va_E)) := hA84
    replace hA86 : u75[161]? = (some (q 161, .inl (g 1, 9, .inr (.inl f85))) : Option (Nat × va_E)) := hA86
    obtain ⟨p97, e98⟩ : ∃ z, z = (F_VR_enter (1 : Int32) (0 : Int32) (1 : Int64) t0_0 t0_1 t0_2 t0_3 t0_4 t0_5 t0_6 t0_7 t0_8 t0_9 t0_10 t0_11 t0_12 t0_13 t0_14 t0_15 t0_16 t0_17 t0_18 t0_19 t0_20 t0_21 t1_0 t2_0 t3_0) := ⟨_, rfl⟩
    have e99 : a77 = p97.1 := congrArg (fun z => z.1) (hE95.trans e98.symm)
    have e100 : y79 = p97.2.1 := congrArg (fun z => z.2.1) (hE95.trans e98.symm)
    have e101 : y80 = p97.2.2.1 := congrArg (fun z => z.2.2.1) (hE95.trans e98.symm)
    have e102 : f81 = p97.2.2.2.1 := congrArg (fun z => z.2.2.2.1) (hE95.trans e98.symm)
    have e103 : f83 = p97.2.2.2.2.1 := congrArg (fun z => z.2.2.2.2.1) (hE95.trans e98.symm)
    have e104 : f85 = p97.2.2.2.2.2 := congrArg (fun z => z.2.2.2.2.2) (hE95.trans e98.symm)
    replace b87 : q_F (0 ≤ y79.toInt) := b87
    replace b88 : q_F (y79.toInt ≤ 0) := b88
    replace b89 : q_F (t0_2.toInt ≤ y80.toInt) := b89
    replace b90 : q_F (y80.toInt ≤ t0_2.toInt + 1) := b90
    replace b91 : q_F (y79.toInt ≤ a77.toInt + 1) := b91
    replace b92 : q_F (a77.toInt ≤ y80.toInt) := b92
    replace b93 : q_F (y80.toInt ≤ y79.toInt + 9) := b93
    replace b94 : q_F (y79.toInt + 1 ≤ y80.toInt) := b94
    replace hF := q_uc hF hu96 (by simp)
    have hR105 := (show F_VR_truth_c12_2 x2 t0_0 t0_1 t0_2 t0_3 t0_4 t0_5 t0_6 t0_7 t0_8 t0_9 t0_10 t0_11 t0_12 t0_13 t0_14 t0_15 t0_16 t0_17 t0_18 t0_19 t0_20 t0_21 t1_0 t2_0 t3_0 p97 = (F_VR_truth x2 t0_0 t0_1 t0_2 t0_3 t0_4 t0_5 t0_6 t0_7 t0_8 t0_9 t0_10 t0_11 t0_12 t0_13 t0_14 t0_15 t0_16 t0_17 t0_18 t0_19 t0_20 t0_21 t1_0 t2_0 t3_0) from (by rw [e98, F_VR_truth.eq_1, if_neg c37]))
    exact q_reti C0 V (⟨hI, hF, y79, y80, f81, f83, f85, hO78, hA82, hA84, hA86, (show 0 ≤ y79.toInt from (by first | with_reducible exact q_fe b87 | (have t1 : 0 ≤ y79.toInt := b87; omega))), (show y79.toInt ≤ 0 from (by first | with_reducible exact q_fe b88 | (have t1 : y79.toInt ≤ 0 := b88; omega))), (show t0_2.toInt ≤ y80.toInt from (by first | with_reducible exact q_fe b89 | (have t1 : t0_2.toInt ≤ y80.toInt := b89; omega))), (show y80.toInt ≤ t0_2.toInt + 1 from (by first | with_reducible exact q_fe b90 | (have t1 : y80.toInt ≤ t0_2.toInt + 1 := b90; omega))), (show y79.toInt ≤ a77.toInt + 1 from (by first | with_reducible exact q_fe b91 | (have t1 : y79.toInt ≤ a77.toInt + 1 := b91; omega))), (show a77.toInt ≤ y80.toInt from (by first | with_reducible exact q_fe b92 | (have t1 : a77.toInt ≤ y80.toInt := b92; omega))), (show y80.toInt ≤ y79.toInt + 9 from (by first | with_reducible exact q_fe b93 | (have t1 : y80.toInt ≤ y79.toInt + 9 := b93; omega))), (show y79.toInt + 1 ≤ y80.toInt from (by first | with_reducible exact q_fe b94 | (have t1 : y79.toInt + 1 ≤ y80.toInt := b94; omega))), (show (a77, y79, y80, f81, f83, f85) = (F_VR_truth x2 t0_0 t0_1 t0_2 t0_3 t0_4 t0_5 t0_6 t0_7 t0_8 t0_9 t0_10 t0_11 t0_12 t0_13 t0_14 t0_15 t0_16 t0_17 t0_18 t0_19 t0_20 t0_21 t1_0 t2_0 t3_0) from Eq.trans (by rw [e104, e103, e102, e101, e100, e99, F_VR_truth_c12_2.eq_1]) hR105)⟩) d_16_8_15
theorem d_16_9_0 : decode prog_16_method_9_code 0 = .ok (.iload_n 1, 1) := by decide +kernel
theorem d_16_9_1 : decode prog_16_method_9_code 1 = .ok (.ifCond .lt 10, 3) := by decide +kernel
theorem d_16_9_11 : decode prog_16_method_9_code 11 = .ok (.aload_n 0, 1) := by decide +kernel
theorem d_16_9_12 : decode prog_16_method_9_code 12 = .ok (.iconst 1, 1) := by decide +kernel
theorem d_16_9_13 : decode prog_16_method_9_code 13 = .ok (.putfield 42, 3) := by decide +kernel
theorem d_16_9_16 : decode prog_16_method_9_code 16 = .ok (.iconst 0, 1) := by decide +kernel
theorem d_16_9_17 : decode prog_16_method_9_code 17 = .ok (.ireturn, 1) := by decide +kernel
theorem d_16_9_4 : decode prog_16_method_9_code 4 = .ok (.iload_n 1, 1) := by decide +kernel
theorem d_16_9_5 : decode prog_16_method_9_code 5 = .ok (.sipush 255, 3) := by decide +kernel
theorem d_16_9_8 : decode prog_16_method_9_code 8 = .ok (.if_icmp .le 10, 3) := by decide +kernel
theorem d_16_9_18 : decode prog_16_method_9_code 18 = .ok (.aload_n 0, 1) := by decide +kernel
theorem d_16_9_19 : decode prog_16_method_9_code 19 = .ok (.iconst 2, 1) := by decide +kernel
theorem d_16_9_20 : decode prog_16_method_9_code 20 = .ok (.iconst 0, 1) := by decide +kernel
theorem d_16_9_21 : decode prog_16_method_9_code 21 = .ok (.iload_n 1, 1) := by decide +kernel
theorem d_16_9_22 : decode prog_16_method_9_code 22 = .ok (.i2l, 1) := by decide +kernel
theorem d_16_9_23 : decode prog_16_method_9_code 23 = .ok (.invokevirtual 53, 3) := by decide +kernel
theorem d_16_9_26 : decode prog_16_method_9_code 26 = .ok (.ireturn, 1) := by decide +kernel
def y_VR_symbol : MethodName := ⟨"NumberHouseModel$DirectiveRows", "symbol", "(I)I"⟩
def F_VR_symbol_c23 (x2 : Int32) (t0_0 : Int32) (t0_1 : Int32) (t0_2 : Int32) (t0_3 : Int32) (t0_4 : Int32) (t0_5 : Int32) (t0_6 : Int32) (t0_7 : Int32) (t0_8 : Int32) (t0_9 : Int32) (t0_10 : Int32) (t0_11 : Int32) (t0_12 : Int32) (t0_13 : Int32) (t0_14 : Int32) (t0_15 : Int32) (t0_16 : Int32) (t0_17 : Int32) (t0_18 : Int32) (t0_19 : Int32) (t0_20 : Int32) (t0_21 : Int32) (t1_0 : (Nat → Int32)) (t2_0 : (Nat → Int32)) (t3_0 : (Nat → Int64)) (p69 : (Int32 × Int32 × Int32 × (Nat → Int32) × (Nat → Int32) × (Nat → Int64))) : Int32 × Int32 × Int32 × (Nat → Int32) × (Nat → Int32) × (Nat → Int64) := ((p69.1 : Int32), (p69.2.1 : Int32), (p69.2.2.1 : Int32), (p69.2.2.2.1 : (Nat → Int32)), (p69.2.2.2.2.1 : (Nat → Int32)), (p69.2.2.2.2.2 : (Nat → Int64)))
def F_VR_symbol (x2 : Int32) (t0_0 : Int32) (t0_1 : Int32) (t0_2 : Int32) (t0_3 : Int32) (t0_4 : Int32) (t0_5 : Int32) (t0_6 : Int32) (t0_7 : Int32) (t0_8 : Int32) (t0_9 : Int32) (t0_10 : Int32) (t0_11 : Int32) (t0_12 : Int32) (t0_13 : Int32) (t0_14 : Int32) (t0_15 : Int32) (t0_16 : Int32) (t0_17 : Int32) (t0_18 : Int32) (t0_19 : Int32) (t0_20 : Int32) (t0_21 : Int32) (t1_0 : (Nat → Int32)) (t2_0 : (Nat → Int32)) (t3_0 : (Nat → Int64)) : Int32 × Int32 × Int32 × (Nat → Int32) × (Nat → Int32) × (Nat → Int64) := if x2 < (0 : Int32) then (((0 : Int32), (1 : Int32), t0_2, t1_0, t2_0, t3_0)) else (if x2 ≤ (255 : Int32) then (F_VR_symbol_c23 x2 t0_0 t0_1 t0_2 t0_3 t0_4 t0_5 t0_6 t0_7 t0_8 t0_9 t0_10 t0_11 t0_12 t0_13 t0_14 t0_15 t0_16 t0_17 t0_18 t0_19 t0_20 t0_21 t1_0 t2_0 t3_0 ((F_VR_enter (2 : Int32) (0 : Int32) (x2.toInt64 : Int64) t0_0 t0_1 t0_2 t0_3 t0_4 t0_5 t0_6 t0_7 t0_8 t0_9 t0_10 t0_11 t0_12 t0_13 t0_14 t0_15 t0_16 t0_17 t0_18 t0_19 t0_20 t0_21 t1_0 t2_0 t3_0) : (Int32 × Int32 × Int32 × (Nat → Int32) × (Nat → Int32) × (Nat → Int64)))) else (((0 : Int32), (1 : Int32), t0_2, t1_0, t2_0, t3_0)))
set_option maxRecDepth 100000 in
set_option maxHeartbeats 4000000 in
theorem X_VR_symbol (l : Launch) (D : va_G) (g : Nat → ClassId) (q : Nat → Nat) (ws : va_W) (x2 : Int32) (hI : q_I (msh g q) q ws) (t0_0 : Int32) (t0_1 : Int32) (t0_2 : Int32) (t0_3 : Int32) (t0_4 : Int32) (t0_5 : Int32) (t0_6 : Int32) (t0_7 : Int32) (t0_8 : Int32) (t0_9 : Int32) (t0_10 : Int32) (t0_11 : Int32) (t0_12 : Int32) (t0_13 : Int32) (t0_14 : Int32) (t0_15 : Int32) (t0_16 : Int32) (t0_17 : Int32) (t0_18 : Int32) (t0_19 : Int32) (t0_20 : Int32) (t0_21 : Int32) (hT0 : ws[157]? = (some (q 157, .inr (17, [.int t0_0, .ref (q 158), .int t0_1, .int t0_2, .ref (q 159), .ref (q 160), .ref (q 161), .ref (q 162), .ref (q 163), .int t0_3, .ref (q 164), .int t0_4, .int t0_5, .int t0_6, .int t0_7, .int t0_8, .int t0_9, .int t0_10, .int t0_11, .int t0_12, .int t0_13, .int t0_14, .int t0_15, .int t0_16, .ref (q 165), .int t0_17, .int t0_18, .int t0_19, .ref (q 166), .int t0_20, .int t0_21])) : Option (Nat × va_E))) (t1_0 : (Nat → Int32)) (hT1 : ws[159]? = (some (q 159, .inl (g 0, (9 : Int32).toNatClampNeg, .inl t1_0)) : Option (Nat × va_E))) (t2_0 : (Nat → Int32)) (hT2 : ws[160]? = (some (q 160, .inl (g 0, (9 : Int32).toNatClampNeg, .inl t2_0)) : Option (Nat × va_E))) (t3_0 : (Nat → Int64)) (hT3 : ws[161]? = (some (q 161, .inl (g 1, 9, .inr (.inl t3_0))) : Option (Nat × va_E))) : q_mI l y_VR_symbol prog_16_method_9_code 2 (.int) 2 0 0 D g [.ref (q 157), .int x2] ws (fun r u => q_I (msh g q) q u ∧ q_un ws u [157, 159, 160, 161] ∧ ∃ (u0_0 : Int32) (u0_2 : Int32) (u1_0 : (Nat → Int32)) (u2_0 : (Nat → Int32)) (u3_0 : (Nat → Int64)), u[157]? = (some (q 157, .inr (17, [.int u0_0, .ref (q 158), .int t0_1, .int u0_2, .ref (q 159), .ref (q 160), .ref (q 161), .ref (q 162), .ref (q 163), .int t0_3, .ref (q 164), .int t0_4, .int t0_5, .int t0_6, .int t0_7, .int t0_8, .int t0_9, .int t0_10, .int t0_11, .int t0_12, .int t0_13, .int t0_14, .int t0_15, .int t0_16, .ref (q 165), .int t0_17, .int t0_18, .int t0_19, .ref (q 166), .int t0_20, .int t0_21])) : Option (Nat × va_E)) ∧ u[159]? = (some (q 159, .inl (g 0, (9 : Int32).toNatClampNeg, .inl u1_0)) : Option (Nat × va_E)) ∧ u[160]? = (some (q 160, .inl (g 0, (9 : Int32).toNatClampNeg, .inl u2_0)) : Option (Nat × va_E)) ∧ u[161]? = (some (q 161, .inl (g 1, 9, .inr (.inl u3_0))) : Option (Nat × va_E)) ∧ (0 ≤ u0_0.toInt) ∧ (u0_0.toInt ≤ 1) ∧ (u0_2.toInt ≤ 9) ∧ (t0_2.toInt ≤ u0_2.toInt) ∧ (u0_2.toInt ≤ t0_2.toInt + 1) ∧ (u0_0.toInt ≤ r.toInt + 1) ∧ (r.toInt ≤ u0_2.toInt) ∧ (r, u0_0, u0_2, u1_0, u2_0, u3_0) = (F_VR_symbol x2 t0_0 t0_1 t0_2 t0_3 t0_4 t0_5 t0_6 t0_7 t0_8 t0_9 t0_10 t0_11 t0_12 t0_13 t0_14 t0_15 t0_16 t0_17 t0_18 t0_19 t0_20 t0_21 t1_0 t2_0 t3_0)) := by
  intro sz
  refine q_into (by decide) (Nat.le_of_ble_eq_true rfl) ?_
  intro p e s m below meth c ls hsz C0 V hl
  have hx := C0.1
  have hb := C0.2.1
  obtain ⟨btt0_1, hZ9⟩ := n_w157 hI hT0
  obtain ⟨btt0_2, hZ9⟩ := hZ9
  obtain ⟨btt0_3, hZ9⟩ := hZ9
  obtain ⟨btt0_10, btt0_19⟩ := hZ9
  replace btt0_1 : q_F (0 ≤ t0_1.toInt ∧ t0_1.toInt ≤ 256) := btt0_1
  replace btt0_2 : q_F (0 ≤ t0_2.toInt ∧ t0_2.toInt ≤ 9) := btt0_2
  replace btt0_3 : q_F (0 ≤ t0_3.toInt ∧ t0_3.toInt ≤ 4096) := btt0_3
  replace btt0_10 : q_F (0 ≤ t0_10.toInt ∧ t0_10.toInt ≤ 1) := btt0_10
  replace btt0_19 : q_F (0 ≤ t0_19.toInt ∧ t0_19.toInt ≤ 1) := btt0_19
  have hF : q_un ws ws [157, 159, 160, 161] := q_u0
  have hl : lv_has ls 2 [(0, .ref (q 157)), (1, .int x2)] := hl
  refine lv_iload_n hx hb d_16_9_0 rfl (lv_at hl 1 rfl) ?_
  refine lv_if_lt (tgt := 11) hx hb d_16_9_1 (by decide) (fun c37 => ?_) (fun c37 => ?_)
  ·
    refine lv_aload_n hx hb d_16_9_11 rfl (lv_at hl 0 rfl) ?_
    refine lv_iconst (v := 1) hx hb d_16_9_12 (by decide) ?_
    refine q_put (ci := 17) (j := 0) (v := .int 1) (ty := .int) C0 V i_VR o_VR n_VR rfl rfl hT0 (by decide) w_2198 rfl rfl rfl rfl (Nat.le_of_ble_eq_true rfl) d_16_9_13 (fun H locs w39 hu40 hT0 V => ?_)
    replace hT0 : w39[157]? = (some (q 157, .inr (17, [.int 1, .ref (q 158), .int t0_1, .int t0_2, .ref (q 159), .ref (q 160), .ref (q 161), .ref (q 162), .ref (q 163), .int t0_3, .ref (q 164), .int t0_4, .int t0_5, .int t0_6, .int t0_7, .int t0_8, .int t0_9, .int t0_10, .int t0_11, .int t0_12, .int t0_13, .int t0_14, .int t0_15, .int t0_16, .ref (q 165), .int t0_17, .int t0_18, .int t0_19, .ref (q 166), .int t0_20, .int t0_21])) : Option (Nat × va_E)) := hT0
    replace hI := n_p157 hI hu40 hT0 (by first | with_reducible exact q_fe btt0_1 | exact ⟨(by have t1 : 0 ≤ t0_1.toInt ∧ t0_1.toInt ≤ 256 := btt0_1; omega), (by have t1 : 0 ≤ t0_1.toInt ∧ t0_1.toInt ≤ 256 := btt0_1; omega)⟩) (by first | with_reducible exact q_fe btt0_2 | exact ⟨(by have t1 : 0 ≤ t0_2.toInt ∧ t0_2.toInt ≤ 9 := btt0_2; omega), (by have t1 : 0 ≤ t0_2.toInt ∧ t0_2.toInt ≤ 9 := btt0_2; omega)⟩) (by first | with_reducible exact q_fe btt0_3 | exact ⟨(by have t1 : 0 ≤ t0_3.toInt ∧ t0_3.toInt ≤ 4096 := btt0_3; omega), (by have t1 : 0 ≤ t0_3.toInt ∧ t0_3.toInt ≤ 4096 := btt0_3; omega)⟩) (by first | with_reducible exact q_fe btt0_10 | exact ⟨(by have t1 : 0 ≤ t0_10.toInt ∧ t0_10.toInt ≤ 1 := btt0_10; omega), (by have t1 : 0 ≤ t0_10.toInt ∧ t0_10.toInt ≤ 1 := btt0_10; omega)⟩) (by first | with_reducible exact q_fe btt0_19 | exact ⟨(by have t1 : 0 ≤ t0_19.toInt ∧ t0_19.toInt ≤ 1 := btt0_19; omega), (by have t1 : 0 ≤ t0_19.toInt ∧ t0_19.toInt ≤ 1 := btt0_19; omega)⟩)
    replace hT1 := (hu40 _ (by decide)).trans hT1
    replace hT2 := (hu40 _ (by decide)).trans hT2
    replace hT3 := (hu40 _ (by decide)).trans hT3
    replace hF := q_us hF hu40 (by simp)
    refine lv_iconst (v := 0) hx hb d_16_9_16 (by decide) ?_
    exact q_reti C0 V (⟨hI, hF, 1, t0_2, t1_0, t2_0, t3_0, hT0, hT1, hT2, hT3, (show 0 ≤ (1 : Int32).toInt from (by have z26 : (0 : Int32).toInt = 0 := rfl; have z27 : (1 : Int32).toInt = 1 := rfl; omega)), (show (1 : Int32).toInt ≤ 1 from (by have z26 : (0 : Int32).toInt = 0 := rfl; have z27 : (1 : Int32).toInt = 1 := rfl; omega)), (show t0_2.toInt ≤ 9 from (by have z26 : (0 : Int32).toInt = 0 := rfl; have z27 : (1 : Int32).toInt = 1 := rfl; have t1 : 0 ≤ t0_2.toInt ∧ t0_2.toInt ≤ 9 := btt0_2; omega)), (show t0_2.toInt ≤ t0_2.toInt from (by have z26 : (0 : Int32).toInt = 0 := rfl; have z27 : (1 : Int32).toInt = 1 := rfl; omega)), (show t0_2.toInt ≤ t0_2.toInt + 1 from (by have z26 : (0 : Int32).toInt = 0 := rfl; have z27 : (1 : Int32).toInt = 1 := rfl; omega)), (show (1 : Int32).toInt ≤ (0 : Int32).toInt + 1 from (by have z26 : (0 : Int32).toInt = 0 := rfl; have z27 : (1 : Int32).toInt = 1 := rfl; omega)), (show (0 : Int32).toInt ≤ t0_2.toInt from (by have z26 : (0 : Int32).toInt = 0 := rfl; have z27 : (1 : Int32).toInt = 1 := rfl; have t1 : 0 ≤ t0_2.toInt ∧ t0_2.toInt ≤ 9 := btt0_2; omega)), (show ((0 : Int32), (1 : Int32), t0_2, t1_0, t2_0, t3_0) = (F_VR_symbol x2 t0_0 t0_1 t0_2 t0_3 t0_4 t0_5 t0_6 t0_7 t0_8 t0_9 t0_10 t0_11 t0_12 t0_13 t0_14 t0_15 t0_16 t0_17 t0_18 t0_19 t0_20 t0_21 t1_0 t2_0 t3_0) from (by rw [F_VR_symbol.eq_1, if_pos c37]))⟩) d_16_9_17
  ·
    refine lv_iload_n hx hb d_16_9_4 rfl (lv_at hl 1 rfl) ?_
    refine lv_sipush (v := 255) hx hb d_16_9_5 (by decide) ?_
    refine lv_icmp_le (tgt := 18) hx hb d_16_9_8 (by decide) (fun c42 => ?_) (fun c42 => ?_)
    ·
      refine lv_aload_n hx hb d_16_9_18 rfl (lv_at hl 0 rfl) ?_
      refine lv_iconst (v := 2) hx hb d_16_9_19 (by decide) ?_
      refine lv_iconst (v := 0) hx hb d_16_9_20 (by decide) ?_
      refine lv_iload_n hx hb d_16_9_21 rfl (lv_at hl 1 rfl) ?_
      refine lv_i2l hx hb d_16_9_22 rfl ?_
      obtain ⟨j44, e45⟩ := q_nm (x2.toInt64 : Int64)
      refine q_tl (v := j44) e45 ?_
      refine q_goi V (q_runV (As := [.int 2, .int 0, .long j44]) (rest := []) (d := 1) (mc := 0) (ms := 0) (ci := 17) C0 V rfl LV_VR_53 (X_VR_enter l D g q ws  2 0 j44 hI t0_0 t0_1 t0_2 t0_3 t0_4 t0_5 t0_6 t0_7 t0_8 t0_9 t0_10 t0_11 t0_12 t0_13 t0_14 t0_15 t0_16 t0_17 t0_18 t0_19 t0_20 t0_21 hT0 t1_0 hT1 t2_0 hT2 t3_0 hT3  _) rfl rfl hT0 rfl hl.1 rfl (Nat.le_of_ble_eq_true rfl) ⟨by decide, by decide⟩ ⟨Nat.le_of_ble_eq_true rfl, Nat.le_of_ble_eq_true rfl⟩ d_16_9_23) (fun a49 u47 H locs hp48 V => ?_)
      obtain ⟨hI, hZ9⟩ := hp48
      obtain ⟨hu68, hZ9⟩ := hZ9
      obtain ⟨y51, hZ9⟩ := hZ9
      obtain ⟨y52, hZ9⟩ := hZ9
      obtain ⟨f53, hZ9⟩ := hZ9
      obtain ⟨f55, hZ9⟩ := hZ9
      obtain ⟨f57, hZ9⟩ := hZ9
      obtain ⟨hO50, hZ9⟩ := hZ9
      obtain ⟨hA54, hZ9⟩ := hZ9
      obtain ⟨hA56, hZ9⟩ := hZ9
      obtain ⟨hA58, hZ9⟩ := hZ9
      obtain ⟨b59, hZ9⟩ := hZ9
      obtain ⟨b60, hZ9⟩ := hZ9
      obtain ⟨b61, hZ9⟩ := hZ9
      obtain ⟨b62, hZ9⟩ := hZ9
      obtain ⟨b63, hZ9⟩ := hZ9
      obtain ⟨b64, hZ9⟩ := hZ9
      obtain ⟨b65, hZ9⟩ := hZ9
      obtain ⟨-, hE67⟩ := hZ9
      replace hO50 : u47[157]? = (some (q 157, .inr (17, [.int y51, .ref (q 158), .int t0_1, .int y52, .ref (q 159), .ref (q 160), .ref (q 161), .ref (q 162), .ref (q 163), .int t0_3, .ref (q 164), .int t0_4, .int t0_5, .int t0_6, .int t0_7, .int t0_8, .int t0_9, .int t0_10, .int t0_11, .int t0_12, .int t0_13, .int t0_14, .int t0_15, .int t0_16, .ref (q 165), .int t0_17, .int t0_18, .int t0_19, .ref (q 166), .int t0_20, .int t0_21])) : Option (Nat × va_E)) := hO50
      replace hA54 : u47[159]? = (some (q 159, .inl (g 0, (9 : Int32).toNatClampNeg, .inl f53)) : Option (Nat × va_E)) := hA54
      replace hA56 : u47[160]? = (some (q 160, .inl (g 0, (9 : Int32).toNatClampNeg, .inl f55)) : Option (Nat × va_E)) := hA56
      replace hA58 : u47[161]? = (some (q 161, .inl (g 1, 9, .inr (.inl f57))) : Option (Nat × va_E)) := hA58
      obtain ⟨p69, e70⟩ : ∃ z, z = (F_VR_enter (2 : Int32) (0 : Int32) j44 t0_0 t0_1 t0_2 t0_3 t0_4 t0_5 t0_6 t0_7 t0_8 t0_9 t0_10 t0_11 t0_12 t0_13 t0_14 t0_15 t0_16 t0_17 t0_18 t0_19 t0_20 t0_21 t1_0 t2_0 t3_0) := ⟨_, rfl⟩
      have e71 : a49 = p69.1 := congrArg (fun z => z.1) (hE67.trans e70.symm)
      have e72 : y51 = p69.2.1 := congrArg (fun z => z.2.1) (hE67.trans e70.symm)
      have e73 : y52 = p69.2.2.1 := congrArg (fun z => z.2.2.1) (hE67.trans e70.symm)
      have e74 : f53 = p69.2.2.2.1 := congrArg (fun z => z.2.2.2.1) (hE67.trans e70.symm)
      have e75 : f55 = p69.2.2.2.2.1 := congrArg (fun z => z.2.2.2.2.1) (hE67.trans e70.symm)
      have e76 : f57 = p69.2.2.2.2.2 := congrArg (fun z => z.2.2.2.2.2) (hE67.trans e70.symm)
      replace b59 : q_F (0 ≤ y51.toInt) := b59
      replace b60 : q_F (y51.toInt ≤ 0) := b60
      replace b61 : q_F (t0_2.toInt ≤ y52.toInt) := b61
      replace b62 : q_F (y52.toInt ≤ t0_2.toInt + 1) := b62
      replace b63 : q_F (y51.toInt ≤ a49.toInt + 1) := b63
      replace b64 : q_F (a49.toInt ≤ y52.toInt) := b64
      replace b65 : q_F (y52.toInt ≤ y51.toInt + 9) := b65
      replace hF := q_uc hF hu68 (by simp)
      have hR77 := (show F_VR_symbol_c23 x2 t0_0 t0_1 t0_2 t0_3 t0_4 t0_5 t0_6 t0_7 t0_8 t0_9 t0_10 t0_11 t0_12 t0_13 t0_14 t0_15 t0_16 t0_17 t0_18 t0_19 t0_20 t0_21 t1_0 t2_0 t3_0 p69 = (F_VR_symbol x2 t0_0 t0_1 t0_2 t0_3 t0_4 t0_5 t0_6 t0_7 t0_8 t0_9 t0_10 t0_11 t0_12 t0_13 t0_14 t0_15 t0_16 t0_17 t0_18 t0_19 t0_20 t0_21 t1_0 t2_0 t3_0) from (by rw [e70, ← e45, F_VR_symbol.eq_1, if_neg c37, if_pos c42]))
      exact q_reti C0 V (⟨hI, hF, y51, y52, f53, f55, f57, hO50, hA54, hA56, hA58, (show 0 ≤ y51.toInt from (by first | with_reducible exact q_fe b59 | (have t1 : 0 ≤ y51.toInt := b59; omega))), (show y51.toInt ≤ 1 from (by first | with_reducible exact q_fe b60 | (have t1 : y51.toInt ≤ 0 := b60; omega))), (show y52.toInt ≤ 9 from (by have t1 : y51.toInt ≤ 0 := b60; have t2 : y52.toInt ≤ y51.toInt + 9 := b65; omega)), (show t0_2.toInt ≤ y52.toInt from (by first | with_reducible exact q_fe b61 | (have t1 : t0_2.toInt ≤ y52.toInt := b61; omega))), (show y52.toInt ≤ t0_2.toInt + 1 from (by first | with_reducible exact q_fe b62 | (have t1 : y52.toInt ≤ t0_2.toInt + 1 := b62; omega))), (show y51.toInt ≤ a49.toInt + 1 from (by first | with_reducible exact q_fe b63 | (have t1 : y51.toInt ≤ a49.toInt + 1 := b63; omega))), (show a49.toInt ≤ y52.toInt from (by first | with_reducible exact q_fe b64 | (have t1 : a49.toInt ≤ y52.toInt := b64; omega))), (show (a49, y51, y52, f53, f55, f57) = (F_VR_symbol x2 t0_0 t0_1 t0_2 t0_3 t0_4 t0_5 t0_6 t0_7 t0_8 t0_9 t0_10 t0_11 t0_12 t0_13 t0_14 t0_15 t0_16 t0_17 t0_18 t0_19 t0_20 t0_21 t1_0 t2_0 t3_0) from Eq.trans (by rw [e76, e75, e74, e73, e72, e71, F_VR_symbol_c23.eq_1]) hR77)⟩) d_16_9_26
    ·
      refine lv_aload_n hx hb d_16_9_11 rfl (lv_at hl 0 rfl) ?_
      refine lv_iconst (v := 1) hx hb d_16_9_12 (by decide) ?_
      refine q_put (ci := 17) (j := 0) (v := .int 1) (ty := .int) C0 V i_VR o_VR n_VR rfl rfl hT0 (by decide) w_2198 rfl rfl rfl rfl (Nat.le_of_ble_eq_true rfl) d_16_9_13 (fun H locs w83 hu84 hT0 V => ?_)
      replace hT0 : w83[157]? = (some (q 157, .inr (17, [.int 1, .ref (q 158), .int t0_1, .int t0_2, .ref (q 159), .ref (q 160), .ref (q 161), .ref (q 162), .ref (q 163), .int t0_3, .ref (q 164), .int t0_4, .int t0_5, .int t0_6, .int t0_7, .int t0_8, .int t0_9, .int t0_10, .int t0_11, .int t0_12, .int t0_13, .int t0_14, .int t0_15, .int t0_16, .ref (q 165), .int t0_17, .int t0_18, .int t0_19, .ref (q 166), .int t0_20, .int t0_21])) : Option (Nat × va_E)) := hT0
      replace hI := n_p157 hI hu84 hT0 (by first | with_reducible exact q_fe btt0_1 | exact ⟨(by have t1 : 0 ≤ t0_1.toInt ∧ t0_1.toInt ≤ 256 := btt0_1; omega), (by have t1 : 0 ≤ t0_1.toInt ∧ t0_1.toInt ≤ 256 := btt0_1; omega)⟩) (by first | with_reducible exact q_fe btt0_2 | exact ⟨(by have t1 : 0 ≤ t0_2.toInt ∧ t0_2.toInt ≤ 9 := btt0_2; omega), (by have t1 : 0 ≤ t0_2.toInt ∧ t0_2.toInt ≤ 9 := btt0_2; omega)⟩) (by first | with_reducible exact q_fe btt0_3 | exact ⟨(by have t1 : 0 ≤ t0_3.toInt ∧ t0_3.toInt ≤ 4096 := btt0_3; omega), (by have t1 : 0 ≤ t0_3.toInt ∧ t0_3.toInt ≤ 4096 := btt0_3; omega)⟩) (by first | with_reducible exact q_fe btt0_10 | exact ⟨(by have t1 : 0 ≤ t0_10.toInt ∧ t0_10.toInt ≤ 1 := btt0_10; omega), (by have t1 : 0 ≤ t0_10.toInt ∧ t0_10.toInt ≤ 1 := btt0_10; omega)⟩) (by first | with_reducible exact q_fe btt0_19 | exact ⟨(by have t1 : 0 ≤ t0_19.toInt ∧ t0_19.toInt ≤ 1 := btt0_19; omega), (by have t1 : 0 ≤ t0_19.toInt ∧ t0_19.toInt ≤ 1 := btt0_19; omega)⟩)
      replace hT1 := (hu84 _ (by decide)).trans hT1
      replace hT2 := (hu84 _ (by decide)).trans hT2
      replace hT3 := (hu84 _ (by decide)).trans hT3
      replace hF := q_us hF hu84 (by simp)
      refine lv_iconst (v := 0) hx hb d_16_9_16 (by decide) ?_
      exact q_reti C0 V (⟨hI, hF, 1, t0_2, t1_0, t2_0, t3_0, hT0, hT1, hT2, hT3, (show 0 ≤ (1 : Int32).toInt from (by have z26 : (0 : Int32).toInt = 0 := rfl; have z27 : (1 : Int32).toInt = 1 := rfl; omega)), (show (1 : Int32).toInt ≤ 1 from (by have z26 : (0 : Int32).toInt = 0 := rfl; have z27 : (1 : Int32).toInt = 1 := rfl; omega)), (show t0_2.toInt ≤ 9 from (by have z26 : (0 : Int32).toInt = 0 := rfl; have z27 : (1 : Int32).toInt = 1 := rfl; have t1 : 0 ≤ t0_2.toInt ∧ t0_2.toInt ≤ 9 := btt0_2; omega)), (show t0_2.toInt ≤ t0_2.toInt from (by have z26 : (0 : Int32).toInt = 0 := rfl; have z27 : (1 : Int32).toInt = 1 := rfl; omega)), (show t0_2.toInt ≤ t0_2.toInt + 1 from (by have z26 : (0 : Int32).toInt = 0 := rfl; have z27 : (1 : Int32).toInt = 1 := rfl; omega)), (show (1 : Int32).toInt ≤ (0 : Int32).toInt + 1 from (by have z26 : (0 : Int32).toInt = 0 := rfl; have z27 : (1 : Int32).toInt = 1 := rfl; omega)), (show (0 : Int32).toInt ≤ t0_2.toInt from (by have z26 : (0 : Int32).toInt = 0 := rfl; have z27 : (1 : Int32).toInt = 1 := rfl; have t1 : 0 ≤ t0_2.toInt ∧ t0_2.toInt ≤ 9 := btt0_2; omega)), (show ((0 : Int32), (1 : Int32), t0_2, t1_0, t2_0, t3_0) = (F_VR_symbol x2 t0_0 t0_1 t0_2 t0_3 t0_4 t0_5 t0_6 t0_7 t0_8 t0_9 t0_10 t0_11 t0_12 t0_13 t0_14 t0_15 t0_16 t0_17 t0_18 t0_19 t0_20 t0_21 t1_0 t2_0 t3_0) from (by rw [F_VR_symbol.eq_1, if_neg c37, if_neg c42]))⟩) d_16_9_17
theorem d_16_11_0 : decode prog_16_method_11_code 0 = .ok (.aload_n 0, 1) := by decide +kernel
theorem d_16_11_1 : decode prog_16_method_11_code 1 = .ok (.getfield 45, 3) := by decide +kernel
set_option maxRecDepth 100000 in
theorem w_2201 : (Cond.fieldLink "NumberHouseModel$DirectiveRows" (45 : Nat) "NumberHouseModel$DirectiveRows" "length" "I") ∈ q_tbl := q_of10 41 rfl (by decide +kernel)
theorem d_16_11_4 : decode prog_16_method_11_code 4 = .ok (.bipush 64, 2) := by decide +kernel
theorem d_16_11_6 : decode prog_16_method_11_code 6 = .ok (.if_icmp .le 10, 3) := by decide +kernel
theorem d_16_11_16 : decode prog_16_method_11_code 16 = .ok (.aload_n 0, 1) := by decide +kernel
theorem d_16_11_17 : decode prog_16_method_11_code 17 = .ok (.iconst 4, 1) := by decide +kernel
theorem d_16_11_18 : decode prog_16_method_11_code 18 = .ok (.aload_n 0, 1) := by decide +kernel
theorem d_16_11_19 : decode prog_16_method_11_code 19 = .ok (.getfield 45, 3) := by decide +kernel
theorem d_16_11_22 : decode prog_16_method_11_code 22 = .ok (.lconst 0, 1) := by decide +kernel
theorem d_16_11_23 : decode prog_16_method_11_code 23 = .ok (.invokevirtual 53, 3) := by decide +kernel
theorem d_16_11_26 : decode prog_16_method_11_code 26 = .ok (.istore_n 1, 1) := by decide +kernel
theorem d_16_11_27 : decode prog_16_method_11_code 27 = .ok (.iload_n 1, 1) := by decide +kernel
theorem d_16_11_28 : decode prog_16_method_11_code 28 = .ok (.ifCond .le 43, 3) := by decide +kernel
theorem d_16_11_71 : decode prog_16_method_11_code 71 = .ok (.iload_n 1, 1) := by decide +kernel
theorem d_16_11_72 : decode prog_16_method_11_code 72 = .ok (.ireturn, 1) := by decide +kernel
theorem d_16_11_31 : decode prog_16_method_11_code 31 = .ok (.iconst 0, 1) := by decide +kernel
theorem d_16_11_32 : decode prog_16_method_11_code 32 = .ok (.istore_n 2, 1) := by decide +kernel
theorem d_16_11_33 : decode prog_16_method_11_code 33 = .ok (.iload_n 2, 1) := by decide +kernel
theorem d_16_11_34 : decode prog_16_method_11_code 34 = .ok (.aload_n 0, 1) := by decide +kernel
theorem d_16_11_35 : decode prog_16_method_11_code 35 = .ok (.getfield 45, 3) := by decide +kernel
theorem d_16_11_38 : decode prog_16_method_11_code 38 = .ok (.if_icmp .ge 28, 3) := by decide +kernel
theorem d_16_11_66 : decode prog_16_method_11_code 66 = .ok (.aload_n 0, 1) := by decide +kernel
theorem d_16_11_67 : decode prog_16_method_11_code 67 = .ok (.iconst 0, 1) := by decide +kernel
theorem d_16_11_68 : decode prog_16_method_11_code 68 = .ok (.putfield 45, 3) := by decide +kernel
theorem d_16_11_41 : decode prog_16_method_11_code 41 = .ok (.aload_n 0, 1) := by decide +kernel
theorem d_16_11_42 : decode prog_16_method_11_code 42 = .ok (.getfield 23, 3) := by decide +kernel
theorem d_16_11_45 : decode prog_16_method_11_code 45 = .ok (.bipush 64, 2) := by decide +kernel
theorem d_16_11_47 : decode prog_16_method_11_code 47 = .ok (.iload_n 1, 1) := by decide +kernel
theorem d_16_11_48 : decode prog_16_method_11_code 48 = .ok (.iconst 1, 1) := by decide +kernel
theorem d_16_11_49 : decode prog_16_method_11_code 49 = .ok (.isub, 1) := by decide +kernel
theorem d_16_11_50 : decode prog_16_method_11_code 50 = .ok (.imul, 1) := by decide +kernel
theorem d_16_11_51 : decode prog_16_method_11_code 51 = .ok (.iload_n 2, 1) := by decide +kernel
theorem d_16_11_52 : decode prog_16_method_11_code 52 = .ok (.iadd, 1) := by decide +kernel
theorem d_16_11_53 : decode prog_16_method_11_code 53 = .ok (.aload_n 0, 1) := by decide +kernel
theorem d_16_11_54 : decode prog_16_method_11_code 54 = .ok (.getfield 7, 3) := by decide +kernel
theorem d_16_11_57 : decode prog_16_method_11_code 57 = .ok (.iload_n 2, 1) := by decide +kernel
theorem d_16_11_58 : decode prog_16_method_11_code 58 = .ok (.iaload, 1) := by decide +kernel
theorem d_16_11_59 : decode prog_16_method_11_code 59 = .ok (.iastore, 1) := by decide +kernel
theorem d_16_11_60 : decode prog_16_method_11_code 60 = .ok (.iinc 2 1, 3) := by decide +kernel
theorem d_16_11_63 : decode prog_16_method_11_code 63 = .ok (.goto (-30), 3) := by decide +kernel
theorem d_16_11_9 : decode prog_16_method_11_code 9 = .ok (.aload_n 0, 1) := by decide +kernel
theorem d_16_11_10 : decode prog_16_method_11_code 10 = .ok (.iconst 1, 1) := by decide +kernel
theorem d_16_11_11 : decode prog_16_method_11_code 11 = .ok (.putfield 42, 3) := by decide +kernel
theorem d_16_11_14 : decode prog_16_method_11_code 14 = .ok (.iconst 0, 1) := by decide +kernel
theorem d_16_11_15 : decode prog_16_method_11_code 15 = .ok (.ireturn, 1) := by decide +kernel
def y_VR_text : MethodName := ⟨"NumberHouseModel$DirectiveRows", "text", "()I"⟩
def F_VR_text_L33 (t0_0 : Int32) (t0_1 : Int32) (t0_2 : Int32) (t0_3 : Int32) (t0_4 : Int32) (t0_5 : Int32) (t0_6 : Int32) (t0_7 : Int32) (t0_8 : Int32) (t0_9 : Int32) (t0_10 : Int32) (t0_11 : Int32) (t0_12 : Int32) (t0_13 : Int32) (t0_14 : Int32) (t0_15 : Int32) (t0_16 : Int32) (t0_17 : Int32) (t0_18 : Int32) (t0_19 : Int32) (t0_20 : Int32) (t0_21 : Int32) (t1_0 : (Nat → Int32)) (t2_0 : (Nat → Int32)) (t3_0 : (Nat → Int32)) (t4_0 : (Nat → Int64)) (t5_0 : (Nat → Int32)) (p67 : (Int32 × Int32 × Int32 × (Nat → Int32) × (Nat → Int32) × (Nat → Int64))) (a47 : Int32) (y49 : Int32) (y50 : Int32) (f51 : (Nat → Int32)) (f53 : (Nat → Int32)) (f55 : (Nat → Int64)) : Nat → Int32 → (Nat → Int32) → (Int32 × Int32 × Int32 × Int32 × (Nat → Int32) × (Nat → Int32) × (Nat → Int64) × (Nat → Int32))
  | 0, _, _ => default
  | fm + 1, lx84, lx85 => if t0_1 ≤ lx84 then ((a47, y49, (0 : Int32), y50, f51, f53, f55, lx85)) else (F_VR_text_L33 t0_0 t0_1 t0_2 t0_3 t0_4 t0_5 t0_6 t0_7 t0_8 t0_9 t0_10 t0_11 t0_12 t0_13 t0_14 t0_15 t0_16 t0_17 t0_18 t0_19 t0_20 t0_21 t1_0 t2_0 t3_0 t4_0 t5_0 p67 a47 y49 y50 f51 f53 f55 fm (lx84 + 1 : Int32) (upd lx85 ((64 * (a47 - 1 : Int32) : Int32) + lx84 : Int32).toNatClampNeg (t1_0 lx84.toNatClampNeg : Int32) : (Nat → Int32)))
def F_VR_text_c23 (t0_0 : Int32) (t0_1 : Int32) (t0_2 : Int32) (t0_3 : Int32) (t0_4 : Int32) (t0_5 : Int32) (t0_6 : Int32) (t0_7 : Int32) (t0_8 : Int32) (t0_9 : Int32) (t0_10 : Int32) (t0_11 : Int32) (t0_12 : Int32) (t0_13 : Int32) (t0_14 : Int32) (t0_15 : Int32) (t0_16 : Int32) (t0_17 : Int32) (t0_18 : Int32) (t0_19 : Int32) (t0_20 : Int32) (t0_21 : Int32) (t1_0 : (Nat → Int32)) (t2_0 : (Nat → Int32)) (t3_0 : (Nat → Int32)) (t4_0 : (Nat → Int64)) (t5_0 : (Nat → Int32)) (p67 : (Int32 × Int32 × Int32 × (Nat → Int32) × (Nat → Int32) × (Nat → Int64))) : Int32 × Int32 × Int32 × Int32 × (Nat → Int32) × (Nat → Int32) × (Nat → Int64) × (Nat → Int32) := if (p67.1 : Int32) ≤ (0 : Int32) then (((p67.1 : Int32), (p67.2.1 : Int32), t0_1, (p67.2.2.1 : Int32), (p67.2.2.2.1 : (Nat → Int32)), (p67.2.2.2.2.1 : (Nat → Int32)), (p67.2.2.2.2.2 : (Nat → Int64)), t5_0)) else (F_VR_text_L33 t0_0 t0_1 t0_2 t0_3 t0_4 t0_5 t0_6 t0_7 t0_8 t0_9 t0_10 t0_11 t0_12 t0_13 t0_14 t0_15 t0_16 t0_17 t0_18 t0_19 t0_20 t0_21 t1_0 t2_0 t3_0 t4_0 t5_0 p67 (p67.1 : Int32) (p67.2.1 : Int32) (p67.2.2.1 : Int32) (p67.2.2.2.1 : (Nat → Int32)) (p67.2.2.2.2.1 : (Nat → Int32)) (p67.2.2.2.2.2 : (Nat → Int64)) ((64 - (0 : Int32).toInt).toNat + 1) 0 t5_0)
def F_VR_text (t0_0 : Int32) (t0_1 : Int32) (t0_2 : Int32) (t0_3 : Int32) (t0_4 : Int32) (t0_5 : Int32) (t0_6 : Int32) (t0_7 : Int32) (t0_8 : Int32) (t0_9 : Int32) (t0_10 : Int32) (t0_11 : Int32) (t0_12 : Int32) (t0_13 : Int32) (t0_14 : Int32) (t0_15 : Int32) (t0_16 : Int32) (t0_17 : Int32) (t0_18 : Int32) (t0_19 : Int32) (t0_20 : Int32) (t0_21 : Int32) (t1_0 : (Nat → Int32)) (t2_0 : (Nat → Int32)) (t3_0 : (Nat → Int32)) (t4_0 : (Nat → Int64)) (t5_0 : (Nat → Int32)) : Int32 × Int32 × Int32 × Int32 × (Nat → Int32) × (Nat → Int32) × (Nat → Int64) × (Nat → Int32) := if t0_1 ≤ (64 : Int32) then (F_VR_text_c23 t0_0 t0_1 t0_2 t0_3 t0_4 t0_5 t0_6 t0_7 t0_8 t0_9 t0_10 t0_11 t0_12 t0_13 t0_14 t0_15 t0_16 t0_17 t0_18 t0_19 t0_20 t0_21 t1_0 t2_0 t3_0 t4_0 t5_0 ((F_VR_enter (4 : Int32) t0_1 (0 : Int64) t0_0 t0_1 t0_2 t0_3 t0_4 t0_5 t0_6 t0_7 t0_8 t0_9 t0_10 t0_11 t0_12 t0_13 t0_14 t0_15 t0_16 t0_17 t0_18 t0_19 t0_20 t0_21 t2_0 t3_0 t4_0) : (Int32 × Int32 × Int32 × (Nat → Int32) × (Nat → Int32) × (Nat → Int64)))) else (((0 : Int32), (1 : Int32), t0_1, t0_2, t2_0, t3_0, t4_0, t5_0))
def S_VR_text_L33 (t0_0 : Int32) (t0_1 : Int32) (t0_2 : Int32) (t0_3 : Int32) (t0_4 : Int32) (t0_5 : Int32) (t0_6 : Int32) (t0_7 : Int32) (t0_8 : Int32) (t0_9 : Int32) (t0_10 : Int32) (t0_11 : Int32) (t0_12 : Int32) (t0_13 : Int32) (t0_14 : Int32) (t0_15 : Int32) (t0_16 : Int32) (t0_17 : Int32) (t0_18 : Int32) (t0_19 : Int32) (t0_20 : Int32) (t0_21 : Int32) (t1_0 : (Nat → Int32)) (t2_0 : (Nat → Int32)) (t3_0 : (Nat → Int32)) (t4_0 : (Nat → Int64)) (t5_0 : (Nat → Int32)) (p67 : (Int32 × Int32 × Int32 × (Nat → Int32) × (Nat → Int32) × (Nat → Int64))) (a47 : Int32) (y49 : Int32) (y50 : Int32) (f51 : (Nat → Int32)) (f53 : (Nat → Int32)) (f55 : (Nat → Int64)) : Nat → Int32 → (Nat → Int32) → Prop
  | 0, _, _ => False
  | fm + 1, lx84, lx85 => if t0_1 ≤ lx84 then (True) else ((0 ≤ ((64 * (a47 - 1 : Int32) : Int32) + lx84 : Int32).toInt) ∧ ((((64 * (a47 - 1 : Int32) : Int32) + lx84 : Int32).toInt ≤ 575) ∧ (S_VR_text_L33 t0_0 t0_1 t0_2 t0_3 t0_4 t0_5 t0_6 t0_7 t0_8 t0_9 t0_10 t0_11 t0_12 t0_13 t0_14 t0_15 t0_16 t0_17 t0_18 t0_19 t0_20 t0_21 t1_0 t2_0 t3_0 t4_0 t5_0 p67 a47 y49 y50 f51 f53 f55 fm (lx84 + 1 : Int32) (upd lx85 ((64 * (a47 - 1 : Int32) : Int32) + lx84 : Int32).toNatClampNeg (t1_0 lx84.toNatClampNeg : Int32) : (Nat → Int32)))))
def S_VR_text_c23 (t0_0 : Int32) (t0_1 : Int32) (t0_2 : Int32) (t0_3 : Int32) (t0_4 : Int32) (t0_5 : Int32) (t0_6 : Int32) (t0_7 : Int32) (t0_8 : Int32) (t0_9 : Int32) (t0_10 : Int32) (t0_11 : Int32) (t0_12 : Int32) (t0_13 : Int32) (t0_14 : Int32) (t0_15 : Int32) (t0_16 : Int32) (t0_17 : Int32) (t0_18 : Int32) (t0_19 : Int32) (t0_20 : Int32) (t0_21 : Int32) (t1_0 : (Nat → Int32)) (t2_0 : (Nat → Int32)) (t3_0 : (Nat → Int32)) (t4_0 : (Nat → Int64)) (t5_0 : (Nat → Int32)) (p67 : (Int32 × Int32 × Int32 × (Nat → Int32) × (Nat → Int32) × (Nat → Int64))) : Prop := if (p67.1 : Int32) ≤ (0 : Int32) then (True) else (S_VR_text_L33 t0_0 t0_1 t0_2 t0_3 t0_4 t0_5 t0_6 t0_7 t0_8 t0_9 t0_10 t0_11 t0_12 t0_13 t0_14 t0_15 t0_16 t0_17 t0_18 t0_19 t0_20 t0_21 t1_0 t2_0 t3_0 t4_0 t5_0 p67 (p67.1 : Int32) (p67.2.1 : Int32) (p67.2.2.1 : Int32) (p67.2.2.2.1 : (Nat → Int32)) (p67.2.2.2.2.1 : (Nat → Int32)) (p67.2.2.2.2.2 : (Nat → Int64)) ((64 - (0 : Int32).toInt).toNat + 1) 0 t5_0)
def S_VR_text (t0_0 : Int32) (t0_1 : Int32) (t0_2 : Int32) (t0_3 : Int32) (t0_4 : Int32) (t0_5 : Int32) (t0_6 : Int32) (t0_7 : Int32) (t0_8 : Int32) (t0_9 : Int32) (t0_10 : Int32) (t0_11 : Int32) (t0_12 : Int32) (t0_13 : Int32) (t0_14 : Int32) (t0_15 : Int32) (t0_16 : Int32) (t0_17 : Int32) (t0_18 : Int32) (t0_19 : Int32) (t0_20 : Int32) (t0_21 : Int32) (t1_0 : (Nat → Int32)) (t2_0 : (Nat → Int32)) (t3_0 : (Nat → Int32)) (t4_0 : (Nat → Int64)) (t5_0 : (Nat → Int32)) : Prop := if t0_1 ≤ (64 : Int32) then (S_VR_text_c23 t0_0 t0_1 t0_2 t0_3 t0_4 t0_5 t0_6 t0_7 t0_8 t0_9 t0_10 t0_11 t0_12 t0_13 t0_14 t0_15 t0_16 t0_17 t0_18 t0_19 t0_20 t0_21 t1_0 t2_0 t3_0 t4_0 t5_0 ((F_VR_enter (4 : Int32) t0_1 (0 : Int64) t0_0 t0_1 t0_2 t0_3 t0_4 t0_5 t0_6 t0_7 t0_8 t0_9 t0_10 t0_11 t0_12 t0_13 t0_14 t0_15 t0_16 t0_17 t0_18 t0_19 t0_20 t0_21 t2_0 t3_0 t4_0) : (Int32 × Int32 × Int32 × (Nat → Int32) × (Nat → Int32) × (Nat → Int64)))) else (True)
set_option maxRecDepth 100000 in
set_option maxHeartbeats 4000000 in
theorem X_VR_text (l : Launch) (D : va_G) (g : Nat → ClassId) (q : Nat → Nat) (ws : va_W) (hI : q_I (msh g q) q ws) (t0_0 : Int32) (t0_1 : Int32) (t0_2 : Int32) (t0_3 : Int32) (t0_4 : Int32) (t0_5 : Int32) (t0_6 : Int32) (t0_7 : Int32) (t0_8 : Int32) (t0_9 : Int32) (t0_10 : Int32) (t0_11 : Int32) (t0_12 : Int32) (t0_13 : Int32) (t0_14 : Int32) (t0_15 : Int32) (t0_16 : Int32) (t0_17 : Int32) (t0_18 : Int32) (t0_19 : Int32) (t0_20 : Int32) (t0_21 : Int32) (hT0 : ws[157]? = (some (q 157, .inr (17, [.int t0_0, .ref (q 158), .int t0_1, .int t0_2, .ref (q 159), .ref (q 160), .ref (q 161), .ref (q 162), .ref (q 163), .int t0_3, .ref (q 164), .int t0_4, .int t0_5, .int t0_6, .int t0_7, .int t0_8, .int t0_9, .int t0_10, .int t0_11, .int t0_12, .int t0_13, .int t0_14, .int t0_15, .int t0_16, .ref (q 165), .int t0_17, .int t0_18, .int t0_19, .ref (q 166), .int t0_20, .int t0_21])) : Option (Nat × va_E))) (t1_0 : (Nat → Int32)) (hT1 : ws[158]? = (some (q 158, .inl (g 0, (256 : Int32).toNatClampNeg, .inl t1_0)) : Option (Nat × va_E))) (t2_0 : (Nat → Int32)) (hT2 : ws[159]? = (some (q 159, .inl (g 0, (9 : Int32).toNatClampNeg, .inl t2_0)) : Option (Nat × va_E))) (t3_0 : (Nat → Int32)) (hT3 : ws[160]? = (some (q 160, .inl (g 0, (9 : Int32).toNatClampNeg, .inl t3_0)) : Option (Nat × va_E))) (t4_0 : (Nat → Int64)) (hT4 : ws[161]? = (some (q 161, .inl (g 1, 9, .inr (.inl t4_0))) : Option (Nat × va_E))) (t5_0 : (Nat → Int32)) (hT5 : ws[162]? = (some (q 162, .inl (g 0, (576 : Int32).toNatClampNeg, .inl t5_0)) : Option (Nat × va_E))) (hS : True ∧ S_VR_text t0_0 t0_1 t0_2 t0_3 t0_4 t0_5 t0_6 t0_7 t0_8 t0_9 t0_10 t0_11 t0_12 t0_13 t0_14 t0_15 t0_16 t0_17 t0_18 t0_19 t0_20 t0_21 t1_0 t2_0 t3_0 t4_0 t5_0) : q_mI l y_VR_text prog_16_method_11_code 3 (.int) 2 0 0 D g [.ref (q 157)] ws (fun r u => q_I (msh g q) q u ∧ q_un ws u [157, 159, 160, 161, 162] ∧ ∃ (u0_0 : Int32) (u0_1 : Int32) (u0_2 : Int32) (u2_0 : (Nat → Int32)) (u3_0 : (Nat → Int32)) (u4_0 : (Nat → Int64)) (u5_0 : (Nat → Int32)), u[157]? = (some (q 157, .inr (17, [.int u0_0, .ref (q 158), .int u0_1, .int u0_2, .ref (q 159), .ref (q 160), .ref (q 161), .ref (q 162), .ref (q 163), .int t0_3, .ref (q 164), .int t0_4, .int t0_5, .int t0_6, .int t0_7, .int t0_8, .int t0_9, .int t0_10, .int t0_11, .int t0_12, .int t0_13, .int t0_14, .int t0_15, .int t0_16, .ref (q 165), .int t0_17, .int t0_18, .int t0_19, .ref (q 166), .int t0_20, .int t0_21])) : Option (Nat × va_E)) ∧ u[159]? = (some (q 159, .inl (g 0, (9 : Int32).toNatClampNeg, .inl u2_0)) : Option (Nat × va_E)) ∧ u[160]? = (some (q 160, .inl (g 0, (9 : Int32).toNatClampNeg, .inl u3_0)) : Option (Nat × va_E)) ∧ u[161]? = (some (q 161, .inl (g 1, 9, .inr (.inl u4_0))) : Option (Nat × va_E)) ∧ u[162]? = (some (q 162, .inl (g 0, (576 : Int32).toNatClampNeg, .inl u5_0)) : Option (Nat × va_E)) ∧ (0 ≤ u0_0.toInt) ∧ (u0_0.toInt ≤ 1) ∧ (u0_2.toInt ≤ 9) ∧ (t0_1.toInt ≤ u0_0.toInt + 255) ∧ (t0_1.toInt ≤ u0_1.toInt + 64) ∧ (u0_1.toInt ≤ t0_1.toInt) ∧ (t0_2.toInt ≤ u0_2.toInt) ∧ (u0_2.toInt ≤ t0_2.toInt + 1) ∧ (u0_0.toInt ≤ r.toInt + 1) ∧ (r.toInt ≤ u0_2.toInt) ∧ (u0_0.toInt ≤ u0_1.toInt) ∧ (r, u0_0, u0_1, u0_2, u2_0, u3_0, u4_0, u5_0) = (F_VR_text t0_0 t0_1 t0_2 t0_3 t0_4 t0_5 t0_6 t0_7 t0_8 t0_9 t0_10 t0_11 t0_12 t0_13 t0_14 t0_15 t0_16 t0_17 t0_18 t0_19 t0_20 t0_21 t1_0 t2_0 t3_0 t4_0 t5_0)) := by
  intro sz
  refine q_into (by decide) (Nat.le_of_ble_eq_true rfl) ?_
  intro p e s m below meth c ls hsz C0 V hl
  have hx := C0.1
  have hb := C0.2.1
  obtain ⟨btt0_1, hZ9⟩ := n_w157 hI hT0
  obtain ⟨btt0_2, hZ9⟩ := hZ9
  obtain ⟨btt0_3, hZ9⟩ := hZ9
  obtain ⟨btt0_10, btt0_19⟩ := hZ9
  replace btt0_1 : q_F (0 ≤ t0_1.toInt ∧ t0_1.toInt ≤ 256) := btt0_1
  replace btt0_2 : q_F (0 ≤ t0_2.toInt ∧ t0_2.toInt ≤ 9) := btt0_2
  replace btt0_3 : q_F (0 ≤ t0_3.toInt ∧ t0_3.toInt ≤ 4096) := btt0_3
  replace btt0_10 : q_F (0 ≤ t0_10.toInt ∧ t0_10.toInt ≤ 1) := btt0_10
  replace btt0_19 : q_F (0 ≤ t0_19.toInt ∧ t0_19.toInt ≤ 1) := btt0_19
  have hF : q_un ws ws [157, 159, 160, 161, 162] := q_u0
  have hl : lv_has ls 3 [(0, .ref (q 157))] := hl
  refine lv_aload_n hx hb d_16_11_0 rfl (lv_at hl 0 rfl) ?_
  refine q_get (ci := 17) (j := 2) (v := .int t0_1) C0 V i_VR rfl rfl hT0 (by decide) w_2201 rfl d_16_11_1 ?_
  refine lv_bipush (v := 64) hx hb d_16_11_4 (by decide) ?_
  refine lv_icmp_le (tgt := 16) hx hb d_16_11_6 (by decide) (fun c43 => ?_) (fun c43 => ?_)
  ·
    have b44 : q_F (t0_1.toInt ≤ 64) := (q_leI c43)
    refine lv_aload_n hx hb d_16_11_16 rfl (lv_at hl 0 rfl) ?_
    refine lv_iconst (v := 4) hx hb d_16_11_17 (by decide) ?_
    refine lv_aload_n hx hb d_16_11_18 rfl (lv_at hl 0 rfl) ?_
    refine q_get (ci := 17) (j := 2) (v := .int t0_1) C0 V i_VR rfl rfl hT0 (by decide) w_2201 rfl d_16_11_19 ?_
    refine lv_lconst (v := 0) hx hb d_16_11_22 (by decide) ?_
    refine q_goi V (q_runV (As := [.int 4, .int t0_1, .long 0]) (rest := []) (d := 1) (mc := 0) (ms := 0) (ci := 17) C0 V rfl LV_VR_53 (X_VR_enter l D g q ws  4 t0_1 0 hI t0_0 t0_1 t0_2 t0_3 t0_4 t0_5 t0_6 t0_7 t0_8 t0_9 t0_10 t0_11 t0_12 t0_13 t0_14 t0_15 t0_16 t0_17 t0_18 t0_19 t0_20 t0_21 hT0 t2_0 hT2 t3_0 hT3 t4_0 hT4  _) rfl rfl hT0 rfl hl.1 rfl (Nat.le_of_ble_eq_true rfl) ⟨by decide, by decide⟩ ⟨Nat.le_of_ble_eq_true rfl, Nat.le_of_ble_eq_true rfl⟩ d_16_11_23) (fun a47 u45 H locs hp46 V => ?_)
    obtain ⟨hI, hZ9⟩ := hp46
    obtain ⟨hu66, hZ9⟩ := hZ9
    obtain ⟨y49, hZ9⟩ := hZ9
    obtain ⟨y50, hZ9⟩ := hZ9
    obtain ⟨f51, hZ9⟩ := hZ9
    obtain ⟨f53, hZ9⟩ := hZ9
    obtain ⟨f55, hZ9⟩ := hZ9
    obtain ⟨hO48, hZ9⟩ := hZ9
    obtain ⟨hA52, hZ9⟩ := hZ9
    obtain ⟨hA54, hZ9⟩ := hZ9
    obtain ⟨hA56, hZ9⟩ := hZ9
    obtain ⟨b57, hZ9⟩ := hZ9
    obtain ⟨b58, hZ9⟩ := hZ9
    obtain ⟨b59, hZ9⟩ := hZ9
    obtain ⟨b60, hZ9⟩ := hZ9
    obtain ⟨b61, hZ9⟩ := hZ9
    obtain ⟨b62, hZ9⟩ := hZ9
    obtain ⟨b63, hZ9⟩ := hZ9
    obtain ⟨-, hE65⟩ := hZ9
    replace hO48 : u45[157]? = (some (q 157, .inr (17, [.int y49, .ref (q 158), .int t0_1, .int y50, .ref (q 159), .ref (q 160), .ref (q 161), .ref (q 162), .ref (q 163), .int t0_3, .ref (q 164), .int t0_4, .int t0_5, .int t0_6, .int t0_7, .int t0_8, .int t0_9, .int t0_10, .int t0_11, .int t0_12, .int t0_13, .int t0_14, .int t0_15, .int t0_16, .ref (q 165), .int t0_17, .int t0_18, .int t0_19, .ref (q 166), .int t0_20, .int t0_21])) : Option (Nat × va_E)) := hO48
    replace hA52 : u45[159]? = (some (q 159, .inl (g 0, (9 : Int32).toNatClampNeg, .inl f51)) : Option (Nat × va_E)) := hA52
    replace hA54 : u45[160]? = (some (q 160, .inl (g 0, (9 : Int32).toNatClampNeg, .inl f53)) : Option (Nat × va_E)) := hA54
    replace hA56 : u45[161]? = (some (q 161, .inl (g 1, 9, .inr (.inl f55))) : Option (Nat × va_E)) := hA56
    obtain ⟨p67, e68⟩ : ∃ z, z = (F_VR_enter (4 : Int32) t0_1 (0 : Int64) t0_0 t0_1 t0_2 t0_3 t0_4 t0_5 t0_6 t0_7 t0_8 t0_9 t0_10 t0_11 t0_12 t0_13 t0_14 t0_15 t0_16 t0_17 t0_18 t0_19 t0_20 t0_21 t2_0 t3_0 t4_0) := ⟨_, rfl⟩
    have e69 : a47 = p67.1 := congrArg (fun z => z.1) (hE65.trans e68.symm)
    have e70 : y49 = p67.2.1 := congrArg (fun z => z.2.1) (hE65.trans e68.symm)
    have e71 : y50 = p67.2.2.1 := congrArg (fun z => z.2.2.1) (hE65.trans e68.symm)
    have e72 : f51 = p67.2.2.2.1 := congrArg (fun z => z.2.2.2.1) (hE65.trans e68.symm)
    have e73 : f53 = p67.2.2.2.2.1 := congrArg (fun z => z.2.2.2.2.1) (hE65.trans e68.symm)
    have e74 : f55 = p67.2.2.2.2.2 := congrArg (fun z => z.2.2.2.2.2) (hE65.trans e68.symm)
    replace b57 : q_F (0 ≤ y49.toInt) := b57
    replace b58 : q_F (y49.toInt ≤ 0) := b58
    replace b59 : q_F (t0_2.toInt ≤ y50.toInt) := b59
    replace b60 : q_F (y50.toInt ≤ t0_2.toInt + 1) := b60
    replace b61 : q_F (y49.toInt ≤ a47.toInt + 1) := b61
    replace b62 : q_F (a47.toInt ≤ y50.toInt) := b62
    replace b63 : q_F (y50.toInt ≤ y49.toInt + 9) := b63
    replace hT1 := (hu66 _ (by decide)).trans hT1
    replace hT5 := (hu66 _ (by decide)).trans hT5
    replace hF := q_uc hF hu66 (by simp)
    have hR75 := (show F_VR_text_c23 t0_0 t0_1 t0_2 t0_3 t0_4 t0_5 t0_6 t0_7 t0_8 t0_9 t0_10 t0_11 t0_12 t0_13 t0_14 t0_15 t0_16 t0_17 t0_18 t0_19 t0_20 t0_21 t1_0 t2_0 t3_0 t4_0 t5_0 p67 = (F_VR_text t0_0 t0_1 t0_2 t0_3 t0_4 t0_5 t0_6 t0_7 t0_8 t0_9 t0_10 t0_11 t0_12 t0_13 t0_14 t0_15 t0_16 t0_17 t0_18 t0_19 t0_20 t0_21 t1_0 t2_0 t3_0 t4_0 t5_0) from (by rw [e68, F_VR_text.eq_1, if_pos c43]))
    have hS76 := (show True ∧ S_VR_text_c23 t0_0 t0_1 t0_2 t0_3 t0_4 t0_5 t0_6 t0_7 t0_8 t0_9 t0_10 t0_11 t0_12 t0_13 t0_14 t0_15 t0_16 t0_17 t0_18 t0_19 t0_20 t0_21 t1_0 t2_0 t3_0 t4_0 t5_0 p67 from (by rw [e68]; have h := hS; rw [S_VR_text.eq_1] at h; rw [if_pos c43] at h; with_reducible exact h))
    refine lv_istore_n (lv' := [(1, .int a47), (0, .ref (q 157))]) hx hb d_16_11_26 rfl hl (by decide) rfl (fun ls hl => ?_)
    refine lv_iload_n hx hb d_16_11_27 rfl (lv_at hl 0 rfl) ?_
    refine lv_if_le (tgt := 71) hx hb d_16_11_28 (by decide) (fun c80 => ?_) (fun c80 => ?_)
    ·
      refine lv_iload_n hx hb d_16_11_71 rfl (lv_at hl 0 rfl) ?_
      exact q_reti C0 V (⟨hI, hF, y49, t0_1, y50, f51, f53, f55, t5_0, hO48, hA52, hA54, hA56, hT5, (show 0 ≤ y49.toInt from (by first | with_reducible exact q_fe b57 | (have t1 : 0 ≤ y49.toInt := b57; omega))), (show y49.toInt ≤ 1 from (by first | with_reducible exact q_fe b58 | (have t1 : y49.toInt ≤ 0 := b58; omega))), (show y50.toInt ≤ 9 from (by have t1 : y49.toInt ≤ 0 := b58; have t2 : y50.toInt ≤ y49.toInt + 9 := b63; omega)), (show t0_1.toInt ≤ y49.toInt + 255 from (by have t1 : t0_1.toInt ≤ 64 := b44; have t2 : 0 ≤ y49.toInt := b57; omega)), (show t0_1.toInt ≤ t0_1.toInt + 64 from (by omega)), (show t0_1.toInt ≤ t0_1.toInt from (by omega)), (show t0_2.toInt ≤ y50.toInt from (by first | with_reducible exact q_fe b59 | (have t1 : t0_2.toInt ≤ y50.toInt := b59; omega))), (show y50.toInt ≤ t0_2.toInt + 1 from (by first | with_reducible exact q_fe b60 | (have t1 : y50.toInt ≤ t0_2.toInt + 1 := b60; omega))), (show y49.toInt ≤ a47.toInt + 1 from (by first | with_reducible exact q_fe b61 | (have t1 : y49.toInt ≤ a47.toInt + 1 := b61; omega))), (show a47.toInt ≤ y50.toInt from (by first | with_reducible exact q_fe b62 | (have t1 : a47.toInt ≤ y50.toInt := b62; omega))), (show y49.toInt ≤ t0_1.toInt from (by have t1 : 0 ≤ t0_1.toInt ∧ t0_1.toInt ≤ 256 := btt0_1; have t2 : y49.toInt ≤ 0 := b58; omega)), (show (a47, y49, t0_1, y50, f51, f53, f55, t5_0) = (F_VR_text t0_0 t0_1 t0_2 t0_3 t0_4 t0_5 t0_6 t0_7 t0_8 t0_9 t0_10 t0_11 t0_12 t0_13 t0_14 t0_15 t0_16 t0_17 t0_18 t0_19 t0_20 t0_21 t1_0 t2_0 t3_0 t4_0 t5_0) from Eq.trans (by have c80x := c80; rw [e69] at c80x; rw [e74, e73, e72, e71, e70, e69, F_VR_text_c23.eq_1, if_pos c80x]) hR75)⟩) d_16_11_72
    ·
      refine lv_iconst (v := 0) hx hb d_16_11_31 (by decide) ?_
      refine lv_istore_n (lv' := [(2, .int 0), (1, .int a47), (0, .ref (q 157))]) hx hb d_16_11_32 rfl hl (by decide) rfl (fun ls hl => ?_)
      refine q_loop (X := Int32 × (Nat → Int32)) (fun z H locs ls w89 => q_F (y49.toInt ≤ z.1.toInt) ∧ q_F (z.1.toInt ≤ t0_1.toInt) ∧ q_Wd D g (va_A ws sz) s w89 H locs ∧ lv_has ls 3 [(2, .int z.1), (1, .int a47), (0, .ref (q 157))] ∧ q_I (msh g q) q w89 ∧ q_un ws w89 [157, 159, 160, 161, 162] ∧ w89[157]? = (some (q 157, .inr (17, [.int y49, .ref (q 158), .int t0_1, .int y50, .ref (q 159), .ref (q 160), .ref (q 161), .ref (q 162), .ref (q 163), .int t0_3, .ref (q 164), .int t0_4, .int t0_5, .int t0_6, .int t0_7, .int t0_8, .int t0_9, .int t0_10, .int t0_11, .int t0_12, .int t0_13, .int t0_14, .int t0_15, .int t0_16, .ref (q 165), .int t0_17, .int t0_18, .int t0_19, .ref (q 166), .int t0_20, .int t0_21])) : Option (Nat × va_E)) ∧ w89[158]? = (some (q 158, .inl (g 0, (256 : Int32).toNatClampNeg, .inl t1_0)) : Option (Nat × va_E)) ∧ w89[159]? = (some (q 159, .inl (g 0, (9 : Int32).toNatClampNeg, .inl f51)) : Option (Nat × va_E)) ∧ w89[160]? = (some (q 160, .inl (g 0, (9 : Int32).toNatClampNeg, .inl f53)) : Option (Nat × va_E)) ∧ w89[161]? = (some (q 161, .inl (g 1, 9, .inr (.inl f55))) : Option (Nat × va_E)) ∧ w89[162]? = (some (q 162, .inl (g 0, (576 : Int32).toNatClampNeg, .inl z.2)) : Option (Nat × va_E)) ∧ (∃ n, (64 - z.1.toInt).toNat < n ∧ F_VR_text_L33 t0_0 t0_1 t0_2 t0_3 t0_4 t0_5 t0_6 t0_7 t0_8 t0_9 t0_10 t0_11 t0_12 t0_13 t0_14 t0_15 t0_16 t0_17 t0_18 t0_19 t0_20 t0_21 t1_0 t2_0 t3_0 t4_0 t5_0 p67 a47 y49 y50 f51 f53 f55 n z.1 z.2 = (F_VR_text t0_0 t0_1 t0_2 t0_3 t0_4 t0_5 t0_6 t0_7 t0_8 t0_9 t0_10 t0_11 t0_12 t0_13 t0_14 t0_15 t0_16 t0_17 t0_18 t0_19 t0_20 t0_21 t1_0 t2_0 t3_0 t4_0 t5_0) ∧ True ∧ S_VR_text_L33 t0_0 t0_1 t0_2 t0_3 t0_4 t0_5 t0_6 t0_7 t0_8 t0_9 t0_10 t0_11 t0_12 t0_13 t0_14 t0_15 t0_16 t0_17 t0_18 t0_19 t0_20 t0_21 t1_0 t2_0 t3_0 t4_0 t5_0 p67 a47 y49 y50 f51 f53 f55 n z.1 z.2)) (fun z => (64 - z.1.toInt).toNat) ?_ ((0 : Int32), (t5_0 : (Nat → Int32))) _ _ _ u45 ⟨(show q_F (y49.toInt ≤ 0) from (show y49.toInt ≤ 0 from by have t1 : y49.toInt ≤ 0 := b58; omega)), (show q_F (0 ≤ t0_1.toInt) from (show 0 ≤ t0_1.toInt from by have t1 : 0 ≤ t0_1.toInt ∧ t0_1.toInt ≤ 256 := btt0_1; omega)), V, q_lw hl (q_lw1 0 rfl (q_lw1 1 rfl (q_lw1 2 rfl q_lw0))), hI, hF, hO48, hT1, hA52, hA54, hA56, hT5, ⟨((64 - (0 : Int32).toInt).toNat + 1), Nat.lt_succ_self _, (show F_VR_text_L33 t0_0 t0_1 t0_2 t0_3 t0_4 t0_5 t0_6 t0_7 t0_8 t0_9 t0_10 t0_11 t0_12 t0_13 t0_14 t0_15 t0_16 t0_17 t0_18 t0_19 t0_20 t0_21 t1_0 t2_0 t3_0 t4_0 t5_0 p67 a47 y49 y50 f51 f53 f55 ((64 - (0 : Int32).toInt).toNat + 1) 0 t5_0 = (F_VR_text t0_0 t0_1 t0_2 t0_3 t0_4 t0_5 t0_6 t0_7 t0_8 t0_9 t0_10 t0_11 t0_12 t0_13 t0_14 t0_15 t0_16 t0_17 t0_18 t0_19 t0_20 t0_21 t1_0 t2_0 t3_0 t4_0 t5_0) from Eq.trans (by have c80x := c80; rw [e69] at c80x; rw [e74, e73, e72, e71, e70, e69, F_VR_text_c23.eq_1, if_neg c80x]) hR75), (show True ∧ S_VR_text_L33 t0_0 t0_1 t0_2 t0_3 t0_4 t0_5 t0_6 t0_7 t0_8 t0_9 t0_10 t0_11 t0_12 t0_13 t0_14 t0_15 t0_16 t0_17 t0_18 t0_19 t0_20 t0_21 t1_0 t2_0 t3_0 t4_0 t5_0 p67 a47 y49 y50 f51 f53 f55 ((64 - (0 : Int32).toInt).toNat + 1) 0 t5_0 from (by rw [e74, e73, e72, e71, e70, e69]; have h := hS76; rw [S_VR_text_c23.eq_1] at h; have c80x := c80; rw [e69] at c80x; rw [if_neg c80x] at h; with_reducible exact h))⟩⟩
      rintro ⟨lx84, lx85⟩ H locs ls w89 ⟨i86, i87, V, hl, hI, hF, hO90, hO91, hO92, hO93, hO94, hO95, ⟨fu98, hf99, hR96, hS97⟩⟩ ih88
      obtain ⟨fm100, rfl⟩ : ∃ m, fu98 = m + 1 := ⟨fu98 - 1, by omega⟩
      replace i86 : q_F (y49.toInt ≤ lx84.toInt) := i86
      replace i87 : q_F (lx84.toInt ≤ t0_1.toInt) := i87
      replace hl : lv_has ls 3 [(2, .int lx84), (1, .int a47), (0, .ref (q 157))] := hl
      replace hO90 : w89[157]? = (some (q 157, .inr (17, [.int y49, .ref (q 158), .int t0_1, .int y50, .ref (q 159), .ref (q 160), .ref (q 161), .ref (q 162), .ref (q 163), .int t0_3, .ref (q 164), .int t0_4, .int t0_5, .int t0_6, .int t0_7, .int t0_8, .int t0_9, .int t0_10, .int t0_11, .int t0_12, .int t0_13, .int t0_14, .int t0_15, .int t0_16, .ref (q 165), .int t0_17, .int t0_18, .int t0_19, .ref (q 166), .int t0_20, .int t0_21])) : Option (Nat × va_E)) := hO90
      replace hO91 : w89[158]? = (some (q 158, .inl (g 0, (256 : Int32).toNatClampNeg, .inl t1_0)) : Option (Nat × va_E)) := hO91
      replace hO92 : w89[159]? = (some (q 159, .inl (g 0, (9 : Int32).toNatClampNeg, .inl f51)) : Option (Nat × va_E)) := hO92
      replace hO93 : w89[160]? = (some (q 160, .inl (g 0, (9 : Int32).toNatClampNeg, .inl f53)) : Option (Nat × va_E)) := hO93
      replace hO94 : w89[161]? = (some (q 161, .inl (g 1, 9, .inr (.inl f55))) : Option (Nat × va_E)) := hO94
      replace hO95 : w89[162]? = (some (q 162, .inl (g 0, (576 : Int32).toNatClampNeg, .inl lx85)) : Option (Nat × va_E)) := hO95
      refine lv_iload_n hx hb d_16_11_33 rfl (lv_at hl 0 rfl) ?_
      refine lv_aload_n hx hb d_16_11_34 rfl (lv_at hl 2 rfl) ?_
      refine q_get (ci := 17) (j := 2) (v := .int t0_1) C0 V i_VR rfl rfl hO90 (by decide) w_2201 rfl d_16_11_35 ?_
      refine lv_icmp_ge (tgt := 66) hx hb d_16_11_38 (by decide) (fun c101 => ?_) (fun c101 => ?_)
      ·
        refine lv_aload_n hx hb d_16_11_66 rfl (lv_at hl 2 rfl) ?_
        refine lv_iconst (v := 0) hx hb d_16_11_67 (by decide) ?_
        refine q_put (ci := 17) (j := 2) (v := .int 0) (ty := .int) C0 V i_VR o_VR n_VR rfl rfl hO90 (by decide) w_2201 rfl rfl rfl rfl (Nat.le_of_ble_eq_true rfl) d_16_11_68 (fun H locs w103 hu104 hO90 V => ?_)
        replace hO90 : w103[157]? = (some (q 157, .inr (17, [.int y49, .ref (q 158), .int 0, .int y50, .ref (q 159), .ref (q 160), .ref (q 161), .ref (q 162), .ref (q 163), .int t0_3, .ref (q 164), .int t0_4, .int t0_5, .int t0_6, .int t0_7, .int t0_8, .int t0_9, .int t0_10, .int t0_11, .int t0_12, .int t0_13, .int t0_14, .int t0_15, .int t0_16, .ref (q 165), .int t0_17, .int t0_18, .int t0_19, .ref (q 166), .int t0_20, .int t0_21])) : Option (Nat × va_E)) := hO90
        replace hI := n_p157 hI hu104 hO90 ⟨(by have z9 : (0 : Int32).toInt = 0 := rfl; omega), (by have z9 : (0 : Int32).toInt = 0 := rfl; omega)⟩ ⟨(by have t1 : 0 ≤ t0_2.toInt ∧ t0_2.toInt ≤ 9 := btt0_2; have t2 : t0_2.toInt ≤ y50.toInt := b59; omega), (by have t1 : y49.toInt ≤ 0 := b58; have t2 : y50.toInt ≤ y49.toInt + 9 := b63; omega)⟩ (by first | with_reducible exact q_fe btt0_3 | exact ⟨(by have t1 : 0 ≤ t0_3.toInt ∧ t0_3.toInt ≤ 4096 := btt0_3; omega), (by have t1 : 0 ≤ t0_3.toInt ∧ t0_3.toInt ≤ 4096 := btt0_3; omega)⟩) (by first | with_reducible exact q_fe btt0_10 | exact ⟨(by have t1 : 0 ≤ t0_10.toInt ∧ t0_10.toInt ≤ 1 := btt0_10; omega), (by have t1 : 0 ≤ t0_10.toInt ∧ t0_10.toInt ≤ 1 := btt0_10; omega)⟩) (by first | with_reducible exact q_fe btt0_19 | exact ⟨(by have t1 : 0 ≤ t0_19.toInt ∧ t0_19.toInt ≤ 1 := btt0_19; omega), (by have t1 : 0 ≤ t0_19.toInt ∧ t0_19.toInt ≤ 1 := btt0_19; omega)⟩)
        replace hO92 := (hu104 _ (by decide)).trans hO92
        replace hO93 := (hu104 _ (by decide)).trans hO93
        replace hO94 := (hu104 _ (by decide)).trans hO94
        replace hO95 := (hu104 _ (by decide)).trans hO95
        replace hF := q_us hF hu104 (by simp)
        refine lv_iload_n hx hb d_16_11_71 rfl (lv_at hl 1 rfl) ?_
        exact q_reti C0 V (⟨hI, hF, y49, 0, y50, f51, f53, f55, lx85, hO90, hO92, hO93, hO94, hO95, (show 0 ≤ y49.toInt from (by have z29 : (0 : Int32).toInt = 0 := rfl; have t1 : 0 ≤ y49.toInt := b57; omega)), (show y49.toInt ≤ 1 from (by have z29 : (0 : Int32).toInt = 0 := rfl; have t1 : y49.toInt ≤ 0 := b58; omega)), (show y50.toInt ≤ 9 from (by have z29 : (0 : Int32).toInt = 0 := rfl; have t1 : y49.toInt ≤ 0 := b58; have t2 : y50.toInt ≤ y49.toInt + 9 := b63; omega)), (show t0_1.toInt ≤ y49.toInt + 255 from (by have z29 : (0 : Int32).toInt = 0 := rfl; have t1 : t0_1.toInt ≤ 64 := b44; have t2 : 0 ≤ y49.toInt := b57; omega)), (show t0_1.toInt ≤ (0 : Int32).toInt + 64 from (by have z29 : (0 : Int32).toInt = 0 := rfl; have t1 : t0_1.toInt ≤ 64 := b44; omega)), (show (0 : Int32).toInt ≤ t0_1.toInt from (by have z29 : (0 : Int32).toInt = 0 := rfl; have t1 : 0 ≤ t0_1.toInt ∧ t0_1.toInt ≤ 256 := btt0_1; omega)), (show t0_2.toInt ≤ y50.toInt from (by have z29 : (0 : Int32).toInt = 0 := rfl; have t1 : t0_2.toInt ≤ y50.toInt := b59; omega)), (show y50.toInt ≤ t0_2.toInt + 1 from (by have z29 : (0 : Int32).toInt = 0 := rfl; have t1 : y50.toInt ≤ t0_2.toInt + 1 := b60; omega)), (show y49.toInt ≤ a47.toInt + 1 from (by have z29 : (0 : Int32).toInt = 0 := rfl; have t1 : y49.toInt ≤ a47.toInt + 1 := b61; omega)), (show a47.toInt ≤ y50.toInt from (by have z29 : (0 : Int32).toInt = 0 := rfl; have t1 : a47.toInt ≤ y50.toInt := b62; omega)), (show y49.toInt ≤ (0 : Int32).toInt from (by have z29 : (0 : Int32).toInt = 0 := rfl; have t1 : y49.toInt ≤ 0 := b58; omega)), (show (a47, y49, (0 : Int32), y50, f51, f53, f55, lx85) = (F_VR_text t0_0 t0_1 t0_2 t0_3 t0_4 t0_5 t0_6 t0_7 t0_8 t0_9 t0_10 t0_11 t0_12 t0_13 t0_14 t0_15 t0_16 t0_17 t0_18 t0_19 t0_20 t0_21 t1_0 t2_0 t3_0 t4_0 t5_0) from Eq.trans (by rw [F_VR_text_L33.eq_2, if_pos c101]) hR96)⟩) d_16_11_72
      ·
        have b105 : q_F (lx84.toInt < t0_1.toInt) := (q_nleI c101)
        refine lv_aload_n hx hb d_16_11_41 rfl (lv_at hl 2 rfl) ?_
        refine q_get (ci := 17) (j := 7) (v := .ref (q 162)) C0 V i_VR rfl rfl hO90 (by decide) w_2208 rfl d_16_11_42 ?_
        refine lv_bipush (v := 64) hx hb d_16_11_45 (by decide) ?_
        refine lv_iload_n hx hb d_16_11_47 rfl (lv_at hl 1 rfl) ?_
        refine lv_iconst (v := 1) hx hb d_16_11_48 (by decide) ?_
        refine lv_isub hx hb d_16_11_49 ?_
        obtain ⟨a106, e107⟩ := q_nm (a47 - 1 : Int32)
        refine q_ti (v := a106) e107 ?_
        refine lv_imul hx hb d_16_11_50 ?_
        obtain ⟨a109, e110⟩ := q_nm (64 * a106 : Int32)
        refine q_ti (v := a109) e110 ?_
        refine lv_iload_n hx hb d_16_11_51 rfl (lv_at hl 0 rfl) ?_
        refine lv_iadd hx hb d_16_11_52 ?_
        obtain ⟨a112, e113⟩ := q_nm (a109 + lx84 : Int32)
        refine q_ti (v := a112) e113 ?_
        refine lv_aload_n hx hb d_16_11_53 rfl (lv_at hl 2 rfl) ?_
        refine q_get (ci := 17) (j := 1) (v := .ref (q 158)) C0 V i_VR rfl rfl hO90 (by decide) w_2199 rfl d_16_11_54 ?_
        refine lv_iload_n hx hb d_16_11_57 rfl (lv_at hl 0 rfl) ?_
        refine q_iald C0 V hO91 (q_ix (x := lx84.toInt) rfl (by have t1 : 0 ≤ y49.toInt := b57; have t2 : y49.toInt ≤ lx84.toInt := i86; omega) (by have t1 : 0 ≤ y49.toInt := b57; have t2 : y49.toInt ≤ lx84.toInt := i86; have t3 : t0_1.toInt ≤ 64 := b44; have t4 : lx84.toInt ≤ t0_1.toInt := i87; have e9 : (((256 : Int32).toNatClampNeg : Nat) : Int) = 256 := (by decide); omega)) d_16_11_58 ?_
        obtain ⟨a115, e116⟩ := q_nm (t1_0 lx84.toNatClampNeg : Int32)
        refine q_ti (v := a115) e116 ?_
        have ob117 : q_F (0 ≤ a112.toInt) := (by rw [← e113, ← e110, ← e107]; have h := hS97; rw [S_VR_text_L33.eq_2] at h; rw [if_neg c101] at h; exact h.2.1)
        have ob118 : q_F (a112.toInt ≤ 575) := (by rw [← e113, ← e110, ← e107]; have h := hS97; rw [S_VR_text_L33.eq_2] at h; rw [if_neg c101] at h; replace h := q_s2 h; exact h.2.1)
        refine q_iast C0 V hO95 (q_ix (x := a112.toInt) rfl (by first | with_reducible exact q_fe ob117 | (have t1 : 0 ≤ a112.toInt := ob117; omega)) (by have t1 : 0 ≤ a112.toInt := ob117; have t2 : a112.toInt ≤ 575 := ob118; have e9 : (((576 : Int32).toNatClampNeg : Nat) : Int) = 576 := (by decide); omega)) d_16_11_59 (fun H locs w119 hu120 hO95 V => ?_)
        replace hI := n_ai' hI (n_r162 g q).1 hu120 hO95 (q_updB (fun _ => s_bnd) s_bnd)
        replace hO90 := (hu120 _ (by decide)).trans hO90
        replace hO91 := (hu120 _ (by decide)).trans hO91
        replace hO92 := (hu120 _ (by decide)).trans hO92
        replace hO93 := (hu120 _ (by decide)).trans hO93
        replace hO94 := (hu120 _ (by decide)).trans hO94
        replace hF := q_us hF hu120 (by simp)
        obtain ⟨f121, e122⟩ := q_nm (upd lx85 a112.toNatClampNeg a115 : (Nat → Int32))
        rw [e122] at hO95
        obtain ⟨a123, e124⟩ := q_nm (lx84 + 1 : Int32)
        have b125 : q_F (a123.toInt = lx84.toInt + 1) := (by rw [← e124]; exact q_addI (y := 1) rfl (by decide) (by have _ := q_lo32 (x := lx84); have _ := q_hi32 (x := lx84); have t1 : lx84.toInt < t0_1.toInt := b105; have _ := q_lo32 (x := t0_1); have _ := q_hi32 (x := t0_1); omega) (by have _ := q_lo32 (x := lx84); have _ := q_hi32 (x := lx84); have t1 : lx84.toInt < t0_1.toInt := b105; have _ := q_lo32 (x := t0_1); have _ := q_hi32 (x := t0_1); omega))
        refine lv_iinc (v := a123) (lv' := [(2, .int a123), (1, .int a47), (0, .ref (q 157))]) hx hb d_16_11_60 hl (k := 0) rfl (e124) (by decide) rfl (fun ls hl => ?_)
        refine lv_goto (tgt := 33) hx hb d_16_11_63 (by decide) ?_
        exact ih88 ((a123 : Int32), (f121 : (Nat → Int32))) _ _ _ _ (show (64 - a123.toInt).toNat < (64 - lx84.toInt).toNat from by have t1 : a123.toInt = lx84.toInt + 1 := b125; have t2 : t0_1.toInt ≤ 64 := b44; have t3 : lx84.toInt ≤ t0_1.toInt := i87; have t4 : lx84.toInt < t0_1.toInt := b105; omega) ⟨(show q_F (y49.toInt ≤ a123.toInt) from (show y49.toInt ≤ a123.toInt from by have t1 : y49.toInt ≤ lx84.toInt := i86; have t2 : a123.toInt = lx84.toInt + 1 := b125; omega)), (show q_F (a123.toInt ≤ t0_1.toInt) from (show a123.toInt ≤ t0_1.toInt from by have t1 : lx84.toInt < t0_1.toInt := b105; have t2 : a123.toInt = lx84.toInt + 1 := b125; omega)), V, q_lw hl (q_lw1 0 rfl (q_lw1 1 rfl (q_lw1 2 rfl q_lw0))), hI, hF, hO90, hO91, hO92, hO93, hO94, hO95, ⟨fm100, Nat.lt_of_lt_of_le (show (64 - a123.toInt).toNat < (64 - lx84.toInt).toNat from by have t1 : a123.toInt = lx84.toInt + 1 := b125; have t2 : t0_1.toInt ≤ 64 := b44; have t3 : lx84.toInt ≤ t0_1.toInt := i87; have t4 : lx84.toInt < t0_1.toInt := b105; omega) (Nat.le_of_lt_succ hf99), (show F_VR_text_L33 t0_0 t0_1 t0_2 t0_3 t0_4 t0_5 t0_6 t0_7 t0_8 t0_9 t0_10 t0_11 t0_12 t0_13 t0_14 t0_15 t0_16 t0_17 t0_18 t0_19 t0_20 t0_21 t1_0 t2_0 t3_0 t4_0 t5_0 p67 a47 y49 y50 f51 f53 f55 fm100 a123 f121 = (F_VR_text t0_0 t0_1 t0_2 t0_3 t0_4 t0_5 t0_6 t0_7 t0_8 t0_9 t0_10 t0_11 t0_12 t0_13 t0_14 t0_15 t0_16 t0_17 t0_18 t0_19 t0_20 t0_21 t1_0 t2_0 t3_0 t4_0 t5_0) from Eq.trans (by rw [← e124, ← e122, ← e116, ← e113, ← e110, ← e107, F_VR_text_L33.eq_2, if_neg c101]) hR96), (show True ∧ S_VR_text_L33 t0_0 t0_1 t0_2 t0_3 t0_4 t0_5 t0_6 t0_7 t0_8 t0_9 t0_10 t0_11 t0_12 t0_13 t0_14 t0_15 t0_16 t0_17 t0_18 t0_19 t0_20 t0_21 t1_0 t2_0 t3_0 t4_0 t5_0 p67 a47 y49 y50 f51 f53 f55 fm100 a123 f121 from (by rw [← e124, ← e122, ← e116, ← e113, ← e110, ← e107]; have h := hS97; rw [S_VR_text_L33.eq_2] at h; rw [if_neg c101] at h; replace h := q_s2 h; replace h := q_s2 h; with_reducible exact h))⟩⟩
  ·
    have b126 : q_F (64 < t0_1.toInt) := (q_nleI c43)
    refine lv_aload_n hx hb d_16_11_9 rfl (lv_at hl 0 rfl) ?_
    refine lv_iconst (v := 1) hx hb d_16_11_10 (by decide) ?_
    refine q_put (ci := 17) (j := 0) (v := .int 1) (ty := .int) C0 V i_VR o_VR n_VR rfl rfl hT0 (by decide) w_2198 rfl rfl rfl rfl (Nat.le_of_ble_eq_true rfl) d_16_11_11 (fun H locs w127 hu128 hT0 V => ?_)
    replace hT0 : w127[157]? = (some (q 157, .inr (17, [.int 1, .ref (q 158), .int t0_1, .int t0_2, .ref (q 159), .ref (q 160), .ref (q 161), .ref (q 162), .ref (q 163), .int t0_3, .ref (q 164), .int t0_4, .int t0_5, .int t0_6, .int t0_7, .int t0_8, .int t0_9, .int t0_10, .int t0_11, .int t0_12, .int t0_13, .int t0_14, .int t0_15, .int t0_16, .ref (q 165), .int t0_17, .int t0_18, .int t0_19, .ref (q 166), .int t0_20, .int t0_21])) : Option (Nat × va_E)) := hT0
    replace hI := n_p157 hI hu128 hT0 (by first | with_reducible exact q_fe btt0_1 | exact ⟨(by have t1 : 0 ≤ t0_1.toInt ∧ t0_1.toInt ≤ 256 := btt0_1; omega), (by have t1 : 0 ≤ t0_1.toInt ∧ t0_1.toInt ≤ 256 := btt0_1; omega)⟩) (by first | with_reducible exact q_fe btt0_2 | exact ⟨(by have t1 : 0 ≤ t0_2.toInt ∧ t0_2.toInt ≤ 9 := btt0_2; omega), (by have t1 : 0 ≤ t0_2.toInt ∧ t0_2.toInt ≤ 9 := btt0_2; omega)⟩) (by first | with_reducible exact q_fe btt0_3 | exact ⟨(by have t1 : 0 ≤ t0_3.toInt ∧ t0_3.toInt ≤ 4096 := btt0_3; omega), (by have t1 : 0 ≤ t0_3.toInt ∧ t0_3.toInt ≤ 4096 := btt0_3; omega)⟩) (by first | with_reducible exact q_fe btt0_10 | exact ⟨(by have t1 : 0 ≤ t0_10.toInt ∧ t0_10.toInt ≤ 1 := btt0_10; omega), (by have t1 : 0 ≤ t0_10.toInt ∧ t0_10.toInt ≤ 1 := btt0_10; omega)⟩) (by first | with_reducible exact q_fe btt0_19 | exact ⟨(by have t1 : 0 ≤ t0_19.toInt ∧ t0_19.toInt ≤ 1 := btt0_19; omega), (by have t1 : 0 ≤ t0_19.toInt ∧ t0_19.toInt ≤ 1 := btt0_19; omega)⟩)
    replace hT2 := (hu128 _ (by decide)).trans hT2
    replace hT3 := (hu128 _ (by decide)).trans hT3
    replace hT4 := (hu128 _ (by decide)).trans hT4
    replace hT5 := (hu128 _ (by decide)).trans hT5
    replace hF := q_us hF hu128 (by simp)
    refine lv_iconst (v := 0) hx hb d_16_11_14 (by decide) ?_
    exact q_reti C0 V (⟨hI, hF, 1, t0_1, t0_2, t2_0, t3_0, t4_0, t5_0, hT0, hT2, hT3, hT4, hT5, (show 0 ≤ (1 : Int32).toInt from (by have z27 : (0 : Int32).toInt = 0 := rfl; have z28 : (1 : Int32).toInt = 1 := rfl; omega)), (show (1 : Int32).toInt ≤ 1 from (by have z27 : (0 : Int32).toInt = 0 := rfl; have z28 : (1 : Int32).toInt = 1 := rfl; omega)), (show t0_2.toInt ≤ 9 from (by have z27 : (0 : Int32).toInt = 0 := rfl; have z28 : (1 : Int32).toInt = 1 := rfl; have t1 : 0 ≤ t0_2.toInt ∧ t0_2.toInt ≤ 9 := btt0_2; omega)), (show t0_1.toInt ≤ (1 : Int32).toInt + 255 from (by have z27 : (0 : Int32).toInt = 0 := rfl; have z28 : (1 : Int32).toInt = 1 := rfl; have t1 : 0 ≤ t0_1.toInt ∧ t0_1.toInt ≤ 256 := btt0_1; omega)), (show t0_1.toInt ≤ t0_1.toInt + 64 from (by have z27 : (0 : Int32).toInt = 0 := rfl; have z28 : (1 : Int32).toInt = 1 := rfl; omega)), (show t0_1.toInt ≤ t0_1.toInt from (by have z27 : (0 : Int32).toInt = 0 := rfl; have z28 : (1 : Int32).toInt = 1 := rfl; omega)), (show t0_2.toInt ≤ t0_2.toInt from (by have z27 : (0 : Int32).toInt = 0 := rfl; have z28 : (1 : Int32).toInt = 1 := rfl; omega)), (show t0_2.toInt ≤ t0_2.toInt + 1 from (by have z27 : (0 : Int32).toInt = 0 := rfl; have z28 : (1 : Int32).toInt = 1 := rfl; omega)), (show (1 : Int32).toInt ≤ (0 : Int32).toInt + 1 from (by have z27 : (0 : Int32).toInt = 0 := rfl; have z28 : (1 : Int32).toInt = 1 := rfl; omega)), (show (0 : Int32).toInt ≤ t0_2.toInt from (by have z27 : (0 : Int32).toInt = 0 := rfl; have z28 : (1 : Int32).toInt = 1 := rfl; have t1 : 0 ≤ t0_2.toInt ∧ t0_2.toInt ≤ 9 := btt0_2; omega)), (show (1 : Int32).toInt ≤ t0_1.toInt from (by have z27 : (0 : Int32).toInt = 0 := rfl; have z28 : (1 : Int32).toInt = 1 := rfl; have t1 : 64 < t0_1.toInt := b126; omega)), (show ((0 : Int32), (1 : Int32), t0_1, t0_2, t2_0, t3_0, t4_0, t5_0) = (F_VR_text t0_0 t0_1 t0_2 t0_3 t0_4 t0_5 t0_6 t0_7 t0_8 t0_9 t0_10 t0_11 t0_12 t0_13 t0_14 t0_15 t0_16 t0_17 t0_18 t0_19 t0_20 t0_21 t1_0 t2_0 t3_0 t4_0 t5_0) from (by rw [F_VR_text.eq_1, if_neg c43]))⟩) d_16_11_15

