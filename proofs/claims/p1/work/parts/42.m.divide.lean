/-! the law, case 11: divide -/
theorem d_947 : decode code 947 = .ok (.aload_n 1, 1) := by decide +kernel
theorem d_948 : decode code 948 = .ok (.aload_n 0, 1) := by decide +kernel
theorem d_949 : decode code 949 = .ok (.iload 4, 2) := by decide +kernel
theorem d_951 : decode code 951 = .ok (.iconst 1, 1) := by decide +kernel
theorem d_952 : decode code 952 = .ok (.iadd, 1) := by decide +kernel
theorem d_953 : decode code 953 = .ok (.iaload, 1) := by decide +kernel
theorem d_954 : decode code 954 = .ok (.aload_n 0, 1) := by decide +kernel
theorem d_955 : decode code 955 = .ok (.iload 4, 2) := by decide +kernel
theorem d_957 : decode code 957 = .ok (.iconst 2, 1) := by decide +kernel
theorem d_958 : decode code 958 = .ok (.iadd, 1) := by decide +kernel
theorem d_959 : decode code 959 = .ok (.iaload, 1) := by decide +kernel
theorem d_960 : decode code 960 = .ok (.aload_n 0, 1) := by decide +kernel
theorem d_961 : decode code 961 = .ok (.iload 4, 2) := by decide +kernel
theorem d_963 : decode code 963 = .ok (.iconst 3, 1) := by decide +kernel
theorem d_964 : decode code 964 = .ok (.iadd, 1) := by decide +kernel
theorem d_965 : decode code 965 = .ok (.iaload, 1) := by decide +kernel
theorem d_966 : decode code 966 = .ok (.aload_n 0, 1) := by decide +kernel
theorem d_967 : decode code 967 = .ok (.iload 4, 2) := by decide +kernel
theorem d_969 : decode code 969 = .ok (.iconst 4, 1) := by decide +kernel
theorem d_970 : decode code 970 = .ok (.iadd, 1) := by decide +kernel
theorem d_971 : decode code 971 = .ok (.iaload, 1) := by decide +kernel
theorem d_972 : decode code 972 = .ok (.aload_n 0, 1) := by decide +kernel
theorem d_973 : decode code 973 = .ok (.iload 4, 2) := by decide +kernel
theorem d_975 : decode code 975 = .ok (.iconst 5, 1) := by decide +kernel
theorem d_976 : decode code 976 = .ok (.iadd, 1) := by decide +kernel
theorem d_977 : decode code 977 = .ok (.iaload, 1) := by decide +kernel
theorem d_978 : decode code 978 = .ok (.invokestatic 128, 3) := by decide +kernel
theorem w_1423 : (Cond.codeWith ({ cls := "NumberHouseLaw", name := "divide", desc := "(LNumberHouse;IIIII)I" } : MethodName) method_13_code (7 : Nat) (some .int) [((0 : Nat), (11 : Nat), (14 : Nat), (13 : Nat)), ((0 : Nat), (11 : Nat), (18 : Nat), (19 : Nat))]) ∈ q_tbl := q_of 1423 (by decide +kernel) (by decide +kernel)
theorem w_1421 : (Cond.methodLink "NumberHouseLaw" (128 : Nat) ({ cls := "NumberHouseLaw", name := "divide", desc := "(LNumberHouse;IIIII)I" } : MethodName)) ∈ q_tbl := q_of 1421 (by decide +kernel) (by decide +kernel)
theorem w_1422 : (Cond.static ({ cls := "NumberHouseLaw", name := "divide", desc := "(LNumberHouse;IIIII)I" } : MethodName)) ∈ q_tbl := q_of 1422 (by decide +kernel) (by decide +kernel)
theorem LW_NL_128 : q_LW "NumberHouseLaw" 128 y_NL_divide method_13_code 7 (some .int) [(0, 11, 14, 13), (0, 11, 18, 19)] 6 := ⟨w_1423, w_0, w_1421, w_1422, ⟨by decide, by decide, by decide +kernel⟩⟩
theorem d_981 : decode code 981 = .ok (.istore 5, 2) := by decide +kernel
theorem d_983 : decode code 983 = .ok (.aload_n 2, 1) := by decide +kernel
theorem d_984 : decode code 984 = .ok (.aload_n 0, 1) := by decide +kernel
theorem d_985 : decode code 985 = .ok (.iload 4, 2) := by decide +kernel
theorem d_987 : decode code 987 = .ok (.iconst 1, 1) := by decide +kernel
theorem d_988 : decode code 988 = .ok (.iadd, 1) := by decide +kernel
theorem d_989 : decode code 989 = .ok (.iaload, 1) := by decide +kernel
theorem d_990 : decode code 990 = .ok (.aload_n 0, 1) := by decide +kernel
theorem d_991 : decode code 991 = .ok (.iload 4, 2) := by decide +kernel
theorem d_993 : decode code 993 = .ok (.iconst 2, 1) := by decide +kernel
theorem d_994 : decode code 994 = .ok (.iadd, 1) := by decide +kernel
theorem d_995 : decode code 995 = .ok (.iaload, 1) := by decide +kernel
theorem d_996 : decode code 996 = .ok (.aload_n 0, 1) := by decide +kernel
theorem d_997 : decode code 997 = .ok (.iload 4, 2) := by decide +kernel
theorem d_999 : decode code 999 = .ok (.iconst 3, 1) := by decide +kernel
theorem d_1000 : decode code 1000 = .ok (.iadd, 1) := by decide +kernel
theorem d_1001 : decode code 1001 = .ok (.iaload, 1) := by decide +kernel
theorem d_1002 : decode code 1002 = .ok (.aload_n 0, 1) := by decide +kernel
theorem d_1003 : decode code 1003 = .ok (.iload 4, 2) := by decide +kernel
theorem d_1005 : decode code 1005 = .ok (.iconst 4, 1) := by decide +kernel
theorem d_1006 : decode code 1006 = .ok (.iadd, 1) := by decide +kernel
theorem d_1007 : decode code 1007 = .ok (.iaload, 1) := by decide +kernel
theorem d_1008 : decode code 1008 = .ok (.aload_n 0, 1) := by decide +kernel
theorem d_1009 : decode code 1009 = .ok (.iload 4, 2) := by decide +kernel
theorem d_1011 : decode code 1011 = .ok (.iconst 5, 1) := by decide +kernel
theorem d_1012 : decode code 1012 = .ok (.iadd, 1) := by decide +kernel
theorem d_1013 : decode code 1013 = .ok (.iaload, 1) := by decide +kernel
theorem d_1014 : decode code 1014 = .ok (.invokevirtual 131, 3) := by decide +kernel
theorem w_2867 : (Cond.code ({ cls := "NumberHouseModel", name := "divide", desc := "(IIIII)V" } : MethodName) prog_14_method_25_code (6 : Nat) (none : Option ClassFile.FieldType)) ∈ q_tbl := q_of 2867 (by decide +kernel) (by decide +kernel)
theorem w_2864 : (Cond.methodLink "NumberHouseLaw" (131 : Nat) ({ cls := "NumberHouseModel", name := "divide", desc := "(IIIII)V" } : MethodName)) ∈ q_tbl := q_of 2864 (by decide +kernel) (by decide +kernel)
theorem w_2865 : (Cond.instanceMethod ({ cls := "NumberHouseModel", name := "divide", desc := "(IIIII)V" } : MethodName)) ∈ q_tbl := q_of 2865 (by decide +kernel) (by decide +kernel)
theorem w_2866 : (Cond.selects "NumberHouseModel" ({ cls := "NumberHouseModel", name := "divide", desc := "(IIIII)V" } : MethodName) ({ cls := "NumberHouseModel", name := "divide", desc := "(IIIII)V" } : MethodName)) ∈ q_tbl := q_of 2866 (by decide +kernel) (by decide +kernel)
theorem LV_NL_131 : q_LV "NumberHouseLaw" 131 y_NM_divide prog_14_method_25_code 6 none 5 := ⟨w_2867, w_14, w_2864, w_2865, w_2866, ⟨by decide, by decide, by decide +kernel⟩⟩
theorem d_1017 : decode code 1017 = .ok (.aload_n 2, 1) := by decide +kernel
theorem d_1018 : decode code 1018 = .ok (.invokevirtual 91, 3) := by decide +kernel
theorem d_1021 : decode code 1021 = .ok (.iload 5, 2) := by decide +kernel
theorem d_1023 : decode code 1023 = .ok (.if_icmp .eq 5, 3) := by decide +kernel
theorem d_1028 : decode code 1028 = .ok (.goto 581, 3) := by decide +kernel
set_option maxRecDepth 100000 in
set_option maxHeartbeats 4000000 in
theorem law_k11 {p : Program} {l : Launch} {e : Env} {s : State} {m : MethodId} {below : List Frame} {meth : Method} {c : Code} {b : Nat} {xs : Nat → Int32} {D : va_G} {g : Nat → ClassId} {A : Nat → Prop} {ws : va_W} {H : Heap} {locs : List Loc} {Q : State → Prop} {ls : Array Slot} {q q2 : Nat → Nat} {qo : Nat} (hlt : l.stackTraces = false) (C0 : q_At p s m #[Value.ref b] meth c y_NL_law code 8 (some .boolean)) (hX : va_X b 6 xs s s.heap) (hbl : b < s.heap.size) (hbA : ¬ A b) (V : q_Wd D g A s ws H locs) (hfl : q_fl ws 0 (nh_w g q)) (hfm : q_fl ws 116 (nm_w g q2)) (hO : ws[169]? = (some (qo, .inl (g 1, 1, .inr (.inl (fun _ => 0)))) : Option (Nat × va_E))) (hl : lv_has ls 8 [(4, .int 0), (3, .ref qo), (2, .ref (q2 0)), (1, .ref (q 0)), (0, .ref b)]) (kend : ∀ (H : Heap) (locs : List Loc) (u : va_W) (ls : Array Slot), q_Wd D g A s u H locs → lv_has ls 8 [(4, .int 0), (0, .ref b)] → W p l e room_1 s m #[Value.ref b] below meth c H locs 300 300000 Q (F0 m 1609 ls [])) : W p l e room_1 s m #[Value.ref b] below meth c H locs 200 200000 Q (F0 m 947 ls []) := by
  have hx := C0.1
  have hb := C0.2.1
  obtain ⟨s1, hs1⟩ : ∃ z : Int32, xs ((1 : Int32).toNatClampNeg) = z := ⟨_, rfl⟩
  obtain ⟨s2, hs2⟩ : ∃ z : Int32, xs ((2 : Int32).toNatClampNeg) = z := ⟨_, rfl⟩
  obtain ⟨s3, hs3⟩ : ∃ z : Int32, xs ((3 : Int32).toNatClampNeg) = z := ⟨_, rfl⟩
  obtain ⟨s4, hs4⟩ : ∃ z : Int32, xs ((4 : Int32).toNatClampNeg) = z := ⟨_, rfl⟩
  obtain ⟨s5, hs5⟩ : ∃ z : Int32, xs ((5 : Int32).toNatClampNeg) = z := ⟨_, rfl⟩
  refine lv_aload_n hx hb d_947 rfl (lv_at hl 3 rfl) ?_
  refine lv_aload_n hx hb d_948 rfl (lv_at hl 4 rfl) ?_
  refine lv_iload hx hb d_949 (lv_at hl 0 rfl) ?_
  refine lv_iconst (v := 1) hx hb d_951 (by decide) ?_
  refine lv_iadd hx hb d_952 ?_
  refine q_ti (v := 1) (by decide) ?_
  refine va_sld hx hb hX hbl hbA V.2.2.1 (by unfold vp_in; decide) d_953 ?_
  refine q_ti (v := s1) hs1 ?_
  refine lv_aload_n hx hb d_954 rfl (lv_at hl 4 rfl) ?_
  refine lv_iload hx hb d_955 (lv_at hl 0 rfl) ?_
  refine lv_iconst (v := 2) hx hb d_957 (by decide) ?_
  refine lv_iadd hx hb d_958 ?_
  refine q_ti (v := 2) (by decide) ?_
  refine va_sld hx hb hX hbl hbA V.2.2.1 (by unfold vp_in; decide) d_959 ?_
  refine q_ti (v := s2) hs2 ?_
  refine lv_aload_n hx hb d_960 rfl (lv_at hl 4 rfl) ?_
  refine lv_iload hx hb d_961 (lv_at hl 0 rfl) ?_
  refine lv_iconst (v := 3) hx hb d_963 (by decide) ?_
  refine lv_iadd hx hb d_964 ?_
  refine q_ti (v := 3) (by decide) ?_
  refine va_sld hx hb hX hbl hbA V.2.2.1 (by unfold vp_in; decide) d_965 ?_
  refine q_ti (v := s3) hs3 ?_
  refine lv_aload_n hx hb d_966 rfl (lv_at hl 4 rfl) ?_
  refine lv_iload hx hb d_967 (lv_at hl 0 rfl) ?_
  refine lv_iconst (v := 4) hx hb d_969 (by decide) ?_
  refine lv_iadd hx hb d_970 ?_
  refine q_ti (v := 4) (by decide) ?_
  refine va_sld hx hb hX hbl hbA V.2.2.1 (by unfold vp_in; decide) d_971 ?_
  refine q_ti (v := s4) hs4 ?_
  refine lv_aload_n hx hb d_972 rfl (lv_at hl 4 rfl) ?_
  refine lv_iload hx hb d_973 (lv_at hl 0 rfl) ?_
  refine lv_iconst (v := 5) hx hb d_975 (by decide) ?_
  refine lv_iadd hx hb d_976 ?_
  refine q_ti (v := 5) (by decide) ?_
  refine va_sld hx hb hX hbl hbA V.2.2.1 (by unfold vp_in; decide) d_977 ?_
  refine q_ti (v := s5) hs5 ?_
  refine q_goi V (q_runSW (As := [.ref (q 0), .int s1, .int s2, .int s3, .int s4, .int s5]) (rest := []) (d := 9) (mc := 2) (ms := 12) C0 V rfl LW_NL_128 (c_NL_divide l D g ws hlt q s1 s2 s3 s4 s5 hfl _) rfl hl.1 rfl (Nat.le_of_ble_eq_true rfl) ⟨by decide, by decide⟩ ⟨Nat.le_of_ble_eq_true rfl, Nat.le_of_ble_eq_true rfl⟩ d_978) (fun k1 u1 H locs hp V => ?_)
  obtain ⟨hk, hF⟩ := hp
  have hfm : q_fl u1 116 (nm_w g q2) := q_flG hF hfm
  have hO : u1[169]? = _ := (hF 169 (Nat.le_of_ble_eq_true rfl)).trans hO
  replace hO : u1[169]? = (some (qo, .inl (g 1, 1, .inr (.inl (fun _ => 0)))) : Option (Nat × va_E)) := hO
  refine lv_istore (lv' := [(5, .int k1), (4, .int 0), (3, .ref qo), (2, .ref (q2 0)), (1, .ref (q 0)), (0, .ref b)]) hx hb d_981 hl (by decide) rfl (fun ls hl => ?_)
  refine lv_aload_n hx hb d_983 rfl (lv_at hl 3 rfl) ?_
  refine lv_aload_n hx hb d_984 rfl (lv_at hl 5 rfl) ?_
  refine lv_iload hx hb d_985 (lv_at hl 1 rfl) ?_
  refine lv_iconst (v := 1) hx hb d_987 (by decide) ?_
  refine lv_iadd hx hb d_988 ?_
  refine q_ti (v := 1) (by decide) ?_
  refine va_sld hx hb hX hbl hbA V.2.2.1 (by unfold vp_in; decide) d_989 ?_
  refine q_ti (v := s1) hs1 ?_
  refine lv_aload_n hx hb d_990 rfl (lv_at hl 5 rfl) ?_
  refine lv_iload hx hb d_991 (lv_at hl 1 rfl) ?_
  refine lv_iconst (v := 2) hx hb d_993 (by decide) ?_
  refine lv_iadd hx hb d_994 ?_
  refine q_ti (v := 2) (by decide) ?_
  refine va_sld hx hb hX hbl hbA V.2.2.1 (by unfold vp_in; decide) d_995 ?_
  refine q_ti (v := s2) hs2 ?_
  refine lv_aload_n hx hb d_996 rfl (lv_at hl 5 rfl) ?_
  refine lv_iload hx hb d_997 (lv_at hl 1 rfl) ?_
  refine lv_iconst (v := 3) hx hb d_999 (by decide) ?_
  refine lv_iadd hx hb d_1000 ?_
  refine q_ti (v := 3) (by decide) ?_
  refine va_sld hx hb hX hbl hbA V.2.2.1 (by unfold vp_in; decide) d_1001 ?_
  refine q_ti (v := s3) hs3 ?_
  refine lv_aload_n hx hb d_1002 rfl (lv_at hl 5 rfl) ?_
  refine lv_iload hx hb d_1003 (lv_at hl 1 rfl) ?_
  refine lv_iconst (v := 4) hx hb d_1005 (by decide) ?_
  refine lv_iadd hx hb d_1006 ?_
  refine q_ti (v := 4) (by decide) ?_
  refine va_sld hx hb hX hbl hbA V.2.2.1 (by unfold vp_in; decide) d_1007 ?_
  refine q_ti (v := s4) hs4 ?_
  refine lv_aload_n hx hb d_1008 rfl (lv_at hl 5 rfl) ?_
  refine lv_iload hx hb d_1009 (lv_at hl 1 rfl) ?_
  refine lv_iconst (v := 5) hx hb d_1011 (by decide) ?_
  refine lv_iadd hx hb d_1012 ?_
  refine q_ti (v := 5) (by decide) ?_
  refine va_sld hx hb hX hbl hbA V.2.2.1 (by unfold vp_in; decide) d_1013 ?_
  refine q_ti (v := s5) hs5 ?_
  have hP116 : u1[116]? = (some (q2 0, .inr (12, [.int 0, .ref (q2 1), .int 0, .ref (q2 2), .int 0, .ref (q2 3), .ref (q2 18), .ref (q2 29), .ref (q2 37), .ref (q2 41), .ref (q2 51), .ref (q2 52)])) : Option (Nat × va_E)) := q_fa (i := 0) hfm rfl
  have hP134 : u1[134]? = (some (q2 18, .inr (14, [.int 0, .ref (q2 19), .int 0, .ref (q2 20), .ref (q2 21), .ref (q2 22), .ref (q2 23), .ref (q2 24), .int 0, .long 0, .int 0, .int 0, .ref (q2 25), .int 0, .ref (q2 26), .int 0, .ref (q2 27), .int 0, .ref (q2 28), .int 0, .int 0])) : Option (Nat × va_E)) := q_fa (i := 18) hfm rfl
  have hP136 : u1[136]? = (some (q2 20, .inl (g 0, 10000, .inl (fun _ => 0))) : Option (Nat × va_E)) := q_fa (i := 20) hfm rfl
  refine q_gov V (q_runV (As := [.int s1, .int s2, .int s3, .int s4, .int s5]) (rest := []) (d := 3) (mc := 0) (ms := 0) (ci := 12) C0 V rfl LV_NL_131 (c_NM_divide l D g u1 (q2 0) (q2 1) (q2 2) (q2 3) (q2 18) (q2 29) (q2 37) (q2 41) (q2 51) (q2 52) (q2 19) (q2 20) (q2 21) (q2 22) (q2 23) (q2 24) (q2 25) (q2 26) (q2 27) (q2 28) s1 s2 s3 s4 s5 hP116 hP134 hP136 _) rfl rfl hP116 rfl hl.1 rfl (Nat.le_of_ble_eq_true rfl) ⟨by decide, by decide⟩ ⟨Nat.le_of_ble_eq_true rfl, Nat.le_of_ble_eq_true rfl⟩ d_1014) (fun u2 H locs hp V => ?_)
  obtain ⟨t0, z2, z4, hM, hr, hG⟩ := hp
  replace hM : u2[116]? = (some (q2 0, .inr (12, [.int t0, .ref (q2 1), .int z2, .ref (q2 2), .int z4, .ref (q2 3), .ref (q2 18), .ref (q2 29), .ref (q2 37), .ref (q2 41), .ref (q2 51), .ref (q2 52)])) : Option (Nat × va_E)) := hM
  replace hO := (hG 169 (Nat.le_refl _)).trans hO
  replace hO : u2[169]? = (some (qo, .inl (g 1, 1, .inr (.inl (fun _ => 0)))) : Option (Nat × va_E)) := hO
  rcases hk with ⟨ek, hk⟩ | ⟨ek, hk⟩ | ⟨ek, hk⟩
  ·
    obtain rfl : k1 = 0 := q_Ieq (x := k1.toInt) (y := 0) rfl (by decide) ek
    obtain rfl : t0 = 0 := q_Ieq (x := t0.toInt) (y := 0) rfl (by decide) (by omega)
    refine lv_aload_n hx hb d_1017 rfl (lv_at hl 3 rfl) ?_
    refine q_goi V (q_runV (As := []) (rest := []) (d := 1) (mc := 0) (ms := 0) (ci := 12) C0 V rfl LV_NL_91 (c_NM_thrown l D g u2 (q2 0) 0 (q2 1) z2 (q2 2) z4 (q2 3) (q2 18) (q2 29) (q2 37) (q2 41) (q2 51) (q2 52) hM _) rfl rfl hM rfl hl.1 rfl (Nat.le_of_ble_eq_true rfl) ⟨by decide, by decide⟩ ⟨Nat.le_of_ble_eq_true rfl, Nat.le_of_ble_eq_true rfl⟩ d_1018) (fun v9 u9 H locs hp V => ?_)
    obtain ⟨rfl, rfl⟩ := hp
    refine lv_iload hx hb d_1021 (lv_at hl 0 rfl) ?_
    refine lv_icmp_eq (tgt := 1028) hx hb d_1023 (by decide) (fun c1 => ?_) (fun c1 => absurd (by decide) c1)
    refine lv_goto (tgt := 1609) hx hb d_1028 (by decide) ?_
    refine W.widen (k := 300) (n := 300000) (Nat.le_of_ble_eq_true rfl) (Nat.le_of_ble_eq_true rfl) ?_
    exact kend _ _ _ _ V (q_lw hl (q_lw1 1 rfl (q_lw1 5 rfl q_lw0)))
  ·
    obtain rfl : k1 = 1 := q_Ieq (x := k1.toInt) (y := 1) rfl (by decide) ek
    obtain rfl : t0 = 1 := q_Ieq (x := t0.toInt) (y := 1) rfl (by decide) (by omega)
    refine lv_aload_n hx hb d_1017 rfl (lv_at hl 3 rfl) ?_
    refine q_goi V (q_runV (As := []) (rest := []) (d := 1) (mc := 0) (ms := 0) (ci := 12) C0 V rfl LV_NL_91 (c_NM_thrown l D g u2 (q2 0) 1 (q2 1) z2 (q2 2) z4 (q2 3) (q2 18) (q2 29) (q2 37) (q2 41) (q2 51) (q2 52) hM _) rfl rfl hM rfl hl.1 rfl (Nat.le_of_ble_eq_true rfl) ⟨by decide, by decide⟩ ⟨Nat.le_of_ble_eq_true rfl, Nat.le_of_ble_eq_true rfl⟩ d_1018) (fun v9 u9 H locs hp V => ?_)
    obtain ⟨rfl, rfl⟩ := hp
    refine lv_iload hx hb d_1021 (lv_at hl 0 rfl) ?_
    refine lv_icmp_eq (tgt := 1028) hx hb d_1023 (by decide) (fun c2 => ?_) (fun c2 => absurd (by decide) c2)
    refine lv_goto (tgt := 1609) hx hb d_1028 (by decide) ?_
    refine W.widen (k := 300) (n := 300000) (Nat.le_of_ble_eq_true rfl) (Nat.le_of_ble_eq_true rfl) ?_
    exact kend _ _ _ _ V (q_lw hl (q_lw1 1 rfl (q_lw1 5 rfl q_lw0)))
  ·
    obtain rfl : k1 = 2 := q_Ieq (x := k1.toInt) (y := 2) rfl (by decide) ek
    obtain rfl : t0 = 2 := q_Ieq (x := t0.toInt) (y := 2) rfl (by decide) (by omega)
    refine lv_aload_n hx hb d_1017 rfl (lv_at hl 3 rfl) ?_
    refine q_goi V (q_runV (As := []) (rest := []) (d := 1) (mc := 0) (ms := 0) (ci := 12) C0 V rfl LV_NL_91 (c_NM_thrown l D g u2 (q2 0) 2 (q2 1) z2 (q2 2) z4 (q2 3) (q2 18) (q2 29) (q2 37) (q2 41) (q2 51) (q2 52) hM _) rfl rfl hM rfl hl.1 rfl (Nat.le_of_ble_eq_true rfl) ⟨by decide, by decide⟩ ⟨Nat.le_of_ble_eq_true rfl, Nat.le_of_ble_eq_true rfl⟩ d_1018) (fun v9 u9 H locs hp V => ?_)
    obtain ⟨rfl, rfl⟩ := hp
    refine lv_iload hx hb d_1021 (lv_at hl 0 rfl) ?_
    refine lv_icmp_eq (tgt := 1028) hx hb d_1023 (by decide) (fun c3 => ?_) (fun c3 => absurd (by decide) c3)
    refine lv_goto (tgt := 1609) hx hb d_1028 (by decide) ?_
    refine W.widen (k := 300) (n := 300000) (Nat.le_of_ble_eq_true rfl) (Nat.le_of_ble_eq_true rfl) ?_
    exact kend _ _ _ _ V (q_lw hl (q_lw1 1 rfl (q_lw1 5 rfl q_lw0)))
