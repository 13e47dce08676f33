/-! the law, case 10: decimalBy -/
theorem d_875 : decode code 875 = .ok (.aload_n 1, 1) := by decide +kernel
theorem d_876 : decode code 876 = .ok (.aload_n 0, 1) := by decide +kernel
theorem d_877 : decode code 877 = .ok (.iload 4, 2) := by decide +kernel
theorem d_879 : decode code 879 = .ok (.iconst 1, 1) := by decide +kernel
theorem d_880 : decode code 880 = .ok (.iadd, 1) := by decide +kernel
theorem d_881 : decode code 881 = .ok (.iaload, 1) := by decide +kernel
theorem d_882 : decode code 882 = .ok (.aload_n 0, 1) := by decide +kernel
theorem d_883 : decode code 883 = .ok (.iload 4, 2) := by decide +kernel
theorem d_885 : decode code 885 = .ok (.iconst 2, 1) := by decide +kernel
theorem d_886 : decode code 886 = .ok (.iadd, 1) := by decide +kernel
theorem d_887 : decode code 887 = .ok (.iaload, 1) := by decide +kernel
theorem d_888 : decode code 888 = .ok (.aload_n 0, 1) := by decide +kernel
theorem d_889 : decode code 889 = .ok (.iload 4, 2) := by decide +kernel
theorem d_891 : decode code 891 = .ok (.iconst 3, 1) := by decide +kernel
theorem d_892 : decode code 892 = .ok (.iadd, 1) := by decide +kernel
theorem d_893 : decode code 893 = .ok (.iaload, 1) := by decide +kernel
theorem d_894 : decode code 894 = .ok (.aload_n 0, 1) := by decide +kernel
theorem d_895 : decode code 895 = .ok (.iload 4, 2) := by decide +kernel
theorem d_897 : decode code 897 = .ok (.iconst 4, 1) := by decide +kernel
theorem d_898 : decode code 898 = .ok (.iadd, 1) := by decide +kernel
theorem d_899 : decode code 899 = .ok (.iaload, 1) := by decide +kernel
theorem d_900 : decode code 900 = .ok (.invokestatic 125, 3) := by decide +kernel
theorem w_1397 : (Cond.codeWith ({ cls := "NumberHouseLaw", name := "decimalBy", desc := "(LNumberHouse;IIII)I" } : MethodName) method_12_code (6 : Nat) (some .int) [((0 : Nat), (9 : Nat), (12 : Nat), (13 : Nat)), ((0 : Nat), (9 : Nat), (16 : Nat), (19 : Nat))]) ∈ q_tbl := q_of 1397 (by decide +kernel) (by decide +kernel)
theorem w_1395 : (Cond.methodLink "NumberHouseLaw" (125 : Nat) ({ cls := "NumberHouseLaw", name := "decimalBy", desc := "(LNumberHouse;IIII)I" } : MethodName)) ∈ q_tbl := q_of 1395 (by decide +kernel) (by decide +kernel)
theorem w_1396 : (Cond.static ({ cls := "NumberHouseLaw", name := "decimalBy", desc := "(LNumberHouse;IIII)I" } : MethodName)) ∈ q_tbl := q_of 1396 (by decide +kernel) (by decide +kernel)
theorem LW_NL_125 : q_LW "NumberHouseLaw" 125 y_NL_decimalBy method_12_code 6 (some .int) [(0, 9, 12, 13), (0, 9, 16, 19)] 5 := ⟨w_1397, w_0, w_1395, w_1396, ⟨by decide, by decide, by decide +kernel⟩⟩
theorem d_903 : decode code 903 = .ok (.istore 5, 2) := by decide +kernel
theorem d_905 : decode code 905 = .ok (.aload_n 2, 1) := by decide +kernel
theorem d_906 : decode code 906 = .ok (.aload_n 0, 1) := by decide +kernel
theorem d_907 : decode code 907 = .ok (.iload 4, 2) := by decide +kernel
theorem d_909 : decode code 909 = .ok (.iconst 1, 1) := by decide +kernel
theorem d_910 : decode code 910 = .ok (.iadd, 1) := by decide +kernel
theorem d_911 : decode code 911 = .ok (.iaload, 1) := by decide +kernel
theorem d_912 : decode code 912 = .ok (.aload_n 0, 1) := by decide +kernel
theorem d_913 : decode code 913 = .ok (.iload 4, 2) := by decide +kernel
theorem d_915 : decode code 915 = .ok (.iconst 2, 1) := by decide +kernel
theorem d_916 : decode code 916 = .ok (.iadd, 1) := by decide +kernel
theorem d_917 : decode code 917 = .ok (.iaload, 1) := by decide +kernel
theorem d_918 : decode code 918 = .ok (.aload_n 0, 1) := by decide +kernel
theorem d_919 : decode code 919 = .ok (.iload 4, 2) := by decide +kernel
theorem d_921 : decode code 921 = .ok (.iconst 3, 1) := by decide +kernel
theorem d_922 : decode code 922 = .ok (.iadd, 1) := by decide +kernel
theorem d_923 : decode code 923 = .ok (.iaload, 1) := by decide +kernel
theorem d_924 : decode code 924 = .ok (.aload_n 0, 1) := by decide +kernel
theorem d_925 : decode code 925 = .ok (.iload 4, 2) := by decide +kernel
theorem d_927 : decode code 927 = .ok (.iconst 4, 1) := by decide +kernel
theorem d_928 : decode code 928 = .ok (.iadd, 1) := by decide +kernel
theorem d_929 : decode code 929 = .ok (.iaload, 1) := by decide +kernel
theorem d_930 : decode code 930 = .ok (.invokevirtual 127, 3) := by decide +kernel
theorem w_2847 : (Cond.code ({ cls := "NumberHouseModel", name := "decimalBy", desc := "(IIII)V" } : MethodName) prog_14_method_24_code (5 : Nat) (none : Option ClassFile.FieldType)) ∈ q_tbl := q_of 2847 (by decide +kernel) (by decide +kernel)
theorem w_2844 : (Cond.methodLink "NumberHouseLaw" (127 : Nat) ({ cls := "NumberHouseModel", name := "decimalBy", desc := "(IIII)V" } : MethodName)) ∈ q_tbl := q_of 2844 (by decide +kernel) (by decide +kernel)
theorem w_2845 : (Cond.instanceMethod ({ cls := "NumberHouseModel", name := "decimalBy", desc := "(IIII)V" } : MethodName)) ∈ q_tbl := q_of 2845 (by decide +kernel) (by decide +kernel)
theorem w_2846 : (Cond.selects "NumberHouseModel" ({ cls := "NumberHouseModel", name := "decimalBy", desc := "(IIII)V" } : MethodName) ({ cls := "NumberHouseModel", name := "decimalBy", desc := "(IIII)V" } : MethodName)) ∈ q_tbl := q_of 2846 (by decide +kernel) (by decide +kernel)
theorem LV_NL_127 : q_LV "NumberHouseLaw" 127 y_NM_decimalBy prog_14_method_24_code 5 none 4 := ⟨w_2847, w_14, w_2844, w_2845, w_2846, ⟨by decide, by decide, by decide +kernel⟩⟩
theorem d_933 : decode code 933 = .ok (.aload_n 2, 1) := by decide +kernel
theorem d_934 : decode code 934 = .ok (.invokevirtual 91, 3) := by decide +kernel
theorem d_937 : decode code 937 = .ok (.iload 5, 2) := by decide +kernel
theorem d_939 : decode code 939 = .ok (.if_icmp .eq 5, 3) := by decide +kernel
theorem d_944 : decode code 944 = .ok (.goto 665, 3) := by decide +kernel
set_option maxRecDepth 100000 in
set_option maxHeartbeats 4000000 in
theorem law_k10 {p : Program} {l : Launch} {e : Env} {s : State} {m : MethodId} {below : List Frame} {meth : Method} {c : Code} {b : Nat} {xs : Nat → Int32} {D : va_G} {g : Nat → ClassId} {A : Nat → Prop} {ws : va_W} {H : Heap} {locs : List Loc} {Q : State → Prop} {ls : Array Slot} {q q2 : Nat → Nat} {qo : Nat} (hlt : l.stackTraces = false) (C0 : q_At p s m #[Value.ref b] meth c y_NL_law code 8 (some .boolean)) (hX : va_X b 6 xs s s.heap) (hbl : b < s.heap.size) (hbA : ¬ A b) (V : q_Wd D g A s ws H locs) (hfl : q_fl ws 0 (nh_w g q)) (hfm : q_fl ws 116 (nm_w g q2)) (hO : ws[169]? = (some (qo, .inl (g 1, 1, .inr (.inl (fun _ => 0)))) : Option (Nat × va_E))) (hl : lv_has ls 8 [(4, .int 0), (3, .ref qo), (2, .ref (q2 0)), (1, .ref (q 0)), (0, .ref b)]) (kend : ∀ (H : Heap) (locs : List Loc) (u : va_W) (ls : Array Slot), q_Wd D g A s u H locs → lv_has ls 8 [(4, .int 0), (0, .ref b)] → W p l e room_1 s m #[Value.ref b] below meth c H locs 300 300000 Q (F0 m 1609 ls [])) : W p l e room_1 s m #[Value.ref b] below meth c H locs 200 200000 Q (F0 m 875 ls []) := by
  have hx := C0.1
  have hb := C0.2.1
  obtain ⟨s1, hs1⟩ : ∃ z : Int32, xs ((1 : Int32).toNatClampNeg) = z := ⟨_, rfl⟩
  obtain ⟨s2, hs2⟩ : ∃ z : Int32, xs ((2 : Int32).toNatClampNeg) = z := ⟨_, rfl⟩
  obtain ⟨s3, hs3⟩ : ∃ z : Int32, xs ((3 : Int32).toNatClampNeg) = z := ⟨_, rfl⟩
  obtain ⟨s4, hs4⟩ : ∃ z : Int32, xs ((4 : Int32).toNatClampNeg) = z := ⟨_, rfl⟩
  obtain ⟨s5, hs5⟩ : ∃ z : Int32, xs ((5 : Int32).toNatClampNeg) = z := ⟨_, rfl⟩
  refine lv_aload_n hx hb d_875 rfl (lv_at hl 3 rfl) ?_
  refine lv_aload_n hx hb d_876 rfl (lv_at hl 4 rfl) ?_
  refine lv_iload hx hb d_877 (lv_at hl 0 rfl) ?_
  refine lv_iconst (v := 1) hx hb d_879 (by decide) ?_
  refine lv_iadd hx hb d_880 ?_
  refine q_ti (v := 1) (by decide) ?_
  refine va_sld hx hb hX hbl hbA V.2.2.1 (by unfold vp_in; decide) d_881 ?_
  refine q_ti (v := s1) hs1 ?_
  refine lv_aload_n hx hb d_882 rfl (lv_at hl 4 rfl) ?_
  refine lv_iload hx hb d_883 (lv_at hl 0 rfl) ?_
  refine lv_iconst (v := 2) hx hb d_885 (by decide) ?_
  refine lv_iadd hx hb d_886 ?_
  refine q_ti (v := 2) (by decide) ?_
  refine va_sld hx hb hX hbl hbA V.2.2.1 (by unfold vp_in; decide) d_887 ?_
  refine q_ti (v := s2) hs2 ?_
  refine lv_aload_n hx hb d_888 rfl (lv_at hl 4 rfl) ?_
  refine lv_iload hx hb d_889 (lv_at hl 0 rfl) ?_
  refine lv_iconst (v := 3) hx hb d_891 (by decide) ?_
  refine lv_iadd hx hb d_892 ?_
  refine q_ti (v := 3) (by decide) ?_
  refine va_sld hx hb hX hbl hbA V.2.2.1 (by unfold vp_in; decide) d_893 ?_
  refine q_ti (v := s3) hs3 ?_
  refine lv_aload_n hx hb d_894 rfl (lv_at hl 4 rfl) ?_
  refine lv_iload hx hb d_895 (lv_at hl 0 rfl) ?_
  refine lv_iconst (v := 4) hx hb d_897 (by decide) ?_
  refine lv_iadd hx hb d_898 ?_
  refine q_ti (v := 4) (by decide) ?_
  refine va_sld hx hb hX hbl hbA V.2.2.1 (by unfold vp_in; decide) d_899 ?_
  refine q_ti (v := s4) hs4 ?_
  refine q_goi V (q_runSW (As := [.ref (q 0), .int s1, .int s2, .int s3, .int s4]) (rest := []) (d := 10) (mc := 4) (ms := 24) C0 V rfl LW_NL_125 (c_NL_decimalBy l D g ws hlt q s1 s2 s3 s4 hfl _) rfl hl.1 rfl (Nat.le_of_ble_eq_true rfl) ⟨by decide, by decide⟩ ⟨Nat.le_of_ble_eq_true rfl, Nat.le_of_ble_eq_true rfl⟩ d_900) (fun k1 u1 H locs hp V => ?_)
  obtain ⟨hk, hF⟩ := hp
  have hfm : q_fl u1 116 (nm_w g q2) := q_flG hF hfm
  have hO : u1[169]? = _ := (hF 169 (Nat.le_of_ble_eq_true rfl)).trans hO
  replace hO : u1[169]? = (some (qo, .inl (g 1, 1, .inr (.inl (fun _ => 0)))) : Option (Nat × va_E)) := hO
  refine lv_istore (lv' := [(5, .int k1), (4, .int 0), (3, .ref qo), (2, .ref (q2 0)), (1, .ref (q 0)), (0, .ref b)]) hx hb d_903 hl (by decide) rfl (fun ls hl => ?_)
  refine lv_aload_n hx hb d_905 rfl (lv_at hl 3 rfl) ?_
  refine lv_aload_n hx hb d_906 rfl (lv_at hl 5 rfl) ?_
  refine lv_iload hx hb d_907 (lv_at hl 1 rfl) ?_
  refine lv_iconst (v := 1) hx hb d_909 (by decide) ?_
  refine lv_iadd hx hb d_910 ?_
  refine q_ti (v := 1) (by decide) ?_
  refine va_sld hx hb hX hbl hbA V.2.2.1 (by unfold vp_in; decide) d_911 ?_
  refine q_ti (v := s1) hs1 ?_
  refine lv_aload_n hx hb d_912 rfl (lv_at hl 5 rfl) ?_
  refine lv_iload hx hb d_913 (lv_at hl 1 rfl) ?_
  refine lv_iconst (v := 2) hx hb d_915 (by decide) ?_
  refine lv_iadd hx hb d_916 ?_
  refine q_ti (v := 2) (by decide) ?_
  refine va_sld hx hb hX hbl hbA V.2.2.1 (by unfold vp_in; decide) d_917 ?_
  refine q_ti (v := s2) hs2 ?_
  refine lv_aload_n hx hb d_918 rfl (lv_at hl 5 rfl) ?_
  refine lv_iload hx hb d_919 (lv_at hl 1 rfl) ?_
  refine lv_iconst (v := 3) hx hb d_921 (by decide) ?_
  refine lv_iadd hx hb d_922 ?_
  refine q_ti (v := 3) (by decide) ?_
  refine va_sld hx hb hX hbl hbA V.2.2.1 (by unfold vp_in; decide) d_923 ?_
  refine q_ti (v := s3) hs3 ?_
  refine lv_aload_n hx hb d_924 rfl (lv_at hl 5 rfl) ?_
  refine lv_iload hx hb d_925 (lv_at hl 1 rfl) ?_
  refine lv_iconst (v := 4) hx hb d_927 (by decide) ?_
  refine lv_iadd hx hb d_928 ?_
  refine q_ti (v := 4) (by decide) ?_
  refine va_sld hx hb hX hbl hbA V.2.2.1 (by unfold vp_in; decide) d_929 ?_
  refine q_ti (v := s4) hs4 ?_
  have hP116 : u1[116]? = (some (q2 0, .inr (12, [.int 0, .ref (q2 1), .int 0, .ref (q2 2), .int 0, .ref (q2 3), .ref (q2 18), .ref (q2 29), .ref (q2 37), .ref (q2 41), .ref (q2 51), .ref (q2 52)])) : Option (Nat × va_E)) := q_fa (i := 0) hfm rfl
  have hP134 : u1[134]? = (some (q2 18, .inr (14, [.int 0, .ref (q2 19), .int 0, .ref (q2 20), .ref (q2 21), .ref (q2 22), .ref (q2 23), .ref (q2 24), .int 0, .long 0, .int 0, .int 0, .ref (q2 25), .int 0, .ref (q2 26), .int 0, .ref (q2 27), .int 0, .ref (q2 28), .int 0, .int 0])) : Option (Nat × va_E)) := q_fa (i := 18) hfm rfl
  have hP136 : u1[136]? = (some (q2 20, .inl (g 0, 10000, .inl (fun _ => 0))) : Option (Nat × va_E)) := q_fa (i := 20) hfm rfl
  have hP137 : u1[137]? = (some (q2 21, .inl (g 0, 10, .inl (upd (upd (upd (upd (upd (upd (upd (upd (upd (upd (fun _ => 0) 0 1) 1 1) 2 1) 3 1) 4 1) 5 1) 6 1) 7 1) 8 1) 9 1))) : Option (Nat × va_E)) := q_fa (i := 21) hfm rfl
  have hP138 : u1[138]? = (some (q2 22, .inl (g 3, 10, .inl (fun _ => 0))) : Option (Nat × va_E)) := q_fa (i := 22) hfm rfl
  have hP139 : u1[139]? = (some (q2 23, .inl (g 0, 10, .inl (fun _ => 0))) : Option (Nat × va_E)) := q_fa (i := 23) hfm rfl
  have hP140 : u1[140]? = (some (q2 24, .inl (g 0, 4400, .inl (fun _ => 0))) : Option (Nat × va_E)) := q_fa (i := 24) hfm rfl
  have hP141 : u1[141]? = (some (q2 25, .inl (g 0, 4400, .inl (fun _ => 0))) : Option (Nat × va_E)) := q_fa (i := 25) hfm rfl
  refine q_gov V (q_runV (As := [.int s1, .int s2, .int s3, .int s4]) (rest := []) (d := 4) (mc := 0) (ms := 0) (ci := 12) C0 V rfl LV_NL_127 (c_NM_decimalBy l D g u1 (q2 0) (q2 1) (q2 2) (q2 3) (q2 18) (q2 29) (q2 37) (q2 41) (q2 51) (q2 52) (q2 19) (q2 20) (q2 21) (q2 22) (q2 23) (q2 24) (q2 25) (q2 26) (q2 27) (q2 28) s1 s2 s3 s4 hP116 hP134 hP136 hP137 hP138 hP139 hP140 hP141 _) rfl rfl hP116 rfl hl.1 rfl (Nat.le_of_ble_eq_true rfl) ⟨by decide, by decide⟩ ⟨Nat.le_of_ble_eq_true rfl, Nat.le_of_ble_eq_true rfl⟩ d_930) (fun u2 H locs hp V => ?_)
  obtain ⟨t0, z2, z4, hM, hr, hG⟩ := hp
  replace hM : u2[116]? = (some (q2 0, .inr (12, [.int t0, .ref (q2 1), .int z2, .ref (q2 2), .int z4, .ref (q2 3), .ref (q2 18), .ref (q2 29), .ref (q2 37), .ref (q2 41), .ref (q2 51), .ref (q2 52)])) : Option (Nat × va_E)) := hM
  replace hO := (hG 169 (Nat.le_refl _)).trans hO
  replace hO : u2[169]? = (some (qo, .inl (g 1, 1, .inr (.inl (fun _ => 0)))) : Option (Nat × va_E)) := hO
  rcases hk with ⟨ek, hk⟩ | ⟨ek, hk⟩ | ⟨ek, hk⟩
  ·
    obtain rfl : k1 = 0 := q_Ieq (x := k1.toInt) (y := 0) rfl (by decide) ek
    obtain rfl : t0 = 0 := q_Ieq (x := t0.toInt) (y := 0) rfl (by decide) (by omega)
    refine lv_aload_n hx hb d_933 rfl (lv_at hl 3 rfl) ?_
    refine q_goi V (q_runV (As := []) (rest := []) (d := 1) (mc := 0) (ms := 0) (ci := 12) C0 V rfl LV_NL_91 (c_NM_thrown l D g u2 (q2 0) 0 (q2 1) z2 (q2 2) z4 (q2 3) (q2 18) (q2 29) (q2 37) (q2 41) (q2 51) (q2 52) hM _) rfl rfl hM rfl hl.1 rfl (Nat.le_of_ble_eq_true rfl) ⟨by decide, by decide⟩ ⟨Nat.le_of_ble_eq_true rfl, Nat.le_of_ble_eq_true rfl⟩ d_934) (fun v9 u9 H locs hp V => ?_)
    obtain ⟨rfl, rfl⟩ := hp
    refine lv_iload hx hb d_937 (lv_at hl 0 rfl) ?_
    refine lv_icmp_eq (tgt := 944) hx hb d_939 (by decide) (fun c1 => ?_) (fun c1 => absurd (by decide) c1)
    refine lv_goto (tgt := 1609) hx hb d_944 (by decide) ?_
    refine W.widen (k := 300) (n := 300000) (Nat.le_of_ble_eq_true rfl) (Nat.le_of_ble_eq_true rfl) ?_
    exact kend _ _ _ _ V (q_lw hl (q_lw1 1 rfl (q_lw1 5 rfl q_lw0)))
  ·
    obtain rfl : k1 = 1 := q_Ieq (x := k1.toInt) (y := 1) rfl (by decide) ek
    obtain rfl : t0 = 1 := q_Ieq (x := t0.toInt) (y := 1) rfl (by decide) (by omega)
    refine lv_aload_n hx hb d_933 rfl (lv_at hl 3 rfl) ?_
    refine q_goi V (q_runV (As := []) (rest := []) (d := 1) (mc := 0) (ms := 0) (ci := 12) C0 V rfl LV_NL_91 (c_NM_thrown l D g u2 (q2 0) 1 (q2 1) z2 (q2 2) z4 (q2 3) (q2 18) (q2 29) (q2 37) (q2 41) (q2 51) (q2 52) hM _) rfl rfl hM rfl hl.1 rfl (Nat.le_of_ble_eq_true rfl) ⟨by decide, by decide⟩ ⟨Nat.le_of_ble_eq_true rfl, Nat.le_of_ble_eq_true rfl⟩ d_934) (fun v9 u9 H locs hp V => ?_)
    obtain ⟨rfl, rfl⟩ := hp
    refine lv_iload hx hb d_937 (lv_at hl 0 rfl) ?_
    refine lv_icmp_eq (tgt := 944) hx hb d_939 (by decide) (fun c2 => ?_) (fun c2 => absurd (by decide) c2)
    refine lv_goto (tgt := 1609) hx hb d_944 (by decide) ?_
    refine W.widen (k := 300) (n := 300000) (Nat.le_of_ble_eq_true rfl) (Nat.le_of_ble_eq_true rfl) ?_
    exact kend _ _ _ _ V (q_lw hl (q_lw1 1 rfl (q_lw1 5 rfl q_lw0)))
  ·
    obtain rfl : k1 = 2 := q_Ieq (x := k1.toInt) (y := 2) rfl (by decide) ek
    obtain rfl : t0 = 2 := q_Ieq (x := t0.toInt) (y := 2) rfl (by decide) (by omega)
    refine lv_aload_n hx hb d_933 rfl (lv_at hl 3 rfl) ?_
    refine q_goi V (q_runV (As := []) (rest := []) (d := 1) (mc := 0) (ms := 0) (ci := 12) C0 V rfl LV_NL_91 (c_NM_thrown l D g u2 (q2 0) 2 (q2 1) z2 (q2 2) z4 (q2 3) (q2 18) (q2 29) (q2 37) (q2 41) (q2 51) (q2 52) hM _) rfl rfl hM rfl hl.1 rfl (Nat.le_of_ble_eq_true rfl) ⟨by decide, by decide⟩ ⟨Nat.le_of_ble_eq_true rfl, Nat.le_of_ble_eq_true rfl⟩ d_934) (fun v9 u9 H locs hp V => ?_)
    obtain ⟨rfl, rfl⟩ := hp
    refine lv_iload hx hb d_937 (lv_at hl 0 rfl) ?_
    refine lv_icmp_eq (tgt := 944) hx hb d_939 (by decide) (fun c3 => ?_) (fun c3 => absurd (by decide) c3)
    refine lv_goto (tgt := 1609) hx hb d_944 (by decide) ?_
    refine W.widen (k := 300) (n := 300000) (Nat.le_of_ble_eq_true rfl) (Nat.le_of_ble_eq_true rfl) ?_
    exact kend _ _ _ _ V (q_lw hl (q_lw1 1 rfl (q_lw1 5 rfl q_lw0)))
