/-! the law, case 9: decimal -/
theorem d_803 : decode code 803 = .ok (.aload_n 1, 1) := by decide +kernel
theorem d_804 : decode code 804 = .ok (.aload_n 0, 1) := by decide +kernel
theorem d_805 : decode code 805 = .ok (.iload 4, 2) := by decide +kernel
theorem d_807 : decode code 807 = .ok (.iconst 1, 1) := by decide +kernel
theorem d_808 : decode code 808 = .ok (.iadd, 1) := by decide +kernel
theorem d_809 : decode code 809 = .ok (.iaload, 1) := by decide +kernel
theorem d_810 : decode code 810 = .ok (.aload_n 0, 1) := by decide +kernel
theorem d_811 : decode code 811 = .ok (.iload 4, 2) := by decide +kernel
theorem d_813 : decode code 813 = .ok (.iconst 2, 1) := by decide +kernel
theorem d_814 : decode code 814 = .ok (.iadd, 1) := by decide +kernel
theorem d_815 : decode code 815 = .ok (.iaload, 1) := by decide +kernel
theorem d_816 : decode code 816 = .ok (.aload_n 0, 1) := by decide +kernel
theorem d_817 : decode code 817 = .ok (.iload 4, 2) := by decide +kernel
theorem d_819 : decode code 819 = .ok (.iconst 3, 1) := by decide +kernel
theorem d_820 : decode code 820 = .ok (.iadd, 1) := by decide +kernel
theorem d_821 : decode code 821 = .ok (.iaload, 1) := by decide +kernel
theorem d_822 : decode code 822 = .ok (.aload_n 0, 1) := by decide +kernel
theorem d_823 : decode code 823 = .ok (.iload 4, 2) := by decide +kernel
theorem d_825 : decode code 825 = .ok (.iconst 4, 1) := by decide +kernel
theorem d_826 : decode code 826 = .ok (.iadd, 1) := by decide +kernel
theorem d_827 : decode code 827 = .ok (.iaload, 1) := by decide +kernel
theorem d_828 : decode code 828 = .ok (.invokestatic 122, 3) := by decide +kernel
theorem w_1361 : (Cond.codeWith ({ cls := "NumberHouseLaw", name := "decimal", desc := "(LNumberHouse;IIII)I" } : MethodName) method_11_code (6 : Nat) (some .int) [((0 : Nat), (9 : Nat), (12 : Nat), (13 : Nat)), ((0 : Nat), (9 : Nat), (16 : Nat), (19 : Nat))]) ∈ q_tbl := q_of 1361 (by decide +kernel) (by decide +kernel)
theorem w_1359 : (Cond.methodLink "NumberHouseLaw" (122 : Nat) ({ cls := "NumberHouseLaw", name := "decimal", desc := "(LNumberHouse;IIII)I" } : MethodName)) ∈ q_tbl := q_of 1359 (by decide +kernel) (by decide +kernel)
theorem w_1360 : (Cond.static ({ cls := "NumberHouseLaw", name := "decimal", desc := "(LNumberHouse;IIII)I" } : MethodName)) ∈ q_tbl := q_of 1360 (by decide +kernel) (by decide +kernel)
theorem LW_NL_122 : q_LW "NumberHouseLaw" 122 y_NL_decimal method_11_code 6 (some .int) [(0, 9, 12, 13), (0, 9, 16, 19)] 5 := ⟨w_1361, w_0, w_1359, w_1360, ⟨by decide, by decide, by decide +kernel⟩⟩
theorem d_831 : decode code 831 = .ok (.istore 5, 2) := by decide +kernel
theorem d_833 : decode code 833 = .ok (.aload_n 2, 1) := by decide +kernel
theorem d_834 : decode code 834 = .ok (.aload_n 0, 1) := by decide +kernel
theorem d_835 : decode code 835 = .ok (.iload 4, 2) := by decide +kernel
theorem d_837 : decode code 837 = .ok (.iconst 1, 1) := by decide +kernel
theorem d_838 : decode code 838 = .ok (.iadd, 1) := by decide +kernel
theorem d_839 : decode code 839 = .ok (.iaload, 1) := by decide +kernel
theorem d_840 : decode code 840 = .ok (.aload_n 0, 1) := by decide +kernel
theorem d_841 : decode code 841 = .ok (.iload 4, 2) := by decide +kernel
theorem d_843 : decode code 843 = .ok (.iconst 2, 1) := by decide +kernel
theorem d_844 : decode code 844 = .ok (.iadd, 1) := by decide +kernel
theorem d_845 : decode code 845 = .ok (.iaload, 1) := by decide +kernel
theorem d_846 : decode code 846 = .ok (.aload_n 0, 1) := by decide +kernel
theorem d_847 : decode code 847 = .ok (.iload 4, 2) := by decide +kernel
theorem d_849 : decode code 849 = .ok (.iconst 3, 1) := by decide +kernel
theorem d_850 : decode code 850 = .ok (.iadd, 1) := by decide +kernel
theorem d_851 : decode code 851 = .ok (.iaload, 1) := by decide +kernel
theorem d_852 : decode code 852 = .ok (.aload_n 0, 1) := by decide +kernel
theorem d_853 : decode code 853 = .ok (.iload 4, 2) := by decide +kernel
theorem d_855 : decode code 855 = .ok (.iconst 4, 1) := by decide +kernel
theorem d_856 : decode code 856 = .ok (.iadd, 1) := by decide +kernel
theorem d_857 : decode code 857 = .ok (.iaload, 1) := by decide +kernel
theorem d_858 : decode code 858 = .ok (.invokevirtual 124, 3) := by decide +kernel
theorem w_2776 : (Cond.code ({ cls := "NumberHouseModel", name := "decimal", desc := "(IIII)V" } : MethodName) prog_14_method_23_code (5 : Nat) (none : Option ClassFile.FieldType)) ∈ q_tbl := q_of 2776 (by decide +kernel) (by decide +kernel)
theorem w_2773 : (Cond.methodLink "NumberHouseLaw" (124 : Nat) ({ cls := "NumberHouseModel", name := "decimal", desc := "(IIII)V" } : MethodName)) ∈ q_tbl := q_of 2773 (by decide +kernel) (by decide +kernel)
theorem w_2774 : (Cond.instanceMethod ({ cls := "NumberHouseModel", name := "decimal", desc := "(IIII)V" } : MethodName)) ∈ q_tbl := q_of 2774 (by decide +kernel) (by decide +kernel)
theorem w_2775 : (Cond.selects "NumberHouseModel" ({ cls := "NumberHouseModel", name := "decimal", desc := "(IIII)V" } : MethodName) ({ cls := "NumberHouseModel", name := "decimal", desc := "(IIII)V" } : MethodName)) ∈ q_tbl := q_of 2775 (by decide +kernel) (by decide +kernel)
theorem LV_NL_124 : q_LV "NumberHouseLaw" 124 y_NM_decimal prog_14_method_23_code 5 none 4 := ⟨w_2776, w_14, w_2773, w_2774, w_2775, ⟨by decide, by decide, by decide +kernel⟩⟩
theorem d_861 : decode code 861 = .ok (.aload_n 2, 1) := by decide +kernel
theorem d_862 : decode code 862 = .ok (.invokevirtual 91, 3) := by decide +kernel
theorem d_865 : decode code 865 = .ok (.iload 5, 2) := by decide +kernel
theorem d_867 : decode code 867 = .ok (.if_icmp .eq 5, 3) := by decide +kernel
theorem d_872 : decode code 872 = .ok (.goto 737, 3) := by decide +kernel
set_option maxRecDepth 100000 in
set_option maxHeartbeats 4000000 in
theorem law_k9 {p : Program} {l : Launch} {e : Env} {s : State} {m : MethodId} {below : List Frame} {meth : Method} {c : Code} {b : Nat} {xs : Nat → Int32} {D : va_G} {g : Nat → ClassId} {A : Nat → Prop} {ws : va_W} {H : Heap} {locs : List Loc} {Q : State → Prop} {ls : Array Slot} {q q2 : Nat → Nat} {qo : Nat} (hlt : l.stackTraces = false) (C0 : q_At p s m #[Value.ref b] meth c y_NL_law code 8 (some .boolean)) (hX : va_X b 6 xs s s.heap) (hbl : b < s.heap.size) (hbA : ¬ A b) (V : q_Wd D g A s ws H locs) (hfl : q_fl ws 0 (nh_w g q)) (hfm : q_fl ws 116 (nm_w g q2)) (hO : ws[169]? = (some (qo, .inl (g 1, 1, .inr (.inl (fun _ => 0)))) : Option (Nat × va_E))) (hl : lv_has ls 8 [(4, .int 0), (3, .ref qo), (2, .ref (q2 0)), (1, .ref (q 0)), (0, .ref b)]) (kend : ∀ (H : Heap) (locs : List Loc) (u : va_W) (ls : Array Slot), q_Wd D g A s u H locs → lv_has ls 8 [(4, .int 0), (0, .ref b)] → W p l e room_1 s m #[Value.ref b] below meth c H locs 300 300000 Q (F0 m 1609 ls [])) : W p l e room_1 s m #[Value.ref b] below meth c H locs 200 200000 Q (F0 m 803 ls []) := by
  have hx := C0.1
  have hb := C0.2.1
  obtain ⟨s1, hs1⟩ : ∃ z : Int32, xs ((1 : Int32).toNatClampNeg) = z := ⟨_, rfl⟩
  obtain ⟨s2, hs2⟩ : ∃ z : Int32, xs ((2 : Int32).toNatClampNeg) = z := ⟨_, rfl⟩
  obtain ⟨s3, hs3⟩ : ∃ z : Int32, xs ((3 : Int32).toNatClampNeg) = z := ⟨_, rfl⟩
  obtain ⟨s4, hs4⟩ : ∃ z : Int32, xs ((4 : Int32).toNatClampNeg) = z := ⟨_, rfl⟩
  obtain ⟨s5, hs5⟩ : ∃ z : Int32, xs ((5 : Int32).toNatClampNeg) = z := ⟨_, rfl⟩
  refine lv_aload_n hx hb d_803 rfl (lv_at hl 3 rfl) ?_
  refine lv_aload_n hx hb d_804 rfl (lv_at hl 4 rfl) ?_
  refine lv_iload hx hb d_805 (lv_at hl 0 rfl) ?_
  refine lv_iconst (v := 1) hx hb d_807 (by decide) ?_
  refine lv_iadd hx hb d_808 ?_
  refine q_ti (v := 1) (by decide) ?_
  refine va_sld hx hb hX hbl hbA V.2.2.1 (by unfold vp_in; decide) d_809 ?_
  refine q_ti (v := s1) hs1 ?_
  refine lv_aload_n hx hb d_810 rfl (lv_at hl 4 rfl) ?_
  refine lv_iload hx hb d_811 (lv_at hl 0 rfl) ?_
  refine lv_iconst (v := 2) hx hb d_813 (by decide) ?_
  refine lv_iadd hx hb d_814 ?_
  refine q_ti (v := 2) (by decide) ?_
  refine va_sld hx hb hX hbl hbA V.2.2.1 (by unfold vp_in; decide) d_815 ?_
  refine q_ti (v := s2) hs2 ?_
  refine lv_aload_n hx hb d_816 rfl (lv_at hl 4 rfl) ?_
  refine lv_iload hx hb d_817 (lv_at hl 0 rfl) ?_
  refine lv_iconst (v := 3) hx hb d_819 (by decide) ?_
  refine lv_iadd hx hb d_820 ?_
  refine q_ti (v := 3) (by decide) ?_
  refine va_sld hx hb hX hbl hbA V.2.2.1 (by unfold vp_in; decide) d_821 ?_
  refine q_ti (v := s3) hs3 ?_
  refine lv_aload_n hx hb d_822 rfl (lv_at hl 4 rfl) ?_
  refine lv_iload hx hb d_823 (lv_at hl 0 rfl) ?_
  refine lv_iconst (v := 4) hx hb d_825 (by decide) ?_
  refine lv_iadd hx hb d_826 ?_
  refine q_ti (v := 4) (by decide) ?_
  refine va_sld hx hb hX hbl hbA V.2.2.1 (by unfold vp_in; decide) d_827 ?_
  refine q_ti (v := s4) hs4 ?_
  refine q_goi V (q_runSW (As := [.ref (q 0), .int s1, .int s2, .int s3, .int s4]) (rest := []) (d := 10) (mc := 3) (ms := 18) C0 V rfl LW_NL_122 (c_NL_decimal l D g ws hlt q s1 s2 s3 s4 hfl _) rfl hl.1 rfl (Nat.le_of_ble_eq_true rfl) ⟨by decide, by decide⟩ ⟨Nat.le_of_ble_eq_true rfl, Nat.le_of_ble_eq_true rfl⟩ d_828) (fun k1 u1 H locs hp V => ?_)
  obtain ⟨hk, hF⟩ := hp
  have hfm : q_fl u1 116 (nm_w g q2) := q_flG hF hfm
  have hO : u1[169]? = _ := (hF 169 (Nat.le_of_ble_eq_true rfl)).trans hO
  replace hO : u1[169]? = (some (qo, .inl (g 1, 1, .inr (.inl (fun _ => 0)))) : Option (Nat × va_E)) := hO
  refine lv_istore (lv' := [(5, .int k1), (4, .int 0), (3, .ref qo), (2, .ref (q2 0)), (1, .ref (q 0)), (0, .ref b)]) hx hb d_831 hl (by decide) rfl (fun ls hl => ?_)
  refine lv_aload_n hx hb d_833 rfl (lv_at hl 3 rfl) ?_
  refine lv_aload_n hx hb d_834 rfl (lv_at hl 5 rfl) ?_
  refine lv_iload hx hb d_835 (lv_at hl 1 rfl) ?_
  refine lv_iconst (v := 1) hx hb d_837 (by decide) ?_
  refine lv_iadd hx hb d_838 ?_
  refine q_ti (v := 1) (by decide) ?_
  refine va_sld hx hb hX hbl hbA V.2.2.1 (by unfold vp_in; decide) d_839 ?_
  refine q_ti (v := s1) hs1 ?_
  refine lv_aload_n hx hb d_840 rfl (lv_at hl 5 rfl) ?_
  refine lv_iload hx hb d_841 (lv_at hl 1 rfl) ?_
  refine lv_iconst (v := 2) hx hb d_843 (by decide) ?_
  refine lv_iadd hx hb d_844 ?_
  refine q_ti (v := 2) (by decide) ?_
  refine va_sld hx hb hX hbl hbA V.2.2.1 (by unfold vp_in; decide) d_845 ?_
  refine q_ti (v := s2) hs2 ?_
  refine lv_aload_n hx hb d_846 rfl (lv_at hl 5 rfl) ?_
  refine lv_iload hx hb d_847 (lv_at hl 1 rfl) ?_
  refine lv_iconst (v := 3) hx hb d_849 (by decide) ?_
  refine lv_iadd hx hb d_850 ?_
  refine q_ti (v := 3) (by decide) ?_
  refine va_sld hx hb hX hbl hbA V.2.2.1 (by unfold vp_in; decide) d_851 ?_
  refine q_ti (v := s3) hs3 ?_
  refine lv_aload_n hx hb d_852 rfl (lv_at hl 5 rfl) ?_
  refine lv_iload hx hb d_853 (lv_at hl 1 rfl) ?_
  refine lv_iconst (v := 4) hx hb d_855 (by decide) ?_
  refine lv_iadd hx hb d_856 ?_
  refine q_ti (v := 4) (by decide) ?_
  refine va_sld hx hb hX hbl hbA V.2.2.1 (by unfold vp_in; decide) d_857 ?_
  refine q_ti (v := s4) hs4 ?_
  have hP116 : u1[116]? = (some (q2 0, .inr (12, [.int 0, .ref (q2 1), .int 0, .ref (q2 2), .int 0, .ref (q2 3), .ref (q2 18), .ref (q2 29), .ref (q2 37), .ref (q2 41), .ref (q2 51), .ref (q2 52)])) : Option (Nat × va_E)) := q_fa (i := 0) hfm rfl
  have hP134 : u1[134]? = (some (q2 18, .inr (14, [.int 0, .ref (q2 19), .int 0, .ref (q2 20), .ref (q2 21), .ref (q2 22), .ref (q2 23), .ref (q2 24), .int 0, .long 0, .int 0, .int 0, .ref (q2 25), .int 0, .ref (q2 26), .int 0, .ref (q2 27), .int 0, .ref (q2 28), .int 0, .int 0])) : Option (Nat × va_E)) := q_fa (i := 18) hfm rfl
  have hP136 : u1[136]? = (some (q2 20, .inl (g 0, 10000, .inl (fun _ => 0))) : Option (Nat × va_E)) := q_fa (i := 20) hfm rfl
  have hP137 : u1[137]? = (some (q2 21, .inl (g 0, 10, .inl (upd (upd (upd (upd (upd (upd (upd (upd (upd (upd (fun _ => 0) 0 1) 1 1) 2 1) 3 1) 4 1) 5 1) 6 1) 7 1) 8 1) 9 1))) : Option (Nat × va_E)) := q_fa (i := 21) hfm rfl
  have hP138 : u1[138]? = (some (q2 22, .inl (g 3, 10, .inl (fun _ => 0))) : Option (Nat × va_E)) := q_fa (i := 22) hfm rfl
  have hP139 : u1[139]? = (some (q2 23, .inl (g 0, 10, .inl (fun _ => 0))) : Option (Nat × va_E)) := q_fa (i := 23) hfm rfl
  have hP140 : u1[140]? = (some (q2 24, .inl (g 0, 4400, .inl (fun _ => 0))) : Option (Nat × va_E)) := q_fa (i := 24) hfm rfl
  have hP141 : u1[141]? = (some (q2 25, .inl (g 0, 4400, .inl (fun _ => 0))) : Option (Nat × va_E)) := q_fa (i := 25) hfm rfl
  refine q_gov V (q_runV (As := [.int s1, .int s2, .int s3, .int s4]) (rest := []) (d := 4) (mc := 0) (ms := 0) (ci := 12) C0 V rfl LV_NL_124 (c_NM_decimal l D g u1 (q2 0) (q2 1) (q2 2) (q2 3) (q2 18) (q2 29) (q2 37) (q2 41) (q2 51) (q2 52) (q2 19) (q2 20) (q2 21) (q2 22) (q2 23) (q2 24) (q2 25) (q2 26) (q2 27) (q2 28) s1 s2 s3 s4 hP116 hP134 hP136 hP137 hP138 hP139 hP140 hP141 _) rfl rfl hP116 rfl hl.1 rfl (Nat.le_of_ble_eq_true rfl) ⟨by decide, by decide⟩ ⟨Nat.le_of_ble_eq_true rfl, Nat.le_of_ble_eq_true rfl⟩ d_858) (fun u2 H locs hp V => ?_)
  obtain ⟨t0, z2, z4, hM, hr, hG⟩ := hp
  replace hM : u2[116]? = (some (q2 0, .inr (12, [.int t0, .ref (q2 1), .int z2, .ref (q2 2), .int z4, .ref (q2 3), .ref (q2 18), .ref (q2 29), .ref (q2 37), .ref (q2 41), .ref (q2 51), .ref (q2 52)])) : Option (Nat × va_E)) := hM
  replace hO := (hG 169 (Nat.le_refl _)).trans hO
  replace hO : u2[169]? = (some (qo, .inl (g 1, 1, .inr (.inl (fun _ => 0)))) : Option (Nat × va_E)) := hO
  rcases hk with ⟨ek, hk⟩ | ⟨ek, hk⟩ | ⟨ek, hk⟩
  ·
    obtain rfl : k1 = 0 := q_Ieq (x := k1.toInt) (y := 0) rfl (by decide) ek
    obtain rfl : t0 = 0 := q_Ieq (x := t0.toInt) (y := 0) rfl (by decide) (by omega)
    refine lv_aload_n hx hb d_861 rfl (lv_at hl 3 rfl) ?_
    refine q_goi V (q_runV (As := []) (rest := []) (d := 1) (mc := 0) (ms := 0) (ci := 12) C0 V rfl LV_NL_91 (c_NM_thrown l D g u2 (q2 0) 0 (q2 1) z2 (q2 2) z4 (q2 3) (q2 18) (q2 29) (q2 37) (q2 41) (q2 51) (q2 52) hM _) rfl rfl hM rfl hl.1 rfl (Nat.le_of_ble_eq_true rfl) ⟨by decide, by decide⟩ ⟨Nat.le_of_ble_eq_true rfl, Nat.le_of_ble_eq_true rfl⟩ d_862) (fun v9 u9 H locs hp V => ?_)
    obtain ⟨rfl, rfl⟩ := hp
    refine lv_iload hx hb d_865 (lv_at hl 0 rfl) ?_
    refine lv_icmp_eq (tgt := 872) hx hb d_867 (by decide) (fun c1 => ?_) (fun c1 => absurd (by decide) c1)
    refine lv_goto (tgt := 1609) hx hb d_872 (by decide) ?_
    refine W.widen (k := 300) (n := 300000) (Nat.le_of_ble_eq_true rfl) (Nat.le_of_ble_eq_true rfl) ?_
    exact kend _ _ _ _ V (q_lw hl (q_lw1 1 rfl (q_lw1 5 rfl q_lw0)))
  ·
    obtain rfl : k1 = 1 := q_Ieq (x := k1.toInt) (y := 1) rfl (by decide) ek
    obtain rfl : t0 = 1 := q_Ieq (x := t0.toInt) (y := 1) rfl (by decide) (by omega)
    refine lv_aload_n hx hb d_861 rfl (lv_at hl 3 rfl) ?_
    refine q_goi V (q_runV (As := []) (rest := []) (d := 1) (mc := 0) (ms := 0) (ci := 12) C0 V rfl LV_NL_91 (c_NM_thrown l D g u2 (q2 0) 1 (q2 1) z2 (q2 2) z4 (q2 3) (q2 18) (q2 29) (q2 37) (q2 41) (q2 51) (q2 52) hM _) rfl rfl hM rfl hl.1 rfl (Nat.le_of_ble_eq_true rfl) ⟨by decide, by decide⟩ ⟨Nat.le_of_ble_eq_true rfl, Nat.le_of_ble_eq_true rfl⟩ d_862) (fun v9 u9 H locs hp V => ?_)
    obtain ⟨rfl, rfl⟩ := hp
    refine lv_iload hx hb d_865 (lv_at hl 0 rfl) ?_
    refine lv_icmp_eq (tgt := 872) hx hb d_867 (by decide) (fun c2 => ?_) (fun c2 => absurd (by decide) c2)
    refine lv_goto (tgt := 1609) hx hb d_872 (by decide) ?_
    refine W.widen (k := 300) (n := 300000) (Nat.le_of_ble_eq_true rfl) (Nat.le_of_ble_eq_true rfl) ?_
    exact kend _ _ _ _ V (q_lw hl (q_lw1 1 rfl (q_lw1 5 rfl q_lw0)))
  ·
    obtain rfl : k1 = 2 := q_Ieq (x := k1.toInt) (y := 2) rfl (by decide) ek
    obtain rfl : t0 = 2 := q_Ieq (x := t0.toInt) (y := 2) rfl (by decide) (by omega)
    refine lv_aload_n hx hb d_861 rfl (lv_at hl 3 rfl) ?_
    refine q_goi V (q_runV (As := []) (rest := []) (d := 1) (mc := 0) (ms := 0) (ci := 12) C0 V rfl LV_NL_91 (c_NM_thrown l D g u2 (q2 0) 2 (q2 1) z2 (q2 2) z4 (q2 3) (q2 18) (q2 29) (q2 37) (q2 41) (q2 51) (q2 52) hM _) rfl rfl hM rfl hl.1 rfl (Nat.le_of_ble_eq_true rfl) ⟨by decide, by decide⟩ ⟨Nat.le_of_ble_eq_true rfl, Nat.le_of_ble_eq_true rfl⟩ d_862) (fun v9 u9 H locs hp V => ?_)
    obtain ⟨rfl, rfl⟩ := hp
    refine lv_iload hx hb d_865 (lv_at hl 0 rfl) ?_
    refine lv_icmp_eq (tgt := 872) hx hb d_867 (by decide) (fun c3 => ?_) (fun c3 => absurd (by decide) c3)
    refine lv_goto (tgt := 1609) hx hb d_872 (by decide) ?_
    refine W.widen (k := 300) (n := 300000) (Nat.le_of_ble_eq_true rfl) (Nat.le_of_ble_eq_true rfl) ?_
    exact kend _ _ _ _ V (q_lw hl (q_lw1 1 rfl (q_lw1 5 rfl q_lw0)))
