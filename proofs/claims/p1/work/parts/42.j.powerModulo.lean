/-! the law, case 8: powerModulo -/
theorem d_731 : decode code 731 = .ok (.aload_n 1, 1) := by decide +kernel
theorem d_732 : decode code 732 = .ok (.aload_n 0, 1) := by decide +kernel
theorem d_733 : decode code 733 = .ok (.iload 4, 2) := by decide +kernel
theorem d_735 : decode code 735 = .ok (.iconst 1, 1) := by decide +kernel
theorem d_736 : decode code 736 = .ok (.iadd, 1) := by decide +kernel
theorem d_737 : decode code 737 = .ok (.iaload, 1) := by decide +kernel
theorem d_738 : decode code 738 = .ok (.aload_n 0, 1) := by decide +kernel
theorem d_739 : decode code 739 = .ok (.iload 4, 2) := by decide +kernel
theorem d_741 : decode code 741 = .ok (.iconst 2, 1) := by decide +kernel
theorem d_742 : decode code 742 = .ok (.iadd, 1) := by decide +kernel
theorem d_743 : decode code 743 = .ok (.iaload, 1) := by decide +kernel
theorem d_744 : decode code 744 = .ok (.aload_n 0, 1) := by decide +kernel
theorem d_745 : decode code 745 = .ok (.iload 4, 2) := by decide +kernel
theorem d_747 : decode code 747 = .ok (.iconst 3, 1) := by decide +kernel
theorem d_748 : decode code 748 = .ok (.iadd, 1) := by decide +kernel
theorem d_749 : decode code 749 = .ok (.iaload, 1) := by decide +kernel
theorem d_750 : decode code 750 = .ok (.aload_n 0, 1) := by decide +kernel
theorem d_751 : decode code 751 = .ok (.iload 4, 2) := by decide +kernel
theorem d_753 : decode code 753 = .ok (.iconst 4, 1) := by decide +kernel
theorem d_754 : decode code 754 = .ok (.iadd, 1) := by decide +kernel
theorem d_755 : decode code 755 = .ok (.iaload, 1) := by decide +kernel
theorem d_756 : decode code 756 = .ok (.invokestatic 119, 3) := by decide +kernel
theorem w_1349 : (Cond.codeWith ({ cls := "NumberHouseLaw", name := "powerModulo", desc := "(LNumberHouse;IIII)I" } : MethodName) method_10_code (6 : Nat) (some .int) [((0 : Nat), (9 : Nat), (12 : Nat), (13 : Nat)), ((0 : Nat), (9 : Nat), (16 : Nat), (19 : Nat))]) ∈ q_tbl := q_of 1349 (by decide +kernel) (by decide +kernel)
theorem w_1347 : (Cond.methodLink "NumberHouseLaw" (119 : Nat) ({ cls := "NumberHouseLaw", name := "powerModulo", desc := "(LNumberHouse;IIII)I" } : MethodName)) ∈ q_tbl := q_of 1347 (by decide +kernel) (by decide +kernel)
theorem w_1348 : (Cond.static ({ cls := "NumberHouseLaw", name := "powerModulo", desc := "(LNumberHouse;IIII)I" } : MethodName)) ∈ q_tbl := q_of 1348 (by decide +kernel) (by decide +kernel)
theorem LW_NL_119 : q_LW "NumberHouseLaw" 119 y_NL_powerModulo method_10_code 6 (some .int) [(0, 9, 12, 13), (0, 9, 16, 19)] 5 := ⟨w_1349, w_0, w_1347, w_1348, ⟨by decide, by decide, by decide +kernel⟩⟩
theorem d_759 : decode code 759 = .ok (.istore 5, 2) := by decide +kernel
theorem d_761 : decode code 761 = .ok (.aload_n 2, 1) := by decide +kernel
theorem d_762 : decode code 762 = .ok (.aload_n 0, 1) := by decide +kernel
theorem d_763 : decode code 763 = .ok (.iload 4, 2) := by decide +kernel
theorem d_765 : decode code 765 = .ok (.iconst 1, 1) := by decide +kernel
theorem d_766 : decode code 766 = .ok (.iadd, 1) := by decide +kernel
theorem d_767 : decode code 767 = .ok (.iaload, 1) := by decide +kernel
theorem d_768 : decode code 768 = .ok (.aload_n 0, 1) := by decide +kernel
theorem d_769 : decode code 769 = .ok (.iload 4, 2) := by decide +kernel
theorem d_771 : decode code 771 = .ok (.iconst 2, 1) := by decide +kernel
theorem d_772 : decode code 772 = .ok (.iadd, 1) := by decide +kernel
theorem d_773 : decode code 773 = .ok (.iaload, 1) := by decide +kernel
theorem d_774 : decode code 774 = .ok (.aload_n 0, 1) := by decide +kernel
theorem d_775 : decode code 775 = .ok (.iload 4, 2) := by decide +kernel
theorem d_777 : decode code 777 = .ok (.iconst 3, 1) := by decide +kernel
theorem d_778 : decode code 778 = .ok (.iadd, 1) := by decide +kernel
theorem d_779 : decode code 779 = .ok (.iaload, 1) := by decide +kernel
theorem d_780 : decode code 780 = .ok (.aload_n 0, 1) := by decide +kernel
theorem d_781 : decode code 781 = .ok (.iload 4, 2) := by decide +kernel
theorem d_783 : decode code 783 = .ok (.iconst 4, 1) := by decide +kernel
theorem d_784 : decode code 784 = .ok (.iadd, 1) := by decide +kernel
theorem d_785 : decode code 785 = .ok (.iaload, 1) := by decide +kernel
theorem d_786 : decode code 786 = .ok (.invokevirtual 121, 3) := by decide +kernel
theorem w_2768 : (Cond.code ({ cls := "NumberHouseModel", name := "powerModulo", desc := "(IIII)V" } : MethodName) prog_14_method_22_code (5 : Nat) (none : Option ClassFile.FieldType)) ∈ q_tbl := q_of 2768 (by decide +kernel) (by decide +kernel)
theorem w_2765 : (Cond.methodLink "NumberHouseLaw" (121 : Nat) ({ cls := "NumberHouseModel", name := "powerModulo", desc := "(IIII)V" } : MethodName)) ∈ q_tbl := q_of 2765 (by decide +kernel) (by decide +kernel)
theorem w_2766 : (Cond.instanceMethod ({ cls := "NumberHouseModel", name := "powerModulo", desc := "(IIII)V" } : MethodName)) ∈ q_tbl := q_of 2766 (by decide +kernel) (by decide +kernel)
theorem w_2767 : (Cond.selects "NumberHouseModel" ({ cls := "NumberHouseModel", name := "powerModulo", desc := "(IIII)V" } : MethodName) ({ cls := "NumberHouseModel", name := "powerModulo", desc := "(IIII)V" } : MethodName)) ∈ q_tbl := q_of 2767 (by decide +kernel) (by decide +kernel)
theorem LV_NL_121 : q_LV "NumberHouseLaw" 121 y_NM_powerModulo prog_14_method_22_code 5 none 4 := ⟨w_2768, w_14, w_2765, w_2766, w_2767, ⟨by decide, by decide, by decide +kernel⟩⟩
theorem d_789 : decode code 789 = .ok (.aload_n 2, 1) := by decide +kernel
theorem d_790 : decode code 790 = .ok (.invokevirtual 91, 3) := by decide +kernel
theorem d_793 : decode code 793 = .ok (.iload 5, 2) := by decide +kernel
theorem d_795 : decode code 795 = .ok (.if_icmp .eq 5, 3) := by decide +kernel
theorem d_800 : decode code 800 = .ok (.goto 809, 3) := by decide +kernel
set_option maxRecDepth 100000 in
set_option maxHeartbeats 4000000 in
theorem law_k8 {p : Program} {l : Launch} {e : Env} {s : State} {m : MethodId} {below : List Frame} {meth : Method} {c : Code} {b : Nat} {xs : Nat → Int32} {D : va_G} {g : Nat → ClassId} {A : Nat → Prop} {ws : va_W} {H : Heap} {locs : List Loc} {Q : State → Prop} {ls : Array Slot} {q q2 : Nat → Nat} {qo : Nat} (hlt : l.stackTraces = false) (C0 : q_At p s m #[Value.ref b] meth c y_NL_law code 8 (some .boolean)) (hX : va_X b 6 xs s s.heap) (hbl : b < s.heap.size) (hbA : ¬ A b) (V : q_Wd D g A s ws H locs) (hfl : q_fl ws 0 (nh_w g q)) (hfm : q_fl ws 116 (nm_w g q2)) (hO : ws[169]? = (some (qo, .inl (g 1, 1, .inr (.inl (fun _ => 0)))) : Option (Nat × va_E))) (hl : lv_has ls 8 [(4, .int 0), (3, .ref qo), (2, .ref (q2 0)), (1, .ref (q 0)), (0, .ref b)]) (kend : ∀ (H : Heap) (locs : List Loc) (u : va_W) (ls : Array Slot), q_Wd D g A s u H locs → lv_has ls 8 [(4, .int 0), (0, .ref b)] → W p l e room_1 s m #[Value.ref b] below meth c H locs 300 300000 Q (F0 m 1609 ls [])) : W p l e room_1 s m #[Value.ref b] below meth c H locs 200 200000 Q (F0 m 731 ls []) := by
  have hx := C0.1
  have hb := C0.2.1
  obtain ⟨s1, hs1⟩ : ∃ z : Int32, xs ((1 : Int32).toNatClampNeg) = z := ⟨_, rfl⟩
  obtain ⟨s2, hs2⟩ : ∃ z : Int32, xs ((2 : Int32).toNatClampNeg) = z := ⟨_, rfl⟩
  obtain ⟨s3, hs3⟩ : ∃ z : Int32, xs ((3 : Int32).toNatClampNeg) = z := ⟨_, rfl⟩
  obtain ⟨s4, hs4⟩ : ∃ z : Int32, xs ((4 : Int32).toNatClampNeg) = z := ⟨_, rfl⟩
  obtain ⟨s5, hs5⟩ : ∃ z : Int32, xs ((5 : Int32).toNatClampNeg) = z := ⟨_, rfl⟩
  refine lv_aload_n hx hb d_731 rfl (lv_at hl 3 rfl) ?_
  refine lv_aload_n hx hb d_732 rfl (lv_at hl 4 rfl) ?_
  refine lv_iload hx hb d_733 (lv_at hl 0 rfl) ?_
  refine lv_iconst (v := 1) hx hb d_735 (by decide) ?_
  refine lv_iadd hx hb d_736 ?_
  refine q_ti (v := 1) (by decide) ?_
  refine va_sld hx hb hX hbl hbA V.2.2.1 (by unfold vp_in; decide) d_737 ?_
  refine q_ti (v := s1) hs1 ?_
  refine lv_aload_n hx hb d_738 rfl (lv_at hl 4 rfl) ?_
  refine lv_iload hx hb d_739 (lv_at hl 0 rfl) ?_
  refine lv_iconst (v := 2) hx hb d_741 (by decide) ?_
  refine lv_iadd hx hb d_742 ?_
  refine q_ti (v := 2) (by decide) ?_
  refine va_sld hx hb hX hbl hbA V.2.2.1 (by unfold vp_in; decide) d_743 ?_
  refine q_ti (v := s2) hs2 ?_
  refine lv_aload_n hx hb d_744 rfl (lv_at hl 4 rfl) ?_
  refine lv_iload hx hb d_745 (lv_at hl 0 rfl) ?_
  refine lv_iconst (v := 3) hx hb d_747 (by decide) ?_
  refine lv_iadd hx hb d_748 ?_
  refine q_ti (v := 3) (by decide) ?_
  refine va_sld hx hb hX hbl hbA V.2.2.1 (by unfold vp_in; decide) d_749 ?_
  refine q_ti (v := s3) hs3 ?_
  refine lv_aload_n hx hb d_750 rfl (lv_at hl 4 rfl) ?_
  refine lv_iload hx hb d_751 (lv_at hl 0 rfl) ?_
  refine lv_iconst (v := 4) hx hb d_753 (by decide) ?_
  refine lv_iadd hx hb d_754 ?_
  refine q_ti (v := 4) (by decide) ?_
  refine va_sld hx hb hX hbl hbA V.2.2.1 (by unfold vp_in; decide) d_755 ?_
  refine q_ti (v := s4) hs4 ?_
  refine q_goi V (q_runSW (As := [.ref (q 0), .int s1, .int s2, .int s3, .int s4]) (rest := []) (d := 9) (mc := 2) (ms := 12) C0 V rfl LW_NL_119 (c_NL_powerModulo l D g ws hlt q s1 s2 s3 s4 hfl _) rfl hl.1 rfl (Nat.le_of_ble_eq_true rfl) ⟨by decide, by decide⟩ ⟨Nat.le_of_ble_eq_true rfl, Nat.le_of_ble_eq_true rfl⟩ d_756) (fun k1 u1 H locs hp V => ?_)
  obtain ⟨hk, hF⟩ := hp
  have hfm : q_fl u1 116 (nm_w g q2) := q_flG hF hfm
  have hO : u1[169]? = _ := (hF 169 (Nat.le_of_ble_eq_true rfl)).trans hO
  replace hO : u1[169]? = (some (qo, .inl (g 1, 1, .inr (.inl (fun _ => 0)))) : Option (Nat × va_E)) := hO
  refine lv_istore (lv' := [(5, .int k1), (4, .int 0), (3, .ref qo), (2, .ref (q2 0)), (1, .ref (q 0)), (0, .ref b)]) hx hb d_759 hl (by decide) rfl (fun ls hl => ?_)
  refine lv_aload_n hx hb d_761 rfl (lv_at hl 3 rfl) ?_
  refine lv_aload_n hx hb d_762 rfl (lv_at hl 5 rfl) ?_
  refine lv_iload hx hb d_763 (lv_at hl 1 rfl) ?_
  refine lv_iconst (v := 1) hx hb d_765 (by decide) ?_
  refine lv_iadd hx hb d_766 ?_
  refine q_ti (v := 1) (by decide) ?_
  refine va_sld hx hb hX hbl hbA V.2.2.1 (by unfold vp_in; decide) d_767 ?_
  refine q_ti (v := s1) hs1 ?_
  refine lv_aload_n hx hb d_768 rfl (lv_at hl 5 rfl) ?_
  refine lv_iload hx hb d_769 (lv_at hl 1 rfl) ?_
  refine lv_iconst (v := 2) hx hb d_771 (by decide) ?_
  refine lv_iadd hx hb d_772 ?_
  refine q_ti (v := 2) (by decide) ?_
  refine va_sld hx hb hX hbl hbA V.2.2.1 (by unfold vp_in; decide) d_773 ?_
  refine q_ti (v := s2) hs2 ?_
  refine lv_aload_n hx hb d_774 rfl (lv_at hl 5 rfl) ?_
  refine lv_iload hx hb d_775 (lv_at hl 1 rfl) ?_
  refine lv_iconst (v := 3) hx hb d_777 (by decide) ?_
  refine lv_iadd hx hb d_778 ?_
  refine q_ti (v := 3) (by decide) ?_
  refine va_sld hx hb hX hbl hbA V.2.2.1 (by unfold vp_in; decide) d_779 ?_
  refine q_ti (v := s3) hs3 ?_
  refine lv_aload_n hx hb d_780 rfl (lv_at hl 5 rfl) ?_
  refine lv_iload hx hb d_781 (lv_at hl 1 rfl) ?_
  refine lv_iconst (v := 4) hx hb d_783 (by decide) ?_
  refine lv_iadd hx hb d_784 ?_
  refine q_ti (v := 4) (by decide) ?_
  refine va_sld hx hb hX hbl hbA V.2.2.1 (by unfold vp_in; decide) d_785 ?_
  refine q_ti (v := s4) hs4 ?_
  have hP116 : u1[116]? = (some (q2 0, .inr (12, [.int 0, .ref (q2 1), .int 0, .ref (q2 2), .int 0, .ref (q2 3), .ref (q2 18), .ref (q2 29), .ref (q2 37), .ref (q2 41), .ref (q2 51), .ref (q2 52)])) : Option (Nat × va_E)) := q_fa (i := 0) hfm rfl
  have hP119 : u1[119]? = (some (q2 3, .inr (13, [.int 0, .int 0, .ref (q2 4), .int 0, .ref (q2 5), .ref (q2 6), .ref (q2 7), .int 0, .ref (q2 8), .ref (q2 9), .ref (q2 10), .ref (q2 11), .ref (q2 12), .ref (q2 13), .ref (q2 14), .ref (q2 15), .int 0, .int 0, .ref (q2 16), .ref (q2 17), .int 0])) : Option (Nat × va_E)) := q_fa (i := 3) hfm rfl
  have hP121 : u1[121]? = (some (q2 5, .inl (g 0, 1408, .inl (fun _ => 0))) : Option (Nat × va_E)) := q_fa (i := 5) hfm rfl
  have hP122 : u1[122]? = (some (q2 6, .inl (g 3, 11, .inl (fun _ => 0))) : Option (Nat × va_E)) := q_fa (i := 6) hfm rfl
  refine q_gov V (q_runV (As := [.int s1, .int s2, .int s3, .int s4]) (rest := []) (d := 4) (mc := 0) (ms := 0) (ci := 12) C0 V rfl LV_NL_121 (c_NM_powerModulo l D g u1 (q2 0) (q2 1) (q2 2) (q2 3) (q2 18) (q2 29) (q2 37) (q2 41) (q2 51) (q2 52) (q2 4) (q2 5) (q2 6) (q2 7) (q2 8) (q2 9) (q2 10) (q2 11) (q2 12) (q2 13) (q2 14) (q2 15) (q2 16) (q2 17) s1 s2 s3 s4 hP116 hP119 hP121 hP122 _) rfl rfl hP116 rfl hl.1 rfl (Nat.le_of_ble_eq_true rfl) ⟨by decide, by decide⟩ ⟨Nat.le_of_ble_eq_true rfl, Nat.le_of_ble_eq_true rfl⟩ d_786) (fun u2 H locs hp V => ?_)
  obtain ⟨t0, z2, z4, hM, hr, hG⟩ := hp
  replace hM : u2[116]? = (some (q2 0, .inr (12, [.int t0, .ref (q2 1), .int z2, .ref (q2 2), .int z4, .ref (q2 3), .ref (q2 18), .ref (q2 29), .ref (q2 37), .ref (q2 41), .ref (q2 51), .ref (q2 52)])) : Option (Nat × va_E)) := hM
  replace hO := (hG 169 (Nat.le_refl _)).trans hO
  replace hO : u2[169]? = (some (qo, .inl (g 1, 1, .inr (.inl (fun _ => 0)))) : Option (Nat × va_E)) := hO
  rcases hk with ⟨ek, hk⟩ | ⟨ek, hk⟩ | ⟨ek, hk⟩
  ·
    obtain rfl : k1 = 0 := q_Ieq (x := k1.toInt) (y := 0) rfl (by decide) ek
    obtain rfl : t0 = 0 := q_Ieq (x := t0.toInt) (y := 0) rfl (by decide) (by omega)
    refine lv_aload_n hx hb d_789 rfl (lv_at hl 3 rfl) ?_
    refine q_goi V (q_runV (As := []) (rest := []) (d := 1) (mc := 0) (ms := 0) (ci := 12) C0 V rfl LV_NL_91 (c_NM_thrown l D g u2 (q2 0) 0 (q2 1) z2 (q2 2) z4 (q2 3) (q2 18) (q2 29) (q2 37) (q2 41) (q2 51) (q2 52) hM _) rfl rfl hM rfl hl.1 rfl (Nat.le_of_ble_eq_true rfl) ⟨by decide, by decide⟩ ⟨Nat.le_of_ble_eq_true rfl, Nat.le_of_ble_eq_true rfl⟩ d_790) (fun v9 u9 H locs hp V => ?_)
    obtain ⟨rfl, rfl⟩ := hp
    refine lv_iload hx hb d_793 (lv_at hl 0 rfl) ?_
    refine lv_icmp_eq (tgt := 800) hx hb d_795 (by decide) (fun c1 => ?_) (fun c1 => absurd (by decide) c1)
    refine lv_goto (tgt := 1609) hx hb d_800 (by decide) ?_
    refine W.widen (k := 300) (n := 300000) (Nat.le_of_ble_eq_true rfl) (Nat.le_of_ble_eq_true rfl) ?_
    exact kend _ _ _ _ V (q_lw hl (q_lw1 1 rfl (q_lw1 5 rfl q_lw0)))
  ·
    obtain rfl : k1 = 1 := q_Ieq (x := k1.toInt) (y := 1) rfl (by decide) ek
    obtain rfl : t0 = 1 := q_Ieq (x := t0.toInt) (y := 1) rfl (by decide) (by omega)
    refine lv_aload_n hx hb d_789 rfl (lv_at hl 3 rfl) ?_
    refine q_goi V (q_runV (As := []) (rest := []) (d := 1) (mc := 0) (ms := 0) (ci := 12) C0 V rfl LV_NL_91 (c_NM_thrown l D g u2 (q2 0) 1 (q2 1) z2 (q2 2) z4 (q2 3) (q2 18) (q2 29) (q2 37) (q2 41) (q2 51) (q2 52) hM _) rfl rfl hM rfl hl.1 rfl (Nat.le_of_ble_eq_true rfl) ⟨by decide, by decide⟩ ⟨Nat.le_of_ble_eq_true rfl, Nat.le_of_ble_eq_true rfl⟩ d_790) (fun v9 u9 H locs hp V => ?_)
    obtain ⟨rfl, rfl⟩ := hp
    refine lv_iload hx hb d_793 (lv_at hl 0 rfl) ?_
    refine lv_icmp_eq (tgt := 800) hx hb d_795 (by decide) (fun c2 => ?_) (fun c2 => absurd (by decide) c2)
    refine lv_goto (tgt := 1609) hx hb d_800 (by decide) ?_
    refine W.widen (k := 300) (n := 300000) (Nat.le_of_ble_eq_true rfl) (Nat.le_of_ble_eq_true rfl) ?_
    exact kend _ _ _ _ V (q_lw hl (q_lw1 1 rfl (q_lw1 5 rfl q_lw0)))
  ·
    obtain rfl : k1 = 2 := q_Ieq (x := k1.toInt) (y := 2) rfl (by decide) ek
    obtain rfl : t0 = 2 := q_Ieq (x := t0.toInt) (y := 2) rfl (by decide) (by omega)
    refine lv_aload_n hx hb d_789 rfl (lv_at hl 3 rfl) ?_
    refine q_goi V (q_runV (As := []) (rest := []) (d := 1) (mc := 0) (ms := 0) (ci := 12) C0 V rfl LV_NL_91 (c_NM_thrown l D g u2 (q2 0) 2 (q2 1) z2 (q2 2) z4 (q2 3) (q2 18) (q2 29) (q2 37) (q2 41) (q2 51) (q2 52) hM _) rfl rfl hM rfl hl.1 rfl (Nat.le_of_ble_eq_true rfl) ⟨by decide, by decide⟩ ⟨Nat.le_of_ble_eq_true rfl, Nat.le_of_ble_eq_true rfl⟩ d_790) (fun v9 u9 H locs hp V => ?_)
    obtain ⟨rfl, rfl⟩ := hp
    refine lv_iload hx hb d_793 (lv_at hl 0 rfl) ?_
    refine lv_icmp_eq (tgt := 800) hx hb d_795 (by decide) (fun c3 => ?_) (fun c3 => absurd (by decide) c3)
    refine lv_goto (tgt := 1609) hx hb d_800 (by decide) ?_
    refine W.widen (k := 300) (n := 300000) (Nat.le_of_ble_eq_true rfl) (Nat.le_of_ble_eq_true rfl) ?_
    exact kend _ _ _ _ V (q_lw hl (q_lw1 1 rfl (q_lw1 5 rfl q_lw0)))
