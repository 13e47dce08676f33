/-! the law, case 7: wholeBy -/
theorem d_659 : decode code 659 = .ok (.aload_n 1, 1) := by decide +kernel
theorem d_660 : decode code 660 = .ok (.aload_n 0, 1) := by decide +kernel
theorem d_661 : decode code 661 = .ok (.iload 4, 2) := by decide +kernel
theorem d_663 : decode code 663 = .ok (.iconst 1, 1) := by decide +kernel
theorem d_664 : decode code 664 = .ok (.iadd, 1) := by decide +kernel
theorem d_665 : decode code 665 = .ok (.iaload, 1) := by decide +kernel
theorem d_666 : decode code 666 = .ok (.aload_n 0, 1) := by decide +kernel
theorem d_667 : decode code 667 = .ok (.iload 4, 2) := by decide +kernel
theorem d_669 : decode code 669 = .ok (.iconst 2, 1) := by decide +kernel
theorem d_670 : decode code 670 = .ok (.iadd, 1) := by decide +kernel
theorem d_671 : decode code 671 = .ok (.iaload, 1) := by decide +kernel
theorem d_672 : decode code 672 = .ok (.aload_n 0, 1) := by decide +kernel
theorem d_673 : decode code 673 = .ok (.iload 4, 2) := by decide +kernel
theorem d_675 : decode code 675 = .ok (.iconst 3, 1) := by decide +kernel
theorem d_676 : decode code 676 = .ok (.iadd, 1) := by decide +kernel
theorem d_677 : decode code 677 = .ok (.iaload, 1) := by decide +kernel
theorem d_678 : decode code 678 = .ok (.aload_n 0, 1) := by decide +kernel
theorem d_679 : decode code 679 = .ok (.iload 4, 2) := by decide +kernel
theorem d_681 : decode code 681 = .ok (.iconst 4, 1) := by decide +kernel
theorem d_682 : decode code 682 = .ok (.iadd, 1) := by decide +kernel
theorem d_683 : decode code 683 = .ok (.iaload, 1) := by decide +kernel
theorem d_684 : decode code 684 = .ok (.invokestatic 116, 3) := by decide +kernel
theorem w_1323 : (Cond.codeWith ({ cls := "NumberHouseLaw", name := "wholeBy", desc := "(LNumberHouse;IIII)I" } : MethodName) method_9_code (6 : Nat) (some .int) [((0 : Nat), (9 : Nat), (12 : Nat), (13 : Nat)), ((0 : Nat), (9 : Nat), (16 : Nat), (19 : Nat))]) ∈ q_tbl := q_of 1323 (by decide +kernel) (by decide +kernel)
theorem w_1321 : (Cond.methodLink "NumberHouseLaw" (116 : Nat) ({ cls := "NumberHouseLaw", name := "wholeBy", desc := "(LNumberHouse;IIII)I" } : MethodName)) ∈ q_tbl := q_of 1321 (by decide +kernel) (by decide +kernel)
theorem w_1322 : (Cond.static ({ cls := "NumberHouseLaw", name := "wholeBy", desc := "(LNumberHouse;IIII)I" } : MethodName)) ∈ q_tbl := q_of 1322 (by decide +kernel) (by decide +kernel)
theorem LW_NL_116 : q_LW "NumberHouseLaw" 116 y_NL_wholeBy method_9_code 6 (some .int) [(0, 9, 12, 13), (0, 9, 16, 19)] 5 := ⟨w_1323, w_0, w_1321, w_1322, ⟨by decide, by decide, by decide +kernel⟩⟩
theorem d_687 : decode code 687 = .ok (.istore 5, 2) := by decide +kernel
theorem d_689 : decode code 689 = .ok (.aload_n 2, 1) := by decide +kernel
theorem d_690 : decode code 690 = .ok (.aload_n 0, 1) := by decide +kernel
theorem d_691 : decode code 691 = .ok (.iload 4, 2) := by decide +kernel
theorem d_693 : decode code 693 = .ok (.iconst 1, 1) := by decide +kernel
theorem d_694 : decode code 694 = .ok (.iadd, 1) := by decide +kernel
theorem d_695 : decode code 695 = .ok (.iaload, 1) := by decide +kernel
theorem d_696 : decode code 696 = .ok (.aload_n 0, 1) := by decide +kernel
theorem d_697 : decode code 697 = .ok (.iload 4, 2) := by decide +kernel
theorem d_699 : decode code 699 = .ok (.iconst 2, 1) := by decide +kernel
theorem d_700 : decode code 700 = .ok (.iadd, 1) := by decide +kernel
theorem d_701 : decode code 701 = .ok (.iaload, 1) := by decide +kernel
theorem d_702 : decode code 702 = .ok (.aload_n 0, 1) := by decide +kernel
theorem d_703 : decode code 703 = .ok (.iload 4, 2) := by decide +kernel
theorem d_705 : decode code 705 = .ok (.iconst 3, 1) := by decide +kernel
theorem d_706 : decode code 706 = .ok (.iadd, 1) := by decide +kernel
theorem d_707 : decode code 707 = .ok (.iaload, 1) := by decide +kernel
theorem d_708 : decode code 708 = .ok (.aload_n 0, 1) := by decide +kernel
theorem d_709 : decode code 709 = .ok (.iload 4, 2) := by decide +kernel
theorem d_711 : decode code 711 = .ok (.iconst 4, 1) := by decide +kernel
theorem d_712 : decode code 712 = .ok (.iadd, 1) := by decide +kernel
theorem d_713 : decode code 713 = .ok (.iaload, 1) := by decide +kernel
theorem d_714 : decode code 714 = .ok (.invokevirtual 118, 3) := by decide +kernel
theorem w_2748 : (Cond.code ({ cls := "NumberHouseModel", name := "wholeBy", desc := "(IIII)V" } : MethodName) prog_14_method_21_code (5 : Nat) (none : Option ClassFile.FieldType)) ∈ q_tbl := q_of 2748 (by decide +kernel) (by decide +kernel)
theorem w_2745 : (Cond.methodLink "NumberHouseLaw" (118 : Nat) ({ cls := "NumberHouseModel", name := "wholeBy", desc := "(IIII)V" } : MethodName)) ∈ q_tbl := q_of 2745 (by decide +kernel) (by decide +kernel)
theorem w_2746 : (Cond.instanceMethod ({ cls := "NumberHouseModel", name := "wholeBy", desc := "(IIII)V" } : MethodName)) ∈ q_tbl := q_of 2746 (by decide +kernel) (by decide +kernel)
theorem w_2747 : (Cond.selects "NumberHouseModel" ({ cls := "NumberHouseModel", name := "wholeBy", desc := "(IIII)V" } : MethodName) ({ cls := "NumberHouseModel", name := "wholeBy", desc := "(IIII)V" } : MethodName)) ∈ q_tbl := q_of 2747 (by decide +kernel) (by decide +kernel)
theorem LV_NL_118 : q_LV "NumberHouseLaw" 118 y_NM_wholeBy prog_14_method_21_code 5 none 4 := ⟨w_2748, w_14, w_2745, w_2746, w_2747, ⟨by decide, by decide, by decide +kernel⟩⟩
theorem d_717 : decode code 717 = .ok (.aload_n 2, 1) := by decide +kernel
theorem d_718 : decode code 718 = .ok (.invokevirtual 91, 3) := by decide +kernel
theorem d_721 : decode code 721 = .ok (.iload 5, 2) := by decide +kernel
theorem d_723 : decode code 723 = .ok (.if_icmp .eq 5, 3) := by decide +kernel
theorem d_728 : decode code 728 = .ok (.goto 881, 3) := by decide +kernel
set_option maxRecDepth 100000 in
set_option maxHeartbeats 4000000 in
theorem law_k7 {p : Program} {l : Launch} {e : Env} {s : State} {m : MethodId} {below : List Frame} {meth : Method} {c : Code} {b : Nat} {xs : Nat → Int32} {D : va_G} {g : Nat → ClassId} {A : Nat → Prop} {ws : va_W} {H : Heap} {locs : List Loc} {Q : State → Prop} {ls : Array Slot} {q q2 : Nat → Nat} {qo : Nat} (hlt : l.stackTraces = false) (C0 : q_At p s m #[Value.ref b] meth c y_NL_law code 8 (some .boolean)) (hX : va_X b 6 xs s s.heap) (hbl : b < s.heap.size) (hbA : ¬ A b) (V : q_Wd D g A s ws H locs) (hfl : q_fl ws 0 (nh_w g q)) (hfm : q_fl ws 116 (nm_w g q2)) (hO : ws[169]? = (some (qo, .inl (g 1, 1, .inr (.inl (fun _ => 0)))) : Option (Nat × va_E))) (hl : lv_has ls 8 [(4, .int 0), (3, .ref qo), (2, .ref (q2 0)), (1, .ref (q 0)), (0, .ref b)]) (kend : ∀ (H : Heap) (locs : List Loc) (u : va_W) (ls : Array Slot), q_Wd D g A s u H locs → lv_has ls 8 [(4, .int 0), (0, .ref b)] → W p l e room_1 s m #[Value.ref b] below meth c H locs 300 300000 Q (F0 m 1609 ls [])) : W p l e room_1 s m #[Value.ref b] below meth c H locs 200 200000 Q (F0 m 659 ls []) := by
  have hx := C0.1
  have hb := C0.2.1
  obtain ⟨s1, hs1⟩ : ∃ z : Int32, xs ((1 : Int32).toNatClampNeg) = z := ⟨_, rfl⟩
  obtain ⟨s2, hs2⟩ : ∃ z : Int32, xs ((2 : Int32).toNatClampNeg) = z := ⟨_, rfl⟩
  obtain ⟨s3, hs3⟩ : ∃ z : Int32, xs ((3 : Int32).toNatClampNeg) = z := ⟨_, rfl⟩
  obtain ⟨s4, hs4⟩ : ∃ z : Int32, xs ((4 : Int32).toNatClampNeg) = z := ⟨_, rfl⟩
  obtain ⟨s5, hs5⟩ : ∃ z : Int32, xs ((5 : Int32).toNatClampNeg) = z := ⟨_, rfl⟩
  refine lv_aload_n hx hb d_659 rfl (lv_at hl 3 rfl) ?_
  refine lv_aload_n hx hb d_660 rfl (lv_at hl 4 rfl) ?_
  refine lv_iload hx hb d_661 (lv_at hl 0 rfl) ?_
  refine lv_iconst (v := 1) hx hb d_663 (by decide) ?_
  refine lv_iadd hx hb d_664 ?_
  refine q_ti (v := 1) (by decide) ?_
  refine va_sld hx hb hX hbl hbA V.2.2.1 (by unfold vp_in; decide) d_665 ?_
  refine q_ti (v := s1) hs1 ?_
  refine lv_aload_n hx hb d_666 rfl (lv_at hl 4 rfl) ?_
  refine lv_iload hx hb d_667 (lv_at hl 0 rfl) ?_
  refine lv_iconst (v := 2) hx hb d_669 (by decide) ?_
  refine lv_iadd hx hb d_670 ?_
  refine q_ti (v := 2) (by decide) ?_
  refine va_sld hx hb hX hbl hbA V.2.2.1 (by unfold vp_in; decide) d_671 ?_
  refine q_ti (v := s2) hs2 ?_
  refine lv_aload_n hx hb d_672 rfl (lv_at hl 4 rfl) ?_
  refine lv_iload hx hb d_673 (lv_at hl 0 rfl) ?_
  refine lv_iconst (v := 3) hx hb d_675 (by decide) ?_
  refine lv_iadd hx hb d_676 ?_
  refine q_ti (v := 3) (by decide) ?_
  refine va_sld hx hb hX hbl hbA V.2.2.1 (by unfold vp_in; decide) d_677 ?_
  refine q_ti (v := s3) hs3 ?_
  refine lv_aload_n hx hb d_678 rfl (lv_at hl 4 rfl) ?_
  refine lv_iload hx hb d_679 (lv_at hl 0 rfl) ?_
  refine lv_iconst (v := 4) hx hb d_681 (by decide) ?_
  refine lv_iadd hx hb d_682 ?_
  refine q_ti (v := 4) (by decide) ?_
  refine va_sld hx hb hX hbl hbA V.2.2.1 (by unfold vp_in; decide) d_683 ?_
  refine q_ti (v := s4) hs4 ?_
  refine q_goi V (q_runSW (As := [.ref (q 0), .int s1, .int s2, .int s3, .int s4]) (rest := []) (d := 10) (mc := 5) (ms := 30) C0 V rfl LW_NL_116 (c_NL_wholeBy l D g ws hlt q s1 s2 s3 s4 hfl _) rfl hl.1 rfl (Nat.le_of_ble_eq_true rfl) ⟨by decide, by decide⟩ ⟨Nat.le_of_ble_eq_true rfl, Nat.le_of_ble_eq_true rfl⟩ d_684) (fun k1 u1 H locs hp V => ?_)
  obtain ⟨hk, hF⟩ := hp
  have hfm : q_fl u1 116 (nm_w g q2) := q_flG hF hfm
  have hO : u1[169]? = _ := (hF 169 (Nat.le_of_ble_eq_true rfl)).trans hO
  replace hO : u1[169]? = (some (qo, .inl (g 1, 1, .inr (.inl (fun _ => 0)))) : Option (Nat × va_E)) := hO
  refine lv_istore (lv' := [(5, .int k1), (4, .int 0), (3, .ref qo), (2, .ref (q2 0)), (1, .ref (q 0)), (0, .ref b)]) hx hb d_687 hl (by decide) rfl (fun ls hl => ?_)
  refine lv_aload_n hx hb d_689 rfl (lv_at hl 3 rfl) ?_
  refine lv_aload_n hx hb d_690 rfl (lv_at hl 5 rfl) ?_
  refine lv_iload hx hb d_691 (lv_at hl 1 rfl) ?_
  refine lv_iconst (v := 1) hx hb d_693 (by decide) ?_
  refine lv_iadd hx hb d_694 ?_
  refine q_ti (v := 1) (by decide) ?_
  refine va_sld hx hb hX hbl hbA V.2.2.1 (by unfold vp_in; decide) d_695 ?_
  refine q_ti (v := s1) hs1 ?_
  refine lv_aload_n hx hb d_696 rfl (lv_at hl 5 rfl) ?_
  refine lv_iload hx hb d_697 (lv_at hl 1 rfl) ?_
  refine lv_iconst (v := 2) hx hb d_699 (by decide) ?_
  refine lv_iadd hx hb d_700 ?_
  refine q_ti (v := 2) (by decide) ?_
  refine va_sld hx hb hX hbl hbA V.2.2.1 (by unfold vp_in; decide) d_701 ?_
  refine q_ti (v := s2) hs2 ?_
  refine lv_aload_n hx hb d_702 rfl (lv_at hl 5 rfl) ?_
  refine lv_iload hx hb d_703 (lv_at hl 1 rfl) ?_
  refine lv_iconst (v := 3) hx hb d_705 (by decide) ?_
  refine lv_iadd hx hb d_706 ?_
  refine q_ti (v := 3) (by decide) ?_
  refine va_sld hx hb hX hbl hbA V.2.2.1 (by unfold vp_in; decide) d_707 ?_
  refine q_ti (v := s3) hs3 ?_
  refine lv_aload_n hx hb d_708 rfl (lv_at hl 5 rfl) ?_
  refine lv_iload hx hb d_709 (lv_at hl 1 rfl) ?_
  refine lv_iconst (v := 4) hx hb d_711 (by decide) ?_
  refine lv_iadd hx hb d_712 ?_
  refine q_ti (v := 4) (by decide) ?_
  refine va_sld hx hb hX hbl hbA V.2.2.1 (by unfold vp_in; decide) d_713 ?_
  refine q_ti (v := s4) hs4 ?_
  have hP116 : u1[116]? = (some (q2 0, .inr (12, [.int 0, .ref (q2 1), .int 0, .ref (q2 2), .int 0, .ref (q2 3), .ref (q2 18), .ref (q2 29), .ref (q2 37), .ref (q2 41), .ref (q2 51), .ref (q2 52)])) : Option (Nat × va_E)) := q_fa (i := 0) hfm rfl
  have hP119 : u1[119]? = (some (q2 3, .inr (13, [.int 0, .int 0, .ref (q2 4), .int 0, .ref (q2 5), .ref (q2 6), .ref (q2 7), .int 0, .ref (q2 8), .ref (q2 9), .ref (q2 10), .ref (q2 11), .ref (q2 12), .ref (q2 13), .ref (q2 14), .ref (q2 15), .int 0, .int 0, .ref (q2 16), .ref (q2 17), .int 0])) : Option (Nat × va_E)) := q_fa (i := 3) hfm rfl
  have hP121 : u1[121]? = (some (q2 5, .inl (g 0, 1408, .inl (fun _ => 0))) : Option (Nat × va_E)) := q_fa (i := 5) hfm rfl
  have hP122 : u1[122]? = (some (q2 6, .inl (g 3, 11, .inl (fun _ => 0))) : Option (Nat × va_E)) := q_fa (i := 6) hfm rfl
  have hP123 : u1[123]? = (some (q2 7, .inl (g 0, 264, .inl (fun _ => 0))) : Option (Nat × va_E)) := q_fa (i := 7) hfm rfl
  have hP124 : u1[124]? = (some (q2 8, .inl (g 0, 264, .inl (fun _ => 0))) : Option (Nat × va_E)) := q_fa (i := 8) hfm rfl
  have hP125 : u1[125]? = (some (q2 9, .inl (g 0, 528, .inl (fun _ => 0))) : Option (Nat × va_E)) := q_fa (i := 9) hfm rfl
  have hP128 : u1[128]? = (some (q2 12, .inl (g 0, 264, .inl (fun _ => 0))) : Option (Nat × va_E)) := q_fa (i := 12) hfm rfl
  refine q_gov V (q_runV (As := [.int s1, .int s2, .int s3, .int s4]) (rest := []) (d := 5) (mc := 0) (ms := 0) (ci := 12) C0 V rfl LV_NL_118 (c_NM_wholeBy l D g u1 (q2 0) (q2 1) (q2 2) (q2 3) (q2 18) (q2 29) (q2 37) (q2 41) (q2 51) (q2 52) (q2 4) (q2 5) (q2 6) (q2 7) (q2 8) (q2 9) (q2 10) (q2 11) (q2 12) (q2 13) (q2 14) (q2 15) (q2 16) (q2 17) s1 s2 s3 s4 hP116 hP119 hP121 hP122 hP123 hP124 hP125 hP128 _) rfl rfl hP116 rfl hl.1 rfl (Nat.le_of_ble_eq_true rfl) ⟨by decide, by decide⟩ ⟨Nat.le_of_ble_eq_true rfl, Nat.le_of_ble_eq_true rfl⟩ d_714) (fun u2 H locs hp V => ?_)
  obtain ⟨t0, z2, z4, hM, hr, hG⟩ := hp
  replace hM : u2[116]? = (some (q2 0, .inr (12, [.int t0, .ref (q2 1), .int z2, .ref (q2 2), .int z4, .ref (q2 3), .ref (q2 18), .ref (q2 29), .ref (q2 37), .ref (q2 41), .ref (q2 51), .ref (q2 52)])) : Option (Nat × va_E)) := hM
  replace hO := (hG 169 (Nat.le_refl _)).trans hO
  replace hO : u2[169]? = (some (qo, .inl (g 1, 1, .inr (.inl (fun _ => 0)))) : Option (Nat × va_E)) := hO
  rcases hk with ⟨ek, hk⟩ | ⟨ek, hk⟩
  ·
    obtain rfl : k1 = 0 := q_Ieq (x := k1.toInt) (y := 0) rfl (by decide) ek
    obtain rfl : t0 = 0 := q_Ieq (x := t0.toInt) (y := 0) rfl (by decide) (by omega)
    refine lv_aload_n hx hb d_717 rfl (lv_at hl 3 rfl) ?_
    refine q_goi V (q_runV (As := []) (rest := []) (d := 1) (mc := 0) (ms := 0) (ci := 12) C0 V rfl LV_NL_91 (c_NM_thrown l D g u2 (q2 0) 0 (q2 1) z2 (q2 2) z4 (q2 3) (q2 18) (q2 29) (q2 37) (q2 41) (q2 51) (q2 52) hM _) rfl rfl hM rfl hl.1 rfl (Nat.le_of_ble_eq_true rfl) ⟨by decide, by decide⟩ ⟨Nat.le_of_ble_eq_true rfl, Nat.le_of_ble_eq_true rfl⟩ d_718) (fun v9 u9 H locs hp V => ?_)
    obtain ⟨rfl, rfl⟩ := hp
    refine lv_iload hx hb d_721 (lv_at hl 0 rfl) ?_
    refine lv_icmp_eq (tgt := 728) hx hb d_723 (by decide) (fun c1 => ?_) (fun c1 => absurd (by decide) c1)
    refine lv_goto (tgt := 1609) hx hb d_728 (by decide) ?_
    refine W.widen (k := 300) (n := 300000) (Nat.le_of_ble_eq_true rfl) (Nat.le_of_ble_eq_true rfl) ?_
    exact kend _ _ _ _ V (q_lw hl (q_lw1 1 rfl (q_lw1 5 rfl q_lw0)))
  ·
    obtain rfl : k1 = 1 := q_Ieq (x := k1.toInt) (y := 1) rfl (by decide) ek
    obtain rfl : t0 = 1 := q_Ieq (x := t0.toInt) (y := 1) rfl (by decide) (by omega)
    refine lv_aload_n hx hb d_717 rfl (lv_at hl 3 rfl) ?_
    refine q_goi V (q_runV (As := []) (rest := []) (d := 1) (mc := 0) (ms := 0) (ci := 12) C0 V rfl LV_NL_91 (c_NM_thrown l D g u2 (q2 0) 1 (q2 1) z2 (q2 2) z4 (q2 3) (q2 18) (q2 29) (q2 37) (q2 41) (q2 51) (q2 52) hM _) rfl rfl hM rfl hl.1 rfl (Nat.le_of_ble_eq_true rfl) ⟨by decide, by decide⟩ ⟨Nat.le_of_ble_eq_true rfl, Nat.le_of_ble_eq_true rfl⟩ d_718) (fun v9 u9 H locs hp V => ?_)
    obtain ⟨rfl, rfl⟩ := hp
    refine lv_iload hx hb d_721 (lv_at hl 0 rfl) ?_
    refine lv_icmp_eq (tgt := 728) hx hb d_723 (by decide) (fun c2 => ?_) (fun c2 => absurd (by decide) c2)
    refine lv_goto (tgt := 1609) hx hb d_728 (by decide) ?_
    refine W.widen (k := 300) (n := 300000) (Nat.le_of_ble_eq_true rfl) (Nat.le_of_ble_eq_true rfl) ?_
    exact kend _ _ _ _ V (q_lw hl (q_lw1 1 rfl (q_lw1 5 rfl q_lw0)))
