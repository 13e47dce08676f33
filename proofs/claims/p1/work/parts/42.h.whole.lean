/-! the law, case 6: whole -/
theorem d_587 : decode code 587 = .ok (.aload_n 1, 1) := by decide +kernel
theorem d_588 : decode code 588 = .ok (.aload_n 0, 1) := by decide +kernel
theorem d_589 : decode code 589 = .ok (.iload 4, 2) := by decide +kernel
theorem d_591 : decode code 591 = .ok (.iconst 1, 1) := by decide +kernel
theorem d_592 : decode code 592 = .ok (.iadd, 1) := by decide +kernel
theorem d_593 : decode code 593 = .ok (.iaload, 1) := by decide +kernel
theorem d_594 : decode code 594 = .ok (.aload_n 0, 1) := by decide +kernel
theorem d_595 : decode code 595 = .ok (.iload 4, 2) := by decide +kernel
theorem d_597 : decode code 597 = .ok (.iconst 2, 1) := by decide +kernel
theorem d_598 : decode code 598 = .ok (.iadd, 1) := by decide +kernel
theorem d_599 : decode code 599 = .ok (.iaload, 1) := by decide +kernel
theorem d_600 : decode code 600 = .ok (.aload_n 0, 1) := by decide +kernel
theorem d_601 : decode code 601 = .ok (.iload 4, 2) := by decide +kernel
theorem d_603 : decode code 603 = .ok (.iconst 3, 1) := by decide +kernel
theorem d_604 : decode code 604 = .ok (.iadd, 1) := by decide +kernel
theorem d_605 : decode code 605 = .ok (.iaload, 1) := by decide +kernel
theorem d_606 : decode code 606 = .ok (.aload_n 0, 1) := by decide +kernel
theorem d_607 : decode code 607 = .ok (.iload 4, 2) := by decide +kernel
theorem d_609 : decode code 609 = .ok (.iconst 4, 1) := by decide +kernel
theorem d_610 : decode code 610 = .ok (.iadd, 1) := by decide +kernel
theorem d_611 : decode code 611 = .ok (.iaload, 1) := by decide +kernel
theorem d_612 : decode code 612 = .ok (.invokestatic 112, 3) := by decide +kernel
theorem w_1250 : (Cond.codeWith ({ cls := "NumberHouseLaw", name := "whole", desc := "(LNumberHouse;IIII)I" } : MethodName) method_8_code (6 : Nat) (some .int) [((0 : Nat), (9 : Nat), (12 : Nat), (13 : Nat)), ((0 : Nat), (9 : Nat), (16 : Nat), (19 : Nat))]) ∈ q_tbl := q_of 1250 (by decide +kernel) (by decide +kernel)
theorem w_1248 : (Cond.methodLink "NumberHouseLaw" (112 : Nat) ({ cls := "NumberHouseLaw", name := "whole", desc := "(LNumberHouse;IIII)I" } : MethodName)) ∈ q_tbl := q_of 1248 (by decide +kernel) (by decide +kernel)
theorem w_1249 : (Cond.static ({ cls := "NumberHouseLaw", name := "whole", desc := "(LNumberHouse;IIII)I" } : MethodName)) ∈ q_tbl := q_of 1249 (by decide +kernel) (by decide +kernel)
theorem LW_NL_112 : q_LW "NumberHouseLaw" 112 y_NL_whole method_8_code 6 (some .int) [(0, 9, 12, 13), (0, 9, 16, 19)] 5 := ⟨w_1250, w_0, w_1248, w_1249, ⟨by decide, by decide, by decide +kernel⟩⟩
theorem d_615 : decode code 615 = .ok (.istore 5, 2) := by decide +kernel
theorem d_617 : decode code 617 = .ok (.aload_n 2, 1) := by decide +kernel
theorem d_618 : decode code 618 = .ok (.aload_n 0, 1) := by decide +kernel
theorem d_619 : decode code 619 = .ok (.iload 4, 2) := by decide +kernel
theorem d_621 : decode code 621 = .ok (.iconst 1, 1) := by decide +kernel
theorem d_622 : decode code 622 = .ok (.iadd, 1) := by decide +kernel
theorem d_623 : decode code 623 = .ok (.iaload, 1) := by decide +kernel
theorem d_624 : decode code 624 = .ok (.aload_n 0, 1) := by decide +kernel
theorem d_625 : decode code 625 = .ok (.iload 4, 2) := by decide +kernel
theorem d_627 : decode code 627 = .ok (.iconst 2, 1) := by decide +kernel
theorem d_628 : decode code 628 = .ok (.iadd, 1) := by decide +kernel
theorem d_629 : decode code 629 = .ok (.iaload, 1) := by decide +kernel
theorem d_630 : decode code 630 = .ok (.aload_n 0, 1) := by decide +kernel
theorem d_631 : decode code 631 = .ok (.iload 4, 2) := by decide +kernel
theorem d_633 : decode code 633 = .ok (.iconst 3, 1) := by decide +kernel
theorem d_634 : decode code 634 = .ok (.iadd, 1) := by decide +kernel
theorem d_635 : decode code 635 = .ok (.iaload, 1) := by decide +kernel
theorem d_636 : decode code 636 = .ok (.aload_n 0, 1) := by decide +kernel
theorem d_637 : decode code 637 = .ok (.iload 4, 2) := by decide +kernel
theorem d_639 : decode code 639 = .ok (.iconst 4, 1) := by decide +kernel
theorem d_640 : decode code 640 = .ok (.iadd, 1) := by decide +kernel
theorem d_641 : decode code 641 = .ok (.iaload, 1) := by decide +kernel
theorem d_642 : decode code 642 = .ok (.invokevirtual 115, 3) := by decide +kernel
theorem w_2681 : (Cond.code ({ cls := "NumberHouseModel", name := "whole", desc := "(IIII)V" } : MethodName) prog_14_method_20_code (5 : Nat) (none : Option ClassFile.FieldType)) ∈ q_tbl := q_of 2681 (by decide +kernel) (by decide +kernel)
theorem w_2678 : (Cond.methodLink "NumberHouseLaw" (115 : Nat) ({ cls := "NumberHouseModel", name := "whole", desc := "(IIII)V" } : MethodName)) ∈ q_tbl := q_of 2678 (by decide +kernel) (by decide +kernel)
theorem w_2679 : (Cond.instanceMethod ({ cls := "NumberHouseModel", name := "whole", desc := "(IIII)V" } : MethodName)) ∈ q_tbl := q_of 2679 (by decide +kernel) (by decide +kernel)
theorem w_2680 : (Cond.selects "NumberHouseModel" ({ cls := "NumberHouseModel", name := "whole", desc := "(IIII)V" } : MethodName) ({ cls := "NumberHouseModel", name := "whole", desc := "(IIII)V" } : MethodName)) ∈ q_tbl := q_of 2680 (by decide +kernel) (by decide +kernel)
theorem LV_NL_115 : q_LV "NumberHouseLaw" 115 y_NM_whole prog_14_method_20_code 5 none 4 := ⟨w_2681, w_14, w_2678, w_2679, w_2680, ⟨by decide, by decide, by decide +kernel⟩⟩
theorem d_645 : decode code 645 = .ok (.aload_n 2, 1) := by decide +kernel
theorem d_646 : decode code 646 = .ok (.invokevirtual 91, 3) := by decide +kernel
theorem d_649 : decode code 649 = .ok (.iload 5, 2) := by decide +kernel
theorem d_651 : decode code 651 = .ok (.if_icmp .eq 5, 3) := by decide +kernel
theorem d_656 : decode code 656 = .ok (.goto 953, 3) := by decide +kernel
set_option maxRecDepth 100000 in
set_option maxHeartbeats 4000000 in
theorem law_k6 {p : Program} {l : Launch} {e : Env} {s : State} {m : MethodId} {below : List Frame} {meth : Method} {c : Code} {b : Nat} {xs : Nat → Int32} {D : va_G} {g : Nat → ClassId} {A : Nat → Prop} {ws : va_W} {H : Heap} {locs : List Loc} {Q : State → Prop} {ls : Array Slot} {q q2 : Nat → Nat} {qo : Nat} (hlt : l.stackTraces = false) (C0 : q_At p s m #[Value.ref b] meth c y_NL_law code 8 (some .boolean)) (hX : va_X b 6 xs s s.heap) (hbl : b < s.heap.size) (hbA : ¬ A b) (V : q_Wd D g A s ws H locs) (hfl : q_fl ws 0 (nh_w g q)) (hfm : q_fl ws 116 (nm_w g q2)) (hO : ws[169]? = (some (qo, .inl (g 1, 1, .inr (.inl (fun _ => 0)))) : Option (Nat × va_E))) (hl : lv_has ls 8 [(4, .int 0), (3, .ref qo), (2, .ref (q2 0)), (1, .ref (q 0)), (0, .ref b)]) (kend : ∀ (H : Heap) (locs : List Loc) (u : va_W) (ls : Array Slot), q_Wd D g A s u H locs → lv_has ls 8 [(4, .int 0), (0, .ref b)] → W p l e room_1 s m #[Value.ref b] below meth c H locs 300 300000 Q (F0 m 1609 ls [])) : W p l e room_1 s m #[Value.ref b] below meth c H locs 200 200000 Q (F0 m 587 ls []) := by
  have hx := C0.1
  have hb := C0.2.1
  obtain ⟨s1, hs1⟩ : ∃ z : Int32, xs ((1 : Int32).toNatClampNeg) = z := ⟨_, rfl⟩
  obtain ⟨s2, hs2⟩ : ∃ z : Int32, xs ((2 : Int32).toNatClampNeg) = z := ⟨_, rfl⟩
  obtain ⟨s3, hs3⟩ : ∃ z : Int32, xs ((3 : Int32).toNatClampNeg) = z := ⟨_, rfl⟩
  obtain ⟨s4, hs4⟩ : ∃ z : Int32, xs ((4 : Int32).toNatClampNeg) = z := ⟨_, rfl⟩
  obtain ⟨s5, hs5⟩ : ∃ z : Int32, xs ((5 : Int32).toNatClampNeg) = z := ⟨_, rfl⟩
  refine lv_aload_n hx hb d_587 rfl (lv_at hl 3 rfl) ?_
  refine lv_aload_n hx hb d_588 rfl (lv_at hl 4 rfl) ?_
  refine lv_iload hx hb d_589 (lv_at hl 0 rfl) ?_
  refine lv_iconst (v := 1) hx hb d_591 (by decide) ?_
  refine lv_iadd hx hb d_592 ?_
  refine q_ti (v := 1) (by decide) ?_
  refine va_sld hx hb hX hbl hbA V.2.2.1 (by unfold vp_in; decide) d_593 ?_
  refine q_ti (v := s1) hs1 ?_
  refine lv_aload_n hx hb d_594 rfl (lv_at hl 4 rfl) ?_
  refine lv_iload hx hb d_595 (lv_at hl 0 rfl) ?_
  refine lv_iconst (v := 2) hx hb d_597 (by decide) ?_
  refine lv_iadd hx hb d_598 ?_
  refine q_ti (v := 2) (by decide) ?_
  refine va_sld hx hb hX hbl hbA V.2.2.1 (by unfold vp_in; decide) d_599 ?_
  refine q_ti (v := s2) hs2 ?_
  refine lv_aload_n hx hb d_600 rfl (lv_at hl 4 rfl) ?_
  refine lv_iload hx hb d_601 (lv_at hl 0 rfl) ?_
  refine lv_iconst (v := 3) hx hb d_603 (by decide) ?_
  refine lv_iadd hx hb d_604 ?_
  refine q_ti (v := 3) (by decide) ?_
  refine va_sld hx hb hX hbl hbA V.2.2.1 (by unfold vp_in; decide) d_605 ?_
  refine q_ti (v := s3) hs3 ?_
  refine lv_aload_n hx hb d_606 rfl (lv_at hl 4 rfl) ?_
  refine lv_iload hx hb d_607 (lv_at hl 0 rfl) ?_
  refine lv_iconst (v := 4) hx hb d_609 (by decide) ?_
  refine lv_iadd hx hb d_610 ?_
  refine q_ti (v := 4) (by decide) ?_
  refine va_sld hx hb hX hbl hbA V.2.2.1 (by unfold vp_in; decide) d_611 ?_
  refine q_ti (v := s4) hs4 ?_
  refine q_goi V (q_runSW (As := [.ref (q 0), .int s1, .int s2, .int s3, .int s4]) (rest := []) (d := 10) (mc := 2) (ms := 12) C0 V rfl LW_NL_112 (c_NL_whole l D g ws hlt q s1 s2 s3 s4 hfl _) rfl hl.1 rfl (Nat.le_of_ble_eq_true rfl) ⟨by decide, by decide⟩ ⟨Nat.le_of_ble_eq_true rfl, Nat.le_of_ble_eq_true rfl⟩ d_612) (fun k1 u1 H locs hp V => ?_)
  obtain ⟨hk, hF⟩ := hp
  have hfm : q_fl u1 116 (nm_w g q2) := q_flG hF hfm
  have hO : u1[169]? = _ := (hF 169 (Nat.le_of_ble_eq_true rfl)).trans hO
  replace hO : u1[169]? = (some (qo, .inl (g 1, 1, .inr (.inl (fun _ => 0)))) : Option (Nat × va_E)) := hO
  refine lv_istore (lv' := [(5, .int k1), (4, .int 0), (3, .ref qo), (2, .ref (q2 0)), (1, .ref (q 0)), (0, .ref b)]) hx hb d_615 hl (by decide) rfl (fun ls hl => ?_)
  refine lv_aload_n hx hb d_617 rfl (lv_at hl 3 rfl) ?_
  refine lv_aload_n hx hb d_618 rfl (lv_at hl 5 rfl) ?_
  refine lv_iload hx hb d_619 (lv_at hl 1 rfl) ?_
  refine lv_iconst (v := 1) hx hb d_621 (by decide) ?_
  refine lv_iadd hx hb d_622 ?_
  refine q_ti (v := 1) (by decide) ?_
  refine va_sld hx hb hX hbl hbA V.2.2.1 (by unfold vp_in; decide) d_623 ?_
  refine q_ti (v := s1) hs1 ?_
  refine lv_aload_n hx hb d_624 rfl (lv_at hl 5 rfl) ?_
  refine lv_iload hx hb d_625 (lv_at hl 1 rfl) ?_
  refine lv_iconst (v := 2) hx hb d_627 (by decide) ?_
  refine lv_iadd hx hb d_628 ?_
  refine q_ti (v := 2) (by decide) ?_
  refine va_sld hx hb hX hbl hbA V.2.2.1 (by unfold vp_in; decide) d_629 ?_
  refine q_ti (v := s2) hs2 ?_
  refine lv_aload_n hx hb d_630 rfl (lv_at hl 5 rfl) ?_
  refine lv_iload hx hb d_631 (lv_at hl 1 rfl) ?_
  refine lv_iconst (v := 3) hx hb d_633 (by decide) ?_
  refine lv_iadd hx hb d_634 ?_
  refine q_ti (v := 3) (by decide) ?_
  refine va_sld hx hb hX hbl hbA V.2.2.1 (by unfold vp_in; decide) d_635 ?_
  refine q_ti (v := s3) hs3 ?_
  refine lv_aload_n hx hb d_636 rfl (lv_at hl 5 rfl) ?_
  refine lv_iload hx hb d_637 (lv_at hl 1 rfl) ?_
  refine lv_iconst (v := 4) hx hb d_639 (by decide) ?_
  refine lv_iadd hx hb d_640 ?_
  refine q_ti (v := 4) (by decide) ?_
  refine va_sld hx hb hX hbl hbA V.2.2.1 (by unfold vp_in; decide) d_641 ?_
  refine q_ti (v := s4) hs4 ?_
  have hP116 : u1[116]? = (some (q2 0, .inr (12, [.int 0, .ref (q2 1), .int 0, .ref (q2 2), .int 0, .ref (q2 3), .ref (q2 18), .ref (q2 29), .ref (q2 37), .ref (q2 41), .ref (q2 51), .ref (q2 52)])) : Option (Nat × va_E)) := q_fa (i := 0) hfm rfl
  have hP119 : u1[119]? = (some (q2 3, .inr (13, [.int 0, .int 0, .ref (q2 4), .int 0, .ref (q2 5), .ref (q2 6), .ref (q2 7), .int 0, .ref (q2 8), .ref (q2 9), .ref (q2 10), .ref (q2 11), .ref (q2 12), .ref (q2 13), .ref (q2 14), .ref (q2 15), .int 0, .int 0, .ref (q2 16), .ref (q2 17), .int 0])) : Option (Nat × va_E)) := q_fa (i := 3) hfm rfl
  have hP121 : u1[121]? = (some (q2 5, .inl (g 0, 1408, .inl (fun _ => 0))) : Option (Nat × va_E)) := q_fa (i := 5) hfm rfl
  have hP122 : u1[122]? = (some (q2 6, .inl (g 3, 11, .inl (fun _ => 0))) : Option (Nat × va_E)) := q_fa (i := 6) hfm rfl
  have hP123 : u1[123]? = (some (q2 7, .inl (g 0, 264, .inl (fun _ => 0))) : Option (Nat × va_E)) := q_fa (i := 7) hfm rfl
  have hP125 : u1[125]? = (some (q2 9, .inl (g 0, 528, .inl (fun _ => 0))) : Option (Nat × va_E)) := q_fa (i := 9) hfm rfl
  have hP128 : u1[128]? = (some (q2 12, .inl (g 0, 264, .inl (fun _ => 0))) : Option (Nat × va_E)) := q_fa (i := 12) hfm rfl
  have hP129 : u1[129]? = (some (q2 13, .inl (g 0, 264, .inl (fun _ => 0))) : Option (Nat × va_E)) := q_fa (i := 13) hfm rfl
  refine q_gov V (q_runV (As := [.int s1, .int s2, .int s3, .int s4]) (rest := []) (d := 4) (mc := 0) (ms := 0) (ci := 12) C0 V rfl LV_NL_115 (c_NM_whole l D g u1 (q2 0) (q2 1) (q2 2) (q2 3) (q2 18) (q2 29) (q2 37) (q2 41) (q2 51) (q2 52) (q2 4) (q2 5) (q2 6) (q2 7) (q2 8) (q2 9) (q2 10) (q2 11) (q2 12) (q2 13) (q2 14) (q2 15) (q2 16) (q2 17) s1 s2 s3 s4 hP116 hP119 hP121 hP122 hP123 hP125 hP128 hP129 _) rfl rfl hP116 rfl hl.1 rfl (Nat.le_of_ble_eq_true rfl) ⟨by decide, by decide⟩ ⟨Nat.le_of_ble_eq_true rfl, Nat.le_of_ble_eq_true rfl⟩ d_642) (fun u2 H locs hp V => ?_)
  obtain ⟨t0, z2, z4, hM, hr, hG⟩ := hp
  replace hM : u2[116]? = (some (q2 0, .inr (12, [.int t0, .ref (q2 1), .int z2, .ref (q2 2), .int z4, .ref (q2 3), .ref (q2 18), .ref (q2 29), .ref (q2 37), .ref (q2 41), .ref (q2 51), .ref (q2 52)])) : Option (Nat × va_E)) := hM
  replace hO := (hG 169 (Nat.le_refl _)).trans hO
  replace hO : u2[169]? = (some (qo, .inl (g 1, 1, .inr (.inl (fun _ => 0)))) : Option (Nat × va_E)) := hO
  rcases hk with ⟨ek, hk⟩ | ⟨ek, hk⟩ | ⟨ek, hk⟩
  ·
    obtain rfl : k1 = 0 := q_Ieq (x := k1.toInt) (y := 0) rfl (by decide) ek
    obtain rfl : t0 = 0 := q_Ieq (x := t0.toInt) (y := 0) rfl (by decide) (by omega)
    refine lv_aload_n hx hb d_645 rfl (lv_at hl 3 rfl) ?_
    refine q_goi V (q_runV (As := []) (rest := []) (d := 1) (mc := 0) (ms := 0) (ci := 12) C0 V rfl LV_NL_91 (c_NM_thrown l D g u2 (q2 0) 0 (q2 1) z2 (q2 2) z4 (q2 3) (q2 18) (q2 29) (q2 37) (q2 41) (q2 51) (q2 52) hM _) rfl rfl hM rfl hl.1 rfl (Nat.le_of_ble_eq_true rfl) ⟨by decide, by decide⟩ ⟨Nat.le_of_ble_eq_true rfl, Nat.le_of_ble_eq_true rfl⟩ d_646) (fun v9 u9 H locs hp V => ?_)
    obtain ⟨rfl, rfl⟩ := hp
    refine lv_iload hx hb d_649 (lv_at hl 0 rfl) ?_
    refine lv_icmp_eq (tgt := 656) hx hb d_651 (by decide) (fun c1 => ?_) (fun c1 => absurd (by decide) c1)
    refine lv_goto (tgt := 1609) hx hb d_656 (by decide) ?_
    refine W.widen (k := 300) (n := 300000) (Nat.le_of_ble_eq_true rfl) (Nat.le_of_ble_eq_true rfl) ?_
    exact kend _ _ _ _ V (q_lw hl (q_lw1 1 rfl (q_lw1 5 rfl q_lw0)))
  ·
    obtain rfl : k1 = 1 := q_Ieq (x := k1.toInt) (y := 1) rfl (by decide) ek
    obtain rfl : t0 = 1 := q_Ieq (x := t0.toInt) (y := 1) rfl (by decide) (by omega)
    refine lv_aload_n hx hb d_645 rfl (lv_at hl 3 rfl) ?_
    refine q_goi V (q_runV (As := []) (rest := []) (d := 1) (mc := 0) (ms := 0) (ci := 12) C0 V rfl LV_NL_91 (c_NM_thrown l D g u2 (q2 0) 1 (q2 1) z2 (q2 2) z4 (q2 3) (q2 18) (q2 29) (q2 37) (q2 41) (q2 51) (q2 52) hM _) rfl rfl hM rfl hl.1 rfl (Nat.le_of_ble_eq_true rfl) ⟨by decide, by decide⟩ ⟨Nat.le_of_ble_eq_true rfl, Nat.le_of_ble_eq_true rfl⟩ d_646) (fun v9 u9 H locs hp V => ?_)
    obtain ⟨rfl, rfl⟩ := hp
    refine lv_iload hx hb d_649 (lv_at hl 0 rfl) ?_
    refine lv_icmp_eq (tgt := 656) hx hb d_651 (by decide) (fun c2 => ?_) (fun c2 => absurd (by decide) c2)
    refine lv_goto (tgt := 1609) hx hb d_656 (by decide) ?_
    refine W.widen (k := 300) (n := 300000) (Nat.le_of_ble_eq_true rfl) (Nat.le_of_ble_eq_true rfl) ?_
    exact kend _ _ _ _ V (q_lw hl (q_lw1 1 rfl (q_lw1 5 rfl q_lw0)))
  ·
    obtain rfl : k1 = 2 := q_Ieq (x := k1.toInt) (y := 2) rfl (by decide) ek
    obtain rfl : t0 = 2 := q_Ieq (x := t0.toInt) (y := 2) rfl (by decide) (by omega)
    refine lv_aload_n hx hb d_645 rfl (lv_at hl 3 rfl) ?_
    refine q_goi V (q_runV (As := []) (rest := []) (d := 1) (mc := 0) (ms := 0) (ci := 12) C0 V rfl LV_NL_91 (c_NM_thrown l D g u2 (q2 0) 2 (q2 1) z2 (q2 2) z4 (q2 3) (q2 18) (q2 29) (q2 37) (q2 41) (q2 51) (q2 52) hM _) rfl rfl hM rfl hl.1 rfl (Nat.le_of_ble_eq_true rfl) ⟨by decide, by decide⟩ ⟨Nat.le_of_ble_eq_true rfl, Nat.le_of_ble_eq_true rfl⟩ d_646) (fun v9 u9 H locs hp V => ?_)
    obtain ⟨rfl, rfl⟩ := hp
    refine lv_iload hx hb d_649 (lv_at hl 0 rfl) ?_
    refine lv_icmp_eq (tgt := 656) hx hb d_651 (by decide) (fun c3 => ?_) (fun c3 => absurd (by decide) c3)
    refine lv_goto (tgt := 1609) hx hb d_656 (by decide) ?_
    refine W.widen (k := 300) (n := 300000) (Nat.le_of_ble_eq_true rfl) (Nat.le_of_ble_eq_true rfl) ?_
    exact kend _ _ _ _ V (q_lw hl (q_lw1 1 rfl (q_lw1 5 rfl q_lw0)))
