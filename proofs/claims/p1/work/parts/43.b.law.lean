/-! the law from its entry to its end -/
/-! THE CLAIM OUT OF ONE WALK OF THE LAW'S BODY. Your part is whole_start (and what it stands on); all else here is the same for every law, but numbers. -/
def R_law : String := "NumberHouseLaw"
def lw_P (b : Addr) (xs : List Int32) (args : Array Value) (s : State) : Prop := args = #[.ref b] ∧ s.IntsAt b xs ∧ xs.length ≤ 6 ∧ (Jvm.Cond.and given_1 narrow_1).before args s = true
def lw_Q (_ : Array Value) (s : State) (o : Outcome) (t : State) : Prop := o = .returned (some (.int 1)) ∧ Framed s o t [] 600002 7302232
def lw_Z (below : List Frame) (a : Array Value) (s : State) : State → Prop := fun t => ∃ o, t.status = .running ∧ Ended t below o ∧ lw_Q a s o t
/-- the law's own end, with 1 on the stack, nothing written that was there before, its room as the claim has it -/
theorem lw_ret {p : Program} {l : Launch} {e : Env} {s : State} {m : MethodId} {below : List Frame} {meth : Method} {c : Code} {b : Nat} (hx : p.tables.exec = Jvm.exec) (hb : c.code = code) (hr : meth.sig.returnType = ret) (hlocks : meth.locks = false) {pc : Nat} {H : Heap} {ls : Array Slot} (hdg : decode code pc = .ok (.ireturn, 1)) : W p l e room_1 s m #[Value.ref b] below meth c H [] 600002 7302232 (lw_Z below #[Value.ref b] s) (F0 m pc ls [.int 1]) := by
  intro T hT X
  obtain ⟨fs, hret, hrun, hended, hW, hframe⟩ := X.leave (v := some (.int 1)) (hlocks := hlocks) (fun h => by rw [hr] at h; cases h)
  have hmeth' : T.vm.method? m = some meth := X.method'
  refine ⟨T.setFrames fs, ?_, .returned (some (.int 1)), hrun, hended, rfl, ⟨_, rfl⟩, hW, hframe⟩
  jvm_step X.here [X.here.top, hx, hb, hdg, hmeth', hr, ret, narrow_b1]
  (try refine ⟨rfl, ?_⟩); (try refine ⟨rfl, ?_⟩)
  first | (intro acts; rw [hret _ acts rfl rfl rfl]) | rw [hret _ _ rfl rfl rfl]
  exact Steps.refl _
/-- what holds at the law's entry: the machine, the code, the tables' words (any of lw_tbl by 'hts w (by decide +kernel)'), the script of L ints xs at the cell b, what the Statement gives of the start (any of its parts by flat_of_before) -/
def lw_At (p : Program) (s : State) (m : MethodId) (meth : Method) (c : Code) (b L : Nat) (xs : Nat → Int32) : Prop :=
  p.tables.exec = Jvm.exec ∧ c.code = code ∧ meth.sig.returnType = ret ∧ c.maxLocals = 8 ∧ s.vm.findClass R_law = some m.cls ∧ (∀ w ∈ lw_tbl, w.before #[Value.ref b] s = true) ∧ va_X b L xs s s.heap ∧ b < s.heap.size ∧ meth.locks = false ∧ (Jvm.Cond.and given_1 narrow_1).before #[Value.ref b] s = true
theorem d_1615 : decode code 1615 = .ok (.iconst 1, 1) := by decide +kernel
theorem d_1616 : decode code 1616 = .ok (.ireturn, 1) := by decide +kernel
theorem d_1609 : decode code 1609 = .ok (.iinc 4 6, 3) := by decide +kernel
theorem d_1612 : decode code 1612 = .ok (.goto (-1589), 3) := by decide +kernel
theorem d_23 : decode code 23 = .ok (.iload 4, 2) := by decide +kernel
theorem d_25 : decode code 25 = .ok (.aload_n 0, 1) := by decide +kernel
theorem d_26 : decode code 26 = .ok (.arraylength, 1) := by decide +kernel
theorem d_27 : decode code 27 = .ok (.bipush 6, 2) := by decide +kernel
theorem d_29 : decode code 29 = .ok (.isub, 1) := by decide +kernel
theorem d_30 : decode code 30 = .ok (.if_icmp .gt 1585, 3) := by decide +kernel
theorem q_flU {ws u l : va_W} (hF : ∀ i, i < 116 → u[i]? = ws[i]?) (hl : l.length ≤ 116) (h : q_fl ws 0 l) : q_fl u 0 l := fun i x hx => by
  have h1 := (List.getElem?_eq_some_iff.mp hx).1
  exact (hF _ (by omega)).trans (h i x hx)
set_option maxRecDepth 100000 in
set_option maxHeartbeats 4000000 in
theorem law_end {p : Program} {l : Launch} {e : Env} {s : State} {m : MethodId} {below : List Frame} {meth : Method} {c : Code} {b : Nat} {D : va_G} {g : Nat → ClassId} {H : Heap} {locs : List Loc} {u : va_W} {ls : Array Slot} {cells slots : Nat} (C0 : q_At p s m #[Value.ref b] meth c y_NL_law code 8 (some .boolean)) (hr : meth.sig.returnType = ret) (V : q_Wd D g (fun q : Nat => s.heap.size ≤ q) s u H locs) (hc : cells ≤ 600002) (hs : slots ≤ 7302232) : W p l e room_1 s m #[Value.ref b] below meth c H locs cells slots (lw_Z below #[Value.ref b] s) (F0 m 1615 ls []) := by
  have hx := C0.1
  have hb := C0.2.1
  refine lv_iconst (v := 1) hx hb d_1615 (by decide) ?_
  refine va_forget (fun q hq => V.2.2.1.2.2 q hq) ?_
  refine W.widen (k := 600002) (n := 7302232) hc hs ?_
  exact lw_ret hx hb hr C0.2.2.2.2.2.2.1 d_1616
set_option maxRecDepth 100000 in
set_option maxHeartbeats 4000000 in
theorem law_kend {p : Program} {l : Launch} {e : Env} {s : State} {m : MethodId} {below : List Frame} {meth : Method} {c : Code} {b : Nat} {xs : Nat → Int32} {D : va_G} {g : Nat → ClassId} {H : Heap} {locs : List Loc} {u : va_W} {ls : Array Slot} (C0 : q_At p s m #[Value.ref b] meth c y_NL_law code 8 (some .boolean)) (hr : meth.sig.returnType = ret) (hX : va_X b 6 xs s s.heap) (hbl : b < s.heap.size) (V : q_Wd D g (fun q : Nat => s.heap.size ≤ q) s u H locs) (hl : lv_has ls 8 [(4, .int 0), (0, .ref b)]) : W p l e room_1 s m #[Value.ref b] below meth c H locs 300 300000 (lw_Z below #[Value.ref b] s) (F0 m 1609 ls []) := by
  have hx := C0.1
  have hb := C0.2.1
  have hbA : ¬ (fun q : Nat => s.heap.size ≤ q) b := Nat.not_le.mpr hbl
  refine lv_iinc (v := 6) (lv' := [(4, .int 6), (0, .ref b)]) hx hb d_1609 hl (k := 0) rfl (by decide) (by decide) rfl (fun ls hl => ?_)
  refine lv_goto (tgt := 23) hx hb d_1612 (by decide) ?_
  refine lv_iload hx hb d_23 (lv_at hl 0 rfl) ?_
  refine lv_aload_n hx hb d_25 rfl (lv_at hl 1 rfl) ?_
  refine va_slen hx hb hX hbl hbA V.2.2.1 d_26 ?_
  refine lv_bipush (v := 6) hx hb d_27 (by decide) ?_
  refine lv_isub hx hb d_29 ?_
  refine q_ti (v := 0) (by decide) ?_
  refine lv_icmp_gt (tgt := 1615) hx hb d_30 (by decide) (fun c1 => ?_) (fun c1 => absurd (by decide) c1)
  exact law_end C0 hr V (Nat.le_of_ble_eq_true rfl) (Nat.le_of_ble_eq_true rfl)
theorem d_33 : decode code 33 = .ok (.aload_n 0, 1) := by decide +kernel
theorem d_34 : decode code 34 = .ok (.iload 4, 2) := by decide +kernel
theorem d_36 : decode code 36 = .ok (.iaload, 1) := by decide +kernel
theorem d_37 : decode code 37 = .ok (.bipush 31, 2) := by decide +kernel
theorem d_39 : decode code 39 = .ok (.iand, 1) := by decide +kernel
theorem d_40 : decode code 40 = .ok (.tableswitch 1569 0 19 #[96, 196, 209, 296, 388, 467, 547, 619, 691, 763, 835, 907, 991, 1075, 1159, 1231, 1311, 1431, 1499, 1543], 96) := by decide +kernel
set_option maxRecDepth 100000 in
set_option maxHeartbeats 4000000 in
theorem law_go {p : Program} {l : Launch} {e : Env} {s : State} {m : MethodId} {below : List Frame} {meth : Method} {c : Code} {b L : Nat} {xs : Nat → Int32} {D : va_G} {g : Nat → ClassId} {H : Heap} {locs : List Loc} {ws : va_W} {ls : Array Slot} {q q2 : Nat → Nat} {qo : Nat} (hlt : l.stackTraces = false) (C0 : q_At p s m #[Value.ref b] meth c y_NL_law code 8 (some .boolean)) (hr : meth.sig.returnType = ret) (hX : va_X b L xs s s.heap) (hbl : b < s.heap.size) (hL : L ≤ 6) (V : q_Wd D g (fun q : Nat => s.heap.size ≤ q) s ws H locs) (hfl : q_fl ws 0 (nh_w g q)) (hfm : q_fl ws 116 (nm_w g q2)) (hO : ws[169]? = (some (qo, .inl (g 1, 1, .inr (.inl (fun _ => 0)))) : Option (Nat × va_E))) (hl : lv_has ls 8 [(4, .int 0), (3, .ref qo), (2, .ref (q2 0)), (1, .ref (q 0)), (0, .ref b)]) : W p l e room_1 s m #[Value.ref b] below meth c H locs 200 200000 (lw_Z below #[Value.ref b] s) (F0 m 23 ls []) := by
  have hx := C0.1
  have hb := C0.2.1
  have hbA : ¬ (fun q : Nat => s.heap.size ≤ q) b := Nat.not_le.mpr hbl
  refine lv_iload hx hb d_23 (lv_at hl 0 rfl) ?_
  refine lv_aload_n hx hb d_25 rfl (lv_at hl 4 rfl) ?_
  refine va_slen hx hb hX hbl hbA V.2.2.1 d_26 ?_
  refine lv_bipush (v := 6) hx hb d_27 (by decide) ?_
  refine lv_isub hx hb d_29 ?_
  by_cases h6 : L = 6
  · subst h6
    refine q_ti (v := 0) (by decide) ?_
    refine lv_icmp_gt (tgt := 1615) hx hb d_30 (by decide) (fun c1 => absurd c1 (by decide)) (fun c1 => ?_)
    obtain ⟨s0, hs0⟩ : ∃ z : Int32, xs ((0 : Int32).toNatClampNeg) = z := ⟨_, rfl⟩
    refine lv_aload_n hx hb d_33 rfl (lv_at hl 4 rfl) ?_
    refine lv_iload hx hb d_34 (lv_at hl 0 rfl) ?_
    refine va_sld hx hb hX hbl hbA V.2.2.1 (by unfold vp_in; decide) d_36 ?_
    refine q_ti (v := s0) hs0 ?_
    refine lv_bipush (v := 31) hx hb d_37 (by decide) ?_
    refine lv_iand hx hb d_39 ?_
    by_cases c1 : (s0 &&& 31) = 0
    ·
      refine q_ti (v := 0) c1 ?_
      refine lv_tableIn (tgt := 136) (off := 96) hx hb d_40 (by decide) (by decide) (by decide) (by decide) ?_
      exact law_k0 hlt C0 hX hbl hbA V hfl hfm hO hl (fun H locs u ls V hl => law_kend C0 hr hX hbl V hl)
    by_cases c2 : (s0 &&& 31) = 1
    ·
      refine q_ti (v := 1) c2 ?_
      refine lv_tableIn (tgt := 236) (off := 196) hx hb d_40 (by decide) (by decide) (by decide) (by decide) ?_
      exact law_k1 hlt C0 hX hbl hbA V hfl hfm hO hl (fun H locs u ls V hl => law_kend C0 hr hX hbl V hl)
    by_cases c3 : (s0 &&& 31) = 2
    ·
      refine q_ti (v := 2) c3 ?_
      refine lv_tableIn (tgt := 249) (off := 209) hx hb d_40 (by decide) (by decide) (by decide) (by decide) ?_
      exact law_k2 hlt C0 hX hbl hbA V hfl hfm hO hl (fun H locs u ls V hl => law_kend C0 hr hX hbl V hl)
    by_cases c4 : (s0 &&& 31) = 3
    ·
      refine q_ti (v := 3) c4 ?_
      refine lv_tableIn (tgt := 336) (off := 296) hx hb d_40 (by decide) (by decide) (by decide) (by decide) ?_
      exact law_k3 hlt C0 hX hbl hbA V hfl hfm hO hl (fun H locs u ls V hl => law_kend C0 hr hX hbl V hl)
    by_cases c5 : (s0 &&& 31) = 4
    ·
      refine q_ti (v := 4) c5 ?_
      refine lv_tableIn (tgt := 428) (off := 388) hx hb d_40 (by decide) (by decide) (by decide) (by decide) ?_
      exact law_k4 hlt C0 hX hbl hbA V hfl hfm hO hl (fun H locs u ls V hl => law_kend C0 hr hX hbl V hl)
    by_cases c6 : (s0 &&& 31) = 5
    ·
      refine q_ti (v := 5) c6 ?_
      refine lv_tableIn (tgt := 507) (off := 467) hx hb d_40 (by decide) (by decide) (by decide) (by decide) ?_
      exact law_k5 hlt C0 hX hbl hbA V hfl hfm hO hl (fun H locs u ls V hl => law_kend C0 hr hX hbl V hl)
    by_cases c7 : (s0 &&& 31) = 6
    ·
      refine q_ti (v := 6) c7 ?_
      refine lv_tableIn (tgt := 587) (off := 547) hx hb d_40 (by decide) (by decide) (by decide) (by decide) ?_
      exact law_k6 hlt C0 hX hbl hbA V hfl hfm hO hl (fun H locs u ls V hl => law_kend C0 hr hX hbl V hl)
    by_cases c8 : (s0 &&& 31) = 7
    ·
      refine q_ti (v := 7) c8 ?_
      refine lv_tableIn (tgt := 659) (off := 619) hx hb d_40 (by decide) (by decide) (by decide) (by decide) ?_
      exact law_k7 hlt C0 hX hbl hbA V hfl hfm hO hl (fun H locs u ls V hl => law_kend C0 hr hX hbl V hl)
    by_cases c9 : (s0 &&& 31) = 8
    ·
      refine q_ti (v := 8) c9 ?_
      refine lv_tableIn (tgt := 731) (off := 691) hx hb d_40 (by decide) (by decide) (by decide) (by decide) ?_
      exact law_k8 hlt C0 hX hbl hbA V hfl hfm hO hl (fun H locs u ls V hl => law_kend C0 hr hX hbl V hl)
    by_cases c10 : (s0 &&& 31) = 9
    ·
      refine q_ti (v := 9) c10 ?_
      refine lv_tableIn (tgt := 803) (off := 763) hx hb d_40 (by decide) (by decide) (by decide) (by decide) ?_
      exact law_k9 hlt C0 hX hbl hbA V hfl hfm hO hl (fun H locs u ls V hl => law_kend C0 hr hX hbl V hl)
    by_cases c11 : (s0 &&& 31) = 10
    ·
      refine q_ti (v := 10) c11 ?_
      refine lv_tableIn (tgt := 875) (off := 835) hx hb d_40 (by decide) (by decide) (by decide) (by decide) ?_
      exact law_k10 hlt C0 hX hbl hbA V hfl hfm hO hl (fun H locs u ls V hl => law_kend C0 hr hX hbl V hl)
    by_cases c12 : (s0 &&& 31) = 11
    ·
      refine q_ti (v := 11) c12 ?_
      refine lv_tableIn (tgt := 947) (off := 907) hx hb d_40 (by decide) (by decide) (by decide) (by decide) ?_
      exact law_k11 hlt C0 hX hbl hbA V hfl hfm hO hl (fun H locs u ls V hl => law_kend C0 hr hX hbl V hl)
    by_cases c13 : (s0 &&& 31) = 12
    ·
      refine q_ti (v := 12) c13 ?_
      refine lv_tableIn (tgt := 1031) (off := 991) hx hb d_40 (by decide) (by decide) (by decide) (by decide) ?_
      exact law_k12 hlt C0 hX hbl hbA V hfl hfm hO hl (fun H locs u ls V hl => law_kend C0 hr hX hbl V hl)
    by_cases c14 : (s0 &&& 31) = 13
    ·
      refine q_ti (v := 13) c14 ?_
      refine lv_tableIn (tgt := 1115) (off := 1075) hx hb d_40 (by decide) (by decide) (by decide) (by decide) ?_
      exact law_k13 hlt C0 hX hbl hbA V hfl hfm hO hl (fun H locs u ls V hl => law_kend C0 hr hX hbl V hl)
    by_cases c15 : (s0 &&& 31) = 14
    ·
      refine q_ti (v := 14) c15 ?_
      refine lv_tableIn (tgt := 1199) (off := 1159) hx hb d_40 (by decide) (by decide) (by decide) (by decide) ?_
      exact law_k14 hlt C0 hX hbl hbA V hfl hfm hO hl (fun H locs u ls V hl => law_kend C0 hr hX hbl V hl)
    by_cases c16 : (s0 &&& 31) = 15
    ·
      refine q_ti (v := 15) c16 ?_
      refine lv_tableIn (tgt := 1271) (off := 1231) hx hb d_40 (by decide) (by decide) (by decide) (by decide) ?_
      exact law_k15 hlt C0 hX hbl hbA V hfl hfm hO hl (fun H locs u ls V hl => law_kend C0 hr hX hbl V hl)
    by_cases c17 : (s0 &&& 31) = 16
    ·
      refine q_ti (v := 16) c17 ?_
      refine lv_tableIn (tgt := 1351) (off := 1311) hx hb d_40 (by decide) (by decide) (by decide) (by decide) ?_
      exact law_k16 hlt C0 hX hbl hbA V hfl hfm hO hl (fun H locs u ls V hl => law_kend C0 hr hX hbl V hl)
    by_cases c18 : (s0 &&& 31) = 17
    ·
      refine q_ti (v := 17) c18 ?_
      refine lv_tableIn (tgt := 1471) (off := 1431) hx hb d_40 (by decide) (by decide) (by decide) (by decide) ?_
      exact law_k17 hlt C0 hX hbl hbA V hfl hfm hO hl (fun H locs u ls V hl => law_kend C0 hr hX hbl V hl)
    by_cases c19 : (s0 &&& 31) = 18
    ·
      refine q_ti (v := 18) c19 ?_
      refine lv_tableIn (tgt := 1539) (off := 1499) hx hb d_40 (by decide) (by decide) (by decide) (by decide) ?_
      exact law_k18 hlt C0 hX hbl hbA V hfl hfm hO hl (fun H locs u ls V hl => law_kend C0 hr hX hbl V hl)
    by_cases c20 : (s0 &&& 31) = 19
    ·
      refine q_ti (v := 19) c20 ?_
      refine lv_tableIn (tgt := 1583) (off := 1543) hx hb d_40 (by decide) (by decide) (by decide) (by decide) ?_
      exact law_k19 hlt C0 hX hbl hbA V hfl hfm hO hl (fun H locs u ls V hl => law_kend C0 hr hX hbl V hl)
    refine lv_tableOut (tgt := 1609) hx hb d_40 (by have z0 : (s0 &&& 31).toInt ≠ 0 := q_neI c1; have z1 : (s0 &&& 31).toInt ≠ 1 := q_neI c2; have z2 : (s0 &&& 31).toInt ≠ 2 := q_neI c3; have z3 : (s0 &&& 31).toInt ≠ 3 := q_neI c4; have z4 : (s0 &&& 31).toInt ≠ 4 := q_neI c5; have z5 : (s0 &&& 31).toInt ≠ 5 := q_neI c6; have z6 : (s0 &&& 31).toInt ≠ 6 := q_neI c7; have z7 : (s0 &&& 31).toInt ≠ 7 := q_neI c8; have z8 : (s0 &&& 31).toInt ≠ 8 := q_neI c9; have z9 : (s0 &&& 31).toInt ≠ 9 := q_neI c10; have z10 : (s0 &&& 31).toInt ≠ 10 := q_neI c11; have z11 : (s0 &&& 31).toInt ≠ 11 := q_neI c12; have z12 : (s0 &&& 31).toInt ≠ 12 := q_neI c13; have z13 : (s0 &&& 31).toInt ≠ 13 := q_neI c14; have z14 : (s0 &&& 31).toInt ≠ 14 := q_neI c15; have z15 : (s0 &&& 31).toInt ≠ 15 := q_neI c16; have z16 : (s0 &&& 31).toInt ≠ 16 := q_neI c17; have z17 : (s0 &&& 31).toInt ≠ 17 := q_neI c18; have z18 : (s0 &&& 31).toInt ≠ 18 := q_neI c19; have z19 : (s0 &&& 31).toInt ≠ 19 := q_neI c20; omega) (by decide) ?_
    refine W.widen (k := 300) (n := 300000) (Nat.le_of_ble_eq_true rfl) (Nat.le_of_ble_eq_true rfl) ?_
    exact law_kend C0 hr hX hbl V (q_lw hl (q_lw1 0 rfl (q_lw1 4 rfl q_lw0)))
  · have h5 : L = 0 ∨ L = 1 ∨ L = 2 ∨ L = 3 ∨ L = 4 ∨ L = 5 := by omega
    rcases h5 with rfl | rfl | rfl | rfl | rfl | rfl
    · refine q_ti (v := (-6)) (by decide) ?_
      refine lv_icmp_gt (tgt := 1615) hx hb d_30 (by decide) (fun c1 => ?_) (fun c1 => absurd (by decide) c1)
      exact law_end C0 hr V (Nat.le_of_ble_eq_true rfl) (Nat.le_of_ble_eq_true rfl)
    · refine q_ti (v := (-5)) (by decide) ?_
      refine lv_icmp_gt (tgt := 1615) hx hb d_30 (by decide) (fun c1 => ?_) (fun c1 => absurd (by decide) c1)
      exact law_end C0 hr V (Nat.le_of_ble_eq_true rfl) (Nat.le_of_ble_eq_true rfl)
    · refine q_ti (v := (-4)) (by decide) ?_
      refine lv_icmp_gt (tgt := 1615) hx hb d_30 (by decide) (fun c1 => ?_) (fun c1 => absurd (by decide) c1)
      exact law_end C0 hr V (Nat.le_of_ble_eq_true rfl) (Nat.le_of_ble_eq_true rfl)
    · refine q_ti (v := (-3)) (by decide) ?_
      refine lv_icmp_gt (tgt := 1615) hx hb d_30 (by decide) (fun c1 => ?_) (fun c1 => absurd (by decide) c1)
      exact law_end C0 hr V (Nat.le_of_ble_eq_true rfl) (Nat.le_of_ble_eq_true rfl)
    · refine q_ti (v := (-2)) (by decide) ?_
      refine lv_icmp_gt (tgt := 1615) hx hb d_30 (by decide) (fun c1 => ?_) (fun c1 => absurd (by decide) c1)
      exact law_end C0 hr V (Nat.le_of_ble_eq_true rfl) (Nat.le_of_ble_eq_true rfl)
    · refine q_ti (v := (-1)) (by decide) ?_
      refine lv_icmp_gt (tgt := 1615) hx hb d_30 (by decide) (fun c1 => ?_) (fun c1 => absurd (by decide) c1)
      exact law_end C0 hr V (Nat.le_of_ble_eq_true rfl) (Nat.le_of_ble_eq_true rfl)
theorem d_0 : decode code 0 = .ok (.new 8, 3) := by decide +kernel
theorem w_38 : (Cond.classLink "NumberHouseLaw" (8 : Nat) "NumberHouse") ∈ q_tbl := q_of 38 (by decide +kernel) (by decide +kernel)
theorem d_3 : decode code 3 = .ok (.dup, 1) := by decide +kernel
theorem d_4 : decode code 4 = .ok (.invokespecial 79, 3) := by decide +kernel
theorem w_42 : (Cond.code ({ cls := "NumberHouse", name := "<init>", desc := "()V" } : MethodName) prog_1_method_1_code (2 : Nat) (none : Option ClassFile.FieldType)) ∈ q_tbl := q_of 42 (by decide +kernel) (by decide +kernel)
theorem w_40 : (Cond.methodLink "NumberHouseLaw" (79 : Nat) ({ cls := "NumberHouse", name := "<init>", desc := "()V" } : MethodName)) ∈ q_tbl := q_of 40 (by decide +kernel) (by decide +kernel)
theorem w_41 : (Cond.instanceMethod ({ cls := "NumberHouse", name := "<init>", desc := "()V" } : MethodName)) ∈ q_tbl := q_of 41 (by decide +kernel) (by decide +kernel)
theorem LI_NL_79 : q_LI "NumberHouseLaw" 79 y_NH_init prog_1_method_1_code 2 0 := ⟨w_42, w_1, w_40, w_41, rfl, ⟨by decide, by decide, by decide +kernel⟩⟩
theorem d_7 : decode code 7 = .ok (.astore_n 1, 1) := by decide +kernel
theorem d_8 : decode code 8 = .ok (.new 80, 3) := by decide +kernel
theorem w_1909 : (Cond.classLink "NumberHouseLaw" (80 : Nat) "NumberHouseModel") ∈ q_tbl := q_of 1909 (by decide +kernel) (by decide +kernel)
theorem d_11 : decode code 11 = .ok (.dup, 1) := by decide +kernel
theorem d_12 : decode code 12 = .ok (.invokespecial 82, 3) := by decide +kernel
theorem w_1913 : (Cond.code ({ cls := "NumberHouseModel", name := "<init>", desc := "()V" } : MethodName) prog_14_method_1_code (1 : Nat) (none : Option ClassFile.FieldType)) ∈ q_tbl := q_of 1913 (by decide +kernel) (by decide +kernel)
theorem w_1911 : (Cond.methodLink "NumberHouseLaw" (82 : Nat) ({ cls := "NumberHouseModel", name := "<init>", desc := "()V" } : MethodName)) ∈ q_tbl := q_of 1911 (by decide +kernel) (by decide +kernel)
theorem w_1912 : (Cond.instanceMethod ({ cls := "NumberHouseModel", name := "<init>", desc := "()V" } : MethodName)) ∈ q_tbl := q_of 1912 (by decide +kernel) (by decide +kernel)
theorem LI_NL_82 : q_LI "NumberHouseLaw" 82 y_NM_init prog_14_method_1_code 1 0 := ⟨w_1913, w_14, w_1911, w_1912, rfl, ⟨by decide, by decide, by decide +kernel⟩⟩
theorem d_15 : decode code 15 = .ok (.astore_n 2, 1) := by decide +kernel
theorem d_16 : decode code 16 = .ok (.iconst 1, 1) := by decide +kernel
theorem d_17 : decode code 17 = .ok (.newarray .long, 2) := by decide +kernel
theorem d_19 : decode code 19 = .ok (.astore_n 3, 1) := by decide +kernel
theorem d_20 : decode code 20 = .ok (.iconst 0, 1) := by decide +kernel
theorem d_21 : decode code 21 = .ok (.istore 4, 2) := by decide +kernel
set_option maxRecDepth 100000 in
set_option maxHeartbeats 4000000 in
theorem whole_start {p : Program} {e : Env} {s : State} {m : MethodId} {below : List Frame} {meth : Method} {c : Code} (l : Launch) (hlt : l.stackTraces = false) {b L : Nat} {xs : Nat → Int32} (hL : L ≤ 6) (CC : lw_At p s m meth c b L xs) (hnm : meth.name = "law") : W p l e room_1 s m #[Value.ref b] below meth c s.heap [] 0 0 (lw_Z below #[Value.ref b] s) (entryFrame m ([Value.ref b] : List Value).toArray 8) := by
  obtain ⟨hx, hb, hr, hml, hown, hts, hX, hbl, hlocks, hgv⟩ := id CC
  have htq : ∀ w ∈ q_tbl, w.before #[Value.ref b] s = true := fun w h => hts w (List.mem_filter.mp h).1
  have hs := flat_of_before _ hgv
  have hA : ∀ a : Nat, a < s.heap.size → ¬ (fun q : Nat => s.heap.size ≤ q) a := fun a h h2 => absurd h2 (Nat.not_le.mpr h)
  obtain ⟨D, hD⟩ := st_D htq
  obtain ⟨g, hK, hZ⟩ := st_g (A := (fun q : Nat => s.heap.size ≤ q)) (D := D) hts hs hA hD
  have V : q_Wd D g (fun q : Nat => s.heap.size ≤ q) s ([] : va_W) s.heap [] := ⟨fun k q h => by simp at h, ⟨fun i j p q h => by simp at h, fun k q h => by simp at h⟩, va_S.rf, hK, hZ, fun _ h => h⟩
  have C0 : q_At p s m #[Value.ref b] meth c y_NL_law code 8 (some .boolean) := ⟨hx, hb, hr, hml, hown, htq, hlocks, hnm⟩
  have hl := lv_entry ([.ref b]) (n := 8) (Nat.le_of_ble_eq_true rfl)
  rw [lg_entry_eq]
  generalize (lg_sl ([.ref b]) ++ List.replicate (8 - (lg_sl ([.ref b])).length) Slot.unset).toArray = ls at hl ⊢
  have hl : lv_has ls 8 [(0, .ref b)] := hl
  have hN : ([] : va_W).length = 0 := rfl
  refine q_new (ci := 0) (fs := [.null, .null, .null, .null, .null, .null, .null, .null, .null, .null, .null, .null, .null, .null]) C0 V hN i_NH o_NH rfl w_38 w_39 w_1 rfl (fun j hj => by rcases (show j = 0 ∨ j = 1 ∨ j = 2 ∨ j = 3 ∨ j = 4 ∨ j = 5 ∨ j = 6 ∨ j = 7 ∨ j = 8 ∨ j = 9 ∨ j = 10 ∨ j = 11 ∨ j = 12 ∨ j = 13 by omega) with rfl | rfl | rfl | rfl | rfl | rfl | rfl | rfl | rfl | rfl | rfl | rfl | rfl | rfl <;> rfl) (Nat.le_of_ble_eq_true rfl) (Nat.le_of_ble_eq_true rfl) d_0 (fun q1 H w2 hu3 hn4 hN V => ?_)
  have hnew : w2[0]? = (some (q1, .inr (0, [.null, .null, .null, .null, .null, .null, .null, .null, .null, .null, .null, .null, .null, .null])) : Option (Nat × va_E)) := hn4
  replace hN : w2.length = 1 := hN
  refine lv_dup hx hb d_3 rfl ?_
  refine q_gov V (q_runI (As := []) (rest := [.ref q1]) (d := 5) (mc := 115) (ms := 7767) C0 V rfl LI_NL_79 (c_NH_init l D g w2 q1 hN hnew _) rfl hl.1 rfl (Nat.le_of_ble_eq_true rfl) ⟨by decide, by decide⟩ ⟨Nat.le_of_ble_eq_true rfl, Nat.le_of_ble_eq_true rfl⟩ d_4) (fun uq H locs hp V => ?_)
  obtain ⟨q, hq, hfl, hN⟩ := hp
  subst hq
  refine lv_astore_n (lv' := [(1, .ref (q 0)), (0, .ref b)]) hx hb d_7 rfl hl (by decide) rfl (fun ls hl => ?_)
  refine q_new (ci := 12) (fs := [.int 0, .null, .int 0, .null, .int 0, .null, .null, .null, .null, .null, .null, .null]) C0 V hN i_NM o_NM rfl w_1909 w_1910 w_14 rfl (fun j hj => by rcases (show j = 0 ∨ j = 1 ∨ j = 2 ∨ j = 3 ∨ j = 4 ∨ j = 5 ∨ j = 6 ∨ j = 7 ∨ j = 8 ∨ j = 9 ∨ j = 10 ∨ j = 11 by omega) with rfl | rfl | rfl | rfl | rfl | rfl | rfl | rfl | rfl | rfl | rfl | rfl <;> rfl) (Nat.le_of_ble_eq_true rfl) (Nat.le_of_ble_eq_true rfl) d_8 (fun q5 H w6 hu7 hn8 hN V => ?_)
  have hnew : w6[116]? = (some (q5, .inr (12, [.int 0, .null, .int 0, .null, .int 0, .null, .null, .null, .null, .null, .null, .null])) : Option (Nat × va_E)) := hn8
  replace hfl : q_fl w6 0 (nh_w g q) := q_flU (fun i hi => hu7 i (by omega)) (Nat.le_of_ble_eq_true rfl) hfl
  replace hN : w6.length = 117 := hN
  refine lv_dup hx hb d_11 rfl ?_
  refine q_gov V (q_runI (As := []) (rest := [.ref q5]) (d := 3) (mc := 52) (ms := 112327) C0 V rfl LI_NL_82 (c_NM_init l D g w6 q5 hN hnew _) rfl hl.1 rfl (Nat.le_of_ble_eq_true rfl) ⟨by decide, by decide⟩ ⟨Nat.le_of_ble_eq_true rfl, Nat.le_of_ble_eq_true rfl⟩ d_12) (fun uq2 H locs hp V => ?_)
  obtain ⟨q2, hq, hF, hfm, hN⟩ := hp
  replace hfl : q_fl uq2 0 (nh_w g q) := q_flU (fun i hi => hF i (fun hm => by simp only [List.mem_cons, List.not_mem_nil, or_false] at hm; omega)) (Nat.le_of_ble_eq_true rfl) hfl
  subst hq
  refine lv_astore_n (lv' := [(2, .ref (q2 0)), (1, .ref (q 0)), (0, .ref b)]) hx hb d_15 rfl hl (by decide) rfl (fun ls hl => ?_)
  refine lv_iconst (v := 1) hx hb d_16 (by decide) ?_
  refine q_newL (N' := 1) C0 V hN w_67 (by decide) (by decide) (by decide) (Nat.le_of_ble_eq_true rfl) (Nat.le_of_ble_eq_true rfl) d_17 (fun q9 H w10 hu11 hn12 hN V => ?_)
  have hnew : w10[169]? = (some (q9, .inl (g 1, 1, .inr (.inl (fun _ => 0)))) : Option (Nat × va_E)) := hn12
  replace hfl : q_fl w10 0 (nh_w g q) := q_flU (fun i hi => hu11 i (by omega)) (Nat.le_of_ble_eq_true rfl) hfl
  replace hfm : q_fl w10 116 (nm_w g q2) := q_flW (fun i _ hi => hu11 i hi) (Nat.le_of_ble_eq_true rfl) hfm
  replace hN : w10.length = 170 := hN
  refine lv_astore_n (lv' := [(3, .ref q9), (2, .ref (q2 0)), (1, .ref (q 0)), (0, .ref b)]) hx hb d_19 rfl hl (by decide) rfl (fun ls hl => ?_)
  refine lv_iconst (v := 0) hx hb d_20 (by decide) ?_
  refine lv_istore (lv' := [(4, .int 0), (3, .ref q9), (2, .ref (q2 0)), (1, .ref (q 0)), (0, .ref b)]) hx hb d_21 hl (by decide) rfl (fun ls hl => ?_)
  refine W.widen (k := 200) (n := 200000) (Nat.le_of_ble_eq_true rfl) (Nat.le_of_ble_eq_true rfl) ?_
  exact law_go hlt C0 hr hX hbl hL V hfl hfm hnew (q_lw hl (q_lw1 0 rfl (q_lw1 1 rfl (q_lw1 2 rfl (q_lw1 3 rfl (q_lw1 4 rfl q_lw0))))))
