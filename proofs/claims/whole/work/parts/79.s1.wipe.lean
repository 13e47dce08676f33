/-! NumberHouse, exactly: s1.wipe -/
theorem d_1_3_0 : decode prog_1_method_3_code 0 = .ok (.aload_n 0, 1) := by decide +kernel
theorem d_1_3_1 : decode prog_1_method_3_code 1 = .ok (.getfield 14, 3) := by decide +kernel
theorem d_1_3_4 : decode prog_1_method_3_code 4 = .ok (.getfield 108, 3) := by decide +kernel
theorem d_1_3_7 : decode prog_1_method_3_code 7 = .ok (.istore_n 1, 1) := by decide +kernel
theorem d_1_3_8 : decode prog_1_method_3_code 8 = .ok (.aload_n 0, 1) := by decide +kernel
theorem d_1_3_9 : decode prog_1_method_3_code 9 = .ok (.getfield 14, 3) := by decide +kernel
theorem d_1_3_12 : decode prog_1_method_3_code 12 = .ok (.invokevirtual 115, 3) := by decide +kernel
theorem d_1_3_15 : decode prog_1_method_3_code 15 = .ok (.iload_n 1, 1) := by decide +kernel
theorem d_1_3_16 : decode prog_1_method_3_code 16 = .ok (.ireturn, 1) := by decide +kernel
def y_NH_wipe : MethodName := ⟨"NumberHouse", "wipe", "()I"⟩
def F_NH_wipe (t0_0 : Int32) (t1_0 : (Nat → Int64)) : Int32 × Int32 := (t0_0, ((F_She_clear (4100 : Int32) (513 : Int32) (4100 : Int32) t0_0) : Int32))
set_option maxRecDepth 100000 in
set_option maxHeartbeats 4000000 in
theorem X_NH_wipe (l : Launch) (D : va_G) (g : Nat → ClassId) (q : Nat → Nat) (ws : va_W) (hI : q_I (nsh g q) q ws) (t0_0 : Int32) (hT0 : ws[1]? = (some (q 1, .inr (1, [.ref (q 2), .int 4100, .int t0_0])) : Option (Nat × va_E))) (t1_0 : (Nat → Int64)) (hT1 : ws[2]? = (some (q 2, .inl (g 1, (513 : Int32).toNatClampNeg, .inr (.inl t1_0))) : Option (Nat × va_E))) : q_mI l y_NH_wipe prog_1_method_3_code 2 (.int) 2 0 0 D g [.ref (q 0)] ws (fun r u => q_I (nsh g q) q u ∧ q_un ws u [1] ∧ ∃ (u0_0 : Int32), u[1]? = (some (q 1, .inr (1, [.ref (q 2), .int 4100, .int u0_0])) : Option (Nat × va_E)) ∧ (0 ≤ u0_0.toInt) ∧ (u0_0.toInt ≤ 0) ∧ (t0_0.toInt ≤ r.toInt) ∧ (r.toInt ≤ t0_0.toInt) ∧ (r, u0_0) = (F_NH_wipe t0_0 t1_0)) := by
  intro sz
  refine q_into (by decide) (Nat.le_of_ble_eq_true rfl) ?_
  intro p e s m below meth c ls hsz C0 V hl
  have hx := C0.1
  have hb := C0.2.1
  obtain ⟨yy0_0, hh0, btt0_0⟩ := n_shO hI (n_h1 g q)
  obtain ⟨rfl⟩ : t0_0 = yy0_0 := by have z := Option.some.inj (hT0.symm.trans hh0); simpa using z
  replace btt0_0 : q_F (0 ≤ t0_0.toInt ∧ t0_0.toInt ≤ 4100) := btt0_0
  have hF : q_un ws ws [1] := q_u0
  have hl : lv_has ls 2 [(0, .ref (q 0))] := hl
  refine lv_aload_n hx hb d_1_3_0 rfl (lv_at hl 0 rfl) ?_
  have hO6 := n_o0 hI
  refine q_get (ci := 0) (j := 0) (v := .ref (q 1)) C0 V i_NH rfl rfl hO6 (by decide) w_424 rfl d_1_3_1 ?_
  refine q_get (ci := 1) (j := 2) (v := .int t0_0) C0 V i_She rfl rfl hT0 (by decide) w_56 rfl d_1_3_4 ?_
  refine lv_istore_n (lv' := [(1, .int t0_0), (0, .ref (q 0))]) hx hb d_1_3_7 rfl hl (by decide) rfl (fun ls hl => ?_)
  refine lv_aload_n hx hb d_1_3_8 rfl (lv_at hl 1 rfl) ?_
  refine q_get (ci := 0) (j := 0) (v := .ref (q 1)) C0 V i_NH rfl rfl hO6 (by decide) w_424 rfl d_1_3_9 ?_
  refine q_gov V (q_runV (As := []) (rest := []) (d := 1) (mc := 0) (ms := 0) (ci := 1) C0 V rfl LV_NH_115 (X_She_clear l D g q ws 1 4100 513 4100 (n_h1 g q)  hI t0_0 hT0  _) rfl rfl hT0 rfl hl.1 rfl (Nat.le_of_ble_eq_true rfl) ⟨by decide, by decide⟩ ⟨Nat.le_of_ble_eq_true rfl, Nat.le_of_ble_eq_true rfl⟩ d_1_3_12) (fun u7 H locs hp8 V => ?_)
  obtain ⟨hI, hu14, y10, hO9, b11, b12, hE13⟩ := hp8
  replace hO9 : u7[1]? = (some (q 1, .inr (1, [.ref (q 2), .int 4100, .int y10])) : Option (Nat × va_E)) := hO9
  have e15 : y10 = (F_She_clear (4100 : Int32) (513 : Int32) (4100 : Int32) t0_0) := hE13
  replace b11 : q_F (0 ≤ y10.toInt) := b11
  replace b12 : q_F (y10.toInt ≤ 0) := b12
  replace hT1 := (hu14 _ (by decide)).trans hT1
  replace hO6 := (hu14 _ (by decide)).trans hO6
  replace hF := q_uc hF hu14 (by simp)
  refine lv_iload_n hx hb d_1_3_15 rfl (lv_at hl 0 rfl) ?_
  exact q_reti C0 V (⟨hI, hF, y10, hO9, (show 0 ≤ y10.toInt from (by have t1 : 0 ≤ y10.toInt := b11; omega)), (show y10.toInt ≤ 0 from (by have t1 : y10.toInt ≤ 0 := b12; omega)), (show t0_0.toInt ≤ t0_0.toInt from (by omega)), (show t0_0.toInt ≤ t0_0.toInt from (by omega)), (show (t0_0, y10) = (F_NH_wipe t0_0 t1_0) from (by rw [e15, F_NH_wipe.eq_1]))⟩) d_1_3_16
