/-! the law: what its cases stand on -/
theorem d_14_2_0 : decode prog_14_method_2_code 0 = .ok (.aload_n 0, 1) := by decide +kernel
theorem d_14_2_1 : decode prog_14_method_2_code 1 = .ok (.getfield 58, 3) := by decide +kernel
theorem d_14_2_4 : decode prog_14_method_2_code 4 = .ok (.ireturn, 1) := by decide +kernel
def y_NM_thrown : MethodName := ⟨"NumberHouseModel", "thrown", "()I"⟩
set_option maxRecDepth 100000 in
set_option maxHeartbeats 4000000 in
/-- thrown() -/
theorem c_NM_thrown (l : Launch) (D : va_G) (g : Nat → ClassId) (ws : va_W) ( qO0 : Nat) (y1 : Int32) (qq2 : Nat) (y3 : Int32) (qq4 : Nat) (y5 : Int32) (qq6 : Nat) (qq7 : Nat) (qq8 : Nat) (qq9 : Nat) (qq10 : Nat) (qq11 : Nat) (qq12 : Nat) (hO0 : ws[116]? = (some (qO0, .inr (12, [.int y1, .ref qq2, .int y3, .ref qq4, .int y5, .ref qq6, .ref qq7, .ref qq8, .ref qq9, .ref qq10, .ref qq11, .ref qq12])) : Option (Nat × va_E))) : q_mI l y_NM_thrown prog_14_method_2_code 1 (.int) 1 0 0 D g [.ref qO0] ws (fun r u => y1 = r ∧ ws = u) := by
  intro sz
  refine q_into (by decide) (Nat.le_of_ble_eq_true rfl) ?_
  intro p e s m below meth c ls hsz C0 V hl
  have hx := C0.1
  have hb := C0.2.1
  have hl : lv_has ls 1 [(0, .ref qO0)] := hl
  refine lv_aload_n hx hb d_14_2_0 rfl (lv_at hl 0 rfl) ?_
  refine q_get (ci := 12) (j := 0) (v := .int y1) C0 V i_NM rfl rfl hO0 (by decide) w_2298 rfl d_14_2_1 ?_
  exact q_reti C0 V (⟨rfl, rfl⟩) d_14_2_4
def y_NL_law : MethodName := ⟨"NumberHouseLaw", "law", "([I)Z"⟩
theorem q_flG {B : Nat} {ws u l : va_W} (hF : q_ge B ws u) (h : q_fl ws B l) : q_fl u B l := fun i x hx => (hF _ (Nat.le_add_right B i)).trans (h i x hx)
theorem q_flW {ws u l : va_W} (hF : ∀ i, 116 ≤ i → i ≠ 169 → u[i]? = ws[i]?) (hl : l.length ≤ 53) (h : q_fl ws 116 l) : q_fl u 116 l := fun i x hx => by
  have h1 := (List.getElem?_eq_some_iff.mp hx).1
  exact (hF _ (Nat.le_add_right 116 i) (by omega)).trans (h i x hx)
