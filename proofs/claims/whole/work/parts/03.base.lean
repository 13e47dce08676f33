/-! the form of all contracts here: ONE list of cells ws, whole, before and behind a method; places in it by lookups -/
/-- the classes, the array classes and their names -/
def q_K (D : va_G) (g : Nat → ClassId) (U : State) : Prop := va_K D q_cl (q_ty g) U ∧ U.vm.findClass "[I" = some (g 0) ∧ U.vm.findClass "[J" = some (g 1) ∧ U.vm.findClass "[B" = some (g 2) ∧ U.vm.findClass "[Z" = some (g 3) ∧ U.vm.findClass "[LNumberHouse$Big;" = some (g 4) ∧ U.vm.findClass "[LNumberHouse$Dec;" = some (g 5) ∧ U.vm.findClass "[LNumberHouse$Sheet;" = some (g 6)
theorem q_K.moved {D : va_G} {g : Nat → ClassId} {u U : State} (hvm : u.vm.Alike U.vm) (h : q_K D g u) : q_K D g U := by
  obtain ⟨h0, h1, h2, h3, h4, h5, h6, h7⟩ := h
  exact ⟨h0.moved hvm, by rw [hvm.findClass]; exact h1, by rw [hvm.findClass]; exact h2, by rw [hvm.findClass]; exact h3, by rw [hvm.findClass]; exact h4, by rw [hvm.findClass]; exact h5, by rw [hvm.findClass]; exact h6, by rw [hvm.findClass]; exact h7⟩
/-- ten to the j, five to the j, as the tables of Big hold them -/
def q_ten (j : Nat) : Value := .int (Int32.ofNat (10 ^ j))
def q_five (j : Nat) : Value := .int (Int32.ofNat (5 ^ j))
/-- words of the tables that stay, but not by the kit's own list -/
def q_isOdd : Cond → Bool
  | .declares _ => true
  | .castable _ _ => true
  | .methodLinkNest _ _ _ _ => true
  | .fieldLinkNest _ _ _ _ _ _ => true
  | .stringRef _ _ _ => true
  | .arrayOver (.object _) => true
  | _ => false
def q_odd : List Cond := lw_tbl.filter q_isOdd
theorem q_oo {w : Cond} (i : Nat) (h : tables_1[i]? = some w) (g : q_isOdd w = true) : w ∈ q_odd := List.mem_filter.mpr ⟨List.mem_append_right _ (List.mem_of_getElem? h), g⟩
theorem q_oo1 {w : Cond} (i : Nat) (h : tables_1_1[i]? = some w) (g : q_isOdd w = true) : w ∈ q_odd := List.mem_filter.mpr ⟨List.mem_append_right _ (tm_1 i h), g⟩
theorem q_oo2 {w : Cond} (i : Nat) (h : tables_1_2[i]? = some w) (g : q_isOdd w = true) : w ∈ q_odd := List.mem_filter.mpr ⟨List.mem_append_right _ (tm_2 i h), g⟩
theorem q_oo3 {w : Cond} (i : Nat) (h : tables_1_3[i]? = some w) (g : q_isOdd w = true) : w ∈ q_odd := List.mem_filter.mpr ⟨List.mem_append_right _ (tm_3 i h), g⟩
theorem q_oo4 {w : Cond} (i : Nat) (h : tables_1_4[i]? = some w) (g : q_isOdd w = true) : w ∈ q_odd := List.mem_filter.mpr ⟨List.mem_append_right _ (tm_4 i h), g⟩
theorem q_oo5 {w : Cond} (i : Nat) (h : tables_1_5[i]? = some w) (g : q_isOdd w = true) : w ∈ q_odd := List.mem_filter.mpr ⟨List.mem_append_right _ (tm_5 i h), g⟩
theorem q_oo6 {w : Cond} (i : Nat) (h : tables_1_6[i]? = some w) (g : q_isOdd w = true) : w ∈ q_odd := List.mem_filter.mpr ⟨List.mem_append_right _ (tm_6 i h), g⟩
theorem q_oo7 {w : Cond} (i : Nat) (h : tables_1_7[i]? = some w) (g : q_isOdd w = true) : w ∈ q_odd := List.mem_filter.mpr ⟨List.mem_append_right _ (tm_7 i h), g⟩
theorem q_oo8 {w : Cond} (i : Nat) (h : tables_1_8[i]? = some w) (g : q_isOdd w = true) : w ∈ q_odd := List.mem_filter.mpr ⟨List.mem_append_right _ (tm_8 i h), g⟩
theorem q_oo9 {w : Cond} (i : Nat) (h : tables_1_9[i]? = some w) (g : q_isOdd w = true) : w ∈ q_odd := List.mem_filter.mpr ⟨List.mem_append_right _ (tm_9 i h), g⟩
theorem q_oo10 {w : Cond} (i : Nat) (h : tables_1_10[i]? = some w) (g : q_isOdd w = true) : w ∈ q_odd := List.mem_filter.mpr ⟨List.mem_append_right _ (tm_10 i h), g⟩
theorem q_oo11 {w : Cond} (i : Nat) (h : tables_1_11[i]? = some w) (g : q_isOdd w = true) : w ∈ q_odd := List.mem_filter.mpr ⟨List.mem_append_right _ (tm_11 i h), g⟩
theorem q_oo12 {w : Cond} (i : Nat) (h : tables_1_12[i]? = some w) (g : q_isOdd w = true) : w ∈ q_odd := List.mem_filter.mpr ⟨List.mem_append_right _ (tm_12 i h), g⟩
theorem q_oo13 {w : Cond} (i : Nat) (h : tables_1_13[i]? = some w) (g : q_isOdd w = true) : w ∈ q_odd := List.mem_filter.mpr ⟨List.mem_append_right _ (tm_13 i h), g⟩
theorem q_oo14 {w : Cond} (i : Nat) (h : tables_1_14[i]? = some w) (g : q_isOdd w = true) : w ∈ q_odd := List.mem_filter.mpr ⟨List.mem_append_right _ (tm_14 i h), g⟩
def q_T (U : State) : Prop := ∀ w ∈ q_odd, va_Nw w U
theorem q_sref {own tx : String} {k : Nat} {s U : State} (hW : s.WarmedH U.vm) (h : va_Nw (.stringRef own k tx) s) : va_Nw (.stringRef own k tx) U := by
  have hcur : ∃ cur, s.vm.findClass own = some cur := by
    have h1 : (Cond.stringRef own k tx).before #[] s = true := h
    simp only [Cond.before, Cond.holds, Cond.value] at h1
    cases hc : s.vm.findClass own with
    | none => simp [hc] at h1
    | some cur => exact ⟨cur, rfl⟩
  obtain ⟨cur, hcur⟩ := hcur
  obtain ⟨k9, cf, i9, a, -, -, -, -, -, hev⟩ := Cond.stringRef_spec hcur h
  exact (vk_R.warm hW ⟨h, hev⟩).1
theorem q_T.warm {s U : State} (hW : s.WarmedH U.vm) (h : q_T s) : q_T U := fun w hw => by
  have h1 := h w hw
  have h2 : q_isOdd w = true := (List.mem_filter.mp hw).2
  cases w with
  | arrayOver t =>
    cases t with
    | object C => exact va_AO.moved hW.alike h1
    | _ => exact absurd h2 (by simp [q_isOdd])
  | _ => first | exact va_Nw.warmD hW h1 | exact va_Nw.warmC hW h1 | exact va_Nw.warmM hW h1 | exact va_Nw.warmF hW h1 | exact q_sref hW h1 | (exact absurd h2 (by simp [q_isOdd]))
/-- a static field that holds a reference or null, and the cell that it lies in -/
def q_Sr (C n d : String) (A : Nat → Prop) (U : State) (H : Heap) : Prop := ∃ (c : ClassId) (k : Class) (i : Nat) (f : Field) (a : Nat) (cell : Cell) (v : Value), U.vm.findClass C = some c ∧ U.fieldFound? C n d = some (c, k, i, f) ∧ f.isStatic = true ∧ k.statics = some a ∧ H[a]? = some cell ∧ cell.vm.isStatics = true ∧ cell.cls = c ∧ f.slot < cell.slots.size ∧ k.staticTypes[f.slot]? = some f.type ∧ cell.slots[f.slot]? = some v ∧ (v = .null ∨ ∃ z, v = .ref z) ∧ ¬ A a
theorem q_Sr.moved {C n d : String} {A : Nat → Prop} {u U : State} {H : Heap} (hvm : u.vm.Alike U.vm) (h : q_Sr C n d A u H) : q_Sr C n d A U H := by
  obtain ⟨c, k, i, f, a, cell, v, h1, h2, h3, h4, h5, h6, h7, h8, h9, h10, h11, h12⟩ := h
  obtain ⟨k', hi', he⟩ := State.fieldFound?_setVm hvm h2
  exact ⟨c, k', i, f, a, cell, v, by rw [hvm.findClass]; exact h1, hi', h3, by rw [he]; exact h4, h5, h6, h7, h8, by rw [he]; exact h9, h10, h11, h12⟩
theorem q_Sr.kept {C n d : String} {A : Nat → Prop} {U : State} {H H1 : Heap} (h : q_Sr C n d A U H) (hq : ∀ a : Nat, a < H.size → ¬ A a → H1[a]? = H[a]?) : q_Sr C n d A U H1 := by
  obtain ⟨c, k, i, f, a, cell, v, h1, h2, h3, h4, h5, h6, h7, h8, h9, h10, h11, h12⟩ := h
  exact ⟨c, k, i, f, a, cell, v, h1, h2, h3, h4, by rw [hq a (Array.getElem?_eq_some_iff.mp h5).1 h12]; exact h5, h6, h7, h8, h9, h10, h11, h12⟩
theorem q_Sr.narrow {C n d : String} {A B : Nat → Prop} {U : State} {H : Heap} (h : q_Sr C n d A U H) (hAB : ∀ q, B q → A q) : q_Sr C n d B U H := by
  obtain ⟨c, k, i, f, a, cell, v, h1, h2, h3, h4, h5, h6, h7, h8, h9, h10, h11, h12⟩ := h
  exact ⟨c, k, i, f, a, cell, v, h1, h2, h3, h4, h5, h6, h7, h8, h9, h10, h11, fun z => h12 (hAB a z)⟩
theorem q_Sr.lays {C n d : String} {A : Nat → Prop} {U : State} {args : Array Value} (h : q_Sr C n d A U U.heap) : (Cond.laysStatic C n d).before args U = true := by
  obtain ⟨c, k, i, f, a, cell, v, h1, h2, h3, h4, h5, h6, h7, h8, h9, h10, h11, h12⟩ := h
  simp [Cond.before, Cond.holds, Cond.value, h1, h2, h3, h4, h5, h6, h7, h8, h9]
theorem q_Sr.ref {C n d : String} {A : Nat → Prop} {U : State} {args : Array Value} (h : q_Sr C n d A U U.heap) : (Cond.isRef (.static C n d)).before args U = true := by
  obtain ⟨c, k, i, f, a, cell, v, h1, h2, h3, h4, h5, h6, h7, h8, h9, h10, h11, h12⟩ := h
  have he : (Term.static C n d).eval args U none [] U = cell.slots[f.slot]? := by
    simp [Term.eval, State.fieldNamed?, h2, h3, h4, h5, h6]
  rcases h11 with rfl | ⟨z, rfl⟩ <;> simp [Cond.before, Cond.holds, Cond.value, he, h10]
abbrev q_tU : String := "[Ljava/lang/StackTraceElement;"
abbrev q_tS : String := "Ljava/util/List;"
/-- the statics: the two tables of Big, Throwable's two; and the words of the tables that stay in their own way -/
def q_Z0 (A : Nat → Prop) (U : State) (H : Heap) : Prop :=
  (∃ t : Nat, va_Z "NumberHouse$Big" "TENS" "[I" (.ref t) A U H ∧ va_T .int t 10 q_ten A U H) ∧ (∃ t : Nat, va_Z "NumberHouse$Big" "FIVES" "[I" (.ref t) A U H ∧ va_T .int t 14 q_five A U H) ∧ q_Sr "java/lang/Throwable" "UNASSIGNED_STACK" q_tU A U H ∧ q_Sr "java/lang/Throwable" "SUPPRESSED_SENTINEL" q_tS A U H ∧ q_T U
theorem q_Z0.warm {A : Nat → Prop} {u U : State} {H : Heap} (hW : u.WarmedH U.vm) (h : q_Z0 A u H) : q_Z0 A U H := by
  obtain ⟨⟨t, h1, h2⟩, ⟨t', h3, h4⟩, h5, h6, h7⟩ := h
  have hvm := hW.alike
  exact ⟨⟨t, h1.moved hvm, h2.moved hvm⟩, ⟨t', h3.moved hvm, h4.moved hvm⟩, h5.moved hvm, h6.moved hvm, h7.warm hW⟩
theorem q_Z0.kept {A : Nat → Prop} {U : State} {H H1 : Heap} (h : q_Z0 A U H) (hq : ∀ a : Nat, a < H.size → ¬ A a → H1[a]? = H[a]?) : q_Z0 A U H1 := by
  obtain ⟨⟨t, h1, h2⟩, ⟨t', h3, h4⟩, h5, h6, h7⟩ := h
  exact ⟨⟨t, h1.kept hq, h2.kept hq⟩, ⟨t', h3.kept hq, h4.kept hq⟩, h5.kept hq, h6.kept hq, h7⟩
theorem q_Z0.narrow {A B : Nat → Prop} {U : State} {H : Heap} (h : q_Z0 A U H) (hAB : ∀ q, B q → A q) : q_Z0 B U H := by
  obtain ⟨⟨t, h1, h2⟩, ⟨t', h3, h4⟩, h5, h6, h7⟩ := h
  exact ⟨⟨t, h1.narrow hAB, h2.narrow hAB⟩, ⟨t', h3.narrow hAB, h4.narrow hAB⟩, h5.narrow hAB, h6.narrow hAB, h7⟩
/-- the three kinds of exception are apart -/
def q_Nc (U : State) : Prop := va_Nc "java/lang/ArithmeticException" "java/lang/IllegalArgumentException" U ∧ va_Nc "java/lang/IllegalStateException" "java/lang/IllegalArgumentException" U ∧ va_Nc "java/lang/IllegalStateException" "java/lang/ArithmeticException" U
theorem q_Nc.moved {u U : State} (hvm : u.vm.Alike U.vm) (h : q_Nc u) : q_Nc U := ⟨h.1.moved hvm, h.2.1.moved hvm, h.2.2.moved hvm⟩
/-- a String constant: its object, its bytes; they lie where g says -/
def q_Ss (g : Nat → ClassId) (i : Nat) (o : String) (k : Nat) (x : String) (b : List Int32) (A : Nat → Prop) (U : State) (H : Heap) : Prop :=
  vk_R o k x (g (8 + 2 * i)) U ∧ va_O "java/lang/String" (g (8 + 2 * i)) A U H ∧ va_OF "java/lang/String" "coder" "B" (.int 0) (g (8 + 2 * i)) A U H ∧ va_OF "java/lang/String" "value" "[B" (.ref (g (9 + 2 * i))) (g (8 + 2 * i)) A U H ∧ va_T .byte (g (9 + 2 * i)) b.length (fun j => .int (b.getD j 0)) A U H
def q_St (g : Nat → ClassId) (A : Nat → Prop) (U : State) (H : Heap) : Prop :=
  (va_Z "java/lang/String" "COMPACT_STRINGS" "Z" (.int 1) A U H ∧ va_Zq "jdk/internal/util/Preconditions" "SIOOBE_FORMATTER" "Ljava/util/function/BiFunction;" A U H ∧ q_Nc U) ∧ ∀ i o k x b, q_ss[i]? = some (o, k, x, b) → q_Ss g i o k x b A U H
theorem q_St.warm {g : Nat → ClassId} {A : Nat → Prop} {u U : State} {H : Heap} (hW : u.WarmedH U.vm) (h : q_St g A u H) : q_St g A U H :=
  ⟨⟨h.1.1.moved hW.alike, h.1.2.1.moved hW.alike, h.1.2.2.moved hW.alike⟩, fun i o k x b e => by
    obtain ⟨h1, h2, h3, h4, h5⟩ := h.2 i o k x b e
    exact ⟨vk_R.warm hW h1, h2.moved hW.alike, h3.moved hW.alike, h4.moved hW.alike, h5.moved hW.alike⟩⟩
theorem q_St.kept {g : Nat → ClassId} {A : Nat → Prop} {U : State} {H H1 : Heap} (h : q_St g A U H) (hq : ∀ a : Nat, a < H.size → ¬ A a → H1[a]? = H[a]?) : q_St g A U H1 :=
  ⟨⟨h.1.1.kept hq, h.1.2.1.kept hq, h.1.2.2⟩, fun i o k x b e => by
    obtain ⟨h1, h2, h3, h4, h5⟩ := h.2 i o k x b e
    exact ⟨h1, h2.kept hq, h3.kept hq, h4.kept hq, h5.kept hq⟩⟩
theorem q_St.narrow {g : Nat → ClassId} {A B : Nat → Prop} {U : State} {H : Heap} (h : q_St g A U H) (hAB : ∀ q, B q → A q) : q_St g B U H :=
  ⟨⟨h.1.1.narrow hAB, h.1.2.1.narrow hAB, h.1.2.2⟩, fun i o k x b e => by
    obtain ⟨h1, h2, h3, h4, h5⟩ := h.2 i o k x b e
    exact ⟨h1, h2.narrow hAB, h3.narrow hAB, h4.narrow hAB, h5.narrow hAB⟩⟩
def q_Z (g : Nat → ClassId) (A : Nat → Prop) (U : State) (H : Heap) : Prop := q_Z0 A U H ∧ q_St g A U H
theorem q_Z.warm {g : Nat → ClassId} {A : Nat → Prop} {u U : State} {H : Heap} (hW : u.WarmedH U.vm) (h : q_Z g A u H) : q_Z g A U H := ⟨h.1.warm hW, h.2.warm hW⟩
theorem q_Z.kept {g : Nat → ClassId} {A : Nat → Prop} {U : State} {H H1 : Heap} (h : q_Z g A U H) (hq : ∀ a : Nat, a < H.size → ¬ A a → H1[a]? = H[a]?) : q_Z g A U H1 := ⟨h.1.kept hq, h.2.kept hq⟩
theorem q_Z.narrow {g : Nat → ClassId} {A B : Nat → Prop} {U : State} {H : Heap} (h : q_Z g A U H) (hAB : ∀ q, B q → A q) : q_Z g B U H := ⟨h.1.narrow hAB, h.2.narrow hAB⟩
/-- what a method finds: its arguments, a heap of sz cells that holds the world ws, the classes, the statics -/
def q_P (D : va_G) (g : Nat → ClassId) (av : List Value) (ws : va_W) (sz : Nat) : Array Value → State → Prop :=
  va_Pc av (fun U => U.heap.size = sz ∧ va_P D q_cl ws U.heap ∧ q_K D g U ∧ va_D (fun _ => True) ws ∧ q_Z g (va_A ws sz) U U.heap)
/-- and what it leaves -/
def q_B (D : va_G) (g : Nat → ClassId) (A : Nat → Prop) (ws : va_W) (t : State) : Prop := va_P D q_cl ws t.heap ∧ q_K D g t ∧ va_D A ws
abbrev q_w (y : MethodName) (b : ByteArray) (n : Nat) (r : Option FieldType) : List Cond := Cond.code y b n r :: q_tbl
abbrev q_rm (d mc ms : Nat) : Room := { frames := d, cells := mc, slots := ms, locals := 64 * d }
def q_mV (l : Launch) (y : MethodName) (b : ByteArray) (n d mc ms : Nat) (D : va_G) (g : Nat → ClassId) (av : List Value) (ws : va_W) (post : va_W → Prop) : Prop :=
  ∀ sz, Met l y (q_w y b n none) (q_rm d mc ms) (q_P D g av ws sz) (va_Qv post (q_B D g (va_A ws sz)) (va_A ws sz)) mc ms (va_A ws sz)
def q_mI (l : Launch) (y : MethodName) (b : ByteArray) (n : Nat) (r : FieldType) (d mc ms : Nat) (D : va_G) (g : Nat → ClassId) (av : List Value) (ws : va_W) (post : Int32 → va_W → Prop) : Prop :=
  ∀ sz, Met l y (q_w y b n (some r)) (q_rm d mc ms) (q_P D g av ws sz) (va_Qi post (q_B D g (va_A ws sz)) (va_A ws sz)) mc ms (va_A ws sz)
def q_mL (l : Launch) (y : MethodName) (b : ByteArray) (n d mc ms : Nat) (D : va_G) (g : Nat → ClassId) (av : List Value) (ws : va_W) (post : Int64 → va_W → Prop) : Prop :=
  ∀ sz, Met l y (q_w y b n (some .long)) (q_rm d mc ms) (q_P D g av ws sz) (va_Ql post (q_B D g (va_A ws sz)) (va_A ws sz)) mc ms (va_A ws sz)
/-- a reference: the world and the address -/
def q_mR (l : Launch) (y : MethodName) (b : ByteArray) (n : Nat) (r : FieldType) (d mc ms : Nat) (D : va_G) (g : Nat → ClassId) (av : List Value) (ws : va_W) (post : Nat → va_W → Prop) : Prop :=
  ∀ sz, Met l y (q_w y b n (some r)) (q_rm d mc ms) (q_P D g av ws sz) (va_Qr (fun u : Nat × va_W => post u.1 u.2) (fun u a t => a = u.1 ∧ q_B D g (va_A ws sz) u.2 t) (va_A ws sz)) mc ms (va_A ws sz)
/-- the machine inside a method -/
def q_At (p : Program) (s : State) (m : MethodId) (args : Array Value) (meth : Method) (c : Code) (y : MethodName) (b : ByteArray) (n : Nat) (r : Option FieldType) : Prop :=
  p.tables.exec = Jvm.exec ∧ c.code = b ∧ meth.sig.returnType = r ∧ c.maxLocals = n ∧ s.vm.findClass y.cls = some m.cls ∧ (∀ w ∈ q_tbl, w.before args s = true) ∧ meth.locks = false ∧ meth.name = y.name
/-- the world inside a method: all that stands of it at a heap H -/
def q_Wd (D : va_G) (g : Nat → ClassId) (A : Nat → Prop) (s : State) (ws : va_W) (H : Heap) (locs : List Loc) : Prop :=
  va_P D q_cl ws H ∧ va_D A ws ∧ va_S A s.heap H locs ∧ q_K D g s ∧ q_Z g A s s.heap ∧ ∀ q, s.heap.size ≤ q → A q
section QE
variable {l : Launch} {D : va_G} {g : Nat → ClassId}
theorem q_into {y : MethodName} {b : ByteArray} {n : Nat} {r : Option FieldType} {d mc ms : Nat} {av : List Value} {ws : va_W} {sz : Nat} {Qc : Array Value → State → Outcome → State → Prop} (hy : plainName y.cls = true) (hn : (lg_sl av).length ≤ n)
    (body : ∀ (p : Program) (e : Env) (s : State) (m : MethodId) (below : List Frame) (meth : Method) (c : Code) (ls : Array Slot), s.heap.size = sz → q_At p s m av.toArray meth c y b n r → q_Wd D g (va_A ws sz) s ws s.heap [] → lv_has ls n (lv_args 0 av) →
      W p l e (q_rm d mc ms) s m av.toArray below meth c s.heap [] 0 0 (MQ below Qc av.toArray s mc ms (va_A ws sz)) (F0 m 0 ls [])) :
    Met l y (q_w y b n r) (q_rm d mc ms) (q_P D g av ws sz) Qc mc ms (va_A ws sz) := by
  refine Met.ofW (cc := b) (maxL := n) (ret := r) hy rfl ?_
  intro p e s m args below meth c s₁ B hml hv
  obtain ⟨rfl, hsz, hP, hK, hD, hZ⟩ := hv
  have hts := atoms_spec (ws := q_w y b n r) B.pre
  have hl := lv_entry av (n := n) hn
  rw [lg_entry_eq]
  exact body p e s m below meth c _ hsz ⟨B.exec, B.bytes, B.returns, hml, findClass_of_methodNamed B.named, fun w h => hts w (List.mem_cons_of_mem _ h), B.notSynchronized, (name_of_methodNamed B.named B.method).1⟩
    ⟨hP, hD.self, va_S.rf, hK, hZ, fun q h => Or.inr (by rw [← hsz]; exact h)⟩ hl
end QE
section QR
variable {p : Program} {l : Launch} {e : Env} {R : Room} {s : State} {m : MethodId} {args : Array Value} {below : List Frame} {meth : Method} {c : Code} {H : Heap} {locs : List Loc} {cells slots : Nat} {Q : State → Prop}
variable {D : va_G} {g : Nat → ClassId} {A : Nat → Prop} {ws : va_W} {y0 : MethodName} {b0 : ByteArray} {n0 : Nat} {r0 : Option FieldType} {pc : Nat} {ls : Array Slot} {rest : List Value}
theorem q_ti {x v : Int32} (h : x = v) (k : W p l e R s m args below meth c H locs cells slots Q (F0 m pc ls (.int v :: rest))) : W p l e R s m args below meth c H locs cells slots Q (F0 m pc ls (.int x :: rest)) := h ▸ k
theorem q_tl {x v : Int64} (h : x = v) (k : W p l e R s m args below meth c H locs cells slots Q (F0 m pc ls (.long v :: rest))) : W p l e R s m args below meth c H locs cells slots Q (F0 m pc ls (.long x :: rest)) := h ▸ k
theorem q_retv {post : va_W → Prop} (C : q_At p s m args meth c y0 b0 n0 none) (V : q_Wd D g A s ws H locs) (hp : post ws) (hdg : decode b0 pc = .ok (.return_, 1)) :
    W p l e R s m args below meth c H locs cells slots (MQ below (va_Qv post (q_B D g A) A) args s cells slots A) (F0 m pc ls []) :=
  W.vret C.1 C.2.1 C.2.2.1 (fun t ht hW => ⟨⟨ws, rfl, hp, by rw [ht]; exact V.1, V.2.2.2.1.moved hW.alike, V.2.1⟩, V.2.2.1.F ht⟩) V.2.2.1.2.2 hdg C.2.2.2.2.2.2.1
theorem q_reti {post : Int32 → va_W → Prop} {v : Int32} (C : q_At p s m args meth c y0 b0 n0 (some .int)) (V : q_Wd D g A s ws H locs) (hp : post v ws) (hdg : decode b0 pc = .ok (.ireturn, 1)) :
    W p l e R s m args below meth c H locs cells slots (MQ below (va_Qi post (q_B D g A) A) args s cells slots A) (F0 m pc ls [.int v]) :=
  W.iret C.1 C.2.1 C.2.2.1 (fun t ht hW => ⟨⟨v, ws, rfl, hp, by rw [ht]; exact V.1, V.2.2.2.1.moved hW.alike, V.2.1⟩, V.2.2.1.F ht⟩) V.2.2.1.2.2 hdg C.2.2.2.2.2.2.1
theorem q_retz {post : Int32 → va_W → Prop} {v : Int32} (C : q_At p s m args meth c y0 b0 n0 (some .boolean)) (V : q_Wd D g A s ws H locs) (hn : narrow .boolean (.int v) = .int v) (hp : post v ws) (hdg : decode b0 pc = .ok (.ireturn, 1)) :
    W p l e R s m args below meth c H locs cells slots (MQ below (va_Qi post (q_B D g A) A) args s cells slots A) (F0 m pc ls [.int v]) :=
  W.zret C.1 C.2.1 C.2.2.1 hn (fun t ht hW => ⟨⟨v, ws, rfl, hp, by rw [ht]; exact V.1, V.2.2.2.1.moved hW.alike, V.2.1⟩, V.2.2.1.F ht⟩) V.2.2.1.2.2 hdg C.2.2.2.2.2.2.1
theorem q_retl {post : Int64 → va_W → Prop} {v : Int64} (C : q_At p s m args meth c y0 b0 n0 (some .long)) (V : q_Wd D g A s ws H locs) (hp : post v ws) (hdg : decode b0 pc = .ok (.lreturn, 1)) :
    W p l e R s m args below meth c H locs cells slots (MQ below (va_Ql post (q_B D g A) A) args s cells slots A) (F0 m pc ls [.long v]) :=
  W.lret C.1 C.2.1 C.2.2.1 (fun t ht hW => ⟨⟨v, ws, rfl, hp, by rw [ht]; exact V.1, V.2.2.2.1.moved hW.alike, V.2.1⟩, V.2.2.1.F ht⟩) V.2.2.1.2.2 hdg C.2.2.2.2.2.2.1
theorem q_retr {post : Nat → va_W → Prop} {v : Nat} {rt : FieldType} (C : q_At p s m args meth c y0 b0 n0 (some rt)) (V : q_Wd D g A s ws H locs) (hk : (∃ n, rt = .object n) ∨ ∃ t, rt = .array t) (hp : post v ws) (hdg : decode b0 pc = .ok (.areturn, 1)) :
    W p l e R s m args below meth c H locs cells slots (MQ below (va_Qr (fun u : Nat × va_W => post u.1 u.2) (fun u a t => a = u.1 ∧ q_B D g A u.2 t) A) args s cells slots A) (F0 m pc ls [.ref v]) :=
  W.aret C.1 C.2.1 C.2.2.1 hk (Or.inr ⟨v, rfl⟩) (fun t ht hW => ⟨⟨(v, ws), v, rfl, hp, rfl, by rw [ht]; exact V.1, V.2.2.2.1.moved hW.alike, V.2.1⟩, V.2.2.1.F ht⟩) V.2.2.1.2.2 hdg C.2.2.2.2.2.2.1
/-- lookups behind a write, behind a new cell -/
theorem q_ne {ws : va_W} {j k : Nat} {e f : Nat × va_E} (h : ws[j]? = some e) (n : j ≠ k) : (ws.set k f)[j]? = some e := by
  rw [List.getElem?_set_ne (Ne.symm n)]; exact h
theorem q_se {ws : va_W} {k : Nat} {e f : Nat × va_E} (h : ws[k]? = some e) : (ws.set k f)[k]? = some f := by
  have h1 := (List.getElem?_eq_some_iff.mp h).1
  simp [h1]
theorem q_pu {ws : va_W} {k : Nat} {e : Nat × va_E} {w2 : va_W} (h : ws[k]? = some e) : (ws ++ w2)[k]? = some e := by
  rw [List.getElem?_append_left (List.getElem?_eq_some_iff.mp h).1]; exact h
theorem q_df {ws : va_W} {j k : Nat} {a b : Nat} {x : ClassId × vp_A} {z : Nat × List Value} (h : ws[j]? = some (a, .inl x)) (h2 : ws[k]? = some (b, .inr z)) : j ≠ k := fun e => by
  subst e; rw [h] at h2; cases h2
theorem q_dc {ws : va_W} {j k : Nat} {a b : Nat} {x z : Nat × List Value} (h : ws[j]? = some (a, .inr x)) (h2 : ws[k]? = some (b, .inr z)) (n : x.1 ≠ z.1) : j ≠ k := fun e => by
  subst e; rw [h] at h2; cases h2; exact n rfl
theorem q_fr {A0 : Nat → Prop} {ws : va_W} {H0 H : Heap} {locs : List Loc} (hD : va_D A0 ws) (hS : va_S A0 H0 H locs) (hA : ∀ q, H0.size ≤ q → A0 q) : ∀ q, va_A ws H.size q → A0 q := by
  intro q h
  rcases h with ⟨k, e, hk⟩ | h
  · exact hD.2 k (q, e) hk
  · exact hA q (Nat.le_trans hS.1 h)
/-- all but the places ks are as they were -/
def q_un (ws u : va_W) (ks : List Nat) : Prop := ∀ i, i ∉ ks → u[i]? = ws[i]?
theorem q_u0 {ws : va_W} {ks : List Nat} : q_un ws ws ks := fun _ _ => rfl
theorem q_us {ws u u2 : va_W} {ks : List Nat} {k : Nat} (h : q_un ws u ks) (hu : ∀ i, i ≠ k → u2[i]? = u[i]?) (hk : k ∈ ks) : q_un ws u2 ks := fun j hj => (hu j (fun e => hj (e ▸ hk))).trans (h j hj)
theorem q_uc {ws u u2 : va_W} {ks k2 : List Nat} (h : q_un ws u ks) (hu : q_un u u2 k2) (hk : ∀ k, k ∈ k2 → k ∈ ks) : q_un ws u2 ks := fun j hj => (hu j (fun e => hj (hk j e))).trans (h j hj)
/-- a field is read; an own field is written -/
theorem q_get {C : String} {T : u_T} {N ci index : Nat} {own : String} {a : Nat} {fs : List Value} {v : Value} {k j : Nat} (C0 : q_At p s m args meth c y0 b0 n0 r0) (V : q_Wd D g A s ws H locs) (hin : ∀ w ∈ u_ws C T N, w ∈ q_tbl) (ho : y0.cls = own) (hc : q_cl[ci]? = some (C, T, N)) (he : ws[k]? = some (a, .inr (ci, fs))) (hj : j < N) (hw : Cond.fieldLink own index (T j).1 (T j).2.1 (T j).2.2.1 ∈ q_tbl) (hv : fs[j]? = some v) (hdg : decode b0 pc = .ok (.getfield index, 3))
    (kk : W p l e R s m args below meth c H locs cells slots Q (F0 m (pc + 3) ls (v :: rest))) : W p l e R s m args below meth c H locs cells slots Q (F0 m pc ls (.ref a :: rest)) :=
  va_get C0.1 C0.2.1 C0.2.2.2.2.2.1 hin (by rw [← ho]; exact C0.2.2.2.2.1) V.2.2.2.1.1 V.1 k he hc j hj (C0.2.2.2.2.2.1 _ hw) (fun _ h => h) hv hdg kk
theorem q_put {C : String} {T : u_T} {N ci index : Nat} {own : String} {a : Nat} {fs : List Value} {v : Value} {k j : Nat} {t : Nat → FieldType} {ty : FieldType} (C0 : q_At p s m args meth c y0 b0 n0 r0) (V : q_Wd D g A s ws H locs) (hin : ∀ w ∈ u_ws C T N, w ∈ q_tbl) (ht : ∀ k, k < N → parseFieldDescriptor (T k).2.2.1 = some (t k)) (hnm : ∀ a, a < N → ∀ b, b < N → a ≠ b → (T a).2.1 ≠ (T b).2.1) (ho : y0.cls = own) (hc : q_cl[ci]? = some (C, T, N)) (he : ws[k]? = some (a, .inr (ci, fs))) (hj : j < N) (hw : Cond.fieldLink own index (T j).1 (T j).2.1 (T j).2.2.1 ∈ q_tbl) (hfin : (T j).2.2.2 = false) (hty : t j = ty) (hn : narrow ty v = v) (hf : fits ty v = true) (hl : j < fs.length) (hdg : decode b0 pc = .ok (.putfield index, 3))
    (kk : ∀ (H1 : Heap) (locs1 : List Loc) (u : va_W), (∀ i, i ≠ k → u[i]? = ws[i]?) → u[k]? = some (a, .inr (ci, fs.set j v)) → q_Wd D g A s u H1 locs1 → W p l e R s m args below meth c H1 locs1 cells slots Q (F0 m (pc + 3) ls rest)) : W p l e R s m args below meth c H locs cells slots Q (F0 m pc ls (v :: .ref a :: rest)) :=
  va_put C0.1 C0.2.1 C0.2.2.2.2.2.1 hin t ht hnm (by rw [← ho]; exact C0.2.2.2.2.1) V.2.2.2.1.1 V.1 V.2.1 V.2.2.1 k he hc j hj (C0.2.2.2.2.2.1 _ hw) (fun _ h => h) hfin (by rw [← hty]; exact ht j hj) hn hf hl hdg
    (fun H1 locs1 h1 h2 h3 => kk H1 locs1 _ (fun i hi => List.getElem?_set_ne (Ne.symm hi)) (q_se he) ⟨h1, h2, h3, V.2.2.2.1, V.2.2.2.2.1, V.2.2.2.2.2⟩)
theorem q_putF {C : String} {T : u_T} {N ci index : Nat} {own : String} {a : Nat} {fs : List Value} {v : Value} {k j : Nat} {t : Nat → FieldType} {ty : FieldType} (C0 : q_At p s m args meth c y0 b0 n0 r0) (V : q_Wd D g A s ws H locs) (hin : ∀ w ∈ u_ws C T N, w ∈ q_tbl) (ht : ∀ k, k < N → parseFieldDescriptor (T k).2.2.1 = some (t k)) (hnm : ∀ a, a < N → ∀ b, b < N → a ≠ b → (T a).2.1 ≠ (T b).2.1) (ho : y0.cls = own) (hi : y0.name = "<init>") (hoT : (T j).1 = own) (hfin : (T j).2.2.2 = true) (hc : q_cl[ci]? = some (C, T, N)) (he : ws[k]? = some (a, .inr (ci, fs))) (hj : j < N) (hw : Cond.fieldLink own index (T j).1 (T j).2.1 (T j).2.2.1 ∈ q_tbl) (hty : t j = ty) (hn : narrow ty v = v) (hf : fits ty v = true) (hl : j < fs.length) (hdg : decode b0 pc = .ok (.putfield index, 3))
    (kk : ∀ (H1 : Heap) (locs1 : List Loc) (u : va_W), (∀ i, i ≠ k → u[i]? = ws[i]?) → u[k]? = some (a, .inr (ci, fs.set j v)) → q_Wd D g A s u H1 locs1 → W p l e R s m args below meth c H1 locs1 cells slots Q (F0 m (pc + 3) ls rest)) : W p l e R s m args below meth c H locs cells slots Q (F0 m pc ls (v :: .ref a :: rest)) :=
  va_putF C0.1 C0.2.1 C0.2.2.2.2.2.1 hin t ht hnm (by rw [← ho]; exact C0.2.2.2.2.1) V.2.2.2.1.1 V.1 V.2.1 V.2.2.1 k he hc j hj (C0.2.2.2.2.2.1 _ hw) (fun _ h => h) hfin (C0.2.2.2.2.2.2.2.trans hi) hoT (by rw [← hty]; exact ht j hj) hn hf hl hdg
    (fun H1 locs1 h1 h2 h3 => kk H1 locs1 _ (fun i hi => List.getElem?_set_ne (Ne.symm hi)) (q_se he) ⟨h1, h2, h3, V.2.2.2.1, V.2.2.2.2.1, V.2.2.2.2.2⟩)
end QR
