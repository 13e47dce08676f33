/-! methods that may throw: the form of their contracts, their calls, the way out, the catch -/
/-- an exception q of the class E has left the method; u is the world behind it -/
def q_thr (D : va_G) (g : Nat → ClassId) (A : Nat → Prop) (px : String → va_W → Prop) (mc ms : Nat) (st : State) (o : Outcome) (t : State) : Prop :=
  ∃ (q : Nat) (E : String) (ce : Cell) (u : va_W) (L : List Loc), o = .threw q ∧ px E u ∧ q_B D g A u t ∧ va_F A st t ∧ t.heap[q]? = some ce ∧ ce.vm = .none ∧ st.vm.findClass E = some ce.cls ∧ st.WarmedH t.vm ∧ st.sameButNew ({ t with vm := st.vm } : State) L mc ms ∧ ∀ z ∈ L, A z.base
def q_or (Qc : Array Value → State → Outcome → State → Prop) (D : va_G) (g : Nat → ClassId) (A : Nat → Prop) (px : String → va_W → Prop) (mc ms : Nat) : Array Value → State → Outcome → State → Prop := fun a st o t =>
  (Qc a st o t ∧ ∃ L, FrameEnd st o t L mc ms ∧ ∀ q ∈ L, A q.base) ∨ q_thr D g A px mc ms st o t
/-- a contract with two ends -/
def q_Mx (l : Launch) (y : MethodName) (b : ByteArray) (n : Nat) (r : Option FieldType) (d mc ms : Nat) (D : va_G) (g : Nat → ClassId) (av : List Value) (ws : va_W) (sz : Nat) (Qc : Array Value → State → Outcome → State → Prop) (px : String → va_W → Prop) : Prop :=
  MetFree l y (headSpec (q_w y b n r) (q_rm d mc ms)) (q_P D g av ws sz) (fun _ _ _ _ _ => True) (q_or Qc D g (va_A ws sz) px mc ms)
def q_xV (l : Launch) (y : MethodName) (b : ByteArray) (n d mc ms : Nat) (D : va_G) (g : Nat → ClassId) (av : List Value) (ws : va_W) (post : va_W → Prop) (px : String → va_W → Prop) : Prop :=
  ∀ sz, q_Mx l y b n none d mc ms D g av ws sz (va_Qv post (q_B D g (va_A ws sz)) (va_A ws sz)) px
def q_xI (l : Launch) (y : MethodName) (b : ByteArray) (n : Nat) (r : FieldType) (d mc ms : Nat) (D : va_G) (g : Nat → ClassId) (av : List Value) (ws : va_W) (post : Int32 → va_W → Prop) (px : String → va_W → Prop) : Prop :=
  ∀ sz, q_Mx l y b n (some r) d mc ms D g av ws sz (va_Qi post (q_B D g (va_A ws sz)) (va_A ws sz)) px
def q_xL (l : Launch) (y : MethodName) (b : ByteArray) (n d mc ms : Nat) (D : va_G) (g : Nat → ClassId) (av : List Value) (ws : va_W) (post : Int64 → va_W → Prop) (px : String → va_W → Prop) : Prop :=
  ∀ sz, q_Mx l y b n (some .long) d mc ms D g av ws sz (va_Ql post (q_B D g (va_A ws sz)) (va_A ws sz)) px
/-- what a body owes at its end -/
def q_MQX (below : List Frame) (Qc : Array Value → State → Outcome → State → Prop) (D : va_G) (g : Nat → ClassId) (A : Nat → Prop) (px : String → va_W → Prop) (a : Array Value) (s : State) (mc ms : Nat) : State → Prop := fun t =>
  ∃ o, t.status = .running ∧ Ended t below o ∧ q_or Qc D g A px mc ms a s o t
section QXE
variable {l : Launch} {D : va_G} {g : Nat → ClassId}
theorem q_intoX {y : MethodName} {b : ByteArray} {n : Nat} {r : Option FieldType} {d mc ms : Nat} {av : List Value} {ws : va_W} {sz : Nat} {Qc : Array Value → State → Outcome → State → Prop} {px : String → va_W → Prop} (hy : plainName y.cls = true) (hn : (lg_sl av).length ≤ n)
    (body : ∀ (p : Program) (e : Env) (s : State) (m : MethodId) (below : List Frame) (meth : Method) (c : Code) (ls : Array Slot), s.heap.size = sz → q_At p s m av.toArray meth c y b n r → q_Wd D g (va_A ws sz) s ws s.heap [] → c.exceptionTable.isEmpty = true → lv_has ls n (lv_args 0 av) →
      W p l e (q_rm d mc ms) s m av.toArray below meth c s.heap [] 0 0 (q_MQX below Qc D g (va_A ws sz) px av.toArray s mc ms) (F0 m 0 ls [])) :
    q_Mx l y b n r d mc ms D g av ws sz Qc px := by
  refine MetFree.of_bodyS (code := b) (maxLocals := n) (ret := r) hy ?_ ?_
  · intro args s m h hnm
    obtain ⟨meth, c, h1, h2, h3, h4, h5, h6, -, -⟩ := Cond.code_spec hnm (atoms_spec (ws := q_w y b n r) h _ List.mem_cons_self)
    exact ⟨meth, c, h1, h2, h3, h4, h5, h6⟩
  · intro p e s m args below meth c s₁ B hml hv _
    obtain ⟨rfl, hsz, hP, hK, hD, hZ⟩ := hv
    have hts := atoms_spec (ws := q_w y b n r) B.pre
    have hh0 : s₁.heap = s.heap := by rw [B.state]; rfl
    have hl := lv_entry av (n := n) hn
    have K := body p e s m below meth c _ hsz ⟨B.exec, B.bytes, B.returns, hml, findClass_of_methodNamed B.named, fun w h => hts w (List.mem_cons_of_mem _ h), B.notSynchronized, (name_of_methodNamed B.named B.method).1⟩
      ⟨hP, hD.self, va_S.rf, hK, hZ, fun q h => Or.inr (by rw [← hsz]; exact h)⟩ (B.noHandlers (hts _ List.mem_cons_self)) hl
    rw [← lg_entry_eq] at K
    obtain ⟨t, a1, o, b1, b2, b3⟩ := K s₁ hh0 (Stand.of_body B)
    exact ⟨t, o, a1, b1, b2, b3⟩
end QXE
section QX
variable {p : Program} {l : Launch} {e : Env} {R : Room} {s : State} {m : MethodId} {args : Array Value} {below : List Frame} {meth : Method} {c : Code} {H : Heap} {locs : List Loc} {cells slots : Nat} {Q : State → Prop}
variable {D : va_G} {g : Nat → ClassId} {A : Nat → Prop} {ws : va_W} {y0 : MethodName} {b0 : ByteArray} {n0 : Nat} {r0 : Option FieldType} {pc : Nat} {ls : Array Slot} {rest st0 As : List Value}
variable {own : String} {index : Nat} {y : MethodName} {b : ByteArray} {n k d mc ms : Nat} {r : Option FieldType} {Qc : Array Value → State → Outcome → State → Prop} {px : String → va_W → Prop}
/-- the frame f, and q thrown over it -/
def q_WT (p : Program) (l : Launch) (e : Env) (R : Room) (s : State) (m : MethodId) (args : Array Value) (below : List Frame) (meth : Method) (c : Code) (H : Heap) (locs : List Loc) (cells slots : Nat) (Q : State → Prop) (f : JFrame) (q : Nat) : Prop :=
  ∀ T : State, T.heap = H → Stand p l e R s m args below meth c T locs cells slots → ∃ t, Steps p.tables e below ((T.setTop f).pushFrame (.throwing q)) t ∧ Q t
/-- a return, where a throw might have been -/
theorem q_retX {f : JFrame} (h : W p l e R s m args below meth c H locs cells slots (MQ below Qc args s mc ms A) f) : W p l e R s m args below meth c H locs cells slots (q_MQX below Qc D g A px args s mc ms) f := fun T hT X => by
  obtain ⟨t, a1, o, b1, b2, b3⟩ := h T hT X
  exact ⟨t, a1, o, b1, b2, Or.inl b3⟩
/-- nothing catches it here -/
theorem q_outT {E : String} {ce : Cell} {q : Nat} (hno : c.exceptionTable.isEmpty = true) (C0 : q_At p s m args meth c y0 b0 n0 r0) (V : q_Wd D g A s ws H locs) (hp : px E ws) (hcell : H[q]? = some ce) (hv : ce.vm = .none) (hcl : s.vm.findClass E = some ce.cls) (hc : cells ≤ mc) (hs : slots ≤ ms) :
    q_WT p l e R s m args below meth c H locs cells slots (q_MQX below Qc D g A px args s mc ms) (F0 m pc ls rest) q := by
  intro T hT X
  have hnil : c.exceptionTable.toList = [] := by
    have := Array.isEmpty_iff.mp hno
    rw [this]
  obtain ⟨st1, hrun, hend, hW, hsm⟩ := X.leaveThrown q (g := F0 m pc ls rest) rfl rfl rfl (by rw [hnil]; intro x hx; cases hx) C0.2.2.2.2.2.2.1
  have hh : (T.setFrames (.throwing q :: below)).heap = H := hT
  exact ⟨_, st1, .threw q, hrun, hend, Or.inr ⟨q, E, ce, ws, locs, rfl, hp, ⟨by rw [hh]; exact V.1, V.2.2.2.1.moved hW.alike, V.2.1⟩, V.2.2.1.F hh, by rw [hh]; exact hcell, hv, hcl, hW, hsm.mono hc hs, V.2.2.1.2.2⟩⟩
/-- a callee that may throw, from the invoking step on -/
theorem q_core {av : List Value} {U : State} {f : JFrame} {ig : Instr} {mk : MethodId} (hM : q_Mx l y b n r d mc ms D g av ws H.size Qc px) (X : Stand p l e R s m args below meth c U locs cells slots) (hg : f.method = m) (hsize : f.locals.size = c.maxLocals) (hdg : decode c.code f.pc = .ok (ig, 3)) (hW8 : 2 * f.monitorRoom + (f.stack.map fun v => v.category).sum ≤ 8) (hn : U.methodNamed? y = some mk)
    (hws : ∀ w ∈ q_w y b n r, w.before av.toArray U = true) (hini : (Cond.initialized y.cls).before av.toArray U = true) (hP : q_P D g av ws H.size av.toArray U) (hR : d + 1 ≤ R.frames ∧ 8 + (n + 11) + 64 * d ≤ R.locals) (hf : cells + mc ≤ R.cells ∧ slots + ms ≤ R.slots) :
    (∃ (v : Option Value) (t T' : State) (L : List Loc), Stand p l e R s m args below meth c T' (locs ++ L) (cells + mc) (slots + ms) ∧ T'.heap = t.heap ∧ T'.vm = t.vm ∧ Qc av.toArray (U.calling f mk av.toArray) (.returned v) t ∧ (∀ q ∈ L, va_A ws H.size q.base) ∧
      Steps p.tables e below (doInvoke e (U.setTop f) [] mk av.toArray).1 (T'.setTop { f with pc := f.pc + 3, stack := v.toList ++ f.stack })) ∨
    (∃ (q : Nat) (E : String) (ce : Cell) (u : va_W) (t T' : State) (L : List Loc), Stand p l e R s m args below meth c T' (locs ++ L) (cells + mc) (slots + ms) ∧ T'.heap = t.heap ∧ T'.vm = t.vm ∧ px E u ∧ q_B D g (va_A ws H.size) u t ∧ va_F (va_A ws H.size) (U.calling f mk av.toArray) t ∧ t.heap[q]? = some ce ∧ ce.vm = .none ∧ U.vm.findClass E = some ce.cls ∧ (∀ q ∈ L, va_A ws H.size q.base) ∧
      Steps p.tables e below (doInvoke e (U.setTop f) [] mk av.toArray).1 ((T'.setTop f).pushFrame (.throwing q))) := by
  have hcode : (Cond.code y b n r).before av.toArray U = true := hws _ List.mem_cons_self
  obtain ⟨methY, cY, hmY, hcY, -, hlY, -, -, -, -⟩ := Cond.code_spec hn hcode
  obtain ⟨kY, hkY, -⟩ := className_of_methodNamed hn
  have hinitY : kY.init = .initialized := Cond.initialized_spec (findClass_of_methodNamed hn) hkY hini
  have h : At U f.method c below := by rw [hg]; exact X.here
  have happ : (headSpec (q_w y b n r) (q_rm d mc ms)).appliesLoose y e.platform (U.calling f mk av.toArray) = true :=
    Spec.appliesLoose_calling (g := f) h hdg hn hkY hinitY
      (X.room_calling (g := f) (R' := q_rm d mc ms) hsize hmY hcY hR.1 (by rw [hlY]; have := hR.2; show _ + (n + 11) + 64 * d ≤ _; omega) hf.1 hf.2) (atoms_intro hws)
  obtain ⟨mid, hmid⟩ := h.above
  have hfr : (U.setTop f).frames = (.java f :: mid) ++ below := by rw [State.frames_setTop' f h.top, hmid]; rfl
  obtain ⟨o, s₂, hsteps, -, hend, hq⟩ := Steps.callFree hM p X.admits X.cas X.clock (acts := []) hfr happ (q_blind _ _ f mk hP) trivial
  have hft : (U.setTop f).frames = .java f :: below := by rw [State.frames_setTop' f h.top, X.tail]
  rw [hft] at hend
  rcases hq with ⟨hqc, L, hfe, hL⟩ | ⟨q, E, ce, u, L, rfl, hp, hB, hF, hce, hcv, hcl, hW₂, hsm, hL⟩
  · obtain ⟨⟨v, rfl⟩, hW₂, hsm⟩ := hfe
    obtain ⟨T', X', hW', hS', rfl⟩ := X.outOf hg hdg hend hW₂ hsm
    exact Or.inl ⟨v, T'.setTop { f with pc := f.pc + 3, stack := v.toList ++ f.stack }, T', L, X', rfl, rfl, hqc, hL, hsteps⟩
  · obtain ⟨T', X', hW', hS', rfl⟩ := X.outOfThrown hg hend hW₂ hsm
    exact Or.inr ⟨q, E, ce, u, (T'.setTop f).pushFrame (.throwing q), T', L, X', rfl, rfl, hp, hB, hF, hce, hcv, hcl, hL, hsteps⟩
/-- the run of a callee that may throw -/
def q_RunX (p : Program) (l : Launch) (e : Env) (R : Room) (s : State) (m : MethodId) (args : Array Value) (below : List Frame) (meth : Method) (c : Code) (H : Heap) (locs : List Loc) (cells slots mc ms : Nat) (f : JFrame) (rest : List Value) (Qa : State → Outcome → State → Prop) (D : va_G) (g : Nat → ClassId) (A : Nat → Prop) (px : String → va_W → Prop) : Prop :=
  ∀ T : State, T.heap = H → Stand p l e R s m args below meth c T locs cells slots →
    (∃ (v : Option Value) (st t T' : State) (L : List Loc), st.heap = H ∧ Stand p l e R s m args below meth c T' (locs ++ L) (cells + mc) (slots + ms) ∧ (∀ q ∈ L, A q.base) ∧ T'.heap = t.heap ∧ T'.vm = t.vm ∧ Qa st (.returned v) t ∧
      ∀ tg, Steps p.tables e below (T'.setTop { f with pc := f.pc + 3, stack := v.toList ++ rest }) tg → Steps p.tables e below (T.setTop f) tg) ∨
    (∃ (q : Nat) (E : String) (ce : Cell) (u : va_W) (st t T' : State) (L : List Loc), st.heap = H ∧ Stand p l e R s m args below meth c T' (locs ++ L) (cells + mc) (slots + ms) ∧ (∀ z ∈ L, A z.base) ∧ T'.heap = t.heap ∧ T'.vm = t.vm ∧ px E u ∧ q_B D g A u t ∧ va_F A st t ∧ t.heap[q]? = some ce ∧ ce.vm = .none ∧ s.vm.findClass E = some ce.cls ∧
      ∀ tg, Steps p.tables e below ((T'.setTop { f with stack := rest }).pushFrame (.throwing q)) tg → Steps p.tables e below (T.setTop f) tg)
theorem q_words (C0 : q_At p s m args meth c y0 b0 n0 r0) (h1 : Cond.code y b n r ∈ q_tbl) {U : State} (hW : s.WarmedH U.vm) {a' : Array Value} : ∀ w ∈ q_w y b n r, w.before a' U = true := fun w hw => pay_in C0.2.2.2.2.2.1 (q_gw h1) w hw a' U hW
theorem q_runSX (C0 : q_At p s m args meth c y0 b0 n0 r0) (V : q_Wd D g A s ws H locs) (ho : y0.cls = own) (L : q_LS own index y b n r k) (hM : q_Mx l y b n r d mc ms D g As ws H.size Qc px) (hn : As.length = k) (hsz : ls.size = n0) (hst : st0 = As.reverse ++ rest) (hcat : (rest.map fun v => v.category).sum ≤ 8) (hR : d + 1 ≤ R.frames ∧ 8 + (n + 11) + 64 * d ≤ R.locals) (hf : cells + mc ≤ R.cells ∧ slots + ms ≤ R.slots) (hdg : decode b0 pc = .ok (.invokestatic index, 3)) :
    q_RunX p l e R s m args below meth c H locs cells slots mc ms (F0 m pc ls st0) rest (Qc As.toArray) D g (va_A ws H.size) px := by
  intro T hT X
  have hts := C0.2.2.2.2.2.1
  have hown : s.vm.findClass own = some m.cls := by rw [← ho]; exact C0.2.2.2.2.1
  have hcode := hts _ L.1
  obtain ⟨mk, hnamed⟩ := Cond.code_named hcode
  obtain ⟨methM, cM, hmethM, -, -, -, -, -, -, hsigM⟩ := Cond.code_spec hnamed hcode
  have hstatic : methM.isStatic = true := Cond.static_spec hnamed hmethM (hts _ L.2.2.2.1)
  obtain ⟨kP, hkP, -⟩ := className_of_methodNamed hnamed
  have hinitP : kP.init = .initialized := Cond.initialized_spec (findClass_of_methodNamed hnamed) hkP (hts _ L.2.1)
  have hlen : As.length = methM.sig.parameters.length := by
    have h2 := L.2.2.2.2.2.2
    rw [hsigM] at h2
    rw [hn]
    exact (Option.some.inj h2).symm
  obtain ⟨vm₁, X₁, st1⟩ := X.invokestatic C0.1 hown (hts _ L.2.2.1) hnamed hmethM hstatic hkP hinitP ⟨L.2.2.2.2.1, L.2.2.2.2.2.1⟩ (g := F0 m pc ls st0) rfl (argsL := As) (rest := rest) hlen hst (by rw [C0.2.1]; exact hdg)
  have hini : (Cond.initialized y.cls).before As.toArray (T.setVm vm₁) = true := q_words C0 L.1 X₁.warmed _ (List.mem_cons_of_mem _ L.2.1)
  rcases q_core hM X₁ (f := F0 m pc ls rest) rfl (hsz.trans C0.2.2.2.1.symm) (by rw [C0.2.1]; exact hdg) (lv_room hcat) (X₁.named hnamed) (q_words C0 L.1 X₁.warmed) hini (q_pre V (T.setVm vm₁) hT X₁.warmed) hR hf with ⟨v, t, T', L', X', e1, e2, hq, hL, st⟩ | ⟨q, E, ce, u, t, T', L', X', e1, e2, hp, hB, hF, hce, hcv, hcl, hL, st⟩
  · exact Or.inl ⟨v, (T.setVm vm₁).calling (F0 m pc ls rest) mk As.toArray, t, T', L', hT, X', hL, e1, e2, hq, fun tg h => st1 _ fun acts => by rw [doInvoke_state]; exact st.trans h⟩
  · have hcl' : s.vm.findClass E = some ce.cls := by
      rw [X₁.warmed.alike.findClass] at hcl
      exact hcl
    exact Or.inr ⟨q, E, ce, u, (T.setVm vm₁).calling (F0 m pc ls rest) mk As.toArray, t, T', L', hT, X', hL, e1, e2, hp, hB, hF, hce, hcv, hcl', fun tg h => st1 _ fun acts => by rw [doInvoke_state]; exact st.trans h⟩
theorem q_runVX {a j ci : Nat} {fs : List Value} {q : vw_C} (C0 : q_At p s m args meth c y0 b0 n0 r0) (V : q_Wd D g A s ws H locs) (ho : y0.cls = own) (L : q_LV own index y b n r k) (hM : q_Mx l y b n r d mc ms D g (.ref a :: As) ws H.size Qc px) (hc : q_cl[ci]? = some q) (hq : q.1 = y.cls) (he : ws[j]? = some (a, .inr (ci, fs))) (hn : As.length = k) (hsz : ls.size = n0) (hst : st0 = As.reverse ++ .ref a :: rest) (hcat : (rest.map fun v => v.category).sum ≤ 8) (hR : d + 1 ≤ R.frames ∧ 8 + (n + 11) + 64 * d ≤ R.locals) (hf : cells + mc ≤ R.cells ∧ slots + ms ≤ R.slots) (hdg : decode b0 pc = .ok (.invokevirtual index, 3)) :
    q_RunX p l e R s m args below meth c H locs cells slots mc ms (F0 m pc ls st0) rest (Qc (Value.ref a :: As).toArray) D g (va_A ws H.size) px := by
  intro T hT X
  have hts := C0.2.2.2.2.2.1
  have hown : s.vm.findClass own = some m.cls := by rw [← ho]; exact C0.2.2.2.2.1
  have hcode := hts _ L.1
  have hy : y.cls ≠ "java/lang/invoke/MethodHandle" ∧ y.cls ≠ "java/lang/invoke/VarHandle" := ⟨L.2.2.2.2.2.1, L.2.2.2.2.2.2.1⟩
  obtain ⟨cellB, hcB, hoB, hclB⟩ := va_recv V.2.2.2.1.1 V.1 hc he
  rw [hq] at hclB
  obtain ⟨mk, methM, hnamed, hmethM, hstM, habM⟩ := Cond.instanceMethod_spec (hts _ L.2.2.2.1)
  obtain ⟨methM', cM, hmethM', -, -, -, -, -, -, hsigM⟩ := Cond.code_spec hnamed hcode
  cases hmethM.symm.trans hmethM'
  obtain ⟨c2, r2, m2, q1, q2, q3, q4, kP, hkP, hkPi⟩ := Cond.selects_spec (hts _ L.2.2.2.2.1)
  cases hclB.symm.trans q1
  cases (State.methodFound?_of_named hnamed hy).symm.trans q2
  cases hnamed.symm.trans q3
  have hselP : selectMethod e.platform s.vm cellB.cls mk = .method mk := by rw [Launch.admits_selectMethod X.admits]; exact q4
  have hlen : As.length = methM.sig.parameters.length := by
    have h2 := L.2.2.2.2.2.2.2
    rw [hsigM] at h2
    rw [hn]
    exact (Option.some.inj h2).symm
  obtain ⟨vm₁, X₁, st1⟩ := X.invokevirtual C0.1 hown (hts _ L.2.2.1) hnamed hmethM hstM hkP hkPi hy (a := a) (cell := cellB) (by rw [hT]; exact hcB)
    (fun z h => by rw [h] at hoB; cases hoB) hselP hmethM habM hkP hkPi (g := F0 m pc ls st0) rfl (argsL := As) (rest := rest) hlen hst (by rw [C0.2.1]; exact hdg)
  have hini : (Cond.initialized y.cls).before (Value.ref a :: As).toArray (T.setVm vm₁) = true := q_words C0 L.1 X₁.warmed _ (List.mem_cons_of_mem _ L.2.1)
  rcases q_core hM X₁ (f := F0 m pc ls rest) rfl (hsz.trans C0.2.2.2.1.symm) (by rw [C0.2.1]; exact hdg) (lv_room hcat) (X₁.named hnamed) (q_words C0 L.1 X₁.warmed) hini (q_pre V (T.setVm vm₁) hT X₁.warmed) hR hf with ⟨v, t, T', L', X', e1, e2, hq', hL, st⟩ | ⟨q', E, ce, u, t, T', L', X', e1, e2, hp, hB, hF, hce, hcv, hcl, hL, st⟩
  · exact Or.inl ⟨v, (T.setVm vm₁).calling (F0 m pc ls rest) mk (Value.ref a :: As).toArray, t, T', L', hT, X', hL, e1, e2, hq', fun tg h => st1 _ fun acts => by rw [doInvoke_state]; exact st.trans h⟩
  · have hcl' : s.vm.findClass E = some ce.cls := by
      rw [X₁.warmed.alike.findClass] at hcl
      exact hcl
    exact Or.inr ⟨q', E, ce, u, (T.setVm vm₁).calling (F0 m pc ls rest) mk (Value.ref a :: As).toArray, t, T', L', hT, X', hL, e1, e2, hp, hB, hF, hce, hcv, hcl', fun tg h => st1 _ fun acts => by rw [doInvoke_state]; exact st.trans h⟩
/-- behind it: the two roads -/
theorem q_frS {A1 : Nat → Prop} {st t T' : State} {L : List Loc} (V : q_Wd D g A s ws H locs) (hA : ∀ q, A1 q → A q) (h0 : st.heap = H) (e1 : T'.heap = t.heap) (hL : ∀ q ∈ L, A1 q.base) (hF : va_F A1 st t) : va_S A s.heap T'.heap (locs ++ L) := by
  obtain ⟨hz, hk⟩ := hF
  rw [h0] at hz hk
  obtain ⟨hP, hD, hS, hK, hZ, hA0⟩ := V
  refine ⟨Nat.le_trans hS.1 (by rw [e1]; exact hz), fun q h1 h2 => ?_, fun q hq => ?_⟩
  · rw [e1, hk q (Nat.lt_of_lt_of_le h1 hS.1) (fun z => h2 (hA q z))]
    exact hS.2.1 q h1 h2
  · rcases List.mem_append.mp hq with h | h
    · exact hS.2.2 q h
    · exact hA _ (hL q h)
theorem q_goxT {f : JFrame} {Qa : State → Outcome → State → Prop} (V : q_Wd D g A s ws H locs) (hr : q_RunX p l e R s m args below meth c H locs cells slots mc ms f rest Qa D g (va_A ws H.size) px)
    (kn : ∀ (v : Option Value) (st t T' : State) (L : List Loc), st.heap = H → Stand p l e R s m args below meth c T' (locs ++ L) (cells + mc) (slots + ms) → (∀ q ∈ L, va_A ws H.size q.base) → T'.heap = t.heap → T'.vm = t.vm → Qa st (.returned v) t → ∃ tg, Steps p.tables e below (T'.setTop { f with pc := f.pc + 3, stack := v.toList ++ rest }) tg ∧ Q tg)
    (kx : ∀ (q : Nat) (E : String) (ce : Cell) (u : va_W) (H1 : Heap) (locs1 : List Loc), px E u → q_Wd D g A s u H1 locs1 → H1[q]? = some ce → ce.vm = .none → s.vm.findClass E = some ce.cls → q_WT p l e R s m args below meth c H1 locs1 (cells + mc) (slots + ms) Q { f with stack := rest } q) :
    W p l e R s m args below meth c H locs cells slots Q f := by
  intro T hT X
  have hA := q_fr V.2.1 V.2.2.1 V.2.2.2.2.2
  rcases hr T hT X with ⟨v, st, t, T', L, h0, X', hL, e1, e2, hq, stp⟩ | ⟨q, E, ce, u, st, t, T', L, h0, X', hL, e1, e2, hp, hB, hF, hce, hcv, hcl, stp⟩
  · obtain ⟨tg, a1, b1⟩ := kn v st t T' L h0 X' hL e1 e2 hq
    exact ⟨tg, stp tg a1, b1⟩
  · obtain ⟨tg, a1, b1⟩ := kx q E ce u T'.heap (locs ++ L) hp ⟨by rw [e1]; exact hB.1, hB.2.2.weaken (fun _ z _ h => hA z.1 h), q_frS V hA h0 e1 hL hF, V.2.2.2.1, V.2.2.2.2.1, V.2.2.2.2.2⟩ (by rw [e1]; exact hce) hcv hcl T' rfl X'
    exact ⟨tg, stp tg a1, b1⟩
theorem q_goxv {a : Array Value} {post : va_W → Prop} (V : q_Wd D g A s ws H locs) (hr : q_RunX p l e R s m args below meth c H locs cells slots mc ms (F0 m pc ls st0) rest (va_Qv post (q_B D g (va_A ws H.size)) (va_A ws H.size) a) D g (va_A ws H.size) px)
    (kx : ∀ (q : Nat) (E : String) (ce : Cell) (u : va_W) (H1 : Heap) (locs1 : List Loc), px E u → q_Wd D g A s u H1 locs1 → H1[q]? = some ce → ce.vm = .none → s.vm.findClass E = some ce.cls → q_WT p l e R s m args below meth c H1 locs1 (cells + mc) (slots + ms) Q (F0 m pc ls rest) q)
    (kk : ∀ (ws1 : va_W) (H1 : Heap) (locs1 : List Loc), post ws1 → q_Wd D g A s ws1 H1 locs1 → W p l e R s m args below meth c H1 locs1 (cells + mc) (slots + ms) Q (F0 m (pc + 3) ls rest)) : W p l e R s m args below meth c H locs cells slots Q (F0 m pc ls st0) := by
  have hA := q_fr V.2.1 V.2.2.1 V.2.2.2.2.2
  refine q_goxT V hr (fun v st t T' L h0 X' hL e1 e2 hq => ?_) kx
  obtain ⟨⟨u, hv, hp, hB⟩, hF⟩ := hq
  cases hv
  exact kk u T'.heap (locs ++ L) hp ⟨by rw [e1]; exact hB.1, hB.2.2.weaken (fun _ z _ h => hA z.1 h), q_frS V hA h0 e1 hL hF, V.2.2.2.1, V.2.2.2.2.1, V.2.2.2.2.2⟩ T' rfl X'
theorem q_goxi {a : Array Value} {post : Int32 → va_W → Prop} (V : q_Wd D g A s ws H locs) (hr : q_RunX p l e R s m args below meth c H locs cells slots mc ms (F0 m pc ls st0) rest (va_Qi post (q_B D g (va_A ws H.size)) (va_A ws H.size) a) D g (va_A ws H.size) px)
    (kx : ∀ (q : Nat) (E : String) (ce : Cell) (u : va_W) (H1 : Heap) (locs1 : List Loc), px E u → q_Wd D g A s u H1 locs1 → H1[q]? = some ce → ce.vm = .none → s.vm.findClass E = some ce.cls → q_WT p l e R s m args below meth c H1 locs1 (cells + mc) (slots + ms) Q (F0 m pc ls rest) q)
    (kk : ∀ (v : Int32) (ws1 : va_W) (H1 : Heap) (locs1 : List Loc), post v ws1 → q_Wd D g A s ws1 H1 locs1 → W p l e R s m args below meth c H1 locs1 (cells + mc) (slots + ms) Q (F0 m (pc + 3) ls (.int v :: rest))) : W p l e R s m args below meth c H locs cells slots Q (F0 m pc ls st0) := by
  have hA := q_fr V.2.1 V.2.2.1 V.2.2.2.2.2
  refine q_goxT V hr (fun v st t T' L h0 X' hL e1 e2 hq => ?_) kx
  obtain ⟨⟨r, u, hv, hp, hB⟩, hF⟩ := hq
  cases hv
  exact kk r u T'.heap (locs ++ L) hp ⟨by rw [e1]; exact hB.1, hB.2.2.weaken (fun _ z _ h => hA z.1 h), q_frS V hA h0 e1 hL hF, V.2.2.2.1, V.2.2.2.2.1, V.2.2.2.2.2⟩ T' rfl X'
theorem q_goxl {a : Array Value} {post : Int64 → va_W → Prop} (V : q_Wd D g A s ws H locs) (hr : q_RunX p l e R s m args below meth c H locs cells slots mc ms (F0 m pc ls st0) rest (va_Ql post (q_B D g (va_A ws H.size)) (va_A ws H.size) a) D g (va_A ws H.size) px)
    (kx : ∀ (q : Nat) (E : String) (ce : Cell) (u : va_W) (H1 : Heap) (locs1 : List Loc), px E u → q_Wd D g A s u H1 locs1 → H1[q]? = some ce → ce.vm = .none → s.vm.findClass E = some ce.cls → q_WT p l e R s m args below meth c H1 locs1 (cells + mc) (slots + ms) Q (F0 m pc ls rest) q)
    (kk : ∀ (v : Int64) (ws1 : va_W) (H1 : Heap) (locs1 : List Loc), post v ws1 → q_Wd D g A s ws1 H1 locs1 → W p l e R s m args below meth c H1 locs1 (cells + mc) (slots + ms) Q (F0 m (pc + 3) ls (.long v :: rest))) : W p l e R s m args below meth c H locs cells slots Q (F0 m pc ls st0) := by
  have hA := q_fr V.2.1 V.2.2.1 V.2.2.2.2.2
  refine q_goxT V hr (fun v st t T' L h0 X' hL e1 e2 hq => ?_) kx
  obtain ⟨⟨r, u, hv, hp, hB⟩, hF⟩ := hq
  cases hv
  exact kk r u T'.heap (locs ++ L) hp ⟨by rw [e1]; exact hB.1, hB.2.2.weaken (fun _ z _ h => hA z.1 h), q_frS V hA h0 e1 hL hF, V.2.2.2.1, V.2.2.2.2.1, V.2.2.2.2.2⟩ T' rfl X'
end QX
