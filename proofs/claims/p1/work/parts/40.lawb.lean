/-! methods with an exception table: their contracts, their calls, their catch -/
abbrev q_wW (y : MethodName) (b : ByteArray) (n : Nat) (r : Option FieldType) (hh : List (Nat × Nat × Nat × Nat)) : List Cond := Cond.codeWith y b n r hh :: q_tbl
def q_ex (h : ExceptionTableEntry) : Nat × Nat × Nat × Nat := (h.startPc, h.endPc, h.handlerPc, h.catchType)
def q_LW (own : String) (index : Nat) (y : MethodName) (b : ByteArray) (n : Nat) (r : Option FieldType) (hh : List (Nat × Nat × Nat × Nat)) (k : Nat) : Prop :=
  Cond.codeWith y b n r hh ∈ q_tbl ∧ Cond.initialized y.cls ∈ q_tbl ∧ Cond.methodLink own index y ∈ q_tbl ∧ Cond.static y ∈ q_tbl ∧ (y.cls ≠ "java/lang/invoke/MethodHandle" ∧ y.cls ≠ "java/lang/invoke/VarHandle" ∧ (parseMethodDescriptor y.desc).map (fun d => d.parameters.length) = some k)
theorem q_gwW {y : MethodName} {b : ByteArray} {n : Nat} {r : Option FieldType} {hh : List (Nat × Nat × Nat × Nat)} (h : Cond.codeWith y b n r hh ∈ q_tbl) : GoodIn q_tbl (q_wW y b n r hh) := fun w hw => by
  rcases List.mem_cons.mp hw with rfl | hw
  · exact q_gi (fun _ h => h) _ h
  · exact q_gi (fun _ h => h) _ hw
section QWE
variable {l : Launch} {D : va_G} {g : Nat → ClassId}
theorem q_intoW {y : MethodName} {b : ByteArray} {n : Nat} {r : Option FieldType} {hh : List (Nat × Nat × Nat × Nat)} {d mc ms : Nat} {av : List Value} {ws : va_W} {sz : Nat} {Qc : Array Value → State → Outcome → State → Prop} (hy : plainName y.cls = true) (hn : (lg_sl av).length ≤ n)
    (body : ∀ (p : Program) (e : Env) (s : State) (m : MethodId) (below : List Frame) (meth : Method) (c : Code) (ls : Array Slot), s.heap.size = sz → q_At p s m av.toArray meth c y b n r → q_Wd D g (va_A ws sz) s ws s.heap [] → c.exceptionTable.toList.map q_ex = hh → lv_has ls n (lv_args 0 av) →
      W p l e (q_rm d mc ms) s m av.toArray below meth c s.heap [] 0 0 (MQ below Qc av.toArray s mc ms (va_A ws sz)) (F0 m 0 ls [])) :
    Met l y (q_wW y b n r hh) (q_rm d mc ms) (q_P D g av ws sz) Qc mc ms (va_A ws sz) := by
  refine va_MetW (cc := b) (maxL := n) (ret := r) (hh := hh) hy rfl ?_
  intro p e s m args below meth c s₁ B hml hv
  obtain ⟨rfl, hsz, hP, hK, hD, hZ⟩ := hv
  have hts := atoms_spec (ws := q_wW y b n r hh) B.pre
  have hl := lv_entry av (n := n) hn
  obtain ⟨m9, meth9, c9, hn9, h1, h2, -, -, ht, -⟩ := Cond.codeWith_spec (hts _ List.mem_cons_self)
  cases B.named.symm.trans hn9
  cases B.method.symm.trans h1
  cases (Stand.of_body B).code.symm.trans h2
  rw [lg_entry_eq]
  exact body p e s m below meth c _ hsz ⟨B.exec, B.bytes, B.returns, hml, findClass_of_methodNamed B.named, fun w h => hts w (List.mem_cons_of_mem _ h), B.notSynchronized, (name_of_methodNamed B.named B.method).1⟩
    ⟨hP, hD.self, va_S.rf, hK, hZ, fun q h => Or.inr (by rw [← hsz]; exact h)⟩ ht hl
end QWE
section QW
variable {p : Program} {l : Launch} {e : Env} {R : Room} {s : State} {m : MethodId} {args : Array Value} {below : List Frame} {meth : Method} {c : Code} {H : Heap} {locs : List Loc} {cells slots : Nat} {Q : State → Prop}
variable {D : va_G} {g : Nat → ClassId} {A : Nat → Prop} {ws : va_W} {y0 : MethodName} {b0 : ByteArray} {n0 : Nat} {r0 : Option FieldType} {pc : Nat} {ls : Array Slot} {rest st0 As : List Value}
variable {own : String} {index : Nat} {y : MethodName} {b : ByteArray} {n k d mc ms : Nat} {r : Option FieldType} {hh : List (Nat × Nat × Nat × Nat)} {Qc : Array Value → State → Outcome → State → Prop}
theorem q_coreW {av : List Value} {U : State} {f : JFrame} {ig : Instr} {mk : MethodId} (hM : Met l y (q_wW y b n r hh) (q_rm d mc ms) (q_P D g av ws H.size) Qc mc ms (va_A ws H.size)) (X : Stand p l e R s m args below meth c U locs cells slots) (hg : f.method = m) (hsize : f.locals.size = c.maxLocals) (hdg : decode c.code f.pc = .ok (ig, 3)) (hn : U.methodNamed? y = some mk)
    (hW8 : 2 * f.monitorRoom + (f.stack.map fun v => v.category).sum ≤ 8) (hws : ∀ w ∈ q_wW y b n r hh, w.before av.toArray U = true) (hini : (Cond.initialized y.cls).before av.toArray U = true) (hP : q_P D g av ws H.size av.toArray U) (hR : d + 1 ≤ R.frames ∧ 8 + (n + 11) + 64 * d ≤ R.locals) (hf : cells + mc ≤ R.cells ∧ slots + ms ≤ R.slots) :
    ∃ (v : Option Value) (t T' : State) (L : List Loc), Stand p l e R s m args below meth c T' (locs ++ L) (cells + mc) (slots + ms) ∧ T'.heap = t.heap ∧ T'.vm = t.vm ∧ Qc av.toArray (U.calling f mk av.toArray) (.returned v) t ∧ (∀ q ∈ L, va_A ws H.size q.base) ∧
      Steps p.tables e below (doInvoke e (U.setTop f) [] mk av.toArray).1 (T'.setTop { f with pc := f.pc + 3, stack := v.toList ++ f.stack }) := by
  obtain ⟨m9, methY, cY, hn9, hmY, hcY, -, hlY, -⟩ := Cond.codeWith_spec (hws _ List.mem_cons_self)
  cases hn.symm.trans hn9
  obtain ⟨kY, hkY, -⟩ := className_of_methodNamed hn
  have hinitY : kY.init = .initialized := Cond.initialized_spec (findClass_of_methodNamed hn) hkY hini
  have h : At U f.method c below := by rw [hg]; exact X.here
  have happ : (headSpec (q_wW y b n r hh) (q_rm d mc ms)).appliesLoose y e.platform (U.calling f mk av.toArray) = true :=
    Spec.appliesLoose_calling (g := f) h hdg hn hkY hinitY
      (X.room_calling (g := f) (R' := q_rm d mc ms) hsize hmY hcY hR.1 (by rw [hlY]; have := hR.2; show _ + (n + 11) + 64 * d ≤ _; omega) hf.1 hf.2) (atoms_intro hws)
  obtain ⟨mid, hmid⟩ := h.above
  have hfr : (U.setTop f).frames = (.java f :: mid) ++ below := by rw [State.frames_setTop' f h.top, hmid]; rfl
  obtain ⟨o, s₂, hsteps, -, hend, hq⟩ := Steps.callFree hM p X.admits X.cas X.clock (acts := []) hfr happ (q_blind _ _ f mk hP) trivial
  have hft : (U.setTop f).frames = .java f :: below := by rw [State.frames_setTop' f h.top, X.tail]
  rw [hft] at hend
  obtain ⟨hqc, L, hfe, hL⟩ := hq
  obtain ⟨⟨v, rfl⟩, hW₂, hsm⟩ := hfe
  obtain ⟨T', X', hW', hS', rfl⟩ := X.outOf hg hdg hend hW₂ hsm
  exact ⟨v, T'.setTop { f with pc := f.pc + 3, stack := v.toList ++ f.stack }, T', L, X', rfl, rfl, hqc, hL, hsteps⟩
theorem q_wordsW (C0 : q_At p s m args meth c y0 b0 n0 r0) (h1 : Cond.codeWith y b n r hh ∈ q_tbl) {U : State} (hW : s.WarmedH U.vm) {a' : Array Value} : ∀ w ∈ q_wW y b n r hh, w.before a' U = true := fun w hw => pay_in C0.2.2.2.2.2.1 (q_gwW h1) w hw a' U hW
theorem q_runSW (C0 : q_At p s m args meth c y0 b0 n0 r0) (V : q_Wd D g A s ws H locs) (ho : y0.cls = own) (L : q_LW own index y b n r hh k) (hM : Met l y (q_wW y b n r hh) (q_rm d mc ms) (q_P D g As ws H.size) Qc mc ms (va_A ws H.size)) (hn : As.length = k) (hsz : ls.size = n0) (hst : st0 = As.reverse ++ rest) (hcat : (rest.map fun v => v.category).sum ≤ 8) (hR : d + 1 ≤ R.frames ∧ 8 + (n + 11) + 64 * d ≤ R.locals) (hf : cells + mc ≤ R.cells ∧ slots + ms ≤ R.slots) (hdg : decode b0 pc = .ok (.invokestatic index, 3)) :
    va_Run p l e R s m args below meth c H locs cells slots mc ms (F0 m pc ls st0) rest (Qc As.toArray) (va_A ws H.size) := by
  intro T hT X
  have hts := C0.2.2.2.2.2.1
  have hown : s.vm.findClass own = some m.cls := by rw [← ho]; exact C0.2.2.2.2.1
  obtain ⟨mk, methM, cM, hnamed, hmethM, -, -, -, -, -, -, hsigM⟩ := Cond.codeWith_spec (hts _ L.1)
  have hstatic : methM.isStatic = true := Cond.static_spec hnamed hmethM (hts _ L.2.2.2.1)
  obtain ⟨kP, hkP, -⟩ := className_of_methodNamed hnamed
  have hinitP : kP.init = .initialized := Cond.initialized_spec (findClass_of_methodNamed hnamed) hkP (hts _ L.2.1)
  have hlen : As.length = methM.sig.parameters.length := by
    have h2 := L.2.2.2.2.2.2
    rw [hsigM] at h2
    rw [hn]
    exact (Option.some.inj h2).symm
  obtain ⟨vm₁, X₁, st1⟩ := X.invokestatic C0.1 hown (hts _ L.2.2.1) hnamed hmethM hstatic hkP hinitP ⟨L.2.2.2.2.1, L.2.2.2.2.2.1⟩ (g := F0 m pc ls st0) rfl (argsL := As) (rest := rest) hlen hst (by rw [C0.2.1]; exact hdg)
  have hini : (Cond.initialized y.cls).before As.toArray (T.setVm vm₁) = true := q_wordsW C0 L.1 X₁.warmed _ (List.mem_cons_of_mem _ L.2.1)
  obtain ⟨v, t, T', L', X', e1, e2, hq, hL, st⟩ := q_coreW hM X₁ (f := F0 m pc ls rest) rfl (hsz.trans C0.2.2.2.1.symm) (by rw [C0.2.1]; exact hdg) (X₁.named hnamed) (lv_room hcat) (q_wordsW C0 L.1 X₁.warmed) hini (q_pre V (T.setVm vm₁) hT X₁.warmed) hR hf
  exact ⟨v, (T.setVm vm₁).calling (F0 m pc ls rest) mk As.toArray, t, T', L', hT, X', hL, e1, e2, hq, fun tg h => st1 _ fun acts => by rw [doInvoke_state]; exact st.trans h⟩
theorem q_hc {tl : List ExceptionTableEntry} {a b h k : Nat} {hh : List (Nat × Nat × Nat × Nat)} (ht : tl.map q_ex = (a, b, h, k) :: hh) : ∃ x t, tl = x :: t ∧ x.startPc = a ∧ x.endPc = b ∧ x.handlerPc = h ∧ x.catchType = k ∧ t.map q_ex = hh := by
  cases tl with
  | nil => cases ht
  | cons x t =>
    rw [List.map_cons] at ht
    obtain ⟨h1, h2⟩ := List.cons.inj ht
    unfold q_ex at h1
    obtain ⟨e1, e2⟩ := Prod.mk.inj h1
    obtain ⟨e2, e3⟩ := Prod.mk.inj e2
    obtain ⟨e3, e4⟩ := Prod.mk.inj e3
    exact ⟨x, t, rfl, e1, e2, e3, e4, h2⟩
theorem q_hY {tl : List ExceptionTableEntry} {a b h ix : Nat} {hh : List (Nat × Nat × Nat × Nat)} {E : String} {kc : ClassId} (C0 : q_At p s m args meth c y0 b0 n0 r0) (V : q_Wd D g A s ws H locs) (ho : y0.cls = own) (ht : tl.map q_ex = (a, b, h, ix) :: hh) (hp : a ≤ pc ∧ pc < b) (h0 : ix ≠ 0) (hw : Cond.classLink own ix E ∈ q_tbl) (hs : Cond.castable E E ∈ q_odd) (hcl : s.vm.findClass E = some kc) (pl : Platform) (hpl : pl.magicAccessors = ({} : Platform).magicAccessors) : q_hit pl s m.cls pc kc h tl := by
  obtain ⟨x, t, rfl, e1, e2, e3, e4, -⟩ := q_hc ht
  have hd : s.vm.findClass own = some m.cls := by rw [← ho]; exact C0.2.2.2.2.1
  obtain ⟨cE, hc1, hl⟩ := Cond.classLink_spec hd (C0.2.2.2.2.2.1 _ hw) pl hpl
  obtain ⟨c1, c2, g1, g2, g3⟩ := Cond.castable_spec (V.2.2.2.2.1.1.2.2.2.2 _ hs)
  cases hc1.symm.trans g2
  cases hcl.symm.trans g1
  exact Or.inr ⟨by simp [covers, e1, e2, hp.1, hp.2], by rw [e4]; exact h0, _, by rw [e4]; exact hl, Or.inl ⟨g3, e3⟩⟩
theorem q_hN {tl : List ExceptionTableEntry} {a b h h' ix : Nat} {hh : List (Nat × Nat × Nat × Nat)} {E E' : String} {kc : ClassId} (C0 : q_At p s m args meth c y0 b0 n0 r0) (ho : y0.cls = own) (ht : tl.map q_ex = (a, b, h', ix) :: hh) (hp : a ≤ pc ∧ pc < b) (h0 : ix ≠ 0) (hw : Cond.classLink own ix E ∈ q_tbl) (hs : va_Nc E' E s) (hcl : s.vm.findClass E' = some kc) (pl : Platform) (hpl : pl.magicAccessors = ({} : Platform).magicAccessors) (more : ∀ t, t.map q_ex = hh → q_hit pl s m.cls pc kc h t) : q_hit pl s m.cls pc kc h tl := by
  obtain ⟨x, t, rfl, e1, e2, e3, e4, e5⟩ := q_hc ht
  have hd : s.vm.findClass own = some m.cls := by rw [← ho]; exact C0.2.2.2.2.1
  obtain ⟨cE, hc1, hl⟩ := Cond.classLink_spec hd (C0.2.2.2.2.2.1 _ hw) pl hpl
  obtain ⟨c1, c2, g1, g2, g3⟩ := hs
  cases hc1.symm.trans g2
  cases hcl.symm.trans g1
  exact Or.inr ⟨by simp [covers, e1, e2, hp.1, hp.2], by rw [e4]; exact h0, _, by rw [e4]; exact hl, Or.inr ⟨g3, more t e5⟩⟩
end QW
/-- a cell of a family -/
theorem q_fa {u l : va_W} {o i : Nat} {x : Nat × va_E} (h : q_fl u o l) (hl : l[i]? = some x) : u[o + i]? = some x := h i x hl
