/-! 'throw new E("text")' as a method's first act; the catch -/
/-- nothing old is written: the old cells are as they were -/
theorem q_same {s U : State} {k n : Nat} (h : s.sameButNew ({ U with vm := s.vm } : State) [] k n) : s.heap.size ≤ U.heap.size ∧ ∀ q : Nat, q < s.heap.size → U.heap[q]? = s.heap[q]? := by
  obtain ⟨-, h2, -, -, -, h6⟩ := h
  refine ⟨h2, fun q hq => ?_⟩
  obtain ⟨c9, e1, e2, -, e4⟩ := h6 q _ (Array.getElem?_eq_getElem hq)
  have hs : c9.slots = (s.heap[q]).slots := Array.ext_getElem? fun i => e4 i (by simp)
  rw [hs] at e2
  rw [Array.getElem?_eq_getElem hq]
  exact e1.trans (congrArg some e2)
def q_four : List Cond := [.isRef (.static "java/lang/Throwable" "UNASSIGNED_STACK" q_tU), .isRef (.static "java/lang/Throwable" "SUPPRESSED_SENTINEL" q_tS), .laysStatic "java/lang/Throwable" "UNASSIGNED_STACK" q_tU, .laysStatic "java/lang/Throwable" "SUPPRESSED_SENTINEL" q_tS]
section QTW
variable {p : Program} {l : Launch} {e : Env} {R : Room} {s : State} {m : MethodId} {args : Array Value} {below : List Frame} {meth : Method} {c : Code} {H : Heap} {locs : List Loc} {cells slots : Nat} {Q : State → Prop}
variable {D : va_G} {g : Nat → ClassId} {A : Nat → Prop} {ws : va_W} {y0 : MethodName} {b0 : ByteArray} {n0 : Nat} {r0 : Option FieldType} {pc : Nat} {ls : Array Slot} {rest : List Value}
variable {Qc : Array Value → State → Outcome → State → Prop} {px : String → va_W → Prop}
theorem q_throwW {own cls text : String} {names : List String} {ik is ic : Nat} (C0 : q_At p s m args meth c y0 b0 n0 r0) (V : q_Wd D g A s ws s.heap []) (hl : l.stackTraces = false) (hno : c.exceptionTable.isEmpty = true) (ho : y0.cls = own) (hsz : ls.size = n0) (hfit : Bundle.fit cls = true) (hfn : ∀ n ∈ names, Bundle.fit n = true)
    (hk : Cond.classLink own ik cls ∈ q_tbl) (hini : Cond.initialized cls ∈ q_tbl) (hstr : Cond.stringRef own is text ∈ q_odd) (hins : Cond.instantiable cls 6 ∈ q_tbl)
    (hat : ∀ w ∈ Bundle.ownAtoms own ic cls names, w ∈ q_tbl ∨ (w ∈ q_odd ∧ w.onTables = true) ∨ w ∈ q_four)
    (d0 : decode b0 pc = .ok (.new ik, 3)) (d3 : decode b0 (pc + 3) = .ok (.dup, 1)) (d4 : decode b0 (pc + 4) = .ok (.ldc_w is, 3)) (d7 : decode b0 (pc + 7) = .ok (.invokespecial ic, 3)) (d10 : decode b0 (pc + 10) = .ok (.athrow, 1))
    (hR1 : names.length + 3 < R.frames) (hR2 : (rest.map fun v => v.category).sum + (13 * (names.length + 1) + 43) ≤ R.locals) (hR3 : 1 ≤ R.cells) (hR4 : 6 ≤ R.slots) (hp : px cls ws) :
    W p l e R s m args below meth c s.heap [] 0 0 (q_MQX below Qc D g A px args s 1 6) (F0 m pc ls rest) := by
  intro T hT X
  obtain ⟨hx, hb, hr, hml, hown, hts, hlocks, -⟩ := C0
  obtain ⟨hP, hD, hS, hK, hZ, hA⟩ := V
  rw [ho] at hown
  have htr : e.platform.stackTraces = false := (show e.platform.stackTraces = l.stackTraces by rw [X.admits.platform]).trans hl
  obtain ⟨-, -, hU, hN, hT7⟩ := hZ.1
  have h : ∀ w ∈ Bundle.ownAtoms own ic cls names, w.before args s = true := fun w hw => by
    rcases hat w hw with h1 | ⟨h1, h2⟩ | h1
    · exact hts w h1
    · exact va_Nw.use h2 (hT7 w h1)
    · simp only [q_four, List.mem_cons, List.not_mem_nil, or_false] at h1
      rcases h1 with rfl | rfl | rfl | rfl
      · exact hU.ref
      · exact hN.ref
      · exact hU.lays
      · exact hN.lays
  obtain ⟨vm₁, cX, kX, hfX, hkX, -, -, X₁, st1⟩ := X.newCold hx (own := own) (C := cls) (index := ik) (n := 6) hown (hts _ hk) (hts _ hins) (hts _ hini)
    (g := F0 m pc ls rest) rfl (by rw [hb]; exact d0) (by omega) (by omega)
  generalize hT1 : (T.setVm vm₁).pushCell { cls := cX, slots := kX.instanceTypes.map defaultValue, vm := .none } = T1 at X₁ st1
  have hcellA : T1.heap[T.heap.size]? = some (freshCell cX kX) := by rw [← hT1]; exact State.heap_pushCell_size _ _
  have hsr : (Cond.stringRef own is text).before #[] s = true := hT7 _ hstr
  obtain ⟨k9, cf9, i9, sa, -, -, -, -, -, hev⟩ := Cond.stringRef_spec hown (args := args) (first := s) (o := none) (idx := []) hsr
  have hnil : c.exceptionTable.toList = [] := by
    have := Array.isEmpty_iff.mp hno
    rw [this]
  obtain ⟨U, hsteps, hrun, hend, hW, hsame, ce, hce, hO⟩ := X₁.ctorThrowS hx htr (own := own) (cls := cls) (names := names) (ic := ic) hown hfit hfn h (fun x hx => nomatch hx) hfX hkX hcellA (by rw [hT]; exact Nat.le_refl _) (msg := .ref sa) rfl
    (g := F0 m (pc + 7) ls (.ref sa :: .ref T.heap.size :: .ref T.heap.size :: rest)) rfl (hsz.trans hml.symm) rfl rfl (rest := rest) rfl
    (by rw [hb]; exact d7) (by rw [hb]; exact d10) (by rw [hnil]; intro x hx; cases hx) hR1 (by
      have : (Value.ref T.heap.size).category = 1 := rfl
      simp only [List.map_cons, List.sum_cons, this]
      show 2 * 0 + _ + _ ≤ _
      omega) hlocks
  obtain ⟨f1, f2⟩ := q_same hsame
  refine ⟨U, ?_, .threw T.heap.size, hrun, hend, Or.inr ⟨T.heap.size, cls, ce, ws, [], rfl, hp, ⟨hP.kept (fun k q hk => f2 q.1 ((hP k q hk).lt)), hK.moved hW.alike, hD⟩, ⟨f1, fun q hq _ => f2 q hq⟩, hce, hO.vm, hO.cls, hW, hsame, fun z hz => nomatch hz⟩⟩
  refine st1 _ ?_
  have d3' : decode c.code (pc + 3) = .ok (.dup, 1) := by rw [hb]; exact d3
  show Steps p.tables e below (T1.setTop (F0 m (pc + 3) ls (.ref T.heap.size :: rest))) _
  jvm_step X₁.here [X₁.here.top, hx, d3', Value.category]
  exact X₁.ldcStringW hx (own := own) (text := text) (index := is) (a := sa) hown hsr hev
    (g := F0 m (pc + 4) ls (.ref T.heap.size :: .ref T.heap.size :: rest)) rfl (by rw [hb]; exact d4) _ hsteps
end QTW
