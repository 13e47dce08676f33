/-! 'throw new E("text")' behind other acts -/
section QTG
variable {p : Program} {l : Launch} {e : Env} {R R' : Room} {s T : State} {m : MethodId} {args : Array Value} {below : List Frame} {meth : Method} {c : Code} {H : Heap} {locs : List Loc} {cells slots mc ms : Nat}
variable {D : va_G} {g : Nat → ClassId} {A : Nat → Prop} {ws : va_W} {y0 : MethodName} {b0 : ByteArray} {n0 : Nat} {r0 : Option FieldType} {pc : Nat} {ls : Array Slot} {rest : List Value}
variable {Qc : Array Value → State → Outcome → State → Prop} {px : String → va_W → Prop}
/-- standing anew where one stands -/
theorem q_restand (X : Stand p l e R s m args below meth c T locs cells slots) (hf : R'.frames ≤ R.frames) (hlo : R'.locals ≤ R.locals) (hc : cells + R'.cells ≤ R.cells) (hs : slots + R'.slots ≤ R.slots) :
    Stand p l e R' (T.setFrames (.invoking m args :: below)) m args below meth c T [] 0 0 := by
  have hcur : T.cur < T.threads.size := State.cur_lt_of_top X.here.top
  have hfr : (T.setFrames (.invoking m args :: below)).frames = .invoking m args :: below := State.frames_setFrames _ hcur
  have hm : T.vm.method? m = some meth := by rw [X.warmed.alike.method?]; exact X.method
  obtain ⟨t, ht, -⟩ := State.frames_cons hfr
  obtain ⟨g₀, hg₀⟩ := X.frames_eq
  obtain ⟨t1, ht1, -⟩ := State.frames_cons hg₀
  refine ⟨X.admits, X.cas, X.clock, hfr, ?_, ?_, hm, X.code, X.here, X.tail, State.WarmedH.refl (T.setFrames (.invoking m args :: below)), by rw [State.stackLimits_setFrames], by rw [State.stackBytes_setFrames], ?_⟩
  · obtain ⟨r1, r2, r3, r4⟩ := State.hasRoom_stack X.room
    have r5 := State.hasRoom_real X.room
    have h := X.room
    simp only [State.hasRoom, Bool.and_eq_true, decide_eq_true_eq] at h
    rw [State.localsInUse_invoking X.frames X.method X.code] at r3 r4 r5
    rw [X.frames, List.length_cons] at r1 r2
    have hU : (T.setFrames (.invoking m args :: below)).localsInUse = stackWeight below + vmFrameWords + (c.maxLocals + 11) := State.localsInUse_invoking hfr (meth := meth) (c := c) hm X.code
    have hz := X.heapSize
    have hu := X.used
    simp only [State.hasRoom, Bool.and_eq_true, decide_eq_true_eq, hfr, hU, List.length_cons, State.stackLimits_setFrames, State.stackBytes_setFrames, X.limits, X.bytes]
    refine ⟨⟨⟨⟨by omega, by omega, by omega, by omega, by omega, h.1.1.1.2.2.2.2.2⟩, ?_⟩, ?_⟩, X.book⟩
    · have := h.1.1.2
      show T.heap.size + R'.cells ≤ e.platform.maxCells
      omega
    · have := h.1.2
      show T.slotsUsed + R'.slots ≤ e.platform.maxSlots
      omega
  · have h := X.hears
    have hcode : ∀ m', (T.setFrames (.invoking m args :: below)).code? m' = s.code? m' := fun m' => by
      rw [State.code?_eq, State.code?_eq]
      show (T.vm.method? m').bind _ = _
      rw [X.warmed.alike.method?]
    have hme : (T.setFrames (.invoking m args :: below)).vm.method? m = s.vm.method? m := X.warmed.alike.method? ..
    cases below with
    | nil => simp only [State.hears, hme] at h ⊢; exact h
    | cons f r => cases f <;> simp only [State.hears, hme, hcode] at h ⊢ <;> exact h
  · have h := (State.sameButNew.refl (T.setFrames (.invoking m args :: below)) ht).setFrames T.frames (State.cur_lt_of_frames hfr)
    rw [State.setFrames_setFrames, State.setFrames_self ht1] at h
    exact h
theorem q_throwG {own cls text : String} {names : List String} {ik is ic : Nat} (C0 : q_At p s m args meth c y0 b0 n0 r0) (V : q_Wd D g A s ws H locs) (hl : l.stackTraces = false) (hno : c.exceptionTable.isEmpty = true) (ho : y0.cls = own) (hsz : ls.size = n0) (hfit : Bundle.fit cls = true) (hfn : ∀ n ∈ names, Bundle.fit n = true)
    (hk : Cond.classLink own ik cls ∈ q_tbl) (hini : Cond.initialized cls ∈ q_tbl) (hstr : Cond.stringRef own is text ∈ q_odd) (hins : Cond.instantiable cls 6 ∈ q_tbl)
    (hat : ∀ w ∈ Bundle.ownAtoms own ic cls names, w ∈ q_tbl ∨ (w ∈ q_odd ∧ w.onTables = true) ∨ w ∈ q_four)
    (d0 : decode b0 pc = .ok (.new ik, 3)) (d3 : decode b0 (pc + 3) = .ok (.dup, 1)) (d4 : decode b0 (pc + 4) = .ok (.ldc_w is, 3)) (d7 : decode b0 (pc + 7) = .ok (.invokespecial ic, 3)) (d10 : decode b0 (pc + 10) = .ok (.athrow, 1))
    (hR1 : names.length + 3 < R.frames) (hR2 : (rest.map fun v => v.category).sum + (13 * (names.length + 1) + 43) ≤ R.locals) (hR3 : cells + 1 ≤ R.cells) (hR4 : slots + 6 ≤ R.slots) (hmc : cells + 1 ≤ mc) (hms : slots + 6 ≤ ms) (hp : px cls ws) :
    W p l e R s m args below meth c H locs cells slots (q_MQX below Qc D g A px args s mc ms) (F0 m pc ls rest) := by
  intro T hT X
  have hA := q_fr V.2.1 V.2.2.1 V.2.2.2.2.2
  have Y := q_restand X (R' := { R with cells := 1, slots := 6 }) (Nat.le_refl _) (Nat.le_refl _) hR3 hR4
  have hW : s.WarmedH (T.setFrames (.invoking m args :: below)).vm := X.warmed
  have hh : (T.setFrames (.invoking m args :: below)).heap = H := hT
  obtain ⟨-, z1, z2, z3, z4, z5⟩ := q_pre (av := []) V (T.setFrames (.invoking m args :: below)) hh hW
  have C1 : q_At p (T.setFrames (.invoking m args :: below)) m args meth c y0 b0 n0 r0 := ⟨C0.1, C0.2.1, C0.2.2.1, C0.2.2.2.1, by rw [hW.alike.findClass]; exact C0.2.2.2.2.1, fun w hw => pay_in C0.2.2.2.2.2.1 (q_gi (fun _ h => h)) w hw args _ hW, C0.2.2.2.2.2.2.1, C0.2.2.2.2.2.2.2⟩
  have V1 : q_Wd D g (va_A ws H.size) (T.setFrames (.invoking m args :: below)) ws (T.setFrames (.invoking m args :: below)).heap [] := ⟨z2, (hh ▸ z4.self), va_S.rf, z3, z5, fun q h => Or.inr (by rw [← z1]; exact h)⟩
  obtain ⟨t, stp, o, hrun, hend, hq⟩ := q_throwW (R := { R with cells := 1, slots := 6 }) (Qc := fun _ _ _ _ => False) (px := px) C1 V1 hl hno ho hsz hfit hfn hk hini hstr hins hat d0 d3 d4 d7 d10 hR1 hR2 (Nat.le_refl 1) (Nat.le_refl 6) hp T rfl Y
  rcases hq with ⟨h, -⟩ | ⟨q, E, ce, u, L, rfl, hpx, hB, hF, hce, hcv, hcl, hW2, hsm, hL⟩
  · exact h.elim
  refine ⟨t, stp, .threw q, hrun, hend, Or.inr ⟨q, E, ce, u, locs ++ L, rfl, hpx, ⟨hB.1, hB.2.1, hB.2.2.weaken (fun _ z _ h => hA z.1 h)⟩, ?_, hce, hcv, ?_, ?_, ?_, ?_⟩⟩
  · obtain ⟨f1, f2⟩ := hF
    rw [hh] at f1 f2
    exact ⟨Nat.le_trans V.2.2.1.1 f1, fun z h1 h2 => (f2 z (Nat.lt_of_lt_of_le h1 V.2.2.1.1) (fun h3 => h2 (hA z h3))).trans (V.2.2.1.2.1 z h1 h2)⟩
  · rw [hW.alike.findClass] at hcl
    exact hcl
  · exact hW.trans hW2
  · have h1 := X.same.setFrames (.invoking m args :: below) X.cur
    have h2 := hsm.setVm s.vm
    exact (h1.trans h2).mono hmc hms
  · intro z hz
    rcases List.mem_append.mp hz with h | h
    · exact V.2.2.1.2.2 z h
    · exact hA _ (hL z h)
end QTG
