/-! methods of java/lang/Math that are bytecode -/
section QEF
variable {l : Launch} {D : va_G} {g : Nat → ClassId}
/-- the entry of a method of java/lang/Math that is bytecode -/
theorem q_intoF {y : MethodName} {b : ByteArray} {n : Nat} {r : Option FieldType} {d mc ms : Nat} {av : List Value} {ws : va_W} {sz : Nat} {Qc : Array Value → State → Outcome → State → Prop} (hy : plainFor y = true) (hn : (lg_sl av).length ≤ n)
    (body : ∀ (p : Program) (e : Env) (s : State) (m : MethodId) (below : List Frame) (meth : Method) (c : Code) (ls : Array Slot), s.heap.size = sz → q_At p s m av.toArray meth c y b n r → q_Wd D g (va_A ws sz) s ws s.heap [] → lv_has ls n (lv_args 0 av) →
      W p l e (q_rm d mc ms) s m av.toArray below meth c s.heap [] 0 0 (MQ below Qc av.toArray s mc ms (va_A ws sz)) (F0 m 0 ls [])) :
    Met l y (q_w y b n r) (q_rm d mc ms) (q_P D g av ws sz) Qc mc ms (va_A ws sz) := by
  refine MetFree.of_bodySF (code := b) (maxLocals := n) (ret := r) hy ?_ ?_
  · intro args s m h hnm
    obtain ⟨meth, c, h1, h2, h3, h4, h5, h6, -, -⟩ := Cond.code_spec hnm (atoms_spec (ws := q_w y b n r) h _ List.mem_cons_self)
    exact ⟨meth, c, h1, h2, h3, h4, h5, h6⟩
  · intro p e s m args below meth c s₁ B hml hv _
    obtain ⟨rfl, hsz, hP, hK, hD, hZ⟩ := hv
    have hts := atoms_spec (ws := q_w y b n r) B.pre
    have hh0 : s₁.heap = s.heap := by rw [B.state]; rfl
    have hl := lv_entry av (n := n) hn
    have K := body p e s m below meth c _ hsz ⟨B.exec, B.bytes, B.returns, hml, findClass_of_methodNamed B.named, fun w h => hts w (List.mem_cons_of_mem _ h), B.notSynchronized, (name_of_methodNamed B.named B.method).1⟩
      ⟨hP, hD.self, va_S.rf, hK, hZ, fun q h => Or.inr (by rw [← hsz]; exact h)⟩ hl
    rw [← lg_entry_eq] at K
    obtain ⟨t, a1, o, b1, b2, b3⟩ := K s₁ hh0 (Stand.of_body B)
    exact ⟨t, o, a1, b1, b2, ⟨b3.1, b3.2⟩⟩
end QEF
