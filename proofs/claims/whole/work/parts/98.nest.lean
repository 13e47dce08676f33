/-! a private method of a nest mate, by invokevirtual -/
def q_LM (own : String) (index : Nat) (y : MethodName) (b : ByteArray) (n : Nat) (r : Option FieldType) (k : Nat) (host : String) : Prop :=
  Cond.code y b n r ∈ q_tbl ∧ Cond.initialized y.cls ∈ q_tbl ∧ Cond.methodLinkNest own index y host ∈ q_odd ∧ Cond.instanceMethod y ∈ q_tbl ∧ Cond.selects y.cls y y ∈ q_tbl ∧ (y.cls ≠ "java/lang/invoke/MethodHandle" ∧ y.cls ≠ "java/lang/invoke/VarHandle" ∧ (parseMethodDescriptor y.desc).map (fun d => d.parameters.length) = some k)
section QGM
variable {p : Program} {l : Launch} {e : Env} {R : Room} {s : State} {m : MethodId} {args : Array Value} {below : List Frame} {meth : Method} {c : Code} {H : Heap} {locs : List Loc} {cells slots : Nat} {Q : State → Prop}
variable {D : va_G} {g : Nat → ClassId} {A : Nat → Prop} {ws : va_W} {y0 : MethodName} {b0 : ByteArray} {n0 : Nat} {r0 : Option FieldType} {pc : Nat} {ls : Array Slot} {rest st0 As : List Value}
variable {own host : String} {index : Nat} {y : MethodName} {b : ByteArray} {n k d mc ms : Nat} {r : Option FieldType} {Qc : Array Value → State → Outcome → State → Prop}
theorem q_runVN {a j ci : Nat} {fs : List Value} {q : vw_C} (C0 : q_At p s m args meth c y0 b0 n0 r0) (V : q_Wd D g A s ws H locs) (ho : y0.cls = own) (L : q_LM own index y b n r k host) (hM : Met l y (q_w y b n r) (q_rm d mc ms) (q_P D g (.ref a :: As) ws H.size) Qc mc ms (va_A ws H.size)) (hc : q_cl[ci]? = some q) (hq : q.1 = y.cls) (he : ws[j]? = some (a, .inr (ci, fs))) (hn : As.length = k) (hsz : ls.size = n0) (hst : st0 = As.reverse ++ .ref a :: rest) (hcat : (rest.map fun v => v.category).sum ≤ 8) (hR : d + 1 ≤ R.frames ∧ 8 + (n + 11) + 64 * d ≤ R.locals) (hf : cells + mc ≤ R.cells ∧ slots + ms ≤ R.slots) (hdg : decode b0 pc = .ok (.invokevirtual index, 3)) :
    va_Run p l e R s m args below meth c H locs cells slots mc ms (F0 m pc ls st0) rest (Qc (Value.ref a :: As).toArray) (va_A ws H.size) :=
  va_runVN (As := As) (rest := rest) (host := host) (C := y.cls) ⟨C0.1, C0.2.1, C0.2.2.2.1, by rw [← ho]; exact C0.2.2.2.2.1, C0.2.2.2.2.2.1⟩ hM
    ⟨va_cnB k C0.2.2.2.2.2.1 (q_gw L.1) rfl rfl rfl (V.2.2.2.2.1.1.2.2.2.2 _ L.2.2.1) (C0.2.2.2.2.2.1 _ L.2.1) L.2.2.2.2.2 hR, C0.2.2.2.2.2.1 _ L.2.2.2.1, C0.2.2.2.2.2.1 _ L.2.2.2.2.1⟩
    ⟨q_blind, by rw [← hq]; exact va_recv V.2.2.2.1.1 V.1 hc he, fun U hU hW => q_pre V U hU hW⟩ rfl hn hsz hst (lv_room hcat) hdg hf
end QGM
