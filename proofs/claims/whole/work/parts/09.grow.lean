/-! new cells: the world's list grows at its end -/
theorem q_len1 {ws u : va_W} {k : Nat} {e1 e0 : Nat × va_E} (hu : ∀ i, i ≠ k → u[i]? = ws[i]?) (h1 : u[k]? = some e1) (h0 : ws[k]? = some e0) : u.length = ws.length := by
  have a1 := (List.getElem?_eq_some_iff.mp h1).1
  have a0 := (List.getElem?_eq_some_iff.mp h0).1
  have key : ∀ i, i < u.length ↔ i < ws.length := fun i => by
    by_cases hi : i = k
    · subst hi; exact ⟨fun _ => a0, fun _ => a1⟩
    · have h := hu i hi
      constructor
      · intro q
        rw [List.getElem?_eq_getElem q] at h
        exact (List.getElem?_eq_some_iff.mp h.symm).1
      · intro q
        rw [List.getElem?_eq_getElem q] at h
        exact (List.getElem?_eq_some_iff.mp h).1
  rcases Nat.lt_trichotomy u.length ws.length with h | h | h
  · exact absurd ((key u.length).mpr h) (Nat.lt_irrefl _)
  · exact h
  · exact absurd ((key ws.length).mp h) (Nat.lt_irrefl _)
theorem q_lenN {ws u : va_W} {ks : List Nat} (hu : q_un ws u ks) (h1 : ∀ k ∈ ks, k < u.length) (h0 : ∀ k ∈ ks, k < ws.length) : u.length = ws.length := by
  have key : ∀ i, i < u.length ↔ i < ws.length := fun i => by
    by_cases hi : i ∈ ks
    · exact ⟨fun _ => h0 i hi, fun _ => h1 i hi⟩
    · have h := hu i hi
      constructor
      · intro q
        rw [List.getElem?_eq_getElem q] at h
        exact (List.getElem?_eq_some_iff.mp h.symm).1
      · intro q
        rw [List.getElem?_eq_getElem q] at h
        exact (List.getElem?_eq_some_iff.mp h).1
  rcases Nat.lt_trichotomy u.length ws.length with h | h | h
  · exact absurd ((key u.length).mpr h) (Nat.lt_irrefl _)
  · exact h
  · exact absurd ((key ws.length).mp h) (Nat.lt_irrefl _)
theorem q_app {ws : va_W} {N : Nat} {x : Nat × va_E} (hN : ws.length = N) : (∀ i, i ≠ N → (ws ++ [x])[i]? = ws[i]?) ∧ (ws ++ [x])[N]? = some x ∧ (ws ++ [x]).length = N + 1 := by
  subst hN
  refine ⟨fun i hi => ?_, by simp, by simp⟩
  rcases Nat.lt_or_ge i ws.length with h | h
  · rw [List.getElem?_append_left h]
  · have h2 : ws.length < i := Nat.lt_of_le_of_ne h (Ne.symm hi)
    rw [List.getElem?_eq_none (by simp; omega), List.getElem?_eq_none h]
/-- a place beyond the end is none of the places in use -/
theorem q_lt {ws : va_W} {N k : Nat} {x : Nat × va_E} (hN : ws.length = N) (h : ws[k]? = some x) : k ≠ N := by
  have := (List.getElem?_eq_some_iff.mp h).1
  omega
theorem q_ltN {ws : va_W} {N k : Nat} {x : Nat × va_E} (hN : ws.length = N) (h : ws[k]? = some x) : k < N := by
  have := (List.getElem?_eq_some_iff.mp h).1
  omega
theorem q_lk {ws : va_W} {k : Nat} {x : Nat × va_E} (h : ws[k]? = some x) : k < ws.length := (List.getElem?_eq_some_iff.mp h).1
theorem q_al {a n : Nat} {l : List Nat} (ha : a < n) (hl : ∀ k, k ∈ l → k < n) : ∀ k, k ∈ a :: l → k < n := fun k q => by
  rcases List.mem_cons.mp q with q | q
  · exact q ▸ ha
  · exact hl k q
theorem q_pd (a b : Nat) (h : Nat.beq a b = false) : a ≠ b := fun e => by
  subst e
  rw [Nat.beq_refl] at h
  cases h
theorem q_p0 {k N i : Nat} (h : k < N) : k ≠ N + i := by omega
theorem q_p1 {k N : Nat} (h : k < N) : k ≠ N := by omega
theorem q_p2 {N i j : Nat} (h : i ≠ j) : N + i ≠ N + j := by omega
theorem q_p3 {N j : Nat} (h : 0 < j) : N ≠ N + j := by omega
theorem q_p4 {N j : Nat} (h : 0 < j) : N + j ≠ N := by omega
theorem q_ub {w0 w1 wF : va_W} {K : List Nat} {k : Nat} (h : ∀ i, i ≠ k → w1[i]? = w0[i]?) (R : q_un w1 wF K) : q_un w0 wF (k :: K) := fun i hi => (R i (fun q => hi (List.mem_cons_of_mem _ q))).trans (h i (fun q => hi (q ▸ List.mem_cons_self)))
theorem q_ubc {w0 w1 wF : va_W} {K ks : List Nat} (h : q_un w0 w1 ks) (R : q_un w1 wF K) : q_un w0 wF (ks ++ K) := fun i hi => (R i (fun q => hi (List.mem_append_right _ q))).trans (h i (fun q => hi (List.mem_append_left _ q)))
/-- from the place o on the world holds the cells l -/
def q_fl (u : va_W) (o : Nat) (l : va_W) : Prop := ∀ (i : Nat) (x : Nat × va_E), l[i]? = some x → u[o + i]? = some x
theorem q_fn {u : va_W} {o : Nat} : q_fl u o [] := fun i x h => by simp at h
theorem q_fc {u : va_W} {o : Nat} {x : Nat × va_E} {l : va_W} (h : u[o]? = some x) (t : q_fl u (o + 1) l) : q_fl u o (x :: l) := fun i y hi => by
  cases i with
  | zero => simp at hi; subst hi; exact h
  | succ i => simp at hi; have := t i y hi; rw [show o + (i + 1) = o + 1 + i by omega]; exact this
section QG
variable {p : Program} {l : Launch} {e : Env} {R : Room} {s : State} {m : MethodId} {args : Array Value} {below : List Frame} {meth : Method} {c : Code} {H : Heap} {locs : List Loc} {cells slots : Nat} {Q : State → Prop}
variable {D : va_G} {g : Nat → ClassId} {A : Nat → Prop} {ws : va_W} {y0 : MethodName} {b0 : ByteArray} {n0 : Nat} {r0 : Option FieldType} {pc : Nat} {ls : Array Slot} {rest : List Value} {N : Nat} {own : String} {index : Nat}
theorem q_new {C : String} {T : u_T} {F ci : Nat} {t : Nat → FieldType} {fs : List Value} (C0 : q_At p s m args meth c y0 b0 n0 r0) (V : q_Wd D g A s ws H locs) (hN : ws.length = N) (hin : ∀ w ∈ u_ws C T F, w ∈ q_tbl) (ht : ∀ k, k < F → parseFieldDescriptor (T k).2.2.1 = some (t k)) (ho : y0.cls = own) (h1 : Cond.classLink own index C ∈ q_tbl) (h2 : Cond.instantiable C F ∈ q_tbl) (h3 : Cond.initialized C ∈ q_tbl) (hc : q_cl[ci]? = some (C, T, F)) (hfs : ∀ j, j < F → defaultValue (t j) = vp_V fs j) (hf1 : cells + 1 ≤ R.cells) (hf2 : slots + F ≤ R.slots) (hdg : decode b0 pc = .ok (.new index, 3))
    (kk : ∀ (q : Nat) (H1 : Heap) (u : va_W), (∀ i, i ≠ N → u[i]? = ws[i]?) → u[N]? = some (q, .inr (ci, fs)) → u.length = N + 1 → q_Wd D g A s u H1 locs → W p l e R s m args below meth c H1 locs (cells + 1) (slots + F) Q (F0 m (pc + 3) ls (.ref q :: rest))) : W p l e R s m args below meth c H locs cells slots Q (F0 m pc ls rest) :=
  va_new C0.1 C0.2.1 C0.2.2.2.2.2.1 hin t ht (by rw [← ho]; exact C0.2.2.2.2.1) (C0.2.2.2.2.2.1 _ h1) (C0.2.2.2.2.2.1 _ h2) (C0.2.2.2.2.2.1 _ h3) V.2.2.2.1.1 V.1 V.2.1 V.2.2.1 V.2.2.2.2.2 hc hfs hf1 hf2 hdg
    (fun q H1 a1 a2 a3 => by obtain ⟨b1, b2, b3⟩ := q_app (x := (q, .inr (ci, fs))) hN; exact kk q H1 _ b1 b2 b3 ⟨a1, a2, a3, V.2.2.2.1, V.2.2.2.2.1, V.2.2.2.2.2⟩)
theorem q_newI {n : Int32} {N' : Nat} (C0 : q_At p s m args meth c y0 b0 n0 r0) (V : q_Wd D g A s ws H locs) (hN : ws.length = N) (h1 : Cond.arrayClass .int ∈ q_tbl) (hn : ¬ n < 0) (hN' : n.toNatClampNeg = N') (hby : N' * 4 ≤ 536870912) (hf1 : cells + 1 ≤ R.cells) (hf2 : slots + N' ≤ R.slots) (hdg : decode b0 pc = .ok (.newarray .int, 2))
    (kk : ∀ (q : Nat) (H1 : Heap) (u : va_W), (∀ i, i ≠ N → u[i]? = ws[i]?) → u[N]? = some (q, .inl (g 0, N', .inl (fun _ => 0))) → u.length = N + 1 → q_Wd D g A s u H1 locs → W p l e R s m args below meth c H1 locs (cells + 1) (slots + N') Q (F0 m (pc + 2) ls (.ref q :: rest))) : W p l e R s m args below meth c H locs cells slots Q (F0 m pc ls (.int n :: rest)) :=
  va_newa (atype := .int) (ty := .int) C0.1 C0.2.1 (C0.2.2.2.2.2.1 _ h1) rfl V.2.2.2.1.1 V.1 V.2.1 V.2.2.1 V.2.2.2.2.2 (a0 := (N', .inl (fun _ => 0))) (fun _ => rfl) hn hN' hby hf1 hf2 hdg (fun q cA H1 a0 a1 a2 a3 => by
    have e1 : s.vm.findClass "[I" = some cA := (a0.2 7 (cA, .int) rfl).2
    have e2 : cA = g 0 := Option.some.inj (e1.symm.trans V.2.2.2.1.2.1)
    subst e2
    obtain ⟨b1, b2, b3⟩ := q_app (x := (q, .inl (g 0, N', .inl (fun _ => 0)))) hN; exact kk q H1 _ b1 b2 b3 ⟨a1, a2, a3, V.2.2.2.1, V.2.2.2.2.1, V.2.2.2.2.2⟩)
theorem q_newL {n : Int32} {N' : Nat} (C0 : q_At p s m args meth c y0 b0 n0 r0) (V : q_Wd D g A s ws H locs) (hN : ws.length = N) (h1 : Cond.arrayClass .long ∈ q_tbl) (hn : ¬ n < 0) (hN' : n.toNatClampNeg = N') (hby : N' * 8 ≤ 536870912) (hf1 : cells + 1 ≤ R.cells) (hf2 : slots + N' ≤ R.slots) (hdg : decode b0 pc = .ok (.newarray .long, 2))
    (kk : ∀ (q : Nat) (H1 : Heap) (u : va_W), (∀ i, i ≠ N → u[i]? = ws[i]?) → u[N]? = some (q, .inl (g 1, N', .inr (.inl (fun _ => 0)))) → u.length = N + 1 → q_Wd D g A s u H1 locs → W p l e R s m args below meth c H1 locs (cells + 1) (slots + N') Q (F0 m (pc + 2) ls (.ref q :: rest))) : W p l e R s m args below meth c H locs cells slots Q (F0 m pc ls (.int n :: rest)) :=
  va_newa (atype := .long) (ty := .long) C0.1 C0.2.1 (C0.2.2.2.2.2.1 _ h1) rfl V.2.2.2.1.1 V.1 V.2.1 V.2.2.1 V.2.2.2.2.2 (a0 := (N', .inr (.inl (fun _ => 0)))) (fun _ => rfl) hn hN' hby hf1 hf2 hdg (fun q cA H1 a0 a1 a2 a3 => by
    have e1 : s.vm.findClass "[J" = some cA := (a0.2 7 (cA, .long) rfl).2
    have e2 : cA = g 1 := Option.some.inj (e1.symm.trans V.2.2.2.1.2.2.1)
    subst e2
    obtain ⟨b1, b2, b3⟩ := q_app (x := (q, .inl (g 1, N', .inr (.inl (fun _ => 0))))) hN; exact kk q H1 _ b1 b2 b3 ⟨a1, a2, a3, V.2.2.2.1, V.2.2.2.2.1, V.2.2.2.2.2⟩)
theorem q_newB {n : Int32} {N' : Nat} (C0 : q_At p s m args meth c y0 b0 n0 r0) (V : q_Wd D g A s ws H locs) (hN : ws.length = N) (h1 : Cond.arrayClass .byte ∈ q_tbl) (hn : ¬ n < 0) (hN' : n.toNatClampNeg = N') (hby : N' * 1 ≤ 536870912) (hf1 : cells + 1 ≤ R.cells) (hf2 : slots + N' ≤ R.slots) (hdg : decode b0 pc = .ok (.newarray .byte, 2))
    (kk : ∀ (q : Nat) (H1 : Heap) (u : va_W), (∀ i, i ≠ N → u[i]? = ws[i]?) → u[N]? = some (q, .inl (g 2, N', .inl (fun _ => 0))) → u.length = N + 1 → q_Wd D g A s u H1 locs → W p l e R s m args below meth c H1 locs (cells + 1) (slots + N') Q (F0 m (pc + 2) ls (.ref q :: rest))) : W p l e R s m args below meth c H locs cells slots Q (F0 m pc ls (.int n :: rest)) :=
  va_newa (atype := .byte) (ty := .byte) C0.1 C0.2.1 (C0.2.2.2.2.2.1 _ h1) rfl V.2.2.2.1.1 V.1 V.2.1 V.2.2.1 V.2.2.2.2.2 (a0 := (N', .inl (fun _ => 0))) (fun _ => rfl) hn hN' hby hf1 hf2 hdg (fun q cA H1 a0 a1 a2 a3 => by
    have e1 : s.vm.findClass "[B" = some cA := (a0.2 7 (cA, .byte) rfl).2
    have e2 : cA = g 2 := Option.some.inj (e1.symm.trans V.2.2.2.1.2.2.2.1)
    subst e2
    obtain ⟨b1, b2, b3⟩ := q_app (x := (q, .inl (g 2, N', .inl (fun _ => 0)))) hN; exact kk q H1 _ b1 b2 b3 ⟨a1, a2, a3, V.2.2.2.1, V.2.2.2.2.1, V.2.2.2.2.2⟩)
theorem q_newZ {n : Int32} {N' : Nat} (C0 : q_At p s m args meth c y0 b0 n0 r0) (V : q_Wd D g A s ws H locs) (hN : ws.length = N) (h1 : Cond.arrayClass .boolean ∈ q_tbl) (hn : ¬ n < 0) (hN' : n.toNatClampNeg = N') (hby : N' * 1 ≤ 536870912) (hf1 : cells + 1 ≤ R.cells) (hf2 : slots + N' ≤ R.slots) (hdg : decode b0 pc = .ok (.newarray .boolean, 2))
    (kk : ∀ (q : Nat) (H1 : Heap) (u : va_W), (∀ i, i ≠ N → u[i]? = ws[i]?) → u[N]? = some (q, .inl (g 3, N', .inl (fun _ => 0))) → u.length = N + 1 → q_Wd D g A s u H1 locs → W p l e R s m args below meth c H1 locs (cells + 1) (slots + N') Q (F0 m (pc + 2) ls (.ref q :: rest))) : W p l e R s m args below meth c H locs cells slots Q (F0 m pc ls (.int n :: rest)) :=
  va_newa (atype := .boolean) (ty := .boolean) C0.1 C0.2.1 (C0.2.2.2.2.2.1 _ h1) rfl V.2.2.2.1.1 V.1 V.2.1 V.2.2.1 V.2.2.2.2.2 (a0 := (N', .inl (fun _ => 0))) (fun _ => rfl) hn hN' hby hf1 hf2 hdg (fun q cA H1 a0 a1 a2 a3 => by
    have e1 : s.vm.findClass "[Z" = some cA := (a0.2 7 (cA, .boolean) rfl).2
    have e2 : cA = g 3 := Option.some.inj (e1.symm.trans V.2.2.2.1.2.2.2.2.1)
    subst e2
    obtain ⟨b1, b2, b3⟩ := q_app (x := (q, .inl (g 3, N', .inl (fun _ => 0)))) hN; exact kk q H1 _ b1 b2 b3 ⟨a1, a2, a3, V.2.2.2.1, V.2.2.2.2.1, V.2.2.2.2.2⟩)
theorem q_newQ {n : Int32} {N' t : Nat} {E : String} (C0 : q_At p s m args meth c y0 b0 n0 r0) (V : q_Wd D g A s ws H locs) (hN : ws.length = N) (ho : y0.cls = own) (h1 : Cond.classLink own index E ∈ q_tbl) (h2 : Cond.arrayOver (.object E) ∈ q_odd) (ht : (q_ty g)[t]? = some (g t, .object E)) (hn : ¬ n < 0) (hN' : n.toNatClampNeg = N') (hby : N' * 4 ≤ 536870912) (hf1 : cells + 1 ≤ R.cells) (hf2 : slots + N' ≤ R.slots) (hdg : decode b0 pc = .ok (.anewarray index, 3))
    (kk : ∀ (q : Nat) (H1 : Heap) (u : va_W), (∀ i, i ≠ N → u[i]? = ws[i]?) → u[N]? = some (q, .inl (g t, N', .inr (.inr (.inr (.inr (fun _ => none)))))) → u.length = N + 1 → q_Wd D g A s u H1 locs → W p l e R s m args below meth c H1 locs (cells + 1) (slots + N') Q (F0 m (pc + 3) ls (.ref q :: rest))) : W p l e R s m args below meth c H locs cells slots Q (F0 m pc ls (.int n :: rest)) :=
  va_newq C0.1 C0.2.1 (by rw [← ho]; exact C0.2.2.2.2.1) (C0.2.2.2.2.2.1 _ h1) (V.2.2.2.2.1.1.2.2.2.2 _ h2) V.2.2.2.1.1 V.1 V.2.1 V.2.2.1 V.2.2.2.2.2 hn hN' hby hf1 hf2 hdg (fun q cA H1 a0 a1 a2 a3 => by
    obtain ⟨-, -, -, -, -, e1⟩ := (a0.2 7 (cA, .object E) rfl).2
    obtain ⟨-, -, -, -, -, e2⟩ := (V.2.2.2.1.1.2 t (g t, .object E) ht).2
    have e3 : cA = g t := Option.some.inj (e1.symm.trans e2)
    subst e3
    obtain ⟨b1, b2, b3⟩ := q_app (x := (q, .inl (g t, N', .inr (.inr (.inr (.inr (fun _ => none))))))) hN; exact kk q H1 _ b1 b2 b3 ⟨a1, a2, a3, V.2.2.2.1, V.2.2.2.2.1, V.2.2.2.2.2⟩)
/-- a reference into an array of them -/
theorem q_aast {t ci i9 : Nat} {r : vw_C} {f : Nat → Option Nat} {a k n v kv : Nat} {vs : List Value} {i : Int32} (C0 : q_At p s m args meth c y0 b0 n0 r0) (V : q_Wd D g A s ws H locs) (he : ws[k]? = some (a, .inl (g t, n, .inr (.inr (.inr (.inr f)))))) (ht : (q_ty g)[t]? = some (g t, .object r.1)) (hv : ws[kv]? = some (v, .inr (ci, vs))) (hc : q_cl[ci]? = some r) (hi : i.toNatClampNeg = i9) (hin : vp_in i n) (hdg : decode b0 pc = .ok (.aastore, 1))
    (kk : ∀ (H1 : Heap) (locs1 : List Loc) (u : va_W), (∀ i, i ≠ k → u[i]? = ws[i]?) → u[k]? = some (a, .inl (g t, n, .inr (.inr (.inr (.inr (va_up f i9 (some v))))))) → q_Wd D g A s u H1 locs1 → W p l e R s m args below meth c H1 locs1 cells slots Q (F0 m (pc + 1) ls rest)) : W p l e R s m args below meth c H locs cells slots Q (F0 m pc ls (.ref v :: .int i :: .ref a :: rest)) :=
  va_astq C0.1 C0.2.1 V.2.2.2.1.1 V.1 V.2.1 V.2.2.1 k t kv ci he ht hv hc hin hdg (fun H1 locs1 h1 h2 h3 => by
    rw [hi] at h1 h2
    exact kk H1 locs1 _ (fun i hi => List.getElem?_set_ne (Ne.symm hi)) (q_se he) ⟨h1, h2, h3, V.2.2.2.1, V.2.2.2.2.1, V.2.2.2.2.2⟩)
end QG
def q_LN (own : String) (index : Nat) (y : MethodName) (b : ByteArray) (n : Nat) (k : Nat) (host : String) : Prop :=
  Cond.code y b n none ∈ q_tbl ∧ Cond.initialized y.cls ∈ q_tbl ∧ Cond.methodLinkNest own index y host ∈ q_odd ∧ Cond.instanceMethod y ∈ q_tbl ∧ y.name = "<init>" ∧ (y.cls ≠ "java/lang/invoke/MethodHandle" ∧ y.cls ≠ "java/lang/invoke/VarHandle" ∧ (parseMethodDescriptor y.desc).map (fun d => d.parameters.length) = some k)
section QGN
variable {p : Program} {l : Launch} {e : Env} {R : Room} {s : State} {m : MethodId} {args : Array Value} {below : List Frame} {meth : Method} {c : Code} {H : Heap} {locs : List Loc} {cells slots : Nat} {Q : State → Prop}
variable {D : va_G} {g : Nat → ClassId} {A : Nat → Prop} {ws : va_W} {y0 : MethodName} {b0 : ByteArray} {n0 : Nat} {r0 : Option FieldType} {pc : Nat} {ls : Array Slot} {rest st0 As : List Value}
variable {own host : String} {index : Nat} {y : MethodName} {b : ByteArray} {n k d mc ms : Nat} {r : Option FieldType} {Qc : Array Value → State → Outcome → State → Prop}
theorem q_runN {a : Nat} (C0 : q_At p s m args meth c y0 b0 n0 r0) (V : q_Wd D g A s ws H locs) (ho : y0.cls = own) (L : q_LN own index y b n k host) (hM : Met l y (q_w y b n none) (q_rm d mc ms) (q_P D g (.ref a :: As) ws H.size) Qc mc ms (va_A ws H.size)) (hn : As.length = k) (hsz : ls.size = n0) (hst : st0 = As.reverse ++ .ref a :: rest) (hcat : (rest.map fun v => v.category).sum ≤ 8) (hR : d + 1 ≤ R.frames ∧ 8 + (n + 11) + 64 * d ≤ R.locals) (hf : cells + mc ≤ R.cells ∧ slots + ms ≤ R.slots) (hdg : decode b0 pc = .ok (.invokespecial index, 3)) :
    va_Run p l e R s m args below meth c H locs cells slots mc ms (F0 m pc ls st0) rest (Qc (Value.ref a :: As).toArray) (va_A ws H.size) :=
  va_runIN (As := As) (rest := rest) (host := host) ⟨C0.1, C0.2.1, C0.2.2.2.1, by rw [← ho]; exact C0.2.2.2.2.1, C0.2.2.2.2.2.1⟩ hM
    ⟨va_cnB k C0.2.2.2.2.2.1 (q_gw L.1) rfl rfl rfl (V.2.2.2.2.1.1.2.2.2.2 _ L.2.2.1) (C0.2.2.2.2.2.1 _ L.2.1) L.2.2.2.2.2 hR, L.2.2.2.2.1, C0.2.2.2.2.2.1 _ L.2.2.2.1⟩
    ⟨q_blind, fun U hU hW => q_pre V U hU hW⟩ rfl hn hsz hst (lv_room hcat) hdg hf
end QGN
