/-! calls: the links of a class, the run of a callee, what goes on behind it -/
def q_LV (own : String) (index : Nat) (y : MethodName) (b : ByteArray) (n : Nat) (r : Option FieldType) (k : Nat) : Prop :=
  Cond.code y b n r ∈ q_tbl ∧ Cond.initialized y.cls ∈ q_tbl ∧ Cond.methodLink own index y ∈ q_tbl ∧ Cond.instanceMethod y ∈ q_tbl ∧ Cond.selects y.cls y y ∈ q_tbl ∧ (y.cls ≠ "java/lang/invoke/MethodHandle" ∧ y.cls ≠ "java/lang/invoke/VarHandle" ∧ (parseMethodDescriptor y.desc).map (fun d => d.parameters.length) = some k)
def q_LS (own : String) (index : Nat) (y : MethodName) (b : ByteArray) (n : Nat) (r : Option FieldType) (k : Nat) : Prop :=
  Cond.code y b n r ∈ q_tbl ∧ Cond.initialized y.cls ∈ q_tbl ∧ Cond.methodLink own index y ∈ q_tbl ∧ Cond.static y ∈ q_tbl ∧ (y.cls ≠ "java/lang/invoke/MethodHandle" ∧ y.cls ≠ "java/lang/invoke/VarHandle" ∧ (parseMethodDescriptor y.desc).map (fun d => d.parameters.length) = some k)
def q_LI (own : String) (index : Nat) (y : MethodName) (b : ByteArray) (n : Nat) (k : Nat) : Prop :=
  Cond.code y b n none ∈ q_tbl ∧ Cond.initialized y.cls ∈ q_tbl ∧ Cond.methodLink own index y ∈ q_tbl ∧ Cond.instanceMethod y ∈ q_tbl ∧ y.name = "<init>" ∧ (y.cls ≠ "java/lang/invoke/MethodHandle" ∧ y.cls ≠ "java/lang/invoke/VarHandle" ∧ (parseMethodDescriptor y.desc).map (fun d => d.parameters.length) = some k)
theorem q_gw {y : MethodName} {b : ByteArray} {n : Nat} {r : Option FieldType} (h : Cond.code y b n r ∈ q_tbl) : GoodIn q_tbl (q_w y b n r) := fun w hw => by
  rcases List.mem_cons.mp hw with rfl | hw
  · exact q_gi (fun _ h => h) _ h
  · exact q_gi (fun _ h => h) _ hw
theorem q_blind {D : va_G} {g : Nat → ClassId} {av : List Value} {ws : va_W} {sz : Nat} : FrameBlind (q_P D g av ws sz) := fun a U f mk h => by
  obtain ⟨h1, h2, h3, h4, h5, h6⟩ := h
  exact ⟨h1, h2, h3, q_K.moved (u := U) (U := U.calling f mk a) (Vm.Alike.refl U.vm) h4, h5, q_Z.warm (u := U) (U := U.calling f mk a) (State.WarmedH.refl U) h6⟩
theorem q_nc {a b : Nat} {l : List Nat} (h : a ≠ b) (hl : a ∉ l) : a ∉ b :: l := fun q => by
  rcases List.mem_cons.mp q with q | q
  · exact h q
  · exact hl q
theorem q_sc {b : Nat} {l ks : List Nat} (h : b ∈ ks) (hl : ∀ k, k ∈ l → k ∈ ks) : ∀ k, k ∈ b :: l → k ∈ ks := fun k q => by
  rcases List.mem_cons.mp q with q | q
  · exact q ▸ h
  · exact hl k q
section QC
variable {p : Program} {l : Launch} {e : Env} {R : Room} {s : State} {m : MethodId} {args : Array Value} {below : List Frame} {meth : Method} {c : Code} {H : Heap} {locs : List Loc} {cells slots : Nat} {Q : State → Prop}
variable {D : va_G} {g : Nat → ClassId} {A : Nat → Prop} {ws : va_W} {y0 : MethodName} {b0 : ByteArray} {n0 : Nat} {r0 : Option FieldType} {pc : Nat} {ls : Array Slot} {rest st0 As : List Value}
variable {own : String} {index : Nat} {y : MethodName} {b : ByteArray} {n k d mc ms : Nat} {r : Option FieldType} {Qc : Array Value → State → Outcome → State → Prop}
theorem q_pre {av : List Value} (V : q_Wd D g A s ws H locs) (U : State) (hU : U.heap = H) (hW : s.WarmedH U.vm) : q_P D g av ws H.size av.toArray U := by
  obtain ⟨hP, hD, hS, hK, hZ, hA⟩ := V
  refine ⟨rfl, by rw [hU], by rw [hU]; exact hP, hK.moved hW.alike, hD.weaken (fun _ _ _ _ => trivial), ?_⟩
  rw [hU]
  exact ((hZ.kept hS.2.1).narrow (q_fr hD hS hA)).warm hW
theorem q_callB (C0 : q_At p s m args meth c y0 b0 n0 r0) (h1 : Cond.code y b n r ∈ q_tbl) (h2 : Cond.initialized y.cls ∈ q_tbl) (h3 : Cond.methodLink own index y ∈ q_tbl) (hd : y.cls ≠ "java/lang/invoke/MethodHandle" ∧ y.cls ≠ "java/lang/invoke/VarHandle" ∧ (parseMethodDescriptor y.desc).map (fun d => d.parameters.length) = some k) (hR : d + 1 ≤ R.frames ∧ 8 + (n + 11) + 64 * d ≤ R.locals) :
    CallB R s args own index y b n r (q_w y b n r) (q_rm d mc ms) mc ms k :=
  callB_of k C0.2.2.2.2.2.1 (q_gw h1) rfl rfl rfl (C0.2.2.2.2.2.1 _ h2) (C0.2.2.2.2.2.1 _ h3) hd hR
theorem q_runV {a j ci : Nat} {fs : List Value} {q : vw_C} (C0 : q_At p s m args meth c y0 b0 n0 r0) (V : q_Wd D g A s ws H locs) (ho : y0.cls = own) (L : q_LV own index y b n r k) (hM : Met l y (q_w y b n r) (q_rm d mc ms) (q_P D g (.ref a :: As) ws H.size) Qc mc ms (va_A ws H.size)) (hc : q_cl[ci]? = some q) (hq : q.1 = y.cls) (he : ws[j]? = some (a, .inr (ci, fs))) (hn : As.length = k) (hsz : ls.size = n0) (hst : st0 = As.reverse ++ .ref a :: rest) (hcat : (rest.map fun v => v.category).sum ≤ 8) (hR : d + 1 ≤ R.frames ∧ 8 + (n + 11) + 64 * d ≤ R.locals) (hf : cells + mc ≤ R.cells ∧ slots + ms ≤ R.slots) (hdg : decode b0 pc = .ok (.invokevirtual index, 3)) :
    va_Run p l e R s m args below meth c H locs cells slots mc ms (F0 m pc ls st0) rest (Qc (Value.ref a :: As).toArray) (va_A ws H.size) :=
  va_runV (As := As) (rest := rest) (C := y.cls) ⟨C0.1, C0.2.1, C0.2.2.2.1, by rw [← ho]; exact C0.2.2.2.2.1, C0.2.2.2.2.2.1⟩ hM ⟨q_callB C0 L.1 L.2.1 L.2.2.1 L.2.2.2.2.2 hR, C0.2.2.2.2.2.1 _ L.2.2.2.1, C0.2.2.2.2.2.1 _ L.2.2.2.2.1⟩
    ⟨q_blind, by rw [← hq]; exact va_recv V.2.2.2.1.1 V.1 hc he, fun U hU hW => q_pre V U hU hW⟩ rfl hn hsz hst (lv_room hcat) hdg hf
theorem q_runS (C0 : q_At p s m args meth c y0 b0 n0 r0) (V : q_Wd D g A s ws H locs) (ho : y0.cls = own) (L : q_LS own index y b n r k) (hM : Met l y (q_w y b n r) (q_rm d mc ms) (q_P D g As ws H.size) Qc mc ms (va_A ws H.size)) (hn : As.length = k) (hsz : ls.size = n0) (hst : st0 = As.reverse ++ rest) (hcat : (rest.map fun v => v.category).sum ≤ 8) (hR : d + 1 ≤ R.frames ∧ 8 + (n + 11) + 64 * d ≤ R.locals) (hf : cells + mc ≤ R.cells ∧ slots + ms ≤ R.slots) (hdg : decode b0 pc = .ok (.invokestatic index, 3)) :
    va_Run p l e R s m args below meth c H locs cells slots mc ms (F0 m pc ls st0) rest (Qc As.toArray) (va_A ws H.size) :=
  va_runS (As := As) (rest := rest) ⟨C0.1, C0.2.1, C0.2.2.2.1, by rw [← ho]; exact C0.2.2.2.2.1, C0.2.2.2.2.2.1⟩ hM ⟨q_callB C0 L.1 L.2.1 L.2.2.1 L.2.2.2.2 hR, C0.2.2.2.2.2.1 _ L.2.2.2.1⟩
    ⟨q_blind, fun U hU hW => q_pre V U hU hW⟩ rfl hn hsz hst (lv_room hcat) hdg hf
theorem q_runI {a : Nat} (C0 : q_At p s m args meth c y0 b0 n0 r0) (V : q_Wd D g A s ws H locs) (ho : y0.cls = own) (L : q_LI own index y b n k) (hM : Met l y (q_w y b n none) (q_rm d mc ms) (q_P D g (.ref a :: As) ws H.size) Qc mc ms (va_A ws H.size)) (hn : As.length = k) (hsz : ls.size = n0) (hst : st0 = As.reverse ++ .ref a :: rest) (hcat : (rest.map fun v => v.category).sum ≤ 8) (hR : d + 1 ≤ R.frames ∧ 8 + (n + 11) + 64 * d ≤ R.locals) (hf : cells + mc ≤ R.cells ∧ slots + ms ≤ R.slots) (hdg : decode b0 pc = .ok (.invokespecial index, 3)) :
    va_Run p l e R s m args below meth c H locs cells slots mc ms (F0 m pc ls st0) rest (Qc (Value.ref a :: As).toArray) (va_A ws H.size) :=
  va_runI (As := As) (rest := rest) ⟨C0.1, C0.2.1, C0.2.2.2.1, by rw [← ho]; exact C0.2.2.2.2.1, C0.2.2.2.2.2.1⟩ hM ⟨q_callB C0 L.1 L.2.1 L.2.2.1 L.2.2.2.2.2 hR, L.2.2.2.2.1, C0.2.2.2.2.2.1 _ L.2.2.2.1⟩
    ⟨q_blind, fun U hU hW => q_pre V U hU hW⟩ rfl hn hsz hst (lv_room hcat) hdg hf
theorem q_gov {a : Array Value} {post : va_W → Prop} (V : q_Wd D g A s ws H locs) (hr : va_Run p l e R s m args below meth c H locs cells slots mc ms (F0 m pc ls st0) rest (va_Qv post (q_B D g (va_A ws H.size)) (va_A ws H.size) a) (va_A ws H.size))
    (kk : ∀ (ws1 : va_W) (H1 : Heap) (locs1 : List Loc), post ws1 → q_Wd D g A s ws1 H1 locs1 → W p l e R s m args below meth c H1 locs1 (cells + mc) (slots + ms) Q (F0 m (pc + 3) ls rest)) : W p l e R s m args below meth c H locs cells slots Q (F0 m pc ls st0) :=
  va_callv hr V.2.2.1 (fun q _ h => q_fr V.2.1 V.2.2.1 V.2.2.2.2.2 q h) (q_fr V.2.1 V.2.2.1 V.2.2.2.2.2) (fun u t H1 locs1 ht hvm hp hB hz hk hS => kk u H1 locs1 hp ⟨by rw [← ht]; exact hB.1, hB.2.2.weaken (fun _ q _ h => q_fr V.2.1 V.2.2.1 V.2.2.2.2.2 q.1 h), hS, V.2.2.2.1, V.2.2.2.2.1, V.2.2.2.2.2⟩)
theorem q_goi {a : Array Value} {post : Int32 → va_W → Prop} (V : q_Wd D g A s ws H locs) (hr : va_Run p l e R s m args below meth c H locs cells slots mc ms (F0 m pc ls st0) rest (va_Qi post (q_B D g (va_A ws H.size)) (va_A ws H.size) a) (va_A ws H.size))
    (kk : ∀ (v : Int32) (ws1 : va_W) (H1 : Heap) (locs1 : List Loc), post v ws1 → q_Wd D g A s ws1 H1 locs1 → W p l e R s m args below meth c H1 locs1 (cells + mc) (slots + ms) Q (F0 m (pc + 3) ls (.int v :: rest))) : W p l e R s m args below meth c H locs cells slots Q (F0 m pc ls st0) :=
  va_calli hr V.2.2.1 (fun q _ h => q_fr V.2.1 V.2.2.1 V.2.2.2.2.2 q h) (q_fr V.2.1 V.2.2.1 V.2.2.2.2.2) (fun v u t H1 locs1 ht hvm hp hB hz hk hS => kk v u H1 locs1 hp ⟨by rw [← ht]; exact hB.1, hB.2.2.weaken (fun _ q _ h => q_fr V.2.1 V.2.2.1 V.2.2.2.2.2 q.1 h), hS, V.2.2.2.1, V.2.2.2.2.1, V.2.2.2.2.2⟩)
theorem q_gol {a : Array Value} {post : Int64 → va_W → Prop} (V : q_Wd D g A s ws H locs) (hr : va_Run p l e R s m args below meth c H locs cells slots mc ms (F0 m pc ls st0) rest (va_Ql post (q_B D g (va_A ws H.size)) (va_A ws H.size) a) (va_A ws H.size))
    (kk : ∀ (v : Int64) (ws1 : va_W) (H1 : Heap) (locs1 : List Loc), post v ws1 → q_Wd D g A s ws1 H1 locs1 → W p l e R s m args below meth c H1 locs1 (cells + mc) (slots + ms) Q (F0 m (pc + 3) ls (.long v :: rest))) : W p l e R s m args below meth c H locs cells slots Q (F0 m pc ls st0) :=
  va_calll hr V.2.2.1 (fun q _ h => q_fr V.2.1 V.2.2.1 V.2.2.2.2.2 q h) (q_fr V.2.1 V.2.2.1 V.2.2.2.2.2) (fun v u t H1 locs1 ht hvm hp hB hz hk hS => kk v u H1 locs1 hp ⟨by rw [← ht]; exact hB.1, hB.2.2.weaken (fun _ q _ h => q_fr V.2.1 V.2.2.1 V.2.2.2.2.2 q.1 h), hS, V.2.2.2.1, V.2.2.2.2.1, V.2.2.2.2.2⟩)
end QC
