/-! loops; numbers of 32 bits as integers; rows of zeros; fields of nested classes; tables; arraycopy -/
section QL
variable {p : Program} {l : Launch} {e : Env} {R : Room} {s : State} {m : MethodId} {args : Array Value} {below : List Frame} {meth : Method} {c : Code} {H : Heap} {locs : List Loc} {cells slots : Nat} {Q : State → Prop}
variable {D : va_G} {g : Nat → ClassId} {A : Nat → Prop} {ws : va_W} {y0 : MethodName} {b0 : ByteArray} {n0 : Nat} {r0 : Option FieldType} {pc : Nat} {ls : Array Slot} {rest : List Value} {own : String} {index : Nat}
/-- a loop: I stands at its head, the measure falls -/
theorem q_loop {X : Type} (I : X → Heap → List Loc → Array Slot → va_W → Prop) (μ : X → Nat)
    (body : ∀ (x : X) (H : Heap) (locs : List Loc) (ls : Array Slot) (u : va_W), I x H locs ls u → (∀ (x' : X) (H' : Heap) (locs' : List Loc) (ls' : Array Slot) (u' : va_W), μ x' < μ x → I x' H' locs' ls' u' → W p l e R s m args below meth c H' locs' cells slots Q (F0 m pc ls' rest)) → W p l e R s m args below meth c H locs cells slots Q (F0 m pc ls rest))
    (x0 : X) (H0 : Heap) (locs0 : List Loc) (ls0 : Array Slot) (u0 : va_W) (h0 : I x0 H0 locs0 ls0 u0) : W p l e R s m args below meth c H0 locs0 cells slots Q (F0 m pc ls0 rest) := by
  have key : ∀ (n : Nat) (x : X) (H : Heap) (locs : List Loc) (ls : Array Slot) (u : va_W), μ x < n → I x H locs ls u → W p l e R s m args below meth c H locs cells slots Q (F0 m pc ls rest) := by
    intro n
    induction n with
    | zero => intro x H locs ls u h; omega
    | succ n ih => intro x H locs ls u h hI; exact body x H locs ls u hI (fun x' H' locs' ls' u' h' hI' => ih x' H' locs' ls' u' (by omega) hI')
  exact key (μ x0 + 1) x0 H0 locs0 ls0 u0 (by omega) h0
end QL
theorem q_lw {ls : Array Slot} {n : Nat} {l l' : List (Nat × Value)} (h : lv_has ls n l) (hs : ∀ q ∈ l', q ∈ l) : lv_has ls n l' := ⟨h.1, h.2.1, fun q hq => h.2.2 q (hs q hq)⟩
theorem q_lw0 {l : List (Nat × Value)} : ∀ q ∈ ([] : List (Nat × Value)), q ∈ l := fun _ h => absurd h List.not_mem_nil
theorem q_lw1 {l l' : List (Nat × Value)} {x : Nat × Value} (i : Nat) (h : l[i]? = some x) (t : ∀ q ∈ l', q ∈ l) : ∀ q ∈ x :: l', q ∈ l := fun q hq => by
  rcases List.mem_cons.mp hq with e | e
  · exact e ▸ List.mem_of_getElem? h
  · exact t q e
/-! 32 bits as integers -/
theorem q_ltI {a b : Int32} (h : a < b) : a.toInt < b.toInt := Int32.lt_iff_toInt_lt.mp h
theorem q_leI {a b : Int32} (h : a ≤ b) : a.toInt ≤ b.toInt := Int32.le_iff_toInt_le.mp h
theorem q_nltI {a b : Int32} (h : ¬ a < b) : b.toInt ≤ a.toInt := Int32.le_iff_toInt_le.mp (Int32.not_lt.mp h)
theorem q_nleI {a b : Int32} (h : ¬ a ≤ b) : b.toInt < a.toInt := Int32.lt_iff_toInt_lt.mp (Int32.not_le.mp h)
theorem q_eqI {a b : Int32} (h : a = b) : a.toInt = b.toInt := congrArg Int32.toInt h
theorem q_neI {a b : Int32} (h : ¬ a = b) : a.toInt ≠ b.toInt := fun q => h (Int32.toInt_inj.mp q)
theorem q_Ilt {a b : Int32} {x y : Int} (ha : a.toInt = x) (hb : b.toInt = y) (h : x < y) : a < b := Int32.lt_iff_toInt_lt.mpr (by omega)
theorem q_Ile {a b : Int32} {x y : Int} (ha : a.toInt = x) (hb : b.toInt = y) (h : x ≤ y) : a ≤ b := Int32.le_iff_toInt_le.mpr (by omega)
theorem q_Ieq {a b : Int32} {x y : Int} (ha : a.toInt = x) (hb : b.toInt = y) (h : x = y) : a = b := Int32.toInt_inj.mp (by omega)
theorem q_Ine {a b : Int32} {x y : Int} (ha : a.toInt = x) (hb : b.toInt = y) (h : x ≠ y) : ¬ a = b := fun q => h (by rw [← ha, ← hb, q])
theorem q_bm {x : Int} (h1 : -2147483648 ≤ x) (h2 : x ≤ 2147483647) : x.bmod (2 ^ 32) = x := by
  have : ((2 ^ 32 : Nat) : Int) = 4294967296 := rfl
  rw [Int.bmod_def, this]
  split <;> omega
theorem q_addI {a b : Int32} {x y : Int} (ha : a.toInt = x) (hb : b.toInt = y) (h1 : -2147483648 ≤ x + y) (h2 : x + y ≤ 2147483647) : (a + b).toInt = x + y := by
  rw [Int32.toInt_add, ha, hb]; exact q_bm h1 h2
theorem q_subI {a b : Int32} {x y : Int} (ha : a.toInt = x) (hb : b.toInt = y) (h1 : -2147483648 ≤ x - y) (h2 : x - y ≤ 2147483647) : (a - b).toInt = x - y := by
  rw [Int32.toInt_sub, ha, hb]; exact q_bm h1 h2
theorem q_mulI {a b : Int32} {x y : Int} (ha : a.toInt = x) (hb : b.toInt = y) (h1 : -2147483648 ≤ x * y) (h2 : x * y ≤ 2147483647) : (a * b).toInt = x * y := by
  rw [Int32.toInt_mul, ha, hb]; exact q_bm h1 h2
theorem q_clI {i : Int32} {x : Int} (h : i.toInt = x) (h0 : 0 ≤ x) : ((i.toNatClampNeg : Nat) : Int) = x := by
  have : i.toNatClampNeg = i.toInt.toNat := rfl
  rw [this, h]; omega
theorem q_ix {i : Int32} {n : Nat} {x : Int} (h : i.toInt = x) (h0 : 0 ≤ x) (h1 : x < n) : vp_in i n := by
  have h2 := q_clI h h0
  unfold vp_in
  rintro (h3 | h3)
  · have h4 : i.toInt < 0 := Int32.lt_iff_toInt_lt.mp h3
    omega
  · omega
theorem q_upd0 {i : Nat} : upd (fun _ => 0) i 0 = fun _ => 0 := by
  funext j; unfold upd; split <;> rfl
theorem q_updL0 {i : Nat} : vp_updL (fun _ => 0) i 0 = fun _ => 0 := by
  funext j; unfold vp_updL; split <;> rfl
/-- a cell's content in another form -/
theorem q_re {ws : va_W} {k : Nat} {x y : Nat × va_E} (h : ws[k]? = some x) (e : x = y) : ws[k]? = some y := e ▸ h
section QN
variable {p : Program} {l : Launch} {e : Env} {R : Room} {s : State} {m : MethodId} {args : Array Value} {below : List Frame} {meth : Method} {c : Code} {H : Heap} {locs : List Loc} {cells slots : Nat} {Q : State → Prop}
variable {D : va_G} {g : Nat → ClassId} {A : Nat → Prop} {ws : va_W} {y0 : MethodName} {b0 : ByteArray} {n0 : Nat} {r0 : Option FieldType} {pc : Nat} {ls : Array Slot} {rest st0 As : List Value} {a k n : Nat} {i : Int32} {own : String} {index : Nat}
theorem q_getN {C host : String} {T : u_T} {N ci : Nat} {fs : List Value} {v : Value} {j : Nat} (C0 : q_At p s m args meth c y0 b0 n0 r0) (V : q_Wd D g A s ws H locs) (hin : ∀ w ∈ u_ws C T N, w ∈ q_tbl) (ho : y0.cls = own) (hc : q_cl[ci]? = some (C, T, N)) (he : ws[k]? = some (a, .inr (ci, fs))) (hj : j < N) (hw : Cond.fieldLinkNest own index (T j).1 (T j).2.1 (T j).2.2.1 host ∈ q_odd) (hv : fs[j]? = some v) (hdg : decode b0 pc = .ok (.getfield index, 3))
    (kk : W p l e R s m args below meth c H locs cells slots Q (F0 m (pc + 3) ls (v :: rest))) : W p l e R s m args below meth c H locs cells slots Q (F0 m pc ls (.ref a :: rest)) :=
  va_getN (host := host) C0.1 C0.2.1 C0.2.2.2.2.2.1 hin (by rw [← ho]; exact C0.2.2.2.2.1) V.2.2.2.1.1 V.1 k he hc j hj (va_Nw.use rfl (V.2.2.2.2.1.1.2.2.2.2 _ hw)) (fun _ h => h) hv hdg kk
theorem q_putN {C host : String} {T : u_T} {N ci : Nat} {fs : List Value} {v : Value} {j : Nat} {t : Nat → FieldType} {ty : FieldType} (C0 : q_At p s m args meth c y0 b0 n0 r0) (V : q_Wd D g A s ws H locs) (hin : ∀ w ∈ u_ws C T N, w ∈ q_tbl) (ht : ∀ k, k < N → parseFieldDescriptor (T k).2.2.1 = some (t k)) (hnm : ∀ a, a < N → ∀ b, b < N → a ≠ b → (T a).2.1 ≠ (T b).2.1) (ho : y0.cls = own) (hc : q_cl[ci]? = some (C, T, N)) (he : ws[k]? = some (a, .inr (ci, fs))) (hj : j < N) (hw : Cond.fieldLinkNest own index (T j).1 (T j).2.1 (T j).2.2.1 host ∈ q_odd) (hfin : (T j).2.2.2 = false) (hty : t j = ty) (hn : narrow ty v = v) (hf : fits ty v = true) (hl : j < fs.length) (hdg : decode b0 pc = .ok (.putfield index, 3))
    (kk : ∀ (H1 : Heap) (locs1 : List Loc) (u : va_W), (∀ i, i ≠ k → u[i]? = ws[i]?) → u[k]? = some (a, .inr (ci, fs.set j v)) → q_Wd D g A s u H1 locs1 → W p l e R s m args below meth c H1 locs1 cells slots Q (F0 m (pc + 3) ls rest)) : W p l e R s m args below meth c H locs cells slots Q (F0 m pc ls (v :: .ref a :: rest)) :=
  va_putN (host := host) C0.1 C0.2.1 C0.2.2.2.2.2.1 hin t ht hnm (by rw [← ho]; exact C0.2.2.2.2.1) V.2.2.2.1.1 V.1 V.2.1 V.2.2.1 k he hc j hj (va_Nw.use rfl (V.2.2.2.2.1.1.2.2.2.2 _ hw)) (fun _ h => h) hfin (by rw [← hty]; exact ht j hj) hn hf hl hdg
    (fun H1 locs1 h1 h2 h3 => kk H1 locs1 _ (fun i hi => List.getElem?_set_ne (Ne.symm hi)) (q_se he) ⟨h1, h2, h3, V.2.2.2.1, V.2.2.2.2.1, V.2.2.2.2.2⟩)
theorem q_zast {f : Nat → Int32} {x : Int32} (C0 : q_At p s m args meth c y0 b0 n0 r0) (V : q_Wd D g A s ws H locs) (he : ws[k]? = some (a, .inl (g 3, n, .inl f))) (hin : vp_in i n) (hdg : decode b0 pc = .ok (.bastore, 1))
    (kk : ∀ (H1 : Heap) (locs1 : List Loc) (u : va_W), (∀ i, i ≠ k → u[i]? = ws[i]?) → u[k]? = some (a, .inl (g 3, n, .inl (upd f i.toNatClampNeg (vp_nar .boolean x)))) → q_Wd D g A s u H1 locs1 → W p l e R s m args below meth c H1 locs1 cells slots Q (F0 m (pc + 1) ls rest)) : W p l e R s m args below meth c H locs cells slots Q (F0 m pc ls (.int x :: .int i :: .ref a :: rest)) :=
  va_zast C0.1 C0.2.1 V.2.2.2.1.1 V.1 V.2.1 V.2.2.1 k 3 he rfl hin hdg (fun H1 locs1 h1 h2 h3 => kk H1 locs1 _ (fun i hi => List.getElem?_set_ne (Ne.symm hi)) (q_se he) ⟨h1, h2, h3, V.2.2.2.1, V.2.2.2.2.1, V.2.2.2.2.2⟩)
/-- the tables of Big: their row, and a place in it -/
theorem q_tens (C0 : q_At p s m args meth c y0 b0 n0 r0) (V : q_Wd D g A s ws H locs) (ho : y0.cls = own) (hw : Cond.fieldLink own index "NumberHouse$Big" "TENS" "[I" ∈ q_tbl) (hdg : decode b0 pc = .ok (.getstatic index, 3))
    (kk : ∀ t : Nat, va_T .int t 10 q_ten A s s.heap → W p l e R s m args below meth c H locs cells slots Q (F0 m (pc + 3) ls (.ref t :: rest))) : W p l e R s m args below meth c H locs cells slots Q (F0 m pc ls rest) := by
  obtain ⟨⟨t, h1, h2⟩, -⟩ := V.2.2.2.2.1.1
  exact va_gets C0.1 C0.2.1 h1 V.2.2.1 (by rw [← ho]; exact C0.2.2.2.2.1) (C0.2.2.2.2.2.1 _ hw) (fun _ h => h) hdg (kk t h2)
theorem q_fives (C0 : q_At p s m args meth c y0 b0 n0 r0) (V : q_Wd D g A s ws H locs) (ho : y0.cls = own) (hw : Cond.fieldLink own index "NumberHouse$Big" "FIVES" "[I" ∈ q_tbl) (hdg : decode b0 pc = .ok (.getstatic index, 3))
    (kk : ∀ t : Nat, va_T .int t 14 q_five A s s.heap → W p l e R s m args below meth c H locs cells slots Q (F0 m (pc + 3) ls (.ref t :: rest))) : W p l e R s m args below meth c H locs cells slots Q (F0 m pc ls rest) := by
  obtain ⟨-, ⟨t, h1, h2⟩, -⟩ := V.2.2.2.2.1.1
  exact va_gets C0.1 C0.2.1 h1 V.2.2.1 (by rw [← ho]; exact C0.2.2.2.2.1) (C0.2.2.2.2.2.1 _ hw) (fun _ h => h) hdg (kk t h2)
theorem q_tald {t N : Nat} {f : Nat → Value} {v : Value} (C0 : q_At p s m args meth c y0 b0 n0 r0) (V : q_Wd D g A s ws H locs) (hT : va_T .int t N f A s s.heap) (hin : vp_in i N) (hv : f i.toNatClampNeg = v) (hdg : decode b0 pc = .ok (.iaload, 1))
    (kk : W p l e R s m args below meth c H locs cells slots Q (F0 m (pc + 1) ls (v :: rest))) : W p l e R s m args below meth c H locs cells slots Q (F0 m pc ls (.int i :: .ref t :: rest)) :=
  va_ti C0.1 C0.2.1 hT V.2.2.1 hin hv hdg kk
/-- System.arraycopy between two rows of int -/
theorem q_copy {k1 a1 n1 : Nat} {f f1 : Nat → Int32} {sp dp z : Int32} (C0 : q_At p s m args meth c y0 b0 n0 r0) (V : q_Wd D g A s ws H locs) (hsz : ls.size = n0) (ho : y0.cls = own) (w1 : Cond.methodLink own index arraycopyName ∈ q_tbl) (w2 : Cond.native arraycopyName ∈ q_tbl) (w3 : Cond.static arraycopyName ∈ q_tbl) (w4 : Cond.initialized "java/lang/System" ∈ q_tbl) (he : ws[k]? = some (a, .inl (g 0, n, .inl f))) (he1 : ws[k1]? = some (a1, .inl (g 0, n1, .inl f1))) (h1 : ¬ sp < 0) (h2 : ¬ dp < 0) (h3 : ¬ z < 0) (h4 : sp.toNatClampNeg + z.toNatClampNeg ≤ n) (h5 : dp.toNatClampNeg + z.toNatClampNeg ≤ n1) (hR : 1 ≤ R.frames ∧ (rest.map fun v => v.category).sum + (nativeFrameWords "java/lang/System" "arraycopy" 5 + 11) ≤ R.locals) (hdg : decode b0 pc = .ok (.invokestatic index, 3))
    (kk : ∀ (H1 : Heap) (locs1 : List Loc) (u : va_W), (∀ i, i ≠ k1 → u[i]? = ws[i]?) → u[k1]? = some (a1, .inl (g 0, n1, .inl (va_cpy f f1 sp.toNatClampNeg dp.toNatClampNeg z.toNatClampNeg))) → q_Wd D g A s u H1 locs1 → W p l e R s m args below meth c H1 locs1 cells slots Q (F0 m (pc + 3) ls rest)) : W p l e R s m args below meth c H locs cells slots Q (F0 m pc ls (.int z :: .int dp :: .ref a1 :: .int sp :: .ref a :: rest)) :=
  va_copyi C0.1 C0.2.1 (by rw [hsz]; exact C0.2.2.2.1) (by rw [← ho]; exact C0.2.2.2.2.1) (C0.2.2.2.2.2.1 _ w1) (C0.2.2.2.2.2.1 _ w2) (C0.2.2.2.2.2.1 _ w3) (C0.2.2.2.2.2.1 _ w4) V.2.2.2.1.1 V.1 V.2.1 V.2.2.1 k k1 0 0 he he1 rfl rfl rfl h1 h2 h3 h4 h5 (fun _ _ => rfl) hR.1 hR.2 hdg
    (fun H1 locs1 x1 x2 x3 => kk H1 locs1 _ (fun i hi => List.getElem?_set_ne (Ne.symm hi)) (q_se he1) ⟨x1, x2, x3, V.2.2.2.1, V.2.2.2.2.1, V.2.2.2.2.2⟩)
theorem q_cpy0 {α : Type} {f f1 : Nat → α} {a b : Nat} : va_cpy f f1 a b 0 = f1 := by
  funext k; unfold va_cpy; rw [if_neg (by omega)]
theorem q_gor {mc ms : Nat} {aa : Array Value} {post : Nat → va_W → Prop} (V : q_Wd D g A s ws H locs) (hr : va_Run p l e R s m args below meth c H locs cells slots mc ms (F0 m pc ls st0) rest (va_Qr (fun u : Nat × va_W => post u.1 u.2) (fun u x t => x = u.1 ∧ q_B D g (va_A ws H.size) u.2 t) (va_A ws H.size) aa) (va_A ws H.size))
    (kk : ∀ (v : Nat) (ws1 : va_W) (H1 : Heap) (locs1 : List Loc), post v ws1 → q_Wd D g A s ws1 H1 locs1 → W p l e R s m args below meth c H1 locs1 (cells + mc) (slots + ms) Q (F0 m (pc + 3) ls (.ref v :: rest))) : W p l e R s m args below meth c H locs cells slots Q (F0 m pc ls st0) :=
  va_callr hr V.2.2.1 (fun q _ h => q_fr V.2.1 V.2.2.1 V.2.2.2.2.2 q h) (q_fr V.2.1 V.2.2.1 V.2.2.2.2.2) (fun u ra t H1 locs1 ht hvm hp hB hz hk hS => by
    obtain ⟨e1, hB⟩ := hB
    subst e1
    exact kk u.1 u.2 H1 locs1 hp ⟨by rw [← ht]; exact hB.1, hB.2.2.weaken (fun _ q _ h => q_fr V.2.1 V.2.2.1 V.2.2.2.2.2 q.1 h), hS, V.2.2.2.1, V.2.2.2.2.1, V.2.2.2.2.2⟩)
end QN
/-- from the place B on all is as it was -/
def q_ge (B : Nat) (ws u : va_W) : Prop := ∀ i, B ≤ i → u[i]? = ws[i]?
theorem q_g0 {B : Nat} {ws : va_W} : q_ge B ws ws := fun _ _ => rfl
theorem q_gs {B k : Nat} {ws u u2 : va_W} (h : q_ge B ws u) (hu : ∀ i, i ≠ k → u2[i]? = u[i]?) (hk : k < B) : q_ge B ws u2 := fun i hi => (hu i (by omega)).trans (h i hi)
theorem q_gc {B : Nat} {ws u u2 : va_W} {ks : List Nat} (h : q_ge B ws u) (hu : q_un u u2 ks) (hk : ∀ k, k ∈ ks → k < B) : q_ge B ws u2 := fun i hi => (hu i (fun q => absurd (hk i q) (by omega))).trans (h i hi)
theorem q_gt {B : Nat} {ws u u2 : va_W} (h : q_ge B ws u) (h2 : q_ge B u u2) : q_ge B ws u2 := fun i hi => (h2 i hi).trans (h i hi)
theorem q_f5 {a i c : Nat} (h : Nat.ble a c = false) : a + 5 * i ≠ c := fun e => by
  have h1 : ¬ a ≤ c := fun q => by rw [Nat.ble_eq_true_of_le q] at h; cases h
  omega
theorem q_r10 {i : Int32} {x : Int} (h : i.toInt = x) (h0 : 0 ≤ x) (h1 : x < 10) : i.toNatClampNeg < 10 := by
  have h2 := q_clI h h0
  omega
theorem q_ldcw {p : Program} {l : Launch} {e : Env} {R : Room} {s : State} {m : MethodId} {args : Array Value} {below : List Frame} {meth : Method} {c : Code} {H : Heap} {locs : List Loc} {cells slots : Nat} {Q : State → Prop} {y0 : MethodName} {b0 : ByteArray} {n0 : Nat} {r0 : Option FieldType} {pc : Nat} {ls : Array Slot} {rest : List Value} {own : String} {index : Nat} {v : Int32} (C0 : q_At p s m args meth c y0 b0 n0 r0) (ho : y0.cls = own) (hw : Cond.constant own index v ∈ q_tbl) (hdg : decode b0 pc = .ok (.ldc_w index, 3))
    (kk : W p l e R s m args below meth c H locs cells slots Q (F0 m (pc + 3) ls (.int v :: rest))) : W p l e R s m args below meth c H locs cells slots Q (F0 m pc ls rest) :=
  lv_ldcw C0.1 C0.2.1 (by rw [← ho]; exact C0.2.2.2.2.1) (C0.2.2.2.2.2.1 _ hw) hdg kk
theorem q_cpyz {a b n : Nat} : va_cpy (fun _ => (0 : Int32)) (fun _ => 0) a b n = fun _ => 0 := by
  funext k; unfold va_cpy; split <;> rfl
/-! 64 bits as integers -/
theorem q_lo32 {x : Int32} : -2147483648 ≤ x.toInt := Int32.le_toInt x
theorem q_hi32 {x : Int32} : x.toInt < 2147483648 := Int32.toInt_lt x
theorem q_i2l {a : Int32} {x : Int} (h : a.toInt = x) : a.toInt64.toInt = x := by rw [Int32.toInt_toInt64, h]
theorem q_bmL {x : Int} (h1 : -9223372036854775808 ≤ x) (h2 : x ≤ 9223372036854775807) : x.bmod (2 ^ 64) = x := by
  have : ((2 ^ 64 : Nat) : Int) = 18446744073709551616 := rfl
  rw [Int.bmod_def, this]
  split <;> omega
theorem q_addL {a b : Int64} {x y : Int} (ha : a.toInt = x) (hb : b.toInt = y) (h1 : -9223372036854775808 ≤ x + y) (h2 : x + y ≤ 9223372036854775807) : (a + b).toInt = x + y := by
  rw [Int64.toInt_add, ha, hb]; exact q_bmL h1 h2
theorem q_subL {a b : Int64} {x y : Int} (ha : a.toInt = x) (hb : b.toInt = y) (h1 : -9223372036854775808 ≤ x - y) (h2 : x - y ≤ 9223372036854775807) : (a - b).toInt = x - y := by
  rw [Int64.toInt_sub, ha, hb]; exact q_bmL h1 h2
theorem q_mulL {a b : Int64} {x y : Int} (ha : a.toInt = x) (hb : b.toInt = y) (h1 : -9223372036854775808 ≤ x * y) (h2 : x * y ≤ 9223372036854775807) : (a * b).toInt = x * y := by
  rw [Int64.toInt_mul, ha, hb]; exact q_bmL h1 h2
theorem q_cmL {a b : Int64} {x y : Int} (ha : a.toInt = x) (hb : b.toInt = y) (h : x < y) : lg_cmp a b = -1 := by
  have h2 : ¬ a > b := fun q => by have := Int64.lt_iff_toInt_lt.mp q; omega
  have h3 : ¬ a = b := fun q => by subst q; omega
  unfold lg_cmp
  rw [if_neg h2, if_neg h3]
theorem q_cmG {a b : Int64} {x y : Int} (ha : a.toInt = x) (hb : b.toInt = y) (h : y < x) : lg_cmp a b = 1 := by
  have h1 : a > b := Int64.lt_iff_toInt_lt.mpr (by omega)
  unfold lg_cmp
  rw [if_pos h1]
theorem q_cmE {a b : Int64} {x y : Int} (ha : a.toInt = x) (hb : b.toInt = y) (h : x = y) : lg_cmp a b = 0 := by
  have h1 : a = b := Int64.toInt_inj.mp (by omega)
  subst h1
  have h2 : ¬ a > a := fun q => by have := Int64.lt_iff_toInt_lt.mp q; omega
  unfold lg_cmp
  rw [if_neg h2, if_pos rfl]
theorem q_cm3 (a b : Int64) : (a.toInt < b.toInt ∧ lg_cmp a b = -1) ∨ (a.toInt = b.toInt ∧ lg_cmp a b = 0) ∨ (b.toInt < a.toInt ∧ lg_cmp a b = 1) := by
  rcases Int.lt_trichotomy a.toInt b.toInt with h | h | h
  · exact Or.inl ⟨h, q_cmL rfl rfl h⟩
  · exact Or.inr (Or.inl ⟨h, q_cmE rfl rfl h⟩)
  · exact Or.inr (Or.inr ⟨h, q_cmG rfl rfl h⟩)
theorem q_k1 {a b : Int64} (h : lg_cmp a b < 0) : a.toInt < b.toInt := by
  rcases q_cm3 a b with ⟨q, e⟩ | ⟨q, e⟩ | ⟨q, e⟩ <;> first | exact q | (rw [e] at h; exact absurd h (by decide))
theorem q_k2 {a b : Int64} (h : ¬ lg_cmp a b < 0) : b.toInt ≤ a.toInt := by
  rcases q_cm3 a b with ⟨q, e⟩ | ⟨q, e⟩ | ⟨q, e⟩ <;> first | omega | (rw [e] at h; exact absurd h (by decide))
theorem q_k3 {a b : Int64} (h : 0 < lg_cmp a b) : b.toInt < a.toInt := by
  rcases q_cm3 a b with ⟨q, e⟩ | ⟨q, e⟩ | ⟨q, e⟩ <;> first | exact q | (rw [e] at h; exact absurd h (by decide))
theorem q_k4 {a b : Int64} (h : ¬ 0 < lg_cmp a b) : a.toInt ≤ b.toInt := by
  rcases q_cm3 a b with ⟨q, e⟩ | ⟨q, e⟩ | ⟨q, e⟩ <;> first | omega | (rw [e] at h; exact absurd h (by decide))
theorem q_k5 {a b : Int64} (h : lg_cmp a b ≤ 0) : a.toInt ≤ b.toInt := by
  rcases q_cm3 a b with ⟨q, e⟩ | ⟨q, e⟩ | ⟨q, e⟩ <;> first | omega | (rw [e] at h; exact absurd h (by decide))
theorem q_k6 {a b : Int64} (h : ¬ lg_cmp a b ≤ 0) : b.toInt < a.toInt := by
  rcases q_cm3 a b with ⟨q, e⟩ | ⟨q, e⟩ | ⟨q, e⟩ <;> first | exact q | (rw [e] at h; exact absurd h (by decide))
theorem q_k7 {a b : Int64} (h : 0 ≤ lg_cmp a b) : b.toInt ≤ a.toInt := by
  rcases q_cm3 a b with ⟨q, e⟩ | ⟨q, e⟩ | ⟨q, e⟩ <;> first | omega | (rw [e] at h; exact absurd h (by decide))
theorem q_k8 {a b : Int64} (h : ¬ 0 ≤ lg_cmp a b) : a.toInt < b.toInt := by
  rcases q_cm3 a b with ⟨q, e⟩ | ⟨q, e⟩ | ⟨q, e⟩ <;> first | exact q | (rw [e] at h; exact absurd h (by decide))
theorem q_k9 {a b : Int64} (h : lg_cmp a b = 0) : a.toInt = b.toInt := by
  rcases q_cm3 a b with ⟨q, e⟩ | ⟨q, e⟩ | ⟨q, e⟩ <;> first | exact q | (rw [e] at h; exact absurd h (by decide))
theorem q_k10 {a b : Int64} (h : ¬ lg_cmp a b = 0) : a.toInt ≠ b.toInt := by
  rcases q_cm3 a b with ⟨q, e⟩ | ⟨q, e⟩ | ⟨q, e⟩ <;> first | omega | (rw [e] at h; exact absurd h (by decide))
theorem q_negI {a : Int32} {x : Int} (ha : a.toInt = x) (h : -2147483647 ≤ x) : (-a).toInt = -x := by
  have hb := q_hi32 (x := a)
  rw [ha] at hb
  rw [Int32.toInt_neg, ha]; exact q_bm (by omega) (by omega)
theorem q_cpy1 {f f1 : Nat → Int32} : va_cpy f f1 (0 : Int32).toNatClampNeg (0 : Int32).toNatClampNeg (1 : Int32).toNatClampNeg = upd f1 0 (f 0) := by
  funext k; show va_cpy f f1 0 0 1 k = _; unfold va_cpy upd
  by_cases h : k = 0
  · subst h; rfl
  · rw [if_neg (by omega), if_neg h]
theorem q_cpy2 {f f1 : Nat → Int32} : va_cpy f f1 (0 : Int32).toNatClampNeg (0 : Int32).toNatClampNeg (2 : Int32).toNatClampNeg = upd (upd f1 0 (f 0)) 1 (f 1) := by
  funext k; show va_cpy f f1 0 0 2 k = _; unfold va_cpy upd
  by_cases h : k = 0
  · subst h; rfl
  · by_cases h1 : k = 1
    · subst h1; rfl
    · rw [if_neg (by omega), if_neg h1, if_neg h]
theorem q_cpy3 {f f1 : Nat → Int32} : va_cpy f f1 (0 : Int32).toNatClampNeg (0 : Int32).toNatClampNeg (3 : Int32).toNatClampNeg = upd (upd (upd f1 0 (f 0)) 1 (f 1)) 2 (f 2) := by
  funext k; show va_cpy f f1 0 0 3 k = _; unfold va_cpy upd
  by_cases h : k = 0
  · subst h; rfl
  · by_cases h1 : k = 1
    · subst h1; rfl
    · by_cases h2 : k = 2
      · subst h2; rfl
      · rw [if_neg (by omega), if_neg h2, if_neg h1, if_neg h]
theorem q_a63 {a : Int32} : (a &&& 63).toInt = ((a.toBitVec.toNat &&& 63 : Nat) : Int) := by
  have h1 : (a &&& 63).toBitVec.toNat = a.toBitVec.toNat &&& 63 := by
    rw [Int32.toBitVec_and, BitVec.toNat_and]; rfl
  have h2 : a.toBitVec.toNat &&& 63 ≤ 63 := Nat.and_le_right
  show (a &&& 63).toBitVec.toInt = _
  rw [BitVec.toInt_eq_toNat_of_lt (by rw [h1]; omega), h1]
theorem q_a63l {a : Int32} : 0 ≤ a &&& 63 := Int32.le_iff_toInt_le.mpr (by rw [q_a63]; show (0 : Int) ≤ _; omega)
theorem q_a63h {a : Int32} : a &&& 63 ≤ 63 := Int32.le_iff_toInt_le.mpr (by
  rw [q_a63]; show _ ≤ (63 : Int)
  have h2 : a.toBitVec.toNat &&& 63 ≤ 63 := Nat.and_le_right
  omega)
theorem q_ups {f : Nat → Int32} {i : Nat} {x : Int32} (h : f i = x) : upd f i x = f := by
  funext k; unfold upd; split
  · subst_vars; rfl
  · rfl
theorem q_shr3 {x : Int32} (h0 : 0 ≤ x.toInt) (h1 : x.toInt < 11008) : vp_in (x >>> (3 &&& 31)) 1376 := by
  have e : (x >>> (3 &&& 31)).toInt = x.toInt / 8 := by
    show (x >>> (3 &&& 31)).toBitVec.toInt = _
    rw [Int32.toBitVec_shiftRight]
    have e1 : (BitVec.smod (3 &&& 31 : Int32).toBitVec 32) = 3#32 := by decide
    rw [e1, BitVec.toInt_sshiftRight']
    show x.toInt >>> 3 = _
    rw [Int.shiftRight_eq_div_pow]; rfl
  exact q_ix (x := x.toInt / 8) e (by omega) (by omega)
theorem q_cnt {a : Int32} {x : Int} (h : a.toInt = x) (h0 : -1 ≤ x) (h1 : x ≤ 200) : 1 ≤ ((a.toInt64 * 301029995) / 1000000000).toInt32 + 1 ∧ ((a.toInt64 * 301029995) / 1000000000).toInt32 + 1 ≤ 62 := by
  have e1 : (a.toInt64 * 301029995).toInt = x * 301029995 := q_mulL (q_i2l h) (by decide) (by omega) (by omega)
  have e2 : ((a.toInt64 * 301029995) / 1000000000).toInt = (x * 301029995).tdiv 1000000000 := by
    rw [Int64.toInt_div, e1, show (1000000000 : Int64).toInt = 1000000000 by decide]
    apply q_bmL
    · have : -1 ≤ (x * 301029995).tdiv 1000000000 := by
        rcases Int.lt_or_le x 0 with q | q
        · have : x = -1 := by omega
          subst this; decide
        · have := Int.tdiv_nonneg (a := x * 301029995) (b := 1000000000) (by omega) (by omega); omega
      omega
    · have : (x * 301029995).tdiv 1000000000 ≤ 61 := by
        rcases Int.lt_or_le x 0 with q | q
        · have : x = -1 := by omega
          subst this; decide
        · rw [Int.tdiv_eq_ediv_of_nonneg (by omega)]; omega
      omega
  have e3 : 0 ≤ (x * 301029995).tdiv 1000000000 ∧ (x * 301029995).tdiv 1000000000 ≤ 61 := by
    rcases Int.lt_or_le x 0 with q | q
    · have : x = -1 := by omega
      subst this; decide
    · rw [Int.tdiv_eq_ediv_of_nonneg (by omega)]; omega
  have e4 : ((a.toInt64 * 301029995) / 1000000000).toInt32.toInt = (x * 301029995).tdiv 1000000000 := by
    rw [Int64.toInt_toInt32, e2]; exact q_bm (by omega) (by omega)
  have e5 := q_addI (b := 1) (y := 1) e4 (by decide) (by omega) (by omega)
  exact ⟨q_Ile (x := 1) (by decide) e5 (by omega), q_Ile (y := 62) e5 (by decide) (by omega)⟩
theorem q_eI {a n : Nat} {c : ClassId} {f f1 : Nat → Int32} (h : f = f1) : ((a, .inl (c, n, .inl f)) : Nat × va_E) = (a, .inl (c, n, .inl f1)) := by rw [h]
theorem q_eL {a n : Nat} {c : ClassId} {f f1 : Nat → Int64} (h : f = f1) : ((a, .inl (c, n, .inr (.inl f))) : Nat × va_E) = (a, .inl (c, n, .inr (.inl f1))) := by rw [h]
theorem q_divI {a b : Int32} {x y : Int} (ha : a.toInt = x) (hb : b.toInt = y) (h0 : 0 ≤ x) (h1 : 0 < y) : (a / b).toInt = x / y := by
  have h2 := q_hi32 (x := a)
  rw [ha] at h2
  have h3 : x / y ≤ x := Int.ediv_le_self y h0
  have h4 : 0 ≤ x / y := Int.ediv_nonneg h0 (by omega)
  rw [Int32.toInt_div, ha, hb, Int.tdiv_eq_ediv_of_nonneg h0]
  exact q_bm (by omega) (by omega)
theorem q_zishr {b : Int32} : (0 : Int32) >>> (b &&& 31) = 0 := by
  apply Int32.toBitVec_inj.mp
  rw [Int32.toBitVec_shiftRight]
  apply BitVec.eq_of_toInt_eq
  rw [BitVec.toInt_sshiftRight']
  show (0 : Int) >>> _ = 0
  simp
/-! rows read and copied by a running place -/
theorem q_upn {f : Nat → Int32} {v i : Int32} {n : Nat} {x : Int} (h : i.toInt = x) (h0 : 0 ≤ x) (h1 : x ≠ n) : upd f n v i.toNatClampNeg = f i.toNatClampNeg := by
  have h2 := q_clI h h0
  unfold upd
  rw [if_neg (by omega)]
theorem q_upnL {f : Nat → Int64} {v : Int64} {i : Int32} {n : Nat} {x : Int} (h : i.toInt = x) (h0 : 0 ≤ x) (h1 : x ≠ n) : vp_updL f n v i.toNatClampNeg = f i.toNatClampNeg := by
  have h2 := q_clI h h0
  unfold vp_updL
  rw [if_neg (by omega)]
def q_mix (f g : Nat → Int32) (k : Int32) (j : Nat) : Int32 := if j < k.toNatClampNeg then f j else g j
theorem q_mx0 {f g : Nat → Int32} : g = q_mix f g 0 := by
  funext j; unfold q_mix; rw [if_neg (by show ¬ j < (0 : Int32).toNatClampNeg; have : (0 : Int32).toNatClampNeg = 0 := rfl; omega)]
theorem q_mxs {f g : Nat → Int32} {x y v : Int32} (hv : v = f x.toNatClampNeg) (h0 : 0 ≤ x.toInt) (hy : y.toInt = x.toInt + 1) : upd (q_mix f g x) x.toNatClampNeg v = q_mix f g y := by
  have h1 := q_clI (i := x) rfl h0
  have h2 := q_clI (i := y) rfl (by omega)
  funext j; unfold q_mix upd
  by_cases h : j = x.toNatClampNeg
  · rw [if_pos h, if_pos (by omega), h, hv]
  · rw [if_neg h]
    show (if j < x.toNatClampNeg then f j else g j) = _
    by_cases h3 : j < x.toNatClampNeg
    · rw [if_pos h3, if_pos (by omega)]
    · rw [if_neg h3, if_neg (by omega)]
theorem q_mxe {f g : Nat → Int32} {x : Int32} {n : Nat} (h : (n : Int) ≤ x.toInt) (hfg : ∀ j, n ≤ j → f j = g j) : q_mix f g x = f := by
  have h1 := q_clI (i := x) rfl (by omega)
  funext j; unfold q_mix
  by_cases h3 : j < x.toNatClampNeg
  · rw [if_pos h3]
  · rw [if_neg h3, hfg j (by omega)]
/-- a row that is filled with v from lo up to a running place -/
def q_fil (f : Nat → Int32) (lo : Nat) (v : Int32) (k : Int32) (j : Nat) : Int32 := if lo ≤ j ∧ j < k.toNatClampNeg then v else f j
theorem q_fl0 {f : Nat → Int32} {lo : Nat} {v k : Int32} (h : k.toNatClampNeg = lo := by rfl) : f = q_fil f lo v k := by
  funext j; unfold q_fil; rw [if_neg (by omega)]
theorem q_fls {f : Nat → Int32} {lo : Nat} {v x y : Int32} (h0 : (lo : Int) ≤ x.toInt) (hy : y.toInt = x.toInt + 1) : upd (q_fil f lo v x) x.toNatClampNeg v = q_fil f lo v y := by
  have h1 := q_clI (i := x) rfl (by omega)
  have h2 := q_clI (i := y) rfl (by omega)
  funext j; unfold q_fil upd
  by_cases h : j = x.toNatClampNeg
  · rw [if_pos h, if_pos (by omega)]
  · rw [if_neg h]
    show (if lo ≤ j ∧ j < x.toNatClampNeg then v else f j) = _
    by_cases h3 : lo ≤ j ∧ j < x.toNatClampNeg
    · rw [if_pos h3, if_pos (by omega)]
    · rw [if_neg h3, if_neg (by omega)]
theorem q_flr {f : Nat → Int32} {lo n : Nat} {v i k : Int32} {x : Int} (h : i.toInt = x) (hk : k.toNatClampNeg = n) (h0 : (lo : Int) ≤ x) (h1 : x < n) : q_fil f lo v k i.toNatClampNeg = v := by
  have h2 := q_clI h (by omega)
  unfold q_fil; rw [if_pos (by omega)]
