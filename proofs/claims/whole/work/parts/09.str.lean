/-! String constants: their rows, and calls of String's own methods on them -/
section QSTR
variable {p : Program} {l : Launch} {e : Env} {R : Room} {s : State} {m : MethodId} {args : Array Value} {below : List Frame} {meth : Method} {c : Code} {H : Heap} {locs : List Loc} {cells slots : Nat} {Q : State → Prop}
variable {D : va_G} {g : Nat → ClassId} {A : Nat → Prop} {ws : va_W} {y0 : MethodName} {b0 : ByteArray} {n0 : Nat} {r0 : Option FieldType} {pc : Nat} {ls : Array Slot} {rest st0 As : List Value} {own : String} {index : Nat}
variable {y : MethodName} {b : ByteArray} {n k d mc ms : Nat} {r : Option FieldType} {Qc : Array Value → State → Outcome → State → Prop}
theorem q_ldcs {i : Nat} {tx : String} {by_ : List Int32} (C0 : q_At p s m args meth c y0 b0 n0 r0) (V : q_Wd D g A s ws H locs) (ho : y0.cls = own) (hs : q_ss[i]? = some (own, index, tx, by_)) (hdg : decode b0 pc = .ok (.ldc index, 2))
    (kk : W p l e R s m args below meth c H locs cells slots Q (F0 m (pc + 2) ls (.ref (g (8 + 2 * i)) :: rest))) : W p l e R s m args below meth c H locs cells slots Q (F0 m pc ls rest) :=
  va_ldcS C0.1 C0.2.1 (by rw [← ho]; exact C0.2.2.2.2.1) (V.2.2.2.2.1.2.2 i own index tx by_ hs).1 hdg kk
theorem q_scod {i k9 : Nat} {o tx : String} {by_ : List Int32} (C0 : q_At p s m args meth c y0 b0 n0 r0) (V : q_Wd D g A s ws H locs) (ho : y0.cls = own) (hs : q_ss[i]? = some (o, k9, tx, by_)) (hw : Cond.fieldLink own index "java/lang/String" "coder" "B" ∈ q_tbl) (hdg : decode b0 pc = .ok (.getfield index, 3))
    (kk : W p l e R s m args below meth c H locs cells slots Q (F0 m (pc + 3) ls (.int 0 :: rest))) : W p l e R s m args below meth c H locs cells slots Q (F0 m pc ls (.ref (g (8 + 2 * i)) :: rest)) :=
  vk_getf C0.1 C0.2.1 (V.2.2.2.2.1.2.2 i o k9 tx by_ hs).2.2.1 V.2.2.1 (by rw [← ho]; exact C0.2.2.2.2.1) (C0.2.2.2.2.2.1 _ hw) (fun _ h => h) hdg kk
theorem q_sval {i k9 : Nat} {o tx : String} {by_ : List Int32} (C0 : q_At p s m args meth c y0 b0 n0 r0) (V : q_Wd D g A s ws H locs) (ho : y0.cls = own) (hs : q_ss[i]? = some (o, k9, tx, by_)) (hw : Cond.fieldLink own index "java/lang/String" "value" "[B" ∈ q_tbl) (hdg : decode b0 pc = .ok (.getfield index, 3))
    (kk : W p l e R s m args below meth c H locs cells slots Q (F0 m (pc + 3) ls (.ref (g (9 + 2 * i)) :: rest))) : W p l e R s m args below meth c H locs cells slots Q (F0 m pc ls (.ref (g (8 + 2 * i)) :: rest)) :=
  vk_getf C0.1 C0.2.1 (V.2.2.2.2.1.2.2 i o k9 tx by_ hs).2.2.2.1 V.2.2.1 (by rw [← ho]; exact C0.2.2.2.2.1) (C0.2.2.2.2.2.1 _ hw) (fun _ h => h) hdg kk
theorem q_slen {i k9 : Nat} {o tx : String} {by_ : List Int32} {v : Int32} (C0 : q_At p s m args meth c y0 b0 n0 r0) (V : q_Wd D g A s ws H locs) (hs : q_ss[i]? = some (o, k9, tx, by_)) (hv : Int32.ofNat by_.length = v) (hdg : decode b0 pc = .ok (.arraylength, 1))
    (kk : W p l e R s m args below meth c H locs cells slots Q (F0 m (pc + 1) ls (.int v :: rest))) : W p l e R s m args below meth c H locs cells slots Q (F0 m pc ls (.ref (g (9 + 2 * i)) :: rest)) :=
  va_tlen C0.1 C0.2.1 (V.2.2.2.2.1.2.2 i o k9 tx by_ hs).2.2.2.2 V.2.2.1 hv hdg kk
theorem q_sbal {i k9 : Nat} {o tx : String} {by_ : List Int32} {j v : Int32} (C0 : q_At p s m args meth c y0 b0 n0 r0) (V : q_Wd D g A s ws H locs) (hs : q_ss[i]? = some (o, k9, tx, by_)) (hin : vp_in j by_.length) (hv : by_.getD j.toNatClampNeg 0 = v) (hdg : decode b0 pc = .ok (.baload, 1))
    (kk : W p l e R s m args below meth c H locs cells slots Q (F0 m (pc + 1) ls (.int v :: rest))) : W p l e R s m args below meth c H locs cells slots Q (F0 m pc ls (.int j :: .ref (g (9 + 2 * i)) :: rest)) :=
  va_tb C0.1 C0.2.1 (V.2.2.2.2.1.2.2 i o k9 tx by_ hs).2.2.2.2 V.2.2.1 hin (by rw [hv]) hdg kk
theorem q_scmp (C0 : q_At p s m args meth c y0 b0 n0 r0) (V : q_Wd D g A s ws H locs) (ho : y0.cls = own) (hw : Cond.fieldLink own index "java/lang/String" "COMPACT_STRINGS" "Z" ∈ q_tbl) (hdg : decode b0 pc = .ok (.getstatic index, 3))
    (kk : W p l e R s m args below meth c H locs cells slots Q (F0 m (pc + 3) ls (.int 1 :: rest))) : W p l e R s m args below meth c H locs cells slots Q (F0 m pc ls rest) :=
  va_gets C0.1 C0.2.1 V.2.2.2.2.1.2.1.1 V.2.2.1 (by rw [← ho]; exact C0.2.2.2.2.1) (C0.2.2.2.2.2.1 _ hw) (fun _ h => h) hdg kk
/-- a formatter, or null: nobody asks -/
theorem q_sfmt (C0 : q_At p s m args meth c y0 b0 n0 r0) (V : q_Wd D g A s ws H locs) (ho : y0.cls = own) (hw : Cond.fieldLink own index "jdk/internal/util/Preconditions" "SIOOBE_FORMATTER" "Ljava/util/function/BiFunction;" ∈ q_tbl) (hdg : decode b0 pc = .ok (.getstatic index, 3))
    (k0 : W p l e R s m args below meth c H locs cells slots Q (F0 m (pc + 3) ls (.null :: rest))) (k1 : ∀ t : Nat, W p l e R s m args below meth c H locs cells slots Q (F0 m (pc + 3) ls (.ref t :: rest))) : W p l e R s m args below meth c H locs cells slots Q (F0 m pc ls rest) := by
  rcases V.2.2.2.2.1.2.1.2.1 with h | ⟨t, h⟩
  · exact va_gets C0.1 C0.2.1 h V.2.2.1 (by rw [← ho]; exact C0.2.2.2.2.1) (C0.2.2.2.2.2.1 _ hw) (fun _ h => h) hdg k0
  · exact va_gets C0.1 C0.2.1 h V.2.2.1 (by rw [← ho]; exact C0.2.2.2.2.1) (C0.2.2.2.2.2.1 _ hw) (fun _ h => h) hdg (k1 t)
/-- a call on a String constant -/
theorem q_runVs {i k9 : Nat} {o tx : String} {by_ : List Int32} (C0 : q_At p s m args meth c y0 b0 n0 r0) (V : q_Wd D g A s ws H locs) (ho : y0.cls = own) (L : q_LV own index y b n r k) (hM : Met l y (q_w y b n r) (q_rm d mc ms) (q_P D g (.ref (g (8 + 2 * i)) :: As) ws H.size) Qc mc ms (va_A ws H.size)) (hq : "java/lang/String" = y.cls) (hs : q_ss[i]? = some (o, k9, tx, by_)) (hn : As.length = k) (hsz : ls.size = n0) (hst : st0 = As.reverse ++ .ref (g (8 + 2 * i)) :: rest) (hcat : (rest.map fun v => v.category).sum ≤ 8) (hR : d + 1 ≤ R.frames ∧ 8 + (n + 11) + 64 * d ≤ R.locals) (hf : cells + mc ≤ R.cells ∧ slots + ms ≤ R.slots) (hdg : decode b0 pc = .ok (.invokevirtual index, 3)) :
    va_Run p l e R s m args below meth c H locs cells slots mc ms (F0 m pc ls st0) rest (Qc (Value.ref (g (8 + 2 * i)) :: As).toArray) (va_A ws H.size) :=
  va_runV (As := As) (rest := rest) (C := y.cls) ⟨C0.1, C0.2.1, C0.2.2.2.1, by rw [← ho]; exact C0.2.2.2.2.1, C0.2.2.2.2.2.1⟩ hM ⟨q_callB C0 L.1 L.2.1 L.2.2.1 L.2.2.2.2.2 hR, C0.2.2.2.2.2.1 _ L.2.2.2.1, C0.2.2.2.2.2.1 _ L.2.2.2.2.1⟩
    ⟨q_blind, by
      rw [← hq]
      obtain ⟨cell, h1, h2, h3, -⟩ := (V.2.2.2.2.1.2.2 i o k9 tx by_ hs).2.1.kept V.2.2.1.2.1
      exact ⟨cell, h1, h2, h3⟩, fun U hU hW => q_pre V U hU hW⟩ rfl hn hsz hst (lv_room hcat) hdg hf
theorem q_retn {post : Int32 → va_W → Prop} {v : Int32} {ty : FieldType} (C : q_At p s m args meth c y0 b0 n0 (some ty)) (V : q_Wd D g A s ws H locs) (hn : narrow ty (.int v) = .int v) (hp : post v ws) (hdg : decode b0 pc = .ok (.ireturn, 1)) :
    W p l e R s m args below meth c H locs cells slots (MQ below (va_Qi post (q_B D g A) A) args s cells slots A) (F0 m pc ls [.int v]) :=
  W.zret C.1 C.2.1 C.2.2.1 hn (fun t ht hW => ⟨⟨v, ws, rfl, hp, by rw [ht]; exact V.1, V.2.2.2.1.moved hW.alike, V.2.1⟩, V.2.2.1.F ht⟩) V.2.2.1.2.2 hdg C.2.2.2.2.2.2.1
end QSTR
