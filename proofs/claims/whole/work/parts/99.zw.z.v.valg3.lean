/-! values, for whole: the printer's arguments; argument of the class -/
/-- an argument: its kind, its number, its scale, its text -/
abbrev yA := Nat × Int64 × Nat × List Nat
def yA0 : yA := (0, 0, 0, [])
def yAw (a : yA) : Prop := a.1 ≤ 5 ∧ a.2.2.1 ≤ 40 ∧ a.2.2.2.length ≤ 64 ∧ (∀ x, x ∈ a.2.2.2 → x < 256) ∧ (a.1 ≠ 5 → a.2.2.1 = 0) ∧ (a.1 = 1 → a.2.1 = 0 ∨ a.2.1 = 1) ∧ (a.1 = 2 → 0 ≤ a.2.1.toInt ∧ a.2.1.toInt ≤ 255) ∧ (a.1 = 0 ∨ a.1 = 4 → a.2.1 = 0)
def yTx9 (s0 : Int32) (f0 : Nat → Int64) (s1 : Int32) (f1 : Nat → Int64) (s2 : Int32) (f2 : Nat → Int64) (s3 : Int32) (f3 : Nat → Int64) (s4 : Int32) (f4 : Nat → Int64) (s5 : Int32) (f5 : Nat → Int64) (s6 : Int32) (f6 : Nat → Int64) (s7 : Int32) (f7 : Nat → Int64) (s8 : Int32) (f8 : Nat → Int64) (i : Nat) : Int32 × (Nat → Int64) := match i with
  | 0 => (s0, f0)
  | 1 => (s1, f1)
  | 2 => (s2, f2)
  | 3 => (s3, f3)
  | 4 => (s4, f4)
  | 5 => (s5, f5)
  | 6 => (s6, f6)
  | 7 => (s7, f7)
  | _ => (s8, f8)
def yCA (n : Int32) (kd : Nat → Int32) (nu : Nat → Int64) (sc : Nat → Int32) (tx : Nat → Int32 × (Nat → Int64)) (A : List yA) : Prop := n.toInt = (A.length : Int) ∧ A.length ≤ 9 ∧ ∀ i, i < A.length → (kd i).toInt = ((A.getD i yA0).1 : Int) ∧ nu i = (A.getD i yA0).2.1 ∧ (sc i).toInt = ((A.getD i yA0).2.2.1 : Int) ∧ ((A.getD i yA0).1 = 4 → yShl 64 (tx i).1 (tx i).2 (A.getD i yA0).2.2.2) ∧ yAw (A.getD i yA0)
theorem y_gdG {α : Type} {l : List α} {v d : α} {i : Nat} (h : i < l.length + 1) : (l ++ [v]).getD i d = if i = l.length then v else l.getD i d := by
  rw [List.getD_eq_getElem?_getD, List.getD_eq_getElem?_getD]
  by_cases e : i = l.length
  · rw [if_pos e, e, List.getElem?_append_right (Nat.le_refl _), Nat.sub_self]
    rfl
  · rw [if_neg e, List.getElem?_append_left (by omega)]
theorem yCA_add {n k s : Int32} {v : Int64} {kd sc : Nat → Int32} {nu : Nat → Int64} {tx tx' : Nat → Int32 × (Nat → Int64)} {A : List yA} {a : yA} (h : yCA n kd nu sc tx A) (hl : A.length < 9) (ha : yAw a) (hk : k.toInt = (a.1 : Int)) (hv : v = a.2.1) (hs : s.toInt = (a.2.2.1 : Int)) (htx : ∀ i, i < A.length → tx' i = tx i) (ht : a.1 = 4 → yShl 64 (tx' A.length).1 (tx' A.length).2 a.2.2.2) : yCA (n + 1) (upd kd n.toNatClampNeg k) (vp_updL nu n.toNatClampNeg v) (upd sc n.toNatClampNeg s) tx' (A ++ [a]) := by
  obtain ⟨h1, h2, h3⟩ := h
  have nl : n.toNatClampNeg = A.length := by show n.toInt.toNat = _; omega
  have ll : (A ++ [a]).length = A.length + 1 := by rw [List.length_append]; rfl
  refine ⟨by rw [q_addI (y := 1) h1 rfl (by omega) (by omega), ll]; omega, by omega, fun i hi => ?_⟩
  rw [y_gdG (by omega)]
  unfold upd vp_updL
  rw [nl]
  by_cases e : i = A.length
  · subst e
    rw [if_pos rfl, if_pos rfl, if_pos rfl, if_pos rfl]
    exact ⟨hk, hv, hs, ht, ha⟩
  · rw [if_neg e, if_neg e, if_neg e, if_neg e, htx i (by omega)]
    exact h3 i (by omega)
/-- which arguments the call argument takes -/
def yArOk (x2 x3 : Int32) : Prop := ((x2 = 0 ∨ x2 = 1) ∧ yReg x3) ∨ x2 = 4 ∨ x2 = 5 ∨ (x2 = 6 ∧ 0 ≤ x3.toInt ∧ x3.toInt ≤ 255) ∨ x2 = 7 ∨ x2 = 8
/-- what it adds -/
def yArA (x2 x3 : Int32) (w : Int) (q : Int × Int) (tp : List Nat) : yA := if x2 = 0 then (3, Int64.ofInt w, 0, []) else if x2 = 1 then (5, Int64.ofInt q.1, q.2.toNat, []) else if x2 = 4 then (0, 0, 0, []) else if x2 = 5 then (1, if x3 = 0 then 0 else 1, 0, []) else if x2 = 6 then (2, x3.toInt64, 0, []) else (4, 0, 0, tp)
def yArF (x2 : Int32) (w : Int) (q : Int × Int) : Prop := (x2 = 0 → yI64 w) ∧ (x2 = 1 → yI64 q.1 ∧ 0 ≤ q.2 ∧ q.2 ≤ 40)
/-- what it answers and leaves: code, answer, the tape, the arguments -/
def yArR (x2 x3 : Int32) (w : Int) (q : Int × Int) (tp : List Nat) (A : List yA) (c a : Int32) (tp' : List Nat) (A' : List yA) : Prop := (¬ yArOk x2 x3 ∧ c = 1 ∧ tp' = tp ∧ A' = A) ∨ (yArOk x2 x3 ∧ x2 = 8 ∧ c = 0 ∧ a = 0 ∧ tp' = tp ∧ A' = []) ∨ (yArOk x2 x3 ∧ x2 ≠ 8 ∧ ¬ yArF x2 w q ∧ c = 2 ∧ tp' = tp ∧ A' = A) ∨ (yArOk x2 x3 ∧ x2 ≠ 8 ∧ yArF x2 w q ∧ x2 = 7 ∧ 64 < tp.length ∧ c = 3 ∧ tp' = tp ∧ A' = A) ∨ (yArOk x2 x3 ∧ x2 ≠ 8 ∧ yArF x2 w q ∧ (x2 = 7 → tp.length ≤ 64) ∧ 9 ≤ A.length ∧ c = 0 ∧ a = -1 ∧ tp' = tp ∧ A' = A) ∨ (yArOk x2 x3 ∧ x2 ≠ 8 ∧ yArF x2 w q ∧ (x2 = 7 → tp.length ≤ 64) ∧ A.length < 9 ∧ c = 0 ∧ a.toInt = (A.length : Int) + 1 ∧ tp' = (if x2 = 7 then [] else tp) ∧ A' = A ++ [yArA x2 x3 w q tp])
theorem y_i64 {r : Int64} {v : Int} (h : r.toInt = v) : r = Int64.ofInt v := by
  rw [← h, Int64.ofInt_toInt]
theorem y_aw0 {k : Nat} {v : Int64} {s : Nat} (hk : k ≤ 5) (hs : s ≤ 40) (h5 : k ≠ 5 → s = 0) (h1 : k = 1 → v = 0 ∨ v = 1) (h2 : k = 2 → 0 ≤ v.toInt ∧ v.toInt ≤ 255) (h0 : k = 0 ∨ k = 4 → v = 0) : yAw (k, v, s, []) := ⟨hk, hs, Nat.zero_le _, fun x hx => absurd hx List.not_mem_nil, h5, h1, h2, h0⟩

theorem V_addTx {t0_0 : Int32} {t0_1 : Int32} {t0_2 : Int32} {t0_3 : Int32} {t1_0 : (Nat → Int32)} {t2_0 : (Nat → Int64)} {t3_0 : (Nat → Int32)} {t4_0 : Int32} {t5_0 : (Nat → Int64)} {t6_0 : Int32} {t7_0 : (Nat → Int64)} {t8_0 : Int32} {t9_0 : (Nat → Int64)} {t10_0 : Int32} {t11_0 : (Nat → Int64)} {t12_0 : Int32} {t13_0 : (Nat → Int64)} {t14_0 : Int32} {t15_0 : (Nat → Int64)} {t16_0 : Int32} {t17_0 : (Nat → Int64)} {t18_0 : Int32} {t19_0 : (Nat → Int64)} {t20_0 : Int32} {t21_0 : (Nat → Int64)} {t22_0 : Int32} {t23_0 : (Nat → Int64)} {A : List yA} {tp : List Nat} (h : yCA t0_0 t1_0 t2_0 t3_0 (yTx9 t6_0 t7_0 t8_0 t9_0 t10_0 t11_0 t12_0 t13_0 t14_0 t15_0 t16_0 t17_0 t18_0 t19_0 t20_0 t21_0 t22_0 t23_0) A) (hl : A.length < 9) (ht : yShl 4100 t4_0 t5_0 tp) (ht2 : tp.length ≤ 64) (hb : ∀ x, x ∈ tp → x < 256) : yCA (F_Pri_addText t0_0 t0_1 t0_2 t0_3 t1_0 t2_0 t3_0 t4_0 t5_0 t6_0 t7_0 t8_0 t9_0 t10_0 t11_0 t12_0 t13_0 t14_0 t15_0 t16_0 t17_0 t18_0 t19_0 t20_0 t21_0 t22_0 t23_0).1 (F_Pri_addText t0_0 t0_1 t0_2 t0_3 t1_0 t2_0 t3_0 t4_0 t5_0 t6_0 t7_0 t8_0 t9_0 t10_0 t11_0 t12_0 t13_0 t14_0 t15_0 t16_0 t17_0 t18_0 t19_0 t20_0 t21_0 t22_0 t23_0).2.2.2.2.1 (F_Pri_addText t0_0 t0_1 t0_2 t0_3 t1_0 t2_0 t3_0 t4_0 t5_0 t6_0 t7_0 t8_0 t9_0 t10_0 t11_0 t12_0 t13_0 t14_0 t15_0 t16_0 t17_0 t18_0 t19_0 t20_0 t21_0 t22_0 t23_0).2.2.2.2.2.1 (F_Pri_addText t0_0 t0_1 t0_2 t0_3 t1_0 t2_0 t3_0 t4_0 t5_0 t6_0 t7_0 t8_0 t9_0 t10_0 t11_0 t12_0 t13_0 t14_0 t15_0 t16_0 t17_0 t18_0 t19_0 t20_0 t21_0 t22_0 t23_0).2.2.2.2.2.2.1 (yTx9 (F_Pri_addText t0_0 t0_1 t0_2 t0_3 t1_0 t2_0 t3_0 t4_0 t5_0 t6_0 t7_0 t8_0 t9_0 t10_0 t11_0 t12_0 t13_0 t14_0 t15_0 t16_0 t17_0 t18_0 t19_0 t20_0 t21_0 t22_0 t23_0).2.2.2.2.2.2.2.1 (F_Pri_addText t0_0 t0_1 t0_2 t0_3 t1_0 t2_0 t3_0 t4_0 t5_0 t6_0 t7_0 t8_0 t9_0 t10_0 t11_0 t12_0 t13_0 t14_0 t15_0 t16_0 t17_0 t18_0 t19_0 t20_0 t21_0 t22_0 t23_0).2.2.2.2.2.2.2.2.1 (F_Pri_addText t0_0 t0_1 t0_2 t0_3 t1_0 t2_0 t3_0 t4_0 t5_0 t6_0 t7_0 t8_0 t9_0 t10_0 t11_0 t12_0 t13_0 t14_0 t15_0 t16_0 t17_0 t18_0 t19_0 t20_0 t21_0 t22_0 t23_0).2.2.2.2.2.2.2.2.2.1 (F_Pri_addText t0_0 t0_1 t0_2 t0_3 t1_0 t2_0 t3_0 t4_0 t5_0 t6_0 t7_0 t8_0 t9_0 t10_0 t11_0 t12_0 t13_0 t14_0 t15_0 t16_0 t17_0 t18_0 t19_0 t20_0 t21_0 t22_0 t23_0).2.2.2.2.2.2.2.2.2.2.1 (F_Pri_addText t0_0 t0_1 t0_2 t0_3 t1_0 t2_0 t3_0 t4_0 t5_0 t6_0 t7_0 t8_0 t9_0 t10_0 t11_0 t12_0 t13_0 t14_0 t15_0 t16_0 t17_0 t18_0 t19_0 t20_0 t21_0 t22_0 t23_0).2.2.2.2.2.2.2.2.2.2.2.1 (F_Pri_addText t0_0 t0_1 t0_2 t0_3 t1_0 t2_0 t3_0 t4_0 t5_0 t6_0 t7_0 t8_0 t9_0 t10_0 t11_0 t12_0 t13_0 t14_0 t15_0 t16_0 t17_0 t18_0 t19_0 t20_0 t21_0 t22_0 t23_0).2.2.2.2.2.2.2.2.2.2.2.2.1 (F_Pri_addText t0_0 t0_1 t0_2 t0_3 t1_0 t2_0 t3_0 t4_0 t5_0 t6_0 t7_0 t8_0 t9_0 t10_0 t11_0 t12_0 t13_0 t14_0 t15_0 t16_0 t17_0 t18_0 t19_0 t20_0 t21_0 t22_0 t23_0).2.2.2.2.2.2.2.2.2.2.2.2.2.1 (F_Pri_addText t0_0 t0_1 t0_2 t0_3 t1_0 t2_0 t3_0 t4_0 t5_0 t6_0 t7_0 t8_0 t9_0 t10_0 t11_0 t12_0 t13_0 t14_0 t15_0 t16_0 t17_0 t18_0 t19_0 t20_0 t21_0 t22_0 t23_0).2.2.2.2.2.2.2.2.2.2.2.2.2.2.1 (F_Pri_addText t0_0 t0_1 t0_2 t0_3 t1_0 t2_0 t3_0 t4_0 t5_0 t6_0 t7_0 t8_0 t9_0 t10_0 t11_0 t12_0 t13_0 t14_0 t15_0 t16_0 t17_0 t18_0 t19_0 t20_0 t21_0 t22_0 t23_0).2.2.2.2.2.2.2.2.2.2.2.2.2.2.2.1 (F_Pri_addText t0_0 t0_1 t0_2 t0_3 t1_0 t2_0 t3_0 t4_0 t5_0 t6_0 t7_0 t8_0 t9_0 t10_0 t11_0 t12_0 t13_0 t14_0 t15_0 t16_0 t17_0 t18_0 t19_0 t20_0 t21_0 t22_0 t23_0).2.2.2.2.2.2.2.2.2.2.2.2.2.2.2.2.1 (F_Pri_addText t0_0 t0_1 t0_2 t0_3 t1_0 t2_0 t3_0 t4_0 t5_0 t6_0 t7_0 t8_0 t9_0 t10_0 t11_0 t12_0 t13_0 t14_0 t15_0 t16_0 t17_0 t18_0 t19_0 t20_0 t21_0 t22_0 t23_0).2.2.2.2.2.2.2.2.2.2.2.2.2.2.2.2.2.1 (F_Pri_addText t0_0 t0_1 t0_2 t0_3 t1_0 t2_0 t3_0 t4_0 t5_0 t6_0 t7_0 t8_0 t9_0 t10_0 t11_0 t12_0 t13_0 t14_0 t15_0 t16_0 t17_0 t18_0 t19_0 t20_0 t21_0 t22_0 t23_0).2.2.2.2.2.2.2.2.2.2.2.2.2.2.2.2.2.2.1 (F_Pri_addText t0_0 t0_1 t0_2 t0_3 t1_0 t2_0 t3_0 t4_0 t5_0 t6_0 t7_0 t8_0 t9_0 t10_0 t11_0 t12_0 t13_0 t14_0 t15_0 t16_0 t17_0 t18_0 t19_0 t20_0 t21_0 t22_0 t23_0).2.2.2.2.2.2.2.2.2.2.2.2.2.2.2.2.2.2.2.1 (F_Pri_addText t0_0 t0_1 t0_2 t0_3 t1_0 t2_0 t3_0 t4_0 t5_0 t6_0 t7_0 t8_0 t9_0 t10_0 t11_0 t12_0 t13_0 t14_0 t15_0 t16_0 t17_0 t18_0 t19_0 t20_0 t21_0 t22_0 t23_0).2.2.2.2.2.2.2.2.2.2.2.2.2.2.2.2.2.2.2.2.1 (F_Pri_addText t0_0 t0_1 t0_2 t0_3 t1_0 t2_0 t3_0 t4_0 t5_0 t6_0 t7_0 t8_0 t9_0 t10_0 t11_0 t12_0 t13_0 t14_0 t15_0 t16_0 t17_0 t18_0 t19_0 t20_0 t21_0 t22_0 t23_0).2.2.2.2.2.2.2.2.2.2.2.2.2.2.2.2.2.2.2.2.2.1 (F_Pri_addText t0_0 t0_1 t0_2 t0_3 t1_0 t2_0 t3_0 t4_0 t5_0 t6_0 t7_0 t8_0 t9_0 t10_0 t11_0 t12_0 t13_0 t14_0 t15_0 t16_0 t17_0 t18_0 t19_0 t20_0 t21_0 t22_0 t23_0).2.2.2.2.2.2.2.2.2.2.2.2.2.2.2.2.2.2.2.2.2.2.1 (F_Pri_addText t0_0 t0_1 t0_2 t0_3 t1_0 t2_0 t3_0 t4_0 t5_0 t6_0 t7_0 t8_0 t9_0 t10_0 t11_0 t12_0 t13_0 t14_0 t15_0 t16_0 t17_0 t18_0 t19_0 t20_0 t21_0 t22_0 t23_0).2.2.2.2.2.2.2.2.2.2.2.2.2.2.2.2.2.2.2.2.2.2.2.1 (F_Pri_addText t0_0 t0_1 t0_2 t0_3 t1_0 t2_0 t3_0 t4_0 t5_0 t6_0 t7_0 t8_0 t9_0 t10_0 t11_0 t12_0 t13_0 t14_0 t15_0 t16_0 t17_0 t18_0 t19_0 t20_0 t21_0 t22_0 t23_0).2.2.2.2.2.2.2.2.2.2.2.2.2.2.2.2.2.2.2.2.2.2.2.2) (A ++ [(4, 0, 0, tp)]) := by
  have e9 : (9 : Int32).toInt = 9 := rfl
  have h1 := h.1
  have aw : yAw (4, 0, 0, tp) := ⟨show (4 : Nat) ≤ 5 by decide, show (0 : Nat) ≤ 40 by decide, ht2, hb, fun _ => rfl, fun q => absurd (show (4 : Nat) = 1 from q) (by decide), fun q => absurd (show (4 : Nat) = 2 from q) (by decide), fun _ => rfl⟩
  unfold F_Pri_addText
  rw [if_neg (fun q => by have := q_leI q; omega)]
  by_cases g0 : t0_0 = 0
  · rw [if_pos g0]
    have al : A.length = 0 := by have := q_eqI g0; have : (0 : Int32).toInt = 0 := rfl; omega
    have cp := V_cpy (R := 64) (N := 8) (K := 64) (R2 := 4100) (N2 := 513) (K2 := 4100) (x3 := 0) (x4 := t4_0) (t0_0 := F_She_clear 64 8 64 t6_0) (t1_0 := t7_0) (t2_0 := t4_0) (t3_0 := t5_0) (r := 64) (r2 := 4100) (a := 0) (b := tp.length) (l := []) (m := tp) rfl (by decide) rfl ⟨rfl, fun i hi => absurd hi (Nat.not_lt_zero _)⟩ ht (by omega) rfl ht.1 (Nat.zero_le _) (Nat.le_refl _) (by show 0 + tp.length < _; omega)
    rw [ySb_all, List.nil_append] at cp
    revert cp
    generalize F_Pri_copyInto 64 8 64 4100 513 4100 0 t4_0 (F_She_clear 64 8 64 t6_0) t7_0 t4_0 t5_0 = p
    intro cp
    unfold F_Pri_addText_c42
    have nu : F_Pri_addNumber 4 0 0 t0_0 t0_1 t0_2 t0_3 t1_0 t2_0 t3_0 = ((t0_0 + 1), t0_1, t0_2, t0_3, (upd t1_0 t0_0.toNatClampNeg 4), (vp_updL t2_0 t0_0.toNatClampNeg 0), (upd t3_0 t0_0.toNatClampNeg 0)) := by
      unfold F_Pri_addNumber
      rw [if_neg (fun q => by have := q_leI q; omega)]
    rw [nu]
    unfold F_Pri_addText_c49
    exact yCA_add (tx' := yTx9 p.1 p.2 t8_0 t9_0 t10_0 t11_0 t12_0 t13_0 t14_0 t15_0 t16_0 t17_0 t18_0 t19_0 t20_0 t21_0 t22_0 t23_0) h hl aw rfl rfl rfl (fun i hi => by
      rcases (show i = 0 ∨ i = 1 ∨ i = 2 ∨ i = 3 ∨ i = 4 ∨ i = 5 ∨ i = 6 ∨ i = 7 by omega) with rfl | rfl | rfl | rfl | rfl | rfl | rfl | rfl <;> first | rfl | (exfalso; omega)) (fun _ => by rw [al]; exact cp)
  · rw [if_neg g0]
    by_cases g1 : t0_0 = 1
    · rw [if_pos g1]
      have al : A.length = 1 := by have := q_eqI g1; have : (1 : Int32).toInt = 1 := rfl; omega
      have cp := V_cpy (R := 64) (N := 8) (K := 64) (R2 := 4100) (N2 := 513) (K2 := 4100) (x3 := 0) (x4 := t4_0) (t0_0 := F_She_clear 64 8 64 t8_0) (t1_0 := t9_0) (t2_0 := t4_0) (t3_0 := t5_0) (r := 64) (r2 := 4100) (a := 0) (b := tp.length) (l := []) (m := tp) rfl (by decide) rfl ⟨rfl, fun i hi => absurd hi (Nat.not_lt_zero _)⟩ ht (by omega) rfl ht.1 (Nat.zero_le _) (Nat.le_refl _) (by show 0 + tp.length < _; omega)
      rw [ySb_all, List.nil_append] at cp
      revert cp
      generalize F_Pri_copyInto 64 8 64 4100 513 4100 0 t4_0 (F_She_clear 64 8 64 t8_0) t9_0 t4_0 t5_0 = p
      intro cp
      unfold F_Pri_addText_c42_3
      have nu : F_Pri_addNumber 4 0 0 t0_0 t0_1 t0_2 t0_3 t1_0 t2_0 t3_0 = ((t0_0 + 1), t0_1, t0_2, t0_3, (upd t1_0 t0_0.toNatClampNeg 4), (vp_updL t2_0 t0_0.toNatClampNeg 0), (upd t3_0 t0_0.toNatClampNeg 0)) := by
        unfold F_Pri_addNumber
        rw [if_neg (fun q => by have := q_leI q; omega)]
      rw [nu]
      unfold F_Pri_addText_c49_4
      exact yCA_add (tx' := yTx9 t6_0 t7_0 p.1 p.2 t10_0 t11_0 t12_0 t13_0 t14_0 t15_0 t16_0 t17_0 t18_0 t19_0 t20_0 t21_0 t22_0 t23_0) h hl aw rfl rfl rfl (fun i hi => by
        rcases (show i = 0 ∨ i = 1 ∨ i = 2 ∨ i = 3 ∨ i = 4 ∨ i = 5 ∨ i = 6 ∨ i = 7 by omega) with rfl | rfl | rfl | rfl | rfl | rfl | rfl | rfl <;> first | rfl | (exfalso; omega)) (fun _ => by rw [al]; exact cp)
    · rw [if_neg g1]
      by_cases g2 : t0_0 = 2
      · rw [if_pos g2]
        have al : A.length = 2 := by have := q_eqI g2; have : (2 : Int32).toInt = 2 := rfl; omega
        have cp := V_cpy (R := 64) (N := 8) (K := 64) (R2 := 4100) (N2 := 513) (K2 := 4100) (x3 := 0) (x4 := t4_0) (t0_0 := F_She_clear 64 8 64 t10_0) (t1_0 := t11_0) (t2_0 := t4_0) (t3_0 := t5_0) (r := 64) (r2 := 4100) (a := 0) (b := tp.length) (l := []) (m := tp) rfl (by decide) rfl ⟨rfl, fun i hi => absurd hi (Nat.not_lt_zero _)⟩ ht (by omega) rfl ht.1 (Nat.zero_le _) (Nat.le_refl _) (by show 0 + tp.length < _; omega)
        rw [ySb_all, List.nil_append] at cp
        revert cp
        generalize F_Pri_copyInto 64 8 64 4100 513 4100 0 t4_0 (F_She_clear 64 8 64 t10_0) t11_0 t4_0 t5_0 = p
        intro cp
        unfold F_Pri_addText_c42_5
        have nu : F_Pri_addNumber 4 0 0 t0_0 t0_1 t0_2 t0_3 t1_0 t2_0 t3_0 = ((t0_0 + 1), t0_1, t0_2, t0_3, (upd t1_0 t0_0.toNatClampNeg 4), (vp_updL t2_0 t0_0.toNatClampNeg 0), (upd t3_0 t0_0.toNatClampNeg 0)) := by
          unfold F_Pri_addNumber
          rw [if_neg (fun q => by have := q_leI q; omega)]
        rw [nu]
        unfold F_Pri_addText_c49_6
        exact yCA_add (tx' := yTx9 t6_0 t7_0 t8_0 t9_0 p.1 p.2 t12_0 t13_0 t14_0 t15_0 t16_0 t17_0 t18_0 t19_0 t20_0 t21_0 t22_0 t23_0) h hl aw rfl rfl rfl (fun i hi => by
          rcases (show i = 0 ∨ i = 1 ∨ i = 2 ∨ i = 3 ∨ i = 4 ∨ i = 5 ∨ i = 6 ∨ i = 7 by omega) with rfl | rfl | rfl | rfl | rfl | rfl | rfl | rfl <;> first | rfl | (exfalso; omega)) (fun _ => by rw [al]; exact cp)
      · rw [if_neg g2]
        by_cases g3 : t0_0 = 3
        · rw [if_pos g3]
          have al : A.length = 3 := by have := q_eqI g3; have : (3 : Int32).toInt = 3 := rfl; omega
          have cp := V_cpy (R := 64) (N := 8) (K := 64) (R2 := 4100) (N2 := 513) (K2 := 4100) (x3 := 0) (x4 := t4_0) (t0_0 := F_She_clear 64 8 64 t12_0) (t1_0 := t13_0) (t2_0 := t4_0) (t3_0 := t5_0) (r := 64) (r2 := 4100) (a := 0) (b := tp.length) (l := []) (m := tp) rfl (by decide) rfl ⟨rfl, fun i hi => absurd hi (Nat.not_lt_zero _)⟩ ht (by omega) rfl ht.1 (Nat.zero_le _) (Nat.le_refl _) (by show 0 + tp.length < _; omega)
          rw [ySb_all, List.nil_append] at cp
          revert cp
          generalize F_Pri_copyInto 64 8 64 4100 513 4100 0 t4_0 (F_She_clear 64 8 64 t12_0) t13_0 t4_0 t5_0 = p
          intro cp
          unfold F_Pri_addText_c42_7
          have nu : F_Pri_addNumber 4 0 0 t0_0 t0_1 t0_2 t0_3 t1_0 t2_0 t3_0 = ((t0_0 + 1), t0_1, t0_2, t0_3, (upd t1_0 t0_0.toNatClampNeg 4), (vp_updL t2_0 t0_0.toNatClampNeg 0), (upd t3_0 t0_0.toNatClampNeg 0)) := by
            unfold F_Pri_addNumber
            rw [if_neg (fun q => by have := q_leI q; omega)]
          rw [nu]
          unfold F_Pri_addText_c49_8
          exact yCA_add (tx' := yTx9 t6_0 t7_0 t8_0 t9_0 t10_0 t11_0 p.1 p.2 t14_0 t15_0 t16_0 t17_0 t18_0 t19_0 t20_0 t21_0 t22_0 t23_0) h hl aw rfl rfl rfl (fun i hi => by
            rcases (show i = 0 ∨ i = 1 ∨ i = 2 ∨ i = 3 ∨ i = 4 ∨ i = 5 ∨ i = 6 ∨ i = 7 by omega) with rfl | rfl | rfl | rfl | rfl | rfl | rfl | rfl <;> first | rfl | (exfalso; omega)) (fun _ => by rw [al]; exact cp)
        · rw [if_neg g3]
          by_cases g4 : t0_0 = 4
          · rw [if_pos g4]
            have al : A.length = 4 := by have := q_eqI g4; have : (4 : Int32).toInt = 4 := rfl; omega
            have cp := V_cpy (R := 64) (N := 8) (K := 64) (R2 := 4100) (N2 := 513) (K2 := 4100) (x3 := 0) (x4 := t4_0) (t0_0 := F_She_clear 64 8 64 t14_0) (t1_0 := t15_0) (t2_0 := t4_0) (t3_0 := t5_0) (r := 64) (r2 := 4100) (a := 0) (b := tp.length) (l := []) (m := tp) rfl (by decide) rfl ⟨rfl, fun i hi => absurd hi (Nat.not_lt_zero _)⟩ ht (by omega) rfl ht.1 (Nat.zero_le _) (Nat.le_refl _) (by show 0 + tp.length < _; omega)
            rw [ySb_all, List.nil_append] at cp
            revert cp
            generalize F_Pri_copyInto 64 8 64 4100 513 4100 0 t4_0 (F_She_clear 64 8 64 t14_0) t15_0 t4_0 t5_0 = p
            intro cp
            unfold F_Pri_addText_c42_9
            have nu : F_Pri_addNumber 4 0 0 t0_0 t0_1 t0_2 t0_3 t1_0 t2_0 t3_0 = ((t0_0 + 1), t0_1, t0_2, t0_3, (upd t1_0 t0_0.toNatClampNeg 4), (vp_updL t2_0 t0_0.toNatClampNeg 0), (upd t3_0 t0_0.toNatClampNeg 0)) := by
              unfold F_Pri_addNumber
              rw [if_neg (fun q => by have := q_leI q; omega)]
            rw [nu]
            unfold F_Pri_addText_c49_10
            exact yCA_add (tx' := yTx9 t6_0 t7_0 t8_0 t9_0 t10_0 t11_0 t12_0 t13_0 p.1 p.2 t16_0 t17_0 t18_0 t19_0 t20_0 t21_0 t22_0 t23_0) h hl aw rfl rfl rfl (fun i hi => by
              rcases (show i = 0 ∨ i = 1 ∨ i = 2 ∨ i = 3 ∨ i = 4 ∨ i = 5 ∨ i = 6 ∨ i = 7 by omega) with rfl | rfl | rfl | rfl | rfl | rfl | rfl | rfl <;> first | rfl | (exfalso; omega)) (fun _ => by rw [al]; exact cp)
          · rw [if_neg g4]
            by_cases g5 : t0_0 = 5
            · rw [if_pos g5]
              have al : A.length = 5 := by have := q_eqI g5; have : (5 : Int32).toInt = 5 := rfl; omega
              have cp := V_cpy (R := 64) (N := 8) (K := 64) (R2 := 4100) (N2 := 513) (K2 := 4100) (x3 := 0) (x4 := t4_0) (t0_0 := F_She_clear 64 8 64 t16_0) (t1_0 := t17_0) (t2_0 := t4_0) (t3_0 := t5_0) (r := 64) (r2 := 4100) (a := 0) (b := tp.length) (l := []) (m := tp) rfl (by decide) rfl ⟨rfl, fun i hi => absurd hi (Nat.not_lt_zero _)⟩ ht (by omega) rfl ht.1 (Nat.zero_le _) (Nat.le_refl _) (by show 0 + tp.length < _; omega)
              rw [ySb_all, List.nil_append] at cp
              revert cp
              generalize F_Pri_copyInto 64 8 64 4100 513 4100 0 t4_0 (F_She_clear 64 8 64 t16_0) t17_0 t4_0 t5_0 = p
              intro cp
              unfold F_Pri_addText_c42_11
              have nu : F_Pri_addNumber 4 0 0 t0_0 t0_1 t0_2 t0_3 t1_0 t2_0 t3_0 = ((t0_0 + 1), t0_1, t0_2, t0_3, (upd t1_0 t0_0.toNatClampNeg 4), (vp_updL t2_0 t0_0.toNatClampNeg 0), (upd t3_0 t0_0.toNatClampNeg 0)) := by
                unfold F_Pri_addNumber
                rw [if_neg (fun q => by have := q_leI q; omega)]
              rw [nu]
              unfold F_Pri_addText_c49_12
              exact yCA_add (tx' := yTx9 t6_0 t7_0 t8_0 t9_0 t10_0 t11_0 t12_0 t13_0 t14_0 t15_0 p.1 p.2 t18_0 t19_0 t20_0 t21_0 t22_0 t23_0) h hl aw rfl rfl rfl (fun i hi => by
                rcases (show i = 0 ∨ i = 1 ∨ i = 2 ∨ i = 3 ∨ i = 4 ∨ i = 5 ∨ i = 6 ∨ i = 7 by omega) with rfl | rfl | rfl | rfl | rfl | rfl | rfl | rfl <;> first | rfl | (exfalso; omega)) (fun _ => by rw [al]; exact cp)
            · rw [if_neg g5]
              by_cases g6 : t0_0 = 6
              · rw [if_pos g6]
                have al : A.length = 6 := by have := q_eqI g6; have : (6 : Int32).toInt = 6 := rfl; omega
                have cp := V_cpy (R := 64) (N := 8) (K := 64) (R2 := 4100) (N2 := 513) (K2 := 4100) (x3 := 0) (x4 := t4_0) (t0_0 := F_She_clear 64 8 64 t18_0) (t1_0 := t19_0) (t2_0 := t4_0) (t3_0 := t5_0) (r := 64) (r2 := 4100) (a := 0) (b := tp.length) (l := []) (m := tp) rfl (by decide) rfl ⟨rfl, fun i hi => absurd hi (Nat.not_lt_zero _)⟩ ht (by omega) rfl ht.1 (Nat.zero_le _) (Nat.le_refl _) (by show 0 + tp.length < _; omega)
                rw [ySb_all, List.nil_append] at cp
                revert cp
                generalize F_Pri_copyInto 64 8 64 4100 513 4100 0 t4_0 (F_She_clear 64 8 64 t18_0) t19_0 t4_0 t5_0 = p
                intro cp
                unfold F_Pri_addText_c42_13
                have nu : F_Pri_addNumber 4 0 0 t0_0 t0_1 t0_2 t0_3 t1_0 t2_0 t3_0 = ((t0_0 + 1), t0_1, t0_2, t0_3, (upd t1_0 t0_0.toNatClampNeg 4), (vp_updL t2_0 t0_0.toNatClampNeg 0), (upd t3_0 t0_0.toNatClampNeg 0)) := by
                  unfold F_Pri_addNumber
                  rw [if_neg (fun q => by have := q_leI q; omega)]
                rw [nu]
                unfold F_Pri_addText_c49_14
                exact yCA_add (tx' := yTx9 t6_0 t7_0 t8_0 t9_0 t10_0 t11_0 t12_0 t13_0 t14_0 t15_0 t16_0 t17_0 p.1 p.2 t20_0 t21_0 t22_0 t23_0) h hl aw rfl rfl rfl (fun i hi => by
                  rcases (show i = 0 ∨ i = 1 ∨ i = 2 ∨ i = 3 ∨ i = 4 ∨ i = 5 ∨ i = 6 ∨ i = 7 by omega) with rfl | rfl | rfl | rfl | rfl | rfl | rfl | rfl <;> first | rfl | (exfalso; omega)) (fun _ => by rw [al]; exact cp)
              · rw [if_neg g6]
                by_cases g7 : t0_0 = 7
                · rw [if_pos g7]
                  have al : A.length = 7 := by have := q_eqI g7; have : (7 : Int32).toInt = 7 := rfl; omega
                  have cp := V_cpy (R := 64) (N := 8) (K := 64) (R2 := 4100) (N2 := 513) (K2 := 4100) (x3 := 0) (x4 := t4_0) (t0_0 := F_She_clear 64 8 64 t20_0) (t1_0 := t21_0) (t2_0 := t4_0) (t3_0 := t5_0) (r := 64) (r2 := 4100) (a := 0) (b := tp.length) (l := []) (m := tp) rfl (by decide) rfl ⟨rfl, fun i hi => absurd hi (Nat.not_lt_zero _)⟩ ht (by omega) rfl ht.1 (Nat.zero_le _) (Nat.le_refl _) (by show 0 + tp.length < _; omega)
                  rw [ySb_all, List.nil_append] at cp
                  revert cp
                  generalize F_Pri_copyInto 64 8 64 4100 513 4100 0 t4_0 (F_She_clear 64 8 64 t20_0) t21_0 t4_0 t5_0 = p
                  intro cp
                  unfold F_Pri_addText_c42_15
                  have nu : F_Pri_addNumber 4 0 0 t0_0 t0_1 t0_2 t0_3 t1_0 t2_0 t3_0 = ((t0_0 + 1), t0_1, t0_2, t0_3, (upd t1_0 t0_0.toNatClampNeg 4), (vp_updL t2_0 t0_0.toNatClampNeg 0), (upd t3_0 t0_0.toNatClampNeg 0)) := by
                    unfold F_Pri_addNumber
                    rw [if_neg (fun q => by have := q_leI q; omega)]
                  rw [nu]
                  unfold F_Pri_addText_c49_16
                  exact yCA_add (tx' := yTx9 t6_0 t7_0 t8_0 t9_0 t10_0 t11_0 t12_0 t13_0 t14_0 t15_0 t16_0 t17_0 t18_0 t19_0 p.1 p.2 t22_0 t23_0) h hl aw rfl rfl rfl (fun i hi => by
                    rcases (show i = 0 ∨ i = 1 ∨ i = 2 ∨ i = 3 ∨ i = 4 ∨ i = 5 ∨ i = 6 ∨ i = 7 by omega) with rfl | rfl | rfl | rfl | rfl | rfl | rfl | rfl <;> first | rfl | (exfalso; omega)) (fun _ => by rw [al]; exact cp)
                · rw [if_neg g7]
                  have al : A.length = 8 := by have n0 := q_neI g0; have m0 : (0 : Int32).toInt = 0 := rfl; have n1 := q_neI g1; have m1 : (1 : Int32).toInt = 1 := rfl; have n2 := q_neI g2; have m2 : (2 : Int32).toInt = 2 := rfl; have n3 := q_neI g3; have m3 : (3 : Int32).toInt = 3 := rfl; have n4 := q_neI g4; have m4 : (4 : Int32).toInt = 4 := rfl; have n5 := q_neI g5; have m5 : (5 : Int32).toInt = 5 := rfl; have n6 := q_neI g6; have m6 : (6 : Int32).toInt = 6 := rfl; have n7 := q_neI g7; have m7 : (7 : Int32).toInt = 7 := rfl; omega
                  have cp := V_cpy (R := 64) (N := 8) (K := 64) (R2 := 4100) (N2 := 513) (K2 := 4100) (x3 := 0) (x4 := t4_0) (t0_0 := F_She_clear 64 8 64 t22_0) (t1_0 := t23_0) (t2_0 := t4_0) (t3_0 := t5_0) (r := 64) (r2 := 4100) (a := 0) (b := tp.length) (l := []) (m := tp) rfl (by decide) rfl ⟨rfl, fun i hi => absurd hi (Nat.not_lt_zero _)⟩ ht (by omega) rfl ht.1 (Nat.zero_le _) (Nat.le_refl _) (by show 0 + tp.length < _; omega)
                  rw [ySb_all, List.nil_append] at cp
                  revert cp
                  generalize F_Pri_copyInto 64 8 64 4100 513 4100 0 t4_0 (F_She_clear 64 8 64 t22_0) t23_0 t4_0 t5_0 = p
                  intro cp
                  unfold F_Pri_addText_c42_17
                  have nu : F_Pri_addNumber 4 0 0 t0_0 t0_1 t0_2 t0_3 t1_0 t2_0 t3_0 = ((t0_0 + 1), t0_1, t0_2, t0_3, (upd t1_0 t0_0.toNatClampNeg 4), (vp_updL t2_0 t0_0.toNatClampNeg 0), (upd t3_0 t0_0.toNatClampNeg 0)) := by
                    unfold F_Pri_addNumber
                    rw [if_neg (fun q => by have := q_leI q; omega)]
                  rw [nu]
                  unfold F_Pri_addText_c49_18
                  exact yCA_add (tx' := yTx9 t6_0 t7_0 t8_0 t9_0 t10_0 t11_0 t12_0 t13_0 t14_0 t15_0 t16_0 t17_0 t18_0 t19_0 t20_0 t21_0 p.1 p.2) h hl aw rfl rfl rfl (fun i hi => by
                    rcases (show i = 0 ∨ i = 1 ∨ i = 2 ∨ i = 3 ∨ i = 4 ∨ i = 5 ∨ i = 6 ∨ i = 7 by omega) with rfl | rfl | rfl | rfl | rfl | rfl | rfl | rfl <;> first | rfl | (exfalso; omega)) (fun _ => by rw [al]; exact cp)
