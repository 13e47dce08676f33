/-! values, for whole: argument of the reference -/
def yRA (n : Int32) (kd sz : Nat → Int32) (va : Nat → Int64) (tx : Nat → Int32) (A : List yA) : Prop := n.toInt = (A.length : Int) ∧ A.length ≤ 9 ∧ ∀ i, i < A.length → (kd i).toInt = ((A.getD i yA0).1 : Int) ∧ va i = (A.getD i yA0).2.1 ∧ ((A.getD i yA0).1 = 3 → sz i = 64) ∧ ((A.getD i yA0).1 = 5 → (sz i).toInt = ((A.getD i yA0).2.2.1 : Int)) ∧ ((A.getD i yA0).1 = 4 → (sz i).toInt = ((A.getD i yA0).2.2.2.length : Int) ∧ ∀ j, j < (A.getD i yA0).2.2.2.length → (tx (64 * i + j)).toInt = (((A.getD i yA0).2.2.2.getD j 0 : Nat) : Int)) ∧ yAw (A.getD i yA0)
theorem yRA_add {n k s : Int32} {v : Int64} {kd sz : Nat → Int32} {va : Nat → Int64} {tx tx' : Nat → Int32} {A : List yA} {a : yA} (h : yRA n kd sz va tx A) (hl : A.length < 9) (ha : yAw a) (hk : k.toInt = (a.1 : Int)) (hv : v = a.2.1) (h3 : a.1 = 3 → s = 64) (h5 : a.1 = 5 → s.toInt = (a.2.2.1 : Int)) (htx : ∀ i, i < 64 * A.length → tx' i = tx i) (h4 : a.1 = 4 → s.toInt = (a.2.2.2.length : Int) ∧ ∀ j, j < a.2.2.2.length → (tx' (64 * A.length + j)).toInt = ((a.2.2.2.getD j 0 : Nat) : Int)) : yRA (n + 1) (upd kd n.toNatClampNeg k) (upd sz n.toNatClampNeg s) (vp_updL va n.toNatClampNeg v) tx' (A ++ [a]) := by
  obtain ⟨h1, h2, h6⟩ := h
  have nl : n.toNatClampNeg = A.length := by show n.toInt.toNat = _; omega
  have ll : (A ++ [a]).length = A.length + 1 := by rw [List.length_append]; rfl
  refine ⟨by rw [q_addI (y := 1) h1 rfl (by omega) (by omega), ll]; omega, by omega, fun i hi => ?_⟩
  rw [y_gdG (by omega)]
  unfold upd vp_updL
  rw [nl]
  by_cases e : i = A.length
  · subst e
    rw [if_pos rfl, if_pos rfl, if_pos rfl, if_pos rfl]
    exact ⟨hk, hv, h3, h5, h4, ha⟩
  · rw [if_neg e, if_neg e, if_neg e, if_neg e]
    obtain ⟨q1, q2, q3, q4, q5, q6⟩ := h6 i (by omega)
    refine ⟨q1, q2, q3, q4, fun z => ⟨(q5 z).1, fun j hj => ?_⟩, q6⟩
    have := q6.2.2.1
    rw [htx _ (by omega)]
    exact (q5 z).2 j hj
theorem V_ent {x2 : Int32} {x3 : Int32} {x4 : Int64} {t0_0 : Int32} {t0_1 : Int32} {t0_2 : Int32} {t0_3 : Int32} {t0_4 : Int32} {t0_5 : Int32} {t0_6 : Int32} {t0_7 : Int32} {t0_8 : Int32} {t0_9 : Int32} {t0_10 : Int32} {t0_11 : Int32} {t0_12 : Int32} {t0_13 : Int32} {t0_14 : Int32} {t0_15 : Int32} {t0_16 : Int32} {t0_17 : Int32} {t0_18 : Int32} {t0_19 : Int32} {t0_20 : Int32} {t0_21 : Int32} {t1_0 : (Nat → Int32)} {t2_0 : (Nat → Int32)} {t3_0 : (Nat → Int64)} {A : List yA} {tx : Nat → Int32} {a : yA} (h : yRA t0_2 t1_0 t2_0 t3_0 tx A) (ha : yAw a) (hk : x2.toInt = (a.1 : Int)) (hv : x4 = a.2.1) (h3 : a.1 = 3 → x3 = 64) (h5 : a.1 = 5 → x3.toInt = (a.2.2.1 : Int)) (h4 : a.1 ≠ 4) : (9 ≤ A.length ∧ (F_VR_enter x2 x3 x4 t0_0 t0_1 t0_2 t0_3 t0_4 t0_5 t0_6 t0_7 t0_8 t0_9 t0_10 t0_11 t0_12 t0_13 t0_14 t0_15 t0_16 t0_17 t0_18 t0_19 t0_20 t0_21 t1_0 t2_0 t3_0).1 = -1 ∧ yRA (F_VR_enter x2 x3 x4 t0_0 t0_1 t0_2 t0_3 t0_4 t0_5 t0_6 t0_7 t0_8 t0_9 t0_10 t0_11 t0_12 t0_13 t0_14 t0_15 t0_16 t0_17 t0_18 t0_19 t0_20 t0_21 t1_0 t2_0 t3_0).2.2.1 (F_VR_enter x2 x3 x4 t0_0 t0_1 t0_2 t0_3 t0_4 t0_5 t0_6 t0_7 t0_8 t0_9 t0_10 t0_11 t0_12 t0_13 t0_14 t0_15 t0_16 t0_17 t0_18 t0_19 t0_20 t0_21 t1_0 t2_0 t3_0).2.2.2.1 (F_VR_enter x2 x3 x4 t0_0 t0_1 t0_2 t0_3 t0_4 t0_5 t0_6 t0_7 t0_8 t0_9 t0_10 t0_11 t0_12 t0_13 t0_14 t0_15 t0_16 t0_17 t0_18 t0_19 t0_20 t0_21 t1_0 t2_0 t3_0).2.2.2.2.1 (F_VR_enter x2 x3 x4 t0_0 t0_1 t0_2 t0_3 t0_4 t0_5 t0_6 t0_7 t0_8 t0_9 t0_10 t0_11 t0_12 t0_13 t0_14 t0_15 t0_16 t0_17 t0_18 t0_19 t0_20 t0_21 t1_0 t2_0 t3_0).2.2.2.2.2 tx A) ∨ (A.length < 9 ∧ (F_VR_enter x2 x3 x4 t0_0 t0_1 t0_2 t0_3 t0_4 t0_5 t0_6 t0_7 t0_8 t0_9 t0_10 t0_11 t0_12 t0_13 t0_14 t0_15 t0_16 t0_17 t0_18 t0_19 t0_20 t0_21 t1_0 t2_0 t3_0).1.toInt = (A.length : Int) + 1 ∧ yRA (F_VR_enter x2 x3 x4 t0_0 t0_1 t0_2 t0_3 t0_4 t0_5 t0_6 t0_7 t0_8 t0_9 t0_10 t0_11 t0_12 t0_13 t0_14 t0_15 t0_16 t0_17 t0_18 t0_19 t0_20 t0_21 t1_0 t2_0 t3_0).2.2.1 (F_VR_enter x2 x3 x4 t0_0 t0_1 t0_2 t0_3 t0_4 t0_5 t0_6 t0_7 t0_8 t0_9 t0_10 t0_11 t0_12 t0_13 t0_14 t0_15 t0_16 t0_17 t0_18 t0_19 t0_20 t0_21 t1_0 t2_0 t3_0).2.2.2.1 (F_VR_enter x2 x3 x4 t0_0 t0_1 t0_2 t0_3 t0_4 t0_5 t0_6 t0_7 t0_8 t0_9 t0_10 t0_11 t0_12 t0_13 t0_14 t0_15 t0_16 t0_17 t0_18 t0_19 t0_20 t0_21 t1_0 t2_0 t3_0).2.2.2.2.1 (F_VR_enter x2 x3 x4 t0_0 t0_1 t0_2 t0_3 t0_4 t0_5 t0_6 t0_7 t0_8 t0_9 t0_10 t0_11 t0_12 t0_13 t0_14 t0_15 t0_16 t0_17 t0_18 t0_19 t0_20 t0_21 t1_0 t2_0 t3_0).2.2.2.2.2 tx (A ++ [a])) := by
  have e9 : (9 : Int32).toInt = 9 := rfl
  have h1 := h.1
  unfold F_VR_enter
  by_cases g : t0_2 = 9
  · rw [if_pos g]
    have g' := q_eqI g
    exact Or.inl ⟨by omega, rfl, h⟩
  · rw [if_neg g]
    have g' := q_neI g
    have h2 := h.2.1
    refine Or.inr ⟨by omega, ?_, yRA_add h (by omega) ha hk hv h3 h5 (fun _ _ => rfl) (fun z => absurd z h4)⟩
    exact q_addI (y := 1) h1 rfl (by omega) (by omega)
theorem V_txL {t0_0 : Int32} {t0_1 : Int32} {t0_2 : Int32} {t0_3 : Int32} {t0_4 : Int32} {t0_5 : Int32} {t0_6 : Int32} {t0_7 : Int32} {t0_8 : Int32} {t0_9 : Int32} {t0_10 : Int32} {t0_11 : Int32} {t0_12 : Int32} {t0_13 : Int32} {t0_14 : Int32} {t0_15 : Int32} {t0_16 : Int32} {t0_17 : Int32} {t0_18 : Int32} {t0_19 : Int32} {t0_20 : Int32} {t0_21 : Int32} {t1_0 : (Nat → Int32)} {t2_0 : (Nat → Int32)} {t3_0 : (Nat → Int32)} {t4_0 : (Nat → Int64)} {t5_0 : (Nat → Int32)} {p67 : (Int32 × Int32 × Int32 × (Nat → Int32) × (Nat → Int32) × (Nat → Int64))} {a47 : Int32} {y49 : Int32} {y50 : Int32} {f51 : (Nat → Int32)} {f53 : (Nat → Int32)} {f55 : (Nat → Int64)} {tp : List Nat} {N : Nat} {tx : Nat → Int32} (ht : t0_1.toInt = (tp.length : Int)) (ht2 : tp.length ≤ 64) (hf : yTr t1_0 tp.length (yBr tp)) (ha : a47.toInt = (N : Int) + 1) (hN : N < 9) : ∀ (n : Nat) (lx84 : Int32) (lx85 : (Nat → Int32)), ∀ j : Nat, lx84.toInt = (j : Int) → j ≤ tp.length → tp.length < n + j → (∀ i, i < 64 * N → lx85 i = tx i) → (∀ i, i < j → (lx85 (64 * N + i)).toInt = yBr tp i) → (F_VR_text_L33 t0_0 t0_1 t0_2 t0_3 t0_4 t0_5 t0_6 t0_7 t0_8 t0_9 t0_10 t0_11 t0_12 t0_13 t0_14 t0_15 t0_16 t0_17 t0_18 t0_19 t0_20 t0_21 t1_0 t2_0 t3_0 t4_0 t5_0 p67 a47 y49 y50 f51 f53 f55 n lx84 lx85).1 = a47 ∧ (F_VR_text_L33 t0_0 t0_1 t0_2 t0_3 t0_4 t0_5 t0_6 t0_7 t0_8 t0_9 t0_10 t0_11 t0_12 t0_13 t0_14 t0_15 t0_16 t0_17 t0_18 t0_19 t0_20 t0_21 t1_0 t2_0 t3_0 t4_0 t5_0 p67 a47 y49 y50 f51 f53 f55 n lx84 lx85).2.2.2.1 = y50 ∧ (F_VR_text_L33 t0_0 t0_1 t0_2 t0_3 t0_4 t0_5 t0_6 t0_7 t0_8 t0_9 t0_10 t0_11 t0_12 t0_13 t0_14 t0_15 t0_16 t0_17 t0_18 t0_19 t0_20 t0_21 t1_0 t2_0 t3_0 t4_0 t5_0 p67 a47 y49 y50 f51 f53 f55 n lx84 lx85).2.2.2.2.1 = f51 ∧ (F_VR_text_L33 t0_0 t0_1 t0_2 t0_3 t0_4 t0_5 t0_6 t0_7 t0_8 t0_9 t0_10 t0_11 t0_12 t0_13 t0_14 t0_15 t0_16 t0_17 t0_18 t0_19 t0_20 t0_21 t1_0 t2_0 t3_0 t4_0 t5_0 p67 a47 y49 y50 f51 f53 f55 n lx84 lx85).2.2.2.2.2.1 = f53 ∧ (F_VR_text_L33 t0_0 t0_1 t0_2 t0_3 t0_4 t0_5 t0_6 t0_7 t0_8 t0_9 t0_10 t0_11 t0_12 t0_13 t0_14 t0_15 t0_16 t0_17 t0_18 t0_19 t0_20 t0_21 t1_0 t2_0 t3_0 t4_0 t5_0 p67 a47 y49 y50 f51 f53 f55 n lx84 lx85).2.2.2.2.2.2.1 = f55 ∧ (∀ i, i < 64 * N → (F_VR_text_L33 t0_0 t0_1 t0_2 t0_3 t0_4 t0_5 t0_6 t0_7 t0_8 t0_9 t0_10 t0_11 t0_12 t0_13 t0_14 t0_15 t0_16 t0_17 t0_18 t0_19 t0_20 t0_21 t1_0 t2_0 t3_0 t4_0 t5_0 p67 a47 y49 y50 f51 f53 f55 n lx84 lx85).2.2.2.2.2.2.2 i = tx i) ∧ (∀ i, i < tp.length → ((F_VR_text_L33 t0_0 t0_1 t0_2 t0_3 t0_4 t0_5 t0_6 t0_7 t0_8 t0_9 t0_10 t0_11 t0_12 t0_13 t0_14 t0_15 t0_16 t0_17 t0_18 t0_19 t0_20 t0_21 t1_0 t2_0 t3_0 t4_0 t5_0 p67 a47 y49 y50 f51 f53 f55 n lx84 lx85).2.2.2.2.2.2.2 (64 * N + i)).toInt = yBr tp i) := by
  intro n
  induction n with
  | zero =>
    intro _ _ j _ q1 q2
    omega
  | succ n ih =>
    intro lx84 lx85 j hj h1 h2 h3 h4
    unfold F_VR_text_L33
    by_cases c : t0_1 ≤ lx84
    · rw [if_pos c]
      have c' := q_leI c
      have : j = tp.length := by omega
      subst this
      exact ⟨rfl, rfl, rfl, rfl, rfl, h3, h4⟩
    · rw [if_neg c]
      have c' := q_nleI c
      have ix : ((64 * (a47 - 1 : Int32) : Int32) + lx84 : Int32).toNatClampNeg = 64 * N + j := by
        have m0 : (a47 - 1 : Int32).toInt = (N : Int) := by
          rw [q_subI (y := 1) ha rfl (by omega) (by omega)]
          omega
        have m1 : (64 * (a47 - 1 : Int32) : Int32).toInt = 64 * (N : Int) := q_mulI (x := 64) rfl m0 (by omega) (by omega)
        have m2 := q_addI m1 hj (by omega) (by omega)
        show ((64 * (a47 - 1 : Int32) : Int32) + lx84 : Int32).toInt.toNat = _
        rw [m2]
        omega
      have jx : lx84.toNatClampNeg = j := by show lx84.toInt.toNat = j; omega
      rw [ix, jx]
      refine ih (lx84 + 1) _ (j + 1) (by rw [q_addI (y := 1) hj rfl (by omega) (by omega)]; omega) (by omega) (by omega) (fun i hi => ?_) (fun i hi => ?_)
      · unfold upd
        rw [if_neg (by omega)]
        exact h3 i hi
      · unfold upd
        by_cases e : i = j
        · rw [if_pos (by omega), e]
          exact hf j (by omega)
        · rw [if_neg (by omega)]
          exact h4 i (by omega)
theorem V_VRtext {t0_0 : Int32} {t0_1 : Int32} {t0_2 : Int32} {t0_3 : Int32} {t0_4 : Int32} {t0_5 : Int32} {t0_6 : Int32} {t0_7 : Int32} {t0_8 : Int32} {t0_9 : Int32} {t0_10 : Int32} {t0_11 : Int32} {t0_12 : Int32} {t0_13 : Int32} {t0_14 : Int32} {t0_15 : Int32} {t0_16 : Int32} {t0_17 : Int32} {t0_18 : Int32} {t0_19 : Int32} {t0_20 : Int32} {t0_21 : Int32} {t1_0 : (Nat → Int32)} {t2_0 : (Nat → Int32)} {t3_0 : (Nat → Int32)} {t4_0 : (Nat → Int64)} {t5_0 : (Nat → Int32)} {A : List yA} {tp : List Nat} (h : yRA t0_2 t2_0 t3_0 t4_0 t5_0 A) (ht : t0_1.toInt = (tp.length : Int)) (ht2 : tp.length ≤ 64) (hf : yTr t1_0 tp.length (yBr tp)) (hb : ∀ x, x ∈ tp → x < 256) : (9 ≤ A.length ∧ (F_VR_text t0_0 t0_1 t0_2 t0_3 t0_4 t0_5 t0_6 t0_7 t0_8 t0_9 t0_10 t0_11 t0_12 t0_13 t0_14 t0_15 t0_16 t0_17 t0_18 t0_19 t0_20 t0_21 t1_0 t2_0 t3_0 t4_0 t5_0).1 = -1 ∧ yRA (F_VR_text t0_0 t0_1 t0_2 t0_3 t0_4 t0_5 t0_6 t0_7 t0_8 t0_9 t0_10 t0_11 t0_12 t0_13 t0_14 t0_15 t0_16 t0_17 t0_18 t0_19 t0_20 t0_21 t1_0 t2_0 t3_0 t4_0 t5_0).2.2.2.1 (F_VR_text t0_0 t0_1 t0_2 t0_3 t0_4 t0_5 t0_6 t0_7 t0_8 t0_9 t0_10 t0_11 t0_12 t0_13 t0_14 t0_15 t0_16 t0_17 t0_18 t0_19 t0_20 t0_21 t1_0 t2_0 t3_0 t4_0 t5_0).2.2.2.2.1 (F_VR_text t0_0 t0_1 t0_2 t0_3 t0_4 t0_5 t0_6 t0_7 t0_8 t0_9 t0_10 t0_11 t0_12 t0_13 t0_14 t0_15 t0_16 t0_17 t0_18 t0_19 t0_20 t0_21 t1_0 t2_0 t3_0 t4_0 t5_0).2.2.2.2.2.1 (F_VR_text t0_0 t0_1 t0_2 t0_3 t0_4 t0_5 t0_6 t0_7 t0_8 t0_9 t0_10 t0_11 t0_12 t0_13 t0_14 t0_15 t0_16 t0_17 t0_18 t0_19 t0_20 t0_21 t1_0 t2_0 t3_0 t4_0 t5_0).2.2.2.2.2.2.1 (F_VR_text t0_0 t0_1 t0_2 t0_3 t0_4 t0_5 t0_6 t0_7 t0_8 t0_9 t0_10 t0_11 t0_12 t0_13 t0_14 t0_15 t0_16 t0_17 t0_18 t0_19 t0_20 t0_21 t1_0 t2_0 t3_0 t4_0 t5_0).2.2.2.2.2.2.2 A) ∨ (A.length < 9 ∧ (F_VR_text t0_0 t0_1 t0_2 t0_3 t0_4 t0_5 t0_6 t0_7 t0_8 t0_9 t0_10 t0_11 t0_12 t0_13 t0_14 t0_15 t0_16 t0_17 t0_18 t0_19 t0_20 t0_21 t1_0 t2_0 t3_0 t4_0 t5_0).1.toInt = (A.length : Int) + 1 ∧ yRA (F_VR_text t0_0 t0_1 t0_2 t0_3 t0_4 t0_5 t0_6 t0_7 t0_8 t0_9 t0_10 t0_11 t0_12 t0_13 t0_14 t0_15 t0_16 t0_17 t0_18 t0_19 t0_20 t0_21 t1_0 t2_0 t3_0 t4_0 t5_0).2.2.2.1 (F_VR_text t0_0 t0_1 t0_2 t0_3 t0_4 t0_5 t0_6 t0_7 t0_8 t0_9 t0_10 t0_11 t0_12 t0_13 t0_14 t0_15 t0_16 t0_17 t0_18 t0_19 t0_20 t0_21 t1_0 t2_0 t3_0 t4_0 t5_0).2.2.2.2.1 (F_VR_text t0_0 t0_1 t0_2 t0_3 t0_4 t0_5 t0_6 t0_7 t0_8 t0_9 t0_10 t0_11 t0_12 t0_13 t0_14 t0_15 t0_16 t0_17 t0_18 t0_19 t0_20 t0_21 t1_0 t2_0 t3_0 t4_0 t5_0).2.2.2.2.2.1 (F_VR_text t0_0 t0_1 t0_2 t0_3 t0_4 t0_5 t0_6 t0_7 t0_8 t0_9 t0_10 t0_11 t0_12 t0_13 t0_14 t0_15 t0_16 t0_17 t0_18 t0_19 t0_20 t0_21 t1_0 t2_0 t3_0 t4_0 t5_0).2.2.2.2.2.2.1 (F_VR_text t0_0 t0_1 t0_2 t0_3 t0_4 t0_5 t0_6 t0_7 t0_8 t0_9 t0_10 t0_11 t0_12 t0_13 t0_14 t0_15 t0_16 t0_17 t0_18 t0_19 t0_20 t0_21 t1_0 t2_0 t3_0 t4_0 t5_0).2.2.2.2.2.2.2 (A ++ [(4, 0, 0, tp)])) := by
  have e64 : (64 : Int32).toInt = 64 := rfl
  have e9 : (9 : Int32).toInt = 9 := rfl
  have e0 : (0 : Int32).toInt = 0 := rfl
  have h1 := h.1
  have h2 := h.2.1
  unfold F_VR_text
  rw [if_pos (Int32.le_iff_toInt_le.mpr (by omega))]
  by_cases g : t0_2 = 9
  · have g' := q_eqI g
    have en : F_VR_enter 4 t0_1 0 t0_0 t0_1 t0_2 t0_3 t0_4 t0_5 t0_6 t0_7 t0_8 t0_9 t0_10 t0_11 t0_12 t0_13 t0_14 t0_15 t0_16 t0_17 t0_18 t0_19 t0_20 t0_21 t2_0 t3_0 t4_0 = (-1, 0, t0_2, t2_0, t3_0, t4_0) := by
      unfold F_VR_enter
      rw [if_pos g]
    rw [en]
    unfold F_VR_text_c23
    rw [if_pos (show (-1 : Int32) ≤ 0 by decide)]
    exact Or.inl ⟨by omega, rfl, h⟩
  · have g' := q_neI g
    have en : F_VR_enter 4 t0_1 0 t0_0 t0_1 t0_2 t0_3 t0_4 t0_5 t0_6 t0_7 t0_8 t0_9 t0_10 t0_11 t0_12 t0_13 t0_14 t0_15 t0_16 t0_17 t0_18 t0_19 t0_20 t0_21 t2_0 t3_0 t4_0 = ((t0_2 + 1), 0, (t0_2 + 1), (upd t2_0 t0_2.toNatClampNeg 4), (upd t3_0 t0_2.toNatClampNeg t0_1), (vp_updL t4_0 t0_2.toNatClampNeg 0)) := by
      unfold F_VR_enter
      rw [if_neg g]
    have p1 : (t0_2 + 1).toInt = (A.length : Int) + 1 := q_addI (y := 1) h1 rfl (by omega) (by omega)
    rw [en]
    unfold F_VR_text_c23
    rw [if_neg (fun z => by have : (t0_2 + 1).toInt ≤ (0 : Int32).toInt := q_leI z; omega)]
    have r := V_txL (t0_0 := t0_0) (t0_1 := t0_1) (t0_2 := t0_2) (t0_3 := t0_3) (t0_4 := t0_4) (t0_5 := t0_5) (t0_6 := t0_6) (t0_7 := t0_7) (t0_8 := t0_8) (t0_9 := t0_9) (t0_10 := t0_10) (t0_11 := t0_11) (t0_12 := t0_12) (t0_13 := t0_13) (t0_14 := t0_14) (t0_15 := t0_15) (t0_16 := t0_16) (t0_17 := t0_17) (t0_18 := t0_18) (t0_19 := t0_19) (t0_20 := t0_20) (t0_21 := t0_21) (t1_0 := t1_0) (t2_0 := t2_0) (t3_0 := t3_0) (t4_0 := t4_0) (t5_0 := t5_0) (p67 := ((t0_2 + 1), 0, (t0_2 + 1), (upd t2_0 t0_2.toNatClampNeg 4), (upd t3_0 t0_2.toNatClampNeg t0_1), (vp_updL t4_0 t0_2.toNatClampNeg 0))) (a47 := t0_2 + 1) (y49 := 0) (y50 := t0_2 + 1) (f51 := upd t2_0 t0_2.toNatClampNeg 4) (f53 := upd t3_0 t0_2.toNatClampNeg t0_1) (f55 := vp_updL t4_0 t0_2.toNatClampNeg 0) (tx := t5_0) ht ht2 hf p1 (by omega) ((64 - (0 : Int32).toInt).toNat + 1) 0 t5_0 0 rfl (Nat.zero_le _) (by omega) (fun _ _ => rfl) (fun i hi => absurd hi (Nat.not_lt_zero _))
    obtain ⟨r1, r2, r3, r4, r5, r6, r7⟩ := r
    refine Or.inr ⟨by omega, ?_, ?_⟩
    · rw [r1]
      exact p1
    · rw [r2, r3, r4, r5]
      refine yRA_add h (by omega) ⟨show (4 : Nat) ≤ 5 by decide, show (0 : Nat) ≤ 40 by decide, ht2, hb, fun _ => rfl, fun q => absurd (show (4 : Nat) = 1 from q) (by decide), fun q => absurd (show (4 : Nat) = 2 from q) (by decide), fun _ => rfl⟩ rfl rfl (fun z => absurd (show (4 : Nat) = 3 from z) (by decide)) (fun z => absurd (show (4 : Nat) = 5 from z) (by decide)) r6 (fun _ => ⟨ht, fun j hj => r7 j hj⟩)

