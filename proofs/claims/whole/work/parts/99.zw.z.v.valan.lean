/-! values, for whole: texts: the reference's TextRows: spells -/
def yWv : List Nat → Nat
  | [] => 0
  | c :: r => c + 256 * yWv r
def yWo (B : Nat → Int) (L i : Nat) : List Nat → Prop
  | [] => True
  | c :: r => i < L ∧ B i = (c : Int) ∧ yWo B L (i + 1) r
theorem yWo_le {B : Nat → Int} {L : Nat} : ∀ {w : List Nat} {i : Nat}, i ≤ L → yWo B L i w → i + w.length ≤ L
  | [], i, h, _ => by simpa using h
  | c :: r, i, h, g => by
    have := yWo_le (w := r) (i := i + 1) (by have := g.1; omega) g.2.2
    simp only [List.length_cons]
    omega
theorem y_and255 {x : Int64} {v : Nat} (h : x.toInt = (v : Int)) : (x &&& 255).toInt = ((v % 256 : Nat) : Int) := by
  have hx : x.toBitVec.toInt = (v : Int) := h
  have hn : x.toBitVec.toNat = v := by
    have := BitVec.toInt_eq_toNat_cond x.toBitVec
    have hl := x.toBitVec.isLt
    rw [hx] at this
    split at this <;> omega
  have h1 : (x &&& 255).toBitVec.toNat = v % 256 := by
    rw [Int64.toBitVec_and, BitVec.toNat_and, hn]
    exact Nat.and_two_pow_sub_one_eq_mod v 8
  show (x &&& 255).toBitVec.toInt = _
  rw [BitVec.toInt_eq_toNat_of_lt (by rw [h1]; omega), h1]
theorem y_cmpN {a b : Int64} (h : ¬ lg_cmp a b = 0) : a.toInt ≠ b.toInt := fun e => h (by
  have := Int64.toInt_inj.mp e
  subst this
  exact Int32.toInt_inj.mp (by have := s_lcmp (a := a) (b := a); have e : (0 : Int32).toInt = 0 := rfl; omega))
theorem V_spL {x2 : Int64} {t0_0 : Int32} {t0_1 : Int32} {t0_2 : Int32} {t0_3 : Int32} {t0_4 : Int32} {t0_5 : Int32} {t0_6 : Int32} {t0_7 : Int64} {t0_8 : Int32} {t0_9 : Int32} {t0_10 : Int64} {t0_11 : Int64} {t0_12 : Int32} {t0_13 : Int32} {t1_0 : (Nat → Int32)} {L : Nat} {B : Nat → Int} (hT : yTr t1_0 L B) (h1 : t0_1.toInt = (L : Int)) (hL : L ≤ 4100) : ∀ (n : Nat) (lx23 : Int64) (lx24 : Int32), ∀ (w : List Nat) (i : Nat), (∀ c, c ∈ w → 0 < c ∧ c < 128) → w.length < n → lx23.toInt = ((yWv w : Nat) : Int) → lx24.toInt = (i : Int) → i ≤ L → ∃ (c q : Int32), (F_TR_spells_L2 x2 t0_0 t0_1 t0_2 t0_3 t0_4 t0_5 t0_6 t0_7 t0_8 t0_9 t0_10 t0_11 t0_12 t0_13 t1_0 n lx23 lx24) = (c, t0_0, t0_1, t0_2, q, t0_4, t0_5, t0_6, t0_7, t0_8, t0_9, t0_10, t0_11, t0_12, t0_13) ∧ ((c = 0 ∧ ¬ yWo B L i w) ∨ (c = 1 ∧ yWo B L i w ∧ q.toInt = ((i + w.length : Nat) : Int))) := by
  intro n
  induction n with
  | zero =>
    intro lx23 lx24 w i h0 h2
    omega
  | succ n ih =>
    intro lx23 lx24 w i h0 h2 h3 h4 h5
    rw [F_TR_spells_L2.eq_2]
    cases w with
    | nil =>
      have ez : lx23 = 0 := Int64.toInt_inj.mp (by rw [h3]; rfl)
      rw [if_pos (by rw [ez]; rfl)]
      exact ⟨1, lx24, rfl, Or.inr ⟨rfl, trivial, by rw [h4]; simp⟩⟩
    | cons c r =>
      have hc := h0 c (List.mem_cons_self)
      have hv : yWv (c :: r) = c + 256 * yWv r := rfl
      rw [hv] at h3
      have hlt := Int64.toInt_lt lx23
      rw [if_neg (fun h => by have := v_cmp0 h; have e : (0 : Int64).toInt = 0 := rfl; omega)]
      have ha := y_and255 h3
      have hm : (c + 256 * yWv r) % 256 = c := by omega
      rw [hm] at ha
      have hh := V_TR_here (t0_0 := t0_0) (t0_1 := t0_1) (t0_2 := t0_2) (t0_3 := lx24) (t0_4 := t0_4) (t0_5 := t0_5) (t0_6 := t0_6) (t0_7 := t0_7) (t0_8 := t0_8) (t0_9 := t0_9) (t0_10 := t0_10) (t0_11 := t0_11) (t0_12 := t0_12) (t0_13 := t0_13) hT h1 h4
      generalize F_TR_here t0_0 t0_1 t0_2 lx24 t0_4 t0_5 t0_6 t0_7 t0_8 t0_9 t0_10 t0_11 t0_12 t0_13 t1_0 = d at hh ⊢
      by_cases g : lg_cmp d.toInt64 (lx23 &&& 255) = 0
      · rw [if_pos g]
        have g1 := v_cmp0 g
        rw [Int32.toInt_toInt64, ha, hh] at g1
        have iL : i < L := by
          by_cases a : i < L
          · exact a
          · rw [if_neg a] at g1
            omega
        rw [if_pos iL] at g1
        obtain ⟨c2, q, e, o⟩ := ih (lx23 >>> ((8 : Int32).toInt64 &&& 63)) (lx24 + 1) r (i + 1) (fun c hc => h0 c (List.mem_cons_of_mem _ hc)) (by simp only [List.length_cons] at h2; omega) (by rw [tr_shr8, h3]; omega) (by rw [q_addI (y := 1) h4 rfl (by omega) (by omega)]; omega) (by omega)
        refine ⟨c2, q, e, ?_⟩
        rcases o with ⟨o1, o2⟩ | ⟨o1, o2, o3⟩
        · exact Or.inl ⟨o1, fun h => o2 h.2.2⟩
        · exact Or.inr ⟨o1, ⟨iL, g1, o2⟩, by rw [o3]; simp only [List.length_cons]; omega⟩
      · rw [if_neg g]
        have g1 := y_cmpN g
        rw [Int32.toInt_toInt64, ha, hh] at g1
        exact ⟨0, lx24, rfl, Or.inl ⟨rfl, fun h => g1 (by rw [if_pos h.1]; exact h.2.1)⟩⟩
theorem V_TR_spells {x2 : Int64} {t0_0 : Int32} {t0_1 : Int32} {t0_2 : Int32} {t0_3 : Int32} {t0_4 : Int32} {t0_5 : Int32} {t0_6 : Int32} {t0_7 : Int64} {t0_8 : Int32} {t0_9 : Int32} {t0_10 : Int64} {t0_11 : Int64} {t0_12 : Int32} {t0_13 : Int32} {t1_0 : (Nat → Int32)} {L i : Nat} {B : Nat → Int} {w : List Nat} (hT : yTr t1_0 L B) (h1 : t0_1.toInt = (L : Int)) (hL : L ≤ 4100) (hw : ∀ c, c ∈ w → 0 < c ∧ c < 128) (hl : w.length ≤ 20) (h2 : x2.toInt = ((yWv w : Nat) : Int)) (h3 : t0_3.toInt = (i : Int)) (hi : i ≤ L) : ∃ (c q : Int32), (F_TR_spells x2 t0_0 t0_1 t0_2 t0_3 t0_4 t0_5 t0_6 t0_7 t0_8 t0_9 t0_10 t0_11 t0_12 t0_13 t1_0) = (c, t0_0, t0_1, t0_2, q, t0_4, t0_5, t0_6, t0_7, t0_8, t0_9, t0_10, t0_11, t0_12, t0_13) ∧ ((c = 0 ∧ ¬ yWo B L i w) ∨ (c = 1 ∧ yWo B L i w ∧ q.toInt = ((i + w.length : Nat) : Int))) := by
  unfold F_TR_spells
  exact V_spL hT h1 hL _ x2 t0_3 w i hw (by omega) h2 h3 hi
def yNaN : List Nat := [78, 97, 78]
def yInf : List Nat := [73, 110, 102, 105, 110, 105, 116, 121]
theorem yNaN_v : yWv yNaN = 5136718 := by decide
theorem yInf_v : yWv yInf = 8751735898823355977 := by decide
/-- the rest are blanks -/
def yEd (B : Nat → Int) (L p : Nat) : Prop := ∀ i, p ≤ i → i < L → B i ≤ 32
/-- behind a sign: a word or a number -/
def yCo (B : Nat → Int) (cap L s : Nat) (r : Option (Int32 × Nat × Nat × Nat × (Nat → Int) × Int)) : Prop := (yWo B L s yNaN ∧ r = some (3, s + 3, 0, 0, fun _ => 0, 0)) ∨ (yWo B L s yInf ∧ r = some (2, s + 8, 0, 0, fun _ => 0, 0)) ∨ (¬ yWo B L s yNaN ∧ ¬ yWo B L s yInf ∧ yNr B cap L s r)
def yNz (B : Nat → Int) (L s : Nat) : Nat := if s < L ∧ B s = 45 then 1 else 0
/-- what a float's text says: the sign, the kind, how many figures, the point's place, the figures, the power -/
def yFl (B : Nat → Int) (cap L : Nat) (z : Option (Nat × Int32 × Nat × Nat × (Nat → Int) × Int)) : Prop := ∃ a r, yBl B L 0 a ∧ yCo B cap L (yS1 B L a) r ∧ ((r = none ∧ z = none) ∨ ∃ k p M pt f e, r = some (k, p, M, pt, f, e) ∧ ((¬ yEd B L p ∧ z = none) ∨ (yEd B L p ∧ z = some (yNz B L a, k, M, pt, f, e))))
theorem yBl_Ed {B : Nat → Int} {L s p : Nat} (h : yBl B L s p) : p = L ↔ yEd B L s := by
  obtain ⟨h1, h2, h3, h4⟩ := h
  constructor
  · intro e i a b
    exact h3 i a (by omega)
  · intro g
    rcases h4 with e | e
    · exact e
    · by_cases c : p < L
      · have := g p h1 c
        omega
      · omega
/-- no figure: no number -/
theorem yNr_no {B : Nat → Int} {cap L s : Nat} (hs : s < L) (h : B s = 78 ∨ B s = 73) : yNr B cap L s none := by
  refine Or.inr ⟨fun g => by have := g.2.1; omega, s, 0, none, fun _ => 0, yRn_0, ⟨by omega, Or.inr ⟨?_, fun e => by omega⟩⟩, Or.inl ⟨rfl, rfl⟩⟩
  rcases h with h | h <;> rw [h] <;> decide
