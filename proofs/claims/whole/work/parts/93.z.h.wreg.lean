/-! the reference's registers of whole numbers: take, isZero, store -/
def wVk (k : Nat → Int32) (x : Int32) : Int := wV (fun i => k (128 * x.toNatClampNeg + i)) 128
theorem w_ix {x k : Int32} (hx : 0 ≤ x.toInt ∧ x.toInt ≤ 10) (hk : 0 ≤ k.toInt ∧ k.toInt ≤ 128) : ((128 * x) + k : Int32).toInt = 128 * x.toInt + k.toInt ∧ ((128 * x) + k : Int32).toNatClampNeg = 128 * x.toNatClampNeg + k.toNatClampNeg := by
  have e1 : (128 * x : Int32).toInt = 128 * x.toInt := q_mulI (x := 128) (by decide) rfl (by omega) (by omega)
  have e2 : ((128 * x) + k : Int32).toInt = 128 * x.toInt + k.toInt := q_addI e1 rfl (by omega) (by omega)
  have e3 := q_clI (i := (128 * x) + k) e2 (by omega)
  have e4 := q_clI (i := x) rfl hx.1
  have e5 := q_clI (i := k) rfl hk.1
  exact ⟨e2, by omega⟩
theorem w_takeL {x2 N3 t0_0 t0_1 t0_2 t0_3 t0_4 t0_5 t0_6 : Int32} {t1_0 t2_0 : Nat → Int32} (hx : 0 ≤ x2.toInt ∧ x2.toInt ≤ 10) : ∀ (n : Nat) (k : Int32) (g : Nat → Int32), 0 ≤ k.toInt → k.toInt ≤ N3.toInt → N3.toInt - k.toInt < n → (∀ i : Nat, (i : Int) < k.toInt → g i = if i < 128 then t1_0 (128 * x2.toNatClampNeg + i) else 0) →
    S_WR_take_L2 x2 N3 t0_0 t0_1 t0_2 t0_3 t0_4 t0_5 t0_6 t1_0 t2_0 n k g ∧ ∀ i : Nat, (i : Int) < N3.toInt → F_WR_take_L2 x2 N3 t0_0 t0_1 t0_2 t0_3 t0_4 t0_5 t0_6 t1_0 t2_0 n k g i = if i < 128 then t1_0 (128 * x2.toNatClampNeg + i) else 0 := by
  intro n
  induction n with
  | zero => intro k g h0 hk h1 h2; omega
  | succ n ih =>
    intro k g h0 hk h1 h2
    rw [S_WR_take_L2.eq_2, F_WR_take_L2.eq_2]
    have hN := Int32.toInt_lt N3
    have e8 : (128 : Int32).toInt = 128 := rfl
    by_cases c : N3 ≤ k
    · rw [if_pos c, if_pos c]
      have := q_leI c
      exact ⟨trivial, fun i hi => h2 i (by omega)⟩
    · rw [if_neg c, if_neg c]
      have c2 := q_nleI c
      have e1 : (k + 1 : Int32).toInt = k.toInt + 1 := q_addI (y := 1) rfl (by decide) (by omega) (by omega)
      have ek := q_clI (i := k) rfl h0
      by_cases d : (128 : Int32) ≤ k
      · rw [if_pos d, if_pos d]
        have d2 := q_leI d
        refine ih _ _ (by omega) (by omega) (by omega) (fun j hj => ?_)
        by_cases e : j = k.toNatClampNeg
        · rw [e, v_eq, if_neg (by omega)]
        · rw [v_ne e]; exact h2 j (by omega)
      · rw [if_neg d, if_neg d]
        have d2 := q_nleI d
        obtain ⟨i1, i2⟩ := w_ix hx ⟨h0, by omega⟩
        refine v_cons (by omega) (v_cons (by omega) ?_)
        rw [i2]
        refine ih _ _ (by omega) (by omega) (by omega) (fun j hj => ?_)
        by_cases e : j = k.toNatClampNeg
        · rw [e, v_eq, if_pos (by omega)]
        · rw [v_ne e]; exact h2 j (by omega)
/-- a register in a row at work -/
def wK (v : Int) (r : Nat → Int32) : Prop := wO r 264 ∧ wE (wV r 264) v
theorem R_take {x2 t0_0 t0_1 t0_2 t0_3 t0_4 t0_5 t0_6 : Int32} {t1_0 t2_0 : Nat → Int32} (hx : 0 ≤ x2.toInt ∧ x2.toInt ≤ 10) (ho : wO t1_0 1408) : S_WR_take x2 264 t0_0 t0_1 t0_2 t0_3 t0_4 t0_5 t0_6 t1_0 t2_0 ∧ wK (wVk t1_0 x2) (F_WR_take x2 264 t0_0 t0_1 t0_2 t0_3 t0_4 t0_5 t0_6 t1_0 t2_0) := by
  have e0 : (0 : Int32).toInt = 0 := rfl
  have e264 : (264 : Int32).toInt = 264 := rfl
  unfold S_WR_take F_WR_take
  have ex := q_clI (i := x2) rfl hx.1
  obtain ⟨h1, h2⟩ := w_takeL (N3 := 264) (t0_0 := t0_0) (t0_1 := t0_1) (t0_2 := t0_2) (t0_3 := t0_3) (t0_4 := t0_4) (t0_5 := t0_5) (t0_6 := t0_6) (t1_0 := t1_0) (t2_0 := t2_0) hx ((20200 - (0 : Int32).toInt).toNat + 1) 0 t2_0 (by decide) (by decide) (by omega) (fun i hi => by omega)
  refine ⟨h1, fun i hi => ?_, ?_⟩
  · rw [h2 i (by omega)]
    split
    · exact ho _ (by omega)
    · exact ⟨by decide, by decide⟩
  · show _ = _
    rw [w_zer (k := 128) (n := 264) (by omega) (fun i a b => by rw [h2 i (by omega), if_neg (by omega)])]
    exact w_ext (fun i hi => by rw [h2 i (by omega), if_pos hi])
theorem wVk_nn {k : Nat → Int32} {x : Int32} (hx : 0 ≤ x.toInt ∧ x.toInt ≤ 10) (ho : wO k 1408) : 0 ≤ wVk k x ∧ wVk k x < 65536 ^ 128 := by
  have ex := q_clI (i := x) rfl hx.1
  have h : wO (fun i => k (128 * x.toNatClampNeg + i)) 128 := fun i hi => ho _ (by omega)
  exact ⟨w_nn h, w_lt h⟩
theorem w_isZL {x2 t0_0 t0_1 t0_2 t0_3 t0_4 t0_5 t0_6 : Int32} {t1_0 : Nat → Int32} (hx : 0 ≤ x2.toInt ∧ x2.toInt ≤ 10) : ∀ (n : Nat) (k b : Int32), 0 ≤ k.toInt → k.toInt ≤ 128 → 128 - k.toInt < n → ((b = 1 ∧ ∀ i : Nat, (i : Int) < k.toInt → t1_0 (128 * x2.toNatClampNeg + i) = 0) ∨ (b = 0 ∧ ∃ i : Nat, i < 128 ∧ t1_0 (128 * x2.toNatClampNeg + i) ≠ 0)) →
    S_WR_isZero_L4 x2 t0_0 t0_1 t0_2 t0_3 t0_4 t0_5 t0_6 t1_0 n k b ∧ ((F_WR_isZero_L4 x2 t0_0 t0_1 t0_2 t0_3 t0_4 t0_5 t0_6 t1_0 n k b = 1 ∧ ∀ i : Nat, i < 128 → t1_0 (128 * x2.toNatClampNeg + i) = 0) ∨ (F_WR_isZero_L4 x2 t0_0 t0_1 t0_2 t0_3 t0_4 t0_5 t0_6 t1_0 n k b = 0 ∧ ∃ i : Nat, i < 128 ∧ t1_0 (128 * x2.toNatClampNeg + i) ≠ 0)) := by
  intro n
  induction n with
  | zero => intro k b h0 hk h1 h2; omega
  | succ n ih =>
    intro k b h0 hk h1 h2
    rw [S_WR_isZero_L4.eq_2, F_WR_isZero_L4.eq_2]
    have e8 : (128 : Int32).toInt = 128 := rfl
    by_cases c : (128 : Int32) ≤ k
    · rw [if_pos c, if_pos c]
      have := q_leI c
      refine ⟨trivial, ?_⟩
      rcases h2 with ⟨a, h⟩ | ⟨a, h⟩
      · exact Or.inl ⟨a, fun i hi => h i (by omega)⟩
      · exact Or.inr ⟨a, h⟩
    · rw [if_neg c, if_neg c]
      have c2 := q_nleI c
      have e1 : (k + 1 : Int32).toInt = k.toInt + 1 := q_addI (y := 1) rfl (by decide) (by omega) (by omega)
      have ek := q_clI (i := k) rfl h0
      obtain ⟨i1, i2⟩ := w_ix hx ⟨h0, by omega⟩
      by_cases d : b = 0
      · rw [if_pos d, if_pos d]
        refine ih _ _ (by omega) (by omega) (by omega) (Or.inr ⟨rfl, ?_⟩)
        rcases h2 with ⟨a, -⟩ | ⟨-, h⟩
        · rw [d] at a; exact absurd a (by decide)
        · exact h
      · rw [if_neg d, if_neg d]
        refine v_cons (by omega) (v_cons (by omega) ?_)
        rw [i2]
        have hz : ∀ i : Nat, (i : Int) < k.toInt → t1_0 (128 * x2.toNatClampNeg + i) = 0 := by
          rcases h2 with ⟨-, h⟩ | ⟨a, -⟩
          · exact h
          · exact absurd a d
        by_cases z : t1_0 (128 * x2.toNatClampNeg + k.toNatClampNeg) = 0
        · rw [if_pos z, if_pos z]
          refine ih _ _ (by omega) (by omega) (by omega) (Or.inl ⟨rfl, fun i hi => ?_⟩)
          by_cases e : i = k.toNatClampNeg
          · rw [e]; exact z
          · exact hz i (by omega)
        · rw [if_neg z, if_neg z]
          exact ih _ _ (by omega) (by omega) (by omega) (Or.inr ⟨rfl, k.toNatClampNeg, by omega, z⟩)
def wZ (v : Int) (b : Int32) : Prop := (b = 1 ∧ v = 0) ∨ (b = 0 ∧ 0 < v)
theorem R_isZero {x2 t0_0 t0_1 t0_2 t0_3 t0_4 t0_5 t0_6 : Int32} {t1_0 : Nat → Int32} (hx : 0 ≤ x2.toInt ∧ x2.toInt ≤ 10) (ho : wO t1_0 1408) : S_WR_isZero x2 t0_0 t0_1 t0_2 t0_3 t0_4 t0_5 t0_6 t1_0 ∧ wZ (wVk t1_0 x2) (F_WR_isZero x2 t0_0 t0_1 t0_2 t0_3 t0_4 t0_5 t0_6 t1_0) := by
  have e0 : (0 : Int32).toInt = 0 := rfl
  unfold S_WR_isZero F_WR_isZero
  have ex := q_clI (i := x2) rfl hx.1
  obtain ⟨h1, h2⟩ := w_isZL (t0_0 := t0_0) (t0_1 := t0_1) (t0_2 := t0_2) (t0_3 := t0_3) (t0_4 := t0_4) (t0_5 := t0_5) (t0_6 := t0_6) (t1_0 := t1_0) hx ((128 - (0 : Int32).toInt).toNat + 1) 0 1 (by decide) (by decide) (by omega) (Or.inl ⟨rfl, fun i hi => by omega⟩)
  refine ⟨h1, ?_⟩
  have h : wO (fun i => t1_0 (128 * x2.toNatClampNeg + i)) 128 := fun i hi => ho _ (by omega)
  rcases h2 with ⟨a, h3⟩ | ⟨a, i, h3, h4⟩
  · exact Or.inl ⟨a, w_zer (k := 0) (n := 128) (f := fun i => t1_0 (128 * x2.toNatClampNeg + i)) (by omega) (fun i _ b => h3 i b)⟩
  · have h5 := w_ge h h3 h4
    have h6 := w_pos i
    exact Or.inr ⟨a, Int.lt_of_lt_of_le h6 h5⟩
/-- the registers: limbs and signs -/
def wR (k m : Nat → Int32) : Prop := wO k 1408 ∧ ∀ i, i < 11 → 0 ≤ (m i).toInt ∧ (m i).toInt ≤ 1
theorem wR.mi {k m : Nat → Int32} {x : Int32} (h : wR k m) (hx : 0 ≤ x.toInt ∧ x.toInt ≤ 10) : 0 ≤ (m x.toNatClampNeg).toInt ∧ (m x.toNatClampNeg).toInt ≤ 1 := h.2 _ (by have := q_clI (i := x) rfl hx.1; omega)
def wSt (to : Int32) (k0 m0 row : Nat → Int32) (p : Int32 × Int32 × Int32 × Int32 × Int32 × Int32 × Int32 × (Nat → Int32) × (Nat → Int32)) : Prop :=
  (∀ i, p.2.2.2.2.2.2.2.1 i = if 128 * to.toNatClampNeg ≤ i ∧ i < 128 * to.toNatClampNeg + 128 then row (i - 128 * to.toNatClampNeg) else k0 i) ∧ ∃ b : Int32, (b = 0 ∨ b = 1) ∧ p.2.2.2.2.2.2.2.2 = upd m0 to.toNatClampNeg b
theorem w_storeL {x2 t0_0 t0_1 t0_2 t0_3 t0_4 t0_5 t0_6 : Int32} {t1_0 t2_0 t3_0 : Nat → Int32} (hx : 0 ≤ x2.toInt ∧ x2.toInt ≤ 10) : ∀ (n : Nat) (k b : Int32) (g : Nat → Int32), 0 ≤ k.toInt → k.toInt ≤ 128 → 128 - k.toInt < n → (∀ i : Nat, g i = if 128 * x2.toNatClampNeg ≤ i ∧ i < 128 * x2.toNatClampNeg + k.toNatClampNeg then t3_0 (i - 128 * x2.toNatClampNeg) else t1_0 i) →
    S_WR_store_L26 x2 t0_0 t0_1 t0_2 t0_3 t0_4 t0_5 t0_6 t1_0 t2_0 t3_0 n k b g ∧ wSt x2 t1_0 t2_0 t3_0 (F_WR_store_L26 x2 t0_0 t0_1 t0_2 t0_3 t0_4 t0_5 t0_6 t1_0 t2_0 t3_0 n k b g) := by
  intro n
  induction n with
  | zero => intro k b g h0 hk h1 h2; omega
  | succ n ih =>
    intro k b g h0 hk h1 h2
    have z0 : (vp_nar .boolean 0 : Int32) = 0 := by decide
    have z1 : (vp_nar .boolean 1 : Int32) = 1 := by decide
    rw [S_WR_store_L26.eq_2, F_WR_store_L26.eq_2]
    have e8 : (128 : Int32).toInt = 128 := rfl
    have ek := q_clI (i := k) rfl h0
    by_cases c : (128 : Int32) ≤ k
    · rw [if_pos c, if_pos c]
      have c2 := q_leI c
      have e9 : k.toNatClampNeg = 128 := by omega
      rw [e9] at h2
      by_cases d : t0_3 = 0
      · rw [if_pos d, if_pos d]
        exact ⟨⟨hx.1, hx.2, trivial⟩, h2, 0, Or.inl rfl, by rw [z0]⟩
      · rw [if_neg d, if_neg d]
        by_cases d2 : b = 0
        · rw [if_pos d2, if_pos d2]
          exact ⟨⟨hx.1, hx.2, trivial⟩, h2, 0, Or.inl rfl, by rw [z0]⟩
        · rw [if_neg d2, if_neg d2]
          exact ⟨⟨hx.1, hx.2, trivial⟩, h2, 1, Or.inr rfl, by rw [z1]⟩
    · rw [if_neg c, if_neg c]
      have c2 := q_nleI c
      have e1 : (k + 1 : Int32).toInt = k.toInt + 1 := q_addI (y := 1) rfl (by decide) (by omega) (by omega)
      have ek1 := q_clI (i := k + 1) e1 (by omega)
      obtain ⟨i1, i2⟩ := w_ix hx ⟨h0, by omega⟩
      refine v_cons (by omega) (v_cons (by omega) ?_)
      rw [i2]
      have go : ∀ i : Nat, upd g (128 * x2.toNatClampNeg + k.toNatClampNeg) (t3_0 k.toNatClampNeg) i = if 128 * x2.toNatClampNeg ≤ i ∧ i < 128 * x2.toNatClampNeg + (k + 1 : Int32).toNatClampNeg then t3_0 (i - 128 * x2.toNatClampNeg) else t1_0 i := fun i => by
        by_cases e : i = 128 * x2.toNatClampNeg + k.toNatClampNeg
        · have e5 : i - 128 * x2.toNatClampNeg = k.toNatClampNeg := by omega
          rw [if_pos (by omega), e5, e, v_eq]
        · rw [v_ne e, h2 i]
          by_cases e6 : 128 * x2.toNatClampNeg ≤ i ∧ i < 128 * x2.toNatClampNeg + k.toNatClampNeg
          · rw [if_pos e6, if_pos (by omega)]
          · rw [if_neg e6, if_neg (by omega)]
      by_cases d : b = 0
      · rw [if_pos d, if_pos d]
        by_cases d2 : t3_0 k.toNatClampNeg = 0
        · rw [if_pos d2, if_pos d2]
          exact ih _ _ _ (by omega) (by omega) (by omega) go
        · rw [if_neg d2, if_neg d2]
          exact ih _ _ _ (by omega) (by omega) (by omega) go
      · rw [if_neg d, if_neg d]
        exact ih _ _ _ (by omega) (by omega) (by omega) go
/-- what a store leaves: the registers keep their form -/
theorem R_store {x2 t0_0 t0_1 t0_2 t0_3 t0_4 t0_5 t0_6 : Int32} {t1_0 t2_0 t3_0 : Nat → Int32} (hx : 0 ≤ x2.toInt ∧ x2.toInt ≤ 10) (hr : wR t1_0 t2_0) (ho : wO t3_0 264) : S_WR_store x2 t0_0 t0_1 t0_2 t0_3 t0_4 t0_5 t0_6 t1_0 t2_0 t3_0 ∧ wR (F_WR_store x2 t0_0 t0_1 t0_2 t0_3 t0_4 t0_5 t0_6 t1_0 t2_0 t3_0).2.2.2.2.2.2.2.1 (F_WR_store x2 t0_0 t0_1 t0_2 t0_3 t0_4 t0_5 t0_6 t1_0 t2_0 t3_0).2.2.2.2.2.2.2.2 := by
  have e0 : (0 : Int32).toInt = 0 := rfl
  have n0 : (0 : Int32).toNatClampNeg = 0 := rfl
  have ex := q_clI (i := x2) rfl hx.1
  unfold S_WR_store F_WR_store
  by_cases c : F_WR_size 264 t3_0 ≤ 128
  · rw [if_pos c, if_pos c]
    obtain ⟨h1, h2, b, h3, h4⟩ := w_storeL (t0_0 := t0_0) (t0_1 := t0_1) (t0_2 := t0_2) (t0_3 := t0_3) (t0_4 := t0_4) (t0_5 := t0_5) (t0_6 := t0_6) (t1_0 := t1_0) (t2_0 := t2_0) (t3_0 := t3_0) hx ((128 - (0 : Int32).toInt).toNat + 1) 0 0 t1_0 (by decide) (by decide) (by omega) (fun i => by rw [if_neg (by omega)])
    refine ⟨h1, fun i hi => ?_, fun i hi => ?_⟩
    · rw [h2 i]
      split
      · exact ho _ (by omega)
      · exact hr.1 i hi
    · rw [h4]
      by_cases e : i = x2.toNatClampNeg
      · rw [e, v_eq]
        rcases h3 with rfl | rfl <;> exact ⟨by decide, by decide⟩
      · rw [v_ne e]; exact hr.2 i hi
  · rw [if_neg c, if_neg c]
    exact ⟨trivial, hr.1, hr.2⟩
