/-! DecimalRows: the value of figures; reaches, takeAway, nextFigure -/
def uV (f : Nat → Int32) : Nat → Int
  | 0 => 0
  | n + 1 => uV f n * 10 + (f n).toInt
theorem u_pos (n : Nat) : (0 : Int) < 10 ^ n := Int.pow_pos (by decide)
theorem u_pw (n : Nat) : (10 : Int) ^ (n + 1) = 10 ^ n * 10 := Int.pow_succ _ _
theorem u_nn {f : Nat → Int32} : ∀ {n : Nat}, gO f n → 0 ≤ uV f n
  | 0, _ => Int.le_refl 0
  | n + 1, h => by
    have h1 := u_nn (f := f) (n := n) (h.mono (by omega))
    have h2 := (h n (by omega)).1
    show 0 ≤ uV f n * 10 + _
    omega
theorem u_lt {f : Nat → Int32} : ∀ {n : Nat}, gO f n → uV f n < 10 ^ n
  | 0, _ => by show (0 : Int) < 1; decide
  | n + 1, h => by
    have h1 := u_lt (f := f) (n := n) (h.mono (by omega))
    have h2 := (h n (by omega)).2
    show uV f n * 10 + _ < _
    rw [u_pw]
    omega
theorem u_ext {f g : Nat → Int32} : ∀ {n : Nat}, (∀ i, i < n → f i = g i) → uV f n = uV g n
  | 0, _ => rfl
  | n + 1, h => by
    show uV f n * 10 + _ = uV g n * 10 + _
    rw [u_ext (n := n) (fun i hi => h i (by omega)), h n (by omega)]
theorem u_zer {f : Nat → Int32} : ∀ {n : Nat}, (∀ i, i < n → f i = 0) → uV f n = 0
  | 0, _ => rfl
  | n + 1, h => by
    show uV f n * 10 + _ = 0
    rw [u_zer (n := n) (fun i hi => h i (by omega)), h n (by omega)]
    rfl
theorem u_tl {f : Nat → Int32} : ∀ {n : Nat}, uV f (n + 1) = (f 0).toInt * 10 ^ n + uV (fun i => f (i + 1)) n
  | 0 => by show 0 * 10 + (f 0).toInt = (f 0).toInt * 1 + 0; omega
  | n + 1 => by
    show uV f (n + 1) * 10 + (f (n + 1)).toInt = (f 0).toInt * 10 ^ (n + 1) + (uV (fun i => f (i + 1)) n * 10 + (f (n + 1)).toInt)
    rw [u_tl (n := n), u_pw, Int.add_mul, Int.mul_assoc]
    omega
theorem u_cmp {g h : Nat → Int32} {k : Nat} (e : uV g k = uV h k) (hk : (g k).toInt < (h k).toInt) : ∀ {n : Nat}, k < n → gO g n → gO h n → uV g n < uV h n
  | 0, hn, _, _ => by omega
  | n + 1, hn, hg, hh => by
    show uV g n * 10 + _ < uV h n * 10 + _
    by_cases c : k = n
    · subst c; rw [e]; omega
    · have h1 := u_cmp e hk (n := n) (by omega) (hg.mono (by omega)) (hh.mono (by omega))
      have h2 := (hg n (by omega)).2
      have h3 := (hh n (by omega)).1
      omega
theorem u_updge {f : Nat → Int32} {i : Nat} {x : Int32} : ∀ {n : Nat}, n ≤ i → uV (upd f i x) n = uV f n
  | 0, _ => rfl
  | n + 1, h => by
    show uV (upd f i x) n * 10 + _ = uV f n * 10 + _
    rw [u_updge (n := n) (by omega), v_ne (by omega)]
theorem u_upd {f : Nat → Int32} {i : Nat} {x : Int32} : ∀ {n : Nat}, i < n → uV (upd f i x) n = uV f n + (x.toInt - (f i).toInt) * 10 ^ (n - 1 - i)
  | 0, h => by omega
  | n + 1, h => by
    show uV (upd f i x) n * 10 + (upd f i x n).toInt = uV f n * 10 + (f n).toInt + _
    by_cases c : i = n
    · subst c
      have e : i + 1 - 1 - i = 0 := by omega
      rw [u_updge (Nat.le_refl _), v_eq, e, Int.pow_zero, Int.mul_one]
      omega
    · have e : n + 1 - 1 - i = (n - 1 - i) + 1 := by omega
      rw [u_upd (n := n) (by omega), v_ne (by omega), e, u_pw, Int.add_mul, Int.mul_assoc]
      omega
section UD
variable {t0_0 t0_1 t0_2 : Int32} {t0_3 : Int64} {t0_4 t0_5 t0_6 t0_7 t0_8 t0_9 t0_10 : Int32} {un : Nat → Int32} {u : Nat}
theorem u_reL {le : Nat → Int32} (hu : t0_7.toInt = u) (h9 : u ≤ 2199) (hg : gO un u) (hl : gO le (u + 1)) : ∀ (n k : Nat) (x : Int32), x.toInt = k → k ≤ u → u - k < n → wE (uV (fun i => le (i + 1)) k) (uV un k) →
    S_DR_reaches_L13 t0_0 t0_1 t0_2 t0_3 t0_4 t0_5 t0_6 t0_7 t0_8 t0_9 t0_10 un le n x ∧ ((F_DR_reaches_L13 t0_0 t0_1 t0_2 t0_3 t0_4 t0_5 t0_6 t0_7 t0_8 t0_9 t0_10 un le n x = 0 ∧ uV (fun i => le (i + 1)) u < uV un u) ∨ (F_DR_reaches_L13 t0_0 t0_1 t0_2 t0_3 t0_4 t0_5 t0_6 t0_7 t0_8 t0_9 t0_10 un le n x ≠ 0 ∧ uV un u ≤ uV (fun i => le (i + 1)) u)) := by
  have hl1 : gO (fun i => le (i + 1)) u := fun i hi => hl (i + 1) (by omega)
  intro n
  induction n with
  | zero => intro k x hx h1 h2 he; omega
  | succ n ih =>
    intro k x hx h1 h2 he
    have ex : x.toNatClampNeg = k := by have := q_clI (i := x) hx (by omega); omega
    have e1 : (x + 1 : Int32).toInt = (k : Int) + 1 := q_addI (y := 1) hx (by decide) (by omega) (by omega)
    have ex1 : (x + 1 : Int32).toNatClampNeg = k + 1 := by have := q_clI (i := x + 1) e1 (by omega); omega
    rw [S_DR_reaches_L13.eq_2, F_DR_reaches_L13.eq_2]
    by_cases c : t0_7 ≤ x
    · rw [if_pos c, if_pos c]
      have c2 := q_leI c
      have : k = u := by omega
      subst this
      refine ⟨trivial, Or.inr ⟨by decide, ?_⟩⟩
      have he : _ = _ := he
      rw [he]
      exact Int.le_refl _
    · rw [if_neg c, if_neg c]
      have c2 := q_nleI c
      rw [ex, ex1]
      refine v_cons (by omega) (v_cons (by omega) ?_)
      by_cases d : le (k + 1) = un k
      · rw [if_pos d, if_pos d]
        refine ih (k + 1) (x + 1) (by omega) (by omega) (by omega) ?_
        have he : _ = _ := he
        show uV (fun i => le (i + 1)) k * 10 + (le (k + 1)).toInt = uV un k * 10 + (un k).toInt
        rw [he, d]
      · rw [if_neg d, if_neg d]
        have d2 : (le (k + 1)).toInt ≠ (un k).toInt := fun e => d (Int32.toInt_inj.mp e)
        have he : _ = _ := he
        by_cases y : le (k + 1) ≤ un k
        · rw [if_pos y, if_pos y]
          have y1 := q_leI y
          exact ⟨trivial, Or.inl ⟨rfl, u_cmp (g := fun i => le (i + 1)) he (show (le (k + 1)).toInt < (un k).toInt by omega) (by omega) hl1 hg⟩⟩
        · rw [if_neg y, if_neg y]
          have y1 := q_nleI y
          exact ⟨trivial, Or.inr ⟨by decide, Int.le_of_lt (u_cmp (h := fun i => le (i + 1)) he.symm y1 (by omega) hg hl1)⟩⟩
/-- the figures that are left reach what is under them -/
theorem R_reach {le : Nat → Int32} (hu : t0_7.toInt = u) (h9 : u ≤ 2199) (hg : gO un u) (hl : gO le (u + 1)) : S_DR_reaches t0_0 t0_1 t0_2 t0_3 t0_4 t0_5 t0_6 t0_7 t0_8 t0_9 t0_10 un le ∧ ((F_DR_reaches t0_0 t0_1 t0_2 t0_3 t0_4 t0_5 t0_6 t0_7 t0_8 t0_9 t0_10 un le = 0 ∧ uV le (u + 1) < uV un u) ∨ (F_DR_reaches t0_0 t0_1 t0_2 t0_3 t0_4 t0_5 t0_6 t0_7 t0_8 t0_9 t0_10 un le ≠ 0 ∧ uV un u ≤ uV le (u + 1))) := by
  unfold S_DR_reaches F_DR_reaches
  have z : (0 : Int32).toNatClampNeg = 0 := rfl
  have e0 : (0 : Int32).toInt = 0 := rfl
  have hl1 : gO (fun i => le (i + 1)) u := fun i hi => hl (i + 1) (by omega)
  rw [z, u_tl]
  by_cases c : le 0 = 0
  · rw [if_pos c, if_pos c, c, e0, Int.zero_mul, Int.zero_add]
    exact u_reL hu h9 hg hl _ 0 0 rfl (by omega) (by omega) rfl
  · rw [if_neg c, if_neg c]
    refine ⟨trivial, Or.inr ⟨by decide, ?_⟩⟩
    have h1 := (hl 0 (by omega)).1
    have h2 : (le 0).toInt ≠ 0 := fun e => c (Int32.toInt_inj.mp (by rw [e]; rfl))
    have h3 := Int.mul_le_mul_of_nonneg_right (show 1 ≤ (le 0).toInt by omega) (Int.le_of_lt (u_pos u))
    have h4 := u_lt hg
    have h5 := u_nn hl1
    rw [Int.one_mul] at h3
    generalize (le 0).toInt * 10 ^ u = a at *
    generalize (10 : Int) ^ u = b at *
    generalize uV (fun i => le (i + 1)) u = d at *
    generalize uV un u = e at *
    omega
theorem u_tkId {V L U E v o k c c' a b : Int} (h : V + c * E = L - (U - (a * 10 + b) * E)) (hv : v + 10 * c' = o - b + c) : (V + (v - o) * E) + c' * (E * 10) = L - (U - a * (E * 10)) := by
  have h2 : (v + 10 * c') * E = (o - b + c) * E := by rw [hv]
  simp only [Int.add_mul, Int.sub_mul] at h h2 ⊢
  have e1 : c' * (E * 10) = 10 * c' * E := by rw [Int.mul_comm E, ← Int.mul_assoc, Int.mul_comm c']
  have e2 : a * (E * 10) = a * 10 * E := by rw [Int.mul_comm E, ← Int.mul_assoc]
  rw [e1, e2]
  omega
theorem u_tkL {l0 : Nat → Int32} {L : Int} (hu : t0_7.toInt = u) (h9 : u ≤ 2199) (hg : gO un u) (hUL : wL (uV un u - 1) L) : ∀ (n K : Nat) (k c : Int32) (le : Nat → Int32), (K : Int) = k.toInt + 1 → K ≤ u → K < n → gO le (u + 1) → (c.toInt = 0 ∨ c.toInt = -1) → wE (uV le (u + 1) + c.toInt * 10 ^ (u - K)) (L - (uV un u - uV un K * 10 ^ (u - K))) →
    S_DR_takeAway_L9 t0_0 t0_1 t0_2 t0_3 t0_4 t0_5 t0_6 t0_7 t0_8 t0_9 t0_10 un l0 n k c le ∧ (gO (F_DR_takeAway_L9 t0_0 t0_1 t0_2 t0_3 t0_4 t0_5 t0_6 t0_7 t0_8 t0_9 t0_10 un l0 n k c le) (u + 1) ∧ uV (F_DR_takeAway_L9 t0_0 t0_1 t0_2 t0_3 t0_4 t0_5 t0_6 t0_7 t0_8 t0_9 t0_10 un l0 n k c le) (u + 1) = L - uV un u) := by
  intro n
  induction n with
  | zero => intro K k c le k0 k1 k2 hl hc he; omega
  | succ n ih =>
    intro K k c le k0 k1 k2 hl hc he
    have z : (0 : Int32).toNatClampNeg = 0 := rfl
    have e0 : (0 : Int32).toInt = 0 := rfl
    rw [S_DR_takeAway_L9.eq_2, F_DR_takeAway_L9.eq_2]
    by_cases d : k < 0
    · rw [if_pos d, if_pos d]
      have d2 := q_ltI d
      have : K = 0 := by omega
      subst this
      have he : uV le (u + 1) + c.toInt * 10 ^ (u - 0) = L - (uV un u - 0 * _) := he
      rw [Int.zero_mul, Nat.sub_zero, Int.sub_zero] at he
      have l0' := hl 0 (by omega)
      have ec : (le 0 + c : Int32).toInt = (le 0).toInt + c.toInt := q_addI rfl rfl (by omega) (by omega)
      have hn : 0 ≤ (le 0).toInt + c.toInt := by
        by_cases w : 0 ≤ (le 0).toInt + c.toInt
        · exact w
        · have w1 : (le 0).toInt = 0 := by omega
          have w2 : c.toInt = -1 := by omega
          rw [u_tl, w1, w2, Int.zero_mul, Int.zero_add] at he
          have hl1 : gO (fun i => le (i + 1)) u := fun i hi => hl (i + 1) (by omega)
          have h4 := u_lt hl1
          have h5 : uV un u - 1 < L := hUL
          rw [Int.neg_mul, Int.one_mul] at he
          generalize (10 : Int) ^ u = b at *
          generalize uV (fun i => le (i + 1)) u = d at *
          generalize uV un u = e at *
          exact absurd h4 (by clear ih; omega)
      rw [z]
      refine ⟨trivial, gO_upd hl (by rw [ec]; omega), ?_⟩
      have en : u + 1 - 1 - 0 = u := by omega
      rw [u_upd (by omega), ec, en, ← he]
      have e9 : (le 0).toInt + c.toInt - (le 0).toInt = c.toInt := by omega
      rw [e9]
    · rw [if_neg d, if_neg d]
      have d2 := q_nltI d
      obtain ⟨j, rfl⟩ : ∃ j, K = j + 1 := ⟨K - 1, by omega⟩
      have ek : k.toNatClampNeg = j := by have := q_clI (i := k) rfl (by omega); omega
      have e1 : (k + 1 : Int32).toInt = k.toInt + 1 := q_addI (y := 1) rfl (by decide) (by omega) (by omega)
      have ek1 : (k + 1 : Int32).toNatClampNeg = j + 1 := by have := q_clI (i := k + 1) e1 (by omega); omega
      refine v_cons (by omega) (v_cons (by omega) (v_cons (by omega) ?_))
      rw [ek, ek1]
      have lj := hl (j + 1) (by omega)
      have uj := hg j (by omega)
      generalize hA : le (j + 1) = a at *
      generalize hB : un j = b at *
      have v1 : (a - b : Int32).toInt = a.toInt - b.toInt := q_subI rfl rfl (by omega) (by omega)
      have v2 : (a - b + c : Int32).toInt = (a.toInt - b.toInt) + c.toInt := q_addI v1 rfl (by omega) (by omega)
      have ep : u - j = (u - (j + 1)) + 1 := by omega
      have eq : u + 1 - 1 - (j + 1) = u - (j + 1) := by omega
      have kd : ∀ x y : Int32, k + (-1) = y → y.toInt = k.toInt - 1 := fun x y h => by rw [← h]; exact g_dec d2
      obtain ⟨k', hk'⟩ := q_nm (k + (-1))
      have kk := kd 0 k' hk'
      rw [hk']
      have he : uV le (u + 1) + c.toInt * 10 ^ (u - (j + 1)) = L - (uV un u - (uV un j * 10 + (un j).toInt) * 10 ^ (u - (j + 1))) := he
      rw [hB] at he
      by_cases w : (0 : Int32) ≤ a - b + c
      · rw [if_pos w, if_pos w]
        have w1 := q_leI w
        refine ih j k' 0 _ (by omega) (by omega) (by omega) (gO_upd hl (by rw [v2]; omega)) (Or.inl rfl) ?_
        show _ = _
        rw [u_upd (by omega), eq, ep, u_pw, hA]
        exact u_tkId (k := 0) he (by rw [v2, e0]; omega)
      · rw [if_neg w, if_neg w]
        have w1 := q_nleI w
        have v3 : (a - b + c + 10 : Int32).toInt = ((a.toInt - b.toInt) + c.toInt) + 10 := q_addI (y := 10) v2 (by decide) (by omega) (by omega)
        refine ih j k' (-1) _ (by omega) (by omega) (by omega) (gO_upd hl (by rw [v3]; omega)) (Or.inr rfl) ?_
        show _ = _
        have em : (-1 : Int32).toInt = -1 := rfl
        rw [u_upd (by omega), eq, ep, u_pw, hA, em]
        exact u_tkId (k := 0) he (by rw [v3]; omega)
theorem R_takeA {le : Nat → Int32} (hu : t0_7.toInt = u) (h0 : 1 ≤ u) (h9 : u ≤ 2199) (hg : gO un u) (hl : gO le (u + 1)) (hUL : uV un u ≤ uV le (u + 1)) : S_DR_takeAway t0_0 t0_1 t0_2 t0_3 t0_4 t0_5 t0_6 t0_7 t0_8 t0_9 t0_10 un le ∧ (gO (F_DR_takeAway t0_0 t0_1 t0_2 t0_3 t0_4 t0_5 t0_6 t0_7 t0_8 t0_9 t0_10 un le) (u + 1) ∧ uV (F_DR_takeAway t0_0 t0_1 t0_2 t0_3 t0_4 t0_5 t0_6 t0_7 t0_8 t0_9 t0_10 un le) (u + 1) = uV le (u + 1) - uV un u) := by
  have e1 : (t0_7 - 1 : Int32).toInt = (u : Int) - 1 := q_subI (y := 1) hu (by decide) (by omega) (by omega)
  unfold S_DR_takeAway F_DR_takeAway
  refine u_tkL hu h9 hg (show uV un u - 1 < uV le (u + 1) by omega) _ u (t0_7 - 1) 0 le (by omega) (Nat.le_refl _) (by omega) hl (Or.inl rfl) ?_
  show _ + 0 * _ = _ - (_ - _ * 10 ^ (u - u))
  rw [Nat.sub_self, Int.pow_zero, Int.mul_one, Int.mul_one, Int.sub_self, Int.sub_zero, Int.add_zero]
end UD
