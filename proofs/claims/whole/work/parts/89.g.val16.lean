/-! values: whole methods of Big -/
/-- a number whose first limb is not 0 -/
def bN (s : Int32) (f : Nat → Int32) : Prop := 0 ≤ s.toInt ∧ okL f s.toNatClampNeg ∧ (0 < s.toInt → f (s.toNatClampNeg - 1) ≠ 0)
def bV (s : Int32) (f : Nat → Int32) : Int := vB f s.toNatClampNeg
theorem v_nz {h : Nat → Int32} {n : Nat} (ok : okL h (n + 1)) (hv : 2147483648 ^ n ≤ vB h (n + 1)) : h n ≠ 0 := by
  intro e
  have h1 : vB h (n + 1) = vB h n + (h n).toInt * 2147483648 ^ n := rfl
  have h2 := v_lt (ok.mono (Nat.le_succ n))
  have e0 : (0 : Int32).toInt = 0 := rfl
  rw [h1, e, e0, Int.zero_mul] at hv
  omega
theorem v_nzL {h : Nat → Int32} {n : Nat} (ok : okL h (n + 1)) (hn : h n ≠ 0) : 2147483648 ^ n ≤ vB h (n + 1) := by
  have h1 : vB h (n + 1) = vB h n + (h n).toInt * 2147483648 ^ n := rfl
  have h2 := v_nn (ok.mono (Nat.le_succ n))
  have h3 := ok n (by omega)
  have h4 : (h n).toInt ≠ 0 := fun e => hn (Int32.toInt_inj.mp e)
  have h5 : 1 * 2147483648 ^ n ≤ (h n).toInt * 2147483648 ^ n := Int.mul_le_mul_of_nonneg_right (by omega) (Int.le_of_lt (v_pos n))
  omega
theorem bN.nn {s : Int32} {f : Nat → Int32} (h : bN s f) : 0 ≤ bV s f := v_nn h.2.1
theorem bN.lt {s : Int32} {f : Nat → Int32} (h : bN s f) : bV s f < 2147483648 ^ s.toNatClampNeg := v_lt h.2.1
theorem bN.ge {s : Int32} {f : Nat → Int32} {n : Nat} (h : bN s f) (hs : s.toInt = (n : Int) + 1) : 2147483648 ^ n ≤ bV s f := by
  have e := q_clI (i := s) rfl h.1
  have e2 : s.toNatClampNeg = n + 1 := by omega
  obtain ⟨h1, h2, h3⟩ := h
  unfold bV
  rw [e2] at h2 h3 ⊢
  exact v_nzL h2 (h3 (by omega))
theorem v_pwMono {m n : Nat} (h : m ≤ n) : (2147483648 : Int) ^ m ≤ 2147483648 ^ n := by
  obtain ⟨k, rfl⟩ := Nat.exists_eq_add_of_le h
  have h1 := v_pos k
  have h2 : 2147483648 ^ m * 1 ≤ 2147483648 ^ m * (2147483648 : Int) ^ k := Int.mul_le_mul_of_nonneg_left (by omega) (Int.le_of_lt (v_pos m))
  rw [Int.pow_add]
  omega
theorem bN.pos {s : Int32} {f : Nat → Int32} (h : bN s f) : 0 < s.toInt ↔ 0 < bV s f := by
  constructor
  · intro hs
    obtain ⟨n, hn⟩ : ∃ n : Nat, s.toInt = (n : Int) + 1 := ⟨(s.toInt - 1).toNat, by omega⟩
    have := h.ge hn
    have := v_pos n
    omega
  · intro hv
    apply Int.lt_of_not_ge
    intro h9
    have e := q_clI (i := s) rfl h.1
    have h10 : s.toNatClampNeg = 0 := by have := h.1; omega
    unfold bV at hv
    rw [h10] at hv
    exact absurd hv (by show ¬ (0 : Int) < 0; omega)
/-- a size from a bound of the value -/
theorem bN.sz {s : Int32} {f : Nat → Int32} {n : Nat} (h : bN s f) (hv : bV s f < 2147483648 ^ n) : s.toInt ≤ (n : Int) := by
  apply Int.le_of_not_gt
  intro h9
  obtain ⟨m, hm⟩ : ∃ m : Nat, s.toInt = (m : Int) + 1 := ⟨(s.toInt - 1).toNat, by omega⟩
  have h1 := h.ge hm
  have h2 := v_pwMono (show n ≤ m by omega)
  omega
theorem bN.szL {s t : Int32} {f g : Nat → Int32} (h : bN s f) (ht : bN t g) (hv : bV s f ≤ bV t g) : s.toInt ≤ t.toInt := by
  have e := q_clI (i := t) rfl ht.1
  have h1 := ht.lt
  have := h.sz (n := t.toNatClampNeg) (by omega)
  omega
theorem v_injL {f g : Nat → Int32} : ∀ {n : Nat}, okL f n → okL g n → vB f n = vB g n → ∀ i, i < n → f i = g i
  | 0, _, _, _ => fun i hi => by omega
  | n + 1, hf, hg, he => by
    have top : (f n).toInt = (g n).toInt := by
      apply Int.le_antisymm
      · apply Int.le_of_not_gt
        intro h
        have := v_top hg hf h
        omega
      · apply Int.le_of_not_gt
        intro h
        have := v_top hf hg h
        omega
    have h1 : vB f (n + 1) = vB f n + (f n).toInt * 2147483648 ^ n := rfl
    have h2 : vB g (n + 1) = vB g n + (g n).toInt * 2147483648 ^ n := rfl
    rw [h1, h2, top] at he
    intro i hi
    by_cases e : i = n
    · subst e
      exact Int32.toInt_inj.mp top
    · exact v_injL (n := n) (hf.mono (by omega)) (hg.mono (by omega)) (by omega) i (by omega)
theorem bN.inj {s t : Int32} {f g : Nat → Int32} (h : bN s f) (ht : bN t g) (hv : bV s f = bV t g) : s = t ∧ ∀ i, i < s.toNatClampNeg → f i = g i := by
  have e : s = t := Int32.toInt_inj.mp (Int.le_antisymm (h.szL ht (by omega)) (ht.szL h (by omega)))
  subst e
  exact ⟨rfl, v_injL h.2.1 ht.2.1 hv⟩
theorem V_cmp {R R2 s neg s2 neg2 : Int32} {f g : Nat → Int32} (h : bN s f) (h2 : bN s2 g) :
    ((F_Big_compareSize R R2 s neg f s2 neg2 g).toInt = 0 ∧ bV s f = bV s2 g) ∨ ((F_Big_compareSize R R2 s neg f s2 neg2 g).toInt < 0 ∧ bV s f < bV s2 g) ∨ (0 < (F_Big_compareSize R R2 s neg f s2 neg2 g).toInt ∧ bV s2 g < bV s f) := by
  unfold F_Big_compareSize
  by_cases e : s = s2
  · rw [if_pos e]
    subst e
    have hs := h.1
    have es := q_clI (i := s) rfl hs
    have hl := Int32.toInt_lt s
    have k1 : (s - 1 : Int32).toInt = s.toInt - 1 := q_subI (y := 1) rfl rfl (by omega) (by omega)
    obtain ⟨i, ei⟩ := q_nm (s - 1 : Int32)
    rw [ei] at k1 ⊢
    exact V_cmpL _ s.toNatClampNeg i (by omega) (by omega) h.2.1 h2.2.1
  · rw [if_neg e]
    rcases v_icmp (x := s) (y := s2) with ⟨c1, c2⟩ | ⟨c1, c2⟩ | ⟨c1, c2⟩
    · exact absurd (Int32.toInt_inj.mp c2) e
    · refine Or.inr (Or.inl ⟨c1, ?_⟩)
      apply Int.lt_of_not_ge
      intro h9
      have := h2.szL h h9
      omega
    · refine Or.inr (Or.inr ⟨c1, ?_⟩)
      apply Int.lt_of_not_ge
      intro h9
      have := h.szL h2 h9
      omega
/-- times a factor, and more -/
theorem V_mul {R x y s neg : Int32} {f : Nat → Int32} (h : bN s f) (hx : 1 ≤ x.toInt) (hy : 0 ≤ y.toInt) (hs : s.toInt < R.toInt) (hR : R.toInt ≤ 220) :
    ∃ (z : Int32) (g : Nat → Int32), F_Big_multiplySmall R x y s neg f = (z, neg, g) ∧ s.toInt ≤ z.toInt ∧ z.toInt ≤ s.toInt + 1 ∧ bN z g ∧ bV z g = x.toInt * bV s f + y.toInt := by
  have es := q_clI (i := s) rfl h.1
  have e0 : (0 : Int32).toInt = 0 := rfl
  have e01 : (0 : Int32).toNatClampNeg = 0 := rfl
  have hy2 := Int32.toInt_lt y
  have i1 : y.toInt64.toInt = y.toInt := q_i2l rfl
  obtain ⟨z, g, r1, r2, r3, r4, r5, r6⟩ := V_mulS (R := R) (x2 := x) (x3 := y) (s := s) (neg := neg) (g0 := f) (by omega) h.1 (by omega) hR ((220 - (0 : Int32).toInt).toNat + 1) 0 y.toInt64 f (by omega) (by have := h.1; omega) (by omega) (by omega) h.2.1 (by omega)
  obtain ⟨r7, r8⟩ := r6 hs
  have v : bV z g = x.toInt * bV s f + y.toInt := by
    unfold bV
    rw [r7, e01, i1, show vB f 0 = 0 from rfl, Int.sub_zero, Int.zero_add, show (2147483648 : Int) ^ 0 = 1 from rfl, Int.mul_one]
  refine ⟨z, g, r1, r2, r3, ⟨by have := h.1; omega, r5, fun hz => ?_⟩, v⟩
  have ez := q_clI (i := z) rfl (by omega)
  by_cases hzs : z.toInt = s.toInt + 1
  · rw [show z.toNatClampNeg - 1 = s.toNatClampNeg by omega]
    exact r8 hzs
  · obtain ⟨n, hn⟩ : ∃ n : Nat, s.toInt = (n : Int) + 1 := ⟨(s.toInt - 1).toNat, by omega⟩
    have h1 := h.ge hn
    have h2 := h.nn
    have h3 : 1 * bV s f ≤ x.toInt * bV s f := Int.mul_le_mul_of_nonneg_right hx h2
    have e9 : z.toNatClampNeg = n + 1 := by omega
    rw [e9] at r5 ⊢
    rw [show n + 1 - 1 = n by omega]
    refine v_nz r5 ?_
    unfold bV at v
    rw [e9] at v
    rw [v]
    unfold bV at h1 h3
    omega
/-- divided by one limb -/
theorem V_div {R x s neg : Int32} {f : Nat → Int32} (h : bN s f) (hx : 1 ≤ x.toInt) (hs : s.toInt ≤ 220) :
    ∃ (r z : Int32) (g : Nat → Int32), F_Big_divideSmall R x s neg f = (r, z, if neg = 0 then 0 else if z ≤ 0 then 0 else 1, g) ∧ 0 ≤ z.toInt ∧ z.toInt ≤ s.toInt ∧ bN z g ∧ bV z g = bV s f / x.toInt ∧ r.toInt = bV s f % x.toInt := by
  have hs0 := h.1
  have es := q_clI (i := s) rfl hs0
  have e1 : (1 : Int32).toInt = 1 := rfl
  have hx2 := Int32.toInt_lt x
  unfold F_Big_divideSmall
  rw [if_neg (fun hh => by have := q_ltI hh; omega)]
  have k1 : (s - 1 : Int32).toInt = s.toInt - 1 := q_subI (y := 1) rfl rfl (by omega) (by omega)
  obtain ⟨i, ei⟩ := q_nm (s - 1 : Int32)
  rw [ei] at k1 ⊢
  obtain ⟨q, g, r1, r2, r3, r4, r5⟩ := V_divL (R := R) (x2 := x) (s := s) (neg := neg) (y := x) (g0 := f) (by omega) ((i.toInt - (-1)).toNat + 1) s.toNatClampNeg i 0 f (by omega) (Nat.le_refl _) (by omega) (by decide) (by have : (0 : Int64).toInt = 0 := rfl; omega) h.2.1
  obtain ⟨z, t1, t2, t3, t4, t5⟩ := V_trimT (R := R) (s := s) (neg := neg) (f := g) hs0 (by omega)
  rw [r1, t1]
  have q32 : q.toInt32.toInt = q.toInt := s_l2i (by omega) (by omega)
  have e00 : (0 : Int64).toInt = 0 := rfl
  rw [e00, Int.sub_self, Int.zero_mul, Int.zero_mul, Int.zero_add, Int.zero_add] at r5
  refine ⟨_, z, g, rfl, t2, t3, ⟨t2, r2.mono (by have := q_clI (i := z) rfl t2; omega), t4⟩, ?_, ?_⟩
  · unfold bV
    rw [t5]
    exact (v_edivU (r := q.toInt) (by omega) r3 r4).symm
  · rw [q32]
    unfold bV
    have h1 := v_edivU (a := vB f s.toNatClampNeg) (q := vB g s.toNatClampNeg) (r := q.toInt) (d := x.toInt) (by omega) r3 r4
    have h2 := Int.emod_add_mul_ediv (vB f s.toNatClampNeg) x.toInt
    rw [h1, Int.mul_comm] at h2
    omega
theorem V_copy {R R2 s neg s2 neg2 : Int32} {f g : Nat → Int32} (h2 : bN s2 g) (hR : s2.toInt ≤ R.toInt) :
    ∃ h : Nat → Int32, F_Big_copy R R2 s neg f s2 neg2 g = (s2, neg2, h) ∧ bN s2 h ∧ bV s2 h = bV s2 g ∧ ∀ i, i < s2.toNatClampNeg → h i = g i := by
  unfold F_Big_copy
  rw [if_neg (fun hh => by have := q_ltI hh; omega)]
  have e01 : (0 : Int32).toNatClampNeg = 0 := rfl
  have e2 := q_clI (i := s2) rfl h2.1
  have key : ∀ i, i < s2.toNatClampNeg → va_cpy g f (0 : Int32).toNatClampNeg (0 : Int32).toNatClampNeg s2.toNatClampNeg i = g i := fun i hi => by
    rw [e01]
    unfold va_cpy
    rw [if_pos (by omega)]
    congr 1
    omega
  have val : ∀ n, n ≤ s2.toNatClampNeg → vB (va_cpy g f (0 : Int32).toNatClampNeg (0 : Int32).toNatClampNeg s2.toNatClampNeg) n = vB g n := by
    intro n
    induction n with
    | zero => intro _; rfl
    | succ n ih =>
      intro hn
      show vB _ n + _ = vB g n + _
      rw [ih (by omega), key n (by omega)]
  refine ⟨_, rfl, ⟨h2.1, fun i hi => by rw [key i hi]; exact h2.2.1 i hi, fun hs => by rw [key _ (by omega)]; exact h2.2.2 hs⟩, val _ (Nat.le_refl _), key⟩
