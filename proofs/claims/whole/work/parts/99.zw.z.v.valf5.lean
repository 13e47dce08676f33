/-! values, for whole: written numbers as lists of figures -/
theorem yDz_add {N : Nat} {n : Nat} : ∀ {m : Nat} {z : Int}, yDz N z (m + n) = yDz N z m ++ yDz N (z - m) n := by
  intro m
  induction m with
  | zero => intro z; rw [Nat.zero_add, show z - ((0 : Nat) : Int) = z by omega]; rfl
  | succ m ih =>
    intro z
    rw [show m + 1 + n = (m + n) + 1 by omega]
    show (48 + yFz N z) :: yDz N (z - 1) (m + n) = (48 + yFz N z) :: (yDz N (z - 1) m ++ yDz N (z - ((m + 1 : Nat) : Int)) n)
    rw [ih, show z - 1 - (m : Int) = z - ((m + 1 : Nat) : Int) by omega]
theorem yDz_get {N : Nat} : ∀ {n : Nat} {z : Int} {i : Nat}, i < n → yBr (yDz N z n) i = ((48 + yFz N (z - i) : Nat) : Int) := by
  intro n
  induction n with
  | zero => intro z i hi; exact absurd hi (Nat.not_lt_zero _)
  | succ n ih =>
    intro z i hi
    cases i with
    | zero => rw [show z - ((0 : Nat) : Int) = z by omega]; rfl
    | succ i =>
      have := ih (z := z - 1) (i := i) (by omega)
      rw [show z - ((i + 1 : Nat) : Int) = z - 1 - (i : Int) by omega, ← this]
      rfl
theorem yDz_rep {u k : Nat} : ∀ {n : Nat} {z : Int}, z < (k : Int) → yDz (u * 10 ^ k) z n = List.replicate n 48 := by
  intro n
  induction n with
  | zero => intro z _; rfl
  | succ n ih =>
    intro z hz
    show (48 + yFz (u * 10 ^ k) z) :: yDz (u * 10 ^ k) (z - 1) n = 48 :: List.replicate n 48
    rw [ih (by omega)]
    have : yFz (u * 10 ^ k) z = 0 := by
      unfold yFz
      by_cases h : z < 0
      · rw [if_pos h]
      · rw [if_neg h]
        exact yLo_sz (by omega)
    rw [this]
theorem yLw_dz {N : Nat} : ∀ {m : Nat}, (yLw 10 N 0 m).reverse = yDz N ((m : Int) - 1) m := by
  intro m
  induction m with
  | zero => rfl
  | succ m ih =>
    rw [yLw_s, List.reverse_append, ih]
    show yLet (yBg 10 N (0 + m)) :: yDz N ((m : Int) - 1) m = (48 + yFz N (((m + 1 : Nat) : Int) - 1)) :: yDz N (((m + 1 : Nat) : Int) - 1 - 1) m
    rw [show (((m + 1 : Nat) : Int) - 1) = (m : Int) by omega]
    have : yLet (yBg 10 N (0 + m)) = 48 + yFz N (m : Int) := by
      unfold yLet yBg yFz yLo
      rw [if_neg (by omega : ¬ ((m : Int) < 0)), show ((m : Int)).toNat = m by omega, Nat.zero_add, if_pos (Nat.mod_lt _ (by decide))]
    rw [this]
theorem yLV_n {N m : Nat} (h : N < 10 ^ m) : yLV (yDz N ((m : Int) - 1) m) 0 = N := by
  have := yLV_dz (N := N) (k := 0) (n := m)
  rw [Nat.zero_add, Nat.pow_zero, Nat.div_one, Nat.mod_eq_of_lt h] at this
  exact this
/-- the text of a whole number to the base ten -/
theorem y_wtx {v : Int} {c : Nat} (h : yDB 10 v.natAbs c) : ∃ d, yWtx 10 v c = yMin (v < 0) ++ d ∧ yDi d ∧ 0 < d.length ∧ yLV d 0 = v.natAbs := by
  refine ⟨yDz v.natAbs (((max c 1 : Nat) : Int) - 1) (max c 1), ?_, yDz_di, ?_, yLV_n ?_⟩
  · unfold yWtx
    rw [yLw_dz]
  · rw [yDz_len]
    exact Nat.lt_of_lt_of_le (by decide) (Nat.le_max_right _ _)
  · have h1 := h.1
    have : v.natAbs < 10 ^ c := by
      have p : 0 < 10 ^ c := Nat.pow_pos (by decide)
      exact Nat.lt_of_div_eq_zero p h1
    exact Nat.lt_of_lt_of_le this (Nat.pow_le_pow_right (by decide) (Nat.le_max_left _ _))
/-- a decimal's text, written out -/
theorem y_pln {v : Int} {s : Int} {c : Nat} (hc : vG v c) : ∃ A : Nat, yPln v.natAbs s c (if v = 0 then 0 else c) = yDz v.natAbs ((A : Int) - 1 + s) A ++ yTail v.natAbs s (max s 0).toNat 0 ∧ 0 < A ∧ (v ≠ 0 → (A : Int) ≤ max ((c : Int) - s) 1) ∧ (v = 0 → A = 1) ∧ (0 ≤ s → v.natAbs / 10 ^ s.toNat < 10 ^ A) ∧ (s < 0 → v.natAbs * 10 ^ (-s).toNat < 10 ^ A) := by
  rcases yDt_vG hc with ⟨a, b, h⟩ | ⟨a, h⟩
  · refine ⟨1, ?_, by decide, fun q => absurd a q, fun _ => rfl, fun _ => ?_, fun _ => ?_⟩
    · unfold yPln
      rw [if_pos a, if_pos rfl, if_neg (by decide)]
      rw [show (0 : Int).toNat + 1 = 1 from rfl, yPlA_dz]
    · rw [a]
      show 0 / _ < _
      rw [Nat.zero_div]
      decide
    · rw [a]
      show 0 * _ < _
      rw [Nat.zero_mul]
      decide
  · have h1 : v.natAbs < 10 ^ c := h.1
    have c0 : c ≠ 0 := by
      intro q
      rw [q, Nat.pow_zero] at h1
      omega
    have hA : ∃ A : Nat, ((if (if c = 0 then 0 else (c : Int) - 1 - s) < 0 then 0 else (if c = 0 then 0 else (c : Int) - 1 - s)).toNat + 1) = A ∧ (A : Int) = max ((c : Int) - s) 1 := by
      rw [if_neg c0]
      refine ⟨_, rfl, ?_⟩
      by_cases q : (c : Int) - 1 - s < 0
      · rw [if_pos q]; omega
      · rw [if_neg q]; omega
    obtain ⟨A, e1, e2⟩ := hA
    refine ⟨A, ?_, by omega, fun _ => by omega, fun q => absurd q a, fun q => ?_, fun q => ?_⟩
    · unfold yPln
      rw [if_neg a, e1, yPlA_dz]
    · have p : 0 < 10 ^ s.toNat := Nat.pow_pos (by decide)
      rw [Nat.div_lt_iff_lt_mul p, ← Nat.pow_add]
      exact Nat.lt_of_lt_of_le h1 (Nat.pow_le_pow_right (by decide) (by omega))
    · have p : 0 < 10 ^ (-s).toNat := Nat.pow_pos (by decide)
      have : A = c + (-s).toNat := by omega
      rw [this, Nat.pow_add]
      exact Nat.mul_lt_mul_of_pos_right h1 p
theorem y_plV {N : Nat} {s : Int} {A : Nat} (h1 : 0 ≤ s → N / 10 ^ s.toNat < 10 ^ A) (h2 : s < 0 → N * 10 ^ (-s).toNat < 10 ^ A) : yLV (yDz N ((A : Int) - 1 + s) A) 0 = N * 10 ^ (-s).toNat / 10 ^ s.toNat := by
  by_cases q : 0 ≤ s
  · have := yLV_dz (N := N) (k := s.toNat) (n := A)
    rw [show (((s.toNat + A : Nat) : Int) - 1) = (A : Int) - 1 + s by omega] at this
    rw [this, Nat.mod_eq_of_lt (h1 q), show (-s).toNat = 0 by omega, Nat.pow_zero, Nat.mul_one]
  · have := yLV_dn (N := N) (k := (-s).toNat) (n := A)
    rw [show ((A : Int) - 1 - (((-s).toNat : Nat) : Int)) = (A : Int) - 1 + s by omega] at this
    rw [this, Nat.mod_eq_of_lt (h2 (by omega)), show s.toNat = 0 by omega, Nat.pow_zero, Nat.div_one]
/-- the exact fixed text of a float -/
theorem y_fxT {u s d : Nat} (hs : s ≤ 1074) (hd : yDt (u * 10 ^ (1074 - s)) d) : ∃ d1 d2, yFix (u * 10 ^ (1074 - s)) 1074 d = d1 ++ (46 :: (d2 ++ List.replicate (1074 - s) 48)) ∧ yDi d1 ∧ 0 < d1.length ∧ yDi d2 ∧ d2.length = s ∧ yLV (d1 ++ d2) 0 = u ∧ (0 < s → yBr d2 (s - 1) = ((48 + u % 10 : Nat) : Int)) ∧ d1.length = max (d - 1074) 1 := by
  have h1 : u * 10 ^ (1074 - s) < 10 ^ d := hd.1
  generalize hA : max (d - 1074) 1 = A
  refine ⟨yDz (u * 10 ^ (1074 - s)) ((A : Int) - 1 + 1074) A, yDz (u * 10 ^ (1074 - s)) 1073 s, ?_, yDz_di, by rw [yDz_len]; omega, yDz_di, yDz_len, ?_, fun q => ?_, yDz_len⟩
  · have t1 : ∀ {N m n k : Nat}, m + n = k → yDz N (((k : Nat) : Int) - 1) k = yDz N (((k : Nat) : Int) - 1) m ++ yDz N (((k : Nat) : Int) - 1 - m) n := by
      intro N m n k e
      subst e
      exact yDz_add
    have t2 : ∀ {N k : Nat}, 0 < k → yTail N (k : Int) k 0 = 46 :: yDz N ((k : Int) - 1) k := by
      intro N k hk
      unfold yTail
      rw [if_pos (Or.inl hk)]
      rfl
    have t3 : ∀ {N k d A : Nat}, max (d - k) 1 = A → yFix N k d = yPlA N k 0 A ++ yTail N k k 0 := by
      intro N k d A e
      unfold yFix
      rw [e]
    rw [t3 hA, t2 (by decide), yPlA_dz, t1 (m := s) (n := 1074 - s) (by omega), yDz_rep (n := 1074 - s) (by omega)]
    rfl
  · have := yDz_add (N := u * 10 ^ (1074 - s)) (m := A) (n := s) (z := (A : Int) - 1 + 1074)
    rw [show (A : Int) - 1 + 1074 - (A : Int) = 1073 by omega] at this
    rw [← this]
    have r := yLV_dz (N := u * 10 ^ (1074 - s)) (k := 1074 - s) (n := A + s)
    rw [show (((1074 - s + (A + s) : Nat) : Int) - 1) = (A : Int) - 1 + 1074 by omega] at r
    have p : 0 < 10 ^ (1074 - s) := Nat.pow_pos (by decide)
    rw [r, Nat.mul_div_cancel _ p]
    apply Nat.mod_eq_of_lt
    have : u * 10 ^ (1074 - s) < 10 ^ (A + s) * 10 ^ (1074 - s) := by
      rw [← Nat.pow_add]
      exact Nat.lt_of_lt_of_le h1 (Nat.pow_le_pow_right (by decide) (by omega))
    exact Nat.lt_of_mul_lt_mul_right this
  · rw [yDz_get (by omega), show (1073 : Int) - ((s - 1 : Nat) : Int) = 0 + ((1074 - s : Nat) : Int) by omega, yFz_sc]
    have : yFz u 0 = u % 10 := by
      unfold yFz yLo
      rw [if_neg (by decide), show (0 : Int).toNat = 0 from rfl, Nat.pow_zero, Nat.div_one]
    rw [this]
/-- the fixed text of a float without places -/
theorem y_fx0 {W d : Nat} (hd : yDt W d) : ∃ d1, yFix W 0 d = d1 ∧ yDi d1 ∧ 0 < d1.length ∧ yLV d1 0 = W ∧ d1.length = max d 1 := by
  refine ⟨yDz W (((max d 1 : Nat) : Int) - 1) (max d 1), ?_, yDz_di, ?_, yLV_n ?_, yDz_len⟩
  · unfold yFix yTail
    rw [if_neg (fun q => q.elim (Nat.lt_irrefl 0) (fun q => q rfl)), yPlA_dz]
    show yDz W (((max (d - 0) 1 : Nat) : Int) - 1 + ((0 : Nat) : Int)) (max (d - 0) 1) ++ [] = _
    rw [List.append_nil, Nat.sub_zero, show (((max d 1 : Nat) : Int) - 1 + ((0 : Nat) : Int)) = ((max d 1 : Nat) : Int) - 1 by omega]
  · rw [yDz_len]
    exact Nat.lt_of_lt_of_le (by decide) (Nat.le_max_right _ _)
  · exact Nat.lt_of_lt_of_le hd.1 (Nat.pow_le_pow_right (by decide) (Nat.le_max_left _ _))
theorem y_rk0 {u c s : Nat} : yRk 0 u c ((c : Int) - s + ((0 : Nat) : Int)) = u / 10 ^ s := by
  unfold yRk
  by_cases q : (c : Int) ≤ (c : Int) - s + ((0 : Nat) : Int)
  · have : s = 0 := by omega
    subst this
    rw [if_pos q, show ((c : Int) - ((0 : Nat) : Int) + ((0 : Nat) : Int) - (c : Int)).toNat = 0 by omega, Nat.pow_zero, Nat.mul_one, Nat.div_one]
  · rw [if_neg q, show ((c : Int) - ((c : Int) - s + ((0 : Nat) : Int))).toNat = s by omega]
    unfold yOut
    rw [if_pos rfl]
    rfl
theorem y_rk1 {u c s : Nat} (hs : s ≤ 1074) : yRk 0 u c ((c : Int) - s + ((1074 : Nat) : Int)) = u * 10 ^ (1074 - s) := by
  unfold yRk
  rw [if_pos (by omega), show ((c : Int) - s + ((1074 : Nat) : Int) - (c : Int)).toNat = 1074 - s by omega]
theorem y_eqD {n : Nat} {pw : Int} {u s : Nat} (h : yEq n pw u s) : u / 10 ^ s = n * 2 ^ pw.toNat / 2 ^ (-pw).toNat := by
  have h1 := h.1
  have p1 : 0 < 2 ^ (-pw).toNat := Nat.pow_pos (by decide)
  have p3 : 0 < 10 ^ s := Nat.pow_pos (by decide)
  rw [← Nat.mul_div_mul_right u (10 ^ s) p1, h1, ← Nat.mul_div_mul_right (n * 2 ^ pw.toNat) (2 ^ (-pw).toNat) p3, Nat.mul_comm (10 ^ s)]
