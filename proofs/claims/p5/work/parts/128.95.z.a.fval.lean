/-! FloatRows: values of rows, the lowest place first -/
def flV (B : Int) (f : Nat → Int32) : Nat → Int
  | 0 => 0
  | n + 1 => flV B f n + (f n).toInt * B ^ n
def flO (B : Int) (f : Nat → Int32) (n : Nat) : Prop := ∀ i, i < n → 0 ≤ (f i).toInt ∧ (f i).toInt < B
theorem flO.mono {B : Int} {f : Nat → Int32} {n m : Nat} (h : flO B f n) (hm : m ≤ n) : flO B f m := fun i hi => h i (by omega)
theorem flO_upd {B : Int} {f : Nat → Int32} {n i : Nat} {x : Int32} (h : flO B f n) (hx : 0 ≤ x.toInt ∧ x.toInt < B) : flO B (upd f i x) n := fun j hj => by
  by_cases c : j = i
  · rw [c, v_eq]; exact hx
  · rw [v_ne c]; exact h j hj
theorem fl_pw {B : Int} (n : Nat) : B ^ (n + 1) = B ^ n * B := Int.pow_succ B n
theorem fl_pos {B : Int} (hB : 0 < B) : ∀ n : Nat, 0 < B ^ n
  | 0 => by rw [Int.pow_zero]; decide
  | n + 1 => by rw [fl_pw]; exact Int.mul_pos (fl_pos hB n) hB
theorem fl_nn {B : Int} {f : Nat → Int32} (hB : 0 < B) : ∀ {n : Nat}, flO B f n → 0 ≤ flV B f n
  | 0, _ => Int.le_refl 0
  | n + 1, h => by
    have a := fl_nn hB (h.mono (Nat.le_succ n))
    have b := Int.mul_nonneg (h n (Nat.lt_succ_self n)).1 (Int.le_of_lt (fl_pos hB n))
    show 0 ≤ flV B f n + (f n).toInt * B ^ n
    omega
theorem fl_lt {B : Int} {f : Nat → Int32} (hB : 0 < B) : ∀ {n : Nat}, flO B f n → flV B f n < B ^ n
  | 0, _ => by show (0 : Int) < B ^ 0; rw [Int.pow_zero]; decide
  | n + 1, h => by
    have a := fl_lt hB (h.mono (Nat.le_succ n))
    have hp := fl_pos hB n
    have b := Int.mul_le_mul_of_nonneg_right (show (f n).toInt ≤ B - 1 by have := (h n (Nat.lt_succ_self n)).2; omega) (Int.le_of_lt hp)
    rw [Int.sub_mul, Int.one_mul] at b
    show flV B f n + (f n).toInt * B ^ n < B ^ (n + 1)
    rw [fl_pw, Int.mul_comm (B ^ n) B]
    omega
theorem fl_cong {B : Int} {f g : Nat → Int32} : ∀ {n : Nat}, (∀ i, i < n → f i = g i) → flV B f n = flV B g n
  | 0, _ => rfl
  | n + 1, h => by
    show flV B f n + (f n).toInt * B ^ n = flV B g n + (g n).toInt * B ^ n
    rw [fl_cong (fun i hi => h i (by omega)), h n (Nat.lt_succ_self n)]
theorem fl_updg {B : Int} {f : Nat → Int32} {n i : Nat} {x : Int32} (h : n ≤ i) : flV B (upd f i x) n = flV B f n := fl_cong (fun j hj => v_ne (by omega))
theorem fl_upd {B : Int} {f : Nat → Int32} {i : Nat} {x : Int32} : ∀ {n : Nat}, i < n → flV B (upd f i x) n = flV B f n + (x.toInt - (f i).toInt) * B ^ i
  | 0, h => by omega
  | n + 1, h => by
    show flV B (upd f i x) n + (upd f i x n).toInt * B ^ n = flV B f n + (f n).toInt * B ^ n + (x.toInt - (f i).toInt) * B ^ i
    by_cases c : i = n
    · subst c
      rw [fl_updg (Nat.le_refl i), v_eq, Int.sub_mul]
      omega
    · rw [fl_upd (show i < n by omega), v_ne (fun e => c e.symm)]
      omega
/-- a figure that is not 0 bounds the value from below -/
theorem fl_ge {B : Int} {f : Nat → Int32} (hB : 0 < B) {j : Nat} : ∀ {n : Nat}, flO B f n → j < n → (f j).toInt ≠ 0 → B ^ j ≤ flV B f n
  | 0, _, h, _ => by omega
  | n + 1, ho, h, hz => by
    show B ^ j ≤ flV B f n + (f n).toInt * B ^ n
    have b := Int.mul_nonneg (ho n (Nat.lt_succ_self n)).1 (Int.le_of_lt (fl_pos hB n))
    by_cases c : j = n
    · subst c
      have a := fl_nn hB (ho.mono (Nat.le_succ j))
      have d := Int.mul_le_mul_of_nonneg_right (show 1 ≤ (f j).toInt by have := (ho j (Nat.lt_succ_self j)).1; omega) (Int.le_of_lt (fl_pos hB j))
      rw [Int.one_mul] at d
      omega
    · have := fl_ge hB (ho.mono (Nat.le_succ n)) (show j < n by omega) hz
      omega
/-- no figure from place m on: the value is that of m places -/
theorem fl_low {B : Int} {f : Nat → Int32} {m : Nat} : ∀ {n : Nat}, m ≤ n → (∀ i, m ≤ i → i < n → (f i).toInt = 0) → flV B f n = flV B f m
  | 0, h, _ => by rw [show m = 0 by omega]
  | n + 1, h, hz => by
    by_cases c : m = n + 1
    · rw [c]
    · show flV B f n + (f n).toInt * B ^ n = _
      rw [hz n (by omega) (Nat.lt_succ_self n), Int.zero_mul, Int.add_zero]
      exact fl_low (by omega) (fun i h1 h2 => hz i h1 (by omega))
theorem fl_mono {B : Int} (hB : 0 < B) {a b : Nat} (h : a ≤ b) : B ^ a ≤ B ^ b := by
  obtain ⟨d, rfl⟩ := Nat.exists_eq_add_of_le h
  rw [Int.pow_add]
  have x := fl_pos hB a
  have y := fl_pos hB d
  have e := Int.mul_le_mul_of_nonneg_left (show 1 ≤ B ^ d by omega) (Int.le_of_lt x)
  rw [Int.mul_one] at e
  exact e
/-- doubling -/
def flDb (f g : Nat → Int32) (k : Nat) (c : Int) : Prop := flO 1000000000 g 156 ∧ (∀ i, k ≤ i → g i = f i) ∧ flV 1000000000 g k + c * 1000000000 ^ k = 2 * flV 1000000000 f k ∧ 0 ≤ c ∧ c ≤ 1
theorem fl_dbId {x c1 t c P : Int} (h : x + c1 * 1000000000 = 2 * t + c) : x * P + c1 * (P * 1000000000) = 2 * (t * P) + c * P := by
  have e := congrArg (· * P) h
  simp only [Int.add_mul] at e
  rw [Int.mul_comm P, ← Int.mul_assoc c1, ← Int.mul_assoc 2]
  exact e
theorem flDb.step {f g : Nat → Int32} {k : Nat} {c c1 : Int} {x : Int32} (h : flDb f g k c) (hx : x.toInt + c1 * 1000000000 = 2 * (g k).toInt + c) (h0 : 0 ≤ x.toInt ∧ x.toInt < 1000000000) (h1 : 0 ≤ c1 ∧ c1 ≤ 1) : flDb f (upd g k x) (k + 1) c1 := by
  obtain ⟨a, b, d, -, -⟩ := h
  refine ⟨flO_upd a h0, fun i hi => by rw [v_ne (by omega)]; exact b i (by omega), ?_, h1⟩
  show flV 1000000000 (upd g k x) k + (upd g k x k).toInt * 1000000000 ^ k + c1 * 1000000000 ^ (k + 1) = 2 * (flV 1000000000 f k + (f k).toInt * 1000000000 ^ k)
  rw [fl_updg (Nat.le_refl k), v_eq, fl_pw]
  rw [b k (Nat.le_refl k)] at hx
  have e := fl_dbId (P := 1000000000 ^ k) hx
  generalize (1000000000 : Int) ^ k = P at e d ⊢
  omega
/-- halving -/
def flHf (f g : Nat → Int32) (k : Nat) (r : Int) : Prop := flO 1000000000 g 156 ∧ (∀ i, i < k → g i = f i) ∧ 2 * (flV 1000000000 g 156 - flV 1000000000 f k) + r * 1000000000 ^ k = flV 1000000000 f 156 - flV 1000000000 f k ∧ 0 ≤ r ∧ r ≤ 1
theorem fl_hfId {q r1 t r P : Int} (h : 2 * q + r1 = t + r * 1000000000) : 2 * ((q - t) * P) + r1 * P = r * (P * 1000000000) - t * P := by
  have e := congrArg (· * P) h
  simp only [Int.add_mul] at e
  rw [Int.mul_comm P, ← Int.mul_assoc r, Int.sub_mul, Int.mul_sub, ← Int.mul_assoc 2]
  omega
theorem flHf.step {f g : Nat → Int32} {k : Nat} {r r1 : Int} {x : Int32} (hk : k < 156) (h : flHf f g (k + 1) r) (hx : 2 * x.toInt + r1 = (g k).toInt + r * 1000000000) (h0 : 0 ≤ x.toInt ∧ x.toInt < 1000000000) (h1 : 0 ≤ r1 ∧ r1 ≤ 1) : flHf f (upd g k x) k r1 := by
  obtain ⟨a, b, d, -, -⟩ := h
  refine ⟨flO_upd a h0, fun i hi => by rw [v_ne (by omega)]; exact b i (by omega), ?_, h1⟩
  have e1 := fl_upd (B := 1000000000) (f := g) (x := x) hk
  rw [fl_pw] at d
  have e2 : flV 1000000000 f (k + 1) = flV 1000000000 f k + (f k).toInt * 1000000000 ^ k := rfl
  rw [e2] at d
  rw [e1]
  rw [b k (Nat.lt_succ_self k)] at hx ⊢
  have e := fl_hfId (P := 1000000000 ^ k) hx
  generalize (1000000000 : Int) ^ k = P at e d ⊢
  generalize flV 1000000000 g 156 = G at *
  generalize flV 1000000000 f 156 = F at *
  generalize flV 1000000000 f k = K at *
  omega
/-- a row times a limb, laid on another, at places up: f as it was, u the row, s its place -/
def flMl (u f g : Nat → Int32) (s k : Nat) (b c : Int) : Prop := flO 1000000000 g 156 ∧ (∀ i, k ≤ i → g i = f i) ∧ s ≤ k ∧ flV 1000000000 g k + c * 1000000000 ^ k = flV 1000000000 f k + b * (flV 1000000000 u (k - s) * 1000000000 ^ s) ∧ 0 ≤ c ∧ c ≤ 1000000000
theorem fl_mlId {x c1 c b w t P A : Int} (h : x + c1 * 1000000000 = c + b * w + t) : x * P + c1 * (P * 1000000000) = c * P + b * (w * P) + t * P := by
  have e := congrArg (· * P) h
  simp only [Int.add_mul] at e
  rw [Int.mul_comm P, ← Int.mul_assoc c1, ← Int.mul_assoc b]
  exact e
theorem flMl.step {u f g : Nat → Int32} {s k : Nat} {b c c1 : Int} {x : Int32} (h : flMl u f g s k b c) (hx : x.toInt + c1 * 1000000000 = c + b * (u (k - s)).toInt + (g k).toInt) (h0 : 0 ≤ x.toInt ∧ x.toInt < 1000000000) (h1 : 0 ≤ c1 ∧ c1 ≤ 1000000000) : flMl u f (upd g k x) s (k + 1) b c1 := by
  obtain ⟨a, d, hs, e, -, -⟩ := h
  refine ⟨flO_upd a h0, fun i hi => by rw [v_ne (by omega)]; exact d i (by omega), by omega, ?_, h1⟩
  show flV 1000000000 (upd g k x) k + (upd g k x k).toInt * 1000000000 ^ k + c1 * 1000000000 ^ (k + 1) = (flV 1000000000 f k + (f k).toInt * 1000000000 ^ k) + _
  rw [show k + 1 - s = (k - s) + 1 by omega]
  show _ = _ + b * ((flV 1000000000 u (k - s) + (u (k - s)).toInt * 1000000000 ^ (k - s)) * 1000000000 ^ s)
  rw [Int.add_mul, Int.mul_assoc (u (k - s)).toInt, ← Int.pow_add, show k - s + s = k by omega, Int.mul_add]
  rw [fl_updg (Nat.le_refl k), v_eq, fl_pw]
  rw [d k (Nat.le_refl k)] at hx
  have i := fl_mlId (A := 0) (P := 1000000000 ^ k) hx
  generalize (1000000000 : Int) ^ k = P at i e ⊢
  generalize b * (flV 1000000000 u (k - s) * 1000000000 ^ s) = W at *
  omega
/-- the figures of a limb -/
def flFg (l f : Nat → Int32) (k j : Nat) (v : Int) : Prop := flO 10 f j ∧ 9 * k ≤ j ∧ j ≤ 9 * k + 9 ∧ flV 10 f j + v * 10 ^ j = flV 1000000000 l (k + 1) ∧ 0 ≤ v ∧ v * 10 ^ j < 1000000000 ^ (k + 1)
theorem fl_fgId {x v v1 P : Int} (h : x + v1 * 10 = v) : x * P + v1 * (P * 10) = v * P := by
  have e := congrArg (· * P) h
  simp only [Int.add_mul] at e
  rw [Int.mul_comm P, ← Int.mul_assoc v1]
  exact e
theorem flFg.step {l f : Nat → Int32} {k j : Nat} {v v1 : Int} {x : Int32} (h : flFg l f k j v) (hj : j < 9 * k + 9) (hx : x.toInt + v1 * 10 = v) (h0 : 0 ≤ x.toInt ∧ x.toInt < 10) (h1 : 0 ≤ v1) : flFg l (upd f j x) k (j + 1) v1 := by
  obtain ⟨a, b, -, d, -, e⟩ := h
  have i := fl_fgId (P := 10 ^ j) hx
  have p := fl_pos (B := 10) (by decide) j
  have q := Int.mul_nonneg h0.1 (Int.le_of_lt p)
  refine ⟨fun i hi => ?_, by omega, by omega, ?_, h1, ?_⟩
  · by_cases c : i = j
    · rw [c, v_eq]; exact h0
    · rw [v_ne c]; exact a i (by omega)
  · show flV 10 (upd f j x) j + (upd f j x j).toInt * 10 ^ j + v1 * 10 ^ (j + 1) = _
    rw [fl_updg (Nat.le_refl j), v_eq, fl_pw, ← d]
    omega
  · rw [fl_pw]
    omega
theorem fl_b10 (k : Nat) : (1000000000 : Int) ^ k = 10 ^ (9 * k) := by
  rw [show (1000000000 : Int) = 10 ^ 9 by decide, ← Int.pow_mul]
theorem flFg.start {l f : Nat → Int32} {k : Nat} (h : flO 10 f (9 * k)) (e : flV 10 f (9 * k) = flV 1000000000 l k) (hl : 0 ≤ (l k).toInt ∧ (l k).toInt < 1000000000) : flFg l f k (9 * k) (l k).toInt := by
  have p := fl_pos (B := 1000000000) (by decide) k
  refine ⟨h, Nat.le_refl _, by omega, ?_, hl.1, ?_⟩
  · show _ = flV 1000000000 l k + (l k).toInt * 1000000000 ^ k
    rw [e, fl_b10]
  · rw [← fl_b10, fl_pw]
    have q := Int.mul_lt_mul_of_pos_right hl.2 p
    rw [Int.mul_comm (1000000000 ^ k)]
    exact q
theorem flFg.fin {l f : Nat → Int32} {k : Nat} {v : Int} (h : flFg l f k (9 * (k + 1)) v) : flO 10 f (9 * (k + 1)) ∧ flV 10 f (9 * (k + 1)) = flV 1000000000 l (k + 1) := by
  obtain ⟨a, -, -, d, e, g⟩ := h
  refine ⟨a, ?_⟩
  rw [fl_b10] at g
  have p := fl_pos (B := 10) (by decide) (9 * (k + 1))
  have z : v = 0 := by
    by_cases c : v = 0
    · exact c
    · have q := Int.mul_le_mul_of_nonneg_right (show 1 ≤ v by omega) (Int.le_of_lt p)
      rw [Int.one_mul] at q
      omega
  rw [z, Int.zero_mul, Int.add_zero] at d
  exact d

/-! FloatRows: setUnit, set -/
def flE : Int := 1000000000 ^ 120
theorem fl_pn (a b : Nat) : ((a ^ b : Nat) : Int) = (a : Int) ^ b := Int.natCast_pow a b
theorem fl_bd {m : Nat} (h : m ≤ 1070) : flE * 2 ^ m < 1000000000 ^ 156 := by
  have a := fl_mono (B := 2) (by decide) h
  have b : (1000000000 ^ 120 * 2 ^ 1070 : Nat) < 1000000000 ^ 156 := by decide +kernel
  have c := Int.ofNat_lt.mpr b
  rw [Int.natCast_mul, fl_pn, fl_pn, fl_pn] at c
  have d := Int.mul_le_mul_of_nonneg_left a (Int.le_of_lt (fl_pos (B := 1000000000) (by decide) 120))
  exact Int.lt_of_le_of_lt d c
/-- the unit: 10 ^ 1080 times a power of two -/
def flU (x : Int32) (r : Nat → Int32) : Prop := flO 1000000000 r 156 ∧ ((0 ≤ x.toInt ∧ ∃ m : Nat, (m : Int) = x.toInt ∧ flV 1000000000 r 156 = flE * 2 ^ m) ∨ (x.toInt < 0 ∧ ∃ m : Nat, (m : Int) = -x.toInt ∧ flV 1000000000 r 156 = flE / 2 ^ m))
def flX (k : Nat) (r : Nat → Int32) : Prop := flO 1000000000 r k ∧ ((k ≤ 120 ∧ flV 1000000000 r k = 0) ∨ (120 < k ∧ flV 1000000000 r k = flE))
theorem flX.step {k : Nat} {r : Nat → Int32} (h : flX k r) (hk : k ≠ 120) : flX (k + 1) (upd r k 0) := by
  have e0 : (0 : Int32).toInt = 0 := rfl
  have e : flV 1000000000 (upd r k 0) (k + 1) = flV 1000000000 r k := by
    show flV 1000000000 (upd r k 0) k + (upd r k 0 k).toInt * 1000000000 ^ k = _
    rw [fl_updg (Nat.le_refl k), v_eq, e0, Int.zero_mul, Int.add_zero]
  refine ⟨fun i hi => ?_, ?_⟩
  · by_cases c : i = k
    · rw [c, v_eq]; decide
    · rw [v_ne c]; exact h.1 i (by omega)
  · rw [e]
    rcases h.2 with ⟨a, b⟩ | ⟨a, b⟩
    · exact Or.inl ⟨by omega, b⟩
    · exact Or.inr ⟨by omega, b⟩
theorem flX.step1 {r : Nat → Int32} (h : flX 120 r) : flX 121 (upd r 120 1) := by
  have e1 : (1 : Int32).toInt = 1 := rfl
  refine ⟨fun i hi => ?_, Or.inr ⟨by omega, ?_⟩⟩
  · by_cases c : i = 120
    · rw [c, v_eq]; decide
    · rw [v_ne c]; exact h.1 i (by omega)
  · show flV 1000000000 (upd r 120 1) 120 + (upd r 120 1 120).toInt * 1000000000 ^ 120 = _
    rw [fl_updg (Nat.le_refl 120), v_eq, e1, Int.one_mul]
    rcases h.2 with ⟨a, b⟩ | ⟨a, b⟩
    · rw [b, Int.zero_add]; rfl
    · omega
theorem fl_and1 {x : Int32} (h : 0 ≤ x.toInt) : (x &&& 1).toInt = x.toInt % 2 := by
  have a := s_nn h
  have e : (x &&& 1).toBitVec.toNat = x.toBitVec.toNat % 2 := by rw [Int32.toBitVec_and, BitVec.toNat_and]; exact Nat.and_one_is_mod _
  rw [s_of e (by omega), a.1]
  omega
theorem fl_hf {g r : Int32} (hg : 0 ≤ g.toInt ∧ g.toInt < 1000000000) (hr : 0 ≤ r.toInt ∧ r.toInt ≤ 1) : 2 * ((g + r * 1000000000) / 2 : Int32).toInt + ((g + r * 1000000000) &&& 1 : Int32).toInt = g.toInt + r.toInt * 1000000000 ∧ (0 ≤ ((g + r * 1000000000) / 2 : Int32).toInt ∧ ((g + r * 1000000000) / 2 : Int32).toInt < 1000000000) ∧ 0 ≤ ((g + r * 1000000000) &&& 1 : Int32).toInt ∧ ((g + r * 1000000000) &&& 1 : Int32).toInt ≤ 1 := by
  have e1 : (r * 1000000000 : Int32).toInt = r.toInt * 1000000000 := q_mulI (y := 1000000000) rfl (by decide) (by omega) (by omega)
  have e2 : (g + r * 1000000000 : Int32).toInt = g.toInt + r.toInt * 1000000000 := q_addI rfl e1 (by omega) (by omega)
  generalize (g + r * 1000000000 : Int32) = v at e2 ⊢
  have e3 : (v / 2 : Int32).toInt = v.toInt / 2 := q_divI rfl (by decide) (by omega) (by decide)
  rw [e3, fl_and1 (by omega)]
  omega
theorem fl_db {g c : Int32} (hg : 0 ≤ g.toInt ∧ g.toInt < 1000000000) (hc : 0 ≤ c.toInt ∧ c.toInt ≤ 1) : (2 * g + c : Int32).toInt = 2 * g.toInt + c.toInt := by
  have e1 : (2 * g : Int32).toInt = 2 * g.toInt := q_mulI (x := 2) (by decide) rfl (by omega) (by omega)
  exact q_addI e1 rfl (by omega) (by omega)
theorem fl_db1 {g c : Int32} (hg : 0 ≤ g.toInt ∧ g.toInt < 1000000000) (hc : 0 ≤ c.toInt ∧ c.toInt ≤ 1) (h : (2 * g + c : Int32) < 1000000000) : (2 * g + c - 0 : Int32).toInt + (0 : Int32).toInt * 1000000000 = 2 * g.toInt + c.toInt ∧ 0 ≤ (2 * g + c - 0 : Int32).toInt ∧ (2 * g + c - 0 : Int32).toInt < 1000000000 := by
  have e := fl_db hg hc
  have h2 := q_ltI h
  have e0 : (0 : Int32).toInt = 0 := rfl
  have e9 : (1000000000 : Int32).toInt = 1000000000 := rfl
  have e3 : (2 * g + c - 0 : Int32).toInt = (2 * g.toInt + c.toInt) - 0 := q_subI e e0 (by omega) (by omega)
  omega
theorem fl_db2 {g c : Int32} (hg : 0 ≤ g.toInt ∧ g.toInt < 1000000000) (hc : 0 ≤ c.toInt ∧ c.toInt ≤ 1) (h : ¬ (2 * g + c : Int32) < 1000000000) : (2 * g + c - 1000000000 : Int32).toInt + (1 : Int32).toInt * 1000000000 = 2 * g.toInt + c.toInt ∧ 0 ≤ (2 * g + c - 1000000000 : Int32).toInt ∧ (2 * g + c - 1000000000 : Int32).toInt < 1000000000 := by
  have e := fl_db hg hc
  have h2 := q_nltI h
  have e1 : (1 : Int32).toInt = 1 := rfl
  have e9 : (1000000000 : Int32).toInt = 1000000000 := rfl
  have e3 : (2 * g + c - 1000000000 : Int32).toInt = (2 * g.toInt + c.toInt) - 1000000000 := q_subI e e9 (by omega) (by omega)
  omega
theorem fl_dbF {f g : Nat → Int32} {c : Int} {m : Nat} (h : flDb f g 156 c) (hm : m + 1 ≤ 1070) (e : flV 1000000000 f 156 = flE * 2 ^ m) : flO 1000000000 g 156 ∧ flV 1000000000 g 156 = flE * 2 ^ (m + 1) := by
  obtain ⟨a, -, d, c0, c1⟩ := h
  refine ⟨a, ?_⟩
  have b := fl_bd hm
  have nn := fl_nn (B := 1000000000) (by decide) a
  have p := fl_pos (B := 1000000000) (by decide) 156
  rw [e] at d
  have e2 : 2 * (flE * 2 ^ m) = flE * 2 ^ (m + 1) := by rw [fl_pw, Int.mul_comm 2, Int.mul_assoc]
  rw [e2] at d
  have z : c = 0 := by
    by_cases q : c = 0
    · exact q
    · have w : c = 1 := by omega
      rw [w, Int.one_mul] at d
      generalize (1000000000 : Int) ^ 156 = P at *
      generalize flE * 2 ^ (m + 1) = W at *
      omega
  rw [z, Int.zero_mul, Int.add_zero] at d
  exact d
theorem fl_hfF {f g : Nat → Int32} {r : Int} {m : Nat} (h : flHf f g 0 r) (e : flV 1000000000 f 156 = flE / 2 ^ m) : flO 1000000000 g 156 ∧ flV 1000000000 g 156 = flE / 2 ^ (m + 1) := by
  obtain ⟨a, -, d, c0, c1⟩ := h
  refine ⟨a, ?_⟩
  have z : flV 1000000000 f 0 = 0 := rfl
  rw [z, e, Int.pow_zero] at d
  rw [fl_pw, ← Int.ediv_ediv_of_nonneg (Int.le_of_lt (fl_pos (B := 2) (by decide) m))]
  omega
theorem fl_at {f : Nat → Int32} {i : Int32} (h : flO 1000000000 f 156) (h0 : 0 ≤ i.toInt) (h1 : i.toInt < 156) : 0 ≤ (f i.toNatClampNeg).toInt ∧ (f i.toNatClampNeg).toInt < 1000000000 := h _ (by have := q_clI (i := i) rfl h0; omega)
theorem flX.go {i j : Int32} {r : Nat → Int32} (h : ∃ k : Nat, (k : Int) = i.toInt ∧ flX k r) (e : j.toInt = i.toInt + 1) (hn : i.toInt ≠ 120) : ∃ k : Nat, (k : Int) = j.toInt ∧ flX k (upd r i.toNatClampNeg 0) := by
  obtain ⟨k, a, b⟩ := h
  have c := q_clI (i := i) rfl (by omega)
  rw [show i.toNatClampNeg = k by omega]
  exact ⟨k + 1, by omega, b.step (by omega)⟩
theorem flX.go1 {i j : Int32} {r : Nat → Int32} (h : ∃ k : Nat, (k : Int) = i.toInt ∧ flX k r) (e : j.toInt = i.toInt + 1) (hn : i.toInt = 120) : ∃ k : Nat, (k : Int) = j.toInt ∧ flX k (upd r i.toNatClampNeg 1) := by
  obtain ⟨k, a, b⟩ := h
  have c := q_clI (i := i) rfl (by omega)
  rw [show i.toNatClampNeg = 120 by omega]
  rw [show k = 120 by omega] at b
  exact ⟨121, by omega, b.step1⟩
theorem flDb.go {f g : Nat → Int32} {i j c c1 x : Int32} (h : ∃ k : Nat, (k : Int) = i.toInt ∧ flDb f g k c.toInt) (e : j.toInt = i.toInt + 1) (hx : x.toInt + c1.toInt * 1000000000 = 2 * (g i.toNatClampNeg).toInt + c.toInt ∧ 0 ≤ x.toInt ∧ x.toInt < 1000000000) (h1 : 0 ≤ c1.toInt ∧ c1.toInt ≤ 1) : ∃ k : Nat, (k : Int) = j.toInt ∧ flDb f (upd g i.toNatClampNeg x) k c1.toInt := by
  obtain ⟨k, a, b⟩ := h
  have c := q_clI (i := i) rfl (by omega)
  have ek : i.toNatClampNeg = k := by omega
  rw [ek] at hx ⊢
  exact ⟨k + 1, by omega, b.step hx.1 hx.2 h1⟩
theorem flHf.go {f g : Nat → Int32} {i j r r1 x : Int32} (h : ∃ k : Nat, (k : Int) = i.toInt + 1 ∧ flHf f g k r.toInt) (h0 : 0 ≤ i.toInt ∧ i.toInt < 156) (e : j.toInt = i.toInt - 1) (hx : 2 * x.toInt + r1.toInt = (g i.toNatClampNeg).toInt + r.toInt * 1000000000 ∧ (0 ≤ x.toInt ∧ x.toInt < 1000000000) ∧ 0 ≤ r1.toInt ∧ r1.toInt ≤ 1) : ∃ k : Nat, (k : Int) = j.toInt + 1 ∧ flHf f (upd g i.toNatClampNeg x) k r1.toInt := by
  obtain ⟨k, a, b⟩ := h
  have c := q_clI (i := i) rfl (by omega)
  rw [show k = i.toNatClampNeg + 1 by omega] at b
  exact ⟨i.toNatClampNeg, by omega, b.step (by omega) hx.1 hx.2.1 hx.2.2⟩
theorem v_su5 {K_F_FR_setUnit_L2 : Int32 → (Nat → Int32) → (Nat → Int32)} {K_F_FR_setUnit_L34 : Int32 → (Nat → Int32) → (Nat → Int32)} {K_F_FR_setUnit_L105 : Int32 → (Nat → Int32) → (Nat → Int32)} {x2 : Int32} {t0_0 : Int32} {t0_1 : Int32} {t0_2 : Int32} {t0_3 : Int32} {t0_4 : Int64} {t0_5 : Int32} {t0_6 : Int32} {t0_7 : Int64} {t0_8 : Int32} {t0_9 : Int64} {t0_10 : Int32} {t1_0 : (Nat → Int32)} {lx18 : Int32} {lx19 : (Nat → Int32)} {lx34 : Int32} {lx35 : (Nat → Int32)} {lx49 : Int32} {lx50 : (Nat → Int32)} (hx : -1080 ≤ x2.toInt ∧ x2.toInt ≤ 1000)(hK : ∀ r : Nat → Int32, flHf lx50 r 0 0 ∨ flHf lx50 r 0 1 → flU x2 (K_F_FR_setUnit_L105 (lx49 + 1) r)) : ∀ (n : Nat) (lx66 : Int32) (lx67 : Int32) (lx68 : (Nat → Int32)), (-1 ≤ lx66.toInt ∧ lx66.toInt ≤ 155) → (lx66.toInt + 1 < (n : Int)) → (∃ k : Nat, (k : Int) = lx66.toInt + 1 ∧ flHf lx50 lx68 k lx67.toInt) → flU x2 (F_FR_setUnit_L116 K_F_FR_setUnit_L2 K_F_FR_setUnit_L34 K_F_FR_setUnit_L105 x2 t0_0 t0_1 t0_2 t0_3 t0_4 t0_5 t0_6 t0_7 t0_8 t0_9 t0_10 t1_0 lx18 lx19 lx34 lx35 lx49 lx50 n lx66 lx67 lx68) := by
  intro n
  induction n with
  | zero => intro lx66 lx67 lx68 h0 hm ho; exact absurd (show False by omega) id
  | succ n ih =>
    intro lx66 lx67 lx68 h0 hm ho
    have e0 : (0 : Int32).toInt = 0 := rfl
    have e1 : (1 : Int32).toInt = 1 := rfl
    have eL0 : (0 : Int64).toInt = 0 := rfl
    have hr : 0 ≤ lx67.toInt ∧ lx67.toInt ≤ 1 := (fun ⟨_, _, h⟩ => h.2.2.2) ho
    rw [F_FR_setUnit_L116.eq_2]
    by_cases g1 : lx66 < (0 : Int32)
    ·
      rw [if_pos g1]
      have g1i : lx66.toInt < 0 := q_ltI g1
      exact hK _ (by obtain ⟨k, a, b⟩ := ho; have c := b.2.2.2; rw [show k = 0 by omega] at b; by_cases d : lx67.toInt = 0; (rw [d] at b; exact Or.inl b); rw [show lx67.toInt = 1 by omega] at b; exact Or.inr b)
    ·
      rw [if_neg g1]
      have g1i : 0 ≤ lx66.toInt := q_nltI g1
      obtain ⟨a2, e3⟩ := q_nm (lx66 + (-1) : Int32)
      rw [e3]
      have a2i : a2.toInt = lx66.toInt + (-1) := by rw [← e3]; exact q_addI (x := lx66.toInt) (y := (-1)) rfl (by decide) (by omega) (by omega)
      exact ih _ _ _ ⟨by omega, by omega⟩ (by omega) (flHf.go ho ⟨by omega, by omega⟩ (by omega) (fl_hf (fl_at (by obtain ⟨k, a, b⟩ := ho; exact b.1) (by omega) (by omega)) hr))
/-- the unit on its way down -/
def flD (x p : Int32) (r : Nat → Int32) : Prop := (0 ≤ x.toInt ∧ 0 ≤ p.toInt ∧ flU x r) ∨ (x.toInt < 0 ∧ p.toInt ≤ 0 ∧ flO 1000000000 r 156 ∧ ∃ m : Nat, (m : Int) = p.toInt - x.toInt ∧ flV 1000000000 r 156 = flE / 2 ^ m)
theorem flD.fin {x p : Int32} {r : Nat → Int32} (h : flD x p r) (hp : 0 ≤ p.toInt) : flU x r := by
  rcases h with ⟨-, -, h⟩ | ⟨a, b, c, m, d, e⟩
  · exact h
  · exact ⟨c, Or.inr ⟨a, m, by omega, e⟩⟩
theorem flD.go {x p q : Int32} {f g : Nat → Int32} {r : Int} (h : flD x p f) (hp : p.toInt < 0) (hq : q.toInt = p.toInt + 1) (hg : flHf f g 0 r) : flD x q g := by
  rcases h with ⟨-, a, -⟩ | ⟨a, b, c, m, d, e⟩
  · omega
  · have z := fl_hfF hg e
    exact Or.inr ⟨a, by omega, z.1, m + 1, by omega, z.2⟩
theorem flD.sub {x p : Int32} {f : Nat → Int32} (h : flD x p f) (hp : p.toInt < 0) : flHf f f 156 0 := by
  rcases h with ⟨-, a, -⟩ | ⟨a, b, c, m, d, e⟩
  · omega
  · exact ⟨c, fun i hi => rfl, by omega, by decide, by decide⟩
/-- the unit on its way up -/
def flT (x p : Int32) (r : Nat → Int32) : Prop := flO 1000000000 r 156 ∧ ((x.toInt ≤ 0 ∧ p = x ∧ flV 1000000000 r 156 = flE) ∨ (0 < x.toInt ∧ 0 ≤ p.toInt ∧ ∃ m : Nat, (m : Int) = x.toInt - p.toInt ∧ flV 1000000000 r 156 = flE * 2 ^ m))
theorem flT.fin {x p : Int32} {r : Nat → Int32} (h : flT x p r) (hp : p.toInt ≤ 0) : flD x x r := by
  rcases h with ⟨o, ⟨a, b, c⟩ | ⟨a, b, m, d, e⟩⟩
  · by_cases z : x.toInt = 0
    · exact Or.inl ⟨by omega, by omega, o, Or.inl ⟨by omega, 0, by omega, by rw [c, Int.pow_zero, Int.mul_one]⟩⟩
    · exact Or.inr ⟨by omega, by omega, o, 0, by omega, by rw [c, Int.pow_zero, Int.ediv_one]⟩
  · exact Or.inl ⟨by omega, by omega, o, Or.inl ⟨by omega, m, by omega, e⟩⟩
theorem flT.go {x p q : Int32} {f g : Nat → Int32} {c : Int} (h : flT x p f) (hx : x.toInt ≤ 1000) (hp : 0 < p.toInt) (hq : q.toInt = p.toInt - 1) (hg : flDb f g 156 c) : flT x q g := by
  rcases h with ⟨o, ⟨a, b, d⟩ | ⟨a, b, m, d, e⟩⟩
  · rw [b] at hp; omega
  · have z := fl_dbF hg (by omega) e
    exact ⟨z.1, Or.inr ⟨a, by omega, m + 1, by omega, z.2⟩⟩
theorem flT.start {x : Int32} {r : Nat → Int32} (hx : flX 156 r) : flT x x r := by
  have v : flV 1000000000 r 156 = flE := by
    rcases hx.2 with ⟨a, -⟩ | ⟨-, a⟩
    · omega
    · exact a
  by_cases c : x.toInt ≤ 0
  · exact ⟨hx.1, Or.inl ⟨c, rfl, v⟩⟩
  · exact ⟨hx.1, Or.inr ⟨by omega, by omega, 0, by omega, by rw [v, Int.pow_zero, Int.mul_one]⟩⟩
theorem v_su4 {K_F_FR_setUnit_L2 : Int32 → (Nat → Int32) → (Nat → Int32)} {K_F_FR_setUnit_L34 : Int32 → (Nat → Int32) → (Nat → Int32)} {x2 : Int32} {t0_0 : Int32} {t0_1 : Int32} {t0_2 : Int32} {t0_3 : Int32} {t0_4 : Int64} {t0_5 : Int32} {t0_6 : Int32} {t0_7 : Int64} {t0_8 : Int32} {t0_9 : Int64} {t0_10 : Int32} {t1_0 : (Nat → Int32)} {lx18 : Int32} {lx19 : (Nat → Int32)} {lx34 : Int32} {lx35 : (Nat → Int32)} (hx : -1080 ≤ x2.toInt ∧ x2.toInt ≤ 1000) : ∀ (n : Nat) (lx49 : Int32) (lx50 : (Nat → Int32)), (0 - lx49.toInt < (n : Int) ∧ 0 < (n : Int)) → (flD x2 lx49 lx50) → flU x2 (F_FR_setUnit_L105 K_F_FR_setUnit_L2 K_F_FR_setUnit_L34 x2 t0_0 t0_1 t0_2 t0_3 t0_4 t0_5 t0_6 t0_7 t0_8 t0_9 t0_10 t1_0 lx18 lx19 lx34 lx35 n lx49 lx50) := by
  intro n
  induction n with
  | zero => intro lx49 lx50 hm ho; exact absurd (show False by omega) id
  | succ n ih =>
    intro lx49 lx50 hm ho
    have e0 : (0 : Int32).toInt = 0 := rfl
    have e1 : (1 : Int32).toInt = 1 := rfl
    have eL0 : (0 : Int64).toInt = 0 := rfl
    rw [F_FR_setUnit_L105.eq_2]
    by_cases g1 : (0 : Int32) ≤ lx49
    ·
      rw [if_pos g1]
      have g1i : 0 ≤ lx49.toInt := q_leI g1
      exact ho.fin (by omega)
    ·
      rw [if_neg g1]
      have g1i : lx49.toInt < 0 := q_nleI g1
      have e5 : (lx49 + 1 : Int32).toInt = lx49.toInt + 1 := q_addI (y := 1) rfl (by decide) (by have := q_lo32 (x := lx49); omega) (by omega); exact v_su5 hx (fun r h => ih _ r ⟨by omega, by omega⟩ (by rcases h with h | h; exact ho.go (by omega) e5 h; exact ho.go (by omega) e5 h)) _ _ _ _ ⟨by decide, by decide⟩ (by decide) ⟨156, rfl, ho.sub (by omega)⟩
theorem v_su3 {K_F_FR_setUnit_L2 : Int32 → (Nat → Int32) → (Nat → Int32)} {K_F_FR_setUnit_L34 : Int32 → (Nat → Int32) → (Nat → Int32)} {x2 : Int32} {t0_0 : Int32} {t0_1 : Int32} {t0_2 : Int32} {t0_3 : Int32} {t0_4 : Int64} {t0_5 : Int32} {t0_6 : Int32} {t0_7 : Int64} {t0_8 : Int32} {t0_9 : Int64} {t0_10 : Int32} {t1_0 : (Nat → Int32)} {lx18 : Int32} {lx19 : (Nat → Int32)} {lx34 : Int32} {lx35 : (Nat → Int32)} (hx : -1080 ≤ x2.toInt ∧ x2.toInt ≤ 1000)(hK : ∀ (r : Nat → Int32) (c : Int), flDb lx35 r 156 c → flU x2 (K_F_FR_setUnit_L34 (lx34 + (-1)) r)) : ∀ (n : Nat) (lx111 : Int32) (lx112 : Int32) (lx113 : (Nat → Int32)), (0 ≤ lx111.toInt ∧ lx111.toInt ≤ 156) → (156 - lx111.toInt < (n : Int)) → (∃ k : Nat, (k : Int) = lx111.toInt ∧ flDb lx35 lx113 k lx112.toInt) → flU x2 (F_FR_setUnit_L43 K_F_FR_setUnit_L2 K_F_FR_setUnit_L34 x2 t0_0 t0_1 t0_2 t0_3 t0_4 t0_5 t0_6 t0_7 t0_8 t0_9 t0_10 t1_0 lx18 lx19 lx34 lx35 n lx111 lx112 lx113) := by
  intro n
  induction n with
  | zero => intro lx111 lx112 lx113 h0 hm ho; exact absurd (show False by omega) id
  | succ n ih =>
    intro lx111 lx112 lx113 h0 hm ho
    have e0 : (0 : Int32).toInt = 0 := rfl
    have e1 : (1 : Int32).toInt = 1 := rfl
    have eL0 : (0 : Int64).toInt = 0 := rfl
    have hr : 0 ≤ lx112.toInt ∧ lx112.toInt ≤ 1 := (fun ⟨_, _, h⟩ => h.2.2.2) ho
    rw [F_FR_setUnit_L43.eq_2]
    by_cases g1 : (156 : Int32) ≤ lx111
    ·
      rw [if_pos g1]
      have g1i : 156 ≤ lx111.toInt := q_leI g1
      exact hK _ lx112.toInt (by obtain ⟨k, a, b⟩ := ho; rw [show k = 156 by omega] at b; exact b)
    ·
      rw [if_neg g1]
      have g1i : lx111.toInt < 156 := q_nleI g1
      by_cases g2 : ((2 * (lx113 lx111.toNatClampNeg : Int32) : Int32) + lx112 : Int32) < (1000000000 : Int32)
      ·
        rw [if_pos g2]
        obtain ⟨a3, e4⟩ := q_nm (lx111 + 1 : Int32)
        rw [e4]
        have a3i : a3.toInt = lx111.toInt + 1 := by rw [← e4]; exact q_addI (x := lx111.toInt) (y := 1) rfl (by decide) (by omega) (by omega)
        exact ih _ _ _ ⟨by omega, by omega⟩ (by omega) (flDb.go ho (by omega) (fl_db1 (fl_at (by obtain ⟨k, a, b⟩ := ho; exact b.1) (by omega) (by omega)) hr g2) (by decide))
      ·
        rw [if_neg g2]
        obtain ⟨a5, e6⟩ := q_nm (lx111 + 1 : Int32)
        rw [e6]
        have a5i : a5.toInt = lx111.toInt + 1 := by rw [← e6]; exact q_addI (x := lx111.toInt) (y := 1) rfl (by decide) (by omega) (by omega)
        exact ih _ _ _ ⟨by omega, by omega⟩ (by omega) (flDb.go ho (by omega) (fl_db2 (fl_at (by obtain ⟨k, a, b⟩ := ho; exact b.1) (by omega) (by omega)) hr g2) (by decide))
theorem v_su2 {K_F_FR_setUnit_L2 : Int32 → (Nat → Int32) → (Nat → Int32)} {x2 : Int32} {t0_0 : Int32} {t0_1 : Int32} {t0_2 : Int32} {t0_3 : Int32} {t0_4 : Int64} {t0_5 : Int32} {t0_6 : Int32} {t0_7 : Int64} {t0_8 : Int32} {t0_9 : Int64} {t0_10 : Int32} {t1_0 : (Nat → Int32)} {lx18 : Int32} {lx19 : (Nat → Int32)} (hx : -1080 ≤ x2.toInt ∧ x2.toInt ≤ 1000) : ∀ (n : Nat) (lx34 : Int32) (lx35 : (Nat → Int32)), (lx34.toInt < (n : Int) ∧ 0 < (n : Int)) → (flT x2 lx34 lx35) → flU x2 (F_FR_setUnit_L34 K_F_FR_setUnit_L2 x2 t0_0 t0_1 t0_2 t0_3 t0_4 t0_5 t0_6 t0_7 t0_8 t0_9 t0_10 t1_0 lx18 lx19 n lx34 lx35) := by
  intro n
  induction n with
  | zero => intro lx34 lx35 hm ho; exact absurd (show False by omega) id
  | succ n ih =>
    intro lx34 lx35 hm ho
    have e0 : (0 : Int32).toInt = 0 := rfl
    have e1 : (1 : Int32).toInt = 1 := rfl
    have eL0 : (0 : Int64).toInt = 0 := rfl
    rw [F_FR_setUnit_L34.eq_2]
    by_cases g1 : lx34 ≤ (0 : Int32)
    ·
      rw [if_pos g1]
      have g1i : lx34.toInt ≤ 0 := q_leI g1
      exact v_su4 hx _ _ _ ⟨by omega, by omega⟩ (ho.fin (by omega))
    ·
      rw [if_neg g1]
      have g1i : 0 < lx34.toInt := q_nleI g1
      have e5 : (lx34 + (-1) : Int32).toInt = lx34.toInt + (-1) := q_addI (y := -1) rfl (by decide) (by omega) (by have := q_hi32 (x := lx34); omega); exact v_su3 hx (fun r c h => ih _ r ⟨by omega, by omega⟩ (ho.go (by omega) (by omega) (by omega) h)) _ _ _ _ ⟨by decide, by decide⟩ (by decide) ⟨0, rfl, ho.1, fun i hi => rfl, (by show (0 : Int) + (0 : Int32).toInt * 1000000000 ^ 0 = 2 * 0; decide), by decide, by decide⟩
theorem v_su1 {x2 : Int32} {t0_0 : Int32} {t0_1 : Int32} {t0_2 : Int32} {t0_3 : Int32} {t0_4 : Int64} {t0_5 : Int32} {t0_6 : Int32} {t0_7 : Int64} {t0_8 : Int32} {t0_9 : Int64} {t0_10 : Int32} {t1_0 : (Nat → Int32)} (hx : -1080 ≤ x2.toInt ∧ x2.toInt ≤ 1000) : ∀ (n : Nat) (lx18 : Int32) (lx19 : (Nat → Int32)), (0 ≤ lx18.toInt ∧ lx18.toInt ≤ 156) → (156 - lx18.toInt < (n : Int)) → (∃ k : Nat, (k : Int) = lx18.toInt ∧ flX k lx19) → flU x2 (F_FR_setUnit_L2 x2 t0_0 t0_1 t0_2 t0_3 t0_4 t0_5 t0_6 t0_7 t0_8 t0_9 t0_10 t1_0 n lx18 lx19) := by
  intro n
  induction n with
  | zero => intro lx18 lx19 h0 hm ho; exact absurd (show False by omega) id
  | succ n ih =>
    intro lx18 lx19 h0 hm ho
    have e0 : (0 : Int32).toInt = 0 := rfl
    have e1 : (1 : Int32).toInt = 1 := rfl
    have eL0 : (0 : Int64).toInt = 0 := rfl
    rw [F_FR_setUnit_L2.eq_2]
    by_cases g1 : (156 : Int32) ≤ lx18
    ·
      rw [if_pos g1]
      have g1i : 156 ≤ lx18.toInt := q_leI g1
      exact v_su2 hx _ _ _ ⟨by omega, by omega⟩ (flT.start (by obtain ⟨k, a, b⟩ := ho; rw [show k = 156 by omega] at b; exact b))
    ·
      rw [if_neg g1]
      have g1i : lx18.toInt < 156 := q_nleI g1
      by_cases g2 : lx18 = (120 : Int32)
      ·
        rw [if_pos g2]
        have g2i : lx18.toInt = 120 := q_eqI g2
        obtain ⟨a3, e4⟩ := q_nm (lx18 + 1 : Int32)
        rw [e4]
        have a3i : a3.toInt = lx18.toInt + 1 := by rw [← e4]; exact q_addI (x := lx18.toInt) (y := 1) rfl (by decide) (by omega) (by omega)
        exact ih _ _ ⟨by omega, by omega⟩ (by omega) (flX.go1 ho (by omega) (by omega))
      ·
        rw [if_neg g2]
        have g2i : lx18.toInt ≠ 120 := q_neI g2
        obtain ⟨a5, e6⟩ := q_nm (lx18 + 1 : Int32)
        rw [e6]
        have a5i : a5.toInt = lx18.toInt + 1 := by rw [← e6]; exact q_addI (x := lx18.toInt) (y := 1) rfl (by decide) (by omega) (by omega)
        exact ih _ _ ⟨by omega, by omega⟩ (by omega) (flX.go ho (by omega) (by omega))
theorem T_FR_setUnit {x2 : Int32} {t0_0 : Int32} {t0_1 : Int32} {t0_2 : Int32} {t0_3 : Int32} {t0_4 : Int64} {t0_5 : Int32} {t0_6 : Int32} {t0_7 : Int64} {t0_8 : Int32} {t0_9 : Int64} {t0_10 : Int32} {t1_0 : (Nat → Int32)} (hx : -1080 ≤ x2.toInt ∧ x2.toInt ≤ 1000) : flU x2 (F_FR_setUnit x2 t0_0 t0_1 t0_2 t0_3 t0_4 t0_5 t0_6 t0_7 t0_8 t0_9 t0_10 t1_0) := by
  have e0 : (0 : Int32).toInt = 0 := rfl
  have e1 : (1 : Int32).toInt = 1 := rfl
  have eL0 : (0 : Int64).toInt = 0 := rfl
  unfold F_FR_setUnit
  exact v_su1 hx _ _ _ ⟨by decide, by decide⟩ (by decide) ⟨0, rfl, fun i hi => absurd hi (Nat.not_lt_zero _), Or.inl ⟨by decide, rfl⟩⟩

/-! FloatRows: set -/
theorem fl_mlV {c b : Int64} {u g : Int32} (hc : 0 ≤ c.toInt ∧ c.toInt ≤ 1000000000) (hb : 0 ≤ b.toInt ∧ b.toInt < 1000000000) (hu : 0 ≤ u.toInt ∧ u.toInt < 1000000000) (hg : 0 ≤ g.toInt ∧ g.toInt < 1000000000) : (((c + b * u.toInt64 + g.toInt64) - (c + b * u.toInt64 + g.toInt64) / 1000000000 * 1000000000).toInt32).toInt + ((c + b * u.toInt64 + g.toInt64) / 1000000000).toInt * 1000000000 = c.toInt + b.toInt * u.toInt + g.toInt ∧ (0 ≤ (((c + b * u.toInt64 + g.toInt64) - (c + b * u.toInt64 + g.toInt64) / 1000000000 * 1000000000).toInt32).toInt ∧ (((c + b * u.toInt64 + g.toInt64) - (c + b * u.toInt64 + g.toInt64) / 1000000000 * 1000000000).toInt32).toInt < 1000000000) ∧ 0 ≤ ((c + b * u.toInt64 + g.toInt64) / 1000000000).toInt ∧ ((c + b * u.toInt64 + g.toInt64) / 1000000000).toInt ≤ 1000000000 := by
  have h1 : 0 ≤ b.toInt * u.toInt := Int.mul_nonneg hb.1 hu.1
  have h2 : b.toInt * u.toInt ≤ 999999999 * 999999999 := Int.mul_le_mul (by omega) (by omega) hu.1 (by decide)
  have e1 : (b * u.toInt64 : Int64).toInt = b.toInt * u.toInt := q_mulL rfl (q_i2l rfl) (by omega) (by omega)
  have e2 : (c + b * u.toInt64 : Int64).toInt = c.toInt + b.toInt * u.toInt := q_addL rfl e1 (by omega) (by omega)
  have e3 : (c + b * u.toInt64 + g.toInt64 : Int64).toInt = (c.toInt + b.toInt * u.toInt) + g.toInt := q_addL e2 (q_i2l rfl) (by omega) (by omega)
  clear e1 e2
  generalize b.toInt * u.toInt = W at *
  generalize (c + b * u.toInt64 + g.toInt64 : Int64) = v at e3 ⊢
  obtain ⟨q, eq⟩ := q_nm (v / 1000000000 : Int64)
  rw [eq]
  have e9 : (1000000000 : Int64).toInt = 1000000000 := rfl
  have e4 : q.toInt = v.toInt / 1000000000 := by rw [← eq]; exact v_divL (y := 1000000000) (by rw [e3]; omega) (by decide)
  clear eq
  obtain ⟨t, et⟩ := q_nm (q * 1000000000 : Int64)
  rw [et]
  have e5 : t.toInt = q.toInt * 1000000000 := by rw [← et]; exact q_mulL rfl e9 (by omega) (by omega)
  clear et
  obtain ⟨w, ew⟩ := q_nm (v - t : Int64)
  rw [ew]
  have e6 : w.toInt = v.toInt - t.toInt := by rw [← ew]; exact q_subL rfl rfl (by omega) (by omega)
  clear ew
  rw [s_l2i (by omega) (by omega)]
  omega
theorem flMl.go {u f g : Nat → Int32} {i j s x d : Int32} {b c c1 : Int64} (h : ∃ k : Nat, (k : Int) = i.toInt ∧ flMl u f g s.toNatClampNeg k b.toInt c.toInt) (h0 : 0 ≤ s.toInt) (ed : d.toInt = i.toInt - s.toInt) (hd : 0 ≤ d.toInt) (e : j.toInt = i.toInt + 1) (hx : x.toInt + c1.toInt * 1000000000 = c.toInt + b.toInt * (u d.toNatClampNeg).toInt + (g i.toNatClampNeg).toInt ∧ (0 ≤ x.toInt ∧ x.toInt < 1000000000) ∧ 0 ≤ c1.toInt ∧ c1.toInt ≤ 1000000000) : ∃ k : Nat, (k : Int) = j.toInt ∧ flMl u f (upd g i.toNatClampNeg x) s.toNatClampNeg k b.toInt c1.toInt := by
  obtain ⟨k, a, w⟩ := h
  have c := q_clI (i := i) rfl (by omega)
  have c2 := q_clI (i := s) rfl h0
  have c3 := q_clI (i := d) rfl hd
  have ek : i.toNatClampNeg = k := by omega
  have ed : d.toNatClampNeg = k - s.toNatClampNeg := by omega
  rw [ek, ed] at hx
  rw [ek]
  exact ⟨k + 1, by omega, w.step hx.1 hx.2.1 hx.2.2⟩
theorem flMl.fin {u f g : Nat → Int32} {s : Nat} {b c U : Int} (h : flMl u f g s 156 b c) (hz : flV 1000000000 u (156 - s) = U) (hlt : flV 1000000000 f 156 + b * (U * 1000000000 ^ s) < 1000000000 ^ 156) : flO 1000000000 g 156 ∧ flV 1000000000 g 156 = flV 1000000000 f 156 + b * (U * 1000000000 ^ s) := by
  obtain ⟨a, -, -, d, c0, -⟩ := h
  refine ⟨a, ?_⟩
  rw [hz] at d
  have nn := fl_nn (B := 1000000000) (by decide) a
  have p := fl_pos (B := 1000000000) (by decide) 156
  have z : c = 0 := by
    by_cases q : c = 0
    · exact q
    · have w := Int.mul_le_mul_of_nonneg_right (show 1 ≤ c by omega) (Int.le_of_lt p)
      rw [Int.one_mul] at w
      generalize (1000000000 : Int) ^ 156 = P at *
      generalize b * (U * 1000000000 ^ s) = W at *
      omega
  rw [z, Int.zero_mul, Int.add_zero] at d
  exact d
theorem fl_top {f : Nat → Int32} {n m : Nat} (ho : flO 1000000000 f n) (hm : m ≤ n) (h : flV 1000000000 f n < 1000000000 ^ m) : flV 1000000000 f m = flV 1000000000 f n := by
  refine (fl_low hm (fun i h1 h2 => ?_)).symm
  by_cases c : (f i).toInt = 0
  · exact c
  · exact absurd (Int.lt_of_le_of_lt (Int.le_trans (fl_mono (by decide) h1) (fl_ge (by decide) ho h2 c)) h) (Int.lt_irrefl _)
/-- what is left to be laid: at, left, the limbs; M is all of it -/
def flL (U M : Int) (s : Int32) (l : Int64) (r : Nat → Int32) : Prop := flO 1000000000 r 156 ∧ (0 ≤ s.toInt ∧ 0 ≤ l.toInt) ∧ (s.toInt = 0 ∨ (s.toInt = 1 ∧ l.toInt ≤ 9223372036) ∨ (s.toInt = 2 ∧ l.toInt ≤ 9) ∨ (s.toInt = 3 ∧ l.toInt = 0)) ∧ flV 1000000000 r 156 + l.toInt * (U * 1000000000 ^ s.toNatClampNeg) = M
theorem flL.up {U M : Int} {s : Int32} {l : Int64} {r : Nat → Int32} (h : flL U M s l r) (hl : 0 < l.toInt) (hU : 1 ≤ U) (hM : M < 1000000000 ^ 156) : U * 1000000000 ^ s.toNatClampNeg < 1000000000 ^ 156 ∧ s.toInt ≤ 2 := by
  obtain ⟨o, a, b, c⟩ := h
  have nn := fl_nn (B := 1000000000) (by decide) o
  have p := fl_pos (B := 1000000000) (by decide) s.toNatClampNeg
  have q := Int.mul_nonneg (show 0 ≤ U by omega) (Int.le_of_lt p)
  have w := Int.mul_le_mul_of_nonneg_right (show 1 ≤ l.toInt by omega) q
  rw [Int.one_mul] at w
  refine ⟨?_, by omega⟩
  generalize (1000000000 : Int) ^ 156 = P at *
  generalize U * 1000000000 ^ s.toNatClampNeg = W at *
  omega
theorem fl_lid {l q b W : Int} (h : l = q * 1000000000 + b) : l * W = b * W + q * (W * 1000000000) := by
  rw [h, Int.add_mul, Int.mul_comm W, ← Int.mul_assoc q, Int.add_comm]
theorem flL.go {U M : Int} {s s1 : Int32} {l q b : Int64} {r r1 : Nat → Int32} (h : flL U M s l r) (hl : 0 < l.toInt) (es : s1.toInt = s.toInt + 1) (eq : l.toInt = q.toInt * 1000000000 + b.toInt ∧ 0 ≤ b.toInt ∧ 0 ≤ q.toInt) (ho : flO 1000000000 r1 156) (e : flV 1000000000 r1 156 = flV 1000000000 r 156 + b.toInt * (U * 1000000000 ^ s.toNatClampNeg)) : flL U M s1 q r1 := by
  obtain ⟨o, a, d, c⟩ := h
  have hi : l.toInt < 9223372036854775808 := Int64.toInt_lt l
  refine ⟨ho, ⟨by omega, by omega⟩, by omega, ?_⟩
  have c1 := q_clI (i := s) rfl a.1
  have c2 := q_clI (i := s1) rfl (by omega)
  rw [show s1.toNatClampNeg = s.toNatClampNeg + 1 by omega, fl_pw, ← Int.mul_assoc U, e, ← c, fl_lid (W := U * 1000000000 ^ s.toNatClampNeg) eq.1]
  omega
theorem flL.lt {U M : Int} {s : Int32} {l q b : Int64} {r : Nat → Int32} (h : flL U M s l r) (eq : l.toInt = q.toInt * 1000000000 + b.toInt ∧ 0 ≤ b.toInt ∧ 0 ≤ q.toInt) (hU : 1 ≤ U) (hM : M < 1000000000 ^ 156) : flV 1000000000 r 156 + b.toInt * (U * 1000000000 ^ s.toNatClampNeg) < 1000000000 ^ 156 := by
  obtain ⟨o, a, d, c⟩ := h
  have p := fl_pos (B := 1000000000) (by decide) s.toNatClampNeg
  have w := Int.mul_nonneg (show 0 ≤ U by omega) (Int.le_of_lt p)
  have e := Int.mul_le_mul_of_nonneg_right (show b.toInt ≤ l.toInt by omega) w
  generalize (1000000000 : Int) ^ 156 = P at *
  generalize U * 1000000000 ^ s.toNatClampNeg = W at *
  omega
theorem fl_qr {l : Int64} (h : 0 ≤ l.toInt) : l.toInt = (l / 1000000000).toInt * 1000000000 + (l - l / 1000000000 * 1000000000).toInt ∧ (0 ≤ (l - l / 1000000000 * 1000000000).toInt ∧ (l - l / 1000000000 * 1000000000).toInt < 1000000000) ∧ 0 ≤ (l / 1000000000).toInt := by
  have hi : l.toInt < 9223372036854775808 := Int64.toInt_lt l
  have e9 : (1000000000 : Int64).toInt = 1000000000 := rfl
  obtain ⟨q, eq⟩ := q_nm (l / 1000000000 : Int64)
  rw [eq]
  have e4 : q.toInt = l.toInt / 1000000000 := by rw [← eq]; exact v_divL (y := 1000000000) h (by decide)
  clear eq
  obtain ⟨t, et⟩ := q_nm (q * 1000000000 : Int64)
  rw [et]
  have e5 : t.toInt = q.toInt * 1000000000 := by rw [← et]; exact q_mulL rfl e9 (by omega) (by omega)
  clear et
  obtain ⟨w, ew⟩ := q_nm (l - t : Int64)
  rw [ew]
  have e6 : w.toInt = l.toInt - t.toInt := by rw [← ew]; exact q_subL rfl rfl (by omega) (by omega)
  clear ew
  omega
theorem fl_9 {x : Int32} (h : 0 ≤ x.toInt ∧ x.toInt ≤ 155) : (9 * x : Int32).toInt = 9 * x.toInt := q_mulI (x := 9) (by decide) rfl (by omega) (by omega)
theorem fl_99 {x : Int32} (h : 0 ≤ x.toInt ∧ x.toInt ≤ 155) : (9 * x + 9 : Int32).toInt = 9 * x.toInt + 9 := q_addI (fl_9 h) (by decide) (by omega) (by omega)
theorem fl_9a {x y : Int32} (h : 0 ≤ x.toInt ∧ x.toInt ≤ 155) (g : (9 * x + 9 : Int32) ≤ y) : 9 * x.toInt + 9 ≤ y.toInt := by have := q_leI g; rw [fl_99 h] at this; exact this
theorem fl_9b {x y : Int32} (h : 0 ≤ x.toInt ∧ x.toInt ≤ 155) (g : ¬ (9 * x + 9 : Int32) ≤ y) : y.toInt < 9 * x.toInt + 9 := by have := q_nleI g; rw [fl_99 h] at this; exact this
theorem flFg.go {l f : Nat → Int32} {k : Nat} {i j v : Int32} (h : ∃ m : Nat, (m : Int) = i.toInt ∧ flFg l f k m v.toInt) (hk : i.toInt < 9 * (k : Int) + 9) (e : j.toInt = i.toInt + 1) : ∃ m : Nat, (m : Int) = j.toInt ∧ flFg l (upd f i.toNatClampNeg (v - v / 10 * 10)) k m (v / 10).toInt := by
  obtain ⟨m, a, w⟩ := h
  have c := q_clI (i := i) rfl (by omega)
  have hv := w.2.2.2.2.1
  have e1 : (v / 10).toInt = v.toInt / 10 := q_divI rfl (by decide) hv (by decide)
  have e2 := s_rem (x := v) (b := 10) hv (by decide)
  have e3 : (10 : Int32).toInt = 10 := rfl
  rw [e3] at e2
  rw [show i.toNatClampNeg = m by omega]
  exact ⟨m + 1, by omega, w.step (by omega) (by rw [e1, e2]; omega) (by rw [e2]; omega) (by rw [e1]; omega)⟩
def flR (l : Nat → Int32) (k : Nat) (r : Nat → Int32) : Prop := flO 10 r (9 * k) ∧ flV 10 r (9 * k) = flV 1000000000 l k
theorem flFg.end {l f : Nat → Int32} {k : Nat} {i v : Int32} (h : ∃ m : Nat, (m : Int) = i.toInt ∧ flFg l f k m v.toInt) (hk : 9 * (k : Int) + 9 ≤ i.toInt) : flR l (k + 1) f := by
  obtain ⟨m, a, w⟩ := h
  have := w.2.2.1
  rw [show m = 9 * (k + 1) by omega] at w
  exact w.fin
/-- the figures of a product -/
def flS (M : Int) (p : (Nat → Int32) × (Nat → Int32)) : Prop := flO 10 p.2 1404 ∧ flV 10 p.2 1404 = M
theorem fl_le156 {a : Int} {n : Nat} (h : a ≤ 2) (e : (n : Int) = a) : n ≤ 156 := by omega
theorem fl_pdiv {U : Int} {s n : Nat} (hs : s ≤ n) (h : U * 1000000000 ^ s < 1000000000 ^ n) : U < 1000000000 ^ (n - s) := by
  have e : (1000000000 : Int) ^ n = 1000000000 ^ (n - s) * 1000000000 ^ s := by rw [← Int.pow_add, show n - s + s = n by omega]
  rw [e] at h
  exact Int.lt_of_mul_lt_mul_right h (Int.le_of_lt (fl_pos (by decide) s))
theorem v_st5 {K_F_FR_set_L3 : Int32 → (Nat → Int32) → ((Nat → Int32) × (Nat → Int32))} {K_F_FR_set_L31 : Int32 → Int64 → (Nat → Int32) → ((Nat → Int32) × (Nat → Int32))} {K_F_FR_set_L134 : Int32 → (Nat → Int32) → ((Nat → Int32) × (Nat → Int32))} {N2 : Int32} {x3 : Int64} {t0_0 : Int32} {t0_1 : Int32} {t0_2 : Int32} {t0_3 : Int32} {t0_4 : Int64} {t0_5 : Int32} {t0_6 : Int32} {t0_7 : Int64} {t0_8 : Int32} {t0_9 : Int64} {t0_10 : Int32} {t1_0 : (Nat → Int32)} {t2_0 : (Nat → Int32)} {t3_0 : (Nat → Int32)} {lx24 : Int32} {lx25 : (Nat → Int32)} {lx43 : Int32} {lx44 : Int64} {lx45 : (Nat → Int32)} {lx63 : Int32} {lx64 : (Nat → Int32)} {K_S_FR_set_L3 : Int32 → (Nat → Int32) → Prop} {K_S_FR_set_L31 : Int32 → Int64 → (Nat → Int32) → Prop} {K_S_FR_set_L134 : Int32 → (Nat → Int32) → Prop} (hN : N2.toInt = 1404) (hu : flO 1000000000 t1_0 156) (hU : 1 ≤ flV 1000000000 t1_0 156) (hx : 0 ≤ x3.toInt) (hb : x3.toInt * flV 1000000000 t1_0 156 < 1000000000 ^ 156)(h63 : 0 ≤ lx63.toInt ∧ lx63.toInt ≤ 155) (hK : ∀ r : Nat → Int32, flR lx45 (lx63.toNatClampNeg + 1) r → K_S_FR_set_L134 (lx63 + 1) r ∧ flS (x3.toInt * flV 1000000000 t1_0 156) (K_F_FR_set_L134 (lx63 + 1) r)) : ∀ (n : Nat) (lx88 : Int32) (lx89 : Int32) (lx90 : (Nat → Int32)), (0 ≤ lx88.toInt ∧ lx88.toInt ≤ 1404) → (20200 - lx88.toInt < (n : Int)) → (∃ m : Nat, (m : Int) = lx88.toInt ∧ flFg lx45 lx90 lx63.toNatClampNeg m lx89.toInt) → (S_FR_set_L158 K_S_FR_set_L3 K_S_FR_set_L31 K_S_FR_set_L134 N2 x3 t0_0 t0_1 t0_2 t0_3 t0_4 t0_5 t0_6 t0_7 t0_8 t0_9 t0_10 t1_0 t2_0 t3_0 lx24 lx25 lx43 lx44 lx45 lx63 lx64 n lx88 lx89 lx90) ∧ flS (x3.toInt * flV 1000000000 t1_0 156) (F_FR_set_L158 K_F_FR_set_L3 K_F_FR_set_L31 K_F_FR_set_L134 N2 x3 t0_0 t0_1 t0_2 t0_3 t0_4 t0_5 t0_6 t0_7 t0_8 t0_9 t0_10 t1_0 t2_0 t3_0 lx24 lx25 lx43 lx44 lx45 lx63 lx64 n lx88 lx89 lx90) := by
  intro n
  induction n with
  | zero => intro lx88 lx89 lx90 h0 hm ho; exact absurd (show False by omega) id
  | succ n ih =>
    intro lx88 lx89 lx90 h0 hm ho
    have e0 : (0 : Int32).toInt = 0 := rfl
    have e1 : (1 : Int32).toInt = 1 := rfl
    have eL0 : (0 : Int64).toInt = 0 := rfl
    have e63 := q_clI (i := lx63) rfl h63.1
    rw [S_FR_set_L158.eq_2, F_FR_set_L158.eq_2]
    by_cases g1 : ((9 * lx63 : Int32) + 9 : Int32) ≤ lx88
    ·
      rw [if_pos g1, if_pos g1]
      have g1i := fl_9a h63 g1
      exact hK _ (flFg.end ho (by omega))
    ·
      rw [if_neg g1, if_neg g1]
      have g1i := fl_9b h63 g1
      refine v_cons (by omega) ?_
      obtain ⟨a2, e3⟩ := q_nm (lx88 + 1 : Int32)
      rw [e3]
      have a2i : a2.toInt = lx88.toInt + 1 := by rw [← e3]; exact q_addI (x := lx88.toInt) (y := 1) rfl (by decide) (by omega) (by omega)
      exact ih _ _ _ ⟨by omega, by omega⟩ (by omega) (flFg.go ho (by omega) (by omega))
theorem v_st4 {K_F_FR_set_L3 : Int32 → (Nat → Int32) → ((Nat → Int32) × (Nat → Int32))} {K_F_FR_set_L31 : Int32 → Int64 → (Nat → Int32) → ((Nat → Int32) × (Nat → Int32))} {N2 : Int32} {x3 : Int64} {t0_0 : Int32} {t0_1 : Int32} {t0_2 : Int32} {t0_3 : Int32} {t0_4 : Int64} {t0_5 : Int32} {t0_6 : Int32} {t0_7 : Int64} {t0_8 : Int32} {t0_9 : Int64} {t0_10 : Int32} {t1_0 : (Nat → Int32)} {t2_0 : (Nat → Int32)} {t3_0 : (Nat → Int32)} {lx24 : Int32} {lx25 : (Nat → Int32)} {lx43 : Int32} {lx44 : Int64} {lx45 : (Nat → Int32)} {K_S_FR_set_L3 : Int32 → (Nat → Int32) → Prop} {K_S_FR_set_L31 : Int32 → Int64 → (Nat → Int32) → Prop} (hN : N2.toInt = 1404) (hu : flO 1000000000 t1_0 156) (hU : 1 ≤ flV 1000000000 t1_0 156) (hx : 0 ≤ x3.toInt) (hb : x3.toInt * flV 1000000000 t1_0 156 < 1000000000 ^ 156)(h45 : flO 1000000000 lx45 156) (hM : flV 1000000000 lx45 156 = x3.toInt * flV 1000000000 t1_0 156) : ∀ (n : Nat) (lx63 : Int32) (lx64 : (Nat → Int32)), (0 ≤ lx63.toInt ∧ lx63.toInt ≤ 156) → (156 - lx63.toInt < (n : Int)) → (flR lx45 lx63.toNatClampNeg lx64) → (S_FR_set_L134 K_S_FR_set_L3 K_S_FR_set_L31 N2 x3 t0_0 t0_1 t0_2 t0_3 t0_4 t0_5 t0_6 t0_7 t0_8 t0_9 t0_10 t1_0 t2_0 t3_0 lx24 lx25 lx43 lx44 lx45 n lx63 lx64) ∧ flS (x3.toInt * flV 1000000000 t1_0 156) (F_FR_set_L134 K_F_FR_set_L3 K_F_FR_set_L31 N2 x3 t0_0 t0_1 t0_2 t0_3 t0_4 t0_5 t0_6 t0_7 t0_8 t0_9 t0_10 t1_0 t2_0 t3_0 lx24 lx25 lx43 lx44 lx45 n lx63 lx64) := by
  intro n
  induction n with
  | zero => intro lx63 lx64 h0 hm ho; exact absurd (show False by omega) id
  | succ n ih =>
    intro lx63 lx64 h0 hm ho
    have e0 : (0 : Int32).toInt = 0 := rfl
    have e1 : (1 : Int32).toInt = 1 := rfl
    have eL0 : (0 : Int64).toInt = 0 := rfl
    have e63 := q_clI (i := lx63) rfl h0.1
    rw [S_FR_set_L134.eq_2, F_FR_set_L134.eq_2]
    by_cases g1 : (156 : Int32) ≤ lx63
    ·
      rw [if_pos g1, if_pos g1]
      have g1i : 156 ≤ lx63.toInt := q_leI g1
      refine ⟨trivial, ?_⟩
      (rw [show lx63.toNatClampNeg = 156 by omega] at ho; exact ⟨ho.1, ho.2.trans hM⟩)
    ·
      rw [if_neg g1, if_neg g1]
      have g1i : lx63.toInt < 156 := q_nleI g1
      have e5 : (lx63 + 1 : Int32).toInt = lx63.toInt + 1 := q_addI (y := 1) rfl (by decide) (by omega) (by omega); have e6 := fl_9 (x := lx63) ⟨by omega, by omega⟩; exact v_st5 hN hu hU hx hb ⟨by omega, by omega⟩ (fun r h => ih _ r ⟨by omega, by omega⟩ (by omega) (by have := q_clI (i := lx63 + 1) rfl (by omega); rw [show (lx63 + 1 : Int32).toNatClampNeg = lx63.toNatClampNeg + 1 by omega]; exact h)) _ _ _ _ ⟨by omega, by omega⟩ (by omega) ⟨9 * lx63.toNatClampNeg, by omega, flFg.start ho.1 ho.2 (h45 _ (by omega))⟩
theorem v_st3 {K_F_FR_set_L3 : Int32 → (Nat → Int32) → ((Nat → Int32) × (Nat → Int32))} {K_F_FR_set_L31 : Int32 → Int64 → (Nat → Int32) → ((Nat → Int32) × (Nat → Int32))} {N2 : Int32} {x3 : Int64} {t0_0 : Int32} {t0_1 : Int32} {t0_2 : Int32} {t0_3 : Int32} {t0_4 : Int64} {t0_5 : Int32} {t0_6 : Int32} {t0_7 : Int64} {t0_8 : Int32} {t0_9 : Int64} {t0_10 : Int32} {t1_0 : (Nat → Int32)} {t2_0 : (Nat → Int32)} {t3_0 : (Nat → Int32)} {lx24 : Int32} {lx25 : (Nat → Int32)} {lx43 : Int32} {lx44 : Int64} {lx45 : (Nat → Int32)} {j134 : Int64} {j132 : Int64} {K_S_FR_set_L3 : Int32 → (Nat → Int32) → Prop} {K_S_FR_set_L31 : Int32 → Int64 → (Nat → Int32) → Prop} (hN : N2.toInt = 1404) (hu : flO 1000000000 t1_0 156) (hU : 1 ≤ flV 1000000000 t1_0 156) (hx : 0 ≤ x3.toInt) (hb : x3.toInt * flV 1000000000 t1_0 156 < 1000000000 ^ 156)(h43 : 0 ≤ lx43.toInt ∧ lx43.toInt ≤ 2) (hj : 0 ≤ j132.toInt ∧ j132.toInt < 1000000000) (hz : flV 1000000000 t1_0 (156 - lx43.toNatClampNeg) = flV 1000000000 t1_0 156) (hlt : flV 1000000000 lx45 156 + j132.toInt * (flV 1000000000 t1_0 156 * 1000000000 ^ lx43.toNatClampNeg) < 1000000000 ^ 156) (hK : ∀ r : Nat → Int32, flO 1000000000 r 156 → flV 1000000000 r 156 = flV 1000000000 lx45 156 + j132.toInt * (flV 1000000000 t1_0 156 * 1000000000 ^ lx43.toNatClampNeg) → K_S_FR_set_L31 (lx43 + 1) j134 r ∧ flS (x3.toInt * flV 1000000000 t1_0 156) (K_F_FR_set_L31 (lx43 + 1) j134 r)) : ∀ (n : Nat) (lx138 : Int32) (lx139 : Int64) (lx140 : (Nat → Int32)), (lx43.toInt ≤ lx138.toInt ∧ lx138.toInt ≤ 156) → (156 - lx138.toInt < (n : Int)) → (∃ k : Nat, (k : Int) = lx138.toInt ∧ flMl t1_0 lx45 lx140 lx43.toNatClampNeg k j132.toInt lx139.toInt) → (S_FR_set_L61 K_S_FR_set_L3 K_S_FR_set_L31 N2 x3 t0_0 t0_1 t0_2 t0_3 t0_4 t0_5 t0_6 t0_7 t0_8 t0_9 t0_10 t1_0 t2_0 t3_0 lx24 lx25 lx43 lx44 lx45 j134 j132 n lx138 lx139 lx140) ∧ flS (x3.toInt * flV 1000000000 t1_0 156) (F_FR_set_L61 K_F_FR_set_L3 K_F_FR_set_L31 N2 x3 t0_0 t0_1 t0_2 t0_3 t0_4 t0_5 t0_6 t0_7 t0_8 t0_9 t0_10 t1_0 t2_0 t3_0 lx24 lx25 lx43 lx44 lx45 j134 j132 n lx138 lx139 lx140) := by
  intro n
  induction n with
  | zero => intro lx138 lx139 lx140 h0 hm ho; exact absurd (show False by omega) id
  | succ n ih =>
    intro lx138 lx139 lx140 h0 hm ho
    have e0 : (0 : Int32).toInt = 0 := rfl
    have e1 : (1 : Int32).toInt = 1 := rfl
    have eL0 : (0 : Int64).toInt = 0 := rfl
    have hc : 0 ≤ lx139.toInt ∧ lx139.toInt ≤ 1000000000 := (fun ⟨_, _, h⟩ => h.2.2.2.2) ho
    rw [S_FR_set_L61.eq_2, F_FR_set_L61.eq_2]
    by_cases g1 : (156 : Int32) ≤ lx138
    ·
      rw [if_pos g1, if_pos g1]
      have g1i : 156 ≤ lx138.toInt := q_leI g1
      obtain ⟨k, a, b⟩ := ho; rw [show k = 156 by omega] at b; have w := b.fin hz hlt; exact hK _ w.1 w.2
    ·
      rw [if_neg g1, if_neg g1]
      have g1i : lx138.toInt < 156 := q_nleI g1
      obtain ⟨a2, e3⟩ := q_nm (lx138 - lx43 : Int32)
      rw [e3]
      have a2i : a2.toInt = lx138.toInt - lx43.toInt := by rw [← e3]; exact q_subI (x := lx138.toInt) (y := lx43.toInt) rfl rfl (by omega) (by omega)
      refine v_cons (by omega) ?_
      refine v_cons (by omega) ?_
      refine v_cons (by omega) ?_
      obtain ⟨a4, e5⟩ := q_nm (lx138 + 1 : Int32)
      rw [e5]
      have a4i : a4.toInt = lx138.toInt + 1 := by rw [← e5]; exact q_addI (x := lx138.toInt) (y := 1) rfl (by decide) (by omega) (by omega)
      exact ih _ _ _ ⟨by omega, by omega⟩ (by omega) (flMl.go ho h43.1 (by omega) (by omega) (by omega) (fl_mlV hc hj (fl_at hu (by omega) (by omega)) (fl_at (by obtain ⟨k, a, b⟩ := ho; exact b.1) (by omega) (by omega))))
theorem v_st2 {K_F_FR_set_L3 : Int32 → (Nat → Int32) → ((Nat → Int32) × (Nat → Int32))} {N2 : Int32} {x3 : Int64} {t0_0 : Int32} {t0_1 : Int32} {t0_2 : Int32} {t0_3 : Int32} {t0_4 : Int64} {t0_5 : Int32} {t0_6 : Int32} {t0_7 : Int64} {t0_8 : Int32} {t0_9 : Int64} {t0_10 : Int32} {t1_0 : (Nat → Int32)} {t2_0 : (Nat → Int32)} {t3_0 : (Nat → Int32)} {lx24 : Int32} {lx25 : (Nat → Int32)} {K_S_FR_set_L3 : Int32 → (Nat → Int32) → Prop} (hN : N2.toInt = 1404) (hu : flO 1000000000 t1_0 156) (hU : 1 ≤ flV 1000000000 t1_0 156) (hx : 0 ≤ x3.toInt) (hb : x3.toInt * flV 1000000000 t1_0 156 < 1000000000 ^ 156) : ∀ (n : Nat) (lx43 : Int32) (lx44 : Int64) (lx45 : (Nat → Int32)), (3 - lx43.toInt < (n : Int)) → (flL (flV 1000000000 t1_0 156) (x3.toInt * flV 1000000000 t1_0 156) lx43 lx44 lx45) → (S_FR_set_L31 K_S_FR_set_L3 N2 x3 t0_0 t0_1 t0_2 t0_3 t0_4 t0_5 t0_6 t0_7 t0_8 t0_9 t0_10 t1_0 t2_0 t3_0 lx24 lx25 n lx43 lx44 lx45) ∧ flS (x3.toInt * flV 1000000000 t1_0 156) (F_FR_set_L31 K_F_FR_set_L3 N2 x3 t0_0 t0_1 t0_2 t0_3 t0_4 t0_5 t0_6 t0_7 t0_8 t0_9 t0_10 t1_0 t2_0 t3_0 lx24 lx25 n lx43 lx44 lx45) := by
  intro n
  induction n with
  | zero => intro lx43 lx44 lx45 hm ho; have := ho.2.2.1; exact absurd (show False by omega) id
  | succ n ih =>
    intro lx43 lx44 lx45 hm ho
    have e0 : (0 : Int32).toInt = 0 := rfl
    have e1 : (1 : Int32).toInt = 1 := rfl
    have eL0 : (0 : Int64).toInt = 0 := rfl
    have hl := ho.2.1
    rw [S_FR_set_L31.eq_2, F_FR_set_L31.eq_2]
    by_cases g1 : (lg_cmp lx44 0 : Int32) ≤ (0 : Int32)
    ·
      rw [if_pos g1, if_pos g1]
      have g1l := g_lc3 g1
      exact v_st4 hN hu hU hx hb ho.1 (by have e := ho.2.2.2; rw [show lx44.toInt = 0 by omega, Int.zero_mul, Int.add_zero] at e; exact e) _ _ _ ⟨by decide, by decide⟩ (by decide) ⟨fun i hi => absurd hi (Nat.not_lt_zero _), rfl⟩
    ·
      rw [if_neg g1, if_neg g1]
      have g1l := g_lc4 g1
      have e5 : (lx43 + 1 : Int32).toInt = lx43.toInt + 1 := q_addI (y := 1) rfl (by decide) (by omega) (by have := ho.2.2.1; omega); have c43 := q_clI (i := lx43) rfl hl.1; obtain ⟨q1, eq1⟩ := q_nm (lx44 / 1000000000 : Int64); obtain ⟨b1, eb1⟩ := q_nm (lx44 - lx44 / 1000000000 * 1000000000 : Int64); have q := fl_qr hl.2; rw [eb1, eq1] at q; rw [eb1, eq1]; clear eb1 eq1; have up := ho.up (by omega) hU hb; exact v_st3 hN hu hU hx hb ⟨hl.1, up.2⟩ q.2.1 (fl_top hu (Nat.sub_le _ _) (fl_pdiv (fl_le156 up.2 c43) up.1)) (ho.lt ⟨q.1, q.2.1.1, q.2.2⟩ hU hb) (fun r h1 h2 => ih _ _ r (by omega) (ho.go (by omega) e5 ⟨q.1, q.2.1.1, q.2.2⟩ h1 h2)) _ _ _ _ ⟨by omega, by omega⟩ (by omega) ⟨lx43.toNatClampNeg, q_clI (i := lx43) rfl hl.1, ho.1, fun i hi => rfl, Nat.le_refl _, by rw [Nat.sub_self, eL0, Int.zero_mul, Int.add_zero]; show _ = _ + _ * (0 * _); rw [Int.zero_mul, Int.mul_zero, Int.add_zero], by decide, by decide⟩
theorem v_st1 {N2 : Int32} {x3 : Int64} {t0_0 : Int32} {t0_1 : Int32} {t0_2 : Int32} {t0_3 : Int32} {t0_4 : Int64} {t0_5 : Int32} {t0_6 : Int32} {t0_7 : Int64} {t0_8 : Int32} {t0_9 : Int64} {t0_10 : Int32} {t1_0 : (Nat → Int32)} {t2_0 : (Nat → Int32)} {t3_0 : (Nat → Int32)} (hN : N2.toInt = 1404) (hu : flO 1000000000 t1_0 156) (hU : 1 ≤ flV 1000000000 t1_0 156) (hx : 0 ≤ x3.toInt) (hb : x3.toInt * flV 1000000000 t1_0 156 < 1000000000 ^ 156) : ∀ (n : Nat) (lx24 : Int32) (lx25 : (Nat → Int32)), (0 ≤ lx24.toInt ∧ lx24.toInt ≤ 156) → (156 - lx24.toInt < (n : Int)) → (∀ i : Nat, (i : Int) < lx24.toInt → (lx25 i).toInt = 0) → (S_FR_set_L3 N2 x3 t0_0 t0_1 t0_2 t0_3 t0_4 t0_5 t0_6 t0_7 t0_8 t0_9 t0_10 t1_0 t2_0 t3_0 n lx24 lx25) ∧ flS (x3.toInt * flV 1000000000 t1_0 156) (F_FR_set_L3 N2 x3 t0_0 t0_1 t0_2 t0_3 t0_4 t0_5 t0_6 t0_7 t0_8 t0_9 t0_10 t1_0 t2_0 t3_0 n lx24 lx25) := by
  intro n
  induction n with
  | zero => intro lx24 lx25 h0 hm ho; exact absurd (show False by omega) id
  | succ n ih =>
    intro lx24 lx25 h0 hm ho
    have e0 : (0 : Int32).toInt = 0 := rfl
    have e1 : (1 : Int32).toInt = 1 := rfl
    have eL0 : (0 : Int64).toInt = 0 := rfl
    have e24 := q_clI (i := lx24) rfl h0.1
    rw [S_FR_set_L3.eq_2, F_FR_set_L3.eq_2]
    by_cases g1 : (156 : Int32) ≤ lx24
    ·
      rw [if_pos g1, if_pos g1]
      have g1i : 156 ≤ lx24.toInt := q_leI g1
      exact v_st2 hN hu hU hx hb _ _ _ _ (by decide) ⟨fun i hi => by rw [ho i (by omega)]; decide, ⟨by decide, hx⟩, Or.inl rfl, by rw [fl_low (Nat.zero_le 156) (fun i _ h2 => ho i (by omega))]; show (0 : Int) + x3.toInt * (_ * 1000000000 ^ 0) = _; rw [Int.pow_zero, Int.mul_one, Int.zero_add]⟩
    ·
      rw [if_neg g1, if_neg g1]
      have g1i : lx24.toInt < 156 := q_nleI g1
      obtain ⟨a2, e3⟩ := q_nm (lx24 + 1 : Int32)
      rw [e3]
      have a2i : a2.toInt = lx24.toInt + 1 := by rw [← e3]; exact q_addI (x := lx24.toInt) (y := 1) rfl (by decide) (by omega) (by omega)
      exact ih _ _ ⟨by omega, by omega⟩ (by omega) (fun i hi => by by_cases c : i = lx24.toNatClampNeg; (rw [c, v_eq]; rfl); rw [v_ne c]; exact ho i (by omega))
theorem T_FR_set {N2 : Int32} {x3 : Int64} {t0_0 : Int32} {t0_1 : Int32} {t0_2 : Int32} {t0_3 : Int32} {t0_4 : Int64} {t0_5 : Int32} {t0_6 : Int32} {t0_7 : Int64} {t0_8 : Int32} {t0_9 : Int64} {t0_10 : Int32} {t1_0 : (Nat → Int32)} {t2_0 : (Nat → Int32)} {t3_0 : (Nat → Int32)} (hN : N2.toInt = 1404) (hu : flO 1000000000 t1_0 156) (hU : 1 ≤ flV 1000000000 t1_0 156) (hx : 0 ≤ x3.toInt) (hb : x3.toInt * flV 1000000000 t1_0 156 < 1000000000 ^ 156) : (S_FR_set N2 x3 t0_0 t0_1 t0_2 t0_3 t0_4 t0_5 t0_6 t0_7 t0_8 t0_9 t0_10 t1_0 t2_0 t3_0) ∧ flS (x3.toInt * flV 1000000000 t1_0 156) (F_FR_set N2 x3 t0_0 t0_1 t0_2 t0_3 t0_4 t0_5 t0_6 t0_7 t0_8 t0_9 t0_10 t1_0 t2_0 t3_0) := by
  have e0 : (0 : Int32).toInt = 0 := rfl
  have e1 : (1 : Int32).toInt = 1 := rfl
  have eL0 : (0 : Int64).toInt = 0 := rfl
  unfold S_FR_set F_FR_set
  exact v_st1 hN hu hU hx hb _ _ _ ⟨by decide, by decide⟩ (by decide) (fun i hi => by omega)

/-! FloatRows: value, top, cut, half -/
/-- figures, none of them high up -/
def flW (v : Nat → Int32) : Prop := flO 10 v 1404 ∧ ∀ i, 1390 ≤ i → i < 1404 → (v i).toInt = 0
/-- some figure -/
def flNz (v : Nat → Int32) : Prop := ∃ j : Nat, 20 ≤ j ∧ j < 1404 ∧ (v j).toInt ≠ 0
theorem flS.w {M : Int} {p : (Nat → Int32) × (Nat → Int32)} (h : flS M p) (hM : M < 10 ^ 1390) : flW p.2 := by
  refine ⟨h.1, fun i h1 h2 => ?_⟩
  by_cases c : (p.2 i).toInt = 0
  · exact c
  · have a := fl_ge (by decide) h.1 h2 c
    rw [h.2] at a
    exact absurd (Int.lt_of_le_of_lt (Int.le_trans (fl_mono (by decide) h1) a) hM) (Int.lt_irrefl _)
theorem flS.nz {M : Int} {p : (Nat → Int32) × (Nat → Int32)} (h : flS M p) (hM : 10 ^ 20 ≤ M) : flNz p.2 := by
  refine Classical.byContradiction (fun hn => ?_)
  have z : ∀ i, 20 ≤ i → i < 1404 → (p.2 i).toInt = 0 := fun i h1 h2 => by
    by_cases c : (p.2 i).toInt = 0
    · exact c
    · exact absurd ⟨i, h1, h2, c⟩ hn
  have a := fl_low (B := 10) (show 20 ≤ 1404 by decide) z
  have b := fl_lt (B := 10) (by decide) (h.1.mono (show 20 ≤ 1404 by decide))
  rw [← a, h.2] at b
  exact absurd (Int.lt_of_lt_of_le b hM) (Int.lt_irrefl _)
theorem fl_Ed {m : Nat} : flE / 2 ^ m ≤ flE := by
  have p := fl_pos (B := 2) (by decide) m
  have e := fl_pos (B := 1000000000) (by decide) 120
  exact Int.ediv_le_self _ (Int.le_of_lt e)
theorem fl_kA : (2 : Int) ^ 56 * (flE * 2 ^ 969) < 10 ^ 1390 := by
  have b : (2 ^ 56 * (1000000000 ^ 120 * 2 ^ 969) : Nat) < 10 ^ 1390 := by decide +kernel
  have c := Int.ofNat_lt.mpr b
  rw [Int.natCast_mul, Int.natCast_mul, fl_pn, fl_pn, fl_pn, fl_pn] at c
  exact c
theorem fl_kB : (2 : Int) ^ 54 * (flE * 2 ^ 971) < 10 ^ 1390 := by
  have b : (2 ^ 54 * (1000000000 ^ 120 * 2 ^ 971) : Nat) < 10 ^ 1390 := by decide +kernel
  have c := Int.ofNat_lt.mpr b
  rw [Int.natCast_mul, Int.natCast_mul, fl_pn, fl_pn, fl_pn, fl_pn] at c
  exact c
theorem fl_kC : (10 : Int) ^ 20 * 2 ^ 1076 ≤ flE := by
  have b : (10 ^ 20 * 2 ^ 1076 : Nat) ≤ 1000000000 ^ 120 := by decide +kernel
  have c := Int.ofNat_le.mpr b
  rw [Int.natCast_mul, fl_pn, fl_pn, fl_pn] at c
  exact c
theorem fl_k156 : (10 : Int) ^ 1390 ≤ 1000000000 ^ 156 := by
  rw [fl_b10]; exact fl_mono (by decide) (by decide)
theorem flU.up {x : Int32} {r : Nat → Int32} (h : flU x r) {M t : Int} {N : Nat} (h0 : 0 ≤ M) (hM : M ≤ t) (hx : x.toInt ≤ (N : Int)) (hk : t * (flE * 2 ^ N) < 10 ^ 1390) : M * flV 1000000000 r 156 < 10 ^ 1390 := by
  have pE : 0 < flE := fl_pos (B := 1000000000) (by decide) 120
  have pN := fl_pos (B := 2) (by decide) N
  have hv : flV 1000000000 r 156 ≤ flE * 2 ^ N := by
    rcases h.2 with ⟨a, m, b, c⟩ | ⟨a, m, b, c⟩
    · rw [c]
      exact Int.mul_le_mul_of_nonneg_left (fl_mono (by decide) (show m ≤ N by omega)) (Int.le_of_lt pE)
    · rw [c]
      have q := Int.mul_le_mul_of_nonneg_left (show 1 ≤ (2 : Int) ^ N by omega) (Int.le_of_lt pE)
      rw [Int.mul_one] at q
      exact Int.le_trans fl_Ed q
  have nn := fl_nn (B := 1000000000) (by decide) h.1
  exact Int.lt_of_le_of_lt (Int.mul_le_mul hM hv nn (Int.le_trans h0 hM)) hk
theorem flU.lo {x : Int32} {r : Nat → Int32} (h : flU x r) (hx : -1076 ≤ x.toInt) : 10 ^ 20 ≤ flV 1000000000 r 156 := by
  have pE : 0 < flE := fl_pos (B := 1000000000) (by decide) 120
  have p2 := fl_pos (B := 2) (by decide) 1076
  rcases h.2 with ⟨a, m, b, c⟩ | ⟨a, m, b, c⟩
  · rw [c]
    have pm := fl_pos (B := 2) (by decide) m
    have q := Int.mul_le_mul_of_nonneg_left (show 1 ≤ (2 : Int) ^ m by omega) (Int.le_of_lt pE)
    have w := Int.mul_le_mul_of_nonneg_left (show 1 ≤ (2 : Int) ^ 1076 by omega) (show (0 : Int) ≤ 10 ^ 20 by decide)
    rw [Int.mul_one] at q w
    exact Int.le_trans w (Int.le_trans fl_kC q)
  · rw [c]
    have pm := fl_pos (B := 2) (by decide) m
    refine Int.le_ediv_of_mul_le pm ?_
    have w := Int.mul_le_mul_of_nonneg_left (fl_mono (B := 2) (by decide) (show m ≤ 1076 by omega)) (show (0 : Int) ≤ 10 ^ 20 by decide)
    exact Int.le_trans w fl_kC
theorem fl_big {M V : Int} (h : 10 ^ 20 ≤ V) (hM : 1 ≤ M) : 10 ^ 20 ≤ M * V := by
  have p : (0 : Int) ≤ 10 ^ 20 := by decide
  have q := Int.mul_le_mul_of_nonneg_right hM (Int.le_trans p h)
  rw [Int.one_mul] at q
  exact Int.le_trans h q
theorem fl_1V {V : Int} (h : 10 ^ 20 ≤ V) : 1 ≤ V := Int.le_trans (by decide) h
def Q_FR_top (t1_0 : Nat → Int32) (p : Int32) : Prop := (20 ≤ p.toInt ∧ p.toInt ≤ 1389) ∧ (t1_0 p.toNatClampNeg).toInt ≠ 0 ∧ ∀ i : Nat, p.toInt < (i : Int) → i < 1404 → (t1_0 i).toInt = 0
theorem vf_top {t0_0 : Int32} {t0_1 : Int32} {t0_2 : Int32} {t0_3 : Int32} {t0_4 : Int64} {t0_5 : Int32} {t0_6 : Int32} {t0_7 : Int64} {t0_8 : Int32} {t0_9 : Int64} {t0_10 : Int32} {t1_0 : (Nat → Int32)} (hv : flW t1_0) : ∀ (n : Nat) (lx18 : Int32), (-1 ≤ lx18.toInt ∧ lx18.toInt ≤ 1403) → (lx18.toInt + 1 < (n : Int)) → (∃ j : Nat, 20 ≤ j ∧ (j : Int) ≤ lx18.toInt ∧ (t1_0 j).toInt ≠ 0) → (∀ i : Nat, lx18.toInt < (i : Int) → i < 1404 → (t1_0 i).toInt = 0) → (S_FR_top_L4 t0_0 t0_1 t0_2 t0_3 t0_4 t0_5 t0_6 t0_7 t0_8 t0_9 t0_10 t1_0 n lx18) ∧ Q_FR_top t1_0 (F_FR_top_L4 t0_0 t0_1 t0_2 t0_3 t0_4 t0_5 t0_6 t0_7 t0_8 t0_9 t0_10 t1_0 n lx18) := by
  intro n
  induction n with
  | zero => intro lx18 h0 hm ho hu; exact absurd (show False by omega) id
  | succ n ih =>
    intro lx18 h0 hm ho hu
    have e0 : (0 : Int32).toInt = 0 := rfl
    have e1 : (1 : Int32).toInt = 1 := rfl
    have eL0 : (0 : Int64).toInt = 0 := rfl
    have h20 : 20 ≤ lx18.toInt := by obtain ⟨j, a, b, -⟩ := ho; omega
    have e18 := q_clI (i := lx18) rfl (by omega)
    rw [S_FR_top_L4.eq_2, F_FR_top_L4.eq_2]
    refine v_cons (by omega) ?_
    by_cases g1 : (t1_0 lx18.toNatClampNeg : Int32) = (0 : Int32)
    ·
      rw [if_pos g1, if_pos g1]
      obtain ⟨a2, e3⟩ := q_nm (lx18 + (-1) : Int32)
      rw [e3]
      have a2i : a2.toInt = lx18.toInt + (-1) := by rw [← e3]; exact q_addI (x := lx18.toInt) (y := (-1)) rfl (by decide) (by omega) (by omega)
      have z := q_eqI g1; exact ih _ ⟨by omega, by omega⟩ (by omega) (by obtain ⟨j, a, b, c⟩ := ho; exact ⟨j, a, by have : j ≠ lx18.toNatClampNeg := (fun e => c (by rw [e]; exact z)); omega, c⟩) (fun i h1 h2 => by by_cases c : i = lx18.toNatClampNeg; (rw [c]; exact z); exact hu i (by omega) h2)
    ·
      rw [if_neg g1, if_neg g1]
      refine ⟨trivial, ?_⟩
      (have nz := q_neI g1; refine ⟨⟨h20, Int.not_lt.mp (fun h => nz (hv.2 lx18.toNatClampNeg (by omega) (by omega)))⟩, nz, hu⟩)
theorem T_FR_top {t0_0 : Int32} {t0_1 : Int32} {t0_2 : Int32} {t0_3 : Int32} {t0_4 : Int64} {t0_5 : Int32} {t0_6 : Int32} {t0_7 : Int64} {t0_8 : Int32} {t0_9 : Int64} {t0_10 : Int32} {t1_0 : (Nat → Int32)} (hv : flW t1_0)(hn : flNz t1_0) : (S_FR_top t0_0 t0_1 t0_2 t0_3 t0_4 t0_5 t0_6 t0_7 t0_8 t0_9 t0_10 t1_0) ∧ Q_FR_top t1_0 (F_FR_top t0_0 t0_1 t0_2 t0_3 t0_4 t0_5 t0_6 t0_7 t0_8 t0_9 t0_10 t1_0) := by
  have e0 : (0 : Int32).toInt = 0 := rfl
  have e1 : (1 : Int32).toInt = 1 := rfl
  have eL0 : (0 : Int64).toInt = 0 := rfl
  unfold S_FR_top F_FR_top
  exact vf_top hv _ _ ⟨by decide, by decide⟩ (by decide) (by obtain ⟨j, a, b, c⟩ := hn; exact ⟨j, a, (by have e3 : (1403 : Int32).toInt = 1403 := rfl; omega), c⟩) (fun i h1 h2 => by have e3 : (1403 : Int32).toInt = 1403 := rfl; omega)
theorem vf_cmp {N1 : Int32} {N2 : Int32} {t0_0 : (Nat → Int32)} {t1_0 : (Nat → Int32)} (h1 : N1.toInt = 1404) (h2 : N2.toInt = 1404) : ∀ (n : Nat) (lx8 : Int32), (-1 ≤ lx8.toInt ∧ lx8.toInt ≤ 1403) → (lx8.toInt + 1 < (n : Int)) → (S_FR_compare_L4 N1 N2 t0_0 t1_0 n lx8) := by
  intro n
  induction n with
  | zero => intro lx8 h0 hm; exact absurd (show False by omega) id
  | succ n ih =>
    intro lx8 h0 hm
    have e0 : (0 : Int32).toInt = 0 := rfl
    have e1 : (1 : Int32).toInt = 1 := rfl
    have eL0 : (0 : Int64).toInt = 0 := rfl
    rw [S_FR_compare_L4.eq_2]
    by_cases g1 : lx8 < (0 : Int32)
    ·
      rw [if_pos g1]
      have g1i : lx8.toInt < 0 := q_ltI g1
      unfold S_FR_compare_J23
      by_cases g2 : (0 : Int32) ≤ lx8
      ·
        rw [if_pos g2]
        have g2i : 0 ≤ lx8.toInt := q_leI g2
        refine And.intro (by omega) ?_
        refine And.intro (by omega) ?_
        by_cases g3 : (t1_0 lx8.toNatClampNeg : Int32) ≤ (t0_0 lx8.toNatClampNeg : Int32)
        ·
          rw [if_pos g3]
          exact trivial
        ·
          rw [if_neg g3]
          exact trivial
      ·
        rw [if_neg g2]
        have g2i : lx8.toInt < 0 := q_nleI g2
        exact trivial
    ·
      rw [if_neg g1]
      have g1i : 0 ≤ lx8.toInt := q_nltI g1
      refine And.intro (by omega) ?_
      refine And.intro (by omega) ?_
      by_cases g4 : (t0_0 lx8.toNatClampNeg : Int32) = (t1_0 lx8.toNatClampNeg : Int32)
      ·
        rw [if_pos g4]
        obtain ⟨a5, e6⟩ := q_nm (lx8 + (-1) : Int32)
        rw [e6]
        have a5i : a5.toInt = lx8.toInt + (-1) := by rw [← e6]; exact q_addI (x := lx8.toInt) (y := (-1)) rfl (by decide) (by omega) (by omega)
        exact ih _ (by first | with_reducible assumption | omega | decide) (by first | with_reducible assumption | omega | decide)
      ·
        rw [if_neg g4]
        unfold S_FR_compare_J23
        by_cases g7 : (0 : Int32) ≤ lx8
        ·
          rw [if_pos g7]
          have g7i : 0 ≤ lx8.toInt := q_leI g7
          refine And.intro (by omega) ?_
          refine And.intro (by omega) ?_
          by_cases g8 : (t1_0 lx8.toNatClampNeg : Int32) ≤ (t0_0 lx8.toNatClampNeg : Int32)
          ·
            rw [if_pos g8]
            exact trivial
          ·
            rw [if_neg g8]
            exact trivial
        ·
          rw [if_neg g7]
          have g7i : lx8.toInt < 0 := q_nleI g7
          exact trivial
theorem T_FR_compare {N1 : Int32} {N2 : Int32} {t0_0 : (Nat → Int32)} {t1_0 : (Nat → Int32)} (h1 : N1.toInt = 1404) (h2 : N2.toInt = 1404) : (S_FR_compare N1 N2 t0_0 t1_0) := by
  have e0 : (0 : Int32).toInt = 0 := rfl
  have e1 : (1 : Int32).toInt = 1 := rfl
  have eL0 : (0 : Int64).toInt = 0 := rfl
  unfold S_FR_compare
  exact vf_cmp h1 h2 _ _ (by decide) (by decide)
theorem T_FR_readsBack {t0_0 : Int32} {t0_1 : Int32} {t0_2 : Int32} {t0_3 : Int32} {t0_4 : Int64} {t0_5 : Int32} {t0_6 : Int32} {t0_7 : Int64} {t0_8 : Int32} {t0_9 : Int64} {t0_10 : Int32} {t1_0 : (Nat → Int32)} {t2_0 : (Nat → Int32)} {t3_0 : (Nat → Int32)}  : (S_FR_readsBack t0_0 t0_1 t0_2 t0_3 t0_4 t0_5 t0_6 t0_7 t0_8 t0_9 t0_10 t1_0 t2_0 t3_0) := by
  have e0 : (0 : Int32).toInt = 0 := rfl
  have e1 : (1 : Int32).toInt = 1 := rfl
  have eL0 : (0 : Int64).toInt = 0 := rfl
  unfold S_FR_readsBack
  by_cases g1 : (lg_cmp (t0_4 - t0_4 / 2 * 2 : Int64) 0 : Int32) = (0 : Int32)
  ·
    rw [if_pos g1]
    unfold S_FR_readsBack_J18
    have h2 := T_FR_compare (N1 := (1404 : Int32)) (N2 := (1404 : Int32)) (t0_0 := t3_0) (t1_0 := t1_0) (by decide) (by decide)
    with_reducible refine v_oweS h2 ?_
    have h3 := T_FR_compare (N1 := (1404 : Int32)) (N2 := (1404 : Int32)) (t0_0 := t3_0) (t1_0 := t2_0) (by decide) (by decide)
    with_reducible refine v_oweS h3 ?_
    by_cases g4 : (0 : Int32) < ((F_FR_compare (1404 : Int32) (1404 : Int32) t3_0 t1_0) : Int32)
    ·
      rw [if_pos g4]
      generalize F_FR_compare (1404 : Int32) (1404 : Int32) t3_0 t2_0 = a54 at *
      unfold S_FR_readsBack_J55
      by_cases g5 : a54 < (0 : Int32)
      ·
        rw [if_pos g5]
        exact trivial
      ·
        rw [if_neg g5]
        by_cases g6 : a54 = (0 : Int32)
        ·
          rw [if_pos g6]
          have g7 : ¬ ((1 : Int32) = (0 : Int32)) := (by decide)
          rw [if_neg g7]
          exact trivial
        ·
          rw [if_neg g6]
          exact trivial
    ·
      rw [if_neg g4]
      by_cases g8 : ((F_FR_compare (1404 : Int32) (1404 : Int32) t3_0 t1_0) : Int32) = (0 : Int32)
      ·
        rw [if_pos g8]
        have g9 : ¬ ((1 : Int32) = (0 : Int32)) := (by decide)
        rw [if_neg g9]
        generalize F_FR_compare (1404 : Int32) (1404 : Int32) t3_0 t2_0 = a54 at *
        unfold S_FR_readsBack_J55
        by_cases g10 : a54 < (0 : Int32)
        ·
          rw [if_pos g10]
          exact trivial
        ·
          rw [if_neg g10]
          by_cases g11 : a54 = (0 : Int32)
          ·
            rw [if_pos g11]
            have g12 : ¬ ((1 : Int32) = (0 : Int32)) := (by decide)
            rw [if_neg g12]
            exact trivial
          ·
            rw [if_neg g11]
            exact trivial
      ·
        rw [if_neg g8]
        exact trivial
  ·
    rw [if_neg g1]
    unfold S_FR_readsBack_J18
    have h13 := T_FR_compare (N1 := (1404 : Int32)) (N2 := (1404 : Int32)) (t0_0 := t3_0) (t1_0 := t1_0) (by decide) (by decide)
    with_reducible refine v_oweS h13 ?_
    have h14 := T_FR_compare (N1 := (1404 : Int32)) (N2 := (1404 : Int32)) (t0_0 := t3_0) (t1_0 := t2_0) (by decide) (by decide)
    with_reducible refine v_oweS h14 ?_
    by_cases g15 : (0 : Int32) < ((F_FR_compare (1404 : Int32) (1404 : Int32) t3_0 t1_0) : Int32)
    ·
      rw [if_pos g15]
      generalize F_FR_compare (1404 : Int32) (1404 : Int32) t3_0 t2_0 = a54 at *
      unfold S_FR_readsBack_J55
      by_cases g16 : a54 < (0 : Int32)
      ·
        rw [if_pos g16]
        exact trivial
      ·
        rw [if_neg g16]
        by_cases g17 : a54 = (0 : Int32)
        ·
          rw [if_pos g17]
          have g18 : ((0 : Int32) = (0 : Int32)) := (by decide)
          rw [if_pos g18]
          exact trivial
        ·
          rw [if_neg g17]
          exact trivial
    ·
      rw [if_neg g15]
      by_cases g19 : ((F_FR_compare (1404 : Int32) (1404 : Int32) t3_0 t1_0) : Int32) = (0 : Int32)
      ·
        rw [if_pos g19]
        have g20 : ((0 : Int32) = (0 : Int32)) := (by decide)
        rw [if_pos g20]
        exact trivial
      ·
        rw [if_neg g19]
        exact trivial
theorem vf_half {x2 : Int32} {t0_0 : Int32} {t0_1 : Int32} {t0_2 : Int32} {t0_3 : Int32} {t0_4 : Int64} {t0_5 : Int32} {t0_6 : Int32} {t0_7 : Int64} {t0_8 : Int32} {t0_9 : Int64} {t0_10 : Int32} {t1_0 : (Nat → Int32)} (hx : 0 ≤ x2.toInt ∧ x2.toInt ≤ 1403)(h1 : 1 ≤ x2.toInt) : ∀ (n : Nat) (lx49 : Int32), (0 ≤ lx49.toInt ∧ lx49.toInt < x2.toInt) → (x2.toInt - lx49.toInt < (n : Int)) → (S_FR_half_L40 x2 t0_0 t0_1 t0_2 t0_3 t0_4 t0_5 t0_6 t0_7 t0_8 t0_9 t0_10 t1_0 n lx49) := by
  intro n
  induction n with
  | zero => intro lx49 h0 hm; exact absurd (show False by omega) id
  | succ n ih =>
    intro lx49 h0 hm
    have e0 : (0 : Int32).toInt = 0 := rfl
    have e1 : (1 : Int32).toInt = 1 := rfl
    have eL0 : (0 : Int64).toInt = 0 := rfl
    rw [S_FR_half_L40.eq_2]
    obtain ⟨a1, e2⟩ := q_nm (x2 - 1 : Int32)
    rw [e2]
    have a1i : a1.toInt = x2.toInt - 1 := by rw [← e2]; exact q_subI (x := x2.toInt) (y := 1) rfl (by decide) (by omega) (by omega)
    by_cases g3 : a1 ≤ lx49
    ·
      rw [if_pos g3]
      have g3i : a1.toInt ≤ lx49.toInt := q_leI g3
      exact trivial
    ·
      rw [if_neg g3]
      have g3i : lx49.toInt < a1.toInt := q_nleI g3
      refine And.intro (by omega) ?_
      by_cases g4 : (t1_0 lx49.toNatClampNeg : Int32) = (0 : Int32)
      ·
        rw [if_pos g4]
        obtain ⟨a5, e6⟩ := q_nm (lx49 + 1 : Int32)
        rw [e6]
        have a5i : a5.toInt = lx49.toInt + 1 := by rw [← e6]; exact q_addI (x := lx49.toInt) (y := 1) rfl (by decide) (by omega) (by omega)
        exact ih _ (by first | with_reducible assumption | omega | decide) (by first | with_reducible assumption | omega | decide)
      ·
        rw [if_neg g4]
        exact trivial
theorem T_FR_half {x2 : Int32} {t0_0 : Int32} {t0_1 : Int32} {t0_2 : Int32} {t0_3 : Int32} {t0_4 : Int64} {t0_5 : Int32} {t0_6 : Int32} {t0_7 : Int64} {t0_8 : Int32} {t0_9 : Int64} {t0_10 : Int32} {t1_0 : (Nat → Int32)} (hx : 0 ≤ x2.toInt ∧ x2.toInt ≤ 1403) : (S_FR_half x2 t0_0 t0_1 t0_2 t0_3 t0_4 t0_5 t0_6 t0_7 t0_8 t0_9 t0_10 t1_0) := by
  have e0 : (0 : Int32).toInt = 0 := rfl
  have e1 : (1 : Int32).toInt = 1 := rfl
  have eL0 : (0 : Int64).toInt = 0 := rfl
  unfold S_FR_half
  by_cases g1 : x2 = (0 : Int32)
  ·
    rw [if_pos g1]
    have g1i : x2.toInt = 0 := q_eqI g1
    unfold S_FR_half_J16
    by_cases g2 : x2 ≤ (0 : Int32)
    ·
      rw [if_pos g2]
      have g2i : x2.toInt ≤ 0 := q_leI g2
      exact trivial
    ·
      rw [if_neg g2]
      have g2i : 0 < x2.toInt := q_nleI g2
      obtain ⟨a3, e4⟩ := q_nm (x2 - 1 : Int32)
      rw [e4]
      have a3i : a3.toInt = x2.toInt - 1 := by rw [← e4]; exact q_subI (x := x2.toInt) (y := 1) rfl (by decide) (by omega) (by omega)
      refine And.intro (by omega) ?_
      by_cases g5 : (t1_0 a3.toNatClampNeg : Int32) ≤ (5 : Int32)
      ·
        rw [if_pos g5]
        exact trivial
      ·
        rw [if_neg g5]
        exact trivial
  ·
    rw [if_neg g1]
    have g1i : x2.toInt ≠ 0 := q_neI g1
    obtain ⟨a6, e7⟩ := q_nm (x2 - 1 : Int32)
    rw [e7]
    have a6i : a6.toInt = x2.toInt - 1 := by rw [← e7]; exact q_subI (x := x2.toInt) (y := 1) rfl (by decide) (by omega) (by omega)
    refine And.intro (by omega) ?_
    refine And.intro (by omega) ?_
    by_cases g8 : (t1_0 a6.toNatClampNeg : Int32) = (5 : Int32)
    ·
      rw [if_pos g8]
      exact vf_half hx (by omega) _ _ ⟨by decide, by omega⟩ (by omega)
    ·
      rw [if_neg g8]
      unfold S_FR_half_J16
      by_cases g9 : x2 ≤ (0 : Int32)
      ·
        rw [if_pos g9]
        have g9i : x2.toInt ≤ 0 := q_leI g9
        exact trivial
      ·
        rw [if_neg g9]
        have g9i : 0 < x2.toInt := q_nleI g9
        obtain ⟨a10, e11⟩ := q_nm (x2 - 1 : Int32)
        rw [e11]
        have a10i : a10.toInt = x2.toInt - 1 := by rw [← e11]; exact q_subI (x := x2.toInt) (y := 1) rfl (by decide) (by omega) (by omega)
        refine And.intro (by omega) ?_
        by_cases g12 : (t1_0 a10.toNatClampNeg : Int32) ≤ (5 : Int32)
        ·
          rw [if_pos g12]
          exact trivial
        ·
          rw [if_neg g12]
          exact trivial
theorem vf_more {x2 : Int32} {x3 : Int32} {t0_0 : Int32} {t0_1 : Int32} {t0_2 : Int32} {t0_3 : Int32} {t0_4 : Int64} {t0_5 : Int32} {t0_6 : Int32} {t0_7 : Int64} {t0_8 : Int32} {t0_9 : Int64} {t0_10 : Int32} {t1_0 : (Nat → Int32)} (hx : 0 ≤ x2.toInt ∧ x2.toInt ≤ 1403) : ∀ (n : Nat) (lx19 : Int32) (lx20 : Int32), (0 ≤ lx19.toInt ∧ lx19.toInt ≤ x2.toInt) → (x2.toInt - lx19.toInt < (n : Int)) → (S_FR_isMore_L5 x2 x3 t0_0 t0_1 t0_2 t0_3 t0_4 t0_5 t0_6 t0_7 t0_8 t0_9 t0_10 t1_0 n lx19 lx20) := by
  intro n
  induction n with
  | zero => intro lx19 lx20 h0 hm; exact absurd (show False by omega) id
  | succ n ih =>
    intro lx19 lx20 h0 hm
    have e0 : (0 : Int32).toInt = 0 := rfl
    have e1 : (1 : Int32).toInt = 1 := rfl
    have eL0 : (0 : Int64).toInt = 0 := rfl
    rw [S_FR_isMore_L5.eq_2]
    by_cases g1 : x2 ≤ lx19
    ·
      rw [if_pos g1]
      have g1i : x2.toInt ≤ lx19.toInt := q_leI g1
      by_cases g2 : lx20 = (0 : Int32)
      ·
        rw [if_pos g2]
        exact trivial
      ·
        rw [if_neg g2]
        by_cases g3 : x3 = (0 : Int32)
        ·
          rw [if_pos g3]
          exact trivial
        ·
          rw [if_neg g3]
          have h4 := T_FR_half (x2 := x2) (t0_0 := t0_0) (t0_1 := t0_1) (t0_2 := t0_2) (t0_3 := t0_3) (t0_4 := t0_4) (t0_5 := t0_5) (t0_6 := t0_6) (t0_7 := t0_7) (t0_8 := t0_8) (t0_9 := t0_9) (t0_10 := t0_10) (t1_0 := t1_0) ⟨by omega, by omega⟩
          with_reducible refine v_oweS h4 ?_
          by_cases g5 : x3 = (1 : Int32)
          ·
            rw [if_pos g5]
            exact trivial
          ·
            rw [if_neg g5]
            by_cases g6 : (0 : Int32) < ((F_FR_half x2 t0_0 t0_1 t0_2 t0_3 t0_4 t0_5 t0_6 t0_7 t0_8 t0_9 t0_10 t1_0) : Int32)
            ·
              rw [if_pos g6]
              exact trivial
            ·
              rw [if_neg g6]
              by_cases g7 : ((F_FR_half x2 t0_0 t0_1 t0_2 t0_3 t0_4 t0_5 t0_6 t0_7 t0_8 t0_9 t0_10 t1_0) : Int32) = (0 : Int32)
              ·
                rw [if_pos g7]
                by_cases g8 : x3 = (2 : Int32)
                ·
                  rw [if_pos g8]
                  exact trivial
                ·
                  rw [if_neg g8]
                  refine And.intro (by omega) ?_
                  refine And.intro (by omega) ?_
                  by_cases g9 : ((t1_0 x2.toNatClampNeg : Int32) - (t1_0 x2.toNatClampNeg : Int32) / 2 * 2 : Int32) = (1 : Int32)
                  ·
                    rw [if_pos g9]
                    exact trivial
                  ·
                    rw [if_neg g9]
                    exact trivial
              ·
                rw [if_neg g7]
                exact trivial
    ·
      rw [if_neg g1]
      have g1i : lx19.toInt < x2.toInt := q_nleI g1
      by_cases g10 : lx20 = (0 : Int32)
      ·
        rw [if_pos g10]
        refine And.intro (by omega) ?_
        by_cases g11 : (t1_0 lx19.toNatClampNeg : Int32) = (0 : Int32)
        ·
          rw [if_pos g11]
          obtain ⟨a12, e13⟩ := q_nm (lx19 + 1 : Int32)
          rw [e13]
          have a12i : a12.toInt = lx19.toInt + 1 := by rw [← e13]; exact q_addI (x := lx19.toInt) (y := 1) rfl (by decide) (by omega) (by omega)
          exact ih _ _ (by first | with_reducible assumption | omega | decide) (by first | with_reducible assumption | omega | decide)
        ·
          rw [if_neg g11]
          obtain ⟨a14, e15⟩ := q_nm (lx19 + 1 : Int32)
          rw [e15]
          have a14i : a14.toInt = lx19.toInt + 1 := by rw [← e15]; exact q_addI (x := lx19.toInt) (y := 1) rfl (by decide) (by omega) (by omega)
          exact ih _ _ (by first | with_reducible assumption | omega | decide) (by first | with_reducible assumption | omega | decide)
      ·
        rw [if_neg g10]
        obtain ⟨a16, e17⟩ := q_nm (lx19 + 1 : Int32)
        rw [e17]
        have a16i : a16.toInt = lx19.toInt + 1 := by rw [← e17]; exact q_addI (x := lx19.toInt) (y := 1) rfl (by decide) (by omega) (by omega)
        exact ih _ _ (by first | with_reducible assumption | omega | decide) (by first | with_reducible assumption | omega | decide)
theorem T_FR_isMore {x2 : Int32} {x3 : Int32} {t0_0 : Int32} {t0_1 : Int32} {t0_2 : Int32} {t0_3 : Int32} {t0_4 : Int64} {t0_5 : Int32} {t0_6 : Int32} {t0_7 : Int64} {t0_8 : Int32} {t0_9 : Int64} {t0_10 : Int32} {t1_0 : (Nat → Int32)} (hx : 0 ≤ x2.toInt ∧ x2.toInt ≤ 1403) : (S_FR_isMore x2 x3 t0_0 t0_1 t0_2 t0_3 t0_4 t0_5 t0_6 t0_7 t0_8 t0_9 t0_10 t1_0) := by
  have e0 : (0 : Int32).toInt = 0 := rfl
  have e1 : (1 : Int32).toInt = 1 := rfl
  have eL0 : (0 : Int64).toInt = 0 := rfl
  unfold S_FR_isMore
  exact vf_more hx _ _ _ ⟨by decide, by omega⟩ (by omega)
theorem fl_cut {f : Nat → Int32} {j x : Int32} (h0 : 0 ≤ j.toInt) (h1 : j.toInt ≤ 1390) (ho : flO 10 f 1404) (hz : ∀ i : Nat, 1390 ≤ i → i < 1404 → j.toInt ≤ (i : Int) → (f i).toInt = 0) (hx : (f j.toNatClampNeg).toInt = 9 ∧ x.toInt = 0 ∨ (f j.toNatClampNeg).toInt ≠ 9 ∧ x.toInt = (f j.toNatClampNeg).toInt + 1) : flO 10 (upd f j.toNatClampNeg x) 1404 ∧ (∀ i : Nat, 1390 ≤ i → i < 1404 → j.toInt + 1 ≤ (i : Int) → (upd f j.toNatClampNeg x i).toInt = 0) ∧ (upd f j.toNatClampNeg x j.toNatClampNeg = 0 → j.toInt < 1390) := by
  have e := q_clI (i := j) rfl h0
  have d := ho j.toNatClampNeg (by omega)
  refine ⟨flO_upd ho (by omega), fun i a b c => ?_, fun h => ?_⟩
  · rw [v_ne (by omega)]
    exact hz i a b (by omega)
  · rw [v_eq] at h
    have h2 := q_eqI h
    have e0 : (0 : Int32).toInt = 0 := rfl
    by_cases c : j.toInt < 1390
    · exact c
    · have z := hz j.toNatClampNeg (by omega) (by omega) (by omega)
      omega
theorem fl_inc {f : Nat → Int32} {j : Int32} (h0 : 0 ≤ j.toInt) (h1 : j.toInt ≤ 1390) (ho : flO 10 f 1404) : (f j.toNatClampNeg + 1 : Int32).toInt = (f j.toNatClampNeg).toInt + 1 := by
  have e := q_clI (i := j) rfl h0
  have d := ho j.toNatClampNeg (by omega)
  exact q_addI (y := 1) rfl (by decide) (by omega) (by omega)
theorem vf_cut2 {K_F_FR_cut_L2 : Int32 → (Nat → Int32) → (Nat → Int32)} {x2 : Int32} {x3 : Int32} {t0_0 : Int32} {t0_1 : Int32} {t0_2 : Int32} {t0_3 : Int32} {t0_4 : Int64} {t0_5 : Int32} {t0_6 : Int32} {t0_7 : Int64} {t0_8 : Int32} {t0_9 : Int64} {t0_10 : Int32} {t1_0 : (Nat → Int32)} {t2_0 : (Nat → Int32)} {lx21 : Int32} {lx22 : (Nat → Int32)} {K_S_FR_cut_L2 : Int32 → (Nat → Int32) → Prop} (hv : flW t1_0) (hx : 0 ≤ x2.toInt ∧ x2.toInt ≤ 1390) : ∀ (n : Nat) (lx39 : Int32) (lx40 : Int32) (lx41 : (Nat → Int32)), (0 ≤ lx40.toInt ∧ lx40.toInt ≤ 1391) → (lx39 ≠ 0 → lx40.toInt ≤ 1390) → (1391 - lx40.toInt < (n : Int)) → (flO 10 lx41 1404) → (∀ i : Nat, 1390 ≤ i → i < 1404 → lx40.toInt ≤ (i : Int) → (lx41 i).toInt = 0) → (S_FR_cut_L41 K_S_FR_cut_L2 x2 x3 t0_0 t0_1 t0_2 t0_3 t0_4 t0_5 t0_6 t0_7 t0_8 t0_9 t0_10 t1_0 t2_0 lx21 lx22 n lx39 lx40 lx41) ∧ (fun r => flO 10 r 1404) (F_FR_cut_L41 K_F_FR_cut_L2 x2 x3 t0_0 t0_1 t0_2 t0_3 t0_4 t0_5 t0_6 t0_7 t0_8 t0_9 t0_10 t1_0 t2_0 lx21 lx22 n lx39 lx40 lx41) := by
  intro n
  induction n with
  | zero => intro lx39 lx40 lx41 hj hc hm ho hz; exact absurd (show False by omega) id
  | succ n ih =>
    intro lx39 lx40 lx41 hj hc hm ho hz
    have e0 : (0 : Int32).toInt = 0 := rfl
    have e1 : (1 : Int32).toInt = 1 := rfl
    have eL0 : (0 : Int64).toInt = 0 := rfl
    rw [S_FR_cut_L41.eq_2, F_FR_cut_L41.eq_2]
    by_cases g1 : lx39 = (0 : Int32)
    ·
      rw [if_pos g1, if_pos g1]
      refine ⟨trivial, ?_⟩
      exact ho
    ·
      rw [if_neg g1, if_neg g1]
      have hj1 := hc g1
      refine v_cons (by omega) ?_
      refine v_cons (by omega) ?_
      by_cases g2 : (lx41 lx40.toNatClampNeg : Int32) = (9 : Int32)
      ·
        rw [if_pos g2, if_pos g2]
        unfold S_FR_cut_J74 F_FR_cut_J74
        by_cases g3 : ((upd lx41 lx40.toNatClampNeg (0 : Int32) : (Nat → Int32)) lx40.toNatClampNeg : Int32) = (0 : Int32)
        ·
          rw [if_pos g3, if_pos g3]
          obtain ⟨a4, e5⟩ := q_nm (lx40 + 1 : Int32)
          rw [e5]
          have a4i : a4.toInt = lx40.toInt + 1 := by rw [← e5]; exact q_addI (x := lx40.toInt) (y := 1) rfl (by decide) (by omega) (by omega)
          have z := fl_cut (x := 0) hj.1 hj1 ho hz (Or.inl ⟨q_eqI g2, rfl⟩); exact ih _ _ _ ⟨by omega, by omega⟩ (fun _ => by have := z.2.2 g3; omega) (by have := z.2.2 g3; omega) z.1 (fun i a b c => z.2.1 i a b (by omega))
        ·
          rw [if_neg g3, if_neg g3]
          obtain ⟨a6, e7⟩ := q_nm (lx40 + 1 : Int32)
          rw [e7]
          have a6i : a6.toInt = lx40.toInt + 1 := by rw [← e7]; exact q_addI (x := lx40.toInt) (y := 1) rfl (by decide) (by omega) (by omega)
          have z := fl_cut (x := 0) hj.1 hj1 ho hz (Or.inl ⟨q_eqI g2, rfl⟩); exact ih _ _ _ ⟨by omega, by omega⟩ (fun h => absurd rfl h) (by omega) z.1 (fun i a b c => z.2.1 i a b (by omega))
      ·
        rw [if_neg g2, if_neg g2]
        unfold S_FR_cut_J74 F_FR_cut_J74
        by_cases g8 : ((upd lx41 lx40.toNatClampNeg ((lx41 lx40.toNatClampNeg : Int32) + 1 : Int32) : (Nat → Int32)) lx40.toNatClampNeg : Int32) = (0 : Int32)
        ·
          rw [if_pos g8, if_pos g8]
          obtain ⟨a9, e10⟩ := q_nm (lx40 + 1 : Int32)
          rw [e10]
          have a9i : a9.toInt = lx40.toInt + 1 := by rw [← e10]; exact q_addI (x := lx40.toInt) (y := 1) rfl (by decide) (by omega) (by omega)
          have z := fl_cut hj.1 hj1 ho hz (Or.inr ⟨q_neI g2, fl_inc hj.1 hj1 ho⟩); exact ih _ _ _ ⟨by omega, by omega⟩ (fun _ => by have := z.2.2 g8; omega) (by have := z.2.2 g8; omega) z.1 (fun i a b c => z.2.1 i a b (by omega))
        ·
          rw [if_neg g8, if_neg g8]
          obtain ⟨a11, e12⟩ := q_nm (lx40 + 1 : Int32)
          rw [e12]
          have a11i : a11.toInt = lx40.toInt + 1 := by rw [← e12]; exact q_addI (x := lx40.toInt) (y := 1) rfl (by decide) (by omega) (by omega)
          have z := fl_cut hj.1 hj1 ho hz (Or.inr ⟨q_neI g2, fl_inc hj.1 hj1 ho⟩); exact ih _ _ _ ⟨by omega, by omega⟩ (fun h => absurd rfl h) (by omega) z.1 (fun i a b c => z.2.1 i a b (by omega))
theorem vf_cut1 {x2 : Int32} {x3 : Int32} {t0_0 : Int32} {t0_1 : Int32} {t0_2 : Int32} {t0_3 : Int32} {t0_4 : Int64} {t0_5 : Int32} {t0_6 : Int32} {t0_7 : Int64} {t0_8 : Int32} {t0_9 : Int64} {t0_10 : Int32} {t1_0 : (Nat → Int32)} {t2_0 : (Nat → Int32)} (hv : flW t1_0) (hx : 0 ≤ x2.toInt ∧ x2.toInt ≤ 1390) : ∀ (n : Nat) (lx21 : Int32) (lx22 : (Nat → Int32)), (0 ≤ lx21.toInt ∧ lx21.toInt ≤ 1404) → (1404 - lx21.toInt < (n : Int)) → (∀ i : Nat, (i : Int) < lx21.toInt → (0 ≤ (lx22 i).toInt ∧ (lx22 i).toInt < 10) ∧ (1390 ≤ i → (lx22 i).toInt = 0)) → (S_FR_cut_L2 x2 x3 t0_0 t0_1 t0_2 t0_3 t0_4 t0_5 t0_6 t0_7 t0_8 t0_9 t0_10 t1_0 t2_0 n lx21 lx22) ∧ (fun r => flO 10 r 1404) (F_FR_cut_L2 x2 x3 t0_0 t0_1 t0_2 t0_3 t0_4 t0_5 t0_6 t0_7 t0_8 t0_9 t0_10 t1_0 t2_0 n lx21 lx22) := by
  intro n
  induction n with
  | zero => intro lx21 lx22 h0 hm ho; exact absurd (show False by omega) id
  | succ n ih =>
    intro lx21 lx22 h0 hm ho
    have e0 : (0 : Int32).toInt = 0 := rfl
    have e1 : (1 : Int32).toInt = 1 := rfl
    have eL0 : (0 : Int64).toInt = 0 := rfl
    have e21 := q_clI (i := lx21) rfl h0.1
    rw [S_FR_cut_L2.eq_2, F_FR_cut_L2.eq_2]
    by_cases g1 : (1404 : Int32) ≤ lx21
    ·
      rw [if_pos g1, if_pos g1]
      have g1i : 1404 ≤ lx21.toInt := q_leI g1
      exact vf_cut2 hv hx _ _ _ _ ⟨by omega, by omega⟩ (fun _ => hx.2) (by omega) (fun i hi => (ho i (by omega)).1) (fun i a b _ => (ho i (by omega)).2 a)
    ·
      rw [if_neg g1, if_neg g1]
      have g1i : lx21.toInt < 1404 := q_nleI g1
      by_cases g2 : x2 ≤ lx21
      ·
        rw [if_pos g2, if_pos g2]
        have g2i : x2.toInt ≤ lx21.toInt := q_leI g2
        obtain ⟨a3, e4⟩ := q_nm (lx21 + 1 : Int32)
        rw [e4]
        have a3i : a3.toInt = lx21.toInt + 1 := by rw [← e4]; exact q_addI (x := lx21.toInt) (y := 1) rfl (by decide) (by omega) (by omega)
        exact ih _ _ ⟨by omega, by omega⟩ (by omega) (fun i hi => by by_cases c : i = lx21.toNatClampNeg; (rw [c, v_eq]; exact ⟨hv.1 _ (by omega), fun h => hv.2 _ h (by omega)⟩); rw [v_ne c]; exact ho i (by omega))
      ·
        rw [if_neg g2, if_neg g2]
        have g2i : lx21.toInt < x2.toInt := q_nleI g2
        obtain ⟨a5, e6⟩ := q_nm (lx21 + 1 : Int32)
        rw [e6]
        have a5i : a5.toInt = lx21.toInt + 1 := by rw [← e6]; exact q_addI (x := lx21.toInt) (y := 1) rfl (by decide) (by omega) (by omega)
        exact ih _ _ ⟨by omega, by omega⟩ (by omega) (fun i hi => by by_cases c : i = lx21.toNatClampNeg; (rw [c, v_eq]; exact ⟨by decide, fun _ => rfl⟩); rw [v_ne c]; exact ho i (by omega))
theorem T_FR_cut {x2 : Int32} {x3 : Int32} {t0_0 : Int32} {t0_1 : Int32} {t0_2 : Int32} {t0_3 : Int32} {t0_4 : Int64} {t0_5 : Int32} {t0_6 : Int32} {t0_7 : Int64} {t0_8 : Int32} {t0_9 : Int64} {t0_10 : Int32} {t1_0 : (Nat → Int32)} {t2_0 : (Nat → Int32)} (hv : flW t1_0) (hx : 0 ≤ x2.toInt ∧ x2.toInt ≤ 1390) : (S_FR_cut x2 x3 t0_0 t0_1 t0_2 t0_3 t0_4 t0_5 t0_6 t0_7 t0_8 t0_9 t0_10 t1_0 t2_0) ∧ (fun r => flO 10 r 1404) (F_FR_cut x2 x3 t0_0 t0_1 t0_2 t0_3 t0_4 t0_5 t0_6 t0_7 t0_8 t0_9 t0_10 t1_0 t2_0) := by
  have e0 : (0 : Int32).toInt = 0 := rfl
  have e1 : (1 : Int32).toInt = 1 := rfl
  have eL0 : (0 : Int64).toInt = 0 := rfl
  unfold S_FR_cut F_FR_cut
  exact vf_cut1 hv hx _ _ _ ⟨by decide, by decide⟩ (by decide) (fun i hi => by omega)

/-! FloatRows: setAll, setValue, leastLength, findShortest -/
theorem flU.b {x : Int32} {r : Nat → Int32} (h : flU x r) {M : Int} (h0 : 0 ≤ M) (hM : M ≤ 2 ^ 56) (hx : x.toInt ≤ 969) : M * flV 1000000000 r 156 < 1000000000 ^ 156 := Int.lt_of_lt_of_le (h.up h0 hM (N := 969) hx fl_kA) fl_k156
theorem flU.c {x : Int32} {r : Nat → Int32} (h : flU x r) {M : Int} (h0 : 0 ≤ M) (hM : M ≤ 2 ^ 54) (hx : x.toInt ≤ 971) : M * flV 1000000000 r 156 < 1000000000 ^ 156 := Int.lt_of_lt_of_le (h.up h0 hM (N := 971) hx fl_kB) fl_k156
theorem fl_m0 {s : Int64} (h : 1 ≤ s.toInt ∧ s.toInt < 9007199254740992) : 1 ≤ (4 * s : Int64).toInt ∧ (4 * s : Int64).toInt ≤ 2 ^ 56 := by
  have e : (4 * s : Int64).toInt = 4 * s.toInt := q_mulL (x := 4) (by decide) rfl (by omega) (by omega)
  omega
theorem fl_m1 {s : Int64} (h : 1 ≤ s.toInt ∧ s.toInt < 9007199254740992) : 1 ≤ (4 * s - 1 : Int64).toInt ∧ (4 * s - 1 : Int64).toInt ≤ 2 ^ 56 := by
  have e : (4 * s : Int64).toInt = 4 * s.toInt := q_mulL (x := 4) (by decide) rfl (by omega) (by omega)
  have e2 : (4 * s - 1 : Int64).toInt = 4 * s.toInt - 1 := q_subL e (by decide) (by omega) (by omega)
  omega
theorem fl_m2 {s : Int64} (h : 1 ≤ s.toInt ∧ s.toInt < 9007199254740992) : 1 ≤ (4 * s - 2 : Int64).toInt ∧ (4 * s - 2 : Int64).toInt ≤ 2 ^ 56 := by
  have e : (4 * s : Int64).toInt = 4 * s.toInt := q_mulL (x := 4) (by decide) rfl (by omega) (by omega)
  have e2 : (4 * s - 2 : Int64).toInt = 4 * s.toInt - 2 := q_subL e (by decide) (by omega) (by omega)
  omega
theorem fl_m3 {s : Int64} (h : 1 ≤ s.toInt ∧ s.toInt < 9007199254740992) : 1 ≤ (4 * s + 2 : Int64).toInt ∧ (4 * s + 2 : Int64).toInt ≤ 2 ^ 56 := by
  have e : (4 * s : Int64).toInt = 4 * s.toInt := q_mulL (x := 4) (by decide) rfl (by omega) (by omega)
  have e2 : (4 * s + 2 : Int64).toInt = 4 * s.toInt + 2 := q_addL e (by decide) (by omega) (by omega)
  omega
theorem fl_topU {f : Nat → Int32} {a b : Int32} (ha : Q_FR_top f a) (hb : Q_FR_top f b) : a.toInt = b.toInt := by
  obtain ⟨a1, a2, a3⟩ := ha
  obtain ⟨b1, b2, b3⟩ := hb
  have ea := q_clI (i := a) rfl (by omega)
  have eb := q_clI (i := b) rfl (by omega)
  by_cases c : a.toInt < b.toInt
  · exact absurd (a3 b.toNatClampNeg (by omega) (by omega)) b2
  · by_cases d : b.toInt < a.toInt
    · exact absurd (b3 a.toNatClampNeg (by omega) (by omega)) a2
    · omega
theorem fl_tl {f : Nat → Int32} {a b j : Int32} (ha : Q_FR_top f a) (hb : Q_FR_top f b) (g : a < j) : b.toInt < j.toInt := by
  have := fl_topU ha hb; have := q_ltI g; omega
theorem fl_tg {f : Nat → Int32} {a b j : Int32} (ha : Q_FR_top f a) (hb : Q_FR_top f b) (g : ¬ a < j) : j.toInt ≤ b.toInt := by
  have := fl_topU ha hb; have := q_nltI g; omega
theorem fl_shW {w : Int64} {d : Nat} (hd : d ≤ 16) (h : w.toInt = 10 ^ d) : 1 ≤ w.toInt ∧ w.toInt ≤ 10000000000000000 := by
  have a := fl_mono (B := 10) (by decide) hd
  have b := fl_pos (B := 10) (by decide) d
  rw [h]
  refine ⟨by omega, a⟩
theorem fl_sh {w s : Int64} {x : Int32} {d : Nat} (hd : d ≤ 16) (h : w.toInt = 10 ^ d) (hs : 0 ≤ s.toInt ∧ s.toInt ≤ w.toInt) (hx : 0 ≤ x.toInt ∧ x.toInt < 10) : (w * 10).toInt = w.toInt * 10 ∧ (0 ≤ (s + w * x.toInt64).toInt ∧ (s + w * x.toInt64).toInt ≤ (w * 10).toInt) ∧ (1 ≤ s.toInt → 1 ≤ (s + w * x.toInt64).toInt) ∧ (x.toInt ≠ 0 → 1 ≤ (s + w * x.toInt64).toInt) := by
  have hw := fl_shW hd h
  clear h
  have h1 : 0 ≤ w.toInt * x.toInt := Int.mul_nonneg (by omega) hx.1
  have h2 : w.toInt * x.toInt ≤ w.toInt * 9 := Int.mul_le_mul_of_nonneg_left (by omega) (by omega)
  have h3 : x.toInt ≠ 0 → w.toInt * 1 ≤ w.toInt * x.toInt := fun z => Int.mul_le_mul_of_nonneg_left (by omega) (by omega)
  have e1 : (w * x.toInt64 : Int64).toInt = w.toInt * x.toInt := q_mulL rfl (q_i2l rfl) (by omega) (by omega)
  have e2 : (s + w * x.toInt64 : Int64).toInt = s.toInt + w.toInt * x.toInt := q_addL rfl e1 (by omega) (by omega)
  have e3 : (w * 10 : Int64).toInt = w.toInt * 10 := q_mulL rfl (by decide) (by omega) (by omega)
  rw [e2, e3]
  clear e1 e2 e3
  generalize w.toInt * x.toInt = W at *
  exact ⟨rfl, ⟨by omega, by omega⟩, fun a => by omega, fun a => by have := h3 a; omega⟩
theorem fl_z10 {v : Int64} (h : 1 ≤ v.toInt) (g : lg_cmp (v - v / 10 * 10) 0 = 0) : (v / 10).toInt * 10 = v.toInt := by
  have hi : v.toInt < 9223372036854775808 := Int64.toInt_lt v
  obtain ⟨q, eq⟩ := q_nm (v / 10 : Int64)
  rw [eq] at g ⊢
  have e4 : q.toInt = v.toInt / 10 := by rw [← eq]; exact v_divL (y := 10) (by omega) (by decide)
  clear eq
  obtain ⟨t, et⟩ := q_nm (q * 10 : Int64)
  rw [et] at g
  have e5 : t.toInt = q.toInt * 10 := by rw [← et]; exact q_mulL rfl (by decide) (by omega) (by omega)
  clear et
  obtain ⟨w, ew⟩ := q_nm (v - t : Int64)
  rw [ew] at g
  have e6 : w.toInt = v.toInt - t.toInt := by rw [← ew]; exact q_subL rfl rfl (by omega) (by omega)
  clear ew
  have c := s_lcmp (a := w) (b := 0)
  rw [g] at c
  have e0 : (0 : Int32).toInt = 0 := rfl
  have e1 : (0 : Int64).toInt = 0 := rfl
  omega
theorem fl_p10 {q v : Int} {m : Nat} (e : q * 10 = v) (b : v < 10 ^ m) (h : 1 ≤ v) : 1 ≤ m ∧ q < 10 ^ (m - 1) := by
  have m1 : 1 ≤ m := by
    by_cases c : m = 0
    · rw [c, Int.pow_zero] at b; omega
    · omega
  refine ⟨m1, ?_⟩
  have p : (10 : Int) ^ m = 10 ^ (m - 1) * 10 := by rw [← fl_pw, show m - 1 + 1 = m by omega]
  rw [p, ← e] at b
  exact Int.lt_of_mul_lt_mul_right b (by decide)
def Q_FR_setAll (p : (Nat → Int32) × (Nat → Int32) × (Nat → Int32) × (Nat → Int32) × (Nat → Int32)) : Prop := flW p.2.2.1 ∧ flNz p.2.2.1
theorem T_FR_setAll {t0_0 : Int32} {t0_1 : Int32} {t0_2 : Int32} {t0_3 : Int32} {t0_4 : Int64} {t0_5 : Int32} {t0_6 : Int32} {t0_7 : Int64} {t0_8 : Int32} {t0_9 : Int64} {t0_10 : Int32} {t1_0 : (Nat → Int32)} {t2_0 : (Nat → Int32)} {t3_0 : (Nat → Int32)} {t4_0 : (Nat → Int32)} {t5_0 : (Nat → Int32)} (hS7 : 1 ≤ t0_7.toInt ∧ t0_7.toInt < 9007199254740992) (hS8 : -1074 ≤ t0_8.toInt ∧ t0_8.toInt ≤ 971) : (S_FR_setAll t0_0 t0_1 t0_2 t0_3 t0_4 t0_5 t0_6 t0_7 t0_8 t0_9 t0_10 t1_0 t2_0 t3_0 t4_0 t5_0) ∧ Q_FR_setAll (F_FR_setAll t0_0 t0_1 t0_2 t0_3 t0_4 t0_5 t0_6 t0_7 t0_8 t0_9 t0_10 t1_0 t2_0 t3_0 t4_0 t5_0) := by
  have e0 : (0 : Int32).toInt = 0 := rfl
  have e1 : (1 : Int32).toInt = 1 := rfl
  have eL0 : (0 : Int64).toInt = 0 := rfl
  have e8 : (t0_8 - 2 : Int32).toInt = t0_8.toInt - 2 := q_subI (y := 2) rfl (by decide) (by omega) (by omega)
  have hU := T_FR_setUnit (x2 := t0_8 - 2) (t0_0 := t0_0) (t0_1 := t0_1) (t0_2 := t0_2) (t0_3 := t0_3) (t0_4 := t0_4) (t0_5 := t0_5) (t0_6 := t0_6) (t0_7 := t0_7) (t0_8 := t0_8) (t0_9 := t0_9) (t0_10 := t0_10) (t1_0 := t1_0) ⟨by omega, by omega⟩
  have hx : (t0_8 - 2 : Int32).toInt ≤ 969 := by omega
  have hU2 := hU.lo (by omega)
  have hU1 := fl_1V hU2
  unfold S_FR_setAll F_FR_setAll
  have h1 := T_FR_set (N2 := (1404 : Int32)) (x3 := (4 * t0_7 : Int64)) (t0_0 := t0_0) (t0_1 := t0_1) (t0_2 := t0_2) (t0_3 := t0_3) (t0_4 := t0_4) (t0_5 := t0_5) (t0_6 := t0_6) (t0_7 := t0_7) (t0_8 := t0_8) (t0_9 := t0_9) (t0_10 := t0_10) (t1_0 := ((F_FR_setUnit (t0_8 - 2 : Int32) t0_0 t0_1 t0_2 t0_3 t0_4 t0_5 t0_6 t0_7 t0_8 t0_9 t0_10 t1_0) : (Nat → Int32))) (t2_0 := t2_0) (t3_0 := t3_0) (by decide) hU.1 hU1 (Int.le_trans (by decide) (fl_m0 hS7).1) (hU.b (Int.le_trans (by decide) (fl_m0 hS7).1) (fl_m0 hS7).2 hx)
  with_reducible refine v_owe h1.1 ?_
  replace h1 := h1.2
  generalize F_FR_set (1404 : Int32) (4 * t0_7 : Int64) t0_0 t0_1 t0_2 t0_3 t0_4 t0_5 t0_6 t0_7 t0_8 t0_9 t0_10 ((F_FR_setUnit (t0_8 - 2 : Int32) t0_0 t0_1 t0_2 t0_3 t0_4 t0_5 t0_6 t0_7 t0_8 t0_9 t0_10 t1_0) : (Nat → Int32)) t2_0 t3_0 = p49 at *
  have fsp49 := h1
  generalize F_FR_setUnit (t0_8 - 2 : Int32) t0_0 t0_1 t0_2 t0_3 t0_4 t0_5 t0_6 t0_7 t0_8 t0_9 t0_10 t1_0 = f33 at *
  unfold S_FR_setAll_c23 F_FR_setAll_c23
  by_cases g2 : (lg_cmp t0_4 0 : Int32) = (0 : Int32)
  ·
    rw [if_pos g2, if_pos g2]
    by_cases g3 : t0_3 ≤ (1 : Int32)
    ·
      rw [if_pos g3, if_pos g3]
      unfold S_FR_setAll_J60 F_FR_setAll_J60
      have h4 := T_FR_set (N2 := (1404 : Int32)) (x3 := ((4 * t0_7 : Int64) - 2 : Int64)) (t0_0 := t0_0) (t0_1 := t0_1) (t0_2 := t0_2) (t0_3 := t0_3) (t0_4 := t0_4) (t0_5 := t0_5) (t0_6 := t0_6) (t0_7 := t0_7) (t0_8 := t0_8) (t0_9 := t0_9) (t0_10 := t0_10) (t1_0 := f33) (t2_0 := (p49.1 : (Nat → Int32))) (t3_0 := t4_0) (by decide) hU.1 hU1 (Int.le_trans (by decide) (fl_m2 hS7).1) (hU.b (Int.le_trans (by decide) (fl_m2 hS7).1) (fl_m2 hS7).2 hx)
      with_reducible refine v_owe h4.1 ?_
      replace h4 := h4.2
      generalize F_FR_set (1404 : Int32) ((4 * t0_7 : Int64) - 2 : Int64) t0_0 t0_1 t0_2 t0_3 t0_4 t0_5 t0_6 t0_7 t0_8 t0_9 t0_10 f33 (p49.1 : (Nat → Int32)) t4_0 = p86 at *
      have fsp86 := h4
      unfold S_FR_setAll_c64 F_FR_setAll_c64
      have h5 := T_FR_set (N2 := (1404 : Int32)) (x3 := ((4 * t0_7 : Int64) + 2 : Int64)) (t0_0 := t0_0) (t0_1 := t0_1) (t0_2 := t0_2) (t0_3 := t0_3) (t0_4 := t0_4) (t0_5 := t0_5) (t0_6 := t0_6) (t0_7 := t0_7) (t0_8 := t0_8) (t0_9 := t0_9) (t0_10 := t0_10) (t1_0 := f33) (t2_0 := (p86.1 : (Nat → Int32))) (t3_0 := t5_0) (by decide) hU.1 hU1 (Int.le_trans (by decide) (fl_m3 hS7).1) (hU.b (Int.le_trans (by decide) (fl_m3 hS7).1) (fl_m3 hS7).2 hx)
      with_reducible refine v_owe h5.1 ?_
      replace h5 := h5.2
      generalize F_FR_set (1404 : Int32) ((4 * t0_7 : Int64) + 2 : Int64) t0_0 t0_1 t0_2 t0_3 t0_4 t0_5 t0_6 t0_7 t0_8 t0_9 t0_10 f33 (p86.1 : (Nat → Int32)) t5_0 = p108 at *
      have fsp108 := h5
      unfold S_FR_setAll_c84 F_FR_setAll_c84
      refine ⟨trivial, ?_⟩
      (unfold Q_FR_setAll; dsimp only; exact ⟨fsp49.w (hU.up (Int.le_trans (by decide) (fl_m0 hS7).1) (fl_m0 hS7).2 (N := 969) hx fl_kA), fsp49.nz (fl_big hU2 (fl_m0 hS7).1)⟩)
    ·
      rw [if_neg g3, if_neg g3]
      have h6 := T_FR_set (N2 := (1404 : Int32)) (x3 := ((4 * t0_7 : Int64) - 1 : Int64)) (t0_0 := t0_0) (t0_1 := t0_1) (t0_2 := t0_2) (t0_3 := t0_3) (t0_4 := t0_4) (t0_5 := t0_5) (t0_6 := t0_6) (t0_7 := t0_7) (t0_8 := t0_8) (t0_9 := t0_9) (t0_10 := t0_10) (t1_0 := f33) (t2_0 := (p49.1 : (Nat → Int32))) (t3_0 := t4_0) (by decide) hU.1 hU1 (Int.le_trans (by decide) (fl_m1 hS7).1) (hU.b (Int.le_trans (by decide) (fl_m1 hS7).1) (fl_m1 hS7).2 hx)
      with_reducible refine v_owe h6.1 ?_
      replace h6 := h6.2
      generalize F_FR_set (1404 : Int32) ((4 * t0_7 : Int64) - 1 : Int64) t0_0 t0_1 t0_2 t0_3 t0_4 t0_5 t0_6 t0_7 t0_8 t0_9 t0_10 f33 (p49.1 : (Nat → Int32)) t4_0 = p134 at *
      have fsp134 := h6
      unfold S_FR_setAll_c64_5 F_FR_setAll_c64_5
      have h7 := T_FR_set (N2 := (1404 : Int32)) (x3 := ((4 * t0_7 : Int64) + 2 : Int64)) (t0_0 := t0_0) (t0_1 := t0_1) (t0_2 := t0_2) (t0_3 := t0_3) (t0_4 := t0_4) (t0_5 := t0_5) (t0_6 := t0_6) (t0_7 := t0_7) (t0_8 := t0_8) (t0_9 := t0_9) (t0_10 := t0_10) (t1_0 := f33) (t2_0 := (p134.1 : (Nat → Int32))) (t3_0 := t5_0) (by decide) hU.1 hU1 (Int.le_trans (by decide) (fl_m3 hS7).1) (hU.b (Int.le_trans (by decide) (fl_m3 hS7).1) (fl_m3 hS7).2 hx)
      with_reducible refine v_owe h7.1 ?_
      replace h7 := h7.2
      generalize F_FR_set (1404 : Int32) ((4 * t0_7 : Int64) + 2 : Int64) t0_0 t0_1 t0_2 t0_3 t0_4 t0_5 t0_6 t0_7 t0_8 t0_9 t0_10 f33 (p134.1 : (Nat → Int32)) t5_0 = p156 at *
      have fsp156 := h7
      unfold S_FR_setAll_c84_6 F_FR_setAll_c84_6
      refine ⟨trivial, ?_⟩
      (unfold Q_FR_setAll; dsimp only; exact ⟨fsp49.w (hU.up (Int.le_trans (by decide) (fl_m0 hS7).1) (fl_m0 hS7).2 (N := 969) hx fl_kA), fsp49.nz (fl_big hU2 (fl_m0 hS7).1)⟩)
  ·
    rw [if_neg g2, if_neg g2]
    unfold S_FR_setAll_J60 F_FR_setAll_J60
    have h8 := T_FR_set (N2 := (1404 : Int32)) (x3 := ((4 * t0_7 : Int64) - 2 : Int64)) (t0_0 := t0_0) (t0_1 := t0_1) (t0_2 := t0_2) (t0_3 := t0_3) (t0_4 := t0_4) (t0_5 := t0_5) (t0_6 := t0_6) (t0_7 := t0_7) (t0_8 := t0_8) (t0_9 := t0_9) (t0_10 := t0_10) (t1_0 := f33) (t2_0 := (p49.1 : (Nat → Int32))) (t3_0 := t4_0) (by decide) hU.1 hU1 (Int.le_trans (by decide) (fl_m2 hS7).1) (hU.b (Int.le_trans (by decide) (fl_m2 hS7).1) (fl_m2 hS7).2 hx)
    with_reducible refine v_owe h8.1 ?_
    replace h8 := h8.2
    generalize F_FR_set (1404 : Int32) ((4 * t0_7 : Int64) - 2 : Int64) t0_0 t0_1 t0_2 t0_3 t0_4 t0_5 t0_6 t0_7 t0_8 t0_9 t0_10 f33 (p49.1 : (Nat → Int32)) t4_0 = p86 at *
    have fsp86 := h8
    unfold S_FR_setAll_c64 F_FR_setAll_c64
    have h9 := T_FR_set (N2 := (1404 : Int32)) (x3 := ((4 * t0_7 : Int64) + 2 : Int64)) (t0_0 := t0_0) (t0_1 := t0_1) (t0_2 := t0_2) (t0_3 := t0_3) (t0_4 := t0_4) (t0_5 := t0_5) (t0_6 := t0_6) (t0_7 := t0_7) (t0_8 := t0_8) (t0_9 := t0_9) (t0_10 := t0_10) (t1_0 := f33) (t2_0 := (p86.1 : (Nat → Int32))) (t3_0 := t5_0) (by decide) hU.1 hU1 (Int.le_trans (by decide) (fl_m3 hS7).1) (hU.b (Int.le_trans (by decide) (fl_m3 hS7).1) (fl_m3 hS7).2 hx)
    with_reducible refine v_owe h9.1 ?_
    replace h9 := h9.2
    generalize F_FR_set (1404 : Int32) ((4 * t0_7 : Int64) + 2 : Int64) t0_0 t0_1 t0_2 t0_3 t0_4 t0_5 t0_6 t0_7 t0_8 t0_9 t0_10 f33 (p86.1 : (Nat → Int32)) t5_0 = p108 at *
    have fsp108 := h9
    unfold S_FR_setAll_c84 F_FR_setAll_c84
    refine ⟨trivial, ?_⟩
    (unfold Q_FR_setAll; dsimp only; exact ⟨fsp49.w (hU.up (Int.le_trans (by decide) (fl_m0 hS7).1) (fl_m0 hS7).2 (N := 969) hx fl_kA), fsp49.nz (fl_big hU2 (fl_m0 hS7).1)⟩)
def Q_FR_setValue (t0_7 : Int64) (p : (Nat → Int32) × (Nat → Int32) × (Nat → Int32)) : Prop := flW p.2.2 ∧ (1 ≤ t0_7.toInt → flNz p.2.2)
theorem T_FR_setValue {t0_0 : Int32} {t0_1 : Int32} {t0_2 : Int32} {t0_3 : Int32} {t0_4 : Int64} {t0_5 : Int32} {t0_6 : Int32} {t0_7 : Int64} {t0_8 : Int32} {t0_9 : Int64} {t0_10 : Int32} {t1_0 : (Nat → Int32)} {t2_0 : (Nat → Int32)} {t3_0 : (Nat → Int32)} (hS7 : 0 ≤ t0_7.toInt ∧ t0_7.toInt < 9007199254740992) (hS8 : -1074 ≤ t0_8.toInt ∧ t0_8.toInt ≤ 971) : (S_FR_setValue t0_0 t0_1 t0_2 t0_3 t0_4 t0_5 t0_6 t0_7 t0_8 t0_9 t0_10 t1_0 t2_0 t3_0) ∧ Q_FR_setValue t0_7 (F_FR_setValue t0_0 t0_1 t0_2 t0_3 t0_4 t0_5 t0_6 t0_7 t0_8 t0_9 t0_10 t1_0 t2_0 t3_0) := by
  have e0 : (0 : Int32).toInt = 0 := rfl
  have e1 : (1 : Int32).toInt = 1 := rfl
  have eL0 : (0 : Int64).toInt = 0 := rfl
  have hU := T_FR_setUnit (x2 := t0_8) (t0_0 := t0_0) (t0_1 := t0_1) (t0_2 := t0_2) (t0_3 := t0_3) (t0_4 := t0_4) (t0_5 := t0_5) (t0_6 := t0_6) (t0_7 := t0_7) (t0_8 := t0_8) (t0_9 := t0_9) (t0_10 := t0_10) (t1_0 := t1_0) ⟨by omega, by omega⟩
  have hx := hS8.2
  have hU2 := hU.lo (by omega)
  have hU1 := fl_1V hU2
  unfold S_FR_setValue F_FR_setValue
  have h1 := T_FR_set (N2 := (1404 : Int32)) (x3 := t0_7) (t0_0 := t0_0) (t0_1 := t0_1) (t0_2 := t0_2) (t0_3 := t0_3) (t0_4 := t0_4) (t0_5 := t0_5) (t0_6 := t0_6) (t0_7 := t0_7) (t0_8 := t0_8) (t0_9 := t0_9) (t0_10 := t0_10) (t1_0 := ((F_FR_setUnit t0_8 t0_0 t0_1 t0_2 t0_3 t0_4 t0_5 t0_6 t0_7 t0_8 t0_9 t0_10 t1_0) : (Nat → Int32))) (t2_0 := t2_0) (t3_0 := t3_0) (by decide) hU.1 hU1 hS7.1 (hU.c hS7.1 (Int.le_trans (Int.le_of_lt hS7.2) (by decide)) hx)
  with_reducible refine v_owe h1.1 ?_
  replace h1 := h1.2
  generalize F_FR_set (1404 : Int32) t0_7 t0_0 t0_1 t0_2 t0_3 t0_4 t0_5 t0_6 t0_7 t0_8 t0_9 t0_10 ((F_FR_setUnit t0_8 t0_0 t0_1 t0_2 t0_3 t0_4 t0_5 t0_6 t0_7 t0_8 t0_9 t0_10 t1_0) : (Nat → Int32)) t2_0 t3_0 = p39 at *
  have fsp39 := h1
  generalize F_FR_setUnit t0_8 t0_0 t0_1 t0_2 t0_3 t0_4 t0_5 t0_6 t0_7 t0_8 t0_9 t0_10 t1_0 = f25 at *
  unfold S_FR_setValue_c17 F_FR_setValue_c17
  refine ⟨trivial, ?_⟩
  (unfold Q_FR_setValue; dsimp only; exact ⟨fsp39.w (hU.up hS7.1 (Int.le_trans (Int.le_of_lt hS7.2) (by decide)) (N := 971) hx fl_kB), fun h => fsp39.nz (fl_big hU2 h)⟩)
def Q_FR_leastLength (p : Int32 × (Nat → Int32)) : Prop := 1 ≤ p.1.toInt ∧ p.1.toInt ≤ 17
theorem vf_ll {t0_0 : Int32} {t0_1 : Int32} {t0_2 : Int32} {t0_3 : Int32} {t0_4 : Int64} {t0_5 : Int32} {t0_6 : Int32} {t0_7 : Int64} {t0_8 : Int32} {t0_9 : Int64} {t0_10 : Int32} {t1_0 : (Nat → Int32)} {t2_0 : (Nat → Int32)} {t3_0 : (Nat → Int32)} {t4_0 : (Nat → Int32)} {a29 : Int32} (hw : flW t1_0) (hn : flNz t1_0)(ha : 20 ≤ a29.toInt ∧ a29.toInt ≤ 1389) : ∀ (n : Nat) (lx35 : Int32) (lx36 : (Nat → Int32)), (1 ≤ lx35.toInt ∧ lx35.toInt ≤ 17) → (17 - lx35.toInt < (n : Int)) → (S_FR_leastLength_L7 t0_0 t0_1 t0_2 t0_3 t0_4 t0_5 t0_6 t0_7 t0_8 t0_9 t0_10 t1_0 t2_0 t3_0 t4_0 a29 n lx35 lx36) ∧ Q_FR_leastLength (F_FR_leastLength_L7 t0_0 t0_1 t0_2 t0_3 t0_4 t0_5 t0_6 t0_7 t0_8 t0_9 t0_10 t1_0 t2_0 t3_0 t4_0 a29 n lx35 lx36) := by
  intro n
  induction n with
  | zero => intro lx35 lx36 h0 hm; exact absurd (show False by omega) id
  | succ n ih =>
    intro lx35 lx36 h0 hm
    have e0 : (0 : Int32).toInt = 0 := rfl
    have e1 : (1 : Int32).toInt = 1 := rfl
    have eL0 : (0 : Int64).toInt = 0 := rfl
    rw [S_FR_leastLength_L7.eq_2, F_FR_leastLength_L7.eq_2]
    obtain ⟨pl, epl⟩ := q_nm ((a29 - lx35 : Int32) + 1 : Int32)
    rw [epl]
    have pli : pl.toInt = (a29.toInt - lx35.toInt) + 1 := by rw [← epl]; exact q_addI (y := 1) (q_subI rfl rfl (by omega) (by omega)) (by decide) (by omega) (by omega)
    by_cases g1 : (17 : Int32) ≤ lx35
    ·
      rw [if_pos g1, if_pos g1]
      have g1i : 17 ≤ lx35.toInt := q_leI g1
      refine ⟨trivial, ?_⟩
      (unfold Q_FR_leastLength; dsimp only; first | exact ⟨by omega, by omega⟩ | exact ⟨by decide, by decide⟩)
    ·
      rw [if_neg g1, if_neg g1]
      have g1i : lx35.toInt < 17 := q_nleI g1
      have h2 := T_FR_cut (x2 := pl) (x3 := (0 : Int32)) (t0_0 := t0_0) (t0_1 := t0_1) (t0_2 := t0_2) (t0_3 := t0_3) (t0_4 := t0_4) (t0_5 := t0_5) (t0_6 := t0_6) (t0_7 := t0_7) (t0_8 := t0_8) (t0_9 := t0_9) (t0_10 := t0_10) (t1_0 := t1_0) (t2_0 := lx36) (by with_reducible assumption) ⟨by omega, by omega⟩
      with_reducible refine v_owe h2.1 ?_
      have h3 := T_FR_readsBack (t0_0 := t0_0) (t0_1 := t0_1) (t0_2 := t0_2) (t0_3 := t0_3) (t0_4 := t0_4) (t0_5 := t0_5) (t0_6 := t0_6) (t0_7 := t0_7) (t0_8 := t0_8) (t0_9 := t0_9) (t0_10 := t0_10) (t1_0 := t2_0) (t2_0 := t3_0) (t3_0 := ((F_FR_cut pl (0 : Int32) t0_0 t0_1 t0_2 t0_3 t0_4 t0_5 t0_6 t0_7 t0_8 t0_9 t0_10 t1_0 lx36) : (Nat → Int32))) 
      with_reducible refine v_owe h3 ?_
      have h4 := T_FR_cut (x2 := pl) (x3 := (1 : Int32)) (t0_0 := t0_0) (t0_1 := t0_1) (t0_2 := t0_2) (t0_3 := t0_3) (t0_4 := t0_4) (t0_5 := t0_5) (t0_6 := t0_6) (t0_7 := t0_7) (t0_8 := t0_8) (t0_9 := t0_9) (t0_10 := t0_10) (t1_0 := t1_0) (t2_0 := ((F_FR_cut pl (0 : Int32) t0_0 t0_1 t0_2 t0_3 t0_4 t0_5 t0_6 t0_7 t0_8 t0_9 t0_10 t1_0 lx36) : (Nat → Int32))) (by with_reducible assumption) ⟨by omega, by omega⟩
      with_reducible refine v_owe h4.1 ?_
      by_cases g5 : ((F_FR_readsBack t0_0 t0_1 t0_2 t0_3 t0_4 t0_5 t0_6 t0_7 t0_8 t0_9 t0_10 t2_0 t3_0 ((F_FR_cut pl (0 : Int32) t0_0 t0_1 t0_2 t0_3 t0_4 t0_5 t0_6 t0_7 t0_8 t0_9 t0_10 t1_0 lx36) : (Nat → Int32))) : Int32) = (0 : Int32)
      ·
        rw [if_pos g5, if_pos g5]
        have h6 := T_FR_readsBack (t0_0 := t0_0) (t0_1 := t0_1) (t0_2 := t0_2) (t0_3 := t0_3) (t0_4 := t0_4) (t0_5 := t0_5) (t0_6 := t0_6) (t0_7 := t0_7) (t0_8 := t0_8) (t0_9 := t0_9) (t0_10 := t0_10) (t1_0 := t2_0) (t2_0 := t3_0) (t3_0 := ((F_FR_cut pl (1 : Int32) t0_0 t0_1 t0_2 t0_3 t0_4 t0_5 t0_6 t0_7 t0_8 t0_9 t0_10 t1_0 ((F_FR_cut pl (0 : Int32) t0_0 t0_1 t0_2 t0_3 t0_4 t0_5 t0_6 t0_7 t0_8 t0_9 t0_10 t1_0 lx36) : (Nat → Int32))) : (Nat → Int32))) 
        with_reducible refine v_owe h6 ?_
        by_cases g7 : ((F_FR_readsBack t0_0 t0_1 t0_2 t0_3 t0_4 t0_5 t0_6 t0_7 t0_8 t0_9 t0_10 t2_0 t3_0 ((F_FR_cut pl (1 : Int32) t0_0 t0_1 t0_2 t0_3 t0_4 t0_5 t0_6 t0_7 t0_8 t0_9 t0_10 t1_0 ((F_FR_cut pl (0 : Int32) t0_0 t0_1 t0_2 t0_3 t0_4 t0_5 t0_6 t0_7 t0_8 t0_9 t0_10 t1_0 lx36) : (Nat → Int32))) : (Nat → Int32))) : Int32) = (0 : Int32)
        ·
          rw [if_pos g7, if_pos g7]
          obtain ⟨a8, e9⟩ := q_nm (lx35 + 1 : Int32)
          rw [e9]
          have a8i : a8.toInt = lx35.toInt + 1 := by rw [← e9]; exact q_addI (x := lx35.toInt) (y := 1) rfl (by decide) (by omega) (by omega)
          exact ih _ _ (by first | with_reducible assumption | omega | decide) (by first | with_reducible assumption | omega | decide)
        ·
          rw [if_neg g7, if_neg g7]
          refine ⟨trivial, ?_⟩
          (unfold Q_FR_leastLength; dsimp only; first | exact ⟨by omega, by omega⟩ | exact ⟨by decide, by decide⟩)
      ·
        rw [if_neg g5, if_neg g5]
        refine ⟨trivial, ?_⟩
        (unfold Q_FR_leastLength; dsimp only; first | exact ⟨by omega, by omega⟩ | exact ⟨by decide, by decide⟩)
theorem T_FR_leastLength {t0_0 : Int32} {t0_1 : Int32} {t0_2 : Int32} {t0_3 : Int32} {t0_4 : Int64} {t0_5 : Int32} {t0_6 : Int32} {t0_7 : Int64} {t0_8 : Int32} {t0_9 : Int64} {t0_10 : Int32} {t1_0 : (Nat → Int32)} {t2_0 : (Nat → Int32)} {t3_0 : (Nat → Int32)} {t4_0 : (Nat → Int32)} (hw : flW t1_0) (hn : flNz t1_0) : (S_FR_leastLength t0_0 t0_1 t0_2 t0_3 t0_4 t0_5 t0_6 t0_7 t0_8 t0_9 t0_10 t1_0 t2_0 t3_0 t4_0) ∧ Q_FR_leastLength (F_FR_leastLength t0_0 t0_1 t0_2 t0_3 t0_4 t0_5 t0_6 t0_7 t0_8 t0_9 t0_10 t1_0 t2_0 t3_0 t4_0) := by
  have e0 : (0 : Int32).toInt = 0 := rfl
  have e1 : (1 : Int32).toInt = 1 := rfl
  have eL0 : (0 : Int64).toInt = 0 := rfl
  unfold S_FR_leastLength F_FR_leastLength
  have h1 := T_FR_top (t0_0 := t0_0) (t0_1 := t0_1) (t0_2 := t0_2) (t0_3 := t0_3) (t0_4 := t0_4) (t0_5 := t0_5) (t0_6 := t0_6) (t0_7 := t0_7) (t0_8 := t0_8) (t0_9 := t0_9) (t0_10 := t0_10) (t1_0 := t1_0) (by with_reducible assumption) (by with_reducible assumption)
  have h1q := h1.2
  with_reducible refine v_owe h1.1 ?_
  exact vf_ll hw hn (T_FR_top hw hn).2.1 _ _ _ ⟨by decide, by decide⟩ (by decide)
def Q_FR_findShortest (t0_0 t0_1 t0_2 t0_3 : Int32) (t0_4 : Int64) (t0_5 t0_6 : Int32) (t0_7 : Int64) (t0_8 : Int32) (p : Int32 × Int32 × Int32 × Int32 × Int64 × Int32 × Int32 × Int64 × Int32 × Int64 × Int32 × (Nat → Int32) × (Nat → Int32) × (Nat → Int32) × (Nat → Int32) × (Nat → Int32) × (Nat → Int32)) : Prop := p.1 = t0_0 ∧ p.2.1 = t0_1 ∧ p.2.2.1 = t0_2 ∧ p.2.2.2.1 = t0_3 ∧ p.2.2.2.2.1 = t0_4 ∧ p.2.2.2.2.2.1 = t0_5 ∧ p.2.2.2.2.2.2.1 = t0_6 ∧ p.2.2.2.2.2.2.2.1 = t0_7 ∧ p.2.2.2.2.2.2.2.2.1 = t0_8 ∧ (1 ≤ p.2.2.2.2.2.2.2.2.2.1.toInt ∧ p.2.2.2.2.2.2.2.2.2.1.toInt ≤ 1000000000000000000) ∧ (0 ≤ p.2.2.2.2.2.2.2.2.2.2.1.toInt ∧ p.2.2.2.2.2.2.2.2.2.2.1.toInt ≤ 1500) ∧ flW p.2.2.2.2.2.2.2.2.2.2.2.2.2.1 ∧ flNz p.2.2.2.2.2.2.2.2.2.2.2.2.2.1
theorem fl_sh2 {w s : Int64} {x : Int} (h : ∃ d : Nat, (d : Int) = x ∧ w.toInt = 10 ^ d) (hx : x ≤ 17) (hs : 0 ≤ s.toInt ∧ s.toInt ≤ w.toInt) : s.toInt ≤ 100000000000000000 := by
  obtain ⟨d, a, b⟩ := h
  have e := fl_mono (B := 10) (by decide) (show d ≤ 17 by omega)
  have e2 : (10 : Int) ^ 17 = 100000000000000000 := by decide
  rw [e2, ← b] at e
  omega
theorem vf_fs2 {K_F_FR_findShortest_L133 : Int32 → Int64 → Int64 → (Int32 × Int32 × Int32 × Int32 × Int64 × Int32 × Int32 × Int64 × Int32 × Int64 × Int32 × (Nat → Int32) × (Nat → Int32) × (Nat → Int32) × (Nat → Int32) × (Nat → Int32) × (Nat → Int32))} {t0_0 : Int32} {t0_1 : Int32} {t0_2 : Int32} {t0_3 : Int32} {t0_4 : Int64} {t0_5 : Int32} {t0_6 : Int32} {t0_7 : Int64} {t0_8 : Int32} {t0_9 : Int64} {t0_10 : Int32} {t1_0 : (Nat → Int32)} {t2_0 : (Nat → Int32)} {t3_0 : (Nat → Int32)} {t4_0 : (Nat → Int32)} {t5_0 : (Nat → Int32)} {t6_0 : (Nat → Int32)} {p47 : ((Nat → Int32) × (Nat → Int32) × (Nat → Int32) × (Nat → Int32) × (Nat → Int32))} {f35 : (Nat → Int32)} {f37 : (Nat → Int32)} {f39 : (Nat → Int32)} {f41 : (Nat → Int32)} {f43 : (Nat → Int32)} {p69 : (Int32 × (Nat → Int32))} {f63 : (Nat → Int32)} {lx78 : Int32} {a107 : Int32} {f131 : (Nat → Int32)} {lx152 : Int32} {lx168 : Int64} {lx191 : Int32} {lx192 : Int64} {lx193 : Int64} {K_S_FR_findShortest_L133 : Int32 → Int64 → Int64 → Prop} (hw : flW f39) (hn : flNz f39)(ha : 0 ≤ a107.toInt ∧ a107.toInt ≤ 1400) : ∀ (n : Nat) (lx220 : Int64) (lx221 : Int32), (1 ≤ lx220.toInt ∧ lx220.toInt ≤ 1000000000000000000) → (∃ m : Nat, m ≤ n ∧ lx220.toInt < 10 ^ m ∧ (m : Int) + lx221.toInt ≤ a107.toInt + 18) → (a107.toInt ≤ lx221.toInt) → (S_FR_findShortest_L176 K_S_FR_findShortest_L133 t0_0 t0_1 t0_2 t0_3 t0_4 t0_5 t0_6 t0_7 t0_8 t0_9 t0_10 t1_0 t2_0 t3_0 t4_0 t5_0 t6_0 p47 f35 f37 f39 f41 f43 p69 f63 lx78 a107 f131 lx152 lx168 lx191 lx192 lx193 n lx220 lx221) ∧ Q_FR_findShortest t0_0 t0_1 t0_2 t0_3 t0_4 t0_5 t0_6 t0_7 t0_8 (F_FR_findShortest_L176 K_F_FR_findShortest_L133 t0_0 t0_1 t0_2 t0_3 t0_4 t0_5 t0_6 t0_7 t0_8 t0_9 t0_10 t1_0 t2_0 t3_0 t4_0 t5_0 t6_0 p47 f35 f37 f39 f41 f43 p69 f63 lx78 a107 f131 lx152 lx168 lx191 lx192 lx193 n lx220 lx221) := by
  intro n
  induction n with
  | zero => intro lx220 lx221 h1 hm h2; obtain ⟨m, a, b, -⟩ := hm; rw [show m = 0 by omega, Int.pow_zero] at b; omega
  | succ n ih =>
    intro lx220 lx221 h1 hm h2
    have e0 : (0 : Int32).toInt = 0 := rfl
    have e1 : (1 : Int32).toInt = 1 := rfl
    have eL0 : (0 : Int64).toInt = 0 := rfl
    have h18 : lx221.toInt ≤ a107.toInt + 18 := by obtain ⟨m, a, b, c⟩ := hm; omega
    rw [S_FR_findShortest_L176.eq_2, F_FR_findShortest_L176.eq_2]
    by_cases g1 : (lg_cmp (lx220 - lx220 / 10 * 10 : Int64) 0 : Int32) = (0 : Int32)
    ·
      rw [if_pos g1, if_pos g1]
      obtain ⟨a2, e3⟩ := q_nm (lx221 + 1 : Int32)
      rw [e3]
      have a2i : a2.toInt = lx221.toInt + 1 := by rw [← e3]; exact q_addI (x := lx221.toInt) (y := 1) rfl (by decide) (by omega) (by omega)
      have z := fl_z10 h1.1 g1; obtain ⟨m, a, b, c⟩ := hm; have mp := fl_p10 z b h1.1; exact ih _ _ ⟨by omega, by omega⟩ ⟨m - 1, by omega, mp.2, by omega⟩ (by omega)
    ·
      rw [if_neg g1, if_neg g1]
      refine ⟨trivial, ?_⟩
      (unfold Q_FR_findShortest; dsimp only; exact ⟨rfl, rfl, rfl, rfl, rfl, rfl, rfl, rfl, rfl, h1, ⟨by omega, by omega⟩, hw, hn⟩)
theorem vf_fs1 {t0_0 : Int32} {t0_1 : Int32} {t0_2 : Int32} {t0_3 : Int32} {t0_4 : Int64} {t0_5 : Int32} {t0_6 : Int32} {t0_7 : Int64} {t0_8 : Int32} {t0_9 : Int64} {t0_10 : Int32} {t1_0 : (Nat → Int32)} {t2_0 : (Nat → Int32)} {t3_0 : (Nat → Int32)} {t4_0 : (Nat → Int32)} {t5_0 : (Nat → Int32)} {t6_0 : (Nat → Int32)} {p47 : ((Nat → Int32) × (Nat → Int32) × (Nat → Int32) × (Nat → Int32) × (Nat → Int32))} {f35 : (Nat → Int32)} {f37 : (Nat → Int32)} {f39 : (Nat → Int32)} {f41 : (Nat → Int32)} {f43 : (Nat → Int32)} {p69 : (Int32 × (Nat → Int32))} {f63 : (Nat → Int32)} {lx78 : Int32} {a107 : Int32} {f131 : (Nat → Int32)} {lx152 : Int32} {lx168 : Int64} (hw : flW f39) (hn : flNz f39){tp : Int32} (tq : Q_FR_top f39 tp) (hl : 1 ≤ lx78.toInt ∧ lx78.toInt ≤ 17) (ha : a107.toInt = tp.toInt - lx78.toInt + 1) : ∀ (n : Nat) (lx191 : Int32) (lx192 : Int64) (lx193 : Int64), (a107.toInt ≤ lx191.toInt ∧ lx191.toInt ≤ tp.toInt + 1) → (tp.toInt + 2 - lx191.toInt < (n : Int)) → (∃ d : Nat, (d : Int) = lx191.toInt - a107.toInt ∧ lx192.toInt = 10 ^ d) → (0 ≤ lx193.toInt ∧ lx193.toInt ≤ lx192.toInt) → (1 ≤ lx193.toInt ∨ ∀ i : Nat, a107.toInt ≤ (i : Int) → (i : Int) < lx191.toInt → (f39 i).toInt = 0) → (S_FR_findShortest_L133 t0_0 t0_1 t0_2 t0_3 t0_4 t0_5 t0_6 t0_7 t0_8 t0_9 t0_10 t1_0 t2_0 t3_0 t4_0 t5_0 t6_0 p47 f35 f37 f39 f41 f43 p69 f63 lx78 a107 f131 lx152 lx168 n lx191 lx192 lx193) ∧ Q_FR_findShortest t0_0 t0_1 t0_2 t0_3 t0_4 t0_5 t0_6 t0_7 t0_8 (F_FR_findShortest_L133 t0_0 t0_1 t0_2 t0_3 t0_4 t0_5 t0_6 t0_7 t0_8 t0_9 t0_10 t1_0 t2_0 t3_0 t4_0 t5_0 t6_0 p47 f35 f37 f39 f41 f43 p69 f63 lx78 a107 f131 lx152 lx168 n lx191 lx192 lx193) := by
  intro n
  induction n with
  | zero => intro lx191 lx192 lx193 h0 hm hd hs hz; exact absurd (show False by omega) id
  | succ n ih =>
    intro lx191 lx192 lx193 h0 hm hd hs hz
    have e0 : (0 : Int32).toInt = 0 := rfl
    have e1 : (1 : Int32).toInt = 1 := rfl
    have eL0 : (0 : Int64).toInt = 0 := rfl
    have tq1 := tq.1
    rw [S_FR_findShortest_L133.eq_2, F_FR_findShortest_L133.eq_2]
    have h1 := T_FR_top (t0_0 := t0_0) (t0_1 := t0_1) (t0_2 := t0_2) (t0_3 := t0_3) (t0_4 := t0_4) (t0_5 := t0_5) (t0_6 := t0_6) (t0_7 := t0_7) (t0_8 := t0_8) (t0_9 := lx193) (t0_10 := a107) (t1_0 := f39) (by with_reducible assumption) (by with_reducible assumption)
    have h1q := h1.2
    with_reducible refine v_owe h1.1 ?_
    by_cases g2 : ((F_FR_top t0_0 t0_1 t0_2 t0_3 t0_4 t0_5 t0_6 t0_7 t0_8 lx193 a107 f39) : Int32) < lx191
    ·
      rw [if_pos g2, if_pos g2]
      have g2i := fl_tl (by with_reducible assumption) tq g2
      have s1 : 1 ≤ lx193.toInt := by rcases hz with h | h; exact h; exact absurd (h tp.toNatClampNeg (by have := q_clI (i := tp) rfl (by omega); omega) (by have := q_clI (i := tp) rfl (by omega); omega)) tq.2.1
      have s2 := fl_sh2 hd (by omega) hs
      exact vf_fs2 hw hn ⟨by omega, by omega⟩ _ _ _ ⟨s1, by omega⟩ ⟨18, by decide, Int.lt_of_le_of_lt s2 (by decide), by omega⟩ (by omega)
    ·
      rw [if_neg g2, if_neg g2]
      have g2i := fl_tg (by with_reducible assumption) tq g2
      refine v_cons (by omega) ?_
      obtain ⟨a3, e4⟩ := q_nm (lx191 + 1 : Int32)
      rw [e4]
      have a3i : a3.toInt = lx191.toInt + 1 := by rw [← e4]; exact q_addI (x := lx191.toInt) (y := 1) rfl (by decide) (by omega) (by omega)
      have e91 := q_clI (i := lx191) rfl (by omega); obtain ⟨d, d1, d2⟩ := hd; have k := fl_sh (x := f39 lx191.toNatClampNeg) (w := lx192) (s := lx193) (d := d) (by omega) d2 hs (hw.1 _ (by omega)); exact ih _ _ _ ⟨by omega, by omega⟩ (by omega) ⟨d + 1, by omega, by rw [k.1, d2, fl_pw]⟩ k.2.1 (by rcases hz with h | h; (exact Or.inl (k.2.2.1 h)); by_cases z : (f39 lx191.toNatClampNeg).toInt = 0; (exact Or.inr (fun i a b => by by_cases c : i = lx191.toNatClampNeg; (rw [c]; exact z); exact h i a (by omega))); exact Or.inl (k.2.2.2 z))
theorem fl_tq {f : Nat → Int32} {a b : Int32} (h : Q_FR_top f a) (e : a = b) : Q_FR_top f b := by rw [← e]; exact h
theorem T_FR_fsJ {t0_0 : Int32} {t0_1 : Int32} {t0_2 : Int32} {t0_3 : Int32} {t0_4 : Int64} {t0_5 : Int32} {t0_6 : Int32} {t0_7 : Int64} {t0_8 : Int32} {t0_9 : Int64} {t0_10 : Int32} {t1_0 : (Nat → Int32)} {t2_0 : (Nat → Int32)} {t3_0 : (Nat → Int32)} {t4_0 : (Nat → Int32)} {t5_0 : (Nat → Int32)} {t6_0 : (Nat → Int32)} {p47 : ((Nat → Int32) × (Nat → Int32) × (Nat → Int32) × (Nat → Int32) × (Nat → Int32))} {f35 : (Nat → Int32)} {f37 : (Nat → Int32)} {f39 : (Nat → Int32)} {f41 : (Nat → Int32)} {f43 : (Nat → Int32)} {p69 : (Int32 × (Nat → Int32))} {f63 : (Nat → Int32)} {lx78 : Int32} (hw : flW f39) (hn : flNz f39)(hl : 1 ≤ lx78.toInt ∧ lx78.toInt ≤ 17) : (S_FR_findShortest_J19 t0_0 t0_1 t0_2 t0_3 t0_4 t0_5 t0_6 t0_7 t0_8 t0_9 t0_10 t1_0 t2_0 t3_0 t4_0 t5_0 t6_0 p47 f35 f37 f39 f41 f43 p69 f63 lx78) ∧ Q_FR_findShortest t0_0 t0_1 t0_2 t0_3 t0_4 t0_5 t0_6 t0_7 t0_8 (F_FR_findShortest_J19 t0_0 t0_1 t0_2 t0_3 t0_4 t0_5 t0_6 t0_7 t0_8 t0_9 t0_10 t1_0 t2_0 t3_0 t4_0 t5_0 t6_0 p47 f35 f37 f39 f41 f43 p69 f63 lx78) := by
  have e0 : (0 : Int32).toInt = 0 := rfl
  have e1 : (1 : Int32).toInt = 1 := rfl
  have eL0 : (0 : Int64).toInt = 0 := rfl
  unfold S_FR_findShortest_J19 F_FR_findShortest_J19
  obtain ⟨tp, etp⟩ := q_nm (F_FR_top t0_0 t0_1 t0_2 t0_3 t0_4 t0_5 t0_6 t0_7 t0_8 t0_9 t0_10 f39)
  have tq := fl_tq (T_FR_top hw hn).2 etp
  rw [etp]
  have tq1 := tq.1
  obtain ⟨lp, elp⟩ := q_nm ((tp - lx78 : Int32) + 1 : Int32)
  rw [elp]
  have lpi : lp.toInt = (tp.toInt - lx78.toInt) + 1 := by rw [← elp]; exact q_addI (y := 1) (q_subI rfl rfl (by omega) (by omega)) (by decide) (by omega) (by omega)
  have h1 := T_FR_top (t0_0 := t0_0) (t0_1 := t0_1) (t0_2 := t0_2) (t0_3 := t0_3) (t0_4 := t0_4) (t0_5 := t0_5) (t0_6 := t0_6) (t0_7 := t0_7) (t0_8 := t0_8) (t0_9 := t0_9) (t0_10 := t0_10) (t1_0 := f39) (by with_reducible assumption) (by with_reducible assumption)
  have h1q := h1.2
  with_reducible refine v_owe h1.1 ?_
  have h2 := T_FR_cut (x2 := lp) (x3 := (1 : Int32)) (t0_0 := t0_0) (t0_1 := t0_1) (t0_2 := t0_2) (t0_3 := t0_3) (t0_4 := t0_4) (t0_5 := t0_5) (t0_6 := t0_6) (t0_7 := t0_7) (t0_8 := t0_8) (t0_9 := t0_9) (t0_10 := lp) (t1_0 := f39) (t2_0 := f63) (by with_reducible assumption) ⟨by omega, by omega⟩
  with_reducible refine v_owe h2.1 ?_
  have h3 := T_FR_readsBack (t0_0 := t0_0) (t0_1 := t0_1) (t0_2 := t0_2) (t0_3 := t0_3) (t0_4 := t0_4) (t0_5 := t0_5) (t0_6 := t0_6) (t0_7 := t0_7) (t0_8 := t0_8) (t0_9 := t0_9) (t0_10 := lp) (t1_0 := f41) (t2_0 := f43) (t3_0 := ((F_FR_cut lp (1 : Int32) t0_0 t0_1 t0_2 t0_3 t0_4 t0_5 t0_6 t0_7 t0_8 t0_9 lp f39 f63) : (Nat → Int32))) 
  with_reducible refine v_owe h3 ?_
  have h4 := T_FR_cut (x2 := lp) (x3 := (0 : Int32)) (t0_0 := t0_0) (t0_1 := t0_1) (t0_2 := t0_2) (t0_3 := t0_3) (t0_4 := t0_4) (t0_5 := t0_5) (t0_6 := t0_6) (t0_7 := t0_7) (t0_8 := t0_8) (t0_9 := t0_9) (t0_10 := lp) (t1_0 := f39) (t2_0 := ((F_FR_cut lp (1 : Int32) t0_0 t0_1 t0_2 t0_3 t0_4 t0_5 t0_6 t0_7 t0_8 t0_9 lp f39 f63) : (Nat → Int32))) (by with_reducible assumption) ⟨by omega, by omega⟩
  with_reducible refine v_owe h4.1 ?_
  have h5 := T_FR_readsBack (t0_0 := t0_0) (t0_1 := t0_1) (t0_2 := t0_2) (t0_3 := t0_3) (t0_4 := t0_4) (t0_5 := t0_5) (t0_6 := t0_6) (t0_7 := t0_7) (t0_8 := t0_8) (t0_9 := t0_9) (t0_10 := lp) (t1_0 := f41) (t2_0 := f43) (t3_0 := ((F_FR_cut lp (0 : Int32) t0_0 t0_1 t0_2 t0_3 t0_4 t0_5 t0_6 t0_7 t0_8 t0_9 lp f39 ((F_FR_cut lp (1 : Int32) t0_0 t0_1 t0_2 t0_3 t0_4 t0_5 t0_6 t0_7 t0_8 t0_9 lp f39 f63) : (Nat → Int32))) : (Nat → Int32))) 
  with_reducible refine v_owe h5 ?_
  have h6 := T_FR_half (x2 := lp) (t0_0 := t0_0) (t0_1 := t0_1) (t0_2 := t0_2) (t0_3 := t0_3) (t0_4 := t0_4) (t0_5 := t0_5) (t0_6 := t0_6) (t0_7 := t0_7) (t0_8 := t0_8) (t0_9 := t0_9) (t0_10 := lp) (t1_0 := f39) ⟨by omega, by omega⟩
  with_reducible refine v_owe h6 ?_
  by_cases g7 : ((F_FR_readsBack t0_0 t0_1 t0_2 t0_3 t0_4 t0_5 t0_6 t0_7 t0_8 t0_9 lp f41 f43 ((F_FR_cut lp (1 : Int32) t0_0 t0_1 t0_2 t0_3 t0_4 t0_5 t0_6 t0_7 t0_8 t0_9 lp f39 f63) : (Nat → Int32))) : Int32) = (0 : Int32)
  ·
    rw [if_pos g7, if_pos g7]
    unfold S_FR_findShortest_J107 F_FR_findShortest_J107
    unfold S_FR_findShortest_J108 F_FR_findShortest_J108
    have g8 : ((0 : Int32) = (0 : Int32)) := (by decide)
    rw [if_pos g8, if_pos g8]
    unfold S_FR_findShortest_J121 F_FR_findShortest_J121
    exact vf_fs1 hw hn tq hl (by omega) 1000000 _ _ _ ⟨by omega, by omega⟩ (by omega) ⟨0, by omega, by decide⟩ (by decide) (Or.inr (fun i a b => by omega))
  ·
    rw [if_neg g7, if_neg g7]
    by_cases g9 : ((F_FR_readsBack t0_0 t0_1 t0_2 t0_3 t0_4 t0_5 t0_6 t0_7 t0_8 t0_9 lp f41 f43 ((F_FR_cut lp (0 : Int32) t0_0 t0_1 t0_2 t0_3 t0_4 t0_5 t0_6 t0_7 t0_8 t0_9 lp f39 ((F_FR_cut lp (1 : Int32) t0_0 t0_1 t0_2 t0_3 t0_4 t0_5 t0_6 t0_7 t0_8 t0_9 lp f39 f63) : (Nat → Int32))) : (Nat → Int32))) : Int32) = (0 : Int32)
    ·
      rw [if_pos g9, if_pos g9]
      unfold S_FR_findShortest_J103 F_FR_findShortest_J103
      unfold S_FR_findShortest_J108 F_FR_findShortest_J108
      have g10 : ¬ ((1 : Int32) = (0 : Int32)) := (by decide)
      rw [if_neg g10, if_neg g10]
      unfold S_FR_findShortest_J121 F_FR_findShortest_J121
      exact vf_fs1 hw hn tq hl (by omega) 1000000 _ _ _ ⟨by omega, by omega⟩ (by omega) ⟨0, by omega, by decide⟩ (by decide) (Or.inr (fun i a b => by omega))
    ·
      rw [if_neg g9, if_neg g9]
      by_cases g11 : (0 : Int32) < ((F_FR_half lp t0_0 t0_1 t0_2 t0_3 t0_4 t0_5 t0_6 t0_7 t0_8 t0_9 lp f39) : Int32)
      ·
        rw [if_pos g11, if_pos g11]
        unfold S_FR_findShortest_J103 F_FR_findShortest_J103
        unfold S_FR_findShortest_J108 F_FR_findShortest_J108
        have g12 : ¬ ((1 : Int32) = (0 : Int32)) := (by decide)
        rw [if_neg g12, if_neg g12]
        unfold S_FR_findShortest_J121 F_FR_findShortest_J121
        exact vf_fs1 hw hn tq hl (by omega) 1000000 _ _ _ ⟨by omega, by omega⟩ (by omega) ⟨0, by omega, by decide⟩ (by decide) (Or.inr (fun i a b => by omega))
      ·
        rw [if_neg g11, if_neg g11]
        by_cases g13 : ((F_FR_half lp t0_0 t0_1 t0_2 t0_3 t0_4 t0_5 t0_6 t0_7 t0_8 t0_9 lp f39) : Int32) = (0 : Int32)
        ·
          rw [if_pos g13, if_pos g13]
          refine v_cons (by omega) ?_
          by_cases g14 : ((f39 lp.toNatClampNeg : Int32) - (f39 lp.toNatClampNeg : Int32) / 2 * 2 : Int32) = (1 : Int32)
          ·
            rw [if_pos g14, if_pos g14]
            unfold S_FR_findShortest_J103 F_FR_findShortest_J103
            unfold S_FR_findShortest_J108 F_FR_findShortest_J108
            have g15 : ¬ ((1 : Int32) = (0 : Int32)) := (by decide)
            rw [if_neg g15, if_neg g15]
            unfold S_FR_findShortest_J121 F_FR_findShortest_J121
            exact vf_fs1 hw hn tq hl (by omega) 1000000 _ _ _ ⟨by omega, by omega⟩ (by omega) ⟨0, by omega, by decide⟩ (by decide) (Or.inr (fun i a b => by omega))
          ·
            rw [if_neg g14, if_neg g14]
            unfold S_FR_findShortest_J107 F_FR_findShortest_J107
            unfold S_FR_findShortest_J108 F_FR_findShortest_J108
            have g16 : ((0 : Int32) = (0 : Int32)) := (by decide)
            rw [if_pos g16, if_pos g16]
            unfold S_FR_findShortest_J121 F_FR_findShortest_J121
            exact vf_fs1 hw hn tq hl (by omega) 1000000 _ _ _ ⟨by omega, by omega⟩ (by omega) ⟨0, by omega, by decide⟩ (by decide) (Or.inr (fun i a b => by omega))
        ·
          rw [if_neg g13, if_neg g13]
          unfold S_FR_findShortest_J107 F_FR_findShortest_J107
          unfold S_FR_findShortest_J108 F_FR_findShortest_J108
          have g17 : ((0 : Int32) = (0 : Int32)) := (by decide)
          rw [if_pos g17, if_pos g17]
          unfold S_FR_findShortest_J121 F_FR_findShortest_J121
          exact vf_fs1 hw hn tq hl (by omega) 1000000 _ _ _ ⟨by omega, by omega⟩ (by omega) ⟨0, by omega, by decide⟩ (by decide) (Or.inr (fun i a b => by omega))
theorem T_FR_findShortest {t0_0 : Int32} {t0_1 : Int32} {t0_2 : Int32} {t0_3 : Int32} {t0_4 : Int64} {t0_5 : Int32} {t0_6 : Int32} {t0_7 : Int64} {t0_8 : Int32} {t0_9 : Int64} {t0_10 : Int32} {t1_0 : (Nat → Int32)} {t2_0 : (Nat → Int32)} {t3_0 : (Nat → Int32)} {t4_0 : (Nat → Int32)} {t5_0 : (Nat → Int32)} {t6_0 : (Nat → Int32)} (hS7 : 1 ≤ t0_7.toInt ∧ t0_7.toInt < 9007199254740992) (hS8 : -1074 ≤ t0_8.toInt ∧ t0_8.toInt ≤ 971) : (S_FR_findShortest t0_0 t0_1 t0_2 t0_3 t0_4 t0_5 t0_6 t0_7 t0_8 t0_9 t0_10 t1_0 t2_0 t3_0 t4_0 t5_0 t6_0) ∧ Q_FR_findShortest t0_0 t0_1 t0_2 t0_3 t0_4 t0_5 t0_6 t0_7 t0_8 (F_FR_findShortest t0_0 t0_1 t0_2 t0_3 t0_4 t0_5 t0_6 t0_7 t0_8 t0_9 t0_10 t1_0 t2_0 t3_0 t4_0 t5_0 t6_0) := by
  have e0 : (0 : Int32).toInt = 0 := rfl
  have e1 : (1 : Int32).toInt = 1 := rfl
  have eL0 : (0 : Int64).toInt = 0 := rfl
  unfold S_FR_findShortest F_FR_findShortest
  have h1 := T_FR_setAll (t0_0 := t0_0) (t0_1 := t0_1) (t0_2 := t0_2) (t0_3 := t0_3) (t0_4 := t0_4) (t0_5 := t0_5) (t0_6 := t0_6) (t0_7 := t0_7) (t0_8 := t0_8) (t0_9 := t0_9) (t0_10 := t0_10) (t1_0 := t1_0) (t2_0 := t2_0) (t3_0 := t3_0) (t4_0 := t4_0) (t5_0 := t5_0) hS7 hS8
  with_reducible refine v_owe h1.1 ?_
  replace h1 := h1.2
  generalize F_FR_setAll t0_0 t0_1 t0_2 t0_3 t0_4 t0_5 t0_6 t0_7 t0_8 t0_9 t0_10 t1_0 t2_0 t3_0 t4_0 t5_0 = p47 at *
  obtain ⟨hw, hn⟩ := h1
  unfold S_FR_findShortest_c1 F_FR_findShortest_c1
  have h2 := T_FR_leastLength (t0_0 := t0_0) (t0_1 := t0_1) (t0_2 := t0_2) (t0_3 := t0_3) (t0_4 := t0_4) (t0_5 := t0_5) (t0_6 := t0_6) (t0_7 := t0_7) (t0_8 := t0_8) (t0_9 := t0_9) (t0_10 := t0_10) (t1_0 := (p47.2.2.1 : (Nat → Int32))) (t2_0 := (p47.2.2.2.1 : (Nat → Int32))) (t3_0 := (p47.2.2.2.2 : (Nat → Int32))) (t4_0 := t6_0) (by with_reducible assumption) (by with_reducible assumption)
  with_reducible refine v_owe h2.1 ?_
  replace h2 := h2.2
  generalize F_FR_leastLength t0_0 t0_1 t0_2 t0_3 t0_4 t0_5 t0_6 t0_7 t0_8 t0_9 t0_10 (p47.2.2.1 : (Nat → Int32)) (p47.2.2.2.1 : (Nat → Int32)) (p47.2.2.2.2 : (Nat → Int32)) t6_0 = p69 at *
  unfold Q_FR_leastLength at h2
  unfold S_FR_findShortest_c5 F_FR_findShortest_c5
  by_cases g3 : (p69.1 : Int32) = (1 : Int32)
  ·
    rw [if_pos g3, if_pos g3]
    have g3i : p69.1.toInt = 1 := q_eqI g3
    exact T_FR_fsJ hw hn ⟨by first | omega | decide, by first | omega | decide⟩
  ·
    rw [if_neg g3, if_neg g3]
    have g3i : p69.1.toInt ≠ 1 := q_neI g3
    exact T_FR_fsJ hw hn ⟨by first | omega | decide, by first | omega | decide⟩

/-! FloatRows: open, add, number, digits, power -/
theorem fl_lz {a : Int64} (g : lg_cmp a 0 = 0) : a.toInt = 0 := by
  have c := s_lcmp (a := a) (b := 0)
  rw [g] at c
  have e0 : (0 : Int32).toInt = 0 := rfl
  have e1 : (0 : Int64).toInt = 0 := rfl
  omega
theorem fl_lnz {a : Int64} (g : ¬ lg_cmp a 0 = 0) : a.toInt ≠ 0 := fun h => g (by
  have e : a = 0 := Int64.toInt_inj.mp (by rw [h]; rfl)
  rw [e]; rfl)
theorem fl_fin {a b c d : Int32} {e : Int64} {f g : Int32} {h : Int64} {i : Int32} {j : Int64} {k : Int32} (z : ¬ F_FR_isFinite a b c d e f g h i j k = 0) : d.toInt < g.toInt := by
  unfold F_FR_isFinite at z
  by_cases y : g ≤ d
  · rw [if_pos y] at z; exact absurd rfl z
  · exact q_nleI y
theorem fl_o1 {x : Int64} : 0 ≤ (x &&& (((1 : Int64) <<< ((52 : Int32).toInt64 &&& 63)) - 1)).toInt ∧ (x &&& (((1 : Int64) <<< ((52 : Int32).toInt64 &&& 63)) - 1)).toInt < 9007199254740992 := by
  have a := s_andJ (x := x) (m := ((1 : Int64) <<< ((52 : Int32).toInt64 &&& 63)) - 1) (by decide)
  have e : (((1 : Int64) <<< ((52 : Int32).toInt64 &&& 63)) - 1).toInt = 4503599627370495 := by decide
  omega
theorem fl_o2 {x : Int64} : 0 ≤ (x &&& (((1 : Int64) <<< ((23 : Int32).toInt64 &&& 63)) - 1)).toInt ∧ (x &&& (((1 : Int64) <<< ((23 : Int32).toInt64 &&& 63)) - 1)).toInt < 9007199254740992 := by
  have a := s_andJ (x := x) (m := ((1 : Int64) <<< ((23 : Int32).toInt64 &&& 63)) - 1) (by decide)
  have e : (((1 : Int64) <<< ((23 : Int32).toInt64 &&& 63)) - 1).toInt = 8388607 := by decide
  omega
theorem fl_o3 {x : Int64} : 0 ≤ ((x &&& (((1 : Int64) <<< ((52 : Int32).toInt64 &&& 63)) - 1)) + ((1 : Int64) <<< ((52 : Int32).toInt64 &&& 63))).toInt ∧ ((x &&& (((1 : Int64) <<< ((52 : Int32).toInt64 &&& 63)) - 1)) + ((1 : Int64) <<< ((52 : Int32).toInt64 &&& 63))).toInt < 9007199254740992 := by
  have a := s_andJ (x := x) (m := ((1 : Int64) <<< ((52 : Int32).toInt64 &&& 63)) - 1) (by decide)
  have e : (((1 : Int64) <<< ((52 : Int32).toInt64 &&& 63)) - 1).toInt = 4503599627370495 := by decide
  have e2 : ((1 : Int64) <<< ((52 : Int32).toInt64 &&& 63)).toInt = 4503599627370496 := by decide
  generalize (x &&& (((1 : Int64) <<< ((52 : Int32).toInt64 &&& 63)) - 1)) = y at a ⊢
  generalize ((1 : Int64) <<< ((52 : Int32).toInt64 &&& 63)) = w at *
  have e3 : (y + w).toInt = y.toInt + 4503599627370496 := q_addL rfl e2 (by omega) (by omega)
  omega
theorem fl_o4 {x : Int64} : 0 ≤ ((x &&& (((1 : Int64) <<< ((23 : Int32).toInt64 &&& 63)) - 1)) + ((1 : Int64) <<< ((23 : Int32).toInt64 &&& 63))).toInt ∧ ((x &&& (((1 : Int64) <<< ((23 : Int32).toInt64 &&& 63)) - 1)) + ((1 : Int64) <<< ((23 : Int32).toInt64 &&& 63))).toInt < 9007199254740992 := by
  have a := s_andJ (x := x) (m := ((1 : Int64) <<< ((23 : Int32).toInt64 &&& 63)) - 1) (by decide)
  have e : (((1 : Int64) <<< ((23 : Int32).toInt64 &&& 63)) - 1).toInt = 8388607 := by decide
  have e2 : ((1 : Int64) <<< ((23 : Int32).toInt64 &&& 63)).toInt = 8388608 := by decide
  generalize (x &&& (((1 : Int64) <<< ((23 : Int32).toInt64 &&& 63)) - 1)) = y at a ⊢
  generalize ((1 : Int64) <<< ((23 : Int32).toInt64 &&& 63)) = w at *
  have e3 : (y + w).toInt = y.toInt + 8388608 := q_addL rfl e2 (by omega) (by omega)
  omega
theorem fl_exp {a : Int32} {k : Int32} (ha : 0 ≤ a.toInt ∧ a.toInt ≤ 2047) (hk : 0 ≤ k.toInt ∧ k.toInt ≤ 2000) : (a - k : Int32).toInt = a.toInt - k.toInt := q_subI rfl rfl (by omega) (by omega)
def Q_FR_open (t0_0 t0_1 : Int32) (p : Int32 × Int32 × Int32 × Int32 × Int64 × Int32 × Int32 × Int64 × Int32 × Int64 × Int32) : Prop := p.1 = t0_0 ∧ p.2.1 = t0_1 ∧ (0 ≤ p.2.2.2.2.2.2.2.1.toInt ∧ p.2.2.2.2.2.2.2.1.toInt < 9007199254740992) ∧ (-1074 ≤ p.2.2.2.2.2.2.2.2.1.toInt ∧ p.2.2.2.2.2.2.2.2.1.toInt ≤ 972) ∧ (p.2.2.2.1.toInt < p.2.2.2.2.2.2.1.toInt → p.2.2.2.2.2.2.2.2.1.toInt ≤ 971) ∧ (0 ≤ p.2.2.2.2.2.1.toInt ∧ p.2.2.2.2.2.1.toInt ≤ 52)
theorem T_FR_open {x2 : Int64} {x3 : Int32} {t0_0 : Int32} {t0_1 : Int32} {t0_2 : Int32} {t0_3 : Int32} {t0_4 : Int64} {t0_5 : Int32} {t0_6 : Int32} {t0_7 : Int64} {t0_8 : Int32} {t0_9 : Int64} {t0_10 : Int32}  : Q_FR_open t0_0 t0_1 (F_FR_open x2 x3 t0_0 t0_1 t0_2 t0_3 t0_4 t0_5 t0_6 t0_7 t0_8 t0_9 t0_10) := by
  have e0 : (0 : Int32).toInt = 0 := rfl
  have e1 : (1 : Int32).toInt = 1 := rfl
  have eL0 : (0 : Int64).toInt = 0 := rfl
  unfold F_FR_open
  by_cases g1 : x3 = (0 : Int32)
  ·
    rw [if_pos g1]
    have g1i : x3.toInt = 0 := q_eqI g1
    unfold F_FR_open_J12
    rw [if_pos g1]
    unfold F_FR_open_J29
    rw [if_pos g1]
    unfold F_FR_open_J45
    by_cases g2 : (lg_cmp (((x2.toUInt64 >>> ((63 : Int32).toInt64.toUInt64 &&& Int64.toUInt64 63)).toInt64 : Int64) &&& 1 : Int64) 1 : Int32) = (0 : Int32)
    ·
      rw [if_pos g2]
      unfold F_FR_open_J58
      by_cases g3 : ((((x2.toUInt64 >>> ((52 : Int32).toInt64.toUInt64 &&& Int64.toUInt64 63)).toInt64 : Int64).toInt32 : Int32) &&& (2047 : Int32) : Int32) = (0 : Int32)
      ·
        rw [if_pos g3]
        obtain ⟨a72, e4⟩ := q_nm (((((x2.toUInt64 >>> ((52 : Int32).toInt64.toUInt64 &&& Int64.toUInt64 63)).toInt64 : Int64).toInt32 : Int32) &&& (2047 : Int32) : Int32) : Int32)
        rw [e4]
        have a72b : 0 ≤ a72.toInt ∧ a72.toInt ≤ (2047 : Int32).toInt := by rw [← e4]; exact s_and (by decide)
        have a72c : (2047 : Int32).toInt = 2047 := rfl
        unfold F_FR_open_J117
        by_cases g5 : a72 = (0 : Int32)
        ·
          rw [if_pos g5]
          have g5i := q_eqI g5
          rw [if_pos g1]
          (unfold Q_FR_open; dsimp only; first | exact ⟨rfl, rfl, fl_o1, ⟨by decide, by decide⟩, fun _ => by decide, ⟨by decide, by decide⟩⟩ | (have ek := fl_exp (a := a72) (k := 1075) ⟨by omega, by omega⟩ (by decide); have ek2 : (1075 : Int32).toInt = 1075 := rfl; rw [ek]; exact ⟨rfl, rfl, fl_o1, ⟨by omega, by omega⟩, fun h => by omega, ⟨by decide, by decide⟩⟩))
        ·
          rw [if_neg g5]
          have g5i := q_neI g5
          rw [if_pos g1]
          (unfold Q_FR_open; dsimp only; first | exact ⟨rfl, rfl, fl_o1, ⟨by decide, by decide⟩, fun _ => by decide, ⟨by decide, by decide⟩⟩ | (have ek := fl_exp (a := a72) (k := 1075) ⟨by omega, by omega⟩ (by decide); have ek2 : (1075 : Int32).toInt = 1075 := rfl; rw [ek]; exact ⟨rfl, rfl, fl_o1, ⟨by omega, by omega⟩, fun h => by omega, ⟨by decide, by decide⟩⟩))
      ·
        rw [if_neg g3]
        obtain ⟨a72, e6⟩ := q_nm (((((x2.toUInt64 >>> ((52 : Int32).toInt64.toUInt64 &&& Int64.toUInt64 63)).toInt64 : Int64).toInt32 : Int32) &&& (2047 : Int32) : Int32) : Int32)
        rw [e6]
        have a72b : 0 ≤ a72.toInt ∧ a72.toInt ≤ (2047 : Int32).toInt := by rw [← e6]; exact s_and (by decide)
        have a72c : (2047 : Int32).toInt = 2047 := rfl
        unfold F_FR_open_J117
        by_cases g7 : a72 = (0 : Int32)
        ·
          rw [if_pos g7]
          have g7i := q_eqI g7
          rw [if_pos g1]
          (unfold Q_FR_open; dsimp only; first | exact ⟨rfl, rfl, fl_o3, ⟨by decide, by decide⟩, fun _ => by decide, ⟨by decide, by decide⟩⟩ | (have ek := fl_exp (a := a72) (k := 1075) ⟨by omega, by omega⟩ (by decide); have ek2 : (1075 : Int32).toInt = 1075 := rfl; rw [ek]; exact ⟨rfl, rfl, fl_o3, ⟨by omega, by omega⟩, fun h => by omega, ⟨by decide, by decide⟩⟩))
        ·
          rw [if_neg g7]
          have g7i := q_neI g7
          rw [if_pos g1]
          (unfold Q_FR_open; dsimp only; first | exact ⟨rfl, rfl, fl_o3, ⟨by decide, by decide⟩, fun _ => by decide, ⟨by decide, by decide⟩⟩ | (have ek := fl_exp (a := a72) (k := 1075) ⟨by omega, by omega⟩ (by decide); have ek2 : (1075 : Int32).toInt = 1075 := rfl; rw [ek]; exact ⟨rfl, rfl, fl_o3, ⟨by omega, by omega⟩, fun h => by omega, ⟨by decide, by decide⟩⟩))
    ·
      rw [if_neg g2]
      unfold F_FR_open_J58
      by_cases g8 : ((((x2.toUInt64 >>> ((52 : Int32).toInt64.toUInt64 &&& Int64.toUInt64 63)).toInt64 : Int64).toInt32 : Int32) &&& (2047 : Int32) : Int32) = (0 : Int32)
      ·
        rw [if_pos g8]
        obtain ⟨a72, e9⟩ := q_nm (((((x2.toUInt64 >>> ((52 : Int32).toInt64.toUInt64 &&& Int64.toUInt64 63)).toInt64 : Int64).toInt32 : Int32) &&& (2047 : Int32) : Int32) : Int32)
        rw [e9]
        have a72b : 0 ≤ a72.toInt ∧ a72.toInt ≤ (2047 : Int32).toInt := by rw [← e9]; exact s_and (by decide)
        have a72c : (2047 : Int32).toInt = 2047 := rfl
        unfold F_FR_open_J117
        by_cases g10 : a72 = (0 : Int32)
        ·
          rw [if_pos g10]
          have g10i := q_eqI g10
          rw [if_pos g1]
          (unfold Q_FR_open; dsimp only; first | exact ⟨rfl, rfl, fl_o1, ⟨by decide, by decide⟩, fun _ => by decide, ⟨by decide, by decide⟩⟩ | (have ek := fl_exp (a := a72) (k := 1075) ⟨by omega, by omega⟩ (by decide); have ek2 : (1075 : Int32).toInt = 1075 := rfl; rw [ek]; exact ⟨rfl, rfl, fl_o1, ⟨by omega, by omega⟩, fun h => by omega, ⟨by decide, by decide⟩⟩))
        ·
          rw [if_neg g10]
          have g10i := q_neI g10
          rw [if_pos g1]
          (unfold Q_FR_open; dsimp only; first | exact ⟨rfl, rfl, fl_o1, ⟨by decide, by decide⟩, fun _ => by decide, ⟨by decide, by decide⟩⟩ | (have ek := fl_exp (a := a72) (k := 1075) ⟨by omega, by omega⟩ (by decide); have ek2 : (1075 : Int32).toInt = 1075 := rfl; rw [ek]; exact ⟨rfl, rfl, fl_o1, ⟨by omega, by omega⟩, fun h => by omega, ⟨by decide, by decide⟩⟩))
      ·
        rw [if_neg g8]
        obtain ⟨a72, e11⟩ := q_nm (((((x2.toUInt64 >>> ((52 : Int32).toInt64.toUInt64 &&& Int64.toUInt64 63)).toInt64 : Int64).toInt32 : Int32) &&& (2047 : Int32) : Int32) : Int32)
        rw [e11]
        have a72b : 0 ≤ a72.toInt ∧ a72.toInt ≤ (2047 : Int32).toInt := by rw [← e11]; exact s_and (by decide)
        have a72c : (2047 : Int32).toInt = 2047 := rfl
        unfold F_FR_open_J117
        by_cases g12 : a72 = (0 : Int32)
        ·
          rw [if_pos g12]
          have g12i := q_eqI g12
          rw [if_pos g1]
          (unfold Q_FR_open; dsimp only; first | exact ⟨rfl, rfl, fl_o3, ⟨by decide, by decide⟩, fun _ => by decide, ⟨by decide, by decide⟩⟩ | (have ek := fl_exp (a := a72) (k := 1075) ⟨by omega, by omega⟩ (by decide); have ek2 : (1075 : Int32).toInt = 1075 := rfl; rw [ek]; exact ⟨rfl, rfl, fl_o3, ⟨by omega, by omega⟩, fun h => by omega, ⟨by decide, by decide⟩⟩))
        ·
          rw [if_neg g12]
          have g12i := q_neI g12
          rw [if_pos g1]
          (unfold Q_FR_open; dsimp only; first | exact ⟨rfl, rfl, fl_o3, ⟨by decide, by decide⟩, fun _ => by decide, ⟨by decide, by decide⟩⟩ | (have ek := fl_exp (a := a72) (k := 1075) ⟨by omega, by omega⟩ (by decide); have ek2 : (1075 : Int32).toInt = 1075 := rfl; rw [ek]; exact ⟨rfl, rfl, fl_o3, ⟨by omega, by omega⟩, fun h => by omega, ⟨by decide, by decide⟩⟩))
  ·
    rw [if_neg g1]
    have g1i : x3.toInt ≠ 0 := q_neI g1
    unfold F_FR_open_J12
    rw [if_neg g1]
    unfold F_FR_open_J29
    rw [if_neg g1]
    unfold F_FR_open_J45
    by_cases g13 : (lg_cmp (((x2.toUInt64 >>> ((31 : Int32).toInt64.toUInt64 &&& Int64.toUInt64 63)).toInt64 : Int64) &&& 1 : Int64) 1 : Int32) = (0 : Int32)
    ·
      rw [if_pos g13]
      unfold F_FR_open_J58
      by_cases g14 : ((((x2.toUInt64 >>> ((23 : Int32).toInt64.toUInt64 &&& Int64.toUInt64 63)).toInt64 : Int64).toInt32 : Int32) &&& (255 : Int32) : Int32) = (0 : Int32)
      ·
        rw [if_pos g14]
        obtain ⟨a72, e15⟩ := q_nm (((((x2.toUInt64 >>> ((23 : Int32).toInt64.toUInt64 &&& Int64.toUInt64 63)).toInt64 : Int64).toInt32 : Int32) &&& (255 : Int32) : Int32) : Int32)
        rw [e15]
        have a72b : 0 ≤ a72.toInt ∧ a72.toInt ≤ (255 : Int32).toInt := by rw [← e15]; exact s_and (by decide)
        have a72c : (255 : Int32).toInt = 255 := rfl
        unfold F_FR_open_J117
        by_cases g16 : a72 = (0 : Int32)
        ·
          rw [if_pos g16]
          have g16i := q_eqI g16
          rw [if_neg g1]
          (unfold Q_FR_open; dsimp only; first | exact ⟨rfl, rfl, fl_o2, ⟨by decide, by decide⟩, fun _ => by decide, ⟨by decide, by decide⟩⟩ | (have ek := fl_exp (a := a72) (k := 150) ⟨by omega, by omega⟩ (by decide); have ek2 : (150 : Int32).toInt = 150 := rfl; rw [ek]; exact ⟨rfl, rfl, fl_o2, ⟨by omega, by omega⟩, fun h => by omega, ⟨by decide, by decide⟩⟩))
        ·
          rw [if_neg g16]
          have g16i := q_neI g16
          rw [if_neg g1]
          (unfold Q_FR_open; dsimp only; first | exact ⟨rfl, rfl, fl_o2, ⟨by decide, by decide⟩, fun _ => by decide, ⟨by decide, by decide⟩⟩ | (have ek := fl_exp (a := a72) (k := 150) ⟨by omega, by omega⟩ (by decide); have ek2 : (150 : Int32).toInt = 150 := rfl; rw [ek]; exact ⟨rfl, rfl, fl_o2, ⟨by omega, by omega⟩, fun h => by omega, ⟨by decide, by decide⟩⟩))
      ·
        rw [if_neg g14]
        obtain ⟨a72, e17⟩ := q_nm (((((x2.toUInt64 >>> ((23 : Int32).toInt64.toUInt64 &&& Int64.toUInt64 63)).toInt64 : Int64).toInt32 : Int32) &&& (255 : Int32) : Int32) : Int32)
        rw [e17]
        have a72b : 0 ≤ a72.toInt ∧ a72.toInt ≤ (255 : Int32).toInt := by rw [← e17]; exact s_and (by decide)
        have a72c : (255 : Int32).toInt = 255 := rfl
        unfold F_FR_open_J117
        by_cases g18 : a72 = (0 : Int32)
        ·
          rw [if_pos g18]
          have g18i := q_eqI g18
          rw [if_neg g1]
          (unfold Q_FR_open; dsimp only; first | exact ⟨rfl, rfl, fl_o4, ⟨by decide, by decide⟩, fun _ => by decide, ⟨by decide, by decide⟩⟩ | (have ek := fl_exp (a := a72) (k := 150) ⟨by omega, by omega⟩ (by decide); have ek2 : (150 : Int32).toInt = 150 := rfl; rw [ek]; exact ⟨rfl, rfl, fl_o4, ⟨by omega, by omega⟩, fun h => by omega, ⟨by decide, by decide⟩⟩))
        ·
          rw [if_neg g18]
          have g18i := q_neI g18
          rw [if_neg g1]
          (unfold Q_FR_open; dsimp only; first | exact ⟨rfl, rfl, fl_o4, ⟨by decide, by decide⟩, fun _ => by decide, ⟨by decide, by decide⟩⟩ | (have ek := fl_exp (a := a72) (k := 150) ⟨by omega, by omega⟩ (by decide); have ek2 : (150 : Int32).toInt = 150 := rfl; rw [ek]; exact ⟨rfl, rfl, fl_o4, ⟨by omega, by omega⟩, fun h => by omega, ⟨by decide, by decide⟩⟩))
    ·
      rw [if_neg g13]
      unfold F_FR_open_J58
      by_cases g19 : ((((x2.toUInt64 >>> ((23 : Int32).toInt64.toUInt64 &&& Int64.toUInt64 63)).toInt64 : Int64).toInt32 : Int32) &&& (255 : Int32) : Int32) = (0 : Int32)
      ·
        rw [if_pos g19]
        obtain ⟨a72, e20⟩ := q_nm (((((x2.toUInt64 >>> ((23 : Int32).toInt64.toUInt64 &&& Int64.toUInt64 63)).toInt64 : Int64).toInt32 : Int32) &&& (255 : Int32) : Int32) : Int32)
        rw [e20]
        have a72b : 0 ≤ a72.toInt ∧ a72.toInt ≤ (255 : Int32).toInt := by rw [← e20]; exact s_and (by decide)
        have a72c : (255 : Int32).toInt = 255 := rfl
        unfold F_FR_open_J117
        by_cases g21 : a72 = (0 : Int32)
        ·
          rw [if_pos g21]
          have g21i := q_eqI g21
          rw [if_neg g1]
          (unfold Q_FR_open; dsimp only; first | exact ⟨rfl, rfl, fl_o2, ⟨by decide, by decide⟩, fun _ => by decide, ⟨by decide, by decide⟩⟩ | (have ek := fl_exp (a := a72) (k := 150) ⟨by omega, by omega⟩ (by decide); have ek2 : (150 : Int32).toInt = 150 := rfl; rw [ek]; exact ⟨rfl, rfl, fl_o2, ⟨by omega, by omega⟩, fun h => by omega, ⟨by decide, by decide⟩⟩))
        ·
          rw [if_neg g21]
          have g21i := q_neI g21
          rw [if_neg g1]
          (unfold Q_FR_open; dsimp only; first | exact ⟨rfl, rfl, fl_o2, ⟨by decide, by decide⟩, fun _ => by decide, ⟨by decide, by decide⟩⟩ | (have ek := fl_exp (a := a72) (k := 150) ⟨by omega, by omega⟩ (by decide); have ek2 : (150 : Int32).toInt = 150 := rfl; rw [ek]; exact ⟨rfl, rfl, fl_o2, ⟨by omega, by omega⟩, fun h => by omega, ⟨by decide, by decide⟩⟩))
      ·
        rw [if_neg g19]
        obtain ⟨a72, e22⟩ := q_nm (((((x2.toUInt64 >>> ((23 : Int32).toInt64.toUInt64 &&& Int64.toUInt64 63)).toInt64 : Int64).toInt32 : Int32) &&& (255 : Int32) : Int32) : Int32)
        rw [e22]
        have a72b : 0 ≤ a72.toInt ∧ a72.toInt ≤ (255 : Int32).toInt := by rw [← e22]; exact s_and (by decide)
        have a72c : (255 : Int32).toInt = 255 := rfl
        unfold F_FR_open_J117
        by_cases g23 : a72 = (0 : Int32)
        ·
          rw [if_pos g23]
          have g23i := q_eqI g23
          rw [if_neg g1]
          (unfold Q_FR_open; dsimp only; first | exact ⟨rfl, rfl, fl_o4, ⟨by decide, by decide⟩, fun _ => by decide, ⟨by decide, by decide⟩⟩ | (have ek := fl_exp (a := a72) (k := 150) ⟨by omega, by omega⟩ (by decide); have ek2 : (150 : Int32).toInt = 150 := rfl; rw [ek]; exact ⟨rfl, rfl, fl_o4, ⟨by omega, by omega⟩, fun h => by omega, ⟨by decide, by decide⟩⟩))
        ·
          rw [if_neg g23]
          have g23i := q_neI g23
          rw [if_neg g1]
          (unfold Q_FR_open; dsimp only; first | exact ⟨rfl, rfl, fl_o4, ⟨by decide, by decide⟩, fun _ => by decide, ⟨by decide, by decide⟩⟩ | (have ek := fl_exp (a := a72) (k := 150) ⟨by omega, by omega⟩ (by decide); have ek2 : (150 : Int32).toInt = 150 := rfl; rw [ek]; exact ⟨rfl, rfl, fl_o4, ⟨by omega, by omega⟩, fun h => by omega, ⟨by decide, by decide⟩⟩))
def Q_FR_add (t0_1 t0_3 t0_5 t0_6 : Int32) (t0_7 : Int64) (t0_8 : Int32) (t0_9 : Int64) (t0_10 : Int32) (p : Int32 × Int32 × Int32 × Int32 × Int64 × Int32 × Int32 × Int64 × Int32 × Int64 × Int32 × (Nat → Int32)) : Prop := p.2.1.toInt = t0_1.toInt + 1 ∧ p.2.2.2.1 = t0_3 ∧ p.2.2.2.2.2.1.toInt = t0_5.toInt ∧ p.2.2.2.2.2.2.1 = t0_6 ∧ p.2.2.2.2.2.2.2.1 = t0_7 ∧ p.2.2.2.2.2.2.2.2.1.toInt = t0_8.toInt ∧ p.2.2.2.2.2.2.2.2.2.1 = t0_9 ∧ p.2.2.2.2.2.2.2.2.2.2.1.toInt = t0_10.toInt
theorem T_FR_add {x2 : Int32} {t0_0 : Int32} {t0_1 : Int32} {t0_2 : Int32} {t0_3 : Int32} {t0_4 : Int64} {t0_5 : Int32} {t0_6 : Int32} {t0_7 : Int64} {t0_8 : Int32} {t0_9 : Int64} {t0_10 : Int32} {t1_0 : (Nat → Int32)} (hL : 0 ≤ t0_1.toInt ∧ t0_1.toInt ≤ 1599) : (S_FR_add x2 t0_0 t0_1 t0_2 t0_3 t0_4 t0_5 t0_6 t0_7 t0_8 t0_9 t0_10 t1_0) ∧ Q_FR_add t0_1 t0_3 t0_5 t0_6 t0_7 t0_8 t0_9 t0_10 (F_FR_add x2 t0_0 t0_1 t0_2 t0_3 t0_4 t0_5 t0_6 t0_7 t0_8 t0_9 t0_10 t1_0) := by
  have e0 : (0 : Int32).toInt = 0 := rfl
  have e1 : (1 : Int32).toInt = 1 := rfl
  have eL0 : (0 : Int64).toInt = 0 := rfl
  unfold S_FR_add F_FR_add
  refine v_cons (by omega) ?_
  refine v_cons (by omega) ?_
  refine ⟨trivial, ?_⟩
  (unfold Q_FR_add; dsimp only; exact ⟨q_addI (y := 1) rfl (by decide) (by omega) (by omega), rfl, rfl, rfl, rfl, rfl, rfl, rfl⟩)
def Q_FR_begin (t0_1 t0_3 t0_5 t0_6 : Int32) (t0_7 : Int64) (t0_8 : Int32) (t0_9 : Int64) (t0_10 : Int32) (p : Int32 × Int32 × Int32 × Int32 × Int64 × Int32 × Int32 × Int64 × Int32 × Int64 × Int32 × (Nat → Int32)) : Prop := (0 ≤ p.2.1.toInt ∧ p.2.1.toInt ≤ 1) ∧ p.2.2.2.1 = t0_3 ∧ p.2.2.2.2.2.1.toInt = t0_5.toInt ∧ p.2.2.2.2.2.2.1 = t0_6 ∧ p.2.2.2.2.2.2.2.1 = t0_7 ∧ p.2.2.2.2.2.2.2.2.1.toInt = t0_8.toInt ∧ p.2.2.2.2.2.2.2.2.2.1 = t0_9 ∧ p.2.2.2.2.2.2.2.2.2.2.1.toInt = t0_10.toInt
theorem T_FR_begin {t0_0 : Int32} {t0_1 : Int32} {t0_2 : Int32} {t0_3 : Int32} {t0_4 : Int64} {t0_5 : Int32} {t0_6 : Int32} {t0_7 : Int64} {t0_8 : Int32} {t0_9 : Int64} {t0_10 : Int32} {t1_0 : (Nat → Int32)}  : (S_FR_begin t0_0 t0_1 t0_2 t0_3 t0_4 t0_5 t0_6 t0_7 t0_8 t0_9 t0_10 t1_0) ∧ Q_FR_begin t0_1 t0_3 t0_5 t0_6 t0_7 t0_8 t0_9 t0_10 (F_FR_begin t0_0 t0_1 t0_2 t0_3 t0_4 t0_5 t0_6 t0_7 t0_8 t0_9 t0_10 t1_0) := by
  have e0 : (0 : Int32).toInt = 0 := rfl
  have e1 : (1 : Int32).toInt = 1 := rfl
  have eL0 : (0 : Int64).toInt = 0 := rfl
  unfold S_FR_begin F_FR_begin
  by_cases g1 : t0_2 = (0 : Int32)
  ·
    rw [if_pos g1, if_pos g1]
    refine ⟨trivial, ?_⟩
    (unfold Q_FR_begin; dsimp only; first | exact ⟨⟨by decide, by decide⟩, rfl, rfl, rfl, rfl, rfl, rfl, rfl⟩ | exact ⟨⟨by omega, by omega⟩, by assumption, by assumption, by assumption, by assumption, by assumption, by assumption, by assumption⟩)
  ·
    rw [if_neg g1, if_neg g1]
    have h2 := T_FR_add (x2 := (45 : Int32)) (t0_0 := t0_0) (t0_1 := (0 : Int32)) (t0_2 := t0_2) (t0_3 := t0_3) (t0_4 := t0_4) (t0_5 := t0_5) (t0_6 := t0_6) (t0_7 := t0_7) (t0_8 := t0_8) (t0_9 := t0_9) (t0_10 := t0_10) (t1_0 := t1_0) ⟨by first | omega | decide, by first | omega | decide⟩
    with_reducible refine v_owe h2.1 ?_
    replace h2 := h2.2
    generalize F_FR_add (45 : Int32) t0_0 (0 : Int32) t0_2 t0_3 t0_4 t0_5 t0_6 t0_7 t0_8 t0_9 t0_10 t1_0 = p65 at *
    unfold Q_FR_add at h2
    obtain ⟨h21, h23, h25, h26, h27, h28, h29, h2x⟩ := h2
    have h29i := congrArg Int64.toInt h29
    have h27i := congrArg Int64.toInt h27
    unfold S_FR_begin_c15 F_FR_begin_c15
    refine ⟨trivial, ?_⟩
    (unfold Q_FR_begin; dsimp only; first | exact ⟨⟨by decide, by decide⟩, rfl, rfl, rfl, rfl, rfl, rfl, rfl⟩ | exact ⟨⟨by omega, by omega⟩, by assumption, by assumption, by assumption, by assumption, by assumption, by assumption, by assumption⟩)
theorem T_FR_hexadecimalFigure {x2 : Int64} {t0_0 : Int32} {t0_1 : Int32} {t0_2 : Int32} {t0_3 : Int32} {t0_4 : Int64} {t0_5 : Int32} {t0_6 : Int32} {t0_7 : Int64} {t0_8 : Int32} {t0_9 : Int64} {t0_10 : Int32} {t1_0 : (Nat → Int32)} (hL : 0 ≤ t0_1.toInt ∧ t0_1.toInt ≤ 1599) : (S_FR_hexadecimalFigure x2 t0_0 t0_1 t0_2 t0_3 t0_4 t0_5 t0_6 t0_7 t0_8 t0_9 t0_10 t1_0) ∧ Q_FR_add t0_1 t0_3 t0_5 t0_6 t0_7 t0_8 t0_9 t0_10 (F_FR_hexadecimalFigure x2 t0_0 t0_1 t0_2 t0_3 t0_4 t0_5 t0_6 t0_7 t0_8 t0_9 t0_10 t1_0) := by
  have e0 : (0 : Int32).toInt = 0 := rfl
  have e1 : (1 : Int32).toInt = 1 := rfl
  have eL0 : (0 : Int64).toInt = 0 := rfl
  unfold S_FR_hexadecimalFigure F_FR_hexadecimalFigure
  by_cases g1 : (0 : Int32) ≤ (lg_cmp x2 10 : Int32)
  ·
    rw [if_pos g1, if_pos g1]
    have g1l := g_lc5 g1
    have h2 := T_FR_add (x2 := (((97 + x2 : Int64) - 10 : Int64).toInt32 : Int32)) (t0_0 := t0_0) (t0_1 := t0_1) (t0_2 := t0_2) (t0_3 := t0_3) (t0_4 := t0_4) (t0_5 := t0_5) (t0_6 := t0_6) (t0_7 := t0_7) (t0_8 := t0_8) (t0_9 := t0_9) (t0_10 := t0_10) (t1_0 := t1_0) ⟨by first | omega | decide, by first | omega | decide⟩
    with_reducible refine v_owe h2.1 ?_
    replace h2 := h2.2
    generalize F_FR_add (((97 + x2 : Int64) - 10 : Int64).toInt32 : Int32) t0_0 t0_1 t0_2 t0_3 t0_4 t0_5 t0_6 t0_7 t0_8 t0_9 t0_10 t1_0 = p71 at *
    unfold Q_FR_add at h2
    obtain ⟨h21, h23, h25, h26, h27, h28, h29, h2x⟩ := h2
    have h29i := congrArg Int64.toInt h29
    have h27i := congrArg Int64.toInt h27
    unfold S_FR_hexadecimalFigure_c27 F_FR_hexadecimalFigure_c27
    refine ⟨trivial, ?_⟩
    (unfold Q_FR_add; dsimp only; exact ⟨by omega, by assumption, by assumption, by assumption, by assumption, by assumption, by assumption, by assumption⟩)
  ·
    rw [if_neg g1, if_neg g1]
    have g1l := g_lc6 g1
    have h3 := T_FR_add (x2 := ((48 + x2 : Int64).toInt32 : Int32)) (t0_0 := t0_0) (t0_1 := t0_1) (t0_2 := t0_2) (t0_3 := t0_3) (t0_4 := t0_4) (t0_5 := t0_5) (t0_6 := t0_6) (t0_7 := t0_7) (t0_8 := t0_8) (t0_9 := t0_9) (t0_10 := t0_10) (t1_0 := t1_0) ⟨by first | omega | decide, by first | omega | decide⟩
    with_reducible refine v_owe h3.1 ?_
    replace h3 := h3.2
    generalize F_FR_add ((48 + x2 : Int64).toInt32 : Int32) t0_0 t0_1 t0_2 t0_3 t0_4 t0_5 t0_6 t0_7 t0_8 t0_9 t0_10 t1_0 = p139 at *
    unfold Q_FR_add at h3
    obtain ⟨h31, h33, h35, h36, h37, h38, h39, h3x⟩ := h3
    have h39i := congrArg Int64.toInt h39
    have h37i := congrArg Int64.toInt h37
    unfold S_FR_hexadecimalFigure_c27_2 F_FR_hexadecimalFigure_c27_2
    refine ⟨trivial, ?_⟩
    (unfold Q_FR_add; dsimp only; exact ⟨by omega, by assumption, by assumption, by assumption, by assumption, by assumption, by assumption, by assumption⟩)
def Q_FR_name (p : Int32 × Int32 × Int32 × Int32 × Int64 × Int32 × Int32 × Int64 × Int32 × Int64 × Int32 × (Nat → Int32)) : Prop := 0 ≤ p.2.1.toInt ∧ p.2.1.toInt ≤ 9
theorem vf_nm {t0_0 : Int32} {t0_1 : Int32} {t0_2 : Int32} {t0_3 : Int32} {t0_4 : Int64} {t0_5 : Int32} {t0_6 : Int32} {t0_7 : Int64} {t0_8 : Int32} {t0_9 : Int64} {t0_10 : Int32} {t1_0 : (Nat → Int32)} {p65 : (Int32 × Int32 × Int32 × Int32 × Int64 × Int32 × Int32 × Int64 × Int32 × Int64 × Int32 × (Nat → Int32))}  : ∀ (n : Nat) (lx85 : Int32) (lx86 : Int32) (lx87 : Int32) (lx88 : Int32) (lx89 : Int32) (lx90 : Int64) (lx91 : Int32) (lx92 : Int32) (lx93 : Int64) (lx94 : Int32) (lx95 : Int64) (lx96 : Int32) (lx97 : (Nat → Int32)), (0 ≤ lx85.toInt ∧ lx85.toInt ≤ 8) → (8 - lx85.toInt < (n : Int)) → (0 ≤ lx87.toInt ∧ lx87.toInt ≤ lx85.toInt + 1) → (S_FR_name_L43 t0_0 t0_1 t0_2 t0_3 t0_4 t0_5 t0_6 t0_7 t0_8 t0_9 t0_10 t1_0 p65 n lx85 lx86 lx87 lx88 lx89 lx90 lx91 lx92 lx93 lx94 lx95 lx96 lx97) ∧ Q_FR_name (F_FR_name_L43 t0_0 t0_1 t0_2 t0_3 t0_4 t0_5 t0_6 t0_7 t0_8 t0_9 t0_10 t1_0 p65 n lx85 lx86 lx87 lx88 lx89 lx90 lx91 lx92 lx93 lx94 lx95 lx96 lx97) := by
  intro n
  induction n with
  | zero => intro lx85 lx86 lx87 lx88 lx89 lx90 lx91 lx92 lx93 lx94 lx95 lx96 lx97 h0 hm h1; exact absurd (show False by omega) id
  | succ n ih =>
    intro lx85 lx86 lx87 lx88 lx89 lx90 lx91 lx92 lx93 lx94 lx95 lx96 lx97 h0 hm h1
    have e0 : (0 : Int32).toInt = 0 := rfl
    have e1 : (1 : Int32).toInt = 1 := rfl
    have eL0 : (0 : Int64).toInt = 0 := rfl
    rw [S_FR_name_L43.eq_2, F_FR_name_L43.eq_2]
    by_cases g1 : (8 : Int32) ≤ lx85
    ·
      rw [if_pos g1, if_pos g1]
      have g1i : 8 ≤ lx85.toInt := q_leI g1
      refine ⟨trivial, ?_⟩
      (unfold Q_FR_name; dsimp only; exact ⟨by omega, by omega⟩)
    ·
      rw [if_neg g1, if_neg g1]
      have g1i : lx85.toInt < 8 := q_nleI g1
      have h2 := T_FR_add (x2 := ((((8751735898823355977 : Int64) >>> ((8 * lx85 : Int32).toInt64 &&& 63) : Int64) &&& 255 : Int64).toInt32 : Int32)) (t0_0 := lx86) (t0_1 := lx87) (t0_2 := lx88) (t0_3 := lx89) (t0_4 := lx90) (t0_5 := lx91) (t0_6 := lx92) (t0_7 := lx93) (t0_8 := lx94) (t0_9 := lx95) (t0_10 := lx96) (t1_0 := lx97) ⟨by first | omega | decide, by first | omega | decide⟩
      with_reducible refine v_owe h2.1 ?_
      replace h2 := h2.2
      generalize F_FR_add ((((8751735898823355977 : Int64) >>> ((8 * lx85 : Int32).toInt64 &&& 63) : Int64) &&& 255 : Int64).toInt32 : Int32) lx86 lx87 lx88 lx89 lx90 lx91 lx92 lx93 lx94 lx95 lx96 lx97 = p188 at *
      unfold Q_FR_add at h2
      obtain ⟨h21, h23, h25, h26, h27, h28, h29, h2x⟩ := h2
      have h29i := congrArg Int64.toInt h29
      have h27i := congrArg Int64.toInt h27
      unfold S_FR_name_c61 F_FR_name_c61
      obtain ⟨a3, e4⟩ := q_nm (lx85 + 1 : Int32)
      rw [e4]
      have a3i : a3.toInt = lx85.toInt + 1 := by rw [← e4]; exact q_addI (x := lx85.toInt) (y := 1) rfl (by decide) (by omega) (by omega)
      exact ih _ _ _ _ _ _ _ _ _ _ _ _ _ ⟨by omega, by omega⟩ (by omega) ⟨by omega, by omega⟩
theorem T_FR_name {t0_0 : Int32} {t0_1 : Int32} {t0_2 : Int32} {t0_3 : Int32} {t0_4 : Int64} {t0_5 : Int32} {t0_6 : Int32} {t0_7 : Int64} {t0_8 : Int32} {t0_9 : Int64} {t0_10 : Int32} {t1_0 : (Nat → Int32)}  : (S_FR_name t0_0 t0_1 t0_2 t0_3 t0_4 t0_5 t0_6 t0_7 t0_8 t0_9 t0_10 t1_0) ∧ Q_FR_name (F_FR_name t0_0 t0_1 t0_2 t0_3 t0_4 t0_5 t0_6 t0_7 t0_8 t0_9 t0_10 t1_0) := by
  have e0 : (0 : Int32).toInt = 0 := rfl
  have e1 : (1 : Int32).toInt = 1 := rfl
  have eL0 : (0 : Int64).toInt = 0 := rfl
  unfold S_FR_name F_FR_name
  by_cases g1 : (lg_cmp t0_4 0 : Int32) = (0 : Int32)
  ·
    rw [if_pos g1, if_pos g1]
    have g1z := fl_lz g1
    have h2 := T_FR_begin (t0_0 := t0_0) (t0_1 := (0 : Int32)) (t0_2 := t0_2) (t0_3 := t0_3) (t0_4 := t0_4) (t0_5 := t0_5) (t0_6 := t0_6) (t0_7 := t0_7) (t0_8 := t0_8) (t0_9 := t0_9) (t0_10 := t0_10) (t1_0 := t1_0) 
    with_reducible refine v_owe h2.1 ?_
    replace h2 := h2.2
    generalize F_FR_begin t0_0 (0 : Int32) t0_2 t0_3 t0_4 t0_5 t0_6 t0_7 t0_8 t0_9 t0_10 t1_0 = p65 at *
    unfold Q_FR_begin at h2
    obtain ⟨h21, h23, h25, h26, h27, h28, h29, h2x⟩ := h2
    have h29i := congrArg Int64.toInt h29
    have h27i := congrArg Int64.toInt h27
    unfold S_FR_name_c34 F_FR_name_c34
    exact vf_nm _ _ _ _ _ _ _ _ _ _ _ _ _ _ ⟨by decide, by decide⟩ (by decide) ⟨by omega, by omega⟩
  ·
    rw [if_neg g1, if_neg g1]
    have g1z := fl_lnz g1
    have h3 := T_FR_add (x2 := (78 : Int32)) (t0_0 := t0_0) (t0_1 := (0 : Int32)) (t0_2 := t0_2) (t0_3 := t0_3) (t0_4 := t0_4) (t0_5 := t0_5) (t0_6 := t0_6) (t0_7 := t0_7) (t0_8 := t0_8) (t0_9 := t0_9) (t0_10 := t0_10) (t1_0 := t1_0) ⟨by first | omega | decide, by first | omega | decide⟩
    with_reducible refine v_owe h3.1 ?_
    replace h3 := h3.2
    generalize F_FR_add (78 : Int32) t0_0 (0 : Int32) t0_2 t0_3 t0_4 t0_5 t0_6 t0_7 t0_8 t0_9 t0_10 t1_0 = p254 at *
    unfold Q_FR_add at h3
    obtain ⟨h31, h33, h35, h36, h37, h38, h39, h3x⟩ := h3
    have h39i := congrArg Int64.toInt h39
    have h37i := congrArg Int64.toInt h37
    unfold S_FR_name_c17 F_FR_name_c17
    have h4 := T_FR_add (x2 := (97 : Int32)) (t0_0 := (p254.1 : Int32)) (t0_1 := (p254.2.1 : Int32)) (t0_2 := (p254.2.2.1 : Int32)) (t0_3 := (p254.2.2.2.1 : Int32)) (t0_4 := (p254.2.2.2.2.1 : Int64)) (t0_5 := (p254.2.2.2.2.2.1 : Int32)) (t0_6 := (p254.2.2.2.2.2.2.1 : Int32)) (t0_7 := (p254.2.2.2.2.2.2.2.1 : Int64)) (t0_8 := (p254.2.2.2.2.2.2.2.2.1 : Int32)) (t0_9 := (p254.2.2.2.2.2.2.2.2.2.1 : Int64)) (t0_10 := (p254.2.2.2.2.2.2.2.2.2.2.1 : Int32)) (t1_0 := (p254.2.2.2.2.2.2.2.2.2.2.2 : (Nat → Int32))) ⟨by first | omega | decide, by first | omega | decide⟩
    with_reducible refine v_owe h4.1 ?_
    replace h4 := h4.2
    generalize F_FR_add (97 : Int32) (p254.1 : Int32) (p254.2.1 : Int32) (p254.2.2.1 : Int32) (p254.2.2.2.1 : Int32) (p254.2.2.2.2.1 : Int64) (p254.2.2.2.2.2.1 : Int32) (p254.2.2.2.2.2.2.1 : Int32) (p254.2.2.2.2.2.2.2.1 : Int64) (p254.2.2.2.2.2.2.2.2.1 : Int32) (p254.2.2.2.2.2.2.2.2.2.1 : Int64) (p254.2.2.2.2.2.2.2.2.2.2.1 : Int32) (p254.2.2.2.2.2.2.2.2.2.2.2 : (Nat → Int32)) = p316 at *
    unfold Q_FR_add at h4
    obtain ⟨h41, h43, h45, h46, h47, h48, h49, h4x⟩ := h4
    have h49i := congrArg Int64.toInt h49
    have h47i := congrArg Int64.toInt h47
    unfold S_FR_name_c23 F_FR_name_c23
    have h5 := T_FR_add (x2 := (78 : Int32)) (t0_0 := (p316.1 : Int32)) (t0_1 := (p316.2.1 : Int32)) (t0_2 := (p316.2.2.1 : Int32)) (t0_3 := (p316.2.2.2.1 : Int32)) (t0_4 := (p316.2.2.2.2.1 : Int64)) (t0_5 := (p316.2.2.2.2.2.1 : Int32)) (t0_6 := (p316.2.2.2.2.2.2.1 : Int32)) (t0_7 := (p316.2.2.2.2.2.2.2.1 : Int64)) (t0_8 := (p316.2.2.2.2.2.2.2.2.1 : Int32)) (t0_9 := (p316.2.2.2.2.2.2.2.2.2.1 : Int64)) (t0_10 := (p316.2.2.2.2.2.2.2.2.2.2.1 : Int32)) (t1_0 := (p316.2.2.2.2.2.2.2.2.2.2.2 : (Nat → Int32))) ⟨by first | omega | decide, by first | omega | decide⟩
    with_reducible refine v_owe h5.1 ?_
    replace h5 := h5.2
    generalize F_FR_add (78 : Int32) (p316.1 : Int32) (p316.2.1 : Int32) (p316.2.2.1 : Int32) (p316.2.2.2.1 : Int32) (p316.2.2.2.2.1 : Int64) (p316.2.2.2.2.2.1 : Int32) (p316.2.2.2.2.2.2.1 : Int32) (p316.2.2.2.2.2.2.2.1 : Int64) (p316.2.2.2.2.2.2.2.2.1 : Int32) (p316.2.2.2.2.2.2.2.2.2.1 : Int64) (p316.2.2.2.2.2.2.2.2.2.2.1 : Int32) (p316.2.2.2.2.2.2.2.2.2.2.2 : (Nat → Int32)) = p378 at *
    unfold Q_FR_add at h5
    obtain ⟨h51, h53, h55, h56, h57, h58, h59, h5x⟩ := h5
    have h59i := congrArg Int64.toInt h59
    have h57i := congrArg Int64.toInt h57
    unfold S_FR_name_c29 F_FR_name_c29
    refine ⟨trivial, ?_⟩
    (unfold Q_FR_name; dsimp only; exact ⟨by omega, by omega⟩)
def Q_FR_number (t0_1 : Int32) (p : Int32 × Int32 × Int32 × Int32 × Int64 × Int32 × Int32 × Int64 × Int32 × Int64 × Int32 × (Nat → Int32)) : Prop := t0_1.toInt ≤ p.2.1.toInt ∧ p.2.1.toInt ≤ t0_1.toInt + 4
def flTen (t : Int) : Prop := t = 1 ∨ t = 10 ∨ t = 100 ∨ t = 1000
theorem fl_n10 {x t : Int32} (hx : 0 ≤ x.toInt ∧ x.toInt ≤ 9999) (ht : flTen t.toInt) (g : ¬ (x / t) ≤ 9) : t.toInt ≤ 100 ∧ (t * 10 : Int32).toInt = t.toInt * 10 := by
  have g2 := q_nleI g
  have e9 : (9 : Int32).toInt = 9 := rfl
  have hp : 0 < t.toInt := by rcases ht with h | h | h | h <;> omega
  have e : (x / t).toInt = x.toInt / t.toInt := q_divI rfl rfl hx.1 hp
  rw [e] at g2
  have h1 : t.toInt ≤ 100 := by
    rcases ht with h | h | h | h <;> rw [h] at g2 <;> omega
  exact ⟨h1, q_mulI (y := 10) rfl (by decide) (by omega) (by omega)⟩
theorem fl_t10 {t : Int32} (h : 0 ≤ t.toInt) : (t / 10).toInt = t.toInt / 10 := q_divI rfl (by decide) h (by decide)
theorem vf_nu2 {K_F_FR_number_L2 : Int32 → (Int32 × Int32 × Int32 × Int32 × Int64 × Int32 × Int32 × Int64 × Int32 × Int64 × Int32 × (Nat → Int32))} {x2 : Int32} {t0_0 : Int32} {t0_1 : Int32} {t0_2 : Int32} {t0_3 : Int32} {t0_4 : Int64} {t0_5 : Int32} {t0_6 : Int32} {t0_7 : Int64} {t0_8 : Int32} {t0_9 : Int64} {t0_10 : Int32} {t1_0 : (Nat → Int32)} {lx18 : Int32} {K_S_FR_number_L2 : Int32 → Prop} (hx : 0 ≤ x2.toInt ∧ x2.toInt ≤ 9999) (hL : 0 ≤ t0_1.toInt ∧ t0_1.toInt ≤ 1596) : ∀ (n : Nat) (lx31 : Int32) (lx32 : Int32) (lx33 : Int32) (lx34 : Int32) (lx35 : Int32) (lx36 : Int64) (lx37 : Int32) (lx38 : Int32) (lx39 : Int64) (lx40 : Int32) (lx41 : Int64) (lx42 : Int32) (lx43 : (Nat → Int32)), ((lx31.toInt = 1000 ∧ lx33.toInt ≤ t0_1.toInt) ∨ (lx31.toInt = 100 ∧ lx33.toInt ≤ t0_1.toInt + 1) ∨ (lx31.toInt = 10 ∧ lx33.toInt ≤ t0_1.toInt + 2) ∨ (lx31.toInt = 1 ∧ lx33.toInt ≤ t0_1.toInt + 3) ∨ (lx31.toInt = 0 ∧ lx33.toInt ≤ t0_1.toInt + 4)) → (lx31.toInt < (n : Int)) → (t0_1.toInt ≤ lx33.toInt) → (S_FR_number_L18 K_S_FR_number_L2 x2 t0_0 t0_1 t0_2 t0_3 t0_4 t0_5 t0_6 t0_7 t0_8 t0_9 t0_10 t1_0 lx18 n lx31 lx32 lx33 lx34 lx35 lx36 lx37 lx38 lx39 lx40 lx41 lx42 lx43) ∧ Q_FR_number t0_1 (F_FR_number_L18 K_F_FR_number_L2 x2 t0_0 t0_1 t0_2 t0_3 t0_4 t0_5 t0_6 t0_7 t0_8 t0_9 t0_10 t1_0 lx18 n lx31 lx32 lx33 lx34 lx35 lx36 lx37 lx38 lx39 lx40 lx41 lx42 lx43) := by
  intro n
  induction n with
  | zero => intro lx31 lx32 lx33 lx34 lx35 lx36 lx37 lx38 lx39 lx40 lx41 lx42 lx43 h0 hm h1; exact absurd (show False by omega) id
  | succ n ih =>
    intro lx31 lx32 lx33 lx34 lx35 lx36 lx37 lx38 lx39 lx40 lx41 lx42 lx43 h0 hm h1
    have e0 : (0 : Int32).toInt = 0 := rfl
    have e1 : (1 : Int32).toInt = 1 := rfl
    have eL0 : (0 : Int64).toInt = 0 := rfl
    rw [S_FR_number_L18.eq_2, F_FR_number_L18.eq_2]
    by_cases g1 : lx31 ≤ (0 : Int32)
    ·
      rw [if_pos g1, if_pos g1]
      have g1i : lx31.toInt ≤ 0 := q_leI g1
      refine ⟨trivial, ?_⟩
      (unfold Q_FR_number; dsimp only; exact ⟨by omega, by omega⟩)
    ·
      rw [if_neg g1, if_neg g1]
      have g1i : 0 < lx31.toInt := q_nleI g1
      have h2 := T_FR_add (x2 := (48 + ((x2 / lx31 : Int32) - (x2 / lx31 : Int32) / 10 * 10 : Int32) : Int32)) (t0_0 := lx32) (t0_1 := lx33) (t0_2 := lx34) (t0_3 := lx35) (t0_4 := lx36) (t0_5 := lx37) (t0_6 := lx38) (t0_7 := lx39) (t0_8 := lx40) (t0_9 := lx41) (t0_10 := lx42) (t1_0 := lx43) ⟨by first | omega | decide, by first | omega | decide⟩
      with_reducible refine v_owe h2.1 ?_
      replace h2 := h2.2
      generalize F_FR_add (48 + ((x2 / lx31 : Int32) - (x2 / lx31 : Int32) / 10 * 10 : Int32) : Int32) lx32 lx33 lx34 lx35 lx36 lx37 lx38 lx39 lx40 lx41 lx42 lx43 = p128 at *
      unfold Q_FR_add at h2
      obtain ⟨h21, h23, h25, h26, h27, h28, h29, h2x⟩ := h2
      have h29i := congrArg Int64.toInt h29
      have h27i := congrArg Int64.toInt h27
      unfold S_FR_number_c32 F_FR_number_c32
      have q := fl_t10 (t := lx31) (by omega); exact ih _ _ _ _ _ _ _ _ _ _ _ _ _ (by omega) (by omega) (by omega)
theorem vf_nu1 {x2 : Int32} {t0_0 : Int32} {t0_1 : Int32} {t0_2 : Int32} {t0_3 : Int32} {t0_4 : Int64} {t0_5 : Int32} {t0_6 : Int32} {t0_7 : Int64} {t0_8 : Int32} {t0_9 : Int64} {t0_10 : Int32} {t1_0 : (Nat → Int32)} (hx : 0 ≤ x2.toInt ∧ x2.toInt ≤ 9999) (hL : 0 ≤ t0_1.toInt ∧ t0_1.toInt ≤ 1596) : ∀ (n : Nat) (lx18 : Int32), ((lx18.toInt = 1 ∧ 4 ≤ (n : Int)) ∨ (lx18.toInt = 10 ∧ 3 ≤ (n : Int)) ∨ (lx18.toInt = 100 ∧ 2 ≤ (n : Int)) ∨ (lx18.toInt = 1000 ∧ 1 ≤ (n : Int))) → (S_FR_number_L2 x2 t0_0 t0_1 t0_2 t0_3 t0_4 t0_5 t0_6 t0_7 t0_8 t0_9 t0_10 t1_0 n lx18) ∧ Q_FR_number t0_1 (F_FR_number_L2 x2 t0_0 t0_1 t0_2 t0_3 t0_4 t0_5 t0_6 t0_7 t0_8 t0_9 t0_10 t1_0 n lx18) := by
  intro n
  induction n with
  | zero => intro lx18 h0; exact absurd (show False by omega) id
  | succ n ih =>
    intro lx18 h0
    have e0 : (0 : Int32).toInt = 0 := rfl
    have e1 : (1 : Int32).toInt = 1 := rfl
    have eL0 : (0 : Int64).toInt = 0 := rfl
    rw [S_FR_number_L2.eq_2, F_FR_number_L2.eq_2]
    refine v_cons (by omega) ?_
    by_cases g1 : (x2 / lx18 : Int32) ≤ (9 : Int32)
    ·
      rw [if_pos g1, if_pos g1]
      exact vf_nu2 hx hL _ _ _ _ _ _ _ _ _ _ _ _ _ _ (by omega) (by omega) (by omega)
    ·
      rw [if_neg g1, if_neg g1]
      have tn := fl_n10 hx (by unfold flTen; omega) g1
      exact ih _ (by omega)
theorem T_FR_number {x2 : Int32} {t0_0 : Int32} {t0_1 : Int32} {t0_2 : Int32} {t0_3 : Int32} {t0_4 : Int64} {t0_5 : Int32} {t0_6 : Int32} {t0_7 : Int64} {t0_8 : Int32} {t0_9 : Int64} {t0_10 : Int32} {t1_0 : (Nat → Int32)} (hx : 0 ≤ x2.toInt ∧ x2.toInt ≤ 9999) (hL : 0 ≤ t0_1.toInt ∧ t0_1.toInt ≤ 1596) : (S_FR_number x2 t0_0 t0_1 t0_2 t0_3 t0_4 t0_5 t0_6 t0_7 t0_8 t0_9 t0_10 t1_0) ∧ Q_FR_number t0_1 (F_FR_number x2 t0_0 t0_1 t0_2 t0_3 t0_4 t0_5 t0_6 t0_7 t0_8 t0_9 t0_10 t1_0) := by
  have e0 : (0 : Int32).toInt = 0 := rfl
  have e1 : (1 : Int32).toInt = 1 := rfl
  have eL0 : (0 : Int64).toInt = 0 := rfl
  unfold S_FR_number F_FR_number
  exact vf_nu1 hx hL _ _ (by decide)
def Q_FR_shortestTop (t0_10 : Int32) (p : Int32) : Prop := t0_10.toInt - 1080 ≤ p.toInt ∧ p.toInt ≤ t0_10.toInt - 1062
theorem fl_q10 {v : Int64} (h : 0 ≤ v.toInt) : (v / 10).toInt = v.toInt / 10 := v_divL (y := 10) h (by decide)
theorem fl_p10b {v : Int} {m : Nat} (b : v < 10 ^ m) (h : 9 < v) : 2 ≤ m ∧ v / 10 < 10 ^ (m - 1) := by
  have m2 : 2 ≤ m := by
    by_cases c : m = 0
    · rw [c, Int.pow_zero] at b; omega
    · by_cases d : m = 1
      · rw [d] at b; have e : (10 : Int) ^ 1 = 10 := by decide
        omega
      · omega
  refine ⟨m2, ?_⟩
  have p : (10 : Int) ^ m = 10 ^ (m - 1) * 10 := by rw [← fl_pw, show m - 1 + 1 = m by omega]
  rw [p] at b
  generalize (10 : Int) ^ (m - 1) = P at *
  omega
theorem vf_st {t0_0 : Int32} {t0_1 : Int32} {t0_2 : Int32} {t0_3 : Int32} {t0_4 : Int64} {t0_5 : Int32} {t0_6 : Int32} {t0_7 : Int64} {t0_8 : Int32} {t0_9 : Int64} {t0_10 : Int32} (hS9 : 1 ≤ t0_9.toInt ∧ t0_9.toInt ≤ 1000000000000000000) (hS10 : 0 ≤ t0_10.toInt ∧ t0_10.toInt ≤ 1500) : ∀ (n : Nat) (lx18 : Int64) (lx19 : Int32), (1 ≤ lx18.toInt ∧ lx18.toInt ≤ 1000000000000000000) → (∃ m : Nat, 1 ≤ m ∧ m ≤ n ∧ lx18.toInt < 10 ^ m ∧ (m : Int) + lx19.toInt ≤ t0_10.toInt - 1061) → (t0_10.toInt - 1080 ≤ lx19.toInt) → (S_FR_shortestTop_L14 t0_0 t0_1 t0_2 t0_3 t0_4 t0_5 t0_6 t0_7 t0_8 t0_9 t0_10 n lx18 lx19) ∧ Q_FR_shortestTop t0_10 (F_FR_shortestTop_L14 t0_0 t0_1 t0_2 t0_3 t0_4 t0_5 t0_6 t0_7 t0_8 t0_9 t0_10 n lx18 lx19) := by
  intro n
  induction n with
  | zero => intro lx18 lx19 h1 hm h2; obtain ⟨m, a, b, -⟩ := hm; omega
  | succ n ih =>
    intro lx18 lx19 h1 hm h2
    have e0 : (0 : Int32).toInt = 0 := rfl
    have e1 : (1 : Int32).toInt = 1 := rfl
    have eL0 : (0 : Int64).toInt = 0 := rfl
    have e9 : (9 : Int64).toInt = 9 := rfl
    have h18 : lx19.toInt ≤ t0_10.toInt - 1062 := by obtain ⟨m, a, b, c, d⟩ := hm; omega
    rw [S_FR_shortestTop_L14.eq_2, F_FR_shortestTop_L14.eq_2]
    by_cases g1 : (lg_cmp lx18 9 : Int32) ≤ (0 : Int32)
    ·
      rw [if_pos g1, if_pos g1]
      have g1l := g_lc3 g1
      refine ⟨trivial, ?_⟩
      exact ⟨h2, h18⟩
    ·
      rw [if_neg g1, if_neg g1]
      have g1l := g_lc4 g1
      obtain ⟨a2, e3⟩ := q_nm (lx19 + 1 : Int32)
      rw [e3]
      have a2i : a2.toInt = lx19.toInt + 1 := by rw [← e3]; exact q_addI (x := lx19.toInt) (y := 1) rfl (by decide) (by omega) (by omega)
      have q := fl_q10 (v := lx18) (by omega); obtain ⟨m, a, b, c, d⟩ := hm; have mp := fl_p10b c (by omega); exact ih _ _ ⟨by omega, by omega⟩ ⟨m - 1, by omega, by omega, by rw [q]; exact mp.2, by omega⟩ (by omega)
theorem T_FR_shortestTop {t0_0 : Int32} {t0_1 : Int32} {t0_2 : Int32} {t0_3 : Int32} {t0_4 : Int64} {t0_5 : Int32} {t0_6 : Int32} {t0_7 : Int64} {t0_8 : Int32} {t0_9 : Int64} {t0_10 : Int32} (hS9 : 1 ≤ t0_9.toInt ∧ t0_9.toInt ≤ 1000000000000000000) (hS10 : 0 ≤ t0_10.toInt ∧ t0_10.toInt ≤ 1500) : (S_FR_shortestTop t0_0 t0_1 t0_2 t0_3 t0_4 t0_5 t0_6 t0_7 t0_8 t0_9 t0_10) ∧ Q_FR_shortestTop t0_10 (F_FR_shortestTop t0_0 t0_1 t0_2 t0_3 t0_4 t0_5 t0_6 t0_7 t0_8 t0_9 t0_10) := by
  have e0 : (0 : Int32).toInt = 0 := rfl
  have e1 : (1 : Int32).toInt = 1 := rfl
  have eL0 : (0 : Int64).toInt = 0 := rfl
  unfold S_FR_shortestTop F_FR_shortestTop
  have e5 : (t0_10 - 1080 : Int32).toInt = t0_10.toInt - 1080 := q_subI (y := 1080) rfl (by decide) (by omega) (by omega); exact vf_st hS9 hS10 _ _ _ hS9 ⟨19, by decide, by decide, Int.lt_of_le_of_lt hS9.2 (by decide), by omega⟩ (by omega)
theorem T_FR_isBelow {x2 : Int32} {t0_0 : Int32} {t0_1 : Int32} {t0_2 : Int32} {t0_3 : Int32} {t0_4 : Int64} {t0_5 : Int32} {t0_6 : Int32} {t0_7 : Int64} {t0_8 : Int32} {t0_9 : Int64} {t0_10 : Int32} {t1_0 : (Nat → Int32)} (hw : flW t1_0) (hn : flNz t1_0) : (S_FR_isBelow x2 t0_0 t0_1 t0_2 t0_3 t0_4 t0_5 t0_6 t0_7 t0_8 t0_9 t0_10 t1_0) := by
  have e0 : (0 : Int32).toInt = 0 := rfl
  have e1 : (1 : Int32).toInt = 1 := rfl
  have eL0 : (0 : Int64).toInt = 0 := rfl
  unfold S_FR_isBelow
  have h1 := T_FR_top (t0_0 := t0_0) (t0_1 := t0_1) (t0_2 := t0_2) (t0_3 := t0_3) (t0_4 := t0_4) (t0_5 := t0_5) (t0_6 := t0_6) (t0_7 := t0_7) (t0_8 := t0_8) (t0_9 := t0_9) (t0_10 := t0_10) (t1_0 := t1_0) (by with_reducible assumption) (by with_reducible assumption)
  have h1q := h1.2
  with_reducible refine v_oweS h1.1 ?_
  by_cases g2 : (x2 + 1080 : Int32) ≤ ((F_FR_top t0_0 t0_1 t0_2 t0_3 t0_4 t0_5 t0_6 t0_7 t0_8 t0_9 t0_10 t1_0) : Int32)
  ·
    rw [if_pos g2]
    exact trivial
  ·
    rw [if_neg g2]
    exact trivial
theorem fl_pw8 {a : Int32} (h : 0 ≤ a.toInt ∧ a.toInt ≤ 1500) : -1080 ≤ (a - 1080 : Int32).toInt ∧ (a - 1080 : Int32).toInt ≤ 420 := by
  have e5 : (a - 1080 : Int32).toInt = a.toInt - 1080 := q_subI (y := 1080) rfl (by decide) (by omega) (by omega)
  omega
def Q_FR_digits (p : Int64 × Int32 × Int32 × Int32 × Int32 × Int64 × Int32 × Int32 × Int64 × Int32 × Int64 × Int32 × (Nat → Int32) × (Nat → Int32) × (Nat → Int32) × (Nat → Int32) × (Nat → Int32) × (Nat → Int32)) : Prop := 0 ≤ p.1.toInt ∧ p.1.toInt ≤ 1000000000000000000
theorem T_FR_digits {x2 : Int64} {x3 : Int32} {t0_0 : Int32} {t0_1 : Int32} {t0_2 : Int32} {t0_3 : Int32} {t0_4 : Int64} {t0_5 : Int32} {t0_6 : Int32} {t0_7 : Int64} {t0_8 : Int32} {t0_9 : Int64} {t0_10 : Int32} {t1_0 : (Nat → Int32)} {t2_0 : (Nat → Int32)} {t3_0 : (Nat → Int32)} {t4_0 : (Nat → Int32)} {t5_0 : (Nat → Int32)} {t6_0 : (Nat → Int32)}  : (S_FR_digits x2 x3 t0_0 t0_1 t0_2 t0_3 t0_4 t0_5 t0_6 t0_7 t0_8 t0_9 t0_10 t1_0 t2_0 t3_0 t4_0 t5_0 t6_0) ∧ Q_FR_digits (F_FR_digits x2 x3 t0_0 t0_1 t0_2 t0_3 t0_4 t0_5 t0_6 t0_7 t0_8 t0_9 t0_10 t1_0 t2_0 t3_0 t4_0 t5_0 t6_0) := by
  have e0 : (0 : Int32).toInt = 0 := rfl
  have e1 : (1 : Int32).toInt = 1 := rfl
  have eL0 : (0 : Int64).toInt = 0 := rfl
  unfold S_FR_digits F_FR_digits
  by_cases g1 : x3 = (0 : Int32)
  ·
    rw [if_pos g1, if_pos g1]
    have g1i : x3.toInt = 0 := q_eqI g1
    unfold S_FR_digits_J18 F_FR_digits_J18
    unfold S_FR_digits_J19 F_FR_digits_J19
    have h2 := T_FR_open (x2 := x2) (x3 := (0 : Int32)) (t0_0 := t0_0) (t0_1 := t0_1) (t0_2 := t0_2) (t0_3 := t0_3) (t0_4 := t0_4) (t0_5 := t0_5) (t0_6 := t0_6) (t0_7 := t0_7) (t0_8 := t0_8) (t0_9 := t0_9) (t0_10 := t0_10) 
    generalize F_FR_open x2 (0 : Int32) t0_0 t0_1 t0_2 t0_3 t0_4 t0_5 t0_6 t0_7 t0_8 t0_9 t0_10 = p85 at *
    unfold Q_FR_open at h2
    obtain ⟨h2a, h2b, h27, h28, h2f, h25⟩ := h2
    have op7 := h27
    have op8 := h28
    have opf := h2f
    unfold S_FR_digits_c19 F_FR_digits_c19
    by_cases g3 : ((F_FR_isWrong x2 x3) : Int32) = (0 : Int32)
    ·
      rw [if_pos g3, if_pos g3]
      by_cases g4 : ((F_FR_isFinite (p85.1 : Int32) (p85.2.1 : Int32) (p85.2.2.1 : Int32) (p85.2.2.2.1 : Int32) (p85.2.2.2.2.1 : Int64) (p85.2.2.2.2.2.1 : Int32) (p85.2.2.2.2.2.2.1 : Int32) (p85.2.2.2.2.2.2.2.1 : Int64) (p85.2.2.2.2.2.2.2.2.1 : Int32) (p85.2.2.2.2.2.2.2.2.2.1 : Int64) (p85.2.2.2.2.2.2.2.2.2.2 : Int32)) : Int32) = (0 : Int32)
      ·
        rw [if_pos g4, if_pos g4]
        unfold S_FR_digits_J47 F_FR_digits_J47
        have g5 : ((0 : Int32) < (2 : Int32)) := (by decide)
        rw [if_pos g5, if_pos g5]
        refine ⟨trivial, ?_⟩
        (unfold Q_FR_digits; dsimp only; first | exact ⟨by decide, by decide⟩ | exact ⟨by omega, by omega⟩ | exact fl_pw8 (by assumption))
      ·
        rw [if_neg g4, if_neg g4]
        have fin := fl_fin g4
        unfold S_FR_digits_J47 F_FR_digits_J47
        have g6 : ¬ ((0 : Int32) < (0 : Int32)) := (by decide)
        rw [if_neg g6, if_neg g6]
        by_cases g7 : (lg_cmp (p85.2.2.2.2.2.2.2.1 : Int64) 0 : Int32) = (0 : Int32)
        ·
          rw [if_pos g7, if_pos g7]
          have g7z := fl_lz g7
          refine ⟨trivial, ?_⟩
          (unfold Q_FR_digits; dsimp only; first | exact ⟨by decide, by decide⟩ | exact ⟨by omega, by omega⟩ | exact fl_pw8 (by assumption))
        ·
          rw [if_neg g7, if_neg g7]
          have g7z := fl_lnz g7
          have h8 := T_FR_findShortest (t0_0 := (0 : Int32)) (t0_1 := (p85.2.1 : Int32)) (t0_2 := (p85.2.2.1 : Int32)) (t0_3 := (p85.2.2.2.1 : Int32)) (t0_4 := (p85.2.2.2.2.1 : Int64)) (t0_5 := (p85.2.2.2.2.2.1 : Int32)) (t0_6 := (p85.2.2.2.2.2.2.1 : Int32)) (t0_7 := (p85.2.2.2.2.2.2.2.1 : Int64)) (t0_8 := (p85.2.2.2.2.2.2.2.2.1 : Int32)) (t0_9 := (p85.2.2.2.2.2.2.2.2.2.1 : Int64)) (t0_10 := (p85.2.2.2.2.2.2.2.2.2.2 : Int32)) (t1_0 := t1_0) (t2_0 := t2_0) (t3_0 := t3_0) (t4_0 := t4_0) (t5_0 := t5_0) (t6_0 := t6_0) ⟨by omega, by omega⟩ ⟨by omega, by omega⟩
          with_reducible refine v_owe h8.1 ?_
          replace h8 := h8.2
          generalize F_FR_findShortest (0 : Int32) (p85.2.1 : Int32) (p85.2.2.1 : Int32) (p85.2.2.2.1 : Int32) (p85.2.2.2.2.1 : Int64) (p85.2.2.2.2.2.1 : Int32) (p85.2.2.2.2.2.2.1 : Int32) (p85.2.2.2.2.2.2.2.1 : Int64) (p85.2.2.2.2.2.2.2.2.1 : Int32) (p85.2.2.2.2.2.2.2.2.2.1 : Int64) (p85.2.2.2.2.2.2.2.2.2.2 : Int32) t1_0 t2_0 t3_0 t4_0 t5_0 t6_0 = p183 at *
          unfold Q_FR_findShortest at h8
          obtain ⟨h8a, h8b, h8c, h8d, h8e, h8f, h8g, h8h, h8i, h89, h810, h8w, h8n⟩ := h8
          have h8bi := congrArg Int32.toInt h8b
          have hw := h8w
          have hn := h8n
          unfold S_FR_digits_c69 F_FR_digits_c69
          refine ⟨trivial, ?_⟩
          (unfold Q_FR_digits; dsimp only; first | exact ⟨by decide, by decide⟩ | exact ⟨by omega, by omega⟩ | exact fl_pw8 (by assumption))
    ·
      rw [if_neg g3, if_neg g3]
      unfold S_FR_digits_J47 F_FR_digits_J47
      have g9 : ((0 : Int32) < (1 : Int32)) := (by decide)
      rw [if_pos g9, if_pos g9]
      refine ⟨trivial, ?_⟩
      (unfold Q_FR_digits; dsimp only; first | exact ⟨by decide, by decide⟩ | exact ⟨by omega, by omega⟩ | exact fl_pw8 (by assumption))
  ·
    rw [if_neg g1, if_neg g1]
    have g1i : x3.toInt ≠ 0 := q_neI g1
    by_cases g10 : ((F_FR_isWrong x2 x3) : Int32) = (0 : Int32)
    ·
      rw [if_pos g10, if_pos g10]
      unfold S_FR_digits_J19 F_FR_digits_J19
      have h11 := T_FR_open (x2 := x2) (x3 := (1 : Int32)) (t0_0 := t0_0) (t0_1 := t0_1) (t0_2 := t0_2) (t0_3 := t0_3) (t0_4 := t0_4) (t0_5 := t0_5) (t0_6 := t0_6) (t0_7 := t0_7) (t0_8 := t0_8) (t0_9 := t0_9) (t0_10 := t0_10) 
      generalize F_FR_open x2 (1 : Int32) t0_0 t0_1 t0_2 t0_3 t0_4 t0_5 t0_6 t0_7 t0_8 t0_9 t0_10 = p85 at *
      unfold Q_FR_open at h11
      obtain ⟨h11a, h11b, h117, h118, h11f, h115⟩ := h11
      have op7 := h117
      have op8 := h118
      have opf := h11f
      unfold S_FR_digits_c19 F_FR_digits_c19
      rw [if_pos g10, if_pos g10]
      by_cases g12 : ((F_FR_isFinite (p85.1 : Int32) (p85.2.1 : Int32) (p85.2.2.1 : Int32) (p85.2.2.2.1 : Int32) (p85.2.2.2.2.1 : Int64) (p85.2.2.2.2.2.1 : Int32) (p85.2.2.2.2.2.2.1 : Int32) (p85.2.2.2.2.2.2.2.1 : Int64) (p85.2.2.2.2.2.2.2.2.1 : Int32) (p85.2.2.2.2.2.2.2.2.2.1 : Int64) (p85.2.2.2.2.2.2.2.2.2.2 : Int32)) : Int32) = (0 : Int32)
      ·
        rw [if_pos g12, if_pos g12]
        unfold S_FR_digits_J47 F_FR_digits_J47
        have g13 : ((0 : Int32) < (2 : Int32)) := (by decide)
        rw [if_pos g13, if_pos g13]
        refine ⟨trivial, ?_⟩
        (unfold Q_FR_digits; dsimp only; first | exact ⟨by decide, by decide⟩ | exact ⟨by omega, by omega⟩ | exact fl_pw8 (by assumption))
      ·
        rw [if_neg g12, if_neg g12]
        have fin := fl_fin g12
        unfold S_FR_digits_J47 F_FR_digits_J47
        have g14 : ¬ ((0 : Int32) < (0 : Int32)) := (by decide)
        rw [if_neg g14, if_neg g14]
        by_cases g15 : (lg_cmp (p85.2.2.2.2.2.2.2.1 : Int64) 0 : Int32) = (0 : Int32)
        ·
          rw [if_pos g15, if_pos g15]
          have g15z := fl_lz g15
          refine ⟨trivial, ?_⟩
          (unfold Q_FR_digits; dsimp only; first | exact ⟨by decide, by decide⟩ | exact ⟨by omega, by omega⟩ | exact fl_pw8 (by assumption))
        ·
          rw [if_neg g15, if_neg g15]
          have g15z := fl_lnz g15
          have h16 := T_FR_findShortest (t0_0 := (0 : Int32)) (t0_1 := (p85.2.1 : Int32)) (t0_2 := (p85.2.2.1 : Int32)) (t0_3 := (p85.2.2.2.1 : Int32)) (t0_4 := (p85.2.2.2.2.1 : Int64)) (t0_5 := (p85.2.2.2.2.2.1 : Int32)) (t0_6 := (p85.2.2.2.2.2.2.1 : Int32)) (t0_7 := (p85.2.2.2.2.2.2.2.1 : Int64)) (t0_8 := (p85.2.2.2.2.2.2.2.2.1 : Int32)) (t0_9 := (p85.2.2.2.2.2.2.2.2.2.1 : Int64)) (t0_10 := (p85.2.2.2.2.2.2.2.2.2.2 : Int32)) (t1_0 := t1_0) (t2_0 := t2_0) (t3_0 := t3_0) (t4_0 := t4_0) (t5_0 := t5_0) (t6_0 := t6_0) ⟨by omega, by omega⟩ ⟨by omega, by omega⟩
          with_reducible refine v_owe h16.1 ?_
          replace h16 := h16.2
          generalize F_FR_findShortest (0 : Int32) (p85.2.1 : Int32) (p85.2.2.1 : Int32) (p85.2.2.2.1 : Int32) (p85.2.2.2.2.1 : Int64) (p85.2.2.2.2.2.1 : Int32) (p85.2.2.2.2.2.2.1 : Int32) (p85.2.2.2.2.2.2.2.1 : Int64) (p85.2.2.2.2.2.2.2.2.1 : Int32) (p85.2.2.2.2.2.2.2.2.2.1 : Int64) (p85.2.2.2.2.2.2.2.2.2.2 : Int32) t1_0 t2_0 t3_0 t4_0 t5_0 t6_0 = p183 at *
          unfold Q_FR_findShortest at h16
          obtain ⟨h16a, h16b, h16c, h16d, h16e, h16f, h16g, h16h, h16i, h169, h1610, h16w, h16n⟩ := h16
          have h16bi := congrArg Int32.toInt h16b
          have hw := h16w
          have hn := h16n
          unfold S_FR_digits_c69 F_FR_digits_c69
          refine ⟨trivial, ?_⟩
          (unfold Q_FR_digits; dsimp only; first | exact ⟨by decide, by decide⟩ | exact ⟨by omega, by omega⟩ | exact fl_pw8 (by assumption))
    ·
      rw [if_neg g10, if_neg g10]
      unfold S_FR_digits_J18 F_FR_digits_J18
      unfold S_FR_digits_J19 F_FR_digits_J19
      have h17 := T_FR_open (x2 := x2) (x3 := (0 : Int32)) (t0_0 := t0_0) (t0_1 := t0_1) (t0_2 := t0_2) (t0_3 := t0_3) (t0_4 := t0_4) (t0_5 := t0_5) (t0_6 := t0_6) (t0_7 := t0_7) (t0_8 := t0_8) (t0_9 := t0_9) (t0_10 := t0_10) 
      generalize F_FR_open x2 (0 : Int32) t0_0 t0_1 t0_2 t0_3 t0_4 t0_5 t0_6 t0_7 t0_8 t0_9 t0_10 = p85 at *
      unfold Q_FR_open at h17
      obtain ⟨h17a, h17b, h177, h178, h17f, h175⟩ := h17
      have op7 := h177
      have op8 := h178
      have opf := h17f
      unfold S_FR_digits_c19 F_FR_digits_c19
      rw [if_neg g10, if_neg g10]
      unfold S_FR_digits_J47 F_FR_digits_J47
      have g18 : ((0 : Int32) < (1 : Int32)) := (by decide)
      rw [if_pos g18, if_pos g18]
      refine ⟨trivial, ?_⟩
      (unfold Q_FR_digits; dsimp only; first | exact ⟨by decide, by decide⟩ | exact ⟨by omega, by omega⟩ | exact fl_pw8 (by assumption))
def Q_FR_power (p : Int32 × Int32 × Int32 × Int32 × Int32 × Int64 × Int32 × Int32 × Int64 × Int32 × Int64 × Int32 × (Nat → Int32) × (Nat → Int32) × (Nat → Int32) × (Nat → Int32) × (Nat → Int32) × (Nat → Int32)) : Prop := -1080 ≤ p.1.toInt ∧ p.1.toInt ≤ 420
theorem T_FR_power {x2 : Int64} {x3 : Int32} {t0_0 : Int32} {t0_1 : Int32} {t0_2 : Int32} {t0_3 : Int32} {t0_4 : Int64} {t0_5 : Int32} {t0_6 : Int32} {t0_7 : Int64} {t0_8 : Int32} {t0_9 : Int64} {t0_10 : Int32} {t1_0 : (Nat → Int32)} {t2_0 : (Nat → Int32)} {t3_0 : (Nat → Int32)} {t4_0 : (Nat → Int32)} {t5_0 : (Nat → Int32)} {t6_0 : (Nat → Int32)}  : (S_FR_power x2 x3 t0_0 t0_1 t0_2 t0_3 t0_4 t0_5 t0_6 t0_7 t0_8 t0_9 t0_10 t1_0 t2_0 t3_0 t4_0 t5_0 t6_0) ∧ Q_FR_power (F_FR_power x2 x3 t0_0 t0_1 t0_2 t0_3 t0_4 t0_5 t0_6 t0_7 t0_8 t0_9 t0_10 t1_0 t2_0 t3_0 t4_0 t5_0 t6_0) := by
  have e0 : (0 : Int32).toInt = 0 := rfl
  have e1 : (1 : Int32).toInt = 1 := rfl
  have eL0 : (0 : Int64).toInt = 0 := rfl
  unfold S_FR_power F_FR_power
  by_cases g1 : x3 = (0 : Int32)
  ·
    rw [if_pos g1, if_pos g1]
    have g1i : x3.toInt = 0 := q_eqI g1
    unfold S_FR_power_J18 F_FR_power_J18
    unfold S_FR_power_J19 F_FR_power_J19
    have h2 := T_FR_open (x2 := x2) (x3 := (0 : Int32)) (t0_0 := t0_0) (t0_1 := t0_1) (t0_2 := t0_2) (t0_3 := t0_3) (t0_4 := t0_4) (t0_5 := t0_5) (t0_6 := t0_6) (t0_7 := t0_7) (t0_8 := t0_8) (t0_9 := t0_9) (t0_10 := t0_10) 
    generalize F_FR_open x2 (0 : Int32) t0_0 t0_1 t0_2 t0_3 t0_4 t0_5 t0_6 t0_7 t0_8 t0_9 t0_10 = p85 at *
    unfold Q_FR_open at h2
    obtain ⟨h2a, h2b, h27, h28, h2f, h25⟩ := h2
    have op7 := h27
    have op8 := h28
    have opf := h2f
    unfold S_FR_power_c19 F_FR_power_c19
    by_cases g3 : ((F_FR_isWrong x2 x3) : Int32) = (0 : Int32)
    ·
      rw [if_pos g3, if_pos g3]
      by_cases g4 : ((F_FR_isFinite (p85.1 : Int32) (p85.2.1 : Int32) (p85.2.2.1 : Int32) (p85.2.2.2.1 : Int32) (p85.2.2.2.2.1 : Int64) (p85.2.2.2.2.2.1 : Int32) (p85.2.2.2.2.2.2.1 : Int32) (p85.2.2.2.2.2.2.2.1 : Int64) (p85.2.2.2.2.2.2.2.2.1 : Int32) (p85.2.2.2.2.2.2.2.2.2.1 : Int64) (p85.2.2.2.2.2.2.2.2.2.2 : Int32)) : Int32) = (0 : Int32)
      ·
        rw [if_pos g4, if_pos g4]
        unfold S_FR_power_J47 F_FR_power_J47
        have g5 : ((0 : Int32) < (2 : Int32)) := (by decide)
        rw [if_pos g5, if_pos g5]
        refine ⟨trivial, ?_⟩
        (unfold Q_FR_power; dsimp only; first | exact ⟨by decide, by decide⟩ | exact ⟨by omega, by omega⟩ | exact fl_pw8 (by assumption))
      ·
        rw [if_neg g4, if_neg g4]
        have fin := fl_fin g4
        unfold S_FR_power_J47 F_FR_power_J47
        have g6 : ¬ ((0 : Int32) < (0 : Int32)) := (by decide)
        rw [if_neg g6, if_neg g6]
        by_cases g7 : (lg_cmp (p85.2.2.2.2.2.2.2.1 : Int64) 0 : Int32) = (0 : Int32)
        ·
          rw [if_pos g7, if_pos g7]
          have g7z := fl_lz g7
          refine ⟨trivial, ?_⟩
          (unfold Q_FR_power; dsimp only; first | exact ⟨by decide, by decide⟩ | exact ⟨by omega, by omega⟩ | exact fl_pw8 (by assumption))
        ·
          rw [if_neg g7, if_neg g7]
          have g7z := fl_lnz g7
          have h8 := T_FR_findShortest (t0_0 := (0 : Int32)) (t0_1 := (p85.2.1 : Int32)) (t0_2 := (p85.2.2.1 : Int32)) (t0_3 := (p85.2.2.2.1 : Int32)) (t0_4 := (p85.2.2.2.2.1 : Int64)) (t0_5 := (p85.2.2.2.2.2.1 : Int32)) (t0_6 := (p85.2.2.2.2.2.2.1 : Int32)) (t0_7 := (p85.2.2.2.2.2.2.2.1 : Int64)) (t0_8 := (p85.2.2.2.2.2.2.2.2.1 : Int32)) (t0_9 := (p85.2.2.2.2.2.2.2.2.2.1 : Int64)) (t0_10 := (p85.2.2.2.2.2.2.2.2.2.2 : Int32)) (t1_0 := t1_0) (t2_0 := t2_0) (t3_0 := t3_0) (t4_0 := t4_0) (t5_0 := t5_0) (t6_0 := t6_0) ⟨by omega, by omega⟩ ⟨by omega, by omega⟩
          with_reducible refine v_owe h8.1 ?_
          replace h8 := h8.2
          generalize F_FR_findShortest (0 : Int32) (p85.2.1 : Int32) (p85.2.2.1 : Int32) (p85.2.2.2.1 : Int32) (p85.2.2.2.2.1 : Int64) (p85.2.2.2.2.2.1 : Int32) (p85.2.2.2.2.2.2.1 : Int32) (p85.2.2.2.2.2.2.2.1 : Int64) (p85.2.2.2.2.2.2.2.2.1 : Int32) (p85.2.2.2.2.2.2.2.2.2.1 : Int64) (p85.2.2.2.2.2.2.2.2.2.2 : Int32) t1_0 t2_0 t3_0 t4_0 t5_0 t6_0 = p183 at *
          unfold Q_FR_findShortest at h8
          obtain ⟨h8a, h8b, h8c, h8d, h8e, h8f, h8g, h8h, h8i, h89, h810, h8w, h8n⟩ := h8
          have h8bi := congrArg Int32.toInt h8b
          have hw := h8w
          have hn := h8n
          unfold S_FR_power_c69 F_FR_power_c69
          refine ⟨trivial, ?_⟩
          (unfold Q_FR_power; dsimp only; first | exact ⟨by decide, by decide⟩ | exact ⟨by omega, by omega⟩ | exact fl_pw8 (by assumption))
    ·
      rw [if_neg g3, if_neg g3]
      unfold S_FR_power_J47 F_FR_power_J47
      have g9 : ((0 : Int32) < (1 : Int32)) := (by decide)
      rw [if_pos g9, if_pos g9]
      refine ⟨trivial, ?_⟩
      (unfold Q_FR_power; dsimp only; first | exact ⟨by decide, by decide⟩ | exact ⟨by omega, by omega⟩ | exact fl_pw8 (by assumption))
  ·
    rw [if_neg g1, if_neg g1]
    have g1i : x3.toInt ≠ 0 := q_neI g1
    by_cases g10 : ((F_FR_isWrong x2 x3) : Int32) = (0 : Int32)
    ·
      rw [if_pos g10, if_pos g10]
      unfold S_FR_power_J19 F_FR_power_J19
      have h11 := T_FR_open (x2 := x2) (x3 := (1 : Int32)) (t0_0 := t0_0) (t0_1 := t0_1) (t0_2 := t0_2) (t0_3 := t0_3) (t0_4 := t0_4) (t0_5 := t0_5) (t0_6 := t0_6) (t0_7 := t0_7) (t0_8 := t0_8) (t0_9 := t0_9) (t0_10 := t0_10) 
      generalize F_FR_open x2 (1 : Int32) t0_0 t0_1 t0_2 t0_3 t0_4 t0_5 t0_6 t0_7 t0_8 t0_9 t0_10 = p85 at *
      unfold Q_FR_open at h11
      obtain ⟨h11a, h11b, h117, h118, h11f, h115⟩ := h11
      have op7 := h117
      have op8 := h118
      have opf := h11f
      unfold S_FR_power_c19 F_FR_power_c19
      rw [if_pos g10, if_pos g10]
      by_cases g12 : ((F_FR_isFinite (p85.1 : Int32) (p85.2.1 : Int32) (p85.2.2.1 : Int32) (p85.2.2.2.1 : Int32) (p85.2.2.2.2.1 : Int64) (p85.2.2.2.2.2.1 : Int32) (p85.2.2.2.2.2.2.1 : Int32) (p85.2.2.2.2.2.2.2.1 : Int64) (p85.2.2.2.2.2.2.2.2.1 : Int32) (p85.2.2.2.2.2.2.2.2.2.1 : Int64) (p85.2.2.2.2.2.2.2.2.2.2 : Int32)) : Int32) = (0 : Int32)
      ·
        rw [if_pos g12, if_pos g12]
        unfold S_FR_power_J47 F_FR_power_J47
        have g13 : ((0 : Int32) < (2 : Int32)) := (by decide)
        rw [if_pos g13, if_pos g13]
        refine ⟨trivial, ?_⟩
        (unfold Q_FR_power; dsimp only; first | exact ⟨by decide, by decide⟩ | exact ⟨by omega, by omega⟩ | exact fl_pw8 (by assumption))
      ·
        rw [if_neg g12, if_neg g12]
        have fin := fl_fin g12
        unfold S_FR_power_J47 F_FR_power_J47
        have g14 : ¬ ((0 : Int32) < (0 : Int32)) := (by decide)
        rw [if_neg g14, if_neg g14]
        by_cases g15 : (lg_cmp (p85.2.2.2.2.2.2.2.1 : Int64) 0 : Int32) = (0 : Int32)
        ·
          rw [if_pos g15, if_pos g15]
          have g15z := fl_lz g15
          refine ⟨trivial, ?_⟩
          (unfold Q_FR_power; dsimp only; first | exact ⟨by decide, by decide⟩ | exact ⟨by omega, by omega⟩ | exact fl_pw8 (by assumption))
        ·
          rw [if_neg g15, if_neg g15]
          have g15z := fl_lnz g15
          have h16 := T_FR_findShortest (t0_0 := (0 : Int32)) (t0_1 := (p85.2.1 : Int32)) (t0_2 := (p85.2.2.1 : Int32)) (t0_3 := (p85.2.2.2.1 : Int32)) (t0_4 := (p85.2.2.2.2.1 : Int64)) (t0_5 := (p85.2.2.2.2.2.1 : Int32)) (t0_6 := (p85.2.2.2.2.2.2.1 : Int32)) (t0_7 := (p85.2.2.2.2.2.2.2.1 : Int64)) (t0_8 := (p85.2.2.2.2.2.2.2.2.1 : Int32)) (t0_9 := (p85.2.2.2.2.2.2.2.2.2.1 : Int64)) (t0_10 := (p85.2.2.2.2.2.2.2.2.2.2 : Int32)) (t1_0 := t1_0) (t2_0 := t2_0) (t3_0 := t3_0) (t4_0 := t4_0) (t5_0 := t5_0) (t6_0 := t6_0) ⟨by omega, by omega⟩ ⟨by omega, by omega⟩
          with_reducible refine v_owe h16.1 ?_
          replace h16 := h16.2
          generalize F_FR_findShortest (0 : Int32) (p85.2.1 : Int32) (p85.2.2.1 : Int32) (p85.2.2.2.1 : Int32) (p85.2.2.2.2.1 : Int64) (p85.2.2.2.2.2.1 : Int32) (p85.2.2.2.2.2.2.1 : Int32) (p85.2.2.2.2.2.2.2.1 : Int64) (p85.2.2.2.2.2.2.2.2.1 : Int32) (p85.2.2.2.2.2.2.2.2.2.1 : Int64) (p85.2.2.2.2.2.2.2.2.2.2 : Int32) t1_0 t2_0 t3_0 t4_0 t5_0 t6_0 = p183 at *
          unfold Q_FR_findShortest at h16
          obtain ⟨h16a, h16b, h16c, h16d, h16e, h16f, h16g, h16h, h16i, h169, h1610, h16w, h16n⟩ := h16
          have h16bi := congrArg Int32.toInt h16b
          have hw := h16w
          have hn := h16n
          unfold S_FR_power_c69 F_FR_power_c69
          refine ⟨trivial, ?_⟩
          (unfold Q_FR_power; dsimp only; first | exact ⟨by decide, by decide⟩ | exact ⟨by omega, by omega⟩ | exact fl_pw8 (by assumption))
    ·
      rw [if_neg g10, if_neg g10]
      unfold S_FR_power_J18 F_FR_power_J18
      unfold S_FR_power_J19 F_FR_power_J19
      have h17 := T_FR_open (x2 := x2) (x3 := (0 : Int32)) (t0_0 := t0_0) (t0_1 := t0_1) (t0_2 := t0_2) (t0_3 := t0_3) (t0_4 := t0_4) (t0_5 := t0_5) (t0_6 := t0_6) (t0_7 := t0_7) (t0_8 := t0_8) (t0_9 := t0_9) (t0_10 := t0_10) 
      generalize F_FR_open x2 (0 : Int32) t0_0 t0_1 t0_2 t0_3 t0_4 t0_5 t0_6 t0_7 t0_8 t0_9 t0_10 = p85 at *
      unfold Q_FR_open at h17
      obtain ⟨h17a, h17b, h177, h178, h17f, h175⟩ := h17
      have op7 := h177
      have op8 := h178
      have opf := h17f
      unfold S_FR_power_c19 F_FR_power_c19
      rw [if_neg g10, if_neg g10]
      unfold S_FR_power_J47 F_FR_power_J47
      have g18 : ((0 : Int32) < (1 : Int32)) := (by decide)
      rw [if_pos g18, if_pos g18]
      refine ⟨trivial, ?_⟩
      (unfold Q_FR_power; dsimp only; first | exact ⟨by decide, by decide⟩ | exact ⟨by omega, by omega⟩ | exact fl_pw8 (by assumption))

/-! FloatRows: fixed, scientific -/
theorem fl_ng1 {a b : Int32} (hb : 0 ≤ b.toInt ∧ b.toInt ≤ 2000) (g : a < -b) : a.toInt < -b.toInt := by
  have := q_ltI g; rw [v_negI (by omega) (by omega)] at this; exact this
theorem fl_ng2 {a b : Int32} (hb : 0 ≤ b.toInt ∧ b.toInt ≤ 2000) (g : ¬ a < -b) : -b.toInt ≤ a.toInt := by
  have := q_nltI g; rw [v_negI (by omega) (by omega)] at this; exact this
def Q_FR_fixed (p : Int32 × Int32 × Int32 × Int32 × Int32 × Int64 × Int32 × Int32 × Int64 × Int32 × Int64 × Int32 × (Nat → Int32) × (Nat → Int32) × (Nat → Int32) × (Nat → Int32) × (Nat → Int32)) : Prop := 0 ≤ p.1.toInt ∧ p.1.toInt ≤ 1600
theorem vf_fx3 {K_F_FR_fixed_L130 : Int32 → (Int32 × Int32 × Int32 × Int32 × Int32 × Int64 × Int32 × Int32 × Int64 × Int32 × Int64 × Int32 × (Nat → Int32) × (Nat → Int32) × (Nat → Int32) × (Nat → Int32) × (Nat → Int32))} {K_F_FR_fixed_L162 : Int32 → Int32 → Int32 → Int32 → Int32 → Int64 → Int32 → Int32 → Int64 → Int32 → Int64 → Int32 → (Nat → Int32) → (Int32 × Int32 × Int32 × Int32 × Int32 × Int64 × Int32 × Int32 × Int64 × Int32 × Int64 × Int32 × (Nat → Int32) × (Nat → Int32) × (Nat → Int32) × (Nat → Int32) × (Nat → Int32))} {x2 : Int64} {x3 : Int32} {x4 : Int32} {x5 : Int32} {t0_0 : Int32} {t0_1 : Int32} {t0_2 : Int32} {t0_3 : Int32} {t0_4 : Int64} {t0_5 : Int32} {t0_6 : Int32} {t0_7 : Int64} {t0_8 : Int32} {t0_9 : Int64} {t0_10 : Int32} {t1_0 : (Nat → Int32)} {t2_0 : (Nat → Int32)} {t3_0 : (Nat → Int32)} {t4_0 : (Nat → Int32)} {t5_0 : (Nat → Int32)} {lx29 : Int32} {p81 : (Int32 × Int32 × Int32 × Int32 × Int64 × Int32 × Int32 × Int64 × Int32 × Int64 × Int32)} {y47 : Int32} {y48 : Int32} {y49 : Int32} {y50 : Int32} {y51 : Int64} {y52 : Int32} {y53 : Int32} {y54 : Int64} {y55 : Int32} {y56 : Int64} {y57 : Int32} {lx106 : Int32} {p136 : ((Nat → Int32) × (Nat → Int32) × (Nat → Int32))} {f128 : (Nat → Int32)} {f130 : (Nat → Int32)} {f132 : (Nat → Int32)} {lx146 : Int32} {f170 : (Nat → Int32)} {p216 : (Int32 × Int32 × Int32 × Int32 × Int64 × Int32 × Int32 × Int64 × Int32 × Int64 × Int32 × (Nat → Int32))} {y179 : Int32} {y180 : Int32} {y181 : Int32} {y182 : Int32} {y183 : Int64} {y184 : Int32} {y185 : Int32} {y186 : Int64} {y187 : Int32} {y188 : Int64} {y189 : Int32} {f190 : (Nat → Int32)} {lx236 : Int32} {lx261 : Int32} {lx262 : Int32} {lx263 : Int32} {lx264 : Int32} {lx265 : Int32} {lx266 : Int64} {lx267 : Int32} {lx268 : Int32} {lx269 : Int64} {lx270 : Int32} {lx271 : Int64} {lx272 : Int32} {lx273 : (Nat → Int32)} {lx316 : Int32} {lx317 : Int32} {lx318 : Int32} {lx319 : Int32} {lx320 : Int64} {lx321 : Int32} {lx322 : Int32} {lx323 : Int64} {lx324 : Int32} {lx325 : Int64} {lx326 : Int32} {lx327 : (Nat → Int32)} {K_S_FR_fixed_L130 : Int32 → Prop} {K_S_FR_fixed_L162 : Int32 → Int32 → Int32 → Int32 → Int32 → Int64 → Int32 → Int32 → Int64 → Int32 → Int64 → Int32 → (Nat → Int32) → Prop} (hx4 : 0 ≤ x4.toInt ∧ x4.toInt ≤ 1100) : ∀ (n : Nat) (lx364 : Int32) (lx365 : Int32) (lx366 : Int32) (lx367 : Int32) (lx368 : Int32) (lx369 : Int64) (lx370 : Int32) (lx371 : Int32) (lx372 : Int64) (lx373 : Int32) (lx374 : Int64) (lx375 : Int32) (lx376 : (Nat → Int32)), (-x4.toInt - 1 ≤ lx364.toInt ∧ lx364.toInt ≤ -1) → (1897 - lx366.toInt < (n : Int)) → (0 ≤ lx366.toInt ∧ lx366.toInt + lx364.toInt ≤ 329) → (S_FR_fixed_L200 K_S_FR_fixed_L130 K_S_FR_fixed_L162 x2 x3 x4 x5 t0_0 t0_1 t0_2 t0_3 t0_4 t0_5 t0_6 t0_7 t0_8 t0_9 t0_10 t1_0 t2_0 t3_0 t4_0 t5_0 lx29 p81 y47 y48 y49 y50 y51 y52 y53 y54 y55 y56 y57 lx106 p136 f128 f130 f132 lx146 f170 p216 y179 y180 y181 y182 y183 y184 y185 y186 y187 y188 y189 f190 lx236 lx261 lx262 lx263 lx264 lx265 lx266 lx267 lx268 lx269 lx270 lx271 lx272 lx273 lx316 lx317 lx318 lx319 lx320 lx321 lx322 lx323 lx324 lx325 lx326 lx327 n lx364 lx365 lx366 lx367 lx368 lx369 lx370 lx371 lx372 lx373 lx374 lx375 lx376) ∧ Q_FR_fixed (F_FR_fixed_L200 K_F_FR_fixed_L130 K_F_FR_fixed_L162 x2 x3 x4 x5 t0_0 t0_1 t0_2 t0_3 t0_4 t0_5 t0_6 t0_7 t0_8 t0_9 t0_10 t1_0 t2_0 t3_0 t4_0 t5_0 lx29 p81 y47 y48 y49 y50 y51 y52 y53 y54 y55 y56 y57 lx106 p136 f128 f130 f132 lx146 f170 p216 y179 y180 y181 y182 y183 y184 y185 y186 y187 y188 y189 f190 lx236 lx261 lx262 lx263 lx264 lx265 lx266 lx267 lx268 lx269 lx270 lx271 lx272 lx273 lx316 lx317 lx318 lx319 lx320 lx321 lx322 lx323 lx324 lx325 lx326 lx327 n lx364 lx365 lx366 lx367 lx368 lx369 lx370 lx371 lx372 lx373 lx374 lx375 lx376) := by
  intro n
  induction n with
  | zero => intro lx364 lx365 lx366 lx367 lx368 lx369 lx370 lx371 lx372 lx373 lx374 lx375 lx376 h0 hm h1; exact absurd (show False by omega) id
  | succ n ih =>
    intro lx364 lx365 lx366 lx367 lx368 lx369 lx370 lx371 lx372 lx373 lx374 lx375 lx376 h0 hm h1
    have e0 : (0 : Int32).toInt = 0 := rfl
    have e1 : (1 : Int32).toInt = 1 := rfl
    have eL0 : (0 : Int64).toInt = 0 := rfl
    rw [S_FR_fixed_L200.eq_2, F_FR_fixed_L200.eq_2]
    by_cases g1 : lx364 < (-x4 : Int32)
    ·
      rw [if_pos g1, if_pos g1]
      have g1i := fl_ng1 ⟨by omega, by omega⟩ g1
      refine ⟨trivial, ?_⟩
      (unfold Q_FR_fixed; dsimp only; first | exact ⟨by omega, by omega⟩ | exact ⟨by decide, by decide⟩)
    ·
      rw [if_neg g1, if_neg g1]
      have g1i := fl_ng2 ⟨by omega, by omega⟩ g1
      have h2 := T_FR_add (x2 := (48 + ((F_FR_figureAt lx364 lx365 lx366 lx367 lx368 lx369 lx370 lx371 lx372 lx373 lx374 lx375 f170) : Int32) : Int32)) (t0_0 := lx365) (t0_1 := lx366) (t0_2 := lx367) (t0_3 := lx368) (t0_4 := lx369) (t0_5 := lx370) (t0_6 := lx371) (t0_7 := lx372) (t0_8 := lx373) (t0_9 := lx374) (t0_10 := lx375) (t1_0 := lx376) ⟨by first | omega | decide, by first | omega | decide⟩
      with_reducible refine v_owe h2.1 ?_
      replace h2 := h2.2
      generalize F_FR_add (48 + ((F_FR_figureAt lx364 lx365 lx366 lx367 lx368 lx369 lx370 lx371 lx372 lx373 lx374 lx375 f170) : Int32) : Int32) lx365 lx366 lx367 lx368 lx369 lx370 lx371 lx372 lx373 lx374 lx375 lx376 = p467 at *
      unfold Q_FR_add at h2
      obtain ⟨h21, h23, h25, h26, h27, h28, h29, h2x⟩ := h2
      have h29i := congrArg Int64.toInt h29
      have h27i := congrArg Int64.toInt h27
      unfold S_FR_fixed_c218 F_FR_fixed_c218
      obtain ⟨a3, e4⟩ := q_nm (lx364 + (-1) : Int32)
      rw [e4]
      have a3i : a3.toInt = lx364.toInt + (-1) := by rw [← e4]; exact q_addI (x := lx364.toInt) (y := (-1)) rfl (by decide) (by omega) (by omega)
      exact ih _ _ _ _ _ _ _ _ _ _ _ _ _ ⟨by omega, by omega⟩ (by omega) ⟨by omega, by omega⟩
theorem vf_fx2 {K_F_FR_fixed_L130 : Int32 → (Int32 × Int32 × Int32 × Int32 × Int32 × Int64 × Int32 × Int32 × Int64 × Int32 × Int64 × Int32 × (Nat → Int32) × (Nat → Int32) × (Nat → Int32) × (Nat → Int32) × (Nat → Int32))} {x2 : Int64} {x3 : Int32} {x4 : Int32} {x5 : Int32} {t0_0 : Int32} {t0_1 : Int32} {t0_2 : Int32} {t0_3 : Int32} {t0_4 : Int64} {t0_5 : Int32} {t0_6 : Int32} {t0_7 : Int64} {t0_8 : Int32} {t0_9 : Int64} {t0_10 : Int32} {t1_0 : (Nat → Int32)} {t2_0 : (Nat → Int32)} {t3_0 : (Nat → Int32)} {t4_0 : (Nat → Int32)} {t5_0 : (Nat → Int32)} {lx29 : Int32} {p81 : (Int32 × Int32 × Int32 × Int32 × Int64 × Int32 × Int32 × Int64 × Int32 × Int64 × Int32)} {y47 : Int32} {y48 : Int32} {y49 : Int32} {y50 : Int32} {y51 : Int64} {y52 : Int32} {y53 : Int32} {y54 : Int64} {y55 : Int32} {y56 : Int64} {y57 : Int32} {lx106 : Int32} {p136 : ((Nat → Int32) × (Nat → Int32) × (Nat → Int32))} {f128 : (Nat → Int32)} {f130 : (Nat → Int32)} {f132 : (Nat → Int32)} {lx146 : Int32} {f170 : (Nat → Int32)} {p216 : (Int32 × Int32 × Int32 × Int32 × Int64 × Int32 × Int32 × Int64 × Int32 × Int64 × Int32 × (Nat → Int32))} {y179 : Int32} {y180 : Int32} {y181 : Int32} {y182 : Int32} {y183 : Int64} {y184 : Int32} {y185 : Int32} {y186 : Int64} {y187 : Int32} {y188 : Int64} {y189 : Int32} {f190 : (Nat → Int32)} {lx236 : Int32} {K_S_FR_fixed_L130 : Int32 → Prop} (hx4 : 0 ≤ x4.toInt ∧ x4.toInt ≤ 1100) : ∀ (n : Nat) (lx261 : Int32) (lx262 : Int32) (lx263 : Int32) (lx264 : Int32) (lx265 : Int32) (lx266 : Int64) (lx267 : Int32) (lx268 : Int32) (lx269 : Int64) (lx270 : Int32) (lx271 : Int64) (lx272 : Int32) (lx273 : (Nat → Int32)), (-1 ≤ lx261.toInt ∧ lx261.toInt ≤ 323) → (lx261.toInt + 1074 < (n : Int)) → (0 ≤ lx263.toInt ∧ lx263.toInt + lx261.toInt ≤ 325) → (S_FR_fixed_L162 K_S_FR_fixed_L130 x2 x3 x4 x5 t0_0 t0_1 t0_2 t0_3 t0_4 t0_5 t0_6 t0_7 t0_8 t0_9 t0_10 t1_0 t2_0 t3_0 t4_0 t5_0 lx29 p81 y47 y48 y49 y50 y51 y52 y53 y54 y55 y56 y57 lx106 p136 f128 f130 f132 lx146 f170 p216 y179 y180 y181 y182 y183 y184 y185 y186 y187 y188 y189 f190 lx236 n lx261 lx262 lx263 lx264 lx265 lx266 lx267 lx268 lx269 lx270 lx271 lx272 lx273) ∧ Q_FR_fixed (F_FR_fixed_L162 K_F_FR_fixed_L130 x2 x3 x4 x5 t0_0 t0_1 t0_2 t0_3 t0_4 t0_5 t0_6 t0_7 t0_8 t0_9 t0_10 t1_0 t2_0 t3_0 t4_0 t5_0 lx29 p81 y47 y48 y49 y50 y51 y52 y53 y54 y55 y56 y57 lx106 p136 f128 f130 f132 lx146 f170 p216 y179 y180 y181 y182 y183 y184 y185 y186 y187 y188 y189 f190 lx236 n lx261 lx262 lx263 lx264 lx265 lx266 lx267 lx268 lx269 lx270 lx271 lx272 lx273) := by
  intro n
  induction n with
  | zero => intro lx261 lx262 lx263 lx264 lx265 lx266 lx267 lx268 lx269 lx270 lx271 lx272 lx273 h0 hm h1; exact absurd (show False by omega) id
  | succ n ih =>
    intro lx261 lx262 lx263 lx264 lx265 lx266 lx267 lx268 lx269 lx270 lx271 lx272 lx273 h0 hm h1
    have e0 : (0 : Int32).toInt = 0 := rfl
    have e1 : (1 : Int32).toInt = 1 := rfl
    have eL0 : (0 : Int64).toInt = 0 := rfl
    rw [S_FR_fixed_L162.eq_2, F_FR_fixed_L162.eq_2]
    by_cases g1 : lx261 < (0 : Int32)
    ·
      rw [if_pos g1, if_pos g1]
      have g1i : lx261.toInt < 0 := q_ltI g1
      by_cases g2 : x4 ≤ (0 : Int32)
      ·
        rw [if_pos g2, if_pos g2]
        have g2i : x4.toInt ≤ 0 := q_leI g2
        unfold S_FR_fixed_J197 F_FR_fixed_J197
        have em : (-1 : Int32).toInt = -1 := rfl; exact vf_fx3 hx4 _ _ _ _ _ _ _ _ _ _ _ _ _ _ ⟨by omega, by omega⟩ (by omega) ⟨by omega, by omega⟩
      ·
        rw [if_neg g2, if_neg g2]
        have g2i : 0 < x4.toInt := q_nleI g2
        have h3 := T_FR_add (x2 := (46 : Int32)) (t0_0 := lx262) (t0_1 := lx263) (t0_2 := lx264) (t0_3 := lx265) (t0_4 := lx266) (t0_5 := lx267) (t0_6 := lx268) (t0_7 := lx269) (t0_8 := lx270) (t0_9 := lx271) (t0_10 := lx272) (t1_0 := lx273) ⟨by first | omega | decide, by first | omega | decide⟩
        with_reducible refine v_owe h3.1 ?_
        replace h3 := h3.2
        generalize F_FR_add (46 : Int32) lx262 lx263 lx264 lx265 lx266 lx267 lx268 lx269 lx270 lx271 lx272 lx273 = p534 at *
        unfold Q_FR_add at h3
        obtain ⟨h31, h33, h35, h36, h37, h38, h39, h3x⟩ := h3
        have h39i := congrArg Int64.toInt h39
        have h37i := congrArg Int64.toInt h37
        unfold S_FR_fixed_c194 F_FR_fixed_c194
        unfold S_FR_fixed_J197 F_FR_fixed_J197
        have em : (-1 : Int32).toInt = -1 := rfl; exact vf_fx3 hx4 _ _ _ _ _ _ _ _ _ _ _ _ _ _ ⟨by omega, by omega⟩ (by omega) ⟨by omega, by omega⟩
    ·
      rw [if_neg g1, if_neg g1]
      have g1i : 0 ≤ lx261.toInt := q_nltI g1
      have h4 := T_FR_add (x2 := (48 + ((F_FR_figureAt lx261 lx262 lx263 lx264 lx265 lx266 lx267 lx268 lx269 lx270 lx271 lx272 f170) : Int32) : Int32)) (t0_0 := lx262) (t0_1 := lx263) (t0_2 := lx264) (t0_3 := lx265) (t0_4 := lx266) (t0_5 := lx267) (t0_6 := lx268) (t0_7 := lx269) (t0_8 := lx270) (t0_9 := lx271) (t0_10 := lx272) (t1_0 := lx273) ⟨by first | omega | decide, by first | omega | decide⟩
      with_reducible refine v_owe h4.1 ?_
      replace h4 := h4.2
      generalize F_FR_add (48 + ((F_FR_figureAt lx261 lx262 lx263 lx264 lx265 lx266 lx267 lx268 lx269 lx270 lx271 lx272 f170) : Int32) : Int32) lx262 lx263 lx264 lx265 lx266 lx267 lx268 lx269 lx270 lx271 lx272 lx273 = p604 at *
      unfold Q_FR_add at h4
      obtain ⟨h41, h43, h45, h46, h47, h48, h49, h4x⟩ := h4
      have h49i := congrArg Int64.toInt h49
      have h47i := congrArg Int64.toInt h47
      unfold S_FR_fixed_c177 F_FR_fixed_c177
      obtain ⟨a5, e6⟩ := q_nm (lx261 + (-1) : Int32)
      rw [e6]
      have a5i : a5.toInt = lx261.toInt + (-1) := by rw [← e6]; exact q_addI (x := lx261.toInt) (y := (-1)) rfl (by decide) (by omega) (by omega)
      exact ih _ _ _ _ _ _ _ _ _ _ _ _ _ ⟨by omega, by omega⟩ (by omega) ⟨by omega, by omega⟩
theorem vf_fx1 {x2 : Int64} {x3 : Int32} {x4 : Int32} {x5 : Int32} {t0_0 : Int32} {t0_1 : Int32} {t0_2 : Int32} {t0_3 : Int32} {t0_4 : Int64} {t0_5 : Int32} {t0_6 : Int32} {t0_7 : Int64} {t0_8 : Int32} {t0_9 : Int64} {t0_10 : Int32} {t1_0 : (Nat → Int32)} {t2_0 : (Nat → Int32)} {t3_0 : (Nat → Int32)} {t4_0 : (Nat → Int32)} {t5_0 : (Nat → Int32)} {lx29 : Int32} {p81 : (Int32 × Int32 × Int32 × Int32 × Int64 × Int32 × Int32 × Int64 × Int32 × Int64 × Int32)} {y47 : Int32} {y48 : Int32} {y49 : Int32} {y50 : Int32} {y51 : Int64} {y52 : Int32} {y53 : Int32} {y54 : Int64} {y55 : Int32} {y56 : Int64} {y57 : Int32} {lx106 : Int32} {p136 : ((Nat → Int32) × (Nat → Int32) × (Nat → Int32))} {f128 : (Nat → Int32)} {f130 : (Nat → Int32)} {f132 : (Nat → Int32)} {lx146 : Int32} {f170 : (Nat → Int32)} {p216 : (Int32 × Int32 × Int32 × Int32 × Int64 × Int32 × Int32 × Int64 × Int32 × Int64 × Int32 × (Nat → Int32))} {y179 : Int32} {y180 : Int32} {y181 : Int32} {y182 : Int32} {y183 : Int64} {y184 : Int32} {y185 : Int32} {y186 : Int64} {y187 : Int32} {y188 : Int64} {y189 : Int32} {f190 : (Nat → Int32)} (hx4 : 0 ≤ x4.toInt ∧ x4.toInt ≤ 1100)(hy : 0 ≤ y180.toInt ∧ y180.toInt ≤ 1) : ∀ (n : Nat) (lx236 : Int32), (1080 ≤ lx236.toInt ∧ lx236.toInt ≤ 1403) → (lx236.toInt + 1074 < (n : Int)) → (S_FR_fixed_L130 x2 x3 x4 x5 t0_0 t0_1 t0_2 t0_3 t0_4 t0_5 t0_6 t0_7 t0_8 t0_9 t0_10 t1_0 t2_0 t3_0 t4_0 t5_0 lx29 p81 y47 y48 y49 y50 y51 y52 y53 y54 y55 y56 y57 lx106 p136 f128 f130 f132 lx146 f170 p216 y179 y180 y181 y182 y183 y184 y185 y186 y187 y188 y189 f190 n lx236) ∧ Q_FR_fixed (F_FR_fixed_L130 x2 x3 x4 x5 t0_0 t0_1 t0_2 t0_3 t0_4 t0_5 t0_6 t0_7 t0_8 t0_9 t0_10 t1_0 t2_0 t3_0 t4_0 t5_0 lx29 p81 y47 y48 y49 y50 y51 y52 y53 y54 y55 y56 y57 lx106 p136 f128 f130 f132 lx146 f170 p216 y179 y180 y181 y182 y183 y184 y185 y186 y187 y188 y189 f190 n lx236) := by
  intro n
  induction n with
  | zero => intro lx236 h0 hm; exact absurd (show False by omega) id
  | succ n ih =>
    intro lx236 h0 hm
    have e0 : (0 : Int32).toInt = 0 := rfl
    have e1 : (1 : Int32).toInt = 1 := rfl
    have eL0 : (0 : Int64).toInt = 0 := rfl
    rw [S_FR_fixed_L130.eq_2, F_FR_fixed_L130.eq_2]
    by_cases g1 : lx236 ≤ (1080 : Int32)
    ·
      rw [if_pos g1, if_pos g1]
      have g1i : lx236.toInt ≤ 1080 := q_leI g1
      unfold S_FR_fixed_J154 F_FR_fixed_J154
      have e5 : (lx236 - 1080 : Int32).toInt = lx236.toInt - 1080 := q_subI (y := 1080) rfl (by decide) (by omega) (by omega); exact vf_fx2 hx4 _ _ _ _ _ _ _ _ _ _ _ _ _ _ ⟨by omega, by omega⟩ (by omega) ⟨by omega, by omega⟩
    ·
      rw [if_neg g1, if_neg g1]
      have g1i : 1080 < lx236.toInt := q_nleI g1
      by_cases g2 : (f170 lx236.toNatClampNeg : Int32) = (0 : Int32)
      ·
        rw [if_pos g2, if_pos g2]
        obtain ⟨a3, e4⟩ := q_nm (lx236 + (-1) : Int32)
        rw [e4]
        have a3i : a3.toInt = lx236.toInt + (-1) := by rw [← e4]; exact q_addI (x := lx236.toInt) (y := (-1)) rfl (by decide) (by omega) (by omega)
        exact ih _ (by first | with_reducible assumption | omega | decide) (by first | with_reducible assumption | omega | decide)
      ·
        rw [if_neg g2, if_neg g2]
        unfold S_FR_fixed_J154 F_FR_fixed_J154
        have e5 : (lx236 - 1080 : Int32).toInt = lx236.toInt - 1080 := q_subI (y := 1080) rfl (by decide) (by omega) (by omega); exact vf_fx2 hx4 _ _ _ _ _ _ _ _ _ _ _ _ _ _ ⟨by omega, by omega⟩ (by omega) ⟨by omega, by omega⟩
theorem T_FR_fixed {x2 : Int64} {x3 : Int32} {x4 : Int32} {x5 : Int32} {t0_0 : Int32} {t0_1 : Int32} {t0_2 : Int32} {t0_3 : Int32} {t0_4 : Int64} {t0_5 : Int32} {t0_6 : Int32} {t0_7 : Int64} {t0_8 : Int32} {t0_9 : Int64} {t0_10 : Int32} {t1_0 : (Nat → Int32)} {t2_0 : (Nat → Int32)} {t3_0 : (Nat → Int32)} {t4_0 : (Nat → Int32)} {t5_0 : (Nat → Int32)}  : (S_FR_fixed x2 x3 x4 x5 t0_0 t0_1 t0_2 t0_3 t0_4 t0_5 t0_6 t0_7 t0_8 t0_9 t0_10 t1_0 t2_0 t3_0 t4_0 t5_0) ∧ Q_FR_fixed (F_FR_fixed x2 x3 x4 x5 t0_0 t0_1 t0_2 t0_3 t0_4 t0_5 t0_6 t0_7 t0_8 t0_9 t0_10 t1_0 t2_0 t3_0 t4_0 t5_0) := by
  have e0 : (0 : Int32).toInt = 0 := rfl
  have e1 : (1 : Int32).toInt = 1 := rfl
  have eL0 : (0 : Int64).toInt = 0 := rfl
  unfold S_FR_fixed F_FR_fixed
  by_cases g1 : x3 = (0 : Int32)
  ·
    rw [if_pos g1, if_pos g1]
    have g1i : x3.toInt = 0 := q_eqI g1
    unfold S_FR_fixed_J18 F_FR_fixed_J18
    unfold S_FR_fixed_J19 F_FR_fixed_J19
    have h2 := T_FR_open (x2 := x2) (x3 := (0 : Int32)) (t0_0 := t0_0) (t0_1 := t0_1) (t0_2 := t0_2) (t0_3 := t0_3) (t0_4 := t0_4) (t0_5 := t0_5) (t0_6 := t0_6) (t0_7 := t0_7) (t0_8 := t0_8) (t0_9 := t0_9) (t0_10 := t0_10) 
    generalize F_FR_open x2 (0 : Int32) t0_0 t0_1 t0_2 t0_3 t0_4 t0_5 t0_6 t0_7 t0_8 t0_9 t0_10 = p81 at *
    unfold Q_FR_open at h2
    obtain ⟨h2a, h2b, h27, h28, h2f, h25⟩ := h2
    have op7 := h27
    have op8 := h28
    have opf := h2f
    unfold S_FR_fixed_c19 F_FR_fixed_c19
    by_cases g3 : ((F_FR_isWrong x2 x3) : Int32) = (0 : Int32)
    ·
      rw [if_pos g3, if_pos g3]
      by_cases g4 : x4 < (0 : Int32)
      ·
        rw [if_pos g4, if_pos g4]
        have g4i : x4.toInt < 0 := q_ltI g4
        unfold S_FR_fixed_J55 F_FR_fixed_J55
        unfold S_FR_fixed_J71 F_FR_fixed_J71
        have g5 : ¬ ((1 : Int32) ≤ (0 : Int32)) := (by decide)
        rw [if_neg g5, if_neg g5]
        refine ⟨trivial, ?_⟩
        (unfold Q_FR_fixed; dsimp only; first | exact ⟨by omega, by omega⟩ | exact ⟨by decide, by decide⟩)
      ·
        rw [if_neg g4, if_neg g4]
        have g4i : 0 ≤ x4.toInt := q_nltI g4
        by_cases g6 : (1100 : Int32) < x4
        ·
          rw [if_pos g6, if_pos g6]
          have g6i : 1100 < x4.toInt := q_ltI g6
          unfold S_FR_fixed_J55 F_FR_fixed_J55
          unfold S_FR_fixed_J71 F_FR_fixed_J71
          have g7 : ¬ ((1 : Int32) ≤ (0 : Int32)) := (by decide)
          rw [if_neg g7, if_neg g7]
          refine ⟨trivial, ?_⟩
          (unfold Q_FR_fixed; dsimp only; first | exact ⟨by omega, by omega⟩ | exact ⟨by decide, by decide⟩)
        ·
          rw [if_neg g6, if_neg g6]
          have g6i : x4.toInt ≤ 1100 := q_nltI g6
          by_cases g8 : x5 < (0 : Int32)
          ·
            rw [if_pos g8, if_pos g8]
            have g8i : x5.toInt < 0 := q_ltI g8
            unfold S_FR_fixed_J55 F_FR_fixed_J55
            unfold S_FR_fixed_J71 F_FR_fixed_J71
            have g9 : ¬ ((1 : Int32) ≤ (0 : Int32)) := (by decide)
            rw [if_neg g9, if_neg g9]
            refine ⟨trivial, ?_⟩
            (unfold Q_FR_fixed; dsimp only; first | exact ⟨by omega, by omega⟩ | exact ⟨by decide, by decide⟩)
          ·
            rw [if_neg g8, if_neg g8]
            have g8i : 0 ≤ x5.toInt := q_nltI g8
            by_cases g10 : x5 ≤ (3 : Int32)
            ·
              rw [if_pos g10, if_pos g10]
              have g10i : x5.toInt ≤ 3 := q_leI g10
              by_cases g11 : ((F_FR_isFinite (p81.1 : Int32) (p81.2.1 : Int32) (p81.2.2.1 : Int32) (p81.2.2.2.1 : Int32) (p81.2.2.2.2.1 : Int64) (p81.2.2.2.2.2.1 : Int32) (p81.2.2.2.2.2.2.1 : Int32) (p81.2.2.2.2.2.2.2.1 : Int64) (p81.2.2.2.2.2.2.2.2.1 : Int32) (p81.2.2.2.2.2.2.2.2.2.1 : Int64) (p81.2.2.2.2.2.2.2.2.2.2 : Int32)) : Int32) = (0 : Int32)
              ·
                rw [if_pos g11, if_pos g11]
                unfold S_FR_fixed_J71 F_FR_fixed_J71
                have g12 : ¬ ((2 : Int32) ≤ (0 : Int32)) := (by decide)
                rw [if_neg g12, if_neg g12]
                refine ⟨trivial, ?_⟩
                (unfold Q_FR_fixed; dsimp only; first | exact ⟨by omega, by omega⟩ | exact ⟨by decide, by decide⟩)
              ·
                rw [if_neg g11, if_neg g11]
                have fin := fl_fin g11
                unfold S_FR_fixed_J71 F_FR_fixed_J71
                have g13 : ((0 : Int32) ≤ (0 : Int32)) := (by decide)
                rw [if_pos g13, if_pos g13]
                have h14 := T_FR_setValue (t0_0 := (0 : Int32)) (t0_1 := (p81.2.1 : Int32)) (t0_2 := (p81.2.2.1 : Int32)) (t0_3 := (p81.2.2.2.1 : Int32)) (t0_4 := (p81.2.2.2.2.1 : Int64)) (t0_5 := (p81.2.2.2.2.2.1 : Int32)) (t0_6 := (p81.2.2.2.2.2.2.1 : Int32)) (t0_7 := (p81.2.2.2.2.2.2.2.1 : Int64)) (t0_8 := (p81.2.2.2.2.2.2.2.2.1 : Int32)) (t0_9 := (p81.2.2.2.2.2.2.2.2.2.1 : Int64)) (t0_10 := (p81.2.2.2.2.2.2.2.2.2.2 : Int32)) (t1_0 := t1_0) (t2_0 := t2_0) (t3_0 := t3_0) ⟨by omega, by omega⟩ ⟨by omega, by omega⟩
                with_reducible refine v_owe h14.1 ?_
                replace h14 := h14.2
                generalize F_FR_setValue (0 : Int32) (p81.2.1 : Int32) (p81.2.2.1 : Int32) (p81.2.2.2.1 : Int32) (p81.2.2.2.2.1 : Int64) (p81.2.2.2.2.2.1 : Int32) (p81.2.2.2.2.2.2.1 : Int32) (p81.2.2.2.2.2.2.2.1 : Int64) (p81.2.2.2.2.2.2.2.2.1 : Int32) (p81.2.2.2.2.2.2.2.2.2.1 : Int64) (p81.2.2.2.2.2.2.2.2.2.2 : Int32) t1_0 t2_0 t3_0 = p136 at *
                unfold Q_FR_setValue at h14
                obtain ⟨hw, hnz⟩ := h14
                unfold S_FR_fixed_c84 F_FR_fixed_c84
                by_cases g15 : x4 ≤ (1080 : Int32)
                ·
                  rw [if_pos g15, if_pos g15]
                  have g15i : x4.toInt ≤ 1080 := q_leI g15
                  obtain ⟨lx146, e16⟩ := q_nm ((1080 - x4 : Int32) : Int32)
                  rw [e16]
                  have lx146i : lx146.toInt = 1080 - x4.toInt := by rw [← e16]; exact q_subI (x := 1080) (by decide) rfl (by omega) (by omega)
                  unfold S_FR_fixed_J105 F_FR_fixed_J105
                  have h17 := T_FR_isMore (x2 := lx146) (x3 := x5) (t0_0 := (0 : Int32)) (t0_1 := (p81.2.1 : Int32)) (t0_2 := (p81.2.2.1 : Int32)) (t0_3 := (p81.2.2.2.1 : Int32)) (t0_4 := (p81.2.2.2.2.1 : Int64)) (t0_5 := (p81.2.2.2.2.2.1 : Int32)) (t0_6 := (p81.2.2.2.2.2.2.1 : Int32)) (t0_7 := (p81.2.2.2.2.2.2.2.1 : Int64)) (t0_8 := (p81.2.2.2.2.2.2.2.2.1 : Int32)) (t0_9 := (p81.2.2.2.2.2.2.2.2.2.1 : Int64)) (t0_10 := (p81.2.2.2.2.2.2.2.2.2.2 : Int32)) (t1_0 := (p136.2.2 : (Nat → Int32))) ⟨by first | omega | decide, by first | omega | decide⟩
                  with_reducible refine v_owe h17 ?_
                  have h18 := T_FR_cut (x2 := lx146) (x3 := ((F_FR_isMore lx146 x5 (0 : Int32) (p81.2.1 : Int32) (p81.2.2.1 : Int32) (p81.2.2.2.1 : Int32) (p81.2.2.2.2.1 : Int64) (p81.2.2.2.2.2.1 : Int32) (p81.2.2.2.2.2.2.1 : Int32) (p81.2.2.2.2.2.2.2.1 : Int64) (p81.2.2.2.2.2.2.2.2.1 : Int32) (p81.2.2.2.2.2.2.2.2.2.1 : Int64) (p81.2.2.2.2.2.2.2.2.2.2 : Int32) (p136.2.2 : (Nat → Int32))) : Int32)) (t0_0 := (0 : Int32)) (t0_1 := (p81.2.1 : Int32)) (t0_2 := (p81.2.2.1 : Int32)) (t0_3 := (p81.2.2.2.1 : Int32)) (t0_4 := (p81.2.2.2.2.1 : Int64)) (t0_5 := (p81.2.2.2.2.2.1 : Int32)) (t0_6 := (p81.2.2.2.2.2.2.1 : Int32)) (t0_7 := (p81.2.2.2.2.2.2.2.1 : Int64)) (t0_8 := (p81.2.2.2.2.2.2.2.2.1 : Int32)) (t0_9 := (p81.2.2.2.2.2.2.2.2.2.1 : Int64)) (t0_10 := (p81.2.2.2.2.2.2.2.2.2.2 : Int32)) (t1_0 := (p136.2.2 : (Nat → Int32))) (t2_0 := t4_0) (by with_reducible assumption) ⟨by first | omega | decide, by first | omega | decide⟩
                  with_reducible refine v_owe h18.1 ?_
                  have h19 := T_FR_begin (t0_0 := (0 : Int32)) (t0_1 := (p81.2.1 : Int32)) (t0_2 := (p81.2.2.1 : Int32)) (t0_3 := (p81.2.2.2.1 : Int32)) (t0_4 := (p81.2.2.2.2.1 : Int64)) (t0_5 := (p81.2.2.2.2.2.1 : Int32)) (t0_6 := (p81.2.2.2.2.2.2.1 : Int32)) (t0_7 := (p81.2.2.2.2.2.2.2.1 : Int64)) (t0_8 := (p81.2.2.2.2.2.2.2.2.1 : Int32)) (t0_9 := (p81.2.2.2.2.2.2.2.2.2.1 : Int64)) (t0_10 := (p81.2.2.2.2.2.2.2.2.2.2 : Int32)) (t1_0 := t5_0) 
                  with_reducible refine v_owe h19.1 ?_
                  replace h19 := h19.2
                  generalize F_FR_begin (0 : Int32) (p81.2.1 : Int32) (p81.2.2.1 : Int32) (p81.2.2.2.1 : Int32) (p81.2.2.2.2.1 : Int64) (p81.2.2.2.2.2.1 : Int32) (p81.2.2.2.2.2.2.1 : Int32) (p81.2.2.2.2.2.2.2.1 : Int64) (p81.2.2.2.2.2.2.2.2.1 : Int32) (p81.2.2.2.2.2.2.2.2.2.1 : Int64) (p81.2.2.2.2.2.2.2.2.2.2 : Int32) t5_0 = p216 at *
                  unfold Q_FR_begin at h19
                  obtain ⟨h191, h193, h195, h196, h197, h198, h199, h19x⟩ := h19
                  have h199i := congrArg Int64.toInt h199
                  have h197i := congrArg Int64.toInt h197
                  unfold S_FR_fixed_c122 F_FR_fixed_c122
                  exact vf_fx1 ⟨by omega, by omega⟩ ⟨by omega, by omega⟩ _ _ ⟨by decide, by decide⟩ (by decide)
                ·
                  rw [if_neg g15, if_neg g15]
                  have g15i : 1080 < x4.toInt := q_nleI g15
                  unfold S_FR_fixed_J105 F_FR_fixed_J105
                  have h20 := T_FR_isMore (x2 := (0 : Int32)) (x3 := x5) (t0_0 := (0 : Int32)) (t0_1 := (p81.2.1 : Int32)) (t0_2 := (p81.2.2.1 : Int32)) (t0_3 := (p81.2.2.2.1 : Int32)) (t0_4 := (p81.2.2.2.2.1 : Int64)) (t0_5 := (p81.2.2.2.2.2.1 : Int32)) (t0_6 := (p81.2.2.2.2.2.2.1 : Int32)) (t0_7 := (p81.2.2.2.2.2.2.2.1 : Int64)) (t0_8 := (p81.2.2.2.2.2.2.2.2.1 : Int32)) (t0_9 := (p81.2.2.2.2.2.2.2.2.2.1 : Int64)) (t0_10 := (p81.2.2.2.2.2.2.2.2.2.2 : Int32)) (t1_0 := (p136.2.2 : (Nat → Int32))) ⟨by first | omega | decide, by first | omega | decide⟩
                  with_reducible refine v_owe h20 ?_
                  have h21 := T_FR_cut (x2 := (0 : Int32)) (x3 := ((F_FR_isMore (0 : Int32) x5 (0 : Int32) (p81.2.1 : Int32) (p81.2.2.1 : Int32) (p81.2.2.2.1 : Int32) (p81.2.2.2.2.1 : Int64) (p81.2.2.2.2.2.1 : Int32) (p81.2.2.2.2.2.2.1 : Int32) (p81.2.2.2.2.2.2.2.1 : Int64) (p81.2.2.2.2.2.2.2.2.1 : Int32) (p81.2.2.2.2.2.2.2.2.2.1 : Int64) (p81.2.2.2.2.2.2.2.2.2.2 : Int32) (p136.2.2 : (Nat → Int32))) : Int32)) (t0_0 := (0 : Int32)) (t0_1 := (p81.2.1 : Int32)) (t0_2 := (p81.2.2.1 : Int32)) (t0_3 := (p81.2.2.2.1 : Int32)) (t0_4 := (p81.2.2.2.2.1 : Int64)) (t0_5 := (p81.2.2.2.2.2.1 : Int32)) (t0_6 := (p81.2.2.2.2.2.2.1 : Int32)) (t0_7 := (p81.2.2.2.2.2.2.2.1 : Int64)) (t0_8 := (p81.2.2.2.2.2.2.2.2.1 : Int32)) (t0_9 := (p81.2.2.2.2.2.2.2.2.2.1 : Int64)) (t0_10 := (p81.2.2.2.2.2.2.2.2.2.2 : Int32)) (t1_0 := (p136.2.2 : (Nat → Int32))) (t2_0 := t4_0) (by with_reducible assumption) ⟨by first | omega | decide, by first | omega | decide⟩
                  with_reducible refine v_owe h21.1 ?_
                  have h22 := T_FR_begin (t0_0 := (0 : Int32)) (t0_1 := (p81.2.1 : Int32)) (t0_2 := (p81.2.2.1 : Int32)) (t0_3 := (p81.2.2.2.1 : Int32)) (t0_4 := (p81.2.2.2.2.1 : Int64)) (t0_5 := (p81.2.2.2.2.2.1 : Int32)) (t0_6 := (p81.2.2.2.2.2.2.1 : Int32)) (t0_7 := (p81.2.2.2.2.2.2.2.1 : Int64)) (t0_8 := (p81.2.2.2.2.2.2.2.2.1 : Int32)) (t0_9 := (p81.2.2.2.2.2.2.2.2.2.1 : Int64)) (t0_10 := (p81.2.2.2.2.2.2.2.2.2.2 : Int32)) (t1_0 := t5_0) 
                  with_reducible refine v_owe h22.1 ?_
                  replace h22 := h22.2
                  generalize F_FR_begin (0 : Int32) (p81.2.1 : Int32) (p81.2.2.1 : Int32) (p81.2.2.2.1 : Int32) (p81.2.2.2.2.1 : Int64) (p81.2.2.2.2.2.1 : Int32) (p81.2.2.2.2.2.2.1 : Int32) (p81.2.2.2.2.2.2.2.1 : Int64) (p81.2.2.2.2.2.2.2.2.1 : Int32) (p81.2.2.2.2.2.2.2.2.2.1 : Int64) (p81.2.2.2.2.2.2.2.2.2.2 : Int32) t5_0 = p216 at *
                  unfold Q_FR_begin at h22
                  obtain ⟨h221, h223, h225, h226, h227, h228, h229, h22x⟩ := h22
                  have h229i := congrArg Int64.toInt h229
                  have h227i := congrArg Int64.toInt h227
                  unfold S_FR_fixed_c122 F_FR_fixed_c122
                  exact vf_fx1 ⟨by omega, by omega⟩ ⟨by omega, by omega⟩ _ _ ⟨by decide, by decide⟩ (by decide)
            ·
              rw [if_neg g10, if_neg g10]
              have g10i : 3 < x5.toInt := q_nleI g10
              unfold S_FR_fixed_J55 F_FR_fixed_J55
              unfold S_FR_fixed_J71 F_FR_fixed_J71
              have g23 : ¬ ((1 : Int32) ≤ (0 : Int32)) := (by decide)
              rw [if_neg g23, if_neg g23]
              refine ⟨trivial, ?_⟩
              (unfold Q_FR_fixed; dsimp only; first | exact ⟨by omega, by omega⟩ | exact ⟨by decide, by decide⟩)
    ·
      rw [if_neg g3, if_neg g3]
      unfold S_FR_fixed_J55 F_FR_fixed_J55
      unfold S_FR_fixed_J71 F_FR_fixed_J71
      have g24 : ¬ ((1 : Int32) ≤ (0 : Int32)) := (by decide)
      rw [if_neg g24, if_neg g24]
      refine ⟨trivial, ?_⟩
      (unfold Q_FR_fixed; dsimp only; first | exact ⟨by omega, by omega⟩ | exact ⟨by decide, by decide⟩)
  ·
    rw [if_neg g1, if_neg g1]
    have g1i : x3.toInt ≠ 0 := q_neI g1
    by_cases g25 : ((F_FR_isWrong x2 x3) : Int32) = (0 : Int32)
    ·
      rw [if_pos g25, if_pos g25]
      unfold S_FR_fixed_J19 F_FR_fixed_J19
      have h26 := T_FR_open (x2 := x2) (x3 := (1 : Int32)) (t0_0 := t0_0) (t0_1 := t0_1) (t0_2 := t0_2) (t0_3 := t0_3) (t0_4 := t0_4) (t0_5 := t0_5) (t0_6 := t0_6) (t0_7 := t0_7) (t0_8 := t0_8) (t0_9 := t0_9) (t0_10 := t0_10) 
      generalize F_FR_open x2 (1 : Int32) t0_0 t0_1 t0_2 t0_3 t0_4 t0_5 t0_6 t0_7 t0_8 t0_9 t0_10 = p81 at *
      unfold Q_FR_open at h26
      obtain ⟨h26a, h26b, h267, h268, h26f, h265⟩ := h26
      have op7 := h267
      have op8 := h268
      have opf := h26f
      unfold S_FR_fixed_c19 F_FR_fixed_c19
      rw [if_pos g25, if_pos g25]
      by_cases g27 : x4 < (0 : Int32)
      ·
        rw [if_pos g27, if_pos g27]
        have g27i : x4.toInt < 0 := q_ltI g27
        unfold S_FR_fixed_J55 F_FR_fixed_J55
        unfold S_FR_fixed_J71 F_FR_fixed_J71
        have g28 : ¬ ((1 : Int32) ≤ (0 : Int32)) := (by decide)
        rw [if_neg g28, if_neg g28]
        refine ⟨trivial, ?_⟩
        (unfold Q_FR_fixed; dsimp only; first | exact ⟨by omega, by omega⟩ | exact ⟨by decide, by decide⟩)
      ·
        rw [if_neg g27, if_neg g27]
        have g27i : 0 ≤ x4.toInt := q_nltI g27
        by_cases g29 : (1100 : Int32) < x4
        ·
          rw [if_pos g29, if_pos g29]
          have g29i : 1100 < x4.toInt := q_ltI g29
          unfold S_FR_fixed_J55 F_FR_fixed_J55
          unfold S_FR_fixed_J71 F_FR_fixed_J71
          have g30 : ¬ ((1 : Int32) ≤ (0 : Int32)) := (by decide)
          rw [if_neg g30, if_neg g30]
          refine ⟨trivial, ?_⟩
          (unfold Q_FR_fixed; dsimp only; first | exact ⟨by omega, by omega⟩ | exact ⟨by decide, by decide⟩)
        ·
          rw [if_neg g29, if_neg g29]
          have g29i : x4.toInt ≤ 1100 := q_nltI g29
          by_cases g31 : x5 < (0 : Int32)
          ·
            rw [if_pos g31, if_pos g31]
            have g31i : x5.toInt < 0 := q_ltI g31
            unfold S_FR_fixed_J55 F_FR_fixed_J55
            unfold S_FR_fixed_J71 F_FR_fixed_J71
            have g32 : ¬ ((1 : Int32) ≤ (0 : Int32)) := (by decide)
            rw [if_neg g32, if_neg g32]
            refine ⟨trivial, ?_⟩
            (unfold Q_FR_fixed; dsimp only; first | exact ⟨by omega, by omega⟩ | exact ⟨by decide, by decide⟩)
          ·
            rw [if_neg g31, if_neg g31]
            have g31i : 0 ≤ x5.toInt := q_nltI g31
            by_cases g33 : x5 ≤ (3 : Int32)
            ·
              rw [if_pos g33, if_pos g33]
              have g33i : x5.toInt ≤ 3 := q_leI g33
              by_cases g34 : ((F_FR_isFinite (p81.1 : Int32) (p81.2.1 : Int32) (p81.2.2.1 : Int32) (p81.2.2.2.1 : Int32) (p81.2.2.2.2.1 : Int64) (p81.2.2.2.2.2.1 : Int32) (p81.2.2.2.2.2.2.1 : Int32) (p81.2.2.2.2.2.2.2.1 : Int64) (p81.2.2.2.2.2.2.2.2.1 : Int32) (p81.2.2.2.2.2.2.2.2.2.1 : Int64) (p81.2.2.2.2.2.2.2.2.2.2 : Int32)) : Int32) = (0 : Int32)
              ·
                rw [if_pos g34, if_pos g34]
                unfold S_FR_fixed_J71 F_FR_fixed_J71
                have g35 : ¬ ((2 : Int32) ≤ (0 : Int32)) := (by decide)
                rw [if_neg g35, if_neg g35]
                refine ⟨trivial, ?_⟩
                (unfold Q_FR_fixed; dsimp only; first | exact ⟨by omega, by omega⟩ | exact ⟨by decide, by decide⟩)
              ·
                rw [if_neg g34, if_neg g34]
                have fin := fl_fin g34
                unfold S_FR_fixed_J71 F_FR_fixed_J71
                have g36 : ((0 : Int32) ≤ (0 : Int32)) := (by decide)
                rw [if_pos g36, if_pos g36]
                have h37 := T_FR_setValue (t0_0 := (0 : Int32)) (t0_1 := (p81.2.1 : Int32)) (t0_2 := (p81.2.2.1 : Int32)) (t0_3 := (p81.2.2.2.1 : Int32)) (t0_4 := (p81.2.2.2.2.1 : Int64)) (t0_5 := (p81.2.2.2.2.2.1 : Int32)) (t0_6 := (p81.2.2.2.2.2.2.1 : Int32)) (t0_7 := (p81.2.2.2.2.2.2.2.1 : Int64)) (t0_8 := (p81.2.2.2.2.2.2.2.2.1 : Int32)) (t0_9 := (p81.2.2.2.2.2.2.2.2.2.1 : Int64)) (t0_10 := (p81.2.2.2.2.2.2.2.2.2.2 : Int32)) (t1_0 := t1_0) (t2_0 := t2_0) (t3_0 := t3_0) ⟨by omega, by omega⟩ ⟨by omega, by omega⟩
                with_reducible refine v_owe h37.1 ?_
                replace h37 := h37.2
                generalize F_FR_setValue (0 : Int32) (p81.2.1 : Int32) (p81.2.2.1 : Int32) (p81.2.2.2.1 : Int32) (p81.2.2.2.2.1 : Int64) (p81.2.2.2.2.2.1 : Int32) (p81.2.2.2.2.2.2.1 : Int32) (p81.2.2.2.2.2.2.2.1 : Int64) (p81.2.2.2.2.2.2.2.2.1 : Int32) (p81.2.2.2.2.2.2.2.2.2.1 : Int64) (p81.2.2.2.2.2.2.2.2.2.2 : Int32) t1_0 t2_0 t3_0 = p136 at *
                unfold Q_FR_setValue at h37
                obtain ⟨hw, hnz⟩ := h37
                unfold S_FR_fixed_c84 F_FR_fixed_c84
                by_cases g38 : x4 ≤ (1080 : Int32)
                ·
                  rw [if_pos g38, if_pos g38]
                  have g38i : x4.toInt ≤ 1080 := q_leI g38
                  obtain ⟨lx146, e39⟩ := q_nm ((1080 - x4 : Int32) : Int32)
                  rw [e39]
                  have lx146i : lx146.toInt = 1080 - x4.toInt := by rw [← e39]; exact q_subI (x := 1080) (by decide) rfl (by omega) (by omega)
                  unfold S_FR_fixed_J105 F_FR_fixed_J105
                  have h40 := T_FR_isMore (x2 := lx146) (x3 := x5) (t0_0 := (0 : Int32)) (t0_1 := (p81.2.1 : Int32)) (t0_2 := (p81.2.2.1 : Int32)) (t0_3 := (p81.2.2.2.1 : Int32)) (t0_4 := (p81.2.2.2.2.1 : Int64)) (t0_5 := (p81.2.2.2.2.2.1 : Int32)) (t0_6 := (p81.2.2.2.2.2.2.1 : Int32)) (t0_7 := (p81.2.2.2.2.2.2.2.1 : Int64)) (t0_8 := (p81.2.2.2.2.2.2.2.2.1 : Int32)) (t0_9 := (p81.2.2.2.2.2.2.2.2.2.1 : Int64)) (t0_10 := (p81.2.2.2.2.2.2.2.2.2.2 : Int32)) (t1_0 := (p136.2.2 : (Nat → Int32))) ⟨by first | omega | decide, by first | omega | decide⟩
                  with_reducible refine v_owe h40 ?_
                  have h41 := T_FR_cut (x2 := lx146) (x3 := ((F_FR_isMore lx146 x5 (0 : Int32) (p81.2.1 : Int32) (p81.2.2.1 : Int32) (p81.2.2.2.1 : Int32) (p81.2.2.2.2.1 : Int64) (p81.2.2.2.2.2.1 : Int32) (p81.2.2.2.2.2.2.1 : Int32) (p81.2.2.2.2.2.2.2.1 : Int64) (p81.2.2.2.2.2.2.2.2.1 : Int32) (p81.2.2.2.2.2.2.2.2.2.1 : Int64) (p81.2.2.2.2.2.2.2.2.2.2 : Int32) (p136.2.2 : (Nat → Int32))) : Int32)) (t0_0 := (0 : Int32)) (t0_1 := (p81.2.1 : Int32)) (t0_2 := (p81.2.2.1 : Int32)) (t0_3 := (p81.2.2.2.1 : Int32)) (t0_4 := (p81.2.2.2.2.1 : Int64)) (t0_5 := (p81.2.2.2.2.2.1 : Int32)) (t0_6 := (p81.2.2.2.2.2.2.1 : Int32)) (t0_7 := (p81.2.2.2.2.2.2.2.1 : Int64)) (t0_8 := (p81.2.2.2.2.2.2.2.2.1 : Int32)) (t0_9 := (p81.2.2.2.2.2.2.2.2.2.1 : Int64)) (t0_10 := (p81.2.2.2.2.2.2.2.2.2.2 : Int32)) (t1_0 := (p136.2.2 : (Nat → Int32))) (t2_0 := t4_0) (by with_reducible assumption) ⟨by first | omega | decide, by first | omega | decide⟩
                  with_reducible refine v_owe h41.1 ?_
                  have h42 := T_FR_begin (t0_0 := (0 : Int32)) (t0_1 := (p81.2.1 : Int32)) (t0_2 := (p81.2.2.1 : Int32)) (t0_3 := (p81.2.2.2.1 : Int32)) (t0_4 := (p81.2.2.2.2.1 : Int64)) (t0_5 := (p81.2.2.2.2.2.1 : Int32)) (t0_6 := (p81.2.2.2.2.2.2.1 : Int32)) (t0_7 := (p81.2.2.2.2.2.2.2.1 : Int64)) (t0_8 := (p81.2.2.2.2.2.2.2.2.1 : Int32)) (t0_9 := (p81.2.2.2.2.2.2.2.2.2.1 : Int64)) (t0_10 := (p81.2.2.2.2.2.2.2.2.2.2 : Int32)) (t1_0 := t5_0) 
                  with_reducible refine v_owe h42.1 ?_
                  replace h42 := h42.2
                  generalize F_FR_begin (0 : Int32) (p81.2.1 : Int32) (p81.2.2.1 : Int32) (p81.2.2.2.1 : Int32) (p81.2.2.2.2.1 : Int64) (p81.2.2.2.2.2.1 : Int32) (p81.2.2.2.2.2.2.1 : Int32) (p81.2.2.2.2.2.2.2.1 : Int64) (p81.2.2.2.2.2.2.2.2.1 : Int32) (p81.2.2.2.2.2.2.2.2.2.1 : Int64) (p81.2.2.2.2.2.2.2.2.2.2 : Int32) t5_0 = p216 at *
                  unfold Q_FR_begin at h42
                  obtain ⟨h421, h423, h425, h426, h427, h428, h429, h42x⟩ := h42
                  have h429i := congrArg Int64.toInt h429
                  have h427i := congrArg Int64.toInt h427
                  unfold S_FR_fixed_c122 F_FR_fixed_c122
                  exact vf_fx1 ⟨by omega, by omega⟩ ⟨by omega, by omega⟩ _ _ ⟨by decide, by decide⟩ (by decide)
                ·
                  rw [if_neg g38, if_neg g38]
                  have g38i : 1080 < x4.toInt := q_nleI g38
                  unfold S_FR_fixed_J105 F_FR_fixed_J105
                  have h43 := T_FR_isMore (x2 := (0 : Int32)) (x3 := x5) (t0_0 := (0 : Int32)) (t0_1 := (p81.2.1 : Int32)) (t0_2 := (p81.2.2.1 : Int32)) (t0_3 := (p81.2.2.2.1 : Int32)) (t0_4 := (p81.2.2.2.2.1 : Int64)) (t0_5 := (p81.2.2.2.2.2.1 : Int32)) (t0_6 := (p81.2.2.2.2.2.2.1 : Int32)) (t0_7 := (p81.2.2.2.2.2.2.2.1 : Int64)) (t0_8 := (p81.2.2.2.2.2.2.2.2.1 : Int32)) (t0_9 := (p81.2.2.2.2.2.2.2.2.2.1 : Int64)) (t0_10 := (p81.2.2.2.2.2.2.2.2.2.2 : Int32)) (t1_0 := (p136.2.2 : (Nat → Int32))) ⟨by first | omega | decide, by first | omega | decide⟩
                  with_reducible refine v_owe h43 ?_
                  have h44 := T_FR_cut (x2 := (0 : Int32)) (x3 := ((F_FR_isMore (0 : Int32) x5 (0 : Int32) (p81.2.1 : Int32) (p81.2.2.1 : Int32) (p81.2.2.2.1 : Int32) (p81.2.2.2.2.1 : Int64) (p81.2.2.2.2.2.1 : Int32) (p81.2.2.2.2.2.2.1 : Int32) (p81.2.2.2.2.2.2.2.1 : Int64) (p81.2.2.2.2.2.2.2.2.1 : Int32) (p81.2.2.2.2.2.2.2.2.2.1 : Int64) (p81.2.2.2.2.2.2.2.2.2.2 : Int32) (p136.2.2 : (Nat → Int32))) : Int32)) (t0_0 := (0 : Int32)) (t0_1 := (p81.2.1 : Int32)) (t0_2 := (p81.2.2.1 : Int32)) (t0_3 := (p81.2.2.2.1 : Int32)) (t0_4 := (p81.2.2.2.2.1 : Int64)) (t0_5 := (p81.2.2.2.2.2.1 : Int32)) (t0_6 := (p81.2.2.2.2.2.2.1 : Int32)) (t0_7 := (p81.2.2.2.2.2.2.2.1 : Int64)) (t0_8 := (p81.2.2.2.2.2.2.2.2.1 : Int32)) (t0_9 := (p81.2.2.2.2.2.2.2.2.2.1 : Int64)) (t0_10 := (p81.2.2.2.2.2.2.2.2.2.2 : Int32)) (t1_0 := (p136.2.2 : (Nat → Int32))) (t2_0 := t4_0) (by with_reducible assumption) ⟨by first | omega | decide, by first | omega | decide⟩
                  with_reducible refine v_owe h44.1 ?_
                  have h45 := T_FR_begin (t0_0 := (0 : Int32)) (t0_1 := (p81.2.1 : Int32)) (t0_2 := (p81.2.2.1 : Int32)) (t0_3 := (p81.2.2.2.1 : Int32)) (t0_4 := (p81.2.2.2.2.1 : Int64)) (t0_5 := (p81.2.2.2.2.2.1 : Int32)) (t0_6 := (p81.2.2.2.2.2.2.1 : Int32)) (t0_7 := (p81.2.2.2.2.2.2.2.1 : Int64)) (t0_8 := (p81.2.2.2.2.2.2.2.2.1 : Int32)) (t0_9 := (p81.2.2.2.2.2.2.2.2.2.1 : Int64)) (t0_10 := (p81.2.2.2.2.2.2.2.2.2.2 : Int32)) (t1_0 := t5_0) 
                  with_reducible refine v_owe h45.1 ?_
                  replace h45 := h45.2
                  generalize F_FR_begin (0 : Int32) (p81.2.1 : Int32) (p81.2.2.1 : Int32) (p81.2.2.2.1 : Int32) (p81.2.2.2.2.1 : Int64) (p81.2.2.2.2.2.1 : Int32) (p81.2.2.2.2.2.2.1 : Int32) (p81.2.2.2.2.2.2.2.1 : Int64) (p81.2.2.2.2.2.2.2.2.1 : Int32) (p81.2.2.2.2.2.2.2.2.2.1 : Int64) (p81.2.2.2.2.2.2.2.2.2.2 : Int32) t5_0 = p216 at *
                  unfold Q_FR_begin at h45
                  obtain ⟨h451, h453, h455, h456, h457, h458, h459, h45x⟩ := h45
                  have h459i := congrArg Int64.toInt h459
                  have h457i := congrArg Int64.toInt h457
                  unfold S_FR_fixed_c122 F_FR_fixed_c122
                  exact vf_fx1 ⟨by omega, by omega⟩ ⟨by omega, by omega⟩ _ _ ⟨by decide, by decide⟩ (by decide)
            ·
              rw [if_neg g33, if_neg g33]
              have g33i : 3 < x5.toInt := q_nleI g33
              unfold S_FR_fixed_J55 F_FR_fixed_J55
              unfold S_FR_fixed_J71 F_FR_fixed_J71
              have g46 : ¬ ((1 : Int32) ≤ (0 : Int32)) := (by decide)
              rw [if_neg g46, if_neg g46]
              refine ⟨trivial, ?_⟩
              (unfold Q_FR_fixed; dsimp only; first | exact ⟨by omega, by omega⟩ | exact ⟨by decide, by decide⟩)
    ·
      rw [if_neg g25, if_neg g25]
      unfold S_FR_fixed_J18 F_FR_fixed_J18
      unfold S_FR_fixed_J19 F_FR_fixed_J19
      have h47 := T_FR_open (x2 := x2) (x3 := (0 : Int32)) (t0_0 := t0_0) (t0_1 := t0_1) (t0_2 := t0_2) (t0_3 := t0_3) (t0_4 := t0_4) (t0_5 := t0_5) (t0_6 := t0_6) (t0_7 := t0_7) (t0_8 := t0_8) (t0_9 := t0_9) (t0_10 := t0_10) 
      generalize F_FR_open x2 (0 : Int32) t0_0 t0_1 t0_2 t0_3 t0_4 t0_5 t0_6 t0_7 t0_8 t0_9 t0_10 = p81 at *
      unfold Q_FR_open at h47
      obtain ⟨h47a, h47b, h477, h478, h47f, h475⟩ := h47
      have op7 := h477
      have op8 := h478
      have opf := h47f
      unfold S_FR_fixed_c19 F_FR_fixed_c19
      rw [if_neg g25, if_neg g25]
      unfold S_FR_fixed_J55 F_FR_fixed_J55
      unfold S_FR_fixed_J71 F_FR_fixed_J71
      have g48 : ¬ ((1 : Int32) ≤ (0 : Int32)) := (by decide)
      rw [if_neg g48, if_neg g48]
      refine ⟨trivial, ?_⟩
      (unfold Q_FR_fixed; dsimp only; first | exact ⟨by omega, by omega⟩ | exact ⟨by decide, by decide⟩)
def Q_FR_scientific (p : Int32 × Int32 × Int32 × Int32 × Int32 × Int64 × Int32 × Int32 × Int64 × Int32 × Int64 × Int32 × (Nat → Int32) × (Nat → Int32) × (Nat → Int32) × (Nat → Int32) × (Nat → Int32)) : Prop := 0 ≤ p.1.toInt ∧ p.1.toInt ≤ 1600
theorem vf_sc2 {x2 : Int64} {x3 : Int32} {x4 : Int32} {x5 : Int32} {t0_0 : Int32} {t0_1 : Int32} {t0_2 : Int32} {t0_3 : Int32} {t0_4 : Int64} {t0_5 : Int32} {t0_6 : Int32} {t0_7 : Int64} {t0_8 : Int32} {t0_9 : Int64} {t0_10 : Int32} {t1_0 : (Nat → Int32)} {t2_0 : (Nat → Int32)} {t3_0 : (Nat → Int32)} {t4_0 : (Nat → Int32)} {t5_0 : (Nat → Int32)} {lx29 : Int32} {p81 : (Int32 × Int32 × Int32 × Int32 × Int64 × Int32 × Int32 × Int64 × Int32 × Int64 × Int32)} {y47 : Int32} {y48 : Int32} {y49 : Int32} {y50 : Int32} {y51 : Int64} {y52 : Int32} {y53 : Int32} {y54 : Int64} {y55 : Int32} {y56 : Int64} {y57 : Int32} {lx106 : Int32} {p136 : ((Nat → Int32) × (Nat → Int32) × (Nat → Int32))} {f128 : (Nat → Int32)} {f130 : (Nat → Int32)} {f132 : (Nat → Int32)} {lx149 : Int32} {lx168 : Int32} {f192 : (Nat → Int32)} {lx203 : Int32} {p259 : (Int32 × Int32 × Int32 × Int32 × Int64 × Int32 × Int32 × Int64 × Int32 × Int64 × Int32 × (Nat → Int32))} (hx4 : 1 ≤ x4.toInt ∧ x4.toInt ≤ 800)(hl : 0 ≤ lx203.toInt ∧ lx203.toInt ≤ 1403) : ∀ (n : Nat) (lx279 : Int32) (lx280 : Int32) (lx281 : Int32) (lx282 : Int32) (lx283 : Int32) (lx284 : Int64) (lx285 : Int32) (lx286 : Int32) (lx287 : Int64) (lx288 : Int32) (lx289 : Int64) (lx290 : Int32) (lx291 : (Nat → Int32)), (0 ≤ lx279.toInt ∧ lx279.toInt ≤ x4.toInt) → (x4.toInt - lx279.toInt < (n : Int)) → (0 ≤ lx281.toInt ∧ lx281.toInt ≤ lx279.toInt + 2 ∧ (lx279.toInt = 0 → lx281.toInt ≤ 1)) → (S_FR_scientific_L186 x2 x3 x4 x5 t0_0 t0_1 t0_2 t0_3 t0_4 t0_5 t0_6 t0_7 t0_8 t0_9 t0_10 t1_0 t2_0 t3_0 t4_0 t5_0 lx29 p81 y47 y48 y49 y50 y51 y52 y53 y54 y55 y56 y57 lx106 p136 f128 f130 f132 lx149 lx168 f192 lx203 p259 n lx279 lx280 lx281 lx282 lx283 lx284 lx285 lx286 lx287 lx288 lx289 lx290 lx291) ∧ Q_FR_scientific (F_FR_scientific_L186 x2 x3 x4 x5 t0_0 t0_1 t0_2 t0_3 t0_4 t0_5 t0_6 t0_7 t0_8 t0_9 t0_10 t1_0 t2_0 t3_0 t4_0 t5_0 lx29 p81 y47 y48 y49 y50 y51 y52 y53 y54 y55 y56 y57 lx106 p136 f128 f130 f132 lx149 lx168 f192 lx203 p259 n lx279 lx280 lx281 lx282 lx283 lx284 lx285 lx286 lx287 lx288 lx289 lx290 lx291) := by
  intro n
  induction n with
  | zero => intro lx279 lx280 lx281 lx282 lx283 lx284 lx285 lx286 lx287 lx288 lx289 lx290 lx291 h0 hm h1; exact absurd (show False by omega) id
  | succ n ih =>
    intro lx279 lx280 lx281 lx282 lx283 lx284 lx285 lx286 lx287 lx288 lx289 lx290 lx291 h0 hm h1
    have e0 : (0 : Int32).toInt = 0 := rfl
    have e1 : (1 : Int32).toInt = 1 := rfl
    have eL0 : (0 : Int64).toInt = 0 := rfl
    rw [S_FR_scientific_L186.eq_2, F_FR_scientific_L186.eq_2]
    by_cases g1 : x4 ≤ lx279
    ·
      rw [if_pos g1, if_pos g1]
      have g1i : x4.toInt ≤ lx279.toInt := q_leI g1
      have h2 := T_FR_add (x2 := (101 : Int32)) (t0_0 := lx280) (t0_1 := lx281) (t0_2 := lx282) (t0_3 := lx283) (t0_4 := lx284) (t0_5 := lx285) (t0_6 := lx286) (t0_7 := lx287) (t0_8 := lx288) (t0_9 := lx289) (t0_10 := lx290) (t1_0 := lx291) ⟨by first | omega | decide, by first | omega | decide⟩
      with_reducible refine v_owe h2.1 ?_
      obtain ⟨a332, e3⟩ := q_nm ((lx203 - 1080 : Int32) : Int32)
      rw [e3]
      have a332i : a332.toInt = lx203.toInt - 1080 := by rw [← e3]; exact q_subI (y := 1080) rfl (by decide) (by omega) (by omega)
      replace h2 := h2.2
      generalize F_FR_add (101 : Int32) lx280 lx281 lx282 lx283 lx284 lx285 lx286 lx287 lx288 lx289 lx290 lx291 = p378 at *
      unfold Q_FR_add at h2
      obtain ⟨h21, h23, h25, h26, h27, h28, h29, h2x⟩ := h2
      have h29i := congrArg Int64.toInt h29
      have h27i := congrArg Int64.toInt h27
      unfold S_FR_scientific_c247 F_FR_scientific_c247
      by_cases g4 : (0 : Int32) ≤ a332
      ·
        rw [if_pos g4, if_pos g4]
        have g4i : 0 ≤ a332.toInt := q_leI g4
        unfold S_FR_scientific_J263 F_FR_scientific_J263
        have h5 := T_FR_add (x2 := (43 : Int32)) (t0_0 := (p378.1 : Int32)) (t0_1 := (p378.2.1 : Int32)) (t0_2 := (p378.2.2.1 : Int32)) (t0_3 := (p378.2.2.2.1 : Int32)) (t0_4 := (p378.2.2.2.2.1 : Int64)) (t0_5 := (p378.2.2.2.2.2.1 : Int32)) (t0_6 := (p378.2.2.2.2.2.2.1 : Int32)) (t0_7 := (p378.2.2.2.2.2.2.2.1 : Int64)) (t0_8 := (p378.2.2.2.2.2.2.2.2.1 : Int32)) (t0_9 := (p378.2.2.2.2.2.2.2.2.2.1 : Int64)) (t0_10 := (p378.2.2.2.2.2.2.2.2.2.2.1 : Int32)) (t1_0 := (p378.2.2.2.2.2.2.2.2.2.2.2 : (Nat → Int32))) ⟨by first | omega | decide, by first | omega | decide⟩
        with_reducible refine v_owe h5.1 ?_
        replace h5 := h5.2
        generalize F_FR_add (43 : Int32) (p378.1 : Int32) (p378.2.1 : Int32) (p378.2.2.1 : Int32) (p378.2.2.2.1 : Int32) (p378.2.2.2.2.1 : Int64) (p378.2.2.2.2.2.1 : Int32) (p378.2.2.2.2.2.2.1 : Int32) (p378.2.2.2.2.2.2.2.1 : Int64) (p378.2.2.2.2.2.2.2.2.1 : Int32) (p378.2.2.2.2.2.2.2.2.2.1 : Int64) (p378.2.2.2.2.2.2.2.2.2.2.1 : Int32) (p378.2.2.2.2.2.2.2.2.2.2.2 : (Nat → Int32)) = p455 at *
        unfold Q_FR_add at h5
        obtain ⟨h51, h53, h55, h56, h57, h58, h59, h5x⟩ := h5
        have h59i := congrArg Int64.toInt h59
        have h57i := congrArg Int64.toInt h57
        unfold S_FR_scientific_c263 F_FR_scientific_c263
        rw [if_pos g4, if_pos g4]
        unfold S_FR_scientific_J279 F_FR_scientific_J279
        by_cases g6 : (10 : Int32) ≤ a332
        ·
          rw [if_pos g6, if_pos g6]
          have g6i : 10 ≤ a332.toInt := q_leI g6
          have h7 := T_FR_number (x2 := a332) (t0_0 := (p455.1 : Int32)) (t0_1 := (p455.2.1 : Int32)) (t0_2 := (p455.2.2.1 : Int32)) (t0_3 := (p455.2.2.2.1 : Int32)) (t0_4 := (p455.2.2.2.2.1 : Int64)) (t0_5 := (p455.2.2.2.2.2.1 : Int32)) (t0_6 := (p455.2.2.2.2.2.2.1 : Int32)) (t0_7 := (p455.2.2.2.2.2.2.2.1 : Int64)) (t0_8 := (p455.2.2.2.2.2.2.2.2.1 : Int32)) (t0_9 := (p455.2.2.2.2.2.2.2.2.2.1 : Int64)) (t0_10 := (p455.2.2.2.2.2.2.2.2.2.2.1 : Int32)) (t1_0 := (p455.2.2.2.2.2.2.2.2.2.2.2 : (Nat → Int32))) ⟨by omega, by omega⟩ ⟨by omega, by omega⟩
          with_reducible refine v_owe h7.1 ?_
          replace h7 := h7.2
          generalize F_FR_number a332 (p455.1 : Int32) (p455.2.1 : Int32) (p455.2.2.1 : Int32) (p455.2.2.2.1 : Int32) (p455.2.2.2.2.1 : Int64) (p455.2.2.2.2.2.1 : Int32) (p455.2.2.2.2.2.2.1 : Int32) (p455.2.2.2.2.2.2.2.1 : Int64) (p455.2.2.2.2.2.2.2.2.1 : Int32) (p455.2.2.2.2.2.2.2.2.2.1 : Int64) (p455.2.2.2.2.2.2.2.2.2.2.1 : Int32) (p455.2.2.2.2.2.2.2.2.2.2.2 : (Nat → Int32)) = p529 at *
          unfold Q_FR_number at h7
          unfold S_FR_scientific_c297 F_FR_scientific_c297
          refine ⟨trivial, ?_⟩
          (unfold Q_FR_scientific; dsimp only; first | exact ⟨by omega, by omega⟩ | exact ⟨by decide, by decide⟩)
        ·
          rw [if_neg g6, if_neg g6]
          have g6i : a332.toInt < 10 := q_nleI g6
          have h8 := T_FR_add (x2 := (48 : Int32)) (t0_0 := (p455.1 : Int32)) (t0_1 := (p455.2.1 : Int32)) (t0_2 := (p455.2.2.1 : Int32)) (t0_3 := (p455.2.2.2.1 : Int32)) (t0_4 := (p455.2.2.2.2.1 : Int64)) (t0_5 := (p455.2.2.2.2.2.1 : Int32)) (t0_6 := (p455.2.2.2.2.2.2.1 : Int32)) (t0_7 := (p455.2.2.2.2.2.2.2.1 : Int64)) (t0_8 := (p455.2.2.2.2.2.2.2.2.1 : Int32)) (t0_9 := (p455.2.2.2.2.2.2.2.2.2.1 : Int64)) (t0_10 := (p455.2.2.2.2.2.2.2.2.2.2.1 : Int32)) (t1_0 := (p455.2.2.2.2.2.2.2.2.2.2.2 : (Nat → Int32))) ⟨by first | omega | decide, by first | omega | decide⟩
          with_reducible refine v_owe h8.1 ?_
          replace h8 := h8.2
          generalize F_FR_add (48 : Int32) (p455.1 : Int32) (p455.2.1 : Int32) (p455.2.2.1 : Int32) (p455.2.2.2.1 : Int32) (p455.2.2.2.2.1 : Int64) (p455.2.2.2.2.2.1 : Int32) (p455.2.2.2.2.2.2.1 : Int32) (p455.2.2.2.2.2.2.2.1 : Int64) (p455.2.2.2.2.2.2.2.2.1 : Int32) (p455.2.2.2.2.2.2.2.2.2.1 : Int64) (p455.2.2.2.2.2.2.2.2.2.2.1 : Int32) (p455.2.2.2.2.2.2.2.2.2.2.2 : (Nat → Int32)) = p592 at *
          unfold Q_FR_add at h8
          obtain ⟨h81, h83, h85, h86, h87, h88, h89, h8x⟩ := h8
          have h89i := congrArg Int64.toInt h89
          have h87i := congrArg Int64.toInt h87
          unfold S_FR_scientific_c291 F_FR_scientific_c291
          have h9 := T_FR_number (x2 := a332) (t0_0 := (p592.1 : Int32)) (t0_1 := (p592.2.1 : Int32)) (t0_2 := (p592.2.2.1 : Int32)) (t0_3 := (p592.2.2.2.1 : Int32)) (t0_4 := (p592.2.2.2.2.1 : Int64)) (t0_5 := (p592.2.2.2.2.2.1 : Int32)) (t0_6 := (p592.2.2.2.2.2.2.1 : Int32)) (t0_7 := (p592.2.2.2.2.2.2.2.1 : Int64)) (t0_8 := (p592.2.2.2.2.2.2.2.2.1 : Int32)) (t0_9 := (p592.2.2.2.2.2.2.2.2.2.1 : Int64)) (t0_10 := (p592.2.2.2.2.2.2.2.2.2.2.1 : Int32)) (t1_0 := (p592.2.2.2.2.2.2.2.2.2.2.2 : (Nat → Int32))) ⟨by omega, by omega⟩ ⟨by omega, by omega⟩
          with_reducible refine v_owe h9.1 ?_
          replace h9 := h9.2
          generalize F_FR_number a332 (p592.1 : Int32) (p592.2.1 : Int32) (p592.2.2.1 : Int32) (p592.2.2.2.1 : Int32) (p592.2.2.2.2.1 : Int64) (p592.2.2.2.2.2.1 : Int32) (p592.2.2.2.2.2.2.1 : Int32) (p592.2.2.2.2.2.2.2.1 : Int64) (p592.2.2.2.2.2.2.2.2.1 : Int32) (p592.2.2.2.2.2.2.2.2.2.1 : Int64) (p592.2.2.2.2.2.2.2.2.2.2.1 : Int32) (p592.2.2.2.2.2.2.2.2.2.2.2 : (Nat → Int32)) = p651 at *
          unfold Q_FR_number at h9
          unfold S_FR_scientific_c297_16 F_FR_scientific_c297_16
          refine ⟨trivial, ?_⟩
          (unfold Q_FR_scientific; dsimp only; first | exact ⟨by omega, by omega⟩ | exact ⟨by decide, by decide⟩)
      ·
        rw [if_neg g4, if_neg g4]
        have g4i : a332.toInt < 0 := q_nleI g4
        unfold S_FR_scientific_J263 F_FR_scientific_J263
        have h10 := T_FR_add (x2 := (45 : Int32)) (t0_0 := (p378.1 : Int32)) (t0_1 := (p378.2.1 : Int32)) (t0_2 := (p378.2.2.1 : Int32)) (t0_3 := (p378.2.2.2.1 : Int32)) (t0_4 := (p378.2.2.2.2.1 : Int64)) (t0_5 := (p378.2.2.2.2.2.1 : Int32)) (t0_6 := (p378.2.2.2.2.2.2.1 : Int32)) (t0_7 := (p378.2.2.2.2.2.2.2.1 : Int64)) (t0_8 := (p378.2.2.2.2.2.2.2.2.1 : Int32)) (t0_9 := (p378.2.2.2.2.2.2.2.2.2.1 : Int64)) (t0_10 := (p378.2.2.2.2.2.2.2.2.2.2.1 : Int32)) (t1_0 := (p378.2.2.2.2.2.2.2.2.2.2.2 : (Nat → Int32))) ⟨by first | omega | decide, by first | omega | decide⟩
        with_reducible refine v_owe h10.1 ?_
        replace h10 := h10.2
        generalize F_FR_add (45 : Int32) (p378.1 : Int32) (p378.2.1 : Int32) (p378.2.2.1 : Int32) (p378.2.2.2.1 : Int32) (p378.2.2.2.2.1 : Int64) (p378.2.2.2.2.2.1 : Int32) (p378.2.2.2.2.2.2.1 : Int32) (p378.2.2.2.2.2.2.2.1 : Int64) (p378.2.2.2.2.2.2.2.2.1 : Int32) (p378.2.2.2.2.2.2.2.2.2.1 : Int64) (p378.2.2.2.2.2.2.2.2.2.2.1 : Int32) (p378.2.2.2.2.2.2.2.2.2.2.2 : (Nat → Int32)) = p455 at *
        unfold Q_FR_add at h10
        obtain ⟨h101, h103, h105, h106, h107, h108, h109, h10x⟩ := h10
        have h109i := congrArg Int64.toInt h109
        have h107i := congrArg Int64.toInt h107
        unfold S_FR_scientific_c263 F_FR_scientific_c263
        rw [if_neg g4, if_neg g4]
        obtain ⟨lx474, e11⟩ := q_nm ((-a332 : Int32) : Int32)
        rw [e11]
        have lx474i : lx474.toInt = -a332.toInt := by rw [← e11]; exact v_negI (by omega) (by omega)
        unfold S_FR_scientific_J279 F_FR_scientific_J279
        by_cases g12 : (10 : Int32) ≤ lx474
        ·
          rw [if_pos g12, if_pos g12]
          have g12i : 10 ≤ lx474.toInt := q_leI g12
          have h13 := T_FR_number (x2 := lx474) (t0_0 := (p455.1 : Int32)) (t0_1 := (p455.2.1 : Int32)) (t0_2 := (p455.2.2.1 : Int32)) (t0_3 := (p455.2.2.2.1 : Int32)) (t0_4 := (p455.2.2.2.2.1 : Int64)) (t0_5 := (p455.2.2.2.2.2.1 : Int32)) (t0_6 := (p455.2.2.2.2.2.2.1 : Int32)) (t0_7 := (p455.2.2.2.2.2.2.2.1 : Int64)) (t0_8 := (p455.2.2.2.2.2.2.2.2.1 : Int32)) (t0_9 := (p455.2.2.2.2.2.2.2.2.2.1 : Int64)) (t0_10 := (p455.2.2.2.2.2.2.2.2.2.2.1 : Int32)) (t1_0 := (p455.2.2.2.2.2.2.2.2.2.2.2 : (Nat → Int32))) ⟨by omega, by omega⟩ ⟨by omega, by omega⟩
          with_reducible refine v_owe h13.1 ?_
          replace h13 := h13.2
          generalize F_FR_number lx474 (p455.1 : Int32) (p455.2.1 : Int32) (p455.2.2.1 : Int32) (p455.2.2.2.1 : Int32) (p455.2.2.2.2.1 : Int64) (p455.2.2.2.2.2.1 : Int32) (p455.2.2.2.2.2.2.1 : Int32) (p455.2.2.2.2.2.2.2.1 : Int64) (p455.2.2.2.2.2.2.2.2.1 : Int32) (p455.2.2.2.2.2.2.2.2.2.1 : Int64) (p455.2.2.2.2.2.2.2.2.2.2.1 : Int32) (p455.2.2.2.2.2.2.2.2.2.2.2 : (Nat → Int32)) = p529 at *
          unfold Q_FR_number at h13
          unfold S_FR_scientific_c297 F_FR_scientific_c297
          refine ⟨trivial, ?_⟩
          (unfold Q_FR_scientific; dsimp only; first | exact ⟨by omega, by omega⟩ | exact ⟨by decide, by decide⟩)
        ·
          rw [if_neg g12, if_neg g12]
          have g12i : lx474.toInt < 10 := q_nleI g12
          have h14 := T_FR_add (x2 := (48 : Int32)) (t0_0 := (p455.1 : Int32)) (t0_1 := (p455.2.1 : Int32)) (t0_2 := (p455.2.2.1 : Int32)) (t0_3 := (p455.2.2.2.1 : Int32)) (t0_4 := (p455.2.2.2.2.1 : Int64)) (t0_5 := (p455.2.2.2.2.2.1 : Int32)) (t0_6 := (p455.2.2.2.2.2.2.1 : Int32)) (t0_7 := (p455.2.2.2.2.2.2.2.1 : Int64)) (t0_8 := (p455.2.2.2.2.2.2.2.2.1 : Int32)) (t0_9 := (p455.2.2.2.2.2.2.2.2.2.1 : Int64)) (t0_10 := (p455.2.2.2.2.2.2.2.2.2.2.1 : Int32)) (t1_0 := (p455.2.2.2.2.2.2.2.2.2.2.2 : (Nat → Int32))) ⟨by first | omega | decide, by first | omega | decide⟩
          with_reducible refine v_owe h14.1 ?_
          replace h14 := h14.2
          generalize F_FR_add (48 : Int32) (p455.1 : Int32) (p455.2.1 : Int32) (p455.2.2.1 : Int32) (p455.2.2.2.1 : Int32) (p455.2.2.2.2.1 : Int64) (p455.2.2.2.2.2.1 : Int32) (p455.2.2.2.2.2.2.1 : Int32) (p455.2.2.2.2.2.2.2.1 : Int64) (p455.2.2.2.2.2.2.2.2.1 : Int32) (p455.2.2.2.2.2.2.2.2.2.1 : Int64) (p455.2.2.2.2.2.2.2.2.2.2.1 : Int32) (p455.2.2.2.2.2.2.2.2.2.2.2 : (Nat → Int32)) = p592 at *
          unfold Q_FR_add at h14
          obtain ⟨h141, h143, h145, h146, h147, h148, h149, h14x⟩ := h14
          have h149i := congrArg Int64.toInt h149
          have h147i := congrArg Int64.toInt h147
          unfold S_FR_scientific_c291 F_FR_scientific_c291
          have h15 := T_FR_number (x2 := lx474) (t0_0 := (p592.1 : Int32)) (t0_1 := (p592.2.1 : Int32)) (t0_2 := (p592.2.2.1 : Int32)) (t0_3 := (p592.2.2.2.1 : Int32)) (t0_4 := (p592.2.2.2.2.1 : Int64)) (t0_5 := (p592.2.2.2.2.2.1 : Int32)) (t0_6 := (p592.2.2.2.2.2.2.1 : Int32)) (t0_7 := (p592.2.2.2.2.2.2.2.1 : Int64)) (t0_8 := (p592.2.2.2.2.2.2.2.2.1 : Int32)) (t0_9 := (p592.2.2.2.2.2.2.2.2.2.1 : Int64)) (t0_10 := (p592.2.2.2.2.2.2.2.2.2.2.1 : Int32)) (t1_0 := (p592.2.2.2.2.2.2.2.2.2.2.2 : (Nat → Int32))) ⟨by omega, by omega⟩ ⟨by omega, by omega⟩
          with_reducible refine v_owe h15.1 ?_
          replace h15 := h15.2
          generalize F_FR_number lx474 (p592.1 : Int32) (p592.2.1 : Int32) (p592.2.2.1 : Int32) (p592.2.2.2.1 : Int32) (p592.2.2.2.2.1 : Int64) (p592.2.2.2.2.2.1 : Int32) (p592.2.2.2.2.2.2.1 : Int32) (p592.2.2.2.2.2.2.2.1 : Int64) (p592.2.2.2.2.2.2.2.2.1 : Int32) (p592.2.2.2.2.2.2.2.2.2.1 : Int64) (p592.2.2.2.2.2.2.2.2.2.2.1 : Int32) (p592.2.2.2.2.2.2.2.2.2.2.2 : (Nat → Int32)) = p651 at *
          unfold Q_FR_number at h15
          unfold S_FR_scientific_c297_16 F_FR_scientific_c297_16
          refine ⟨trivial, ?_⟩
          (unfold Q_FR_scientific; dsimp only; first | exact ⟨by omega, by omega⟩ | exact ⟨by decide, by decide⟩)
    ·
      rw [if_neg g1, if_neg g1]
      have g1i : lx279.toInt < x4.toInt := q_nleI g1
      have h16 := T_FR_add (x2 := (48 + ((F_FR_figureAt ((lx203 - 1080 : Int32) - lx279 : Int32) lx280 lx281 lx282 lx283 lx284 lx285 lx286 lx287 lx288 lx289 lx290 f192) : Int32) : Int32)) (t0_0 := lx280) (t0_1 := lx281) (t0_2 := lx282) (t0_3 := lx283) (t0_4 := lx284) (t0_5 := lx285) (t0_6 := lx286) (t0_7 := lx287) (t0_8 := lx288) (t0_9 := lx289) (t0_10 := lx290) (t1_0 := lx291) ⟨by first | omega | decide, by first | omega | decide⟩
      with_reducible refine v_owe h16.1 ?_
      replace h16 := h16.2
      generalize F_FR_add (48 + ((F_FR_figureAt ((lx203 - 1080 : Int32) - lx279 : Int32) lx280 lx281 lx282 lx283 lx284 lx285 lx286 lx287 lx288 lx289 lx290 f192) : Int32) : Int32) lx280 lx281 lx282 lx283 lx284 lx285 lx286 lx287 lx288 lx289 lx290 lx291 = p734 at *
      unfold Q_FR_add at h16
      obtain ⟨h161, h163, h165, h166, h167, h168, h169, h16x⟩ := h16
      have h169i := congrArg Int64.toInt h169
      have h167i := congrArg Int64.toInt h167
      unfold S_FR_scientific_c210 F_FR_scientific_c210
      by_cases g17 : lx279 = (0 : Int32)
      ·
        rw [if_pos g17, if_pos g17]
        have g17i : lx279.toInt = 0 := q_eqI g17
        by_cases g18 : x4 ≤ (1 : Int32)
        ·
          rw [if_pos g18, if_pos g18]
          have g18i : x4.toInt ≤ 1 := q_leI g18
          obtain ⟨a19, e20⟩ := q_nm (lx279 + 1 : Int32)
          rw [e20]
          have a19i : a19.toInt = lx279.toInt + 1 := by rw [← e20]; exact q_addI (x := lx279.toInt) (y := 1) rfl (by decide) (by omega) (by omega)
          exact ih _ _ _ _ _ _ _ _ _ _ _ _ _ ⟨by omega, by omega⟩ (by omega) ⟨by omega, by omega, fun _ => by omega⟩
        ·
          rw [if_neg g18, if_neg g18]
          have g18i : 1 < x4.toInt := q_nleI g18
          have h21 := T_FR_add (x2 := (46 : Int32)) (t0_0 := (p734.1 : Int32)) (t0_1 := (p734.2.1 : Int32)) (t0_2 := (p734.2.2.1 : Int32)) (t0_3 := (p734.2.2.2.1 : Int32)) (t0_4 := (p734.2.2.2.2.1 : Int64)) (t0_5 := (p734.2.2.2.2.2.1 : Int32)) (t0_6 := (p734.2.2.2.2.2.2.1 : Int32)) (t0_7 := (p734.2.2.2.2.2.2.2.1 : Int64)) (t0_8 := (p734.2.2.2.2.2.2.2.2.1 : Int32)) (t0_9 := (p734.2.2.2.2.2.2.2.2.2.1 : Int64)) (t0_10 := (p734.2.2.2.2.2.2.2.2.2.2.1 : Int32)) (t1_0 := (p734.2.2.2.2.2.2.2.2.2.2.2 : (Nat → Int32))) ⟨by first | omega | decide, by first | omega | decide⟩
          with_reducible refine v_owe h21.1 ?_
          replace h21 := h21.2
          generalize F_FR_add (46 : Int32) (p734.1 : Int32) (p734.2.1 : Int32) (p734.2.2.1 : Int32) (p734.2.2.2.1 : Int32) (p734.2.2.2.2.1 : Int64) (p734.2.2.2.2.2.1 : Int32) (p734.2.2.2.2.2.2.1 : Int32) (p734.2.2.2.2.2.2.2.1 : Int64) (p734.2.2.2.2.2.2.2.2.1 : Int32) (p734.2.2.2.2.2.2.2.2.2.1 : Int64) (p734.2.2.2.2.2.2.2.2.2.2.1 : Int32) (p734.2.2.2.2.2.2.2.2.2.2.2 : (Nat → Int32)) = p808 at *
          unfold Q_FR_add at h21
          obtain ⟨h211, h213, h215, h216, h217, h218, h219, h21x⟩ := h21
          have h219i := congrArg Int64.toInt h219
          have h217i := congrArg Int64.toInt h217
          unfold S_FR_scientific_c227 F_FR_scientific_c227
          obtain ⟨a22, e23⟩ := q_nm (lx279 + 1 : Int32)
          rw [e23]
          have a22i : a22.toInt = lx279.toInt + 1 := by rw [← e23]; exact q_addI (x := lx279.toInt) (y := 1) rfl (by decide) (by omega) (by omega)
          exact ih _ _ _ _ _ _ _ _ _ _ _ _ _ ⟨by omega, by omega⟩ (by omega) ⟨by omega, by omega, fun _ => by omega⟩
      ·
        rw [if_neg g17, if_neg g17]
        have g17i : lx279.toInt ≠ 0 := q_neI g17
        obtain ⟨a24, e25⟩ := q_nm (lx279 + 1 : Int32)
        rw [e25]
        have a24i : a24.toInt = lx279.toInt + 1 := by rw [← e25]; exact q_addI (x := lx279.toInt) (y := 1) rfl (by decide) (by omega) (by omega)
        exact ih _ _ _ _ _ _ _ _ _ _ _ _ _ ⟨by omega, by omega⟩ (by omega) ⟨by omega, by omega, fun _ => by omega⟩
theorem fl_plE {a b : Int32} (ha : 0 ≤ a.toInt ∧ a.toInt ≤ 1403) (hb : 1 ≤ b.toInt ∧ b.toInt ≤ 800) : ((a - b : Int32) + 1 : Int32).toInt = a.toInt - b.toInt + 1 := q_addI (y := 1) (q_subI rfl rfl (by omega) (by omega)) (by decide) (by omega) (by omega)
theorem fl_pl {a b : Int32} (ha : 0 ≤ a.toInt ∧ a.toInt ≤ 1403) (hb : 1 ≤ b.toInt ∧ b.toInt ≤ 800) (g : 0 ≤ ((a - b : Int32) + 1 : Int32)) : 0 ≤ a.toInt - b.toInt + 1 := by
  have h := q_leI g; rw [fl_plE ha hb] at h; exact h
theorem T_FR_sciJ {x2 : Int64} {x3 : Int32} {x4 : Int32} {x5 : Int32} {t0_0 : Int32} {t0_1 : Int32} {t0_2 : Int32} {t0_3 : Int32} {t0_4 : Int64} {t0_5 : Int32} {t0_6 : Int32} {t0_7 : Int64} {t0_8 : Int32} {t0_9 : Int64} {t0_10 : Int32} {t1_0 : (Nat → Int32)} {t2_0 : (Nat → Int32)} {t3_0 : (Nat → Int32)} {t4_0 : (Nat → Int32)} {t5_0 : (Nat → Int32)} {lx29 : Int32} {p81 : (Int32 × Int32 × Int32 × Int32 × Int64 × Int32 × Int32 × Int64 × Int32 × Int64 × Int32)} {y47 : Int32} {y48 : Int32} {y49 : Int32} {y50 : Int32} {y51 : Int64} {y52 : Int32} {y53 : Int32} {y54 : Int64} {y55 : Int32} {y56 : Int64} {y57 : Int32} {lx106 : Int32} {p136 : ((Nat → Int32) × (Nat → Int32) × (Nat → Int32))} {f128 : (Nat → Int32)} {f130 : (Nat → Int32)} {f132 : (Nat → Int32)} {lx149 : Int32} (hx4 : 1 ≤ x4.toInt ∧ x4.toInt ≤ 800)(hw : flW f132) (hl : 20 ≤ lx149.toInt ∧ lx149.toInt ≤ 1389) : (S_FR_scientific_J107 x2 x3 x4 x5 t0_0 t0_1 t0_2 t0_3 t0_4 t0_5 t0_6 t0_7 t0_8 t0_9 t0_10 t1_0 t2_0 t3_0 t4_0 t5_0 lx29 p81 y47 y48 y49 y50 y51 y52 y53 y54 y55 y56 y57 lx106 p136 f128 f130 f132 lx149) ∧ Q_FR_scientific (F_FR_scientific_J107 x2 x3 x4 x5 t0_0 t0_1 t0_2 t0_3 t0_4 t0_5 t0_6 t0_7 t0_8 t0_9 t0_10 t1_0 t2_0 t3_0 t4_0 t5_0 lx29 p81 y47 y48 y49 y50 y51 y52 y53 y54 y55 y56 y57 lx106 p136 f128 f130 f132 lx149) := by
  have e0 : (0 : Int32).toInt = 0 := rfl
  have e1 : (1 : Int32).toInt = 1 := rfl
  have eL0 : (0 : Int64).toInt = 0 := rfl
  unfold S_FR_scientific_J107 F_FR_scientific_J107
  by_cases g1 : (0 : Int32) ≤ ((lx149 - x4 : Int32) + 1 : Int32)
  ·
    rw [if_pos g1, if_pos g1]
    have g1i := fl_pl ⟨by omega, by omega⟩ hx4 g1
    obtain ⟨lx168, e2⟩ := q_nm (((lx149 - x4 : Int32) + 1 : Int32) : Int32)
    rw [e2]
    have lx168i : lx168.toInt = lx149.toInt - x4.toInt + 1 := by rw [← e2]; exact fl_plE ⟨by omega, by omega⟩ hx4
    unfold S_FR_scientific_J130 F_FR_scientific_J130
    have h3 := T_FR_isMore (x2 := lx168) (x3 := x5) (t0_0 := lx106) (t0_1 := y48) (t0_2 := y49) (t0_3 := y50) (t0_4 := y51) (t0_5 := y52) (t0_6 := y53) (t0_7 := y54) (t0_8 := y55) (t0_9 := y56) (t0_10 := y57) (t1_0 := f132) ⟨by first | omega | decide, by first | omega | decide⟩
    with_reducible refine v_owe h3 ?_
    have h4 := T_FR_cut (x2 := lx168) (x3 := ((F_FR_isMore lx168 x5 lx106 y48 y49 y50 y51 y52 y53 y54 y55 y56 y57 f132) : Int32)) (t0_0 := lx106) (t0_1 := y48) (t0_2 := y49) (t0_3 := y50) (t0_4 := y51) (t0_5 := y52) (t0_6 := y53) (t0_7 := y54) (t0_8 := y55) (t0_9 := y56) (t0_10 := y57) (t1_0 := f132) (t2_0 := t4_0) (by with_reducible assumption) ⟨by first | omega | decide, by first | omega | decide⟩
    with_reducible refine v_owe h4.1 ?_
    obtain ⟨a5, e6⟩ := q_nm (lx149 + 1 : Int32)
    rw [e6]
    have a5i : a5.toInt = lx149.toInt + 1 := by rw [← e6]; exact q_addI (x := lx149.toInt) (y := 1) rfl (by decide) (by omega) (by omega)
    refine v_cons (by first | omega | decide) ?_
    by_cases g7 : (((F_FR_cut lx168 ((F_FR_isMore lx168 x5 lx106 y48 y49 y50 y51 y52 y53 y54 y55 y56 y57 f132) : Int32) lx106 y48 y49 y50 y51 y52 y53 y54 y55 y56 y57 f132 t4_0) : (Nat → Int32)) a5.toNatClampNeg : Int32) = (1 : Int32)
    ·
      rw [if_pos g7, if_pos g7]
      by_cases g8 : (lg_cmp y54 0 : Int32) = (0 : Int32)
      ·
        rw [if_pos g8, if_pos g8]
        have g8z := fl_lz g8
        unfold S_FR_scientific_J175 F_FR_scientific_J175
        unfold S_FR_scientific_J177 F_FR_scientific_J177
        have h9 := T_FR_begin (t0_0 := lx106) (t0_1 := y48) (t0_2 := y49) (t0_3 := y50) (t0_4 := y51) (t0_5 := y52) (t0_6 := y53) (t0_7 := y54) (t0_8 := y55) (t0_9 := y56) (t0_10 := y57) (t1_0 := t5_0) 
        with_reducible refine v_owe h9.1 ?_
        replace h9 := h9.2
        generalize F_FR_begin lx106 y48 y49 y50 y51 y52 y53 y54 y55 y56 y57 t5_0 = p259 at *
        unfold Q_FR_begin at h9
        obtain ⟨h91, h93, h95, h96, h97, h98, h99, h9x⟩ := h9
        have h99i := congrArg Int64.toInt h99
        have h97i := congrArg Int64.toInt h97
        unfold S_FR_scientific_c180 F_FR_scientific_c180
        exact vf_sc2 hx4 ⟨by omega, by omega⟩ 1000000 _ _ _ _ _ _ _ _ _ _ _ _ _ ⟨by decide, by omega⟩ (by omega) ⟨by omega, by omega, fun _ => by omega⟩
      ·
        rw [if_neg g8, if_neg g8]
        have g8z := fl_lnz g8
        unfold S_FR_scientific_J177 F_FR_scientific_J177
        have h10 := T_FR_begin (t0_0 := lx106) (t0_1 := y48) (t0_2 := y49) (t0_3 := y50) (t0_4 := y51) (t0_5 := y52) (t0_6 := y53) (t0_7 := y54) (t0_8 := y55) (t0_9 := y56) (t0_10 := y57) (t1_0 := t5_0) 
        with_reducible refine v_owe h10.1 ?_
        replace h10 := h10.2
        generalize F_FR_begin lx106 y48 y49 y50 y51 y52 y53 y54 y55 y56 y57 t5_0 = p259 at *
        unfold Q_FR_begin at h10
        obtain ⟨h101, h103, h105, h106, h107, h108, h109, h10x⟩ := h10
        have h109i := congrArg Int64.toInt h109
        have h107i := congrArg Int64.toInt h107
        unfold S_FR_scientific_c180 F_FR_scientific_c180
        exact vf_sc2 hx4 ⟨by omega, by omega⟩ 1000000 _ _ _ _ _ _ _ _ _ _ _ _ _ ⟨by decide, by omega⟩ (by omega) ⟨by omega, by omega, fun _ => by omega⟩
    ·
      rw [if_neg g7, if_neg g7]
      unfold S_FR_scientific_J175 F_FR_scientific_J175
      unfold S_FR_scientific_J177 F_FR_scientific_J177
      have h11 := T_FR_begin (t0_0 := lx106) (t0_1 := y48) (t0_2 := y49) (t0_3 := y50) (t0_4 := y51) (t0_5 := y52) (t0_6 := y53) (t0_7 := y54) (t0_8 := y55) (t0_9 := y56) (t0_10 := y57) (t1_0 := t5_0) 
      with_reducible refine v_owe h11.1 ?_
      replace h11 := h11.2
      generalize F_FR_begin lx106 y48 y49 y50 y51 y52 y53 y54 y55 y56 y57 t5_0 = p259 at *
      unfold Q_FR_begin at h11
      obtain ⟨h111, h113, h115, h116, h117, h118, h119, h11x⟩ := h11
      have h119i := congrArg Int64.toInt h119
      have h117i := congrArg Int64.toInt h117
      unfold S_FR_scientific_c180 F_FR_scientific_c180
      exact vf_sc2 hx4 ⟨by omega, by omega⟩ 1000000 _ _ _ _ _ _ _ _ _ _ _ _ _ ⟨by decide, by omega⟩ (by omega) ⟨by omega, by omega, fun _ => by omega⟩
  ·
    rw [if_neg g1, if_neg g1]
    unfold S_FR_scientific_J130 F_FR_scientific_J130
    have h12 := T_FR_isMore (x2 := (0 : Int32)) (x3 := x5) (t0_0 := lx106) (t0_1 := y48) (t0_2 := y49) (t0_3 := y50) (t0_4 := y51) (t0_5 := y52) (t0_6 := y53) (t0_7 := y54) (t0_8 := y55) (t0_9 := y56) (t0_10 := y57) (t1_0 := f132) ⟨by first | omega | decide, by first | omega | decide⟩
    with_reducible refine v_owe h12 ?_
    have h13 := T_FR_cut (x2 := (0 : Int32)) (x3 := ((F_FR_isMore (0 : Int32) x5 lx106 y48 y49 y50 y51 y52 y53 y54 y55 y56 y57 f132) : Int32)) (t0_0 := lx106) (t0_1 := y48) (t0_2 := y49) (t0_3 := y50) (t0_4 := y51) (t0_5 := y52) (t0_6 := y53) (t0_7 := y54) (t0_8 := y55) (t0_9 := y56) (t0_10 := y57) (t1_0 := f132) (t2_0 := t4_0) (by with_reducible assumption) ⟨by first | omega | decide, by first | omega | decide⟩
    with_reducible refine v_owe h13.1 ?_
    obtain ⟨a14, e15⟩ := q_nm (lx149 + 1 : Int32)
    rw [e15]
    have a14i : a14.toInt = lx149.toInt + 1 := by rw [← e15]; exact q_addI (x := lx149.toInt) (y := 1) rfl (by decide) (by omega) (by omega)
    refine v_cons (by first | omega | decide) ?_
    by_cases g16 : (((F_FR_cut (0 : Int32) ((F_FR_isMore (0 : Int32) x5 lx106 y48 y49 y50 y51 y52 y53 y54 y55 y56 y57 f132) : Int32) lx106 y48 y49 y50 y51 y52 y53 y54 y55 y56 y57 f132 t4_0) : (Nat → Int32)) a14.toNatClampNeg : Int32) = (1 : Int32)
    ·
      rw [if_pos g16, if_pos g16]
      by_cases g17 : (lg_cmp y54 0 : Int32) = (0 : Int32)
      ·
        rw [if_pos g17, if_pos g17]
        have g17z := fl_lz g17
        unfold S_FR_scientific_J175 F_FR_scientific_J175
        unfold S_FR_scientific_J177 F_FR_scientific_J177
        have h18 := T_FR_begin (t0_0 := lx106) (t0_1 := y48) (t0_2 := y49) (t0_3 := y50) (t0_4 := y51) (t0_5 := y52) (t0_6 := y53) (t0_7 := y54) (t0_8 := y55) (t0_9 := y56) (t0_10 := y57) (t1_0 := t5_0) 
        with_reducible refine v_owe h18.1 ?_
        replace h18 := h18.2
        generalize F_FR_begin lx106 y48 y49 y50 y51 y52 y53 y54 y55 y56 y57 t5_0 = p259 at *
        unfold Q_FR_begin at h18
        obtain ⟨h181, h183, h185, h186, h187, h188, h189, h18x⟩ := h18
        have h189i := congrArg Int64.toInt h189
        have h187i := congrArg Int64.toInt h187
        unfold S_FR_scientific_c180 F_FR_scientific_c180
        exact vf_sc2 hx4 ⟨by omega, by omega⟩ 1000000 _ _ _ _ _ _ _ _ _ _ _ _ _ ⟨by decide, by omega⟩ (by omega) ⟨by omega, by omega, fun _ => by omega⟩
      ·
        rw [if_neg g17, if_neg g17]
        have g17z := fl_lnz g17
        unfold S_FR_scientific_J177 F_FR_scientific_J177
        have h19 := T_FR_begin (t0_0 := lx106) (t0_1 := y48) (t0_2 := y49) (t0_3 := y50) (t0_4 := y51) (t0_5 := y52) (t0_6 := y53) (t0_7 := y54) (t0_8 := y55) (t0_9 := y56) (t0_10 := y57) (t1_0 := t5_0) 
        with_reducible refine v_owe h19.1 ?_
        replace h19 := h19.2
        generalize F_FR_begin lx106 y48 y49 y50 y51 y52 y53 y54 y55 y56 y57 t5_0 = p259 at *
        unfold Q_FR_begin at h19
        obtain ⟨h191, h193, h195, h196, h197, h198, h199, h19x⟩ := h19
        have h199i := congrArg Int64.toInt h199
        have h197i := congrArg Int64.toInt h197
        unfold S_FR_scientific_c180 F_FR_scientific_c180
        exact vf_sc2 hx4 ⟨by omega, by omega⟩ 1000000 _ _ _ _ _ _ _ _ _ _ _ _ _ ⟨by decide, by omega⟩ (by omega) ⟨by omega, by omega, fun _ => by omega⟩
    ·
      rw [if_neg g16, if_neg g16]
      unfold S_FR_scientific_J175 F_FR_scientific_J175
      unfold S_FR_scientific_J177 F_FR_scientific_J177
      have h20 := T_FR_begin (t0_0 := lx106) (t0_1 := y48) (t0_2 := y49) (t0_3 := y50) (t0_4 := y51) (t0_5 := y52) (t0_6 := y53) (t0_7 := y54) (t0_8 := y55) (t0_9 := y56) (t0_10 := y57) (t1_0 := t5_0) 
      with_reducible refine v_owe h20.1 ?_
      replace h20 := h20.2
      generalize F_FR_begin lx106 y48 y49 y50 y51 y52 y53 y54 y55 y56 y57 t5_0 = p259 at *
      unfold Q_FR_begin at h20
      obtain ⟨h201, h203, h205, h206, h207, h208, h209, h20x⟩ := h20
      have h209i := congrArg Int64.toInt h209
      have h207i := congrArg Int64.toInt h207
      unfold S_FR_scientific_c180 F_FR_scientific_c180
      exact vf_sc2 hx4 ⟨by omega, by omega⟩ 1000000 _ _ _ _ _ _ _ _ _ _ _ _ _ ⟨by decide, by omega⟩ (by omega) ⟨by omega, by omega, fun _ => by omega⟩
theorem T_FR_scientific {x2 : Int64} {x3 : Int32} {x4 : Int32} {x5 : Int32} {t0_0 : Int32} {t0_1 : Int32} {t0_2 : Int32} {t0_3 : Int32} {t0_4 : Int64} {t0_5 : Int32} {t0_6 : Int32} {t0_7 : Int64} {t0_8 : Int32} {t0_9 : Int64} {t0_10 : Int32} {t1_0 : (Nat → Int32)} {t2_0 : (Nat → Int32)} {t3_0 : (Nat → Int32)} {t4_0 : (Nat → Int32)} {t5_0 : (Nat → Int32)}  : (S_FR_scientific x2 x3 x4 x5 t0_0 t0_1 t0_2 t0_3 t0_4 t0_5 t0_6 t0_7 t0_8 t0_9 t0_10 t1_0 t2_0 t3_0 t4_0 t5_0) ∧ Q_FR_scientific (F_FR_scientific x2 x3 x4 x5 t0_0 t0_1 t0_2 t0_3 t0_4 t0_5 t0_6 t0_7 t0_8 t0_9 t0_10 t1_0 t2_0 t3_0 t4_0 t5_0) := by
  have e0 : (0 : Int32).toInt = 0 := rfl
  have e1 : (1 : Int32).toInt = 1 := rfl
  have eL0 : (0 : Int64).toInt = 0 := rfl
  unfold S_FR_scientific F_FR_scientific
  by_cases g1 : x3 = (0 : Int32)
  ·
    rw [if_pos g1, if_pos g1]
    have g1i : x3.toInt = 0 := q_eqI g1
    unfold S_FR_scientific_J18 F_FR_scientific_J18
    unfold S_FR_scientific_J19 F_FR_scientific_J19
    have h2 := T_FR_open (x2 := x2) (x3 := (0 : Int32)) (t0_0 := t0_0) (t0_1 := t0_1) (t0_2 := t0_2) (t0_3 := t0_3) (t0_4 := t0_4) (t0_5 := t0_5) (t0_6 := t0_6) (t0_7 := t0_7) (t0_8 := t0_8) (t0_9 := t0_9) (t0_10 := t0_10) 
    generalize F_FR_open x2 (0 : Int32) t0_0 t0_1 t0_2 t0_3 t0_4 t0_5 t0_6 t0_7 t0_8 t0_9 t0_10 = p81 at *
    unfold Q_FR_open at h2
    obtain ⟨h2a, h2b, h27, h28, h2f, h25⟩ := h2
    have op7 := h27
    have op8 := h28
    have opf := h2f
    unfold S_FR_scientific_c19 F_FR_scientific_c19
    by_cases g3 : ((F_FR_isWrong x2 x3) : Int32) = (0 : Int32)
    ·
      rw [if_pos g3, if_pos g3]
      by_cases g4 : x4 < (1 : Int32)
      ·
        rw [if_pos g4, if_pos g4]
        have g4i : x4.toInt < 1 := q_ltI g4
        unfold S_FR_scientific_J56 F_FR_scientific_J56
        unfold S_FR_scientific_J72 F_FR_scientific_J72
        have g5 : ¬ ((1 : Int32) ≤ (0 : Int32)) := (by decide)
        rw [if_neg g5, if_neg g5]
        refine ⟨trivial, ?_⟩
        (unfold Q_FR_scientific; dsimp only; first | exact ⟨by omega, by omega⟩ | exact ⟨by decide, by decide⟩)
      ·
        rw [if_neg g4, if_neg g4]
        have g4i : 1 ≤ x4.toInt := q_nltI g4
        by_cases g6 : (800 : Int32) < x4
        ·
          rw [if_pos g6, if_pos g6]
          have g6i : 800 < x4.toInt := q_ltI g6
          unfold S_FR_scientific_J56 F_FR_scientific_J56
          unfold S_FR_scientific_J72 F_FR_scientific_J72
          have g7 : ¬ ((1 : Int32) ≤ (0 : Int32)) := (by decide)
          rw [if_neg g7, if_neg g7]
          refine ⟨trivial, ?_⟩
          (unfold Q_FR_scientific; dsimp only; first | exact ⟨by omega, by omega⟩ | exact ⟨by decide, by decide⟩)
        ·
          rw [if_neg g6, if_neg g6]
          have g6i : x4.toInt ≤ 800 := q_nltI g6
          by_cases g8 : x5 < (0 : Int32)
          ·
            rw [if_pos g8, if_pos g8]
            have g8i : x5.toInt < 0 := q_ltI g8
            unfold S_FR_scientific_J56 F_FR_scientific_J56
            unfold S_FR_scientific_J72 F_FR_scientific_J72
            have g9 : ¬ ((1 : Int32) ≤ (0 : Int32)) := (by decide)
            rw [if_neg g9, if_neg g9]
            refine ⟨trivial, ?_⟩
            (unfold Q_FR_scientific; dsimp only; first | exact ⟨by omega, by omega⟩ | exact ⟨by decide, by decide⟩)
          ·
            rw [if_neg g8, if_neg g8]
            have g8i : 0 ≤ x5.toInt := q_nltI g8
            by_cases g10 : x5 ≤ (3 : Int32)
            ·
              rw [if_pos g10, if_pos g10]
              have g10i : x5.toInt ≤ 3 := q_leI g10
              by_cases g11 : ((F_FR_isFinite (p81.1 : Int32) (p81.2.1 : Int32) (p81.2.2.1 : Int32) (p81.2.2.2.1 : Int32) (p81.2.2.2.2.1 : Int64) (p81.2.2.2.2.2.1 : Int32) (p81.2.2.2.2.2.2.1 : Int32) (p81.2.2.2.2.2.2.2.1 : Int64) (p81.2.2.2.2.2.2.2.2.1 : Int32) (p81.2.2.2.2.2.2.2.2.2.1 : Int64) (p81.2.2.2.2.2.2.2.2.2.2 : Int32)) : Int32) = (0 : Int32)
              ·
                rw [if_pos g11, if_pos g11]
                unfold S_FR_scientific_J72 F_FR_scientific_J72
                have g12 : ¬ ((2 : Int32) ≤ (0 : Int32)) := (by decide)
                rw [if_neg g12, if_neg g12]
                refine ⟨trivial, ?_⟩
                (unfold Q_FR_scientific; dsimp only; first | exact ⟨by omega, by omega⟩ | exact ⟨by decide, by decide⟩)
              ·
                rw [if_neg g11, if_neg g11]
                have fin := fl_fin g11
                unfold S_FR_scientific_J72 F_FR_scientific_J72
                have g13 : ((0 : Int32) ≤ (0 : Int32)) := (by decide)
                rw [if_pos g13, if_pos g13]
                have h14 := T_FR_setValue (t0_0 := (0 : Int32)) (t0_1 := (p81.2.1 : Int32)) (t0_2 := (p81.2.2.1 : Int32)) (t0_3 := (p81.2.2.2.1 : Int32)) (t0_4 := (p81.2.2.2.2.1 : Int64)) (t0_5 := (p81.2.2.2.2.2.1 : Int32)) (t0_6 := (p81.2.2.2.2.2.2.1 : Int32)) (t0_7 := (p81.2.2.2.2.2.2.2.1 : Int64)) (t0_8 := (p81.2.2.2.2.2.2.2.2.1 : Int32)) (t0_9 := (p81.2.2.2.2.2.2.2.2.2.1 : Int64)) (t0_10 := (p81.2.2.2.2.2.2.2.2.2.2 : Int32)) (t1_0 := t1_0) (t2_0 := t2_0) (t3_0 := t3_0) ⟨by omega, by omega⟩ ⟨by omega, by omega⟩
                with_reducible refine v_owe h14.1 ?_
                replace h14 := h14.2
                generalize F_FR_setValue (0 : Int32) (p81.2.1 : Int32) (p81.2.2.1 : Int32) (p81.2.2.2.1 : Int32) (p81.2.2.2.2.1 : Int64) (p81.2.2.2.2.2.1 : Int32) (p81.2.2.2.2.2.2.1 : Int32) (p81.2.2.2.2.2.2.2.1 : Int64) (p81.2.2.2.2.2.2.2.2.1 : Int32) (p81.2.2.2.2.2.2.2.2.2.1 : Int64) (p81.2.2.2.2.2.2.2.2.2.2 : Int32) t1_0 t2_0 t3_0 = p136 at *
                unfold Q_FR_setValue at h14
                obtain ⟨hw, hnz⟩ := h14
                unfold S_FR_scientific_c85 F_FR_scientific_c85
                by_cases g15 : (lg_cmp (p81.2.2.2.2.2.2.2.1 : Int64) 0 : Int32) = (0 : Int32)
                ·
                  rw [if_pos g15, if_pos g15]
                  have g15z := fl_lz g15
                  exact T_FR_sciJ ⟨by omega, by omega⟩ hw (by decide)
                ·
                  rw [if_neg g15, if_neg g15]
                  have g15z := fl_lnz g15
                  have h16 := T_FR_top (t0_0 := (0 : Int32)) (t0_1 := (p81.2.1 : Int32)) (t0_2 := (p81.2.2.1 : Int32)) (t0_3 := (p81.2.2.2.1 : Int32)) (t0_4 := (p81.2.2.2.2.1 : Int64)) (t0_5 := (p81.2.2.2.2.2.1 : Int32)) (t0_6 := (p81.2.2.2.2.2.2.1 : Int32)) (t0_7 := (p81.2.2.2.2.2.2.2.1 : Int64)) (t0_8 := (p81.2.2.2.2.2.2.2.2.1 : Int32)) (t0_9 := (p81.2.2.2.2.2.2.2.2.2.1 : Int64)) (t0_10 := (p81.2.2.2.2.2.2.2.2.2.2 : Int32)) (t1_0 := (p136.2.2 : (Nat → Int32))) (by with_reducible assumption) (hnz (by omega))
                  have h16q := h16.2
                  with_reducible refine v_owe h16.1 ?_
                  exact T_FR_sciJ ⟨by omega, by omega⟩ hw (T_FR_top hw (hnz (by omega))).2.1
            ·
              rw [if_neg g10, if_neg g10]
              have g10i : 3 < x5.toInt := q_nleI g10
              unfold S_FR_scientific_J56 F_FR_scientific_J56
              unfold S_FR_scientific_J72 F_FR_scientific_J72
              have g17 : ¬ ((1 : Int32) ≤ (0 : Int32)) := (by decide)
              rw [if_neg g17, if_neg g17]
              refine ⟨trivial, ?_⟩
              (unfold Q_FR_scientific; dsimp only; first | exact ⟨by omega, by omega⟩ | exact ⟨by decide, by decide⟩)
    ·
      rw [if_neg g3, if_neg g3]
      unfold S_FR_scientific_J56 F_FR_scientific_J56
      unfold S_FR_scientific_J72 F_FR_scientific_J72
      have g18 : ¬ ((1 : Int32) ≤ (0 : Int32)) := (by decide)
      rw [if_neg g18, if_neg g18]
      refine ⟨trivial, ?_⟩
      (unfold Q_FR_scientific; dsimp only; first | exact ⟨by omega, by omega⟩ | exact ⟨by decide, by decide⟩)
  ·
    rw [if_neg g1, if_neg g1]
    have g1i : x3.toInt ≠ 0 := q_neI g1
    by_cases g19 : ((F_FR_isWrong x2 x3) : Int32) = (0 : Int32)
    ·
      rw [if_pos g19, if_pos g19]
      unfold S_FR_scientific_J19 F_FR_scientific_J19
      have h20 := T_FR_open (x2 := x2) (x3 := (1 : Int32)) (t0_0 := t0_0) (t0_1 := t0_1) (t0_2 := t0_2) (t0_3 := t0_3) (t0_4 := t0_4) (t0_5 := t0_5) (t0_6 := t0_6) (t0_7 := t0_7) (t0_8 := t0_8) (t0_9 := t0_9) (t0_10 := t0_10) 
      generalize F_FR_open x2 (1 : Int32) t0_0 t0_1 t0_2 t0_3 t0_4 t0_5 t0_6 t0_7 t0_8 t0_9 t0_10 = p81 at *
      unfold Q_FR_open at h20
      obtain ⟨h20a, h20b, h207, h208, h20f, h205⟩ := h20
      have op7 := h207
      have op8 := h208
      have opf := h20f
      unfold S_FR_scientific_c19 F_FR_scientific_c19
      rw [if_pos g19, if_pos g19]
      by_cases g21 : x4 < (1 : Int32)
      ·
        rw [if_pos g21, if_pos g21]
        have g21i : x4.toInt < 1 := q_ltI g21
        unfold S_FR_scientific_J56 F_FR_scientific_J56
        unfold S_FR_scientific_J72 F_FR_scientific_J72
        have g22 : ¬ ((1 : Int32) ≤ (0 : Int32)) := (by decide)
        rw [if_neg g22, if_neg g22]
        refine ⟨trivial, ?_⟩
        (unfold Q_FR_scientific; dsimp only; first | exact ⟨by omega, by omega⟩ | exact ⟨by decide, by decide⟩)
      ·
        rw [if_neg g21, if_neg g21]
        have g21i : 1 ≤ x4.toInt := q_nltI g21
        by_cases g23 : (800 : Int32) < x4
        ·
          rw [if_pos g23, if_pos g23]
          have g23i : 800 < x4.toInt := q_ltI g23
          unfold S_FR_scientific_J56 F_FR_scientific_J56
          unfold S_FR_scientific_J72 F_FR_scientific_J72
          have g24 : ¬ ((1 : Int32) ≤ (0 : Int32)) := (by decide)
          rw [if_neg g24, if_neg g24]
          refine ⟨trivial, ?_⟩
          (unfold Q_FR_scientific; dsimp only; first | exact ⟨by omega, by omega⟩ | exact ⟨by decide, by decide⟩)
        ·
          rw [if_neg g23, if_neg g23]
          have g23i : x4.toInt ≤ 800 := q_nltI g23
          by_cases g25 : x5 < (0 : Int32)
          ·
            rw [if_pos g25, if_pos g25]
            have g25i : x5.toInt < 0 := q_ltI g25
            unfold S_FR_scientific_J56 F_FR_scientific_J56
            unfold S_FR_scientific_J72 F_FR_scientific_J72
            have g26 : ¬ ((1 : Int32) ≤ (0 : Int32)) := (by decide)
            rw [if_neg g26, if_neg g26]
            refine ⟨trivial, ?_⟩
            (unfold Q_FR_scientific; dsimp only; first | exact ⟨by omega, by omega⟩ | exact ⟨by decide, by decide⟩)
          ·
            rw [if_neg g25, if_neg g25]
            have g25i : 0 ≤ x5.toInt := q_nltI g25
            by_cases g27 : x5 ≤ (3 : Int32)
            ·
              rw [if_pos g27, if_pos g27]
              have g27i : x5.toInt ≤ 3 := q_leI g27
              by_cases g28 : ((F_FR_isFinite (p81.1 : Int32) (p81.2.1 : Int32) (p81.2.2.1 : Int32) (p81.2.2.2.1 : Int32) (p81.2.2.2.2.1 : Int64) (p81.2.2.2.2.2.1 : Int32) (p81.2.2.2.2.2.2.1 : Int32) (p81.2.2.2.2.2.2.2.1 : Int64) (p81.2.2.2.2.2.2.2.2.1 : Int32) (p81.2.2.2.2.2.2.2.2.2.1 : Int64) (p81.2.2.2.2.2.2.2.2.2.2 : Int32)) : Int32) = (0 : Int32)
              ·
                rw [if_pos g28, if_pos g28]
                unfold S_FR_scientific_J72 F_FR_scientific_J72
                have g29 : ¬ ((2 : Int32) ≤ (0 : Int32)) := (by decide)
                rw [if_neg g29, if_neg g29]
                refine ⟨trivial, ?_⟩
                (unfold Q_FR_scientific; dsimp only; first | exact ⟨by omega, by omega⟩ | exact ⟨by decide, by decide⟩)
              ·
                rw [if_neg g28, if_neg g28]
                have fin := fl_fin g28
                unfold S_FR_scientific_J72 F_FR_scientific_J72
                have g30 : ((0 : Int32) ≤ (0 : Int32)) := (by decide)
                rw [if_pos g30, if_pos g30]
                have h31 := T_FR_setValue (t0_0 := (0 : Int32)) (t0_1 := (p81.2.1 : Int32)) (t0_2 := (p81.2.2.1 : Int32)) (t0_3 := (p81.2.2.2.1 : Int32)) (t0_4 := (p81.2.2.2.2.1 : Int64)) (t0_5 := (p81.2.2.2.2.2.1 : Int32)) (t0_6 := (p81.2.2.2.2.2.2.1 : Int32)) (t0_7 := (p81.2.2.2.2.2.2.2.1 : Int64)) (t0_8 := (p81.2.2.2.2.2.2.2.2.1 : Int32)) (t0_9 := (p81.2.2.2.2.2.2.2.2.2.1 : Int64)) (t0_10 := (p81.2.2.2.2.2.2.2.2.2.2 : Int32)) (t1_0 := t1_0) (t2_0 := t2_0) (t3_0 := t3_0) ⟨by omega, by omega⟩ ⟨by omega, by omega⟩
                with_reducible refine v_owe h31.1 ?_
                replace h31 := h31.2
                generalize F_FR_setValue (0 : Int32) (p81.2.1 : Int32) (p81.2.2.1 : Int32) (p81.2.2.2.1 : Int32) (p81.2.2.2.2.1 : Int64) (p81.2.2.2.2.2.1 : Int32) (p81.2.2.2.2.2.2.1 : Int32) (p81.2.2.2.2.2.2.2.1 : Int64) (p81.2.2.2.2.2.2.2.2.1 : Int32) (p81.2.2.2.2.2.2.2.2.2.1 : Int64) (p81.2.2.2.2.2.2.2.2.2.2 : Int32) t1_0 t2_0 t3_0 = p136 at *
                unfold Q_FR_setValue at h31
                obtain ⟨hw, hnz⟩ := h31
                unfold S_FR_scientific_c85 F_FR_scientific_c85
                by_cases g32 : (lg_cmp (p81.2.2.2.2.2.2.2.1 : Int64) 0 : Int32) = (0 : Int32)
                ·
                  rw [if_pos g32, if_pos g32]
                  have g32z := fl_lz g32
                  exact T_FR_sciJ ⟨by omega, by omega⟩ hw (by decide)
                ·
                  rw [if_neg g32, if_neg g32]
                  have g32z := fl_lnz g32
                  have h33 := T_FR_top (t0_0 := (0 : Int32)) (t0_1 := (p81.2.1 : Int32)) (t0_2 := (p81.2.2.1 : Int32)) (t0_3 := (p81.2.2.2.1 : Int32)) (t0_4 := (p81.2.2.2.2.1 : Int64)) (t0_5 := (p81.2.2.2.2.2.1 : Int32)) (t0_6 := (p81.2.2.2.2.2.2.1 : Int32)) (t0_7 := (p81.2.2.2.2.2.2.2.1 : Int64)) (t0_8 := (p81.2.2.2.2.2.2.2.2.1 : Int32)) (t0_9 := (p81.2.2.2.2.2.2.2.2.2.1 : Int64)) (t0_10 := (p81.2.2.2.2.2.2.2.2.2.2 : Int32)) (t1_0 := (p136.2.2 : (Nat → Int32))) (by with_reducible assumption) (hnz (by omega))
                  have h33q := h33.2
                  with_reducible refine v_owe h33.1 ?_
                  exact T_FR_sciJ ⟨by omega, by omega⟩ hw (T_FR_top hw (hnz (by omega))).2.1
            ·
              rw [if_neg g27, if_neg g27]
              have g27i : 3 < x5.toInt := q_nleI g27
              unfold S_FR_scientific_J56 F_FR_scientific_J56
              unfold S_FR_scientific_J72 F_FR_scientific_J72
              have g34 : ¬ ((1 : Int32) ≤ (0 : Int32)) := (by decide)
              rw [if_neg g34, if_neg g34]
              refine ⟨trivial, ?_⟩
              (unfold Q_FR_scientific; dsimp only; first | exact ⟨by omega, by omega⟩ | exact ⟨by decide, by decide⟩)
    ·
      rw [if_neg g19, if_neg g19]
      unfold S_FR_scientific_J18 F_FR_scientific_J18
      unfold S_FR_scientific_J19 F_FR_scientific_J19
      have h35 := T_FR_open (x2 := x2) (x3 := (0 : Int32)) (t0_0 := t0_0) (t0_1 := t0_1) (t0_2 := t0_2) (t0_3 := t0_3) (t0_4 := t0_4) (t0_5 := t0_5) (t0_6 := t0_6) (t0_7 := t0_7) (t0_8 := t0_8) (t0_9 := t0_9) (t0_10 := t0_10) 
      generalize F_FR_open x2 (0 : Int32) t0_0 t0_1 t0_2 t0_3 t0_4 t0_5 t0_6 t0_7 t0_8 t0_9 t0_10 = p81 at *
      unfold Q_FR_open at h35
      obtain ⟨h35a, h35b, h357, h358, h35f, h355⟩ := h35
      have op7 := h357
      have op8 := h358
      have opf := h35f
      unfold S_FR_scientific_c19 F_FR_scientific_c19
      rw [if_neg g19, if_neg g19]
      unfold S_FR_scientific_J56 F_FR_scientific_J56
      unfold S_FR_scientific_J72 F_FR_scientific_J72
      have g36 : ¬ ((1 : Int32) ≤ (0 : Int32)) := (by decide)
      rw [if_neg g36, if_neg g36]
      refine ⟨trivial, ?_⟩
      (unfold Q_FR_scientific; dsimp only; first | exact ⟨by omega, by omega⟩ | exact ⟨by decide, by decide⟩)

