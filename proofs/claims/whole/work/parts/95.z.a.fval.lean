/-! FloatRows: values of rows, the lowest place first -/
def flV (B : Int) (f : Nat → Int32) : Nat → Int
  | 0 => 0
  | n + 1 => flV B f n + (f n).toInt * B ^ n
def flO (B : Int) (f : Nat → Int32) (n : Nat) : Prop := ∀ i, i < n → 0 ≤ (f i).toInt ∧ (f i).toInt < B
theorem flO.mono {B : Int} {f : Nat → Int32} {n m : Nat} (h : flO B f n) (hm : m ≤ n) : flO B f m := fun i hi => h i (by omega)
theorem flO_upd {B : Int} {f : Nat → Int32} {n i : Nat} {x : Int32} (h : flO B f n) (hx : 0 ≤ x.toInt ∧ x.toInt < B) : flO B (upd f i x) n := fun j hj => by
  by_cases c : j = i
  · rw [c, v_eq]; exact hx
  · rw [v_ne c]; exact h j hj
theorem fl_pw {B : Int} (n : Nat) : B ^ (n + 1) = B ^ n * B := Int.pow_succ B n
theorem fl_pos {B : Int} (hB : 0 < B) : ∀ n : Nat, 0 < B ^ n
  | 0 => by rw [Int.pow_zero]; decide
  | n + 1 => by rw [fl_pw]; exact Int.mul_pos (fl_pos hB n) hB
theorem fl_nn {B : Int} {f : Nat → Int32} (hB : 0 < B) : ∀ {n : Nat}, flO B f n → 0 ≤ flV B f n
  | 0, _ => Int.le_refl 0
  | n + 1, h => by
    have a := fl_nn hB (h.mono (Nat.le_succ n))
    have b := Int.mul_nonneg (h n (Nat.lt_succ_self n)).1 (Int.le_of_lt (fl_pos hB n))
    show 0 ≤ flV B f n + (f n).toInt * B ^ n
    omega
theorem fl_lt {B : Int} {f : Nat → Int32} (hB : 0 < B) : ∀ {n : Nat}, flO B f n → flV B f n < B ^ n
  | 0, _ => by show (0 : Int) < B ^ 0; rw [Int.pow_zero]; decide
  | n + 1, h => by
    have a := fl_lt hB (h.mono (Nat.le_succ n))
    have hp := fl_pos hB n
    have b := Int.mul_le_mul_of_nonneg_right (show (f n).toInt ≤ B - 1 by have := (h n (Nat.lt_succ_self n)).2; omega) (Int.le_of_lt hp)
    rw [Int.sub_mul, Int.one_mul] at b
    show flV B f n + (f n).toInt * B ^ n < B ^ (n + 1)
    rw [fl_pw, Int.mul_comm (B ^ n) B]
    omega
theorem fl_cong {B : Int} {f g : Nat → Int32} : ∀ {n : Nat}, (∀ i, i < n → f i = g i) → flV B f n = flV B g n
  | 0, _ => rfl
  | n + 1, h => by
    show flV B f n + (f n).toInt * B ^ n = flV B g n + (g n).toInt * B ^ n
    rw [fl_cong (fun i hi => h i (by omega)), h n (Nat.lt_succ_self n)]
theorem fl_updg {B : Int} {f : Nat → Int32} {n i : Nat} {x : Int32} (h : n ≤ i) : flV B (upd f i x) n = flV B f n := fl_cong (fun j hj => v_ne (by omega))
theorem fl_upd {B : Int} {f : Nat → Int32} {i : Nat} {x : Int32} : ∀ {n : Nat}, i < n → flV B (upd f i x) n = flV B f n + (x.toInt - (f i).toInt) * B ^ i
  | 0, h => by omega
  | n + 1, h => by
    show flV B (upd f i x) n + (upd f i x n).toInt * B ^ n = flV B f n + (f n).toInt * B ^ n + (x.toInt - (f i).toInt) * B ^ i
    by_cases c : i = n
    · subst c
      rw [fl_updg (Nat.le_refl i), v_eq, Int.sub_mul]
      omega
    · rw [fl_upd (show i < n by omega), v_ne (fun e => c e.symm)]
      omega
/-- a figure that is not 0 bounds the value from below -/
theorem fl_ge {B : Int} {f : Nat → Int32} (hB : 0 < B) {j : Nat} : ∀ {n : Nat}, flO B f n → j < n → (f j).toInt ≠ 0 → B ^ j ≤ flV B f n
  | 0, _, h, _ => by omega
  | n + 1, ho, h, hz => by
    show B ^ j ≤ flV B f n + (f n).toInt * B ^ n
    have b := Int.mul_nonneg (ho n (Nat.lt_succ_self n)).1 (Int.le_of_lt (fl_pos hB n))
    by_cases c : j = n
    · subst c
      have a := fl_nn hB (ho.mono (Nat.le_succ j))
      have d := Int.mul_le_mul_of_nonneg_right (show 1 ≤ (f j).toInt by have := (ho j (Nat.lt_succ_self j)).1; omega) (Int.le_of_lt (fl_pos hB j))
      rw [Int.one_mul] at d
      omega
    · have := fl_ge hB (ho.mono (Nat.le_succ n)) (show j < n by omega) hz
      omega
/-- no figure from place m on: the value is that of m places -/
theorem fl_low {B : Int} {f : Nat → Int32} {m : Nat} : ∀ {n : Nat}, m ≤ n → (∀ i, m ≤ i → i < n → (f i).toInt = 0) → flV B f n = flV B f m
  | 0, h, _ => by rw [show m = 0 by omega]
  | n + 1, h, hz => by
    by_cases c : m = n + 1
    · rw [c]
    · show flV B f n + (f n).toInt * B ^ n = _
      rw [hz n (by omega) (Nat.lt_succ_self n), Int.zero_mul, Int.add_zero]
      exact fl_low (by omega) (fun i h1 h2 => hz i h1 (by omega))
theorem fl_mono {B : Int} (hB : 0 < B) {a b : Nat} (h : a ≤ b) : B ^ a ≤ B ^ b := by
  obtain ⟨d, rfl⟩ := Nat.exists_eq_add_of_le h
  rw [Int.pow_add]
  have x := fl_pos hB a
  have y := fl_pos hB d
  have e := Int.mul_le_mul_of_nonneg_left (show 1 ≤ B ^ d by omega) (Int.le_of_lt x)
  rw [Int.mul_one] at e
  exact e
/-- doubling -/
def flDb (f g : Nat → Int32) (k : Nat) (c : Int) : Prop := flO 1000000000 g 156 ∧ (∀ i, k ≤ i → g i = f i) ∧ flV 1000000000 g k + c * 1000000000 ^ k = 2 * flV 1000000000 f k ∧ 0 ≤ c ∧ c ≤ 1
theorem fl_dbId {x c1 t c P : Int} (h : x + c1 * 1000000000 = 2 * t + c) : x * P + c1 * (P * 1000000000) = 2 * (t * P) + c * P := by
  have e := congrArg (· * P) h
  simp only [Int.add_mul] at e
  rw [Int.mul_comm P, ← Int.mul_assoc c1, ← Int.mul_assoc 2]
  exact e
theorem flDb.step {f g : Nat → Int32} {k : Nat} {c c1 : Int} {x : Int32} (h : flDb f g k c) (hx : x.toInt + c1 * 1000000000 = 2 * (g k).toInt + c) (h0 : 0 ≤ x.toInt ∧ x.toInt < 1000000000) (h1 : 0 ≤ c1 ∧ c1 ≤ 1) : flDb f (upd g k x) (k + 1) c1 := by
  obtain ⟨a, b, d, -, -⟩ := h
  refine ⟨flO_upd a h0, fun i hi => by rw [v_ne (by omega)]; exact b i (by omega), ?_, h1⟩
  show flV 1000000000 (upd g k x) k + (upd g k x k).toInt * 1000000000 ^ k + c1 * 1000000000 ^ (k + 1) = 2 * (flV 1000000000 f k + (f k).toInt * 1000000000 ^ k)
  rw [fl_updg (Nat.le_refl k), v_eq, fl_pw]
  rw [b k (Nat.le_refl k)] at hx
  have e := fl_dbId (P := 1000000000 ^ k) hx
  generalize (1000000000 : Int) ^ k = P at e d ⊢
  omega
/-- halving -/
def flHf (f g : Nat → Int32) (k : Nat) (r : Int) : Prop := flO 1000000000 g 156 ∧ (∀ i, i < k → g i = f i) ∧ 2 * (flV 1000000000 g 156 - flV 1000000000 f k) + r * 1000000000 ^ k = flV 1000000000 f 156 - flV 1000000000 f k ∧ 0 ≤ r ∧ r ≤ 1
theorem fl_hfId {q r1 t r P : Int} (h : 2 * q + r1 = t + r * 1000000000) : 2 * ((q - t) * P) + r1 * P = r * (P * 1000000000) - t * P := by
  have e := congrArg (· * P) h
  simp only [Int.add_mul] at e
  rw [Int.mul_comm P, ← Int.mul_assoc r, Int.sub_mul, Int.mul_sub, ← Int.mul_assoc 2]
  omega
theorem flHf.step {f g : Nat → Int32} {k : Nat} {r r1 : Int} {x : Int32} (hk : k < 156) (h : flHf f g (k + 1) r) (hx : 2 * x.toInt + r1 = (g k).toInt + r * 1000000000) (h0 : 0 ≤ x.toInt ∧ x.toInt < 1000000000) (h1 : 0 ≤ r1 ∧ r1 ≤ 1) : flHf f (upd g k x) k r1 := by
  obtain ⟨a, b, d, -, -⟩ := h
  refine ⟨flO_upd a h0, fun i hi => by rw [v_ne (by omega)]; exact b i (by omega), ?_, h1⟩
  have e1 := fl_upd (B := 1000000000) (f := g) (x := x) hk
  rw [fl_pw] at d
  have e2 : flV 1000000000 f (k + 1) = flV 1000000000 f k + (f k).toInt * 1000000000 ^ k := rfl
  rw [e2] at d
  rw [e1]
  rw [b k (Nat.lt_succ_self k)] at hx ⊢
  have e := fl_hfId (P := 1000000000 ^ k) hx
  generalize (1000000000 : Int) ^ k = P at e d ⊢
  generalize flV 1000000000 g 156 = G at *
  generalize flV 1000000000 f 156 = F at *
  generalize flV 1000000000 f k = K at *
  omega
/-- a row times a limb, laid on another, at places up: f as it was, u the row, s its place -/
def flMl (u f g : Nat → Int32) (s k : Nat) (b c : Int) : Prop := flO 1000000000 g 156 ∧ (∀ i, k ≤ i → g i = f i) ∧ s ≤ k ∧ flV 1000000000 g k + c * 1000000000 ^ k = flV 1000000000 f k + b * (flV 1000000000 u (k - s) * 1000000000 ^ s) ∧ 0 ≤ c ∧ c ≤ 1000000000
theorem fl_mlId {x c1 c b w t P A : Int} (h : x + c1 * 1000000000 = c + b * w + t) : x * P + c1 * (P * 1000000000) = c * P + b * (w * P) + t * P := by
  have e := congrArg (· * P) h
  simp only [Int.add_mul] at e
  rw [Int.mul_comm P, ← Int.mul_assoc c1, ← Int.mul_assoc b]
  exact e
theorem flMl.step {u f g : Nat → Int32} {s k : Nat} {b c c1 : Int} {x : Int32} (h : flMl u f g s k b c) (hx : x.toInt + c1 * 1000000000 = c + b * (u (k - s)).toInt + (g k).toInt) (h0 : 0 ≤ x.toInt ∧ x.toInt < 1000000000) (h1 : 0 ≤ c1 ∧ c1 ≤ 1000000000) : flMl u f (upd g k x) s (k + 1) b c1 := by
  obtain ⟨a, d, hs, e, -, -⟩ := h
  refine ⟨flO_upd a h0, fun i hi => by rw [v_ne (by omega)]; exact d i (by omega), by omega, ?_, h1⟩
  show flV 1000000000 (upd g k x) k + (upd g k x k).toInt * 1000000000 ^ k + c1 * 1000000000 ^ (k + 1) = (flV 1000000000 f k + (f k).toInt * 1000000000 ^ k) + _
  rw [show k + 1 - s = (k - s) + 1 by omega]
  show _ = _ + b * ((flV 1000000000 u (k - s) + (u (k - s)).toInt * 1000000000 ^ (k - s)) * 1000000000 ^ s)
  rw [Int.add_mul, Int.mul_assoc (u (k - s)).toInt, ← Int.pow_add, show k - s + s = k by omega, Int.mul_add]
  rw [fl_updg (Nat.le_refl k), v_eq, fl_pw]
  rw [d k (Nat.le_refl k)] at hx
  have i := fl_mlId (A := 0) (P := 1000000000 ^ k) hx
  generalize (1000000000 : Int) ^ k = P at i e ⊢
  generalize b * (flV 1000000000 u (k - s) * 1000000000 ^ s) = W at *
  omega
/-- the figures of a limb -/
def flFg (l f : Nat → Int32) (k j : Nat) (v : Int) : Prop := flO 10 f j ∧ 9 * k ≤ j ∧ j ≤ 9 * k + 9 ∧ flV 10 f j + v * 10 ^ j = flV 1000000000 l (k + 1) ∧ 0 ≤ v ∧ v * 10 ^ j < 1000000000 ^ (k + 1)
theorem fl_fgId {x v v1 P : Int} (h : x + v1 * 10 = v) : x * P + v1 * (P * 10) = v * P := by
  have e := congrArg (· * P) h
  simp only [Int.add_mul] at e
  rw [Int.mul_comm P, ← Int.mul_assoc v1]
  exact e
theorem flFg.step {l f : Nat → Int32} {k j : Nat} {v v1 : Int} {x : Int32} (h : flFg l f k j v) (hj : j < 9 * k + 9) (hx : x.toInt + v1 * 10 = v) (h0 : 0 ≤ x.toInt ∧ x.toInt < 10) (h1 : 0 ≤ v1) : flFg l (upd f j x) k (j + 1) v1 := by
  obtain ⟨a, b, -, d, -, e⟩ := h
  have i := fl_fgId (P := 10 ^ j) hx
  have p := fl_pos (B := 10) (by decide) j
  have q := Int.mul_nonneg h0.1 (Int.le_of_lt p)
  refine ⟨fun i hi => ?_, by omega, by omega, ?_, h1, ?_⟩
  · by_cases c : i = j
    · rw [c, v_eq]; exact h0
    · rw [v_ne c]; exact a i (by omega)
  · show flV 10 (upd f j x) j + (upd f j x j).toInt * 10 ^ j + v1 * 10 ^ (j + 1) = _
    rw [fl_updg (Nat.le_refl j), v_eq, fl_pw, ← d]
    omega
  · rw [fl_pw]
    omega
theorem fl_b10 (k : Nat) : (1000000000 : Int) ^ k = 10 ^ (9 * k) := by
  rw [show (1000000000 : Int) = 10 ^ 9 by decide, ← Int.pow_mul]
theorem flFg.start {l f : Nat → Int32} {k : Nat} (h : flO 10 f (9 * k)) (e : flV 10 f (9 * k) = flV 1000000000 l k) (hl : 0 ≤ (l k).toInt ∧ (l k).toInt < 1000000000) : flFg l f k (9 * k) (l k).toInt := by
  have p := fl_pos (B := 1000000000) (by decide) k
  refine ⟨h, Nat.le_refl _, by omega, ?_, hl.1, ?_⟩
  · show _ = flV 1000000000 l k + (l k).toInt * 1000000000 ^ k
    rw [e, fl_b10]
  · rw [← fl_b10, fl_pw]
    have q := Int.mul_lt_mul_of_pos_right hl.2 p
    rw [Int.mul_comm (1000000000 ^ k)]
    exact q
theorem flFg.fin {l f : Nat → Int32} {k : Nat} {v : Int} (h : flFg l f k (9 * (k + 1)) v) : flO 10 f (9 * (k + 1)) ∧ flV 10 f (9 * (k + 1)) = flV 1000000000 l (k + 1) := by
  obtain ⟨a, -, -, d, e, g⟩ := h
  refine ⟨a, ?_⟩
  rw [fl_b10] at g
  have p := fl_pos (B := 10) (by decide) (9 * (k + 1))
  have z : v = 0 := by
    by_cases c : v = 0
    · exact c
    · have q := Int.mul_le_mul_of_nonneg_right (show 1 ≤ v by omega) (Int.le_of_lt p)
      rw [Int.one_mul] at q
      omega
  rw [z, Int.zero_mul, Int.add_zero] at d
  exact d
