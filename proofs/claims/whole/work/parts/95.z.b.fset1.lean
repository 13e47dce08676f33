/-! FloatRows: setUnit, set -/
def flE : Int := 1000000000 ^ 120
theorem fl_pn (a b : Nat) : ((a ^ b : Nat) : Int) = (a : Int) ^ b := Int.natCast_pow a b
theorem fl_E : flE = 10 ^ 1080 := fl_b10 120
theorem fl_bd {m : Nat} (h : m ≤ 1070) : flE * 2 ^ m < 1000000000 ^ 156 := by
  have a := fl_mono (B := 2) (by decide) h
  have b : (1000000000 ^ 120 * 2 ^ 1070 : Nat) < 1000000000 ^ 156 := by decide +kernel
  have c := Int.ofNat_lt.mpr b
  rw [Int.natCast_mul, fl_pn, fl_pn, fl_pn] at c
  have d := Int.mul_le_mul_of_nonneg_left a (Int.le_of_lt (fl_pos (B := 1000000000) (by decide) 120))
  exact Int.lt_of_le_of_lt d c
/-- the unit: 10 ^ 1080 times a power of two -/
def flU (x : Int32) (r : Nat → Int32) : Prop := flO 1000000000 r 156 ∧ ((0 ≤ x.toInt ∧ ∃ m : Nat, (m : Int) = x.toInt ∧ flV 1000000000 r 156 = flE * 2 ^ m) ∨ (x.toInt < 0 ∧ ∃ m : Nat, (m : Int) = -x.toInt ∧ flV 1000000000 r 156 = flE / 2 ^ m))
def flX (k : Nat) (r : Nat → Int32) : Prop := flO 1000000000 r k ∧ ((k ≤ 120 ∧ flV 1000000000 r k = 0) ∨ (120 < k ∧ flV 1000000000 r k = flE))
theorem flX.step {k : Nat} {r : Nat → Int32} (h : flX k r) (hk : k ≠ 120) : flX (k + 1) (upd r k 0) := by
  have e0 : (0 : Int32).toInt = 0 := rfl
  have e : flV 1000000000 (upd r k 0) (k + 1) = flV 1000000000 r k := by
    show flV 1000000000 (upd r k 0) k + (upd r k 0 k).toInt * 1000000000 ^ k = _
    rw [fl_updg (Nat.le_refl k), v_eq, e0, Int.zero_mul, Int.add_zero]
  refine ⟨fun i hi => ?_, ?_⟩
  · by_cases c : i = k
    · rw [c, v_eq]; decide
    · rw [v_ne c]; exact h.1 i (by omega)
  · rw [e]
    rcases h.2 with ⟨a, b⟩ | ⟨a, b⟩
    · exact Or.inl ⟨by omega, b⟩
    · exact Or.inr ⟨by omega, b⟩
theorem flX.step1 {r : Nat → Int32} (h : flX 120 r) : flX 121 (upd r 120 1) := by
  have e1 : (1 : Int32).toInt = 1 := rfl
  refine ⟨fun i hi => ?_, Or.inr ⟨by omega, ?_⟩⟩
  · by_cases c : i = 120
    · rw [c, v_eq]; decide
    · rw [v_ne c]; exact h.1 i (by omega)
  · show flV 1000000000 (upd r 120 1) 120 + (upd r 120 1 120).toInt * 1000000000 ^ 120 = _
    rw [fl_updg (Nat.le_refl 120), v_eq, e1, Int.one_mul]
    rcases h.2 with ⟨a, b⟩ | ⟨a, b⟩
    · rw [b, Int.zero_add]; rfl
    · omega
theorem fl_and1 {x : Int32} (h : 0 ≤ x.toInt) : (x &&& 1).toInt = x.toInt % 2 := by
  have a := s_nn h
  have e : (x &&& 1).toBitVec.toNat = x.toBitVec.toNat % 2 := by rw [Int32.toBitVec_and, BitVec.toNat_and]; exact Nat.and_one_is_mod _
  rw [s_of e (by omega), a.1]
  omega
theorem fl_hf {g r : Int32} (hg : 0 ≤ g.toInt ∧ g.toInt < 1000000000) (hr : 0 ≤ r.toInt ∧ r.toInt ≤ 1) : 2 * ((g + r * 1000000000) / 2 : Int32).toInt + ((g + r * 1000000000) &&& 1 : Int32).toInt = g.toInt + r.toInt * 1000000000 ∧ (0 ≤ ((g + r * 1000000000) / 2 : Int32).toInt ∧ ((g + r * 1000000000) / 2 : Int32).toInt < 1000000000) ∧ 0 ≤ ((g + r * 1000000000) &&& 1 : Int32).toInt ∧ ((g + r * 1000000000) &&& 1 : Int32).toInt ≤ 1 := by
  have e1 : (r * 1000000000 : Int32).toInt = r.toInt * 1000000000 := q_mulI (y := 1000000000) rfl (by decide) (by omega) (by omega)
  have e2 : (g + r * 1000000000 : Int32).toInt = g.toInt + r.toInt * 1000000000 := q_addI rfl e1 (by omega) (by omega)
  generalize (g + r * 1000000000 : Int32) = v at e2 ⊢
  have e3 : (v / 2 : Int32).toInt = v.toInt / 2 := q_divI rfl (by decide) (by omega) (by decide)
  rw [e3, fl_and1 (by omega)]
  omega
theorem fl_db {g c : Int32} (hg : 0 ≤ g.toInt ∧ g.toInt < 1000000000) (hc : 0 ≤ c.toInt ∧ c.toInt ≤ 1) : (2 * g + c : Int32).toInt = 2 * g.toInt + c.toInt := by
  have e1 : (2 * g : Int32).toInt = 2 * g.toInt := q_mulI (x := 2) (by decide) rfl (by omega) (by omega)
  exact q_addI e1 rfl (by omega) (by omega)
theorem fl_db1 {g c : Int32} (hg : 0 ≤ g.toInt ∧ g.toInt < 1000000000) (hc : 0 ≤ c.toInt ∧ c.toInt ≤ 1) (h : (2 * g + c : Int32) < 1000000000) : (2 * g + c - 0 : Int32).toInt + (0 : Int32).toInt * 1000000000 = 2 * g.toInt + c.toInt ∧ 0 ≤ (2 * g + c - 0 : Int32).toInt ∧ (2 * g + c - 0 : Int32).toInt < 1000000000 := by
  have e := fl_db hg hc
  have h2 := q_ltI h
  have e0 : (0 : Int32).toInt = 0 := rfl
  have e9 : (1000000000 : Int32).toInt = 1000000000 := rfl
  have e3 : (2 * g + c - 0 : Int32).toInt = (2 * g.toInt + c.toInt) - 0 := q_subI e e0 (by omega) (by omega)
  omega
theorem fl_db2 {g c : Int32} (hg : 0 ≤ g.toInt ∧ g.toInt < 1000000000) (hc : 0 ≤ c.toInt ∧ c.toInt ≤ 1) (h : ¬ (2 * g + c : Int32) < 1000000000) : (2 * g + c - 1000000000 : Int32).toInt + (1 : Int32).toInt * 1000000000 = 2 * g.toInt + c.toInt ∧ 0 ≤ (2 * g + c - 1000000000 : Int32).toInt ∧ (2 * g + c - 1000000000 : Int32).toInt < 1000000000 := by
  have e := fl_db hg hc
  have h2 := q_nltI h
  have e1 : (1 : Int32).toInt = 1 := rfl
  have e9 : (1000000000 : Int32).toInt = 1000000000 := rfl
  have e3 : (2 * g + c - 1000000000 : Int32).toInt = (2 * g.toInt + c.toInt) - 1000000000 := q_subI e e9 (by omega) (by omega)
  omega
theorem fl_dbF {f g : Nat → Int32} {c : Int} {m : Nat} (h : flDb f g 156 c) (hm : m + 1 ≤ 1070) (e : flV 1000000000 f 156 = flE * 2 ^ m) : flO 1000000000 g 156 ∧ flV 1000000000 g 156 = flE * 2 ^ (m + 1) := by
  obtain ⟨a, -, d, c0, c1⟩ := h
  refine ⟨a, ?_⟩
  have b := fl_bd hm
  have nn := fl_nn (B := 1000000000) (by decide) a
  have p := fl_pos (B := 1000000000) (by decide) 156
  rw [e] at d
  have e2 : 2 * (flE * 2 ^ m) = flE * 2 ^ (m + 1) := by rw [fl_pw, Int.mul_comm 2, Int.mul_assoc]
  rw [e2] at d
  have z : c = 0 := by
    by_cases q : c = 0
    · exact q
    · have w : c = 1 := by omega
      rw [w, Int.one_mul] at d
      generalize (1000000000 : Int) ^ 156 = P at *
      generalize flE * 2 ^ (m + 1) = W at *
      omega
  rw [z, Int.zero_mul, Int.add_zero] at d
  exact d
theorem fl_hfF {f g : Nat → Int32} {r : Int} {m : Nat} (h : flHf f g 0 r) (e : flV 1000000000 f 156 = flE / 2 ^ m) : flO 1000000000 g 156 ∧ flV 1000000000 g 156 = flE / 2 ^ (m + 1) := by
  obtain ⟨a, -, d, c0, c1⟩ := h
  refine ⟨a, ?_⟩
  have z : flV 1000000000 f 0 = 0 := rfl
  rw [z, e, Int.pow_zero] at d
  rw [fl_pw, ← Int.ediv_ediv_of_nonneg (Int.le_of_lt (fl_pos (B := 2) (by decide) m))]
  omega
theorem fl_at {f : Nat → Int32} {i : Int32} (h : flO 1000000000 f 156) (h0 : 0 ≤ i.toInt) (h1 : i.toInt < 156) : 0 ≤ (f i.toNatClampNeg).toInt ∧ (f i.toNatClampNeg).toInt < 1000000000 := h _ (by have := q_clI (i := i) rfl h0; omega)
theorem fl_ex {P : Nat → Prop} {i j : Int32} (h : ∃ k : Nat, (k : Int) = i.toInt ∧ P k) (e : j.toInt = i.toInt + 1) (hs : ∀ k : Nat, k = i.toNatClampNeg → P k → P (k + 1)) : ∃ k : Nat, (k : Int) = j.toInt ∧ P k := by
  obtain ⟨k, a, b⟩ := h
  exact ⟨k + 1, by omega, hs k (by have := q_clI (i := i) rfl (by omega); omega) b⟩
theorem flX.go {i j : Int32} {r : Nat → Int32} (h : ∃ k : Nat, (k : Int) = i.toInt ∧ flX k r) (e : j.toInt = i.toInt + 1) (hn : i.toInt ≠ 120) : ∃ k : Nat, (k : Int) = j.toInt ∧ flX k (upd r i.toNatClampNeg 0) := by
  obtain ⟨k, a, b⟩ := h
  have c := q_clI (i := i) rfl (by omega)
  rw [show i.toNatClampNeg = k by omega]
  exact ⟨k + 1, by omega, b.step (by omega)⟩
theorem flX.go1 {i j : Int32} {r : Nat → Int32} (h : ∃ k : Nat, (k : Int) = i.toInt ∧ flX k r) (e : j.toInt = i.toInt + 1) (hn : i.toInt = 120) : ∃ k : Nat, (k : Int) = j.toInt ∧ flX k (upd r i.toNatClampNeg 1) := by
  obtain ⟨k, a, b⟩ := h
  have c := q_clI (i := i) rfl (by omega)
  rw [show i.toNatClampNeg = 120 by omega]
  rw [show k = 120 by omega] at b
  exact ⟨121, by omega, b.step1⟩
theorem flDb.go {f g : Nat → Int32} {i j c c1 x : Int32} (h : ∃ k : Nat, (k : Int) = i.toInt ∧ flDb f g k c.toInt) (e : j.toInt = i.toInt + 1) (hx : x.toInt + c1.toInt * 1000000000 = 2 * (g i.toNatClampNeg).toInt + c.toInt ∧ 0 ≤ x.toInt ∧ x.toInt < 1000000000) (h1 : 0 ≤ c1.toInt ∧ c1.toInt ≤ 1) : ∃ k : Nat, (k : Int) = j.toInt ∧ flDb f (upd g i.toNatClampNeg x) k c1.toInt := by
  obtain ⟨k, a, b⟩ := h
  have c := q_clI (i := i) rfl (by omega)
  have ek : i.toNatClampNeg = k := by omega
  rw [ek] at hx ⊢
  exact ⟨k + 1, by omega, b.step hx.1 hx.2 h1⟩
theorem flHf.go {f g : Nat → Int32} {i j r r1 x : Int32} (h : ∃ k : Nat, (k : Int) = i.toInt + 1 ∧ flHf f g k r.toInt) (h0 : 0 ≤ i.toInt ∧ i.toInt < 156) (e : j.toInt = i.toInt - 1) (hx : 2 * x.toInt + r1.toInt = (g i.toNatClampNeg).toInt + r.toInt * 1000000000 ∧ (0 ≤ x.toInt ∧ x.toInt < 1000000000) ∧ 0 ≤ r1.toInt ∧ r1.toInt ≤ 1) : ∃ k : Nat, (k : Int) = j.toInt + 1 ∧ flHf f (upd g i.toNatClampNeg x) k r1.toInt := by
  obtain ⟨k, a, b⟩ := h
  have c := q_clI (i := i) rfl (by omega)
  rw [show k = i.toNatClampNeg + 1 by omega] at b
  exact ⟨i.toNatClampNeg, by omega, b.step (by omega) hx.1 hx.2.1 hx.2.2⟩
theorem v_su5 {K_F_FR_setUnit_L2 : Int32 → (Nat → Int32) → (Nat → Int32)} {K_F_FR_setUnit_L34 : Int32 → (Nat → Int32) → (Nat → Int32)} {K_F_FR_setUnit_L105 : Int32 → (Nat → Int32) → (Nat → Int32)} {x2 : Int32} {t0_0 : Int32} {t0_1 : Int32} {t0_2 : Int32} {t0_3 : Int32} {t0_4 : Int64} {t0_5 : Int32} {t0_6 : Int32} {t0_7 : Int64} {t0_8 : Int32} {t0_9 : Int64} {t0_10 : Int32} {t1_0 : (Nat → Int32)} {lx18 : Int32} {lx19 : (Nat → Int32)} {lx34 : Int32} {lx35 : (Nat → Int32)} {lx49 : Int32} {lx50 : (Nat → Int32)} (hx : -1080 ≤ x2.toInt ∧ x2.toInt ≤ 1000)(hK : ∀ r : Nat → Int32, flHf lx50 r 0 0 ∨ flHf lx50 r 0 1 → flU x2 (K_F_FR_setUnit_L105 (lx49 + 1) r)) : ∀ (n : Nat) (lx66 : Int32) (lx67 : Int32) (lx68 : (Nat → Int32)), (-1 ≤ lx66.toInt ∧ lx66.toInt ≤ 155) → (lx66.toInt + 1 < (n : Int)) → (∃ k : Nat, (k : Int) = lx66.toInt + 1 ∧ flHf lx50 lx68 k lx67.toInt) → flU x2 (F_FR_setUnit_L116 K_F_FR_setUnit_L2 K_F_FR_setUnit_L34 K_F_FR_setUnit_L105 x2 t0_0 t0_1 t0_2 t0_3 t0_4 t0_5 t0_6 t0_7 t0_8 t0_9 t0_10 t1_0 lx18 lx19 lx34 lx35 lx49 lx50 n lx66 lx67 lx68) := by
  intro n
  induction n with
  | zero => intro lx66 lx67 lx68 h0 hm ho; exact absurd (show False by omega) id
  | succ n ih =>
    intro lx66 lx67 lx68 h0 hm ho
    have e0 : (0 : Int32).toInt = 0 := rfl
    have e1 : (1 : Int32).toInt = 1 := rfl
    have eL0 : (0 : Int64).toInt = 0 := rfl
    have hr : 0 ≤ lx67.toInt ∧ lx67.toInt ≤ 1 := (fun ⟨_, _, h⟩ => h.2.2.2) ho
    rw [F_FR_setUnit_L116.eq_2]
    by_cases g1 : lx66 < (0 : Int32)
    ·
      rw [if_pos g1]
      have g1i : lx66.toInt < 0 := q_ltI g1
      exact hK _ (by obtain ⟨k, a, b⟩ := ho; have c := b.2.2.2; rw [show k = 0 by omega] at b; by_cases d : lx67.toInt = 0; (rw [d] at b; exact Or.inl b); rw [show lx67.toInt = 1 by omega] at b; exact Or.inr b)
    ·
      rw [if_neg g1]
      have g1i : 0 ≤ lx66.toInt := q_nltI g1
      obtain ⟨a2, e3⟩ := q_nm (lx66 + (-1) : Int32)
      rw [e3]
      have a2i : a2.toInt = lx66.toInt + (-1) := by rw [← e3]; exact q_addI (x := lx66.toInt) (y := (-1)) rfl (by decide) (by omega) (by omega)
      exact ih _ _ _ ⟨by omega, by omega⟩ (by omega) (flHf.go ho ⟨by omega, by omega⟩ (by omega) (fl_hf (fl_at (by obtain ⟨k, a, b⟩ := ho; exact b.1) (by omega) (by omega)) hr))
/-- the unit on its way down -/
def flD (x p : Int32) (r : Nat → Int32) : Prop := (0 ≤ x.toInt ∧ 0 ≤ p.toInt ∧ flU x r) ∨ (x.toInt < 0 ∧ p.toInt ≤ 0 ∧ flO 1000000000 r 156 ∧ ∃ m : Nat, (m : Int) = p.toInt - x.toInt ∧ flV 1000000000 r 156 = flE / 2 ^ m)
theorem flD.fin {x p : Int32} {r : Nat → Int32} (h : flD x p r) (hp : 0 ≤ p.toInt) : flU x r := by
  rcases h with ⟨-, -, h⟩ | ⟨a, b, c, m, d, e⟩
  · exact h
  · exact ⟨c, Or.inr ⟨a, m, by omega, e⟩⟩
theorem flD.go {x p q : Int32} {f g : Nat → Int32} {r : Int} (h : flD x p f) (hp : p.toInt < 0) (hq : q.toInt = p.toInt + 1) (hg : flHf f g 0 r) : flD x q g := by
  rcases h with ⟨-, a, -⟩ | ⟨a, b, c, m, d, e⟩
  · omega
  · have z := fl_hfF hg e
    exact Or.inr ⟨a, by omega, z.1, m + 1, by omega, z.2⟩
theorem flD.sub {x p : Int32} {f : Nat → Int32} (h : flD x p f) (hp : p.toInt < 0) : flHf f f 156 0 := by
  rcases h with ⟨-, a, -⟩ | ⟨a, b, c, m, d, e⟩
  · omega
  · exact ⟨c, fun i hi => rfl, by omega, by decide, by decide⟩
/-- the unit on its way up -/
def flT (x p : Int32) (r : Nat → Int32) : Prop := flO 1000000000 r 156 ∧ ((x.toInt ≤ 0 ∧ p = x ∧ flV 1000000000 r 156 = flE) ∨ (0 < x.toInt ∧ 0 ≤ p.toInt ∧ ∃ m : Nat, (m : Int) = x.toInt - p.toInt ∧ flV 1000000000 r 156 = flE * 2 ^ m))
theorem flT.fin {x p : Int32} {r : Nat → Int32} (h : flT x p r) (hp : p.toInt ≤ 0) : flD x x r := by
  rcases h with ⟨o, ⟨a, b, c⟩ | ⟨a, b, m, d, e⟩⟩
  · by_cases z : x.toInt = 0
    · exact Or.inl ⟨by omega, by omega, o, Or.inl ⟨by omega, 0, by omega, by rw [c, Int.pow_zero, Int.mul_one]⟩⟩
    · exact Or.inr ⟨by omega, by omega, o, 0, by omega, by rw [c, Int.pow_zero, Int.ediv_one]⟩
  · exact Or.inl ⟨by omega, by omega, o, Or.inl ⟨by omega, m, by omega, e⟩⟩
theorem flT.go {x p q : Int32} {f g : Nat → Int32} {c : Int} (h : flT x p f) (hx : x.toInt ≤ 1000) (hp : 0 < p.toInt) (hq : q.toInt = p.toInt - 1) (hg : flDb f g 156 c) : flT x q g := by
  rcases h with ⟨o, ⟨a, b, d⟩ | ⟨a, b, m, d, e⟩⟩
  · rw [b] at hp; omega
  · have z := fl_dbF hg (by omega) e
    exact ⟨z.1, Or.inr ⟨a, by omega, m + 1, by omega, z.2⟩⟩
theorem flT.start {x : Int32} {r : Nat → Int32} (hx : flX 156 r) : flT x x r := by
  have v : flV 1000000000 r 156 = flE := by
    rcases hx.2 with ⟨a, -⟩ | ⟨-, a⟩
    · omega
    · exact a
  by_cases c : x.toInt ≤ 0
  · exact ⟨hx.1, Or.inl ⟨c, rfl, v⟩⟩
  · exact ⟨hx.1, Or.inr ⟨by omega, by omega, 0, by omega, by rw [v, Int.pow_zero, Int.mul_one]⟩⟩
theorem v_su4 {K_F_FR_setUnit_L2 : Int32 → (Nat → Int32) → (Nat → Int32)} {K_F_FR_setUnit_L34 : Int32 → (Nat → Int32) → (Nat → Int32)} {x2 : Int32} {t0_0 : Int32} {t0_1 : Int32} {t0_2 : Int32} {t0_3 : Int32} {t0_4 : Int64} {t0_5 : Int32} {t0_6 : Int32} {t0_7 : Int64} {t0_8 : Int32} {t0_9 : Int64} {t0_10 : Int32} {t1_0 : (Nat → Int32)} {lx18 : Int32} {lx19 : (Nat → Int32)} {lx34 : Int32} {lx35 : (Nat → Int32)} (hx : -1080 ≤ x2.toInt ∧ x2.toInt ≤ 1000) : ∀ (n : Nat) (lx49 : Int32) (lx50 : (Nat → Int32)), (0 - lx49.toInt < (n : Int) ∧ 0 < (n : Int)) → (flD x2 lx49 lx50) → flU x2 (F_FR_setUnit_L105 K_F_FR_setUnit_L2 K_F_FR_setUnit_L34 x2 t0_0 t0_1 t0_2 t0_3 t0_4 t0_5 t0_6 t0_7 t0_8 t0_9 t0_10 t1_0 lx18 lx19 lx34 lx35 n lx49 lx50) := by
  intro n
  induction n with
  | zero => intro lx49 lx50 hm ho; exact absurd (show False by omega) id
  | succ n ih =>
    intro lx49 lx50 hm ho
    have e0 : (0 : Int32).toInt = 0 := rfl
    have e1 : (1 : Int32).toInt = 1 := rfl
    have eL0 : (0 : Int64).toInt = 0 := rfl
    rw [F_FR_setUnit_L105.eq_2]
    by_cases g1 : (0 : Int32) ≤ lx49
    ·
      rw [if_pos g1]
      have g1i : 0 ≤ lx49.toInt := q_leI g1
      exact ho.fin (by omega)
    ·
      rw [if_neg g1]
      have g1i : lx49.toInt < 0 := q_nleI g1
      have e5 : (lx49 + 1 : Int32).toInt = lx49.toInt + 1 := q_addI (y := 1) rfl (by decide) (by have := q_lo32 (x := lx49); omega) (by omega); exact v_su5 hx (fun r h => ih _ r ⟨by omega, by omega⟩ (by rcases h with h | h; exact ho.go (by omega) e5 h; exact ho.go (by omega) e5 h)) _ _ _ _ ⟨by decide, by decide⟩ (by decide) ⟨156, rfl, ho.sub (by omega)⟩
theorem v_su3 {K_F_FR_setUnit_L2 : Int32 → (Nat → Int32) → (Nat → Int32)} {K_F_FR_setUnit_L34 : Int32 → (Nat → Int32) → (Nat → Int32)} {x2 : Int32} {t0_0 : Int32} {t0_1 : Int32} {t0_2 : Int32} {t0_3 : Int32} {t0_4 : Int64} {t0_5 : Int32} {t0_6 : Int32} {t0_7 : Int64} {t0_8 : Int32} {t0_9 : Int64} {t0_10 : Int32} {t1_0 : (Nat → Int32)} {lx18 : Int32} {lx19 : (Nat → Int32)} {lx34 : Int32} {lx35 : (Nat → Int32)} (hx : -1080 ≤ x2.toInt ∧ x2.toInt ≤ 1000)(hK : ∀ (r : Nat → Int32) (c : Int), flDb lx35 r 156 c → flU x2 (K_F_FR_setUnit_L34 (lx34 + (-1)) r)) : ∀ (n : Nat) (lx111 : Int32) (lx112 : Int32) (lx113 : (Nat → Int32)), (0 ≤ lx111.toInt ∧ lx111.toInt ≤ 156) → (156 - lx111.toInt < (n : Int)) → (∃ k : Nat, (k : Int) = lx111.toInt ∧ flDb lx35 lx113 k lx112.toInt) → flU x2 (F_FR_setUnit_L43 K_F_FR_setUnit_L2 K_F_FR_setUnit_L34 x2 t0_0 t0_1 t0_2 t0_3 t0_4 t0_5 t0_6 t0_7 t0_8 t0_9 t0_10 t1_0 lx18 lx19 lx34 lx35 n lx111 lx112 lx113) := by
  intro n
  induction n with
  | zero => intro lx111 lx112 lx113 h0 hm ho; exact absurd (show False by omega) id
  | succ n ih =>
    intro lx111 lx112 lx113 h0 hm ho
    have e0 : (0 : Int32).toInt = 0 := rfl
    have e1 : (1 : Int32).toInt = 1 := rfl
    have eL0 : (0 : Int64).toInt = 0 := rfl
    have hr : 0 ≤ lx112.toInt ∧ lx112.toInt ≤ 1 := (fun ⟨_, _, h⟩ => h.2.2.2) ho
    rw [F_FR_setUnit_L43.eq_2]
    by_cases g1 : (156 : Int32) ≤ lx111
    ·
      rw [if_pos g1]
      have g1i : 156 ≤ lx111.toInt := q_leI g1
      exact hK _ lx112.toInt (by obtain ⟨k, a, b⟩ := ho; rw [show k = 156 by omega] at b; exact b)
    ·
      rw [if_neg g1]
      have g1i : lx111.toInt < 156 := q_nleI g1
      by_cases g2 : ((2 * (lx113 lx111.toNatClampNeg : Int32) : Int32) + lx112 : Int32) < (1000000000 : Int32)
      ·
        rw [if_pos g2]
        obtain ⟨a3, e4⟩ := q_nm (lx111 + 1 : Int32)
        rw [e4]
        have a3i : a3.toInt = lx111.toInt + 1 := by rw [← e4]; exact q_addI (x := lx111.toInt) (y := 1) rfl (by decide) (by omega) (by omega)
        exact ih _ _ _ ⟨by omega, by omega⟩ (by omega) (flDb.go ho (by omega) (fl_db1 (fl_at (by obtain ⟨k, a, b⟩ := ho; exact b.1) (by omega) (by omega)) hr g2) (by decide))
      ·
        rw [if_neg g2]
        obtain ⟨a5, e6⟩ := q_nm (lx111 + 1 : Int32)
        rw [e6]
        have a5i : a5.toInt = lx111.toInt + 1 := by rw [← e6]; exact q_addI (x := lx111.toInt) (y := 1) rfl (by decide) (by omega) (by omega)
        exact ih _ _ _ ⟨by omega, by omega⟩ (by omega) (flDb.go ho (by omega) (fl_db2 (fl_at (by obtain ⟨k, a, b⟩ := ho; exact b.1) (by omega) (by omega)) hr g2) (by decide))
theorem v_su2 {K_F_FR_setUnit_L2 : Int32 → (Nat → Int32) → (Nat → Int32)} {x2 : Int32} {t0_0 : Int32} {t0_1 : Int32} {t0_2 : Int32} {t0_3 : Int32} {t0_4 : Int64} {t0_5 : Int32} {t0_6 : Int32} {t0_7 : Int64} {t0_8 : Int32} {t0_9 : Int64} {t0_10 : Int32} {t1_0 : (Nat → Int32)} {lx18 : Int32} {lx19 : (Nat → Int32)} (hx : -1080 ≤ x2.toInt ∧ x2.toInt ≤ 1000) : ∀ (n : Nat) (lx34 : Int32) (lx35 : (Nat → Int32)), (lx34.toInt < (n : Int) ∧ 0 < (n : Int)) → (flT x2 lx34 lx35) → flU x2 (F_FR_setUnit_L34 K_F_FR_setUnit_L2 x2 t0_0 t0_1 t0_2 t0_3 t0_4 t0_5 t0_6 t0_7 t0_8 t0_9 t0_10 t1_0 lx18 lx19 n lx34 lx35) := by
  intro n
  induction n with
  | zero => intro lx34 lx35 hm ho; exact absurd (show False by omega) id
  | succ n ih =>
    intro lx34 lx35 hm ho
    have e0 : (0 : Int32).toInt = 0 := rfl
    have e1 : (1 : Int32).toInt = 1 := rfl
    have eL0 : (0 : Int64).toInt = 0 := rfl
    rw [F_FR_setUnit_L34.eq_2]
    by_cases g1 : lx34 ≤ (0 : Int32)
    ·
      rw [if_pos g1]
      have g1i : lx34.toInt ≤ 0 := q_leI g1
      exact v_su4 hx _ _ _ ⟨by omega, by omega⟩ (ho.fin (by omega))
    ·
      rw [if_neg g1]
      have g1i : 0 < lx34.toInt := q_nleI g1
      have e5 : (lx34 + (-1) : Int32).toInt = lx34.toInt + (-1) := q_addI (y := -1) rfl (by decide) (by omega) (by have := q_hi32 (x := lx34); omega); exact v_su3 hx (fun r c h => ih _ r ⟨by omega, by omega⟩ (ho.go (by omega) (by omega) (by omega) h)) _ _ _ _ ⟨by decide, by decide⟩ (by decide) ⟨0, rfl, ho.1, fun i hi => rfl, (by show (0 : Int) + (0 : Int32).toInt * 1000000000 ^ 0 = 2 * 0; decide), by decide, by decide⟩
theorem v_su1 {x2 : Int32} {t0_0 : Int32} {t0_1 : Int32} {t0_2 : Int32} {t0_3 : Int32} {t0_4 : Int64} {t0_5 : Int32} {t0_6 : Int32} {t0_7 : Int64} {t0_8 : Int32} {t0_9 : Int64} {t0_10 : Int32} {t1_0 : (Nat → Int32)} (hx : -1080 ≤ x2.toInt ∧ x2.toInt ≤ 1000) : ∀ (n : Nat) (lx18 : Int32) (lx19 : (Nat → Int32)), (0 ≤ lx18.toInt ∧ lx18.toInt ≤ 156) → (156 - lx18.toInt < (n : Int)) → (∃ k : Nat, (k : Int) = lx18.toInt ∧ flX k lx19) → flU x2 (F_FR_setUnit_L2 x2 t0_0 t0_1 t0_2 t0_3 t0_4 t0_5 t0_6 t0_7 t0_8 t0_9 t0_10 t1_0 n lx18 lx19) := by
  intro n
  induction n with
  | zero => intro lx18 lx19 h0 hm ho; exact absurd (show False by omega) id
  | succ n ih =>
    intro lx18 lx19 h0 hm ho
    have e0 : (0 : Int32).toInt = 0 := rfl
    have e1 : (1 : Int32).toInt = 1 := rfl
    have eL0 : (0 : Int64).toInt = 0 := rfl
    rw [F_FR_setUnit_L2.eq_2]
    by_cases g1 : (156 : Int32) ≤ lx18
    ·
      rw [if_pos g1]
      have g1i : 156 ≤ lx18.toInt := q_leI g1
      exact v_su2 hx _ _ _ ⟨by omega, by omega⟩ (flT.start (by obtain ⟨k, a, b⟩ := ho; rw [show k = 156 by omega] at b; exact b))
    ·
      rw [if_neg g1]
      have g1i : lx18.toInt < 156 := q_nleI g1
      by_cases g2 : lx18 = (120 : Int32)
      ·
        rw [if_pos g2]
        have g2i : lx18.toInt = 120 := q_eqI g2
        obtain ⟨a3, e4⟩ := q_nm (lx18 + 1 : Int32)
        rw [e4]
        have a3i : a3.toInt = lx18.toInt + 1 := by rw [← e4]; exact q_addI (x := lx18.toInt) (y := 1) rfl (by decide) (by omega) (by omega)
        exact ih _ _ ⟨by omega, by omega⟩ (by omega) (flX.go1 ho (by omega) (by omega))
      ·
        rw [if_neg g2]
        have g2i : lx18.toInt ≠ 120 := q_neI g2
        obtain ⟨a5, e6⟩ := q_nm (lx18 + 1 : Int32)
        rw [e6]
        have a5i : a5.toInt = lx18.toInt + 1 := by rw [← e6]; exact q_addI (x := lx18.toInt) (y := 1) rfl (by decide) (by omega) (by omega)
        exact ih _ _ ⟨by omega, by omega⟩ (by omega) (flX.go ho (by omega) (by omega))
theorem T_FR_setUnit {x2 : Int32} {t0_0 : Int32} {t0_1 : Int32} {t0_2 : Int32} {t0_3 : Int32} {t0_4 : Int64} {t0_5 : Int32} {t0_6 : Int32} {t0_7 : Int64} {t0_8 : Int32} {t0_9 : Int64} {t0_10 : Int32} {t1_0 : (Nat → Int32)} (hx : -1080 ≤ x2.toInt ∧ x2.toInt ≤ 1000) : flU x2 (F_FR_setUnit x2 t0_0 t0_1 t0_2 t0_3 t0_4 t0_5 t0_6 t0_7 t0_8 t0_9 t0_10 t1_0) := by
  have e0 : (0 : Int32).toInt = 0 := rfl
  have e1 : (1 : Int32).toInt = 1 := rfl
  have eL0 : (0 : Int64).toInt = 0 := rfl
  unfold F_FR_setUnit
  exact v_su1 hx _ _ _ ⟨by decide, by decide⟩ (by decide) ⟨0, rfl, fun i hi => absurd hi (Nat.not_lt_zero _), Or.inl ⟨by decide, rfl⟩⟩
