/-! values, for whole: the reference's DecimalRows: which way it rounds -/
theorem u_split {f : Nat → Int32} {k : Nat} : ∀ m : Nat, uV f (k + m) = uV f k * 10 ^ m + uV (fun i => f (i + k)) m
  | 0 => by
    show uV f k = uV f k * 1 + 0
    omega
  | m + 1 => by
    show uV f (k + m) * 10 + (f (k + m)).toInt = uV f k * 10 ^ (m + 1) + (uV (fun i => f (i + k)) m * 10 + (f (m + k)).toInt)
    rw [u_split m, u_pw, Int.add_mul, Int.mul_assoc, Nat.add_comm k m]
    omega
theorem u_zerI {f : Nat → Int32} : ∀ {n : Nat}, gO f n → uV f n = 0 → ∀ i, i < n → f i = 0
  | 0, _, _, i, hi => absurd hi (Nat.not_lt_zero _)
  | n + 1, hg, hv, i, hi => by
    have h1 : uV f n * 10 + (f n).toInt = 0 := hv
    have h2 := u_nn (f := f) (n := n) (hg.mono (by omega))
    have h3 := hg n (by omega)
    by_cases c : i = n
    · rw [c]
      exact Int32.toInt_inj.mp (show (f n).toInt = (0 : Int32).toInt by have : (0 : Int32).toInt = 0 := rfl; omega)
    · exact u_zerI (n := n) (hg.mono (by omega)) (by omega) i (by omega)
/-- the row cut behind k figures -/
theorem u_cutE {f : Nat → Int32} {k m : Nat} (hg : gO f (k + m)) : uV f (k + m) / 10 ^ m = uV f k ∧ uV f (k + m) % 10 ^ m = uV (fun i => f (i + k)) m := by
  have hp := u_pos m
  have ht : gO (fun i => f (i + k)) m := fun i hi => hg (i + k) (by omega)
  have h1 := u_nn ht
  have h2 := u_lt ht
  refine (Int.ediv_emod_unique hp).mpr ⟨?_, h1, h2⟩
  rw [u_split m, Int.mul_comm]
  omega
theorem u_10d {v : Int} {m : Nat} : (10 * v) / 10 ^ (m + 1) = v / 10 ^ m ∧ (10 * v) % 10 ^ (m + 1) = 10 * (v % 10 ^ m) := by
  rw [u_pw, Int.mul_comm (10 ^ m) 10, Int.mul_ediv_mul_of_pos _ _ (by decide), Int.mul_emod_mul_of_pos _ _ (by decide)]
  exact ⟨rfl, rfl⟩
/-- which way the mode m goes: t is ten times the number, cut; st: something is behind it; b: below 0 -/
def rGr (m b st : Int32) (t : Int) : Int32 := if m = 0 then (if t % 10 = 0 ∧ st = 0 then 0 else 1) else if m = 1 then 0 else if m = 2 then (if t % 10 = 0 ∧ st = 0 then 0 else if b = 0 then 1 else 0) else if m = 3 then (if t % 10 = 0 ∧ st = 0 then 0 else if b = 0 then 0 else 1) else if m = 4 then (if t % 10 < 5 then 0 else 1) else if m = 5 then (if 5 < t % 10 then 1 else if t % 10 = 5 then (if st = 0 then 0 else 1) else 0) else if m = 6 then (if 5 < t % 10 then 1 else if t % 10 = 5 then (if st = 0 then (if t / 10 % 2 = 1 then 1 else 0) else 1) else 0) else (if t % 10 = 0 ∧ st = 0 then 0 else 2)
theorem r_ex {α : Type} {l : Int32} {P : Prop} [Decidable P] (h : (P ∧ l = 1) ∨ (¬ P ∧ l = 0)) (A B : α) : (if l = 0 then A else B) = (if P then B else A) := by
  rcases h with ⟨h1, h2⟩ | ⟨h1, h2⟩
  · rw [h2, if_neg (by decide), if_pos h1]
  · rw [h2, if_pos rfl, if_neg h1]
theorem r_co {α : Type} {P Q : Prop} [Decidable P] [Decidable Q] (h : P ↔ Q) (A B : α) : (if P then A else B) = (if Q then A else B) := by
  by_cases c : P
  · rw [if_pos c, if_pos (h.mp c)]
  · rw [if_neg c, if_neg (fun q => c (h.mpr q))]
theorem V_gr92 {x2 : Int32} {x3 : Int32} {t0_0 : Int32} {t0_1 : Int32} {t0_2 : Int32} {t0_3 : Int64} {t0_4 : Int32} {t0_5 : Int32} {t0_6 : Int32} {t0_7 : Int32} {t0_8 : Int32} {t0_9 : Int32} {t0_10 : Int32} {t1_0 : (Nat → Int32)} {lx20 : Int32} {lx39 : Int32} {lx50 : Int32} {lx61 : Int32} {t : Int} (hd : lx20.toInt = t % 10) (he : ((t % 10 = 0 ∧ lx39 = 0) ∧ lx50 = 1) ∨ (¬ (t % 10 = 0 ∧ lx39 = 0) ∧ lx50 = 0)) (ho : (lx61 - lx61 / 2 * 2 : Int32) = 1 ↔ t / 10 % 2 = 1) : (F_DR_grows_J92 x2 x3 t0_0 t0_1 t0_2 t0_3 t0_4 t0_5 t0_6 t0_7 t0_8 t0_9 t0_10 t1_0 lx20 lx39 lx50 lx61) = rGr x3 t0_5 lx39 t := by
  have e5 : (5 : Int32).toInt = 5 := rfl
  have k1 : lx20 < 5 ↔ t % 10 < 5 := by rw [Int32.lt_iff_toInt_lt, hd, e5]
  have k2 : (5 : Int32) < lx20 ↔ 5 < t % 10 := by rw [Int32.lt_iff_toInt_lt, hd, e5]
  have k3 : lx20 = 5 ↔ t % 10 = 5 := by rw [← Int32.toInt_inj, hd, e5]
  unfold F_DR_grows_J92 rGr
  rw [r_ex he, r_ex he, r_ex he, r_ex he, r_co k1, r_co k2, r_co k3, r_co k2, r_co k3, r_co ho]
theorem u_par {f : Nat → Int32} {k : Nat} (hg : gO f (k + 1)) : (f k - f k / 2 * 2 : Int32) = 1 ↔ uV f (k + 1) % 2 = 1 := by
  have h1 := hg k (by omega)
  have e2 : (2 : Int32).toInt = 2 := rfl
  have e1 : (1 : Int32).toInt = 1 := rfl
  have h2 := v_rem (a := f k) (b := 2) h1.1 (by decide)
  have h3 : uV f (k + 1) = uV f k * 10 + (f k).toInt := rfl
  rw [← Int32.toInt_inj, h2, e1, e2, h3]
  generalize uV f k = z
  omega
theorem V_gr66 {x2 : Int32} {x3 : Int32} {t0_0 : Int32} {t0_1 : Int32} {t0_2 : Int32} {t0_3 : Int64} {t0_4 : Int32} {t0_5 : Int32} {t0_6 : Int32} {t0_7 : Int32} {t0_8 : Int32} {t0_9 : Int32} {t0_10 : Int32} {t1_0 : (Nat → Int32)} {lx20 : Int32} {lx39 : Int32} {lx50 : Int32} {v t : Int} {e : Nat} (h2 : 0 ≤ t0_2.toInt ∧ t0_2.toInt ≤ 4400) (hx : -1 ≤ x2.toInt ∧ x2.toInt ≤ t0_2.toInt) (he : (e : Int) = t0_2.toInt - x2.toInt) (hg : gO t1_0 t0_2.toNatClampNeg) (hv : uV t1_0 t0_2.toNatClampNeg = v) (ht : t = (10 * v) / 10 ^ e) (hd : lx20.toInt = t % 10) (h5 : ((t % 10 = 0 ∧ lx39 = 0) ∧ lx50 = 1) ∨ (¬ (t % 10 = 0 ∧ lx39 = 0) ∧ lx50 = 0)) (hq : t / 10 = v / 10 ^ e) : (F_DR_grows_J66 x2 x3 t0_0 t0_1 t0_2 t0_3 t0_4 t0_5 t0_6 t0_7 t0_8 t0_9 t0_10 t1_0 lx20 lx39 lx50) = rGr x3 t0_5 lx39 t := by
  have e0 : (0 : Int32).toInt = 0 := rfl
  have hn := q_clI (i := t0_2) rfl h2.1
  have n0 : v < 10 ^ t0_2.toNatClampNeg := by
    rw [← hv]
    exact u_lt hg
  have v0 : 0 ≤ v := by
    rw [← hv]
    exact u_nn hg
  unfold F_DR_grows_J66
  have hz : x2.toInt ≤ 0 → (((0 : Int32) - 0 / 2 * 2 : Int32) = 1 ↔ t / 10 % 2 = 1) := fun hx0 => by
    have hq0 : v / 10 ^ e = 0 := by
      refine Int.ediv_eq_zero_of_lt v0 (Int.lt_of_lt_of_le n0 ?_)
      have : t0_2.toNatClampNeg ≤ e := by omega
      obtain ⟨j, rfl⟩ : ∃ j, e = t0_2.toNatClampNeg + j := ⟨e - t0_2.toNatClampNeg, by omega⟩
      rw [Int.pow_add]
      have p1 := u_pos t0_2.toNatClampNeg
      have p2 := u_pos j
      have p3 : 0 ≤ (10 : Int) ^ t0_2.toNatClampNeg * (10 ^ j - 1) := Int.mul_nonneg (Int.le_of_lt p1) (by omega)
      rw [Int.mul_sub, Int.mul_one] at p3
      omega
    rw [hq, hq0]
    exact ⟨fun c => absurd c (by decide), fun c => absurd c (by decide)⟩
  by_cases c : x2 ≤ 0
  · have c2 := q_leI c
    rw [if_pos c]
    unfold F_DR_grows_J91
    exact V_gr92 hd h5 (hz (by omega))
  · have c2 := q_nleI c
    rw [if_neg c, if_neg (fun d => by have := q_ltI d; omega)]
    obtain ⟨k, hk⟩ : ∃ k : Nat, x2.toInt = ((k + 1 : Nat) : Int) := ⟨x2.toInt.toNat - 1, by omega⟩
    have e1 : (x2 - 1 : Int32).toInt = (k : Int) := by
      rw [q_subI (y := 1) hk rfl (by omega) (by omega)]
      omega
    have e1c := q_clI e1 (by omega)
    have ix : (x2 - 1 : Int32).toNatClampNeg = k := by omega
    have hN : t0_2.toNatClampNeg = (k + 1) + e := by omega
    rw [ix]
    refine V_gr92 hd h5 ?_
    rw [hN] at hg hv
    rw [hq, ← hv, (u_cutE hg).1]
    exact u_par (hg.mono (by omega))
theorem V_gr50 {x2 : Int32} {x3 : Int32} {t0_0 : Int32} {t0_1 : Int32} {t0_2 : Int32} {t0_3 : Int64} {t0_4 : Int32} {t0_5 : Int32} {t0_6 : Int32} {t0_7 : Int32} {t0_8 : Int32} {t0_9 : Int32} {t0_10 : Int32} {t1_0 : (Nat → Int32)} {lx20 : Int32} {lx39 : Int32} {v t : Int} {e : Nat} (h2 : 0 ≤ t0_2.toInt ∧ t0_2.toInt ≤ 4400) (hx : -1 ≤ x2.toInt ∧ x2.toInt ≤ t0_2.toInt) (he : (e : Int) = t0_2.toInt - x2.toInt) (hg : gO t1_0 t0_2.toNatClampNeg) (hv : uV t1_0 t0_2.toNatClampNeg = v) (ht : t = (10 * v) / 10 ^ e) (hd : lx20.toInt = t % 10) (hq : t / 10 = v / 10 ^ e) : (F_DR_grows_J50 x2 x3 t0_0 t0_1 t0_2 t0_3 t0_4 t0_5 t0_6 t0_7 t0_8 t0_9 t0_10 t1_0 lx20 lx39) = rGr x3 t0_5 lx39 t := by
  have e0 : (0 : Int32).toInt = 0 := rfl
  have k0 : lx20 = 0 ↔ t % 10 = 0 := by rw [← Int32.toInt_inj, hd, e0]
  unfold F_DR_grows_J50
  by_cases c : lx20 = 0
  · rw [if_pos c]
    by_cases d : lx39 = 0
    · rw [if_pos d]
      exact V_gr66 h2 hx he hg hv ht hd (Or.inl ⟨⟨k0.mp c, d⟩, rfl⟩) hq
    · rw [if_neg d]
      unfold F_DR_grows_J65
      exact V_gr66 h2 hx he hg hv ht hd (Or.inr ⟨fun h => d h.2, rfl⟩) hq
  · rw [if_neg c]
    unfold F_DR_grows_J65
    exact V_gr66 h2 hx he hg hv ht hd (Or.inr ⟨fun h => c (k0.mpr h.1), rfl⟩) hq
theorem V_imL {x2 : Int32} {t0_0 : Int32} {t0_1 : Int32} {t0_2 : Int32} {t0_3 : Int64} {t0_4 : Int32} {t0_5 : Int32} {t0_6 : Int32} {t0_7 : Int32} {t0_8 : Int32} {t0_9 : Int32} {t0_10 : Int32} {t1_0 : (Nat → Int32)} {lx20 : Int32} (h2 : 0 ≤ t0_2.toInt ∧ t0_2.toInt ≤ 4400) : ∀ (n : Nat) (lx33 : Int32) (lx34 : Int32), ∀ k : Nat, lx33.toInt = (k : Int) → t0_2.toInt - (k : Int) < (n : Int) → (1 : Int) ≤ (n : Int) → k ≤ 5000 → (lx34 = 0 ∨ lx34 = 1) → ((F_DR_isMore_L15 x2 t0_0 t0_1 t0_2 t0_3 t0_4 t0_5 t0_6 t0_7 t0_8 t0_9 t0_10 t1_0 lx20 n lx33 lx34) = 0 ∨ (F_DR_isMore_L15 x2 t0_0 t0_1 t0_2 t0_3 t0_4 t0_5 t0_6 t0_7 t0_8 t0_9 t0_10 t1_0 lx20 n lx33 lx34) = 1) ∧ ((F_DR_isMore_L15 x2 t0_0 t0_1 t0_2 t0_3 t0_4 t0_5 t0_6 t0_7 t0_8 t0_9 t0_10 t1_0 lx20 n lx33 lx34) = 0 ↔ (lx34 = 0 ∧ ∀ i, k ≤ i → i < t0_2.toNatClampNeg → t1_0 i = 0)) := by
  have hn := q_clI (i := t0_2) rfl h2.1
  have z1 : ¬ (1 : Int32) = 0 := by decide
  intro n
  induction n with
  | zero => intro _ _ k _ _ h; exact absurd h (by decide)
  | succ n ih =>
    intro lx33 lx34 k hk hkn h1 hk5 hf
    have q0 := q_clI hk (by omega)
    have ix0 : lx33.toNatClampNeg = k := by omega
    rw [F_DR_isMore_L15.eq_2, ix0]
    by_cases c : t0_2 ≤ lx33
    · have c2 := q_leI c
      rw [if_pos c]
      exact ⟨hf, fun h => ⟨h, fun i h1 h2 => by omega⟩, fun h => h.1⟩
    · have c2 := q_nleI c
      have e1 : (lx33 + 1 : Int32).toInt = ((k + 1 : Nat) : Int) := by
        rw [q_addI (y := 1) hk rfl (by omega) (by omega)]
        omega
      rw [if_neg c]
      by_cases d : lx34 = 0
      · rw [if_pos d]
        by_cases f : t1_0 k = 0
        · rw [if_pos f]
          obtain ⟨r1, r2⟩ := ih (lx33 + 1) 0 (k + 1) e1 (by omega) (by omega) (by omega) (Or.inl rfl)
          refine ⟨r1, fun h => ⟨d, fun i i1 i2 => ?_⟩, fun h => r2.mpr ⟨rfl, fun i i1 i2 => h.2 i (by omega) i2⟩⟩
          by_cases ci : i = k
          · rw [ci]
            exact f
          · exact (r2.mp h).2 i (by omega) i2
        · rw [if_neg f]
          obtain ⟨r1, r2⟩ := ih (lx33 + 1) 1 (k + 1) e1 (by omega) (by omega) (by omega) (Or.inr rfl)
          exact ⟨r1, fun h => absurd (r2.mp h).1 z1, fun h => absurd (h.2 k (Nat.le_refl _) (by omega)) f⟩
      · rw [if_neg d]
        obtain ⟨r1, r2⟩ := ih (lx33 + 1) 1 (k + 1) e1 (by omega) (by omega) (by omega) (Or.inr rfl)
        exact ⟨r1, fun h => absurd (r2.mp h).1 z1, fun h => absurd h.1 d⟩
theorem V_DR_isMore {x2 : Int32} {t0_0 : Int32} {t0_1 : Int32} {t0_2 : Int32} {t0_3 : Int64} {t0_4 : Int32} {t0_5 : Int32} {t0_6 : Int32} {t0_7 : Int32} {t0_8 : Int32} {t0_9 : Int32} {t0_10 : Int32} {t1_0 : (Nat → Int32)} {k : Nat} (h2 : 0 ≤ t0_2.toInt ∧ t0_2.toInt ≤ 4400) (hm : t0_4 = 0 ∨ t0_4 = 1) (hk : x2.toInt = (k : Int)) (hk5 : k ≤ 5000) : ((F_DR_isMore x2 t0_0 t0_1 t0_2 t0_3 t0_4 t0_5 t0_6 t0_7 t0_8 t0_9 t0_10 t1_0) = 0 ∨ (F_DR_isMore x2 t0_0 t0_1 t0_2 t0_3 t0_4 t0_5 t0_6 t0_7 t0_8 t0_9 t0_10 t1_0) = 1) ∧ ((F_DR_isMore x2 t0_0 t0_1 t0_2 t0_3 t0_4 t0_5 t0_6 t0_7 t0_8 t0_9 t0_10 t1_0) = 0 ↔ (t0_4 = 0 ∧ ∀ i, k ≤ i → i < t0_2.toNatClampNeg → t1_0 i = 0)) := by
  have e0 : (0 : Int32).toInt = 0 := rfl
  unfold F_DR_isMore
  rw [if_pos (Int32.le_iff_toInt_le.mpr (by omega))]
  unfold F_DR_isMore_J14
  exact V_imL h2 _ _ _ k hk (by omega) (by omega) hk5 hm
/-- what is behind the figure, as a flag -/
def rSt (v : Int) (e : Nat) (m : Int32) : Int32 := if (10 * v) % 10 ^ e = 0 ∧ m = 0 then 0 else 1
theorem V_gr22 {x2 : Int32} {x3 : Int32} {t0_0 : Int32} {t0_1 : Int32} {t0_2 : Int32} {t0_3 : Int64} {t0_4 : Int32} {t0_5 : Int32} {t0_6 : Int32} {t0_7 : Int32} {t0_8 : Int32} {t0_9 : Int32} {t0_10 : Int32} {t1_0 : (Nat → Int32)} {lx20 : Int32} {v t : Int} {e : Nat} (h2 : 0 ≤ t0_2.toInt ∧ t0_2.toInt ≤ 4400) (hx : -1 ≤ x2.toInt ∧ x2.toInt ≤ t0_2.toInt) (he : (e : Int) = t0_2.toInt - x2.toInt) (hg : gO t1_0 t0_2.toNatClampNeg) (hv : uV t1_0 t0_2.toNatClampNeg = v) (hm : t0_4 = 0 ∨ t0_4 = 1) (ht : t = (10 * v) / 10 ^ e) (hd : lx20.toInt = t % 10) (hq : t / 10 = v / 10 ^ e) (hs : (10 * v) % 10 ^ e = 0 ↔ ∀ i, (x2.toInt + 1).toNat ≤ i → i < t0_2.toNatClampNeg → t1_0 i = 0) : (F_DR_grows_J22 x2 x3 t0_0 t0_1 t0_2 t0_3 t0_4 t0_5 t0_6 t0_7 t0_8 t0_9 t0_10 t1_0 lx20) = rGr x3 t0_5 (rSt v e t0_4) t := by
  have e0 : (0 : Int32).toInt = 0 := rfl
  have hn := q_clI (i := t0_2) rfl h2.1
  have e1 : (x2 + 1 : Int32).toInt = (((x2.toInt + 1).toNat : Nat) : Int) := by
    rw [q_addI (y := 1) rfl rfl (by omega) (by omega)]
    omega
  obtain ⟨m1, m2⟩ := V_DR_isMore (x2 := x2 + 1) (t0_0 := t0_0) (t0_1 := t0_1) (t0_2 := t0_2) (t0_3 := t0_3) (t0_4 := t0_4) (t0_5 := t0_5) (t0_6 := t0_6) (t0_7 := t0_7) (t0_8 := t0_8) (t0_9 := t0_9) (t0_10 := t0_10) (t1_0 := t1_0) h2 hm e1 (by omega)
  obtain ⟨n1, n2⟩ := V_DR_isMore (x2 := 0) (t0_0 := t0_0) (t0_1 := t0_1) (t0_2 := t0_2) (t0_3 := t0_3) (t0_4 := t0_4) (t0_5 := t0_5) (t0_6 := t0_6) (t0_7 := t0_7) (t0_8 := t0_8) (t0_9 := t0_9) (t0_10 := t0_10) (t1_0 := t1_0) (k := 0) h2 hm rfl (by omega)
  unfold F_DR_grows_J22
  by_cases c : F_DR_isMore (x2 + 1) t0_0 t0_1 t0_2 t0_3 t0_4 t0_5 t0_6 t0_7 t0_8 t0_9 t0_10 t1_0 = 0
  · have c2 := m2.mp c
    have c3 : rSt v e t0_4 = 0 := if_pos ⟨hs.mpr c2.2, c2.1⟩
    rw [if_pos c, c3]
    by_cases d : (0 : Int32) ≤ x2
    · rw [if_pos d]
      unfold F_DR_grows_J49
      exact V_gr50 h2 hx he hg hv ht hd hq
    · have d2 := q_nleI d
      rw [if_neg d, if_pos (n2.mpr ⟨c2.1, fun i _ i2 => c2.2 i (by omega) i2⟩)]
      unfold F_DR_grows_J49
      exact V_gr50 h2 hx he hg hv ht hd hq
  · have c3 : rSt v e t0_4 = 1 := if_neg (fun h => c (m2.mpr ⟨h.2, hs.mp h.1⟩))
    rw [if_neg c, c3]
    unfold F_DR_grows_J45
    exact V_gr50 h2 hx he hg hv ht hd hq
theorem V_DR_grows {x2 : Int32} {x3 : Int32} {t0_0 : Int32} {t0_1 : Int32} {t0_2 : Int32} {t0_3 : Int64} {t0_4 : Int32} {t0_5 : Int32} {t0_6 : Int32} {t0_7 : Int32} {t0_8 : Int32} {t0_9 : Int32} {t0_10 : Int32} {t1_0 : (Nat → Int32)} {v : Int} {e : Nat} (h2 : 0 ≤ t0_2.toInt ∧ t0_2.toInt ≤ 4400) (hx : -1 ≤ x2.toInt ∧ x2.toInt ≤ t0_2.toInt) (he : (e : Int) = t0_2.toInt - x2.toInt) (hg : gO t1_0 t0_2.toNatClampNeg) (hv : uV t1_0 t0_2.toNatClampNeg = v) (hm : t0_4 = 0 ∨ t0_4 = 1) : (F_DR_grows x2 x3 t0_0 t0_1 t0_2 t0_3 t0_4 t0_5 t0_6 t0_7 t0_8 t0_9 t0_10 t1_0) = rGr x3 t0_5 (rSt v e t0_4) ((10 * v) / 10 ^ e) := by
  have e0 : (0 : Int32).toInt = 0 := rfl
  have hn := q_clI (i := t0_2) rfl h2.1
  have n0 : v < 10 ^ t0_2.toNatClampNeg := by
    rw [← hv]
    exact u_lt hg
  have v0 : 0 ≤ v := by
    rw [← hv]
    exact u_nn hg
  unfold F_DR_grows
  by_cases c : x2 < 0
  · have c2 := q_ltI c
    have he1 : e = t0_2.toNatClampNeg + 1 := by omega
    subst he1
    obtain ⟨u1, u2⟩ := u_10d (v := v) (m := t0_2.toNatClampNeg)
    rw [Int.ediv_eq_zero_of_lt v0 n0] at u1
    rw [Int.emod_eq_of_lt v0 n0] at u2
    rw [if_pos c]
    unfold F_DR_grows_J21
    refine V_gr22 h2 hx he hg hv hm rfl (by rw [u1]; rfl) ?_ ?_
    · rw [u1, u_pw]
      symm
      refine Int.ediv_eq_zero_of_lt v0 ?_
      have := u_pos t0_2.toNatClampNeg
      omega
    · rw [u2]
      constructor
      · intro h i _ i2
        exact u_zerI hg (by rw [hv]; omega) i i2
      · intro h
        rw [← hv, u_zer (fun i hi => h i (by omega) hi)]
        rfl
  · have c2 := q_nltI c
    rw [if_neg c]
    by_cases d : t0_2 ≤ x2
    · have d2 := q_leI d
      have he1 : e = 0 := by omega
      subst he1
      rw [if_pos d]
      unfold F_DR_grows_J21
      refine V_gr22 h2 hx he hg hv hm rfl ?_ ?_ ?_
      · rw [Int.pow_zero, Int.ediv_one, e0]
        omega
      · rw [Int.pow_zero, Int.ediv_one, Int.ediv_one]
        omega
      · rw [Int.pow_zero, Int.emod_one]
        exact ⟨fun _ i i1 i2 => by omega, fun _ => rfl⟩
    · have d2 := q_nleI d
      obtain ⟨k, hk⟩ : ∃ k : Nat, x2.toInt = (k : Int) := ⟨x2.toInt.toNat, by omega⟩
      obtain ⟨m, hm1⟩ : ∃ m : Nat, e = m + 1 := ⟨e - 1, by omega⟩
      subst hm1
      have kc := q_clI hk (by omega)
      have ix : x2.toNatClampNeg = k := by omega
      have hN : t0_2.toNatClampNeg = (k + 1) + m := by omega
      obtain ⟨u1, u2⟩ := u_10d (v := v) (m := m)
      have hg2 := hg
      have hv2 := hv
      rw [hN] at hg2 hv2
      obtain ⟨w1, w2⟩ := u_cutE hg2
      rw [hv2] at w1 w2
      rw [w1] at u1
      rw [w2] at u2
      have h3 : uV t1_0 (k + 1) = uV t1_0 k * 10 + (t1_0 k).toInt := rfl
      have h4 := hg k (by omega)
      rw [if_neg d, ix]
      refine V_gr22 h2 hx he hg hv hm rfl ?_ ?_ ?_
      · rw [u1, h3]
        omega
      · have hg3 := hg
        have hv3 := hv
        have hN3 : t0_2.toNatClampNeg = k + (m + 1) := by omega
        rw [hN3] at hg3 hv3
        have w3 := (u_cutE hg3).1
        rw [hv3] at w3
        rw [w3, u1, h3]
        omega
      · rw [u2]
        constructor
        · intro h i i1 i2
          have ht : gO (fun i => t1_0 (i + (k + 1))) m := fun i hi => hg2 (i + (k + 1)) (by omega)
          have h9 : t1_0 (i - (k + 1) + (k + 1)) = 0 := u_zerI ht (by omega) (i - (k + 1)) (by omega)
          rw [show i - (k + 1) + (k + 1) = i by omega] at h9
          exact h9
        · intro h
          rw [u_zer (fun i hi => h (i + (k + 1)) (by omega) (by omega))]
          rfl
