/-! values, for whole: the reference's DecimalRows: a figure at a scale; the sum's loop -/
theorem u_dig {f : Nat → Int32} {m i : Nat} (hg : gO f m) (hi : i < m) : uV f m / 10 ^ (m - 1 - i) % 10 = (f i).toInt := by
  have hm : m = (i + 1) + (m - 1 - i) := by omega
  have hg2 := hg
  rw [hm] at hg2
  have h1 := (u_cutE hg2).1
  rw [← hm] at h1
  have h2 : uV f (i + 1) = uV f i * 10 + (f i).toInt := rfl
  have h3 := hg i hi
  rw [h1, h2]
  generalize uV f i = z
  omega
theorem u_pwle {a b : Nat} (h : a ≤ b) : (10 : Int) ^ a ≤ 10 ^ b := by
  obtain ⟨j, rfl⟩ : ∃ j, b = a + j := ⟨b - a, by omega⟩
  have p1 := u_pos a
  have p2 := u_pos j
  have p3 : 0 ≤ (10 : Int) ^ a * (10 ^ j - 1) := Int.mul_nonneg (Int.le_of_lt p1) (by omega)
  rw [Int.mul_sub, Int.mul_one] at p3
  rw [Int.pow_add]
  omega
theorem V_fig {x2 : Int32} {x3 : Int64} {x4 : Int32} {t0_0 : Int32} {t0_1 : Int32} {t0_2 : Int32} {t0_3 : Int64} {t0_4 : Int32} {t0_5 : Int32} {t0_6 : Int32} {t0_7 : Int32} {t0_8 : Int32} {t0_9 : Int32} {t0_10 : Int32} {t1_0 : (Nat → Int32)} {t2_0 : (Nat → Int32)} {t3_0 : (Nat → Int32)} {V : Int} {d k m : Nat} (hx : 0 ≤ x2.toInt ∧ x2.toInt ≤ 9) (hk : gO t1_0 10000) (hm : (t2_0 x2.toNatClampNeg).toInt = (m : Int)) (hm2 : 1 ≤ m ∧ m ≤ 1000) (hV : uV (fun j => t1_0 (1000 * x2.toNatClampNeg + j)) m = V) (hd : (d : Int) = x3.toInt - (t3_0 x2.toNatClampNeg).toInt) (hd2 : d ≤ 30000) (h3 : -30000 ≤ x3.toInt ∧ x3.toInt ≤ 30000) (h4 : x4.toInt = (k : Int)) (hk3 : k ≤ 30000) : (F_DR_figure x2 x3 x4 t0_0 t0_1 t0_2 t0_3 t0_4 t0_5 t0_6 t0_7 t0_8 t0_9 t0_10 t1_0 t2_0 t3_0).toInt = (V * 10 ^ d) / 10 ^ k % 10 := by
  have hxc := q_clI (i := x2) rfl hx.1
  have e0 : (0 : Int64).toInt = 0 := rfl
  have i0 : (0 : Int32).toInt = 0 := rfl
  have a1 : ((t2_0 x2.toNatClampNeg).toInt64).toInt = (m : Int) := by rw [Int32.toInt_toInt64]; exact hm
  have a2 : (x4.toInt64).toInt = (k : Int) := by rw [Int32.toInt_toInt64]; exact h4
  have a3 : ((t3_0 x2.toNatClampNeg).toInt64).toInt = x3.toInt - d := by rw [Int32.toInt_toInt64]; omega
  have a4 : ((t2_0 x2.toNatClampNeg).toInt64 - 1 : Int64).toInt = (m : Int) - 1 := q_subL a1 rfl (by omega) (by omega)
  have a5 : ((t2_0 x2.toNatClampNeg).toInt64 - 1 - x4.toInt64 : Int64).toInt = (m : Int) - 1 - k := q_subL a4 a2 (by omega) (by omega)
  have a6 : (x3 - (t3_0 x2.toNatClampNeg).toInt64 : Int64).toInt = (d : Int) := by
    rw [q_subL rfl a3 (by omega) (by omega)]
    omega
  have a7 : (((t2_0 x2.toNatClampNeg).toInt64 - 1 - x4.toInt64) + (x3 - (t3_0 x2.toNatClampNeg).toInt64) : Int64).toInt = (m : Int) - 1 - k + d := q_addL a5 a6 (by omega) (by omega)
  have hg : gO (fun j => t1_0 (1000 * x2.toNatClampNeg + j)) m := fun j hj => hk _ (by omega)
  have v0 : 0 ≤ V := by
    rw [← hV]
    exact u_nn hg
  have v1 : V < 10 ^ m := by
    rw [← hV]
    exact u_lt hg
  unfold F_DR_figure
  generalize ((t2_0 x2.toNatClampNeg).toInt64 - 1 - x4.toInt64) + (x3 - (t3_0 x2.toNatClampNeg).toInt64) = E at a7 ⊢
  by_cases c : lg_cmp E 0 < 0
  · have c2 := g_lc1 c
    rw [if_pos c, i0]
    have hp : V * 10 ^ d < 10 ^ k := by
      have h1 : V * 10 ^ d < 10 ^ m * 10 ^ d := Int.mul_lt_mul_of_pos_right v1 (u_pos d)
      rw [← Int.pow_add] at h1
      exact Int.lt_of_lt_of_le h1 (u_pwle (by omega))
    rw [Int.ediv_eq_zero_of_lt (Int.mul_nonneg v0 (Int.le_of_lt (u_pos d))) hp]
    rfl
  · have c2 := g_lc2 c
    rw [if_neg c]
    by_cases f : lg_cmp E (t2_0 x2.toNatClampNeg).toInt64 < 0
    · have f2 := g_lc1 f
      obtain ⟨i, hi⟩ : ∃ i : Nat, E.toInt = (i : Int) := ⟨E.toInt.toNat, by omega⟩
      have e32 : (E.toInt32).toInt = (i : Int) := by
        rw [s_l2i (by omega) (by omega)]
        exact hi
      have ec := q_clI e32 (by omega)
      have gx := (g_ix (k := E.toInt32) hx ⟨by omega, by omega⟩).2
      have ex : E.toInt32.toNatClampNeg = i := by omega
      obtain ⟨r, hr⟩ : ∃ r, k = d + r := ⟨k - d, by omega⟩
      have er : r = m - 1 - i := by omega
      rw [if_pos f, gx, ex, hr, Int.pow_add, Int.mul_comm V, Int.mul_ediv_mul_of_pos _ _ (u_pos d), er, ← hV, u_dig hg (by omega)]
    · have f2 := g_lc2 f
      obtain ⟨r, hr⟩ : ∃ r, d = k + (r + 1) := ⟨d - k - 1, by omega⟩
      rw [if_neg f, i0, hr, Int.pow_add, Int.mul_comm (10 ^ k), ← Int.mul_assoc, Int.mul_ediv_cancel _ (Int.ne_of_gt (u_pos k)), u_pw, ← Int.mul_assoc]
      exact (Int.mul_emod_left _ _).symm
/-- k figures of a sum or a difference, with what goes on -/
theorem u_adI {X Y T c p x y v q r : Int} {E : Int} (h : T + c * E = X + p * Y) (hv : v = x + p * y + c) (hq : v = 10 * q + r) : r * E + T + q * (E * 10) = (X + x * E) + p * (Y + y * E) := by
  have e1 : v * E = 10 * q * E + r * E := by rw [hq, Int.add_mul]
  have e2 : v * E = x * E + p * y * E + c * E := by rw [hv, Int.add_mul, Int.add_mul]
  have e3 : q * (E * 10) = 10 * q * E := by rw [Int.mul_comm E 10, ← Int.mul_assoc, Int.mul_comm q 10]
  have e4 : p * (Y + y * E) = p * Y + p * y * E := by rw [Int.mul_add, Int.mul_assoc]
  omega
theorem u_modS {X : Int} {k : Nat} : X % 10 ^ (k + 1) = X % 10 ^ k + (X / 10 ^ k % 10) * 10 ^ k := by
  have hp := u_pos k
  have h1 := Int.emod_add_mul_ediv X (10 ^ k)
  have h2 := Int.emod_add_mul_ediv (X / 10 ^ k) 10
  have h3 := Int.emod_nonneg X (Int.ne_of_gt hp)
  have h4 := Int.emod_lt_of_pos X hp
  have h5 : 0 ≤ X / 10 ^ k % 10 := Int.emod_nonneg _ (by decide)
  have h6 : X / 10 ^ k % 10 < 10 := Int.emod_lt_of_pos _ (by decide)
  generalize X / 10 ^ k = z at *
  generalize z / 10 = w at *
  generalize z % 10 = d at *
  generalize hm : X % 10 ^ k = m at *
  refine ((Int.ediv_emod_unique (u_pos (k + 1)) (a := X) (q := w)).mpr ⟨?_, ?_, ?_⟩).2
  · rw [← h1, ← h2, u_pw, Int.mul_add, Int.mul_comm (10 ^ k) d, ← Int.mul_assoc (10 ^ k) 10 w]
    omega
  · have := Int.mul_nonneg h5 (Int.le_of_lt hp)
    omega
  · have h7 : 0 ≤ (9 - d) * 10 ^ k := Int.mul_nonneg (by omega) (Int.le_of_lt hp)
    rw [Int.sub_mul] at h7
    rw [u_pw]
    omega
theorem u_adV {a b c : Int32} {p : Int} (ha : 0 ≤ a.toInt ∧ a.toInt ≤ 9) (hb : -9 ≤ b.toInt ∧ b.toInt ≤ 9) (hc : -1 ≤ c.toInt ∧ c.toInt ≤ 1) : ((a + b + c : Int32).toInt = a.toInt + b.toInt + c.toInt) ∧ ((a + b + c + 10 - (a + b + c + 10) / 10 * 10 : Int32).toInt = (a.toInt + b.toInt + c.toInt) % 10) ∧ (0 ≤ a.toInt + b.toInt + c.toInt → ((a + b + c) / 10 : Int32).toInt = (a.toInt + b.toInt + c.toInt) / 10) := by
  have e10 : (10 : Int32).toInt = 10 := rfl
  obtain ⟨e1, e2⟩ := g_adV ha hb hc
  refine ⟨e1, ?_, fun h => ?_⟩
  · rw [v_rem (by omega) (by decide), e2, e10]
    omega
  · rw [q_divI e1 e10 h (by decide)]
theorem V_adL {x2 : Int32} {x3 : Int32} {x4 : Int32} {x5 : Int32} {t0_0 : Int32} {t0_1 : Int32} {t0_2 : Int32} {t0_3 : Int64} {t0_4 : Int32} {t0_5 : Int32} {t0_6 : Int32} {t0_7 : Int32} {t0_8 : Int32} {t0_9 : Int32} {t0_10 : Int32} {t1_0 : (Nat → Int32)} {t2_0 : (Nat → Int32)} {t3_0 : (Nat → Int32)} {t4_0 : (Nat → Int32)} {t5_0 : (Nat → Int32)} {lx39 : Int32} {lx68 : Int64} {lx91 : Int64} {lx114 : Int64} {lx150 : Int32} {lx173 : Int32} {lx188 : Int32} {lx203 : Int32} {lx218 : Int32} {lx236 : Int64} {a254 : Int32} {D : Nat → Int × Int} {X Y R p : Int} {N dX dY : Nat} (hD : dRv t1_0 t2_0 t3_0 t4_0 D) (hx4 : 0 ≤ x4.toInt ∧ x4.toInt ≤ 9) (hxa : 0 ≤ lx203.toInt ∧ lx203.toInt ≤ 9) (hxb : 0 ≤ lx218.toInt ∧ lx218.toInt ≤ 9) (hX : X = ((D lx203.toNatClampNeg).1.natAbs : Int) * 10 ^ dX) (hY : Y = ((D lx218.toNatClampNeg).1.natAbs : Int) * 10 ^ dY) (hdX : (dX : Int) = lx68.toInt - (D lx203.toNatClampNeg).2) (hdY : (dY : Int) = lx68.toInt - (D lx218.toNatClampNeg).2) (h68 : -10000 ≤ lx68.toInt ∧ lx68.toInt ≤ 10000) (hp : (lx173 = 0 ∧ p = -1) ∨ (¬ lx173 = 0 ∧ p = 1)) (hN : a254.toInt = (N : Int)) (hN2 : N ≤ 1002) (bX : 0 ≤ X ∧ X < 10 ^ N) (bY : 0 ≤ Y ∧ Y < 10 ^ N) (bR : 0 ≤ X + p * Y ∧ X + p * Y < 10 ^ N) (h150 : lx150 = 0 ∨ lx150 = 1) (hR1 : ¬ t1_0 (1000 * x2 : Int32).toNatClampNeg = 0 → ¬ t1_0 (1000 * x3 : Int32).toNatClampNeg = 0 → lx188 = 0 → sgI (t3_0 x2.toNatClampNeg) (X + p * Y) = R) (hR2 : ¬ t1_0 (1000 * x2 : Int32).toNatClampNeg = 0 → ¬ t1_0 (1000 * x3 : Int32).toNatClampNeg = 0 → ¬ lx188 = 0 → sgI lx150 (X + p * Y) = R) (hR3 : ¬ t1_0 (1000 * x2 : Int32).toNatClampNeg = 0 → t1_0 (1000 * x3 : Int32).toNatClampNeg = 0 → sgI (t3_0 x2.toNatClampNeg) (X + p * Y) = R) (hR4 : t1_0 (1000 * x2 : Int32).toNatClampNeg = 0 → sgI lx150 (X + p * Y) = R) (hx2 : 0 ≤ x2.toInt ∧ x2.toInt ≤ 9) : ∀ (n : Nat) (lx258 : Int32) (lx259 : Int32) (lx260 : (Nat → Int32)), ∀ k : Nat, lx258.toInt = (k : Int) → k ≤ N → N - k < n → (∀ i, N - k ≤ i → i < N → 0 ≤ (lx260 i).toInt ∧ (lx260 i).toInt ≤ 9) → (-1 ≤ lx259.toInt ∧ lx259.toInt ≤ 1) → uV (fun i => lx260 (i + (N - k))) k + lx259.toInt * 10 ^ k = X % 10 ^ k + p * (Y % 10 ^ k) → dAn x4 D (some (R, lx68.toInt)) lx39 2 (F_DR_add_L296 x2 x3 x4 x5 t0_0 t0_1 t0_2 t0_3 t0_4 t0_5 t0_6 t0_7 t0_8 t0_9 t0_10 t1_0 t2_0 t3_0 t4_0 t5_0 lx39 lx68 lx91 lx114 lx150 lx173 lx188 lx203 lx218 lx236 a254 n lx258 lx259 lx260).1 (F_DR_add_L296 x2 x3 x4 x5 t0_0 t0_1 t0_2 t0_3 t0_4 t0_5 t0_6 t0_7 t0_8 t0_9 t0_10 t1_0 t2_0 t3_0 t4_0 t5_0 lx39 lx68 lx91 lx114 lx150 lx173 lx188 lx203 lx218 lx236 a254 n lx258 lx259 lx260).2.2.2.2.2.2.2.2.2.2.2.1 (F_DR_add_L296 x2 x3 x4 x5 t0_0 t0_1 t0_2 t0_3 t0_4 t0_5 t0_6 t0_7 t0_8 t0_9 t0_10 t1_0 t2_0 t3_0 t4_0 t5_0 lx39 lx68 lx91 lx114 lx150 lx173 lx188 lx203 lx218 lx236 a254 n lx258 lx259 lx260).2.2.2.2.2.2.2.2.2.2.2.2.1 (F_DR_add_L296 x2 x3 x4 x5 t0_0 t0_1 t0_2 t0_3 t0_4 t0_5 t0_6 t0_7 t0_8 t0_9 t0_10 t1_0 t2_0 t3_0 t4_0 t5_0 lx39 lx68 lx91 lx114 lx150 lx173 lx188 lx203 lx218 lx236 a254 n lx258 lx259 lx260).2.2.2.2.2.2.2.2.2.2.2.2.2.1 (F_DR_add_L296 x2 x3 x4 x5 t0_0 t0_1 t0_2 t0_3 t0_4 t0_5 t0_6 t0_7 t0_8 t0_9 t0_10 t1_0 t2_0 t3_0 t4_0 t5_0 lx39 lx68 lx91 lx114 lx150 lx173 lx188 lx203 lx218 lx236 a254 n lx258 lx259 lx260).2.2.2.2.2.2.2.2.2.2.2.2.2.2.1 := by
  have hac := q_clI (i := lx203) rfl hxa.1
  have hbc := q_clI (i := lx218) rfl hxb.1
  have h2c := q_clI (i := x2) rfl hx2.1
  have nc := q_clI hN (by omega)
  have nn : a254.toNatClampNeg = N := by omega
  have ra := hD.2 lx203.toNatClampNeg (by omega)
  have rb := hD.2 lx218.toNatClampNeg (by omega)
  have r2 := hD.2 x2.toNatClampNeg (by omega)
  have ma := q_clI (i := t2_0 lx203.toNatClampNeg) rfl (by omega)
  have mb := q_clI (i := t2_0 lx218.toNatClampNeg) rfl (by omega)
  have s2 : t3_0 x2.toNatClampNeg = 0 ∨ t3_0 x2.toNatClampNeg = 1 := by
    rw [r2.2.2.2.1]
    exact sF_01
  intro n
  induction n with
  | zero => intro _ _ _ k _ _ h; exact absurd h (Nat.not_lt_zero _)
  | succ n ih =>
    intro lx258 lx259 lx260 k hk hkN hkn hg hc hv
    rw [F_DR_add_L296.eq_2]
    by_cases c : a254 ≤ lx258
    · have c2 := q_leI c
      have ek : k = N := by omega
      subst ek
      rw [if_pos c]
      have gN : gO lx260 k := fun i hi => hg i (by omega) hi
      rw [Int.emod_eq_of_lt bX.1 bX.2, Int.emod_eq_of_lt bY.1 bY.2, Nat.sub_self] at hv
      have u0 := u_nn gN
      have u1 := u_lt gN
      have ev : uV lx260 k = X + p * Y := by
        have hv2 : uV lx260 k + lx259.toInt * 10 ^ k = X + p * Y := hv
        generalize (10 : Int) ^ k = E at *
        have cc : lx259.toInt = -1 ∨ lx259.toInt = 0 ∨ lx259.toInt = 1 := by omega
        rcases cc with e | e | e
        · rw [e] at hv2
          omega
        · rw [e] at hv2
          omega
        · rw [e] at hv2
          omega
      have gA : gO lx260 a254.toNatClampNeg := by rw [nn]; exact gN
      have vA : uV lx260 a254.toNatClampNeg = X + p * Y := by rw [nn]; exact ev
      have hsz : 0 ≤ a254.toInt ∧ a254.toInt ≤ 4400 := ⟨by omega, by omega⟩
      unfold F_DR_isZero
      by_cases z2 : t1_0 (1000 * x2 : Int32).toNatClampNeg = 0
      · rw [if_pos z2, if_neg (show ¬ (1 : Int32) = 0 by decide)]
        have hs := V_DR_store (x2 := x4) (t0_0 := lx39) (t0_1 := t0_1) (t0_2 := a254) (t0_3 := lx68) (t0_4 := 0) (t0_5 := lx150) (t0_6 := t0_6) (t0_7 := t0_7) (t0_8 := t0_8) (t0_9 := t0_9) (t0_10 := 2) (t5_0 := lx260) hD hx4 h150 hsz gA vA
        rw [hR4 z2] at hs
        generalize F_DR_store x4 lx39 t0_1 a254 lx68 0 lx150 t0_6 t0_7 t0_8 t0_9 2 t1_0 t2_0 t3_0 t4_0 lx260 = r at hs ⊢
        unfold F_DR_add_c459_15
        exact hs.an
      · rw [if_neg z2, if_pos rfl]
        by_cases z3 : t1_0 (1000 * x3 : Int32).toNatClampNeg = 0
        · rw [if_pos z3, if_neg (show ¬ (1 : Int32) = 0 by decide)]
          have hs := V_DR_store (x2 := x4) (t0_0 := lx39) (t0_1 := t0_1) (t0_2 := a254) (t0_3 := lx68) (t0_4 := 0) (t0_5 := t3_0 x2.toNatClampNeg) (t0_6 := t0_6) (t0_7 := t0_7) (t0_8 := t0_8) (t0_9 := t0_9) (t0_10 := 2) (t5_0 := lx260) hD hx4 s2 hsz gA vA
          rw [hR3 z2 z3] at hs
          generalize F_DR_store x4 lx39 t0_1 a254 lx68 0 (t3_0 x2.toNatClampNeg) t0_6 t0_7 t0_8 t0_9 2 t1_0 t2_0 t3_0 t4_0 lx260 = r at hs ⊢
          unfold F_DR_add_c459_14
          exact hs.an
        · rw [if_neg z3, if_pos rfl]
          by_cases z4 : lx188 = 0
          · rw [if_pos z4]
            have hs := V_DR_store (x2 := x4) (t0_0 := lx39) (t0_1 := t0_1) (t0_2 := a254) (t0_3 := lx68) (t0_4 := 0) (t0_5 := t3_0 x2.toNatClampNeg) (t0_6 := t0_6) (t0_7 := t0_7) (t0_8 := t0_8) (t0_9 := t0_9) (t0_10 := 2) (t5_0 := lx260) hD hx4 s2 hsz gA vA
            rw [hR1 z2 z3 z4] at hs
            generalize F_DR_store x4 lx39 t0_1 a254 lx68 0 (t3_0 x2.toNatClampNeg) t0_6 t0_7 t0_8 t0_9 2 t1_0 t2_0 t3_0 t4_0 lx260 = r at hs ⊢
            unfold F_DR_add_c459
            exact hs.an
          · rw [if_neg z4]
            have hs := V_DR_store (x2 := x4) (t0_0 := lx39) (t0_1 := t0_1) (t0_2 := a254) (t0_3 := lx68) (t0_4 := 0) (t0_5 := lx150) (t0_6 := t0_6) (t0_7 := t0_7) (t0_8 := t0_8) (t0_9 := t0_9) (t0_10 := 2) (t5_0 := lx260) hD hx4 h150 hsz gA vA
            rw [hR2 z2 z3 z4] at hs
            generalize F_DR_store x4 lx39 t0_1 a254 lx68 0 lx150 t0_6 t0_7 t0_8 t0_9 2 t1_0 t2_0 t3_0 t4_0 lx260 = r at hs ⊢
            unfold F_DR_add_c459_13
            exact hs.an
    · have c2 := q_nleI c
      rw [if_neg c]
      have e1 : (lx258 + 1 : Int32).toInt = ((k + 1 : Nat) : Int) := by
        rw [q_addI (y := 1) hk rfl (by omega) (by omega)]
        omega
      have i1 : (a254 - 1 : Int32).toInt = (N : Int) - 1 := q_subI hN rfl (by omega) (by omega)
      have i2 : (a254 - 1 - lx258 : Int32).toInt = ((N - 1 - k : Nat) : Int) := by
        rw [q_subI i1 hk (by omega) (by omega)]
        omega
      have i2c := q_clI i2 (by omega)
      have ix : (a254 - 1 - lx258 : Int32).toNatClampNeg = N - 1 - k := by omega
      have fa := V_fig (x2 := lx203) (x3 := lx68) (x4 := lx258) (t0_0 := lx39) (t0_1 := t0_1) (t0_2 := t0_2) (t0_3 := t0_3) (t0_4 := t0_4) (t0_5 := t0_5) (t0_6 := t0_6) (t0_7 := t0_7) (t0_8 := t0_8) (t0_9 := t0_9) (t0_10 := 2) (t1_0 := t1_0) (t2_0 := t2_0) (t3_0 := t4_0) (d := dX) (k := k) hxa hD.1 ma.symm ⟨by omega, by omega⟩ ra.2.1 (by rw [ra.2.2.2.2.1]; exact hdX) (by omega) ⟨by omega, by omega⟩ hk (by omega)
      have fb := V_fig (x2 := lx218) (x3 := lx68) (x4 := lx258) (t0_0 := lx39) (t0_1 := t0_1) (t0_2 := t0_2) (t0_3 := t0_3) (t0_4 := t0_4) (t0_5 := t0_5) (t0_6 := t0_6) (t0_7 := t0_7) (t0_8 := t0_8) (t0_9 := t0_9) (t0_10 := 2) (t1_0 := t1_0) (t2_0 := t2_0) (t3_0 := t4_0) (d := dY) (k := k) hxb hD.1 mb.symm ⟨by omega, by omega⟩ rb.2.1 (by rw [rb.2.2.2.2.1]; exact hdY) (by omega) ⟨by omega, by omega⟩ hk (by omega)
      rw [← hX] at fa
      rw [← hY] at fb
      generalize F_DR_figure lx203 lx68 lx258 lx39 t0_1 t0_2 t0_3 t0_4 t0_5 t0_6 t0_7 t0_8 t0_9 2 t1_0 t2_0 t4_0 = A at fa ⊢
      generalize F_DR_figure lx218 lx68 lx258 lx39 t0_1 t0_2 t0_3 t0_4 t0_5 t0_6 t0_7 t0_8 t0_9 2 t1_0 t2_0 t4_0 = B at fb ⊢
      have a0 : 0 ≤ X / 10 ^ k % 10 := Int.emod_nonneg _ (by decide)
      have a9 : X / 10 ^ k % 10 < 10 := Int.emod_lt_of_pos _ (by decide)
      have b0 : 0 ≤ Y / 10 ^ k % 10 := Int.emod_nonneg _ (by decide)
      have b9 : Y / 10 ^ k % 10 < 10 := Int.emod_lt_of_pos _ (by decide)
      have key : ∀ (C : Int32), C.toInt = p * (Y / 10 ^ k % 10) → (-9 ≤ C.toInt ∧ C.toInt ≤ 9) → dAn x4 D (some (R, lx68.toInt)) lx39 2 (F_DR_add_J342 (F_DR_add_L296 x2 x3 x4 x5 t0_0 t0_1 t0_2 t0_3 t0_4 t0_5 t0_6 t0_7 t0_8 t0_9 t0_10 t1_0 t2_0 t3_0 t4_0 t5_0 lx39 lx68 lx91 lx114 lx150 lx173 lx188 lx203 lx218 lx236 a254 n) x2 x3 x4 x5 t0_0 t0_1 t0_2 t0_3 t0_4 t0_5 t0_6 t0_7 t0_8 t0_9 t0_10 t1_0 t2_0 t3_0 t4_0 t5_0 lx39 lx68 lx91 lx114 lx150 lx173 lx188 lx203 lx218 lx236 a254 lx258 lx259 lx260 A C).1 (F_DR_add_J342 (F_DR_add_L296 x2 x3 x4 x5 t0_0 t0_1 t0_2 t0_3 t0_4 t0_5 t0_6 t0_7 t0_8 t0_9 t0_10 t1_0 t2_0 t3_0 t4_0 t5_0 lx39 lx68 lx91 lx114 lx150 lx173 lx188 lx203 lx218 lx236 a254 n) x2 x3 x4 x5 t0_0 t0_1 t0_2 t0_3 t0_4 t0_5 t0_6 t0_7 t0_8 t0_9 t0_10 t1_0 t2_0 t3_0 t4_0 t5_0 lx39 lx68 lx91 lx114 lx150 lx173 lx188 lx203 lx218 lx236 a254 lx258 lx259 lx260 A C).2.2.2.2.2.2.2.2.2.2.2.1 (F_DR_add_J342 (F_DR_add_L296 x2 x3 x4 x5 t0_0 t0_1 t0_2 t0_3 t0_4 t0_5 t0_6 t0_7 t0_8 t0_9 t0_10 t1_0 t2_0 t3_0 t4_0 t5_0 lx39 lx68 lx91 lx114 lx150 lx173 lx188 lx203 lx218 lx236 a254 n) x2 x3 x4 x5 t0_0 t0_1 t0_2 t0_3 t0_4 t0_5 t0_6 t0_7 t0_8 t0_9 t0_10 t1_0 t2_0 t3_0 t4_0 t5_0 lx39 lx68 lx91 lx114 lx150 lx173 lx188 lx203 lx218 lx236 a254 lx258 lx259 lx260 A C).2.2.2.2.2.2.2.2.2.2.2.2.1 (F_DR_add_J342 (F_DR_add_L296 x2 x3 x4 x5 t0_0 t0_1 t0_2 t0_3 t0_4 t0_5 t0_6 t0_7 t0_8 t0_9 t0_10 t1_0 t2_0 t3_0 t4_0 t5_0 lx39 lx68 lx91 lx114 lx150 lx173 lx188 lx203 lx218 lx236 a254 n) x2 x3 x4 x5 t0_0 t0_1 t0_2 t0_3 t0_4 t0_5 t0_6 t0_7 t0_8 t0_9 t0_10 t1_0 t2_0 t3_0 t4_0 t5_0 lx39 lx68 lx91 lx114 lx150 lx173 lx188 lx203 lx218 lx236 a254 lx258 lx259 lx260 A C).2.2.2.2.2.2.2.2.2.2.2.2.2.1 (F_DR_add_J342 (F_DR_add_L296 x2 x3 x4 x5 t0_0 t0_1 t0_2 t0_3 t0_4 t0_5 t0_6 t0_7 t0_8 t0_9 t0_10 t1_0 t2_0 t3_0 t4_0 t5_0 lx39 lx68 lx91 lx114 lx150 lx173 lx188 lx203 lx218 lx236 a254 n) x2 x3 x4 x5 t0_0 t0_1 t0_2 t0_3 t0_4 t0_5 t0_6 t0_7 t0_8 t0_9 t0_10 t1_0 t2_0 t3_0 t4_0 t5_0 lx39 lx68 lx91 lx114 lx150 lx173 lx188 lx203 lx218 lx236 a254 lx258 lx259 lx260 A C).2.2.2.2.2.2.2.2.2.2.2.2.2.2.1 := fun C hC hC9 => by
        obtain ⟨w1, w2, w3⟩ := u_adV (a := A) (b := C) (c := lx259) (p := 0) (by omega) hC9 hc
        have step : ∀ (q d : Int32), q.toInt = (A.toInt + C.toInt + lx259.toInt) / 10 → d.toInt = (A.toInt + C.toInt + lx259.toInt) % 10 → (∀ i, N - (k + 1) ≤ i → i < N → 0 ≤ (upd lx260 (N - 1 - k) d i).toInt ∧ (upd lx260 (N - 1 - k) d i).toInt ≤ 9) ∧ (-1 ≤ q.toInt ∧ q.toInt ≤ 1) ∧ uV (fun i => upd lx260 (N - 1 - k) d (i + (N - (k + 1)))) (k + 1) + q.toInt * 10 ^ (k + 1) = X % 10 ^ (k + 1) + p * (Y % 10 ^ (k + 1)) := fun q d hq hd => by
          refine ⟨fun i j1 j2 => ?_, by omega, ?_⟩
          · by_cases ci : i = N - 1 - k
            · rw [ci, v_eq, hd]
              omega
            · rw [v_ne ci]
              exact hg i (by omega) j2
          · have ej : N - (k + 1) = N - 1 - k := by omega
            have ex : ∀ i, i < k → (fun i => upd lx260 (N - 1 - k) d (i + (N - 1 - k + 1))) i = (fun i => lx260 (i + (N - k))) i := fun i _ => by
              show upd lx260 (N - 1 - k) d (i + (N - 1 - k + 1)) = lx260 (i + (N - k))
              rw [v_ne (by omega), show i + (N - 1 - k + 1) = i + (N - k) by omega]
            rw [ej, u_lst, v_eq, u_ext ex, u_modS (X := X), u_modS (X := Y), u_pw]
            exact u_adI hv (by rw [← hC, ← fa]) (by rw [hq, hd]; omega)
        unfold F_DR_add_J342
        rw [ix]
        by_cases d : (0 : Int32) ≤ (A + C + lx259 : Int32)
        · have d2 := q_leI d
          have z0 : (0 : Int32).toInt = 0 := rfl
          rw [if_pos d]
          obtain ⟨k1, k2, k3⟩ := step _ _ (w3 (by omega)) w2
          exact ih _ _ _ (k + 1) e1 (by omega) (by omega) k1 k2 k3
        · have d2 := q_nleI d
          have z0 : (0 : Int32).toInt = 0 := rfl
          rw [if_neg d]
          obtain ⟨k1, k2, k3⟩ := step (-1) _ (by have zz : (-1 : Int32).toInt = -1 := rfl; rw [zz]; omega) w2
          exact ih _ _ _ (k + 1) e1 (by omega) (by omega) k1 k2 k3
      rcases hp with ⟨p1, p2⟩ | ⟨p1, p2⟩
      · rw [if_pos p1]
        have nb : (-B : Int32).toInt = -B.toInt := by
          rw [Int32.toInt_neg, Int.bmod_eq_of_le (by omega) (by omega)]
        exact key (-B) (by rw [nb, fb, p2]; omega) (by rw [nb]; omega)
      · rw [if_neg p1]
        exact key B (by rw [fb, p2]; omega) (by omega)
