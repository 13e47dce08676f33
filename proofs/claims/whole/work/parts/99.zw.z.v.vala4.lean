/-! values, for whole: the class's Floats: nearest -/
/-- a format: its three numbers, and P, T, l -/
def yF (A B C : Int32) (P T : Nat) (l : Int) : Prop := (A = 52 ∧ B = 1075 ∧ C = 2047 ∧ P = 52 ∧ T = 2047 ∧ l = -1074) ∨ (A = 23 ∧ B = 150 ∧ C = 255 ∧ P = 23 ∧ T = 255 ∧ l = -149)
theorem yF.n {A B C : Int32} {P T : Nat} {l : Int} (h : yF A B C P T l) : A.toInt = (P : Int) ∧ B.toInt = 1 - l ∧ C.toInt = (T : Int) ∧ (23 ≤ P ∧ P ≤ 52) ∧ (255 ≤ T ∧ T ≤ 2047) ∧ (-1074 ≤ l ∧ l ≤ -149) ∧ T * 2 ^ P < 9223372036854775808 := by
  rcases h with ⟨rfl, rfl, rfl, rfl, rfl, rfl⟩ | ⟨rfl, rfl, rfl, rfl, rfl, rfl⟩ <;> exact ⟨by decide, by decide, by decide, by decide, by decide, by decide, by decide⟩
theorem yF.sh {A B C : Int32} {P T : Nat} {l : Int} (h : yF A B C P T l) {x : Int64} {n : Nat} (hx : x.toInt = (n : Int)) (hn : n * 2 ^ P < 9223372036854775808) : (x <<< (A.toInt64 &&& 63)).toInt = ((n * 2 ^ P : Nat) : Int) := by
  rcases h with ⟨rfl, rfl, rfl, rfl, rfl, rfl⟩ | ⟨rfl, rfl, rfl, rfl, rfl, rfl⟩
  · exact fx_shl hx (by decide) (by decide) hn
  · exact fx_shl hx (by decide) (by decide) hn
theorem y_or1 {y b : Int64} {k e : Nat} (hy : y.toInt = ((2 * k : Nat) : Int)) (hb : b.toInt = (e : Int)) (he : e ≤ 1) : (y ||| b).toInt = ((2 * k + e : Nat) : Int) := by
  have e1 := s_nnL (x := y) (by omega)
  have e2 := s_nnL (x := b) (by omega)
  have hi : y.toInt < 9223372036854775808 := Int64.toInt_lt y
  have n1 : y.toBitVec.toNat = 2 * k := by omega
  have n2 : b.toBitVec.toNat = e := by omega
  have n3 : (y ||| b).toBitVec.toNat = 2 * k + e := by
    rw [Int64.toBitVec_or, BitVec.toNat_or, n1, n2]
    exact (Nat.two_pow_add_eq_or_of_lt (i := 1) (b := e) (by omega) k).symm
  exact s_ofL n3 (by omega)
theorem y_bit01 {R x s n : Int32} {f : Nat → Int32} : F_Big_bit R x s n f = 0 ∨ F_Big_bit R x s n f = 1 := by
  unfold F_Big_bit
  generalize ((F_Big_limb R (x / 31) s n f).toUInt32 >>> ((x - x / 31 * 31 : Int32).toUInt32 &&& Int32.toUInt32 31)).toInt32 = z
  have h : (z &&& 1).toBitVec.toNat = z.toBitVec.toNat % 2 := by
    rw [Int32.toBitVec_and, BitVec.toNat_and]
    exact Nat.and_one_is_mod _
  have h2 : z.toBitVec.toNat % 2 = 0 ∨ z.toBitVec.toNat % 2 = 1 := by omega
  rcases h2 with c | c
  · refine Or.inl (Int32.toBitVec_inj.mp (BitVec.eq_of_toNat_eq ?_))
    rw [h, c]
    rfl
  · refine Or.inr (Int32.toBitVec_inj.mp (BitVec.eq_of_toNat_eq ?_))
    rw [h, c]
    rfl
theorem y_d2 {V i : Nat} : V / 2 ^ i = 2 * (V / 2 ^ (i + 1)) + V / 2 ^ i % 2 := by
  rw [Nat.pow_succ, ← Nat.div_div_eq_div_mul]
  omega
/-- bit i of V, in the bits of v -/
def yB (v : Nat) (s : Int) (V : Nat) : Prop := ∀ i : Nat, V / 2 ^ i % 2 = (if 0 ≤ s + i then v / 2 ^ (s + i).toNat % 2 else 0)
theorem yB_p {v s : Nat} : yB v s (v / 2 ^ s) := fun i => by
  rw [if_pos (by omega), show ((s : Int) + i).toNat = s + i by omega, Nat.div_div_eq_div_mul, ← Nat.pow_add]
theorem yB_n {v s : Nat} : yB v (-(s : Int)) (v * 2 ^ s) := fun i => by
  by_cases c : s ≤ i
  · obtain ⟨j, rfl⟩ : ∃ j, i = s + j := ⟨i - s, by omega⟩
    rw [if_pos (by omega), show (-(s : Int) + ((s + j : Nat) : Int)).toNat = j by omega, Nat.pow_add, ← Nat.div_div_eq_div_mul, Nat.mul_div_cancel _ (Nat.pow_pos (by decide))]
  · obtain ⟨j, rfl⟩ : ∃ j, s = i + (j + 1) := ⟨s - i - 1, by omega⟩
    rw [if_neg (by omega), Nat.pow_add, Nat.mul_comm (2 ^ i), ← Nat.mul_assoc, Nat.mul_div_cancel _ (Nat.pow_pos (by decide)), Nat.pow_succ, ← Nat.mul_assoc]
    exact Nat.mul_mod_left _ _
/-- what the last steps of nearest stand on: V is the value in units of 2 ^ q, t twice that -/
def QV_ne (P T : Nat) (l : Int) (N D : Nat) (y : Int64) : Prop := ∃ b : Nat, y.toInt = (b : Int) ∧ yfRnd P T l N D b
theorem y_neE {P T : Nat} {l q : Int} {N D t : Nat} {A B C a82 : Int32} {y : Int64} {up : Nat} (hF : yF A B C P T l) (hS : yfS P l N D q) (hq : q < T - 1 + l) (ha : a82.toInt = q) (ht : yfT (q - 1) N D = t) (hu : yfUp t (yfR (q - 1) N D) = up) (hy : y.toInt = (up : Int)) : QV_ne P T l N D ((((a82 + B : Int32) - 1 : Int32).toInt64 <<< (A.toInt64 &&& 63)) + y) := by
  obtain ⟨f1, f2, f3, f4, f5, f6, f7⟩ := hF.n
  obtain ⟨s1, s2, s3⟩ := hS
  have i1 : (a82 + B : Int32).toInt = q + (1 - l) := q_addI ha f2 (by omega) (by omega)
  have i2 : (a82 + B - 1 : Int32).toInt = q - l := by
    rw [q_subI (y := 1) i1 (by decide) (by omega) (by omega)]
    omega
  have i3 : (a82 + B - 1 : Int32).toInt64.toInt = (((q - l).toNat : Nat) : Int) := by
    rw [q_i2l i2]
    omega
  rw [ht] at s2
  have u1 : up ≤ 2 ^ (P + 1) := by
    rw [← hu]
    have p2 : 2 ^ (P + 2) = 2 ^ (P + 1) * 2 := Nat.pow_succ _ _
    unfold yfUp
    split <;> omega
  have p3 : 2 ^ (P + 1) = 2 ^ P * 2 := Nat.pow_succ _ _
  have b1 : (q - l).toNat * 2 ^ P + up ≤ T * 2 ^ P := by
    have : (q - l).toNat * 2 ^ P ≤ (T - 2) * 2 ^ P := Nat.mul_le_mul_right _ (by omega)
    have e : T * 2 ^ P = (T - 2) * 2 ^ P + 2 * 2 ^ P := by
      rw [← Nat.add_mul, show T - 2 + 2 = T by omega]
    omega
  have i4 := hF.sh i3 (by omega)
  refine ⟨(q - l).toNat * 2 ^ P + up, ?_, q, ⟨s1, by rw [ht]; exact s2, s3⟩, ?_⟩
  · rw [q_addL i4 hy (by omega) (by omega)]
    omega
  · rw [ht, hu, Nat.min_eq_right b1]
theorem y_lcE {a b : Int64} : lg_cmp a b = 0 ↔ a.toInt = b.toInt := by
  unfold lg_cmp
  constructor
  · intro h
    by_cases c : a > b
    · rw [if_pos c] at h
      exact absurd h (by decide)
    · rw [if_neg c] at h
      by_cases d : a = b
      · rw [d]
      · rw [if_neg d] at h
        exact absurd h (by decide)
  · intro h
    have e : a = b := Int64.toInt_inj.mp h
    rw [e, if_neg (fun h => absurd h (Int64.lt_irrefl)), if_pos rfl]
theorem y_and1 {x : Int64} {n : Nat} (h : x.toInt = (n : Int)) : (x &&& 1).toInt = ((n % 2 : Nat) : Int) := by
  have e1 := s_nnL (x := x) (by omega)
  have n1 : x.toBitVec.toNat = n := by omega
  have n3 : (x &&& 1).toBitVec.toNat = n % 2 := by
    rw [Int64.toBitVec_and, BitVec.toNat_and, n1]
    exact Nat.and_one_is_mod _
  exact s_ofL n3 (by omega)
theorem V_nearL {A : Int32} {B : Int32} {C : Int32} {R2 : Int32} {x3 : Int64} {x4 : Int32} {t0_0 : Int32} {t0_1 : Int32} {t1_0 : (Nat → Int32)} {a89 : Int32} {a82 : Int32} {P T : Nat} {l q s : Int} {N D v t V : Nat} {w : Int} (hF : yF A B C P T l) (hS : yfS P l N D q) (hq : q < T - 1 + l) (ha : a82.toInt = q) (hs : a89.toInt = s) (hsb : -10000 ≤ s ∧ s ≤ 10000) (hv : bO R2 t0_0 t0_1 t1_0 w) (hw : w.natAbs = v) (v0 : v ≠ 0) (hV : V = t / 2) (ht : yfT (q - 1) N D = t) (hB : yB v s V) (h4 : x4 = 0 ∨ x4 = 1) (hhf : (s ≤ 0 → t % 2 = 0) ∧ (0 < s → t = v / 2 ^ (s - 1).toNat)) (hrs : 0 < s → (yfR (q - 1) N D = 0 ↔ (x4 = 0 ∧ v % 2 ^ (s - 1).toNat = 0))) : ∀ (n : Nat) (lx96 : Int32) (lx97 : Int64), ∀ i : Nat, lx96.toInt + 1 = (i : Int) → i < n → i ≤ P + 2 → lx97.toInt = ((V / 2 ^ i : Nat) : Int) → QV_ne P T l N D (F_Flo_nearest_L102 A B C R2 x3 x4 t0_0 t0_1 t1_0 a89 a82 n lx96 lx97) := by
  obtain ⟨f1, f2, f3, f4, f5, f6, f7⟩ := hF.n
  have VB : V < 2 ^ 53 := by
    have h2 := hS.2.1
    rw [ht] at h2
    have p2 : 2 ^ (P + 2) = 2 ^ (P + 1) * 2 := Nat.pow_succ _ _
    have : 2 ^ (P + 1) ≤ 2 ^ 53 := Nat.pow_le_pow_right (by decide) (by omega)
    omega
  intro n
  induction n with
  | zero =>
    intro lx96 lx97 i h0 h1
    omega
  | succ n ih =>
    intro lx96 lx97 i h0 h1 h2 h3
    have e0 : (0 : Int32).toInt = 0 := rfl
    rw [F_Flo_nearest_L102.eq_2]
    by_cases g1 : lx96 < (0 : Int32)
    · rw [if_pos g1]
      have g2 := q_ltI g1
      obtain rfl : i = 0 := by omega
      rw [Nat.pow_zero, Nat.div_one] at h3
      -- the end without a half
      have flat : t % 2 = 0 → ∀ KK, QV_ne P T l N D (F_Flo_nearest_J187 KK A B C R2 x3 x4 t0_0 t0_1 t1_0 a89 a82 lx96 lx97 0 0) ∧ QV_ne P T l N D (F_Flo_nearest_J187 KK A B C R2 x3 x4 t0_0 t0_1 t1_0 a89 a82 lx96 lx97 0 1) := fun hz KK => by
        have hu : yfUp t (yfR (q - 1) N D) = V := by
          unfold yfUp
          rw [if_neg (by omega), hV]
          rfl
        unfold F_Flo_nearest_J187
        rw [if_pos rfl, if_pos rfl]
        exact ⟨y_neE hF hS hq ha ht hu h3, y_neE hF hS hq ha ht hu h3⟩
      have f163 : t % 2 = 0 → ∀ KK, QV_ne P T l N D (F_Flo_nearest_J163 KK A B C R2 x3 x4 t0_0 t0_1 t1_0 a89 a82 lx96 lx97) := fun hz KK => by
        unfold F_Flo_nearest_J163 F_Flo_nearest_J164 F_Flo_nearest_J182
        split
        · split
          · exact (flat hz _).1
          · exact (flat hz _).2
        · exact (flat hz _).2
      by_cases g3 : a89 ≤ (0 : Int32)
      · rw [if_pos g3]
        have g4 := q_leI g3
        exact f163 (hhf.1 (by omega)) _
      · rw [if_neg g3]
        have g4 := q_nleI g3
        have sp : 0 < s := by omega
        have th := hhf.2 sp
        have i1 : (a89 - 1 : Int32).toInt = (((s - 1).toNat : Nat) : Int) := by
          rw [q_subI (y := 1) hs (by decide) (by omega) (by omega)]
          omega
        have hb := W_bit hv i1
        rw [hw, ← th] at hb
        by_cases g5 : F_Big_bit R2 (a89 - 1) t0_0 t0_1 t1_0 = 1
        · rw [if_pos g5]
          have todd := hb.mp g5
          have rE := hrs sp
          obtain ⟨z, k, z1, z2, z3⟩ := W_lowE hv (by omega)
          rw [hw] at z3
          have lowE : v % 2 ^ (s - 1).toNat = 0 ↔ (s - 1).toNat ≤ z := by
            constructor
            · intro h
              rcases Nat.lt_or_ge z (s - 1).toNat with c | c
              · exfalso
                obtain ⟨d, hd⟩ : ∃ d, (s - 1).toNat = z + (d + 1) := ⟨(s - 1).toNat - z - 1, by omega⟩
                rw [hd, Nat.pow_add] at h
                have h' := (yn_mod.mp h).2
                rw [z3, Nat.mul_div_cancel_left _ (Nat.pow_pos (by decide)), Nat.pow_succ, Nat.mul_comm (2 ^ d) 2] at h'
                have h'' := (yn_mod.mp h').1
                omega
              · exact c
            · intro h
              obtain ⟨d, hd⟩ : ∃ d, z = (s - 1).toNat + d := ⟨z - (s - 1).toNat, by omega⟩
              rw [z3, hd, Nat.pow_add, Nat.mul_assoc]
              exact Nat.mul_mod_right _ _
          -- the end with a half
          have j208 : (yfR (q - 1) N D ≠ 0 ∨ t / 2 % 2 = 1) → ∀ KK b, QV_ne P T l N D (F_Flo_nearest_J208 KK A B C R2 x3 x4 t0_0 t0_1 t1_0 a89 a82 lx96 lx97 1 b) := fun hr KK b => by
            have hu : yfUp t (yfR (q - 1) N D) = V + 1 := by
              unfold yfUp
              rw [if_pos ⟨todd, hr⟩, hV]
            unfold F_Flo_nearest_J208
            refine y_neE hF hS hq ha ht hu ?_
            rw [q_addL (y := 1) h3 (by decide) (by omega) (by omega)]
            omega
          have j182 : yfR (q - 1) N D ≠ 0 → ∀ KK, QV_ne P T l N D (F_Flo_nearest_J182 KK A B C R2 x3 x4 t0_0 t0_1 t1_0 a89 a82 lx96 lx97 1) := fun hr KK => by
            unfold F_Flo_nearest_J182 F_Flo_nearest_J187
            rw [if_neg (show ¬ (1 : Int32) = 0 by decide), if_neg (show ¬ (1 : Int32) = 0 by decide)]
            exact j208 (Or.inl hr) _ _
          unfold F_Flo_nearest_J164
          by_cases g6 : x4 = 0
          · rw [if_pos g6]
            by_cases g7 : (a89 - 1 : Int32) ≤ F_Big_lowestOne R2 t0_0 t0_1 t1_0
            · rw [if_pos g7]
              have g8 := q_leI g7
              have r0 : yfR (q - 1) N D = 0 := rE.mpr ⟨g6, lowE.mpr (by omega)⟩
              unfold F_Flo_nearest_J187
              rw [if_neg (show ¬ (1 : Int32) = 0 by decide), if_pos rfl]
              have od := y_and1 h3
              by_cases g9 : lg_cmp (lx97 &&& 1) 1 = 0
              · rw [if_pos g9]
                have g10 := y_lcE.mp g9
                rw [od, show (1 : Int64).toInt = 1 from rfl] at g10
                exact j208 (Or.inr (by omega)) _ _
              · rw [if_neg g9]
                have g10 : ¬ V % 2 = 1 := fun h => g9 (y_lcE.mpr (by rw [od, h]; rfl))
                have hu : yfUp t (yfR (q - 1) N D) = V := by
                  unfold yfUp
                  rw [if_neg (fun h => h.2.elim (fun h => h r0) (fun h => g10 (by rw [hV]; exact h))), hV]
                  rfl
                exact y_neE hF hS hq ha ht hu h3
            · rw [if_neg g7]
              have g8 := q_nleI g7
              exact j182 (fun h => by
                have := lowE.mp (rE.mp h).2
                omega) _
          · rw [if_neg g6]
            exact j182 (fun h => g6 (rE.mp h).1) _
        · rw [if_neg g5]
          exact f163 (by
            have : ¬ t % 2 = 1 := fun h => g5 (hb.mpr h)
            omega) _
    · rw [if_neg g1]
      have g2 := q_nltI g1
      obtain ⟨j, rfl⟩ : ∃ j, i = j + 1 := ⟨i - 1, by omega⟩
      have a1 : (a89 + lx96 : Int32).toInt = s + (j : Int) := q_addI hs (show lx96.toInt = (j : Int) by omega) (by omega) (by omega)
      have b1 := hB j
      have b2 := y_d2 (V := V) (i := j)
      have V2 : V / 2 ^ (j + 1) ≤ V := Nat.div_le_self _ _
      have c1 : (lx97 <<< ((1 : Int32).toInt64 &&& 63)).toInt = ((2 * (V / 2 ^ (j + 1)) : Nat) : Int) := by
        rw [fx_shl (k := 1) h3 (by decide) (by decide) (by omega)]
        omega
      have b3 : j < n := by omega
      have b4 : j ≤ P + 2 := by omega
      have e1 : (lx96 + (-1) : Int32).toInt + 1 = (j : Int) := by
        rw [q_addI (x := lx96.toInt) (y := (-1)) rfl (by decide) (by omega) (by omega)]
        omega
      generalize lx96 + (-1) = lx at e1 ⊢
      by_cases g3 : (a89 + lx96 : Int32) < 0
      · rw [if_pos g3]
        have g4 := q_ltI g3
        rw [if_neg (by omega)] at b1
        refine ih _ _ j e1 b3 b4 ?_
        rw [y_or1 (e := 0) c1 rfl (by omega)]
        omega
      · rw [if_neg g3]
        have g4 := q_nltI g3
        rw [if_pos (by omega)] at b1
        have hb := W_bit (k := (s + j).toNat) hv (by rw [a1]; omega)
        rw [hw, ← b1] at hb
        refine ih _ _ j e1 b3 b4 ?_
        rcases y_bit01 (R := R2) (x := a89 + lx96) (s := t0_0) (n := t0_1) (f := t1_0) with z | z
        · rw [z, y_or1 (e := 0) c1 rfl (by omega)]
          have : ¬ V / 2 ^ j % 2 = 1 := fun h => by
            rw [hb.mpr h] at z
            exact absurd z (by decide)
          omega
        · have := hb.mp z
          rw [z, y_or1 (e := 1) c1 rfl (by omega)]
          omega
theorem y_max {a b : Int64} : (F_jMath_max_JJJ a b).toInt = max a.toInt b.toInt := by
  unfold F_jMath_max_JJJ
  by_cases c : lg_cmp a b < 0
  · have := g_lc1 c
    rw [if_pos c]
    omega
  · have := g_lc2 c
    rw [if_neg c]
    omega
theorem y_bl0 {R s n : Int32} {f : Nat → Int32} {v : Int} (h : bO R s n f v) (hv : v = 0) : F_Big_bitLength R s n f = 0 := by
  unfold F_Big_bitLength
  rw [if_pos (h.nil.mpr hv)]
/-- the bits of v * 2 ^ p, or of a little more -/
theorem V_nearest {A : Int32} {B : Int32} {C : Int32} {R2 : Int32} {x3 : Int64} {x4 : Int32} {t0_0 : Int32} {t0_1 : Int32} {t1_0 : (Nat → Int32)} {P T : Nat} {l p : Int} {N D v : Nat} {w : Int} (hF : yF A B C P T l) (hv : bO R2 t0_0 t0_1 t1_0 w) (hw : w.natAbs = v) (hp : x3.toInt = p) (hpb : -4000000000000 ≤ p ∧ p ≤ 4000000000000) (h4 : x4 = 0 ∨ x4 = 1) (hT : yfT p N D = v) (hR : yfR p N D = 0 ↔ x4 = 0) (hb : x4 = 0 ∨ 2 ^ (P + 2) ≤ v) (hD : 0 < D) : QV_ne P T l N D (F_Flo_nearest A B C R2 x3 x4 t0_0 t0_1 t1_0) := by
  obtain ⟨f1, f2, f3, f4, f5, f6, f7⟩ := hF.n
  have e0 : (0 : Int32).toInt = 0 := rfl
  have e3000 : (-3000 : Int64).toInt = -3000 := rfl
  obtain ⟨b, b1, b2, b3, b4⟩ := W_blen hv
  rw [hw] at b3 b4
  unfold F_Flo_nearest
  have bl0 : v = 0 → F_Big_bitLength R2 t0_0 t0_1 t1_0 = 0 := fun h => y_bl0 hv (by omega)
  generalize F_Big_bitLength R2 t0_0 t0_1 t1_0 = bl at b1 bl0 ⊢
  by_cases g0 : bl = 0
  · rw [if_pos g0]
    rw [g0, e0] at b1
    have v0 : v = 0 := by
      rcases Nat.eq_zero_or_pos v with c | c
      · exact c
      · have := (b4 (by omega)).1
        omega
    have x0 : x4 = 0 := hb.resolve_right (by
      have : 0 < 2 ^ (P + 2) := Nat.pow_pos (by decide)
      omega)
    have r0 := hR.mpr x0
    refine ⟨0, rfl, ?_⟩
    refine yfRnd_s ?_
    rcases Int.le_total (l - 1) p with c | c
    · have := (yf_ex (q := l - 1) (k := (p - (l - 1)).toNat) (N := N) (D := D) (by rw [show l - 1 + ((p - (l - 1)).toNat : Int) = p by omega]; exact r0)).1
      rw [this, show l - 1 + ((p - (l - 1)).toNat : Int) = p by omega, hT, v0, Nat.zero_mul]
    · have := (yf_add (q := p) (k := (l - 1 - p).toNat) (N := N) (D := D)).1
      rw [show p + ((l - 1 - p).toNat : Int) = l - 1 by omega] at this
      rw [this, hT, v0, Nat.zero_div]
  rw [if_neg g0]
  have vn : v ≠ 0 := fun h => g0 (bl0 h)
  obtain ⟨b5, b6⟩ := b4 (by omega)
  have i1 : bl.toInt64.toInt = (b : Int) := q_i2l b1
  have i2 : (bl.toInt64 + x3 : Int64).toInt = (b : Int) + p := q_addL i1 hp (by omega) (by omega)
  -- t for a unit above p
  have tP : ∀ k : Nat, yfT (p + k) N D = v / 2 ^ k := fun k => by
    rw [yf_add.1, hT]
  by_cases g1 : 0 ≤ lg_cmp (bl.toInt64 + x3) (-3000)
  · rw [if_pos g1]
    have g2 := g_lc5 g1
    have i3 : (bl.toInt64 + x3 - A.toInt64 : Int64).toInt = (b : Int) + p - (P : Int) := q_subL i2 (q_i2l f1) (by omega) (by omega)
    have i4 : (bl.toInt64 + x3 - A.toInt64 - 1 : Int64).toInt = (b : Int) + p - (P : Int) - 1 := q_subL (y := 1) i3 rfl (by omega) (by omega)
    have i5 : (C - B : Int32).toInt = (T : Int) - (1 - l) := q_subI f3 f2 (by omega) (by omega)
    have i6 : (1 - B : Int32).toInt = l := by
      rw [q_subI (x := 1) rfl f2 (by omega) (by omega)]
      omega
    generalize bl.toInt64 + x3 - A.toInt64 - 1 = ww at i4 ⊢
    clear i3
    by_cases g3 : lg_cmp ww (C - B).toInt64 < 0
    · rw [if_pos g3]
      have g4 := g_lc1 g3
      rw [i4, q_i2l i5] at g4
      have m1 := y_max (a := ww) (b := (1 - B : Int32).toInt64)
      rw [i4, q_i2l i6] at m1
      generalize F_jMath_max_JJJ ww (1 - B : Int32).toInt64 = mx at m1 ⊢
      obtain ⟨q, hq⟩ : ∃ q, max ((b : Int) + p - (P : Int) - 1) l = q := ⟨_, rfl⟩
      rw [hq] at m1
      have qb : -2000 ≤ q ∧ q ≤ 3000 := by omega
      have m2 : mx.toInt32.toInt = q := by
        rw [s_l2i (by omega) (by omega), m1]
      have m3 : (mx.toInt32.toInt64 - x3 : Int64).toInt = q - p := q_subL (q_i2l m2) hp (by omega) (by omega)
      have m4 : ((mx.toInt32.toInt64 - x3 : Int64).toInt32).toInt = q - p := by
        rw [s_l2i (by omega) (by omega), m3]
      generalize mx.toInt32 = a82 at m2 m3 m4 ⊢
      generalize (a82.toInt64 - x3 : Int64).toInt32 = a89 at m4 ⊢
      have i7 : (A + 1 : Int32).toInt = (P : Int) + 1 := q_addI (y := 1) f1 rfl (by omega) (by omega)
      -- what the unit q does
      have p2 : 2 ^ (P + 2) = 2 ^ (P + 1) * 2 := Nat.pow_succ _ _
      have key : ∃ t V : Nat, yfT (q - 1) N D = t ∧ V = t / 2 ∧ yB v (q - p) V ∧ ((q - p ≤ 0 → t % 2 = 0) ∧ (0 < q - p → t = v / 2 ^ (q - p - 1).toNat)) ∧ (0 < q - p → (yfR (q - 1) N D = 0 ↔ (x4 = 0 ∧ v % 2 ^ (q - p - 1).toNat = 0))) ∧ t < 2 ^ (P + 2) ∧ (q = l ∨ 2 ^ (P + 1) ≤ t) := by
        rcases Int.lt_or_le p q with c | c
        · obtain ⟨k, hk⟩ : ∃ k : Nat, q - 1 = p + k := ⟨(q - 1 - p).toNat, by omega⟩
          have kk : (q - p - 1).toNat = k := by omega
          have ts : yfT (q - 1) N D = v / 2 ^ k := by
            rw [hk]
            exact tP k
          have rs := (yf_add (q := p) (k := k) (N := N) (D := D)).2
          rw [← hk, hR, hT] at rs
          refine ⟨_, _, ts, rfl, ?_, ⟨fun h => by omega, fun _ => by rw [kk]⟩, fun _ => by rw [kk]; exact rs, ?_, ?_⟩
          · have e : v / 2 ^ k / 2 = v / 2 ^ (k + 1) := by
              rw [Nat.pow_succ, Nat.div_div_eq_div_mul]
            rw [e, show q - p = ((k + 1 : Nat) : Int) by omega]
            exact yB_p
          · refine (Nat.div_lt_iff_lt_mul (Nat.pow_pos (by decide))).mpr ?_
            rw [← Nat.pow_add]
            exact Nat.lt_of_lt_of_le b3 (Nat.pow_le_pow_right (by decide) (by omega))
          · rcases Int.lt_or_le l q with d | d
            · refine Or.inr ((Nat.le_div_iff_mul_le (Nat.pow_pos (by decide))).mpr ?_)
              rw [← Nat.pow_add]
              exact Nat.le_trans (Nat.pow_le_pow_right (by decide) (by omega)) b6
            · exact Or.inl (by omega)
        · have x0 : x4 = 0 := by
            rcases hb with h | h
            · exact h
            · exfalso
              have h1 := Nat.lt_of_le_of_lt h b3
              have h2 := (Nat.pow_lt_pow_iff_right (a := 2) (by decide)).mp h1
              omega
          have r0 := hR.mpr x0
          obtain ⟨k, hk⟩ : ∃ k : Nat, p = q - 1 + ((k + 1 : Nat) : Int) := ⟨(p - q).toNat, by omega⟩
          have ts := (yf_ex (q := q - 1) (k := k + 1) (N := N) (D := D) (by rw [← hk]; exact r0)).1
          rw [← hk, hT] at ts
          have ev : v * 2 ^ (k + 1) = 2 * (v * 2 ^ k) := by
            rw [Nat.pow_succ]
            ac_rfl
          refine ⟨_, _, ts, rfl, ?_, ⟨fun _ => by rw [ev]; exact Nat.mul_mod_right _ _, fun h => by omega⟩, fun h => by omega, ?_, ?_⟩
          · rw [ev, Nat.mul_div_cancel_left _ (by decide), show q - p = -(k : Int) by omega]
            exact yB_n
          · refine Nat.lt_of_lt_of_le ((Nat.mul_lt_mul_right (Nat.pow_pos (by decide))).mpr b3) ?_
            rw [← Nat.pow_add]
            exact Nat.pow_le_pow_right (by decide) (by omega)
          · rcases Int.lt_or_le l q with d | d
            · refine Or.inr (Nat.le_trans ?_ (Nat.mul_le_mul_right _ b6))
              rw [← Nat.pow_add]
              exact Nat.pow_le_pow_right (by decide) (by omega)
            · exact Or.inl (by omega)
      obtain ⟨t, V, k1, k2, k3, k4, k5, k6, k7⟩ := key
      refine V_nearL (q := q) (s := q - p) (v := v) (t := t) (V := V) hF ⟨by omega, by rw [k1]; exact k6, by rw [k1]; exact k7⟩ (by omega) m2 m4 ⟨by omega, by omega⟩ hv hw vn k2 k1 k3 h4 k4 k5 _ (A + 1) 0 (P + 2) (by omega) (by omega) (by omega) ?_
      rw [Nat.div_eq_of_lt (by omega)]
      rfl
    · rw [if_neg g3]
      have g4 := g_lc2 g3
      rw [i4, q_i2l i5] at g4
      unfold F_Flo_infinity
      refine ⟨T * 2 ^ P, hF.sh (q_i2l f3) f7, ?_⟩
      -- the unit T - 1 + l is small enough
      have p2 : 2 ^ (P + 1) ≤ yfT (T - 1 + l - 1) N D := by
        rcases Int.le_total p (T - 1 + l - 1) with c | c
        · have := tP (T - 1 + l - 1 - p).toNat
          rw [show p + ((T - 1 + l - 1 - p).toNat : Int) = T - 1 + l - 1 by omega] at this
          rw [this]
          refine (Nat.le_div_iff_mul_le (Nat.pow_pos (by decide))).mpr ?_
          rw [← Nat.pow_add]
          exact Nat.le_trans (Nat.pow_le_pow_right (by decide) (by omega)) b6
        · have := (yf_add (q := (T : Int) - 1 + l - 1) (k := (p - (T - 1 + l - 1)).toNat) (N := N) (D := D)).1
          rw [show (T : Int) - 1 + l - 1 + ((p - (T - 1 + l - 1)).toNat : Int) = p by omega, hT] at this
          have h5 : 2 ^ (b - 1) ≤ yfT (T - 1 + l - 1) N D / 2 ^ (p - (T - 1 + l - 1)).toNat := by
            rw [← this]
            exact b6
          have h6 := (Nat.le_div_iff_mul_le (Nat.pow_pos (by decide))).mp h5
          rw [← Nat.pow_add] at h6
          exact Nat.le_trans (Nat.pow_le_pow_right (by decide) (by omega)) h6
      exact yfRnd_i (e := T - 1 + l) (by omega) (by omega) p2
  · rw [if_neg g1]
    have g2 := g_lc6 g1
    refine ⟨0, rfl, yfRnd_s ?_⟩
    have := tP (l - 1 - p).toNat
    rw [show p + ((l - 1 - p).toNat : Int) = l - 1 by omega] at this
    rw [this]
    refine Nat.div_eq_of_lt (Nat.lt_of_lt_of_le b3 (Nat.pow_le_pow_right (by decide) (by omega)))
