/-! values, for whole: limb k of a register's endless row (reference) -/
theorem w_not16 {x : Int32} (hx : 0 ≤ x.toInt ∧ x.toInt < 65536) : ((x ^^^ (-1)) &&& 65535 : Int32).toInt = 65535 - x.toInt := by
  have h1 := v_natI (x := x) hx.1
  have e1 : (-1 : Int32).toBitVec = BitVec.allOnes 32 := by decide
  have h2 : ((x ^^^ (-1)) &&& 65535 : Int32).toBitVec.toNat = (2 ^ 32 - 1 - x.toBitVec.toNat) % 65536 := by
    rw [Int32.toBitVec_and, BitVec.toNat_and, Int32.toBitVec_xor, e1, BitVec.xor_allOnes, BitVec.toNat_not]
    exact Nat.and_two_pow_sub_one_eq_mod _ 16
  have h3 := w_toI h2 (by omega)
  omega
theorem w_not16m {x : Int32} (hx : 0 ≤ x.toInt ∧ x.toInt < 65536) : (((x - 1) ^^^ (-1)) &&& 65535 : Int32).toInt = (65536 - x.toInt) % 65536 := by
  have e1 := v_e1
  by_cases h : x.toInt = 0
  · have h2 : x = 0 := Int32.toInt_inj.mp h
    rw [h2]
    decide
  · have h3 := q_subI (a := x) (b := 1) rfl e1 (by omega) (by omega)
    rw [w_not16 (by omega), h3]
    omega
theorem w_modP {f : Nat → Int32} {n j : Nat} (ho : wO f n) (hj : j ≤ n) : wV f n % 65536 ^ j = wV f j := by
  obtain ⟨d, rfl⟩ : ∃ d, n = j + d := ⟨n - j, by omega⟩
  have h1 := w_split (f := f) (p := j) (n := d)
  have h4 : 0 ≤ wV f j := w_nn (ho.mono (by omega))
  have h5 : wV f j < 65536 ^ j := w_lt (ho.mono (by omega))
  rw [h1, Int.add_mul_emod_self_left, Int.emod_eq_of_lt h4 h5]
/-- the limbs below j are all 0, or not -/
def wBo (f : Nat → Int32) (j : Nat) (b : Int32) : Prop := (b = 1 ∧ ∀ i, i < j → f i = 0) ∨ (b = 0 ∧ ∃ i, i < j ∧ f i ≠ 0)
theorem wBo.v {f : Nat → Int32} {j n : Nat} {b : Int32} (h : wBo f j b) (ho : wO f n) (hj : j ≤ n) : (b = 1 ∧ wV f n % 65536 ^ j = 0) ∨ (b = 0 ∧ wV f n % 65536 ^ j ≠ 0) := by
  rw [w_modP ho hj]
  rcases h with ⟨a, h⟩ | ⟨a, i, h1, h2⟩
  · refine Or.inl ⟨a, ?_⟩
    rw [w_zer (k := 0) (by omega) (fun i _ hi => h i hi)]
    rfl
  · refine Or.inr ⟨a, fun h9 => ?_⟩
    have := w_ge (ho.mono hj) h1 h2
    have := w_pos i
    omega
theorem w_dnL {A P : Int} (hA : 0 ≤ A) (hP : 0 < P) : (-A) / P % 65536 = if A % P = 0 then (65536 - A / P % 65536) % 65536 else 65535 - A / P % 65536 := by
  obtain ⟨a, rfl⟩ : ∃ a : Nat, A = (a : Int) := ⟨A.toNat, by omega⟩
  obtain ⟨p, rfl⟩ : ∃ p : Nat, P = (p : Int) := ⟨P.toNat, by omega⟩
  have h := w_dn (A := a) (P := p) (by omega)
  have e1 : (a : Int) % (p : Int) = ((a % p : Nat) : Int) := (Int.natCast_emod a p).symm
  have e2 : (a : Int) / (p : Int) = ((a / p : Nat) : Int) := (Int.natCast_ediv a p).symm
  rw [h, e1, e2]
  by_cases c : a % p = 0
  · rw [if_pos c, if_pos (by omega)]
    omega
  · rw [if_neg c, if_neg (by omega)]
    omega
theorem V_lbJ {K_F_WR_limb_L38 : Int32 → Int32 → Int32} {x2 : Int32} {x3 : Int32} {t0_0 : Int32} {t0_1 : Int32} {t0_2 : Int32} {t0_3 : Int32} {t0_4 : Int32} {t0_5 : Int32} {t0_6 : Int32} {t1_0 : (Nat → Int32)} {t2_0 : (Nat → Int32)} {lx28 : Int32} {lx29 : Int32} {A : Int} {k j : Nat} (hx2 : 0 ≤ x2.toInt ∧ x2.toInt ≤ 10) (ho : wO t1_0 1408) (hA : wVk t1_0 x2 = A) (hA0 : 0 < A) (hk : x3.toInt = (k : Int)) (hj : j = if k ≤ 128 then k else 128) (hb : wBo (fun i => t1_0 (128 * x2.toNatClampNeg + i)) j lx29) : (F_WR_limb_J84 K_F_WR_limb_L38 x2 x3 t0_0 t0_1 t0_2 t0_3 t0_4 t0_5 t0_6 t1_0 t2_0 lx28 lx29).toInt = (-A) / 65536 ^ k % 65536 := by
  have e128 : (128 : Int32).toInt = 128 := rfl
  have hc := q_clI (i := x2) rfl hx2.1
  have ok : wO (fun i => t1_0 (128 * x2.toNatClampNeg + i)) 128 := fun i hi => ho _ (by omega)
  have hAv : wV (fun i => t1_0 (128 * x2.toNatClampNeg + i)) 128 = A := hA
  have hlt := (wVk_nn hx2 ho).2
  rw [hA] at hlt
  have hbv := hb.v ok (by rw [hj]; split <;> omega)
  rw [hAv] at hbv
  have hp := w_pos k
  have hJ : ∀ l : Int32, 0 ≤ l.toInt ∧ l.toInt < 65536 → l.toInt = A / 65536 ^ k % 65536 → (F_WR_limb_J107 K_F_WR_limb_L38 x2 x3 t0_0 t0_1 t0_2 t0_3 t0_4 t0_5 t0_6 t1_0 t2_0 lx28 lx29 l).toInt = (-A) / 65536 ^ k % 65536 := fun l h1 h2 => by
    have hz : (A % 65536 ^ k = 0 ↔ A % 65536 ^ j = 0) := by
      by_cases c : k ≤ 128
      · rw [hj, if_pos c]
      · have l1 : (65536 : Int) ^ 128 ≤ 65536 ^ k := w_pwle (by omega)
        rw [hj, if_neg c, Int.emod_eq_of_lt (by omega) hlt, Int.emod_eq_of_lt (by omega) (by omega)]
    rw [w_dnL (by omega) hp, ← h2]
    unfold F_WR_limb_J107
    rcases hbv with ⟨b1, b2⟩ | ⟨b1, b2⟩
    · rw [if_pos (hz.mpr b2), if_neg (by rw [b1]; decide)]
      exact w_not16m h1
    · rw [if_neg (fun h => b2 (hz.mp h)), if_pos b1]
      exact w_not16 h1
  unfold F_WR_limb_J84
  by_cases c : 128 ≤ x3
  · rw [if_pos c]
    have c2 := q_leI c
    have l1 : (65536 : Int) ^ 128 ≤ 65536 ^ k := w_pwle (by omega)
    refine hJ 0 ⟨by decide, by decide⟩ ?_
    rw [Int.ediv_eq_zero_of_lt (by omega) (by omega)]
    rfl
  · rw [if_neg c]
    have c2 := q_nleI c
    have ix := (w_ix (x := x2) (k := x3) hx2 (by omega)).2
    have kc := q_clI hk (by omega)
    rw [ix, show x3.toNatClampNeg = k by omega]
    have l1 := w_limD (j := k) ok (by omega)
    rw [hAv] at l1
    exact hJ _ (ok k (by omega)) l1
theorem V_lbL {x2 : Int32} {x3 : Int32} {t0_0 : Int32} {t0_1 : Int32} {t0_2 : Int32} {t0_3 : Int32} {t0_4 : Int32} {t0_5 : Int32} {t0_6 : Int32} {t1_0 : (Nat → Int32)} {t2_0 : (Nat → Int32)} {A : Int} {k : Nat} (hx2 : 0 ≤ x2.toInt ∧ x2.toInt ≤ 10) (ho : wO t1_0 1408) (hA : wVk t1_0 x2 = A) (hA0 : 0 < A) (hk : x3.toInt = (k : Int)) : ∀ (n : Nat) (lx28 : Int32) (lx29 : Int32), ∀ j : Nat, lx28.toInt = (j : Int) → j ≤ k → j ≤ 128 → 128 - j < n → wBo (fun i => t1_0 (128 * x2.toNatClampNeg + i)) j lx29 → (F_WR_limb_L38 x2 x3 t0_0 t0_1 t0_2 t0_3 t0_4 t0_5 t0_6 t1_0 t2_0 n lx28 lx29).toInt = (-A) / 65536 ^ k % 65536 := by
  have e1 := v_e1
  have e128 : (128 : Int32).toInt = 128 := rfl
  intro n
  induction n with
  | zero => intros; omega
  | succ n ih =>
    intro lx28 lx29 j hj hjk hj2 hjn hb
    rw [F_WR_limb_L38.eq_2]
    by_cases c : x3 ≤ lx28
    · rw [if_pos c]
      have c2 := q_leI c
      have jk : j = k := by omega
      exact V_lbJ hx2 ho hA hA0 hk (by rw [if_pos (by omega)]; exact jk) hb
    · rw [if_neg c]
      have c2 := q_nleI c
      by_cases d : 128 ≤ lx28
      · rw [if_pos d]
        have d2 := q_leI d
        exact V_lbJ hx2 ho hA hA0 hk (by rw [if_neg (by omega)]; omega) hb
      · rw [if_neg d]
        have d2 := q_nleI d
        have ix := (w_ix (x := x2) (k := lx28) hx2 (by omega)).2
        have jc := q_clI hj (by omega)
        rw [ix, show lx28.toNatClampNeg = j by omega]
        have ej : (lx28 + 1 : Int32).toInt = ((j + 1 : Nat) : Int) := by
          rw [q_addI hj e1 (by omega) (by omega)]
          omega
        by_cases o : lx29 = 0
        · rw [if_pos o]
          refine ih _ _ (j + 1) ej (by omega) (by omega) (by omega) ?_
          rcases hb with ⟨b1, _⟩ | ⟨_, i, b1, b2⟩
          · rw [o] at b1
            exact absurd b1 (by decide)
          · exact Or.inr ⟨rfl, i, by omega, b2⟩
        · rw [if_neg o]
          have hz : ∀ i, i < j → (fun i => t1_0 (128 * x2.toNatClampNeg + i)) i = 0 := by
            rcases hb with ⟨_, b⟩ | ⟨b, _⟩
            · exact b
            · exact absurd b o
          by_cases z : t1_0 (128 * x2.toNatClampNeg + j) = 0
          · rw [if_pos z]
            refine ih _ _ (j + 1) ej (by omega) (by omega) (by omega) (Or.inl ⟨rfl, fun i hi => ?_⟩)
            by_cases e : i = j
            · rw [e]
              exact z
            · exact hz i (by omega)
          · rw [if_neg z]
            exact ih _ _ (j + 1) ej (by omega) (by omega) (by omega) (Or.inr ⟨rfl, j, by omega, z⟩)
theorem V_limb {x2 : Int32} {x3 : Int32} {t0_0 : Int32} {t0_1 : Int32} {t0_2 : Int32} {t0_3 : Int32} {t0_4 : Int32} {t0_5 : Int32} {t0_6 : Int32} {t1_0 : (Nat → Int32)} {t2_0 : (Nat → Int32)} {W : Nat → Int} {k : Nat} (hr : wRv t1_0 t2_0 W) (hx2 : 0 ≤ x2.toInt ∧ x2.toInt ≤ 10) (hk : x3.toInt = (k : Int)) : (F_WR_limb x2 x3 t0_0 t0_1 t0_2 t0_3 t0_4 t0_5 t0_6 t1_0 t2_0).toInt = W x2.toNatClampNeg / 65536 ^ k % 65536 := by
  have e0 : (0 : Int32).toInt = 0 := rfl
  have e128 : (128 : Int32).toInt = 128 := rfl
  have hc := q_clI (i := x2) rfl hx2.1
  have ok : wO (fun i => t1_0 (128 * x2.toNatClampNeg + i)) 128 := fun i hi => hr.1 _ (by omega)
  have hb := wVk_nn hx2 hr.1
  have A := hr.2 x2.toNatClampNeg (by omega)
  have ka : wVi t1_0 x2.toNatClampNeg = wVk t1_0 x2 := rfl
  rw [ka] at A
  unfold F_WR_limb
  by_cases c : t2_0 x2.toNatClampNeg = 0
  · rw [if_pos c]
    have hW : W x2.toNatClampNeg = wVk t1_0 x2 := by
      rcases A with ⟨_, a⟩ | ⟨a, _⟩
      · exact a
      · rw [c] at a
        exact absurd a (by decide)
    rw [hW]
    by_cases d : 128 ≤ x3
    · rw [if_pos d]
      have d2 := q_leI d
      have l1 : (65536 : Int) ^ 128 ≤ 65536 ^ k := w_pwle (by omega)
      rw [Int.ediv_eq_zero_of_lt hb.1 (by omega)]
      rfl
    · rw [if_neg d]
      have d2 := q_nleI d
      have ix := (w_ix (x := x2) (k := x3) hx2 (by omega)).2
      have kc := q_clI hk (by omega)
      rw [ix, show x3.toNatClampNeg = k by omega]
      exact w_limD (j := k) ok (by omega)
  · rw [if_neg c]
    obtain ⟨h1, h2⟩ : 0 < wVk t1_0 x2 ∧ W x2.toNatClampNeg = -wVk t1_0 x2 := by
      rcases A with ⟨a, _⟩ | ⟨_, a, b⟩
      · exact absurd a c
      · exact ⟨a, b⟩
    rw [h2]
    exact V_lbL hx2 hr.1 rfl h1 hk _ _ _ 0 e0 (by omega) (by omega) (by rw [e0]; omega) (Or.inl ⟨rfl, fun i hi => by omega⟩)
