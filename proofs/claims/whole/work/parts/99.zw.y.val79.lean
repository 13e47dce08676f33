/-! values, for whole: the reference's combine -/
theorem w_nat16 {x : Int32} (hx : 0 ≤ x.toInt ∧ x.toInt < 65536) : x.toBitVec.toNat = x.toInt.toNat ∧ x.toInt.toNat < 65536 := by
  have h1 := v_natI (x := x) hx.1
  omega
theorem opN_lt {h x y : Nat} (hx : x < 65536) (hy : y < 65536) : opN h x y < 65536 := by
  unfold opN
  split
  · exact Nat.lt_of_le_of_lt Nat.and_le_left hx
  · split
    · exact Nat.or_lt_two_pow (n := 16) hx hy
    · split
      · exact Nat.xor_lt_two_pow (n := 16) hx hy
      · exact Nat.lt_of_le_of_lt Nat.and_le_left hx
theorem w_op0 {p q : Int32} (hp : 0 ≤ p.toInt ∧ p.toInt < 65536) (hq : 0 ≤ q.toInt ∧ q.toInt < 65536) : (p &&& q : Int32).toInt = ((opN 0 p.toInt.toNat q.toInt.toNat : Nat) : Int) := by
  have a := w_nat16 hp
  have b := w_nat16 hq
  have l := opN_lt (h := 0) a.2 b.2
  refine w_toI ?_ (by omega)
  rw [Int32.toBitVec_and, BitVec.toNat_and, a.1, b.1]
  rfl
theorem w_op1 {p q : Int32} (hp : 0 ≤ p.toInt ∧ p.toInt < 65536) (hq : 0 ≤ q.toInt ∧ q.toInt < 65536) : (p ||| q : Int32).toInt = ((opN 1 p.toInt.toNat q.toInt.toNat : Nat) : Int) := by
  have a := w_nat16 hp
  have b := w_nat16 hq
  have l := opN_lt (h := 1) a.2 b.2
  refine w_toI ?_ (by omega)
  rw [Int32.toBitVec_or, BitVec.toNat_or, a.1, b.1]
  rfl
theorem w_op2 {p q : Int32} (hp : 0 ≤ p.toInt ∧ p.toInt < 65536) (hq : 0 ≤ q.toInt ∧ q.toInt < 65536) : (p ^^^ q : Int32).toInt = ((opN 2 p.toInt.toNat q.toInt.toNat : Nat) : Int) := by
  have a := w_nat16 hp
  have b := w_nat16 hq
  have l := opN_lt (h := 2) a.2 b.2
  refine w_toI ?_ (by omega)
  rw [Int32.toBitVec_xor, BitVec.toNat_xor, a.1, b.1]
  rfl
theorem w_op3 {p q : Int32} (hp : 0 ≤ p.toInt ∧ p.toInt < 65536) (hq : 0 ≤ q.toInt ∧ q.toInt < 65536) : (p &&& (q ^^^ (-1)) : Int32).toInt = ((opN 3 p.toInt.toNat q.toInt.toNat : Nat) : Int) := by
  have a := w_nat16 hp
  have b := w_nat16 hq
  have l := opN_lt (h := 3) a.2 b.2
  have e1 : (-1 : Int32).toBitVec = BitVec.allOnes 32 := by decide
  have e : (p &&& (q ^^^ (-1)) : Int32).toBitVec = p.toBitVec &&& (p.toBitVec ^^^ q.toBitVec) := by
    rw [Int32.toBitVec_and, Int32.toBitVec_xor, e1, BitVec.xor_allOnes]
    apply BitVec.eq_of_getLsbD_eq
    intro i hi
    rw [BitVec.getLsbD_and, BitVec.getLsbD_and, BitVec.getLsbD_xor, BitVec.getLsbD_not, decide_eq_true hi]
    cases p.toBitVec.getLsbD i <;> cases q.toBitVec.getLsbD i <;> rfl
  refine w_toI ?_ (by omega)
  rw [e, BitVec.toNat_and, BitVec.toNat_xor, a.1, b.1]
  rfl
theorem opN_s {h x y : Nat} (hx : x = 0 ∨ x = 65535) (hy : y = 0 ∨ y = 65535) : opN h x y = 0 ∨ opN h x y = 65535 := by
  rcases hx with rfl | rfl <;> rcases hy with rfl | rfl <;> simp only [opN] <;> (repeat' split) <;> decide
theorem w_sgn {A : Int} {k : Nat} (hA : -(65536 ^ 128) ≤ A ∧ A < 65536 ^ 128) (hk : 128 ≤ k) : A / 65536 ^ k % 65536 = if A < 0 then 65535 else 0 := by
  by_cases c : A < 0
  · rw [if_pos c]
    have h := n_lbHi (L := A + 65536 ^ 128) (B := 65536) (s := 1) (n := 128) (k := k) (by decide) (by omega) (by omega) (Or.inr rfl) hk
    rw [Int.one_mul, Int.add_sub_cancel] at h
    exact h
  · rw [if_neg c]
    have l1 : (65536 : Int) ^ 128 ≤ 65536 ^ k := w_pwle hk
    rw [Int.ediv_eq_zero_of_lt (by omega) (by omega)]
    rfl
def wMx (h : Nat) (A B : Int) (f : Nat → Int32) (k : Nat) : Prop := wO f 264 ∧ (∀ i, i < k → (f i).toInt = ((opN h (A / 65536 ^ i % 65536).toNat (B / 65536 ^ i % 65536).toNat : Nat) : Int)) ∧ (∀ i, k ≤ i → i < 264 → f i = 0)
theorem w_mix {A B : Int} {h : Nat} {f : Nat → Int32} (hA : -(65536 ^ 128) ≤ A ∧ A < 65536 ^ 128) (hB : -(65536 ^ 128) ≤ B ∧ B < 65536 ^ 128) (hm : wMx h A B f 129) : ((f 128).toInt = 0 ∧ sMix h A B = wV f 264) ∨ ((f 128).toInt = 65535 ∧ sMix h A B = wV f 264 - 65536 ^ 129 ∧ wV f 264 = wV f 129 ∧ 65535 * 65536 ^ 128 ≤ wV f 129 ∧ wV f 129 < 65536 ^ 129) := by
  obtain ⟨ho, hf, hz⟩ := hm
  have e16 : (2 : Int) ^ 16 = 65536 := rfl
  have eL : wV f 264 = wV f 129 := w_zer (by omega) hz
  have hL0 : 0 ≤ wV f 264 := w_nn ho
  have hL1 : wV f 264 < 65536 ^ 129 := by
    rw [eL]
    exact w_lt (ho.mono (by omega))
  have h9 := hf 128 (by omega)
  rw [w_sgn hA (Nat.le_refl _), w_sgn hB (Nat.le_refl _)] at h9
  have key : ∀ s : Int, (s = 0 ∨ s = 1) → (f 128).toInt = s * 65535 → sMix h A B = wV f 264 - s * 65536 ^ 129 := by
    intro s hs h8
    rw [h8] at h9
    apply sMix_limb (e := 16) (by decide)
    intro k
    rw [e16]
    by_cases hk : k < 129
    · rw [n_lbLo (by decide) hk, ← w_limD ho (by omega), hf k hk, Int.toNat_natCast]
    · rw [n_lbHi (by decide) hL0 hL1 hs (by omega), w_sgn hA (by omega), w_sgn hB (by omega)]
      generalize opN h _ _ = o at h9 ⊢
      omega
  have tn : ∀ C : Int, (if C < 0 then (65535 : Int) else 0).toNat = 0 ∨ (if C < 0 then (65535 : Int) else 0).toNat = 65535 := fun C => by
    split
    · exact Or.inr rfl
    · exact Or.inl rfl
  rcases opN_s (h := h) (tn A) (tn B) with o | o
  · rw [o] at h9
    refine Or.inl ⟨h9, ?_⟩
    rw [key 0 (Or.inl rfl) (by omega)]
    omega
  · rw [o] at h9
    have h9' : (f 128).toInt = 65535 := h9
    refine Or.inr ⟨h9', ?_, eL, ?_, by omega⟩
    · rw [key 1 (Or.inr rfl) (by omega)]
      omega
    · have hn := w_nn (ho.mono (show 128 ≤ 264 by omega))
      show _ ≤ wV f 128 + (f 128).toInt * 65536 ^ 128
      rw [h9']
      omega
def QV_cb (W : Nat → Int) (x4 : Int32) (v : Int) (p : Int32 × Int32 × Int32 × Int32 × Int32 × Int32 × Int32 × (Nat → Int32) × (Nat → Int32) × (Nat → Int32) × (Nat → Int32)) : Prop := wAn x4 W (some v) p.1 p.2.2.2.2.2.2.2.1 p.2.2.2.2.2.2.2.2.1
theorem w_wb {k m : Nat → Int32} {W : Nat → Int} {x : Int32} (hr : wRv k m W) (hx : 0 ≤ x.toInt ∧ x.toInt ≤ 10) : -(65536 ^ 128) ≤ W x.toNatClampNeg ∧ W x.toNatClampNeg < 65536 ^ 128 := by
  have h1 := (hr.sg hx).2
  have h2 := wVk_nn hx hr.1
  rw [h1]
  unfold sgI
  split <;> omega
theorem V_cbN {K : Int32 → (Nat → Int32) → (Int32 × Int32 × Int32 × Int32 × Int32 × Int32 × Int32 × (Nat → Int32) × (Nat → Int32) × (Nat → Int32) × (Nat → Int32))} {x2 x3 x4 x5 t0_0 t0_1 t0_2 t0_3 t0_4 t0_5 t0_6 : Int32} {t1_0 t2_0 t3_0 t4_0 : Nat → Int32} {lx33 lx61 : Int32} {lx62 : Nat → Int32} {lx81 : Int32} {W : Nat → Int} {s : Int} (hr : wRv t1_0 t2_0 W) (hx4 : 0 ≤ x4.toInt ∧ x4.toInt ≤ 10) (h33 : lx33 = 0) (h81 : lx81 = 1) (ho : wO lx62 264) (hL : wV lx62 264 = wV lx62 129) (hge : 65535 * 65536 ^ 128 ≤ wV lx62 129) (hlt : wV lx62 129 < 65536 ^ 129) (hs : s = wV lx62 264 - 65536 ^ 129) : ∀ (n : Nat) (lx146 : Int32) (lx147 : Nat → Int32), ∀ j : Nat, lx146.toInt = (j : Int) → j ≤ 129 → 129 - j < n → wO lx147 264 → wV lx147 264 = wV lx62 264 + 65536 ^ j - 1 - 2 * wV lx62 j → (∀ i, j ≤ i → i < 264 → lx147 i = lx62 i) → QV_cb W x4 s (F_WR_combine_L183 K x2 x3 x4 x5 t0_0 t0_1 t0_2 t0_3 t0_4 t0_5 t0_6 t1_0 t2_0 t3_0 t4_0 lx33 lx61 lx62 lx81 n lx146 lx147) := by
  have e1 := v_e1
  have e128 : (128 : Int32).toInt = 128 := rfl
  intro n
  induction n with
  | zero => intros; omega
  | succ n ih =>
    intro lx146 lx147 j hj hj2 hjn o7 hv hi
    rw [F_WR_combine_L183.eq_2]
    by_cases c : (128 : Int32) < lx146
    · rw [if_pos c]
      have c2 := q_ltI c
      have j9 : j = 129 := by omega
      rw [j9] at hv
      have p8 := w_pw 128
      obtain ⟨v, hvn⟩ : ∃ v : Nat, wV lx147 264 = (v : Int) := ⟨(wV lx147 264).toNat, (Int.toNat_of_nonneg (w_nn o7)).symm⟩
      have hvb : v < 2 ^ 2048 := by
        have e := w_2048
        apply Int.ofNat_lt.mp
        rw [← e, ← hvn]
        generalize (65536 : Int) ^ 128 = P at *
        generalize (65536 : Int) ^ 129 = R at *
        omega
      have k1 : wK 1 (F_WR_setOne 264 lx33 2 t0_2 lx81 t0_4 t0_5 t0_6 t4_0) := R_setOne.2
      generalize F_WR_setOne 264 lx33 2 t0_2 lx81 t0_4 t0_5 t0_6 t4_0 = g1 at k1 ⊢
      have k2 : wK ((v + 1 : Nat) : Int) (F_WR_join 264 264 1 1 0 lx147 g1) := w_inc ⟨o7, hvn⟩ hvb k1
      generalize F_WR_join 264 264 1 1 0 lx147 g1 = g2 at k2 ⊢
      have k3 : wSv x4 W ((v + 1 : Nat) : Int) lx33 2 lx81 (F_WR_store x4 lx33 2 t0_2 lx81 t0_4 t0_5 t0_6 t1_0 t2_0 g2) := (R_storeV hx4 hr k2).2
      generalize F_WR_store x4 lx33 2 t0_2 lx81 t0_4 t0_5 t0_6 t1_0 t2_0 g2 = p9 at k3 ⊢
      have k4 : sgI lx81 ((v + 1 : Nat) : Int) = s := by
        rw [h81, sgI, if_neg (by decide), hs]
        generalize (65536 : Int) ^ 129 = R at *
        omega
      unfold F_WR_combine_c240_6 QV_cb
      exact wAn_st k3 h33 rfl k4 (Int.natCast_nonneg _)
    · rw [if_neg c]
      have c2 := q_nltI c
      have ix : lx146.toNatClampNeg = j := by
        have := q_clI hj (by omega)
        omega
      rw [ix, hi j (Nat.le_refl _) (by omega)]
      have hb := ho j (by omega)
      have z := w_not16 hb
      have ej : (lx146 + 1 : Int32).toInt = ((j + 1 : Nat) : Int) := by
        rw [q_addI hj e1 (by omega) (by omega)]
        omega
      refine ih _ _ (j + 1) ej (by omega) (by omega) (wO_upd o7 (by rw [z]; omega)) ?_ (fun i i1 i2 => ?_)
      · rw [w_upd (by omega), hv, z, hi j (Nat.le_refl _) (by omega), w_pw, Int.sub_mul, Int.sub_mul]
        show _ = _ - 2 * (wV lx62 j + (lx62 j).toInt * 65536 ^ j)
        omega
      · rw [v_ne (by omega)]
        exact hi i (by omega) i2
theorem V_cbL {x2 x3 x4 x5 t0_0 t0_1 t0_2 t0_3 t0_4 t0_5 t0_6 : Int32} {t1_0 t2_0 t3_0 t4_0 : Nat → Int32} {lx33 : Int32} {W : Nat → Int} {h : Nat} (hr : wRv t1_0 t2_0 W) (hx2 : 0 ≤ x2.toInt ∧ x2.toInt ≤ 10) (hx3 : 0 ≤ x3.toInt ∧ x3.toInt ≤ 10) (hx4 : 0 ≤ x4.toInt ∧ x4.toInt ≤ 10) (h5 : x5.toInt = (h : Int)) (hh : h ≤ 3) (h33 : lx33 = 0) : ∀ (n : Nat) (lx61 : Int32) (lx62 : Nat → Int32), ∀ k : Nat, lx61.toInt = (k : Int) → k ≤ 129 → 129 - k < n → wMx h (W x2.toNatClampNeg) (W x3.toNatClampNeg) lx62 k → QV_cb W x4 (sMix h (W x2.toNatClampNeg) (W x3.toNatClampNeg)) (F_WR_combine_L64 x2 x3 x4 x5 t0_0 t0_1 t0_2 t0_3 t0_4 t0_5 t0_6 t1_0 t2_0 t3_0 t4_0 lx33 n lx61 lx62) := by
  have e1 := v_e1
  have e0 : (0 : Int32).toInt = 0 := rfl
  have e2 : (2 : Int32).toInt = 2 := rfl
  have e128 : (128 : Int32).toInt = 128 := rfl
  have n128 : (128 : Int32).toNatClampNeg = 128 := rfl
  have e32 : (32768 : Int32).toInt = 32768 := rfl
  intro n
  induction n with
  | zero => intros; omega
  | succ n ih =>
    intro lx61 lx62 k hk hk2 hkn hm
    rw [F_WR_combine_L64.eq_2]
    by_cases c : (128 : Int32) < lx61
    · rw [if_pos c, n128]
      have c2 := q_ltI c
      rw [show k = 129 by omega] at hm
      have mx := w_mix (w_wb hr hx2) (w_wb hr hx3) hm
      by_cases d : lx62 128 < 32768
      · rw [if_pos d]
        have d2 := q_ltI d
        obtain ⟨m1, m2⟩ : (lx62 128).toInt = 0 ∧ sMix h (W x2.toNatClampNeg) (W x3.toNatClampNeg) = wV lx62 264 := by
          rcases mx with m | m
          · exact m
          · omega
        unfold F_WR_combine_J170
        rw [if_pos rfl]
        unfold F_WR_combine_c240 QV_cb
        exact wAn_st (R_storeV hx4 hr ⟨hm.1, rfl⟩).2 h33 rfl (by rw [sgI0, m2]) (w_nn hm.1)
      · rw [if_neg d]
        have d2 := q_nltI d
        obtain ⟨m1, m2, m3, m4, m5⟩ : (lx62 128).toInt = 65535 ∧ sMix h (W x2.toNatClampNeg) (W x3.toNatClampNeg) = wV lx62 264 - 65536 ^ 129 ∧ wV lx62 264 = wV lx62 129 ∧ 65535 * 65536 ^ 128 ≤ wV lx62 129 ∧ wV lx62 129 < 65536 ^ 129 := by
          rcases mx with m | m
          · omega
          · exact m
        unfold F_WR_combine_J170
        rw [if_neg (by decide)]
        refine V_cbN hr hx4 h33 rfl hm.1 m3 m4 m5 m2 _ _ _ 0 e0 (by omega) (by rw [e0]; omega) hm.1 ?_ (fun _ _ _ => rfl)
        show _ = _ + 1 - 1 - 2 * 0
        omega
    · rw [if_neg c]
      have c2 := q_nltI c
      have ix : lx61.toNatClampNeg = k := by
        have := q_clI hk (by omega)
        omega
      have la := V_limb (x2 := x2) (x3 := lx61) (t0_0 := lx33) (t0_1 := 2) (t0_2 := t0_2) (t0_3 := t0_3) (t0_4 := t0_4) (t0_5 := t0_5) (t0_6 := t0_6) hr hx2 hk
      have lb := V_limb (x2 := x3) (x3 := lx61) (t0_0 := lx33) (t0_1 := 2) (t0_2 := t0_2) (t0_3 := t0_3) (t0_4 := t0_4) (t0_5 := t0_5) (t0_6 := t0_6) hr hx3 hk
      generalize F_WR_limb x2 lx61 lx33 2 t0_2 t0_3 t0_4 t0_5 t0_6 t1_0 t2_0 = p at la ⊢
      generalize F_WR_limb x3 lx61 lx33 2 t0_2 t0_3 t0_4 t0_5 t0_6 t1_0 t2_0 = q at lb ⊢
      have hp : 0 ≤ p.toInt ∧ p.toInt < 65536 := by omega
      have hq : 0 ≤ q.toInt ∧ q.toInt < 65536 := by omega
      have ej : (lx61 + 1 : Int32).toInt = ((k + 1 : Nat) : Int) := by
        rw [q_addI hk e1 (by omega) (by omega)]
        omega
      have step : ∀ z : Int32, z.toInt = ((opN h p.toInt.toNat q.toInt.toNat : Nat) : Int) → QV_cb W x4 (sMix h (W x2.toNatClampNeg) (W x3.toNatClampNeg)) (F_WR_combine_L64 x2 x3 x4 x5 t0_0 t0_1 t0_2 t0_3 t0_4 t0_5 t0_6 t1_0 t2_0 t3_0 t4_0 lx33 n (lx61 + 1) (upd lx62 lx61.toNatClampNeg z)) := by
        intro z hz
        have hl := opN_lt (h := h) (w_nat16 hp).2 (w_nat16 hq).2
        rw [ix]
        refine ih _ _ (k + 1) ej (by omega) (by omega) ⟨wO_upd hm.1 (by rw [hz]; omega), fun i hi => ?_, fun i i1 i2 => ?_⟩
        · by_cases e : i = k
          · rw [e, v_eq, hz, la, lb]
          · rw [v_ne e]
            exact hm.2.1 i (by omega)
        · rw [v_ne (by omega)]
          exact hm.2.2 i (by omega) i2
      by_cases a0 : x5 = 0
      · rw [if_pos a0]
        rw [a0] at h5
        refine step _ ?_
        rw [show h = 0 by omega]
        exact w_op0 hp hq
      · rw [if_neg a0]
        have n0 : ¬ h = 0 := fun e => a0 (Int32.toInt_inj.mp (by omega))
        by_cases a1 : x5 = 1
        · rw [if_pos a1]
          rw [a1] at h5
          refine step _ ?_
          rw [show h = 1 by omega]
          exact w_op1 hp hq
        · rw [if_neg a1]
          have n1 : ¬ h = 1 := fun e => a1 (Int32.toInt_inj.mp (by omega))
          by_cases a2 : x5 = 2
          · rw [if_pos a2]
            rw [a2] at h5
            refine step _ ?_
            rw [show h = 2 by omega]
            exact w_op2 hp hq
          · rw [if_neg a2]
            have n2 : ¬ h = 2 := fun e => a2 (Int32.toInt_inj.mp (by omega))
            refine step _ ?_
            rw [show h = 3 by omega]
            exact w_op3 hp hq
theorem V_WR_combine {x2 x3 x4 x5 t0_0 t0_1 t0_2 t0_3 t0_4 t0_5 t0_6 : Int32} {t1_0 t2_0 t3_0 t4_0 : Nat → Int32} {W : Nat → Int} {h : Nat} (hr : wRv t1_0 t2_0 W) (hx2 : 0 ≤ x2.toInt ∧ x2.toInt ≤ 10) (hx3 : 0 ≤ x3.toInt ∧ x3.toInt ≤ 10) (hx4 : 0 ≤ x4.toInt ∧ x4.toInt ≤ 10) (h5 : x5.toInt = (h : Int)) (hh : h ≤ 3) : QV_cb W x4 (sMix h (W x2.toNatClampNeg) (W x3.toNatClampNeg)) (F_WR_combine x2 x3 x4 x5 t0_0 t0_1 t0_2 t0_3 t0_4 t0_5 t0_6 t1_0 t2_0 t3_0 t4_0) := by
  have e0 : (0 : Int32).toInt = 0 := rfl
  have e3 : (3 : Int32).toInt = 3 := rfl
  unfold F_WR_combine
  rw [if_pos (w_no0 hx2), if_pos (w_no0 hx3), if_pos (w_no0 hx4), if_neg (fun c => by have := q_ltI c; omega), if_pos (Int32.le_iff_toInt_le.mpr (by omega))]
  unfold F_WR_combine_J38
  rw [if_pos (by decide)]
  exact V_cbL hr hx2 hx3 hx4 h5 hh rfl _ _ _ 0 e0 (by omega) (by rw [e0]; omega) ⟨R_clear4.1, fun i hi => by omega, fun i _ hi => R_clear (by decide) (by decide) i (by show (i : Int) < 264; omega)⟩
