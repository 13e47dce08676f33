/-! values, for whole: the reference's DecimalRows: cut -/
def QV_cut (R sc : Int) (N : Nat) (a0 a1 b a6 a7 a8 a9 a10 : Int32) (p : Int32 × Int32 × Int32 × Int32 × Int64 × Int32 × Int32 × Int32 × Int32 × Int32 × Int32 × Int32 × (Nat → Int32)) : Prop := p.1 = 1 ∧ p.2.1 = a0 ∧ p.2.2.1 = a1 ∧ (p.2.2.2.1.toInt = (N : Int) ∨ (p.2.2.2.1.toInt = (N : Int) + 1 ∧ R = 10 ^ N)) ∧ p.2.2.2.2.1.toInt = sc ∧ p.2.2.2.2.2.1 = 0 ∧ p.2.2.2.2.2.2.1 = b ∧ p.2.2.2.2.2.2.2.1 = a6 ∧ p.2.2.2.2.2.2.2.2.1 = a7 ∧ p.2.2.2.2.2.2.2.2.2.1 = a8 ∧ p.2.2.2.2.2.2.2.2.2.2.1 = a9 ∧ p.2.2.2.2.2.2.2.2.2.2.2.1 = a10 ∧ gO p.2.2.2.2.2.2.2.2.2.2.2.2 p.2.2.2.1.toNatClampNeg ∧ uV p.2.2.2.2.2.2.2.2.2.2.2.2 p.2.2.2.1.toNatClampNeg = R
theorem V_cuL1 {K_F_DR_cut_L64 : Int32 → Int32 → (Nat → Int32) → (Int32 × Int32 × Int32 × Int32 × Int64 × Int32 × Int32 × Int32 × Int32 × Int32 × Int32 × Int32 × (Nat → Int32))} {x2 : Int32} {x3 : Int32} {t0_0 : Int32} {t0_1 : Int32} {t0_2 : Int32} {t0_3 : Int64} {t0_4 : Int32} {t0_5 : Int32} {t0_6 : Int32} {t0_7 : Int32} {t0_8 : Int32} {t0_9 : Int32} {t0_10 : Int32} {t1_0 : (Nat → Int32)} {a23 : Int32} {j35 : Int64} {lx39 : Int32} {lx59 : Int32} {lx60 : Int32} {lx61 : (Nat → Int32)} {R : Int} {N : Nat} (hN : lx39.toInt = (N : Int)) (hN2 : N ≤ 4399) (hg : gO lx61 N) (hR : R = uV lx61 N + 10 ^ N) (hR2 : R = 10 ^ N) : ∀ (n : Nat) (lx88 : Int32) (lx89 : (Nat → Int32)), ∀ j : Nat, lx88.toInt = (j : Int) → j ≤ N → j < n → (∀ i, i ≤ j → lx89 i = lx61 i) → (∀ i, j < i → i ≤ N → lx89 i = lx61 (i - 1)) → QV_cut R j35.toInt N t0_0 t0_1 t0_5 t0_6 t0_7 t0_8 t0_9 t0_10 (F_DR_cut_L141 K_F_DR_cut_L64 x2 x3 t0_0 t0_1 t0_2 t0_3 t0_4 t0_5 t0_6 t0_7 t0_8 t0_9 t0_10 t1_0 a23 j35 lx39 lx59 lx60 lx61 n lx88 lx89) := by
  have e0 : (0 : Int32).toInt = 0 := rfl
  have e00 : (0 : Int32).toNatClampNeg = 0 := rfl
  intro n
  induction n with
  | zero => intro _ _ j _ _ h; exact absurd h (Nat.not_lt_zero _)
  | succ n ih =>
    intro lx88 lx89 j hj hjN hjn ha hb
    rw [F_DR_cut_L141.eq_2]
    by_cases c : lx88 ≤ 0
    · have c2 := q_leI c
      have j0 : j = 0 := by omega
      subst j0
      rw [if_pos c, e00]
      have e1 : (lx39 + 1 : Int32).toInt = ((N + 1 : Nat) : Int) := by
        rw [q_addI (y := 1) hN rfl (by omega) (by omega)]
        omega
      have e1c := q_clI e1 (by omega)
      have en : (lx39 + 1 : Int32).toNatClampNeg = N + 1 := by omega
      have hf : ∀ i, i < N → (fun i => upd lx89 0 1 (i + 1)) i = lx61 i := fun i hi => by
        show upd lx89 0 1 (i + 1) = lx61 i
        rw [v_ne (by omega), hb (i + 1) (by omega) (by omega), Nat.add_sub_cancel]
      refine ⟨rfl, rfl, rfl, Or.inr ⟨by rw [e1]; omega, hR2⟩, rfl, rfl, rfl, rfl, rfl, rfl, rfl, rfl, ?_, ?_⟩
      · show gO (upd lx89 0 1) (lx39 + 1 : Int32).toNatClampNeg
        rw [en]
        intro i hi
        by_cases ci : i = 0
        · rw [ci, v_eq]
          exact ⟨by decide, by decide⟩
        · have := hf (i - 1) (by omega)
          have e9 : upd lx89 0 1 i = lx61 (i - 1) := by
            rw [← this]
            show upd lx89 0 1 i = upd lx89 0 1 (i - 1 + 1)
            rw [Nat.sub_add_cancel (by omega)]
          rw [e9]
          exact hg _ (by omega)
      · show uV (upd lx89 0 1) (lx39 + 1 : Int32).toNatClampNeg = R
        rw [en, u_tl, u_ext hf, v_eq, hR, show (1 : Int32).toInt = 1 from rfl, Int.one_mul]
        omega
    · have c2 := q_nleI c
      rw [if_neg c]
      obtain ⟨i, rfl⟩ : ∃ i, j = i + 1 := ⟨j - 1, by omega⟩
      have e1 : wE ((lx88 + (-1) : Int32).toInt) ((i : Int)) := by
        show (lx88 + (-1) : Int32).toInt = (i : Int)
        rw [q_addI (y := -1) hj rfl (by omega) (by omega)]
        omega
      have e2 : (lx88 - 1 : Int32).toInt = (i : Int) := by
        rw [q_subI (y := 1) hj rfl (by omega) (by omega)]
        omega
      have q0 := q_clI hj (by omega)
      have q2 := q_clI e2 (by omega)
      have ix0 : lx88.toNatClampNeg = i + 1 := by omega
      have ix2 : (lx88 - 1 : Int32).toNatClampNeg = i := by omega
      rw [ix0, ix2]
      refine ih _ _ i e1 (by omega) (by omega) (fun l hl => ?_) (fun l h1 h2 => ?_)
      · rw [v_ne (by omega)]
        exact ha l (by omega)
      · by_cases cl : l = i + 1
        · rw [cl, v_eq, Nat.add_sub_cancel]
          exact ha i (by omega)
        · rw [v_ne cl]
          exact hb l (by omega) h2
theorem V_cuJ {K_F_DR_cut_L64 : Int32 → Int32 → (Nat → Int32) → (Int32 × Int32 × Int32 × Int32 × Int64 × Int32 × Int32 × Int32 × Int32 × Int32 × Int32 × Int32 × (Nat → Int32))} {x2 : Int32} {x3 : Int32} {t0_0 : Int32} {t0_1 : Int32} {t0_2 : Int32} {t0_3 : Int64} {t0_4 : Int32} {t0_5 : Int32} {t0_6 : Int32} {t0_7 : Int32} {t0_8 : Int32} {t0_9 : Int32} {t0_10 : Int32} {t1_0 : (Nat → Int32)} {a23 : Int32} {j35 : Int64} {lx39 : Int32} {lx59 : Int32} {lx60 : Int32} {lx61 : (Nat → Int32)} {R : Int} {N : Nat} (hN : lx39.toInt = (N : Int)) (hN2 : N ≤ 4399) (hg : gO lx61 N) (h : (lx60 = 0 ∧ uV lx61 N = R) ∨ (lx60 = 1 ∧ (∀ i, i < N → lx61 i = 0) ∧ R = 10 ^ N)) : QV_cut R j35.toInt N t0_0 t0_1 t0_5 t0_6 t0_7 t0_8 t0_9 t0_10 (F_DR_cut_J130 K_F_DR_cut_L64 x2 x3 t0_0 t0_1 t0_2 t0_3 t0_4 t0_5 t0_6 t0_7 t0_8 t0_9 t0_10 t1_0 a23 j35 lx39 lx59 lx60 lx61) := by
  have hn := q_clI hN (by omega)
  have en : lx39.toNatClampNeg = N := by omega
  unfold F_DR_cut_J130
  rcases h with ⟨h1, h2⟩ | ⟨h1, h2, h3⟩
  · rw [h1, if_neg (by decide)]
    refine ⟨rfl, rfl, rfl, Or.inl hN, rfl, rfl, rfl, rfl, rfl, rfl, rfl, rfl, ?_, ?_⟩
    · show gO lx61 lx39.toNatClampNeg
      rw [en]
      exact hg
    · show uV lx61 lx39.toNatClampNeg = R
      rw [en]
      exact h2
  · rw [if_pos h1]
    exact V_cuL1 hN hN2 hg (by rw [u_zer h2, h3]; omega) h3 _ _ _ N hN (Nat.le_refl _) (by omega) (fun _ _ => rfl) (fun i h1 h2 => by omega)
theorem u_pwS {N k : Nat} (h : k < N) : (10 : Int) ^ (N - k) = 10 * 10 ^ (N - 1 - k) := by
  rw [show N - k = (N - 1 - k) + 1 by omega, u_pw, Int.mul_comm]
theorem V_cuL2 {x2 : Int32} {x3 : Int32} {t0_0 : Int32} {t0_1 : Int32} {t0_2 : Int32} {t0_3 : Int64} {t0_4 : Int32} {t0_5 : Int32} {t0_6 : Int32} {t0_7 : Int32} {t0_8 : Int32} {t0_9 : Int32} {t0_10 : Int32} {t1_0 : (Nat → Int32)} {a23 : Int32} {j35 : Int64} {lx39 : Int32} {R : Int} {N : Nat} (hN : lx39.toInt = (N : Int)) (hN2 : N ≤ 4399) : ∀ (n : Nat) (lx59 : Int32) (lx60 : Int32) (lx61 : (Nat → Int32)), ∀ K : Nat, lx59.toInt = (K : Int) - 1 → K ≤ N → K < n → gO lx61 N → ((lx60 = 0 ∧ uV lx61 N = R) ∨ (lx60 = 1 ∧ (∀ i, K ≤ i → i < N → lx61 i = 0) ∧ uV lx61 N + 10 ^ (N - K) = R)) → QV_cut R j35.toInt N t0_0 t0_1 t0_5 t0_6 t0_7 t0_8 t0_9 t0_10 (F_DR_cut_L64 x2 x3 t0_0 t0_1 t0_2 t0_3 t0_4 t0_5 t0_6 t0_7 t0_8 t0_9 t0_10 t1_0 a23 j35 lx39 n lx59 lx60 lx61) := by
  have e0 : (0 : Int32).toInt = 0 := rfl
  have e9 : (9 : Int32).toInt = 9 := rfl
  intro n
  induction n with
  | zero => intro _ _ _ K _ _ h; exact absurd h (Nat.not_lt_zero _)
  | succ n ih =>
    intro lx59 lx60 lx61 K hK hKN hKn hg h
    rw [F_DR_cut_L64.eq_2]
    rcases h with ⟨h1, h2⟩ | ⟨h1, h2, h3⟩
    · rw [h1, if_neg (by decide)]
      exact V_cuJ hN hN2 hg (Or.inl ⟨rfl, h2⟩)
    · rw [if_pos h1]
      by_cases c : lx59 < 0
      · have c2 := q_ltI c
        have K0 : K = 0 := by omega
        subst K0
        rw [if_pos c]
        refine V_cuJ hN hN2 hg (Or.inr ⟨h1, fun i hi => h2 i (Nat.zero_le _) hi, ?_⟩)
        rw [← h3, u_zer (fun i hi => h2 i (Nat.zero_le _) hi), Int.zero_add, Nat.sub_zero]
      · have c2 := q_nltI c
        rw [if_neg c]
        obtain ⟨k, rfl⟩ : ∃ k, K = k + 1 := ⟨K - 1, by omega⟩
        have hk : lx59.toInt = (k : Int) := by omega
        have q0 := q_clI hk (by omega)
        have ix0 : lx59.toNatClampNeg = k := by omega
        have e1 : wE ((lx59 + (-1) : Int32).toInt) ((k : Int) - 1) := by
          show (lx59 + (-1) : Int32).toInt = (k : Int) - 1
          rw [q_addI (y := -1) hk rfl (by omega) (by omega)]
          omega
        have hd := hg k (by omega)
        have hw : N - (k + 1) = N - 1 - k := by omega
        have hpS := u_pwS (N := N) (k := k) (by omega)
        rw [hw] at h3
        rw [ix0]
        by_cases d : lx61 k = 9
        · rw [if_pos d]
          unfold F_DR_cut_J91
          rw [ix0, if_pos d]
          have hu := u_upd (f := lx61) (i := k) (x := 0) (n := N) (by omega)
          rw [d, e9, e0] at hu
          refine ih _ _ _ k e1 (by omega) (by omega) (gO_upd hg ⟨by decide, by decide⟩) (Or.inr ⟨rfl, fun i i1 i2 => ?_, ?_⟩)
          · by_cases ci : i = k
            · rw [ci, v_eq]
            · rw [v_ne ci]
              exact h2 i (by omega) i2
          · rw [hu, hpS, ← h3]
            generalize (10 : Int) ^ (N - 1 - k) = E
            omega
        · rw [if_neg d]
          unfold F_DR_cut_J91
          rw [ix0, if_neg d]
          have d2 : (lx61 k).toInt ≠ 9 := fun e => d (Int32.toInt_inj.mp (e.trans e9.symm))
          have ei : (lx61 k + 1 : Int32).toInt = (lx61 k).toInt + 1 := q_addI (y := 1) rfl rfl (by omega) (by omega)
          have hu := u_upd (f := lx61) (i := k) (x := lx61 k + 1) (n := N) (by omega)
          rw [ei] at hu
          refine ih _ _ _ k e1 (by omega) (by omega) (gO_upd hg (by rw [ei]; omega)) (Or.inl ⟨rfl, ?_⟩)
          rw [hu, ← h3]
          generalize (10 : Int) ^ (N - 1 - k) = E
          have : ((lx61 k).toInt + 1 - (lx61 k).toInt) = 1 := by omega
          rw [this, Int.one_mul]
theorem r_i3 {P : Prop} [Decidable P] {A B : Int32} (ha : A = 0 ∨ A = 1 ∨ A = 2) (hb : B = 0 ∨ B = 1 ∨ B = 2) : (if P then A else B) = 0 ∨ (if P then A else B) = 1 ∨ (if P then A else B) = 2 := by
  by_cases c : P
  · rw [if_pos c]
    exact ha
  · rw [if_neg c]
    exact hb
theorem r_z0 : (0 : Int32) = 0 ∨ (0 : Int32) = 1 ∨ (0 : Int32) = 2 := Or.inl rfl
theorem r_z1 : (1 : Int32) = 0 ∨ (1 : Int32) = 1 ∨ (1 : Int32) = 2 := Or.inr (Or.inl rfl)
theorem r_z2 : (2 : Int32) = 0 ∨ (2 : Int32) = 1 ∨ (2 : Int32) = 2 := Or.inr (Or.inr rfl)
theorem rGr_03 (m b st : Int32) (t : Int) : rGr m b st t = 0 ∨ rGr m b st t = 1 ∨ rGr m b st t = 2 := r_i3 (r_i3 r_z0 r_z1) (r_i3 r_z0 (r_i3 (r_i3 r_z0 (r_i3 r_z1 r_z0)) (r_i3 (r_i3 r_z0 (r_i3 r_z0 r_z1)) (r_i3 (r_i3 r_z0 r_z1) (r_i3 (r_i3 r_z1 (r_i3 (r_i3 r_z0 r_z1) r_z0)) (r_i3 (r_i3 r_z1 (r_i3 (r_i3 (r_i3 r_z1 r_z0) r_z1) r_z0)) (r_i3 r_z0 r_z2)))))))
theorem rGr_01 {m b st : Int32} {t : Int} (h : rGr m b st t ≠ 2) : rGr m b st t = 0 ∨ rGr m b st t = 1 := (rGr_03 m b st t).imp id (fun g => g.resolve_right h)
theorem rGr_neg {m b st : Int32} {t : Int} : 0 ≤ (rGr m b st t).toInt := by
  rcases rGr_03 m b st t with h | h | h <;> rw [h] <;> decide
theorem V_DR_cut {x2 : Int32} {x3 : Int32} {t0_0 : Int32} {t0_1 : Int32} {t0_2 : Int32} {t0_3 : Int64} {t0_4 : Int32} {t0_5 : Int32} {t0_6 : Int32} {t0_7 : Int32} {t0_8 : Int32} {t0_9 : Int32} {t0_10 : Int32} {t1_0 : (Nat → Int32)} {v : Int} {e : Nat} (h2 : 0 ≤ t0_2.toInt ∧ t0_2.toInt ≤ 4399) (hx : -1 ≤ x2.toInt ∧ x2.toInt ≤ t0_2.toInt) (he : (e : Int) = t0_2.toInt - x2.toInt) (hg : gO t1_0 t0_2.toNatClampNeg) (hv : uV t1_0 t0_2.toNatClampNeg = v) (hm : t0_4 = 0 ∨ t0_4 = 1) (hs : -1000000 ≤ t0_3.toInt ∧ t0_3.toInt ≤ 1000000) : (rGr x3 t0_5 (rSt v e t0_4) ((10 * v) / 10 ^ e) = 2 ∧ (F_DR_cut x2 x3 t0_0 t0_1 t0_2 t0_3 t0_4 t0_5 t0_6 t0_7 t0_8 t0_9 t0_10 t1_0).1 = 0 ∧ (F_DR_cut x2 x3 t0_0 t0_1 t0_2 t0_3 t0_4 t0_5 t0_6 t0_7 t0_8 t0_9 t0_10 t1_0).2.1 = t0_10) ∨ (rGr x3 t0_5 (rSt v e t0_4) ((10 * v) / 10 ^ e) ≠ 2 ∧ QV_cut (v / 10 ^ e + (rGr x3 t0_5 (rSt v e t0_4) ((10 * v) / 10 ^ e)).toInt) (t0_3.toInt - e) x2.toInt.toNat t0_0 t0_1 t0_5 t0_6 t0_7 t0_8 t0_9 t0_10 (F_DR_cut x2 x3 t0_0 t0_1 t0_2 t0_3 t0_4 t0_5 t0_6 t0_7 t0_8 t0_9 t0_10 t1_0)) := by
  have e0 : (0 : Int32).toInt = 0 := rfl
  have hn := q_clI (i := t0_2) rfl h2.1
  have n0 : v < 10 ^ t0_2.toNatClampNeg := by
    rw [← hv]
    exact u_lt hg
  have v0 : 0 ≤ v := by
    rw [← hv]
    exact u_nn hg
  have hgr := V_DR_grows (x2 := x2) (x3 := x3) (t0_0 := t0_0) (t0_1 := t0_1) (t0_2 := t0_2) (t0_3 := t0_3) (t0_4 := t0_4) (t0_5 := t0_5) (t0_6 := t0_6) (t0_7 := t0_7) (t0_8 := t0_8) (t0_9 := t0_9) (t0_10 := t0_10) (t1_0 := t1_0) ⟨h2.1, by omega⟩ hx he hg hv hm
  have hj : (t0_3 - ((t0_2 - x2 : Int32).toInt64) : Int64).toInt = t0_3.toInt - e := by
    have i1 : (t0_2 - x2 : Int32).toInt = (e : Int) := by
      rw [q_subI rfl rfl (by omega) (by omega)]
      omega
    have i2 : ((t0_2 - x2 : Int32).toInt64).toInt = (e : Int) := by
      rw [Int32.toInt_toInt64]
      exact i1
    rw [q_subL rfl i2 (by omega) (by omega)]
  unfold F_DR_cut
  rw [hgr]
  generalize hG : rGr x3 t0_5 (rSt v e t0_4) ((10 * v) / 10 ^ e) = G
  by_cases c : G = 2
  · rw [if_pos c]
    exact Or.inl ⟨c, rfl, rfl⟩
  · rw [if_neg c]
    refine Or.inr ⟨c, ?_⟩
    have hG1 : G = 0 ∨ G = 1 := by
      rw [← hG] at c ⊢
      exact rGr_01 c
    rw [← hj]
    by_cases d : (0 : Int32) ≤ x2
    · have d2 := q_leI d
      obtain ⟨N, hk⟩ : ∃ N : Nat, x2.toInt = (N : Int) := ⟨x2.toInt.toNat, by omega⟩
      have eN : x2.toInt.toNat = N := by omega
      have hN : t0_2.toNatClampNeg = N + e := by omega
      have hg2 := hg
      have hv2 := hv
      rw [hN] at hg2 hv2
      have w1 := (u_cutE hg2).1
      rw [hv2] at w1
      rw [if_pos d, eN]
      unfold F_DR_cut_J48
      have e1 : (x2 - 1 : Int32).toInt = (N : Int) - 1 := by
        rw [q_subI (y := 1) hk rfl (by omega) (by omega)]
      refine V_cuL2 hk (by omega) _ _ _ _ N e1 (Nat.le_refl _) (by rw [e1]; omega) (hg2.mono (by omega)) ?_
      rw [w1]
      rcases hG1 with g | g
      · exact Or.inl ⟨g, by rw [g, e0]; omega⟩
      · refine Or.inr ⟨g, fun i i1 i2 => by omega, ?_⟩
        rw [g, Nat.sub_self, Int.pow_zero, show (1 : Int32).toInt = 1 from rfl]
    · have d2 := q_nleI d
      have eN : x2.toInt.toNat = 0 := by omega
      have z : v / 10 ^ e = 0 := by
        have he1 : e = t0_2.toNatClampNeg + 1 := by omega
        rw [he1, u_pw]
        refine Int.ediv_eq_zero_of_lt v0 ?_
        have := u_pos t0_2.toNatClampNeg
        omega
      rw [if_neg d, eN, z]
      unfold F_DR_cut_J48
      refine V_cuL2 (N := 0) e0 (by decide) _ _ _ _ 0 (by decide) (Nat.le_refl _) (by decide) (fun i hi => absurd hi (Nat.not_lt_zero _)) ?_
      rcases hG1 with g | g
      · exact Or.inl ⟨g, by rw [g]; rfl⟩
      · exact Or.inr ⟨g, fun i i1 i2 => by omega, by rw [g]; rfl⟩
