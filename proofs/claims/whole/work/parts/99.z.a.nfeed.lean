/-! NumberHouseModel: what its methods owe -/
def nmB (f : Nat → Int64) : Prop := ∀ i, 10 ≤ i → i < 20 → 0 ≤ (f i).toInt ∧ (f i).toInt < 4294967296
theorem nm_no1 {r : Int32} (h : F_NM_no_IZ r = 0) : 0 ≤ r.toInt ∧ r.toInt ≤ 9 := by
  unfold F_NM_no_IZ at h
  by_cases a : r < 0
  · rw [if_pos a] at h; exact absurd h (by decide)
  · rw [if_neg a] at h
    by_cases b : r ≤ 9
    · exact ⟨q_nltI a, q_leI b⟩
    · rw [if_neg b] at h; exact absurd h (by decide)
theorem nm_and {y : Int64} {m : Int64} (hm : 0 ≤ m.toInt) : 0 ≤ (y &&& m).toInt ∧ (y &&& m).toInt ≤ m.toInt := by
  obtain ⟨h1, h2, h3⟩ := s_nnL hm
  have e : (y &&& m).toBitVec.toNat = y.toBitVec.toNat &&& m.toBitVec.toNat := by rw [Int64.toBitVec_and, BitVec.toNat_and]
  have l : y.toBitVec.toNat &&& m.toBitVec.toNat ≤ m.toBitVec.toNat := Nat.and_le_right
  have r := s_ofL (x := y &&& m) e (by omega)
  rw [r]; omega
theorem vm_fe {x2 : Int32} {x3 : Int64} {t0_0 : Int32} {t0_1 : Int32} {t0_2 : Int32} {t1_0 : (Nat → Int32)} {lx10 : Int32} (h01 : 0 ≤ t0_1.toInt) (h02 : t0_1.toInt + x2.toInt ≤ 4100)  : ∀ (n : Nat) (lx30 : Int32) (lx31 : Int32) (lx32 : (Nat → Int32)), (0 ≤ lx30.toInt ∧ lx30.toInt ≤ x2.toInt) → (lx31.toInt = t0_1.toInt + lx30.toInt) → (4100 - lx30.toInt < (n : Int)) → (S_NM_feed_L46 x2 x3 t0_0 t0_1 t0_2 t1_0 lx10 n lx30 lx31 lx32) := by
  intro n
  induction n with
  | zero => intro lx30 lx31 lx32 hA0 hs hm; exact absurd (show False by omega) id
  | succ n ih =>
    intro lx30 lx31 lx32 hA0 hs hm
    have e0 : (0 : Int32).toInt = 0 := rfl
    have e1 : (1 : Int32).toInt = 1 := rfl
    have eL0 : (0 : Int64).toInt = 0 := rfl
    have em : (-1 : Int32).toInt = -1 := rfl
    rw [S_NM_feed_L46.eq_2]
    by_cases g1 : x2 ≤ lx30
    ·
      rw [if_pos g1]
      have g1i : x2.toInt ≤ lx30.toInt := q_leI g1
      exact trivial
    ·
      rw [if_neg g1]
      have g1i : lx30.toInt < x2.toInt := q_nleI g1
      refine And.intro (by first | omega | decide) ?_
      obtain ⟨a2, e3⟩ := q_nm (lx30 + 1 : Int32)
      rw [e3]
      have a2i : a2.toInt = lx30.toInt + 1 := by rw [← e3]; exact q_addI (x := lx30.toInt) (y := 1) rfl (by decide) (by omega) (by omega)
      obtain ⟨a4, e5⟩ := q_nm (lx31 + 1 : Int32)
      rw [e5]
      have a4i : a4.toInt = lx31.toInt + 1 := by rw [← e5]; exact q_addI (x := lx31.toInt) (y := 1) rfl (by decide) (by omega) (by omega)
      exact ih _ _ _ ⟨by omega, by omega⟩ (by omega) (by omega)
theorem T_NM_feedJ {x2 : Int32} {x3 : Int64} {t0_0 : Int32} {t0_1 : Int32} {t0_2 : Int32} {t1_0 : (Nat → Int32)} {lx10 : Int32} (h01 : 0 ≤ t0_1.toInt ∧ t0_1.toInt ≤ 4100) (hx : lx10.toInt ≤ 0 → 1 ≤ x2.toInt ∧ x2.toInt ≤ 8)  : (S_NM_feed_J17 x2 x3 t0_0 t0_1 t0_2 t1_0 lx10) := by
  have e0 : (0 : Int32).toInt = 0 := rfl
  have e1 : (1 : Int32).toInt = 1 := rfl
  have eL0 : (0 : Int64).toInt = 0 := rfl
  have em : (-1 : Int32).toInt = -1 := rfl
  unfold S_NM_feed_J17
  by_cases g1 : lx10 ≤ (0 : Int32)
  ·
    rw [if_pos g1]
    have hx2 := hx (q_leI g1)
    obtain ⟨a2, e3⟩ := q_nm (t0_1 + x2 : Int32)
    rw [e3]
    have a2i : a2.toInt = t0_1.toInt + x2.toInt := by rw [← e3]; exact q_addI (x := t0_1.toInt) (y := x2.toInt) rfl rfl (by omega) (by omega)
    by_cases g4 : a2 ≤ (4100 : Int32)
    ·
      rw [if_pos g4]
      have g4i : a2.toInt ≤ 4100 := q_leI g4
      exact vm_fe h01.1 (by omega) _ _ _ _ ⟨by decide, by omega⟩ (by omega) (by omega)
    ·
      rw [if_neg g4]
      have g4i : 4100 < a2.toInt := q_nleI g4
      exact trivial
  ·
    rw [if_neg g1]
    exact trivial
theorem T_NM_feed {x2 : Int32} {x3 : Int64} {t0_0 : Int32} {t0_1 : Int32} {t0_2 : Int32} {t1_0 : (Nat → Int32)} (h01 : 0 ≤ t0_1.toInt ∧ t0_1.toInt ≤ 4100)  : (S_NM_feed x2 x3 t0_0 t0_1 t0_2 t1_0) := by
  have e0 : (0 : Int32).toInt = 0 := rfl
  have e1 : (1 : Int32).toInt = 1 := rfl
  have eL0 : (0 : Int64).toInt = 0 := rfl
  have em : (-1 : Int32).toInt = -1 := rfl
  unfold S_NM_feed
  by_cases g1 : x2 < (1 : Int32)
  ·
    rw [if_pos g1]
    have g1i : x2.toInt < 1 := q_ltI g1
    unfold S_NM_feed_J12
    exact T_NM_feedJ h01 (fun z => absurd z (by decide))
  ·
    rw [if_neg g1]
    have g1i : 1 ≤ x2.toInt := q_nltI g1
    by_cases g2 : x2 ≤ (8 : Int32)
    ·
      rw [if_pos g2]
      have g2i : x2.toInt ≤ 8 := q_leI g2
      exact T_NM_feedJ h01 (fun _ => ⟨by omega, by omega⟩)
    ·
      rw [if_neg g2]
      have g2i : 8 < x2.toInt := q_nleI g2
      unfold S_NM_feed_J12
      exact T_NM_feedJ h01 (fun z => absurd z (by decide))
def Q_NM_load (x2 : Int32) (f : Nat → Int32) (p : Int32 × (Nat → Int32)) : Prop := p.1 = x2 ∧ ∀ i : Nat, (i : Int) < x2.toInt → p.2 i = f i
theorem nm_cp {k : Int32} {f r : Nat → Int32} (hk : 0 ≤ k.toInt) (h : ∀ i : Nat, (i : Int) < k.toInt → r i = f i) : ∀ i : Nat, (i : Int) < k.toInt + 1 → upd r k.toNatClampNeg (f k.toNatClampNeg) i = f i := fun i hi => by
  have e := q_clI (i := k) rfl hk
  by_cases c : i = k.toNatClampNeg
  · subst c; exact v_eq
  · rw [v_ne c]; exact h i (by omega)
theorem vm_ld {N1 : Int32} {x2 : Int32} {N3 : Int32} {t0_0 : (Nat → Int32)} {t1_0 : (Nat → Int32)} (hN1 : x2.toInt ≤ N1.toInt) (hN3 : x2.toInt ≤ N3.toInt) (hN : N1.toInt ≤ 20200)  : ∀ (n : Nat) (lx8 : Int32) (lx9 : (Nat → Int32)), (0 ≤ lx8.toInt ∧ (lx8.toInt ≤ x2.toInt ∨ lx8.toInt = 0)) → (20200 - lx8.toInt < (n : Int)) → (∀ i : Nat, (i : Int) < lx8.toInt → lx9 i = t0_0 i) → (S_NM_load_L2 N1 x2 N3 t0_0 t1_0 n lx8 lx9) ∧ Q_NM_load x2 t0_0 (F_NM_load_L2 N1 x2 N3 t0_0 t1_0 n lx8 lx9) := by
  intro n
  induction n with
  | zero => intro lx8 lx9 hA0 hm hq; exact absurd (show False by omega) id
  | succ n ih =>
    intro lx8 lx9 hA0 hm hq
    have e0 : (0 : Int32).toInt = 0 := rfl
    have e1 : (1 : Int32).toInt = 1 := rfl
    have eL0 : (0 : Int64).toInt = 0 := rfl
    have em : (-1 : Int32).toInt = -1 := rfl
    rw [S_NM_load_L2.eq_2, F_NM_load_L2.eq_2]
    by_cases g1 : x2 ≤ lx8
    ·
      rw [if_pos g1, if_pos g1]
      have g1i : x2.toInt ≤ lx8.toInt := q_leI g1
      refine ⟨trivial, ?_⟩
      exact ⟨rfl, fun i hi => hq i (by omega)⟩
    ·
      rw [if_neg g1, if_neg g1]
      have g1i : lx8.toInt < x2.toInt := q_nleI g1
      refine v_cons (by first | omega | decide) ?_
      refine v_cons (by first | omega | decide) ?_
      obtain ⟨a2, e3⟩ := q_nm (lx8 + 1 : Int32)
      rw [e3]
      have a2i : a2.toInt = lx8.toInt + 1 := by rw [← e3]; exact q_addI (x := lx8.toInt) (y := 1) rfl (by decide) (by omega) (by omega)
      exact ih _ _ ⟨by omega, by omega⟩ (by omega) (fun i hi => nm_cp hA0.1 hq i (by omega))
theorem T_NM_load {N1 : Int32} {x2 : Int32} {N3 : Int32} {t0_0 : (Nat → Int32)} {t1_0 : (Nat → Int32)} (hN1 : x2.toInt ≤ N1.toInt) (hN3 : x2.toInt ≤ N3.toInt) (hN : N1.toInt ≤ 20200)  : (S_NM_load N1 x2 N3 t0_0 t1_0) ∧ Q_NM_load x2 t0_0 (F_NM_load N1 x2 N3 t0_0 t1_0) := by
  have e0 : (0 : Int32).toInt = 0 := rfl
  have e1 : (1 : Int32).toInt = 1 := rfl
  have eL0 : (0 : Int64).toInt = 0 := rfl
  have em : (-1 : Int32).toInt = -1 := rfl
  unfold S_NM_load F_NM_load
  exact vm_ld hN1 hN3 hN _ _ _ ⟨by decide, Or.inr rfl⟩ (by decide) (fun i hi => absurd hi (by omega))
theorem vm_sh {N2 : Int32} {x3 : Int32} {t0_0 : Int32} {t0_1 : Int32} {t0_2 : Int32} {t1_0 : (Nat → Int32)} {t2_0 : (Nat → Int32)} (hx3 : 0 ≤ x3.toInt ∧ x3.toInt ≤ N2.toInt) (hx4 : x3.toInt ≤ 12200)  : ∀ (n : Nat) (lx14 : Int32) (lx15 : (Nat → Int32)), (0 ≤ lx14.toInt ∧ lx14.toInt ≤ x3.toInt) → (12200 - lx14.toInt < (n : Int)) → (S_NM_show_L2 N2 x3 t0_0 t0_1 t0_2 t1_0 t2_0 n lx14 lx15) := by
  intro n
  induction n with
  | zero => intro lx14 lx15 hA0 hm; exact absurd (show False by omega) id
  | succ n ih =>
    intro lx14 lx15 hA0 hm
    have e0 : (0 : Int32).toInt = 0 := rfl
    have e1 : (1 : Int32).toInt = 1 := rfl
    have eL0 : (0 : Int64).toInt = 0 := rfl
    have em : (-1 : Int32).toInt = -1 := rfl
    rw [S_NM_show_L2.eq_2]
    by_cases g1 : x3 ≤ lx14
    ·
      rw [if_pos g1]
      have g1i : x3.toInt ≤ lx14.toInt := q_leI g1
      refine And.intro (by first | omega | decide) ?_
      exact trivial
    ·
      rw [if_neg g1]
      have g1i : lx14.toInt < x3.toInt := q_nleI g1
      refine And.intro (by first | omega | decide) ?_
      refine And.intro (by first | omega | decide) ?_
      obtain ⟨a2, e3⟩ := q_nm (lx14 + 1 : Int32)
      rw [e3]
      have a2i : a2.toInt = lx14.toInt + 1 := by rw [← e3]; exact q_addI (x := lx14.toInt) (y := 1) rfl (by decide) (by omega) (by omega)
      exact ih _ _ ⟨by omega, by omega⟩ (by omega)
theorem T_NM_show {N2 : Int32} {x3 : Int32} {t0_0 : Int32} {t0_1 : Int32} {t0_2 : Int32} {t1_0 : (Nat → Int32)} {t2_0 : (Nat → Int32)} (hx3 : 0 ≤ x3.toInt ∧ x3.toInt ≤ N2.toInt) (hx4 : x3.toInt ≤ 12200)  : (S_NM_show N2 x3 t0_0 t0_1 t0_2 t1_0 t2_0) := by
  have e0 : (0 : Int32).toInt = 0 := rfl
  have e1 : (1 : Int32).toInt = 1 := rfl
  have eL0 : (0 : Int64).toInt = 0 := rfl
  have em : (-1 : Int32).toInt = -1 := rfl
  unfold S_NM_show
  exact vm_sh hx3 hx4 _ _ _ ⟨by decide, by omega⟩ (by decide)
theorem nm_no2 {k r : Int32} (h : F_NM_no_IIZ k r = 0) : (0 ≤ k.toInt ∧ k.toInt ≤ 3) ∧ 0 ≤ r.toInt ∧ r.toInt ≤ 9 := by
  unfold F_NM_no_IIZ at h
  by_cases a : k < 0
  · rw [if_pos a] at h; exact absurd h (by decide)
  · rw [if_neg a] at h
    by_cases b : 3 < k
    · rw [if_pos b] at h; exact absurd h (by decide)
    · rw [if_neg b] at h
      by_cases c : F_NM_no_IZ r = 0
      · exact ⟨⟨q_nltI a, q_nltI b⟩, nm_no1 c⟩
      · rw [if_neg c] at h; exact absurd h (by decide)
theorem nmB.put {f : Nat → Int64} {k : Nat} {x : Int64} (h : nmB f) (hx : 10 ≤ k → 0 ≤ x.toInt ∧ x.toInt < 4294967296) : nmB (vp_updL f k x) := fun i h1 h2 => by
  show 0 ≤ (if i = k then x else f i : Int64).toInt ∧ (if i = k then x else f i : Int64).toInt < 4294967296
  by_cases c : i = k
  · rw [if_pos c]; exact hx (by omega)
  · rw [if_neg c]; exact h i h1 h2
theorem T_NM_bitsOf {x2 : Int32} {x3 : Int32} {t0_0 : Int32} {t0_1 : Int32} {t0_2 : Int32} {t1_0 : (Nat → Int64)} (hx3 : 0 ≤ x3.toInt ∧ x3.toInt ≤ 9)  : (S_NM_bitsOf x2 x3 t0_0 t0_1 t0_2 t1_0) := by
  have e0 : (0 : Int32).toInt = 0 := rfl
  have e1 : (1 : Int32).toInt = 1 := rfl
  have eL0 : (0 : Int64).toInt = 0 := rfl
  have em : (-1 : Int32).toInt = -1 := rfl
  have e10 : (10 + x3 : Int32).toInt = 10 + x3.toInt := q_addI (x := 10) (by decide) rfl (by omega) (by omega)
  have ec := q_clI (i := x3) rfl hx3.1
  unfold S_NM_bitsOf
  by_cases g1 : x2 = (3 : Int32)
  ·
    rw [if_pos g1]
    obtain ⟨a2, e3⟩ := q_nm (10 + x3 : Int32)
    rw [e3]
    have a2i : a2.toInt = 10 + x3.toInt := by rw [← e3]; exact q_addI (x := 10) (y := x3.toInt) (by decide) rfl (by omega) (by omega)
    refine And.intro (by first | omega | decide) ?_
    refine And.intro (by first | omega | decide) ?_
    exact trivial
  ·
    rw [if_neg g1]
    refine And.intro (by first | omega | decide) ?_
    refine And.intro (by first | omega | decide) ?_
    exact trivial
theorem T_NM_setBits {x2 : Int32} {x3 : Int32} {x4 : Int64} {t0_0 : Int32} {t0_1 : Int32} {t0_2 : Int32} {t1_0 : (Nat → Int64)} (hx3 : 0 ≤ x3.toInt ∧ x3.toInt ≤ 9) (hB : nmB t1_0) (hv : x2 = 3 → 0 ≤ x4.toInt ∧ x4.toInt < 4294967296)  : (S_NM_setBits x2 x3 x4 t0_0 t0_1 t0_2 t1_0) ∧ nmB (F_NM_setBits x2 x3 x4 t0_0 t0_1 t0_2 t1_0) := by
  have e0 : (0 : Int32).toInt = 0 := rfl
  have e1 : (1 : Int32).toInt = 1 := rfl
  have eL0 : (0 : Int64).toInt = 0 := rfl
  have em : (-1 : Int32).toInt = -1 := rfl
  have e10 : (10 + x3 : Int32).toInt = 10 + x3.toInt := q_addI (x := 10) (by decide) rfl (by omega) (by omega)
  have ec := q_clI (i := x3) rfl hx3.1
  unfold S_NM_setBits F_NM_setBits
  by_cases g1 : x2 = (3 : Int32)
  ·
    rw [if_pos g1, if_pos g1]
    have hv3 := hv g1
    obtain ⟨a2, e3⟩ := q_nm (10 + x3 : Int32)
    rw [e3]
    have a2i : a2.toInt = 10 + x3.toInt := by rw [← e3]; exact q_addI (x := 10) (y := x3.toInt) (by decide) rfl (by omega) (by omega)
    refine v_cons (by first | omega | decide) ?_
    refine v_cons (by first | omega | decide) ?_
    refine ⟨trivial, ?_⟩
    exact hB.put (fun z => hv3)
  ·
    rw [if_neg g1, if_neg g1]
    refine v_cons (by first | omega | decide) ?_
    refine v_cons (by first | omega | decide) ?_
    refine ⟨trivial, ?_⟩
    exact hB.put (fun z => absurd z (by omega))
