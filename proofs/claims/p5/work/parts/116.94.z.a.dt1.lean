/-! DecimalRows: rows of figures; trim, store, load -/
def gO (f : Nat → Int32) (n : Nat) : Prop := ∀ i, i < n → 0 ≤ (f i).toInt ∧ (f i).toInt ≤ 9
theorem gO.mono {f : Nat → Int32} {n m : Nat} (h : gO f n) (hm : m ≤ n) : gO f m := fun i hi => h i (by omega)
theorem gO_upd {f : Nat → Int32} {n i : Nat} {x : Int32} (h : gO f n) (hx : 0 ≤ x.toInt ∧ x.toInt ≤ 9) : gO (upd f i x) n := fun j hj => by
  by_cases e : j = i
  · subst e; rw [v_eq]; exact hx
  · rw [v_ne e]; exact h j hj
theorem gO_push {f : Nat → Int32} {n : Nat} {x : Int32} (h : gO f n) (hx : 0 ≤ x.toInt ∧ x.toInt ≤ 9) : gO (upd f n x) (n + 1) := fun j hj => by
  by_cases e : j = n
  · subst e; rw [v_eq]; exact hx
  · rw [v_ne e]; exact h j (by omega)
/-- the registers of decimals -/
def gR (k m s c : Nat → Int32) : Prop := gO k 10000 ∧ ∀ i, i < 10 → (1 ≤ (m i).toInt ∧ (m i).toInt ≤ 1000) ∧ (0 ≤ (s i).toInt ∧ (s i).toInt ≤ 1) ∧ (-10000 ≤ (c i).toInt ∧ (c i).toInt ≤ 10000)
theorem g_no {x : Int32} (h : F_DR_no x = 0) : 0 ≤ x.toInt ∧ x.toInt ≤ 9 := by
  have e0 : (0 : Int32).toInt = 0 := rfl
  have e1 : (10 : Int32).toInt = 10 := rfl
  unfold F_DR_no at h
  by_cases h1 : x < 0
  · rw [if_pos h1] at h
    exact absurd h (by decide)
  · rw [if_neg h1] at h
    by_cases h2 : x < 10
    · have a := q_nltI h1
      have b := q_ltI h2
      omega
    · rw [if_neg h2] at h
      exact absurd h (by decide)
theorem gR.at {k m s c : Nat → Int32} {x : Int32} (h : gR k m s c) (hx : 0 ≤ x.toInt ∧ x.toInt ≤ 9) : (1 ≤ (m x.toNatClampNeg).toInt ∧ (m x.toNatClampNeg).toInt ≤ 1000) ∧ (0 ≤ (s x.toNatClampNeg).toInt ∧ (s x.toNatClampNeg).toInt ≤ 1) ∧ (-10000 ≤ (c x.toNatClampNeg).toInt ∧ (c x.toNatClampNeg).toInt ≤ 10000) := h.2 _ (by have := q_clI (i := x) rfl hx.1; omega)
theorem g_ix {x k : Int32} (hx : 0 ≤ x.toInt ∧ x.toInt ≤ 9) (hk : 0 ≤ k.toInt ∧ k.toInt ≤ 1000) : ((1000 * x) + k : Int32).toInt = 1000 * x.toInt + k.toInt ∧ ((1000 * x) + k : Int32).toNatClampNeg = 1000 * x.toNatClampNeg + k.toNatClampNeg := by
  have e1 : (1000 * x : Int32).toInt = 1000 * x.toInt := q_mulI (x := 1000) (by decide) rfl (by omega) (by omega)
  have e2 : ((1000 * x) + k : Int32).toInt = 1000 * x.toInt + k.toInt := q_addI e1 rfl (by omega) (by omega)
  have e3 := q_clI (i := (1000 * x) + k) e2 (by omega)
  have e4 := q_clI (i := x) rfl hx.1
  have e5 := q_clI (i := k) rfl hk.1
  exact ⟨e2, by omega⟩
theorem g_i0 {x : Int32} (hx : 0 ≤ x.toInt ∧ x.toInt ≤ 9) : (1000 * x : Int32).toInt = 1000 * x.toInt := q_mulI (x := 1000) (by decide) rfl (by omega) (by omega)
theorem g_kx {k : Nat → Int32} {x i : Int32} (hk : gO k 10000) (hx : 0 ≤ x.toInt ∧ x.toInt ≤ 9) (hi : 0 ≤ i.toInt) (hi2 : i.toInt < 1000) : 0 ≤ (k ((1000 * x) + i : Int32).toNatClampNeg).toInt ∧ (k ((1000 * x) + i : Int32).toNatClampNeg).toInt ≤ 9 := by
  have h := (g_ix hx ⟨hi, by omega⟩).2
  have e4 := q_clI (i := x) rfl hx.1
  have e5 := q_clI (i := i) rfl hi
  rw [h]
  exact hk _ (by omega)
theorem g_cl {n z : Int32} {f : Nat → Int32} (h : gO f n.toNatClampNeg) (h0 : 0 ≤ z.toInt) (hz : z.toInt ≤ n.toInt) : gO f z.toNatClampNeg := h.mono (by have := q_clI (i := n) rfl (by omega); have := q_clI (i := z) rfl h0; omega)
theorem g_mv {n i j : Int32} {f : Nat → Int32} (h : gO f n.toNatClampNeg) (hj : 0 ≤ j.toInt) (hn : j.toInt < n.toInt) : gO (upd f i.toNatClampNeg (f j.toNatClampNeg)) n.toNatClampNeg := gO_upd h (h _ (by have := q_clI (i := n) rfl (by omega); have := q_clI (i := j) rfl hj; omega))
def Q_DR_trim (t0_0 t0_1 t0_2 : Int32) (t0_3 : Int64) (t0_4 t0_6 t0_7 t0_8 t0_9 t0_10 : Int32) (r : Nat → Int32) (p : Int32 × Int32 × Int32 × Int64 × Int32 × Int32 × Int32 × Int32 × Int32 × Int32 × Int32 × (Nat → Int32)) : Prop := (1 ≤ p.2.2.1.toInt ∧ p.2.2.1.toInt ≤ 4400 ∧ (p.2.2.1.toInt ≤ t0_2.toInt ∨ p.2.2.1.toInt = 1) ∧ (r 0 ≠ 0 → 1 ≤ t0_2.toInt → p.2.2.1 = t0_2)) ∧ gO p.2.2.2.2.2.2.2.2.2.2.2 p.2.2.1.toNatClampNeg ∧ (0 ≤ p.2.2.2.2.2.1.toInt ∧ p.2.2.2.2.2.1.toInt ≤ 1) ∧ p.1 = t0_0 ∧ p.2.1 = t0_1 ∧ p.2.2.2.1 = t0_3 ∧ p.2.2.2.2.1 = t0_4 ∧ p.2.2.2.2.2.2.1 = t0_6 ∧ p.2.2.2.2.2.2.2.1 = t0_7 ∧ p.2.2.2.2.2.2.2.2.1 = t0_8 ∧ p.2.2.2.2.2.2.2.2.2.1 = t0_9 ∧ p.2.2.2.2.2.2.2.2.2.2.1 = t0_10
theorem g_trimA {t z : Int32} {f : Nat → Int32} (hg : gO f t.toNatClampNeg) (ht : 0 ≤ t.toInt) (hz : 0 ≤ z.toInt) (h : z.toInt < t.toInt ∨ z.toInt = 0) : gO f (t - z : Int32).toNatClampNeg ∧ (t - z : Int32).toInt = t.toInt - z.toInt := by
  have hb := Int32.toInt_lt t
  have e : (t - z : Int32).toInt = t.toInt - z.toInt := q_subI rfl rfl (by omega) (by omega)
  exact ⟨g_cl hg (by omega) (by omega), e⟩
theorem g_one {f : Nat → Int32} : gO (upd f (0 : Int32).toNatClampNeg 0) (1 : Int32).toNatClampNeg := fun i hi => by
  have e : (1 : Int32).toNatClampNeg = 1 := rfl
  have : i = 0 := by omega
  subst this
  have e2 : upd f (0 : Int32).toNatClampNeg 0 0 = 0 := v_eq
  rw [e2]
  exact ⟨by decide, by decide⟩
theorem v_trm1 {K_F_DR_trim_L2 : Int32 → (Int32 × Int32 × Int32 × Int64 × Int32 × Int32 × Int32 × Int32 × Int32 × Int32 × Int32 × (Nat → Int32))} {t0_0 : Int32} {t0_1 : Int32} {t0_2 : Int32} {t0_3 : Int64} {t0_4 : Int32} {t0_5 : Int32} {t0_6 : Int32} {t0_7 : Int32} {t0_8 : Int32} {t0_9 : Int32} {t0_10 : Int32} {t1_0 : (Nat → Int32)} {lx21 : Int32} {K_S_DR_trim_L2 : Int32 → Prop} (h2 : 0 ≤ t0_2.toInt ∧ t0_2.toInt ≤ 4400) (hg : gO t1_0 t0_2.toNatClampNeg)(h21 : 0 ≤ lx21.toInt ∧ (lx21.toInt < t0_2.toInt ∨ lx21.toInt = 0)) (hz : t1_0 0 ≠ 0 → lx21.toInt = 0) : ∀ (n : Nat) (lx42 : Int32) (lx43 : (Nat → Int32)), (0 ≤ lx42.toInt ∧ lx42.toInt ≤ 4400 ∧ (lx42.toInt + lx21.toInt ≤ t0_2.toInt ∨ lx42.toInt = 0)) → (12200 - lx42.toInt < (n : Int)) → (gO lx43 t0_2.toNatClampNeg) → (S_DR_trim_L29 K_S_DR_trim_L2 t0_0 t0_1 t0_2 t0_3 t0_4 t0_5 t0_6 t0_7 t0_8 t0_9 t0_10 t1_0 lx21 n lx42 lx43) ∧ Q_DR_trim t0_0 t0_1 t0_2 t0_3 t0_4 t0_6 t0_7 t0_8 t0_9 t0_10 t1_0 (F_DR_trim_L29 K_F_DR_trim_L2 t0_0 t0_1 t0_2 t0_3 t0_4 t0_5 t0_6 t0_7 t0_8 t0_9 t0_10 t1_0 lx21 n lx42 lx43) := by
  intro n
  induction n with
  | zero => intro lx42 lx43 h0 hm ho; exact absurd (show False by omega) id
  | succ n ih =>
    intro lx42 lx43 h0 hm ho
    have e0 : (0 : Int32).toInt = 0 := rfl
    rw [S_DR_trim_L29.eq_2, F_DR_trim_L29.eq_2]
    obtain ⟨a1, e2⟩ := q_nm (lx42 + lx21 : Int32)
    rw [e2]
    have a1i : a1.toInt = lx42.toInt + lx21.toInt := by rw [← e2]; exact q_addI (x := lx42.toInt) (y := lx21.toInt) rfl rfl (by omega) (by omega)
    by_cases g3 : t0_2 ≤ a1
    ·
      rw [if_pos g3, if_pos g3]
      have g3i : t0_2.toInt ≤ a1.toInt := q_leI g3
      by_cases g4 : t0_2 = (0 : Int32)
      ·
        rw [if_pos g4, if_pos g4]
        have g4i : t0_2.toInt = 0 := q_eqI g4
        unfold S_DR_trim_J91 F_DR_trim_J91
        by_cases g5 : t0_5 = (0 : Int32)
        ·
          rw [if_pos g5, if_pos g5]
          refine ⟨trivial, ?_⟩
          (unfold Q_DR_trim; dsimp only; first | (refine ⟨⟨by decide, by decide, Or.inr (by decide), fun a b => by have h9 := q_eqI (by with_reducible assumption : t0_2 = 0); omega⟩, g_one, by decide, rfl, rfl, rfl, rfl, rfl, rfl, rfl, rfl, rfl⟩) | (refine ⟨⟨?_, ?_, ?_, ?_⟩, (g_trimA ho h2.1 h21.1 h21.2).1, by decide, rfl, rfl, rfl, rfl, rfl, rfl, rfl, rfl, rfl⟩; all_goals (first | omega | (intro a b; have ez := (g_trimA ho h2.1 h21.1 h21.2).2; have := hz a; exact Int32.toInt_inj.mp (by omega)) | (have ez := (g_trimA ho h2.1 h21.1 h21.2).2; omega))))
        ·
          rw [if_neg g5, if_neg g5]
          by_cases g6 : ((upd lx43 (0 : Int32).toNatClampNeg 0 : (Nat → Int32)) (0 : Int32).toNatClampNeg : Int32) = (0 : Int32)
          ·
            rw [if_pos g6, if_pos g6]
            refine ⟨trivial, ?_⟩
            (unfold Q_DR_trim; dsimp only; first | (refine ⟨⟨by decide, by decide, Or.inr (by decide), fun a b => by have h9 := q_eqI (by with_reducible assumption : t0_2 = 0); omega⟩, g_one, by decide, rfl, rfl, rfl, rfl, rfl, rfl, rfl, rfl, rfl⟩) | (refine ⟨⟨?_, ?_, ?_, ?_⟩, (g_trimA ho h2.1 h21.1 h21.2).1, by decide, rfl, rfl, rfl, rfl, rfl, rfl, rfl, rfl, rfl⟩; all_goals (first | omega | (intro a b; have ez := (g_trimA ho h2.1 h21.1 h21.2).2; have := hz a; exact Int32.toInt_inj.mp (by omega)) | (have ez := (g_trimA ho h2.1 h21.1 h21.2).2; omega))))
          ·
            rw [if_neg g6, if_neg g6]
            refine ⟨trivial, ?_⟩
            (unfold Q_DR_trim; dsimp only; first | (refine ⟨⟨by decide, by decide, Or.inr (by decide), fun a b => by have h9 := q_eqI (by with_reducible assumption : t0_2 = 0); omega⟩, g_one, by decide, rfl, rfl, rfl, rfl, rfl, rfl, rfl, rfl, rfl⟩) | (refine ⟨⟨?_, ?_, ?_, ?_⟩, (g_trimA ho h2.1 h21.1 h21.2).1, by decide, rfl, rfl, rfl, rfl, rfl, rfl, rfl, rfl, rfl⟩; all_goals (first | omega | (intro a b; have ez := (g_trimA ho h2.1 h21.1 h21.2).2; have := hz a; exact Int32.toInt_inj.mp (by omega)) | (have ez := (g_trimA ho h2.1 h21.1 h21.2).2; omega))))
      ·
        rw [if_neg g4, if_neg g4]
        have g4i : t0_2.toInt ≠ 0 := q_neI g4
        unfold S_DR_trim_J91 F_DR_trim_J91
        by_cases g7 : t0_5 = (0 : Int32)
        ·
          rw [if_pos g7, if_pos g7]
          refine ⟨trivial, ?_⟩
          (unfold Q_DR_trim; dsimp only; first | (refine ⟨⟨by decide, by decide, Or.inr (by decide), fun a b => by have h9 := q_eqI (by with_reducible assumption : t0_2 = 0); omega⟩, g_one, by decide, rfl, rfl, rfl, rfl, rfl, rfl, rfl, rfl, rfl⟩) | (refine ⟨⟨?_, ?_, ?_, ?_⟩, (g_trimA ho h2.1 h21.1 h21.2).1, by decide, rfl, rfl, rfl, rfl, rfl, rfl, rfl, rfl, rfl⟩; all_goals (first | omega | (intro a b; have ez := (g_trimA ho h2.1 h21.1 h21.2).2; have := hz a; exact Int32.toInt_inj.mp (by omega)) | (have ez := (g_trimA ho h2.1 h21.1 h21.2).2; omega))))
        ·
          rw [if_neg g7, if_neg g7]
          by_cases g8 : (lx43 (0 : Int32).toNatClampNeg : Int32) = (0 : Int32)
          ·
            rw [if_pos g8, if_pos g8]
            refine ⟨trivial, ?_⟩
            (unfold Q_DR_trim; dsimp only; first | (refine ⟨⟨by decide, by decide, Or.inr (by decide), fun a b => by have h9 := q_eqI (by with_reducible assumption : t0_2 = 0); omega⟩, g_one, by decide, rfl, rfl, rfl, rfl, rfl, rfl, rfl, rfl, rfl⟩) | (refine ⟨⟨?_, ?_, ?_, ?_⟩, (g_trimA ho h2.1 h21.1 h21.2).1, by decide, rfl, rfl, rfl, rfl, rfl, rfl, rfl, rfl, rfl⟩; all_goals (first | omega | (intro a b; have ez := (g_trimA ho h2.1 h21.1 h21.2).2; have := hz a; exact Int32.toInt_inj.mp (by omega)) | (have ez := (g_trimA ho h2.1 h21.1 h21.2).2; omega))))
          ·
            rw [if_neg g8, if_neg g8]
            refine ⟨trivial, ?_⟩
            (unfold Q_DR_trim; dsimp only; first | (refine ⟨⟨by decide, by decide, Or.inr (by decide), fun a b => by have h9 := q_eqI (by with_reducible assumption : t0_2 = 0); omega⟩, g_one, by decide, rfl, rfl, rfl, rfl, rfl, rfl, rfl, rfl, rfl⟩) | (refine ⟨⟨?_, ?_, ?_, ?_⟩, (g_trimA ho h2.1 h21.1 h21.2).1, by decide, rfl, rfl, rfl, rfl, rfl, rfl, rfl, rfl, rfl⟩; all_goals (first | omega | (intro a b; have ez := (g_trimA ho h2.1 h21.1 h21.2).2; have := hz a; exact Int32.toInt_inj.mp (by omega)) | (have ez := (g_trimA ho h2.1 h21.1 h21.2).2; omega))))
    ·
      rw [if_neg g3, if_neg g3]
      have g3i : a1.toInt < t0_2.toInt := q_nleI g3
      refine v_cons (by omega) ?_
      obtain ⟨a9, e10⟩ := q_nm (lx42 + 1 : Int32)
      rw [e10]
      have a9i : a9.toInt = lx42.toInt + 1 := by rw [← e10]; exact q_addI (x := lx42.toInt) (y := 1) rfl (by decide) (by omega) (by omega)
      exact ih _ _ ⟨by omega, by omega, by omega⟩ (by omega) (g_mv ho (by omega) (by omega))
theorem v_trm2 {t0_0 : Int32} {t0_1 : Int32} {t0_2 : Int32} {t0_3 : Int64} {t0_4 : Int32} {t0_5 : Int32} {t0_6 : Int32} {t0_7 : Int32} {t0_8 : Int32} {t0_9 : Int32} {t0_10 : Int32} {t1_0 : (Nat → Int32)} (h2 : 0 ≤ t0_2.toInt ∧ t0_2.toInt ≤ 4400) (hg : gO t1_0 t0_2.toNatClampNeg) : ∀ (n : Nat) (lx21 : Int32), (0 ≤ lx21.toInt ∧ lx21.toInt ≤ 4400 ∧ (lx21.toInt < t0_2.toInt ∨ lx21.toInt = 0)) → (12200 - lx21.toInt < (n : Int)) → (t1_0 0 ≠ 0 → lx21.toInt = 0) → (S_DR_trim_L2 t0_0 t0_1 t0_2 t0_3 t0_4 t0_5 t0_6 t0_7 t0_8 t0_9 t0_10 t1_0 n lx21) ∧ Q_DR_trim t0_0 t0_1 t0_2 t0_3 t0_4 t0_6 t0_7 t0_8 t0_9 t0_10 t1_0 (F_DR_trim_L2 t0_0 t0_1 t0_2 t0_3 t0_4 t0_5 t0_6 t0_7 t0_8 t0_9 t0_10 t1_0 n lx21) := by
  intro n
  induction n with
  | zero => intro lx21 h0 hm hz; exact absurd (show False by omega) id
  | succ n ih =>
    intro lx21 h0 hm hz
    have e0 : (0 : Int32).toInt = 0 := rfl
    rw [S_DR_trim_L2.eq_2, F_DR_trim_L2.eq_2]
    obtain ⟨a1, e2⟩ := q_nm (lx21 + 1 : Int32)
    rw [e2]
    have a1i : a1.toInt = lx21.toInt + 1 := by rw [← e2]; exact q_addI (x := lx21.toInt) (y := 1) rfl (by decide) (by omega) (by omega)
    by_cases g3 : t0_2 ≤ a1
    ·
      rw [if_pos g3, if_pos g3]
      have g3i : t0_2.toInt ≤ a1.toInt := q_leI g3
      unfold S_DR_trim_J27 F_DR_trim_J27
      exact v_trm1 h2 hg ⟨h0.1, h0.2.2⟩ hz _ _ _ (by omega) (by decide) hg
    ·
      rw [if_neg g3, if_neg g3]
      have g3i : a1.toInt < t0_2.toInt := q_nleI g3
      refine v_cons (by omega) ?_
      by_cases g4 : (t1_0 lx21.toNatClampNeg : Int32) = (0 : Int32)
      ·
        rw [if_pos g4, if_pos g4]
        exact ih _ ⟨by omega, by omega, by omega⟩ (by omega) (fun hne => by have h9 := hz hne; have e9 : lx21 = 0 := Int32.toInt_inj.mp (by omega); subst e9; exact absurd (by assumption) hne)
      ·
        rw [if_neg g4, if_neg g4]
        unfold S_DR_trim_J27 F_DR_trim_J27
        exact v_trm1 h2 hg ⟨h0.1, h0.2.2⟩ hz _ _ _ (by omega) (by decide) hg
theorem T_DR_trim {t0_0 : Int32} {t0_1 : Int32} {t0_2 : Int32} {t0_3 : Int64} {t0_4 : Int32} {t0_5 : Int32} {t0_6 : Int32} {t0_7 : Int32} {t0_8 : Int32} {t0_9 : Int32} {t0_10 : Int32} {t1_0 : (Nat → Int32)} (h2 : 0 ≤ t0_2.toInt ∧ t0_2.toInt ≤ 4400) (hg : gO t1_0 t0_2.toNatClampNeg) : (S_DR_trim t0_0 t0_1 t0_2 t0_3 t0_4 t0_5 t0_6 t0_7 t0_8 t0_9 t0_10 t1_0) ∧ Q_DR_trim t0_0 t0_1 t0_2 t0_3 t0_4 t0_6 t0_7 t0_8 t0_9 t0_10 t1_0 (F_DR_trim t0_0 t0_1 t0_2 t0_3 t0_4 t0_5 t0_6 t0_7 t0_8 t0_9 t0_10 t1_0) := by
  have e0 : (0 : Int32).toInt = 0 := rfl
  unfold S_DR_trim F_DR_trim
  exact v_trm2 h2 hg _ _ (by omega) (by decide) (fun _ => rfl)
theorem g_lc1 {a b : Int64} (h : lg_cmp a b < 0) : a.toInt < b.toInt := by
  have h1 := q_ltI h
  have h2 := s_lcmp (a := a) (b := b)
  have e0 : (0 : Int32).toInt = 0 := rfl
  omega
theorem g_lc2 {a b : Int64} (h : ¬ lg_cmp a b < 0) : b.toInt ≤ a.toInt := by
  have h1 := q_nltI h
  have h2 := s_lcmp (a := a) (b := b)
  have e0 : (0 : Int32).toInt = 0 := rfl
  omega
theorem g_lc3 {a b : Int64} (h : lg_cmp a b ≤ 0) : a.toInt ≤ b.toInt := by
  have h1 := q_leI h
  have h2 := s_lcmp (a := a) (b := b)
  have e0 : (0 : Int32).toInt = 0 := rfl
  omega
theorem g_lc4 {a b : Int64} (h : ¬ lg_cmp a b ≤ 0) : b.toInt < a.toInt := by
  have h1 := q_nleI h
  have h2 := s_lcmp (a := a) (b := b)
  have e0 : (0 : Int32).toInt = 0 := rfl
  omega
theorem g_lc5 {a b : Int64} (h : 0 ≤ lg_cmp a b) : b.toInt ≤ a.toInt := by
  have h1 := q_leI h
  have h2 := s_lcmp (a := a) (b := b)
  have e0 : (0 : Int32).toInt = 0 := rfl
  omega
theorem g_lc6 {a b : Int64} (h : ¬ 0 ≤ lg_cmp a b) : a.toInt < b.toInt := by
  have h1 := q_nleI h
  have h2 := s_lcmp (a := a) (b := b)
  have e0 : (0 : Int32).toInt = 0 := rfl
  omega
theorem g_nb {y : Int32} (h : 0 ≤ y.toInt ∧ y.toInt ≤ 1) : (vp_nar .boolean y : Int32) = y := by
  by_cases c : y.toInt = 0
  · have : y = 0 := Int32.toInt_inj.mp c
    rw [this]; decide
  · have : y = 1 := Int32.toInt_inj.mp (show y.toInt = 1 by omega)
    rw [this]; decide
theorem g_st {k m s c g : Nat → Int32} {x a b : Int32} {d : Int64} (h : gR k m s c) (hg : gO g 10000) (ha : 1 ≤ a.toInt ∧ a.toInt ≤ 1000) (hb : 0 ≤ b.toInt ∧ b.toInt ≤ 1) (hd : -10000 ≤ d.toInt ∧ d.toInt ≤ 10000) : gR g (upd m x.toNatClampNeg a) (upd s x.toNatClampNeg (vp_nar .boolean b)) (upd c x.toNatClampNeg d.toInt32) := by
  have e : d.toInt32.toInt = d.toInt := s_l2i (by omega) (by omega)
  refine ⟨hg, fun i hi => ?_⟩
  rw [g_nb hb]
  by_cases c : i = x.toNatClampNeg
  · subst c
    rw [v_eq, v_eq, v_eq, e]
    exact ⟨ha, hb, hd⟩
  · rw [v_ne c, v_ne c, v_ne c]
    exact h.2 i hi
def Q_DR_store (p : Int32 × Int32 × Int32 × Int64 × Int32 × Int32 × Int32 × Int32 × Int32 × Int32 × Int32 × (Nat → Int32) × (Nat → Int32) × (Nat → Int32) × (Nat → Int32) × (Nat → Int32)) : Prop := gR p.2.2.2.2.2.2.2.2.2.2.2.1 p.2.2.2.2.2.2.2.2.2.2.2.2.1 p.2.2.2.2.2.2.2.2.2.2.2.2.2.1 p.2.2.2.2.2.2.2.2.2.2.2.2.2.2.1
theorem v_sto {x2 : Int32} {t0_0 : Int32} {t0_1 : Int32} {t0_2 : Int32} {t0_3 : Int64} {t0_4 : Int32} {t0_5 : Int32} {t0_6 : Int32} {t0_7 : Int32} {t0_8 : Int32} {t0_9 : Int32} {t0_10 : Int32} {t1_0 : (Nat → Int32)} {t2_0 : (Nat → Int32)} {t3_0 : (Nat → Int32)} {t4_0 : (Nat → Int32)} {t5_0 : (Nat → Int32)} {p75 : (Int32 × Int32 × Int32 × Int64 × Int32 × Int32 × Int32 × Int32 × Int32 × Int32 × Int32 × (Nat → Int32))} {y36 : Int32} {y37 : Int32} {y38 : Int32} {y39 : Int64} {y40 : Int32} {y41 : Int32} {y42 : Int32} {y43 : Int32} {y44 : Int32} {y45 : Int32} {y46 : Int32} {f47 : (Nat → Int32)} (hR : gR t1_0 t2_0 t3_0 t4_0) (hx : 0 ≤ x2.toInt ∧ x2.toInt ≤ 9)(h38 : 1 ≤ y38.toInt ∧ y38.toInt ≤ 1000) (hg : gO f47 y38.toNatClampNeg) (h41 : 0 ≤ y41.toInt ∧ y41.toInt ≤ 1) (h39 : -10000 ≤ y39.toInt ∧ y39.toInt ≤ 10000) : ∀ (n : Nat) (lx113 : Int32) (lx114 : (Nat → Int32)), (0 ≤ lx113.toInt ∧ lx113.toInt ≤ y38.toInt) → (1000 - lx113.toInt < (n : Int)) → (gO lx114 10000) → (S_DR_store_L47 x2 t0_0 t0_1 t0_2 t0_3 t0_4 t0_5 t0_6 t0_7 t0_8 t0_9 t0_10 t1_0 t2_0 t3_0 t4_0 t5_0 p75 y36 y37 y38 y39 y40 y41 y42 y43 y44 y45 y46 f47 n lx113 lx114) ∧ Q_DR_store (F_DR_store_L47 x2 t0_0 t0_1 t0_2 t0_3 t0_4 t0_5 t0_6 t0_7 t0_8 t0_9 t0_10 t1_0 t2_0 t3_0 t4_0 t5_0 p75 y36 y37 y38 y39 y40 y41 y42 y43 y44 y45 y46 f47 n lx113 lx114) := by
  intro n
  induction n with
  | zero => intro lx113 lx114 h0 hm ho; exact absurd (show False by omega) id
  | succ n ih =>
    intro lx113 lx114 h0 hm ho
    rw [S_DR_store_L47.eq_2, F_DR_store_L47.eq_2]
    by_cases g1 : y38 ≤ lx113
    ·
      rw [if_pos g1, if_pos g1]
      have g1i : y38.toInt ≤ lx113.toInt := q_leI g1
      refine v_cons (by omega) ?_
      refine v_cons (by omega) ?_
      refine ⟨trivial, ?_⟩
      (unfold Q_DR_store; dsimp only; exact g_st hR ho h38 h41 h39)
    ·
      rw [if_neg g1, if_neg g1]
      have g1i : lx113.toInt < y38.toInt := q_nleI g1
      refine v_cons (by have := (g_ix (x := x2) (k := lx113) (by with_reducible assumption) ⟨by omega, by omega⟩).1; omega) ?_
      refine v_cons (by have := (g_ix (x := x2) (k := lx113) (by with_reducible assumption) ⟨by omega, by omega⟩).1; omega) ?_
      obtain ⟨a2, e3⟩ := q_nm (lx113 + 1 : Int32)
      rw [e3]
      have a2i : a2.toInt = lx113.toInt + 1 := by rw [← e3]; exact q_addI (x := lx113.toInt) (y := 1) rfl (by decide) (by omega) (by omega)
      exact ih _ _ ⟨by omega, by omega⟩ (by omega) (gO_upd ho (hg _ (by have e7 := q_clI (i := y38) rfl (by omega); have e8 := q_clI (i := lx113) rfl (by omega); omega)))
theorem T_DR_store {x2 : Int32} {t0_0 : Int32} {t0_1 : Int32} {t0_2 : Int32} {t0_3 : Int64} {t0_4 : Int32} {t0_5 : Int32} {t0_6 : Int32} {t0_7 : Int32} {t0_8 : Int32} {t0_9 : Int32} {t0_10 : Int32} {t1_0 : (Nat → Int32)} {t2_0 : (Nat → Int32)} {t3_0 : (Nat → Int32)} {t4_0 : (Nat → Int32)} {t5_0 : (Nat → Int32)} (hR : gR t1_0 t2_0 t3_0 t4_0) (hx : 0 ≤ x2.toInt ∧ x2.toInt ≤ 9)(h2 : 0 ≤ t0_2.toInt ∧ t0_2.toInt ≤ 4400) (hg : gO t5_0 t0_2.toNatClampNeg) : (S_DR_store x2 t0_0 t0_1 t0_2 t0_3 t0_4 t0_5 t0_6 t0_7 t0_8 t0_9 t0_10 t1_0 t2_0 t3_0 t4_0 t5_0) ∧ Q_DR_store (F_DR_store x2 t0_0 t0_1 t0_2 t0_3 t0_4 t0_5 t0_6 t0_7 t0_8 t0_9 t0_10 t1_0 t2_0 t3_0 t4_0 t5_0) := by
  have e0 : (0 : Int32).toInt = 0 := rfl
  have eL0 : (0 : Int64).toInt = 0 := rfl
  have eL1 : (10000 : Int64).toInt = 10000 := rfl
  have eL2 : (-10000 : Int64).toInt = -10000 := rfl
  have eL3 : (1000 : Int64).toInt = 1000 := rfl
  have eL4 : (-1 : Int64).toInt = -1 := rfl
  have eI3 : (1000 : Int32).toInt = 1000 := rfl
  unfold S_DR_store F_DR_store
  have h1 := T_DR_trim (t0_0 := t0_0) (t0_1 := t0_1) (t0_2 := t0_2) (t0_3 := t0_3) (t0_4 := t0_4) (t0_5 := t0_5) (t0_6 := t0_6) (t0_7 := t0_7) (t0_8 := t0_8) (t0_9 := t0_9) (t0_10 := t0_10) (t1_0 := t5_0) (by first | with_reducible assumption | omega | decide) (by first | with_reducible assumption | omega | decide)
  with_reducible refine v_owe h1.1 ?_
  replace h1 := h1.2
  generalize F_DR_trim t0_0 t0_1 t0_2 t0_3 t0_4 t0_5 t0_6 t0_7 t0_8 t0_9 t0_10 t5_0 = p75 at *
  unfold Q_DR_trim at h1
  obtain ⟨⟨h11, h12, h13, h19⟩, h1g, h15, h1a, h1b, h1s, h1m, h1x6, h1x7, h1x8, h1x9, h1x10⟩ := h1
  unfold S_DR_store_c1 F_DR_store_c1
  by_cases g2 : (1000 : Int32) < (p75.2.2.1 : Int32)
  ·
    rw [if_pos g2, if_pos g2]
    have g2i := q_ltI g2
    refine ⟨trivial, ?_⟩
    (unfold Q_DR_store; dsimp only; exact hR)
  ·
    rw [if_neg g2, if_neg g2]
    have g2i := q_nltI g2
    by_cases g3 : (lg_cmp (p75.2.2.2.1 : Int64) (-10000) : Int32) < (0 : Int32)
    ·
      rw [if_pos g3, if_pos g3]
      have g3l := g_lc1 g3
      refine ⟨trivial, ?_⟩
      (unfold Q_DR_store; dsimp only; exact hR)
    ·
      rw [if_neg g3, if_neg g3]
      have g3l := g_lc2 g3
      by_cases g4 : (lg_cmp (p75.2.2.2.1 : Int64) 10000 : Int32) ≤ (0 : Int32)
      ·
        rw [if_pos g4, if_pos g4]
        have g4l := g_lc3 g4
        exact v_sto hR hx ⟨by omega, by omega⟩ (by with_reducible assumption) (by omega) ⟨by omega, by omega⟩ _ _ _ (by omega) (by decide) hR.1
      ·
        rw [if_neg g4, if_neg g4]
        have g4l := g_lc4 g4
        refine ⟨trivial, ?_⟩
        (unfold Q_DR_store; dsimp only; exact hR)
def Q_DR_load (x2 t0_10 : Int32) (t1_0 : Nat → Int32) (p : Int32 × Int32 × Int32 × Int64 × Int32 × Int32 × Int32 × Int32 × Int32 × Int32 × Int32 × (Nat → Int32)) : Prop := (1 ≤ p.2.2.1.toInt ∧ p.2.2.1.toInt ≤ 1000) ∧ gO p.2.2.2.2.2.2.2.2.2.2.2 p.2.2.1.toNatClampNeg ∧ (-10000 ≤ p.2.2.2.1.toInt ∧ p.2.2.2.1.toInt ≤ 10000) ∧ p.2.2.2.2.1 = 0 ∧ (0 ≤ p.2.2.2.2.2.1.toInt ∧ p.2.2.2.2.2.1.toInt ≤ 1) ∧ (p.2.2.2.2.2.2.2.2.2.2.2 0 = t1_0 (1000 * x2).toNatClampNeg) ∧ p.2.2.2.2.2.2.2.2.2.2.1 = t0_10
theorem g_ldS {x k k1 : Int32} {K r : Nat → Int32} (hx : 0 ≤ x.toInt ∧ x.toInt ≤ 9) (hk : 0 ≤ k.toInt ∧ k.toInt < 1000) (h1 : k1.toInt = k.toInt + 1) (hr : ∀ i : Nat, (i : Int) < k.toInt → r i = K (1000 * x.toNatClampNeg + i)) : ∀ i : Nat, (i : Int) < k1.toInt → upd r k.toNatClampNeg (K ((1000 * x) + k : Int32).toNatClampNeg) i = K (1000 * x.toNatClampNeg + i) := fun i hi => by
  have e8 := q_clI (i := k) rfl hk.1
  rw [(g_ix hx ⟨hk.1, by omega⟩).2]
  by_cases c : i = k.toNatClampNeg
  · rw [c, v_eq]
  · rw [v_ne c]; exact hr i (by omega)
theorem g_ld {x : Int32} {k r : Nat → Int32} (hx : 0 ≤ x.toInt ∧ x.toInt ≤ 9) (h : ∀ i : Nat, (i : Int) < 1 → r i = k (1000 * x.toNatClampNeg + i)) : r 0 = k (1000 * x : Int32).toNatClampNeg := by
  have e := q_clI (i := 1000 * x) (g_i0 hx) (by omega)
  have e4 := q_clI (i := x) rfl hx.1
  have e5 : (1000 * x : Int32).toNatClampNeg = 1000 * x.toNatClampNeg := by omega
  rw [e5]
  exact h 0 (by decide)
theorem v_loa {x2 : Int32} {t0_0 : Int32} {t0_1 : Int32} {t0_2 : Int32} {t0_3 : Int64} {t0_4 : Int32} {t0_5 : Int32} {t0_6 : Int32} {t0_7 : Int32} {t0_8 : Int32} {t0_9 : Int32} {t0_10 : Int32} {t1_0 : (Nat → Int32)} {t2_0 : (Nat → Int32)} {t3_0 : (Nat → Int32)} {t4_0 : (Nat → Int32)} {t5_0 : (Nat → Int32)} {a34 : Int32} (hR : gR t1_0 t2_0 t3_0 t4_0) (hx : 0 ≤ x2.toInt ∧ x2.toInt ≤ 9)(ha : 1 ≤ a34.toInt ∧ a34.toInt ≤ 1000) : ∀ (n : Nat) (lx39 : Int32) (lx40 : (Nat → Int32)), (0 ≤ lx39.toInt ∧ lx39.toInt ≤ a34.toInt) → (12200 - lx39.toInt < (n : Int)) → (∀ i : Nat, (i : Int) < lx39.toInt → lx40 i = t1_0 (1000 * x2.toNatClampNeg + i)) → (S_DR_load_L12 x2 t0_0 t0_1 t0_2 t0_3 t0_4 t0_5 t0_6 t0_7 t0_8 t0_9 t0_10 t1_0 t2_0 t3_0 t4_0 t5_0 a34 n lx39 lx40) ∧ Q_DR_load x2 t0_10 t1_0 (F_DR_load_L12 x2 t0_0 t0_1 t0_2 t0_3 t0_4 t0_5 t0_6 t0_7 t0_8 t0_9 t0_10 t1_0 t2_0 t3_0 t4_0 t5_0 a34 n lx39 lx40) := by
  intro n
  induction n with
  | zero => intro lx39 lx40 h0 hm hr; exact absurd (show False by omega) id
  | succ n ih =>
    intro lx39 lx40 h0 hm hr
    rw [S_DR_load_L12.eq_2, F_DR_load_L12.eq_2]
    by_cases g1 : a34 ≤ lx39
    ·
      rw [if_pos g1, if_pos g1]
      have g1i : a34.toInt ≤ lx39.toInt := q_leI g1
      refine v_cons (by have := (gR.at hR hx).2.1; omega) ?_
      refine v_cons (by have := (gR.at hR hx).2.1; omega) ?_
      refine ⟨trivial, ?_⟩
      (unfold Q_DR_load; dsimp only; (refine ⟨⟨ha.1, ha.2⟩, fun i hi => (by rw [hr i (by have e7 := q_clI (i := a34) rfl (by omega); omega)]; exact hR.1 _ (by have e7 := q_clI (i := a34) rfl (by omega); have e8 := q_clI (i := x2) rfl hx.1; omega)), ?_, rfl, (gR.at hR hx).2.1, g_ld hx (fun i hi => hr i (by omega)), rfl⟩; rw [q_i2l rfl]; exact (gR.at hR hx).2.2))
    ·
      rw [if_neg g1, if_neg g1]
      have g1i : lx39.toInt < a34.toInt := q_nleI g1
      refine v_cons (by have := (g_ix (x := x2) (k := lx39) (by with_reducible assumption) ⟨by omega, by omega⟩).1; omega) ?_
      refine v_cons (by omega) ?_
      obtain ⟨a2, e3⟩ := q_nm (lx39 + 1 : Int32)
      rw [e3]
      have a2i : a2.toInt = lx39.toInt + 1 := by rw [← e3]; exact q_addI (x := lx39.toInt) (y := 1) rfl (by decide) (by omega) (by omega)
      exact ih _ _ ⟨by omega, by omega⟩ (by omega) (g_ldS hx ⟨by omega, by omega⟩ a2i hr)
theorem T_DR_load {x2 : Int32} {t0_0 : Int32} {t0_1 : Int32} {t0_2 : Int32} {t0_3 : Int64} {t0_4 : Int32} {t0_5 : Int32} {t0_6 : Int32} {t0_7 : Int32} {t0_8 : Int32} {t0_9 : Int32} {t0_10 : Int32} {t1_0 : (Nat → Int32)} {t2_0 : (Nat → Int32)} {t3_0 : (Nat → Int32)} {t4_0 : (Nat → Int32)} {t5_0 : (Nat → Int32)} (hR : gR t1_0 t2_0 t3_0 t4_0) (hx : 0 ≤ x2.toInt ∧ x2.toInt ≤ 9) : (S_DR_load x2 t0_0 t0_1 t0_2 t0_3 t0_4 t0_5 t0_6 t0_7 t0_8 t0_9 t0_10 t1_0 t2_0 t3_0 t4_0 t5_0) ∧ Q_DR_load x2 t0_10 t1_0 (F_DR_load x2 t0_0 t0_1 t0_2 t0_3 t0_4 t0_5 t0_6 t0_7 t0_8 t0_9 t0_10 t1_0 t2_0 t3_0 t4_0 t5_0) := by
  have e0 : (0 : Int32).toInt = 0 := rfl
  unfold S_DR_load F_DR_load
  refine v_cons (by omega) ?_
  refine v_cons (by omega) ?_
  exact v_loa hR hx (gR.at hR hx).1 _ _ _ (by have := (gR.at hR hx).1; omega) (by decide) (fun i hi => by omega)

/-! DecimalRows: isMore, grows, cut, lengthen, needed -/
theorem v_ism {x2 : Int32} {t0_0 : Int32} {t0_1 : Int32} {t0_2 : Int32} {t0_3 : Int64} {t0_4 : Int32} {t0_5 : Int32} {t0_6 : Int32} {t0_7 : Int32} {t0_8 : Int32} {t0_9 : Int32} {t0_10 : Int32} {t1_0 : (Nat → Int32)} {lx20 : Int32} (h2 : 0 ≤ t0_2.toInt ∧ t0_2.toInt ≤ 4400) : ∀ (n : Nat) (lx33 : Int32) (lx34 : Int32), (0 ≤ lx33.toInt) → (t0_2.toInt - lx33.toInt < (n : Int)) → ((1 : Int) ≤ n ∨ lx33.toInt ≤ t0_2.toInt) → (S_DR_isMore_L15 x2 t0_0 t0_1 t0_2 t0_3 t0_4 t0_5 t0_6 t0_7 t0_8 t0_9 t0_10 t1_0 lx20 n lx33 lx34) := by
  intro n
  induction n with
  | zero => intro lx33 lx34 h0 hm hn; exact absurd (show False by omega) id
  | succ n ih =>
    intro lx33 lx34 h0 hm hn
    rw [S_DR_isMore_L15.eq_2]
    by_cases g1 : t0_2 ≤ lx33
    ·
      rw [if_pos g1]
      have g1i : t0_2.toInt ≤ lx33.toInt := q_leI g1
      exact trivial
    ·
      rw [if_neg g1]
      have g1i : lx33.toInt < t0_2.toInt := q_nleI g1
      by_cases g2 : lx34 = (0 : Int32)
      ·
        rw [if_pos g2]
        refine And.intro (by omega) ?_
        by_cases g3 : (t1_0 lx33.toNatClampNeg : Int32) = (0 : Int32)
        ·
          rw [if_pos g3]
          obtain ⟨a4, e5⟩ := q_nm (lx33 + 1 : Int32)
          rw [e5]
          have a4i : a4.toInt = lx33.toInt + 1 := by rw [← e5]; exact q_addI (x := lx33.toInt) (y := 1) rfl (by decide) (by omega) (by omega)
          exact ih _ _ (by first | with_reducible assumption | omega | decide) (by first | with_reducible assumption | omega | decide) (by first | with_reducible assumption | omega | decide)
        ·
          rw [if_neg g3]
          obtain ⟨a6, e7⟩ := q_nm (lx33 + 1 : Int32)
          rw [e7]
          have a6i : a6.toInt = lx33.toInt + 1 := by rw [← e7]; exact q_addI (x := lx33.toInt) (y := 1) rfl (by decide) (by omega) (by omega)
          exact ih _ _ (by first | with_reducible assumption | omega | decide) (by first | with_reducible assumption | omega | decide) (by first | with_reducible assumption | omega | decide)
      ·
        rw [if_neg g2]
        obtain ⟨a8, e9⟩ := q_nm (lx33 + 1 : Int32)
        rw [e9]
        have a8i : a8.toInt = lx33.toInt + 1 := by rw [← e9]; exact q_addI (x := lx33.toInt) (y := 1) rfl (by decide) (by omega) (by omega)
        exact ih _ _ (by first | with_reducible assumption | omega | decide) (by first | with_reducible assumption | omega | decide) (by first | with_reducible assumption | omega | decide)
theorem T_DR_isMore {x2 : Int32} {t0_0 : Int32} {t0_1 : Int32} {t0_2 : Int32} {t0_3 : Int64} {t0_4 : Int32} {t0_5 : Int32} {t0_6 : Int32} {t0_7 : Int32} {t0_8 : Int32} {t0_9 : Int32} {t0_10 : Int32} {t1_0 : (Nat → Int32)} (h2 : 0 ≤ t0_2.toInt ∧ t0_2.toInt ≤ 4400) : (S_DR_isMore x2 t0_0 t0_1 t0_2 t0_3 t0_4 t0_5 t0_6 t0_7 t0_8 t0_9 t0_10 t1_0) := by
  have e0 : (0 : Int32).toInt = 0 := rfl
  unfold S_DR_isMore
  by_cases g1 : (0 : Int32) ≤ x2
  ·
    rw [if_pos g1]
    have g1i : 0 ≤ x2.toInt := q_leI g1
    unfold S_DR_isMore_J14
    exact v_ism h2 _ _ _ (by omega) (by omega) (by omega)
  ·
    rw [if_neg g1]
    have g1i : x2.toInt < 0 := q_nleI g1
    unfold S_DR_isMore_J14
    exact v_ism h2 _ _ _ (by omega) (by omega) (by omega)
def Q_DR_grows (p : Int32) : Prop := 0 ≤ p.toInt ∧ p.toInt ≤ 2
theorem v_gr92 {x2 : Int32} {x3 : Int32} {t0_0 : Int32} {t0_1 : Int32} {t0_2 : Int32} {t0_3 : Int64} {t0_4 : Int32} {t0_5 : Int32} {t0_6 : Int32} {t0_7 : Int32} {t0_8 : Int32} {t0_9 : Int32} {t0_10 : Int32} {t1_0 : (Nat → Int32)} {lx20 : Int32} {lx39 : Int32} {lx50 : Int32} {lx61 : Int32}  : (S_DR_grows_J92 x2 x3 t0_0 t0_1 t0_2 t0_3 t0_4 t0_5 t0_6 t0_7 t0_8 t0_9 t0_10 t1_0 lx20 lx39 lx50 lx61) ∧ Q_DR_grows (F_DR_grows_J92 x2 x3 t0_0 t0_1 t0_2 t0_3 t0_4 t0_5 t0_6 t0_7 t0_8 t0_9 t0_10 t1_0 lx20 lx39 lx50 lx61) := by
  unfold S_DR_grows_J92 F_DR_grows_J92
  by_cases g1 : x3 = (0 : Int32)
  ·
    rw [if_pos g1, if_pos g1]
    by_cases g2 : lx50 = (0 : Int32)
    ·
      rw [if_pos g2, if_pos g2]
      refine ⟨trivial, ?_⟩
      (unfold Q_DR_grows; decide)
    ·
      rw [if_neg g2, if_neg g2]
      refine ⟨trivial, ?_⟩
      (unfold Q_DR_grows; decide)
  ·
    rw [if_neg g1, if_neg g1]
    by_cases g3 : x3 = (1 : Int32)
    ·
      rw [if_pos g3, if_pos g3]
      refine ⟨trivial, ?_⟩
      (unfold Q_DR_grows; decide)
    ·
      rw [if_neg g3, if_neg g3]
      by_cases g4 : x3 = (2 : Int32)
      ·
        rw [if_pos g4, if_pos g4]
        by_cases g5 : lx50 = (0 : Int32)
        ·
          rw [if_pos g5, if_pos g5]
          by_cases g6 : t0_5 = (0 : Int32)
          ·
            rw [if_pos g6, if_pos g6]
            refine ⟨trivial, ?_⟩
            (unfold Q_DR_grows; decide)
          ·
            rw [if_neg g6, if_neg g6]
            refine ⟨trivial, ?_⟩
            (unfold Q_DR_grows; decide)
        ·
          rw [if_neg g5, if_neg g5]
          refine ⟨trivial, ?_⟩
          (unfold Q_DR_grows; decide)
      ·
        rw [if_neg g4, if_neg g4]
        by_cases g7 : x3 = (3 : Int32)
        ·
          rw [if_pos g7, if_pos g7]
          by_cases g8 : lx50 = (0 : Int32)
          ·
            rw [if_pos g8, if_pos g8]
            by_cases g9 : t0_5 = (0 : Int32)
            ·
              rw [if_pos g9, if_pos g9]
              refine ⟨trivial, ?_⟩
              (unfold Q_DR_grows; decide)
            ·
              rw [if_neg g9, if_neg g9]
              refine ⟨trivial, ?_⟩
              (unfold Q_DR_grows; decide)
          ·
            rw [if_neg g8, if_neg g8]
            refine ⟨trivial, ?_⟩
            (unfold Q_DR_grows; decide)
        ·
          rw [if_neg g7, if_neg g7]
          by_cases g10 : x3 = (4 : Int32)
          ·
            rw [if_pos g10, if_pos g10]
            by_cases g11 : lx20 < (5 : Int32)
            ·
              rw [if_pos g11, if_pos g11]
              refine ⟨trivial, ?_⟩
              (unfold Q_DR_grows; decide)
            ·
              rw [if_neg g11, if_neg g11]
              refine ⟨trivial, ?_⟩
              (unfold Q_DR_grows; decide)
          ·
            rw [if_neg g10, if_neg g10]
            by_cases g12 : x3 = (5 : Int32)
            ·
              rw [if_pos g12, if_pos g12]
              by_cases g13 : (5 : Int32) < lx20
              ·
                rw [if_pos g13, if_pos g13]
                refine ⟨trivial, ?_⟩
                (unfold Q_DR_grows; decide)
              ·
                rw [if_neg g13, if_neg g13]
                by_cases g14 : lx20 = (5 : Int32)
                ·
                  rw [if_pos g14, if_pos g14]
                  by_cases g15 : lx39 = (0 : Int32)
                  ·
                    rw [if_pos g15, if_pos g15]
                    refine ⟨trivial, ?_⟩
                    (unfold Q_DR_grows; decide)
                  ·
                    rw [if_neg g15, if_neg g15]
                    refine ⟨trivial, ?_⟩
                    (unfold Q_DR_grows; decide)
                ·
                  rw [if_neg g14, if_neg g14]
                  refine ⟨trivial, ?_⟩
                  (unfold Q_DR_grows; decide)
            ·
              rw [if_neg g12, if_neg g12]
              by_cases g16 : x3 = (6 : Int32)
              ·
                rw [if_pos g16, if_pos g16]
                by_cases g17 : (5 : Int32) < lx20
                ·
                  rw [if_pos g17, if_pos g17]
                  refine ⟨trivial, ?_⟩
                  (unfold Q_DR_grows; decide)
                ·
                  rw [if_neg g17, if_neg g17]
                  by_cases g18 : lx20 = (5 : Int32)
                  ·
                    rw [if_pos g18, if_pos g18]
                    by_cases g19 : lx39 = (0 : Int32)
                    ·
                      rw [if_pos g19, if_pos g19]
                      by_cases g20 : (lx61 - lx61 / 2 * 2 : Int32) = (1 : Int32)
                      ·
                        rw [if_pos g20, if_pos g20]
                        refine ⟨trivial, ?_⟩
                        (unfold Q_DR_grows; decide)
                      ·
                        rw [if_neg g20, if_neg g20]
                        refine ⟨trivial, ?_⟩
                        (unfold Q_DR_grows; decide)
                    ·
                      rw [if_neg g19, if_neg g19]
                      refine ⟨trivial, ?_⟩
                      (unfold Q_DR_grows; decide)
                  ·
                    rw [if_neg g18, if_neg g18]
                    refine ⟨trivial, ?_⟩
                    (unfold Q_DR_grows; decide)
              ·
                rw [if_neg g16, if_neg g16]
                by_cases g21 : lx50 = (0 : Int32)
                ·
                  rw [if_pos g21, if_pos g21]
                  refine ⟨trivial, ?_⟩
                  (unfold Q_DR_grows; decide)
                ·
                  rw [if_neg g21, if_neg g21]
                  refine ⟨trivial, ?_⟩
                  (unfold Q_DR_grows; decide)
theorem T_DR_grows {x2 : Int32} {x3 : Int32} {t0_0 : Int32} {t0_1 : Int32} {t0_2 : Int32} {t0_3 : Int64} {t0_4 : Int32} {t0_5 : Int32} {t0_6 : Int32} {t0_7 : Int32} {t0_8 : Int32} {t0_9 : Int32} {t0_10 : Int32} {t1_0 : (Nat → Int32)} (h2 : 0 ≤ t0_2.toInt ∧ t0_2.toInt ≤ 4400)(hx : -1 ≤ x2.toInt ∧ x2.toInt ≤ t0_2.toInt) : (S_DR_grows x2 x3 t0_0 t0_1 t0_2 t0_3 t0_4 t0_5 t0_6 t0_7 t0_8 t0_9 t0_10 t1_0) ∧ Q_DR_grows (F_DR_grows x2 x3 t0_0 t0_1 t0_2 t0_3 t0_4 t0_5 t0_6 t0_7 t0_8 t0_9 t0_10 t1_0) := by
  have e0 : (0 : Int32).toInt = 0 := rfl
  unfold S_DR_grows F_DR_grows
  by_cases g1 : x2 < (0 : Int32)
  ·
    rw [if_pos g1, if_pos g1]
    have g1i : x2.toInt < 0 := q_ltI g1
    unfold S_DR_grows_J21 F_DR_grows_J21
    unfold S_DR_grows_J22 F_DR_grows_J22
    have h2 := T_DR_isMore (x2 := (x2 + 1 : Int32)) (t0_0 := t0_0) (t0_1 := t0_1) (t0_2 := t0_2) (t0_3 := t0_3) (t0_4 := t0_4) (t0_5 := t0_5) (t0_6 := t0_6) (t0_7 := t0_7) (t0_8 := t0_8) (t0_9 := t0_9) (t0_10 := t0_10) (t1_0 := t1_0) (by first | with_reducible assumption | omega | decide)
    with_reducible refine v_owe h2 ?_
    by_cases g3 : ((F_DR_isMore (x2 + 1 : Int32) t0_0 t0_1 t0_2 t0_3 t0_4 t0_5 t0_6 t0_7 t0_8 t0_9 t0_10 t1_0) : Int32) = (0 : Int32)
    ·
      rw [if_pos g3, if_pos g3]
      by_cases g4 : (0 : Int32) ≤ x2
      ·
        rw [if_pos g4, if_pos g4]
        have g4i : 0 ≤ x2.toInt := q_leI g4
        unfold S_DR_grows_J49 F_DR_grows_J49
        unfold S_DR_grows_J50 F_DR_grows_J50
        have g5 : ((0 : Int32) = (0 : Int32)) := (by decide)
        rw [if_pos g5, if_pos g5]
        have g6 : ((0 : Int32) = (0 : Int32)) := (by decide)
        rw [if_pos g6, if_pos g6]
        unfold S_DR_grows_J66 F_DR_grows_J66
        by_cases g7 : x2 ≤ (0 : Int32)
        ·
          rw [if_pos g7, if_pos g7]
          have g7i : x2.toInt ≤ 0 := q_leI g7
          unfold S_DR_grows_J91 F_DR_grows_J91
          exact v_gr92
        ·
          rw [if_neg g7, if_neg g7]
          have g7i : 0 < x2.toInt := q_nleI g7
          by_cases g8 : t0_2 < x2
          ·
            rw [if_pos g8, if_pos g8]
            have g8i : t0_2.toInt < x2.toInt := q_ltI g8
            unfold S_DR_grows_J91 F_DR_grows_J91
            exact v_gr92
          ·
            rw [if_neg g8, if_neg g8]
            have g8i : x2.toInt ≤ t0_2.toInt := q_nltI g8
            obtain ⟨a9, e10⟩ := q_nm (x2 - 1 : Int32)
            rw [e10]
            have a9i : a9.toInt = x2.toInt - 1 := by rw [← e10]; exact q_subI (x := x2.toInt) (y := 1) rfl (by decide) (by omega) (by omega)
            refine v_cons (by omega) ?_
            exact v_gr92
      ·
        rw [if_neg g4, if_neg g4]
        have g4i : x2.toInt < 0 := q_nleI g4
        have h11 := T_DR_isMore (x2 := (0 : Int32)) (t0_0 := t0_0) (t0_1 := t0_1) (t0_2 := t0_2) (t0_3 := t0_3) (t0_4 := t0_4) (t0_5 := t0_5) (t0_6 := t0_6) (t0_7 := t0_7) (t0_8 := t0_8) (t0_9 := t0_9) (t0_10 := t0_10) (t1_0 := t1_0) (by first | with_reducible assumption | omega | decide)
        with_reducible refine v_owe h11 ?_
        by_cases g12 : ((F_DR_isMore (0 : Int32) t0_0 t0_1 t0_2 t0_3 t0_4 t0_5 t0_6 t0_7 t0_8 t0_9 t0_10 t1_0) : Int32) = (0 : Int32)
        ·
          rw [if_pos g12, if_pos g12]
          unfold S_DR_grows_J49 F_DR_grows_J49
          unfold S_DR_grows_J50 F_DR_grows_J50
          have g13 : ((0 : Int32) = (0 : Int32)) := (by decide)
          rw [if_pos g13, if_pos g13]
          have g14 : ((0 : Int32) = (0 : Int32)) := (by decide)
          rw [if_pos g14, if_pos g14]
          unfold S_DR_grows_J66 F_DR_grows_J66
          by_cases g15 : x2 ≤ (0 : Int32)
          ·
            rw [if_pos g15, if_pos g15]
            have g15i : x2.toInt ≤ 0 := q_leI g15
            unfold S_DR_grows_J91 F_DR_grows_J91
            exact v_gr92
          ·
            rw [if_neg g15, if_neg g15]
            have g15i : 0 < x2.toInt := q_nleI g15
            by_cases g16 : t0_2 < x2
            ·
              rw [if_pos g16, if_pos g16]
              have g16i : t0_2.toInt < x2.toInt := q_ltI g16
              unfold S_DR_grows_J91 F_DR_grows_J91
              exact v_gr92
            ·
              rw [if_neg g16, if_neg g16]
              have g16i : x2.toInt ≤ t0_2.toInt := q_nltI g16
              obtain ⟨a17, e18⟩ := q_nm (x2 - 1 : Int32)
              rw [e18]
              have a17i : a17.toInt = x2.toInt - 1 := by rw [← e18]; exact q_subI (x := x2.toInt) (y := 1) rfl (by decide) (by omega) (by omega)
              refine v_cons (by omega) ?_
              exact v_gr92
        ·
          rw [if_neg g12, if_neg g12]
          unfold S_DR_grows_J45 F_DR_grows_J45
          unfold S_DR_grows_J50 F_DR_grows_J50
          have g19 : ((0 : Int32) = (0 : Int32)) := (by decide)
          rw [if_pos g19, if_pos g19]
          have g20 : ¬ ((1 : Int32) = (0 : Int32)) := (by decide)
          rw [if_neg g20, if_neg g20]
          unfold S_DR_grows_J65 F_DR_grows_J65
          unfold S_DR_grows_J66 F_DR_grows_J66
          by_cases g21 : x2 ≤ (0 : Int32)
          ·
            rw [if_pos g21, if_pos g21]
            have g21i : x2.toInt ≤ 0 := q_leI g21
            unfold S_DR_grows_J91 F_DR_grows_J91
            exact v_gr92
          ·
            rw [if_neg g21, if_neg g21]
            have g21i : 0 < x2.toInt := q_nleI g21
            by_cases g22 : t0_2 < x2
            ·
              rw [if_pos g22, if_pos g22]
              have g22i : t0_2.toInt < x2.toInt := q_ltI g22
              unfold S_DR_grows_J91 F_DR_grows_J91
              exact v_gr92
            ·
              rw [if_neg g22, if_neg g22]
              have g22i : x2.toInt ≤ t0_2.toInt := q_nltI g22
              obtain ⟨a23, e24⟩ := q_nm (x2 - 1 : Int32)
              rw [e24]
              have a23i : a23.toInt = x2.toInt - 1 := by rw [← e24]; exact q_subI (x := x2.toInt) (y := 1) rfl (by decide) (by omega) (by omega)
              refine v_cons (by omega) ?_
              exact v_gr92
    ·
      rw [if_neg g3, if_neg g3]
      unfold S_DR_grows_J45 F_DR_grows_J45
      unfold S_DR_grows_J50 F_DR_grows_J50
      have g25 : ((0 : Int32) = (0 : Int32)) := (by decide)
      rw [if_pos g25, if_pos g25]
      have g26 : ¬ ((1 : Int32) = (0 : Int32)) := (by decide)
      rw [if_neg g26, if_neg g26]
      unfold S_DR_grows_J65 F_DR_grows_J65
      unfold S_DR_grows_J66 F_DR_grows_J66
      by_cases g27 : x2 ≤ (0 : Int32)
      ·
        rw [if_pos g27, if_pos g27]
        have g27i : x2.toInt ≤ 0 := q_leI g27
        unfold S_DR_grows_J91 F_DR_grows_J91
        exact v_gr92
      ·
        rw [if_neg g27, if_neg g27]
        have g27i : 0 < x2.toInt := q_nleI g27
        by_cases g28 : t0_2 < x2
        ·
          rw [if_pos g28, if_pos g28]
          have g28i : t0_2.toInt < x2.toInt := q_ltI g28
          unfold S_DR_grows_J91 F_DR_grows_J91
          exact v_gr92
        ·
          rw [if_neg g28, if_neg g28]
          have g28i : x2.toInt ≤ t0_2.toInt := q_nltI g28
          obtain ⟨a29, e30⟩ := q_nm (x2 - 1 : Int32)
          rw [e30]
          have a29i : a29.toInt = x2.toInt - 1 := by rw [← e30]; exact q_subI (x := x2.toInt) (y := 1) rfl (by decide) (by omega) (by omega)
          refine v_cons (by omega) ?_
          exact v_gr92
  ·
    rw [if_neg g1, if_neg g1]
    have g1i : 0 ≤ x2.toInt := q_nltI g1
    by_cases g31 : t0_2 ≤ x2
    ·
      rw [if_pos g31, if_pos g31]
      have g31i : t0_2.toInt ≤ x2.toInt := q_leI g31
      unfold S_DR_grows_J21 F_DR_grows_J21
      unfold S_DR_grows_J22 F_DR_grows_J22
      have h32 := T_DR_isMore (x2 := (x2 + 1 : Int32)) (t0_0 := t0_0) (t0_1 := t0_1) (t0_2 := t0_2) (t0_3 := t0_3) (t0_4 := t0_4) (t0_5 := t0_5) (t0_6 := t0_6) (t0_7 := t0_7) (t0_8 := t0_8) (t0_9 := t0_9) (t0_10 := t0_10) (t1_0 := t1_0) (by first | with_reducible assumption | omega | decide)
      with_reducible refine v_owe h32 ?_
      by_cases g33 : ((F_DR_isMore (x2 + 1 : Int32) t0_0 t0_1 t0_2 t0_3 t0_4 t0_5 t0_6 t0_7 t0_8 t0_9 t0_10 t1_0) : Int32) = (0 : Int32)
      ·
        rw [if_pos g33, if_pos g33]
        by_cases g34 : (0 : Int32) ≤ x2
        ·
          rw [if_pos g34, if_pos g34]
          have g34i : 0 ≤ x2.toInt := q_leI g34
          unfold S_DR_grows_J49 F_DR_grows_J49
          unfold S_DR_grows_J50 F_DR_grows_J50
          have g35 : ((0 : Int32) = (0 : Int32)) := (by decide)
          rw [if_pos g35, if_pos g35]
          have g36 : ((0 : Int32) = (0 : Int32)) := (by decide)
          rw [if_pos g36, if_pos g36]
          unfold S_DR_grows_J66 F_DR_grows_J66
          by_cases g37 : x2 ≤ (0 : Int32)
          ·
            rw [if_pos g37, if_pos g37]
            have g37i : x2.toInt ≤ 0 := q_leI g37
            unfold S_DR_grows_J91 F_DR_grows_J91
            exact v_gr92
          ·
            rw [if_neg g37, if_neg g37]
            have g37i : 0 < x2.toInt := q_nleI g37
            by_cases g38 : t0_2 < x2
            ·
              rw [if_pos g38, if_pos g38]
              have g38i : t0_2.toInt < x2.toInt := q_ltI g38
              unfold S_DR_grows_J91 F_DR_grows_J91
              exact v_gr92
            ·
              rw [if_neg g38, if_neg g38]
              have g38i : x2.toInt ≤ t0_2.toInt := q_nltI g38
              obtain ⟨a39, e40⟩ := q_nm (x2 - 1 : Int32)
              rw [e40]
              have a39i : a39.toInt = x2.toInt - 1 := by rw [← e40]; exact q_subI (x := x2.toInt) (y := 1) rfl (by decide) (by omega) (by omega)
              refine v_cons (by omega) ?_
              exact v_gr92
        ·
          rw [if_neg g34, if_neg g34]
          have g34i : x2.toInt < 0 := q_nleI g34
          have h41 := T_DR_isMore (x2 := (0 : Int32)) (t0_0 := t0_0) (t0_1 := t0_1) (t0_2 := t0_2) (t0_3 := t0_3) (t0_4 := t0_4) (t0_5 := t0_5) (t0_6 := t0_6) (t0_7 := t0_7) (t0_8 := t0_8) (t0_9 := t0_9) (t0_10 := t0_10) (t1_0 := t1_0) (by first | with_reducible assumption | omega | decide)
          with_reducible refine v_owe h41 ?_
          by_cases g42 : ((F_DR_isMore (0 : Int32) t0_0 t0_1 t0_2 t0_3 t0_4 t0_5 t0_6 t0_7 t0_8 t0_9 t0_10 t1_0) : Int32) = (0 : Int32)
          ·
            rw [if_pos g42, if_pos g42]
            unfold S_DR_grows_J49 F_DR_grows_J49
            unfold S_DR_grows_J50 F_DR_grows_J50
            have g43 : ((0 : Int32) = (0 : Int32)) := (by decide)
            rw [if_pos g43, if_pos g43]
            have g44 : ((0 : Int32) = (0 : Int32)) := (by decide)
            rw [if_pos g44, if_pos g44]
            unfold S_DR_grows_J66 F_DR_grows_J66
            by_cases g45 : x2 ≤ (0 : Int32)
            ·
              rw [if_pos g45, if_pos g45]
              have g45i : x2.toInt ≤ 0 := q_leI g45
              unfold S_DR_grows_J91 F_DR_grows_J91
              exact v_gr92
            ·
              rw [if_neg g45, if_neg g45]
              have g45i : 0 < x2.toInt := q_nleI g45
              by_cases g46 : t0_2 < x2
              ·
                rw [if_pos g46, if_pos g46]
                have g46i : t0_2.toInt < x2.toInt := q_ltI g46
                unfold S_DR_grows_J91 F_DR_grows_J91
                exact v_gr92
              ·
                rw [if_neg g46, if_neg g46]
                have g46i : x2.toInt ≤ t0_2.toInt := q_nltI g46
                obtain ⟨a47, e48⟩ := q_nm (x2 - 1 : Int32)
                rw [e48]
                have a47i : a47.toInt = x2.toInt - 1 := by rw [← e48]; exact q_subI (x := x2.toInt) (y := 1) rfl (by decide) (by omega) (by omega)
                refine v_cons (by omega) ?_
                exact v_gr92
          ·
            rw [if_neg g42, if_neg g42]
            unfold S_DR_grows_J45 F_DR_grows_J45
            unfold S_DR_grows_J50 F_DR_grows_J50
            have g49 : ((0 : Int32) = (0 : Int32)) := (by decide)
            rw [if_pos g49, if_pos g49]
            have g50 : ¬ ((1 : Int32) = (0 : Int32)) := (by decide)
            rw [if_neg g50, if_neg g50]
            unfold S_DR_grows_J65 F_DR_grows_J65
            unfold S_DR_grows_J66 F_DR_grows_J66
            by_cases g51 : x2 ≤ (0 : Int32)
            ·
              rw [if_pos g51, if_pos g51]
              have g51i : x2.toInt ≤ 0 := q_leI g51
              unfold S_DR_grows_J91 F_DR_grows_J91
              exact v_gr92
            ·
              rw [if_neg g51, if_neg g51]
              have g51i : 0 < x2.toInt := q_nleI g51
              by_cases g52 : t0_2 < x2
              ·
                rw [if_pos g52, if_pos g52]
                have g52i : t0_2.toInt < x2.toInt := q_ltI g52
                unfold S_DR_grows_J91 F_DR_grows_J91
                exact v_gr92
              ·
                rw [if_neg g52, if_neg g52]
                have g52i : x2.toInt ≤ t0_2.toInt := q_nltI g52
                obtain ⟨a53, e54⟩ := q_nm (x2 - 1 : Int32)
                rw [e54]
                have a53i : a53.toInt = x2.toInt - 1 := by rw [← e54]; exact q_subI (x := x2.toInt) (y := 1) rfl (by decide) (by omega) (by omega)
                refine v_cons (by omega) ?_
                exact v_gr92
      ·
        rw [if_neg g33, if_neg g33]
        unfold S_DR_grows_J45 F_DR_grows_J45
        unfold S_DR_grows_J50 F_DR_grows_J50
        have g55 : ((0 : Int32) = (0 : Int32)) := (by decide)
        rw [if_pos g55, if_pos g55]
        have g56 : ¬ ((1 : Int32) = (0 : Int32)) := (by decide)
        rw [if_neg g56, if_neg g56]
        unfold S_DR_grows_J65 F_DR_grows_J65
        unfold S_DR_grows_J66 F_DR_grows_J66
        by_cases g57 : x2 ≤ (0 : Int32)
        ·
          rw [if_pos g57, if_pos g57]
          have g57i : x2.toInt ≤ 0 := q_leI g57
          unfold S_DR_grows_J91 F_DR_grows_J91
          exact v_gr92
        ·
          rw [if_neg g57, if_neg g57]
          have g57i : 0 < x2.toInt := q_nleI g57
          by_cases g58 : t0_2 < x2
          ·
            rw [if_pos g58, if_pos g58]
            have g58i : t0_2.toInt < x2.toInt := q_ltI g58
            unfold S_DR_grows_J91 F_DR_grows_J91
            exact v_gr92
          ·
            rw [if_neg g58, if_neg g58]
            have g58i : x2.toInt ≤ t0_2.toInt := q_nltI g58
            obtain ⟨a59, e60⟩ := q_nm (x2 - 1 : Int32)
            rw [e60]
            have a59i : a59.toInt = x2.toInt - 1 := by rw [← e60]; exact q_subI (x := x2.toInt) (y := 1) rfl (by decide) (by omega) (by omega)
            refine v_cons (by omega) ?_
            exact v_gr92
    ·
      rw [if_neg g31, if_neg g31]
      have g31i : x2.toInt < t0_2.toInt := q_nleI g31
      refine v_cons (by omega) ?_
      unfold S_DR_grows_J22 F_DR_grows_J22
      have h61 := T_DR_isMore (x2 := (x2 + 1 : Int32)) (t0_0 := t0_0) (t0_1 := t0_1) (t0_2 := t0_2) (t0_3 := t0_3) (t0_4 := t0_4) (t0_5 := t0_5) (t0_6 := t0_6) (t0_7 := t0_7) (t0_8 := t0_8) (t0_9 := t0_9) (t0_10 := t0_10) (t1_0 := t1_0) (by first | with_reducible assumption | omega | decide)
      with_reducible refine v_owe h61 ?_
      by_cases g62 : ((F_DR_isMore (x2 + 1 : Int32) t0_0 t0_1 t0_2 t0_3 t0_4 t0_5 t0_6 t0_7 t0_8 t0_9 t0_10 t1_0) : Int32) = (0 : Int32)
      ·
        rw [if_pos g62, if_pos g62]
        by_cases g63 : (0 : Int32) ≤ x2
        ·
          rw [if_pos g63, if_pos g63]
          have g63i : 0 ≤ x2.toInt := q_leI g63
          unfold S_DR_grows_J49 F_DR_grows_J49
          unfold S_DR_grows_J50 F_DR_grows_J50
          by_cases g64 : (t1_0 x2.toNatClampNeg : Int32) = (0 : Int32)
          ·
            rw [if_pos g64, if_pos g64]
            have g65 : ((0 : Int32) = (0 : Int32)) := (by decide)
            rw [if_pos g65, if_pos g65]
            unfold S_DR_grows_J66 F_DR_grows_J66
            by_cases g66 : x2 ≤ (0 : Int32)
            ·
              rw [if_pos g66, if_pos g66]
              have g66i : x2.toInt ≤ 0 := q_leI g66
              unfold S_DR_grows_J91 F_DR_grows_J91
              exact v_gr92
            ·
              rw [if_neg g66, if_neg g66]
              have g66i : 0 < x2.toInt := q_nleI g66
              by_cases g67 : t0_2 < x2
              ·
                rw [if_pos g67, if_pos g67]
                have g67i : t0_2.toInt < x2.toInt := q_ltI g67
                unfold S_DR_grows_J91 F_DR_grows_J91
                exact v_gr92
              ·
                rw [if_neg g67, if_neg g67]
                have g67i : x2.toInt ≤ t0_2.toInt := q_nltI g67
                obtain ⟨a68, e69⟩ := q_nm (x2 - 1 : Int32)
                rw [e69]
                have a68i : a68.toInt = x2.toInt - 1 := by rw [← e69]; exact q_subI (x := x2.toInt) (y := 1) rfl (by decide) (by omega) (by omega)
                refine v_cons (by omega) ?_
                exact v_gr92
          ·
            rw [if_neg g64, if_neg g64]
            unfold S_DR_grows_J65 F_DR_grows_J65
            unfold S_DR_grows_J66 F_DR_grows_J66
            by_cases g70 : x2 ≤ (0 : Int32)
            ·
              rw [if_pos g70, if_pos g70]
              have g70i : x2.toInt ≤ 0 := q_leI g70
              unfold S_DR_grows_J91 F_DR_grows_J91
              exact v_gr92
            ·
              rw [if_neg g70, if_neg g70]
              have g70i : 0 < x2.toInt := q_nleI g70
              by_cases g71 : t0_2 < x2
              ·
                rw [if_pos g71, if_pos g71]
                have g71i : t0_2.toInt < x2.toInt := q_ltI g71
                unfold S_DR_grows_J91 F_DR_grows_J91
                exact v_gr92
              ·
                rw [if_neg g71, if_neg g71]
                have g71i : x2.toInt ≤ t0_2.toInt := q_nltI g71
                obtain ⟨a72, e73⟩ := q_nm (x2 - 1 : Int32)
                rw [e73]
                have a72i : a72.toInt = x2.toInt - 1 := by rw [← e73]; exact q_subI (x := x2.toInt) (y := 1) rfl (by decide) (by omega) (by omega)
                refine v_cons (by omega) ?_
                exact v_gr92
        ·
          rw [if_neg g63, if_neg g63]
          have g63i : x2.toInt < 0 := q_nleI g63
          have h74 := T_DR_isMore (x2 := (0 : Int32)) (t0_0 := t0_0) (t0_1 := t0_1) (t0_2 := t0_2) (t0_3 := t0_3) (t0_4 := t0_4) (t0_5 := t0_5) (t0_6 := t0_6) (t0_7 := t0_7) (t0_8 := t0_8) (t0_9 := t0_9) (t0_10 := t0_10) (t1_0 := t1_0) (by first | with_reducible assumption | omega | decide)
          with_reducible refine v_owe h74 ?_
          by_cases g75 : ((F_DR_isMore (0 : Int32) t0_0 t0_1 t0_2 t0_3 t0_4 t0_5 t0_6 t0_7 t0_8 t0_9 t0_10 t1_0) : Int32) = (0 : Int32)
          ·
            rw [if_pos g75, if_pos g75]
            unfold S_DR_grows_J49 F_DR_grows_J49
            unfold S_DR_grows_J50 F_DR_grows_J50
            by_cases g76 : (t1_0 x2.toNatClampNeg : Int32) = (0 : Int32)
            ·
              rw [if_pos g76, if_pos g76]
              have g77 : ((0 : Int32) = (0 : Int32)) := (by decide)
              rw [if_pos g77, if_pos g77]
              unfold S_DR_grows_J66 F_DR_grows_J66
              by_cases g78 : x2 ≤ (0 : Int32)
              ·
                rw [if_pos g78, if_pos g78]
                have g78i : x2.toInt ≤ 0 := q_leI g78
                unfold S_DR_grows_J91 F_DR_grows_J91
                exact v_gr92
              ·
                rw [if_neg g78, if_neg g78]
                have g78i : 0 < x2.toInt := q_nleI g78
                by_cases g79 : t0_2 < x2
                ·
                  rw [if_pos g79, if_pos g79]
                  have g79i : t0_2.toInt < x2.toInt := q_ltI g79
                  unfold S_DR_grows_J91 F_DR_grows_J91
                  exact v_gr92
                ·
                  rw [if_neg g79, if_neg g79]
                  have g79i : x2.toInt ≤ t0_2.toInt := q_nltI g79
                  obtain ⟨a80, e81⟩ := q_nm (x2 - 1 : Int32)
                  rw [e81]
                  have a80i : a80.toInt = x2.toInt - 1 := by rw [← e81]; exact q_subI (x := x2.toInt) (y := 1) rfl (by decide) (by omega) (by omega)
                  refine v_cons (by omega) ?_
                  exact v_gr92
            ·
              rw [if_neg g76, if_neg g76]
              unfold S_DR_grows_J65 F_DR_grows_J65
              unfold S_DR_grows_J66 F_DR_grows_J66
              by_cases g82 : x2 ≤ (0 : Int32)
              ·
                rw [if_pos g82, if_pos g82]
                have g82i : x2.toInt ≤ 0 := q_leI g82
                unfold S_DR_grows_J91 F_DR_grows_J91
                exact v_gr92
              ·
                rw [if_neg g82, if_neg g82]
                have g82i : 0 < x2.toInt := q_nleI g82
                by_cases g83 : t0_2 < x2
                ·
                  rw [if_pos g83, if_pos g83]
                  have g83i : t0_2.toInt < x2.toInt := q_ltI g83
                  unfold S_DR_grows_J91 F_DR_grows_J91
                  exact v_gr92
                ·
                  rw [if_neg g83, if_neg g83]
                  have g83i : x2.toInt ≤ t0_2.toInt := q_nltI g83
                  obtain ⟨a84, e85⟩ := q_nm (x2 - 1 : Int32)
                  rw [e85]
                  have a84i : a84.toInt = x2.toInt - 1 := by rw [← e85]; exact q_subI (x := x2.toInt) (y := 1) rfl (by decide) (by omega) (by omega)
                  refine v_cons (by omega) ?_
                  exact v_gr92
          ·
            rw [if_neg g75, if_neg g75]
            unfold S_DR_grows_J45 F_DR_grows_J45
            unfold S_DR_grows_J50 F_DR_grows_J50
            by_cases g86 : (t1_0 x2.toNatClampNeg : Int32) = (0 : Int32)
            ·
              rw [if_pos g86, if_pos g86]
              have g87 : ¬ ((1 : Int32) = (0 : Int32)) := (by decide)
              rw [if_neg g87, if_neg g87]
              unfold S_DR_grows_J65 F_DR_grows_J65
              unfold S_DR_grows_J66 F_DR_grows_J66
              by_cases g88 : x2 ≤ (0 : Int32)
              ·
                rw [if_pos g88, if_pos g88]
                have g88i : x2.toInt ≤ 0 := q_leI g88
                unfold S_DR_grows_J91 F_DR_grows_J91
                exact v_gr92
              ·
                rw [if_neg g88, if_neg g88]
                have g88i : 0 < x2.toInt := q_nleI g88
                by_cases g89 : t0_2 < x2
                ·
                  rw [if_pos g89, if_pos g89]
                  have g89i : t0_2.toInt < x2.toInt := q_ltI g89
                  unfold S_DR_grows_J91 F_DR_grows_J91
                  exact v_gr92
                ·
                  rw [if_neg g89, if_neg g89]
                  have g89i : x2.toInt ≤ t0_2.toInt := q_nltI g89
                  obtain ⟨a90, e91⟩ := q_nm (x2 - 1 : Int32)
                  rw [e91]
                  have a90i : a90.toInt = x2.toInt - 1 := by rw [← e91]; exact q_subI (x := x2.toInt) (y := 1) rfl (by decide) (by omega) (by omega)
                  refine v_cons (by omega) ?_
                  exact v_gr92
            ·
              rw [if_neg g86, if_neg g86]
              unfold S_DR_grows_J65 F_DR_grows_J65
              unfold S_DR_grows_J66 F_DR_grows_J66
              by_cases g92 : x2 ≤ (0 : Int32)
              ·
                rw [if_pos g92, if_pos g92]
                have g92i : x2.toInt ≤ 0 := q_leI g92
                unfold S_DR_grows_J91 F_DR_grows_J91
                exact v_gr92
              ·
                rw [if_neg g92, if_neg g92]
                have g92i : 0 < x2.toInt := q_nleI g92
                by_cases g93 : t0_2 < x2
                ·
                  rw [if_pos g93, if_pos g93]
                  have g93i : t0_2.toInt < x2.toInt := q_ltI g93
                  unfold S_DR_grows_J91 F_DR_grows_J91
                  exact v_gr92
                ·
                  rw [if_neg g93, if_neg g93]
                  have g93i : x2.toInt ≤ t0_2.toInt := q_nltI g93
                  obtain ⟨a94, e95⟩ := q_nm (x2 - 1 : Int32)
                  rw [e95]
                  have a94i : a94.toInt = x2.toInt - 1 := by rw [← e95]; exact q_subI (x := x2.toInt) (y := 1) rfl (by decide) (by omega) (by omega)
                  refine v_cons (by omega) ?_
                  exact v_gr92
      ·
        rw [if_neg g62, if_neg g62]
        unfold S_DR_grows_J45 F_DR_grows_J45
        unfold S_DR_grows_J50 F_DR_grows_J50
        by_cases g96 : (t1_0 x2.toNatClampNeg : Int32) = (0 : Int32)
        ·
          rw [if_pos g96, if_pos g96]
          have g97 : ¬ ((1 : Int32) = (0 : Int32)) := (by decide)
          rw [if_neg g97, if_neg g97]
          unfold S_DR_grows_J65 F_DR_grows_J65
          unfold S_DR_grows_J66 F_DR_grows_J66
          by_cases g98 : x2 ≤ (0 : Int32)
          ·
            rw [if_pos g98, if_pos g98]
            have g98i : x2.toInt ≤ 0 := q_leI g98
            unfold S_DR_grows_J91 F_DR_grows_J91
            exact v_gr92
          ·
            rw [if_neg g98, if_neg g98]
            have g98i : 0 < x2.toInt := q_nleI g98
            by_cases g99 : t0_2 < x2
            ·
              rw [if_pos g99, if_pos g99]
              have g99i : t0_2.toInt < x2.toInt := q_ltI g99
              unfold S_DR_grows_J91 F_DR_grows_J91
              exact v_gr92
            ·
              rw [if_neg g99, if_neg g99]
              have g99i : x2.toInt ≤ t0_2.toInt := q_nltI g99
              obtain ⟨a100, e101⟩ := q_nm (x2 - 1 : Int32)
              rw [e101]
              have a100i : a100.toInt = x2.toInt - 1 := by rw [← e101]; exact q_subI (x := x2.toInt) (y := 1) rfl (by decide) (by omega) (by omega)
              refine v_cons (by omega) ?_
              exact v_gr92
        ·
          rw [if_neg g96, if_neg g96]
          unfold S_DR_grows_J65 F_DR_grows_J65
          unfold S_DR_grows_J66 F_DR_grows_J66
          by_cases g102 : x2 ≤ (0 : Int32)
          ·
            rw [if_pos g102, if_pos g102]
            have g102i : x2.toInt ≤ 0 := q_leI g102
            unfold S_DR_grows_J91 F_DR_grows_J91
            exact v_gr92
          ·
            rw [if_neg g102, if_neg g102]
            have g102i : 0 < x2.toInt := q_nleI g102
            by_cases g103 : t0_2 < x2
            ·
              rw [if_pos g103, if_pos g103]
              have g103i : t0_2.toInt < x2.toInt := q_ltI g103
              unfold S_DR_grows_J91 F_DR_grows_J91
              exact v_gr92
            ·
              rw [if_neg g103, if_neg g103]
              have g103i : x2.toInt ≤ t0_2.toInt := q_nltI g103
              obtain ⟨a104, e105⟩ := q_nm (x2 - 1 : Int32)
              rw [e105]
              have a104i : a104.toInt = x2.toInt - 1 := by rw [← e105]; exact q_subI (x := x2.toInt) (y := 1) rfl (by decide) (by omega) (by omega)
              refine v_cons (by omega) ?_
              exact v_gr92
theorem g_cutA {f : Nat → Int32} {m i : Int32} (h : gO f m.toNatClampNeg) (hi : 0 ≤ i.toInt) (hm : i.toInt < m.toInt) (h9 : ¬ f i.toNatClampNeg = 9) : gO (upd f i.toNatClampNeg (f i.toNatClampNeg + 1)) m.toNatClampNeg := by
  have e1 := q_clI (i := i) rfl hi
  have e2 := q_clI (i := m) rfl (by omega)
  have h1 := h i.toNatClampNeg (by omega)
  have h2 : (f i.toNatClampNeg).toInt ≠ 9 := fun e => h9 (Int32.toInt_inj.mp (by rw [e]; rfl))
  have e3 : (f i.toNatClampNeg + 1 : Int32).toInt = (f i.toNatClampNeg).toInt + 1 := q_addI (y := 1) rfl (by decide) (by omega) (by omega)
  exact gO_upd h (by rw [e3]; omega)
theorem g_cutZ {f : Nat → Int32} {n i : Nat} (h : gO f n) : gO (upd f i 0) n := gO_upd h ⟨by decide, by decide⟩
def Q_DR_cut (t0_5 : Int32) (p : Int32 × Int32 × Int32 × Int32 × Int64 × Int32 × Int32 × Int32 × Int32 × Int32 × Int32 × Int32 × (Nat → Int32)) : Prop := (0 ≤ p.2.2.2.1.toInt ∧ p.2.2.2.1.toInt ≤ 4400) ∧ gO p.2.2.2.2.2.2.2.2.2.2.2.2 p.2.2.2.1.toNatClampNeg ∧ p.2.2.2.2.2.2.1 = t0_5
theorem g_sh1 {f g : Nat → Int32} {m k : Int32} (hm : 0 ≤ m.toInt ∧ m.toInt ≤ 4399) (hk : 0 ≤ k.toInt) (hf : gO f m.toNatClampNeg) (h1 : ∀ i : Nat, (i : Int) < k.toInt → g i = f i) (h2 : ∀ i : Nat, k.toInt < i → (i : Int) ≤ m.toInt → 0 ≤ (g i).toInt ∧ (g i).toInt ≤ 9) (hk0 : k.toInt ≤ 0) : gO (upd g (0 : Int32).toNatClampNeg 1) (m + 1 : Int32).toNatClampNeg ∧ (m + 1 : Int32).toInt = m.toInt + 1 := by
  have e : (m + 1 : Int32).toInt = m.toInt + 1 := q_addI (y := 1) rfl (by decide) (by omega) (by omega)
  have e1 := q_clI (i := m + 1) e (by omega)
  refine ⟨fun i hi => ?_, e⟩
  have z : (0 : Int32).toNatClampNeg = 0 := rfl
  rw [z]
  by_cases c : i = 0
  · rw [c, v_eq]; exact ⟨by decide, by decide⟩
  · rw [v_ne c]; exact h2 i (by omega) (by omega)
theorem g_sh2 {f g : Nat → Int32} {m k k1 : Int32} (e : k1.toInt = k.toInt - 1) (hm : 0 ≤ m.toInt ∧ m.toInt ≤ 4399) (hk : 0 < k.toInt ∧ k.toInt ≤ m.toInt) (hf : gO f m.toNatClampNeg) (h1 : ∀ i : Nat, (i : Int) < k.toInt → g i = f i) (h2 : ∀ i : Nat, k.toInt < i → (i : Int) ≤ m.toInt → 0 ≤ (g i).toInt ∧ (g i).toInt ≤ 9) : ∀ i : Nat, k.toInt - 1 < i → (i : Int) ≤ m.toInt → 0 ≤ (upd g k.toNatClampNeg (g k1.toNatClampNeg) i).toInt ∧ (upd g k.toNatClampNeg (g k1.toNatClampNeg) i).toInt ≤ 9 := fun i hi hj => by
  have e1 := q_clI (i := k1) e (by omega)
  have e2 := q_clI (i := k) rfl (by omega)
  have e3 := q_clI (i := m) rfl (by omega)
  by_cases c : i = k.toNatClampNeg
  · rw [c, v_eq, h1 _ (by omega)]; exact hf _ (by omega)
  · rw [v_ne c]; exact h2 i (by omega) hj
theorem v_cut1 {K_F_DR_cut_L64 : Int32 → Int32 → (Nat → Int32) → (Int32 × Int32 × Int32 × Int32 × Int64 × Int32 × Int32 × Int32 × Int32 × Int32 × Int32 × Int32 × (Nat → Int32))} {x2 : Int32} {x3 : Int32} {t0_0 : Int32} {t0_1 : Int32} {t0_2 : Int32} {t0_3 : Int64} {t0_4 : Int32} {t0_5 : Int32} {t0_6 : Int32} {t0_7 : Int32} {t0_8 : Int32} {t0_9 : Int32} {t0_10 : Int32} {t1_0 : (Nat → Int32)} {a23 : Int32} {j35 : Int64} {lx39 : Int32} {lx59 : Int32} {lx60 : Int32} {lx61 : (Nat → Int32)} {K_S_DR_cut_L64 : Int32 → Int32 → (Nat → Int32) → Prop} (h39 : 0 ≤ lx39.toInt ∧ lx39.toInt ≤ 4399)(hg : gO lx61 lx39.toNatClampNeg) : ∀ (n : Nat) (lx88 : Int32) (lx89 : (Nat → Int32)), (0 ≤ lx88.toInt ∧ lx88.toInt ≤ lx39.toInt) → (lx88.toInt < (n : Int)) → (∀ i : Nat, (i : Int) < lx88.toInt → lx89 i = lx61 i) → (∀ i : Nat, lx88.toInt < i → (i : Int) ≤ lx39.toInt → 0 ≤ (lx89 i).toInt ∧ (lx89 i).toInt ≤ 9) → (S_DR_cut_L141 K_S_DR_cut_L64 x2 x3 t0_0 t0_1 t0_2 t0_3 t0_4 t0_5 t0_6 t0_7 t0_8 t0_9 t0_10 t1_0 a23 j35 lx39 lx59 lx60 lx61 n lx88 lx89) ∧ Q_DR_cut t0_5 (F_DR_cut_L141 K_F_DR_cut_L64 x2 x3 t0_0 t0_1 t0_2 t0_3 t0_4 t0_5 t0_6 t0_7 t0_8 t0_9 t0_10 t1_0 a23 j35 lx39 lx59 lx60 lx61 n lx88 lx89) := by
  intro n
  induction n with
  | zero => intro lx88 lx89 h0 hm ha hb; exact absurd (show False by omega) id
  | succ n ih =>
    intro lx88 lx89 h0 hm ha hb
    have e0 : (0 : Int32).toInt = 0 := rfl
    rw [S_DR_cut_L141.eq_2, F_DR_cut_L141.eq_2]
    by_cases g1 : lx88 ≤ (0 : Int32)
    ·
      rw [if_pos g1, if_pos g1]
      have g1i : lx88.toInt ≤ 0 := q_leI g1
      refine ⟨trivial, ?_⟩
      (unfold Q_DR_cut; dsimp only; have hh := g_sh1 h39 h0.1 hg ha hb (by omega); exact ⟨by omega, hh.1, rfl⟩)
    ·
      rw [if_neg g1, if_neg g1]
      have g1i : 0 < lx88.toInt := q_nleI g1
      obtain ⟨a2, e3⟩ := q_nm (lx88 - 1 : Int32)
      rw [e3]
      have a2i : a2.toInt = lx88.toInt - 1 := by rw [← e3]; exact q_subI (x := lx88.toInt) (y := 1) rfl (by decide) (by omega) (by omega)
      refine v_cons (by omega) ?_
      refine v_cons (by omega) ?_
      obtain ⟨a4, e5⟩ := q_nm (lx88 + (-1) : Int32)
      rw [e5]
      have a4i : a4.toInt = lx88.toInt + (-1) := by rw [← e5]; exact q_addI (x := lx88.toInt) (y := (-1)) rfl (by decide) (by omega) (by omega)
      exact ih _ _ ⟨by omega, by omega⟩ (by omega) (fun i hi => by rw [v_ne (by have := q_clI (i := lx88) rfl (by omega); omega)]; exact ha i (by omega)) (fun i hi hj => g_sh2 a2i h39 ⟨by omega, by omega⟩ hg ha hb i (by omega) hj)
theorem v_cut2 {x2 : Int32} {x3 : Int32} {t0_0 : Int32} {t0_1 : Int32} {t0_2 : Int32} {t0_3 : Int64} {t0_4 : Int32} {t0_5 : Int32} {t0_6 : Int32} {t0_7 : Int32} {t0_8 : Int32} {t0_9 : Int32} {t0_10 : Int32} {t1_0 : (Nat → Int32)} {a23 : Int32} {j35 : Int64} {lx39 : Int32} (h39 : 0 ≤ lx39.toInt ∧ lx39.toInt ≤ 4399) : ∀ (n : Nat) (lx59 : Int32) (lx60 : Int32) (lx61 : (Nat → Int32)), (-1 ≤ lx59.toInt ∧ lx59.toInt < lx39.toInt) → (lx59.toInt + 1 < (n : Int)) → (gO lx61 lx39.toNatClampNeg) → (S_DR_cut_L64 x2 x3 t0_0 t0_1 t0_2 t0_3 t0_4 t0_5 t0_6 t0_7 t0_8 t0_9 t0_10 t1_0 a23 j35 lx39 n lx59 lx60 lx61) ∧ Q_DR_cut t0_5 (F_DR_cut_L64 x2 x3 t0_0 t0_1 t0_2 t0_3 t0_4 t0_5 t0_6 t0_7 t0_8 t0_9 t0_10 t1_0 a23 j35 lx39 n lx59 lx60 lx61) := by
  intro n
  induction n with
  | zero => intro lx59 lx60 lx61 h0 hm ho; exact absurd (show False by omega) id
  | succ n ih =>
    intro lx59 lx60 lx61 h0 hm ho
    have e0 : (0 : Int32).toInt = 0 := rfl
    rw [S_DR_cut_L64.eq_2, F_DR_cut_L64.eq_2]
    by_cases g1 : lx60 = (1 : Int32)
    ·
      rw [if_pos g1, if_pos g1]
      by_cases g2 : lx59 < (0 : Int32)
      ·
        rw [if_pos g2, if_pos g2]
        have g2i : lx59.toInt < 0 := q_ltI g2
        unfold S_DR_cut_J130 F_DR_cut_J130
        rw [if_pos g1, if_pos g1]
        exact v_cut1 h39 ho _ _ _ (by omega) (by omega) (fun i _ => rfl) (fun i hi hj => by omega)
      ·
        rw [if_neg g2, if_neg g2]
        have g2i : 0 ≤ lx59.toInt := q_nltI g2
        refine v_cons (by omega) ?_
        by_cases g3 : (lx61 lx59.toNatClampNeg : Int32) = (9 : Int32)
        ·
          rw [if_pos g3, if_pos g3]
          unfold S_DR_cut_J91 F_DR_cut_J91
          rw [if_pos g3, if_pos g3]
          obtain ⟨a4, e5⟩ := q_nm (lx59 + (-1) : Int32)
          rw [e5]
          have a4i : a4.toInt = lx59.toInt + (-1) := by rw [← e5]; exact q_addI (x := lx59.toInt) (y := (-1)) rfl (by decide) (by omega) (by omega)
          exact ih _ _ _ ⟨by omega, by omega⟩ (by omega) (by first | exact g_cutZ ho | exact g_cutA ho (by omega) (by omega) (by assumption))
        ·
          rw [if_neg g3, if_neg g3]
          unfold S_DR_cut_J91 F_DR_cut_J91
          rw [if_neg g3, if_neg g3]
          obtain ⟨a6, e7⟩ := q_nm (lx59 + (-1) : Int32)
          rw [e7]
          have a6i : a6.toInt = lx59.toInt + (-1) := by rw [← e7]; exact q_addI (x := lx59.toInt) (y := (-1)) rfl (by decide) (by omega) (by omega)
          exact ih _ _ _ ⟨by omega, by omega⟩ (by omega) (by first | exact g_cutZ ho | exact g_cutA ho (by omega) (by omega) (by assumption))
    ·
      rw [if_neg g1, if_neg g1]
      unfold S_DR_cut_J130 F_DR_cut_J130
      rw [if_neg g1, if_neg g1]
      refine ⟨trivial, ?_⟩
      (unfold Q_DR_cut; dsimp only; exact ⟨by omega, ho, rfl⟩)
theorem T_DR_cut {x2 : Int32} {x3 : Int32} {t0_0 : Int32} {t0_1 : Int32} {t0_2 : Int32} {t0_3 : Int64} {t0_4 : Int32} {t0_5 : Int32} {t0_6 : Int32} {t0_7 : Int32} {t0_8 : Int32} {t0_9 : Int32} {t0_10 : Int32} {t1_0 : (Nat → Int32)} (h2 : 0 ≤ t0_2.toInt ∧ t0_2.toInt ≤ 4400) (h29 : t0_2.toInt ≤ 4399)(hx : -1 ≤ x2.toInt ∧ x2.toInt ≤ t0_2.toInt)(hg : gO t1_0 t0_2.toNatClampNeg) : (S_DR_cut x2 x3 t0_0 t0_1 t0_2 t0_3 t0_4 t0_5 t0_6 t0_7 t0_8 t0_9 t0_10 t1_0) ∧ Q_DR_cut t0_5 (F_DR_cut x2 x3 t0_0 t0_1 t0_2 t0_3 t0_4 t0_5 t0_6 t0_7 t0_8 t0_9 t0_10 t1_0) := by
  have e0 : (0 : Int32).toInt = 0 := rfl
  unfold S_DR_cut F_DR_cut
  have h1 := T_DR_grows (x2 := x2) (x3 := x3) (t0_0 := t0_0) (t0_1 := t0_1) (t0_2 := t0_2) (t0_3 := t0_3) (t0_4 := t0_4) (t0_5 := t0_5) (t0_6 := t0_6) (t0_7 := t0_7) (t0_8 := t0_8) (t0_9 := t0_9) (t0_10 := t0_10) (t1_0 := t1_0) h2 hx
  with_reducible refine v_owe h1.1 ?_
  by_cases g2 : ((F_DR_grows x2 x3 t0_0 t0_1 t0_2 t0_3 t0_4 t0_5 t0_6 t0_7 t0_8 t0_9 t0_10 t1_0) : Int32) = (2 : Int32)
  ·
    rw [if_pos g2, if_pos g2]
    refine ⟨trivial, ?_⟩
    (unfold Q_DR_cut; dsimp only; exact ⟨by omega, hg, rfl⟩)
  ·
    rw [if_neg g2, if_neg g2]
    by_cases g3 : (0 : Int32) ≤ x2
    ·
      rw [if_pos g3, if_pos g3]
      have g3i : 0 ≤ x2.toInt := q_leI g3
      unfold S_DR_cut_J48 F_DR_cut_J48
      have ez : (x2 - 1 : Int32).toInt = x2.toInt - 1 := q_subI (y := 1) rfl (by decide) (by omega) (by omega); exact v_cut2 ⟨by omega, by omega⟩ _ _ _ _ ⟨by omega, by omega⟩ (by omega) (g_cl hg (by omega) (by omega))
    ·
      rw [if_neg g3, if_neg g3]
      have g3i : x2.toInt < 0 := q_nleI g3
      unfold S_DR_cut_J48 F_DR_cut_J48
      have ez : ((0 : Int32) - 1 : Int32).toInt = (0 : Int32).toInt - 1 := q_subI (y := 1) rfl (by decide) (by omega) (by omega); exact v_cut2 ⟨by omega, by omega⟩ _ _ _ _ ⟨by omega, by omega⟩ (by omega) (g_cl hg (by omega) (by omega))
def Q_DR_lengthen (p : Int32 × Int32 × Int32 × Int64 × Int32 × Int32 × Int32 × Int32 × Int32 × Int32 × Int32 × (Nat → Int32)) : Prop := (0 ≤ p.2.2.1.toInt ∧ p.2.2.1.toInt ≤ 4400) ∧ gO p.2.2.2.2.2.2.2.2.2.2.2 p.2.2.1.toNatClampNeg
theorem v_len {x2 : Int64} {t0_0 : Int32} {t0_1 : Int32} {t0_2 : Int32} {t0_3 : Int64} {t0_4 : Int32} {t0_5 : Int32} {t0_6 : Int32} {t0_7 : Int32} {t0_8 : Int32} {t0_9 : Int32} {t0_10 : Int32} {t1_0 : (Nat → Int32)} (h2 : 0 ≤ t0_2.toInt ∧ t0_2.toInt ≤ 4400) (hx : x2.toInt ≤ 4400) (hs : t0_2.toInt + x2.toInt ≤ 4400) : ∀ (n : Nat) (lx21 : Int64) (lx22 : Int32) (lx23 : (Nat → Int32)), (0 ≤ lx21.toInt ∧ lx22.toInt = t0_2.toInt + lx21.toInt) → (x2.toInt - lx21.toInt < (n : Int)) → ((1 : Int) ≤ n ∨ lx21.toInt ≤ x2.toInt) → (lx21.toInt ≤ x2.toInt ∨ lx21.toInt = 0) → (gO lx23 lx22.toNatClampNeg) → (S_DR_lengthen_L2 x2 t0_0 t0_1 t0_2 t0_3 t0_4 t0_5 t0_6 t0_7 t0_8 t0_9 t0_10 t1_0 n lx21 lx22 lx23) ∧ Q_DR_lengthen (F_DR_lengthen_L2 x2 t0_0 t0_1 t0_2 t0_3 t0_4 t0_5 t0_6 t0_7 t0_8 t0_9 t0_10 t1_0 n lx21 lx22 lx23) := by
  intro n
  induction n with
  | zero => intro lx21 lx22 lx23 h0 hm hn hl ho; exact absurd (show False by omega) id
  | succ n ih =>
    intro lx21 lx22 lx23 h0 hm hn hl ho
    have e0 : (0 : Int32).toInt = 0 := rfl
    rw [S_DR_lengthen_L2.eq_2, F_DR_lengthen_L2.eq_2]
    by_cases g1 : (0 : Int32) ≤ (lg_cmp lx21 x2 : Int32)
    ·
      rw [if_pos g1, if_pos g1]
      have g1l := g_lc5 g1
      refine ⟨trivial, ?_⟩
      (unfold Q_DR_lengthen; dsimp only; exact ⟨by omega, ho⟩)
    ·
      rw [if_neg g1, if_neg g1]
      have g1l := g_lc6 g1
      refine v_cons (by omega) ?_
      refine v_cons (by omega) ?_
      obtain ⟨a2, e3⟩ := q_nm (lx22 + 1 : Int32)
      rw [e3]
      have a2i : a2.toInt = lx22.toInt + 1 := by rw [← e3]; exact q_addI (x := lx22.toInt) (y := 1) rfl (by decide) (by omega) (by omega)
      have e9 : (lx21 + 1 : Int64).toInt = lx21.toInt + 1 := q_addL (y := 1) rfl (by decide) (by omega) (by omega); exact ih _ _ _ ⟨by omega, by omega⟩ (by omega) (by omega) (by omega) (by rw [show a2.toNatClampNeg = lx22.toNatClampNeg + 1 by (have e7 := q_clI (i := lx22) rfl (by omega); have e8 := q_clI (i := a2) a2i (by omega); omega)]; exact gO_push ho ⟨by decide, by decide⟩)
theorem T_DR_lengthen {x2 : Int64} {t0_0 : Int32} {t0_1 : Int32} {t0_2 : Int32} {t0_3 : Int64} {t0_4 : Int32} {t0_5 : Int32} {t0_6 : Int32} {t0_7 : Int32} {t0_8 : Int32} {t0_9 : Int32} {t0_10 : Int32} {t1_0 : (Nat → Int32)} (h2 : 0 ≤ t0_2.toInt ∧ t0_2.toInt ≤ 4400) (hx : x2.toInt ≤ 4400) (hs : t0_2.toInt + x2.toInt ≤ 4400)(hg : gO t1_0 t0_2.toNatClampNeg) : (S_DR_lengthen x2 t0_0 t0_1 t0_2 t0_3 t0_4 t0_5 t0_6 t0_7 t0_8 t0_9 t0_10 t1_0) ∧ Q_DR_lengthen (F_DR_lengthen x2 t0_0 t0_1 t0_2 t0_3 t0_4 t0_5 t0_6 t0_7 t0_8 t0_9 t0_10 t1_0) := by
  have e0 : (0 : Int32).toInt = 0 := rfl
  have eL0 : (0 : Int64).toInt = 0 := rfl
  unfold S_DR_lengthen F_DR_lengthen
  exact v_len h2 hx hs _ _ _ _ ⟨by omega, by omega⟩ (by omega) (by omega) (by omega) hg
def Q_DR_needed (t0_2 : Int32) (p : Int32) : Prop := 1 ≤ p.toInt ∧ p.toInt ≤ t0_2.toInt
theorem v_nee {t0_0 : Int32} {t0_1 : Int32} {t0_2 : Int32} {t0_3 : Int64} {t0_4 : Int32} {t0_5 : Int32} {t0_6 : Int32} {t0_7 : Int32} {t0_8 : Int32} {t0_9 : Int32} {t0_10 : Int32} {t1_0 : (Nat → Int32)} (h2 : 1 ≤ t0_2.toInt ∧ t0_2.toInt ≤ 4400) : ∀ (n : Nat) (lx21 : Int32), (1 ≤ lx21.toInt ∧ lx21.toInt ≤ t0_2.toInt) → (lx21.toInt < (n : Int)) → (S_DR_needed_L5 t0_0 t0_1 t0_2 t0_3 t0_4 t0_5 t0_6 t0_7 t0_8 t0_9 t0_10 t1_0 n lx21) ∧ Q_DR_needed t0_2 (F_DR_needed_L5 t0_0 t0_1 t0_2 t0_3 t0_4 t0_5 t0_6 t0_7 t0_8 t0_9 t0_10 t1_0 n lx21) := by
  intro n
  induction n with
  | zero => intro lx21 h0 hm; exact absurd (show False by omega) id
  | succ n ih =>
    intro lx21 h0 hm
    have e0 : (0 : Int32).toInt = 0 := rfl
    have e1 : (1 : Int32).toInt = 1 := rfl
    rw [S_DR_needed_L5.eq_2, F_DR_needed_L5.eq_2]
    by_cases g1 : lx21 ≤ (1 : Int32)
    ·
      rw [if_pos g1, if_pos g1]
      have g1i : lx21.toInt ≤ 1 := q_leI g1
      refine ⟨trivial, ?_⟩
      (unfold Q_DR_needed; omega)
    ·
      rw [if_neg g1, if_neg g1]
      have g1i : 1 < lx21.toInt := q_nleI g1
      obtain ⟨a2, e3⟩ := q_nm (lx21 - 1 : Int32)
      rw [e3]
      have a2i : a2.toInt = lx21.toInt - 1 := by rw [← e3]; exact q_subI (x := lx21.toInt) (y := 1) rfl (by decide) (by omega) (by omega)
      refine v_cons (by omega) ?_
      by_cases g4 : (t1_0 a2.toNatClampNeg : Int32) = (0 : Int32)
      ·
        rw [if_pos g4, if_pos g4]
        obtain ⟨a5, e6⟩ := q_nm (lx21 + (-1) : Int32)
        rw [e6]
        have a5i : a5.toInt = lx21.toInt + (-1) := by rw [← e6]; exact q_addI (x := lx21.toInt) (y := (-1)) rfl (by decide) (by omega) (by omega)
        exact ih _ (by first | with_reducible assumption | omega | decide) (by first | with_reducible assumption | omega | decide)
      ·
        rw [if_neg g4, if_neg g4]
        refine ⟨trivial, ?_⟩
        (unfold Q_DR_needed; omega)
theorem T_DR_needed {t0_0 : Int32} {t0_1 : Int32} {t0_2 : Int32} {t0_3 : Int64} {t0_4 : Int32} {t0_5 : Int32} {t0_6 : Int32} {t0_7 : Int32} {t0_8 : Int32} {t0_9 : Int32} {t0_10 : Int32} {t1_0 : (Nat → Int32)} (h2 : 1 ≤ t0_2.toInt ∧ t0_2.toInt ≤ 4400) : (S_DR_needed t0_0 t0_1 t0_2 t0_3 t0_4 t0_5 t0_6 t0_7 t0_8 t0_9 t0_10 t1_0) ∧ Q_DR_needed t0_2 (F_DR_needed t0_0 t0_1 t0_2 t0_3 t0_4 t0_5 t0_6 t0_7 t0_8 t0_9 t0_10 t1_0) := by
  unfold S_DR_needed F_DR_needed
  exact v_nee h2 _ _ (by omega) (by omega)

/-! DecimalRows: bring, toPrecision, and what rests on them -/
theorem g_kp {a : Int32} {b c : Int64} (ha : 0 ≤ a.toInt ∧ a.toInt ≤ 4400) (hb : -100000 ≤ b.toInt ∧ b.toInt ≤ 100000) (hc : -100000 ≤ c.toInt ∧ c.toInt ≤ 100000) (h1 : (-1 : Int64).toInt ≤ (a.toInt64 - (b - c) : Int64).toInt) (h2 : c.toInt < b.toInt) : -1 ≤ ((a.toInt64 - (b - c) : Int64).toInt32).toInt ∧ ((a.toInt64 - (b - c) : Int64).toInt32).toInt ≤ a.toInt := by
  have e1 : (b - c : Int64).toInt = b.toInt - c.toInt := q_subL rfl rfl (by omega) (by omega)
  have e2 : (a.toInt64 - (b - c) : Int64).toInt = a.toInt - (b.toInt - c.toInt) := q_subL (q_i2l rfl) e1 (by omega) (by omega)
  have e3 : (-1 : Int64).toInt = -1 := rfl
  rw [s_l2i (by omega) (by omega), e2]
  omega
theorem g_sL {b c : Int64} (hb : -100000 ≤ b.toInt ∧ b.toInt ≤ 100000) (hc : -100000 ≤ c.toInt ∧ c.toInt ≤ 100000) : (b - c : Int64).toInt = b.toInt - c.toInt := q_subL rfl rfl (by omega) (by omega)
theorem g_sI {b c : Int32} (hb : 0 ≤ b.toInt ∧ b.toInt ≤ 100000) (hc : 0 ≤ c.toInt ∧ c.toInt ≤ 100000) : ((b - c : Int32).toInt64).toInt = b.toInt - c.toInt := q_i2l (q_subI rfl rfl (by omega) (by omega))
theorem R_need {t0_0 t0_1 t0_2 : Int32} {t0_3 : Int64} {t0_4 t0_5 t0_6 t0_7 t0_8 t0_9 t0_10 : Int32} {t1_0 : Nat → Int32} (h2 : 1 ≤ t0_2.toInt ∧ t0_2.toInt ≤ 4400) : S_DR_needed t0_0 t0_1 t0_2 t0_3 t0_4 t0_5 t0_6 t0_7 t0_8 t0_9 t0_10 t1_0 ∧ (1 ≤ (F_DR_needed t0_0 t0_1 t0_2 t0_3 t0_4 t0_5 t0_6 t0_7 t0_8 t0_9 t0_10 t1_0).toInt ∧ (F_DR_needed t0_0 t0_1 t0_2 t0_3 t0_4 t0_5 t0_6 t0_7 t0_8 t0_9 t0_10 t1_0).toInt ≤ t0_2.toInt) := T_DR_needed h2
def Q_DR_bring (p : Int32 × Int32 × Int32 × Int64 × Int32 × Int32 × Int32 × Int32 × Int32 × Int32 × Int32 × (Nat → Int32) × (Nat → Int32) × (Nat → Int32) × (Nat → Int32) × (Nat → Int32)) : Prop := gR p.2.2.2.2.2.2.2.2.2.2.2.1 p.2.2.2.2.2.2.2.2.2.2.2.2.1 p.2.2.2.2.2.2.2.2.2.2.2.2.2.1 p.2.2.2.2.2.2.2.2.2.2.2.2.2.2.1
theorem T_DR_bring {x2 : Int64} {x3 : Int32} {x4 : Int32} {t0_0 : Int32} {t0_1 : Int32} {t0_2 : Int32} {t0_3 : Int64} {t0_4 : Int32} {t0_5 : Int32} {t0_6 : Int32} {t0_7 : Int32} {t0_8 : Int32} {t0_9 : Int32} {t0_10 : Int32} {t1_0 : (Nat → Int32)} {t2_0 : (Nat → Int32)} {t3_0 : (Nat → Int32)} {t4_0 : (Nat → Int32)} {t5_0 : (Nat → Int32)} (hR : gR t1_0 t2_0 t3_0 t4_0)(hx : 0 ≤ x4.toInt ∧ x4.toInt ≤ 9) (hw : -20000 ≤ x2.toInt ∧ x2.toInt ≤ 20000)(h2 : 0 ≤ t0_2.toInt ∧ t0_2.toInt ≤ 1000) (hg : gO t5_0 t0_2.toNatClampNeg) (h3 : -20000 ≤ t0_3.toInt ∧ t0_3.toInt ≤ 20000) : (S_DR_bring x2 x3 x4 t0_0 t0_1 t0_2 t0_3 t0_4 t0_5 t0_6 t0_7 t0_8 t0_9 t0_10 t1_0 t2_0 t3_0 t4_0 t5_0) ∧ Q_DR_bring (F_DR_bring x2 x3 x4 t0_0 t0_1 t0_2 t0_3 t0_4 t0_5 t0_6 t0_7 t0_8 t0_9 t0_10 t1_0 t2_0 t3_0 t4_0 t5_0) := by
  have e0 : (0 : Int32).toInt = 0 := rfl
  have eL0 : (0 : Int64).toInt = 0 := rfl
  have eL1 : (10000 : Int64).toInt = 10000 := rfl
  have eL2 : (-10000 : Int64).toInt = -10000 := rfl
  have eL3 : (1000 : Int64).toInt = 1000 := rfl
  have eL4 : (-1 : Int64).toInt = -1 := rfl
  have eI3 : (1000 : Int32).toInt = 1000 := rfl
  unfold S_DR_bring F_DR_bring
  have h1 := T_DR_trim (t0_0 := t0_0) (t0_1 := t0_1) (t0_2 := t0_2) (t0_3 := t0_3) (t0_4 := t0_4) (t0_5 := t0_5) (t0_6 := t0_6) (t0_7 := t0_7) (t0_8 := t0_8) (t0_9 := t0_9) (t0_10 := t0_10) (t1_0 := t5_0) ⟨by omega, by omega⟩ (by first | with_reducible assumption | exact g_cl (by with_reducible assumption) (by omega) (by omega) | omega | decide)
  with_reducible refine v_owe h1.1 ?_
  replace h1 := h1.2
  generalize F_DR_trim t0_0 t0_1 t0_2 t0_3 t0_4 t0_5 t0_6 t0_7 t0_8 t0_9 t0_10 t5_0 = p75 at *
  unfold Q_DR_trim at h1
  obtain ⟨⟨h11, h12, h13, h19⟩, h1g, h15, h1a, h1b, h1s, h1m, h1x6, h1x7, h1x8, h1x9, h1x10⟩ := h1
  have trim9 := h19
  have h1si := congrArg Int64.toInt h1s
  have h1mi := congrArg Int32.toInt h1m
  unfold S_DR_bring_c1 F_DR_bring_c1
  by_cases g2 : ((p75.2.2.2.2.2.2.2.2.2.2.2 : (Nat → Int32)) (0 : Int32).toNatClampNeg : Int32) = (0 : Int32)
  ·
    rw [if_pos g2, if_pos g2]
    by_cases g3 : (p75.2.2.2.2.1 : Int32) = (0 : Int32)
    ·
      rw [if_pos g3, if_pos g3]
      have h4 := T_DR_store (x2 := x4) (t0_0 := (p75.1 : Int32)) (t0_1 := (p75.2.1 : Int32)) (t0_2 := (p75.2.2.1 : Int32)) (t0_3 := x2) (t0_4 := (p75.2.2.2.2.1 : Int32)) (t0_5 := (p75.2.2.2.2.2.1 : Int32)) (t0_6 := (p75.2.2.2.2.2.2.1 : Int32)) (t0_7 := (p75.2.2.2.2.2.2.2.1 : Int32)) (t0_8 := (p75.2.2.2.2.2.2.2.2.1 : Int32)) (t0_9 := (p75.2.2.2.2.2.2.2.2.2.1 : Int32)) (t0_10 := (p75.2.2.2.2.2.2.2.2.2.2.1 : Int32)) (t1_0 := t1_0) (t2_0 := t2_0) (t3_0 := t3_0) (t4_0 := t4_0) (t5_0 := (p75.2.2.2.2.2.2.2.2.2.2.2 : (Nat → Int32))) (by with_reducible assumption) (by with_reducible assumption) ⟨by first | omega | decide, by first | omega | decide⟩ (by first | with_reducible assumption | exact g_cl (by with_reducible assumption) (by omega) (by omega) | omega | decide)
      with_reducible refine v_owe h4.1 ?_
      replace h4 := h4.2
      generalize F_DR_store x4 (p75.1 : Int32) (p75.2.1 : Int32) (p75.2.2.1 : Int32) x2 (p75.2.2.2.2.1 : Int32) (p75.2.2.2.2.2.1 : Int32) (p75.2.2.2.2.2.2.1 : Int32) (p75.2.2.2.2.2.2.2.1 : Int32) (p75.2.2.2.2.2.2.2.2.1 : Int32) (p75.2.2.2.2.2.2.2.2.2.1 : Int32) (p75.2.2.2.2.2.2.2.2.2.2.1 : Int32) t1_0 t2_0 t3_0 t4_0 (p75.2.2.2.2.2.2.2.2.2.2.2 : (Nat → Int32)) = p597 at *
      unfold Q_DR_store at h4
      unfold S_DR_bring_c119_9 F_DR_bring_c119_9
      refine ⟨trivial, ?_⟩
      (unfold Q_DR_bring; dsimp only; with_reducible assumption)
    ·
      rw [if_neg g3, if_neg g3]
      unfold S_DR_bring_J28 F_DR_bring_J28
      by_cases g5 : (lg_cmp x2 (p75.2.2.2.1 : Int64) : Int32) < (0 : Int32)
      ·
        rw [if_pos g5, if_pos g5]
        have g5l := g_lc1 g5
        by_cases g6 : (0 : Int32) ≤ (lg_cmp (((p75.2.2.1 : Int32).toInt64 : Int64) - ((p75.2.2.2.1 : Int64) - x2 : Int64) : Int64) (-1) : Int32)
        ·
          rw [if_pos g6, if_pos g6]
          have g6l := g_lc5 g6
          have h7 := T_DR_cut (x2 := ((((p75.2.2.1 : Int32).toInt64 : Int64) - ((p75.2.2.2.1 : Int64) - x2 : Int64) : Int64).toInt32 : Int32)) (x3 := x3) (t0_0 := (p75.1 : Int32)) (t0_1 := (p75.2.1 : Int32)) (t0_2 := (p75.2.2.1 : Int32)) (t0_3 := (p75.2.2.2.1 : Int64)) (t0_4 := (p75.2.2.2.2.1 : Int32)) (t0_5 := (p75.2.2.2.2.2.1 : Int32)) (t0_6 := (p75.2.2.2.2.2.2.1 : Int32)) (t0_7 := (p75.2.2.2.2.2.2.2.1 : Int32)) (t0_8 := (p75.2.2.2.2.2.2.2.2.1 : Int32)) (t0_9 := (p75.2.2.2.2.2.2.2.2.2.1 : Int32)) (t0_10 := (p75.2.2.2.2.2.2.2.2.2.2.1 : Int32)) (t1_0 := (p75.2.2.2.2.2.2.2.2.2.2.2 : (Nat → Int32))) ⟨by omega, by omega⟩ (by omega) (by first | exact ⟨by omega, by omega⟩ | exact ⟨by decide, by have ez : (-1 : Int32).toInt = -1 := rfl; omega⟩ | exact g_kp ⟨by omega, by omega⟩ ⟨by omega, by omega⟩ ⟨by omega, by omega⟩ (by with_reducible assumption) (by omega)) (by with_reducible assumption)
          with_reducible refine v_owe h7.1 ?_
          replace h7 := h7.2
          generalize F_DR_cut ((((p75.2.2.1 : Int32).toInt64 : Int64) - ((p75.2.2.2.1 : Int64) - x2 : Int64) : Int64).toInt32 : Int32) x3 (p75.1 : Int32) (p75.2.1 : Int32) (p75.2.2.1 : Int32) (p75.2.2.2.1 : Int64) (p75.2.2.2.2.1 : Int32) (p75.2.2.2.2.2.1 : Int32) (p75.2.2.2.2.2.2.1 : Int32) (p75.2.2.2.2.2.2.2.1 : Int32) (p75.2.2.2.2.2.2.2.2.1 : Int32) (p75.2.2.2.2.2.2.2.2.2.1 : Int32) (p75.2.2.2.2.2.2.2.2.2.2.1 : Int32) (p75.2.2.2.2.2.2.2.2.2.2.2 : (Nat → Int32)) = p165 at *
          unfold Q_DR_cut at h7
          obtain ⟨h71, h7g, h76⟩ := h7
          unfold S_DR_bring_c104 F_DR_bring_c104
          by_cases g8 : (p165.1 : Int32) = (0 : Int32)
          ·
            rw [if_pos g8, if_pos g8]
            refine ⟨trivial, ?_⟩
            (unfold Q_DR_bring; dsimp only; with_reducible assumption)
          ·
            rw [if_neg g8, if_neg g8]
            have h9 := T_DR_store (x2 := x4) (t0_0 := (p165.2.1 : Int32)) (t0_1 := (p165.2.2.1 : Int32)) (t0_2 := (p165.2.2.2.1 : Int32)) (t0_3 := x2) (t0_4 := (p165.2.2.2.2.2.1 : Int32)) (t0_5 := (p165.2.2.2.2.2.2.1 : Int32)) (t0_6 := (p165.2.2.2.2.2.2.2.1 : Int32)) (t0_7 := (p165.2.2.2.2.2.2.2.2.1 : Int32)) (t0_8 := (p165.2.2.2.2.2.2.2.2.2.1 : Int32)) (t0_9 := (p165.2.2.2.2.2.2.2.2.2.2.1 : Int32)) (t0_10 := (p165.2.2.2.2.2.2.2.2.2.2.2.1 : Int32)) (t1_0 := t1_0) (t2_0 := t2_0) (t3_0 := t3_0) (t4_0 := t4_0) (t5_0 := (p165.2.2.2.2.2.2.2.2.2.2.2.2 : (Nat → Int32))) (by with_reducible assumption) (by with_reducible assumption) ⟨by first | omega | decide, by first | omega | decide⟩ (by first | with_reducible assumption | exact g_cl (by with_reducible assumption) (by omega) (by omega) | omega | decide)
            with_reducible refine v_owe h9.1 ?_
            replace h9 := h9.2
            generalize F_DR_store x4 (p165.2.1 : Int32) (p165.2.2.1 : Int32) (p165.2.2.2.1 : Int32) x2 (p165.2.2.2.2.2.1 : Int32) (p165.2.2.2.2.2.2.1 : Int32) (p165.2.2.2.2.2.2.2.1 : Int32) (p165.2.2.2.2.2.2.2.2.1 : Int32) (p165.2.2.2.2.2.2.2.2.2.1 : Int32) (p165.2.2.2.2.2.2.2.2.2.2.1 : Int32) (p165.2.2.2.2.2.2.2.2.2.2.2.1 : Int32) t1_0 t2_0 t3_0 t4_0 (p165.2.2.2.2.2.2.2.2.2.2.2.2 : (Nat → Int32)) = p238 at *
            unfold Q_DR_store at h9
            unfold S_DR_bring_c119 F_DR_bring_c119
            refine ⟨trivial, ?_⟩
            (unfold Q_DR_bring; dsimp only; with_reducible assumption)
        ·
          rw [if_neg g6, if_neg g6]
          have g6l := g_lc6 g6
          have h10 := T_DR_cut (x2 := (-1 : Int32)) (x3 := x3) (t0_0 := (p75.1 : Int32)) (t0_1 := (p75.2.1 : Int32)) (t0_2 := (p75.2.2.1 : Int32)) (t0_3 := (p75.2.2.2.1 : Int64)) (t0_4 := (p75.2.2.2.2.1 : Int32)) (t0_5 := (p75.2.2.2.2.2.1 : Int32)) (t0_6 := (p75.2.2.2.2.2.2.1 : Int32)) (t0_7 := (p75.2.2.2.2.2.2.2.1 : Int32)) (t0_8 := (p75.2.2.2.2.2.2.2.2.1 : Int32)) (t0_9 := (p75.2.2.2.2.2.2.2.2.2.1 : Int32)) (t0_10 := (p75.2.2.2.2.2.2.2.2.2.2.1 : Int32)) (t1_0 := (p75.2.2.2.2.2.2.2.2.2.2.2 : (Nat → Int32))) ⟨by omega, by omega⟩ (by omega) (by first | exact ⟨by omega, by omega⟩ | exact ⟨by decide, by have ez : (-1 : Int32).toInt = -1 := rfl; omega⟩ | exact g_kp ⟨by omega, by omega⟩ ⟨by omega, by omega⟩ ⟨by omega, by omega⟩ (by with_reducible assumption) (by omega)) (by with_reducible assumption)
          with_reducible refine v_owe h10.1 ?_
          replace h10 := h10.2
          generalize F_DR_cut (-1 : Int32) x3 (p75.1 : Int32) (p75.2.1 : Int32) (p75.2.2.1 : Int32) (p75.2.2.2.1 : Int64) (p75.2.2.2.2.1 : Int32) (p75.2.2.2.2.2.1 : Int32) (p75.2.2.2.2.2.2.1 : Int32) (p75.2.2.2.2.2.2.2.1 : Int32) (p75.2.2.2.2.2.2.2.2.1 : Int32) (p75.2.2.2.2.2.2.2.2.2.1 : Int32) (p75.2.2.2.2.2.2.2.2.2.2.1 : Int32) (p75.2.2.2.2.2.2.2.2.2.2.2 : (Nat → Int32)) = p301 at *
          unfold Q_DR_cut at h10
          obtain ⟨h101, h10g, h106⟩ := h10
          unfold S_DR_bring_c104_5 F_DR_bring_c104_5
          by_cases g11 : (p301.1 : Int32) = (0 : Int32)
          ·
            rw [if_pos g11, if_pos g11]
            refine ⟨trivial, ?_⟩
            (unfold Q_DR_bring; dsimp only; with_reducible assumption)
          ·
            rw [if_neg g11, if_neg g11]
            have h12 := T_DR_store (x2 := x4) (t0_0 := (p301.2.1 : Int32)) (t0_1 := (p301.2.2.1 : Int32)) (t0_2 := (p301.2.2.2.1 : Int32)) (t0_3 := x2) (t0_4 := (p301.2.2.2.2.2.1 : Int32)) (t0_5 := (p301.2.2.2.2.2.2.1 : Int32)) (t0_6 := (p301.2.2.2.2.2.2.2.1 : Int32)) (t0_7 := (p301.2.2.2.2.2.2.2.2.1 : Int32)) (t0_8 := (p301.2.2.2.2.2.2.2.2.2.1 : Int32)) (t0_9 := (p301.2.2.2.2.2.2.2.2.2.2.1 : Int32)) (t0_10 := (p301.2.2.2.2.2.2.2.2.2.2.2.1 : Int32)) (t1_0 := t1_0) (t2_0 := t2_0) (t3_0 := t3_0) (t4_0 := t4_0) (t5_0 := (p301.2.2.2.2.2.2.2.2.2.2.2.2 : (Nat → Int32))) (by with_reducible assumption) (by with_reducible assumption) ⟨by first | omega | decide, by first | omega | decide⟩ (by first | with_reducible assumption | exact g_cl (by with_reducible assumption) (by omega) (by omega) | omega | decide)
            with_reducible refine v_owe h12.1 ?_
            replace h12 := h12.2
            generalize F_DR_store x4 (p301.2.1 : Int32) (p301.2.2.1 : Int32) (p301.2.2.2.1 : Int32) x2 (p301.2.2.2.2.2.1 : Int32) (p301.2.2.2.2.2.2.1 : Int32) (p301.2.2.2.2.2.2.2.1 : Int32) (p301.2.2.2.2.2.2.2.2.1 : Int32) (p301.2.2.2.2.2.2.2.2.2.1 : Int32) (p301.2.2.2.2.2.2.2.2.2.2.1 : Int32) (p301.2.2.2.2.2.2.2.2.2.2.2.1 : Int32) t1_0 t2_0 t3_0 t4_0 (p301.2.2.2.2.2.2.2.2.2.2.2.2 : (Nat → Int32)) = p374 at *
            unfold Q_DR_store at h12
            unfold S_DR_bring_c119_6 F_DR_bring_c119_6
            refine ⟨trivial, ?_⟩
            (unfold Q_DR_bring; dsimp only; with_reducible assumption)
      ·
        rw [if_neg g5, if_neg g5]
        have g5l := g_lc2 g5
        by_cases g13 : (lg_cmp (x2 - (p75.2.2.2.1 : Int64) : Int64) 1000 : Int32) ≤ (0 : Int32)
        ·
          rw [if_pos g13, if_pos g13]
          have g13l := g_lc3 g13
          have g13s := g_sL (b := x2) (c := p75.2.2.2.1) ⟨by omega, by omega⟩ ⟨by omega, by omega⟩
          have h14 := T_DR_lengthen (x2 := (x2 - (p75.2.2.2.1 : Int64) : Int64)) (t0_0 := (p75.1 : Int32)) (t0_1 := (p75.2.1 : Int32)) (t0_2 := (p75.2.2.1 : Int32)) (t0_3 := (p75.2.2.2.1 : Int64)) (t0_4 := (p75.2.2.2.2.1 : Int32)) (t0_5 := (p75.2.2.2.2.2.1 : Int32)) (t0_6 := (p75.2.2.2.2.2.2.1 : Int32)) (t0_7 := (p75.2.2.2.2.2.2.2.1 : Int32)) (t0_8 := (p75.2.2.2.2.2.2.2.2.1 : Int32)) (t0_9 := (p75.2.2.2.2.2.2.2.2.2.1 : Int32)) (t0_10 := (p75.2.2.2.2.2.2.2.2.2.2.1 : Int32)) (t1_0 := (p75.2.2.2.2.2.2.2.2.2.2.2 : (Nat → Int32))) ⟨by omega, by omega⟩ (by first | omega | decide) (by first | omega | (have ez : (0 : Int64).toInt = 0 := rfl; omega)) (by first | with_reducible assumption | exact g_cl (by with_reducible assumption) (by omega) (by omega) | omega | decide)
          with_reducible refine v_owe h14.1 ?_
          replace h14 := h14.2
          generalize F_DR_lengthen (x2 - (p75.2.2.2.1 : Int64) : Int64) (p75.1 : Int32) (p75.2.1 : Int32) (p75.2.2.1 : Int32) (p75.2.2.2.1 : Int64) (p75.2.2.2.2.1 : Int32) (p75.2.2.2.2.2.1 : Int32) (p75.2.2.2.2.2.2.1 : Int32) (p75.2.2.2.2.2.2.2.1 : Int32) (p75.2.2.2.2.2.2.2.2.1 : Int32) (p75.2.2.2.2.2.2.2.2.2.1 : Int32) (p75.2.2.2.2.2.2.2.2.2.2.1 : Int32) (p75.2.2.2.2.2.2.2.2.2.2.2 : (Nat → Int32)) = p446 at *
          unfold Q_DR_lengthen at h14
          obtain ⟨h141, h14g⟩ := h14
          unfold S_DR_bring_c66 F_DR_bring_c66
          have h15 := T_DR_store (x2 := x4) (t0_0 := (p446.1 : Int32)) (t0_1 := (p446.2.1 : Int32)) (t0_2 := (p446.2.2.1 : Int32)) (t0_3 := (p446.2.2.2.1 : Int64)) (t0_4 := (p446.2.2.2.2.1 : Int32)) (t0_5 := (p446.2.2.2.2.2.1 : Int32)) (t0_6 := (p446.2.2.2.2.2.2.1 : Int32)) (t0_7 := (p446.2.2.2.2.2.2.2.1 : Int32)) (t0_8 := (p446.2.2.2.2.2.2.2.2.1 : Int32)) (t0_9 := (p446.2.2.2.2.2.2.2.2.2.1 : Int32)) (t0_10 := (p446.2.2.2.2.2.2.2.2.2.2.1 : Int32)) (t1_0 := t1_0) (t2_0 := t2_0) (t3_0 := t3_0) (t4_0 := t4_0) (t5_0 := (p446.2.2.2.2.2.2.2.2.2.2.2 : (Nat → Int32))) (by with_reducible assumption) (by with_reducible assumption) ⟨by first | omega | decide, by first | omega | decide⟩ (by first | with_reducible assumption | exact g_cl (by with_reducible assumption) (by omega) (by omega) | omega | decide)
          with_reducible refine v_owe h15.1 ?_
          replace h15 := h15.2
          generalize F_DR_store x4 (p446.1 : Int32) (p446.2.1 : Int32) (p446.2.2.1 : Int32) (p446.2.2.2.1 : Int64) (p446.2.2.2.2.1 : Int32) (p446.2.2.2.2.2.1 : Int32) (p446.2.2.2.2.2.2.1 : Int32) (p446.2.2.2.2.2.2.2.1 : Int32) (p446.2.2.2.2.2.2.2.2.1 : Int32) (p446.2.2.2.2.2.2.2.2.2.1 : Int32) (p446.2.2.2.2.2.2.2.2.2.2.1 : Int32) t1_0 t2_0 t3_0 t4_0 (p446.2.2.2.2.2.2.2.2.2.2.2 : (Nat → Int32)) = p514 at *
          unfold Q_DR_store at h15
          unfold S_DR_bring_c119_8 F_DR_bring_c119_8
          refine ⟨trivial, ?_⟩
          (unfold Q_DR_bring; dsimp only; with_reducible assumption)
        ·
          rw [if_neg g13, if_neg g13]
          refine ⟨trivial, ?_⟩
          (unfold Q_DR_bring; dsimp only; with_reducible assumption)
  ·
    rw [if_neg g2, if_neg g2]
    unfold S_DR_bring_J28 F_DR_bring_J28
    by_cases g16 : (lg_cmp x2 (p75.2.2.2.1 : Int64) : Int32) < (0 : Int32)
    ·
      rw [if_pos g16, if_pos g16]
      have g16l := g_lc1 g16
      by_cases g17 : (0 : Int32) ≤ (lg_cmp (((p75.2.2.1 : Int32).toInt64 : Int64) - ((p75.2.2.2.1 : Int64) - x2 : Int64) : Int64) (-1) : Int32)
      ·
        rw [if_pos g17, if_pos g17]
        have g17l := g_lc5 g17
        have h18 := T_DR_cut (x2 := ((((p75.2.2.1 : Int32).toInt64 : Int64) - ((p75.2.2.2.1 : Int64) - x2 : Int64) : Int64).toInt32 : Int32)) (x3 := x3) (t0_0 := (p75.1 : Int32)) (t0_1 := (p75.2.1 : Int32)) (t0_2 := (p75.2.2.1 : Int32)) (t0_3 := (p75.2.2.2.1 : Int64)) (t0_4 := (p75.2.2.2.2.1 : Int32)) (t0_5 := (p75.2.2.2.2.2.1 : Int32)) (t0_6 := (p75.2.2.2.2.2.2.1 : Int32)) (t0_7 := (p75.2.2.2.2.2.2.2.1 : Int32)) (t0_8 := (p75.2.2.2.2.2.2.2.2.1 : Int32)) (t0_9 := (p75.2.2.2.2.2.2.2.2.2.1 : Int32)) (t0_10 := (p75.2.2.2.2.2.2.2.2.2.2.1 : Int32)) (t1_0 := (p75.2.2.2.2.2.2.2.2.2.2.2 : (Nat → Int32))) ⟨by omega, by omega⟩ (by omega) (by first | exact ⟨by omega, by omega⟩ | exact ⟨by decide, by have ez : (-1 : Int32).toInt = -1 := rfl; omega⟩ | exact g_kp ⟨by omega, by omega⟩ ⟨by omega, by omega⟩ ⟨by omega, by omega⟩ (by with_reducible assumption) (by omega)) (by with_reducible assumption)
        with_reducible refine v_owe h18.1 ?_
        replace h18 := h18.2
        generalize F_DR_cut ((((p75.2.2.1 : Int32).toInt64 : Int64) - ((p75.2.2.2.1 : Int64) - x2 : Int64) : Int64).toInt32 : Int32) x3 (p75.1 : Int32) (p75.2.1 : Int32) (p75.2.2.1 : Int32) (p75.2.2.2.1 : Int64) (p75.2.2.2.2.1 : Int32) (p75.2.2.2.2.2.1 : Int32) (p75.2.2.2.2.2.2.1 : Int32) (p75.2.2.2.2.2.2.2.1 : Int32) (p75.2.2.2.2.2.2.2.2.1 : Int32) (p75.2.2.2.2.2.2.2.2.2.1 : Int32) (p75.2.2.2.2.2.2.2.2.2.2.1 : Int32) (p75.2.2.2.2.2.2.2.2.2.2.2 : (Nat → Int32)) = p165 at *
        unfold Q_DR_cut at h18
        obtain ⟨h181, h18g, h186⟩ := h18
        unfold S_DR_bring_c104 F_DR_bring_c104
        by_cases g19 : (p165.1 : Int32) = (0 : Int32)
        ·
          rw [if_pos g19, if_pos g19]
          refine ⟨trivial, ?_⟩
          (unfold Q_DR_bring; dsimp only; with_reducible assumption)
        ·
          rw [if_neg g19, if_neg g19]
          have h20 := T_DR_store (x2 := x4) (t0_0 := (p165.2.1 : Int32)) (t0_1 := (p165.2.2.1 : Int32)) (t0_2 := (p165.2.2.2.1 : Int32)) (t0_3 := x2) (t0_4 := (p165.2.2.2.2.2.1 : Int32)) (t0_5 := (p165.2.2.2.2.2.2.1 : Int32)) (t0_6 := (p165.2.2.2.2.2.2.2.1 : Int32)) (t0_7 := (p165.2.2.2.2.2.2.2.2.1 : Int32)) (t0_8 := (p165.2.2.2.2.2.2.2.2.2.1 : Int32)) (t0_9 := (p165.2.2.2.2.2.2.2.2.2.2.1 : Int32)) (t0_10 := (p165.2.2.2.2.2.2.2.2.2.2.2.1 : Int32)) (t1_0 := t1_0) (t2_0 := t2_0) (t3_0 := t3_0) (t4_0 := t4_0) (t5_0 := (p165.2.2.2.2.2.2.2.2.2.2.2.2 : (Nat → Int32))) (by with_reducible assumption) (by with_reducible assumption) ⟨by first | omega | decide, by first | omega | decide⟩ (by first | with_reducible assumption | exact g_cl (by with_reducible assumption) (by omega) (by omega) | omega | decide)
          with_reducible refine v_owe h20.1 ?_
          replace h20 := h20.2
          generalize F_DR_store x4 (p165.2.1 : Int32) (p165.2.2.1 : Int32) (p165.2.2.2.1 : Int32) x2 (p165.2.2.2.2.2.1 : Int32) (p165.2.2.2.2.2.2.1 : Int32) (p165.2.2.2.2.2.2.2.1 : Int32) (p165.2.2.2.2.2.2.2.2.1 : Int32) (p165.2.2.2.2.2.2.2.2.2.1 : Int32) (p165.2.2.2.2.2.2.2.2.2.2.1 : Int32) (p165.2.2.2.2.2.2.2.2.2.2.2.1 : Int32) t1_0 t2_0 t3_0 t4_0 (p165.2.2.2.2.2.2.2.2.2.2.2.2 : (Nat → Int32)) = p238 at *
          unfold Q_DR_store at h20
          unfold S_DR_bring_c119 F_DR_bring_c119
          refine ⟨trivial, ?_⟩
          (unfold Q_DR_bring; dsimp only; with_reducible assumption)
      ·
        rw [if_neg g17, if_neg g17]
        have g17l := g_lc6 g17
        have h21 := T_DR_cut (x2 := (-1 : Int32)) (x3 := x3) (t0_0 := (p75.1 : Int32)) (t0_1 := (p75.2.1 : Int32)) (t0_2 := (p75.2.2.1 : Int32)) (t0_3 := (p75.2.2.2.1 : Int64)) (t0_4 := (p75.2.2.2.2.1 : Int32)) (t0_5 := (p75.2.2.2.2.2.1 : Int32)) (t0_6 := (p75.2.2.2.2.2.2.1 : Int32)) (t0_7 := (p75.2.2.2.2.2.2.2.1 : Int32)) (t0_8 := (p75.2.2.2.2.2.2.2.2.1 : Int32)) (t0_9 := (p75.2.2.2.2.2.2.2.2.2.1 : Int32)) (t0_10 := (p75.2.2.2.2.2.2.2.2.2.2.1 : Int32)) (t1_0 := (p75.2.2.2.2.2.2.2.2.2.2.2 : (Nat → Int32))) ⟨by omega, by omega⟩ (by omega) (by first | exact ⟨by omega, by omega⟩ | exact ⟨by decide, by have ez : (-1 : Int32).toInt = -1 := rfl; omega⟩ | exact g_kp ⟨by omega, by omega⟩ ⟨by omega, by omega⟩ ⟨by omega, by omega⟩ (by with_reducible assumption) (by omega)) (by with_reducible assumption)
        with_reducible refine v_owe h21.1 ?_
        replace h21 := h21.2
        generalize F_DR_cut (-1 : Int32) x3 (p75.1 : Int32) (p75.2.1 : Int32) (p75.2.2.1 : Int32) (p75.2.2.2.1 : Int64) (p75.2.2.2.2.1 : Int32) (p75.2.2.2.2.2.1 : Int32) (p75.2.2.2.2.2.2.1 : Int32) (p75.2.2.2.2.2.2.2.1 : Int32) (p75.2.2.2.2.2.2.2.2.1 : Int32) (p75.2.2.2.2.2.2.2.2.2.1 : Int32) (p75.2.2.2.2.2.2.2.2.2.2.1 : Int32) (p75.2.2.2.2.2.2.2.2.2.2.2 : (Nat → Int32)) = p301 at *
        unfold Q_DR_cut at h21
        obtain ⟨h211, h21g, h216⟩ := h21
        unfold S_DR_bring_c104_5 F_DR_bring_c104_5
        by_cases g22 : (p301.1 : Int32) = (0 : Int32)
        ·
          rw [if_pos g22, if_pos g22]
          refine ⟨trivial, ?_⟩
          (unfold Q_DR_bring; dsimp only; with_reducible assumption)
        ·
          rw [if_neg g22, if_neg g22]
          have h23 := T_DR_store (x2 := x4) (t0_0 := (p301.2.1 : Int32)) (t0_1 := (p301.2.2.1 : Int32)) (t0_2 := (p301.2.2.2.1 : Int32)) (t0_3 := x2) (t0_4 := (p301.2.2.2.2.2.1 : Int32)) (t0_5 := (p301.2.2.2.2.2.2.1 : Int32)) (t0_6 := (p301.2.2.2.2.2.2.2.1 : Int32)) (t0_7 := (p301.2.2.2.2.2.2.2.2.1 : Int32)) (t0_8 := (p301.2.2.2.2.2.2.2.2.2.1 : Int32)) (t0_9 := (p301.2.2.2.2.2.2.2.2.2.2.1 : Int32)) (t0_10 := (p301.2.2.2.2.2.2.2.2.2.2.2.1 : Int32)) (t1_0 := t1_0) (t2_0 := t2_0) (t3_0 := t3_0) (t4_0 := t4_0) (t5_0 := (p301.2.2.2.2.2.2.2.2.2.2.2.2 : (Nat → Int32))) (by with_reducible assumption) (by with_reducible assumption) ⟨by first | omega | decide, by first | omega | decide⟩ (by first | with_reducible assumption | exact g_cl (by with_reducible assumption) (by omega) (by omega) | omega | decide)
          with_reducible refine v_owe h23.1 ?_
          replace h23 := h23.2
          generalize F_DR_store x4 (p301.2.1 : Int32) (p301.2.2.1 : Int32) (p301.2.2.2.1 : Int32) x2 (p301.2.2.2.2.2.1 : Int32) (p301.2.2.2.2.2.2.1 : Int32) (p301.2.2.2.2.2.2.2.1 : Int32) (p301.2.2.2.2.2.2.2.2.1 : Int32) (p301.2.2.2.2.2.2.2.2.2.1 : Int32) (p301.2.2.2.2.2.2.2.2.2.2.1 : Int32) (p301.2.2.2.2.2.2.2.2.2.2.2.1 : Int32) t1_0 t2_0 t3_0 t4_0 (p301.2.2.2.2.2.2.2.2.2.2.2.2 : (Nat → Int32)) = p374 at *
          unfold Q_DR_store at h23
          unfold S_DR_bring_c119_6 F_DR_bring_c119_6
          refine ⟨trivial, ?_⟩
          (unfold Q_DR_bring; dsimp only; with_reducible assumption)
    ·
      rw [if_neg g16, if_neg g16]
      have g16l := g_lc2 g16
      by_cases g24 : (lg_cmp (x2 - (p75.2.2.2.1 : Int64) : Int64) 1000 : Int32) ≤ (0 : Int32)
      ·
        rw [if_pos g24, if_pos g24]
        have g24l := g_lc3 g24
        have g24s := g_sL (b := x2) (c := p75.2.2.2.1) ⟨by omega, by omega⟩ ⟨by omega, by omega⟩
        have h25 := T_DR_lengthen (x2 := (x2 - (p75.2.2.2.1 : Int64) : Int64)) (t0_0 := (p75.1 : Int32)) (t0_1 := (p75.2.1 : Int32)) (t0_2 := (p75.2.2.1 : Int32)) (t0_3 := (p75.2.2.2.1 : Int64)) (t0_4 := (p75.2.2.2.2.1 : Int32)) (t0_5 := (p75.2.2.2.2.2.1 : Int32)) (t0_6 := (p75.2.2.2.2.2.2.1 : Int32)) (t0_7 := (p75.2.2.2.2.2.2.2.1 : Int32)) (t0_8 := (p75.2.2.2.2.2.2.2.2.1 : Int32)) (t0_9 := (p75.2.2.2.2.2.2.2.2.2.1 : Int32)) (t0_10 := (p75.2.2.2.2.2.2.2.2.2.2.1 : Int32)) (t1_0 := (p75.2.2.2.2.2.2.2.2.2.2.2 : (Nat → Int32))) ⟨by omega, by omega⟩ (by first | omega | decide) (by first | omega | (have ez : (0 : Int64).toInt = 0 := rfl; omega)) (by first | with_reducible assumption | exact g_cl (by with_reducible assumption) (by omega) (by omega) | omega | decide)
        with_reducible refine v_owe h25.1 ?_
        replace h25 := h25.2
        generalize F_DR_lengthen (x2 - (p75.2.2.2.1 : Int64) : Int64) (p75.1 : Int32) (p75.2.1 : Int32) (p75.2.2.1 : Int32) (p75.2.2.2.1 : Int64) (p75.2.2.2.2.1 : Int32) (p75.2.2.2.2.2.1 : Int32) (p75.2.2.2.2.2.2.1 : Int32) (p75.2.2.2.2.2.2.2.1 : Int32) (p75.2.2.2.2.2.2.2.2.1 : Int32) (p75.2.2.2.2.2.2.2.2.2.1 : Int32) (p75.2.2.2.2.2.2.2.2.2.2.1 : Int32) (p75.2.2.2.2.2.2.2.2.2.2.2 : (Nat → Int32)) = p446 at *
        unfold Q_DR_lengthen at h25
        obtain ⟨h251, h25g⟩ := h25
        unfold S_DR_bring_c66 F_DR_bring_c66
        have h26 := T_DR_store (x2 := x4) (t0_0 := (p446.1 : Int32)) (t0_1 := (p446.2.1 : Int32)) (t0_2 := (p446.2.2.1 : Int32)) (t0_3 := (p446.2.2.2.1 : Int64)) (t0_4 := (p446.2.2.2.2.1 : Int32)) (t0_5 := (p446.2.2.2.2.2.1 : Int32)) (t0_6 := (p446.2.2.2.2.2.2.1 : Int32)) (t0_7 := (p446.2.2.2.2.2.2.2.1 : Int32)) (t0_8 := (p446.2.2.2.2.2.2.2.2.1 : Int32)) (t0_9 := (p446.2.2.2.2.2.2.2.2.2.1 : Int32)) (t0_10 := (p446.2.2.2.2.2.2.2.2.2.2.1 : Int32)) (t1_0 := t1_0) (t2_0 := t2_0) (t3_0 := t3_0) (t4_0 := t4_0) (t5_0 := (p446.2.2.2.2.2.2.2.2.2.2.2 : (Nat → Int32))) (by with_reducible assumption) (by with_reducible assumption) ⟨by first | omega | decide, by first | omega | decide⟩ (by first | with_reducible assumption | exact g_cl (by with_reducible assumption) (by omega) (by omega) | omega | decide)
        with_reducible refine v_owe h26.1 ?_
        replace h26 := h26.2
        generalize F_DR_store x4 (p446.1 : Int32) (p446.2.1 : Int32) (p446.2.2.1 : Int32) (p446.2.2.2.1 : Int64) (p446.2.2.2.2.1 : Int32) (p446.2.2.2.2.2.1 : Int32) (p446.2.2.2.2.2.2.1 : Int32) (p446.2.2.2.2.2.2.2.1 : Int32) (p446.2.2.2.2.2.2.2.2.1 : Int32) (p446.2.2.2.2.2.2.2.2.2.1 : Int32) (p446.2.2.2.2.2.2.2.2.2.2.1 : Int32) t1_0 t2_0 t3_0 t4_0 (p446.2.2.2.2.2.2.2.2.2.2.2 : (Nat → Int32)) = p514 at *
        unfold Q_DR_store at h26
        unfold S_DR_bring_c119_8 F_DR_bring_c119_8
        refine ⟨trivial, ?_⟩
        (unfold Q_DR_bring; dsimp only; with_reducible assumption)
      ·
        rw [if_neg g24, if_neg g24]
        refine ⟨trivial, ?_⟩
        (unfold Q_DR_bring; dsimp only; with_reducible assumption)
def Q_DR_toPrecision (p : Int32 × Int32 × Int32 × Int64 × Int32 × Int32 × Int32 × Int32 × Int32 × Int32 × Int32 × (Nat → Int32) × (Nat → Int32) × (Nat → Int32) × (Nat → Int32) × (Nat → Int32)) : Prop := gR p.2.2.2.2.2.2.2.2.2.2.2.1 p.2.2.2.2.2.2.2.2.2.2.2.2.1 p.2.2.2.2.2.2.2.2.2.2.2.2.2.1 p.2.2.2.2.2.2.2.2.2.2.2.2.2.2.1
theorem T_DR_toPrecision {x2 : Int32} {x3 : Int64} {x4 : Int32} {x5 : Int32} {t0_0 : Int32} {t0_1 : Int32} {t0_2 : Int32} {t0_3 : Int64} {t0_4 : Int32} {t0_5 : Int32} {t0_6 : Int32} {t0_7 : Int32} {t0_8 : Int32} {t0_9 : Int32} {t0_10 : Int32} {t1_0 : (Nat → Int32)} {t2_0 : (Nat → Int32)} {t3_0 : (Nat → Int32)} {t4_0 : (Nat → Int32)} {t5_0 : (Nat → Int32)} (hR : gR t1_0 t2_0 t3_0 t4_0)(hx : 0 ≤ x5.toInt ∧ x5.toInt ≤ 9) (hp : 1 ≤ x2.toInt ∧ x2.toInt ≤ 1000) (h2 : 0 ≤ t0_2.toInt ∧ t0_2.toInt ≤ 4399) (hg : gO t5_0 t0_2.toNatClampNeg) (hmo : t0_4.toInt ≠ 0 → x2.toInt < t0_2.toInt ∧ t5_0 0 ≠ 0) : (S_DR_toPrecision x2 x3 x4 x5 t0_0 t0_1 t0_2 t0_3 t0_4 t0_5 t0_6 t0_7 t0_8 t0_9 t0_10 t1_0 t2_0 t3_0 t4_0 t5_0) ∧ Q_DR_toPrecision (F_DR_toPrecision x2 x3 x4 x5 t0_0 t0_1 t0_2 t0_3 t0_4 t0_5 t0_6 t0_7 t0_8 t0_9 t0_10 t1_0 t2_0 t3_0 t4_0 t5_0) := by
  have e0 : (0 : Int32).toInt = 0 := rfl
  have eL0 : (0 : Int64).toInt = 0 := rfl
  have eL1 : (10000 : Int64).toInt = 10000 := rfl
  have eL2 : (-10000 : Int64).toInt = -10000 := rfl
  have eL3 : (1000 : Int64).toInt = 1000 := rfl
  have eL4 : (-1 : Int64).toInt = -1 := rfl
  have eI3 : (1000 : Int32).toInt = 1000 := rfl
  unfold S_DR_toPrecision F_DR_toPrecision
  have h1 := T_DR_trim (t0_0 := t0_0) (t0_1 := t0_1) (t0_2 := t0_2) (t0_3 := t0_3) (t0_4 := t0_4) (t0_5 := t0_5) (t0_6 := t0_6) (t0_7 := t0_7) (t0_8 := t0_8) (t0_9 := t0_9) (t0_10 := t0_10) (t1_0 := t5_0) ⟨by omega, by omega⟩ (by first | with_reducible assumption | exact g_cl (by with_reducible assumption) (by omega) (by omega) | omega | decide)
  with_reducible refine v_owe h1.1 ?_
  replace h1 := h1.2
  generalize F_DR_trim t0_0 t0_1 t0_2 t0_3 t0_4 t0_5 t0_6 t0_7 t0_8 t0_9 t0_10 t5_0 = p75 at *
  unfold Q_DR_trim at h1
  obtain ⟨⟨h11, h12, h13, h19⟩, h1g, h15, h1a, h1b, h1s, h1m, h1x6, h1x7, h1x8, h1x9, h1x10⟩ := h1
  have trim9 := h19
  have h1si := congrArg Int64.toInt h1s
  have h1mi := congrArg Int32.toInt h1m
  unfold S_DR_toPrecision_c1 F_DR_toPrecision_c1
  by_cases g2 : ((p75.2.2.2.2.2.2.2.2.2.2.2 : (Nat → Int32)) (0 : Int32).toNatClampNeg : Int32) = (0 : Int32)
  ·
    rw [if_pos g2, if_pos g2]
    by_cases g3 : (p75.2.2.2.2.1 : Int32) = (0 : Int32)
    ·
      rw [if_pos g3, if_pos g3]
      have h4 := T_DR_store (x2 := x5) (t0_0 := (p75.1 : Int32)) (t0_1 := (p75.2.1 : Int32)) (t0_2 := (p75.2.2.1 : Int32)) (t0_3 := x3) (t0_4 := (p75.2.2.2.2.1 : Int32)) (t0_5 := (p75.2.2.2.2.2.1 : Int32)) (t0_6 := (p75.2.2.2.2.2.2.1 : Int32)) (t0_7 := (p75.2.2.2.2.2.2.2.1 : Int32)) (t0_8 := (p75.2.2.2.2.2.2.2.2.1 : Int32)) (t0_9 := (p75.2.2.2.2.2.2.2.2.2.1 : Int32)) (t0_10 := (p75.2.2.2.2.2.2.2.2.2.2.1 : Int32)) (t1_0 := t1_0) (t2_0 := t2_0) (t3_0 := t3_0) (t4_0 := t4_0) (t5_0 := (p75.2.2.2.2.2.2.2.2.2.2.2 : (Nat → Int32))) (by with_reducible assumption) (by with_reducible assumption) ⟨by first | omega | decide, by first | omega | decide⟩ (by first | with_reducible assumption | exact g_cl (by with_reducible assumption) (by omega) (by omega) | omega | decide)
      with_reducible refine v_owe h4.1 ?_
      replace h4 := h4.2
      generalize F_DR_store x5 (p75.1 : Int32) (p75.2.1 : Int32) (p75.2.2.1 : Int32) x3 (p75.2.2.2.2.1 : Int32) (p75.2.2.2.2.2.1 : Int32) (p75.2.2.2.2.2.2.1 : Int32) (p75.2.2.2.2.2.2.2.1 : Int32) (p75.2.2.2.2.2.2.2.2.1 : Int32) (p75.2.2.2.2.2.2.2.2.2.1 : Int32) (p75.2.2.2.2.2.2.2.2.2.2.1 : Int32) t1_0 t2_0 t3_0 t4_0 (p75.2.2.2.2.2.2.2.2.2.2.2 : (Nat → Int32)) = p830 at *
      unfold Q_DR_store at h4
      unfold S_DR_toPrecision_c28 F_DR_toPrecision_c28
      refine ⟨trivial, ?_⟩
      (unfold Q_DR_toPrecision; dsimp only; with_reducible assumption)
    ·
      rw [if_neg g3, if_neg g3]
      have g3i := q_neI g3
      have g3w := hmo (by omega)
      have g3q := congrArg Int32.toInt (trim9 g3w.2 (by omega))
      unfold S_DR_toPrecision_J32 F_DR_toPrecision_J32
      have h5 := R_need (t0_0 := (p75.1 : Int32)) (t0_1 := (p75.2.1 : Int32)) (t0_2 := (p75.2.2.1 : Int32)) (t0_3 := (p75.2.2.2.1 : Int64)) (t0_4 := (p75.2.2.2.2.1 : Int32)) (t0_5 := (p75.2.2.2.2.2.1 : Int32)) (t0_6 := (p75.2.2.2.2.2.2.1 : Int32)) (t0_7 := (p75.2.2.2.2.2.2.2.1 : Int32)) (t0_8 := (p75.2.2.2.2.2.2.2.2.1 : Int32)) (t0_9 := (p75.2.2.2.2.2.2.2.2.2.1 : Int32)) (t0_10 := (p75.2.2.2.2.2.2.2.2.2.2.1 : Int32)) (t1_0 := (p75.2.2.2.2.2.2.2.2.2.2.2 : (Nat → Int32))) ⟨by omega, by omega⟩
      have h5b := h5.2
      with_reducible refine v_owe h5.1 ?_
      rw [if_neg g3, if_neg g3]
      unfold S_DR_toPrecision_J129 F_DR_toPrecision_J129
      have h6 := T_DR_cut (x2 := x2) (x3 := x4) (t0_0 := (p75.1 : Int32)) (t0_1 := (p75.2.1 : Int32)) (t0_2 := (p75.2.2.1 : Int32)) (t0_3 := (p75.2.2.2.1 : Int64)) (t0_4 := (p75.2.2.2.2.1 : Int32)) (t0_5 := (p75.2.2.2.2.2.1 : Int32)) (t0_6 := (p75.2.2.2.2.2.2.1 : Int32)) (t0_7 := (p75.2.2.2.2.2.2.2.1 : Int32)) (t0_8 := (p75.2.2.2.2.2.2.2.2.1 : Int32)) (t0_9 := (p75.2.2.2.2.2.2.2.2.2.1 : Int32)) (t0_10 := (p75.2.2.2.2.2.2.2.2.2.2.1 : Int32)) (t1_0 := (p75.2.2.2.2.2.2.2.2.2.2.2 : (Nat → Int32))) ⟨by omega, by omega⟩ (by omega) (by first | exact ⟨by omega, by omega⟩ | exact ⟨by decide, by have ez : (-1 : Int32).toInt = -1 := rfl; omega⟩ | exact g_kp ⟨by omega, by omega⟩ ⟨by omega, by omega⟩ ⟨by omega, by omega⟩ (by with_reducible assumption) (by omega)) (by with_reducible assumption)
      with_reducible refine v_owe h6.1 ?_
      replace h6 := h6.2
      generalize F_DR_cut x2 x4 (p75.1 : Int32) (p75.2.1 : Int32) (p75.2.2.1 : Int32) (p75.2.2.2.1 : Int64) (p75.2.2.2.2.1 : Int32) (p75.2.2.2.2.2.1 : Int32) (p75.2.2.2.2.2.2.1 : Int32) (p75.2.2.2.2.2.2.2.1 : Int32) (p75.2.2.2.2.2.2.2.2.1 : Int32) (p75.2.2.2.2.2.2.2.2.2.1 : Int32) (p75.2.2.2.2.2.2.2.2.2.2.1 : Int32) (p75.2.2.2.2.2.2.2.2.2.2.2 : (Nat → Int32)) = p166 at *
      unfold Q_DR_cut at h6
      obtain ⟨h61, h6g, h66⟩ := h6
      unfold S_DR_toPrecision_c133 F_DR_toPrecision_c133
      by_cases g7 : (p166.1 : Int32) = (0 : Int32)
      ·
        rw [if_pos g7, if_pos g7]
        refine ⟨trivial, ?_⟩
        (unfold Q_DR_toPrecision; dsimp only; with_reducible assumption)
      ·
        rw [if_neg g7, if_neg g7]
        by_cases g8 : (p166.2.2.2.1 : Int32) ≤ x2
        ·
          rw [if_pos g8, if_pos g8]
          have h9 := T_DR_store (x2 := x5) (t0_0 := (p166.2.1 : Int32)) (t0_1 := (p166.2.2.1 : Int32)) (t0_2 := (p166.2.2.2.1 : Int32)) (t0_3 := (p166.2.2.2.2.1 : Int64)) (t0_4 := (p166.2.2.2.2.2.1 : Int32)) (t0_5 := (p166.2.2.2.2.2.2.1 : Int32)) (t0_6 := (p166.2.2.2.2.2.2.2.1 : Int32)) (t0_7 := (p166.2.2.2.2.2.2.2.2.1 : Int32)) (t0_8 := (p166.2.2.2.2.2.2.2.2.2.1 : Int32)) (t0_9 := (p166.2.2.2.2.2.2.2.2.2.2.1 : Int32)) (t0_10 := (p166.2.2.2.2.2.2.2.2.2.2.2.1 : Int32)) (t1_0 := t1_0) (t2_0 := t2_0) (t3_0 := t3_0) (t4_0 := t4_0) (t5_0 := (p166.2.2.2.2.2.2.2.2.2.2.2.2 : (Nat → Int32))) (by with_reducible assumption) (by with_reducible assumption) ⟨by first | omega | decide, by first | omega | decide⟩ (by first | with_reducible assumption | exact g_cl (by with_reducible assumption) (by omega) (by omega) | omega | decide)
          with_reducible refine v_owe h9.1 ?_
          replace h9 := h9.2
          generalize F_DR_store x5 (p166.2.1 : Int32) (p166.2.2.1 : Int32) (p166.2.2.2.1 : Int32) (p166.2.2.2.2.1 : Int64) (p166.2.2.2.2.2.1 : Int32) (p166.2.2.2.2.2.2.1 : Int32) (p166.2.2.2.2.2.2.2.1 : Int32) (p166.2.2.2.2.2.2.2.2.1 : Int32) (p166.2.2.2.2.2.2.2.2.2.1 : Int32) (p166.2.2.2.2.2.2.2.2.2.2.1 : Int32) (p166.2.2.2.2.2.2.2.2.2.2.2.1 : Int32) t1_0 t2_0 t3_0 t4_0 (p166.2.2.2.2.2.2.2.2.2.2.2.2 : (Nat → Int32)) = p240 at *
          unfold Q_DR_store at h9
          unfold S_DR_toPrecision_c170 F_DR_toPrecision_c170
          refine ⟨trivial, ?_⟩
          (unfold Q_DR_toPrecision; dsimp only; with_reducible assumption)
        ·
          rw [if_neg g8, if_neg g8]
          have g8i := q_nleI g8
          have g8e : (p166.2.2.2.1 - 1 : Int32).toInt = p166.2.2.2.1.toInt - 1 := q_subI (y := 1) rfl (by decide) (by omega) (by omega)
          have h10 := T_DR_store (x2 := x5) (t0_0 := (p166.2.1 : Int32)) (t0_1 := (p166.2.2.1 : Int32)) (t0_2 := ((p166.2.2.2.1 : Int32) - 1 : Int32)) (t0_3 := ((p166.2.2.2.2.1 : Int64) - 1 : Int64)) (t0_4 := (p166.2.2.2.2.2.1 : Int32)) (t0_5 := (p166.2.2.2.2.2.2.1 : Int32)) (t0_6 := (p166.2.2.2.2.2.2.2.1 : Int32)) (t0_7 := (p166.2.2.2.2.2.2.2.2.1 : Int32)) (t0_8 := (p166.2.2.2.2.2.2.2.2.2.1 : Int32)) (t0_9 := (p166.2.2.2.2.2.2.2.2.2.2.1 : Int32)) (t0_10 := (p166.2.2.2.2.2.2.2.2.2.2.2.1 : Int32)) (t1_0 := t1_0) (t2_0 := t2_0) (t3_0 := t3_0) (t4_0 := t4_0) (t5_0 := (p166.2.2.2.2.2.2.2.2.2.2.2.2 : (Nat → Int32))) (by with_reducible assumption) (by with_reducible assumption) ⟨by first | omega | decide, by first | omega | decide⟩ (by first | with_reducible assumption | exact g_cl (by with_reducible assumption) (by omega) (by omega) | omega | decide)
          with_reducible refine v_owe h10.1 ?_
          replace h10 := h10.2
          generalize F_DR_store x5 (p166.2.1 : Int32) (p166.2.2.1 : Int32) ((p166.2.2.2.1 : Int32) - 1 : Int32) ((p166.2.2.2.2.1 : Int64) - 1 : Int64) (p166.2.2.2.2.2.1 : Int32) (p166.2.2.2.2.2.2.1 : Int32) (p166.2.2.2.2.2.2.2.1 : Int32) (p166.2.2.2.2.2.2.2.2.1 : Int32) (p166.2.2.2.2.2.2.2.2.2.1 : Int32) (p166.2.2.2.2.2.2.2.2.2.2.1 : Int32) (p166.2.2.2.2.2.2.2.2.2.2.2.1 : Int32) t1_0 t2_0 t3_0 t4_0 (p166.2.2.2.2.2.2.2.2.2.2.2.2 : (Nat → Int32)) = p322 at *
          unfold Q_DR_store at h10
          unfold S_DR_toPrecision_c170_6 F_DR_toPrecision_c170_6
          refine ⟨trivial, ?_⟩
          (unfold Q_DR_toPrecision; dsimp only; with_reducible assumption)
  ·
    rw [if_neg g2, if_neg g2]
    unfold S_DR_toPrecision_J32 F_DR_toPrecision_J32
    have h11 := R_need (t0_0 := (p75.1 : Int32)) (t0_1 := (p75.2.1 : Int32)) (t0_2 := (p75.2.2.1 : Int32)) (t0_3 := (p75.2.2.2.1 : Int64)) (t0_4 := (p75.2.2.2.2.1 : Int32)) (t0_5 := (p75.2.2.2.2.2.1 : Int32)) (t0_6 := (p75.2.2.2.2.2.2.1 : Int32)) (t0_7 := (p75.2.2.2.2.2.2.2.1 : Int32)) (t0_8 := (p75.2.2.2.2.2.2.2.2.1 : Int32)) (t0_9 := (p75.2.2.2.2.2.2.2.2.2.1 : Int32)) (t0_10 := (p75.2.2.2.2.2.2.2.2.2.2.1 : Int32)) (t1_0 := (p75.2.2.2.2.2.2.2.2.2.2.2 : (Nat → Int32))) ⟨by omega, by omega⟩
    have h11b := h11.2
    with_reducible refine v_owe h11.1 ?_
    by_cases g12 : (p75.2.2.2.2.1 : Int32) = (0 : Int32)
    ·
      rw [if_pos g12, if_pos g12]
      by_cases g13 : x2 < ((F_DR_needed (p75.1 : Int32) (p75.2.1 : Int32) (p75.2.2.1 : Int32) (p75.2.2.2.1 : Int64) (p75.2.2.2.2.1 : Int32) (p75.2.2.2.2.2.1 : Int32) (p75.2.2.2.2.2.2.1 : Int32) (p75.2.2.2.2.2.2.2.1 : Int32) (p75.2.2.2.2.2.2.2.2.1 : Int32) (p75.2.2.2.2.2.2.2.2.2.1 : Int32) (p75.2.2.2.2.2.2.2.2.2.2.1 : Int32) (p75.2.2.2.2.2.2.2.2.2.2.2 : (Nat → Int32))) : Int32)
      ·
        rw [if_pos g13, if_pos g13]
        have g13i := q_ltI g13
        unfold S_DR_toPrecision_J129 F_DR_toPrecision_J129
        have h14 := T_DR_cut (x2 := x2) (x3 := x4) (t0_0 := (p75.1 : Int32)) (t0_1 := (p75.2.1 : Int32)) (t0_2 := (p75.2.2.1 : Int32)) (t0_3 := (p75.2.2.2.1 : Int64)) (t0_4 := (p75.2.2.2.2.1 : Int32)) (t0_5 := (p75.2.2.2.2.2.1 : Int32)) (t0_6 := (p75.2.2.2.2.2.2.1 : Int32)) (t0_7 := (p75.2.2.2.2.2.2.2.1 : Int32)) (t0_8 := (p75.2.2.2.2.2.2.2.2.1 : Int32)) (t0_9 := (p75.2.2.2.2.2.2.2.2.2.1 : Int32)) (t0_10 := (p75.2.2.2.2.2.2.2.2.2.2.1 : Int32)) (t1_0 := (p75.2.2.2.2.2.2.2.2.2.2.2 : (Nat → Int32))) ⟨by omega, by omega⟩ (by omega) (by first | exact ⟨by omega, by omega⟩ | exact ⟨by decide, by have ez : (-1 : Int32).toInt = -1 := rfl; omega⟩ | exact g_kp ⟨by omega, by omega⟩ ⟨by omega, by omega⟩ ⟨by omega, by omega⟩ (by with_reducible assumption) (by omega)) (by with_reducible assumption)
        with_reducible refine v_owe h14.1 ?_
        replace h14 := h14.2
        generalize F_DR_cut x2 x4 (p75.1 : Int32) (p75.2.1 : Int32) (p75.2.2.1 : Int32) (p75.2.2.2.1 : Int64) (p75.2.2.2.2.1 : Int32) (p75.2.2.2.2.2.1 : Int32) (p75.2.2.2.2.2.2.1 : Int32) (p75.2.2.2.2.2.2.2.1 : Int32) (p75.2.2.2.2.2.2.2.2.1 : Int32) (p75.2.2.2.2.2.2.2.2.2.1 : Int32) (p75.2.2.2.2.2.2.2.2.2.2.1 : Int32) (p75.2.2.2.2.2.2.2.2.2.2.2 : (Nat → Int32)) = p166 at *
        unfold Q_DR_cut at h14
        obtain ⟨h141, h14g, h146⟩ := h14
        unfold S_DR_toPrecision_c133 F_DR_toPrecision_c133
        by_cases g15 : (p166.1 : Int32) = (0 : Int32)
        ·
          rw [if_pos g15, if_pos g15]
          refine ⟨trivial, ?_⟩
          (unfold Q_DR_toPrecision; dsimp only; with_reducible assumption)
        ·
          rw [if_neg g15, if_neg g15]
          by_cases g16 : (p166.2.2.2.1 : Int32) ≤ x2
          ·
            rw [if_pos g16, if_pos g16]
            have h17 := T_DR_store (x2 := x5) (t0_0 := (p166.2.1 : Int32)) (t0_1 := (p166.2.2.1 : Int32)) (t0_2 := (p166.2.2.2.1 : Int32)) (t0_3 := (p166.2.2.2.2.1 : Int64)) (t0_4 := (p166.2.2.2.2.2.1 : Int32)) (t0_5 := (p166.2.2.2.2.2.2.1 : Int32)) (t0_6 := (p166.2.2.2.2.2.2.2.1 : Int32)) (t0_7 := (p166.2.2.2.2.2.2.2.2.1 : Int32)) (t0_8 := (p166.2.2.2.2.2.2.2.2.2.1 : Int32)) (t0_9 := (p166.2.2.2.2.2.2.2.2.2.2.1 : Int32)) (t0_10 := (p166.2.2.2.2.2.2.2.2.2.2.2.1 : Int32)) (t1_0 := t1_0) (t2_0 := t2_0) (t3_0 := t3_0) (t4_0 := t4_0) (t5_0 := (p166.2.2.2.2.2.2.2.2.2.2.2.2 : (Nat → Int32))) (by with_reducible assumption) (by with_reducible assumption) ⟨by first | omega | decide, by first | omega | decide⟩ (by first | with_reducible assumption | exact g_cl (by with_reducible assumption) (by omega) (by omega) | omega | decide)
            with_reducible refine v_owe h17.1 ?_
            replace h17 := h17.2
            generalize F_DR_store x5 (p166.2.1 : Int32) (p166.2.2.1 : Int32) (p166.2.2.2.1 : Int32) (p166.2.2.2.2.1 : Int64) (p166.2.2.2.2.2.1 : Int32) (p166.2.2.2.2.2.2.1 : Int32) (p166.2.2.2.2.2.2.2.1 : Int32) (p166.2.2.2.2.2.2.2.2.1 : Int32) (p166.2.2.2.2.2.2.2.2.2.1 : Int32) (p166.2.2.2.2.2.2.2.2.2.2.1 : Int32) (p166.2.2.2.2.2.2.2.2.2.2.2.1 : Int32) t1_0 t2_0 t3_0 t4_0 (p166.2.2.2.2.2.2.2.2.2.2.2.2 : (Nat → Int32)) = p240 at *
            unfold Q_DR_store at h17
            unfold S_DR_toPrecision_c170 F_DR_toPrecision_c170
            refine ⟨trivial, ?_⟩
            (unfold Q_DR_toPrecision; dsimp only; with_reducible assumption)
          ·
            rw [if_neg g16, if_neg g16]
            have g16i := q_nleI g16
            have g16e : (p166.2.2.2.1 - 1 : Int32).toInt = p166.2.2.2.1.toInt - 1 := q_subI (y := 1) rfl (by decide) (by omega) (by omega)
            have h18 := T_DR_store (x2 := x5) (t0_0 := (p166.2.1 : Int32)) (t0_1 := (p166.2.2.1 : Int32)) (t0_2 := ((p166.2.2.2.1 : Int32) - 1 : Int32)) (t0_3 := ((p166.2.2.2.2.1 : Int64) - 1 : Int64)) (t0_4 := (p166.2.2.2.2.2.1 : Int32)) (t0_5 := (p166.2.2.2.2.2.2.1 : Int32)) (t0_6 := (p166.2.2.2.2.2.2.2.1 : Int32)) (t0_7 := (p166.2.2.2.2.2.2.2.2.1 : Int32)) (t0_8 := (p166.2.2.2.2.2.2.2.2.2.1 : Int32)) (t0_9 := (p166.2.2.2.2.2.2.2.2.2.2.1 : Int32)) (t0_10 := (p166.2.2.2.2.2.2.2.2.2.2.2.1 : Int32)) (t1_0 := t1_0) (t2_0 := t2_0) (t3_0 := t3_0) (t4_0 := t4_0) (t5_0 := (p166.2.2.2.2.2.2.2.2.2.2.2.2 : (Nat → Int32))) (by with_reducible assumption) (by with_reducible assumption) ⟨by first | omega | decide, by first | omega | decide⟩ (by first | with_reducible assumption | exact g_cl (by with_reducible assumption) (by omega) (by omega) | omega | decide)
            with_reducible refine v_owe h18.1 ?_
            replace h18 := h18.2
            generalize F_DR_store x5 (p166.2.1 : Int32) (p166.2.2.1 : Int32) ((p166.2.2.2.1 : Int32) - 1 : Int32) ((p166.2.2.2.2.1 : Int64) - 1 : Int64) (p166.2.2.2.2.2.1 : Int32) (p166.2.2.2.2.2.2.1 : Int32) (p166.2.2.2.2.2.2.2.1 : Int32) (p166.2.2.2.2.2.2.2.2.1 : Int32) (p166.2.2.2.2.2.2.2.2.2.1 : Int32) (p166.2.2.2.2.2.2.2.2.2.2.1 : Int32) (p166.2.2.2.2.2.2.2.2.2.2.2.1 : Int32) t1_0 t2_0 t3_0 t4_0 (p166.2.2.2.2.2.2.2.2.2.2.2.2 : (Nat → Int32)) = p322 at *
            unfold Q_DR_store at h18
            unfold S_DR_toPrecision_c170_6 F_DR_toPrecision_c170_6
            refine ⟨trivial, ?_⟩
            (unfold Q_DR_toPrecision; dsimp only; with_reducible assumption)
      ·
        rw [if_neg g13, if_neg g13]
        have g13i := q_nltI g13
        by_cases g19 : (0 : Int32) ≤ (lg_cmp (x3 - ((p75.2.2.2.1 : Int64) - (((p75.2.2.1 : Int32) - ((F_DR_needed (p75.1 : Int32) (p75.2.1 : Int32) (p75.2.2.1 : Int32) (p75.2.2.2.1 : Int64) (p75.2.2.2.2.1 : Int32) (p75.2.2.2.2.2.1 : Int32) (p75.2.2.2.2.2.2.1 : Int32) (p75.2.2.2.2.2.2.2.1 : Int32) (p75.2.2.2.2.2.2.2.2.1 : Int32) (p75.2.2.2.2.2.2.2.2.2.1 : Int32) (p75.2.2.2.2.2.2.2.2.2.2.1 : Int32) (p75.2.2.2.2.2.2.2.2.2.2.2 : (Nat → Int32))) : Int32) : Int32).toInt64 : Int64) : Int64) : Int64) 0 : Int32)
        ·
          rw [if_pos g19, if_pos g19]
          have g19l := g_lc5 g19
          by_cases g20 : (lg_cmp (x3 - ((p75.2.2.2.1 : Int64) - (((p75.2.2.1 : Int32) - ((F_DR_needed (p75.1 : Int32) (p75.2.1 : Int32) (p75.2.2.1 : Int32) (p75.2.2.2.1 : Int64) (p75.2.2.2.2.1 : Int32) (p75.2.2.2.2.2.1 : Int32) (p75.2.2.2.2.2.2.1 : Int32) (p75.2.2.2.2.2.2.2.1 : Int32) (p75.2.2.2.2.2.2.2.2.1 : Int32) (p75.2.2.2.2.2.2.2.2.2.1 : Int32) (p75.2.2.2.2.2.2.2.2.2.2.1 : Int32) (p75.2.2.2.2.2.2.2.2.2.2.2 : (Nat → Int32))) : Int32) : Int32).toInt64 : Int64) : Int64) : Int64) ((x2 - ((F_DR_needed (p75.1 : Int32) (p75.2.1 : Int32) (p75.2.2.1 : Int32) (p75.2.2.2.1 : Int64) (p75.2.2.2.2.1 : Int32) (p75.2.2.2.2.2.1 : Int32) (p75.2.2.2.2.2.2.1 : Int32) (p75.2.2.2.2.2.2.2.1 : Int32) (p75.2.2.2.2.2.2.2.2.1 : Int32) (p75.2.2.2.2.2.2.2.2.2.1 : Int32) (p75.2.2.2.2.2.2.2.2.2.2.1 : Int32) (p75.2.2.2.2.2.2.2.2.2.2.2 : (Nat → Int32))) : Int32) : Int32).toInt64 : Int64) : Int32) ≤ (0 : Int32)
          ·
            rw [if_pos g20, if_pos g20]
            have g20l := g_lc3 g20
            have g20s := g_sI (b := x2) (c := (F_DR_needed p75.1 p75.2.1 p75.2.2.1 p75.2.2.2.1 p75.2.2.2.2.1 p75.2.2.2.2.2.1 p75.2.2.2.2.2.2.1 p75.2.2.2.2.2.2.2.1 p75.2.2.2.2.2.2.2.2.1 p75.2.2.2.2.2.2.2.2.2.1 p75.2.2.2.2.2.2.2.2.2.2.1 p75.2.2.2.2.2.2.2.2.2.2.2)) ⟨by omega, by omega⟩ ⟨by omega, by omega⟩
            have h21 := T_DR_lengthen (x2 := (x3 - ((p75.2.2.2.1 : Int64) - (((p75.2.2.1 : Int32) - ((F_DR_needed (p75.1 : Int32) (p75.2.1 : Int32) (p75.2.2.1 : Int32) (p75.2.2.2.1 : Int64) (p75.2.2.2.2.1 : Int32) (p75.2.2.2.2.2.1 : Int32) (p75.2.2.2.2.2.2.1 : Int32) (p75.2.2.2.2.2.2.2.1 : Int32) (p75.2.2.2.2.2.2.2.2.1 : Int32) (p75.2.2.2.2.2.2.2.2.2.1 : Int32) (p75.2.2.2.2.2.2.2.2.2.2.1 : Int32) (p75.2.2.2.2.2.2.2.2.2.2.2 : (Nat → Int32))) : Int32) : Int32).toInt64 : Int64) : Int64) : Int64)) (t0_0 := (p75.1 : Int32)) (t0_1 := (p75.2.1 : Int32)) (t0_2 := ((F_DR_needed (p75.1 : Int32) (p75.2.1 : Int32) (p75.2.2.1 : Int32) (p75.2.2.2.1 : Int64) (p75.2.2.2.2.1 : Int32) (p75.2.2.2.2.2.1 : Int32) (p75.2.2.2.2.2.2.1 : Int32) (p75.2.2.2.2.2.2.2.1 : Int32) (p75.2.2.2.2.2.2.2.2.1 : Int32) (p75.2.2.2.2.2.2.2.2.2.1 : Int32) (p75.2.2.2.2.2.2.2.2.2.2.1 : Int32) (p75.2.2.2.2.2.2.2.2.2.2.2 : (Nat → Int32))) : Int32)) (t0_3 := ((p75.2.2.2.1 : Int64) - (((p75.2.2.1 : Int32) - ((F_DR_needed (p75.1 : Int32) (p75.2.1 : Int32) (p75.2.2.1 : Int32) (p75.2.2.2.1 : Int64) (p75.2.2.2.2.1 : Int32) (p75.2.2.2.2.2.1 : Int32) (p75.2.2.2.2.2.2.1 : Int32) (p75.2.2.2.2.2.2.2.1 : Int32) (p75.2.2.2.2.2.2.2.2.1 : Int32) (p75.2.2.2.2.2.2.2.2.2.1 : Int32) (p75.2.2.2.2.2.2.2.2.2.2.1 : Int32) (p75.2.2.2.2.2.2.2.2.2.2.2 : (Nat → Int32))) : Int32) : Int32).toInt64 : Int64) : Int64)) (t0_4 := (p75.2.2.2.2.1 : Int32)) (t0_5 := (p75.2.2.2.2.2.1 : Int32)) (t0_6 := (p75.2.2.2.2.2.2.1 : Int32)) (t0_7 := (p75.2.2.2.2.2.2.2.1 : Int32)) (t0_8 := (p75.2.2.2.2.2.2.2.2.1 : Int32)) (t0_9 := (p75.2.2.2.2.2.2.2.2.2.1 : Int32)) (t0_10 := (p75.2.2.2.2.2.2.2.2.2.2.1 : Int32)) (t1_0 := (p75.2.2.2.2.2.2.2.2.2.2.2 : (Nat → Int32))) ⟨by omega, by omega⟩ (by first | omega | decide) (by first | omega | (have ez : (0 : Int64).toInt = 0 := rfl; omega)) (by first | with_reducible assumption | exact g_cl (by with_reducible assumption) (by omega) (by omega) | omega | decide)
            with_reducible refine v_owe h21.1 ?_
            replace h21 := h21.2
            generalize F_DR_lengthen (x3 - ((p75.2.2.2.1 : Int64) - (((p75.2.2.1 : Int32) - ((F_DR_needed (p75.1 : Int32) (p75.2.1 : Int32) (p75.2.2.1 : Int32) (p75.2.2.2.1 : Int64) (p75.2.2.2.2.1 : Int32) (p75.2.2.2.2.2.1 : Int32) (p75.2.2.2.2.2.2.1 : Int32) (p75.2.2.2.2.2.2.2.1 : Int32) (p75.2.2.2.2.2.2.2.2.1 : Int32) (p75.2.2.2.2.2.2.2.2.2.1 : Int32) (p75.2.2.2.2.2.2.2.2.2.2.1 : Int32) (p75.2.2.2.2.2.2.2.2.2.2.2 : (Nat → Int32))) : Int32) : Int32).toInt64 : Int64) : Int64) : Int64) (p75.1 : Int32) (p75.2.1 : Int32) ((F_DR_needed (p75.1 : Int32) (p75.2.1 : Int32) (p75.2.2.1 : Int32) (p75.2.2.2.1 : Int64) (p75.2.2.2.2.1 : Int32) (p75.2.2.2.2.2.1 : Int32) (p75.2.2.2.2.2.2.1 : Int32) (p75.2.2.2.2.2.2.2.1 : Int32) (p75.2.2.2.2.2.2.2.2.1 : Int32) (p75.2.2.2.2.2.2.2.2.2.1 : Int32) (p75.2.2.2.2.2.2.2.2.2.2.1 : Int32) (p75.2.2.2.2.2.2.2.2.2.2.2 : (Nat → Int32))) : Int32) ((p75.2.2.2.1 : Int64) - (((p75.2.2.1 : Int32) - ((F_DR_needed (p75.1 : Int32) (p75.2.1 : Int32) (p75.2.2.1 : Int32) (p75.2.2.2.1 : Int64) (p75.2.2.2.2.1 : Int32) (p75.2.2.2.2.2.1 : Int32) (p75.2.2.2.2.2.2.1 : Int32) (p75.2.2.2.2.2.2.2.1 : Int32) (p75.2.2.2.2.2.2.2.2.1 : Int32) (p75.2.2.2.2.2.2.2.2.2.1 : Int32) (p75.2.2.2.2.2.2.2.2.2.2.1 : Int32) (p75.2.2.2.2.2.2.2.2.2.2.2 : (Nat → Int32))) : Int32) : Int32).toInt64 : Int64) : Int64) (p75.2.2.2.2.1 : Int32) (p75.2.2.2.2.2.1 : Int32) (p75.2.2.2.2.2.2.1 : Int32) (p75.2.2.2.2.2.2.2.1 : Int32) (p75.2.2.2.2.2.2.2.2.1 : Int32) (p75.2.2.2.2.2.2.2.2.2.1 : Int32) (p75.2.2.2.2.2.2.2.2.2.2.1 : Int32) (p75.2.2.2.2.2.2.2.2.2.2.2 : (Nat → Int32)) = p417 at *
            unfold Q_DR_lengthen at h21
            obtain ⟨h211, h21g⟩ := h21
            unfold S_DR_toPrecision_c119 F_DR_toPrecision_c119
            have h22 := T_DR_store (x2 := x5) (t0_0 := (p417.1 : Int32)) (t0_1 := (p417.2.1 : Int32)) (t0_2 := (p417.2.2.1 : Int32)) (t0_3 := (p417.2.2.2.1 : Int64)) (t0_4 := (p417.2.2.2.2.1 : Int32)) (t0_5 := (p417.2.2.2.2.2.1 : Int32)) (t0_6 := (p417.2.2.2.2.2.2.1 : Int32)) (t0_7 := (p417.2.2.2.2.2.2.2.1 : Int32)) (t0_8 := (p417.2.2.2.2.2.2.2.2.1 : Int32)) (t0_9 := (p417.2.2.2.2.2.2.2.2.2.1 : Int32)) (t0_10 := (p417.2.2.2.2.2.2.2.2.2.2.1 : Int32)) (t1_0 := t1_0) (t2_0 := t2_0) (t3_0 := t3_0) (t4_0 := t4_0) (t5_0 := (p417.2.2.2.2.2.2.2.2.2.2.2 : (Nat → Int32))) (by with_reducible assumption) (by with_reducible assumption) ⟨by first | omega | decide, by first | omega | decide⟩ (by first | with_reducible assumption | exact g_cl (by with_reducible assumption) (by omega) (by omega) | omega | decide)
            with_reducible refine v_owe h22.1 ?_
            replace h22 := h22.2
            generalize F_DR_store x5 (p417.1 : Int32) (p417.2.1 : Int32) (p417.2.2.1 : Int32) (p417.2.2.2.1 : Int64) (p417.2.2.2.2.1 : Int32) (p417.2.2.2.2.2.1 : Int32) (p417.2.2.2.2.2.2.1 : Int32) (p417.2.2.2.2.2.2.2.1 : Int32) (p417.2.2.2.2.2.2.2.2.1 : Int32) (p417.2.2.2.2.2.2.2.2.2.1 : Int32) (p417.2.2.2.2.2.2.2.2.2.2.1 : Int32) t1_0 t2_0 t3_0 t4_0 (p417.2.2.2.2.2.2.2.2.2.2.2 : (Nat → Int32)) = p485 at *
            unfold Q_DR_store at h22
            unfold S_DR_toPrecision_c125 F_DR_toPrecision_c125
            refine ⟨trivial, ?_⟩
            (unfold Q_DR_toPrecision; dsimp only; with_reducible assumption)
          ·
            rw [if_neg g20, if_neg g20]
            have g20s := g_sI (b := x2) (c := (F_DR_needed p75.1 p75.2.1 p75.2.2.1 p75.2.2.2.1 p75.2.2.2.2.1 p75.2.2.2.2.2.1 p75.2.2.2.2.2.2.1 p75.2.2.2.2.2.2.2.1 p75.2.2.2.2.2.2.2.2.1 p75.2.2.2.2.2.2.2.2.2.1 p75.2.2.2.2.2.2.2.2.2.2.1 p75.2.2.2.2.2.2.2.2.2.2.2)) ⟨by omega, by omega⟩ ⟨by omega, by omega⟩
            have h23 := T_DR_lengthen (x2 := ((x2 - ((F_DR_needed (p75.1 : Int32) (p75.2.1 : Int32) (p75.2.2.1 : Int32) (p75.2.2.2.1 : Int64) (p75.2.2.2.2.1 : Int32) (p75.2.2.2.2.2.1 : Int32) (p75.2.2.2.2.2.2.1 : Int32) (p75.2.2.2.2.2.2.2.1 : Int32) (p75.2.2.2.2.2.2.2.2.1 : Int32) (p75.2.2.2.2.2.2.2.2.2.1 : Int32) (p75.2.2.2.2.2.2.2.2.2.2.1 : Int32) (p75.2.2.2.2.2.2.2.2.2.2.2 : (Nat → Int32))) : Int32) : Int32).toInt64 : Int64)) (t0_0 := (p75.1 : Int32)) (t0_1 := (p75.2.1 : Int32)) (t0_2 := ((F_DR_needed (p75.1 : Int32) (p75.2.1 : Int32) (p75.2.2.1 : Int32) (p75.2.2.2.1 : Int64) (p75.2.2.2.2.1 : Int32) (p75.2.2.2.2.2.1 : Int32) (p75.2.2.2.2.2.2.1 : Int32) (p75.2.2.2.2.2.2.2.1 : Int32) (p75.2.2.2.2.2.2.2.2.1 : Int32) (p75.2.2.2.2.2.2.2.2.2.1 : Int32) (p75.2.2.2.2.2.2.2.2.2.2.1 : Int32) (p75.2.2.2.2.2.2.2.2.2.2.2 : (Nat → Int32))) : Int32)) (t0_3 := ((p75.2.2.2.1 : Int64) - (((p75.2.2.1 : Int32) - ((F_DR_needed (p75.1 : Int32) (p75.2.1 : Int32) (p75.2.2.1 : Int32) (p75.2.2.2.1 : Int64) (p75.2.2.2.2.1 : Int32) (p75.2.2.2.2.2.1 : Int32) (p75.2.2.2.2.2.2.1 : Int32) (p75.2.2.2.2.2.2.2.1 : Int32) (p75.2.2.2.2.2.2.2.2.1 : Int32) (p75.2.2.2.2.2.2.2.2.2.1 : Int32) (p75.2.2.2.2.2.2.2.2.2.2.1 : Int32) (p75.2.2.2.2.2.2.2.2.2.2.2 : (Nat → Int32))) : Int32) : Int32).toInt64 : Int64) : Int64)) (t0_4 := (p75.2.2.2.2.1 : Int32)) (t0_5 := (p75.2.2.2.2.2.1 : Int32)) (t0_6 := (p75.2.2.2.2.2.2.1 : Int32)) (t0_7 := (p75.2.2.2.2.2.2.2.1 : Int32)) (t0_8 := (p75.2.2.2.2.2.2.2.2.1 : Int32)) (t0_9 := (p75.2.2.2.2.2.2.2.2.2.1 : Int32)) (t0_10 := (p75.2.2.2.2.2.2.2.2.2.2.1 : Int32)) (t1_0 := (p75.2.2.2.2.2.2.2.2.2.2.2 : (Nat → Int32))) ⟨by omega, by omega⟩ (by first | omega | decide) (by first | omega | (have ez : (0 : Int64).toInt = 0 := rfl; omega)) (by first | with_reducible assumption | exact g_cl (by with_reducible assumption) (by omega) (by omega) | omega | decide)
            with_reducible refine v_owe h23.1 ?_
            replace h23 := h23.2
            generalize F_DR_lengthen ((x2 - ((F_DR_needed (p75.1 : Int32) (p75.2.1 : Int32) (p75.2.2.1 : Int32) (p75.2.2.2.1 : Int64) (p75.2.2.2.2.1 : Int32) (p75.2.2.2.2.2.1 : Int32) (p75.2.2.2.2.2.2.1 : Int32) (p75.2.2.2.2.2.2.2.1 : Int32) (p75.2.2.2.2.2.2.2.2.1 : Int32) (p75.2.2.2.2.2.2.2.2.2.1 : Int32) (p75.2.2.2.2.2.2.2.2.2.2.1 : Int32) (p75.2.2.2.2.2.2.2.2.2.2.2 : (Nat → Int32))) : Int32) : Int32).toInt64 : Int64) (p75.1 : Int32) (p75.2.1 : Int32) ((F_DR_needed (p75.1 : Int32) (p75.2.1 : Int32) (p75.2.2.1 : Int32) (p75.2.2.2.1 : Int64) (p75.2.2.2.2.1 : Int32) (p75.2.2.2.2.2.1 : Int32) (p75.2.2.2.2.2.2.1 : Int32) (p75.2.2.2.2.2.2.2.1 : Int32) (p75.2.2.2.2.2.2.2.2.1 : Int32) (p75.2.2.2.2.2.2.2.2.2.1 : Int32) (p75.2.2.2.2.2.2.2.2.2.2.1 : Int32) (p75.2.2.2.2.2.2.2.2.2.2.2 : (Nat → Int32))) : Int32) ((p75.2.2.2.1 : Int64) - (((p75.2.2.1 : Int32) - ((F_DR_needed (p75.1 : Int32) (p75.2.1 : Int32) (p75.2.2.1 : Int32) (p75.2.2.2.1 : Int64) (p75.2.2.2.2.1 : Int32) (p75.2.2.2.2.2.1 : Int32) (p75.2.2.2.2.2.2.1 : Int32) (p75.2.2.2.2.2.2.2.1 : Int32) (p75.2.2.2.2.2.2.2.2.1 : Int32) (p75.2.2.2.2.2.2.2.2.2.1 : Int32) (p75.2.2.2.2.2.2.2.2.2.2.1 : Int32) (p75.2.2.2.2.2.2.2.2.2.2.2 : (Nat → Int32))) : Int32) : Int32).toInt64 : Int64) : Int64) (p75.2.2.2.2.1 : Int32) (p75.2.2.2.2.2.1 : Int32) (p75.2.2.2.2.2.2.1 : Int32) (p75.2.2.2.2.2.2.2.1 : Int32) (p75.2.2.2.2.2.2.2.2.1 : Int32) (p75.2.2.2.2.2.2.2.2.2.1 : Int32) (p75.2.2.2.2.2.2.2.2.2.2.1 : Int32) (p75.2.2.2.2.2.2.2.2.2.2.2 : (Nat → Int32)) = p552 at *
            unfold Q_DR_lengthen at h23
            obtain ⟨h231, h23g⟩ := h23
            unfold S_DR_toPrecision_c119_9 F_DR_toPrecision_c119_9
            have h24 := T_DR_store (x2 := x5) (t0_0 := (p552.1 : Int32)) (t0_1 := (p552.2.1 : Int32)) (t0_2 := (p552.2.2.1 : Int32)) (t0_3 := (p552.2.2.2.1 : Int64)) (t0_4 := (p552.2.2.2.2.1 : Int32)) (t0_5 := (p552.2.2.2.2.2.1 : Int32)) (t0_6 := (p552.2.2.2.2.2.2.1 : Int32)) (t0_7 := (p552.2.2.2.2.2.2.2.1 : Int32)) (t0_8 := (p552.2.2.2.2.2.2.2.2.1 : Int32)) (t0_9 := (p552.2.2.2.2.2.2.2.2.2.1 : Int32)) (t0_10 := (p552.2.2.2.2.2.2.2.2.2.2.1 : Int32)) (t1_0 := t1_0) (t2_0 := t2_0) (t3_0 := t3_0) (t4_0 := t4_0) (t5_0 := (p552.2.2.2.2.2.2.2.2.2.2.2 : (Nat → Int32))) (by with_reducible assumption) (by with_reducible assumption) ⟨by first | omega | decide, by first | omega | decide⟩ (by first | with_reducible assumption | exact g_cl (by with_reducible assumption) (by omega) (by omega) | omega | decide)
            with_reducible refine v_owe h24.1 ?_
            replace h24 := h24.2
            generalize F_DR_store x5 (p552.1 : Int32) (p552.2.1 : Int32) (p552.2.2.1 : Int32) (p552.2.2.2.1 : Int64) (p552.2.2.2.2.1 : Int32) (p552.2.2.2.2.2.1 : Int32) (p552.2.2.2.2.2.2.1 : Int32) (p552.2.2.2.2.2.2.2.1 : Int32) (p552.2.2.2.2.2.2.2.2.1 : Int32) (p552.2.2.2.2.2.2.2.2.2.1 : Int32) (p552.2.2.2.2.2.2.2.2.2.2.1 : Int32) t1_0 t2_0 t3_0 t4_0 (p552.2.2.2.2.2.2.2.2.2.2.2 : (Nat → Int32)) = p620 at *
            unfold Q_DR_store at h24
            unfold S_DR_toPrecision_c125_10 F_DR_toPrecision_c125_10
            refine ⟨trivial, ?_⟩
            (unfold Q_DR_toPrecision; dsimp only; with_reducible assumption)
        ·
          rw [if_neg g19, if_neg g19]
          have h25 := T_DR_lengthen (x2 := (0 : Int64)) (t0_0 := (p75.1 : Int32)) (t0_1 := (p75.2.1 : Int32)) (t0_2 := ((F_DR_needed (p75.1 : Int32) (p75.2.1 : Int32) (p75.2.2.1 : Int32) (p75.2.2.2.1 : Int64) (p75.2.2.2.2.1 : Int32) (p75.2.2.2.2.2.1 : Int32) (p75.2.2.2.2.2.2.1 : Int32) (p75.2.2.2.2.2.2.2.1 : Int32) (p75.2.2.2.2.2.2.2.2.1 : Int32) (p75.2.2.2.2.2.2.2.2.2.1 : Int32) (p75.2.2.2.2.2.2.2.2.2.2.1 : Int32) (p75.2.2.2.2.2.2.2.2.2.2.2 : (Nat → Int32))) : Int32)) (t0_3 := ((p75.2.2.2.1 : Int64) - (((p75.2.2.1 : Int32) - ((F_DR_needed (p75.1 : Int32) (p75.2.1 : Int32) (p75.2.2.1 : Int32) (p75.2.2.2.1 : Int64) (p75.2.2.2.2.1 : Int32) (p75.2.2.2.2.2.1 : Int32) (p75.2.2.2.2.2.2.1 : Int32) (p75.2.2.2.2.2.2.2.1 : Int32) (p75.2.2.2.2.2.2.2.2.1 : Int32) (p75.2.2.2.2.2.2.2.2.2.1 : Int32) (p75.2.2.2.2.2.2.2.2.2.2.1 : Int32) (p75.2.2.2.2.2.2.2.2.2.2.2 : (Nat → Int32))) : Int32) : Int32).toInt64 : Int64) : Int64)) (t0_4 := (p75.2.2.2.2.1 : Int32)) (t0_5 := (p75.2.2.2.2.2.1 : Int32)) (t0_6 := (p75.2.2.2.2.2.2.1 : Int32)) (t0_7 := (p75.2.2.2.2.2.2.2.1 : Int32)) (t0_8 := (p75.2.2.2.2.2.2.2.2.1 : Int32)) (t0_9 := (p75.2.2.2.2.2.2.2.2.2.1 : Int32)) (t0_10 := (p75.2.2.2.2.2.2.2.2.2.2.1 : Int32)) (t1_0 := (p75.2.2.2.2.2.2.2.2.2.2.2 : (Nat → Int32))) ⟨by omega, by omega⟩ (by first | omega | decide) (by first | omega | (have ez : (0 : Int64).toInt = 0 := rfl; omega)) (by first | with_reducible assumption | exact g_cl (by with_reducible assumption) (by omega) (by omega) | omega | decide)
          with_reducible refine v_owe h25.1 ?_
          replace h25 := h25.2
          generalize F_DR_lengthen (0 : Int64) (p75.1 : Int32) (p75.2.1 : Int32) ((F_DR_needed (p75.1 : Int32) (p75.2.1 : Int32) (p75.2.2.1 : Int32) (p75.2.2.2.1 : Int64) (p75.2.2.2.2.1 : Int32) (p75.2.2.2.2.2.1 : Int32) (p75.2.2.2.2.2.2.1 : Int32) (p75.2.2.2.2.2.2.2.1 : Int32) (p75.2.2.2.2.2.2.2.2.1 : Int32) (p75.2.2.2.2.2.2.2.2.2.1 : Int32) (p75.2.2.2.2.2.2.2.2.2.2.1 : Int32) (p75.2.2.2.2.2.2.2.2.2.2.2 : (Nat → Int32))) : Int32) ((p75.2.2.2.1 : Int64) - (((p75.2.2.1 : Int32) - ((F_DR_needed (p75.1 : Int32) (p75.2.1 : Int32) (p75.2.2.1 : Int32) (p75.2.2.2.1 : Int64) (p75.2.2.2.2.1 : Int32) (p75.2.2.2.2.2.1 : Int32) (p75.2.2.2.2.2.2.1 : Int32) (p75.2.2.2.2.2.2.2.1 : Int32) (p75.2.2.2.2.2.2.2.2.1 : Int32) (p75.2.2.2.2.2.2.2.2.2.1 : Int32) (p75.2.2.2.2.2.2.2.2.2.2.1 : Int32) (p75.2.2.2.2.2.2.2.2.2.2.2 : (Nat → Int32))) : Int32) : Int32).toInt64 : Int64) : Int64) (p75.2.2.2.2.1 : Int32) (p75.2.2.2.2.2.1 : Int32) (p75.2.2.2.2.2.2.1 : Int32) (p75.2.2.2.2.2.2.2.1 : Int32) (p75.2.2.2.2.2.2.2.2.1 : Int32) (p75.2.2.2.2.2.2.2.2.2.1 : Int32) (p75.2.2.2.2.2.2.2.2.2.2.1 : Int32) (p75.2.2.2.2.2.2.2.2.2.2.2 : (Nat → Int32)) = p682 at *
          unfold Q_DR_lengthen at h25
          obtain ⟨h251, h25g⟩ := h25
          unfold S_DR_toPrecision_c119_11 F_DR_toPrecision_c119_11
          have h26 := T_DR_store (x2 := x5) (t0_0 := (p682.1 : Int32)) (t0_1 := (p682.2.1 : Int32)) (t0_2 := (p682.2.2.1 : Int32)) (t0_3 := (p682.2.2.2.1 : Int64)) (t0_4 := (p682.2.2.2.2.1 : Int32)) (t0_5 := (p682.2.2.2.2.2.1 : Int32)) (t0_6 := (p682.2.2.2.2.2.2.1 : Int32)) (t0_7 := (p682.2.2.2.2.2.2.2.1 : Int32)) (t0_8 := (p682.2.2.2.2.2.2.2.2.1 : Int32)) (t0_9 := (p682.2.2.2.2.2.2.2.2.2.1 : Int32)) (t0_10 := (p682.2.2.2.2.2.2.2.2.2.2.1 : Int32)) (t1_0 := t1_0) (t2_0 := t2_0) (t3_0 := t3_0) (t4_0 := t4_0) (t5_0 := (p682.2.2.2.2.2.2.2.2.2.2.2 : (Nat → Int32))) (by with_reducible assumption) (by with_reducible assumption) ⟨by first | omega | decide, by first | omega | decide⟩ (by first | with_reducible assumption | exact g_cl (by with_reducible assumption) (by omega) (by omega) | omega | decide)
          with_reducible refine v_owe h26.1 ?_
          replace h26 := h26.2
          generalize F_DR_store x5 (p682.1 : Int32) (p682.2.1 : Int32) (p682.2.2.1 : Int32) (p682.2.2.2.1 : Int64) (p682.2.2.2.2.1 : Int32) (p682.2.2.2.2.2.1 : Int32) (p682.2.2.2.2.2.2.1 : Int32) (p682.2.2.2.2.2.2.2.1 : Int32) (p682.2.2.2.2.2.2.2.2.1 : Int32) (p682.2.2.2.2.2.2.2.2.2.1 : Int32) (p682.2.2.2.2.2.2.2.2.2.2.1 : Int32) t1_0 t2_0 t3_0 t4_0 (p682.2.2.2.2.2.2.2.2.2.2.2 : (Nat → Int32)) = p750 at *
          unfold Q_DR_store at h26
          unfold S_DR_toPrecision_c125_12 F_DR_toPrecision_c125_12
          refine ⟨trivial, ?_⟩
          (unfold Q_DR_toPrecision; dsimp only; with_reducible assumption)
    ·
      rw [if_neg g12, if_neg g12]
      have g12i := q_neI g12
      have g12w := hmo (by omega)
      have g12q := congrArg Int32.toInt (trim9 g12w.2 (by omega))
      unfold S_DR_toPrecision_J129 F_DR_toPrecision_J129
      have h27 := T_DR_cut (x2 := x2) (x3 := x4) (t0_0 := (p75.1 : Int32)) (t0_1 := (p75.2.1 : Int32)) (t0_2 := (p75.2.2.1 : Int32)) (t0_3 := (p75.2.2.2.1 : Int64)) (t0_4 := (p75.2.2.2.2.1 : Int32)) (t0_5 := (p75.2.2.2.2.2.1 : Int32)) (t0_6 := (p75.2.2.2.2.2.2.1 : Int32)) (t0_7 := (p75.2.2.2.2.2.2.2.1 : Int32)) (t0_8 := (p75.2.2.2.2.2.2.2.2.1 : Int32)) (t0_9 := (p75.2.2.2.2.2.2.2.2.2.1 : Int32)) (t0_10 := (p75.2.2.2.2.2.2.2.2.2.2.1 : Int32)) (t1_0 := (p75.2.2.2.2.2.2.2.2.2.2.2 : (Nat → Int32))) ⟨by omega, by omega⟩ (by omega) (by first | exact ⟨by omega, by omega⟩ | exact ⟨by decide, by have ez : (-1 : Int32).toInt = -1 := rfl; omega⟩ | exact g_kp ⟨by omega, by omega⟩ ⟨by omega, by omega⟩ ⟨by omega, by omega⟩ (by with_reducible assumption) (by omega)) (by with_reducible assumption)
      with_reducible refine v_owe h27.1 ?_
      replace h27 := h27.2
      generalize F_DR_cut x2 x4 (p75.1 : Int32) (p75.2.1 : Int32) (p75.2.2.1 : Int32) (p75.2.2.2.1 : Int64) (p75.2.2.2.2.1 : Int32) (p75.2.2.2.2.2.1 : Int32) (p75.2.2.2.2.2.2.1 : Int32) (p75.2.2.2.2.2.2.2.1 : Int32) (p75.2.2.2.2.2.2.2.2.1 : Int32) (p75.2.2.2.2.2.2.2.2.2.1 : Int32) (p75.2.2.2.2.2.2.2.2.2.2.1 : Int32) (p75.2.2.2.2.2.2.2.2.2.2.2 : (Nat → Int32)) = p166 at *
      unfold Q_DR_cut at h27
      obtain ⟨h271, h27g, h276⟩ := h27
      unfold S_DR_toPrecision_c133 F_DR_toPrecision_c133
      by_cases g28 : (p166.1 : Int32) = (0 : Int32)
      ·
        rw [if_pos g28, if_pos g28]
        refine ⟨trivial, ?_⟩
        (unfold Q_DR_toPrecision; dsimp only; with_reducible assumption)
      ·
        rw [if_neg g28, if_neg g28]
        by_cases g29 : (p166.2.2.2.1 : Int32) ≤ x2
        ·
          rw [if_pos g29, if_pos g29]
          have h30 := T_DR_store (x2 := x5) (t0_0 := (p166.2.1 : Int32)) (t0_1 := (p166.2.2.1 : Int32)) (t0_2 := (p166.2.2.2.1 : Int32)) (t0_3 := (p166.2.2.2.2.1 : Int64)) (t0_4 := (p166.2.2.2.2.2.1 : Int32)) (t0_5 := (p166.2.2.2.2.2.2.1 : Int32)) (t0_6 := (p166.2.2.2.2.2.2.2.1 : Int32)) (t0_7 := (p166.2.2.2.2.2.2.2.2.1 : Int32)) (t0_8 := (p166.2.2.2.2.2.2.2.2.2.1 : Int32)) (t0_9 := (p166.2.2.2.2.2.2.2.2.2.2.1 : Int32)) (t0_10 := (p166.2.2.2.2.2.2.2.2.2.2.2.1 : Int32)) (t1_0 := t1_0) (t2_0 := t2_0) (t3_0 := t3_0) (t4_0 := t4_0) (t5_0 := (p166.2.2.2.2.2.2.2.2.2.2.2.2 : (Nat → Int32))) (by with_reducible assumption) (by with_reducible assumption) ⟨by first | omega | decide, by first | omega | decide⟩ (by first | with_reducible assumption | exact g_cl (by with_reducible assumption) (by omega) (by omega) | omega | decide)
          with_reducible refine v_owe h30.1 ?_
          replace h30 := h30.2
          generalize F_DR_store x5 (p166.2.1 : Int32) (p166.2.2.1 : Int32) (p166.2.2.2.1 : Int32) (p166.2.2.2.2.1 : Int64) (p166.2.2.2.2.2.1 : Int32) (p166.2.2.2.2.2.2.1 : Int32) (p166.2.2.2.2.2.2.2.1 : Int32) (p166.2.2.2.2.2.2.2.2.1 : Int32) (p166.2.2.2.2.2.2.2.2.2.1 : Int32) (p166.2.2.2.2.2.2.2.2.2.2.1 : Int32) (p166.2.2.2.2.2.2.2.2.2.2.2.1 : Int32) t1_0 t2_0 t3_0 t4_0 (p166.2.2.2.2.2.2.2.2.2.2.2.2 : (Nat → Int32)) = p240 at *
          unfold Q_DR_store at h30
          unfold S_DR_toPrecision_c170 F_DR_toPrecision_c170
          refine ⟨trivial, ?_⟩
          (unfold Q_DR_toPrecision; dsimp only; with_reducible assumption)
        ·
          rw [if_neg g29, if_neg g29]
          have g29i := q_nleI g29
          have g29e : (p166.2.2.2.1 - 1 : Int32).toInt = p166.2.2.2.1.toInt - 1 := q_subI (y := 1) rfl (by decide) (by omega) (by omega)
          have h31 := T_DR_store (x2 := x5) (t0_0 := (p166.2.1 : Int32)) (t0_1 := (p166.2.2.1 : Int32)) (t0_2 := ((p166.2.2.2.1 : Int32) - 1 : Int32)) (t0_3 := ((p166.2.2.2.2.1 : Int64) - 1 : Int64)) (t0_4 := (p166.2.2.2.2.2.1 : Int32)) (t0_5 := (p166.2.2.2.2.2.2.1 : Int32)) (t0_6 := (p166.2.2.2.2.2.2.2.1 : Int32)) (t0_7 := (p166.2.2.2.2.2.2.2.2.1 : Int32)) (t0_8 := (p166.2.2.2.2.2.2.2.2.2.1 : Int32)) (t0_9 := (p166.2.2.2.2.2.2.2.2.2.2.1 : Int32)) (t0_10 := (p166.2.2.2.2.2.2.2.2.2.2.2.1 : Int32)) (t1_0 := t1_0) (t2_0 := t2_0) (t3_0 := t3_0) (t4_0 := t4_0) (t5_0 := (p166.2.2.2.2.2.2.2.2.2.2.2.2 : (Nat → Int32))) (by with_reducible assumption) (by with_reducible assumption) ⟨by first | omega | decide, by first | omega | decide⟩ (by first | with_reducible assumption | exact g_cl (by with_reducible assumption) (by omega) (by omega) | omega | decide)
          with_reducible refine v_owe h31.1 ?_
          replace h31 := h31.2
          generalize F_DR_store x5 (p166.2.1 : Int32) (p166.2.2.1 : Int32) ((p166.2.2.2.1 : Int32) - 1 : Int32) ((p166.2.2.2.2.1 : Int64) - 1 : Int64) (p166.2.2.2.2.2.1 : Int32) (p166.2.2.2.2.2.2.1 : Int32) (p166.2.2.2.2.2.2.2.1 : Int32) (p166.2.2.2.2.2.2.2.2.1 : Int32) (p166.2.2.2.2.2.2.2.2.2.1 : Int32) (p166.2.2.2.2.2.2.2.2.2.2.1 : Int32) (p166.2.2.2.2.2.2.2.2.2.2.2.1 : Int32) t1_0 t2_0 t3_0 t4_0 (p166.2.2.2.2.2.2.2.2.2.2.2.2 : (Nat → Int32)) = p322 at *
          unfold Q_DR_store at h31
          unfold S_DR_toPrecision_c170_6 F_DR_toPrecision_c170_6
          refine ⟨trivial, ?_⟩
          (unfold Q_DR_toPrecision; dsimp only; with_reducible assumption)
def Q_DR_toScale (p : Int32 × Int32 × Int32 × Int64 × Int32 × Int32 × Int32 × Int32 × Int32 × Int32 × Int32 × (Nat → Int32) × (Nat → Int32) × (Nat → Int32) × (Nat → Int32) × (Nat → Int32)) : Prop := gR p.2.2.2.2.2.2.2.2.2.2.2.1 p.2.2.2.2.2.2.2.2.2.2.2.2.1 p.2.2.2.2.2.2.2.2.2.2.2.2.2.1 p.2.2.2.2.2.2.2.2.2.2.2.2.2.2.1
theorem T_DR_toScale {x2 : Int32} {x3 : Int32} {x4 : Int32} {x5 : Int32} {t0_0 : Int32} {t0_1 : Int32} {t0_2 : Int32} {t0_3 : Int64} {t0_4 : Int32} {t0_5 : Int32} {t0_6 : Int32} {t0_7 : Int32} {t0_8 : Int32} {t0_9 : Int32} {t0_10 : Int32} {t1_0 : (Nat → Int32)} {t2_0 : (Nat → Int32)} {t3_0 : (Nat → Int32)} {t4_0 : (Nat → Int32)} {t5_0 : (Nat → Int32)} (hR : gR t1_0 t2_0 t3_0 t4_0) : (S_DR_toScale x2 x3 x4 x5 t0_0 t0_1 t0_2 t0_3 t0_4 t0_5 t0_6 t0_7 t0_8 t0_9 t0_10 t1_0 t2_0 t3_0 t4_0 t5_0) ∧ Q_DR_toScale (F_DR_toScale x2 x3 x4 x5 t0_0 t0_1 t0_2 t0_3 t0_4 t0_5 t0_6 t0_7 t0_8 t0_9 t0_10 t1_0 t2_0 t3_0 t4_0 t5_0) := by
  have e0 : (0 : Int32).toInt = 0 := rfl
  have eL0 : (0 : Int64).toInt = 0 := rfl
  have eL1 : (10000 : Int64).toInt = 10000 := rfl
  have eL2 : (-10000 : Int64).toInt = -10000 := rfl
  have eL3 : (1000 : Int64).toInt = 1000 := rfl
  have eL4 : (-1 : Int64).toInt = -1 := rfl
  have eI3 : (1000 : Int32).toInt = 1000 := rfl
  have eM : (-10000 : Int32).toInt = -10000 := rfl
  have eP : (10000 : Int32).toInt = 10000 := rfl
  have eO : (1 : Int32).toInt = 1 := rfl
  unfold S_DR_toScale F_DR_toScale
  by_cases g1 : ((F_DR_no x2) : Int32) = (0 : Int32)
  ·
    rw [if_pos g1, if_pos g1]
    have g1r := g_no g1
    by_cases g2 : ((F_DR_no x3) : Int32) = (0 : Int32)
    ·
      rw [if_pos g2, if_pos g2]
      have g2r := g_no g2
      by_cases g3 : ((F_DR_noMode x5) : Int32) = (0 : Int32)
      ·
        rw [if_pos g3, if_pos g3]
        by_cases g4 : x4 < (-10000 : Int32)
        ·
          rw [if_pos g4, if_pos g4]
          have g4i : x4.toInt < -10000 := q_ltI g4
          unfold S_DR_toScale_J37 F_DR_toScale_J37
          unfold S_DR_toScale_J42 F_DR_toScale_J42
          have g5 : ¬ ((1 : Int32) = (0 : Int32)) := (by decide)
          rw [if_neg g5, if_neg g5]
          refine ⟨trivial, ?_⟩
          (unfold Q_DR_toScale; dsimp only; with_reducible assumption)
        ·
          rw [if_neg g4, if_neg g4]
          have g4i : -10000 ≤ x4.toInt := q_nltI g4
          by_cases g6 : x4 ≤ (10000 : Int32)
          ·
            rw [if_pos g6, if_pos g6]
            have g6i : x4.toInt ≤ 10000 := q_leI g6
            unfold S_DR_toScale_J42 F_DR_toScale_J42
            have g7 : ((0 : Int32) = (0 : Int32)) := (by decide)
            rw [if_pos g7, if_pos g7]
            have h8 := T_DR_load (x2 := x2) (t0_0 := (0 : Int32)) (t0_1 := t0_1) (t0_2 := t0_2) (t0_3 := t0_3) (t0_4 := t0_4) (t0_5 := t0_5) (t0_6 := t0_6) (t0_7 := t0_7) (t0_8 := t0_8) (t0_9 := t0_9) (t0_10 := (2 : Int32)) (t1_0 := t1_0) (t2_0 := t2_0) (t3_0 := t3_0) (t4_0 := t4_0) (t5_0 := t5_0) (by with_reducible assumption) (by with_reducible assumption)
            with_reducible refine v_owe h8.1 ?_
            replace h8 := h8.2
            generalize F_DR_load x2 (0 : Int32) t0_1 t0_2 t0_3 t0_4 t0_5 t0_6 t0_7 t0_8 t0_9 (2 : Int32) t1_0 t2_0 t3_0 t4_0 t5_0 = p103 at *
            unfold Q_DR_load at h8
            obtain ⟨h81, h8g, h83, h84, h85, h86, h87⟩ := h8
            have h84i := congrArg Int32.toInt h84
            unfold S_DR_toScale_c59 F_DR_toScale_c59
            have h9 := T_DR_bring (x2 := (x4.toInt64 : Int64)) (x3 := x5) (x4 := x3) (t0_0 := (p103.1 : Int32)) (t0_1 := (p103.2.1 : Int32)) (t0_2 := (p103.2.2.1 : Int32)) (t0_3 := (p103.2.2.2.1 : Int64)) (t0_4 := (p103.2.2.2.2.1 : Int32)) (t0_5 := (p103.2.2.2.2.2.1 : Int32)) (t0_6 := (p103.2.2.2.2.2.2.1 : Int32)) (t0_7 := (p103.2.2.2.2.2.2.2.1 : Int32)) (t0_8 := (p103.2.2.2.2.2.2.2.2.1 : Int32)) (t0_9 := (p103.2.2.2.2.2.2.2.2.2.1 : Int32)) (t0_10 := (p103.2.2.2.2.2.2.2.2.2.2.1 : Int32)) (t1_0 := t1_0) (t2_0 := t2_0) (t3_0 := t3_0) (t4_0 := t4_0) (t5_0 := (p103.2.2.2.2.2.2.2.2.2.2.2 : (Nat → Int32))) (by with_reducible assumption) (by with_reducible assumption) ⟨by first | omega | (rw [q_i2l rfl]; omega), by first | omega | (rw [q_i2l rfl]; omega)⟩ ⟨by omega, by omega⟩ (by with_reducible assumption) ⟨by omega, by omega⟩
            with_reducible refine v_owe h9.1 ?_
            replace h9 := h9.2
            generalize F_DR_bring (x4.toInt64 : Int64) x5 x3 (p103.1 : Int32) (p103.2.1 : Int32) (p103.2.2.1 : Int32) (p103.2.2.2.1 : Int64) (p103.2.2.2.2.1 : Int32) (p103.2.2.2.2.2.1 : Int32) (p103.2.2.2.2.2.2.1 : Int32) (p103.2.2.2.2.2.2.2.1 : Int32) (p103.2.2.2.2.2.2.2.2.1 : Int32) (p103.2.2.2.2.2.2.2.2.2.1 : Int32) (p103.2.2.2.2.2.2.2.2.2.2.1 : Int32) t1_0 t2_0 t3_0 t4_0 (p103.2.2.2.2.2.2.2.2.2.2.2 : (Nat → Int32)) = p172 at *
            unfold Q_DR_bring at h9
            unfold S_DR_toScale_c68 F_DR_toScale_c68
            refine ⟨trivial, ?_⟩
            (unfold Q_DR_toScale; dsimp only; with_reducible assumption)
          ·
            rw [if_neg g6, if_neg g6]
            have g6i : 10000 < x4.toInt := q_nleI g6
            unfold S_DR_toScale_J37 F_DR_toScale_J37
            unfold S_DR_toScale_J42 F_DR_toScale_J42
            have g10 : ¬ ((1 : Int32) = (0 : Int32)) := (by decide)
            rw [if_neg g10, if_neg g10]
            refine ⟨trivial, ?_⟩
            (unfold Q_DR_toScale; dsimp only; with_reducible assumption)
      ·
        rw [if_neg g3, if_neg g3]
        unfold S_DR_toScale_J37 F_DR_toScale_J37
        unfold S_DR_toScale_J42 F_DR_toScale_J42
        have g11 : ¬ ((1 : Int32) = (0 : Int32)) := (by decide)
        rw [if_neg g11, if_neg g11]
        refine ⟨trivial, ?_⟩
        (unfold Q_DR_toScale; dsimp only; with_reducible assumption)
    ·
      rw [if_neg g2, if_neg g2]
      unfold S_DR_toScale_J37 F_DR_toScale_J37
      unfold S_DR_toScale_J42 F_DR_toScale_J42
      have g12 : ¬ ((1 : Int32) = (0 : Int32)) := (by decide)
      rw [if_neg g12, if_neg g12]
      refine ⟨trivial, ?_⟩
      (unfold Q_DR_toScale; dsimp only; with_reducible assumption)
  ·
    rw [if_neg g1, if_neg g1]
    unfold S_DR_toScale_J37 F_DR_toScale_J37
    unfold S_DR_toScale_J42 F_DR_toScale_J42
    have g13 : ¬ ((1 : Int32) = (0 : Int32)) := (by decide)
    rw [if_neg g13, if_neg g13]
    refine ⟨trivial, ?_⟩
    (unfold Q_DR_toScale; dsimp only; with_reducible assumption)
def Q_DR_round (p : Int32 × Int32 × Int32 × Int64 × Int32 × Int32 × Int32 × Int32 × Int32 × Int32 × Int32 × (Nat → Int32) × (Nat → Int32) × (Nat → Int32) × (Nat → Int32) × (Nat → Int32)) : Prop := gR p.2.2.2.2.2.2.2.2.2.2.2.1 p.2.2.2.2.2.2.2.2.2.2.2.2.1 p.2.2.2.2.2.2.2.2.2.2.2.2.2.1 p.2.2.2.2.2.2.2.2.2.2.2.2.2.2.1
theorem T_DR_round {x2 : Int32} {x3 : Int32} {x4 : Int32} {x5 : Int32} {t0_0 : Int32} {t0_1 : Int32} {t0_2 : Int32} {t0_3 : Int64} {t0_4 : Int32} {t0_5 : Int32} {t0_6 : Int32} {t0_7 : Int32} {t0_8 : Int32} {t0_9 : Int32} {t0_10 : Int32} {t1_0 : (Nat → Int32)} {t2_0 : (Nat → Int32)} {t3_0 : (Nat → Int32)} {t4_0 : (Nat → Int32)} {t5_0 : (Nat → Int32)} (hR : gR t1_0 t2_0 t3_0 t4_0) : (S_DR_round x2 x3 x4 x5 t0_0 t0_1 t0_2 t0_3 t0_4 t0_5 t0_6 t0_7 t0_8 t0_9 t0_10 t1_0 t2_0 t3_0 t4_0 t5_0) ∧ Q_DR_round (F_DR_round x2 x3 x4 x5 t0_0 t0_1 t0_2 t0_3 t0_4 t0_5 t0_6 t0_7 t0_8 t0_9 t0_10 t1_0 t2_0 t3_0 t4_0 t5_0) := by
  have e0 : (0 : Int32).toInt = 0 := rfl
  have eL0 : (0 : Int64).toInt = 0 := rfl
  have eL1 : (10000 : Int64).toInt = 10000 := rfl
  have eL2 : (-10000 : Int64).toInt = -10000 := rfl
  have eL3 : (1000 : Int64).toInt = 1000 := rfl
  have eL4 : (-1 : Int64).toInt = -1 := rfl
  have eI3 : (1000 : Int32).toInt = 1000 := rfl
  have eM : (-10000 : Int32).toInt = -10000 := rfl
  have eP : (10000 : Int32).toInt = 10000 := rfl
  have eO : (1 : Int32).toInt = 1 := rfl
  unfold S_DR_round F_DR_round
  by_cases g1 : ((F_DR_no x2) : Int32) = (0 : Int32)
  ·
    rw [if_pos g1, if_pos g1]
    have g1r := g_no g1
    by_cases g2 : ((F_DR_no x3) : Int32) = (0 : Int32)
    ·
      rw [if_pos g2, if_pos g2]
      have g2r := g_no g2
      by_cases g3 : ((F_DR_noMode x5) : Int32) = (0 : Int32)
      ·
        rw [if_pos g3, if_pos g3]
        by_cases g4 : x4 < (1 : Int32)
        ·
          rw [if_pos g4, if_pos g4]
          have g4i : x4.toInt < 1 := q_ltI g4
          unfold S_DR_round_J35 F_DR_round_J35
          unfold S_DR_round_J40 F_DR_round_J40
          have g5 : ¬ ((1 : Int32) = (0 : Int32)) := (by decide)
          rw [if_neg g5, if_neg g5]
          refine ⟨trivial, ?_⟩
          (unfold Q_DR_round; dsimp only; with_reducible assumption)
        ·
          rw [if_neg g4, if_neg g4]
          have g4i : 1 ≤ x4.toInt := q_nltI g4
          by_cases g6 : x4 ≤ (1000 : Int32)
          ·
            rw [if_pos g6, if_pos g6]
            have g6i : x4.toInt ≤ 1000 := q_leI g6
            unfold S_DR_round_J40 F_DR_round_J40
            have g7 : ((0 : Int32) = (0 : Int32)) := (by decide)
            rw [if_pos g7, if_pos g7]
            have h8 := T_DR_load (x2 := x2) (t0_0 := (0 : Int32)) (t0_1 := t0_1) (t0_2 := t0_2) (t0_3 := t0_3) (t0_4 := t0_4) (t0_5 := t0_5) (t0_6 := t0_6) (t0_7 := t0_7) (t0_8 := t0_8) (t0_9 := t0_9) (t0_10 := (2 : Int32)) (t1_0 := t1_0) (t2_0 := t2_0) (t3_0 := t3_0) (t4_0 := t4_0) (t5_0 := t5_0) (by with_reducible assumption) (by with_reducible assumption)
            with_reducible refine v_owe h8.1 ?_
            replace h8 := h8.2
            generalize F_DR_load x2 (0 : Int32) t0_1 t0_2 t0_3 t0_4 t0_5 t0_6 t0_7 t0_8 t0_9 (2 : Int32) t1_0 t2_0 t3_0 t4_0 t5_0 = p103 at *
            unfold Q_DR_load at h8
            obtain ⟨h81, h8g, h83, h84, h85, h86, h87⟩ := h8
            have h84i := congrArg Int32.toInt h84
            unfold S_DR_round_c57 F_DR_round_c57
            have h9 := T_DR_toPrecision (x2 := x4) (x3 := ((t4_0 x2.toNatClampNeg : Int32).toInt64 : Int64)) (x4 := x5) (x5 := x3) (t0_0 := (p103.1 : Int32)) (t0_1 := (p103.2.1 : Int32)) (t0_2 := (p103.2.2.1 : Int32)) (t0_3 := (p103.2.2.2.1 : Int64)) (t0_4 := (p103.2.2.2.2.1 : Int32)) (t0_5 := (p103.2.2.2.2.2.1 : Int32)) (t0_6 := (p103.2.2.2.2.2.2.1 : Int32)) (t0_7 := (p103.2.2.2.2.2.2.2.1 : Int32)) (t0_8 := (p103.2.2.2.2.2.2.2.2.1 : Int32)) (t0_9 := (p103.2.2.2.2.2.2.2.2.2.1 : Int32)) (t0_10 := (p103.2.2.2.2.2.2.2.2.2.2.1 : Int32)) (t1_0 := t1_0) (t2_0 := t2_0) (t3_0 := t3_0) (t4_0 := t4_0) (t5_0 := (p103.2.2.2.2.2.2.2.2.2.2.2 : (Nat → Int32))) (by with_reducible assumption) (by with_reducible assumption) ⟨by omega, by omega⟩ ⟨by omega, by omega⟩ (by with_reducible assumption) (fun hne => by omega)
            with_reducible refine v_owe h9.1 ?_
            replace h9 := h9.2
            generalize F_DR_toPrecision x4 ((t4_0 x2.toNatClampNeg : Int32).toInt64 : Int64) x5 x3 (p103.1 : Int32) (p103.2.1 : Int32) (p103.2.2.1 : Int32) (p103.2.2.2.1 : Int64) (p103.2.2.2.2.1 : Int32) (p103.2.2.2.2.2.1 : Int32) (p103.2.2.2.2.2.2.1 : Int32) (p103.2.2.2.2.2.2.2.1 : Int32) (p103.2.2.2.2.2.2.2.2.1 : Int32) (p103.2.2.2.2.2.2.2.2.2.1 : Int32) (p103.2.2.2.2.2.2.2.2.2.2.1 : Int32) t1_0 t2_0 t3_0 t4_0 (p103.2.2.2.2.2.2.2.2.2.2.2 : (Nat → Int32)) = p174 at *
            unfold Q_DR_toPrecision at h9
            unfold S_DR_round_c72 F_DR_round_c72
            refine ⟨trivial, ?_⟩
            (unfold Q_DR_round; dsimp only; with_reducible assumption)
          ·
            rw [if_neg g6, if_neg g6]
            have g6i : 1000 < x4.toInt := q_nleI g6
            unfold S_DR_round_J35 F_DR_round_J35
            unfold S_DR_round_J40 F_DR_round_J40
            have g10 : ¬ ((1 : Int32) = (0 : Int32)) := (by decide)
            rw [if_neg g10, if_neg g10]
            refine ⟨trivial, ?_⟩
            (unfold Q_DR_round; dsimp only; with_reducible assumption)
      ·
        rw [if_neg g3, if_neg g3]
        unfold S_DR_round_J35 F_DR_round_J35
        unfold S_DR_round_J40 F_DR_round_J40
        have g11 : ¬ ((1 : Int32) = (0 : Int32)) := (by decide)
        rw [if_neg g11, if_neg g11]
        refine ⟨trivial, ?_⟩
        (unfold Q_DR_round; dsimp only; with_reducible assumption)
    ·
      rw [if_neg g2, if_neg g2]
      unfold S_DR_round_J35 F_DR_round_J35
      unfold S_DR_round_J40 F_DR_round_J40
      have g12 : ¬ ((1 : Int32) = (0 : Int32)) := (by decide)
      rw [if_neg g12, if_neg g12]
      refine ⟨trivial, ?_⟩
      (unfold Q_DR_round; dsimp only; with_reducible assumption)
  ·
    rw [if_neg g1, if_neg g1]
    unfold S_DR_round_J35 F_DR_round_J35
    unfold S_DR_round_J40 F_DR_round_J40
    have g13 : ¬ ((1 : Int32) = (0 : Int32)) := (by decide)
    rw [if_neg g13, if_neg g13]
    refine ⟨trivial, ?_⟩
    (unfold Q_DR_round; dsimp only; with_reducible assumption)
def Q_DR_strip (p : Int32 × Int32 × Int32 × Int64 × Int32 × Int32 × Int32 × Int32 × Int32 × Int32 × Int32 × (Nat → Int32) × (Nat → Int32) × (Nat → Int32) × (Nat → Int32) × (Nat → Int32)) : Prop := gR p.2.2.2.2.2.2.2.2.2.2.2.1 p.2.2.2.2.2.2.2.2.2.2.2.2.1 p.2.2.2.2.2.2.2.2.2.2.2.2.2.1 p.2.2.2.2.2.2.2.2.2.2.2.2.2.2.1
theorem T_DR_strip {x2 : Int32} {x3 : Int32} {t0_0 : Int32} {t0_1 : Int32} {t0_2 : Int32} {t0_3 : Int64} {t0_4 : Int32} {t0_5 : Int32} {t0_6 : Int32} {t0_7 : Int32} {t0_8 : Int32} {t0_9 : Int32} {t0_10 : Int32} {t1_0 : (Nat → Int32)} {t2_0 : (Nat → Int32)} {t3_0 : (Nat → Int32)} {t4_0 : (Nat → Int32)} {t5_0 : (Nat → Int32)} (hR : gR t1_0 t2_0 t3_0 t4_0) : (S_DR_strip x2 x3 t0_0 t0_1 t0_2 t0_3 t0_4 t0_5 t0_6 t0_7 t0_8 t0_9 t0_10 t1_0 t2_0 t3_0 t4_0 t5_0) ∧ Q_DR_strip (F_DR_strip x2 x3 t0_0 t0_1 t0_2 t0_3 t0_4 t0_5 t0_6 t0_7 t0_8 t0_9 t0_10 t1_0 t2_0 t3_0 t4_0 t5_0) := by
  have e0 : (0 : Int32).toInt = 0 := rfl
  have eL0 : (0 : Int64).toInt = 0 := rfl
  have eL1 : (10000 : Int64).toInt = 10000 := rfl
  have eL2 : (-10000 : Int64).toInt = -10000 := rfl
  have eL3 : (1000 : Int64).toInt = 1000 := rfl
  have eL4 : (-1 : Int64).toInt = -1 := rfl
  have eI3 : (1000 : Int32).toInt = 1000 := rfl
  have eM : (-10000 : Int32).toInt = -10000 := rfl
  have eP : (10000 : Int32).toInt = 10000 := rfl
  have eO : (1 : Int32).toInt = 1 := rfl
  unfold S_DR_strip F_DR_strip
  by_cases g1 : ((F_DR_no x2) : Int32) = (0 : Int32)
  ·
    rw [if_pos g1, if_pos g1]
    have g1r := g_no g1
    by_cases g2 : ((F_DR_no x3) : Int32) = (0 : Int32)
    ·
      rw [if_pos g2, if_pos g2]
      have g2r := g_no g2
      unfold S_DR_strip_J20 F_DR_strip_J20
      have g3 : ((0 : Int32) ≤ (0 : Int32)) := (by decide)
      rw [if_pos g3, if_pos g3]
      have h4 := T_DR_load (x2 := x2) (t0_0 := (0 : Int32)) (t0_1 := t0_1) (t0_2 := t0_2) (t0_3 := t0_3) (t0_4 := t0_4) (t0_5 := t0_5) (t0_6 := t0_6) (t0_7 := t0_7) (t0_8 := t0_8) (t0_9 := t0_9) (t0_10 := (2 : Int32)) (t1_0 := t1_0) (t2_0 := t2_0) (t3_0 := t3_0) (t4_0 := t4_0) (t5_0 := t5_0) (by with_reducible assumption) (by with_reducible assumption)
      with_reducible refine v_owe h4.1 ?_
      replace h4 := h4.2
      generalize F_DR_load x2 (0 : Int32) t0_1 t0_2 t0_3 t0_4 t0_5 t0_6 t0_7 t0_8 t0_9 (2 : Int32) t1_0 t2_0 t3_0 t4_0 t5_0 = p102 at *
      unfold Q_DR_load at h4
      obtain ⟨h41, h4g, h43, h44, h45, h46, h47⟩ := h4
      have h44i := congrArg Int32.toInt h44
      unfold S_DR_strip_c38 F_DR_strip_c38
      by_cases g5 : ((p102.2.2.2.2.2.2.2.2.2.2.2 : (Nat → Int32)) (0 : Int32).toNatClampNeg : Int32) = (0 : Int32)
      ·
        rw [if_pos g5, if_pos g5]
        have h6 := T_DR_store (x2 := x3) (t0_0 := (p102.1 : Int32)) (t0_1 := (p102.2.1 : Int32)) (t0_2 := (p102.2.2.1 : Int32)) (t0_3 := (0 : Int64)) (t0_4 := (p102.2.2.2.2.1 : Int32)) (t0_5 := (p102.2.2.2.2.2.1 : Int32)) (t0_6 := (p102.2.2.2.2.2.2.1 : Int32)) (t0_7 := (p102.2.2.2.2.2.2.2.1 : Int32)) (t0_8 := (p102.2.2.2.2.2.2.2.2.1 : Int32)) (t0_9 := (p102.2.2.2.2.2.2.2.2.2.1 : Int32)) (t0_10 := (p102.2.2.2.2.2.2.2.2.2.2.1 : Int32)) (t1_0 := t1_0) (t2_0 := t2_0) (t3_0 := t3_0) (t4_0 := t4_0) (t5_0 := (p102.2.2.2.2.2.2.2.2.2.2.2 : (Nat → Int32))) (by with_reducible assumption) (by with_reducible assumption) ⟨by first | omega | decide, by first | omega | decide⟩ (by first | with_reducible assumption | exact g_cl (by with_reducible assumption) (by omega) (by omega) | omega | decide)
        with_reducible refine v_owe h6.1 ?_
        replace h6 := h6.2
        generalize F_DR_store x3 (p102.1 : Int32) (p102.2.1 : Int32) (p102.2.2.1 : Int32) (0 : Int64) (p102.2.2.2.2.1 : Int32) (p102.2.2.2.2.2.1 : Int32) (p102.2.2.2.2.2.2.1 : Int32) (p102.2.2.2.2.2.2.2.1 : Int32) (p102.2.2.2.2.2.2.2.2.1 : Int32) (p102.2.2.2.2.2.2.2.2.2.1 : Int32) (p102.2.2.2.2.2.2.2.2.2.2.1 : Int32) t1_0 t2_0 t3_0 t4_0 (p102.2.2.2.2.2.2.2.2.2.2.2 : (Nat → Int32)) = p269 at *
        unfold Q_DR_store at h6
        unfold S_DR_strip_c86_4 F_DR_strip_c86_4
        refine ⟨trivial, ?_⟩
        (unfold Q_DR_strip; dsimp only; with_reducible assumption)
      ·
        rw [if_neg g5, if_neg g5]
        have h7 := R_need (t0_0 := (p102.1 : Int32)) (t0_1 := (p102.2.1 : Int32)) (t0_2 := (p102.2.2.1 : Int32)) (t0_3 := (p102.2.2.2.1 : Int64)) (t0_4 := (p102.2.2.2.2.1 : Int32)) (t0_5 := (p102.2.2.2.2.2.1 : Int32)) (t0_6 := (p102.2.2.2.2.2.2.1 : Int32)) (t0_7 := (p102.2.2.2.2.2.2.2.1 : Int32)) (t0_8 := (p102.2.2.2.2.2.2.2.2.1 : Int32)) (t0_9 := (p102.2.2.2.2.2.2.2.2.2.1 : Int32)) (t0_10 := (p102.2.2.2.2.2.2.2.2.2.2.1 : Int32)) (t1_0 := (p102.2.2.2.2.2.2.2.2.2.2.2 : (Nat → Int32))) ⟨by omega, by omega⟩
        have h7b := h7.2
        with_reducible refine v_owe h7.1 ?_
        have h8 := T_DR_store (x2 := x3) (t0_0 := (p102.1 : Int32)) (t0_1 := (p102.2.1 : Int32)) (t0_2 := ((F_DR_needed (p102.1 : Int32) (p102.2.1 : Int32) (p102.2.2.1 : Int32) (p102.2.2.2.1 : Int64) (p102.2.2.2.2.1 : Int32) (p102.2.2.2.2.2.1 : Int32) (p102.2.2.2.2.2.2.1 : Int32) (p102.2.2.2.2.2.2.2.1 : Int32) (p102.2.2.2.2.2.2.2.2.1 : Int32) (p102.2.2.2.2.2.2.2.2.2.1 : Int32) (p102.2.2.2.2.2.2.2.2.2.2.1 : Int32) (p102.2.2.2.2.2.2.2.2.2.2.2 : (Nat → Int32))) : Int32)) (t0_3 := ((p102.2.2.2.1 : Int64) - (((p102.2.2.1 : Int32) - ((F_DR_needed (p102.1 : Int32) (p102.2.1 : Int32) (p102.2.2.1 : Int32) (p102.2.2.2.1 : Int64) (p102.2.2.2.2.1 : Int32) (p102.2.2.2.2.2.1 : Int32) (p102.2.2.2.2.2.2.1 : Int32) (p102.2.2.2.2.2.2.2.1 : Int32) (p102.2.2.2.2.2.2.2.2.1 : Int32) (p102.2.2.2.2.2.2.2.2.2.1 : Int32) (p102.2.2.2.2.2.2.2.2.2.2.1 : Int32) (p102.2.2.2.2.2.2.2.2.2.2.2 : (Nat → Int32))) : Int32) : Int32).toInt64 : Int64) : Int64)) (t0_4 := (p102.2.2.2.2.1 : Int32)) (t0_5 := (p102.2.2.2.2.2.1 : Int32)) (t0_6 := (p102.2.2.2.2.2.2.1 : Int32)) (t0_7 := (p102.2.2.2.2.2.2.2.1 : Int32)) (t0_8 := (p102.2.2.2.2.2.2.2.2.1 : Int32)) (t0_9 := (p102.2.2.2.2.2.2.2.2.2.1 : Int32)) (t0_10 := (p102.2.2.2.2.2.2.2.2.2.2.1 : Int32)) (t1_0 := t1_0) (t2_0 := t2_0) (t3_0 := t3_0) (t4_0 := t4_0) (t5_0 := (p102.2.2.2.2.2.2.2.2.2.2.2 : (Nat → Int32))) (by with_reducible assumption) (by with_reducible assumption) ⟨by first | omega | decide, by first | omega | decide⟩ (by first | with_reducible assumption | exact g_cl (by with_reducible assumption) (by omega) (by omega) | omega | decide)
        with_reducible refine v_owe h8.1 ?_
        replace h8 := h8.2
        generalize F_DR_store x3 (p102.1 : Int32) (p102.2.1 : Int32) ((F_DR_needed (p102.1 : Int32) (p102.2.1 : Int32) (p102.2.2.1 : Int32) (p102.2.2.2.1 : Int64) (p102.2.2.2.2.1 : Int32) (p102.2.2.2.2.2.1 : Int32) (p102.2.2.2.2.2.2.1 : Int32) (p102.2.2.2.2.2.2.2.1 : Int32) (p102.2.2.2.2.2.2.2.2.1 : Int32) (p102.2.2.2.2.2.2.2.2.2.1 : Int32) (p102.2.2.2.2.2.2.2.2.2.2.1 : Int32) (p102.2.2.2.2.2.2.2.2.2.2.2 : (Nat → Int32))) : Int32) ((p102.2.2.2.1 : Int64) - (((p102.2.2.1 : Int32) - ((F_DR_needed (p102.1 : Int32) (p102.2.1 : Int32) (p102.2.2.1 : Int32) (p102.2.2.2.1 : Int64) (p102.2.2.2.2.1 : Int32) (p102.2.2.2.2.2.1 : Int32) (p102.2.2.2.2.2.2.1 : Int32) (p102.2.2.2.2.2.2.2.1 : Int32) (p102.2.2.2.2.2.2.2.2.1 : Int32) (p102.2.2.2.2.2.2.2.2.2.1 : Int32) (p102.2.2.2.2.2.2.2.2.2.2.1 : Int32) (p102.2.2.2.2.2.2.2.2.2.2.2 : (Nat → Int32))) : Int32) : Int32).toInt64 : Int64) : Int64) (p102.2.2.2.2.1 : Int32) (p102.2.2.2.2.2.1 : Int32) (p102.2.2.2.2.2.2.1 : Int32) (p102.2.2.2.2.2.2.2.1 : Int32) (p102.2.2.2.2.2.2.2.2.1 : Int32) (p102.2.2.2.2.2.2.2.2.2.1 : Int32) (p102.2.2.2.2.2.2.2.2.2.2.1 : Int32) t1_0 t2_0 t3_0 t4_0 (p102.2.2.2.2.2.2.2.2.2.2.2 : (Nat → Int32)) = p194 at *
        unfold Q_DR_store at h8
        unfold S_DR_strip_c86 F_DR_strip_c86
        refine ⟨trivial, ?_⟩
        (unfold Q_DR_strip; dsimp only; with_reducible assumption)
    ·
      rw [if_neg g2, if_neg g2]
      unfold S_DR_strip_J15 F_DR_strip_J15
      unfold S_DR_strip_J20 F_DR_strip_J20
      have g9 : ¬ ((1 : Int32) ≤ (0 : Int32)) := (by decide)
      rw [if_neg g9, if_neg g9]
      refine ⟨trivial, ?_⟩
      (unfold Q_DR_strip; dsimp only; with_reducible assumption)
  ·
    rw [if_neg g1, if_neg g1]
    unfold S_DR_strip_J15 F_DR_strip_J15
    unfold S_DR_strip_J20 F_DR_strip_J20
    have g10 : ¬ ((1 : Int32) ≤ (0 : Int32)) := (by decide)
    rw [if_neg g10, if_neg g10]
    refine ⟨trivial, ?_⟩
    (unfold Q_DR_strip; dsimp only; with_reducible assumption)
def Q_DR_shift (p : Int32 × Int32 × Int32 × Int64 × Int32 × Int32 × Int32 × Int32 × Int32 × Int32 × Int32 × (Nat → Int32) × (Nat → Int32) × (Nat → Int32) × (Nat → Int32) × (Nat → Int32)) : Prop := gR p.2.2.2.2.2.2.2.2.2.2.2.1 p.2.2.2.2.2.2.2.2.2.2.2.2.1 p.2.2.2.2.2.2.2.2.2.2.2.2.2.1 p.2.2.2.2.2.2.2.2.2.2.2.2.2.2.1
theorem T_DR_shift {x2 : Int32} {x3 : Int32} {x4 : Int32} {t0_0 : Int32} {t0_1 : Int32} {t0_2 : Int32} {t0_3 : Int64} {t0_4 : Int32} {t0_5 : Int32} {t0_6 : Int32} {t0_7 : Int32} {t0_8 : Int32} {t0_9 : Int32} {t0_10 : Int32} {t1_0 : (Nat → Int32)} {t2_0 : (Nat → Int32)} {t3_0 : (Nat → Int32)} {t4_0 : (Nat → Int32)} {t5_0 : (Nat → Int32)} (hR : gR t1_0 t2_0 t3_0 t4_0) : (S_DR_shift x2 x3 x4 t0_0 t0_1 t0_2 t0_3 t0_4 t0_5 t0_6 t0_7 t0_8 t0_9 t0_10 t1_0 t2_0 t3_0 t4_0 t5_0) ∧ Q_DR_shift (F_DR_shift x2 x3 x4 t0_0 t0_1 t0_2 t0_3 t0_4 t0_5 t0_6 t0_7 t0_8 t0_9 t0_10 t1_0 t2_0 t3_0 t4_0 t5_0) := by
  have e0 : (0 : Int32).toInt = 0 := rfl
  have eL0 : (0 : Int64).toInt = 0 := rfl
  have eL1 : (10000 : Int64).toInt = 10000 := rfl
  have eL2 : (-10000 : Int64).toInt = -10000 := rfl
  have eL3 : (1000 : Int64).toInt = 1000 := rfl
  have eL4 : (-1 : Int64).toInt = -1 := rfl
  have eI3 : (1000 : Int32).toInt = 1000 := rfl
  have eM : (-10000 : Int32).toInt = -10000 := rfl
  have eP : (10000 : Int32).toInt = 10000 := rfl
  have eO : (1 : Int32).toInt = 1 := rfl
  unfold S_DR_shift F_DR_shift
  by_cases g1 : ((F_DR_no x2) : Int32) = (0 : Int32)
  ·
    rw [if_pos g1, if_pos g1]
    have g1r := g_no g1
    by_cases g2 : ((F_DR_no x3) : Int32) = (0 : Int32)
    ·
      rw [if_pos g2, if_pos g2]
      have g2r := g_no g2
      unfold S_DR_shift_J20 F_DR_shift_J20
      have g3 : ((0 : Int32) = (0 : Int32)) := (by decide)
      rw [if_pos g3, if_pos g3]
      have h4 := T_DR_load (x2 := x2) (t0_0 := (0 : Int32)) (t0_1 := t0_1) (t0_2 := t0_2) (t0_3 := t0_3) (t0_4 := t0_4) (t0_5 := t0_5) (t0_6 := t0_6) (t0_7 := t0_7) (t0_8 := t0_8) (t0_9 := t0_9) (t0_10 := (2 : Int32)) (t1_0 := t1_0) (t2_0 := t2_0) (t3_0 := t3_0) (t4_0 := t4_0) (t5_0 := t5_0) (by with_reducible assumption) (by with_reducible assumption)
      with_reducible refine v_owe h4.1 ?_
      replace h4 := h4.2
      generalize F_DR_load x2 (0 : Int32) t0_1 t0_2 t0_3 t0_4 t0_5 t0_6 t0_7 t0_8 t0_9 (2 : Int32) t1_0 t2_0 t3_0 t4_0 t5_0 = p103 at *
      unfold Q_DR_load at h4
      obtain ⟨h41, h4g, h43, h44, h45, h46, h47⟩ := h4
      have h44i := congrArg Int32.toInt h44
      unfold S_DR_shift_c37 F_DR_shift_c37
      have h5 := T_DR_store (x2 := x3) (t0_0 := (p103.1 : Int32)) (t0_1 := (p103.2.1 : Int32)) (t0_2 := (p103.2.2.1 : Int32)) (t0_3 := ((p103.2.2.2.1 : Int64) - (x4.toInt64 : Int64) : Int64)) (t0_4 := (p103.2.2.2.2.1 : Int32)) (t0_5 := (p103.2.2.2.2.2.1 : Int32)) (t0_6 := (p103.2.2.2.2.2.2.1 : Int32)) (t0_7 := (p103.2.2.2.2.2.2.2.1 : Int32)) (t0_8 := (p103.2.2.2.2.2.2.2.2.1 : Int32)) (t0_9 := (p103.2.2.2.2.2.2.2.2.2.1 : Int32)) (t0_10 := (p103.2.2.2.2.2.2.2.2.2.2.1 : Int32)) (t1_0 := t1_0) (t2_0 := t2_0) (t3_0 := t3_0) (t4_0 := t4_0) (t5_0 := (p103.2.2.2.2.2.2.2.2.2.2.2 : (Nat → Int32))) (by with_reducible assumption) (by with_reducible assumption) ⟨by first | omega | decide, by first | omega | decide⟩ (by first | with_reducible assumption | exact g_cl (by with_reducible assumption) (by omega) (by omega) | omega | decide)
      with_reducible refine v_owe h5.1 ?_
      replace h5 := h5.2
      generalize F_DR_store x3 (p103.1 : Int32) (p103.2.1 : Int32) (p103.2.2.1 : Int32) ((p103.2.2.2.1 : Int64) - (x4.toInt64 : Int64) : Int64) (p103.2.2.2.2.1 : Int32) (p103.2.2.2.2.2.1 : Int32) (p103.2.2.2.2.2.2.1 : Int32) (p103.2.2.2.2.2.2.2.1 : Int32) (p103.2.2.2.2.2.2.2.2.1 : Int32) (p103.2.2.2.2.2.2.2.2.2.1 : Int32) (p103.2.2.2.2.2.2.2.2.2.2.1 : Int32) t1_0 t2_0 t3_0 t4_0 (p103.2.2.2.2.2.2.2.2.2.2.2 : (Nat → Int32)) = p179 at *
      unfold Q_DR_store at h5
      unfold S_DR_shift_c53 F_DR_shift_c53
      refine ⟨trivial, ?_⟩
      (unfold Q_DR_shift; dsimp only; with_reducible assumption)
    ·
      rw [if_neg g2, if_neg g2]
      unfold S_DR_shift_J15 F_DR_shift_J15
      unfold S_DR_shift_J20 F_DR_shift_J20
      have g6 : ¬ ((1 : Int32) = (0 : Int32)) := (by decide)
      rw [if_neg g6, if_neg g6]
      refine ⟨trivial, ?_⟩
      (unfold Q_DR_shift; dsimp only; with_reducible assumption)
  ·
    rw [if_neg g1, if_neg g1]
    unfold S_DR_shift_J15 F_DR_shift_J15
    unfold S_DR_shift_J20 F_DR_shift_J20
    have g7 : ¬ ((1 : Int32) = (0 : Int32)) := (by decide)
    rw [if_neg g7, if_neg g7]
    refine ⟨trivial, ?_⟩
    (unfold Q_DR_shift; dsimp only; with_reducible assumption)

/-! DecimalRows: says, read, put, told, compare -/
theorem g_at {x2 : Int32} {t0_0 : Int32} {t0_1 : Int32} {t0_2 : Int32} {t0_3 : Int64} {t0_4 : Int32} {t0_5 : Int32} {t0_6 : Int32} {t0_7 : Int32} {t0_8 : Int32} {t0_9 : Int32} {t0_10 : Int32} {t1_0 : (Nat → Int32)} (h : ¬ F_DR_at x2 t0_0 t0_1 t0_2 t0_3 t0_4 t0_5 t0_6 t0_7 t0_8 t0_9 t0_10 t1_0 = 0) : x2.toInt < t0_1.toInt := by
  unfold F_DR_at at h
  by_cases c : t0_1 ≤ x2
  · rw [if_pos c] at h
    exact absurd rfl h
  · exact q_nleI c
theorem g_at46 {x2 : Int32} {t0_0 : Int32} {t0_1 : Int32} {t0_2 : Int32} {t0_3 : Int64} {t0_4 : Int32} {t0_5 : Int32} {t0_6 : Int32} {t0_7 : Int32} {t0_8 : Int32} {t0_9 : Int32} {t0_10 : Int32} {t1_0 : (Nat → Int32)} (h : F_DR_at x2 t0_0 t0_1 t0_2 t0_3 t0_4 t0_5 t0_6 t0_7 t0_8 t0_9 t0_10 t1_0 = 46) : x2.toInt < t0_1.toInt := g_at (by rw [h]; decide)
theorem g_isd {c : Int32} (h : ¬ F_DR_isDigit c = 0) : 48 ≤ c.toInt ∧ c.toInt ≤ 57 := by
  have e1 : (48 : Int32).toInt = 48 := rfl
  have e2 : (57 : Int32).toInt = 57 := rfl
  unfold F_DR_isDigit at h
  by_cases h1 : c < 48
  · rw [if_pos h1] at h
    exact absurd rfl h
  · rw [if_neg h1] at h
    by_cases h2 : 57 < c
    · rw [if_pos h2] at h
      exact absurd rfl h
    · have a := q_nltI h1
      have b := q_nltI h2
      omega
theorem g_atd {x2 : Int32} {t0_0 : Int32} {t0_1 : Int32} {t0_2 : Int32} {t0_3 : Int64} {t0_4 : Int32} {t0_5 : Int32} {t0_6 : Int32} {t0_7 : Int32} {t0_8 : Int32} {t0_9 : Int32} {t0_10 : Int32} {t1_0 : (Nat → Int32)} (h : ¬ F_DR_isDigit (F_DR_at x2 t0_0 t0_1 t0_2 t0_3 t0_4 t0_5 t0_6 t0_7 t0_8 t0_9 t0_10 t1_0) = 0) : x2.toInt < t0_1.toInt := g_at (fun e => by have := g_isd h; rw [e] at this; exact absurd this (by decide))
theorem g_sayU {f : Nat → Int32} {k k1 c : Int32} (h : gO f k.toNatClampNeg) (hk : 0 ≤ k.toInt) (h1 : k1.toInt = k.toInt + 1) (hc : 48 ≤ c.toInt ∧ c.toInt ≤ 57) : gO (upd f k.toNatClampNeg (c - 48)) k1.toNatClampNeg := by
  have e : (c - 48 : Int32).toInt = c.toInt - 48 := q_subI (y := 48) rfl (by decide) (by omega) (by omega)
  have e1 := q_clI (i := k) rfl hk
  have e2 := q_clI (i := k1) h1 (by omega)
  have e3 : k1.toNatClampNeg = k.toNatClampNeg + 1 := by omega
  rw [e3]
  exact gO_push h (by rw [e]; omega)
theorem R_at {x2 : Int32} {t0_0 : Int32} {t0_1 : Int32} {t0_2 : Int32} {t0_3 : Int64} {t0_4 : Int32} {t0_5 : Int32} {t0_6 : Int32} {t0_7 : Int32} {t0_8 : Int32} {t0_9 : Int32} {t0_10 : Int32} {t1_0 : (Nat → Int32)} (h : 0 ≤ x2.toInt) : S_DR_at x2 t0_0 t0_1 t0_2 t0_3 t0_4 t0_5 t0_6 t0_7 t0_8 t0_9 t0_10 t1_0 ∧ True := by
  refine ⟨?_, trivial⟩
  unfold S_DR_at
  by_cases c : t0_1 ≤ x2
  · rw [if_pos c]; trivial
  · rw [if_neg c]; exact ⟨h, trivial⟩
def Q_DR_says (t0_10 : Int32) (p : Int32 × Int32 × Int32 × Int32 × Int64 × Int32 × Int32 × Int32 × Int32 × Int32 × Int32 × Int32 × (Nat → Int32)) : Prop := (0 ≤ p.2.2.2.1.toInt ∧ p.2.2.2.1.toInt ≤ 4100) ∧ gO p.2.2.2.2.2.2.2.2.2.2.2.2 p.2.2.2.1.toNatClampNeg ∧ p.2.2.2.2.2.2.2.2.2.2.2.1 = t0_10
theorem v_say1 {K_F_DR_says_L62 : Int32 → Int32 → Int32 → (Nat → Int32) → Int64 → (Int32 × Int32 × Int32 × Int32 × Int64 × Int32 × Int32 × Int32 × Int32 × Int32 × Int32 × Int32 × (Nat → Int32))} {t0_0 : Int32} {t0_1 : Int32} {t0_2 : Int32} {t0_3 : Int64} {t0_4 : Int32} {t0_5 : Int32} {t0_6 : Int32} {t0_7 : Int32} {t0_8 : Int32} {t0_9 : Int32} {t0_10 : Int32} {t1_0 : (Nat → Int32)} {t2_0 : (Nat → Int32)} {lx29 : Int32} {lx47 : Int32} {lx69 : Int32} {lx70 : Int32} {lx71 : Int32} {lx72 : (Nat → Int32)} {lx73 : Int64} {a222 : Int32} {lx230 : Int32} {lx242 : Int32} {K_S_DR_says_L62 : Int32 → Int32 → Int32 → (Nat → Int32) → Int64 → Prop} (hl : 0 ≤ t0_1.toInt ∧ t0_1.toInt ≤ 4100)(h71 : 0 ≤ lx71.toInt ∧ lx71.toInt ≤ 4100) (ho : gO lx72 lx71.toNatClampNeg) : ∀ (n : Nat) (lx255 : Int32) (lx256 : Int64) (lx257 : Int32), (0 ≤ lx255.toInt ∧ lx255.toInt ≤ 11) → (11 - lx255.toInt < (n : Int)) → (0 ≤ lx257.toInt ∧ lx257.toInt ≤ 5000 + lx255.toInt) → (S_DR_says_L247 K_S_DR_says_L62 t0_0 t0_1 t0_2 t0_3 t0_4 t0_5 t0_6 t0_7 t0_8 t0_9 t0_10 t1_0 t2_0 lx29 lx47 lx69 lx70 lx71 lx72 lx73 a222 lx230 lx242 n lx255 lx256 lx257) ∧ Q_DR_says t0_10 (F_DR_says_L247 K_F_DR_says_L62 t0_0 t0_1 t0_2 t0_3 t0_4 t0_5 t0_6 t0_7 t0_8 t0_9 t0_10 t1_0 t2_0 lx29 lx47 lx69 lx70 lx71 lx72 lx73 a222 lx230 lx242 n lx255 lx256 lx257) := by
  intro n
  induction n with
  | zero => intro lx255 lx256 lx257 h0 hm h1; exact absurd (show False by omega) id
  | succ n ih =>
    intro lx255 lx256 lx257 h0 hm h1
    have e0 : (0 : Int32).toInt = 0 := rfl
    have e11 : (11 : Int32).toInt = 11 := rfl
    rw [S_DR_says_L247.eq_2, F_DR_says_L247.eq_2]
    have h1 := R_at (x2 := lx257) (t0_0 := t0_0) (t0_1 := t0_1) (t0_2 := lx71) (t0_3 := lx73) (t0_4 := (0 : Int32)) (t0_5 := lx47) (t0_6 := t0_6) (t0_7 := t0_7) (t0_8 := t0_8) (t0_9 := t0_9) (t0_10 := t0_10) (t1_0 := t1_0) (by first | omega | decide)
    with_reducible refine v_owe h1.1 ?_
    by_cases g2 : ((F_DR_isDigit ((F_DR_at lx257 t0_0 t0_1 lx71 lx73 (0 : Int32) lx47 t0_6 t0_7 t0_8 t0_9 t0_10 t1_0) : Int32)) : Int32) = (0 : Int32)
    ·
      rw [if_pos g2, if_pos g2]
      unfold S_DR_says_J293 F_DR_says_J293
      by_cases g3 : lx255 < (1 : Int32)
      ·
        rw [if_pos g3, if_pos g3]
        have g3i : lx255.toInt < 1 := q_ltI g3
        refine ⟨trivial, ?_⟩
        (unfold Q_DR_says; dsimp only; exact ⟨⟨by omega, by omega⟩, ho, rfl⟩)
      ·
        rw [if_neg g3, if_neg g3]
        have g3i : 1 ≤ lx255.toInt := q_nltI g3
        by_cases g4 : lx255 ≤ (10 : Int32)
        ·
          rw [if_pos g4, if_pos g4]
          have g4i : lx255.toInt ≤ 10 := q_leI g4
          by_cases g5 : lx230 = (0 : Int32)
          ·
            rw [if_pos g5, if_pos g5]
            by_cases g6 : lx257 = t0_1
            ·
              rw [if_pos g6, if_pos g6]
              refine ⟨trivial, ?_⟩
              (unfold Q_DR_says; dsimp only; exact ⟨⟨by omega, by omega⟩, ho, rfl⟩)
            ·
              rw [if_neg g6, if_neg g6]
              refine ⟨trivial, ?_⟩
              (unfold Q_DR_says; dsimp only; exact ⟨⟨by omega, by omega⟩, ho, rfl⟩)
          ·
            rw [if_neg g5, if_neg g5]
            by_cases g7 : lx257 = t0_1
            ·
              rw [if_pos g7, if_pos g7]
              refine ⟨trivial, ?_⟩
              (unfold Q_DR_says; dsimp only; exact ⟨⟨by omega, by omega⟩, ho, rfl⟩)
            ·
              rw [if_neg g7, if_neg g7]
              refine ⟨trivial, ?_⟩
              (unfold Q_DR_says; dsimp only; exact ⟨⟨by omega, by omega⟩, ho, rfl⟩)
        ·
          rw [if_neg g4, if_neg g4]
          have g4i : 10 < lx255.toInt := q_nleI g4
          refine ⟨trivial, ?_⟩
          (unfold Q_DR_says; dsimp only; exact ⟨⟨by omega, by omega⟩, ho, rfl⟩)
    ·
      rw [if_neg g2, if_neg g2]
      have g2d := g_isd g2
      have g2p := g_atd g2
      by_cases g8 : (11 : Int32) ≤ lx255
      ·
        rw [if_pos g8, if_pos g8]
        have g8i : 11 ≤ lx255.toInt := q_leI g8
        unfold S_DR_says_J293 F_DR_says_J293
        by_cases g9 : lx255 < (1 : Int32)
        ·
          rw [if_pos g9, if_pos g9]
          have g9i : lx255.toInt < 1 := q_ltI g9
          refine ⟨trivial, ?_⟩
          (unfold Q_DR_says; dsimp only; exact ⟨⟨by omega, by omega⟩, ho, rfl⟩)
        ·
          rw [if_neg g9, if_neg g9]
          have g9i : 1 ≤ lx255.toInt := q_nltI g9
          by_cases g10 : lx255 ≤ (10 : Int32)
          ·
            rw [if_pos g10, if_pos g10]
            have g10i : lx255.toInt ≤ 10 := q_leI g10
            by_cases g11 : lx230 = (0 : Int32)
            ·
              rw [if_pos g11, if_pos g11]
              by_cases g12 : lx257 = t0_1
              ·
                rw [if_pos g12, if_pos g12]
                refine ⟨trivial, ?_⟩
                (unfold Q_DR_says; dsimp only; exact ⟨⟨by omega, by omega⟩, ho, rfl⟩)
              ·
                rw [if_neg g12, if_neg g12]
                refine ⟨trivial, ?_⟩
                (unfold Q_DR_says; dsimp only; exact ⟨⟨by omega, by omega⟩, ho, rfl⟩)
            ·
              rw [if_neg g11, if_neg g11]
              by_cases g13 : lx257 = t0_1
              ·
                rw [if_pos g13, if_pos g13]
                refine ⟨trivial, ?_⟩
                (unfold Q_DR_says; dsimp only; exact ⟨⟨by omega, by omega⟩, ho, rfl⟩)
              ·
                rw [if_neg g13, if_neg g13]
                refine ⟨trivial, ?_⟩
                (unfold Q_DR_says; dsimp only; exact ⟨⟨by omega, by omega⟩, ho, rfl⟩)
          ·
            rw [if_neg g10, if_neg g10]
            have g10i : 10 < lx255.toInt := q_nleI g10
            refine ⟨trivial, ?_⟩
            (unfold Q_DR_says; dsimp only; exact ⟨⟨by omega, by omega⟩, ho, rfl⟩)
      ·
        rw [if_neg g8, if_neg g8]
        have g8i : lx255.toInt < 11 := q_nleI g8
        with_reducible refine v_owe h1.1 ?_
        obtain ⟨a14, e15⟩ := q_nm (lx255 + 1 : Int32)
        rw [e15]
        have a14i : a14.toInt = lx255.toInt + 1 := by rw [← e15]; exact q_addI (x := lx255.toInt) (y := 1) rfl (by decide) (by omega) (by omega)
        obtain ⟨a16, e17⟩ := q_nm (lx257 + 1 : Int32)
        rw [e17]
        have a16i : a16.toInt = lx257.toInt + 1 := by rw [← e17]; exact q_addI (x := lx257.toInt) (y := 1) rfl (by decide) (by omega) (by omega)
        exact ih _ _ _ (by first | with_reducible assumption | omega | decide) (by first | with_reducible assumption | omega | decide) (by first | with_reducible assumption | omega | decide)
theorem v_say2 {t0_0 : Int32} {t0_1 : Int32} {t0_2 : Int32} {t0_3 : Int64} {t0_4 : Int32} {t0_5 : Int32} {t0_6 : Int32} {t0_7 : Int32} {t0_8 : Int32} {t0_9 : Int32} {t0_10 : Int32} {t1_0 : (Nat → Int32)} {t2_0 : (Nat → Int32)} {lx29 : Int32} {lx47 : Int32} (hl : 0 ≤ t0_1.toInt ∧ t0_1.toInt ≤ 4100) : ∀ (n : Nat) (lx69 : Int32) (lx70 : Int32) (lx71 : Int32) (lx72 : (Nat → Int32)) (lx73 : Int64), (0 ≤ lx70.toInt ∧ lx70.toInt ≤ 4101) → (4102 - lx70.toInt < (n : Int)) → (0 ≤ lx71.toInt ∧ lx71.toInt ≤ lx70.toInt ∧ lx71.toInt ≤ 4100) → (gO lx72 lx71.toNatClampNeg) → (S_DR_says_L62 t0_0 t0_1 t0_2 t0_3 t0_4 t0_5 t0_6 t0_7 t0_8 t0_9 t0_10 t1_0 t2_0 lx29 lx47 n lx69 lx70 lx71 lx72 lx73) ∧ Q_DR_says t0_10 (F_DR_says_L62 t0_0 t0_1 t0_2 t0_3 t0_4 t0_5 t0_6 t0_7 t0_8 t0_9 t0_10 t1_0 t2_0 lx29 lx47 n lx69 lx70 lx71 lx72 lx73) := by
  intro n
  induction n with
  | zero => intro lx69 lx70 lx71 lx72 lx73 h0 hm h1 ho; exact absurd (show False by omega) id
  | succ n ih =>
    intro lx69 lx70 lx71 lx72 lx73 h0 hm h1 ho
    have e0 : (0 : Int32).toInt = 0 := rfl
    have p1 : (lx70 + 1 : Int32).toInt = lx70.toInt + 1 := q_addI (y := 1) rfl (by decide) (by omega) (by omega)
    have p2 : (lx70 + 1 + 1 : Int32).toInt = (lx70.toInt + 1) + 1 := q_addI (y := 1) p1 (by decide) (by omega) (by omega)
    rw [S_DR_says_L62.eq_2, F_DR_says_L62.eq_2]
    have h1 := R_at (x2 := lx70) (t0_0 := t0_0) (t0_1 := t0_1) (t0_2 := lx71) (t0_3 := lx73) (t0_4 := (0 : Int32)) (t0_5 := lx47) (t0_6 := t0_6) (t0_7 := t0_7) (t0_8 := t0_8) (t0_9 := t0_9) (t0_10 := t0_10) (t1_0 := t1_0) (by first | omega | decide)
    with_reducible refine v_owe h1.1 ?_
    by_cases g2 : ((F_DR_isDigit ((F_DR_at lx70 t0_0 t0_1 lx71 lx73 (0 : Int32) lx47 t0_6 t0_7 t0_8 t0_9 t0_10 t1_0) : Int32)) : Int32) = (0 : Int32)
    ·
      rw [if_pos g2, if_pos g2]
      with_reducible refine v_owe h1.1 ?_
      by_cases g3 : ((F_DR_at lx70 t0_0 t0_1 lx71 lx73 (0 : Int32) lx47 t0_6 t0_7 t0_8 t0_9 t0_10 t1_0) : Int32) = (46 : Int32)
      ·
        rw [if_pos g3, if_pos g3]
        have g3p := g_at46 g3
        by_cases g4 : lx69 = (0 : Int32)
        ·
          rw [if_pos g4, if_pos g4]
          unfold S_DR_says_J87 F_DR_says_J87
          rw [if_pos g4, if_pos g4]
          with_reducible refine v_owe h1.1 ?_
          rw [if_pos g3, if_pos g3]
          unfold S_DR_says_J101 F_DR_says_J101
          unfold S_DR_says_J106 F_DR_says_J106
          with_reducible refine v_owe h1.1 ?_
          rw [if_pos g3, if_pos g3]
          obtain ⟨a5, e6⟩ := q_nm (lx70 + 1 : Int32)
          rw [e6]
          have a5i : a5.toInt = lx70.toInt + 1 := by rw [← e6]; exact q_addI (x := lx70.toInt) (y := 1) rfl (by decide) (by omega) (by omega)
          exact ih _ _ _ _ _ ⟨by omega, by omega⟩ (by omega) ⟨by omega, by omega, by omega⟩ ho
        ·
          rw [if_neg g4, if_neg g4]
          unfold S_DR_says_J171 F_DR_says_J171
          by_cases g7 : lx71 = (0 : Int32)
          ·
            rw [if_pos g7, if_pos g7]
            have g7i : lx71.toInt = 0 := q_eqI g7
            refine ⟨trivial, ?_⟩
            (unfold Q_DR_says; dsimp only; exact ⟨⟨by omega, by omega⟩, ho, rfl⟩)
          ·
            rw [if_neg g7, if_neg g7]
            have g7i : lx71.toInt ≠ 0 := q_neI g7
            with_reducible refine v_owe h1.1 ?_
            by_cases g8 : ((F_DR_at lx70 t0_0 t0_1 lx71 lx73 (0 : Int32) lx47 t0_6 t0_7 t0_8 t0_9 t0_10 t1_0) : Int32) = (101 : Int32)
            ·
              rw [if_pos g8, if_pos g8]
              unfold S_DR_says_J200 F_DR_says_J200
              have h9 := R_at (x2 := (lx70 + 1 : Int32)) (t0_0 := t0_0) (t0_1 := t0_1) (t0_2 := lx71) (t0_3 := lx73) (t0_4 := (0 : Int32)) (t0_5 := lx47) (t0_6 := t0_6) (t0_7 := t0_7) (t0_8 := t0_8) (t0_9 := t0_9) (t0_10 := t0_10) (t1_0 := t1_0) (by first | omega | decide)
              with_reducible refine v_owe h9.1 ?_
              by_cases g10 : ((F_DR_at (lx70 + 1 : Int32) t0_0 t0_1 lx71 lx73 (0 : Int32) lx47 t0_6 t0_7 t0_8 t0_9 t0_10 t1_0) : Int32) = (45 : Int32)
              ·
                rw [if_pos g10, if_pos g10]
                unfold S_DR_says_J218 F_DR_says_J218
                have g11 : ¬ ((1 : Int32) = (0 : Int32)) := (by decide)
                rw [if_neg g11, if_neg g11]
                unfold S_DR_says_J233 F_DR_says_J233
                unfold S_DR_says_J240 F_DR_says_J240
                exact v_say1 hl ⟨by omega, by omega⟩ ho _ _ _ _ (by decide) (by decide) ⟨by omega, by omega⟩
              ·
                rw [if_neg g10, if_neg g10]
                unfold S_DR_says_J218 F_DR_says_J218
                have g12 : ((0 : Int32) = (0 : Int32)) := (by decide)
                rw [if_pos g12, if_pos g12]
                with_reducible refine v_owe h9.1 ?_
                by_cases g13 : ((F_DR_at (lx70 + 1 : Int32) t0_0 t0_1 lx71 lx73 (0 : Int32) lx47 t0_6 t0_7 t0_8 t0_9 t0_10 t1_0) : Int32) = (43 : Int32)
                ·
                  rw [if_pos g13, if_pos g13]
                  unfold S_DR_says_J233 F_DR_says_J233
                  unfold S_DR_says_J240 F_DR_says_J240
                  exact v_say1 hl ⟨by omega, by omega⟩ ho _ _ _ _ (by decide) (by decide) ⟨by omega, by omega⟩
                ·
                  rw [if_neg g13, if_neg g13]
                  unfold S_DR_says_J240 F_DR_says_J240
                  exact v_say1 hl ⟨by omega, by omega⟩ ho _ _ _ _ (by decide) (by decide) ⟨by omega, by omega⟩
            ·
              rw [if_neg g8, if_neg g8]
              with_reducible refine v_owe h1.1 ?_
              by_cases g14 : ((F_DR_at lx70 t0_0 t0_1 lx71 lx73 (0 : Int32) lx47 t0_6 t0_7 t0_8 t0_9 t0_10 t1_0) : Int32) = (69 : Int32)
              ·
                rw [if_pos g14, if_pos g14]
                unfold S_DR_says_J200 F_DR_says_J200
                have h15 := R_at (x2 := (lx70 + 1 : Int32)) (t0_0 := t0_0) (t0_1 := t0_1) (t0_2 := lx71) (t0_3 := lx73) (t0_4 := (0 : Int32)) (t0_5 := lx47) (t0_6 := t0_6) (t0_7 := t0_7) (t0_8 := t0_8) (t0_9 := t0_9) (t0_10 := t0_10) (t1_0 := t1_0) (by first | omega | decide)
                with_reducible refine v_owe h15.1 ?_
                by_cases g16 : ((F_DR_at (lx70 + 1 : Int32) t0_0 t0_1 lx71 lx73 (0 : Int32) lx47 t0_6 t0_7 t0_8 t0_9 t0_10 t1_0) : Int32) = (45 : Int32)
                ·
                  rw [if_pos g16, if_pos g16]
                  unfold S_DR_says_J218 F_DR_says_J218
                  have g17 : ¬ ((1 : Int32) = (0 : Int32)) := (by decide)
                  rw [if_neg g17, if_neg g17]
                  unfold S_DR_says_J233 F_DR_says_J233
                  unfold S_DR_says_J240 F_DR_says_J240
                  exact v_say1 hl ⟨by omega, by omega⟩ ho _ _ _ _ (by decide) (by decide) ⟨by omega, by omega⟩
                ·
                  rw [if_neg g16, if_neg g16]
                  unfold S_DR_says_J218 F_DR_says_J218
                  have g18 : ((0 : Int32) = (0 : Int32)) := (by decide)
                  rw [if_pos g18, if_pos g18]
                  with_reducible refine v_owe h15.1 ?_
                  by_cases g19 : ((F_DR_at (lx70 + 1 : Int32) t0_0 t0_1 lx71 lx73 (0 : Int32) lx47 t0_6 t0_7 t0_8 t0_9 t0_10 t1_0) : Int32) = (43 : Int32)
                  ·
                    rw [if_pos g19, if_pos g19]
                    unfold S_DR_says_J233 F_DR_says_J233
                    unfold S_DR_says_J240 F_DR_says_J240
                    exact v_say1 hl ⟨by omega, by omega⟩ ho _ _ _ _ (by decide) (by decide) ⟨by omega, by omega⟩
                  ·
                    rw [if_neg g19, if_neg g19]
                    unfold S_DR_says_J240 F_DR_says_J240
                    exact v_say1 hl ⟨by omega, by omega⟩ ho _ _ _ _ (by decide) (by decide) ⟨by omega, by omega⟩
              ·
                rw [if_neg g14, if_neg g14]
                by_cases g20 : lx70 = t0_1
                ·
                  rw [if_pos g20, if_pos g20]
                  refine ⟨trivial, ?_⟩
                  (unfold Q_DR_says; dsimp only; exact ⟨⟨by omega, by omega⟩, ho, rfl⟩)
                ·
                  rw [if_neg g20, if_neg g20]
                  refine ⟨trivial, ?_⟩
                  (unfold Q_DR_says; dsimp only; exact ⟨⟨by omega, by omega⟩, ho, rfl⟩)
      ·
        rw [if_neg g3, if_neg g3]
        unfold S_DR_says_J171 F_DR_says_J171
        by_cases g21 : lx71 = (0 : Int32)
        ·
          rw [if_pos g21, if_pos g21]
          have g21i : lx71.toInt = 0 := q_eqI g21
          refine ⟨trivial, ?_⟩
          (unfold Q_DR_says; dsimp only; exact ⟨⟨by omega, by omega⟩, ho, rfl⟩)
        ·
          rw [if_neg g21, if_neg g21]
          have g21i : lx71.toInt ≠ 0 := q_neI g21
          with_reducible refine v_owe h1.1 ?_
          by_cases g22 : ((F_DR_at lx70 t0_0 t0_1 lx71 lx73 (0 : Int32) lx47 t0_6 t0_7 t0_8 t0_9 t0_10 t1_0) : Int32) = (101 : Int32)
          ·
            rw [if_pos g22, if_pos g22]
            unfold S_DR_says_J200 F_DR_says_J200
            have h23 := R_at (x2 := (lx70 + 1 : Int32)) (t0_0 := t0_0) (t0_1 := t0_1) (t0_2 := lx71) (t0_3 := lx73) (t0_4 := (0 : Int32)) (t0_5 := lx47) (t0_6 := t0_6) (t0_7 := t0_7) (t0_8 := t0_8) (t0_9 := t0_9) (t0_10 := t0_10) (t1_0 := t1_0) (by first | omega | decide)
            with_reducible refine v_owe h23.1 ?_
            by_cases g24 : ((F_DR_at (lx70 + 1 : Int32) t0_0 t0_1 lx71 lx73 (0 : Int32) lx47 t0_6 t0_7 t0_8 t0_9 t0_10 t1_0) : Int32) = (45 : Int32)
            ·
              rw [if_pos g24, if_pos g24]
              unfold S_DR_says_J218 F_DR_says_J218
              have g25 : ¬ ((1 : Int32) = (0 : Int32)) := (by decide)
              rw [if_neg g25, if_neg g25]
              unfold S_DR_says_J233 F_DR_says_J233
              unfold S_DR_says_J240 F_DR_says_J240
              exact v_say1 hl ⟨by omega, by omega⟩ ho _ _ _ _ (by decide) (by decide) ⟨by omega, by omega⟩
            ·
              rw [if_neg g24, if_neg g24]
              unfold S_DR_says_J218 F_DR_says_J218
              have g26 : ((0 : Int32) = (0 : Int32)) := (by decide)
              rw [if_pos g26, if_pos g26]
              with_reducible refine v_owe h23.1 ?_
              by_cases g27 : ((F_DR_at (lx70 + 1 : Int32) t0_0 t0_1 lx71 lx73 (0 : Int32) lx47 t0_6 t0_7 t0_8 t0_9 t0_10 t1_0) : Int32) = (43 : Int32)
              ·
                rw [if_pos g27, if_pos g27]
                unfold S_DR_says_J233 F_DR_says_J233
                unfold S_DR_says_J240 F_DR_says_J240
                exact v_say1 hl ⟨by omega, by omega⟩ ho _ _ _ _ (by decide) (by decide) ⟨by omega, by omega⟩
              ·
                rw [if_neg g27, if_neg g27]
                unfold S_DR_says_J240 F_DR_says_J240
                exact v_say1 hl ⟨by omega, by omega⟩ ho _ _ _ _ (by decide) (by decide) ⟨by omega, by omega⟩
          ·
            rw [if_neg g22, if_neg g22]
            with_reducible refine v_owe h1.1 ?_
            by_cases g28 : ((F_DR_at lx70 t0_0 t0_1 lx71 lx73 (0 : Int32) lx47 t0_6 t0_7 t0_8 t0_9 t0_10 t1_0) : Int32) = (69 : Int32)
            ·
              rw [if_pos g28, if_pos g28]
              unfold S_DR_says_J200 F_DR_says_J200
              have h29 := R_at (x2 := (lx70 + 1 : Int32)) (t0_0 := t0_0) (t0_1 := t0_1) (t0_2 := lx71) (t0_3 := lx73) (t0_4 := (0 : Int32)) (t0_5 := lx47) (t0_6 := t0_6) (t0_7 := t0_7) (t0_8 := t0_8) (t0_9 := t0_9) (t0_10 := t0_10) (t1_0 := t1_0) (by first | omega | decide)
              with_reducible refine v_owe h29.1 ?_
              by_cases g30 : ((F_DR_at (lx70 + 1 : Int32) t0_0 t0_1 lx71 lx73 (0 : Int32) lx47 t0_6 t0_7 t0_8 t0_9 t0_10 t1_0) : Int32) = (45 : Int32)
              ·
                rw [if_pos g30, if_pos g30]
                unfold S_DR_says_J218 F_DR_says_J218
                have g31 : ¬ ((1 : Int32) = (0 : Int32)) := (by decide)
                rw [if_neg g31, if_neg g31]
                unfold S_DR_says_J233 F_DR_says_J233
                unfold S_DR_says_J240 F_DR_says_J240
                exact v_say1 hl ⟨by omega, by omega⟩ ho _ _ _ _ (by decide) (by decide) ⟨by omega, by omega⟩
              ·
                rw [if_neg g30, if_neg g30]
                unfold S_DR_says_J218 F_DR_says_J218
                have g32 : ((0 : Int32) = (0 : Int32)) := (by decide)
                rw [if_pos g32, if_pos g32]
                with_reducible refine v_owe h29.1 ?_
                by_cases g33 : ((F_DR_at (lx70 + 1 : Int32) t0_0 t0_1 lx71 lx73 (0 : Int32) lx47 t0_6 t0_7 t0_8 t0_9 t0_10 t1_0) : Int32) = (43 : Int32)
                ·
                  rw [if_pos g33, if_pos g33]
                  unfold S_DR_says_J233 F_DR_says_J233
                  unfold S_DR_says_J240 F_DR_says_J240
                  exact v_say1 hl ⟨by omega, by omega⟩ ho _ _ _ _ (by decide) (by decide) ⟨by omega, by omega⟩
                ·
                  rw [if_neg g33, if_neg g33]
                  unfold S_DR_says_J240 F_DR_says_J240
                  exact v_say1 hl ⟨by omega, by omega⟩ ho _ _ _ _ (by decide) (by decide) ⟨by omega, by omega⟩
            ·
              rw [if_neg g28, if_neg g28]
              by_cases g34 : lx70 = t0_1
              ·
                rw [if_pos g34, if_pos g34]
                refine ⟨trivial, ?_⟩
                (unfold Q_DR_says; dsimp only; exact ⟨⟨by omega, by omega⟩, ho, rfl⟩)
              ·
                rw [if_neg g34, if_neg g34]
                refine ⟨trivial, ?_⟩
                (unfold Q_DR_says; dsimp only; exact ⟨⟨by omega, by omega⟩, ho, rfl⟩)
    ·
      rw [if_neg g2, if_neg g2]
      have g2d := g_isd g2
      have g2p := g_atd g2
      unfold S_DR_says_J87 F_DR_says_J87
      by_cases g35 : lx69 = (0 : Int32)
      ·
        rw [if_pos g35, if_pos g35]
        with_reducible refine v_owe h1.1 ?_
        by_cases g36 : ((F_DR_at lx70 t0_0 t0_1 lx71 lx73 (0 : Int32) lx47 t0_6 t0_7 t0_8 t0_9 t0_10 t1_0) : Int32) = (46 : Int32)
        ·
          rw [if_pos g36, if_pos g36]
          have g36p := g_at46 g36
          unfold S_DR_says_J101 F_DR_says_J101
          unfold S_DR_says_J106 F_DR_says_J106
          with_reducible refine v_owe h1.1 ?_
          rw [if_pos g36, if_pos g36]
          obtain ⟨a37, e38⟩ := q_nm (lx70 + 1 : Int32)
          rw [e38]
          have a37i : a37.toInt = lx70.toInt + 1 := by rw [← e38]; exact q_addI (x := lx70.toInt) (y := 1) rfl (by decide) (by omega) (by omega)
          exact ih _ _ _ _ _ ⟨by omega, by omega⟩ (by omega) ⟨by omega, by omega, by omega⟩ ho
        ·
          rw [if_neg g36, if_neg g36]
          unfold S_DR_says_J106 F_DR_says_J106
          with_reducible refine v_owe h1.1 ?_
          rw [if_neg g36, if_neg g36]
          with_reducible refine v_owe h1.1 ?_
          refine v_cons (by omega) ?_
          have g39 : ((0 : Int32) = (0 : Int32)) := (by decide)
          rw [if_pos g39, if_pos g39]
          obtain ⟨a40, e41⟩ := q_nm (lx70 + 1 : Int32)
          rw [e41]
          have a40i : a40.toInt = lx70.toInt + 1 := by rw [← e41]; exact q_addI (x := lx70.toInt) (y := 1) rfl (by decide) (by omega) (by omega)
          obtain ⟨a42, e43⟩ := q_nm (lx71 + 1 : Int32)
          rw [e43]
          have a42i : a42.toInt = lx71.toInt + 1 := by rw [← e43]; exact q_addI (x := lx71.toInt) (y := 1) rfl (by decide) (by omega) (by omega)
          exact ih _ _ _ _ _ ⟨by omega, by omega⟩ (by omega) ⟨by omega, by omega, by omega⟩ (g_sayU ho (by omega) a42i (by with_reducible assumption))
      ·
        rw [if_neg g35, if_neg g35]
        unfold S_DR_says_J101 F_DR_says_J101
        unfold S_DR_says_J106 F_DR_says_J106
        with_reducible refine v_owe h1.1 ?_
        by_cases g44 : ((F_DR_at lx70 t0_0 t0_1 lx71 lx73 (0 : Int32) lx47 t0_6 t0_7 t0_8 t0_9 t0_10 t1_0) : Int32) = (46 : Int32)
        ·
          rw [if_pos g44, if_pos g44]
          have g44p := g_at46 g44
          obtain ⟨a45, e46⟩ := q_nm (lx70 + 1 : Int32)
          rw [e46]
          have a45i : a45.toInt = lx70.toInt + 1 := by rw [← e46]; exact q_addI (x := lx70.toInt) (y := 1) rfl (by decide) (by omega) (by omega)
          exact ih _ _ _ _ _ ⟨by omega, by omega⟩ (by omega) ⟨by omega, by omega, by omega⟩ ho
        ·
          rw [if_neg g44, if_neg g44]
          with_reducible refine v_owe h1.1 ?_
          refine v_cons (by omega) ?_
          have g47 : ¬ ((1 : Int32) = (0 : Int32)) := (by decide)
          rw [if_neg g47, if_neg g47]
          obtain ⟨a48, e49⟩ := q_nm (lx70 + 1 : Int32)
          rw [e49]
          have a48i : a48.toInt = lx70.toInt + 1 := by rw [← e49]; exact q_addI (x := lx70.toInt) (y := 1) rfl (by decide) (by omega) (by omega)
          obtain ⟨a50, e51⟩ := q_nm (lx71 + 1 : Int32)
          rw [e51]
          have a50i : a50.toInt = lx71.toInt + 1 := by rw [← e51]; exact q_addI (x := lx71.toInt) (y := 1) rfl (by decide) (by omega) (by omega)
          exact ih _ _ _ _ _ ⟨by omega, by omega⟩ (by omega) ⟨by omega, by omega, by omega⟩ (g_sayU ho (by omega) a50i (by with_reducible assumption))
theorem T_DR_says {t0_0 : Int32} {t0_1 : Int32} {t0_2 : Int32} {t0_3 : Int64} {t0_4 : Int32} {t0_5 : Int32} {t0_6 : Int32} {t0_7 : Int32} {t0_8 : Int32} {t0_9 : Int32} {t0_10 : Int32} {t1_0 : (Nat → Int32)} {t2_0 : (Nat → Int32)} (hl : 0 ≤ t0_1.toInt ∧ t0_1.toInt ≤ 4100) : (S_DR_says t0_0 t0_1 t0_2 t0_3 t0_4 t0_5 t0_6 t0_7 t0_8 t0_9 t0_10 t1_0 t2_0) ∧ Q_DR_says t0_10 (F_DR_says t0_0 t0_1 t0_2 t0_3 t0_4 t0_5 t0_6 t0_7 t0_8 t0_9 t0_10 t1_0 t2_0) := by
  have e0 : (0 : Int32).toInt = 0 := rfl
  unfold S_DR_says F_DR_says
  have h1 := R_at (x2 := (0 : Int32)) (t0_0 := t0_0) (t0_1 := t0_1) (t0_2 := t0_2) (t0_3 := t0_3) (t0_4 := t0_4) (t0_5 := t0_5) (t0_6 := t0_6) (t0_7 := t0_7) (t0_8 := t0_8) (t0_9 := t0_9) (t0_10 := t0_10) (t1_0 := t1_0) (by first | omega | decide)
  with_reducible refine v_owe h1.1 ?_
  by_cases g2 : ((F_DR_at (0 : Int32) t0_0 t0_1 t0_2 t0_3 t0_4 t0_5 t0_6 t0_7 t0_8 t0_9 t0_10 t1_0) : Int32) = (43 : Int32)
  ·
    rw [if_pos g2, if_pos g2]
    unfold S_DR_says_J20 F_DR_says_J20
    unfold S_DR_says_J25 F_DR_says_J25
    with_reducible refine v_owe h1.1 ?_
    by_cases g3 : ((F_DR_at (0 : Int32) t0_0 t0_1 t0_2 t0_3 t0_4 t0_5 t0_6 t0_7 t0_8 t0_9 t0_10 t1_0) : Int32) = (45 : Int32)
    ·
      rw [if_pos g3, if_pos g3]
      unfold S_DR_says_J42 F_DR_says_J42
      exact v_say2 hl _ _ _ _ _ _ (by decide) (by decide) (by decide) (fun i hi => by have e : (0 : Int32).toNatClampNeg = 0 := rfl; omega)
    ·
      rw [if_neg g3, if_neg g3]
      unfold S_DR_says_J42 F_DR_says_J42
      exact v_say2 hl _ _ _ _ _ _ (by decide) (by decide) (by decide) (fun i hi => by have e : (0 : Int32).toNatClampNeg = 0 := rfl; omega)
  ·
    rw [if_neg g2, if_neg g2]
    with_reducible refine v_owe h1.1 ?_
    by_cases g4 : ((F_DR_at (0 : Int32) t0_0 t0_1 t0_2 t0_3 t0_4 t0_5 t0_6 t0_7 t0_8 t0_9 t0_10 t1_0) : Int32) = (45 : Int32)
    ·
      rw [if_pos g4, if_pos g4]
      unfold S_DR_says_J20 F_DR_says_J20
      unfold S_DR_says_J25 F_DR_says_J25
      with_reducible refine v_owe h1.1 ?_
      rw [if_pos g4, if_pos g4]
      unfold S_DR_says_J42 F_DR_says_J42
      exact v_say2 hl _ _ _ _ _ _ (by decide) (by decide) (by decide) (fun i hi => by have e : (0 : Int32).toNatClampNeg = 0 := rfl; omega)
    ·
      rw [if_neg g4, if_neg g4]
      unfold S_DR_says_J25 F_DR_says_J25
      with_reducible refine v_owe h1.1 ?_
      rw [if_neg g4, if_neg g4]
      unfold S_DR_says_J42 F_DR_says_J42
      exact v_say2 hl _ _ _ _ _ _ (by decide) (by decide) (by decide) (fun i hi => by have e : (0 : Int32).toNatClampNeg = 0 := rfl; omega)
def Q_DR_read (p : Int32 × Int32 × Int32 × Int64 × Int32 × Int32 × Int32 × Int32 × Int32 × Int32 × Int32 × (Nat → Int32) × (Nat → Int32) × (Nat → Int32) × (Nat → Int32) × (Nat → Int32)) : Prop := gR p.2.2.2.2.2.2.2.2.2.2.2.1 p.2.2.2.2.2.2.2.2.2.2.2.2.1 p.2.2.2.2.2.2.2.2.2.2.2.2.2.1 p.2.2.2.2.2.2.2.2.2.2.2.2.2.2.1
theorem T_DR_read {x2 : Int32} {t0_0 : Int32} {t0_1 : Int32} {t0_2 : Int32} {t0_3 : Int64} {t0_4 : Int32} {t0_5 : Int32} {t0_6 : Int32} {t0_7 : Int32} {t0_8 : Int32} {t0_9 : Int32} {t0_10 : Int32} {t1_0 : (Nat → Int32)} {t2_0 : (Nat → Int32)} {t3_0 : (Nat → Int32)} {t4_0 : (Nat → Int32)} {t5_0 : (Nat → Int32)} {t6_0 : (Nat → Int32)} (hR : gR t2_0 t3_0 t4_0 t5_0)(hl : 0 ≤ t0_1.toInt ∧ t0_1.toInt ≤ 4100) : (S_DR_read x2 t0_0 t0_1 t0_2 t0_3 t0_4 t0_5 t0_6 t0_7 t0_8 t0_9 t0_10 t1_0 t2_0 t3_0 t4_0 t5_0 t6_0) ∧ Q_DR_read (F_DR_read x2 t0_0 t0_1 t0_2 t0_3 t0_4 t0_5 t0_6 t0_7 t0_8 t0_9 t0_10 t1_0 t2_0 t3_0 t4_0 t5_0 t6_0) := by
  have e0 : (0 : Int32).toInt = 0 := rfl
  unfold S_DR_read F_DR_read
  by_cases g1 : ((F_DR_no x2) : Int32) = (0 : Int32)
  ·
    rw [if_pos g1, if_pos g1]
    have g1r := g_no g1
    have h2 := T_DR_says (t0_0 := t0_0) (t0_1 := t0_1) (t0_2 := t0_2) (t0_3 := t0_3) (t0_4 := t0_4) (t0_5 := t0_5) (t0_6 := t0_6) (t0_7 := t0_7) (t0_8 := t0_8) (t0_9 := t0_9) (t0_10 := t0_10) (t1_0 := t1_0) (t2_0 := t6_0) hl
    with_reducible refine v_owe h2.1 ?_
    replace h2 := h2.2
    generalize F_DR_says t0_0 t0_1 t0_2 t0_3 t0_4 t0_5 t0_6 t0_7 t0_8 t0_9 t0_10 t1_0 t6_0 = p219 at *
    unfold Q_DR_says at h2
    obtain ⟨h21, h2g, h22⟩ := h2
    unfold S_DR_read_c13 F_DR_read_c13
    by_cases g3 : (p219.1 : Int32) = (0 : Int32)
    ·
      rw [if_pos g3, if_pos g3]
      unfold S_DR_read_J24 F_DR_read_J24
      have g4 : ¬ ((2 : Int32) = (0 : Int32)) := (by decide)
      rw [if_neg g4, if_neg g4]
      refine ⟨trivial, ?_⟩
      (unfold Q_DR_read; dsimp only; with_reducible assumption)
    ·
      rw [if_neg g3, if_neg g3]
      unfold S_DR_read_J24 F_DR_read_J24
      have g5 : ((0 : Int32) = (0 : Int32)) := (by decide)
      rw [if_pos g5, if_pos g5]
      have h6 := T_DR_store (x2 := x2) (t0_0 := (0 : Int32)) (t0_1 := (p219.2.2.1 : Int32)) (t0_2 := (p219.2.2.2.1 : Int32)) (t0_3 := (p219.2.2.2.2.1 : Int64)) (t0_4 := (p219.2.2.2.2.2.1 : Int32)) (t0_5 := (p219.2.2.2.2.2.2.1 : Int32)) (t0_6 := (p219.2.2.2.2.2.2.2.1 : Int32)) (t0_7 := (p219.2.2.2.2.2.2.2.2.1 : Int32)) (t0_8 := (p219.2.2.2.2.2.2.2.2.2.1 : Int32)) (t0_9 := (p219.2.2.2.2.2.2.2.2.2.2.1 : Int32)) (t0_10 := (3 : Int32)) (t1_0 := t2_0) (t2_0 := t3_0) (t3_0 := t4_0) (t4_0 := t5_0) (t5_0 := (p219.2.2.2.2.2.2.2.2.2.2.2.2 : (Nat → Int32))) (by with_reducible assumption) (by with_reducible assumption) ⟨by first | omega | decide, by first | omega | decide⟩ (by first | with_reducible assumption | exact g_cl (by with_reducible assumption) (by omega) (by omega) | omega | decide)
      with_reducible refine v_owe h6.1 ?_
      replace h6 := h6.2
      generalize F_DR_store x2 (0 : Int32) (p219.2.2.1 : Int32) (p219.2.2.2.1 : Int32) (p219.2.2.2.2.1 : Int64) (p219.2.2.2.2.2.1 : Int32) (p219.2.2.2.2.2.2.1 : Int32) (p219.2.2.2.2.2.2.2.1 : Int32) (p219.2.2.2.2.2.2.2.2.1 : Int32) (p219.2.2.2.2.2.2.2.2.2.1 : Int32) (p219.2.2.2.2.2.2.2.2.2.2.1 : Int32) (3 : Int32) t2_0 t3_0 t4_0 t5_0 (p219.2.2.2.2.2.2.2.2.2.2.2.2 : (Nat → Int32)) = p145 at *
      unfold Q_DR_store at h6
      unfold S_DR_read_c41 F_DR_read_c41
      by_cases g7 : (p145.1 : Int32) = (0 : Int32)
      ·
        rw [if_pos g7, if_pos g7]
        refine ⟨trivial, ?_⟩
        (unfold Q_DR_read; dsimp only; with_reducible assumption)
      ·
        rw [if_neg g7, if_neg g7]
        refine ⟨trivial, ?_⟩
        (unfold Q_DR_read; dsimp only; with_reducible assumption)
  ·
    rw [if_neg g1, if_neg g1]
    unfold S_DR_read_J24 F_DR_read_J24
    have g8 : ¬ ((1 : Int32) = (0 : Int32)) := (by decide)
    rw [if_neg g8, if_neg g8]
    refine ⟨trivial, ?_⟩
    (unfold Q_DR_read; dsimp only; with_reducible assumption)
theorem g_r10 {x : Int64} : -9 ≤ (x - x / 10 * 10 : Int64).toInt ∧ (x - x / 10 * 10 : Int64).toInt ≤ 9 := by
  have d := n_divL (a := x) (b := 10) (n := 10) rfl (by decide)
  have l1 := Int64.le_toInt x
  have l2 := Int64.toInt_lt x
  have e1 : (x / 10 * 10 : Int64).toInt = (x / 10).toInt * 10 := q_mulL (y := 10) rfl (by decide) (by omega) (by omega)
  have e2 : (x - x / 10 * 10 : Int64).toInt = x.toInt - (x / 10).toInt * 10 := q_subL rfl e1 (by omega) (by omega)
  omega
theorem g_putA {x : Int64} (h : (0 : Int64).toInt ≤ (x - x / 10 * 10 : Int64).toInt) : 0 ≤ ((x - x / 10 * 10 : Int64).toInt32).toInt ∧ ((x - x / 10 * 10 : Int64).toInt32).toInt ≤ 9 := by
  have h1 := g_r10 (x := x)
  have e : (0 : Int64).toInt = 0 := rfl
  rw [s_l2i (by omega) (by omega)]
  omega
theorem g_putB {x : Int64} (h : (x - x / 10 * 10 : Int64).toInt < (0 : Int64).toInt) : 0 ≤ ((-(x - x / 10 * 10) : Int64).toInt32).toInt ∧ ((-(x - x / 10 * 10) : Int64).toInt32).toInt ≤ 9 := by
  have h1 := g_r10 (x := x)
  have e : (0 : Int64).toInt = 0 := rfl
  have e2 := w_negL (a := x - x / 10 * 10) rfl (by omega)
  rw [s_l2i (by omega) (by omega), e2]
  omega
theorem g_putU {f : Nat → Int32} {k k1 c : Int32} (hk : 0 ≤ k.toInt) (h1 : k1.toInt = k.toInt + (-1)) (h : ∀ i : Nat, k.toInt < i → i < 19 → 0 ≤ (f i).toInt ∧ (f i).toInt ≤ 9) (hc : 0 ≤ c.toInt ∧ c.toInt ≤ 9) : ∀ i : Nat, k1.toInt < i → i < 19 → 0 ≤ (upd f k.toNatClampNeg c i).toInt ∧ (upd f k.toNatClampNeg c i).toInt ≤ 9 := fun i hi hj => by
  have e1 := q_clI (i := k) rfl hk
  by_cases e : i = k.toNatClampNeg
  · rw [e, v_eq]; exact hc
  · rw [v_ne e]; exact h i (by omega) hj
def Q_DR_put (p : Int32 × Int32 × Int32 × Int64 × Int32 × Int32 × Int32 × Int32 × Int32 × Int32 × Int32 × (Nat → Int32) × (Nat → Int32) × (Nat → Int32) × (Nat → Int32) × (Nat → Int32)) : Prop := gR p.2.2.2.2.2.2.2.2.2.2.2.1 p.2.2.2.2.2.2.2.2.2.2.2.2.1 p.2.2.2.2.2.2.2.2.2.2.2.2.2.1 p.2.2.2.2.2.2.2.2.2.2.2.2.2.2.1
theorem v_put {x2 : Int32} {x3 : Int64} {x4 : Int32} {t0_0 : Int32} {t0_1 : Int32} {t0_2 : Int32} {t0_3 : Int64} {t0_4 : Int32} {t0_5 : Int32} {t0_6 : Int32} {t0_7 : Int32} {t0_8 : Int32} {t0_9 : Int32} {t0_10 : Int32} {t1_0 : (Nat → Int32)} {t2_0 : (Nat → Int32)} {t3_0 : (Nat → Int32)} {t4_0 : (Nat → Int32)} {t5_0 : (Nat → Int32)} {lx39 : Int32} {lx63 : Int32} {j82 : Int64} (hR : gR t1_0 t2_0 t3_0 t4_0)(hx : 0 ≤ x2.toInt ∧ x2.toInt ≤ 9) : ∀ (n : Nat) (lx91 : Int32) (lx92 : Int64) (lx93 : (Nat → Int32)), (-1 ≤ lx91.toInt ∧ lx91.toInt ≤ 18) → (lx91.toInt + 1 < (n : Int)) → (∀ i : Nat, lx91.toInt < i → i < 19 → 0 ≤ (lx93 i).toInt ∧ (lx93 i).toInt ≤ 9) → (S_DR_put_L69 x2 x3 x4 t0_0 t0_1 t0_2 t0_3 t0_4 t0_5 t0_6 t0_7 t0_8 t0_9 t0_10 t1_0 t2_0 t3_0 t4_0 t5_0 lx39 lx63 j82 n lx91 lx92 lx93) ∧ Q_DR_put (F_DR_put_L69 x2 x3 x4 t0_0 t0_1 t0_2 t0_3 t0_4 t0_5 t0_6 t0_7 t0_8 t0_9 t0_10 t1_0 t2_0 t3_0 t4_0 t5_0 lx39 lx63 j82 n lx91 lx92 lx93) := by
  intro n
  induction n with
  | zero => intro lx91 lx92 lx93 h0 hm ho; exact absurd (show False by omega) id
  | succ n ih =>
    intro lx91 lx92 lx93 h0 hm ho
    have e0 : (0 : Int32).toInt = 0 := rfl
    have eL0 : (0 : Int64).toInt = 0 := rfl
    have eL1 : (10000 : Int64).toInt = 10000 := rfl
    have eL2 : (-10000 : Int64).toInt = -10000 := rfl
    have eL3 : (1000 : Int64).toInt = 1000 := rfl
    have eL4 : (-1 : Int64).toInt = -1 := rfl
    have eI3 : (1000 : Int32).toInt = 1000 := rfl
    rw [S_DR_put_L69.eq_2, F_DR_put_L69.eq_2]
    by_cases g1 : lx91 < (0 : Int32)
    ·
      rw [if_pos g1, if_pos g1]
      have g1i : lx91.toInt < 0 := q_ltI g1
      have h2 := T_DR_store (x2 := x2) (t0_0 := lx39) (t0_1 := t0_1) (t0_2 := (19 : Int32)) (t0_3 := j82) (t0_4 := (0 : Int32)) (t0_5 := lx63) (t0_6 := t0_6) (t0_7 := t0_7) (t0_8 := t0_8) (t0_9 := t0_9) (t0_10 := (2 : Int32)) (t1_0 := t1_0) (t2_0 := t2_0) (t3_0 := t3_0) (t4_0 := t4_0) (t5_0 := lx93) (by with_reducible assumption) (by with_reducible assumption) (by decide) (fun i hi => ho i (by omega) hi)
      with_reducible refine v_owe h2.1 ?_
      replace h2 := h2.2
      generalize F_DR_store x2 lx39 t0_1 (19 : Int32) j82 (0 : Int32) lx63 t0_6 t0_7 t0_8 t0_9 (2 : Int32) t1_0 t2_0 t3_0 t4_0 lx93 = p160 at *
      unfold Q_DR_store at h2
      unfold S_DR_put_c121 F_DR_put_c121
      refine ⟨trivial, ?_⟩
      (unfold Q_DR_put; dsimp only; with_reducible assumption)
    ·
      rw [if_neg g1, if_neg g1]
      have g1i : 0 ≤ lx91.toInt := q_nltI g1
      by_cases g3 : (0 : Int32) ≤ (lg_cmp (lx92 - lx92 / 10 * 10 : Int64) 0 : Int32)
      ·
        rw [if_pos g3, if_pos g3]
        have g3l := g_lc5 g3
        obtain ⟨a4, e5⟩ := q_nm (lx91 + (-1) : Int32)
        rw [e5]
        have a4i : a4.toInt = lx91.toInt + (-1) := by rw [← e5]; exact q_addI (x := lx91.toInt) (y := (-1)) rfl (by decide) (by omega) (by omega)
        exact ih _ _ _ ⟨by omega, by omega⟩ (by omega) (g_putU (by omega) a4i ho (g_putA (by with_reducible assumption)))
      ·
        rw [if_neg g3, if_neg g3]
        have g3l := g_lc6 g3
        obtain ⟨a6, e7⟩ := q_nm (lx91 + (-1) : Int32)
        rw [e7]
        have a6i : a6.toInt = lx91.toInt + (-1) := by rw [← e7]; exact q_addI (x := lx91.toInt) (y := (-1)) rfl (by decide) (by omega) (by omega)
        exact ih _ _ _ ⟨by omega, by omega⟩ (by omega) (g_putU (by omega) a6i ho (g_putB (by with_reducible assumption)))
theorem T_DR_put {x2 : Int32} {x3 : Int64} {x4 : Int32} {t0_0 : Int32} {t0_1 : Int32} {t0_2 : Int32} {t0_3 : Int64} {t0_4 : Int32} {t0_5 : Int32} {t0_6 : Int32} {t0_7 : Int32} {t0_8 : Int32} {t0_9 : Int32} {t0_10 : Int32} {t1_0 : (Nat → Int32)} {t2_0 : (Nat → Int32)} {t3_0 : (Nat → Int32)} {t4_0 : (Nat → Int32)} {t5_0 : (Nat → Int32)} (hR : gR t1_0 t2_0 t3_0 t4_0) : (S_DR_put x2 x3 x4 t0_0 t0_1 t0_2 t0_3 t0_4 t0_5 t0_6 t0_7 t0_8 t0_9 t0_10 t1_0 t2_0 t3_0 t4_0 t5_0) ∧ Q_DR_put (F_DR_put x2 x3 x4 t0_0 t0_1 t0_2 t0_3 t0_4 t0_5 t0_6 t0_7 t0_8 t0_9 t0_10 t1_0 t2_0 t3_0 t4_0 t5_0) := by
  have e0 : (0 : Int32).toInt = 0 := rfl
  have eL0 : (0 : Int64).toInt = 0 := rfl
  have eL1 : (10000 : Int64).toInt = 10000 := rfl
  have eL2 : (-10000 : Int64).toInt = -10000 := rfl
  have eL3 : (1000 : Int64).toInt = 1000 := rfl
  have eL4 : (-1 : Int64).toInt = -1 := rfl
  have eI3 : (1000 : Int32).toInt = 1000 := rfl
  unfold S_DR_put F_DR_put
  by_cases g1 : ((F_DR_no x2) : Int32) = (0 : Int32)
  ·
    rw [if_pos g1, if_pos g1]
    have g1r := g_no g1
    unfold S_DR_put_J13 F_DR_put_J13
    have g2 : ((0 : Int32) ≤ (0 : Int32)) := (by decide)
    rw [if_pos g2, if_pos g2]
    by_cases g3 : (0 : Int32) ≤ (lg_cmp x3 0 : Int32)
    ·
      rw [if_pos g3, if_pos g3]
      have g3l := g_lc5 g3
      unfold S_DR_put_J41 F_DR_put_J41
      exact v_put hR (by with_reducible assumption) _ _ _ _ (by decide) (by decide) (fun i hi hj => by have e : (18 : Int32).toInt = 18 := rfl; omega)
    ·
      rw [if_neg g3, if_neg g3]
      have g3l := g_lc6 g3
      unfold S_DR_put_J41 F_DR_put_J41
      exact v_put hR (by with_reducible assumption) _ _ _ _ (by decide) (by decide) (fun i hi hj => by have e : (18 : Int32).toInt = 18 := rfl; omega)
  ·
    rw [if_neg g1, if_neg g1]
    unfold S_DR_put_J13 F_DR_put_J13
    have g4 : ¬ ((1 : Int32) ≤ (0 : Int32)) := (by decide)
    rw [if_neg g4, if_neg g4]
    refine ⟨trivial, ?_⟩
    (unfold Q_DR_put; dsimp only; with_reducible assumption)
theorem R_dz {x2 : Int32} {t0_0 : Int32} {t0_1 : Int32} {t0_2 : Int32} {t0_3 : Int64} {t0_4 : Int32} {t0_5 : Int32} {t0_6 : Int32} {t0_7 : Int32} {t0_8 : Int32} {t0_9 : Int32} {t0_10 : Int32} {t1_0 : (Nat → Int32)} (hx : 0 ≤ x2.toInt ∧ x2.toInt ≤ 9) : S_DR_isZero x2 t0_0 t0_1 t0_2 t0_3 t0_4 t0_5 t0_6 t0_7 t0_8 t0_9 t0_10 t1_0 ∧ (F_DR_isZero x2 t0_0 t0_1 t0_2 t0_3 t0_4 t0_5 t0_6 t0_7 t0_8 t0_9 t0_10 t1_0 = 0 → t1_0 (1000 * x2 : Int32).toNatClampNeg ≠ 0) := by
  have e := g_i0 hx
  unfold S_DR_isZero F_DR_isZero
  refine ⟨⟨by omega, by omega, ?_⟩, fun h hz => ?_⟩
  · split <;> trivial
  · rw [if_pos hz] at h; exact absurd h (by decide)
theorem g_tol {x2 x3 : Int32} (hx : 0 ≤ x2.toInt ∧ x2.toInt ≤ 9) (h : 3 ≤ x3.toInt ∧ x3.toInt ≤ 1002) : (((1000 * x2) + x3) - 3 : Int32).toInt = 1000 * x2.toInt + x3.toInt - 3 := by
  have e1 := g_i0 hx
  have e2 : ((1000 * x2) + x3 : Int32).toInt = 1000 * x2.toInt + x3.toInt := q_addI e1 rfl (by omega) (by omega)
  exact q_subI (y := 3) e2 (by decide) (by omega) (by omega)
theorem g_t3 {x : Int32} (h : 0 ≤ x.toInt) {m : Int32} (hm : m.toInt ≤ 1000) (hl : (x - 3 : Int32) < m) : x.toInt ≤ 1002 := by
  have e : (x - 3 : Int32).toInt = x.toInt - 3 := q_subI (y := 3) rfl (by decide) (by omega) (by have := Int32.toInt_lt x; omega)
  have := q_ltI hl
  omega
theorem T_DR_told {x2 : Int32} {x3 : Int32} {t0_0 : Int32} {t0_1 : Int32} {t0_2 : Int32} {t0_3 : Int64} {t0_4 : Int32} {t0_5 : Int32} {t0_6 : Int32} {t0_7 : Int32} {t0_8 : Int32} {t0_9 : Int32} {t0_10 : Int32} {t1_0 : (Nat → Int32)} {t2_0 : (Nat → Int32)} {t3_0 : (Nat → Int32)} {t4_0 : (Nat → Int32)} (hR : gR t1_0 t2_0 t3_0 t4_0) : (S_DR_told x2 x3 t0_0 t0_1 t0_2 t0_3 t0_4 t0_5 t0_6 t0_7 t0_8 t0_9 t0_10 t1_0 t2_0 t3_0 t4_0) := by
  have e0 : (0 : Int32).toInt = 0 := rfl
  have eL0 : (0 : Int64).toInt = 0 := rfl
  have eL1 : (10000 : Int64).toInt = 10000 := rfl
  have eL2 : (-10000 : Int64).toInt = -10000 := rfl
  have eL3 : (1000 : Int64).toInt = 1000 := rfl
  have eL4 : (-1 : Int64).toInt = -1 := rfl
  have eI3 : (1000 : Int32).toInt = 1000 := rfl
  have i1 : (1 : Int32).toInt = 1 := rfl
  have i2 : (2 : Int32).toInt = 2 := rfl
  unfold S_DR_told
  by_cases g1 : ((F_DR_no x2) : Int32) = (0 : Int32)
  ·
    rw [if_pos g1]
    have g1r := g_no g1
    by_cases g2 : x3 < (0 : Int32)
    ·
      rw [if_pos g2]
      have g2i : x3.toInt < 0 := q_ltI g2
      unfold S_DR_told_J28
      unfold S_DR_told_J33
      have g3 : ¬ ((2 : Int32) ≤ (0 : Int32)) := (by decide)
      rw [if_neg g3]
      exact trivial
    ·
      rw [if_neg g2]
      have g2i : 0 ≤ x3.toInt := q_nltI g2
      refine And.intro (by omega) ?_
      refine And.intro (by omega) ?_
      by_cases g4 : (x3 - 3 : Int32) < (t2_0 x2.toNatClampNeg : Int32)
      ·
        rw [if_pos g4]
        have g4t := g_t3 (by omega) (gR.at hR (by with_reducible assumption)).1.2 g4
        unfold S_DR_told_J33
        have g5 : ((0 : Int32) ≤ (0 : Int32)) := (by decide)
        rw [if_pos g5]
        by_cases g6 : x3 = (0 : Int32)
        ·
          rw [if_pos g6]
          have g6i : x3.toInt = 0 := q_eqI g6
          have h7 := R_dz (x2 := x2) (t0_0 := (0 : Int32)) (t0_1 := t0_1) (t0_2 := t0_2) (t0_3 := t0_3) (t0_4 := t0_4) (t0_5 := t0_5) (t0_6 := t0_6) (t0_7 := t0_7) (t0_8 := t0_8) (t0_9 := t0_9) (t0_10 := t0_10) (t1_0 := t1_0) (by with_reducible assumption)
          have h7z := h7.2
          with_reducible refine v_oweS h7.1 ?_
          by_cases g8 : ((F_DR_isZero x2 (0 : Int32) t0_1 t0_2 t0_3 t0_4 t0_5 t0_6 t0_7 t0_8 t0_9 t0_10 t1_0) : Int32) = (0 : Int32)
          ·
            rw [if_pos g8]
            refine And.intro (by omega) ?_
            refine And.intro (by omega) ?_
            by_cases g9 : (t3_0 x2.toNatClampNeg : Int32) = (0 : Int32)
            ·
              rw [if_pos g9]
              exact trivial
            ·
              rw [if_neg g9]
              exact trivial
          ·
            rw [if_neg g8]
            exact trivial
        ·
          rw [if_neg g6]
          have g6i : x3.toInt ≠ 0 := q_neI g6
          by_cases g10 : x3 = (1 : Int32)
          ·
            rw [if_pos g10]
            have g10i : x3.toInt = 1 := q_eqI g10
            refine And.intro (by omega) ?_
            refine And.intro (by omega) ?_
            exact trivial
          ·
            rw [if_neg g10]
            have g10i : x3.toInt ≠ 1 := q_neI g10
            by_cases g11 : x3 = (2 : Int32)
            ·
              rw [if_pos g11]
              have g11i : x3.toInt = 2 := q_eqI g11
              refine And.intro (by omega) ?_
              refine And.intro (by omega) ?_
              exact trivial
            ·
              rw [if_neg g11]
              have g11i : x3.toInt ≠ 2 := q_neI g11
              refine And.intro (by have := g_tol (x2 := x2) (x3 := x3) (by with_reducible assumption) ⟨by omega, by omega⟩; omega) ?_
              refine And.intro (by have := g_tol (x2 := x2) (x3 := x3) (by with_reducible assumption) ⟨by omega, by omega⟩; omega) ?_
              exact trivial
      ·
        rw [if_neg g4]
        unfold S_DR_told_J28
        unfold S_DR_told_J33
        have g12 : ¬ ((2 : Int32) ≤ (0 : Int32)) := (by decide)
        rw [if_neg g12]
        exact trivial
  ·
    rw [if_neg g1]
    unfold S_DR_told_J33
    have g13 : ¬ ((1 : Int32) ≤ (0 : Int32)) := (by decide)
    rw [if_neg g13]
    exact trivial
theorem v_cs {x2 : Int32} {x3 : Int32} {t0_0 : Int32} {t0_1 : Int32} {t0_2 : Int32} {t0_3 : Int64} {t0_4 : Int32} {t0_5 : Int32} {t0_6 : Int32} {t0_7 : Int32} {t0_8 : Int32} {t0_9 : Int32} {t0_10 : Int32} {t1_0 : (Nat → Int32)} {t2_0 : (Nat → Int32)} {t3_0 : (Nat → Int32)} (hR : ∀ i : Nat, i < 10 → (1 ≤ (t2_0 i).toInt ∧ (t2_0 i).toInt ≤ 1000))(hx2 : 0 ≤ x2.toInt ∧ x2.toInt ≤ 9)(hx3 : 0 ≤ x3.toInt ∧ x3.toInt ≤ 9) : ∀ (n : Nat) (lx62 : Int32), (0 ≤ lx62.toInt ∧ lx62.toInt ≤ 1000) → (1001 - lx62.toInt < (n : Int)) → (S_DR_compareSizes_L56 x2 x3 t0_0 t0_1 t0_2 t0_3 t0_4 t0_5 t0_6 t0_7 t0_8 t0_9 t0_10 t1_0 t2_0 t3_0 n lx62) := by
  intro n
  induction n with
  | zero => intro lx62 h0 hm; exact absurd (show False by omega) id
  | succ n ih =>
    intro lx62 h0 hm
    have m2 := hR x2.toNatClampNeg (by have := q_clI (i := x2) rfl hx2.1; omega)
    have m3 := hR x3.toNatClampNeg (by have := q_clI (i := x3) rfl hx3.1; omega)
    rw [S_DR_compareSizes_L56.eq_2]
    by_cases g1 : lx62 < (t2_0 x2.toNatClampNeg : Int32)
    ·
      rw [if_pos g1]
      have g1i := q_ltI g1
      unfold S_DR_compareSizes_J78
      by_cases g2 : (t2_0 x2.toNatClampNeg : Int32) ≤ lx62
      ·
        rw [if_pos g2]
        have g2i := q_leI g2
        unfold S_DR_compareSizes_J106
        by_cases g3 : (t2_0 x3.toNatClampNeg : Int32) ≤ lx62
        ·
          rw [if_pos g3]
          have g3i := q_leI g3
          unfold S_DR_compareSizes_J136
          have g4 : ((0 : Int32) = (0 : Int32)) := (by decide)
          rw [if_pos g4]
          obtain ⟨a5, e6⟩ := q_nm (lx62 + 1 : Int32)
          rw [e6]
          have a5i : a5.toInt = lx62.toInt + 1 := by rw [← e6]; exact q_addI (x := lx62.toInt) (y := 1) rfl (by decide) (by omega) (by omega)
          exact ih _ (by first | with_reducible assumption | omega | decide) (by first | with_reducible assumption | omega | decide)
        ·
          rw [if_neg g3]
          have g3i := q_nleI g3
          refine And.intro (by have := (g_ix (x := x3) (k := lx62) (by with_reducible assumption) ⟨by omega, by omega⟩).1; omega) ?_
          refine And.intro (by have := (g_ix (x := x3) (k := lx62) (by with_reducible assumption) ⟨by omega, by omega⟩).1; omega) ?_
          unfold S_DR_compareSizes_J136
          by_cases g7 : (0 : Int32) = (t1_0 ((1000 * x3 : Int32) + lx62 : Int32).toNatClampNeg : Int32)
          ·
            rw [if_pos g7]
            obtain ⟨a8, e9⟩ := q_nm (lx62 + 1 : Int32)
            rw [e9]
            have a8i : a8.toInt = lx62.toInt + 1 := by rw [← e9]; exact q_addI (x := lx62.toInt) (y := 1) rfl (by decide) (by omega) (by omega)
            exact ih _ (by first | with_reducible assumption | omega | decide) (by first | with_reducible assumption | omega | decide)
          ·
            rw [if_neg g7]
            by_cases g10 : (t1_0 ((1000 * x3 : Int32) + lx62 : Int32).toNatClampNeg : Int32) ≤ (0 : Int32)
            ·
              rw [if_pos g10]
              exact trivial
            ·
              rw [if_neg g10]
              exact trivial
      ·
        rw [if_neg g2]
        have g2i := q_nleI g2
        refine And.intro (by have := (g_ix (x := x2) (k := lx62) (by with_reducible assumption) ⟨by omega, by omega⟩).1; omega) ?_
        refine And.intro (by have := (g_ix (x := x2) (k := lx62) (by with_reducible assumption) ⟨by omega, by omega⟩).1; omega) ?_
        unfold S_DR_compareSizes_J106
        by_cases g11 : (t2_0 x3.toNatClampNeg : Int32) ≤ lx62
        ·
          rw [if_pos g11]
          have g11i := q_leI g11
          unfold S_DR_compareSizes_J136
          by_cases g12 : (t1_0 ((1000 * x2 : Int32) + lx62 : Int32).toNatClampNeg : Int32) = (0 : Int32)
          ·
            rw [if_pos g12]
            obtain ⟨a13, e14⟩ := q_nm (lx62 + 1 : Int32)
            rw [e14]
            have a13i : a13.toInt = lx62.toInt + 1 := by rw [← e14]; exact q_addI (x := lx62.toInt) (y := 1) rfl (by decide) (by omega) (by omega)
            exact ih _ (by first | with_reducible assumption | omega | decide) (by first | with_reducible assumption | omega | decide)
          ·
            rw [if_neg g12]
            by_cases g15 : (0 : Int32) ≤ (t1_0 ((1000 * x2 : Int32) + lx62 : Int32).toNatClampNeg : Int32)
            ·
              rw [if_pos g15]
              exact trivial
            ·
              rw [if_neg g15]
              exact trivial
        ·
          rw [if_neg g11]
          have g11i := q_nleI g11
          refine And.intro (by have := (g_ix (x := x3) (k := lx62) (by with_reducible assumption) ⟨by omega, by omega⟩).1; omega) ?_
          refine And.intro (by have := (g_ix (x := x3) (k := lx62) (by with_reducible assumption) ⟨by omega, by omega⟩).1; omega) ?_
          unfold S_DR_compareSizes_J136
          by_cases g16 : (t1_0 ((1000 * x2 : Int32) + lx62 : Int32).toNatClampNeg : Int32) = (t1_0 ((1000 * x3 : Int32) + lx62 : Int32).toNatClampNeg : Int32)
          ·
            rw [if_pos g16]
            obtain ⟨a17, e18⟩ := q_nm (lx62 + 1 : Int32)
            rw [e18]
            have a17i : a17.toInt = lx62.toInt + 1 := by rw [← e18]; exact q_addI (x := lx62.toInt) (y := 1) rfl (by decide) (by omega) (by omega)
            exact ih _ (by first | with_reducible assumption | omega | decide) (by first | with_reducible assumption | omega | decide)
          ·
            rw [if_neg g16]
            by_cases g19 : (t1_0 ((1000 * x3 : Int32) + lx62 : Int32).toNatClampNeg : Int32) ≤ (t1_0 ((1000 * x2 : Int32) + lx62 : Int32).toNatClampNeg : Int32)
            ·
              rw [if_pos g19]
              exact trivial
            ·
              rw [if_neg g19]
              exact trivial
    ·
      rw [if_neg g1]
      have g1i := q_nltI g1
      by_cases g20 : (t2_0 x3.toNatClampNeg : Int32) ≤ lx62
      ·
        rw [if_pos g20]
        have g20i := q_leI g20
        exact trivial
      ·
        rw [if_neg g20]
        have g20i := q_nleI g20
        unfold S_DR_compareSizes_J78
        by_cases g21 : (t2_0 x2.toNatClampNeg : Int32) ≤ lx62
        ·
          rw [if_pos g21]
          have g21i := q_leI g21
          unfold S_DR_compareSizes_J106
          rw [if_neg g20]
          refine And.intro (by have := (g_ix (x := x3) (k := lx62) (by with_reducible assumption) ⟨by omega, by omega⟩).1; omega) ?_
          refine And.intro (by have := (g_ix (x := x3) (k := lx62) (by with_reducible assumption) ⟨by omega, by omega⟩).1; omega) ?_
          unfold S_DR_compareSizes_J136
          by_cases g22 : (0 : Int32) = (t1_0 ((1000 * x3 : Int32) + lx62 : Int32).toNatClampNeg : Int32)
          ·
            rw [if_pos g22]
            obtain ⟨a23, e24⟩ := q_nm (lx62 + 1 : Int32)
            rw [e24]
            have a23i : a23.toInt = lx62.toInt + 1 := by rw [← e24]; exact q_addI (x := lx62.toInt) (y := 1) rfl (by decide) (by omega) (by omega)
            exact ih _ (by first | with_reducible assumption | omega | decide) (by first | with_reducible assumption | omega | decide)
          ·
            rw [if_neg g22]
            by_cases g25 : (t1_0 ((1000 * x3 : Int32) + lx62 : Int32).toNatClampNeg : Int32) ≤ (0 : Int32)
            ·
              rw [if_pos g25]
              exact trivial
            ·
              rw [if_neg g25]
              exact trivial
        ·
          rw [if_neg g21]
          have g21i := q_nleI g21
          refine And.intro (by have := (g_ix (x := x2) (k := lx62) (by with_reducible assumption) ⟨by omega, by omega⟩).1; omega) ?_
          refine And.intro (by have := (g_ix (x := x2) (k := lx62) (by with_reducible assumption) ⟨by omega, by omega⟩).1; omega) ?_
          unfold S_DR_compareSizes_J106
          rw [if_neg g20]
          refine And.intro (by have := (g_ix (x := x3) (k := lx62) (by with_reducible assumption) ⟨by omega, by omega⟩).1; omega) ?_
          refine And.intro (by have := (g_ix (x := x3) (k := lx62) (by with_reducible assumption) ⟨by omega, by omega⟩).1; omega) ?_
          unfold S_DR_compareSizes_J136
          by_cases g26 : (t1_0 ((1000 * x2 : Int32) + lx62 : Int32).toNatClampNeg : Int32) = (t1_0 ((1000 * x3 : Int32) + lx62 : Int32).toNatClampNeg : Int32)
          ·
            rw [if_pos g26]
            obtain ⟨a27, e28⟩ := q_nm (lx62 + 1 : Int32)
            rw [e28]
            have a27i : a27.toInt = lx62.toInt + 1 := by rw [← e28]; exact q_addI (x := lx62.toInt) (y := 1) rfl (by decide) (by omega) (by omega)
            exact ih _ (by first | with_reducible assumption | omega | decide) (by first | with_reducible assumption | omega | decide)
          ·
            rw [if_neg g26]
            by_cases g29 : (t1_0 ((1000 * x3 : Int32) + lx62 : Int32).toNatClampNeg : Int32) ≤ (t1_0 ((1000 * x2 : Int32) + lx62 : Int32).toNatClampNeg : Int32)
            ·
              rw [if_pos g29]
              exact trivial
            ·
              rw [if_neg g29]
              exact trivial
theorem T_DR_compareSizes {x2 : Int32} {x3 : Int32} {t0_0 : Int32} {t0_1 : Int32} {t0_2 : Int32} {t0_3 : Int64} {t0_4 : Int32} {t0_5 : Int32} {t0_6 : Int32} {t0_7 : Int32} {t0_8 : Int32} {t0_9 : Int32} {t0_10 : Int32} {t1_0 : (Nat → Int32)} {t2_0 : (Nat → Int32)} {t3_0 : (Nat → Int32)} (hR : ∀ i : Nat, i < 10 → (1 ≤ (t2_0 i).toInt ∧ (t2_0 i).toInt ≤ 1000))(hx2 : 0 ≤ x2.toInt ∧ x2.toInt ≤ 9)(hx3 : 0 ≤ x3.toInt ∧ x3.toInt ≤ 9) : (S_DR_compareSizes x2 x3 t0_0 t0_1 t0_2 t0_3 t0_4 t0_5 t0_6 t0_7 t0_8 t0_9 t0_10 t1_0 t2_0 t3_0) := by
  have e0 : (0 : Int32).toInt = 0 := rfl
  have eL0 : (0 : Int64).toInt = 0 := rfl
  have eL1 : (10000 : Int64).toInt = 10000 := rfl
  have eL2 : (-10000 : Int64).toInt = -10000 := rfl
  have eL3 : (1000 : Int64).toInt = 1000 := rfl
  have eL4 : (-1 : Int64).toInt = -1 := rfl
  have eI3 : (1000 : Int32).toInt = 1000 := rfl
  unfold S_DR_compareSizes
  refine And.intro (by omega) ?_
  refine And.intro (by omega) ?_
  refine And.intro (by omega) ?_
  refine And.intro (by omega) ?_
  by_cases g1 : (lg_cmp (((t2_0 x2.toNatClampNeg : Int32).toInt64 : Int64) - ((t3_0 x2.toNatClampNeg : Int32).toInt64 : Int64) : Int64) (((t2_0 x3.toNatClampNeg : Int32).toInt64 : Int64) - ((t3_0 x3.toNatClampNeg : Int32).toInt64 : Int64) : Int64) : Int32) = (0 : Int32)
  ·
    rw [if_pos g1]
    exact v_cs hR hx2 hx3 _ _ (by decide) (by decide)
  ·
    rw [if_neg g1]
    by_cases g2 : (0 : Int32) ≤ (lg_cmp (((t2_0 x2.toNatClampNeg : Int32).toInt64 : Int64) - ((t3_0 x2.toNatClampNeg : Int32).toInt64 : Int64) : Int64) (((t2_0 x3.toNatClampNeg : Int32).toInt64 : Int64) - ((t3_0 x3.toNatClampNeg : Int32).toInt64 : Int64) : Int64) : Int32)
    ·
      rw [if_pos g2]
      exact trivial
    ·
      rw [if_neg g2]
      exact trivial
theorem T_DR_compare {x2 : Int32} {x3 : Int32} {t0_0 : Int32} {t0_1 : Int32} {t0_2 : Int32} {t0_3 : Int64} {t0_4 : Int32} {t0_5 : Int32} {t0_6 : Int32} {t0_7 : Int32} {t0_8 : Int32} {t0_9 : Int32} {t0_10 : Int32} {t1_0 : (Nat → Int32)} {t2_0 : (Nat → Int32)} {t3_0 : (Nat → Int32)} {t4_0 : (Nat → Int32)} (hR : gR t1_0 t2_0 t3_0 t4_0) : (S_DR_compare x2 x3 t0_0 t0_1 t0_2 t0_3 t0_4 t0_5 t0_6 t0_7 t0_8 t0_9 t0_10 t1_0 t2_0 t3_0 t4_0) := by
  have e0 : (0 : Int32).toInt = 0 := rfl
  have eL0 : (0 : Int64).toInt = 0 := rfl
  have eL1 : (10000 : Int64).toInt = 10000 := rfl
  have eL2 : (-10000 : Int64).toInt = -10000 := rfl
  have eL3 : (1000 : Int64).toInt = 1000 := rfl
  have eL4 : (-1 : Int64).toInt = -1 := rfl
  have eI3 : (1000 : Int32).toInt = 1000 := rfl
  unfold S_DR_compare
  by_cases g1 : ((F_DR_no x2) : Int32) = (0 : Int32)
  ·
    rw [if_pos g1]
    have g1r := g_no g1
    by_cases g2 : ((F_DR_no x3) : Int32) = (0 : Int32)
    ·
      rw [if_pos g2]
      have g2r := g_no g2
      unfold S_DR_compare_J20
      have g3 : ((0 : Int32) ≤ (0 : Int32)) := (by decide)
      rw [if_pos g3]
      have h4 := R_dz (x2 := x2) (t0_0 := (0 : Int32)) (t0_1 := t0_1) (t0_2 := t0_2) (t0_3 := t0_3) (t0_4 := t0_4) (t0_5 := t0_5) (t0_6 := t0_6) (t0_7 := t0_7) (t0_8 := t0_8) (t0_9 := t0_9) (t0_10 := t0_10) (t1_0 := t1_0) (by with_reducible assumption)
      have h4z := h4.2
      with_reducible refine v_oweS h4.1 ?_
      by_cases g5 : ((F_DR_isZero x2 (0 : Int32) t0_1 t0_2 t0_3 t0_4 t0_5 t0_6 t0_7 t0_8 t0_9 t0_10 t1_0) : Int32) = (0 : Int32)
      ·
        rw [if_pos g5]
        refine And.intro (by omega) ?_
        refine And.intro (by omega) ?_
        by_cases g6 : (t3_0 x2.toNatClampNeg : Int32) = (0 : Int32)
        ·
          rw [if_pos g6]
          unfold S_DR_compare_J58
          have h7 := R_dz (x2 := x3) (t0_0 := (0 : Int32)) (t0_1 := t0_1) (t0_2 := t0_2) (t0_3 := t0_3) (t0_4 := t0_4) (t0_5 := t0_5) (t0_6 := t0_6) (t0_7 := t0_7) (t0_8 := t0_8) (t0_9 := t0_9) (t0_10 := t0_10) (t1_0 := t1_0) (by with_reducible assumption)
          have h7z := h7.2
          with_reducible refine v_oweS h7.1 ?_
          by_cases g8 : ((F_DR_isZero x3 (0 : Int32) t0_1 t0_2 t0_3 t0_4 t0_5 t0_6 t0_7 t0_8 t0_9 t0_10 t1_0) : Int32) = (0 : Int32)
          ·
            rw [if_pos g8]
            refine And.intro (by omega) ?_
            refine And.intro (by omega) ?_
            by_cases g9 : (t3_0 x3.toNatClampNeg : Int32) = (0 : Int32)
            ·
              rw [if_pos g9]
              unfold S_DR_compare_J85
              have g10 : ((1 : Int32) = (1 : Int32)) := (by decide)
              rw [if_pos g10]
              have g11 : ¬ ((1 : Int32) = (0 : Int32)) := (by decide)
              rw [if_neg g11]
              have h12 := T_DR_compareSizes (x2 := x2) (x3 := x3) (t0_0 := (0 : Int32)) (t0_1 := t0_1) (t0_2 := t0_2) (t0_3 := t0_3) (t0_4 := t0_4) (t0_5 := t0_5) (t0_6 := t0_6) (t0_7 := t0_7) (t0_8 := t0_8) (t0_9 := t0_9) (t0_10 := t0_10) (t1_0 := t1_0) (t2_0 := t2_0) (t3_0 := t4_0) (fun i hi => (hR.2 i hi).1) (by with_reducible assumption) (by with_reducible assumption)
              with_reducible refine v_oweS h12 ?_
              exact trivial
            ·
              rw [if_neg g9]
              unfold S_DR_compare_J85
              have g13 : ¬ ((1 : Int32) = (-1 : Int32)) := (by decide)
              rw [if_neg g13]
              unfold S_DR_compare_J97
              have g14 : ((-1 : Int32) ≤ (1 : Int32)) := (by decide)
              rw [if_pos g14]
              have g15 : ¬ ((1 : Int32) ≤ (-1 : Int32)) := (by decide)
              rw [if_neg g15]
              exact trivial
          ·
            rw [if_neg g8]
            unfold S_DR_compare_J85
            have g16 : ¬ ((1 : Int32) = (0 : Int32)) := (by decide)
            rw [if_neg g16]
            unfold S_DR_compare_J97
            have g17 : ((0 : Int32) ≤ (1 : Int32)) := (by decide)
            rw [if_pos g17]
            have g18 : ¬ ((1 : Int32) ≤ (0 : Int32)) := (by decide)
            rw [if_neg g18]
            exact trivial
        ·
          rw [if_neg g6]
          unfold S_DR_compare_J58
          have h19 := R_dz (x2 := x3) (t0_0 := (0 : Int32)) (t0_1 := t0_1) (t0_2 := t0_2) (t0_3 := t0_3) (t0_4 := t0_4) (t0_5 := t0_5) (t0_6 := t0_6) (t0_7 := t0_7) (t0_8 := t0_8) (t0_9 := t0_9) (t0_10 := t0_10) (t1_0 := t1_0) (by with_reducible assumption)
          have h19z := h19.2
          with_reducible refine v_oweS h19.1 ?_
          by_cases g20 : ((F_DR_isZero x3 (0 : Int32) t0_1 t0_2 t0_3 t0_4 t0_5 t0_6 t0_7 t0_8 t0_9 t0_10 t1_0) : Int32) = (0 : Int32)
          ·
            rw [if_pos g20]
            refine And.intro (by omega) ?_
            refine And.intro (by omega) ?_
            by_cases g21 : (t3_0 x3.toNatClampNeg : Int32) = (0 : Int32)
            ·
              rw [if_pos g21]
              unfold S_DR_compare_J85
              have g22 : ¬ ((-1 : Int32) = (1 : Int32)) := (by decide)
              rw [if_neg g22]
              unfold S_DR_compare_J97
              have g23 : ¬ ((1 : Int32) ≤ (-1 : Int32)) := (by decide)
              rw [if_neg g23]
              exact trivial
            ·
              rw [if_neg g21]
              unfold S_DR_compare_J85
              have g24 : ((-1 : Int32) = (-1 : Int32)) := (by decide)
              rw [if_pos g24]
              have g25 : ¬ ((-1 : Int32) = (0 : Int32)) := (by decide)
              rw [if_neg g25]
              have h26 := T_DR_compareSizes (x2 := x2) (x3 := x3) (t0_0 := (0 : Int32)) (t0_1 := t0_1) (t0_2 := t0_2) (t0_3 := t0_3) (t0_4 := t0_4) (t0_5 := t0_5) (t0_6 := t0_6) (t0_7 := t0_7) (t0_8 := t0_8) (t0_9 := t0_9) (t0_10 := t0_10) (t1_0 := t1_0) (t2_0 := t2_0) (t3_0 := t4_0) (fun i hi => (hR.2 i hi).1) (by with_reducible assumption) (by with_reducible assumption)
              with_reducible refine v_oweS h26 ?_
              exact trivial
          ·
            rw [if_neg g20]
            unfold S_DR_compare_J85
            have g27 : ¬ ((-1 : Int32) = (0 : Int32)) := (by decide)
            rw [if_neg g27]
            unfold S_DR_compare_J97
            have g28 : ¬ ((0 : Int32) ≤ (-1 : Int32)) := (by decide)
            rw [if_neg g28]
            exact trivial
      ·
        rw [if_neg g5]
        unfold S_DR_compare_J58
        have h29 := R_dz (x2 := x3) (t0_0 := (0 : Int32)) (t0_1 := t0_1) (t0_2 := t0_2) (t0_3 := t0_3) (t0_4 := t0_4) (t0_5 := t0_5) (t0_6 := t0_6) (t0_7 := t0_7) (t0_8 := t0_8) (t0_9 := t0_9) (t0_10 := t0_10) (t1_0 := t1_0) (by with_reducible assumption)
        have h29z := h29.2
        with_reducible refine v_oweS h29.1 ?_
        by_cases g30 : ((F_DR_isZero x3 (0 : Int32) t0_1 t0_2 t0_3 t0_4 t0_5 t0_6 t0_7 t0_8 t0_9 t0_10 t1_0) : Int32) = (0 : Int32)
        ·
          rw [if_pos g30]
          refine And.intro (by omega) ?_
          refine And.intro (by omega) ?_
          by_cases g31 : (t3_0 x3.toNatClampNeg : Int32) = (0 : Int32)
          ·
            rw [if_pos g31]
            unfold S_DR_compare_J85
            have g32 : ¬ ((0 : Int32) = (1 : Int32)) := (by decide)
            rw [if_neg g32]
            unfold S_DR_compare_J97
            have g33 : ¬ ((1 : Int32) ≤ (0 : Int32)) := (by decide)
            rw [if_neg g33]
            exact trivial
          ·
            rw [if_neg g31]
            unfold S_DR_compare_J85
            have g34 : ¬ ((0 : Int32) = (-1 : Int32)) := (by decide)
            rw [if_neg g34]
            unfold S_DR_compare_J97
            have g35 : ((-1 : Int32) ≤ (0 : Int32)) := (by decide)
            rw [if_pos g35]
            have g36 : ¬ ((0 : Int32) ≤ (-1 : Int32)) := (by decide)
            rw [if_neg g36]
            exact trivial
        ·
          rw [if_neg g30]
          unfold S_DR_compare_J85
          have g37 : ((0 : Int32) = (0 : Int32)) := (by decide)
          rw [if_pos g37]
          have g38 : ((0 : Int32) = (0 : Int32)) := (by decide)
          rw [if_pos g38]
          unfold S_DR_compare_J97
          have g39 : ((0 : Int32) ≤ (0 : Int32)) := (by decide)
          rw [if_pos g39]
          have g40 : ((0 : Int32) ≤ (0 : Int32)) := (by decide)
          rw [if_pos g40]
          exact trivial
    ·
      rw [if_neg g2]
      unfold S_DR_compare_J15
      unfold S_DR_compare_J20
      have g41 : ¬ ((1 : Int32) ≤ (0 : Int32)) := (by decide)
      rw [if_neg g41]
      exact trivial
  ·
    rw [if_neg g1]
    unfold S_DR_compare_J15
    unfold S_DR_compare_J20
    have g42 : ¬ ((1 : Int32) ≤ (0 : Int32)) := (by decide)
    rw [if_neg g42]
    exact trivial

/-! DecimalRows: figure, add, times, multiply, power -/
theorem g_dec {a : Int32} (h : 0 ≤ a.toInt) : (a + (-1) : Int32).toInt = a.toInt + (-1) := q_addI (y := -1) rfl (by decide) (by omega) (by have := Int32.toInt_lt a; omega)
theorem g_dec1 {a b : Int32} (h : 0 ≤ a.toInt) (h2 : a.toInt < b.toInt) : -1 ≤ (a + (-1) : Int32).toInt ∧ (a + (-1) : Int32).toInt < b.toInt := by rw [g_dec h]; omega
theorem g_dec2 {a : Int32} {n : Nat} (h : 0 ≤ a.toInt) (h2 : a.toInt + 1 < ((n + 1 : Nat) : Int)) : (a + (-1) : Int32).toInt + 1 < (n : Int) := by rw [g_dec h]; omega
theorem g_dec3 {a : Int32} {t : Nat} (h : 0 ≤ a.toInt) (h2 : (t : Int) ≤ (a + (-1) : Int32).toInt) : (t : Int) < a.toInt := by rw [g_dec h] at h2; omega
theorem g_sub1 {m : Int32} (h : 1 ≤ m.toInt) (h2 : m.toInt ≤ 1000) : -1 ≤ (m - 1 : Int32).toInt ∧ (m - 1 : Int32).toInt < m.toInt := by
  have e : (m - 1 : Int32).toInt = m.toInt - 1 := q_subI (y := 1) rfl (by decide) (by omega) (by omega)
  omega
theorem g_fu {x : Int} (h : -1 ≤ x) : x + 1 < (((x - (-1)).toNat + 1 : Nat) : Int) := by omega
theorem g_fill {f g : Nat → Int32} {k k1 : Int32} (h1 : k1.toInt = k.toInt + 1) (hk : 0 ≤ k.toInt) (ho : ∀ i : Nat, (i : Int) < k.toInt → f i = g i) : ∀ i : Nat, (i : Int) < k1.toInt → upd f k.toNatClampNeg (g k.toNatClampNeg) i = g i := fun i hi => by
  have e7 := q_clI (i := k) rfl hk
  by_cases c : i = k.toNatClampNeg
  · rw [c, v_eq]
  · rw [v_ne c]; exact ho i (by omega)
theorem g_fill0 {f : Nat → Int32} {k k1 : Int32} (h1 : k1.toInt = k.toInt + 1) (hk : 0 ≤ k.toInt) (ho : ∀ i : Nat, (i : Int) < k.toInt → f i = 0) : ∀ i : Nat, (i : Int) < k1.toInt → upd f k.toNatClampNeg 0 i = 0 := fun i hi => by
  have e7 := q_clI (i := k) rfl hk
  by_cases c : i = k.toNatClampNeg
  · rw [c, v_eq]
  · rw [v_ne c]; exact ho i (by omega)
theorem g_mul9 {b c : Int32} (hb : 0 ≤ b.toInt ∧ b.toInt ≤ 9) (hc : 0 ≤ c.toInt ∧ c.toInt ≤ 9) : 0 ≤ (b * c : Int32).toInt ∧ (b * c : Int32).toInt ≤ 81 := by
  have h1 : 0 ≤ b.toInt * c.toInt := Int.mul_nonneg hb.1 hc.1
  have h2 : b.toInt * c.toInt ≤ 9 * 9 := Int.mul_le_mul hb.2 hc.2 hc.1 (by decide)
  have e : (b * c : Int32).toInt = b.toInt * c.toInt := q_mulI rfl rfl (by omega) (by omega)
  omega
theorem g_tmV {a b c d : Int32} (ha : 0 ≤ a.toInt ∧ a.toInt ≤ 9) (hb : 0 ≤ b.toInt ∧ b.toInt ≤ 9) (hc : 0 ≤ c.toInt ∧ c.toInt ≤ 9) (hd : 0 ≤ d.toInt ∧ d.toInt ≤ 9) : 0 ≤ (a + b * c + d : Int32).toInt ∧ (a + b * c + d : Int32).toInt ≤ 99 := by
  have h := g_mul9 hb hc
  generalize (b * c : Int32) = m at h ⊢
  have e1 : (a + m : Int32).toInt = a.toInt + m.toInt := q_addI rfl rfl (by omega) (by omega)
  have e2 : (a + m + d : Int32).toInt = (a.toInt + m.toInt) + d.toInt := q_addI e1 rfl (by omega) (by omega)
  omega
theorem g_q10 {v : Int32} (h : 0 ≤ v.toInt) : (v / 10).toInt = v.toInt / 10 := q_divI rfl (by decide) h (by decide)
theorem g_tmQ {a b c d : Int32} (ha : 0 ≤ a.toInt ∧ a.toInt ≤ 9) (hb : 0 ≤ b.toInt ∧ b.toInt ≤ 9) (hc : 0 ≤ c.toInt ∧ c.toInt ≤ 9) (hd : 0 ≤ d.toInt ∧ d.toInt ≤ 9) : 0 ≤ ((a + b * c + d) / 10 : Int32).toInt ∧ ((a + b * c + d) / 10 : Int32).toInt ≤ 9 := by
  have h := g_tmV ha hb hc hd
  rw [g_q10 h.1]
  omega
theorem g_m10 {v : Int32} (h : 0 ≤ v.toInt) : 0 ≤ (v - v / 10 * 10 : Int32).toInt ∧ (v - v / 10 * 10 : Int32).toInt ≤ 9 := by
  have h1 := s_rem' (x := v) (b := 10) h (by decide)
  have e : (10 : Int32).toInt = 10 := rfl
  omega
theorem g_at9 {f : Nat → Int32} {n i : Int32} (h : gO f n.toNatClampNeg) (hi : 0 ≤ i.toInt) (hn : i.toInt < n.toInt) : 0 ≤ (f i.toNatClampNeg).toInt ∧ (f i.toNatClampNeg).toInt ≤ 9 := h _ (by have := q_clI (i := n) rfl (by omega); have := q_clI (i := i) rfl hi; omega)
theorem g_last {f : Nat → Int32} {n i c : Int32} (h : gO f n.toNatClampNeg) (hz : ∀ t : Nat, (t : Int) ≤ i.toInt → f t = 0) (hi : 0 ≤ i.toInt) (hc : 0 ≤ c.toInt ∧ c.toInt ≤ 9) : gO (upd f i.toNatClampNeg (f i.toNatClampNeg + c)) n.toNatClampNeg := by
  have e1 := q_clI (i := i) rfl hi
  rw [hz i.toNatClampNeg (by omega)]
  have e2 : (0 + c : Int32).toInt = 0 + c.toInt := q_addI (x := 0) rfl rfl (by omega) (by omega)
  exact gO_upd h (by rw [e2]; omega)
def Q_DR_times (p : Int32 × Int32 × Int32 × Int32 × Int64 × Int32 × Int32 × Int32 × Int32 × Int32 × Int32 × Int32 × (Nat → Int32) × (Nat → Int32)) : Prop := (1 ≤ p.2.2.2.1.toInt ∧ p.2.2.2.1.toInt ≤ 4400) ∧ gO p.2.2.2.2.2.2.2.2.2.2.2.2.1 p.2.2.2.1.toNatClampNeg ∧ (p.1 ≠ 0 → p.2.2.2.1.toInt ≤ 1000)
theorem v_tm4 {K_F_DR_times_L14 : Int32 → (Nat → Int32) → (Int32 × Int32 × Int32 × Int32 × Int64 × Int32 × Int32 × Int32 × Int32 × Int32 × Int32 × Int32 × (Nat → Int32) × (Nat → Int32))} {K_F_DR_times_L39 : Int32 → (Nat → Int32) → (Int32 × Int32 × Int32 × Int32 × Int64 × Int32 × Int32 × Int32 × Int32 × Int32 × Int32 × Int32 × (Nat → Int32) × (Nat → Int32))} {x2 : Int32} {t0_0 : Int32} {t0_1 : Int32} {t0_2 : Int32} {t0_3 : Int64} {t0_4 : Int32} {t0_5 : Int32} {t0_6 : Int32} {t0_7 : Int32} {t0_8 : Int32} {t0_9 : Int32} {t0_10 : Int32} {t1_0 : (Nat → Int32)} {t2_0 : (Nat → Int32)} {t3_0 : (Nat → Int32)} {t4_0 : (Nat → Int32)} {t5_0 : (Nat → Int32)} {t6_0 : (Nat → Int32)} {a39 : Int32} {lx42 : Int32} {lx43 : (Nat → Int32)} {lx65 : Int32} {lx66 : (Nat → Int32)} {K_S_DR_times_L14 : Int32 → (Nat → Int32) → Prop} {K_S_DR_times_L39 : Int32 → (Nat → Int32) → Prop} (hR : gR t1_0 t2_0 t3_0 t4_0) (hx : 0 ≤ x2.toInt ∧ x2.toInt ≤ 9) (h2 : 1 ≤ t0_2.toInt ∧ t0_2.toInt ≤ 1000) (hg : gO t5_0 t0_2.toNatClampNeg) (h39 : a39.toInt = t0_2.toInt + (t2_0 x2.toNatClampNeg).toInt) (h9 : a39.toInt ≤ 2000)(hgt : gO lx66 a39.toNatClampNeg) : ∀ (n : Nat) (lx87 : Int32) (lx88 : (Nat → Int32)), (0 ≤ lx87.toInt ∧ lx87.toInt ≤ a39.toInt) → (12200 - lx87.toInt < (n : Int)) → (∀ i : Nat, (i : Int) < lx87.toInt → lx88 i = lx66 i) → (S_DR_times_L155 K_S_DR_times_L14 K_S_DR_times_L39 x2 t0_0 t0_1 t0_2 t0_3 t0_4 t0_5 t0_6 t0_7 t0_8 t0_9 t0_10 t1_0 t2_0 t3_0 t4_0 t5_0 t6_0 a39 lx42 lx43 lx65 lx66 n lx87 lx88) ∧ Q_DR_times (F_DR_times_L155 K_F_DR_times_L14 K_F_DR_times_L39 x2 t0_0 t0_1 t0_2 t0_3 t0_4 t0_5 t0_6 t0_7 t0_8 t0_9 t0_10 t1_0 t2_0 t3_0 t4_0 t5_0 t6_0 a39 lx42 lx43 lx65 lx66 n lx87 lx88) := by
  intro n
  induction n with
  | zero => intro lx87 lx88 h0 hm ho; exact absurd (show False by omega) id
  | succ n ih =>
    intro lx87 lx88 h0 hm ho
    have e0 : (0 : Int32).toInt = 0 := rfl
    have eL0 : (0 : Int64).toInt = 0 := rfl
    have eL1 : (10000 : Int64).toInt = 10000 := rfl
    have eL2 : (-10000 : Int64).toInt = -10000 := rfl
    have eL3 : (1000 : Int64).toInt = 1000 := rfl
    have eL4 : (-1 : Int64).toInt = -1 := rfl
    have eI3 : (1000 : Int32).toInt = 1000 := rfl
    have hmn := (gR.at hR hx).1
    rw [S_DR_times_L155.eq_2, F_DR_times_L155.eq_2]
    by_cases g1 : a39 ≤ lx87
    ·
      rw [if_pos g1, if_pos g1]
      have g1i : a39.toInt ≤ lx87.toInt := q_leI g1
      by_cases g2 : t0_5 = (t3_0 x2.toNatClampNeg : Int32)
      ·
        rw [if_pos g2, if_pos g2]
        unfold S_DR_times_J199 F_DR_times_J199
        have h3 := T_DR_trim (t0_0 := t0_0) (t0_1 := t0_1) (t0_2 := a39) (t0_3 := (t0_3 + ((t4_0 x2.toNatClampNeg : Int32).toInt64 : Int64) : Int64)) (t0_4 := t0_4) (t0_5 := (0 : Int32)) (t0_6 := t0_6) (t0_7 := t0_7) (t0_8 := t0_8) (t0_9 := t0_9) (t0_10 := t0_10) (t1_0 := lx88) ⟨by omega, by omega⟩ (by first | with_reducible assumption | omega | decide | exact fun i hi => by have e7 := q_clI (i := a39) rfl (by omega); rw [ho i (by omega)]; exact hgt i hi)
        with_reducible refine v_owe h3.1 ?_
        replace h3 := h3.2
        generalize F_DR_trim t0_0 t0_1 a39 (t0_3 + ((t4_0 x2.toNatClampNeg : Int32).toInt64 : Int64) : Int64) t0_4 (0 : Int32) t0_6 t0_7 t0_8 t0_9 t0_10 lx88 = p179 at *
        unfold Q_DR_trim at h3
        obtain ⟨⟨h31, h32, h33, h39⟩, h3g, h35, h3a, h3b, h3s, h3m, h3x6, h3x7, h3x8, h3x9, h3x10⟩ := h3
        have trim9 := h39
        have h3si := congrArg Int64.toInt h3s
        have h3mi := congrArg Int32.toInt h3m
        unfold Q_DR_times
        unfold S_DR_times_c219 F_DR_times_c219
        by_cases g4 : (1000 : Int32) < (p179.2.2.1 : Int32)
        ·
          rw [if_pos g4, if_pos g4]
          have g4i := q_ltI g4
          refine ⟨trivial, ?_⟩
          (dsimp only; exact ⟨⟨by omega, by omega⟩, by with_reducible assumption, fun hne => by first | omega | exact absurd rfl hne⟩)
        ·
          rw [if_neg g4, if_neg g4]
          have g4i := q_nltI g4
          refine ⟨trivial, ?_⟩
          (dsimp only; exact ⟨⟨by omega, by omega⟩, by with_reducible assumption, fun hne => by first | omega | exact absurd rfl hne⟩)
      ·
        rw [if_neg g2, if_neg g2]
        unfold S_DR_times_J199 F_DR_times_J199
        have h5 := T_DR_trim (t0_0 := t0_0) (t0_1 := t0_1) (t0_2 := a39) (t0_3 := (t0_3 + ((t4_0 x2.toNatClampNeg : Int32).toInt64 : Int64) : Int64)) (t0_4 := t0_4) (t0_5 := (1 : Int32)) (t0_6 := t0_6) (t0_7 := t0_7) (t0_8 := t0_8) (t0_9 := t0_9) (t0_10 := t0_10) (t1_0 := lx88) ⟨by omega, by omega⟩ (by first | with_reducible assumption | omega | decide | exact fun i hi => by have e7 := q_clI (i := a39) rfl (by omega); rw [ho i (by omega)]; exact hgt i hi)
        with_reducible refine v_owe h5.1 ?_
        replace h5 := h5.2
        generalize F_DR_trim t0_0 t0_1 a39 (t0_3 + ((t4_0 x2.toNatClampNeg : Int32).toInt64 : Int64) : Int64) t0_4 (1 : Int32) t0_6 t0_7 t0_8 t0_9 t0_10 lx88 = p179 at *
        unfold Q_DR_trim at h5
        obtain ⟨⟨h51, h52, h53, h59⟩, h5g, h55, h5a, h5b, h5s, h5m, h5x6, h5x7, h5x8, h5x9, h5x10⟩ := h5
        have trim9 := h59
        have h5si := congrArg Int64.toInt h5s
        have h5mi := congrArg Int32.toInt h5m
        unfold Q_DR_times
        unfold S_DR_times_c219 F_DR_times_c219
        by_cases g6 : (1000 : Int32) < (p179.2.2.1 : Int32)
        ·
          rw [if_pos g6, if_pos g6]
          have g6i := q_ltI g6
          refine ⟨trivial, ?_⟩
          (dsimp only; exact ⟨⟨by omega, by omega⟩, by with_reducible assumption, fun hne => by first | omega | exact absurd rfl hne⟩)
        ·
          rw [if_neg g6, if_neg g6]
          have g6i := q_nltI g6
          refine ⟨trivial, ?_⟩
          (dsimp only; exact ⟨⟨by omega, by omega⟩, by with_reducible assumption, fun hne => by first | omega | exact absurd rfl hne⟩)
    ·
      rw [if_neg g1, if_neg g1]
      have g1i : lx87.toInt < a39.toInt := q_nleI g1
      refine v_cons (by omega) ?_
      obtain ⟨a7, e8⟩ := q_nm (lx87 + 1 : Int32)
      rw [e8]
      have a7i : a7.toInt = lx87.toInt + 1 := by rw [← e8]; exact q_addI (x := lx87.toInt) (y := 1) rfl (by decide) (by omega) (by omega)
      exact ih _ _ ⟨by omega, by omega⟩ (by omega) (g_fill a7i h0.1 ho)
theorem v_tm3 {K_F_DR_times_L14 : Int32 → (Nat → Int32) → (Int32 × Int32 × Int32 × Int32 × Int64 × Int32 × Int32 × Int32 × Int32 × Int32 × Int32 × Int32 × (Nat → Int32) × (Nat → Int32))} {K_F_DR_times_L39 : Int32 → (Nat → Int32) → (Int32 × Int32 × Int32 × Int32 × Int64 × Int32 × Int32 × Int32 × Int32 × Int32 × Int32 × Int32 × (Nat → Int32) × (Nat → Int32))} {x2 : Int32} {t0_0 : Int32} {t0_1 : Int32} {t0_2 : Int32} {t0_3 : Int64} {t0_4 : Int32} {t0_5 : Int32} {t0_6 : Int32} {t0_7 : Int32} {t0_8 : Int32} {t0_9 : Int32} {t0_10 : Int32} {t1_0 : (Nat → Int32)} {t2_0 : (Nat → Int32)} {t3_0 : (Nat → Int32)} {t4_0 : (Nat → Int32)} {t5_0 : (Nat → Int32)} {t6_0 : (Nat → Int32)} {a39 : Int32} {lx42 : Int32} {lx43 : (Nat → Int32)} {lx65 : Int32} {lx66 : (Nat → Int32)} {K_S_DR_times_L14 : Int32 → (Nat → Int32) → Prop} {K_S_DR_times_L39 : Int32 → (Nat → Int32) → Prop} (hR : gR t1_0 t2_0 t3_0 t4_0) (hx : 0 ≤ x2.toInt ∧ x2.toInt ≤ 9) (h2 : 1 ≤ t0_2.toInt ∧ t0_2.toInt ≤ 1000) (hg : gO t5_0 t0_2.toNatClampNeg) (h39 : a39.toInt = t0_2.toInt + (t2_0 x2.toNatClampNeg).toInt) (h9 : a39.toInt ≤ 2000)(h65 : 0 ≤ lx65.toInt ∧ lx65.toInt < t0_2.toInt) (hK : ∀ r : Nat → Int32, gO r a39.toNatClampNeg → (∀ t : Nat, (t : Int) < lx65.toInt → r t = 0) → K_S_DR_times_L39 (lx65 + (-1)) r ∧ Q_DR_times (K_F_DR_times_L39 (lx65 + (-1)) r)) : ∀ (n : Nat) (lx222 : Int32) (lx223 : Int32) (lx224 : (Nat → Int32)), (-1 ≤ lx222.toInt ∧ lx222.toInt < (t2_0 x2.toNatClampNeg).toInt) → (lx222.toInt + 1 < (n : Int)) → (0 ≤ lx223.toInt ∧ lx223.toInt ≤ 9) → (gO lx224 a39.toNatClampNeg) → (∀ t : Nat, (t : Int) ≤ lx65.toInt → lx224 t = 0) → (S_DR_times_L56 K_S_DR_times_L14 K_S_DR_times_L39 x2 t0_0 t0_1 t0_2 t0_3 t0_4 t0_5 t0_6 t0_7 t0_8 t0_9 t0_10 t1_0 t2_0 t3_0 t4_0 t5_0 t6_0 a39 lx42 lx43 lx65 lx66 n lx222 lx223 lx224) ∧ Q_DR_times (F_DR_times_L56 K_F_DR_times_L14 K_F_DR_times_L39 x2 t0_0 t0_1 t0_2 t0_3 t0_4 t0_5 t0_6 t0_7 t0_8 t0_9 t0_10 t1_0 t2_0 t3_0 t4_0 t5_0 t6_0 a39 lx42 lx43 lx65 lx66 n lx222 lx223 lx224) := by
  intro n
  induction n with
  | zero => intro lx222 lx223 lx224 h0 hm hc ho hz; exact absurd (show False by omega) id
  | succ n ih =>
    intro lx222 lx223 lx224 h0 hm hc ho hz
    have e0 : (0 : Int32).toInt = 0 := rfl
    have eL0 : (0 : Int64).toInt = 0 := rfl
    have eL1 : (10000 : Int64).toInt = 10000 := rfl
    have eL2 : (-10000 : Int64).toInt = -10000 := rfl
    have eL3 : (1000 : Int64).toInt = 1000 := rfl
    have eL4 : (-1 : Int64).toInt = -1 := rfl
    have eI3 : (1000 : Int32).toInt = 1000 := rfl
    have hmn := (gR.at hR hx).1
    rw [S_DR_times_L56.eq_2, F_DR_times_L56.eq_2]
    by_cases g1 : lx222 < (0 : Int32)
    ·
      rw [if_pos g1, if_pos g1]
      have g1i : lx222.toInt < 0 := q_ltI g1
      refine v_cons (by omega) ?_
      exact hK _ (g_last ho hz h65.1 hc) (fun t ht => by rw [v_ne (by have := q_clI (i := lx65) rfl h65.1; omega)]; exact hz t (by omega))
    ·
      rw [if_neg g1, if_neg g1]
      have g1i : 0 ≤ lx222.toInt := q_nltI g1
      obtain ⟨a2, e3⟩ := q_nm (lx65 + lx222 : Int32)
      rw [e3]
      have a2i : a2.toInt = lx65.toInt + lx222.toInt := by rw [← e3]; exact q_addI (x := lx65.toInt) (y := lx222.toInt) rfl rfl (by omega) (by omega)
      obtain ⟨a4, e5⟩ := q_nm (a2 + 1 : Int32)
      rw [e5]
      have a4i : a4.toInt = a2.toInt + 1 := by rw [← e5]; exact q_addI (x := a2.toInt) (y := 1) rfl (by decide) (by omega) (by omega)
      refine v_cons (by omega) ?_
      refine v_cons (by omega) ?_
      refine v_cons (by omega) ?_
      refine v_cons (by have := (g_ix (x := x2) (k := lx222) hx ⟨by omega, by omega⟩).1; omega) ?_
      refine v_cons (by have := (g_ix (x := x2) (k := lx222) hx ⟨by omega, by omega⟩).1; omega) ?_
      refine v_cons (by omega) ?_
      refine v_cons (by omega) ?_
      obtain ⟨a6, e7⟩ := q_nm (lx222 + (-1) : Int32)
      rw [e7]
      have a6i : a6.toInt = lx222.toInt + (-1) := by rw [← e7]; exact q_addI (x := lx222.toInt) (y := (-1)) rfl (by decide) (by omega) (by omega)
      have q1 := g_at9 ho (i := a4) (by omega) (by omega); have q2 := g_at9 hg h65.1 h65.2; have q3 := g_kx hR.1 hx (i := lx222) (by omega) (by omega); exact ih _ _ _ ⟨by omega, by omega⟩ (by omega) (g_tmQ q1 q2 q3 hc) (gO_upd ho (g_m10 (g_tmV q1 q2 q3 hc).1)) (fun t ht => by rw [v_ne (by have := q_clI (i := a4) rfl (by omega); omega)]; exact hz t ht)
theorem v_tm2 {K_F_DR_times_L14 : Int32 → (Nat → Int32) → (Int32 × Int32 × Int32 × Int32 × Int64 × Int32 × Int32 × Int32 × Int32 × Int32 × Int32 × Int32 × (Nat → Int32) × (Nat → Int32))} {x2 : Int32} {t0_0 : Int32} {t0_1 : Int32} {t0_2 : Int32} {t0_3 : Int64} {t0_4 : Int32} {t0_5 : Int32} {t0_6 : Int32} {t0_7 : Int32} {t0_8 : Int32} {t0_9 : Int32} {t0_10 : Int32} {t1_0 : (Nat → Int32)} {t2_0 : (Nat → Int32)} {t3_0 : (Nat → Int32)} {t4_0 : (Nat → Int32)} {t5_0 : (Nat → Int32)} {t6_0 : (Nat → Int32)} {a39 : Int32} {lx42 : Int32} {lx43 : (Nat → Int32)} {K_S_DR_times_L14 : Int32 → (Nat → Int32) → Prop} (hR : gR t1_0 t2_0 t3_0 t4_0) (hx : 0 ≤ x2.toInt ∧ x2.toInt ≤ 9) (h2 : 1 ≤ t0_2.toInt ∧ t0_2.toInt ≤ 1000) (hg : gO t5_0 t0_2.toNatClampNeg) (h39 : a39.toInt = t0_2.toInt + (t2_0 x2.toNatClampNeg).toInt) (h9 : a39.toInt ≤ 2000) : ∀ (n : Nat) (lx65 : Int32) (lx66 : (Nat → Int32)), (-1 ≤ lx65.toInt ∧ lx65.toInt < t0_2.toInt) → (lx65.toInt + 1 < (n : Int)) → (gO lx66 a39.toNatClampNeg) → (∀ t : Nat, (t : Int) ≤ lx65.toInt → lx66 t = 0) → (S_DR_times_L39 K_S_DR_times_L14 x2 t0_0 t0_1 t0_2 t0_3 t0_4 t0_5 t0_6 t0_7 t0_8 t0_9 t0_10 t1_0 t2_0 t3_0 t4_0 t5_0 t6_0 a39 lx42 lx43 n lx65 lx66) ∧ Q_DR_times (F_DR_times_L39 K_F_DR_times_L14 x2 t0_0 t0_1 t0_2 t0_3 t0_4 t0_5 t0_6 t0_7 t0_8 t0_9 t0_10 t1_0 t2_0 t3_0 t4_0 t5_0 t6_0 a39 lx42 lx43 n lx65 lx66) := by
  intro n
  induction n with
  | zero => intro lx65 lx66 h0 hm ho hz; exact absurd (show False by omega) id
  | succ n ih =>
    intro lx65 lx66 h0 hm ho hz
    have e0 : (0 : Int32).toInt = 0 := rfl
    have eL0 : (0 : Int64).toInt = 0 := rfl
    have eL1 : (10000 : Int64).toInt = 10000 := rfl
    have eL2 : (-10000 : Int64).toInt = -10000 := rfl
    have eL3 : (1000 : Int64).toInt = 1000 := rfl
    have eL4 : (-1 : Int64).toInt = -1 := rfl
    have eI3 : (1000 : Int32).toInt = 1000 := rfl
    have hmn := (gR.at hR hx).1
    rw [S_DR_times_L39.eq_2, F_DR_times_L39.eq_2]
    by_cases g1 : lx65 < (0 : Int32)
    ·
      rw [if_pos g1, if_pos g1]
      have g1i : lx65.toInt < 0 := q_ltI g1
      exact v_tm4 hR hx h2 hg h39 h9 ho _ _ _ (by omega) (by decide) (fun i hi => by omega)
    ·
      rw [if_neg g1, if_neg g1]
      have g1i : 0 ≤ lx65.toInt := q_nltI g1
      exact v_tm3 hR hx h2 hg h39 h9 ⟨by omega, by omega⟩ (fun r h1 h3 => ih _ r (g_dec1 (by omega) (by omega)) (g_dec2 (by omega) (by omega)) h1 (fun t ht => h3 t (g_dec3 (by omega) ht))) _ _ _ _ (g_sub1 hmn.1 hmn.2) (g_fu (g_sub1 hmn.1 hmn.2).1) (by decide) ho hz
theorem v_tm1 {x2 : Int32} {t0_0 : Int32} {t0_1 : Int32} {t0_2 : Int32} {t0_3 : Int64} {t0_4 : Int32} {t0_5 : Int32} {t0_6 : Int32} {t0_7 : Int32} {t0_8 : Int32} {t0_9 : Int32} {t0_10 : Int32} {t1_0 : (Nat → Int32)} {t2_0 : (Nat → Int32)} {t3_0 : (Nat → Int32)} {t4_0 : (Nat → Int32)} {t5_0 : (Nat → Int32)} {t6_0 : (Nat → Int32)} {a39 : Int32} (hR : gR t1_0 t2_0 t3_0 t4_0) (hx : 0 ≤ x2.toInt ∧ x2.toInt ≤ 9) (h2 : 1 ≤ t0_2.toInt ∧ t0_2.toInt ≤ 1000) (hg : gO t5_0 t0_2.toNatClampNeg) (h39 : a39.toInt = t0_2.toInt + (t2_0 x2.toNatClampNeg).toInt) (h9 : a39.toInt ≤ 2000) : ∀ (n : Nat) (lx42 : Int32) (lx43 : (Nat → Int32)), (0 ≤ lx42.toInt ∧ lx42.toInt ≤ a39.toInt) → (12200 - lx42.toInt < (n : Int)) → (∀ i : Nat, (i : Int) < lx42.toInt → lx43 i = 0) → (S_DR_times_L14 x2 t0_0 t0_1 t0_2 t0_3 t0_4 t0_5 t0_6 t0_7 t0_8 t0_9 t0_10 t1_0 t2_0 t3_0 t4_0 t5_0 t6_0 a39 n lx42 lx43) ∧ Q_DR_times (F_DR_times_L14 x2 t0_0 t0_1 t0_2 t0_3 t0_4 t0_5 t0_6 t0_7 t0_8 t0_9 t0_10 t1_0 t2_0 t3_0 t4_0 t5_0 t6_0 a39 n lx42 lx43) := by
  intro n
  induction n with
  | zero => intro lx42 lx43 h0 hm ho; exact absurd (show False by omega) id
  | succ n ih =>
    intro lx42 lx43 h0 hm ho
    have e0 : (0 : Int32).toInt = 0 := rfl
    have eL0 : (0 : Int64).toInt = 0 := rfl
    have eL1 : (10000 : Int64).toInt = 10000 := rfl
    have eL2 : (-10000 : Int64).toInt = -10000 := rfl
    have eL3 : (1000 : Int64).toInt = 1000 := rfl
    have eL4 : (-1 : Int64).toInt = -1 := rfl
    have eI3 : (1000 : Int32).toInt = 1000 := rfl
    have hmn := (gR.at hR hx).1
    rw [S_DR_times_L14.eq_2, F_DR_times_L14.eq_2]
    by_cases g1 : a39 ≤ lx42
    ·
      rw [if_pos g1, if_pos g1]
      have g1i : a39.toInt ≤ lx42.toInt := q_leI g1
      have e5 : (t0_2 - 1 : Int32).toInt = t0_2.toInt - 1 := q_subI (y := 1) rfl (by decide) (by omega) (by omega); have e7 := q_clI (i := a39) rfl (by omega); exact v_tm2 hR hx h2 hg h39 h9 _ _ _ ⟨by omega, by omega⟩ (by omega) (fun i hi => by rw [ho i (by omega)]; exact ⟨by decide, by decide⟩) (fun t ht => ho t (by omega))
    ·
      rw [if_neg g1, if_neg g1]
      have g1i : lx42.toInt < a39.toInt := q_nleI g1
      refine v_cons (by omega) ?_
      obtain ⟨a2, e3⟩ := q_nm (lx42 + 1 : Int32)
      rw [e3]
      have a2i : a2.toInt = lx42.toInt + 1 := by rw [← e3]; exact q_addI (x := lx42.toInt) (y := 1) rfl (by decide) (by omega) (by omega)
      exact ih _ _ ⟨by omega, by omega⟩ (by omega) (g_fill0 a2i h0.1 ho)
theorem T_DR_times {x2 : Int32} {t0_0 : Int32} {t0_1 : Int32} {t0_2 : Int32} {t0_3 : Int64} {t0_4 : Int32} {t0_5 : Int32} {t0_6 : Int32} {t0_7 : Int32} {t0_8 : Int32} {t0_9 : Int32} {t0_10 : Int32} {t1_0 : (Nat → Int32)} {t2_0 : (Nat → Int32)} {t3_0 : (Nat → Int32)} {t4_0 : (Nat → Int32)} {t5_0 : (Nat → Int32)} {t6_0 : (Nat → Int32)} (hR : gR t1_0 t2_0 t3_0 t4_0) (hx : 0 ≤ x2.toInt ∧ x2.toInt ≤ 9) (h2 : 1 ≤ t0_2.toInt ∧ t0_2.toInt ≤ 1000) (hg : gO t5_0 t0_2.toNatClampNeg) : (S_DR_times x2 t0_0 t0_1 t0_2 t0_3 t0_4 t0_5 t0_6 t0_7 t0_8 t0_9 t0_10 t1_0 t2_0 t3_0 t4_0 t5_0 t6_0) ∧ Q_DR_times (F_DR_times x2 t0_0 t0_1 t0_2 t0_3 t0_4 t0_5 t0_6 t0_7 t0_8 t0_9 t0_10 t1_0 t2_0 t3_0 t4_0 t5_0 t6_0) := by
  have e0 : (0 : Int32).toInt = 0 := rfl
  have eL0 : (0 : Int64).toInt = 0 := rfl
  have eL1 : (10000 : Int64).toInt = 10000 := rfl
  have eL2 : (-10000 : Int64).toInt = -10000 := rfl
  have eL3 : (1000 : Int64).toInt = 1000 := rfl
  have eL4 : (-1 : Int64).toInt = -1 := rfl
  have eI3 : (1000 : Int32).toInt = 1000 := rfl
  have hmn := (gR.at hR hx).1
  have e39 : (t0_2 + t2_0 x2.toNatClampNeg : Int32).toInt = t0_2.toInt + (t2_0 x2.toNatClampNeg).toInt := q_addI rfl rfl (by omega) (by omega)
  unfold S_DR_times F_DR_times
  refine v_cons (by omega) ?_
  refine v_cons (by omega) ?_
  exact v_tm1 hR hx h2 hg e39 (by omega) _ _ _ (by omega) (by decide) (fun i hi => by omega)
def Q_DR_multiply (p : Int32 × Int32 × Int32 × Int64 × Int32 × Int32 × Int32 × Int32 × Int32 × Int32 × Int32 × (Nat → Int32) × (Nat → Int32) × (Nat → Int32) × (Nat → Int32) × (Nat → Int32) × (Nat → Int32)) : Prop := gR p.2.2.2.2.2.2.2.2.2.2.2.1 p.2.2.2.2.2.2.2.2.2.2.2.2.1 p.2.2.2.2.2.2.2.2.2.2.2.2.2.1 p.2.2.2.2.2.2.2.2.2.2.2.2.2.2.1
theorem T_DR_multiply {x2 : Int32} {x3 : Int32} {x4 : Int32} {t0_0 : Int32} {t0_1 : Int32} {t0_2 : Int32} {t0_3 : Int64} {t0_4 : Int32} {t0_5 : Int32} {t0_6 : Int32} {t0_7 : Int32} {t0_8 : Int32} {t0_9 : Int32} {t0_10 : Int32} {t1_0 : (Nat → Int32)} {t2_0 : (Nat → Int32)} {t3_0 : (Nat → Int32)} {t4_0 : (Nat → Int32)} {t5_0 : (Nat → Int32)} {t6_0 : (Nat → Int32)} (hR : gR t1_0 t2_0 t3_0 t4_0) : (S_DR_multiply x2 x3 x4 t0_0 t0_1 t0_2 t0_3 t0_4 t0_5 t0_6 t0_7 t0_8 t0_9 t0_10 t1_0 t2_0 t3_0 t4_0 t5_0 t6_0) ∧ Q_DR_multiply (F_DR_multiply x2 x3 x4 t0_0 t0_1 t0_2 t0_3 t0_4 t0_5 t0_6 t0_7 t0_8 t0_9 t0_10 t1_0 t2_0 t3_0 t4_0 t5_0 t6_0) := by
  have e0 : (0 : Int32).toInt = 0 := rfl
  have eL0 : (0 : Int64).toInt = 0 := rfl
  have eL1 : (10000 : Int64).toInt = 10000 := rfl
  have eL2 : (-10000 : Int64).toInt = -10000 := rfl
  have eL3 : (1000 : Int64).toInt = 1000 := rfl
  have eL4 : (-1 : Int64).toInt = -1 := rfl
  have eI3 : (1000 : Int32).toInt = 1000 := rfl
  unfold S_DR_multiply F_DR_multiply
  by_cases g1 : ((F_DR_no x2) : Int32) = (0 : Int32)
  ·
    rw [if_pos g1, if_pos g1]
    have g1r := g_no g1
    by_cases g2 : ((F_DR_no x3) : Int32) = (0 : Int32)
    ·
      rw [if_pos g2, if_pos g2]
      have g2r := g_no g2
      by_cases g3 : ((F_DR_no x4) : Int32) = (0 : Int32)
      ·
        rw [if_pos g3, if_pos g3]
        have g3r := g_no g3
        unfold S_DR_multiply_J27 F_DR_multiply_J27
        have g4 : ((0 : Int32) ≤ (0 : Int32)) := (by decide)
        rw [if_pos g4, if_pos g4]
        have h5 := T_DR_load (x2 := x2) (t0_0 := (0 : Int32)) (t0_1 := t0_1) (t0_2 := t0_2) (t0_3 := t0_3) (t0_4 := t0_4) (t0_5 := t0_5) (t0_6 := t0_6) (t0_7 := t0_7) (t0_8 := t0_8) (t0_9 := t0_9) (t0_10 := (2 : Int32)) (t1_0 := t1_0) (t2_0 := t2_0) (t3_0 := t3_0) (t4_0 := t4_0) (t5_0 := t5_0) (by with_reducible assumption) (by with_reducible assumption)
        with_reducible refine v_owe h5.1 ?_
        replace h5 := h5.2
        generalize F_DR_load x2 (0 : Int32) t0_1 t0_2 t0_3 t0_4 t0_5 t0_6 t0_7 t0_8 t0_9 (2 : Int32) t1_0 t2_0 t3_0 t4_0 t5_0 = p106 at *
        unfold Q_DR_load at h5
        obtain ⟨h51, h5g, h53, h54, h55, h56, h57⟩ := h5
        have h54i := congrArg Int32.toInt h54
        unfold S_DR_multiply_c45 F_DR_multiply_c45
        have h6 := T_DR_times (x2 := x3) (t0_0 := (p106.1 : Int32)) (t0_1 := (p106.2.1 : Int32)) (t0_2 := (p106.2.2.1 : Int32)) (t0_3 := (p106.2.2.2.1 : Int64)) (t0_4 := (p106.2.2.2.2.1 : Int32)) (t0_5 := (p106.2.2.2.2.2.1 : Int32)) (t0_6 := (p106.2.2.2.2.2.2.1 : Int32)) (t0_7 := (p106.2.2.2.2.2.2.2.1 : Int32)) (t0_8 := (p106.2.2.2.2.2.2.2.2.1 : Int32)) (t0_9 := (p106.2.2.2.2.2.2.2.2.2.1 : Int32)) (t0_10 := (p106.2.2.2.2.2.2.2.2.2.2.1 : Int32)) (t1_0 := t1_0) (t2_0 := t2_0) (t3_0 := t3_0) (t4_0 := t4_0) (t5_0 := (p106.2.2.2.2.2.2.2.2.2.2.2 : (Nat → Int32))) (t6_0 := t6_0) (by with_reducible assumption) (by with_reducible assumption) ⟨by omega, by omega⟩ (by with_reducible assumption)
        with_reducible refine v_owe h6.1 ?_
        replace h6 := h6.2
        generalize F_DR_times x3 (p106.1 : Int32) (p106.2.1 : Int32) (p106.2.2.1 : Int32) (p106.2.2.2.1 : Int64) (p106.2.2.2.2.1 : Int32) (p106.2.2.2.2.2.1 : Int32) (p106.2.2.2.2.2.2.1 : Int32) (p106.2.2.2.2.2.2.2.1 : Int32) (p106.2.2.2.2.2.2.2.2.1 : Int32) (p106.2.2.2.2.2.2.2.2.2.1 : Int32) (p106.2.2.2.2.2.2.2.2.2.2.1 : Int32) t1_0 t2_0 t3_0 t4_0 (p106.2.2.2.2.2.2.2.2.2.2.2 : (Nat → Int32)) t6_0 = p177 at *
        unfold Q_DR_times at h6
        obtain ⟨h61, h6g, h60⟩ := h6
        have t0k := h60
        unfold S_DR_multiply_c50 F_DR_multiply_c50
        by_cases g7 : (p177.1 : Int32) = (0 : Int32)
        ·
          rw [if_pos g7, if_pos g7]
          refine ⟨trivial, ?_⟩
          (unfold Q_DR_multiply; dsimp only; with_reducible assumption)
        ·
          rw [if_neg g7, if_neg g7]
          have h8 := T_DR_store (x2 := x4) (t0_0 := (p177.2.1 : Int32)) (t0_1 := (p177.2.2.1 : Int32)) (t0_2 := (p177.2.2.2.1 : Int32)) (t0_3 := (p177.2.2.2.2.1 : Int64)) (t0_4 := (p177.2.2.2.2.2.1 : Int32)) (t0_5 := (p177.2.2.2.2.2.2.1 : Int32)) (t0_6 := (p177.2.2.2.2.2.2.2.1 : Int32)) (t0_7 := (p177.2.2.2.2.2.2.2.2.1 : Int32)) (t0_8 := (p177.2.2.2.2.2.2.2.2.2.1 : Int32)) (t0_9 := (p177.2.2.2.2.2.2.2.2.2.2.1 : Int32)) (t0_10 := (p177.2.2.2.2.2.2.2.2.2.2.2.1 : Int32)) (t1_0 := t1_0) (t2_0 := t2_0) (t3_0 := t3_0) (t4_0 := t4_0) (t5_0 := (p177.2.2.2.2.2.2.2.2.2.2.2.2.1 : (Nat → Int32))) (by with_reducible assumption) (by with_reducible assumption) ⟨by first | omega | decide, by first | omega | decide⟩ (by first | with_reducible assumption | exact g_cl (by with_reducible assumption) (by omega) (by omega) | omega | decide)
          with_reducible refine v_owe h8.1 ?_
          replace h8 := h8.2
          generalize F_DR_store x4 (p177.2.1 : Int32) (p177.2.2.1 : Int32) (p177.2.2.2.1 : Int32) (p177.2.2.2.2.1 : Int64) (p177.2.2.2.2.2.1 : Int32) (p177.2.2.2.2.2.2.1 : Int32) (p177.2.2.2.2.2.2.2.1 : Int32) (p177.2.2.2.2.2.2.2.2.1 : Int32) (p177.2.2.2.2.2.2.2.2.2.1 : Int32) (p177.2.2.2.2.2.2.2.2.2.2.1 : Int32) (p177.2.2.2.2.2.2.2.2.2.2.2.1 : Int32) t1_0 t2_0 t3_0 t4_0 (p177.2.2.2.2.2.2.2.2.2.2.2.2.1 : (Nat → Int32)) = p252 at *
          unfold Q_DR_store at h8
          unfold S_DR_multiply_c58 F_DR_multiply_c58
          refine ⟨trivial, ?_⟩
          (unfold Q_DR_multiply; dsimp only; with_reducible assumption)
      ·
        rw [if_neg g3, if_neg g3]
        unfold S_DR_multiply_J22 F_DR_multiply_J22
        unfold S_DR_multiply_J27 F_DR_multiply_J27
        have g9 : ¬ ((1 : Int32) ≤ (0 : Int32)) := (by decide)
        rw [if_neg g9, if_neg g9]
        refine ⟨trivial, ?_⟩
        (unfold Q_DR_multiply; dsimp only; with_reducible assumption)
    ·
      rw [if_neg g2, if_neg g2]
      unfold S_DR_multiply_J22 F_DR_multiply_J22
      unfold S_DR_multiply_J27 F_DR_multiply_J27
      have g10 : ¬ ((1 : Int32) ≤ (0 : Int32)) := (by decide)
      rw [if_neg g10, if_neg g10]
      refine ⟨trivial, ?_⟩
      (unfold Q_DR_multiply; dsimp only; with_reducible assumption)
  ·
    rw [if_neg g1, if_neg g1]
    unfold S_DR_multiply_J22 F_DR_multiply_J22
    unfold S_DR_multiply_J27 F_DR_multiply_J27
    have g11 : ¬ ((1 : Int32) ≤ (0 : Int32)) := (by decide)
    rw [if_neg g11, if_neg g11]
    refine ⟨trivial, ?_⟩
    (unfold Q_DR_multiply; dsimp only; with_reducible assumption)
def Q_DR_power (p : Int32 × Int32 × Int32 × Int64 × Int32 × Int32 × Int32 × Int32 × Int32 × Int32 × Int32 × (Nat → Int32) × (Nat → Int32) × (Nat → Int32) × (Nat → Int32) × (Nat → Int32) × (Nat → Int32)) : Prop := gR p.2.2.2.2.2.2.2.2.2.2.2.1 p.2.2.2.2.2.2.2.2.2.2.2.2.1 p.2.2.2.2.2.2.2.2.2.2.2.2.2.1 p.2.2.2.2.2.2.2.2.2.2.2.2.2.2.1
theorem g_one1 {f : Nat → Int32} : gO (upd f (0 : Int32).toNatClampNeg 1) (1 : Int32).toNatClampNeg := fun i hi => by
  have e : (1 : Int32).toNatClampNeg = 1 := rfl
  have : i = 0 := by omega
  subst this
  have e2 : upd f (0 : Int32).toNatClampNeg 1 0 = 1 := v_eq
  rw [e2]
  exact ⟨by decide, by decide⟩
theorem v_pow {x2 : Int32} {x3 : Int32} {x4 : Int32} {t0_0 : Int32} {t0_1 : Int32} {t0_2 : Int32} {t0_3 : Int64} {t0_4 : Int32} {t0_5 : Int32} {t0_6 : Int32} {t0_7 : Int32} {t0_8 : Int32} {t0_9 : Int32} {t0_10 : Int32} {t1_0 : (Nat → Int32)} {t2_0 : (Nat → Int32)} {t3_0 : (Nat → Int32)} {t4_0 : (Nat → Int32)} {t5_0 : (Nat → Int32)} {t6_0 : (Nat → Int32)} {lx42 : Int32} (hR : gR t1_0 t2_0 t3_0 t4_0)(hx2 : 0 ≤ x2.toInt ∧ x2.toInt ≤ 9) (hx4 : 0 ≤ x4.toInt ∧ x4.toInt ≤ 9) (hx3 : x3.toInt ≤ 999) : ∀ (n : Nat) (lx77 : Int32) (lx78 : Int32) (lx79 : Int32) (lx80 : Int32) (lx81 : Int64) (lx82 : Int32) (lx83 : Int32) (lx84 : Int32) (lx85 : Int32) (lx86 : Int32) (lx87 : Int32) (lx88 : Int32) (lx89 : (Nat → Int32)) (lx90 : (Nat → Int32)), (0 ≤ lx77.toInt ∧ lx77.toInt ≤ x3.toInt) → (x3.toInt - lx77.toInt < (n : Int)) → (1 ≤ lx80.toInt ∧ lx80.toInt ≤ 1000) → (gO lx89 lx80.toNatClampNeg) → (S_DR_power_L77 x2 x3 x4 t0_0 t0_1 t0_2 t0_3 t0_4 t0_5 t0_6 t0_7 t0_8 t0_9 t0_10 t1_0 t2_0 t3_0 t4_0 t5_0 t6_0 lx42 n lx77 lx78 lx79 lx80 lx81 lx82 lx83 lx84 lx85 lx86 lx87 lx88 lx89 lx90) ∧ Q_DR_power (F_DR_power_L77 x2 x3 x4 t0_0 t0_1 t0_2 t0_3 t0_4 t0_5 t0_6 t0_7 t0_8 t0_9 t0_10 t1_0 t2_0 t3_0 t4_0 t5_0 t6_0 lx42 n lx77 lx78 lx79 lx80 lx81 lx82 lx83 lx84 lx85 lx86 lx87 lx88 lx89 lx90) := by
  intro n
  induction n with
  | zero => intro lx77 lx78 lx79 lx80 lx81 lx82 lx83 lx84 lx85 lx86 lx87 lx88 lx89 lx90 h0 hm h1 ho; exact absurd (show False by omega) id
  | succ n ih =>
    intro lx77 lx78 lx79 lx80 lx81 lx82 lx83 lx84 lx85 lx86 lx87 lx88 lx89 lx90 h0 hm h1 ho
    have e0 : (0 : Int32).toInt = 0 := rfl
    have eL0 : (0 : Int64).toInt = 0 := rfl
    have eL1 : (10000 : Int64).toInt = 10000 := rfl
    have eL2 : (-10000 : Int64).toInt = -10000 := rfl
    have eL3 : (1000 : Int64).toInt = 1000 := rfl
    have eL4 : (-1 : Int64).toInt = -1 := rfl
    have eI3 : (1000 : Int32).toInt = 1000 := rfl
    rw [S_DR_power_L77.eq_2, F_DR_power_L77.eq_2]
    by_cases g1 : x3 ≤ lx77
    ·
      rw [if_pos g1, if_pos g1]
      have g1i : x3.toInt ≤ lx77.toInt := q_leI g1
      have h2 := T_DR_store (x2 := x4) (t0_0 := lx78) (t0_1 := lx79) (t0_2 := lx80) (t0_3 := lx81) (t0_4 := lx82) (t0_5 := lx83) (t0_6 := lx84) (t0_7 := lx85) (t0_8 := lx86) (t0_9 := lx87) (t0_10 := lx88) (t1_0 := t1_0) (t2_0 := t2_0) (t3_0 := t3_0) (t4_0 := t4_0) (t5_0 := lx89) (by with_reducible assumption) (by with_reducible assumption) ⟨by first | omega | decide, by first | omega | decide⟩ (by first | with_reducible assumption | exact g_cl (by with_reducible assumption) (by omega) (by omega) | omega | decide)
      with_reducible refine v_owe h2.1 ?_
      replace h2 := h2.2
      generalize F_DR_store x4 lx78 lx79 lx80 lx81 lx82 lx83 lx84 lx85 lx86 lx87 lx88 t1_0 t2_0 t3_0 t4_0 lx89 = p175 at *
      unfold Q_DR_store at h2
      unfold S_DR_power_c105 F_DR_power_c105
      refine ⟨trivial, ?_⟩
      (unfold Q_DR_power; dsimp only; with_reducible assumption)
    ·
      rw [if_neg g1, if_neg g1]
      have g1i : lx77.toInt < x3.toInt := q_nleI g1
      have h3 := T_DR_times (x2 := x2) (t0_0 := lx78) (t0_1 := lx79) (t0_2 := lx80) (t0_3 := lx81) (t0_4 := lx82) (t0_5 := lx83) (t0_6 := lx84) (t0_7 := lx85) (t0_8 := lx86) (t0_9 := lx87) (t0_10 := lx88) (t1_0 := t1_0) (t2_0 := t2_0) (t3_0 := t3_0) (t4_0 := t4_0) (t5_0 := lx89) (t6_0 := lx90) (by with_reducible assumption) (by with_reducible assumption) ⟨by omega, by omega⟩ (by with_reducible assumption)
      with_reducible refine v_owe h3.1 ?_
      replace h3 := h3.2
      generalize F_DR_times x2 lx78 lx79 lx80 lx81 lx82 lx83 lx84 lx85 lx86 lx87 lx88 t1_0 t2_0 t3_0 t4_0 lx89 lx90 = p251 at *
      unfold Q_DR_times at h3
      obtain ⟨h31, h3g, h30⟩ := h3
      have t0k := h30
      unfold S_DR_power_c85 F_DR_power_c85
      by_cases g4 : (p251.1 : Int32) = (0 : Int32)
      ·
        rw [if_pos g4, if_pos g4]
        refine ⟨trivial, ?_⟩
        (unfold Q_DR_power; dsimp only; with_reducible assumption)
      ·
        rw [if_neg g4, if_neg g4]
        have tk := t0k g4
        obtain ⟨a5, e6⟩ := q_nm (lx77 + 1 : Int32)
        rw [e6]
        have a5i : a5.toInt = lx77.toInt + 1 := by rw [← e6]; exact q_addI (x := lx77.toInt) (y := 1) rfl (by decide) (by omega) (by omega)
        exact ih _ _ _ _ _ _ _ _ _ _ _ _ _ _ ⟨by omega, by omega⟩ (by omega) ⟨by omega, by omega⟩ (by with_reducible assumption)
theorem T_DR_power {x2 : Int32} {x3 : Int32} {x4 : Int32} {t0_0 : Int32} {t0_1 : Int32} {t0_2 : Int32} {t0_3 : Int64} {t0_4 : Int32} {t0_5 : Int32} {t0_6 : Int32} {t0_7 : Int32} {t0_8 : Int32} {t0_9 : Int32} {t0_10 : Int32} {t1_0 : (Nat → Int32)} {t2_0 : (Nat → Int32)} {t3_0 : (Nat → Int32)} {t4_0 : (Nat → Int32)} {t5_0 : (Nat → Int32)} {t6_0 : (Nat → Int32)} (hR : gR t1_0 t2_0 t3_0 t4_0) : (S_DR_power x2 x3 x4 t0_0 t0_1 t0_2 t0_3 t0_4 t0_5 t0_6 t0_7 t0_8 t0_9 t0_10 t1_0 t2_0 t3_0 t4_0 t5_0 t6_0) ∧ Q_DR_power (F_DR_power x2 x3 x4 t0_0 t0_1 t0_2 t0_3 t0_4 t0_5 t0_6 t0_7 t0_8 t0_9 t0_10 t1_0 t2_0 t3_0 t4_0 t5_0 t6_0) := by
  have e0 : (0 : Int32).toInt = 0 := rfl
  have eL0 : (0 : Int64).toInt = 0 := rfl
  have eL1 : (10000 : Int64).toInt = 10000 := rfl
  have eL2 : (-10000 : Int64).toInt = -10000 := rfl
  have eL3 : (1000 : Int64).toInt = 1000 := rfl
  have eL4 : (-1 : Int64).toInt = -1 := rfl
  have eI3 : (1000 : Int32).toInt = 1000 := rfl
  have e999 : (999 : Int32).toInt = 999 := rfl
  unfold S_DR_power F_DR_power
  by_cases g1 : ((F_DR_no x2) : Int32) = (0 : Int32)
  ·
    rw [if_pos g1, if_pos g1]
    have g1r := g_no g1
    by_cases g2 : ((F_DR_no x4) : Int32) = (0 : Int32)
    ·
      rw [if_pos g2, if_pos g2]
      have g2r := g_no g2
      by_cases g3 : x3 < (0 : Int32)
      ·
        rw [if_pos g3, if_pos g3]
        have g3i : x3.toInt < 0 := q_ltI g3
        unfold S_DR_power_J26 F_DR_power_J26
        unfold S_DR_power_J31 F_DR_power_J31
        have g4 : ¬ ((1 : Int32) ≤ (0 : Int32)) := (by decide)
        rw [if_neg g4, if_neg g4]
        refine ⟨trivial, ?_⟩
        (unfold Q_DR_power; dsimp only; with_reducible assumption)
      ·
        rw [if_neg g3, if_neg g3]
        have g3i : 0 ≤ x3.toInt := q_nltI g3
        by_cases g5 : x3 ≤ (999 : Int32)
        ·
          rw [if_pos g5, if_pos g5]
          have g5i : x3.toInt ≤ 999 := q_leI g5
          unfold S_DR_power_J31 F_DR_power_J31
          have g6 : ((0 : Int32) ≤ (0 : Int32)) := (by decide)
          rw [if_pos g6, if_pos g6]
          exact v_pow hR (by with_reducible assumption) (by with_reducible assumption) (by omega) _ _ _ _ _ _ _ _ _ _ _ _ _ _ _ ⟨by omega, by omega⟩ (by omega) (by decide) g_one1
        ·
          rw [if_neg g5, if_neg g5]
          have g5i : 999 < x3.toInt := q_nleI g5
          unfold S_DR_power_J26 F_DR_power_J26
          unfold S_DR_power_J31 F_DR_power_J31
          have g7 : ¬ ((1 : Int32) ≤ (0 : Int32)) := (by decide)
          rw [if_neg g7, if_neg g7]
          refine ⟨trivial, ?_⟩
          (unfold Q_DR_power; dsimp only; with_reducible assumption)
    ·
      rw [if_neg g2, if_neg g2]
      unfold S_DR_power_J26 F_DR_power_J26
      unfold S_DR_power_J31 F_DR_power_J31
      have g8 : ¬ ((1 : Int32) ≤ (0 : Int32)) := (by decide)
      rw [if_neg g8, if_neg g8]
      refine ⟨trivial, ?_⟩
      (unfold Q_DR_power; dsimp only; with_reducible assumption)
  ·
    rw [if_neg g1, if_neg g1]
    unfold S_DR_power_J26 F_DR_power_J26
    unfold S_DR_power_J31 F_DR_power_J31
    have g9 : ¬ ((1 : Int32) ≤ (0 : Int32)) := (by decide)
    rw [if_neg g9, if_neg g9]
    refine ⟨trivial, ?_⟩
    (unfold Q_DR_power; dsimp only; with_reducible assumption)

