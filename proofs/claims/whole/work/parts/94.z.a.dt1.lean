/-! DecimalRows: rows of figures; trim, store, load -/
def gO (f : Nat → Int32) (n : Nat) : Prop := ∀ i, i < n → 0 ≤ (f i).toInt ∧ (f i).toInt ≤ 9
theorem gO.mono {f : Nat → Int32} {n m : Nat} (h : gO f n) (hm : m ≤ n) : gO f m := fun i hi => h i (by omega)
theorem gO_upd {f : Nat → Int32} {n i : Nat} {x : Int32} (h : gO f n) (hx : 0 ≤ x.toInt ∧ x.toInt ≤ 9) : gO (upd f i x) n := fun j hj => by
  by_cases e : j = i
  · subst e; rw [v_eq]; exact hx
  · rw [v_ne e]; exact h j hj
theorem gO_push {f : Nat → Int32} {n : Nat} {x : Int32} (h : gO f n) (hx : 0 ≤ x.toInt ∧ x.toInt ≤ 9) : gO (upd f n x) (n + 1) := fun j hj => by
  by_cases e : j = n
  · subst e; rw [v_eq]; exact hx
  · rw [v_ne e]; exact h j (by omega)
/-- the registers of decimals -/
def gR (k m s c : Nat → Int32) : Prop := gO k 10000 ∧ ∀ i, i < 10 → (1 ≤ (m i).toInt ∧ (m i).toInt ≤ 1000) ∧ (0 ≤ (s i).toInt ∧ (s i).toInt ≤ 1) ∧ (-10000 ≤ (c i).toInt ∧ (c i).toInt ≤ 10000)
theorem g_no {x : Int32} (h : F_DR_no x = 0) : 0 ≤ x.toInt ∧ x.toInt ≤ 9 := by
  have e0 : (0 : Int32).toInt = 0 := rfl
  have e1 : (10 : Int32).toInt = 10 := rfl
  unfold F_DR_no at h
  by_cases h1 : x < 0
  · rw [if_pos h1] at h
    exact absurd h (by decide)
  · rw [if_neg h1] at h
    by_cases h2 : x < 10
    · have a := q_nltI h1
      have b := q_ltI h2
      omega
    · rw [if_neg h2] at h
      exact absurd h (by decide)
theorem gR.at {k m s c : Nat → Int32} {x : Int32} (h : gR k m s c) (hx : 0 ≤ x.toInt ∧ x.toInt ≤ 9) : (1 ≤ (m x.toNatClampNeg).toInt ∧ (m x.toNatClampNeg).toInt ≤ 1000) ∧ (0 ≤ (s x.toNatClampNeg).toInt ∧ (s x.toNatClampNeg).toInt ≤ 1) ∧ (-10000 ≤ (c x.toNatClampNeg).toInt ∧ (c x.toNatClampNeg).toInt ≤ 10000) := h.2 _ (by have := q_clI (i := x) rfl hx.1; omega)
theorem g_ix {x k : Int32} (hx : 0 ≤ x.toInt ∧ x.toInt ≤ 9) (hk : 0 ≤ k.toInt ∧ k.toInt ≤ 1000) : ((1000 * x) + k : Int32).toInt = 1000 * x.toInt + k.toInt ∧ ((1000 * x) + k : Int32).toNatClampNeg = 1000 * x.toNatClampNeg + k.toNatClampNeg := by
  have e1 : (1000 * x : Int32).toInt = 1000 * x.toInt := q_mulI (x := 1000) (by decide) rfl (by omega) (by omega)
  have e2 : ((1000 * x) + k : Int32).toInt = 1000 * x.toInt + k.toInt := q_addI e1 rfl (by omega) (by omega)
  have e3 := q_clI (i := (1000 * x) + k) e2 (by omega)
  have e4 := q_clI (i := x) rfl hx.1
  have e5 := q_clI (i := k) rfl hk.1
  exact ⟨e2, by omega⟩
theorem g_i0 {x : Int32} (hx : 0 ≤ x.toInt ∧ x.toInt ≤ 9) : (1000 * x : Int32).toInt = 1000 * x.toInt := q_mulI (x := 1000) (by decide) rfl (by omega) (by omega)
theorem g_kx {k : Nat → Int32} {x i : Int32} (hk : gO k 10000) (hx : 0 ≤ x.toInt ∧ x.toInt ≤ 9) (hi : 0 ≤ i.toInt) (hi2 : i.toInt < 1000) : 0 ≤ (k ((1000 * x) + i : Int32).toNatClampNeg).toInt ∧ (k ((1000 * x) + i : Int32).toNatClampNeg).toInt ≤ 9 := by
  have h := (g_ix hx ⟨hi, by omega⟩).2
  have e4 := q_clI (i := x) rfl hx.1
  have e5 := q_clI (i := i) rfl hi
  rw [h]
  exact hk _ (by omega)
theorem g_cl {n z : Int32} {f : Nat → Int32} (h : gO f n.toNatClampNeg) (h0 : 0 ≤ z.toInt) (hz : z.toInt ≤ n.toInt) : gO f z.toNatClampNeg := h.mono (by have := q_clI (i := n) rfl (by omega); have := q_clI (i := z) rfl h0; omega)
theorem g_mv {n i j : Int32} {f : Nat → Int32} (h : gO f n.toNatClampNeg) (hj : 0 ≤ j.toInt) (hn : j.toInt < n.toInt) : gO (upd f i.toNatClampNeg (f j.toNatClampNeg)) n.toNatClampNeg := gO_upd h (h _ (by have := q_clI (i := n) rfl (by omega); have := q_clI (i := j) rfl hj; omega))
def Q_DR_trim (t0_0 t0_1 t0_2 : Int32) (t0_3 : Int64) (t0_4 t0_6 t0_7 t0_8 t0_9 t0_10 : Int32) (r : Nat → Int32) (p : Int32 × Int32 × Int32 × Int64 × Int32 × Int32 × Int32 × Int32 × Int32 × Int32 × Int32 × (Nat → Int32)) : Prop := (1 ≤ p.2.2.1.toInt ∧ p.2.2.1.toInt ≤ 4400 ∧ (p.2.2.1.toInt ≤ t0_2.toInt ∨ p.2.2.1.toInt = 1) ∧ (r 0 ≠ 0 → 1 ≤ t0_2.toInt → p.2.2.1 = t0_2)) ∧ gO p.2.2.2.2.2.2.2.2.2.2.2 p.2.2.1.toNatClampNeg ∧ (0 ≤ p.2.2.2.2.2.1.toInt ∧ p.2.2.2.2.2.1.toInt ≤ 1) ∧ p.1 = t0_0 ∧ p.2.1 = t0_1 ∧ p.2.2.2.1 = t0_3 ∧ p.2.2.2.2.1 = t0_4 ∧ p.2.2.2.2.2.2.1 = t0_6 ∧ p.2.2.2.2.2.2.2.1 = t0_7 ∧ p.2.2.2.2.2.2.2.2.1 = t0_8 ∧ p.2.2.2.2.2.2.2.2.2.1 = t0_9 ∧ p.2.2.2.2.2.2.2.2.2.2.1 = t0_10
theorem g_trimA {t z : Int32} {f : Nat → Int32} (hg : gO f t.toNatClampNeg) (ht : 0 ≤ t.toInt) (hz : 0 ≤ z.toInt) (h : z.toInt < t.toInt ∨ z.toInt = 0) : gO f (t - z : Int32).toNatClampNeg ∧ (t - z : Int32).toInt = t.toInt - z.toInt := by
  have hb := Int32.toInt_lt t
  have e : (t - z : Int32).toInt = t.toInt - z.toInt := q_subI rfl rfl (by omega) (by omega)
  exact ⟨g_cl hg (by omega) (by omega), e⟩
theorem g_one {f : Nat → Int32} : gO (upd f (0 : Int32).toNatClampNeg 0) (1 : Int32).toNatClampNeg := fun i hi => by
  have e : (1 : Int32).toNatClampNeg = 1 := rfl
  have : i = 0 := by omega
  subst this
  have e2 : upd f (0 : Int32).toNatClampNeg 0 0 = 0 := v_eq
  rw [e2]
  exact ⟨by decide, by decide⟩
theorem v_trm1 {K_F_DR_trim_L2 : Int32 → (Int32 × Int32 × Int32 × Int64 × Int32 × Int32 × Int32 × Int32 × Int32 × Int32 × Int32 × (Nat → Int32))} {t0_0 : Int32} {t0_1 : Int32} {t0_2 : Int32} {t0_3 : Int64} {t0_4 : Int32} {t0_5 : Int32} {t0_6 : Int32} {t0_7 : Int32} {t0_8 : Int32} {t0_9 : Int32} {t0_10 : Int32} {t1_0 : (Nat → Int32)} {lx21 : Int32} {K_S_DR_trim_L2 : Int32 → Prop} (h2 : 0 ≤ t0_2.toInt ∧ t0_2.toInt ≤ 4400) (hg : gO t1_0 t0_2.toNatClampNeg)(h21 : 0 ≤ lx21.toInt ∧ (lx21.toInt < t0_2.toInt ∨ lx21.toInt = 0)) (hz : t1_0 0 ≠ 0 → lx21.toInt = 0) : ∀ (n : Nat) (lx42 : Int32) (lx43 : (Nat → Int32)), (0 ≤ lx42.toInt ∧ lx42.toInt ≤ 4400 ∧ (lx42.toInt + lx21.toInt ≤ t0_2.toInt ∨ lx42.toInt = 0)) → (12200 - lx42.toInt < (n : Int)) → (gO lx43 t0_2.toNatClampNeg) → (S_DR_trim_L29 K_S_DR_trim_L2 t0_0 t0_1 t0_2 t0_3 t0_4 t0_5 t0_6 t0_7 t0_8 t0_9 t0_10 t1_0 lx21 n lx42 lx43) ∧ Q_DR_trim t0_0 t0_1 t0_2 t0_3 t0_4 t0_6 t0_7 t0_8 t0_9 t0_10 t1_0 (F_DR_trim_L29 K_F_DR_trim_L2 t0_0 t0_1 t0_2 t0_3 t0_4 t0_5 t0_6 t0_7 t0_8 t0_9 t0_10 t1_0 lx21 n lx42 lx43) := by
  intro n
  induction n with
  | zero => intro lx42 lx43 h0 hm ho; exact absurd (show False by omega) id
  | succ n ih =>
    intro lx42 lx43 h0 hm ho
    have e0 : (0 : Int32).toInt = 0 := rfl
    rw [S_DR_trim_L29.eq_2, F_DR_trim_L29.eq_2]
    obtain ⟨a1, e2⟩ := q_nm (lx42 + lx21 : Int32)
    rw [e2]
    have a1i : a1.toInt = lx42.toInt + lx21.toInt := by rw [← e2]; exact q_addI (x := lx42.toInt) (y := lx21.toInt) rfl rfl (by omega) (by omega)
    by_cases g3 : t0_2 ≤ a1
    ·
      rw [if_pos g3, if_pos g3]
      have g3i : t0_2.toInt ≤ a1.toInt := q_leI g3
      by_cases g4 : t0_2 = (0 : Int32)
      ·
        rw [if_pos g4, if_pos g4]
        have g4i : t0_2.toInt = 0 := q_eqI g4
        unfold S_DR_trim_J91 F_DR_trim_J91
        by_cases g5 : t0_5 = (0 : Int32)
        ·
          rw [if_pos g5, if_pos g5]
          refine ⟨trivial, ?_⟩
          (unfold Q_DR_trim; dsimp only; first | (refine ⟨⟨by decide, by decide, Or.inr (by decide), fun a b => by have h9 := q_eqI (by with_reducible assumption : t0_2 = 0); omega⟩, g_one, by decide, rfl, rfl, rfl, rfl, rfl, rfl, rfl, rfl, rfl⟩) | (refine ⟨⟨?_, ?_, ?_, ?_⟩, (g_trimA ho h2.1 h21.1 h21.2).1, by decide, rfl, rfl, rfl, rfl, rfl, rfl, rfl, rfl, rfl⟩; all_goals (first | omega | (intro a b; have ez := (g_trimA ho h2.1 h21.1 h21.2).2; have := hz a; exact Int32.toInt_inj.mp (by omega)) | (have ez := (g_trimA ho h2.1 h21.1 h21.2).2; omega))))
        ·
          rw [if_neg g5, if_neg g5]
          by_cases g6 : ((upd lx43 (0 : Int32).toNatClampNeg 0 : (Nat → Int32)) (0 : Int32).toNatClampNeg : Int32) = (0 : Int32)
          ·
            rw [if_pos g6, if_pos g6]
            refine ⟨trivial, ?_⟩
            (unfold Q_DR_trim; dsimp only; first | (refine ⟨⟨by decide, by decide, Or.inr (by decide), fun a b => by have h9 := q_eqI (by with_reducible assumption : t0_2 = 0); omega⟩, g_one, by decide, rfl, rfl, rfl, rfl, rfl, rfl, rfl, rfl, rfl⟩) | (refine ⟨⟨?_, ?_, ?_, ?_⟩, (g_trimA ho h2.1 h21.1 h21.2).1, by decide, rfl, rfl, rfl, rfl, rfl, rfl, rfl, rfl, rfl⟩; all_goals (first | omega | (intro a b; have ez := (g_trimA ho h2.1 h21.1 h21.2).2; have := hz a; exact Int32.toInt_inj.mp (by omega)) | (have ez := (g_trimA ho h2.1 h21.1 h21.2).2; omega))))
          ·
            rw [if_neg g6, if_neg g6]
            refine ⟨trivial, ?_⟩
            (unfold Q_DR_trim; dsimp only; first | (refine ⟨⟨by decide, by decide, Or.inr (by decide), fun a b => by have h9 := q_eqI (by with_reducible assumption : t0_2 = 0); omega⟩, g_one, by decide, rfl, rfl, rfl, rfl, rfl, rfl, rfl, rfl, rfl⟩) | (refine ⟨⟨?_, ?_, ?_, ?_⟩, (g_trimA ho h2.1 h21.1 h21.2).1, by decide, rfl, rfl, rfl, rfl, rfl, rfl, rfl, rfl, rfl⟩; all_goals (first | omega | (intro a b; have ez := (g_trimA ho h2.1 h21.1 h21.2).2; have := hz a; exact Int32.toInt_inj.mp (by omega)) | (have ez := (g_trimA ho h2.1 h21.1 h21.2).2; omega))))
      ·
        rw [if_neg g4, if_neg g4]
        have g4i : t0_2.toInt ≠ 0 := q_neI g4
        unfold S_DR_trim_J91 F_DR_trim_J91
        by_cases g7 : t0_5 = (0 : Int32)
        ·
          rw [if_pos g7, if_pos g7]
          refine ⟨trivial, ?_⟩
          (unfold Q_DR_trim; dsimp only; first | (refine ⟨⟨by decide, by decide, Or.inr (by decide), fun a b => by have h9 := q_eqI (by with_reducible assumption : t0_2 = 0); omega⟩, g_one, by decide, rfl, rfl, rfl, rfl, rfl, rfl, rfl, rfl, rfl⟩) | (refine ⟨⟨?_, ?_, ?_, ?_⟩, (g_trimA ho h2.1 h21.1 h21.2).1, by decide, rfl, rfl, rfl, rfl, rfl, rfl, rfl, rfl, rfl⟩; all_goals (first | omega | (intro a b; have ez := (g_trimA ho h2.1 h21.1 h21.2).2; have := hz a; exact Int32.toInt_inj.mp (by omega)) | (have ez := (g_trimA ho h2.1 h21.1 h21.2).2; omega))))
        ·
          rw [if_neg g7, if_neg g7]
          by_cases g8 : (lx43 (0 : Int32).toNatClampNeg : Int32) = (0 : Int32)
          ·
            rw [if_pos g8, if_pos g8]
            refine ⟨trivial, ?_⟩
            (unfold Q_DR_trim; dsimp only; first | (refine ⟨⟨by decide, by decide, Or.inr (by decide), fun a b => by have h9 := q_eqI (by with_reducible assumption : t0_2 = 0); omega⟩, g_one, by decide, rfl, rfl, rfl, rfl, rfl, rfl, rfl, rfl, rfl⟩) | (refine ⟨⟨?_, ?_, ?_, ?_⟩, (g_trimA ho h2.1 h21.1 h21.2).1, by decide, rfl, rfl, rfl, rfl, rfl, rfl, rfl, rfl, rfl⟩; all_goals (first | omega | (intro a b; have ez := (g_trimA ho h2.1 h21.1 h21.2).2; have := hz a; exact Int32.toInt_inj.mp (by omega)) | (have ez := (g_trimA ho h2.1 h21.1 h21.2).2; omega))))
          ·
            rw [if_neg g8, if_neg g8]
            refine ⟨trivial, ?_⟩
            (unfold Q_DR_trim; dsimp only; first | (refine ⟨⟨by decide, by decide, Or.inr (by decide), fun a b => by have h9 := q_eqI (by with_reducible assumption : t0_2 = 0); omega⟩, g_one, by decide, rfl, rfl, rfl, rfl, rfl, rfl, rfl, rfl, rfl⟩) | (refine ⟨⟨?_, ?_, ?_, ?_⟩, (g_trimA ho h2.1 h21.1 h21.2).1, by decide, rfl, rfl, rfl, rfl, rfl, rfl, rfl, rfl, rfl⟩; all_goals (first | omega | (intro a b; have ez := (g_trimA ho h2.1 h21.1 h21.2).2; have := hz a; exact Int32.toInt_inj.mp (by omega)) | (have ez := (g_trimA ho h2.1 h21.1 h21.2).2; omega))))
    ·
      rw [if_neg g3, if_neg g3]
      have g3i : a1.toInt < t0_2.toInt := q_nleI g3
      refine v_cons (by omega) ?_
      obtain ⟨a9, e10⟩ := q_nm (lx42 + 1 : Int32)
      rw [e10]
      have a9i : a9.toInt = lx42.toInt + 1 := by rw [← e10]; exact q_addI (x := lx42.toInt) (y := 1) rfl (by decide) (by omega) (by omega)
      exact ih _ _ ⟨by omega, by omega, by omega⟩ (by omega) (g_mv ho (by omega) (by omega))
theorem v_trm2 {t0_0 : Int32} {t0_1 : Int32} {t0_2 : Int32} {t0_3 : Int64} {t0_4 : Int32} {t0_5 : Int32} {t0_6 : Int32} {t0_7 : Int32} {t0_8 : Int32} {t0_9 : Int32} {t0_10 : Int32} {t1_0 : (Nat → Int32)} (h2 : 0 ≤ t0_2.toInt ∧ t0_2.toInt ≤ 4400) (hg : gO t1_0 t0_2.toNatClampNeg) : ∀ (n : Nat) (lx21 : Int32), (0 ≤ lx21.toInt ∧ lx21.toInt ≤ 4400 ∧ (lx21.toInt < t0_2.toInt ∨ lx21.toInt = 0)) → (12200 - lx21.toInt < (n : Int)) → (t1_0 0 ≠ 0 → lx21.toInt = 0) → (S_DR_trim_L2 t0_0 t0_1 t0_2 t0_3 t0_4 t0_5 t0_6 t0_7 t0_8 t0_9 t0_10 t1_0 n lx21) ∧ Q_DR_trim t0_0 t0_1 t0_2 t0_3 t0_4 t0_6 t0_7 t0_8 t0_9 t0_10 t1_0 (F_DR_trim_L2 t0_0 t0_1 t0_2 t0_3 t0_4 t0_5 t0_6 t0_7 t0_8 t0_9 t0_10 t1_0 n lx21) := by
  intro n
  induction n with
  | zero => intro lx21 h0 hm hz; exact absurd (show False by omega) id
  | succ n ih =>
    intro lx21 h0 hm hz
    have e0 : (0 : Int32).toInt = 0 := rfl
    rw [S_DR_trim_L2.eq_2, F_DR_trim_L2.eq_2]
    obtain ⟨a1, e2⟩ := q_nm (lx21 + 1 : Int32)
    rw [e2]
    have a1i : a1.toInt = lx21.toInt + 1 := by rw [← e2]; exact q_addI (x := lx21.toInt) (y := 1) rfl (by decide) (by omega) (by omega)
    by_cases g3 : t0_2 ≤ a1
    ·
      rw [if_pos g3, if_pos g3]
      have g3i : t0_2.toInt ≤ a1.toInt := q_leI g3
      unfold S_DR_trim_J27 F_DR_trim_J27
      exact v_trm1 h2 hg ⟨h0.1, h0.2.2⟩ hz _ _ _ (by omega) (by decide) hg
    ·
      rw [if_neg g3, if_neg g3]
      have g3i : a1.toInt < t0_2.toInt := q_nleI g3
      refine v_cons (by omega) ?_
      by_cases g4 : (t1_0 lx21.toNatClampNeg : Int32) = (0 : Int32)
      ·
        rw [if_pos g4, if_pos g4]
        exact ih _ ⟨by omega, by omega, by omega⟩ (by omega) (fun hne => by have h9 := hz hne; have e9 : lx21 = 0 := Int32.toInt_inj.mp (by omega); subst e9; exact absurd (by assumption) hne)
      ·
        rw [if_neg g4, if_neg g4]
        unfold S_DR_trim_J27 F_DR_trim_J27
        exact v_trm1 h2 hg ⟨h0.1, h0.2.2⟩ hz _ _ _ (by omega) (by decide) hg
theorem T_DR_trim {t0_0 : Int32} {t0_1 : Int32} {t0_2 : Int32} {t0_3 : Int64} {t0_4 : Int32} {t0_5 : Int32} {t0_6 : Int32} {t0_7 : Int32} {t0_8 : Int32} {t0_9 : Int32} {t0_10 : Int32} {t1_0 : (Nat → Int32)} (h2 : 0 ≤ t0_2.toInt ∧ t0_2.toInt ≤ 4400) (hg : gO t1_0 t0_2.toNatClampNeg) : (S_DR_trim t0_0 t0_1 t0_2 t0_3 t0_4 t0_5 t0_6 t0_7 t0_8 t0_9 t0_10 t1_0) ∧ Q_DR_trim t0_0 t0_1 t0_2 t0_3 t0_4 t0_6 t0_7 t0_8 t0_9 t0_10 t1_0 (F_DR_trim t0_0 t0_1 t0_2 t0_3 t0_4 t0_5 t0_6 t0_7 t0_8 t0_9 t0_10 t1_0) := by
  have e0 : (0 : Int32).toInt = 0 := rfl
  unfold S_DR_trim F_DR_trim
  exact v_trm2 h2 hg _ _ (by omega) (by decide) (fun _ => rfl)
theorem g_lc1 {a b : Int64} (h : lg_cmp a b < 0) : a.toInt < b.toInt := by
  have h1 := q_ltI h
  have h2 := s_lcmp (a := a) (b := b)
  have e0 : (0 : Int32).toInt = 0 := rfl
  omega
theorem g_lc2 {a b : Int64} (h : ¬ lg_cmp a b < 0) : b.toInt ≤ a.toInt := by
  have h1 := q_nltI h
  have h2 := s_lcmp (a := a) (b := b)
  have e0 : (0 : Int32).toInt = 0 := rfl
  omega
theorem g_lc3 {a b : Int64} (h : lg_cmp a b ≤ 0) : a.toInt ≤ b.toInt := by
  have h1 := q_leI h
  have h2 := s_lcmp (a := a) (b := b)
  have e0 : (0 : Int32).toInt = 0 := rfl
  omega
theorem g_lc4 {a b : Int64} (h : ¬ lg_cmp a b ≤ 0) : b.toInt < a.toInt := by
  have h1 := q_nleI h
  have h2 := s_lcmp (a := a) (b := b)
  have e0 : (0 : Int32).toInt = 0 := rfl
  omega
theorem g_lc5 {a b : Int64} (h : 0 ≤ lg_cmp a b) : b.toInt ≤ a.toInt := by
  have h1 := q_leI h
  have h2 := s_lcmp (a := a) (b := b)
  have e0 : (0 : Int32).toInt = 0 := rfl
  omega
theorem g_lc6 {a b : Int64} (h : ¬ 0 ≤ lg_cmp a b) : a.toInt < b.toInt := by
  have h1 := q_nleI h
  have h2 := s_lcmp (a := a) (b := b)
  have e0 : (0 : Int32).toInt = 0 := rfl
  omega
theorem g_nb {y : Int32} (h : 0 ≤ y.toInt ∧ y.toInt ≤ 1) : (vp_nar .boolean y : Int32) = y := by
  by_cases c : y.toInt = 0
  · have : y = 0 := Int32.toInt_inj.mp c
    rw [this]; decide
  · have : y = 1 := Int32.toInt_inj.mp (show y.toInt = 1 by omega)
    rw [this]; decide
theorem g_st {k m s c g : Nat → Int32} {x a b : Int32} {d : Int64} (h : gR k m s c) (hg : gO g 10000) (ha : 1 ≤ a.toInt ∧ a.toInt ≤ 1000) (hb : 0 ≤ b.toInt ∧ b.toInt ≤ 1) (hd : -10000 ≤ d.toInt ∧ d.toInt ≤ 10000) : gR g (upd m x.toNatClampNeg a) (upd s x.toNatClampNeg (vp_nar .boolean b)) (upd c x.toNatClampNeg d.toInt32) := by
  have e : d.toInt32.toInt = d.toInt := s_l2i (by omega) (by omega)
  refine ⟨hg, fun i hi => ?_⟩
  rw [g_nb hb]
  by_cases c : i = x.toNatClampNeg
  · subst c
    rw [v_eq, v_eq, v_eq, e]
    exact ⟨ha, hb, hd⟩
  · rw [v_ne c, v_ne c, v_ne c]
    exact h.2 i hi
def Q_DR_store (p : Int32 × Int32 × Int32 × Int64 × Int32 × Int32 × Int32 × Int32 × Int32 × Int32 × Int32 × (Nat → Int32) × (Nat → Int32) × (Nat → Int32) × (Nat → Int32) × (Nat → Int32)) : Prop := gR p.2.2.2.2.2.2.2.2.2.2.2.1 p.2.2.2.2.2.2.2.2.2.2.2.2.1 p.2.2.2.2.2.2.2.2.2.2.2.2.2.1 p.2.2.2.2.2.2.2.2.2.2.2.2.2.2.1
theorem v_sto {x2 : Int32} {t0_0 : Int32} {t0_1 : Int32} {t0_2 : Int32} {t0_3 : Int64} {t0_4 : Int32} {t0_5 : Int32} {t0_6 : Int32} {t0_7 : Int32} {t0_8 : Int32} {t0_9 : Int32} {t0_10 : Int32} {t1_0 : (Nat → Int32)} {t2_0 : (Nat → Int32)} {t3_0 : (Nat → Int32)} {t4_0 : (Nat → Int32)} {t5_0 : (Nat → Int32)} {p75 : (Int32 × Int32 × Int32 × Int64 × Int32 × Int32 × Int32 × Int32 × Int32 × Int32 × Int32 × (Nat → Int32))} {y36 : Int32} {y37 : Int32} {y38 : Int32} {y39 : Int64} {y40 : Int32} {y41 : Int32} {y42 : Int32} {y43 : Int32} {y44 : Int32} {y45 : Int32} {y46 : Int32} {f47 : (Nat → Int32)} (hR : gR t1_0 t2_0 t3_0 t4_0) (hx : 0 ≤ x2.toInt ∧ x2.toInt ≤ 9)(h38 : 1 ≤ y38.toInt ∧ y38.toInt ≤ 1000) (hg : gO f47 y38.toNatClampNeg) (h41 : 0 ≤ y41.toInt ∧ y41.toInt ≤ 1) (h39 : -10000 ≤ y39.toInt ∧ y39.toInt ≤ 10000) : ∀ (n : Nat) (lx113 : Int32) (lx114 : (Nat → Int32)), (0 ≤ lx113.toInt ∧ lx113.toInt ≤ y38.toInt) → (1000 - lx113.toInt < (n : Int)) → (gO lx114 10000) → (S_DR_store_L47 x2 t0_0 t0_1 t0_2 t0_3 t0_4 t0_5 t0_6 t0_7 t0_8 t0_9 t0_10 t1_0 t2_0 t3_0 t4_0 t5_0 p75 y36 y37 y38 y39 y40 y41 y42 y43 y44 y45 y46 f47 n lx113 lx114) ∧ Q_DR_store (F_DR_store_L47 x2 t0_0 t0_1 t0_2 t0_3 t0_4 t0_5 t0_6 t0_7 t0_8 t0_9 t0_10 t1_0 t2_0 t3_0 t4_0 t5_0 p75 y36 y37 y38 y39 y40 y41 y42 y43 y44 y45 y46 f47 n lx113 lx114) := by
  intro n
  induction n with
  | zero => intro lx113 lx114 h0 hm ho; exact absurd (show False by omega) id
  | succ n ih =>
    intro lx113 lx114 h0 hm ho
    rw [S_DR_store_L47.eq_2, F_DR_store_L47.eq_2]
    by_cases g1 : y38 ≤ lx113
    ·
      rw [if_pos g1, if_pos g1]
      have g1i : y38.toInt ≤ lx113.toInt := q_leI g1
      refine v_cons (by omega) ?_
      refine v_cons (by omega) ?_
      refine ⟨trivial, ?_⟩
      (unfold Q_DR_store; dsimp only; exact g_st hR ho h38 h41 h39)
    ·
      rw [if_neg g1, if_neg g1]
      have g1i : lx113.toInt < y38.toInt := q_nleI g1
      refine v_cons (by have := (g_ix (x := x2) (k := lx113) (by with_reducible assumption) ⟨by omega, by omega⟩).1; omega) ?_
      refine v_cons (by have := (g_ix (x := x2) (k := lx113) (by with_reducible assumption) ⟨by omega, by omega⟩).1; omega) ?_
      obtain ⟨a2, e3⟩ := q_nm (lx113 + 1 : Int32)
      rw [e3]
      have a2i : a2.toInt = lx113.toInt + 1 := by rw [← e3]; exact q_addI (x := lx113.toInt) (y := 1) rfl (by decide) (by omega) (by omega)
      exact ih _ _ ⟨by omega, by omega⟩ (by omega) (gO_upd ho (hg _ (by have e7 := q_clI (i := y38) rfl (by omega); have e8 := q_clI (i := lx113) rfl (by omega); omega)))
theorem T_DR_store {x2 : Int32} {t0_0 : Int32} {t0_1 : Int32} {t0_2 : Int32} {t0_3 : Int64} {t0_4 : Int32} {t0_5 : Int32} {t0_6 : Int32} {t0_7 : Int32} {t0_8 : Int32} {t0_9 : Int32} {t0_10 : Int32} {t1_0 : (Nat → Int32)} {t2_0 : (Nat → Int32)} {t3_0 : (Nat → Int32)} {t4_0 : (Nat → Int32)} {t5_0 : (Nat → Int32)} (hR : gR t1_0 t2_0 t3_0 t4_0) (hx : 0 ≤ x2.toInt ∧ x2.toInt ≤ 9)(h2 : 0 ≤ t0_2.toInt ∧ t0_2.toInt ≤ 4400) (hg : gO t5_0 t0_2.toNatClampNeg) : (S_DR_store x2 t0_0 t0_1 t0_2 t0_3 t0_4 t0_5 t0_6 t0_7 t0_8 t0_9 t0_10 t1_0 t2_0 t3_0 t4_0 t5_0) ∧ Q_DR_store (F_DR_store x2 t0_0 t0_1 t0_2 t0_3 t0_4 t0_5 t0_6 t0_7 t0_8 t0_9 t0_10 t1_0 t2_0 t3_0 t4_0 t5_0) := by
  have e0 : (0 : Int32).toInt = 0 := rfl
  have eL0 : (0 : Int64).toInt = 0 := rfl
  have eL1 : (10000 : Int64).toInt = 10000 := rfl
  have eL2 : (-10000 : Int64).toInt = -10000 := rfl
  have eL3 : (1000 : Int64).toInt = 1000 := rfl
  have eL4 : (-1 : Int64).toInt = -1 := rfl
  have eI3 : (1000 : Int32).toInt = 1000 := rfl
  unfold S_DR_store F_DR_store
  have h1 := T_DR_trim (t0_0 := t0_0) (t0_1 := t0_1) (t0_2 := t0_2) (t0_3 := t0_3) (t0_4 := t0_4) (t0_5 := t0_5) (t0_6 := t0_6) (t0_7 := t0_7) (t0_8 := t0_8) (t0_9 := t0_9) (t0_10 := t0_10) (t1_0 := t5_0) (by first | with_reducible assumption | omega | decide) (by first | with_reducible assumption | omega | decide)
  with_reducible refine v_owe h1.1 ?_
  replace h1 := h1.2
  generalize F_DR_trim t0_0 t0_1 t0_2 t0_3 t0_4 t0_5 t0_6 t0_7 t0_8 t0_9 t0_10 t5_0 = p75 at *
  unfold Q_DR_trim at h1
  obtain ⟨⟨h11, h12, h13, h19⟩, h1g, h15, h1a, h1b, h1s, h1m, h1x6, h1x7, h1x8, h1x9, h1x10⟩ := h1
  unfold S_DR_store_c1 F_DR_store_c1
  by_cases g2 : (1000 : Int32) < (p75.2.2.1 : Int32)
  ·
    rw [if_pos g2, if_pos g2]
    have g2i := q_ltI g2
    refine ⟨trivial, ?_⟩
    (unfold Q_DR_store; dsimp only; exact hR)
  ·
    rw [if_neg g2, if_neg g2]
    have g2i := q_nltI g2
    by_cases g3 : (lg_cmp (p75.2.2.2.1 : Int64) (-10000) : Int32) < (0 : Int32)
    ·
      rw [if_pos g3, if_pos g3]
      have g3l := g_lc1 g3
      refine ⟨trivial, ?_⟩
      (unfold Q_DR_store; dsimp only; exact hR)
    ·
      rw [if_neg g3, if_neg g3]
      have g3l := g_lc2 g3
      by_cases g4 : (lg_cmp (p75.2.2.2.1 : Int64) 10000 : Int32) ≤ (0 : Int32)
      ·
        rw [if_pos g4, if_pos g4]
        have g4l := g_lc3 g4
        exact v_sto hR hx ⟨by omega, by omega⟩ (by with_reducible assumption) (by omega) ⟨by omega, by omega⟩ _ _ _ (by omega) (by decide) hR.1
      ·
        rw [if_neg g4, if_neg g4]
        have g4l := g_lc4 g4
        refine ⟨trivial, ?_⟩
        (unfold Q_DR_store; dsimp only; exact hR)
def Q_DR_load (x2 t0_10 : Int32) (t1_0 : Nat → Int32) (p : Int32 × Int32 × Int32 × Int64 × Int32 × Int32 × Int32 × Int32 × Int32 × Int32 × Int32 × (Nat → Int32)) : Prop := (1 ≤ p.2.2.1.toInt ∧ p.2.2.1.toInt ≤ 1000) ∧ gO p.2.2.2.2.2.2.2.2.2.2.2 p.2.2.1.toNatClampNeg ∧ (-10000 ≤ p.2.2.2.1.toInt ∧ p.2.2.2.1.toInt ≤ 10000) ∧ p.2.2.2.2.1 = 0 ∧ (0 ≤ p.2.2.2.2.2.1.toInt ∧ p.2.2.2.2.2.1.toInt ≤ 1) ∧ (p.2.2.2.2.2.2.2.2.2.2.2 0 = t1_0 (1000 * x2).toNatClampNeg) ∧ p.2.2.2.2.2.2.2.2.2.2.1 = t0_10
theorem g_ldS {x k k1 : Int32} {K r : Nat → Int32} (hx : 0 ≤ x.toInt ∧ x.toInt ≤ 9) (hk : 0 ≤ k.toInt ∧ k.toInt < 1000) (h1 : k1.toInt = k.toInt + 1) (hr : ∀ i : Nat, (i : Int) < k.toInt → r i = K (1000 * x.toNatClampNeg + i)) : ∀ i : Nat, (i : Int) < k1.toInt → upd r k.toNatClampNeg (K ((1000 * x) + k : Int32).toNatClampNeg) i = K (1000 * x.toNatClampNeg + i) := fun i hi => by
  have e8 := q_clI (i := k) rfl hk.1
  rw [(g_ix hx ⟨hk.1, by omega⟩).2]
  by_cases c : i = k.toNatClampNeg
  · rw [c, v_eq]
  · rw [v_ne c]; exact hr i (by omega)
theorem g_ld {x : Int32} {k r : Nat → Int32} (hx : 0 ≤ x.toInt ∧ x.toInt ≤ 9) (h : ∀ i : Nat, (i : Int) < 1 → r i = k (1000 * x.toNatClampNeg + i)) : r 0 = k (1000 * x : Int32).toNatClampNeg := by
  have e := q_clI (i := 1000 * x) (g_i0 hx) (by omega)
  have e4 := q_clI (i := x) rfl hx.1
  have e5 : (1000 * x : Int32).toNatClampNeg = 1000 * x.toNatClampNeg := by omega
  rw [e5]
  exact h 0 (by decide)
theorem v_loa {x2 : Int32} {t0_0 : Int32} {t0_1 : Int32} {t0_2 : Int32} {t0_3 : Int64} {t0_4 : Int32} {t0_5 : Int32} {t0_6 : Int32} {t0_7 : Int32} {t0_8 : Int32} {t0_9 : Int32} {t0_10 : Int32} {t1_0 : (Nat → Int32)} {t2_0 : (Nat → Int32)} {t3_0 : (Nat → Int32)} {t4_0 : (Nat → Int32)} {t5_0 : (Nat → Int32)} {a34 : Int32} (hR : gR t1_0 t2_0 t3_0 t4_0) (hx : 0 ≤ x2.toInt ∧ x2.toInt ≤ 9)(ha : 1 ≤ a34.toInt ∧ a34.toInt ≤ 1000) : ∀ (n : Nat) (lx39 : Int32) (lx40 : (Nat → Int32)), (0 ≤ lx39.toInt ∧ lx39.toInt ≤ a34.toInt) → (12200 - lx39.toInt < (n : Int)) → (∀ i : Nat, (i : Int) < lx39.toInt → lx40 i = t1_0 (1000 * x2.toNatClampNeg + i)) → (S_DR_load_L12 x2 t0_0 t0_1 t0_2 t0_3 t0_4 t0_5 t0_6 t0_7 t0_8 t0_9 t0_10 t1_0 t2_0 t3_0 t4_0 t5_0 a34 n lx39 lx40) ∧ Q_DR_load x2 t0_10 t1_0 (F_DR_load_L12 x2 t0_0 t0_1 t0_2 t0_3 t0_4 t0_5 t0_6 t0_7 t0_8 t0_9 t0_10 t1_0 t2_0 t3_0 t4_0 t5_0 a34 n lx39 lx40) := by
  intro n
  induction n with
  | zero => intro lx39 lx40 h0 hm hr; exact absurd (show False by omega) id
  | succ n ih =>
    intro lx39 lx40 h0 hm hr
    rw [S_DR_load_L12.eq_2, F_DR_load_L12.eq_2]
    by_cases g1 : a34 ≤ lx39
    ·
      rw [if_pos g1, if_pos g1]
      have g1i : a34.toInt ≤ lx39.toInt := q_leI g1
      refine v_cons (by have := (gR.at hR hx).2.1; omega) ?_
      refine v_cons (by have := (gR.at hR hx).2.1; omega) ?_
      refine ⟨trivial, ?_⟩
      (unfold Q_DR_load; dsimp only; (refine ⟨⟨ha.1, ha.2⟩, fun i hi => (by rw [hr i (by have e7 := q_clI (i := a34) rfl (by omega); omega)]; exact hR.1 _ (by have e7 := q_clI (i := a34) rfl (by omega); have e8 := q_clI (i := x2) rfl hx.1; omega)), ?_, rfl, (gR.at hR hx).2.1, g_ld hx (fun i hi => hr i (by omega)), rfl⟩; rw [q_i2l rfl]; exact (gR.at hR hx).2.2))
    ·
      rw [if_neg g1, if_neg g1]
      have g1i : lx39.toInt < a34.toInt := q_nleI g1
      refine v_cons (by have := (g_ix (x := x2) (k := lx39) (by with_reducible assumption) ⟨by omega, by omega⟩).1; omega) ?_
      refine v_cons (by omega) ?_
      obtain ⟨a2, e3⟩ := q_nm (lx39 + 1 : Int32)
      rw [e3]
      have a2i : a2.toInt = lx39.toInt + 1 := by rw [← e3]; exact q_addI (x := lx39.toInt) (y := 1) rfl (by decide) (by omega) (by omega)
      exact ih _ _ ⟨by omega, by omega⟩ (by omega) (g_ldS hx ⟨by omega, by omega⟩ a2i hr)
theorem T_DR_load {x2 : Int32} {t0_0 : Int32} {t0_1 : Int32} {t0_2 : Int32} {t0_3 : Int64} {t0_4 : Int32} {t0_5 : Int32} {t0_6 : Int32} {t0_7 : Int32} {t0_8 : Int32} {t0_9 : Int32} {t0_10 : Int32} {t1_0 : (Nat → Int32)} {t2_0 : (Nat → Int32)} {t3_0 : (Nat → Int32)} {t4_0 : (Nat → Int32)} {t5_0 : (Nat → Int32)} (hR : gR t1_0 t2_0 t3_0 t4_0) (hx : 0 ≤ x2.toInt ∧ x2.toInt ≤ 9) : (S_DR_load x2 t0_0 t0_1 t0_2 t0_3 t0_4 t0_5 t0_6 t0_7 t0_8 t0_9 t0_10 t1_0 t2_0 t3_0 t4_0 t5_0) ∧ Q_DR_load x2 t0_10 t1_0 (F_DR_load x2 t0_0 t0_1 t0_2 t0_3 t0_4 t0_5 t0_6 t0_7 t0_8 t0_9 t0_10 t1_0 t2_0 t3_0 t4_0 t5_0) := by
  have e0 : (0 : Int32).toInt = 0 := rfl
  unfold S_DR_load F_DR_load
  refine v_cons (by omega) ?_
  refine v_cons (by omega) ?_
  exact v_loa hR hx (gR.at hR hx).1 _ _ _ (by have := (gR.at hR hx).1; omega) (by decide) (fun i hi => by omega)
