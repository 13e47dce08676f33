/-! DecimalRows: takesRoot, nextRoot -/
theorem g_dbl {b c : Int32} (hb : 0 ≤ b.toInt ∧ b.toInt ≤ 9) (hc : 0 ≤ c.toInt ∧ c.toInt ≤ 9) : (0 ≤ (2 * b * c : Int32).toInt ∧ (2 * b * c : Int32).toInt ≤ 162) ∧ (c.toInt = 0 → (2 * b * c : Int32).toInt = 0) := by
  have e1 : (2 * b : Int32).toInt = 2 * b.toInt := q_mulI (x := 2) (by decide) rfl (by omega) (by omega)
  have h1 : 0 ≤ (2 * b.toInt) * c.toInt := Int.mul_nonneg (by omega) hc.1
  have h2 : (2 * b.toInt) * c.toInt ≤ 18 * 9 := Int.mul_le_mul (by omega) hc.2 hc.1 (by decide)
  have e : (2 * b * c : Int32).toInt = (2 * b.toInt) * c.toInt := q_mulI e1 rfl (by omega) (by omega)
  refine ⟨by omega, fun h => ?_⟩
  rw [e, h, Int.mul_zero]
theorem g_c17 {v : Int32} (h : 0 ≤ v.toInt ∧ v.toInt ≤ 179) : 0 ≤ (v / 10).toInt ∧ (v / 10).toInt ≤ 17 := by rw [g_q10 h.1]; omega
theorem g_c0 {v : Int32} (h : v.toInt = 0) : (v / 10).toInt = 0 := by rw [g_q10 (by omega)]; omega
theorem g_m0 {v : Int32} (h : v.toInt = 0) : (v - v / 10 * 10 : Int32).toInt = 0 := by
  have e : v = 0 := Int32.toInt_inj.mp (by rw [h]; rfl)
  rw [e]; decide
theorem g_und {f : Nat → Int32} {A k k1 s w x : Int32} (hA : A.toInt = s.toInt - 1 - k.toInt) (h0 : 0 ≤ A.toInt) (hk1 : k1.toInt = k.toInt + 1) (ho : ∀ i : Nat, s.toInt - k.toInt ≤ (i : Int) → (i : Int) < s.toInt → (0 ≤ (f i).toInt ∧ (f i).toInt ≤ 9) ∧ (x.toInt = 0 → (f i).toInt = 0)) (hw : (0 ≤ w.toInt ∧ w.toInt ≤ 9) ∧ (x.toInt = 0 → w.toInt = 0)) : ∀ i : Nat, s.toInt - k1.toInt ≤ (i : Int) → (i : Int) < s.toInt → (0 ≤ (upd f A.toNatClampNeg w i).toInt ∧ (upd f A.toNatClampNeg w i).toInt ≤ 9) ∧ (x.toInt = 0 → (upd f A.toNatClampNeg w i).toInt = 0) := fun i h1 h2 => by
  have e7 := q_clI (i := A) rfl h0
  by_cases c : i = A.toNatClampNeg
  · rw [c, v_eq]; exact hw
  · rw [v_ne c]; exact ho i (by omega) h2
theorem g_sbE {l u b : Int32} (hl : 0 ≤ l.toInt ∧ l.toInt ≤ 9) (hu : 0 ≤ u.toInt ∧ u.toInt ≤ 9) (hb : 0 ≤ b.toInt ∧ b.toInt ≤ 1) : (l - u - b : Int32).toInt = l.toInt - u.toInt - b.toInt := by
  have e : (l - u : Int32).toInt = l.toInt - u.toInt := q_subI rfl rfl (by omega) (by omega)
  exact q_subI e rfl (by omega) (by omega)
theorem g_sb1 {l u b : Int32} (hl : 0 ≤ l.toInt ∧ l.toInt ≤ 9) (hu : 0 ≤ u.toInt ∧ u.toInt ≤ 9) (hb : 0 ≤ b.toInt ∧ b.toInt ≤ 1) (g : (0 : Int32) ≤ (l - u - b : Int32)) : 0 ≤ (l - u - b : Int32).toInt ∧ (l - u - b : Int32).toInt ≤ 9 := by
  have g2 := q_leI g
  have e0 : (0 : Int32).toInt = 0 := rfl
  have e := g_sbE hl hu hb
  omega
theorem g_sb2 {l u b : Int32} (hl : 0 ≤ l.toInt ∧ l.toInt ≤ 9) (hu : 0 ≤ u.toInt ∧ u.toInt ≤ 9) (hb : 0 ≤ b.toInt ∧ b.toInt ≤ 1) (g : ¬ (0 : Int32) ≤ (l - u - b : Int32)) : 0 ≤ (l - u - b + 10 : Int32).toInt ∧ (l - u - b + 10 : Int32).toInt ≤ 9 := by
  have g2 := q_nleI g
  have e0 : (0 : Int32).toInt = 0 := rfl
  have e := g_sbE hl hu hb
  have e2 : (l - u - b + 10 : Int32).toInt = (l.toInt - u.toInt - b.toInt) + 10 := q_addI e (by decide) (by omega) (by omega)
  omega
/-- the fields that takesRoot and nextRoot leave -/
def gK (a0 a1 : Int32) (a3 : Int64) (a4 a5 a6 a9 a10 b0 b1 : Int32) (b3 : Int64) (b4 b5 b6 b9 b10 : Int32) : Prop := a0 = b0 ∧ a1 = b1 ∧ a3 = b3 ∧ a4 = b4 ∧ a5 = b5 ∧ a6 = b6 ∧ a9 = b9 ∧ a10 = b10
theorem gK.rfl' {a0 a1 : Int32} {a3 : Int64} {a4 a5 a6 a9 a10 : Int32} : gK a0 a1 a3 a4 a5 a6 a9 a10 a0 a1 a3 a4 a5 a6 a9 a10 := ⟨rfl, rfl, rfl, rfl, rfl, rfl, rfl, rfl⟩
theorem gK.trans {a0 a1 : Int32} {a3 : Int64} {a4 a5 a6 a9 a10 b0 b1 : Int32} {b3 : Int64} {b4 b5 b6 b9 b10 c0 c1 : Int32} {c3 : Int64} {c4 c5 c6 c9 c10 : Int32} (h : gK a0 a1 a3 a4 a5 a6 a9 a10 b0 b1 b3 b4 b5 b6 b9 b10) (h2 : gK b0 b1 b3 b4 b5 b6 b9 b10 c0 c1 c3 c4 c5 c6 c9 c10) : gK a0 a1 a3 a4 a5 a6 a9 a10 c0 c1 c3 c4 c5 c6 c9 c10 :=
  ⟨h.1.trans h2.1, h.2.1.trans h2.2.1, h.2.2.1.trans h2.2.2.1, h.2.2.2.1.trans h2.2.2.2.1, h.2.2.2.2.1.trans h2.2.2.2.2.1, h.2.2.2.2.2.1.trans h2.2.2.2.2.2.1, h.2.2.2.2.2.2.1.trans h2.2.2.2.2.2.2.1, h.2.2.2.2.2.2.2.trans h2.2.2.2.2.2.2.2⟩
def Q_DR_takesRoot (x2 t0_0 t0_1 t0_2 : Int32) (t0_3 : Int64) (t0_4 t0_5 t0_6 t0_8 t0_9 t0_10 : Int32) (t3_0 : Nat → Int32) (p : Int32 × Int32 × Int32 × Int32 × Int64 × Int32 × Int32 × Int32 × Int32 × Int32 × Int32 × Int32 × (Nat → Int32) × (Nat → Int32)) : Prop := gK p.2.1 p.2.2.1 p.2.2.2.2.1 p.2.2.2.2.2.1 p.2.2.2.2.2.2.1 p.2.2.2.2.2.2.2.1 p.2.2.2.2.2.2.2.2.2.2.1 p.2.2.2.2.2.2.2.2.2.2.2.1 t0_0 t0_1 t0_3 t0_4 t0_5 t0_6 t0_9 t0_10 ∧ p.2.2.2.1 = t0_2 ∧ p.2.2.2.2.2.2.2.2.2.1 = t0_8 ∧ gO p.2.2.2.2.2.2.2.2.2.2.2.2.2 t0_8.toNatClampNeg ∧ (x2.toInt = 0 → p.1 ≠ 0) ∧ (p.1 = 0 → p.2.2.2.2.2.2.2.2.2.2.2.2.2 = t3_0)
theorem v_tr3 {K_F_DR_takesRoot_L34 : Int32 → Int32 → (Nat → Int32) → (Int32 × Int32 × Int32 × Int32 × Int64 × Int32 × Int32 × Int32 × Int32 × Int32 × Int32 × Int32 × (Nat → Int32) × (Nat → Int32))} {K_F_DR_takesRoot_L141 : Int32 → (Int32 × Int32 × Int32 × Int32 × Int64 × Int32 × Int32 × Int32 × Int32 × Int32 × Int32 × Int32 × (Nat → Int32) × (Nat → Int32))} {x2 : Int32} {t0_0 : Int32} {t0_1 : Int32} {t0_2 : Int32} {t0_3 : Int64} {t0_4 : Int32} {t0_5 : Int32} {t0_6 : Int32} {t0_7 : Int32} {t0_8 : Int32} {t0_9 : Int32} {t0_10 : Int32} {t1_0 : (Nat → Int32)} {t2_0 : (Nat → Int32)} {t3_0 : (Nat → Int32)} {a38 : Int32} {lx42 : Int32} {lx43 : Int32} {lx44 : (Nat → Int32)} {lx62 : Int32} {K_S_DR_takesRoot_L34 : Int32 → Int32 → (Nat → Int32) → Prop} {K_S_DR_takesRoot_L141 : Int32 → Prop} (h2 : 0 ≤ t0_2.toInt ∧ t0_2.toInt ≤ 1000) (h8 : 0 ≤ t0_8.toInt ∧ t0_8.toInt ≤ 2200) (hr : gO t1_0 t0_2.toNatClampNeg) (hl : gO t3_0 t0_8.toNatClampNeg) (hx : 0 ≤ x2.toInt ∧ x2.toInt ≤ 9)(hu : ∀ i : Nat, (i : Int) < t0_8.toInt → (0 ≤ (lx44 i).toInt ∧ (lx44 i).toInt ≤ 9) ∧ (x2.toInt = 0 → (lx44 i).toInt = 0)) : ∀ (n : Nat) (lx75 : Int32) (lx76 : Int32) (lx77 : (Nat → Int32)), (-1 ≤ lx75.toInt ∧ lx75.toInt < t0_8.toInt) → (lx75.toInt + 1 < (n : Int)) → (0 ≤ lx76.toInt ∧ lx76.toInt ≤ 1) → (gO lx77 t0_8.toNatClampNeg) → (S_DR_takesRoot_L209 K_S_DR_takesRoot_L34 K_S_DR_takesRoot_L141 x2 t0_0 t0_1 t0_2 t0_3 t0_4 t0_5 t0_6 t0_7 t0_8 t0_9 t0_10 t1_0 t2_0 t3_0 a38 lx42 lx43 lx44 lx62 n lx75 lx76 lx77) ∧ (fun p => Q_DR_takesRoot x2 t0_0 t0_1 t0_2 t0_3 t0_4 t0_5 t0_6 t0_8 t0_9 t0_10 t3_0 p ∧ p.1 = 1) (F_DR_takesRoot_L209 K_F_DR_takesRoot_L34 K_F_DR_takesRoot_L141 x2 t0_0 t0_1 t0_2 t0_3 t0_4 t0_5 t0_6 t0_7 t0_8 t0_9 t0_10 t1_0 t2_0 t3_0 a38 lx42 lx43 lx44 lx62 n lx75 lx76 lx77) := by
  intro n
  induction n with
  | zero => intro lx75 lx76 lx77 h0 hm hb ho; exact absurd (show False by omega) id
  | succ n ih =>
    intro lx75 lx76 lx77 h0 hm hb ho
    have e0 : (0 : Int32).toInt = 0 := rfl
    have eL0 : (0 : Int64).toInt = 0 := rfl
    have eL1 : (10000 : Int64).toInt = 10000 := rfl
    have eL2 : (-10000 : Int64).toInt = -10000 := rfl
    have eL3 : (1000 : Int64).toInt = 1000 := rfl
    have eL4 : (-1 : Int64).toInt = -1 := rfl
    have eI3 : (1000 : Int32).toInt = 1000 := rfl
    rw [S_DR_takesRoot_L209.eq_2, F_DR_takesRoot_L209.eq_2]
    by_cases g1 : lx75 < (0 : Int32)
    ·
      rw [if_pos g1, if_pos g1]
      have g1i : lx75.toInt < 0 := q_ltI g1
      refine ⟨trivial, ?_⟩
      (refine ⟨?_, rfl⟩; unfold Q_DR_takesRoot; dsimp only; exact ⟨gK.rfl', rfl, rfl, by with_reducible assumption, fun _ => by decide, fun h => absurd h (by decide)⟩)
    ·
      rw [if_neg g1, if_neg g1]
      have g1i : 0 ≤ lx75.toInt := q_nltI g1
      refine v_cons (by omega) ?_
      refine v_cons (by omega) ?_
      by_cases g2 : (0 : Int32) ≤ (((lx77 lx75.toNatClampNeg : Int32) - (lx44 lx75.toNatClampNeg : Int32) : Int32) - lx76 : Int32)
      ·
        rw [if_pos g2, if_pos g2]
        obtain ⟨a3, e4⟩ := q_nm (lx75 + (-1) : Int32)
        rw [e4]
        have a3i : a3.toInt = lx75.toInt + (-1) := by rw [← e4]; exact q_addI (x := lx75.toInt) (y := (-1)) rfl (by decide) (by omega) (by omega)
        have e75 := q_clI (i := lx75) rfl (by omega); have q1 := g_at9 ho (i := lx75) (by omega) (by omega); have q2 := (hu lx75.toNatClampNeg (by omega)).1; exact ih _ _ _ ⟨by omega, by omega⟩ (by omega) (by decide) (gO_upd ho (g_sb1 q1 q2 hb g2))
      ·
        rw [if_neg g2, if_neg g2]
        obtain ⟨a5, e6⟩ := q_nm (lx75 + (-1) : Int32)
        rw [e6]
        have a5i : a5.toInt = lx75.toInt + (-1) := by rw [← e6]; exact q_addI (x := lx75.toInt) (y := (-1)) rfl (by decide) (by omega) (by omega)
        have e75 := q_clI (i := lx75) rfl (by omega); have q1 := g_at9 ho (i := lx75) (by omega) (by omega); have q2 := (hu lx75.toNatClampNeg (by omega)).1; exact ih _ _ _ ⟨by omega, by omega⟩ (by omega) (by decide) (gO_upd ho (g_sb2 q1 q2 hb g2))
theorem q_leI2 {a b : Int32} (h : a.toInt ≤ b.toInt) : a ≤ b := Int32.le_iff_toInt_le.mpr h
theorem v_tr2 {K_F_DR_takesRoot_L34 : Int32 → Int32 → (Nat → Int32) → (Int32 × Int32 × Int32 × Int32 × Int64 × Int32 × Int32 × Int32 × Int32 × Int32 × Int32 × Int32 × (Nat → Int32) × (Nat → Int32))} {x2 : Int32} {t0_0 : Int32} {t0_1 : Int32} {t0_2 : Int32} {t0_3 : Int64} {t0_4 : Int32} {t0_5 : Int32} {t0_6 : Int32} {t0_7 : Int32} {t0_8 : Int32} {t0_9 : Int32} {t0_10 : Int32} {t1_0 : (Nat → Int32)} {t2_0 : (Nat → Int32)} {t3_0 : (Nat → Int32)} {a38 : Int32} {lx42 : Int32} {lx43 : Int32} {lx44 : (Nat → Int32)} {K_S_DR_takesRoot_L34 : Int32 → Int32 → (Nat → Int32) → Prop} (h2 : 0 ≤ t0_2.toInt ∧ t0_2.toInt ≤ 1000) (h8 : 0 ≤ t0_8.toInt ∧ t0_8.toInt ≤ 2200) (hr : gO t1_0 t0_2.toNatClampNeg) (hl : gO t3_0 t0_8.toNatClampNeg) (hx : 0 ≤ x2.toInt ∧ x2.toInt ≤ 9)(hu : ∀ i : Nat, (i : Int) < t0_8.toInt → (0 ≤ (lx44 i).toInt ∧ (lx44 i).toInt ≤ 9) ∧ (x2.toInt = 0 → (lx44 i).toInt = 0)) : ∀ (n : Nat) (lx62 : Int32), (0 ≤ lx62.toInt ∧ lx62.toInt ≤ t0_8.toInt + 1) → (t0_8.toInt + 1 - lx62.toInt < (n : Int)) → (S_DR_takesRoot_L141 K_S_DR_takesRoot_L34 x2 t0_0 t0_1 t0_2 t0_3 t0_4 t0_5 t0_6 t0_7 t0_8 t0_9 t0_10 t1_0 t2_0 t3_0 a38 lx42 lx43 lx44 n lx62) ∧ Q_DR_takesRoot x2 t0_0 t0_1 t0_2 t0_3 t0_4 t0_5 t0_6 t0_8 t0_9 t0_10 t3_0 (F_DR_takesRoot_L141 K_F_DR_takesRoot_L34 x2 t0_0 t0_1 t0_2 t0_3 t0_4 t0_5 t0_6 t0_7 t0_8 t0_9 t0_10 t1_0 t2_0 t3_0 a38 lx42 lx43 lx44 n lx62) := by
  intro n
  induction n with
  | zero => intro lx62 h0 hm; exact absurd (show False by omega) id
  | succ n ih =>
    intro lx62 h0 hm
    have e0 : (0 : Int32).toInt = 0 := rfl
    have eL0 : (0 : Int64).toInt = 0 := rfl
    have eL1 : (10000 : Int64).toInt = 10000 := rfl
    have eL2 : (-10000 : Int64).toInt = -10000 := rfl
    have eL3 : (1000 : Int64).toInt = 1000 := rfl
    have eL4 : (-1 : Int64).toInt = -1 := rfl
    have eI3 : (1000 : Int32).toInt = 1000 := rfl
    have e62 := q_clI (i := lx62) rfl h0.1
    rw [S_DR_takesRoot_L141.eq_2, F_DR_takesRoot_L141.eq_2]
    by_cases g1 : t0_8 ≤ lx62
    ·
      rw [if_pos g1, if_pos g1]
      have g1i : t0_8.toInt ≤ lx62.toInt := q_leI g1
      have e5 : (t0_8 - 1 : Int32).toInt = t0_8.toInt - 1 := q_subI (y := 1) rfl (by decide) (by omega) (by omega); exact And.imp id And.left (v_tr3 h2 h8 hr hl hx hu (((t0_8 - 1 : Int32).toInt - (-1)).toNat + 1) (t0_8 - 1) 0 t3_0 ⟨by omega, by omega⟩ (by omega) (by decide) hl)
    ·
      rw [if_neg g1, if_neg g1]
      have g1i : lx62.toInt < t0_8.toInt := q_nleI g1
      refine v_cons (by omega) ?_
      refine v_cons (by omega) ?_
      refine v_cons (by omega) ?_
      by_cases g2 : (t3_0 lx62.toNatClampNeg : Int32) = (lx44 lx62.toNatClampNeg : Int32)
      ·
        rw [if_pos g2, if_pos g2]
        obtain ⟨a3, e4⟩ := q_nm (lx62 + 1 : Int32)
        rw [e4]
        have a3i : a3.toInt = lx62.toInt + 1 := by rw [← e4]; exact q_addI (x := lx62.toInt) (y := 1) rfl (by decide) (by omega) (by omega)
        exact ih _ (by first | with_reducible assumption | omega | decide) (by first | with_reducible assumption | omega | decide)
      ·
        rw [if_neg g2, if_neg g2]
        by_cases g5 : (lx44 lx62.toNatClampNeg : Int32) ≤ (t3_0 lx62.toNatClampNeg : Int32)
        ·
          rw [if_pos g5, if_pos g5]
          obtain ⟨a6, e7⟩ := q_nm (t0_8 + 1 : Int32)
          rw [e7]
          have a6i : a6.toInt = t0_8.toInt + 1 := by rw [← e7]; exact q_addI (x := t0_8.toInt) (y := 1) rfl (by decide) (by omega) (by omega)
          exact ih _ (by first | with_reducible assumption | omega | decide) (by first | with_reducible assumption | omega | decide)
        ·
          rw [if_neg g5, if_neg g5]
          refine ⟨trivial, ?_⟩
          (unfold Q_DR_takesRoot; dsimp only; exact ⟨gK.rfl', rfl, rfl, hl, fun h => absurd (q_leI2 (by have q1 := (g_at9 hl h0.1 (by omega)).1; have q2 := (hu lx62.toNatClampNeg (by omega)).2 h; omega)) g5, fun _ => rfl⟩)
theorem v_tr1 {x2 : Int32} {t0_0 : Int32} {t0_1 : Int32} {t0_2 : Int32} {t0_3 : Int64} {t0_4 : Int32} {t0_5 : Int32} {t0_6 : Int32} {t0_7 : Int32} {t0_8 : Int32} {t0_9 : Int32} {t0_10 : Int32} {t1_0 : (Nat → Int32)} {t2_0 : (Nat → Int32)} {t3_0 : (Nat → Int32)} {a38 : Int32} (h2 : 0 ≤ t0_2.toInt ∧ t0_2.toInt ≤ 1000) (h8 : 0 ≤ t0_8.toInt ∧ t0_8.toInt ≤ 2200) (hr : gO t1_0 t0_2.toNatClampNeg) (hl : gO t3_0 t0_8.toNatClampNeg) (hx : 0 ≤ x2.toInt ∧ x2.toInt ≤ 9)(h38 : (0 ≤ a38.toInt ∧ a38.toInt ≤ 162) ∧ (x2.toInt = 0 → a38.toInt = 0)) : ∀ (n : Nat) (lx42 : Int32) (lx43 : Int32) (lx44 : (Nat → Int32)), (0 ≤ lx42.toInt ∧ lx42.toInt ≤ t0_8.toInt) → (t0_8.toInt - lx42.toInt < (n : Int)) → ((0 ≤ lx43.toInt ∧ lx43.toInt ≤ 17) ∧ (x2.toInt = 0 → lx43.toInt = 0)) → (∀ i : Nat, t0_8.toInt - lx42.toInt ≤ (i : Int) → (i : Int) < t0_8.toInt → (0 ≤ (lx44 i).toInt ∧ (lx44 i).toInt ≤ 9) ∧ (x2.toInt = 0 → (lx44 i).toInt = 0)) → (S_DR_takesRoot_L34 x2 t0_0 t0_1 t0_2 t0_3 t0_4 t0_5 t0_6 t0_7 t0_8 t0_9 t0_10 t1_0 t2_0 t3_0 a38 n lx42 lx43 lx44) ∧ Q_DR_takesRoot x2 t0_0 t0_1 t0_2 t0_3 t0_4 t0_5 t0_6 t0_8 t0_9 t0_10 t3_0 (F_DR_takesRoot_L34 x2 t0_0 t0_1 t0_2 t0_3 t0_4 t0_5 t0_6 t0_7 t0_8 t0_9 t0_10 t1_0 t2_0 t3_0 a38 n lx42 lx43 lx44) := by
  intro n
  induction n with
  | zero => intro lx42 lx43 lx44 h0 hm hc ho; exact absurd (show False by omega) id
  | succ n ih =>
    intro lx42 lx43 lx44 h0 hm hc ho
    have e0 : (0 : Int32).toInt = 0 := rfl
    have eL0 : (0 : Int64).toInt = 0 := rfl
    have eL1 : (10000 : Int64).toInt = 10000 := rfl
    have eL2 : (-10000 : Int64).toInt = -10000 := rfl
    have eL3 : (1000 : Int64).toInt = 1000 := rfl
    have eL4 : (-1 : Int64).toInt = -1 := rfl
    have eI3 : (1000 : Int32).toInt = 1000 := rfl
    rw [S_DR_takesRoot_L34.eq_2, F_DR_takesRoot_L34.eq_2]
    by_cases g1 : t0_8 ≤ lx42
    ·
      rw [if_pos g1, if_pos g1]
      have g1i : t0_8.toInt ≤ lx42.toInt := q_leI g1
      by_cases g2 : lx43 ≤ (0 : Int32)
      ·
        rw [if_pos g2, if_pos g2]
        have g2i : lx43.toInt ≤ 0 := q_leI g2
        exact v_tr2 h2 h8 hr hl hx (fun i hi => ho i (by omega) hi) 1000000 0 ⟨by decide, by omega⟩ (by omega)
      ·
        rw [if_neg g2, if_neg g2]
        have g2i : 0 < lx43.toInt := q_nleI g2
        refine ⟨trivial, ?_⟩
        (unfold Q_DR_takesRoot; dsimp only; exact ⟨gK.rfl', rfl, rfl, hl, fun h => by have := hc.2 h; omega, fun _ => rfl⟩)
    ·
      rw [if_neg g1, if_neg g1]
      have g1i : lx42.toInt < t0_8.toInt := q_nleI g1
      by_cases g3 : lx42 < (1 : Int32)
      ·
        rw [if_pos g3, if_pos g3]
        have g3i : lx42.toInt < 1 := q_ltI g3
        obtain ⟨a155, e4⟩ := q_nm (((t0_8 - 1 : Int32) - lx42 : Int32) : Int32)
        rw [e4]
        have a155i : a155.toInt = t0_8.toInt - 1 - lx42.toInt := by rw [← e4]; exact q_subI (q_subI (y := 1) rfl (by decide) (by omega) (by omega)) rfl (by omega) (by omega)
        unfold S_DR_takesRoot_J86 F_DR_takesRoot_J86
        unfold S_DR_takesRoot_J87 F_DR_takesRoot_J87
        by_cases g5 : lx42 = (0 : Int32)
        ·
          rw [if_pos g5, if_pos g5]
          have g5i : lx42.toInt = 0 := q_eqI g5
          unfold S_DR_takesRoot_J104 F_DR_takesRoot_J104
          refine v_cons (by omega) ?_
          obtain ⟨a6, e7⟩ := q_nm (lx42 + 1 : Int32)
          rw [e7]
          have a6i : a6.toInt = lx42.toInt + 1 := by rw [← e7]; exact q_addI (x := lx42.toInt) (y := 1) rfl (by decide) (by omega) (by omega)
          obtain ⟨a8, e9⟩ := q_nm (a38 + lx43 : Int32)
          rw [e9]
          have a8i : a8.toInt = a38.toInt + lx43.toInt := by rw [← e9]; exact q_addI (x := a38.toInt) (y := lx43.toInt) rfl rfl (by omega) (by omega)
          exact ih _ _ _ ⟨by omega, by omega⟩ (by omega) ⟨g_c17 ⟨by omega, by omega⟩, fun h => g_c0 (by have z1 := hc.2 h; first | (have z2 := lx169b.2 h; omega) | (have z2 := h38.2 h; omega))⟩ (g_und (by omega) (by omega) (by omega) ho ⟨g_m10 (by omega), fun h => g_m0 (by have z1 := hc.2 h; first | (have z2 := lx169b.2 h; omega) | (have z2 := h38.2 h; omega))⟩)
        ·
          rw [if_neg g5, if_neg g5]
          have g5i : lx42.toInt ≠ 0 := q_neI g5
          obtain ⟨lx169, e10⟩ := q_nm (((2 * (0 : Int32) : Int32) * x2 : Int32) : Int32)
          rw [e10]
          have lx169b := g_dbl (b := (0 : Int32)) (c := x2) (by decide) hx
          rw [e10] at lx169b
          unfold S_DR_takesRoot_J104 F_DR_takesRoot_J104
          refine v_cons (by omega) ?_
          obtain ⟨a11, e12⟩ := q_nm (lx42 + 1 : Int32)
          rw [e12]
          have a11i : a11.toInt = lx42.toInt + 1 := by rw [← e12]; exact q_addI (x := lx42.toInt) (y := 1) rfl (by decide) (by omega) (by omega)
          obtain ⟨a13, e14⟩ := q_nm (lx169 + lx43 : Int32)
          rw [e14]
          have a13i : a13.toInt = lx169.toInt + lx43.toInt := by rw [← e14]; exact q_addI (x := lx169.toInt) (y := lx43.toInt) rfl rfl (by omega) (by omega)
          exact ih _ _ _ ⟨by omega, by omega⟩ (by omega) ⟨g_c17 ⟨by omega, by omega⟩, fun h => g_c0 (by have z1 := hc.2 h; first | (have z2 := lx169b.2 h; omega) | (have z2 := h38.2 h; omega))⟩ (g_und (by omega) (by omega) (by omega) ho ⟨g_m10 (by omega), fun h => g_m0 (by have z1 := hc.2 h; first | (have z2 := lx169b.2 h; omega) | (have z2 := h38.2 h; omega))⟩)
      ·
        rw [if_neg g3, if_neg g3]
        have g3i : 1 ≤ lx42.toInt := q_nltI g3
        obtain ⟨a15, e16⟩ := q_nm (lx42 - 1 : Int32)
        rw [e16]
        have a15i : a15.toInt = lx42.toInt - 1 := by rw [← e16]; exact q_subI (x := lx42.toInt) (y := 1) rfl (by decide) (by omega) (by omega)
        by_cases g17 : t0_2 ≤ a15
        ·
          rw [if_pos g17, if_pos g17]
          have g17i : t0_2.toInt ≤ a15.toInt := q_leI g17
          obtain ⟨a155, e18⟩ := q_nm (((t0_8 - 1 : Int32) - lx42 : Int32) : Int32)
          rw [e18]
          have a155i : a155.toInt = t0_8.toInt - 1 - lx42.toInt := by rw [← e18]; exact q_subI (q_subI (y := 1) rfl (by decide) (by omega) (by omega)) rfl (by omega) (by omega)
          unfold S_DR_takesRoot_J86 F_DR_takesRoot_J86
          unfold S_DR_takesRoot_J87 F_DR_takesRoot_J87
          by_cases g19 : lx42 = (0 : Int32)
          ·
            rw [if_pos g19, if_pos g19]
            have g19i : lx42.toInt = 0 := q_eqI g19
            unfold S_DR_takesRoot_J104 F_DR_takesRoot_J104
            refine v_cons (by omega) ?_
            obtain ⟨a20, e21⟩ := q_nm (lx42 + 1 : Int32)
            rw [e21]
            have a20i : a20.toInt = lx42.toInt + 1 := by rw [← e21]; exact q_addI (x := lx42.toInt) (y := 1) rfl (by decide) (by omega) (by omega)
            obtain ⟨a22, e23⟩ := q_nm (a38 + lx43 : Int32)
            rw [e23]
            have a22i : a22.toInt = a38.toInt + lx43.toInt := by rw [← e23]; exact q_addI (x := a38.toInt) (y := lx43.toInt) rfl rfl (by omega) (by omega)
            exact ih _ _ _ ⟨by omega, by omega⟩ (by omega) ⟨g_c17 ⟨by omega, by omega⟩, fun h => g_c0 (by have z1 := hc.2 h; first | (have z2 := lx169b.2 h; omega) | (have z2 := h38.2 h; omega))⟩ (g_und (by omega) (by omega) (by omega) ho ⟨g_m10 (by omega), fun h => g_m0 (by have z1 := hc.2 h; first | (have z2 := lx169b.2 h; omega) | (have z2 := h38.2 h; omega))⟩)
          ·
            rw [if_neg g19, if_neg g19]
            have g19i : lx42.toInt ≠ 0 := q_neI g19
            obtain ⟨lx169, e24⟩ := q_nm (((2 * (0 : Int32) : Int32) * x2 : Int32) : Int32)
            rw [e24]
            have lx169b := g_dbl (b := (0 : Int32)) (c := x2) (by decide) hx
            rw [e24] at lx169b
            unfold S_DR_takesRoot_J104 F_DR_takesRoot_J104
            refine v_cons (by omega) ?_
            obtain ⟨a25, e26⟩ := q_nm (lx42 + 1 : Int32)
            rw [e26]
            have a25i : a25.toInt = lx42.toInt + 1 := by rw [← e26]; exact q_addI (x := lx42.toInt) (y := 1) rfl (by decide) (by omega) (by omega)
            obtain ⟨a27, e28⟩ := q_nm (lx169 + lx43 : Int32)
            rw [e28]
            have a27i : a27.toInt = lx169.toInt + lx43.toInt := by rw [← e28]; exact q_addI (x := lx169.toInt) (y := lx43.toInt) rfl rfl (by omega) (by omega)
            exact ih _ _ _ ⟨by omega, by omega⟩ (by omega) ⟨g_c17 ⟨by omega, by omega⟩, fun h => g_c0 (by have z1 := hc.2 h; first | (have z2 := lx169b.2 h; omega) | (have z2 := h38.2 h; omega))⟩ (g_und (by omega) (by omega) (by omega) ho ⟨g_m10 (by omega), fun h => g_m0 (by have z1 := hc.2 h; first | (have z2 := lx169b.2 h; omega) | (have z2 := h38.2 h; omega))⟩)
        ·
          rw [if_neg g17, if_neg g17]
          have g17i : a15.toInt < t0_2.toInt := q_nleI g17
          obtain ⟨a29, e30⟩ := q_nm (t0_2 - lx42 : Int32)
          rw [e30]
          have a29i : a29.toInt = t0_2.toInt - lx42.toInt := by rw [← e30]; exact q_subI (x := t0_2.toInt) (y := lx42.toInt) rfl rfl (by omega) (by omega)
          refine v_cons (by omega) ?_
          obtain ⟨a155, e31⟩ := q_nm (((t0_8 - 1 : Int32) - lx42 : Int32) : Int32)
          rw [e31]
          have a155i : a155.toInt = t0_8.toInt - 1 - lx42.toInt := by rw [← e31]; exact q_subI (q_subI (y := 1) rfl (by decide) (by omega) (by omega)) rfl (by omega) (by omega)
          obtain ⟨lx158, e32⟩ := q_nm ((t1_0 a29.toNatClampNeg : Int32) : Int32)
          rw [e32]
          have lx158b : 0 ≤ lx158.toInt ∧ lx158.toInt ≤ 9 := by rw [← e32]; exact g_at9 hr (i := a29) (by omega) (by omega)
          unfold S_DR_takesRoot_J87 F_DR_takesRoot_J87
          by_cases g33 : lx42 = (0 : Int32)
          ·
            rw [if_pos g33, if_pos g33]
            have g33i : lx42.toInt = 0 := q_eqI g33
            unfold S_DR_takesRoot_J104 F_DR_takesRoot_J104
            refine v_cons (by omega) ?_
            obtain ⟨a34, e35⟩ := q_nm (lx42 + 1 : Int32)
            rw [e35]
            have a34i : a34.toInt = lx42.toInt + 1 := by rw [← e35]; exact q_addI (x := lx42.toInt) (y := 1) rfl (by decide) (by omega) (by omega)
            obtain ⟨a36, e37⟩ := q_nm (a38 + lx43 : Int32)
            rw [e37]
            have a36i : a36.toInt = a38.toInt + lx43.toInt := by rw [← e37]; exact q_addI (x := a38.toInt) (y := lx43.toInt) rfl rfl (by omega) (by omega)
            exact ih _ _ _ ⟨by omega, by omega⟩ (by omega) ⟨g_c17 ⟨by omega, by omega⟩, fun h => g_c0 (by have z1 := hc.2 h; first | (have z2 := lx169b.2 h; omega) | (have z2 := h38.2 h; omega))⟩ (g_und (by omega) (by omega) (by omega) ho ⟨g_m10 (by omega), fun h => g_m0 (by have z1 := hc.2 h; first | (have z2 := lx169b.2 h; omega) | (have z2 := h38.2 h; omega))⟩)
          ·
            rw [if_neg g33, if_neg g33]
            have g33i : lx42.toInt ≠ 0 := q_neI g33
            obtain ⟨lx169, e38⟩ := q_nm (((2 * lx158 : Int32) * x2 : Int32) : Int32)
            rw [e38]
            have lx169b := g_dbl (b := lx158) (c := x2) lx158b hx
            rw [e38] at lx169b
            unfold S_DR_takesRoot_J104 F_DR_takesRoot_J104
            refine v_cons (by omega) ?_
            obtain ⟨a39, e40⟩ := q_nm (lx42 + 1 : Int32)
            rw [e40]
            have a39i : a39.toInt = lx42.toInt + 1 := by rw [← e40]; exact q_addI (x := lx42.toInt) (y := 1) rfl (by decide) (by omega) (by omega)
            obtain ⟨a41, e42⟩ := q_nm (lx169 + lx43 : Int32)
            rw [e42]
            have a41i : a41.toInt = lx169.toInt + lx43.toInt := by rw [← e42]; exact q_addI (x := lx169.toInt) (y := lx43.toInt) rfl rfl (by omega) (by omega)
            exact ih _ _ _ ⟨by omega, by omega⟩ (by omega) ⟨g_c17 ⟨by omega, by omega⟩, fun h => g_c0 (by have z1 := hc.2 h; first | (have z2 := lx169b.2 h; omega) | (have z2 := h38.2 h; omega))⟩ (g_und (by omega) (by omega) (by omega) ho ⟨g_m10 (by omega), fun h => g_m0 (by have z1 := hc.2 h; first | (have z2 := lx169b.2 h; omega) | (have z2 := h38.2 h; omega))⟩)
theorem T_DR_takesRoot {x2 : Int32} {t0_0 : Int32} {t0_1 : Int32} {t0_2 : Int32} {t0_3 : Int64} {t0_4 : Int32} {t0_5 : Int32} {t0_6 : Int32} {t0_7 : Int32} {t0_8 : Int32} {t0_9 : Int32} {t0_10 : Int32} {t1_0 : (Nat → Int32)} {t2_0 : (Nat → Int32)} {t3_0 : (Nat → Int32)} (h2 : 0 ≤ t0_2.toInt ∧ t0_2.toInt ≤ 1000) (h8 : 0 ≤ t0_8.toInt ∧ t0_8.toInt ≤ 2200) (hr : gO t1_0 t0_2.toNatClampNeg) (hl : gO t3_0 t0_8.toNatClampNeg) (hx : 0 ≤ x2.toInt ∧ x2.toInt ≤ 9) : (S_DR_takesRoot x2 t0_0 t0_1 t0_2 t0_3 t0_4 t0_5 t0_6 t0_7 t0_8 t0_9 t0_10 t1_0 t2_0 t3_0) ∧ Q_DR_takesRoot x2 t0_0 t0_1 t0_2 t0_3 t0_4 t0_5 t0_6 t0_8 t0_9 t0_10 t3_0 (F_DR_takesRoot x2 t0_0 t0_1 t0_2 t0_3 t0_4 t0_5 t0_6 t0_7 t0_8 t0_9 t0_10 t1_0 t2_0 t3_0) := by
  have e0 : (0 : Int32).toInt = 0 := rfl
  have eL0 : (0 : Int64).toInt = 0 := rfl
  have eL1 : (10000 : Int64).toInt = 10000 := rfl
  have eL2 : (-10000 : Int64).toInt = -10000 := rfl
  have eL3 : (1000 : Int64).toInt = 1000 := rfl
  have eL4 : (-1 : Int64).toInt = -1 := rfl
  have eI3 : (1000 : Int32).toInt = 1000 := rfl
  have eq := g_mul9 hx hx
  have eq0 : x2.toInt = 0 → (x2 * x2 : Int32).toInt = 0 := fun h => by rw [Int32.toInt_inj.mp (show x2.toInt = (0 : Int32).toInt by rw [h]; rfl)]; decide
  unfold S_DR_takesRoot F_DR_takesRoot
  by_cases g1 : x2 ≤ (0 : Int32)
  ·
    rw [if_pos g1, if_pos g1]
    have g1i : x2.toInt ≤ 0 := q_leI g1
    unfold S_DR_takesRoot_J17 F_DR_takesRoot_J17
    exact v_tr1 h2 h8 hr hl hx ⟨⟨by omega, by omega⟩, eq0⟩ _ _ _ _ ⟨by decide, by omega⟩ (by omega) ⟨by decide, fun _ => rfl⟩ (fun i h1 h3 => by omega)
  ·
    rw [if_neg g1, if_neg g1]
    have g1i : 0 < x2.toInt := q_nleI g1
    by_cases g2 : t0_2 < t0_8
    ·
      rw [if_pos g2, if_pos g2]
      have g2i : t0_2.toInt < t0_8.toInt := q_ltI g2
      unfold S_DR_takesRoot_J17 F_DR_takesRoot_J17
      exact v_tr1 h2 h8 hr hl hx ⟨⟨by omega, by omega⟩, eq0⟩ _ _ _ _ ⟨by decide, by omega⟩ (by omega) ⟨by decide, fun _ => rfl⟩ (fun i h1 h3 => by omega)
    ·
      rw [if_neg g2, if_neg g2]
      have g2i : t0_8.toInt ≤ t0_2.toInt := q_nltI g2
      refine ⟨trivial, ?_⟩
      (unfold Q_DR_takesRoot; dsimp only; exact ⟨gK.rfl', rfl, rfl, hl, fun h => by omega, fun _ => rfl⟩)
theorem R_tr1 {t0_0 : Int32} {t0_1 : Int32} {t0_3 : Int64} {t0_4 : Int32} {t0_5 : Int32} {t0_6 : Int32} {t0_7 : Int32} {t0_9 : Int32} {t0_10 : Int32} {t1_0 : (Nat → Int32)} {t2_0 : (Nat → Int32)} {t3_0 : (Nat → Int32)} (hr : gO t1_0 (0 : Int32).toNatClampNeg) (hl : gO t3_0 (2 : Int32).toNatClampNeg) (hz : t3_0 0 ≠ 0 ∨ t3_0 1 ≠ 0) : ¬ (F_DR_takesRoot 1 t0_0 t0_1 0 t0_3 t0_4 t0_5 t0_6 t0_7 2 t0_9 t0_10 t1_0 t2_0 t3_0).1 = 0 := by
  have eF : ((2 : Int32).toInt - (0 : Int32).toInt).toNat + 1 = 2 + 1 := by decide
  unfold F_DR_takesRoot
  rw [if_neg (by decide : ¬ (1 : Int32) ≤ 0), if_pos (by decide : (0 : Int32) < 2)]
  unfold F_DR_takesRoot_J17
  rw [eF, F_DR_takesRoot_L34.eq_2, if_neg (by decide : ¬ (2 : Int32) ≤ 0), if_pos (by decide : (0 : Int32) < 1)]
  unfold F_DR_takesRoot_J86 F_DR_takesRoot_J87
  rw [if_pos rfl]
  unfold F_DR_takesRoot_J104
  rw [show (0 + 1 : Int32) = 1 from rfl, F_DR_takesRoot_L34.eq_2, if_neg (by decide : ¬ (2 : Int32) ≤ 1), if_neg (by decide : ¬ (1 : Int32) < 1), if_pos (by decide : (0 : Int32) ≤ 1 - 1)]
  unfold F_DR_takesRoot_J86 F_DR_takesRoot_J87
  rw [if_neg (by decide : ¬ (1 : Int32) = 0)]
  unfold F_DR_takesRoot_J104
  rw [show (1 + 1 : Int32) = 2 from rfl, F_DR_takesRoot_L34.eq_2, if_pos (by decide : (2 : Int32) ≤ 2), if_pos (by decide)]
  generalize ef : (upd (upd t2_0 (2 - 1 - 0 : Int32).toNatClampNeg _) (2 - 1 - 1 : Int32).toNatClampNeg _) = f
  have f0 : f (0 : Int32).toNatClampNeg = 0 := by rw [← ef]; exact v_eq
  have f1 : f (1 : Int32).toNatClampNeg = 1 := by rw [← ef, v_ne (by decide)]; exact v_eq
  have hu : ∀ i : Nat, (i : Int) < (2 : Int32).toInt → (0 ≤ (f i).toInt ∧ (f i).toInt ≤ 9) ∧ ((1 : Int32).toInt = 0 → (f i).toInt = 0) := fun i hi => by
    have e2 : (2 : Int32).toInt = 2 := rfl
    refine ⟨?_, fun h => absurd h (by decide)⟩
    by_cases c : i = 0
    · subst c; rw [show f 0 = 0 from f0]; decide
    · have c2 : i = 1 := by omega
      subst c2; rw [show f 1 = 1 from f1]; decide
  have fin : ∀ (m : Nat) (k : Int32) (K : Int32 → Int32 → (Nat → Int32) → _) (v w : Int32), (2 : Int32) ≤ k → ¬ (F_DR_takesRoot_L141 K 1 t0_0 t0_1 0 t0_3 t0_4 t0_5 t0_6 t0_7 2 t0_9 t0_10 t1_0 t2_0 t3_0 (1 * 1) v w f (m + 1) k).1 = 0 := by
    intro m k K v w hk
    rw [F_DR_takesRoot_L141.eq_2, if_pos hk]
    have h3 := v_tr3 (K_F_DR_takesRoot_L34 := K) (K_F_DR_takesRoot_L141 := F_DR_takesRoot_L141 K 1 t0_0 t0_1 0 t0_3 t0_4 t0_5 t0_6 t0_7 2 t0_9 t0_10 t1_0 t2_0 t3_0 (1 * 1) v w f m) (K_S_DR_takesRoot_L34 := fun _ _ _ => True) (K_S_DR_takesRoot_L141 := fun _ => True) (a38 := 1 * 1) (lx42 := v) (lx43 := w) (lx62 := k) (t0_0 := t0_0) (t0_1 := t0_1) (t0_3 := t0_3) (t0_4 := t0_4) (t0_5 := t0_5) (t0_6 := t0_6) (t0_7 := t0_7) (t0_9 := t0_9) (t0_10 := t0_10) (t2_0 := t2_0) (t1_0 := t1_0) (x2 := 1) (t0_2 := 0) (t0_8 := 2) (by decide) (by decide) hr hl (by decide) hu (((2 - 1 : Int32).toInt - (-1)).toNat + 1) (2 - 1) 0 t3_0 (by decide) (by decide) (by decide) hl
    rw [h3.2.2]; decide
  have h0 := (hl 0 (by decide)).1
  have h1 := (hl 1 (by decide)).1
  show ¬ (F_DR_takesRoot_L141 _ 1 t0_0 t0_1 0 t0_3 t0_4 t0_5 t0_6 t0_7 2 t0_9 t0_10 t1_0 t2_0 t3_0 (1 * 1) _ _ f (999997 + 1 + 1 + 1) 0).1 = 0
  rw [F_DR_takesRoot_L141.eq_2, if_neg (by decide : ¬ (2 : Int32) ≤ 0)]
  by_cases c : t3_0 (0 : Int32).toNatClampNeg = f (0 : Int32).toNatClampNeg
  · rw [if_pos c, show (0 + 1 : Int32) = 1 from rfl, F_DR_takesRoot_L141.eq_2, if_neg (by decide : ¬ (2 : Int32) ≤ 1)]
    by_cases d : t3_0 (1 : Int32).toNatClampNeg = f (1 : Int32).toNatClampNeg
    · rw [if_pos d]
      exact fin _ _ _ _ _ (by decide)
    · rw [if_neg d, if_pos]
      · exact fin _ _ _ _ _ (by decide)
      · rw [f1]
        rw [f0] at c
        have z : t3_0 1 ≠ 0 := by
          rcases hz with h | h
          · exact absurd c h
          · exact h
        refine q_leI2 ?_
        have z2 := q_neI z
        have e0 : (0 : Int32).toInt = 0 := rfl
        have e1 : (1 : Int32).toInt = 1 := rfl
        show (1 : Int32).toInt ≤ (t3_0 1).toInt
        omega
  · rw [if_neg c, if_pos]
    · exact fin _ _ _ _ _ (by decide)
    · rw [f0]; exact q_leI2 h0
theorem R_tkr {x2 : Int32} {t0_0 : Int32} {t0_1 : Int32} {t0_2 : Int32} {t0_3 : Int64} {t0_4 : Int32} {t0_5 : Int32} {t0_6 : Int32} {t0_7 : Int32} {t0_8 : Int32} {t0_9 : Int32} {t0_10 : Int32} {t1_0 : (Nat → Int32)} {t2_0 : (Nat → Int32)} {t3_0 : (Nat → Int32)} (h2 : 0 ≤ t0_2.toInt ∧ t0_2.toInt ≤ 1000) (h8 : 0 ≤ t0_8.toInt ∧ t0_8.toInt ≤ 2200) (hr : gO t1_0 t0_2.toNatClampNeg) (hl : gO t3_0 t0_8.toNatClampNeg) (hx : 0 ≤ x2.toInt ∧ x2.toInt ≤ 9) : S_DR_takesRoot x2 t0_0 t0_1 t0_2 t0_3 t0_4 t0_5 t0_6 t0_7 t0_8 t0_9 t0_10 t1_0 t2_0 t3_0 ∧ (Q_DR_takesRoot x2 t0_0 t0_1 t0_2 t0_3 t0_4 t0_5 t0_6 t0_8 t0_9 t0_10 t3_0 (F_DR_takesRoot x2 t0_0 t0_1 t0_2 t0_3 t0_4 t0_5 t0_6 t0_7 t0_8 t0_9 t0_10 t1_0 t2_0 t3_0) ∧ (x2.toInt = 1 → t0_2.toInt = 0 → t0_8.toInt = 2 → (t3_0 0 ≠ 0 ∨ t3_0 1 ≠ 0) → ¬ (F_DR_takesRoot x2 t0_0 t0_1 t0_2 t0_3 t0_4 t0_5 t0_6 t0_7 t0_8 t0_9 t0_10 t1_0 t2_0 t3_0).1 = 0)) := by
  have h := T_DR_takesRoot (t0_0 := t0_0) (t0_1 := t0_1) (t0_3 := t0_3) (t0_4 := t0_4) (t0_5 := t0_5) (t0_6 := t0_6) (t0_7 := t0_7) (t0_9 := t0_9) (t0_10 := t0_10) (t2_0 := t2_0) h2 h8 hr hl hx
  refine ⟨h.1, h.2, fun a b c d => ?_⟩
  clear h
  have a1 : x2 = 1 := Int32.toInt_inj.mp (by rw [a]; rfl)
  have b1 : t0_2 = 0 := Int32.toInt_inj.mp (by rw [b]; rfl)
  have c1 : t0_8 = 2 := Int32.toInt_inj.mp (by rw [c]; rfl)
  subst a1 b1 c1
  exact R_tr1 hr hl d
theorem g_apd {f : Nat → Int32} {s s1 d : Int32} (h : gO f s.toNatClampNeg) (h0 : 0 ≤ s.toInt) (e : s1.toInt = s.toInt + 1) (hd : 0 ≤ d.toInt ∧ d.toInt ≤ 9) : gO (upd f s.toNatClampNeg d) s1.toNatClampNeg := fun i hi => by
  have a := q_clI (i := s) rfl h0
  have b := q_clI (i := s1) rfl (by omega)
  by_cases c : i = s.toNatClampNeg
  · rw [c, v_eq]; exact hd
  · rw [v_ne c]; exact h i (by omega)
theorem g_two {f : Nat → Int32} {t A B C x y : Int32} (h : gO f t.toNatClampNeg) (h0 : 0 ≤ A.toInt) (ht : A.toInt ≤ t.toInt) (eB : B.toInt = A.toInt + 1) (eC : C.toInt = A.toInt + 2) (hx : 0 ≤ x.toInt ∧ x.toInt ≤ 9) (hy : 0 ≤ y.toInt ∧ y.toInt ≤ 9) : gO (upd (upd f A.toNatClampNeg x) B.toNatClampNeg y) C.toNatClampNeg := by
  have h1 : gO f A.toNatClampNeg := g_cl h h0 ht
  exact g_apd (g_apd h1 h0 eB hx) (by omega) (by omega) hy
theorem g_two1 {f : Nat → Int32} {A B x y : Int32} (h0 : A.toInt = 0) (eB : B.toInt = A.toInt + 1) (h : x ≠ 0 ∨ y ≠ 0) : upd (upd f A.toNatClampNeg x) B.toNatClampNeg y 0 ≠ 0 ∨ upd (upd f A.toNatClampNeg x) B.toNatClampNeg y 1 ≠ 0 := by
  have a := q_clI (i := A) rfl (by omega)
  have b := q_clI (i := B) rfl (by omega)
  have a0 : A.toNatClampNeg = 0 := by omega
  have b0 : B.toNatClampNeg = 1 := by omega
  rw [a0, b0]
  rcases h with h | h
  · exact Or.inl (by rw [v_ne (by decide), v_eq]; exact h)
  · exact Or.inr (by rw [v_eq]; exact h)
def Q_DR_nextRoot (x2 x3 t0_0 t0_1 t0_2 : Int32) (t0_3 : Int64) (t0_4 t0_5 t0_6 t0_8 t0_9 t0_10 : Int32) (t1_0 : Nat → Int32) (p : Int32 × Int32 × Int32 × Int64 × Int32 × Int32 × Int32 × Int32 × Int32 × Int32 × Int32 × (Nat → Int32) × (Nat → Int32) × (Nat → Int32)) : Prop := gK p.1 p.2.1 p.2.2.2.1 p.2.2.2.2.1 p.2.2.2.2.2.1 p.2.2.2.2.2.2.1 p.2.2.2.2.2.2.2.2.2.1 p.2.2.2.2.2.2.2.2.2.2.1 t0_0 t0_1 t0_3 t0_4 t0_5 t0_6 t0_9 t0_10 ∧ p.2.2.1.toInt = t0_2.toInt + 1 ∧ (0 ≤ p.2.2.2.2.2.2.2.2.1.toInt ∧ p.2.2.2.2.2.2.2.2.1.toInt ≤ t0_8.toInt + 2) ∧ gO p.2.2.2.2.2.2.2.2.2.2.2.1 p.2.2.1.toNatClampNeg ∧ gO p.2.2.2.2.2.2.2.2.2.2.2.2.2 p.2.2.2.2.2.2.2.2.1.toNatClampNeg ∧ (0 < t0_2.toInt → p.2.2.2.2.2.2.2.2.2.2.2.1 0 = t1_0 0) ∧ (t0_2.toInt = 0 → t0_8.toInt = 0 → (x2 ≠ 0 ∨ x3 ≠ 0) → p.2.2.2.2.2.2.2.2.2.2.2.1 0 ≠ 0)
theorem v_nr3 {K_F_DR_nextRoot_L2 : Int32 → (Int32 × Int32 × Int32 × Int64 × Int32 × Int32 × Int32 × Int32 × Int32 × Int32 × Int32 × (Nat → Int32) × (Nat → Int32) × (Nat → Int32))} {K_F_DR_nextRoot_L28 : Int32 → (Nat → Int32) → (Int32 × Int32 × Int32 × Int64 × Int32 × Int32 × Int32 × Int32 × Int32 × Int32 × Int32 × (Nat → Int32) × (Nat → Int32) × (Nat → Int32))} {x2 : Int32} {x3 : Int32} {t0_0 : Int32} {t0_1 : Int32} {t0_2 : Int32} {t0_3 : Int64} {t0_4 : Int32} {t0_5 : Int32} {t0_6 : Int32} {t0_7 : Int32} {t0_8 : Int32} {t0_9 : Int32} {t0_10 : Int32} {t1_0 : (Nat → Int32)} {t2_0 : (Nat → Int32)} {t3_0 : (Nat → Int32)} {lx27 : Int32} {lx47 : Int32} {lx48 : (Nat → Int32)} {K_S_DR_nextRoot_L2 : Int32 → Prop} {K_S_DR_nextRoot_L28 : Int32 → (Nat → Int32) → Prop} (h2 : 0 ≤ t0_2.toInt ∧ t0_2.toInt ≤ 1000) (h8 : 0 ≤ t0_8.toInt ∧ t0_8.toInt ≤ 2198) (hr : gO t1_0 t0_2.toNatClampNeg) (hl : gO t3_0 t0_8.toNatClampNeg) (hx : 0 ≤ x2.toInt ∧ x2.toInt ≤ 9) (hy : 0 ≤ x3.toInt ∧ x3.toInt ≤ 9)(h27 : 0 ≤ lx27.toInt ∧ lx27.toInt ≤ t0_8.toInt) : ∀ (n : Nat) (lx91 : Int32) (lx92 : Int32) (lx93 : Int32) (lx94 : Int32) (lx95 : Int64) (lx96 : Int32) (lx97 : Int32) (lx98 : Int32) (lx99 : Int32) (lx100 : Int32) (lx101 : Int32) (lx102 : Int32) (lx103 : (Nat → Int32)) (lx104 : (Nat → Int32)), (0 ≤ lx91.toInt ∧ lx91.toInt ≤ 9) → (lx91.toInt < (n : Int)) → (gK lx92 lx93 lx95 lx96 lx97 lx98 lx101 lx102 t0_0 t0_1 t0_3 t0_4 t0_5 t0_6 t0_9 t0_10) → (lx94 = t0_2) → (lx100.toInt = t0_8.toInt - lx27.toInt + 2) → (gO lx104 lx100.toNatClampNeg) → (t0_2.toInt = 0 → t0_8.toInt = 0 → (x2 ≠ 0 ∨ x3 ≠ 0) → 1 ≤ lx91.toInt ∧ (lx104 0 ≠ 0 ∨ lx104 1 ≠ 0)) → (S_DR_nextRoot_L107 K_S_DR_nextRoot_L2 K_S_DR_nextRoot_L28 x2 x3 t0_0 t0_1 t0_2 t0_3 t0_4 t0_5 t0_6 t0_7 t0_8 t0_9 t0_10 t1_0 t2_0 t3_0 lx27 lx47 lx48 n lx91 lx92 lx93 lx94 lx95 lx96 lx97 lx98 lx99 lx100 lx101 lx102 lx103 lx104) ∧ Q_DR_nextRoot x2 x3 t0_0 t0_1 t0_2 t0_3 t0_4 t0_5 t0_6 t0_8 t0_9 t0_10 t1_0 (F_DR_nextRoot_L107 K_F_DR_nextRoot_L2 K_F_DR_nextRoot_L28 x2 x3 t0_0 t0_1 t0_2 t0_3 t0_4 t0_5 t0_6 t0_7 t0_8 t0_9 t0_10 t1_0 t2_0 t3_0 lx27 lx47 lx48 n lx91 lx92 lx93 lx94 lx95 lx96 lx97 lx98 lx99 lx100 lx101 lx102 lx103 lx104) := by
  intro n
  induction n with
  | zero => intro lx91 lx92 lx93 lx94 lx95 lx96 lx97 lx98 lx99 lx100 lx101 lx102 lx103 lx104 hd hm hk h3e h9e hll hq; exact absurd (show False by omega) id
  | succ n ih =>
    intro lx91 lx92 lx93 lx94 lx95 lx96 lx97 lx98 lx99 lx100 lx101 lx102 lx103 lx104 hd hm hk h3e h9e hll hq
    have e0 : (0 : Int32).toInt = 0 := rfl
    have eL0 : (0 : Int64).toInt = 0 := rfl
    have eL1 : (10000 : Int64).toInt = 10000 := rfl
    have eL2 : (-10000 : Int64).toInt = -10000 := rfl
    have eL3 : (1000 : Int64).toInt = 1000 := rfl
    have eL4 : (-1 : Int64).toInt = -1 := rfl
    have eI3 : (1000 : Int32).toInt = 1000 := rfl
    rw [S_DR_nextRoot_L107.eq_2, F_DR_nextRoot_L107.eq_2]
    have h1 := R_tkr (x2 := lx91) (t0_0 := lx92) (t0_1 := lx93) (t0_2 := lx94) (t0_3 := lx95) (t0_4 := lx96) (t0_5 := lx97) (t0_6 := lx98) (t0_7 := lx99) (t0_8 := lx100) (t0_9 := lx101) (t0_10 := lx102) (t1_0 := t1_0) (t2_0 := lx103) (t3_0 := lx104) (by rw [h3e]; exact h2) ⟨by omega, by omega⟩ (by rw [h3e]; exact hr) hll hd
    with_reducible refine v_owe h1.1 ?_
    replace h1 := h1.2
    generalize F_DR_takesRoot lx91 lx92 lx93 lx94 lx95 lx96 lx97 lx98 lx99 lx100 lx101 lx102 t1_0 lx103 lx104 = p181 at *
    obtain ⟨h1q, tk1⟩ := h1
    unfold Q_DR_takesRoot at h1q
    obtain ⟨tkK, tk3, tk9, tkg, tkz, tku⟩ := h1q
    unfold S_DR_nextRoot_c110 F_DR_nextRoot_c110
    by_cases g2 : (p181.1 : Int32) = (0 : Int32)
    ·
      rw [if_pos g2, if_pos g2]
      obtain ⟨a3, e4⟩ := q_nm (lx91 + (-1) : Int32)
      rw [e4]
      have a3i : a3.toInt = lx91.toInt + (-1) := by rw [← e4]; exact q_addI (x := lx91.toInt) (y := (-1)) rfl (by decide) (by omega) (by omega)
      have hd0 : lx91.toInt ≠ 0 := fun h => tkz h g2; exact ih _ _ _ _ _ _ _ _ _ _ _ _ _ _ ⟨by omega, by omega⟩ (by omega) (tkK.trans hk) (tk3.trans h3e) (by rw [tk9]; exact h9e) (by rw [tk9]; exact tkg) (fun a b c => ⟨by have u1 := hq a b c; have u2 : lx91.toInt ≠ 1 := fun h => tk1 h (by rw [h3e]; exact a) (by omega) u1.2 g2; omega, by rw [tku g2]; exact (hq a b c).2⟩)
    ·
      rw [if_neg g2, if_neg g2]
      refine v_cons (by rw [tk3, h3e]; omega) ?_
      refine v_cons (by rw [tk3, h3e]; omega) ?_
      refine ⟨trivial, ?_⟩
      (unfold Q_DR_nextRoot; dsimp only; rw [tk3, h3e]; have e1 : (t0_2 + 1 : Int32).toInt = t0_2.toInt + 1 := q_addI (y := 1) rfl (by decide) (by omega) (by omega); have e2 := q_clI (i := t0_2) rfl h2.1; refine ⟨tkK.trans hk, e1, ⟨by rw [tk9]; omega, by rw [tk9]; omega⟩, g_apd hr h2.1 e1 hd, by rw [tk9]; exact tkg, fun h => v_ne (by omega), fun a b c => ?_⟩; rw [show t0_2.toNatClampNeg = 0 by omega, v_eq]; exact fun e => by have e5 := q_eqI e; have := (hq a b c).1; omega)
theorem v_nr2 {K_F_DR_nextRoot_L2 : Int32 → (Int32 × Int32 × Int32 × Int64 × Int32 × Int32 × Int32 × Int32 × Int32 × Int32 × Int32 × (Nat → Int32) × (Nat → Int32) × (Nat → Int32))} {x2 : Int32} {x3 : Int32} {t0_0 : Int32} {t0_1 : Int32} {t0_2 : Int32} {t0_3 : Int64} {t0_4 : Int32} {t0_5 : Int32} {t0_6 : Int32} {t0_7 : Int32} {t0_8 : Int32} {t0_9 : Int32} {t0_10 : Int32} {t1_0 : (Nat → Int32)} {t2_0 : (Nat → Int32)} {t3_0 : (Nat → Int32)} {lx27 : Int32} {K_S_DR_nextRoot_L2 : Int32 → Prop} (h2 : 0 ≤ t0_2.toInt ∧ t0_2.toInt ≤ 1000) (h8 : 0 ≤ t0_8.toInt ∧ t0_8.toInt ≤ 2198) (hr : gO t1_0 t0_2.toNatClampNeg) (hl : gO t3_0 t0_8.toNatClampNeg) (hx : 0 ≤ x2.toInt ∧ x2.toInt ≤ 9) (hy : 0 ≤ x3.toInt ∧ x3.toInt ≤ 9)(h27 : 0 ≤ lx27.toInt ∧ lx27.toInt ≤ t0_8.toInt) : ∀ (n : Nat) (lx47 : Int32) (lx48 : (Nat → Int32)), (0 ≤ lx47.toInt ∧ lx47.toInt + lx27.toInt ≤ t0_8.toInt) → (4100 - lx47.toInt < (n : Int)) → (gO lx48 t0_8.toNatClampNeg) → (S_DR_nextRoot_L28 K_S_DR_nextRoot_L2 x2 x3 t0_0 t0_1 t0_2 t0_3 t0_4 t0_5 t0_6 t0_7 t0_8 t0_9 t0_10 t1_0 t2_0 t3_0 lx27 n lx47 lx48) ∧ Q_DR_nextRoot x2 x3 t0_0 t0_1 t0_2 t0_3 t0_4 t0_5 t0_6 t0_8 t0_9 t0_10 t1_0 (F_DR_nextRoot_L28 K_F_DR_nextRoot_L2 x2 x3 t0_0 t0_1 t0_2 t0_3 t0_4 t0_5 t0_6 t0_7 t0_8 t0_9 t0_10 t1_0 t2_0 t3_0 lx27 n lx47 lx48) := by
  intro n
  induction n with
  | zero => intro lx47 lx48 h0 hm ho; exact absurd (show False by omega) id
  | succ n ih =>
    intro lx47 lx48 h0 hm ho
    have e0 : (0 : Int32).toInt = 0 := rfl
    have eL0 : (0 : Int64).toInt = 0 := rfl
    have eL1 : (10000 : Int64).toInt = 10000 := rfl
    have eL2 : (-10000 : Int64).toInt = -10000 := rfl
    have eL3 : (1000 : Int64).toInt = 1000 := rfl
    have eL4 : (-1 : Int64).toInt = -1 := rfl
    have eI3 : (1000 : Int32).toInt = 1000 := rfl
    rw [S_DR_nextRoot_L28.eq_2, F_DR_nextRoot_L28.eq_2]
    obtain ⟨a1, e2⟩ := q_nm (lx47 + lx27 : Int32)
    rw [e2]
    have a1i : a1.toInt = lx47.toInt + lx27.toInt := by rw [← e2]; exact q_addI (x := lx47.toInt) (y := lx27.toInt) rfl rfl (by omega) (by omega)
    by_cases g3 : t0_8 ≤ a1
    ·
      rw [if_pos g3, if_pos g3]
      have g3i : t0_8.toInt ≤ a1.toInt := q_leI g3
      obtain ⟨a4, e5⟩ := q_nm (t0_8 - lx27 : Int32)
      rw [e5]
      have a4i : a4.toInt = t0_8.toInt - lx27.toInt := by rw [← e5]; exact q_subI (x := t0_8.toInt) (y := lx27.toInt) rfl rfl (by omega) (by omega)
      refine v_cons (by omega) ?_
      refine v_cons (by omega) ?_
      obtain ⟨a6, e7⟩ := q_nm (a4 + 1 : Int32)
      rw [e7]
      have a6i : a6.toInt = a4.toInt + 1 := by rw [← e7]; exact q_addI (x := a4.toInt) (y := 1) rfl (by decide) (by omega) (by omega)
      refine v_cons (by omega) ?_
      obtain ⟨a8, e9⟩ := q_nm (a4 + 2 : Int32)
      rw [e9]
      have a8i : a8.toInt = a4.toInt + 2 := by rw [← e9]; exact q_addI (x := a4.toInt) (y := 2) rfl (by decide) (by omega) (by omega)
      exact v_nr3 h2 h8 hr hl hx hy h27 1000000 9 _ _ _ _ _ _ _ _ _ _ _ _ _ (by decide) (by decide) gK.rfl' rfl (by omega) (g_two ho (by omega) (by omega) (by omega) (by omega) hx hy) (fun a b c => ⟨by decide, g_two1 (by omega) (by omega) c⟩)
    ·
      rw [if_neg g3, if_neg g3]
      have g3i : a1.toInt < t0_8.toInt := q_nleI g3
      refine v_cons (by omega) ?_
      obtain ⟨a10, e11⟩ := q_nm (lx47 + 1 : Int32)
      rw [e11]
      have a10i : a10.toInt = lx47.toInt + 1 := by rw [← e11]; exact q_addI (x := lx47.toInt) (y := 1) rfl (by decide) (by omega) (by omega)
      exact ih _ _ ⟨by omega, by omega⟩ (by omega) (gO_upd ho (g_at9 ho (by omega) (by omega)))
theorem v_nr1 {x2 : Int32} {x3 : Int32} {t0_0 : Int32} {t0_1 : Int32} {t0_2 : Int32} {t0_3 : Int64} {t0_4 : Int32} {t0_5 : Int32} {t0_6 : Int32} {t0_7 : Int32} {t0_8 : Int32} {t0_9 : Int32} {t0_10 : Int32} {t1_0 : (Nat → Int32)} {t2_0 : (Nat → Int32)} {t3_0 : (Nat → Int32)} (h2 : 0 ≤ t0_2.toInt ∧ t0_2.toInt ≤ 1000) (h8 : 0 ≤ t0_8.toInt ∧ t0_8.toInt ≤ 2198) (hr : gO t1_0 t0_2.toNatClampNeg) (hl : gO t3_0 t0_8.toNatClampNeg) (hx : 0 ≤ x2.toInt ∧ x2.toInt ≤ 9) (hy : 0 ≤ x3.toInt ∧ x3.toInt ≤ 9) : ∀ (n : Nat) (lx27 : Int32), (0 ≤ lx27.toInt ∧ lx27.toInt ≤ t0_8.toInt) → (4100 - lx27.toInt < (n : Int)) → (S_DR_nextRoot_L2 x2 x3 t0_0 t0_1 t0_2 t0_3 t0_4 t0_5 t0_6 t0_7 t0_8 t0_9 t0_10 t1_0 t2_0 t3_0 n lx27) ∧ Q_DR_nextRoot x2 x3 t0_0 t0_1 t0_2 t0_3 t0_4 t0_5 t0_6 t0_8 t0_9 t0_10 t1_0 (F_DR_nextRoot_L2 x2 x3 t0_0 t0_1 t0_2 t0_3 t0_4 t0_5 t0_6 t0_7 t0_8 t0_9 t0_10 t1_0 t2_0 t3_0 n lx27) := by
  intro n
  induction n with
  | zero => intro lx27 h0 hm; exact absurd (show False by omega) id
  | succ n ih =>
    intro lx27 h0 hm
    have e0 : (0 : Int32).toInt = 0 := rfl
    have eL0 : (0 : Int64).toInt = 0 := rfl
    have eL1 : (10000 : Int64).toInt = 10000 := rfl
    have eL2 : (-10000 : Int64).toInt = -10000 := rfl
    have eL3 : (1000 : Int64).toInt = 1000 := rfl
    have eL4 : (-1 : Int64).toInt = -1 := rfl
    have eI3 : (1000 : Int32).toInt = 1000 := rfl
    rw [S_DR_nextRoot_L2.eq_2, F_DR_nextRoot_L2.eq_2]
    by_cases g1 : t0_8 ≤ lx27
    ·
      rw [if_pos g1, if_pos g1]
      have g1i : t0_8.toInt ≤ lx27.toInt := q_leI g1
      unfold S_DR_nextRoot_J25 F_DR_nextRoot_J25
      exact v_nr2 h2 h8 hr hl hx hy ⟨by omega, by omega⟩ _ _ _ ⟨by decide, by omega⟩ (by decide) hl
    ·
      rw [if_neg g1, if_neg g1]
      have g1i : lx27.toInt < t0_8.toInt := q_nleI g1
      refine v_cons (by omega) ?_
      by_cases g2 : (t3_0 lx27.toNatClampNeg : Int32) = (0 : Int32)
      ·
        rw [if_pos g2, if_pos g2]
        obtain ⟨a3, e4⟩ := q_nm (lx27 + 1 : Int32)
        rw [e4]
        have a3i : a3.toInt = lx27.toInt + 1 := by rw [← e4]; exact q_addI (x := lx27.toInt) (y := 1) rfl (by decide) (by omega) (by omega)
        exact ih _ (by first | with_reducible assumption | omega | decide) (by first | with_reducible assumption | omega | decide)
      ·
        rw [if_neg g2, if_neg g2]
        unfold S_DR_nextRoot_J25 F_DR_nextRoot_J25
        exact v_nr2 h2 h8 hr hl hx hy ⟨by omega, by omega⟩ _ _ _ ⟨by decide, by omega⟩ (by decide) hl
theorem T_DR_nextRoot {x2 : Int32} {x3 : Int32} {t0_0 : Int32} {t0_1 : Int32} {t0_2 : Int32} {t0_3 : Int64} {t0_4 : Int32} {t0_5 : Int32} {t0_6 : Int32} {t0_7 : Int32} {t0_8 : Int32} {t0_9 : Int32} {t0_10 : Int32} {t1_0 : (Nat → Int32)} {t2_0 : (Nat → Int32)} {t3_0 : (Nat → Int32)} (h2 : 0 ≤ t0_2.toInt ∧ t0_2.toInt ≤ 1000) (h8 : 0 ≤ t0_8.toInt ∧ t0_8.toInt ≤ 2198) (hr : gO t1_0 t0_2.toNatClampNeg) (hl : gO t3_0 t0_8.toNatClampNeg) (hx : 0 ≤ x2.toInt ∧ x2.toInt ≤ 9) (hy : 0 ≤ x3.toInt ∧ x3.toInt ≤ 9) : (S_DR_nextRoot x2 x3 t0_0 t0_1 t0_2 t0_3 t0_4 t0_5 t0_6 t0_7 t0_8 t0_9 t0_10 t1_0 t2_0 t3_0) ∧ Q_DR_nextRoot x2 x3 t0_0 t0_1 t0_2 t0_3 t0_4 t0_5 t0_6 t0_8 t0_9 t0_10 t1_0 (F_DR_nextRoot x2 x3 t0_0 t0_1 t0_2 t0_3 t0_4 t0_5 t0_6 t0_7 t0_8 t0_9 t0_10 t1_0 t2_0 t3_0) := by
  have e0 : (0 : Int32).toInt = 0 := rfl
  have eL0 : (0 : Int64).toInt = 0 := rfl
  have eL1 : (10000 : Int64).toInt = 10000 := rfl
  have eL2 : (-10000 : Int64).toInt = -10000 := rfl
  have eL3 : (1000 : Int64).toInt = 1000 := rfl
  have eL4 : (-1 : Int64).toInt = -1 := rfl
  have eI3 : (1000 : Int32).toInt = 1000 := rfl
  unfold S_DR_nextRoot F_DR_nextRoot
  exact v_nr1 h2 h8 hr hl hx hy _ _ ⟨by decide, by omega⟩ (by decide)
