/-! values, for whole: texts: the class's Reader: takeExponent, keepFigure -/
theorem V_te117 {K_F_Rea_takeExponent_L61 : Int64 → Int32 → (Int32 × Int64 × Int64 × Int32 × Int32 × Int32 × Int32 × Int32 × Int32 × Int32 × Int64)} {x2 : Int32} {t0_0 : Int64} {t0_1 : Int64} {t0_2 : Int32} {t0_3 : Int32} {t0_4 : Int32} {t0_5 : Int32} {t0_6 : Int32} {t0_7 : Int32} {t0_8 : Int32} {t0_9 : Int64} {t1_0 : Int32} {t2_0 : (Nat → Int64)} {a19 : Int32} {lx31 : Int32} {lx51 : Int32} {lx63 : Int64} {lx64 : Int32} {s q m v : Nat} (hm : x2.toInt = (m : Int)) (h51 : lx51.toInt = (s : Int)) (h64 : lx64.toInt = (q : Int)) (hsq : s ≤ q) (hq : q ≤ 4100) (h31 : lx31.toInt = 1 ∨ lx31.toInt = -1) (h63 : lx63.toInt = (v : Int)) (hv : v ≤ 1000000000000) : ∃ (w : Int32) (ex : Int64), w.toInt = (q : Int) ∧ ex.toInt = lx31.toInt * (v : Int) ∧ (F_Rea_takeExponent_J117 K_F_Rea_takeExponent_L61 x2 t0_0 t0_1 t0_2 t0_3 t0_4 t0_5 t0_6 t0_7 t0_8 t0_9 t1_0 t2_0 a19 lx31 lx51 lx63 lx64) = ((if s < q ∧ q - s ≤ m then 1 else 0), t0_0, t0_1, w, t0_3, t0_4, t0_5, t0_6, t0_7, t0_8, ex) := by
  have hx : (lx31.toInt64 * lx63 : Int64).toInt = lx31.toInt * (v : Int) := by
    rcases h31 with h | h
    · exact q_mulL (q_i2l rfl) h63 (by rw [h]; omega) (by rw [h]; omega)
    · exact q_mulL (q_i2l rfl) h63 (by rw [h]; omega) (by rw [h]; omega)
  have ed : (lx64 - lx51 : Int32).toInt = ((q - s : Nat) : Int) := by
    rw [q_subI h64 h51 (by omega) (by omega)]
    omega
  unfold F_Rea_takeExponent_J117
  by_cases c1 : lx64 ≤ lx51
  · rw [if_pos c1]
    have := q_leI c1
    exact ⟨_, _, h64, hx, by rw [if_neg (by omega)]⟩
  · rw [if_neg c1]
    have := q_nleI c1
    by_cases c2 : x2 < (lx64 - lx51 : Int32)
    · rw [if_pos c2]
      have := q_ltI c2
      exact ⟨_, _, h64, hx, by rw [if_neg (by omega)]⟩
    · rw [if_neg c2]
      have := q_nltI c2
      exact ⟨_, _, h64, hx, by rw [if_pos (by omega)]⟩
theorem V_teL {x2 : Int32} {t0_0 : Int64} {t0_1 : Int64} {t0_2 : Int32} {t0_3 : Int32} {t0_4 : Int32} {t0_5 : Int32} {t0_6 : Int32} {t0_7 : Int32} {t0_8 : Int32} {t0_9 : Int64} {t1_0 : Int32} {t2_0 : (Nat → Int64)} {a19 : Int32} {lx31 : Int32} {lx51 : Int32} {L e s m : Nat} (hs : t1_0.toInt = (L : Int)) (hL : L ≤ 4100) (h3 : t0_3.toInt = (e : Int)) (he : e ≤ L) (hm : x2.toInt = (m : Int)) (h51 : lx51.toInt = (s : Int)) (h31 : lx31.toInt = 1 ∨ lx31.toInt = -1) : ∀ (n : Nat) (lx63 : Int64) (lx64 : Int32), ∀ (i v : Nat), lx64.toInt = (i : Int) → s ≤ i → i ≤ e → e < n + i → lx63.toInt = (v : Int) → v ≤ 1000000000000 → yCp 100000000000 (yDx (ySB t2_0) s (i - s)) v → (∀ j, s ≤ j → j < i → 48 ≤ ySB t2_0 j ∧ ySB t2_0 j ≤ 57) → ∃ (q v : Nat) (w : Int32) (ex : Int64), yDr (ySB t2_0) e s q ∧ yCp 100000000000 (yDx (ySB t2_0) s (q - s)) v ∧ v ≤ 1000000000000 ∧ w.toInt = (q : Int) ∧ ex.toInt = lx31.toInt * (v : Int) ∧ (F_Rea_takeExponent_L61 x2 t0_0 t0_1 t0_2 t0_3 t0_4 t0_5 t0_6 t0_7 t0_8 t0_9 t1_0 t2_0 a19 lx31 lx51 n lx63 lx64) = ((if s < q ∧ q - s ≤ m then 1 else 0), t0_0, t0_1, w, t0_3, t0_4, t0_5, t0_6, t0_7, t0_8, ex) := by
  have e11 : (100000000000 : Int64).toInt = 100000000000 := rfl
  have e10 : (10 : Int32).toInt = 10 := rfl
  intro n
  induction n with
  | zero =>
    intro lx63 lx64 i v h0 h1 h2 h4
    omega
  | succ n ih =>
    intro lx63 lx64 i v h0 h1 h2 h4 h63 hv hC hD
    rw [F_Rea_takeExponent_L61.eq_2]
    by_cases c1 : t0_3 ≤ lx64
    · rw [if_pos c1]
      have := q_leI c1
      obtain ⟨w, ex, a1, a2, a3⟩ := V_te117 (t0_0 := t0_0) (t0_1 := t0_1) (t0_3 := t0_3) (t0_4 := t0_4) (t0_5 := t0_5) (t0_6 := t0_6) (t0_7 := t0_7) (t0_8 := t0_8) hm h51 h0 h1 (by omega) h31 h63 hv
      exact ⟨i, v, w, ex, ⟨h1, h2, hD, Or.inl (by omega)⟩, hC, hv, a1, a2, a3⟩
    · rw [if_neg c1]
      have c1 := q_nleI c1
      have hd := V_R_digit (t0_0 := t0_0) (t0_1 := t0_1) (t0_4 := t0_4) (t0_5 := t0_5) (t0_6 := t0_6) (t0_7 := t0_7) (t0_8 := t0_8) (t0_9 := t0_9) (t2_0 := t2_0) hs hL h3 he h0
      rw [if_pos (by omega)] at hd
      generalize F_Rea_digitHere t0_0 t0_1 lx64 t0_3 t0_4 t0_5 t0_6 t0_7 t0_8 t0_9 t1_0 t2_0 = c at hd ⊢
      by_cases c2 : (10 : Int32) ≤ c
      · rw [if_pos c2]
        have c2 := q_leI c2
        have nd : ¬ (48 ≤ ySB t2_0 i ∧ ySB t2_0 i ≤ 57) := fun h => by
          have := yDv_10.mpr h
          omega
        obtain ⟨w, ex, a1, a2, a3⟩ := V_te117 (t0_0 := t0_0) (t0_1 := t0_1) (t0_3 := t0_3) (t0_4 := t0_4) (t0_5 := t0_5) (t0_6 := t0_6) (t0_7 := t0_7) (t0_8 := t0_8) hm h51 h0 h1 (by omega) h31 h63 hv
        exact ⟨i, v, w, ex, ⟨h1, h2, hD, Or.inr nd⟩, hC, hv, a1, a2, a3⟩
      · rw [if_neg c2]
        have c2 := q_nleI c2
        have dg := yDv_10.mp (show yDv (ySB t2_0 i) < 10 by omega)
        rw [yDv_v dg] at hd
        have ea : (lx64 + 1 : Int32).toInt = ((i + 1 : Nat) : Int) := by
          rw [q_addI (y := 1) h0 rfl (by omega) (by omega)]
          omega
        have hD2 : ∀ j, s ≤ j → j < i + 1 → 48 ≤ ySB t2_0 j ∧ ySB t2_0 j ≤ 57 := fun j j1 j2 => by
          by_cases a : j = i
          · rw [a]
            exact dg
          · exact hD j j1 (by omega)
        have st : yDx (ySB t2_0) s (i + 1 - s) = yDx (ySB t2_0) s (i - s) * 10 + (ySB t2_0 i - 48).toNat := by
          rw [show i + 1 - s = (i - s) + 1 by omega]
          show yuB 10 (fun j => ySB t2_0 (s + j) - 48) (i - s) * 10 + (ySB t2_0 (s + (i - s)) - 48).toNat = _
          rw [show s + (i - s) = i by omega]
          rfl
        have cs := yCp_s (d := (ySB t2_0 i - 48).toNat) hC
        rw [← st] at cs
        by_cases g : 0 ≤ lg_cmp lx63 100000000000
        · rw [if_pos g]
          have g2 := g_lc5 g
          exact ih _ _ (i + 1) v ea (by omega) (by omega) (by omega) h63 hv (cs.2 (by omega)) hD2
        · rw [if_neg g]
          have g2 := g_lc6 g
          have m1 : (lx63 * 10 : Int64).toInt = (v : Int) * 10 := q_mulL h63 (show (10 : Int64).toInt = 10 from rfl) (by omega) (by omega)
          have m2 : (lx63 * 10 + c.toInt64 : Int64).toInt = (v : Int) * 10 + (ySB t2_0 i - 48) := q_addL m1 (q_i2l hd) (by omega) (by omega)
          refine ih _ _ (i + 1) (v * 10 + (ySB t2_0 i - 48).toNat) ea (by omega) (by omega) (by omega) ?_ (by omega) (cs.1 (by omega)) hD2
          rw [m2]
          omega
theorem V_te53 {x2 : Int32} {t0_0 : Int64} {t0_1 : Int64} {t0_2 : Int32} {t0_3 : Int32} {t0_4 : Int32} {t0_5 : Int32} {t0_6 : Int32} {t0_7 : Int32} {t0_8 : Int32} {t0_9 : Int64} {t1_0 : Int32} {t2_0 : (Nat → Int64)} {a19 : Int32} {lx31 : Int32} {lx51 : Int32} {L e s m : Nat} (hs : t1_0.toInt = (L : Int)) (hL : L ≤ 4100) (h3 : t0_3.toInt = (e : Int)) (he : e ≤ L) (hm : x2.toInt = (m : Int)) (h51 : lx51.toInt = (s : Int)) (hse : s ≤ e) (h31 : lx31.toInt = 1 ∨ lx31.toInt = -1) : ∃ (q v : Nat) (w : Int32) (ex : Int64), yDr (ySB t2_0) e s q ∧ yCp 100000000000 (yDx (ySB t2_0) s (q - s)) v ∧ v ≤ 1000000000000 ∧ w.toInt = (q : Int) ∧ ex.toInt = lx31.toInt * (v : Int) ∧ (F_Rea_takeExponent_J53 x2 t0_0 t0_1 t0_2 t0_3 t0_4 t0_5 t0_6 t0_7 t0_8 t0_9 t1_0 t2_0 a19 lx31 lx51) = ((if s < q ∧ q - s ≤ m then 1 else 0), t0_0, t0_1, w, t0_3, t0_4, t0_5, t0_6, t0_7, t0_8, ex) := by
  unfold F_Rea_takeExponent_J53
  refine V_teL hs hL h3 he hm h51 h31 _ 0 lx51 s 0 h51 (Nat.le_refl _) hse (by omega) rfl (by decide) ?_ (fun j a b => by omega)
  rw [Nat.sub_self]
  exact Or.inl ⟨show 0 < 100000000000 by decide, rfl⟩
theorem V_R_exp {x2 : Int32} {t0_0 : Int64} {t0_1 : Int64} {t0_2 : Int32} {t0_3 : Int32} {t0_4 : Int32} {t0_5 : Int32} {t0_6 : Int32} {t0_7 : Int32} {t0_8 : Int32} {t0_9 : Int64} {t1_0 : Int32} {t2_0 : (Nat → Int64)} {L e p m : Nat} (hs : t1_0.toInt = (L : Int)) (hL : L ≤ 4100) (h3 : t0_3.toInt = (e : Int)) (he : e ≤ L) (hm : x2.toInt = (m : Int)) (h2 : t0_2.toInt = (p : Int)) (hp : p < e) : ∃ (q v : Nat) (w : Int32) (ex : Int64), yDr (ySB t2_0) e (yS1 (ySB t2_0) e (p + 1)) q ∧ yCp 100000000000 (yDx (ySB t2_0) (yS1 (ySB t2_0) e (p + 1)) (q - yS1 (ySB t2_0) e (p + 1))) v ∧ v ≤ 1000000000000 ∧ w.toInt = (q : Int) ∧ ((yNg (ySB t2_0) e (p + 1) ∧ ex.toInt = -(v : Int)) ∨ (¬ yNg (ySB t2_0) e (p + 1) ∧ ex.toInt = (v : Int))) ∧ (F_Rea_takeExponent x2 t0_0 t0_1 t0_2 t0_3 t0_4 t0_5 t0_6 t0_7 t0_8 t0_9 t1_0 t2_0) = ((if yS1 (ySB t2_0) e (p + 1) < q ∧ q - yS1 (ySB t2_0) e (p + 1) ≤ m then 1 else 0), t0_0, t0_1, w, t0_3, t0_4, t0_5, t0_6, t0_7, t0_8, ex) := by
  have ea : (t0_2 + 1 : Int32).toInt = ((p + 1 : Nat) : Int) := by
    rw [q_addI (y := 1) h2 rfl (by omega) (by omega)]
    omega
  have hh := V_R_here (t0_0 := t0_0) (t0_1 := t0_1) (t0_4 := t0_4) (t0_5 := t0_5) (t0_6 := t0_6) (t0_7 := t0_7) (t0_8 := t0_8) (t0_9 := t0_9) (t2_0 := t2_0) hs hL h3 he ea
  have hb := yS1_le (B := ySB t2_0) (L := e) (s := p + 1) (by omega)
  unfold F_Rea_takeExponent
  generalize hcq : F_Rea_here t0_0 t0_1 (t0_2 + 1) t0_3 t0_4 t0_5 t0_6 t0_7 t0_8 t0_9 t1_0 t2_0 = c at hh ⊢
  have at' : ∀ {x : Int32} {v : Int}, x.toInt = v → 0 ≤ v → (c = x ↔ p + 1 < e ∧ ySB t2_0 (p + 1) = v) := fun {x v} h1 h2 => by
    constructor
    · intro k
      rw [k, h1] at hh
      by_cases d : p + 1 < e
      · rw [if_pos d] at hh
        exact ⟨d, hh.symm⟩
      · rw [if_neg d] at hh
        omega
    · intro k
      rw [if_pos k.1, k.2] at hh
      exact Int32.toInt_inj.mp (by rw [hh, h1])
  have a45 := at' (x := 45) (v := 45) rfl (by decide)
  have a43 := at' (x := 43) (v := 43) rfl (by decide)
  have e2 : p + 1 < e → (t0_2 + 1 + 1 : Int32).toInt = ((p + 2 : Nat) : Int) := fun h => by
    rw [q_addI (y := 1) ea rfl (by omega) (by omega)]
    omega
  by_cases c1 : c = 45
  · rw [if_pos c1]
    have k := a45.mp c1
    have s1 : yS1 (ySB t2_0) e (p + 1) = p + 2 := by
      unfold yS1
      rw [if_pos ⟨k.1, Or.inl k.2⟩]
    rw [s1]
    unfold F_Rea_takeExponent_J24
    rw [hcq, if_pos c1]
    unfold F_Rea_takeExponent_J43
    obtain ⟨q, v, w, ex, b1, b2, b3, b4, b5, b6⟩ := V_te53 (t0_0 := t0_0) (t0_1 := t0_1) (t0_2 := t0_2) (t0_4 := t0_4) (t0_5 := t0_5) (t0_6 := t0_6) (t0_7 := t0_7) (t0_8 := t0_8) (t0_9 := t0_9) (t2_0 := t2_0) (a19 := t0_2 + 1) (lx31 := -1) hs hL h3 he hm (e2 k.1) (by omega) (Or.inr rfl)
    exact ⟨q, v, w, ex, b1, b2, b3, b4, Or.inl ⟨k, by rw [b5, show (-1 : Int32).toInt = -1 from rfl]; omega⟩, b6⟩
  · rw [if_neg c1]
    have ng : ¬ yNg (ySB t2_0) e (p + 1) := fun h => c1 (a45.mpr h)
    unfold F_Rea_takeExponent_J24
    rw [hcq, if_neg c1]
    by_cases c2 : c = 43
    · rw [if_pos c2]
      have k := a43.mp c2
      have s1 : yS1 (ySB t2_0) e (p + 1) = p + 2 := by
        unfold yS1
        rw [if_pos ⟨k.1, Or.inr k.2⟩]
      rw [s1]
      unfold F_Rea_takeExponent_J43
      obtain ⟨q, v, w, ex, b1, b2, b3, b4, b5, b6⟩ := V_te53 (t0_0 := t0_0) (t0_1 := t0_1) (t0_2 := t0_2) (t0_4 := t0_4) (t0_5 := t0_5) (t0_6 := t0_6) (t0_7 := t0_7) (t0_8 := t0_8) (t0_9 := t0_9) (t2_0 := t2_0) (a19 := t0_2 + 1) (lx31 := 1) hs hL h3 he hm (e2 k.1) (by omega) (Or.inl rfl)
      exact ⟨q, v, w, ex, b1, b2, b3, b4, Or.inr ⟨ng, by rw [b5, show (1 : Int32).toInt = 1 from rfl]; omega⟩, b6⟩
    · rw [if_neg c2]
      have s1 : yS1 (ySB t2_0) e (p + 1) = p + 1 := by
        unfold yS1
        rw [if_neg (fun h => h.2.elim (fun k => c1 (a45.mpr ⟨h.1, k⟩)) (fun k => c2 (a43.mpr ⟨h.1, k⟩)))]
      rw [s1]
      obtain ⟨q, v, w, ex, b1, b2, b3, b4, b5, b6⟩ := V_te53 (t0_0 := t0_0) (t0_1 := t0_1) (t0_2 := t0_2) (t0_4 := t0_4) (t0_5 := t0_5) (t0_6 := t0_6) (t0_7 := t0_7) (t0_8 := t0_8) (t0_9 := t0_9) (t2_0 := t2_0) (a19 := t0_2 + 1) (lx31 := 1) hs hL h3 he hm ea (by omega) (Or.inl rfl)
      exact ⟨q, v, w, ex, b1, b2, b3, b4, Or.inr ⟨ng, by rw [b5, show (1 : Int32).toInt = 1 from rfl]; omega⟩, b6⟩
/-- what takeFigures has of M figures f -/
def yKp (b most M : Nat) (f : Nat → Int) (kept dropped some s n : Int32) (row : Nat → Int32) : Prop := ∃ v d kp r : Nat, bO 220 s n row (v : Int) ∧ n = 0 ∧ kept.toInt = (kp : Int) ∧ kp ≤ most ∧ v < b ^ kp ∧ (kp = 0 ∨ b ^ (kp - 1) ≤ v) ∧ dropped.toInt = (d : Int) ∧ d ≤ M ∧ (0 < d → kp = most) ∧ yuB b f M = v * b ^ d + r ∧ r < b ^ d ∧ ((some = 0 ∧ r = 0) ∨ (some = 1 ∧ 0 < r))
theorem y_1000 : (10 : Nat) ^ 1000 ≤ 2147483648 ^ 108 := by decide +kernel
theorem V_R_keep {x2 : Int32} {x3 : Int32} {x4 : Int32} {t0_0 : Int64} {t0_1 : Int64} {t0_2 : Int32} {t0_3 : Int32} {t0_4 : Int32} {t0_5 : Int32} {t0_6 : Int32} {t0_7 : Int32} {t0_8 : Int32} {t0_9 : Int64} {t1_0 : Int32} {t1_1 : Int32} {t2_0 : (Nat → Int32)} {b most M dg : Nat} {f : Nat → Int} (hk : yKp b most M f t0_6 t0_7 t0_8 t1_0 t1_1 t2_0) (hb : x2.toInt = (b : Int)) (hb2 : 2 ≤ b) (hd : x3.toInt = (dg : Int)) (hdb : dg < b) (hm : x4.toInt = (most : Int)) (hmm : most ≤ 4100) (hbm : b ^ most ≤ 10 ^ 1000) (hM : M ≤ 4100) (hf : f M = (dg : Int)) : ∃ kept dropped some s n row, (F_Rea_keepFigure x2 x3 x4 t0_0 t0_1 t0_2 t0_3 t0_4 t0_5 t0_6 t0_7 t0_8 t0_9 t1_0 t1_1 t2_0) = (t0_0, t0_1, t0_2, t0_3, t0_4, t0_5, kept, dropped, some, t0_9, s, n, row) ∧ yKp b most (M + 1) f kept dropped some s n row := by
  obtain ⟨v, d, kp, r, k1, kn, k2, k3, k4, k5, k6, k7, k8, k9, k10, k11⟩ := hk
  have st : yuB b f (M + 1) = yuB b f M * b + dg := by
    show yuB b f M * b + (f M).toNat = _
    rw [hf]
    rfl
  unfold F_Rea_keepFigure
  by_cases c : x4 ≤ t0_6
  · rw [if_pos c]
    have c := q_leI c
    have kpm : kp = most := by omega
    have ed : (t0_7 + 1 : Int32).toInt = ((d + 1 : Nat) : Int) := by
      rw [q_addI (y := 1) k6 rfl (by omega) (by omega)]
      omega
    have pw : b ^ (d + 1) = b ^ d * b := Nat.pow_succ _ _
    have bound : r * b + dg < b ^ (d + 1) := by
      have : (r + 1) * b ≤ b ^ d * b := Nat.mul_le_mul_right _ k10
      rw [Nat.add_mul, Nat.one_mul] at this
      omega
    have val : yuB b f (M + 1) = v * b ^ (d + 1) + (r * b + dg) := by
      rw [st, k9, pw]
      grind
    by_cases z : x3 = 0
    · rw [if_pos z]
      have dz : dg = 0 := by
        rw [z] at hd
        have : (0 : Int32).toInt = 0 := rfl
        omega
      refine ⟨_, _, _, _, _, _, rfl, v, d + 1, kp, r * b + dg, k1, kn, k2, k3, k4, k5, ed, by omega, fun _ => kpm, val, bound, ?_⟩
      rcases k11 with ⟨a1, a2⟩ | ⟨a1, a2⟩
      · left
        rw [a1, a2, dz]
        exact ⟨by decide, by omega⟩
      · right
        rw [a1]
        exact ⟨by decide, by have := Nat.mul_pos a2 (show 0 < b by omega); omega⟩
    · rw [if_neg z]
      have dz : 0 < dg := by
        rcases Nat.eq_zero_or_pos dg with h | h
        · exact absurd (Int32.toInt_inj.mp (by rw [hd, h]; rfl)) z
        · exact h
      refine ⟨_, _, _, _, _, _, rfl, v, d + 1, kp, r * b + dg, k1, kn, k2, k3, k4, k5, ed, by omega, fun _ => kpm, val, bound, Or.inr ⟨?_, by omega⟩⟩
      rcases k11 with ⟨a1, a2⟩ | ⟨a1, a2⟩
      · rw [a1]
        decide
      · rw [a1]
        decide
  · rw [if_neg c]
    have c := q_nleI c
    have d0 : d = 0 := by
      rcases Nat.eq_zero_or_pos d with h | h
      · exact h
      · have := k8 h
        omega
    subst d0
    rw [Nat.pow_zero] at k10
    have r0 : r = 0 := by omega
    subst r0
    rw [Nat.pow_zero, Nat.mul_one, Nat.add_zero] at k9
    have vb : v < 2147483648 ^ 108 := Nat.lt_of_lt_of_le k4 (Nat.le_trans (Nat.pow_le_pow_right (by omega) k3) (Nat.le_trans hbm y_1000))
    have sz := k1.sz (M := 108) (by rw [Int.natAbs_natCast]; exact vb)
    have e220 : (220 : Int32).toInt = 220 := rfl
    have hp := W_mulS (x := x2) (y := x3) k1 (by omega) (by omega) (by omega) (by omega)
    generalize F_Big_multiplySmall 220 x2 x3 t1_0 t1_1 t2_0 = p57 at hp ⊢
    rw [hb, hd, show (b : Int) * (v : Int) + (dg : Int) = ((v * b + dg : Nat) : Int) by rw [Int.mul_comm]; omega] at hp
    have hp1 : bO 220 p57.1 p57.2.1 p57.2.2 ((v * b + dg : Nat) : Int) := hp
    have pn : p57.2.1 = 0 := by
      rcases hp1.sgn with h | h
      · exact h.1
      · have := h.2
        omega
    unfold F_Rea_keepFigure_c17
    rw [k9] at st
    have val : yuB b f (M + 1) = (v * b + dg) * b ^ 0 + 0 := by
      rw [st, Nat.pow_zero, Nat.mul_one, Nat.add_zero]
    have tail : ∀ {kept : Int32} {kp' : Nat}, kept.toInt = (kp' : Int) → kp' ≤ most → v * b + dg < b ^ kp' → (kp' = 0 ∨ b ^ (kp' - 1) ≤ v * b + dg) → yKp b most (M + 1) f kept t0_7 t0_8 p57.1 p57.2.1 p57.2.2 := fun {kept kp'} h1 h2 h3 h4 => ⟨v * b + dg, 0, kp', 0, hp1, pn, h1, h2, h3, h4, k6, by omega, fun h => absurd h (by omega), val, by rw [Nat.pow_zero]; omega, k11.imp (fun h => h) (fun h => absurd h.2 (by omega))⟩
    have ps := hp1.pos
    by_cases z : p57.1 ≤ 0
    · rw [if_pos z]
      have z := q_leI z
      have e0 : (0 : Int32).toInt = 0 := rfl
      have vz : v * b + dg = 0 := by
        by_cases h : v * b + dg = 0
        · exact h
        · have := ps.mpr (by omega)
          omega
      have v0 : v = 0 := by
        rcases Nat.eq_zero_or_pos v with h | h
        · exact h
        · have := Nat.mul_pos h (show 0 < b by omega)
          omega
      have kp0 : kp = 0 := by
        rcases k5 with h | h
        · exact h
        · have := Nat.pow_pos (n := kp - 1) (show 0 < b by omega)
          omega
      have ek : (t0_6 + 0 : Int32).toInt = (kp : Int) := by
        rw [q_addI (y := 0) k2 rfl (by omega) (by omega)]
        omega
      exact ⟨_, _, _, _, _, _, rfl, tail ek k3 (by rw [vz]; exact Nat.pow_pos (by omega)) (Or.inl kp0)⟩
    · rw [if_neg z]
      have z := q_nleI z
      have e0 : (0 : Int32).toInt = 0 := rfl
      have vp : 0 < v * b + dg := by
        have := ps.mp (by omega)
        omega
      have ek : (t0_6 + 1 : Int32).toInt = ((kp + 1 : Nat) : Int) := by
        rw [q_addI (y := 1) k2 rfl (by omega) (by omega)]
        omega
      have pw : b ^ (kp + 1) = b ^ kp * b := Nat.pow_succ _ _
      refine ⟨_, _, _, _, _, _, rfl, tail ek (by omega) ?_ (Or.inr ?_)⟩
      · have : (v + 1) * b ≤ b ^ kp * b := Nat.mul_le_mul_right _ k4
        rw [Nat.add_mul, Nat.one_mul] at this
        omega
      · rw [Nat.add_sub_cancel]
        rcases k5 with h | h
        · rw [h, Nat.pow_zero]
          exact vp
        · by_cases h0 : kp = 0
          · rw [h0, Nat.pow_zero]
            exact vp
          · have e1 : b ^ kp = b ^ (kp - 1) * b := by
              rw [← Nat.pow_succ]
              congr 1
              omega
            have := Nat.mul_le_mul_right b h
            omega
