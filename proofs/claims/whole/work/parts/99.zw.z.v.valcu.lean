/-! values, for whole: the reference's rows of figures: compare, readsBack, half, top -/
theorem y_dvL {A j : Nat} : A / 10 ^ j = 10 * (A / 10 ^ (j + 1)) + yLo A j := by
  unfold yLo
  rw [Nat.pow_succ, ← Nat.div_div_eq_div_mul]
  omega
theorem V_cpL {N1 : Int32} {N2 : Int32} {t0_0 : (Nat → Int32)} {t1_0 : (Nat → Int32)} {A B : Nat} (ha : yRw t0_0 A) (hb : yRw t1_0 B) : ∀ (n : Nat) (lx8 : Int32), ∀ (i : Nat), lx8.toInt + 1 = (i : Int) → i ≤ 1404 → i < n → A / 10 ^ i = B / 10 ^ i → ((F_FR_compare_L4 N1 N2 t0_0 t1_0 n lx8) = 0 ∧ A = B) ∨ ((F_FR_compare_L4 N1 N2 t0_0 t1_0 n lx8) = 1 ∧ B < A) ∨ ((F_FR_compare_L4 N1 N2 t0_0 t1_0 n lx8) = -1 ∧ A < B) := by
  have e0 : (0 : Int32).toInt = 0 := rfl
  intro n
  induction n with
  | zero =>
    intro lx8 i g1 g2 g3
    omega
  | succ n ih =>
    intro lx8 i g1 g2 g3 g4
    rw [F_FR_compare_L4.eq_2]
    by_cases c : lx8 < 0
    · rw [if_pos c]
      unfold F_FR_compare_J23
      rw [if_neg (show ¬ (0 : Int32) ≤ lx8 from fun q => by have := q_leI q; have := q_ltI c; omega)]
      have c := q_ltI c
      obtain rfl : i = 0 := by omega
      rw [Nat.pow_zero, Nat.div_one, Nat.div_one] at g4
      exact Or.inl ⟨rfl, g4⟩
    · rw [if_neg c]
      have c0 := c
      have c := q_nltI c
      obtain ⟨k, rfl⟩ : ∃ k, i = k + 1 := ⟨i - 1, by omega⟩
      have hk : lx8.toInt = (k : Int) := by omega
      have kc : lx8.toNatClampNeg = k := by
        have := q_clI hk (by omega)
        omega
      have da := ha.d (j := k) (by omega)
      have db := hb.d (j := k) (by omega)
      have ea := y_dvL (A := A) (j := k)
      have eb := y_dvL (A := B) (j := k)
      rw [g4] at ea
      rw [kc]
      by_cases w : t0_0 k = t1_0 k
      · rw [if_pos w]
        refine ih (lx8 + -1) k (y_dn1 hk) (by omega) (by omega) ?_
        rw [ea, eb]
        rw [w, db] at da
        have : yLo B k = yLo A k := by omega
        rw [this]
      · rw [if_neg w]
        unfold F_FR_compare_J23
        rw [kc, if_pos (show (0 : Int32) ≤ lx8 from Int32.not_lt.mp c0)]
        have nw : (t0_0 k).toInt ≠ (t1_0 k).toInt := fun q => w (Int32.toInt_inj.mp q)
        generalize B / 10 ^ (k + 1) = T at ea eb
        by_cases v : t1_0 k ≤ t0_0 k
        · rw [if_pos v]
          have v := q_leI v
          refine Or.inr (Or.inl ⟨rfl, ?_⟩)
          have : B / 10 ^ k < A / 10 ^ k := by
            rw [ea, eb]
            omega
          rcases Nat.lt_or_ge B A with q | q
          · exact q
          · exact absurd (Nat.div_le_div_right (c := 10 ^ k) q) (Nat.not_le.mpr this)
        · rw [if_neg v]
          have v := q_nleI v
          refine Or.inr (Or.inr ⟨rfl, ?_⟩)
          have : A / 10 ^ k < B / 10 ^ k := by
            rw [ea, eb]
            omega
          rcases Nat.lt_or_ge A B with q | q
          · exact q
          · exact absurd (Nat.div_le_div_right (c := 10 ^ k) q) (Nat.not_le.mpr this)
theorem V_cp {N1 N2 : Int32} {f g : Nat → Int32} {A B : Nat} (ha : yRw f A) (hb : yRw g B) : (F_FR_compare N1 N2 f g = 0 ∧ A = B) ∨ (F_FR_compare N1 N2 f g = 1 ∧ B < A) ∨ (F_FR_compare N1 N2 f g = -1 ∧ A < B) := by
  unfold F_FR_compare
  refine V_cpL ha hb (((1403 : Int32).toInt - -1).toNat + 1) 1403 1404 rfl (by omega) (by decide) ?_
  rw [Nat.div_eq_of_lt ha.lt, Nat.div_eq_of_lt hb.lt]
theorem V_rb18 {t0_0 : Int32} {t0_1 : Int32} {t0_2 : Int32} {t0_3 : Int32} {t0_4 : Int64} {t0_5 : Int32} {t0_6 : Int32} {t0_7 : Int64} {t0_8 : Int32} {t0_9 : Int64} {t0_10 : Int32} {t1_0 : (Nat → Int32)} {t2_0 : (Nat → Int32)} {t3_0 : (Nat → Int32)} {lx28 : Int32} {X L H : Nat} {ev : Prop} (h1 : yRw t1_0 L) (h2 : yRw t2_0 H) (h3 : yRw t3_0 X) (hl : (lx28 = 0 ∧ ¬ ev) ∨ (lx28 = 1 ∧ ev)) : ((F_FR_readsBack_J18 t0_0 t0_1 t0_2 t0_3 t0_4 t0_5 t0_6 t0_7 t0_8 t0_9 t0_10 t1_0 t2_0 t3_0 lx28) = 0 ∧ ¬ ((L < X ∨ (ev ∧ L = X)) ∧ (X < H ∨ (ev ∧ X = H)))) ∨ ((F_FR_readsBack_J18 t0_0 t0_1 t0_2 t0_3 t0_4 t0_5 t0_6 t0_7 t0_8 t0_9 t0_10 t1_0 t2_0 t3_0 lx28) = 1 ∧ (L < X ∨ (ev ∧ L = X)) ∧ (X < H ∨ (ev ∧ X = H))) := by
  have cl := V_cp (N1 := 1404) (N2 := 1404) h3 h1
  have ch := V_cp (N1 := 1404) (N2 := 1404) h3 h2
  unfold F_FR_readsBack_J18
  have z0 : lx28 = 0 ↔ ¬ ev := by
    rcases hl with ⟨a, b⟩ | ⟨a, b⟩
    · exact ⟨fun _ => b, fun _ => a⟩
    · rw [a]
      exact ⟨fun q => absurd q (by decide), fun q => absurd b q⟩
  have second : ∀ (a54 r : Int32), ((a54 = 0 ∧ X = H) ∨ (a54 = 1 ∧ H < X) ∨ (a54 = -1 ∧ X < H)) → r = F_FR_readsBack_J55 t0_0 t0_1 t0_2 t0_3 t0_4 t0_5 t0_6 t0_7 t0_8 t0_9 t0_10 t1_0 t2_0 t3_0 lx28 a54 → (r = 0 ∧ ¬ (X < H ∨ (ev ∧ X = H))) ∨ (r = 1 ∧ (X < H ∨ (ev ∧ X = H))) := by
    intro a54 r ha hr
    rw [hr]
    unfold F_FR_readsBack_J55
    rcases ha with ⟨a, b⟩ | ⟨a, b⟩ | ⟨a, b⟩
    · rw [if_neg (by rw [a]; decide), if_pos a]
      by_cases e : lx28 = 0
      · rw [if_pos e]
        exact Or.inl ⟨rfl, fun q => by rcases q with q | q; omega; exact z0.mp e q.1⟩
      · rw [if_neg e]
        exact Or.inr ⟨rfl, Or.inr ⟨Classical.byContradiction (fun q => e (z0.mpr q)), b⟩⟩
    · rw [if_neg (by rw [a]; decide), if_neg (by rw [a]; decide)]
      exact Or.inl ⟨rfl, fun q => by rcases q with q | q; omega; omega⟩
    · rw [if_pos (by rw [a]; decide)]
      exact Or.inr ⟨rfl, Or.inl b⟩
  rcases cl with ⟨a, b⟩ | ⟨a, b⟩ | ⟨a, b⟩
  · rw [if_neg (by rw [a]; decide), if_pos a]
    by_cases e : lx28 = 0
    · rw [if_pos e]
      exact Or.inl ⟨rfl, fun q => by rcases q.1 with w | w; omega; exact z0.mp e w.1⟩
    · rw [if_neg e]
      have hev : ev := Classical.byContradiction (fun q => e (z0.mpr q))
      rcases second _ _ ch rfl with ⟨r, w⟩ | ⟨r, w⟩
      · exact Or.inl ⟨r, fun q => w q.2⟩
      · exact Or.inr ⟨r, Or.inr ⟨hev, b.symm⟩, w⟩
  · rw [if_pos (by rw [a]; decide)]
    rcases second _ _ ch rfl with ⟨r, w⟩ | ⟨r, w⟩
    · exact Or.inl ⟨r, fun q => w q.2⟩
    · exact Or.inr ⟨r, Or.inl b, w⟩
  · rw [if_neg (by rw [a]; decide), if_neg (by rw [a]; decide)]
    exact Or.inl ⟨rfl, fun q => by rcases q.1 with w | w; omega; omega⟩
theorem V_rb {t0_0 : Int32} {t0_1 : Int32} {t0_2 : Int32} {t0_3 : Int32} {t0_4 : Int64} {t0_5 : Int32} {t0_6 : Int32} {t0_7 : Int64} {t0_8 : Int32} {t0_9 : Int64} {t0_10 : Int32} {t1_0 : (Nat → Int32)} {t2_0 : (Nat → Int32)} {t3_0 : (Nat → Int32)} {X L H F' : Nat} (h1 : yRw t1_0 L) (h2 : yRw t2_0 H) (h3 : yRw t3_0 X) (hf : t0_4.toInt = (F' : Int)) : ((F_FR_readsBack t0_0 t0_1 t0_2 t0_3 t0_4 t0_5 t0_6 t0_7 t0_8 t0_9 t0_10 t1_0 t2_0 t3_0) = 0 ∧ ¬ ((L < X ∨ (F' % 2 = 0 ∧ L = X)) ∧ (X < H ∨ (F' % 2 = 0 ∧ X = H)))) ∨ ((F_FR_readsBack t0_0 t0_1 t0_2 t0_3 t0_4 t0_5 t0_6 t0_7 t0_8 t0_9 t0_10 t1_0 t2_0 t3_0) = 1 ∧ (L < X ∨ (F' % 2 = 0 ∧ L = X)) ∧ (X < H ∨ (F' % 2 = 0 ∧ X = H))) := by
  have e2 : (2 : Int64).toInt = 2 := rfl
  have dv := w_divL (a := t0_4) (b := 2) (by omega) e2 (by omega)
  have hi := Int64.toInt_lt t0_4
  have m := q_mulL (a := t0_4 / 2) (b := 2) dv e2 (by omega) (by omega)
  have s := q_subL hf m (by omega) (by omega)
  unfold F_FR_readsBack
  by_cases c : lg_cmp (t0_4 - t0_4 / 2 * 2) 0 = 0
  · rw [if_pos c]
    have c := g_lcz c
    have z : (0 : Int64).toInt = 0 := rfl
    exact V_rb18 h1 h2 h3 (Or.inr ⟨rfl, by omega⟩)
  · rw [if_neg c]
    have c2 : (t0_4 - t0_4 / 2 * 2).toInt ≠ (0 : Int64).toInt := fun q => c (y_lcE.mpr q)
    have z : (0 : Int64).toInt = 0 := rfl
    exact V_rb18 h1 h2 h3 (Or.inl ⟨rfl, by omega⟩)
theorem y_mz {V : Nat} : ∀ {m : Nat}, (∀ j, j < m → yLo V j = 0) → V % 10 ^ m = 0 := by
  intro m
  induction m with
  | zero => intro _; rw [Nat.pow_zero, Nat.mod_one]
  | succ m ih =>
    intro h
    rw [Nat.mod_pow_succ, ih (fun j hj => h j (by omega))]
    have := h m (by omega)
    unfold yLo at this
    rw [this, Nat.mul_zero]
theorem y_mz2 {V m j : Nat} (h : V % 10 ^ m = 0) (hj : j < m) : yLo V j = 0 := by
  have e : V = V / 10 ^ m * 10 ^ m := by
    have := Nat.div_add_mod V (10 ^ m)
    rw [h, Nat.add_zero, Nat.mul_comm] at this
    exact this.symm
  rw [e, y_loK, if_pos hj]
def yHf3 (r : Int32) (V k : Nat) : Prop := (r = 0 ∧ 2 * (V % 10 ^ k) = 10 ^ k) ∨ (r = 1 ∧ 10 ^ k < 2 * (V % 10 ^ k)) ∨ (r = -1 ∧ 2 * (V % 10 ^ k) < 10 ^ k)
theorem V_hfL {x2 : Int32} {t0_0 : Int32} {t0_1 : Int32} {t0_2 : Int32} {t0_3 : Int32} {t0_4 : Int64} {t0_5 : Int32} {t0_6 : Int32} {t0_7 : Int64} {t0_8 : Int32} {t0_9 : Int64} {t0_10 : Int32} {t1_0 : (Nat → Int32)} {V k : Nat} (hv : yRw t1_0 V) (hk : x2.toInt = ((k + 1 : Nat) : Int)) (hk2 : k < 1400) (h5 : yLo V k = 5) : ∀ (n : Nat) (lx49 : Int32), ∀ (i : Nat), lx49.toInt = (i : Int) → i ≤ k → k < n + i → (∀ j, j < i → yLo V j = 0) → yHf3 (F_FR_half_L40 x2 t0_0 t0_1 t0_2 t0_3 t0_4 t0_5 t0_6 t0_7 t0_8 t0_9 t0_10 t1_0 n lx49) V (k + 1) := by
  have e0 : (0 : Int32).toInt = 0 := rfl
  have e1 : (1 : Int32).toInt = 1 := rfl
  have s := q_subI hk e1 (by omega) (by omega)
  have md : V % 10 ^ (k + 1) = V % 10 ^ k + 10 ^ k * 5 := by
    rw [Nat.mod_pow_succ]
    unfold yLo at h5
    rw [h5]
  have pk : 10 ^ (k + 1) = 10 * 10 ^ k := by rw [Nat.pow_succ, Nat.mul_comm]
  intro n
  induction n with
  | zero =>
    intro lx49 i g1 g2 g3
    omega
  | succ n ih =>
    intro lx49 i g1 g2 g3 g4
    rw [F_FR_half_L40.eq_2]
    by_cases c : (x2 - 1) ≤ lx49
    · rw [if_pos c]
      have c := q_leI c
      obtain rfl : i = k := by clear md pk; omega
      have := y_mz g4
      refine Or.inl ⟨rfl, ?_⟩
      rw [md, this, pk]
      generalize 10 ^ i = z
      omega
    · rw [if_neg c]
      have c := q_nleI c
      have ic : lx49.toNatClampNeg = i := by
        have := q_clI g1 (by clear md pk; omega)
        clear md pk
        omega
      rw [ic]
      have ik : i < k := by clear md pk; omega
      have d := hv.d (j := i) (by clear md pk; omega)
      by_cases w : t1_0 i = 0
      · rw [if_pos w]
        refine ih (lx49 + 1) (i + 1) (q_addI g1 e1 (by clear md pk; omega) (by clear md pk; omega)) (by omega) (by omega) (fun j hj => ?_)
        by_cases q : j = i
        · rw [q]
          rw [w, e0] at d
          clear md pk
          omega
        · exact g4 j (by omega)
      · rw [if_neg w]
        have nz : V % 10 ^ k ≠ 0 := fun q => w (Int32.toInt_inj.mp (by rw [d, y_mz2 q ik]; rfl))
        refine Or.inr (Or.inl ⟨rfl, ?_⟩)
        rw [md, pk]
        generalize V % 10 ^ k = r at nz ⊢
        generalize 10 ^ k = z
        omega
theorem V_half {x2 : Int32} {t0_0 : Int32} {t0_1 : Int32} {t0_2 : Int32} {t0_3 : Int32} {t0_4 : Int64} {t0_5 : Int32} {t0_6 : Int32} {t0_7 : Int64} {t0_8 : Int32} {t0_9 : Int64} {t0_10 : Int32} {t1_0 : (Nat → Int32)} {V k : Nat} (hv : yRw t1_0 V) (hk : x2.toInt = (k : Int)) (hk2 : k ≤ 1400) : yHf3 (F_FR_half x2 t0_0 t0_1 t0_2 t0_3 t0_4 t0_5 t0_6 t0_7 t0_8 t0_9 t0_10 t1_0) V k := by
  have e0 : (0 : Int32).toInt = 0 := rfl
  have e1 : (1 : Int32).toInt = 1 := rfl
  have e5 : (5 : Int32).toInt = 5 := rfl
  unfold F_FR_half
  by_cases z : x2 = 0
  · rw [if_pos z]
    unfold F_FR_half_J16
    rw [if_pos (show x2 ≤ 0 by rw [z]; decide)]
    have : k = 0 := by
      rw [z, e0] at hk
      omega
    refine Or.inr (Or.inr ⟨rfl, ?_⟩)
    rw [this, Nat.pow_zero, Nat.mod_one]
    decide
  · rw [if_neg z]
    have kz : k ≠ 0 := fun q => z (Int32.toInt_inj.mp (by rw [hk, q]; rfl))
    obtain ⟨i, rfl⟩ : ∃ i, k = i + 1 := ⟨k - 1, by omega⟩
    have s := q_subI hk e1 (by omega) (by omega)
    have ic : (x2 - 1).toNatClampNeg = i := by
      have := q_clI s (by omega)
      omega
    rw [ic]
    have d := hv.d (j := i) (by omega)
    have d9 := yLo_9 V i
    have md : V % 10 ^ (i + 1) = V % 10 ^ i + 10 ^ i * yLo V i := by
      rw [Nat.mod_pow_succ]
      rfl
    have pk : 10 ^ (i + 1) = 10 * 10 ^ i := by rw [Nat.pow_succ, Nat.mul_comm]
    have ml := Nat.mod_lt V (show 0 < 10 ^ i from Nat.pow_pos (by decide))
    by_cases w : t1_0 i = 5
    · rw [if_pos w]
      exact V_hfL hv hk (by omega) (by rw [w, e5] at d; clear md pk ml; omega) 1000000 0 0 rfl (by omega) (by omega) (fun j hj => absurd hj (Nat.not_lt_zero _))
    · rw [if_neg w]
      have n5 : yLo V i ≠ 5 := fun q => w (Int32.toInt_inj.mp (by rw [d, q]; rfl))
      unfold F_FR_half_J16
      rw [if_neg (show ¬ x2 ≤ 0 from fun q => by have := q_leI q; clear md pk ml; omega), ic]
      by_cases v : t1_0 i ≤ 5
      · rw [if_pos v]
        have v := q_leI v
        refine Or.inr (Or.inr ⟨rfl, ?_⟩)
        have d4 : yLo V i ≤ 4 := by clear md pk ml; omega
        rw [md, pk]
        have := Nat.mul_le_mul_left (10 ^ i) d4
        generalize 10 ^ i * yLo V i = x at this ⊢
        generalize 10 ^ i = y at this ml ⊢
        omega
      · rw [if_neg v]
        have v := q_nleI v
        refine Or.inr (Or.inl ⟨rfl, ?_⟩)
        have d6 : 6 ≤ yLo V i := by clear md pk ml; omega
        rw [md, pk]
        have hp : 0 < 10 ^ i := Nat.pow_pos (by decide)
        have := Nat.mul_le_mul_left (10 ^ i) d6
        generalize 10 ^ i * yLo V i = x at this ⊢
        generalize 10 ^ i = y at this hp ⊢
        omega
theorem y_dz {V i : Nat} : ∀ {d : Nat}, (∀ j, i ≤ j → j < i + d → yLo V j = 0) → yLt10 V (i + d) → yLt10 V i := by
  intro d
  induction d with
  | zero => intro _ h; exact h
  | succ d ih =>
    intro h1 h2
    refine ih (fun j a b => h1 j a (by omega)) ?_
    have := y_lt10p (c := i + (d + 1)) (by omega) h2 (h1 _ (by omega) (by omega))
    exact this
theorem y_topV {f : Nat → Int32} {V : Nat} {p : Int32} (h : yRw f V) (hq : Q_FR_top f p) : ∃ j : Nat, p.toInt = (j : Int) ∧ (20 ≤ j ∧ j ≤ 1389) ∧ 10 ^ j ≤ V ∧ V < 10 ^ (j + 1) := by
  obtain ⟨h1, h2, h3⟩ := hq
  obtain ⟨j, hj⟩ : ∃ j : Nat, p.toInt = (j : Int) := ⟨p.toInt.toNat, by omega⟩
  have jc : p.toNatClampNeg = j := by
    have := q_clI hj (by omega)
    omega
  rw [jc, h.d (j := j) (by omega)] at h2
  refine ⟨j, hj, by omega, ?_, ?_⟩
  · rcases Nat.lt_or_ge V (10 ^ j) with q | q
    · exact absurd (by rw [y_lo0 q]; rfl) h2
    · exact q
  · have key := y_dz (V := V) (i := j + 1) (d := 1404 - (j + 1)) (fun i a b => by
      have := h3 i (by omega) (by omega)
      rw [h.d (j := i) (by omega)] at this
      omega) (by rw [show j + 1 + (1404 - (j + 1)) = 1404 from by omega]; exact h.lt)
    exact key
