/-! values, for whole: the reference's DecimalRows: the root's next figure -/
/-- what d as the next figure would take away, in its last k figures -/
def rtC (r d : Int) (k : Nat) : Int := if k = 0 then 0 else d * d + 20 * d * (r % 10 ^ (k - 1))
theorem rtC_0 {r d : Int} : rtC r d 0 = 0 := rfl
theorem rtC_1 {r d : Int} : rtC r d 1 = d * d := by
  show d * d + 20 * d * (r % 10 ^ 0) = d * d
  rw [Int.pow_zero, Int.emod_one]
  grind
theorem rtC_S {r d : Int} {j : Nat} : rtC r d (j + 2) = rtC r d (j + 1) + 2 * (r / 10 ^ j % 10) * d * 10 ^ (j + 1) := by
  show d * d + 20 * d * (r % 10 ^ (j + 1)) = d * d + 20 * d * (r % 10 ^ j) + 2 * (r / 10 ^ j % 10) * d * 10 ^ (j + 1)
  rw [u_modS]
  grind
/-- the row's last k figures -/
def uT (f : Nat → Int32) (z k : Nat) : Int := uV (fun i => f (i + (z - k))) k
theorem uT_S {f : Nat → Int32} {z k : Nat} {a : Int32} {x : Int32} (hk : k < z) (ha : a.toNatClampNeg = z - 1 - k) : uT (upd f a.toNatClampNeg x) z (k + 1) = x.toInt * 10 ^ k + uT f z k := by
  unfold uT
  rw [u_tl, ha]
  have e1 : upd f (z - 1 - k) x (0 + (z - (k + 1))) = x := by
    unfold upd
    rw [if_pos (by omega)]
  have e2 : uV (fun i => (fun i => upd f (z - 1 - k) x (i + (z - (k + 1)))) (i + 1)) k = uV (fun i => f (i + (z - k))) k := u_ext (fun i hi => by
    show upd f (z - 1 - k) x (i + 1 + (z - (k + 1))) = f (i + (z - k))
    unfold upd
    rw [if_neg (by omega), show i + 1 + (z - (k + 1)) = i + (z - k) by omega])
  rw [e2]
  show (upd f (z - 1 - k) x (0 + (z - (k + 1)))).toInt * 10 ^ k + _ = _
  rw [e1]
theorem uT_a {f : Nat → Int32} {z : Nat} : uT f z z = uV f z := by
  unfold uT
  exact u_ext (fun i hi => by rw [Nat.sub_self, Nat.add_zero])
theorem u_dv10 {v : Int32} (h : 0 ≤ v.toInt) : (v / 10 : Int32).toInt = v.toInt / 10 ∧ (v - v / 10 * 10 : Int32).toInt = v.toInt % 10 := by
  have h1 := g_q10 h
  refine ⟨h1, ?_⟩
  have b1 := q_hi32 (x := v)
  have e1 : (v / 10 * 10 : Int32).toInt = v.toInt / 10 * 10 := q_mulI h1 rfl (by omega) (by omega)
  rw [q_subI rfl e1 (by omega) (by omega)]
  omega
/-- what a figure that was tried leaves -/
def QV_tr (r d L : Int) (Z : Nat) (c : Int32) (le : Nat → Int32) : Prop := (c = 0 ∧ L < (20 * r + d) * d) ∨ (c = 1 ∧ (20 * r + d) * d ≤ L ∧ uV le Z = L - (20 * r + d) * d)
theorem V_tr3 {K_F_DR_takesRoot_L34 : Int32 → Int32 → (Nat → Int32) → (Int32 × Int32 × Int32 × Int32 × Int64 × Int32 × Int32 × Int32 × Int32 × Int32 × Int32 × Int32 × (Nat → Int32) × (Nat → Int32))} {K_F_DR_takesRoot_L141 : Int32 → (Int32 × Int32 × Int32 × Int32 × Int64 × Int32 × Int32 × Int32 × Int32 × Int32 × Int32 × Int32 × (Nat → Int32) × (Nat → Int32))} {x2 : Int32} {t0_0 : Int32} {t0_1 : Int32} {t0_2 : Int32} {t0_3 : Int64} {t0_4 : Int32} {t0_5 : Int32} {t0_6 : Int32} {t0_7 : Int32} {t0_8 : Int32} {t0_9 : Int32} {t0_10 : Int32} {t1_0 : (Nat → Int32)} {t2_0 : (Nat → Int32)} {t3_0 : (Nat → Int32)} {a38 : Int32} {lx42 : Int32} {lx43 : Int32} {lx44 : (Nat → Int32)} {lx62 : Int32} {Z : Nat} {L U r d : Int} (hZ : t0_8.toInt = (Z : Int)) (hZ2 : Z ≤ 2200) (hu : gO lx44 Z) (hL : uV t3_0 Z = L) (hU : uV lx44 Z = U) (hUe : U = (20 * r + d) * d) (hLU : U ≤ L) : ∀ (n : Nat) (lx75 : Int32) (lx76 : Int32) (lx77 : (Nat → Int32)), ∀ K : Nat, lx75.toInt + 1 = (K : Int) → K ≤ Z → K < n → gO lx77 Z → (lx76 = 0 ∨ lx76 = 1) → wE (uV lx77 Z + (-lx76.toInt) * 10 ^ (Z - K)) (L - (U - uV lx44 K * 10 ^ (Z - K))) → QV_tr r d L Z (F_DR_takesRoot_L209 K_F_DR_takesRoot_L34 K_F_DR_takesRoot_L141 x2 t0_0 t0_1 t0_2 t0_3 t0_4 t0_5 t0_6 t0_7 t0_8 t0_9 t0_10 t1_0 t2_0 t3_0 a38 lx42 lx43 lx44 lx62 n lx75 lx76 lx77).1 (F_DR_takesRoot_L209 K_F_DR_takesRoot_L34 K_F_DR_takesRoot_L141 x2 t0_0 t0_1 t0_2 t0_3 t0_4 t0_5 t0_6 t0_7 t0_8 t0_9 t0_10 t1_0 t2_0 t3_0 a38 lx42 lx43 lx44 lx62 n lx75 lx76 lx77).2.2.2.2.2.2.2.2.2.2.2.2.2 := by
  intro n
  induction n with
  | zero =>
    intro lx75 lx76 lx77 K h0 h1 h2
    omega
  | succ n ih =>
    intro lx75 lx76 lx77 K h0 h1 h2 hg hb he
    have e0 : (0 : Int32).toInt = 0 := rfl
    have e1 : (1 : Int32).toInt = 1 := rfl
    rw [F_DR_takesRoot_L209.eq_2]
    by_cases g1 : lx75 < (0 : Int32)
    · rw [if_pos g1]
      have g2 := q_ltI g1
      obtain rfl : K = 0 := by omega
      unfold wE at he
      have l1 := u_lt hg
      have l2 : uV lx44 0 = 0 := rfl
      rw [l2, Nat.sub_zero, Int.zero_mul] at he
      refine Or.inr ⟨rfl, by rw [← hUe]; exact hLU, ?_⟩
      show uV lx77 Z = _
      rw [← hUe]
      rcases hb with rfl | rfl
      · rw [e0] at he
        omega
      · rw [e1] at he
        omega
    · rw [if_neg g1]
      have g2 := q_nltI g1
      have ec := q_clI (i := lx75) rfl (by omega)
      obtain ⟨k, rfl⟩ : ∃ k, K = k + 1 := ⟨K - 1, by omega⟩
      have ek : lx75.toNatClampNeg = k := by omega
      obtain ⟨a3, e4⟩ := q_nm (lx75 + (-1) : Int32)
      have a3i : a3.toInt + 1 = (k : Int) := by
        rw [← e4, q_addI (x := lx75.toInt) (y := (-1)) rfl (by decide) (by omega) (by omega)]
        omega
      rw [e4, ek]
      clear e4
      have q1 := hg k (by omega)
      have q2 := hu k (by omega)
      have hbb : 0 ≤ lx76.toInt ∧ lx76.toInt ≤ 1 := by
        rcases hb with rfl | rfl <;> decide
      have hx := g_sbE q1 q2 hbb
      have pE : (10 : Int) ^ (Z - k) = 10 ^ (Z - (k + 1)) * 10 := by
        rw [show Z - k = (Z - (k + 1)) + 1 by omega]
        exact u_pw _
      have uS : uV lx44 (k + 1) = uV lx44 k * 10 + (lx44 k).toInt := rfl
      unfold wE at he
      rw [uS] at he
      by_cases g3 : (0 : Int32) ≤ (lx77 k - lx44 k - lx76 : Int32)
      · rw [if_pos g3]
        refine ih _ _ _ k a3i (by omega) (by omega) (gO_upd hg (g_sb1 q1 q2 hbb g3)) (Or.inl rfl) ?_
        unfold wE
        rw [u_upd (by omega), hx, pE, show Z - 1 - k = Z - (k + 1) by omega, e0]
        grind
      · rw [if_neg g3]
        refine ih _ _ _ k a3i (by omega) (by omega) (gO_upd hg (g_sb2 q1 q2 hbb g3)) (Or.inr rfl) ?_
        unfold wE
        have g4 := q_nleI g3
        rw [u_upd (by omega), q_addI hx (show (10 : Int32).toInt = 10 from rfl) (by omega) (by omega), pE, show Z - 1 - k = Z - (k + 1) by omega, e1]
        grind
theorem V_tr2 {K_F_DR_takesRoot_L34 : Int32 → Int32 → (Nat → Int32) → (Int32 × Int32 × Int32 × Int32 × Int64 × Int32 × Int32 × Int32 × Int32 × Int32 × Int32 × Int32 × (Nat → Int32) × (Nat → Int32))} {x2 : Int32} {t0_0 : Int32} {t0_1 : Int32} {t0_2 : Int32} {t0_3 : Int64} {t0_4 : Int32} {t0_5 : Int32} {t0_6 : Int32} {t0_7 : Int32} {t0_8 : Int32} {t0_9 : Int32} {t0_10 : Int32} {t1_0 : (Nat → Int32)} {t2_0 : (Nat → Int32)} {t3_0 : (Nat → Int32)} {a38 : Int32} {lx42 : Int32} {lx43 : Int32} {lx44 : (Nat → Int32)} {Z : Nat} {L U r d : Int} (hZ : t0_8.toInt = (Z : Int)) (hZ2 : Z ≤ 2200) (hu : gO lx44 Z) (hl : gO t3_0 Z) (hL : uV t3_0 Z = L) (hU : uV lx44 Z = U) (hUe : U = (20 * r + d) * d) : ∀ (n : Nat) (lx62 : Int32), ∀ k : Nat, lx62.toInt = (k : Int) → Z + 1 < n + k → (k ≤ Z ∧ uV t3_0 k = uV lx44 k ∨ k = Z + 1 ∧ U ≤ L) → QV_tr r d L Z (F_DR_takesRoot_L141 K_F_DR_takesRoot_L34 x2 t0_0 t0_1 t0_2 t0_3 t0_4 t0_5 t0_6 t0_7 t0_8 t0_9 t0_10 t1_0 t2_0 t3_0 a38 lx42 lx43 lx44 n lx62).1 (F_DR_takesRoot_L141 K_F_DR_takesRoot_L34 x2 t0_0 t0_1 t0_2 t0_3 t0_4 t0_5 t0_6 t0_7 t0_8 t0_9 t0_10 t1_0 t2_0 t3_0 a38 lx42 lx43 lx44 n lx62).2.2.2.2.2.2.2.2.2.2.2.2.2 := by
  intro n
  induction n with
  | zero =>
    intro lx62 k h0 h1 h2
    omega
  | succ n ih =>
    intro lx62 k h0 h1 h2
    have ec := q_clI (i := lx62) rfl (by omega)
    have ek : lx62.toNatClampNeg = k := by omega
    rw [F_DR_takesRoot_L141.eq_2, ek]
    by_cases g1 : t0_8 ≤ lx62
    · rw [if_pos g1]
      have g2 := q_leI g1
      have hLU : U ≤ L := by
        rcases h2 with ⟨a, b⟩ | ⟨a, b⟩
        · obtain rfl : k = Z := by omega
          rw [hL, hU] at b
          omega
        · exact b
      have e5 : (t0_8 - 1 : Int32).toInt = (Z : Int) - 1 := by
        rw [q_subI (y := 1) hZ (by decide) (by omega) (by omega)]
      generalize t0_8 - 1 = t9 at e5 ⊢
      refine V_tr3 hZ hZ2 hu hL hU hUe hLU _ t9 0 t3_0 Z (by omega) (by omega) (by omega) hl (Or.inl rfl) ?_
      unfold wE
      rw [Nat.sub_self, show (0 : Int32).toInt = 0 from rfl, hL, hU]
      grind
    · rw [if_neg g1]
      have g2 := q_nleI g1
      have kZ : k < Z := by omega
      have h3 : uV t3_0 k = uV lx44 k := by
        rcases h2 with ⟨a, b⟩ | ⟨a, b⟩
        · exact b
        · omega
      have e1 : (lx62 + 1 : Int32).toInt = ((k + 1 : Nat) : Int) := by
        rw [q_addI (y := 1) h0 (by decide) (by omega) (by omega)]
        omega
      by_cases g3 : t3_0 k = lx44 k
      · rw [if_pos g3]
        refine ih _ (k + 1) e1 (by omega) (Or.inl ⟨by omega, ?_⟩)
        show uV t3_0 k * 10 + (t3_0 k).toInt = uV lx44 k * 10 + (lx44 k).toInt
        rw [h3, g3]
      · rw [if_neg g3]
        by_cases g4 : lx44 k ≤ t3_0 k
        · rw [if_pos g4]
          have g5 := q_leI g4
          have ne : (lx44 k).toInt ≠ (t3_0 k).toInt := fun h => g3 (Int32.toInt_inj.mp h.symm)
          have c1 := u_cmp h3.symm (by omega) kZ hu hl
          rw [hL, hU] at c1
          refine ih _ (Z + 1) ?_ (by omega) (Or.inr ⟨rfl, by omega⟩)
          rw [q_addI (y := 1) hZ (by decide) (by omega) (by omega)]
          omega
        · rw [if_neg g4]
          have g5 := q_nleI g4
          have c1 := u_cmp h3 (by omega) kZ hl hu
          rw [hL, hU] at c1
          exact Or.inl ⟨rfl, by rw [← hUe]; exact c1⟩
theorem V_tr1 {x2 : Int32} {t0_0 : Int32} {t0_1 : Int32} {t0_2 : Int32} {t0_3 : Int64} {t0_4 : Int32} {t0_5 : Int32} {t0_6 : Int32} {t0_7 : Int32} {t0_8 : Int32} {t0_9 : Int32} {t0_10 : Int32} {t1_0 : (Nat → Int32)} {t2_0 : (Nat → Int32)} {t3_0 : (Nat → Int32)} {a38 : Int32} {Z s : Nat} {L r d : Int} (hZ : t0_8.toInt = (Z : Int)) (hZ1 : 1 ≤ Z) (hZ2 : Z ≤ 2200) (hs : t0_2.toInt = (s : Int)) (hs2 : s ≤ 1001) (hr : gO t1_0 s) (hrv : uV t1_0 s = r) (hl : gO t3_0 Z) (hL : uV t3_0 Z = L) (hd : x2.toInt = d) (hd9 : 0 ≤ d ∧ d ≤ 9) (hsz : d = 0 ∨ s < Z) (h38 : a38.toInt = d * d) : ∀ (n : Nat) (lx42 : Int32) (lx43 : Int32) (lx44 : (Nat → Int32)), ∀ k : Nat, lx42.toInt = (k : Int) → k ≤ Z → Z < n + k → (0 ≤ lx43.toInt ∧ lx43.toInt ≤ 17) → (∀ i, Z - k ≤ i → i < Z → 0 ≤ (lx44 i).toInt ∧ (lx44 i).toInt ≤ 9) → wE (uT lx44 Z k + lx43.toInt * 10 ^ k) (rtC r d k) → QV_tr r d L Z (F_DR_takesRoot_L34 x2 t0_0 t0_1 t0_2 t0_3 t0_4 t0_5 t0_6 t0_7 t0_8 t0_9 t0_10 t1_0 t2_0 t3_0 a38 n lx42 lx43 lx44).1 (F_DR_takesRoot_L34 x2 t0_0 t0_1 t0_2 t0_3 t0_4 t0_5 t0_6 t0_7 t0_8 t0_9 t0_10 t1_0 t2_0 t3_0 a38 n lx42 lx43 lx44).2.2.2.2.2.2.2.2.2.2.2.2.2 := by
  intro n
  induction n with
  | zero =>
    intro lx42 lx43 lx44 k h0 h1 h2
    omega
  | succ n ih =>
    intro lx42 lx43 lx44 k h0 h1 h2 hc ho he
    have e00 : (0 : Int32).toInt = 0 := rfl
    have e11 : (1 : Int32).toInt = 1 := rfl
    have hdd : 0 ≤ d * d ∧ d * d ≤ 81 := ⟨Int.mul_nonneg hd9.1 hd9.1, Int.mul_le_mul hd9.2 hd9.2 hd9.1 (by decide)⟩
    rw [F_DR_takesRoot_L34.eq_2]
    by_cases g1 : t0_8 ≤ lx42
    · rw [if_pos g1]
      have g2 := q_leI g1
      obtain rfl : k = Z := by omega
      have hu : gO lx44 k := fun i hi => ho i (by omega) hi
      unfold wE at he
      rw [uT_a] at he
      have hU : uV lx44 k + lx43.toInt * 10 ^ k = (20 * r + d) * d := by
        rw [he]
        unfold rtC
        rw [if_neg (by omega)]
        rcases hsz with z | z
        · rw [z]
          grind
        · have r1 := u_lt hr
          have r0 := u_nn hr
          have r2 : (10 : Int) ^ s ≤ 10 ^ (k - 1) := u_pwle (by omega)
          rw [hrv] at r1 r0
          rw [Int.emod_eq_of_lt r0 (by omega)]
          grind
      by_cases g3 : lx43 ≤ (0 : Int32)
      · rw [if_pos g3]
        have g4 := q_leI g3
        have z : lx43.toInt = 0 := by omega
        rw [z, Int.zero_mul, Int.add_zero] at hU
        exact V_tr2 hZ hZ2 hu hl hL hU rfl _ 0 0 rfl (by omega) (Or.inl ⟨by omega, rfl⟩)
      · rw [if_neg g3]
        have g4 := q_nleI g3
        have l1 := u_lt hl
        have l0 := u_nn hu
        have p0 := u_pos k
        refine Or.inl ⟨rfl, ?_⟩
        rw [← hU, ← hL]
        have : (10 : Int) ^ k ≤ lx43.toInt * 10 ^ k := by
          have := Int.mul_le_mul_of_nonneg_right (show 1 ≤ lx43.toInt by omega) (Int.le_of_lt p0)
          omega
        omega
    · rw [if_neg g1]
      have g2 := q_nleI g1
      have kZ : k < Z := by omega
      have e1 : (lx42 + 1 : Int32).toInt = ((k + 1 : Nat) : Int) := by
        rw [q_addI (y := 1) h0 (by decide) (by omega) (by omega)]
        omega
      have a1 : (t0_8 - 1 : Int32).toInt = (Z : Int) - 1 := by
        rw [q_subI (y := 1) hZ (by decide) (by omega) (by omega)]
      have a2 : (t0_8 - 1 - lx42 : Int32).toInt = (Z : Int) - 1 - (k : Int) := q_subI a1 h0 (by omega) (by omega)
      obtain ⟨A, eA⟩ := q_nm (t0_8 - 1 - lx42 : Int32)
      have Ai : A.toInt = (Z : Int) - 1 - (k : Int) := by
        rw [← eA]
        exact a2
      clear a1 a2
      have Ac := q_clI (i := A) rfl (by omega)
      have Ax : A.toNatClampNeg = Z - 1 - k := by omega
      -- the step, for what is added
      have step : ∀ w : Int32, w.toInt * 10 ^ k + rtC r d k = rtC r d (k + 1) → 0 ≤ w.toInt ∧ w.toInt ≤ 162 → QV_tr r d L Z (F_DR_takesRoot_L34 x2 t0_0 t0_1 t0_2 t0_3 t0_4 t0_5 t0_6 t0_7 t0_8 t0_9 t0_10 t1_0 t2_0 t3_0 a38 n (lx42 + 1) ((w + lx43) / 10) (upd lx44 A.toNatClampNeg ((w + lx43) - (w + lx43) / 10 * 10))).1 (F_DR_takesRoot_L34 x2 t0_0 t0_1 t0_2 t0_3 t0_4 t0_5 t0_6 t0_7 t0_8 t0_9 t0_10 t1_0 t2_0 t3_0 a38 n (lx42 + 1) ((w + lx43) / 10) (upd lx44 A.toNatClampNeg ((w + lx43) - (w + lx43) / 10 * 10))).2.2.2.2.2.2.2.2.2.2.2.2.2 := fun w hw hw2 => by
        have s1 : (w + lx43 : Int32).toInt = w.toInt + lx43.toInt := q_addI rfl rfl (by omega) (by omega)
        obtain ⟨d1, d2⟩ := u_dv10 (v := w + lx43) (by omega)
        generalize (w + lx43) / 10 = c1 at d1 d2 ⊢
        generalize w + lx43 - c1 * 10 = f1 at d2 ⊢
        rw [s1] at d1 d2
        refine ih _ _ _ (k + 1) e1 (by omega) (by omega) ⟨by omega, by omega⟩ ?_ ?_
        · intro i i1 i2
          unfold upd
          by_cases c : i = A.toNatClampNeg
          · rw [if_pos c]
            omega
          · rw [if_neg c]
            exact ho i (by omega) i2
        · unfold wE at he ⊢
          rw [uT_S kZ Ax, d1, d2, ← hw, ← he, u_pw]
          have : w.toInt + lx43.toInt = 10 * ((w.toInt + lx43.toInt) / 10) + (w.toInt + lx43.toInt) % 10 := by omega
          generalize (w.toInt + lx43.toInt) / 10 = Q at this ⊢
          generalize (w.toInt + lx43.toInt) % 10 = R at this ⊢
          grind
      by_cases g3 : lx42 < (1 : Int32)
      · rw [if_pos g3]
        have g4 := q_ltI g3
        obtain rfl : k = 0 := by omega
        unfold F_DR_takesRoot_J86 F_DR_takesRoot_J87
        have z : lx42 = 0 := Int32.toInt_inj.mp (by rw [h0]; rfl)
        rw [if_pos z]
        unfold F_DR_takesRoot_J104
        rw [eA]
        refine step a38 ?_ (by omega)
        rw [h38, rtC_0, rtC_1]
        grind
      · rw [if_neg g3]
        have g4 := q_nltI g3
        obtain ⟨j, rfl⟩ : ∃ j, k = j + 1 := ⟨k - 1, by omega⟩
        have nz : ¬ lx42 = 0 := fun h => by
          rw [h, e00] at h0
          omega
        have c1 : (lx42 - 1 : Int32).toInt = (j : Int) := by
          rw [q_subI (y := 1) h0 (by decide) (by omega) (by omega)]
          omega
        have r1 := u_lt hr
        have r0 := u_nn hr
        rw [hrv] at r1 r0
        by_cases g5 : t0_2 ≤ (lx42 - 1 : Int32)
        · rw [if_pos g5]
          have g6 := q_leI g5
          unfold F_DR_takesRoot_J86 F_DR_takesRoot_J87
          rw [if_neg nz]
          unfold F_DR_takesRoot_J104
          rw [eA]
          have w0 : (2 * 0 * x2 : Int32) = 0 := by
            rw [show (2 * 0 : Int32) = 0 from rfl, Int32.zero_mul]
          rw [w0]
          refine step 0 ?_ (by decide)
          have r2 : (10 : Int) ^ s ≤ 10 ^ j := u_pwle (by omega)
          rw [rtC_S, Int.ediv_eq_zero_of_lt r0 (by omega), e00]
          grind
        · rw [if_neg g5]
          have g6 := q_nleI g5
          unfold F_DR_takesRoot_J87
          rw [if_neg nz]
          unfold F_DR_takesRoot_J104
          rw [eA]
          have c2 : (t0_2 - lx42 : Int32).toInt = ((s - (j + 1) : Nat) : Int) := by
            rw [q_subI hs h0 (by omega) (by omega)]
            omega
          have c3 := q_clI c2 (by omega)
          have c4 : (t0_2 - lx42 : Int32).toNatClampNeg = s - (j + 1) := by omega
          rw [c4]
          have q1 := hr (s - (j + 1)) (by omega)
          have q2 := u_dig hr (i := s - (j + 1)) (by omega)
          rw [hrv, show s - 1 - (s - (j + 1)) = j by omega] at q2
          have w1 := (g_dbl q1 (c := x2) (by omega)).1
          refine step (2 * t1_0 (s - (j + 1)) * x2) ?_ w1
          have w2 : (2 * t1_0 (s - (j + 1)) * x2 : Int32).toInt = 2 * (t1_0 (s - (j + 1))).toInt * d := by
            have m1 : (2 * t1_0 (s - (j + 1)) : Int32).toInt = 2 * (t1_0 (s - (j + 1))).toInt := q_mulI (show (2 : Int32).toInt = 2 from rfl) rfl (by omega) (by omega)
            have m2 : 0 ≤ 2 * (t1_0 (s - (j + 1))).toInt * d ∧ 2 * (t1_0 (s - (j + 1))).toInt * d ≤ 18 * 9 := ⟨Int.mul_nonneg (by omega) hd9.1, Int.mul_le_mul (by omega) hd9.2 hd9.1 (by decide)⟩
            exact q_mulI m1 hd (by omega) (by omega)
          rw [w2, rtC_S, q2]
          grind
theorem V_takesRoot {x2 : Int32} {t0_0 : Int32} {t0_1 : Int32} {t0_2 : Int32} {t0_3 : Int64} {t0_4 : Int32} {t0_5 : Int32} {t0_6 : Int32} {t0_7 : Int32} {t0_8 : Int32} {t0_9 : Int32} {t0_10 : Int32} {t1_0 : (Nat → Int32)} {t2_0 : (Nat → Int32)} {t3_0 : (Nat → Int32)} {Z s : Nat} {L r d : Int} (hZ : t0_8.toInt = (Z : Int)) (hZ1 : 1 ≤ Z) (hZ2 : Z ≤ 2200) (hs : t0_2.toInt = (s : Int)) (hs2 : s ≤ 1001) (hr : gO t1_0 s) (hrv : uV t1_0 s = r) (hr0 : s = 0 ∨ t1_0 0 ≠ 0) (hl : gO t3_0 Z) (hL : uV t3_0 Z = L) (hd : x2.toInt = d) (hd9 : 0 ≤ d ∧ d ≤ 9) : QV_tr r d L Z (F_DR_takesRoot x2 t0_0 t0_1 t0_2 t0_3 t0_4 t0_5 t0_6 t0_7 t0_8 t0_9 t0_10 t1_0 t2_0 t3_0).1 (F_DR_takesRoot x2 t0_0 t0_1 t0_2 t0_3 t0_4 t0_5 t0_6 t0_7 t0_8 t0_9 t0_10 t1_0 t2_0 t3_0).2.2.2.2.2.2.2.2.2.2.2.2.2 := by
  have e00 : (0 : Int32).toInt = 0 := rfl
  have hdd : 0 ≤ d * d ∧ d * d ≤ 81 := ⟨Int.mul_nonneg hd9.1 hd9.1, Int.mul_le_mul hd9.2 hd9.2 hd9.1 (by decide)⟩
  have go : d = 0 ∨ s < Z → QV_tr r d L Z (F_DR_takesRoot_J17 x2 t0_0 t0_1 t0_2 t0_3 t0_4 t0_5 t0_6 t0_7 t0_8 t0_9 t0_10 t1_0 t2_0 t3_0).1 (F_DR_takesRoot_J17 x2 t0_0 t0_1 t0_2 t0_3 t0_4 t0_5 t0_6 t0_7 t0_8 t0_9 t0_10 t1_0 t2_0 t3_0).2.2.2.2.2.2.2.2.2.2.2.2.2 := fun hsz => by
    unfold F_DR_takesRoot_J17
    refine V_tr1 hZ hZ1 hZ2 hs hs2 hr hrv hl hL hd hd9 hsz (q_mulI hd hd (by omega) (by omega)) _ 0 0 t2_0 0 rfl (by omega) (by omega) (by decide) (fun i h1 h2 => by omega) ?_
    unfold wE
    rw [rtC_0, show uT t2_0 Z 0 = 0 from rfl, show (0 : Int32).toInt = 0 from rfl]
    rfl
  unfold F_DR_takesRoot
  by_cases g1 : x2 ≤ (0 : Int32)
  · rw [if_pos g1]
    have g2 := q_leI g1
    exact go (Or.inl (by omega))
  · rw [if_neg g1]
    have g2 := q_nleI g1
    by_cases g3 : t0_2 < t0_8
    · rw [if_pos g3]
      have g4 := q_ltI g3
      exact go (Or.inr (by omega))
    · rw [if_neg g3]
      have g4 := q_nltI g3
      refine Or.inl ⟨rfl, ?_⟩
      obtain ⟨m, rfl⟩ : ∃ m, s = m + 1 := ⟨s - 1, by omega⟩
      have h0 := hr0.resolve_left (by omega)
      have h1 := u_hdL hr h0
      have l1 := u_lt hl
      rw [hL] at l1
      rw [hrv] at h1
      have h2 : (10 : Int) ^ Z ≤ 10 ^ (m + 1) := u_pwle (by omega)
      have h3 := u_pw m
      have h4 : (20 * r + d) * 1 ≤ (20 * r + d) * d := Int.mul_le_mul_of_nonneg_left (by omega) (by have := u_pos m; omega)
      have h5 := u_pos m
      omega
