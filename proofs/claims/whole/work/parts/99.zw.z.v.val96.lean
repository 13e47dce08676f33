/-! values, for whole: the reference's DecimalRows: lengthen, bring, toScale, shift -/
def QV_len (v : Int) (N z : Nat) (a0 a1 : Int32) (s : Int64) (a4 b a6 a7 a8 a9 a10 : Int32) (p : Int32 × Int32 × Int32 × Int64 × Int32 × Int32 × Int32 × Int32 × Int32 × Int32 × Int32 × (Nat → Int32)) : Prop := p.1 = a0 ∧ p.2.1 = a1 ∧ p.2.2.1.toInt = ((N + z : Nat) : Int) ∧ p.2.2.2.1 = s ∧ p.2.2.2.2.1 = a4 ∧ p.2.2.2.2.2.1 = b ∧ p.2.2.2.2.2.2.1 = a6 ∧ p.2.2.2.2.2.2.2.1 = a7 ∧ p.2.2.2.2.2.2.2.2.1 = a8 ∧ p.2.2.2.2.2.2.2.2.2.1 = a9 ∧ p.2.2.2.2.2.2.2.2.2.2.1 = a10 ∧ gO p.2.2.2.2.2.2.2.2.2.2.2 (N + z) ∧ uV p.2.2.2.2.2.2.2.2.2.2.2 (N + z) = v * 10 ^ z
theorem V_leL {x2 : Int64} {t0_0 : Int32} {t0_1 : Int32} {t0_2 : Int32} {t0_3 : Int64} {t0_4 : Int32} {t0_5 : Int32} {t0_6 : Int32} {t0_7 : Int32} {t0_8 : Int32} {t0_9 : Int32} {t0_10 : Int32} {t1_0 : (Nat → Int32)} {v : Int} {N z : Nat} (hz : x2.toInt = (z : Int)) (hN : N + z ≤ 4400) : ∀ (n : Nat) (lx21 : Int64) (lx22 : Int32) (lx23 : (Nat → Int32)), ∀ k : Nat, lx21.toInt = (k : Int) → k ≤ z → z - k < n → lx22.toInt = ((N + k : Nat) : Int) → gO lx23 (N + k) → uV lx23 (N + k) = v * 10 ^ k → QV_len v N z t0_0 t0_1 (t0_3 + x2) t0_4 t0_5 t0_6 t0_7 t0_8 t0_9 t0_10 (F_DR_lengthen_L2 x2 t0_0 t0_1 t0_2 t0_3 t0_4 t0_5 t0_6 t0_7 t0_8 t0_9 t0_10 t1_0 n lx21 lx22 lx23) := by
  intro n
  induction n with
  | zero => intro _ _ _ k _ _ h; exact absurd h (Nat.not_lt_zero _)
  | succ n ih =>
    intro lx21 lx22 lx23 k hk hkz hkn h1 hg hv
    rw [F_DR_lengthen_L2.eq_2]
    by_cases c : 0 ≤ lg_cmp lx21 x2
    · have c2 := g_lc5 c
      have ek : k = z := by omega
      subst ek
      rw [if_pos c]
      exact ⟨rfl, rfl, h1, rfl, rfl, rfl, rfl, rfl, rfl, rfl, rfl, hg, hv⟩
    · have c2 := g_lc6 c
      rw [if_neg c]
      have e1 : (lx21 + 1 : Int64).toInt = ((k + 1 : Nat) : Int) := by
        rw [q_addL (y := 1) hk rfl (by omega) (by omega)]
        omega
      have e2 : (lx22 + 1 : Int32).toInt = ((N + (k + 1) : Nat) : Int) := by
        rw [q_addI (y := 1) h1 rfl (by omega) (by omega)]
        omega
      have q1 := q_clI h1 (by omega)
      have ix : lx22.toNatClampNeg = N + k := by omega
      rw [ix]
      refine ih _ _ _ (k + 1) e1 (by omega) (by omega) e2 (gO_push hg ⟨by decide, by decide⟩) ?_
      show uV (upd lx23 (N + k) 0) (N + k) * 10 + (upd lx23 (N + k) 0 (N + k)).toInt = v * 10 ^ (k + 1)
      rw [u_updge (Nat.le_refl _), v_eq, hv, u_pw, Int.mul_assoc]
      exact Int.add_zero _
theorem V_DR_lengthen {x2 : Int64} {t0_0 : Int32} {t0_1 : Int32} {t0_2 : Int32} {t0_3 : Int64} {t0_4 : Int32} {t0_5 : Int32} {t0_6 : Int32} {t0_7 : Int32} {t0_8 : Int32} {t0_9 : Int32} {t0_10 : Int32} {t1_0 : (Nat → Int32)} {v : Int} {z : Nat} (h2 : 0 ≤ t0_2.toInt) (hz : x2.toInt = (z : Int)) (hN : t0_2.toInt + z ≤ 4400) (hg : gO t1_0 t0_2.toNatClampNeg) (hv : uV t1_0 t0_2.toNatClampNeg = v) : QV_len v t0_2.toNatClampNeg z t0_0 t0_1 (t0_3 + x2) t0_4 t0_5 t0_6 t0_7 t0_8 t0_9 t0_10 (F_DR_lengthen x2 t0_0 t0_1 t0_2 t0_3 t0_4 t0_5 t0_6 t0_7 t0_8 t0_9 t0_10 t1_0) := by
  have hn := q_clI (i := t0_2) rfl h2
  unfold F_DR_lengthen
  refine V_leL hz (by omega) _ _ _ _ 0 rfl (Nat.zero_le _) ?_ (by omega) hg ?_
  · have : (0 : Int64).toInt = 0 := rfl
    omega
  · rw [Nat.add_zero, hv, Int.pow_zero, Int.mul_one]
/-- far behind the figures -/
theorem u_far {v : Int} {n e : Nat} (v0 : 0 ≤ v) (hv : v < 10 ^ n) (he : n + 1 ≤ e) : (10 * v) / 10 ^ e = 0 ∧ (10 * v) % 10 ^ e = 10 * v ∧ v / 10 ^ e = 0 := by
  obtain ⟨j, rfl⟩ : ∃ j, e = (n + 1) + j := ⟨e - (n + 1), by omega⟩
  have p1 := u_pos n
  have p2 := u_pos j
  have p3 : 0 ≤ (10 : Int) ^ (n + 1) * (10 ^ j - 1) := Int.mul_nonneg (Int.le_of_lt (u_pos _)) (by omega)
  rw [Int.mul_sub, Int.mul_one] at p3
  have p4 := u_pw n
  rw [Int.pow_add]
  refine ⟨Int.ediv_eq_zero_of_lt (by omega) (by omega), Int.emod_eq_of_lt (by omega) (by omega), Int.ediv_eq_zero_of_lt v0 (by omega)⟩
theorem u_farE {v : Int} {n e f : Nat} (v0 : 0 ≤ v) (hv : v < 10 ^ n) (he : n + 1 ≤ e) (hf : n + 1 ≤ f) (m : Int32) : rSt v e m = rSt v f m ∧ (10 * v) / 10 ^ e = (10 * v) / 10 ^ f ∧ v / 10 ^ e = v / 10 ^ f := by
  obtain ⟨a1, a2, a3⟩ := u_far v0 hv he
  obtain ⟨b1, b2, b3⟩ := u_far v0 hv hf
  unfold rSt
  rw [a1, a2, a3, b1, b2, b3]
  exact ⟨rfl, rfl, rfl⟩
/-- the size v at scale sc brought to the scale w -/
def sScl (m b : Int32) (v sc w : Int) : Option Int := if sc ≤ w then some (v * 10 ^ (w - sc).toNat) else if rGr m b (rSt v (sc - w).toNat 0) ((10 * v) / 10 ^ (sc - w).toNat) = 2 then none else some (v / 10 ^ (sc - w).toNat + (rGr m b (rSt v (sc - w).toNat 0) ((10 * v) / 10 ^ (sc - w).toNat)).toInt)
/-- what a call leaves that would put o into register x: th 0, or fa where it can't -/
def dAn (x : Int32) (D : Nat → Int × Int) (o : Option (Int × Int)) (th fa : Int32) (c : Int32) (k m s d : Nat → Int32) : Prop := (∃ q, o = some q ∧ dFit q ∧ c = th ∧ dRv k m s d (updD D x.toNatClampNeg q)) ∨ ((o = none ∨ ∃ q, o = some q ∧ ¬ dFit q) ∧ c = fa ∧ dRv k m s d D)
theorem dSv.an {x : Int32} {D : Nat → Int × Int} {q : Int × Int} {th fa : Int32} {p : Int32 × Int32 × Int32 × Int64 × Int32 × Int32 × Int32 × Int32 × Int32 × Int32 × Int32 × (Nat → Int32) × (Nat → Int32) × (Nat → Int32) × (Nat → Int32) × (Nat → Int32)} (h : dSv x D q th fa p) : dAn x D (some q) th fa p.1 p.2.2.2.2.2.2.2.2.2.2.2.1 p.2.2.2.2.2.2.2.2.2.2.2.2.1 p.2.2.2.2.2.2.2.2.2.2.2.2.2.1 p.2.2.2.2.2.2.2.2.2.2.2.2.2.2.1 := by
  rcases h with ⟨h1, h2, h3⟩ | ⟨h1, h2, h3⟩
  · exact Or.inl ⟨q, rfl, h1, h2, h3⟩
  · exact Or.inr ⟨Or.inr ⟨q, rfl, h1⟩, h2, h3⟩
theorem dAn_o {x : Int32} {D : Nat → Int × Int} {o o' : Option (Int × Int)} {th fa c : Int32} {k m s d : Nat → Int32} (h : dAn x D o th fa c k m s d) (e : o = o') : dAn x D o' th fa c k m s d := e ▸ h
theorem sScl_0 {m b : Int32} {sc w : Int} (h : rGr m b 0 0 = 0) : sScl m b 0 sc w = some 0 := by
  unfold sScl
  have e : ∀ n : Nat, rSt 0 n 0 = 0 := fun n => by
    unfold rSt
    rw [Int.mul_zero, Int.zero_emod]
    exact if_pos ⟨rfl, rfl⟩
  split
  · rw [Int.zero_mul]
  · rw [e, Int.mul_zero, Int.zero_ediv, h, if_neg (show ¬ (0 : Int32) = 2 by decide)]
    rfl
theorem rGr_z (m b : Int32) : rGr m b 0 0 = 0 := by
  unfold rGr
  have h : (0 : Int) % 10 = 0 ∧ (0 : Int32) = 0 := ⟨rfl, rfl⟩
  rw [if_pos h, if_pos h, if_pos h, if_pos h, if_pos (show (0 : Int) % 10 < 5 by decide), if_neg (show ¬ (5 : Int) < 0 % 10 by decide), if_neg (show ¬ (0 : Int) % 10 = 5 by decide), if_neg (show ¬ (5 : Int) < 0 % 10 by decide), if_neg (show ¬ (0 : Int) % 10 = 5 by decide)]
  repeat' split
  all_goals rfl
theorem u_ld {f : Nat → Int32} {n : Nat} (hg : gO f n) (hn : 1 ≤ n) (hF : vG (uV f n) n) (hv : uV f n ≠ 0) : ¬ f 0 = 0 := by
  intro h0
  obtain ⟨m, rfl⟩ : ∃ m, n = m + 1 := ⟨n - 1, by omega⟩
  have h1 := hF.1.2.2 hv
  rw [Nat.add_sub_cancel] at h1
  have h2 : uV (fun i => f (i + 1)) m < 10 ^ m := u_lt (fun i hi => hg (i + 1) (by omega))
  have h3 : uV f (m + 1) = uV (fun i => f (i + 1)) m := by
    rw [u_tl, h0, show (0 : Int32).toInt = 0 from rfl, Int.zero_mul, Int.zero_add]
  have h4 := Int.ofNat_le.mpr h1
  rw [u_abs hg, Int.natCast_pow, h3] at h4
  exact absurd h4 (Int.not_le.mpr h2)
def QV_cutD (G : Int32) (H sc : Int) (N : Nat) (a0 a1 b a6 a7 a8 a9 a10 : Int32) (p : Int32 × Int32 × Int32 × Int32 × Int64 × Int32 × Int32 × Int32 × Int32 × Int32 × Int32 × Int32 × (Nat → Int32)) : Prop := (G = 2 ∧ p.1 = 0 ∧ p.2.1 = a10) ∨ (G ≠ 2 ∧ QV_cut (H + G.toInt) sc N a0 a1 b a6 a7 a8 a9 a10 p)
theorem dSv_e {x : Int32} {D : Nat → Int × Int} {b b' th th' fa fa' : Int32} {v s s' : Int} {p : Int32 × Int32 × Int32 × Int64 × Int32 × Int32 × Int32 × Int32 × Int32 × Int32 × Int32 × (Nat → Int32) × (Nat → Int32) × (Nat → Int32) × (Nat → Int32) × (Nat → Int32)} (h : dSv x D (sgI b v, s) th fa p) (e1 : th = th') (e2 : b = b') (e3 : fa = fa') (e4 : s = s') : dSv x D (sgI b' v, s') th' fa' p := by
  subst e1 e2 e3 e4
  exact h
theorem d_big {b : Int32} {v w : Int} {z : Nat} (h : 1 ≤ v) (hz : 1000 < z) : ¬ dFit (sgI b (v * 10 ^ z), w) := by
  intro hf
  have h1 : (sgI b (v * 10 ^ z)).natAbs < 10 ^ 1000 := hf.1
  rw [sgI_abs, Int.natAbs_mul, Int.natAbs_pow] at h1
  have h2 : 10 ^ 1000 ≤ (10 : Int).natAbs ^ z := Nat.pow_le_pow_right (by decide) (by omega)
  have h3 : 1 ≤ v.natAbs := by omega
  have h4 : (10 : Int).natAbs ^ z ≤ v.natAbs * (10 : Int).natAbs ^ z := Nat.le_mul_of_pos_left _ h3
  exact absurd (Nat.lt_of_lt_of_le h1 (Nat.le_trans h2 h4)) (Nat.lt_irrefl _)
theorem V_brJ {x2 : Int64} {x3 : Int32} {x4 : Int32} {t0_0 : Int32} {t0_1 : Int32} {t0_2 : Int32} {t0_3 : Int64} {t0_4 : Int32} {t0_5 : Int32} {t0_6 : Int32} {t0_7 : Int32} {t0_8 : Int32} {t0_9 : Int32} {t0_10 : Int32} {t1_0 : (Nat → Int32)} {t2_0 : (Nat → Int32)} {t3_0 : (Nat → Int32)} {t4_0 : (Nat → Int32)} {t5_0 : (Nat → Int32)} {p75 : (Int32 × Int32 × Int32 × Int64 × Int32 × Int32 × Int32 × Int32 × Int32 × Int32 × Int32 × (Nat → Int32))} {y36 : Int32} {y37 : Int32} {y38 : Int32} {y39 : Int64} {y40 : Int32} {y41 : Int32} {y42 : Int32} {y43 : Int32} {y44 : Int32} {y45 : Int32} {y46 : Int32} {f47 : (Nat → Int32)} {D : Nat → Int × Int} {v : Int} (hD : dRv t1_0 t2_0 t3_0 t4_0 D) (hx : 0 ≤ x4.toInt ∧ x4.toInt ≤ 9) (hw : -20000 ≤ x2.toInt ∧ x2.toInt ≤ 20000) (hT : gT v y38 f47) (hv0 : v ≠ 0) (h38 : y38.toInt ≤ 1000) (h39 : -20000 ≤ y39.toInt ∧ y39.toInt ≤ 20000) (h40 : y40 = 0) (h41 : y41 = 0 ∨ y41 = 1) : dAn x4 D ((sScl x3 y41 v y39.toInt x2.toInt).map (fun u => (sgI y41 u, x2.toInt))) y36 y46 (F_DR_bring_J28 x2 x3 x4 t0_0 t0_1 t0_2 t0_3 t0_4 t0_5 t0_6 t0_7 t0_8 t0_9 t0_10 t1_0 t2_0 t3_0 t4_0 t5_0 p75 y36 y37 y38 y39 y40 y41 y42 y43 y44 y45 y46 f47).1 (F_DR_bring_J28 x2 x3 x4 t0_0 t0_1 t0_2 t0_3 t0_4 t0_5 t0_6 t0_7 t0_8 t0_9 t0_10 t1_0 t2_0 t3_0 t4_0 t5_0 p75 y36 y37 y38 y39 y40 y41 y42 y43 y44 y45 y46 f47).2.2.2.2.2.2.2.2.2.2.2.1 (F_DR_bring_J28 x2 x3 x4 t0_0 t0_1 t0_2 t0_3 t0_4 t0_5 t0_6 t0_7 t0_8 t0_9 t0_10 t1_0 t2_0 t3_0 t4_0 t5_0 p75 y36 y37 y38 y39 y40 y41 y42 y43 y44 y45 y46 f47).2.2.2.2.2.2.2.2.2.2.2.2.1 (F_DR_bring_J28 x2 x3 x4 t0_0 t0_1 t0_2 t0_3 t0_4 t0_5 t0_6 t0_7 t0_8 t0_9 t0_10 t1_0 t2_0 t3_0 t4_0 t5_0 p75 y36 y37 y38 y39 y40 y41 y42 y43 y44 y45 y46 f47).2.2.2.2.2.2.2.2.2.2.2.2.2.1 (F_DR_bring_J28 x2 x3 x4 t0_0 t0_1 t0_2 t0_3 t0_4 t0_5 t0_6 t0_7 t0_8 t0_9 t0_10 t1_0 t2_0 t3_0 t4_0 t5_0 p75 y36 y37 y38 y39 y40 y41 y42 y43 y44 y45 y46 f47).2.2.2.2.2.2.2.2.2.2.2.2.2.2.1 := by
  have eM : (-1 : Int64).toInt = -1 := rfl
  have eMI : (-1 : Int32).toInt = -1 := rfl
  have eK : (1000 : Int64).toInt = 1000 := rfl
  obtain ⟨t1, t2, t3, t4⟩ := hT
  have hn := q_clI (i := y38) rfl (by omega)
  have v0 : 0 ≤ v := by
    rw [← t3]
    exact u_nn t2
  have n0 : v < 10 ^ y38.toNatClampNeg := by
    rw [← t3]
    exact u_lt t2
  have s1 := g_sL (b := y39) (c := x2) ⟨by omega, by omega⟩ ⟨by omega, by omega⟩
  have s2 : (y38.toInt64 - (y39 - x2) : Int64).toInt = y38.toInt - (y39.toInt - x2.toInt) := q_subL (q_i2l rfl) s1 (by omega) (by omega)
  unfold F_DR_bring_J28
  by_cases c : lg_cmp x2 y39 < 0
  · have c2 := g_lc1 c
    obtain ⟨e, he⟩ : ∃ e : Nat, (e : Int) = y39.toInt - x2.toInt := ⟨(y39.toInt - x2.toInt).toNat, by omega⟩
    have ee : (y39.toInt - x2.toInt).toNat = e := by omega
    have so : sScl x3 y41 v y39.toInt x2.toInt = if rGr x3 y41 (rSt v e 0) ((10 * v) / 10 ^ e) = 2 then none else some (v / 10 ^ e + (rGr x3 y41 (rSt v e 0) ((10 * v) / 10 ^ e)).toInt) := by
      unfold sScl
      rw [if_neg (by omega), ee]
    rw [if_pos c, so]
    by_cases d : 0 ≤ lg_cmp (y38.toInt64 - (y39 - x2) : Int64) (-1)
    · have d2 := g_lc5 d
      have k1 : ((y38.toInt64 - (y39 - x2) : Int64).toInt32).toInt = y38.toInt - (e : Int) := by
        rw [s_l2i (by omega) (by omega), s2]
        omega
      rw [if_pos d]
      have hc : QV_cutD (rGr x3 y41 (rSt v e y40) ((10 * v) / 10 ^ e)) (v / 10 ^ e) (y39.toInt - e) _ y36 y37 y41 y42 y43 y44 y45 y46 (F_DR_cut (((y38.toInt64 : Int64) - (y39 - x2 : Int64) : Int64).toInt32 : Int32) x3 y36 y37 y38 y39 y40 y41 y42 y43 y44 y45 y46 f47) := V_DR_cut ⟨by omega, by omega⟩ ⟨by omega, by omega⟩ (by omega) t2 t3 (Or.inl h40) ⟨by omega, by omega⟩
      generalize (F_DR_cut (((y38.toInt64 : Int64) - (y39 - x2 : Int64) : Int64).toInt32 : Int32) x3 y36 y37 y38 y39 y40 y41 y42 y43 y44 y45 y46 f47) = p165 at hc ⊢
      unfold F_DR_bring_c104
      rw [h40] at hc
      generalize rGr x3 y41 (rSt v e 0) ((10 * v) / 10 ^ e) = G at hc ⊢
      rcases hc with ⟨g2, r0, r1⟩ | ⟨gn, r0, r1, r2, r3, r4, r5, r6, r7, r8, r9, r10, r11, r12, r13⟩
      · rw [if_pos r0, if_pos g2]
        exact Or.inr ⟨Or.inl rfl, r1, hD⟩
      · rw [if_neg (show ¬ p165.1 = 0 by rw [r0]; decide), if_neg gn]
        have hs : dSv x4 D (sgI y41 (v / 10 ^ e + G.toInt), x2.toInt) y36 y46 (F_DR_store x4 (p165.2.1 : Int32) (p165.2.2.1 : Int32) (p165.2.2.2.1 : Int32) x2 (p165.2.2.2.2.2.1 : Int32) (p165.2.2.2.2.2.2.1 : Int32) (p165.2.2.2.2.2.2.2.1 : Int32) (p165.2.2.2.2.2.2.2.2.1 : Int32) (p165.2.2.2.2.2.2.2.2.2.1 : Int32) (p165.2.2.2.2.2.2.2.2.2.2.1 : Int32) (p165.2.2.2.2.2.2.2.2.2.2.2.1 : Int32) t1_0 t2_0 t3_0 t4_0 (p165.2.2.2.2.2.2.2.2.2.2.2.2 : (Nat → Int32))) := dSv_e (V_DR_store hD hx (by rw [r6]; exact h41) (by omega) r12 r13) r1 r6 r11 rfl
        generalize (F_DR_store x4 (p165.2.1 : Int32) (p165.2.2.1 : Int32) (p165.2.2.2.1 : Int32) x2 (p165.2.2.2.2.2.1 : Int32) (p165.2.2.2.2.2.2.1 : Int32) (p165.2.2.2.2.2.2.2.1 : Int32) (p165.2.2.2.2.2.2.2.2.1 : Int32) (p165.2.2.2.2.2.2.2.2.2.1 : Int32) (p165.2.2.2.2.2.2.2.2.2.2.1 : Int32) (p165.2.2.2.2.2.2.2.2.2.2.2.1 : Int32) t1_0 t2_0 t3_0 t4_0 (p165.2.2.2.2.2.2.2.2.2.2.2.2 : (Nat → Int32))) = p238 at hs ⊢
        unfold F_DR_bring_c119
        exact hs.an
    · have d2 := g_lc6 d
      obtain ⟨f1, f2, f3⟩ := u_farE (e := e) (f := y38.toNatClampNeg + 1) v0 n0 (by omega) (Nat.le_refl _) 0
      rw [if_neg d, f1, f2, f3]
      have hc : QV_cutD (rGr x3 y41 (rSt v (y38.toNatClampNeg + 1) y40) ((10 * v) / 10 ^ (y38.toNatClampNeg + 1))) (v / 10 ^ (y38.toNatClampNeg + 1)) (y39.toInt - ((y38.toNatClampNeg + 1 : Nat) : Int)) _ y36 y37 y41 y42 y43 y44 y45 y46 (F_DR_cut (-1 : Int32) x3 y36 y37 y38 y39 y40 y41 y42 y43 y44 y45 y46 f47) := V_DR_cut ⟨by omega, by omega⟩ ⟨by omega, by omega⟩ (by omega) t2 t3 (Or.inl h40) ⟨by omega, by omega⟩
      generalize (F_DR_cut (-1 : Int32) x3 y36 y37 y38 y39 y40 y41 y42 y43 y44 y45 y46 f47) = p301 at hc ⊢
      unfold F_DR_bring_c104_5
      rw [h40] at hc
      generalize rGr x3 y41 (rSt v (y38.toNatClampNeg + 1) 0) ((10 * v) / 10 ^ (y38.toNatClampNeg + 1)) = G at hc ⊢
      rcases hc with ⟨g2, r0, r1⟩ | ⟨gn, r0, r1, r2, r3, r4, r5, r6, r7, r8, r9, r10, r11, r12, r13⟩
      · rw [if_pos r0, if_pos g2]
        exact Or.inr ⟨Or.inl rfl, r1, hD⟩
      · rw [if_neg (show ¬ p301.1 = 0 by rw [r0]; decide), if_neg gn]
        have hs : dSv x4 D (sgI y41 (v / 10 ^ (y38.toNatClampNeg + 1) + G.toInt), x2.toInt) y36 y46 (F_DR_store x4 (p301.2.1 : Int32) (p301.2.2.1 : Int32) (p301.2.2.2.1 : Int32) x2 (p301.2.2.2.2.2.1 : Int32) (p301.2.2.2.2.2.2.1 : Int32) (p301.2.2.2.2.2.2.2.1 : Int32) (p301.2.2.2.2.2.2.2.2.1 : Int32) (p301.2.2.2.2.2.2.2.2.2.1 : Int32) (p301.2.2.2.2.2.2.2.2.2.2.1 : Int32) (p301.2.2.2.2.2.2.2.2.2.2.2.1 : Int32) t1_0 t2_0 t3_0 t4_0 (p301.2.2.2.2.2.2.2.2.2.2.2.2 : (Nat → Int32))) := dSv_e (V_DR_store hD hx (by rw [r6]; exact h41) (by omega) r12 r13) r1 r6 r11 rfl
        generalize (F_DR_store x4 (p301.2.1 : Int32) (p301.2.2.1 : Int32) (p301.2.2.2.1 : Int32) x2 (p301.2.2.2.2.2.1 : Int32) (p301.2.2.2.2.2.2.1 : Int32) (p301.2.2.2.2.2.2.2.1 : Int32) (p301.2.2.2.2.2.2.2.2.1 : Int32) (p301.2.2.2.2.2.2.2.2.2.1 : Int32) (p301.2.2.2.2.2.2.2.2.2.2.1 : Int32) (p301.2.2.2.2.2.2.2.2.2.2.2.1 : Int32) t1_0 t2_0 t3_0 t4_0 (p301.2.2.2.2.2.2.2.2.2.2.2.2 : (Nat → Int32))) = p374 at hs ⊢
        unfold F_DR_bring_c119_6
        exact hs.an
  · have c2 := g_lc2 c
    obtain ⟨z, hz⟩ : ∃ z : Nat, (z : Int) = x2.toInt - y39.toInt := ⟨(x2.toInt - y39.toInt).toNat, by omega⟩
    have s3 := g_sL (b := x2) (c := y39) ⟨by omega, by omega⟩ ⟨by omega, by omega⟩
    have ez : (x2.toInt - y39.toInt).toNat = z := by omega
    have so : sScl x3 y41 v y39.toInt x2.toInt = some (v * 10 ^ z) := by
      unfold sScl
      rw [if_pos (by omega), ez]
    rw [if_neg c, so]
    by_cases d : lg_cmp (x2 - y39 : Int64) 1000 ≤ 0
    · have d2 := g_lc3 d
      have s4 : (y39 + (x2 - y39) : Int64).toInt = x2.toInt := by
        rw [q_addL rfl s3 (by omega) (by omega)]
        omega
      rw [if_pos d]
      have hl : QV_len v y38.toNatClampNeg z y36 y37 (y39 + (x2 - y39)) y40 y41 y42 y43 y44 y45 y46 (F_DR_lengthen (x2 - y39 : Int64) y36 y37 y38 y39 y40 y41 y42 y43 y44 y45 y46 f47) := V_DR_lengthen (by omega) (by omega) (by omega) t2 t3
      generalize (F_DR_lengthen (x2 - y39 : Int64) y36 y37 y38 y39 y40 y41 y42 y43 y44 y45 y46 f47) = p446 at hl ⊢
      unfold F_DR_bring_c66
      obtain ⟨r0, r1, r2, r3, r4, r5, r6, r7, r8, r9, r10, r11, r12⟩ := hl
      have hc := q_clI r2 (by omega)
      have en : p446.2.2.1.toNatClampNeg = y38.toNatClampNeg + z := by omega
      have hs : dSv x4 D (sgI y41 (v * 10 ^ z), x2.toInt) y36 y46 (F_DR_store x4 (p446.1 : Int32) (p446.2.1 : Int32) (p446.2.2.1 : Int32) (p446.2.2.2.1 : Int64) (p446.2.2.2.2.1 : Int32) (p446.2.2.2.2.2.1 : Int32) (p446.2.2.2.2.2.2.1 : Int32) (p446.2.2.2.2.2.2.2.1 : Int32) (p446.2.2.2.2.2.2.2.2.1 : Int32) (p446.2.2.2.2.2.2.2.2.2.1 : Int32) (p446.2.2.2.2.2.2.2.2.2.2.1 : Int32) t1_0 t2_0 t3_0 t4_0 (p446.2.2.2.2.2.2.2.2.2.2.2 : (Nat → Int32))) := dSv_e (V_DR_store hD hx (by rw [r5]; exact h41) (by omega) (by rw [en]; exact r11) (by rw [en]; exact r12)) r0 r5 r10 (by rw [r3]; exact s4)
      generalize (F_DR_store x4 (p446.1 : Int32) (p446.2.1 : Int32) (p446.2.2.1 : Int32) (p446.2.2.2.1 : Int64) (p446.2.2.2.2.1 : Int32) (p446.2.2.2.2.2.1 : Int32) (p446.2.2.2.2.2.2.1 : Int32) (p446.2.2.2.2.2.2.2.1 : Int32) (p446.2.2.2.2.2.2.2.2.1 : Int32) (p446.2.2.2.2.2.2.2.2.2.1 : Int32) (p446.2.2.2.2.2.2.2.2.2.2.1 : Int32) t1_0 t2_0 t3_0 t4_0 (p446.2.2.2.2.2.2.2.2.2.2.2 : (Nat → Int32))) = p514 at hs ⊢
      unfold F_DR_bring_c119_8
      exact hs.an
    · have d2 := g_lc4 d
      rw [if_neg d]
      exact Or.inr ⟨Or.inr ⟨_, rfl, d_big (by omega) (by omega)⟩, rfl, hD⟩
theorem V_DR_bring {x2 : Int64} {x3 : Int32} {x4 : Int32} {t0_0 : Int32} {t0_1 : Int32} {t0_2 : Int32} {t0_3 : Int64} {t0_4 : Int32} {t0_5 : Int32} {t0_6 : Int32} {t0_7 : Int32} {t0_8 : Int32} {t0_9 : Int32} {t0_10 : Int32} {t1_0 : (Nat → Int32)} {t2_0 : (Nat → Int32)} {t3_0 : (Nat → Int32)} {t4_0 : (Nat → Int32)} {t5_0 : (Nat → Int32)} {D : Nat → Int × Int} {v : Int} (hD : dRv t1_0 t2_0 t3_0 t4_0 D) (hx : 0 ≤ x4.toInt ∧ x4.toInt ≤ 9) (hw : -20000 ≤ x2.toInt ∧ x2.toInt ≤ 20000) (h2 : 0 ≤ t0_2.toInt ∧ t0_2.toInt ≤ 1000) (h3 : -20000 ≤ t0_3.toInt ∧ t0_3.toInt ≤ 20000) (h4 : t0_4 = 0) (hb : t0_5 = 0 ∨ t0_5 = 1) (hg : gO t5_0 t0_2.toNatClampNeg) (hv : uV t5_0 t0_2.toNatClampNeg = v) : dAn x4 D ((sScl x3 (if v = 0 then 0 else t0_5) v t0_3.toInt x2.toInt).map (fun u => (sgI (if v = 0 then 0 else t0_5) u, x2.toInt))) t0_0 t0_10 (F_DR_bring x2 x3 x4 t0_0 t0_1 t0_2 t0_3 t0_4 t0_5 t0_6 t0_7 t0_8 t0_9 t0_10 t1_0 t2_0 t3_0 t4_0 t5_0).1 (F_DR_bring x2 x3 x4 t0_0 t0_1 t0_2 t0_3 t0_4 t0_5 t0_6 t0_7 t0_8 t0_9 t0_10 t1_0 t2_0 t3_0 t4_0 t5_0).2.2.2.2.2.2.2.2.2.2.2.1 (F_DR_bring x2 x3 x4 t0_0 t0_1 t0_2 t0_3 t0_4 t0_5 t0_6 t0_7 t0_8 t0_9 t0_10 t1_0 t2_0 t3_0 t4_0 t5_0).2.2.2.2.2.2.2.2.2.2.2.2.1 (F_DR_bring x2 x3 x4 t0_0 t0_1 t0_2 t0_3 t0_4 t0_5 t0_6 t0_7 t0_8 t0_9 t0_10 t1_0 t2_0 t3_0 t4_0 t5_0).2.2.2.2.2.2.2.2.2.2.2.2.2.1 (F_DR_bring x2 x3 x4 t0_0 t0_1 t0_2 t0_3 t0_4 t0_5 t0_6 t0_7 t0_8 t0_9 t0_10 t1_0 t2_0 t3_0 t4_0 t5_0).2.2.2.2.2.2.2.2.2.2.2.2.2.2.1 := by
  have e00 : (0 : Int32).toNatClampNeg = 0 := rfl
  have hn := q_clI (i := t0_2) rfl h2.1
  unfold F_DR_bring
  have ht : QV_trim v t0_5 t0_0 t0_1 t0_3 t0_4 t0_6 t0_7 t0_8 t0_9 t0_10 (F_DR_trim t0_0 t0_1 t0_2 t0_3 t0_4 t0_5 t0_6 t0_7 t0_8 t0_9 t0_10 t5_0) := V_DR_trim hb ⟨h2.1, by omega⟩ hg hv
  generalize (F_DR_trim t0_0 t0_1 t0_2 t0_3 t0_4 t0_5 t0_6 t0_7 t0_8 t0_9 t0_10 t5_0) = p75 at ht ⊢
  unfold F_DR_bring_c1
  obtain ⟨hT, q5, q0, q1, q3, q4, q6, q7, q8, q9, q10⟩ := ht
  have hTT := hT
  obtain ⟨u1, u2, u3, u4⟩ := hTT
  have un := q_clI (i := p75.2.2.1) rfl (by omega)
  have b5 : p75.2.2.2.2.2.1 = 0 ∨ p75.2.2.2.2.2.1 = 1 := by
    rw [q5]
    split
    · exact Or.inl rfl
    · exact hb
  have n1000 : p75.2.2.1.toInt ≤ 1000 := by
    have h1 : v.natAbs < 10 ^ 1000 := by
      have l := u_lt hg
      rw [hv] at l
      have l0 := u_nn hg
      rw [hv] at l0
      have l2 : v.natAbs < 10 ^ t0_2.toNatClampNeg := Int.ofNat_lt.mp (by rw [Int.natAbs_of_nonneg l0, Int.natCast_pow]; exact l)
      exact Nat.lt_of_lt_of_le l2 (Nat.pow_le_pow_right (by decide) (by omega))
    have := (vG_le u4 (by decide)).mpr h1
    omega
  rw [← q5, ← q0, ← q10, e00]
  by_cases z : v = 0
  · have f0 : p75.2.2.2.2.2.2.2.2.2.2.2 0 = 0 := u_hd u2 (by omega) (u3.trans z)
    have b0 : p75.2.2.2.2.2.1 = 0 := by rw [q5, if_pos z]
    rw [if_pos f0, if_pos (q4.trans h4)]
    have hs : dSv x4 D (sgI p75.2.2.2.2.2.1 v, x2.toInt) p75.1 p75.2.2.2.2.2.2.2.2.2.2.1 (F_DR_store x4 (p75.1 : Int32) (p75.2.1 : Int32) (p75.2.2.1 : Int32) x2 (p75.2.2.2.2.1 : Int32) (p75.2.2.2.2.2.1 : Int32) (p75.2.2.2.2.2.2.1 : Int32) (p75.2.2.2.2.2.2.2.1 : Int32) (p75.2.2.2.2.2.2.2.2.1 : Int32) (p75.2.2.2.2.2.2.2.2.2.1 : Int32) (p75.2.2.2.2.2.2.2.2.2.2.1 : Int32) t1_0 t2_0 t3_0 t4_0 (p75.2.2.2.2.2.2.2.2.2.2.2 : (Nat → Int32))) := V_DR_store hD hx b5 ⟨by omega, by omega⟩ u2 u3
    generalize (F_DR_store x4 (p75.1 : Int32) (p75.2.1 : Int32) (p75.2.2.1 : Int32) x2 (p75.2.2.2.2.1 : Int32) (p75.2.2.2.2.2.1 : Int32) (p75.2.2.2.2.2.2.1 : Int32) (p75.2.2.2.2.2.2.2.1 : Int32) (p75.2.2.2.2.2.2.2.2.1 : Int32) (p75.2.2.2.2.2.2.2.2.2.1 : Int32) (p75.2.2.2.2.2.2.2.2.2.2.1 : Int32) t1_0 t2_0 t3_0 t4_0 (p75.2.2.2.2.2.2.2.2.2.2.2 : (Nat → Int32))) = p597 at hs ⊢
    unfold F_DR_bring_c119_9
    refine dAn_o hs.an ?_
    rw [z, sScl_0 (rGr_z _ _)]
    rfl
  · have f0 : ¬ p75.2.2.2.2.2.2.2.2.2.2.2 0 = 0 := u_ld u2 (by omega) (by rw [u3]; exact u4) (by rw [u3]; exact z)
    rw [if_neg f0, ← q3]
    exact V_brJ hD hx hw hT z n1000 ⟨by rw [q3]; omega, by rw [q3]; omega⟩ (q4.trans h4) b5
