/-! values, for whole: the reference's DecimalRows: store, load -/
def updD (D : Nat → Int × Int) (i : Nat) (q : Int × Int) : Nat → Int × Int := fun j => if j = i then q else D j
/-- the ten registers of decimals have the values D: number and scale -/
def dRv (k m s c : Nat → Int32) (D : Nat → Int × Int) : Prop := gO k 10000 ∧ ∀ i, i < 10 → (1 ≤ (m i).toInt ∧ (m i).toInt ≤ 1000) ∧ uV (fun j => k (1000 * i + j)) (m i).toNatClampNeg = ((D i).1.natAbs : Int) ∧ vG (D i).1 (m i).toNatClampNeg ∧ s i = (if (D i).1 < 0 then 1 else 0) ∧ (c i).toInt = (D i).2 ∧ -10000 ≤ (D i).2 ∧ (D i).2 ≤ 10000
def dFit (q : Int × Int) : Prop := q.1.natAbs < 10 ^ 1000 ∧ -10000 ≤ q.2 ∧ q.2 ≤ 10000
theorem dRv.R {k m s c : Nat → Int32} {D : Nat → Int × Int} (h : dRv k m s c D) : gR k m s c := by
  refine ⟨h.1, fun i hi => ?_⟩
  obtain ⟨h1, _, _, h4, h5, h6⟩ := h.2 i hi
  refine ⟨h1, ?_, by omega⟩
  rw [h4]
  split <;> exact ⟨by decide, by decide⟩
theorem dRv.st {k m s c g : Nat → Int32} {D : Nat → Int × Int} {x a b : Int32} {d : Int64} {w : Int} (h : dRv k m s c D) (hg : gO g 10000) (hgx : ∀ i, i < 10 → i ≠ x.toNatClampNeg → ∀ j, j < 1000 → g (1000 * i + j) = k (1000 * i + j)) (ha : 1 ≤ a.toInt ∧ a.toInt ≤ 1000) (hv : uV (fun j => g (1000 * x.toNatClampNeg + j)) a.toNatClampNeg = (w.natAbs : Int)) (hF : vG w a.toNatClampNeg) (hb : b = if w < 0 then 1 else 0) (hd : -10000 ≤ d.toInt ∧ d.toInt ≤ 10000) : dRv g (upd m x.toNatClampNeg a) (upd s x.toNatClampNeg (vp_nar .boolean b)) (upd c x.toNatClampNeg d.toInt32) (updD D x.toNatClampNeg (w, d.toInt)) := by
  have e : d.toInt32.toInt = d.toInt := s_l2i (by omega) (by omega)
  have hb2 : 0 ≤ b.toInt ∧ b.toInt ≤ 1 := by
    rw [hb]
    split <;> exact ⟨by decide, by decide⟩
  rw [g_nb hb2]
  refine ⟨hg, fun i hi => ?_⟩
  by_cases ci : i = x.toNatClampNeg
  · subst ci
    have ed : updD D x.toNatClampNeg (w, d.toInt) x.toNatClampNeg = (w, d.toInt) := if_pos rfl
    rw [v_eq, v_eq, v_eq, e, ed]
    exact ⟨ha, hv, hF, hb, rfl, hd⟩
  · have ed : updD D x.toNatClampNeg (w, d.toInt) i = D i := if_neg ci
    have h1 := h.2 i hi
    rw [v_ne ci, v_ne ci, v_ne ci, ed]
    refine ⟨h1.1, ?_, h1.2.2⟩
    rw [← h1.2.1]
    have hc := q_clI (i := m i) rfl (by omega)
    exact u_ext (fun j hj => hgx i hi ci j (by omega))
def dSv (x : Int32) (D : Nat → Int × Int) (q : Int × Int) (th fa : Int32) (p : Int32 × Int32 × Int32 × Int64 × Int32 × Int32 × Int32 × Int32 × Int32 × Int32 × Int32 × (Nat → Int32) × (Nat → Int32) × (Nat → Int32) × (Nat → Int32) × (Nat → Int32)) : Prop := (dFit q ∧ p.1 = th ∧ dRv p.2.2.2.2.2.2.2.2.2.2.2.1 p.2.2.2.2.2.2.2.2.2.2.2.2.1 p.2.2.2.2.2.2.2.2.2.2.2.2.2.1 p.2.2.2.2.2.2.2.2.2.2.2.2.2.2.1 (updD D x.toNatClampNeg q)) ∨ (¬ dFit q ∧ p.1 = fa ∧ dRv p.2.2.2.2.2.2.2.2.2.2.2.1 p.2.2.2.2.2.2.2.2.2.2.2.2.1 p.2.2.2.2.2.2.2.2.2.2.2.2.2.1 p.2.2.2.2.2.2.2.2.2.2.2.2.2.2.1 D)
theorem V_stoL {x2 : Int32} {t0_0 : Int32} {t0_1 : Int32} {t0_2 : Int32} {t0_3 : Int64} {t0_4 : Int32} {t0_5 : Int32} {t0_6 : Int32} {t0_7 : Int32} {t0_8 : Int32} {t0_9 : Int32} {t0_10 : Int32} {t1_0 : (Nat → Int32)} {t2_0 : (Nat → Int32)} {t3_0 : (Nat → Int32)} {t4_0 : (Nat → Int32)} {t5_0 : (Nat → Int32)} {p75 : (Int32 × Int32 × Int32 × Int64 × Int32 × Int32 × Int32 × Int32 × Int32 × Int32 × Int32 × (Nat → Int32))} {y36 : Int32} {y37 : Int32} {y38 : Int32} {y39 : Int64} {y40 : Int32} {y41 : Int32} {y42 : Int32} {y43 : Int32} {y44 : Int32} {y45 : Int32} {y46 : Int32} {f47 : (Nat → Int32)} {D : Nat → Int × Int} {v : Int} {b : Int32} (hD : dRv t1_0 t2_0 t3_0 t4_0 D) (hx : 0 ≤ x2.toInt ∧ x2.toInt ≤ 9) (hb : b = 0 ∨ b = 1) (hT : gT v y38 f47) (h1000 : y38.toInt ≤ 1000) (h41 : y41 = if v = 0 then 0 else b) (h39 : -10000 ≤ y39.toInt ∧ y39.toInt ≤ 10000) : ∀ (n : Nat) (lx113 : Int32) (lx114 : (Nat → Int32)), ∀ k : Nat, lx113.toInt = (k : Int) → k ≤ y38.toNatClampNeg → 1000 - k < n → gO lx114 10000 → (∀ i, i < k → lx114 (1000 * x2.toNatClampNeg + i) = f47 i) → (∀ i, i < 10 → i ≠ x2.toNatClampNeg → ∀ j, j < 1000 → lx114 (1000 * i + j) = t1_0 (1000 * i + j)) → dSv x2 D (sgI b v, y39.toInt) y36 y46 (F_DR_store_L47 x2 t0_0 t0_1 t0_2 t0_3 t0_4 t0_5 t0_6 t0_7 t0_8 t0_9 t0_10 t1_0 t2_0 t3_0 t4_0 t5_0 p75 y36 y37 y38 y39 y40 y41 y42 y43 y44 y45 y46 f47 n lx113 lx114) := by
  have hn := q_clI (i := y38) rfl (by have := hT.1; omega)
  have hxc := q_clI (i := x2) rfl hx.1
  have hv0 : 0 ≤ v := by
    rw [← hT.2.2.1]
    exact u_nn hT.2.1
  intro n
  induction n with
  | zero => intro _ _ k _ hk hkn; have := hT.1; omega
  | succ n ih =>
    intro lx113 lx114 k hk hk2 hkn hg ho hp
    have q0 := q_clI hk (by omega)
    have ix0 : lx113.toNatClampNeg = k := by omega
    rw [F_DR_store_L47.eq_2]
    by_cases c : y38 ≤ lx113
    · have c2 := q_leI c
      have ek : k = y38.toNatClampNeg := by omega
      rw [if_pos c]
      have hw : (sgI b v).natAbs = v.natAbs := sgI_abs
      have hf : dFit (sgI b v, y39.toInt) := by
        refine ⟨?_, h39⟩
        show (sgI b v).natAbs < 10 ^ 1000
        rw [hw]
        exact (vG_le hT.2.2.2 (by decide)).mp (by omega)
      refine Or.inl ⟨hf, rfl, ?_⟩
      refine dRv.st hD hg hp ⟨hT.1.1, h1000⟩ ?_ (vG_abs hT.2.2.2 hw) ?_ h39
      · rw [hw, Int.natAbs_of_nonneg hv0, ← hT.2.2.1]
        exact u_ext (fun i hi => ho i (by omega))
      · rw [h41]
        unfold sgI
        by_cases z : v = 0
        · rw [if_pos z, if_neg]
          split <;> omega
        · rw [if_neg z]
          rcases hb with e | e
          · rw [e, if_pos rfl, if_neg (by omega)]
          · rw [e, if_neg (show ¬ (1 : Int32) = 0 by decide), if_pos (by omega)]
    · have c2 := q_nleI c
      rw [if_neg c]
      have e1 : (lx113 + 1 : Int32).toInt = ((k + 1 : Nat) : Int) := by
        rw [q_addI (y := 1) hk rfl (by omega) (by omega)]
        omega
      have gx := (g_ix (k := lx113) hx ⟨by omega, by omega⟩).2
      rw [gx, ix0]
      refine ih _ _ (k + 1) e1 (by omega) (by omega) (gO_upd hg (hT.2.1 k (by omega))) (fun i hi => ?_) (fun i hi hne j hj => ?_)
      · by_cases ci : i = k
        · rw [ci, v_eq]
        · rw [v_ne (by omega)]
          exact ho i (by omega)
      · rw [v_ne (by omega)]
        exact hp i hi hne j hj
theorem V_DR_store {x2 : Int32} {t0_0 : Int32} {t0_1 : Int32} {t0_2 : Int32} {t0_3 : Int64} {t0_4 : Int32} {t0_5 : Int32} {t0_6 : Int32} {t0_7 : Int32} {t0_8 : Int32} {t0_9 : Int32} {t0_10 : Int32} {t1_0 : (Nat → Int32)} {t2_0 : (Nat → Int32)} {t3_0 : (Nat → Int32)} {t4_0 : (Nat → Int32)} {t5_0 : (Nat → Int32)} {D : Nat → Int × Int} {v : Int} (hD : dRv t1_0 t2_0 t3_0 t4_0 D) (hx : 0 ≤ x2.toInt ∧ x2.toInt ≤ 9) (hb : t0_5 = 0 ∨ t0_5 = 1) (h2 : 0 ≤ t0_2.toInt ∧ t0_2.toInt ≤ 4400) (hg : gO t5_0 t0_2.toNatClampNeg) (hv : uV t5_0 t0_2.toNatClampNeg = v) : dSv x2 D (sgI t0_5 v, t0_3.toInt) t0_0 t0_10 (F_DR_store x2 t0_0 t0_1 t0_2 t0_3 t0_4 t0_5 t0_6 t0_7 t0_8 t0_9 t0_10 t1_0 t2_0 t3_0 t4_0 t5_0) := by
  have eA : (-10000 : Int64).toInt = -10000 := rfl
  have eB : (10000 : Int64).toInt = 10000 := rfl
  have eC : (1000 : Int32).toInt = 1000 := rfl
  unfold F_DR_store
  have ht : QV_trim v t0_5 t0_0 t0_1 t0_3 t0_4 t0_6 t0_7 t0_8 t0_9 t0_10 (F_DR_trim t0_0 t0_1 t0_2 t0_3 t0_4 t0_5 t0_6 t0_7 t0_8 t0_9 t0_10 t5_0) := V_DR_trim hb h2 hg hv
  generalize (F_DR_trim t0_0 t0_1 t0_2 t0_3 t0_4 t0_5 t0_6 t0_7 t0_8 t0_9 t0_10 t5_0) = p75 at ht ⊢
  unfold F_DR_store_c1
  obtain ⟨hT, h5, p0, p1, p3, p4, p6, p7, p8, p9, p10⟩ := ht
  have hw : (sgI t0_5 v).natAbs = v.natAbs := sgI_abs
  have hn := q_clI (i := p75.2.2.1) rfl (by have := hT.1; omega)
  by_cases c : (1000 : Int32) < p75.2.2.1
  · have c2 := q_ltI c
    rw [if_pos c]
    refine Or.inr ⟨fun hf => ?_, p10, hD⟩
    have h1 : (sgI t0_5 v).natAbs < 10 ^ 1000 := hf.1
    rw [hw] at h1
    have := (vG_le hT.2.2.2 (by decide)).mpr h1
    omega
  · have c2 := q_nltI c
    rw [if_neg c, p3]
    by_cases d : lg_cmp t0_3 (-10000) < 0
    · have d2 := g_lc1 d
      rw [if_pos d]
      refine Or.inr ⟨fun hf => ?_, p10, hD⟩
      have h1 : -10000 ≤ t0_3.toInt := hf.2.1
      omega
    · have d2 := g_lc2 d
      rw [if_neg d]
      by_cases f : lg_cmp t0_3 10000 ≤ 0
      · have f2 := g_lc3 f
        rw [if_pos f, ← p0, ← p10]
        exact V_stoL hD hx hb hT (by omega) h5 ⟨by omega, by omega⟩ _ _ _ 0 rfl (Nat.zero_le _) (by decide) hD.1 (fun i h => absurd h (Nat.not_lt_zero _)) (fun _ _ _ _ _ => rfl)
      · have f2 := g_lc4 f
        rw [if_neg f]
        refine Or.inr ⟨fun hf => ?_, p10, hD⟩
        have h1 : t0_3.toInt ≤ 10000 := hf.2.2
        omega
def QV_load (q : Int × Int) (a0 a1 a6 a7 a8 a9 a10 : Int32) (p : Int32 × Int32 × Int32 × Int64 × Int32 × Int32 × Int32 × Int32 × Int32 × Int32 × Int32 × (Nat → Int32)) : Prop := gT (q.1.natAbs : Int) p.2.2.1 p.2.2.2.2.2.2.2.2.2.2.2 ∧ p.2.2.1.toInt ≤ 1000 ∧ p.2.2.2.1.toInt = q.2 ∧ p.2.2.2.2.1 = 0 ∧ p.2.2.2.2.2.1 = (if q.1 < 0 then 1 else 0) ∧ p.1 = a0 ∧ p.2.1 = a1 ∧ p.2.2.2.2.2.2.1 = a6 ∧ p.2.2.2.2.2.2.2.1 = a7 ∧ p.2.2.2.2.2.2.2.2.1 = a8 ∧ p.2.2.2.2.2.2.2.2.2.1 = a9 ∧ p.2.2.2.2.2.2.2.2.2.2.1 = a10
theorem V_loaL {x2 : Int32} {t0_0 : Int32} {t0_1 : Int32} {t0_2 : Int32} {t0_3 : Int64} {t0_4 : Int32} {t0_5 : Int32} {t0_6 : Int32} {t0_7 : Int32} {t0_8 : Int32} {t0_9 : Int32} {t0_10 : Int32} {t1_0 : (Nat → Int32)} {t2_0 : (Nat → Int32)} {t3_0 : (Nat → Int32)} {t4_0 : (Nat → Int32)} {t5_0 : (Nat → Int32)} {a34 : Int32} {D : Nat → Int × Int} (hD : dRv t1_0 t2_0 t3_0 t4_0 D) (hx : 0 ≤ x2.toInt ∧ x2.toInt ≤ 9) (ha : a34 = t2_0 x2.toNatClampNeg) : ∀ (n : Nat) (lx39 : Int32) (lx40 : (Nat → Int32)), ∀ k : Nat, lx39.toInt = (k : Int) → k ≤ a34.toNatClampNeg → 12200 - k < n → (∀ i, i < k → lx40 i = t1_0 (1000 * x2.toNatClampNeg + i)) → QV_load (D x2.toNatClampNeg) t0_0 t0_1 t0_6 t0_7 t0_8 t0_9 t0_10 (F_DR_load_L12 x2 t0_0 t0_1 t0_2 t0_3 t0_4 t0_5 t0_6 t0_7 t0_8 t0_9 t0_10 t1_0 t2_0 t3_0 t4_0 t5_0 a34 n lx39 lx40) := by
  have hxc := q_clI (i := x2) rfl hx.1
  obtain ⟨d1, d2, d3, d4, d5, d6⟩ := hD.2 x2.toNatClampNeg (by omega)
  have hA : 1 ≤ a34.toInt ∧ a34.toInt ≤ 1000 := by
    rw [ha]
    exact d1
  have hn := q_clI (i := a34) rfl (by omega)
  intro n
  induction n with
  | zero => intro _ _ k _ hk hkn; omega
  | succ n ih =>
    intro lx39 lx40 k hk hk2 hkn ho
    have q0 := q_clI hk (by omega)
    have ix0 : lx39.toNatClampNeg = k := by omega
    rw [F_DR_load_L12.eq_2]
    by_cases c : a34 ≤ lx39
    · have c2 := q_leI c
      have ek : k = a34.toNatClampNeg := by omega
      rw [if_pos c]
      have ev : uV lx40 a34.toNatClampNeg = ((D x2.toNatClampNeg).1.natAbs : Int) := by
        rw [← d2, ← ha]
        exact u_ext (fun i hi => ho i (by omega))
      refine ⟨⟨?_, fun i hi => ?_, ev, ?_⟩, ?_, ?_, rfl, d4, rfl, rfl, rfl, rfl, rfl, rfl, rfl⟩
      · show 1 ≤ a34.toInt ∧ a34.toInt ≤ 4400
        rw [ha]
        omega
      · show 0 ≤ (lx40 i).toInt ∧ (lx40 i).toInt ≤ 9
        rw [ho i (by have : i < a34.toNatClampNeg := hi; omega)]
        exact hD.1 _ (by have : i < a34.toNatClampNeg := hi; omega)
      · show vG ((D x2.toNatClampNeg).1.natAbs : Int) a34.toNatClampNeg
        rw [ha]
        exact vG_abs d3 (Int.natAbs_natCast _)
      · show a34.toInt ≤ 1000
        rw [ha]
        exact d1.2
      · show (t4_0 x2.toNatClampNeg).toInt64.toInt = (D x2.toNatClampNeg).2
        rw [Int32.toInt_toInt64]
        exact d5
    · have c2 := q_nleI c
      rw [if_neg c]
      have e1 : (lx39 + 1 : Int32).toInt = ((k + 1 : Nat) : Int) := by
        rw [q_addI (y := 1) hk rfl (by omega) (by omega)]
        omega
      have gx := (g_ix (k := lx39) hx ⟨by omega, by omega⟩).2
      rw [gx, ix0]
      refine ih _ _ (k + 1) e1 (by omega) (by omega) (fun i hi => ?_)
      by_cases ci : i = k
      · rw [ci, v_eq]
      · rw [v_ne ci]
        exact ho i (by omega)
theorem V_DR_load {x2 : Int32} {t0_0 : Int32} {t0_1 : Int32} {t0_2 : Int32} {t0_3 : Int64} {t0_4 : Int32} {t0_5 : Int32} {t0_6 : Int32} {t0_7 : Int32} {t0_8 : Int32} {t0_9 : Int32} {t0_10 : Int32} {t1_0 : (Nat → Int32)} {t2_0 : (Nat → Int32)} {t3_0 : (Nat → Int32)} {t4_0 : (Nat → Int32)} {t5_0 : (Nat → Int32)} {D : Nat → Int × Int} (hD : dRv t1_0 t2_0 t3_0 t4_0 D) (hx : 0 ≤ x2.toInt ∧ x2.toInt ≤ 9) : QV_load (D x2.toNatClampNeg) t0_0 t0_1 t0_6 t0_7 t0_8 t0_9 t0_10 (F_DR_load x2 t0_0 t0_1 t0_2 t0_3 t0_4 t0_5 t0_6 t0_7 t0_8 t0_9 t0_10 t1_0 t2_0 t3_0 t4_0 t5_0) := by
  unfold F_DR_load
  exact V_loaL hD hx rfl _ _ _ 0 rfl (Nat.zero_le _) (by decide) (fun i h => absurd h (Nat.not_lt_zero _))
