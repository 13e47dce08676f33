/-! values, for whole: the reference's WholeRows: sum, store -/
/-- the value of register i; the registers have the values W -/
def wVi (k : Nat → Int32) (i : Nat) : Int := wV (fun j => k (128 * i + j)) 128
def wRv (k m : Nat → Int32) (W : Nat → Int) : Prop := wO k 1408 ∧ ∀ i, i < 11 → (m i = 0 ∧ W i = wVi k i) ∨ (m i = 1 ∧ 0 < wVi k i ∧ W i = -wVi k i)
def updW (W : Nat → Int) (i : Nat) (v : Int) : Nat → Int := fun j => if j = i then v else W j
def sgI (b : Int32) (v : Int) : Int := if b = 0 then v else -v
theorem wRv.R {k m : Nat → Int32} {W : Nat → Int} (h : wRv k m W) : wR k m := by
  refine ⟨h.1, fun i hi => ?_⟩
  rcases h.2 i hi with ⟨a, _⟩ | ⟨a, _⟩ <;> rw [a] <;> exact ⟨by decide, by decide⟩
theorem wRv.sg {k m : Nat → Int32} {W : Nat → Int} {x : Int32} (h : wRv k m W) (hx : 0 ≤ x.toInt ∧ x.toInt ≤ 10) : (m x.toNatClampNeg = 0 ∨ m x.toNatClampNeg = 1) ∧ W x.toNatClampNeg = sgI (m x.toNatClampNeg) (wVk k x) := by
  have hc := q_clI (i := x) rfl hx.1
  rcases h.2 x.toNatClampNeg (by omega) with ⟨a, b⟩ | ⟨a, _, b⟩
  · refine ⟨Or.inl a, ?_⟩
    rw [a, b, sgI, if_pos rfl]
    rfl
  · refine ⟨Or.inr a, ?_⟩
    rw [a, b, sgI, if_neg (by decide)]
    rfl
theorem R_join4V {y : Int64} {x5 : Int32} {f g : Nat → Int32} {va vb σ : Int} (hσ : σ = if x5 = 0 then 1 else -1) (hy : 0 ≤ y.toInt ∧ y.toInt ≤ 8589934592) (hf : wK va f) (hg : wK vb g) (h0 : 0 ≤ va + σ * (y.toInt * vb)) (h1 : va + σ * (y.toInt * vb) < 65536 ^ 264) : S_WR_join 264 264 (F_WR_size 264 g) y x5 f g ∧ wK (va + σ * (y.toInt * vb)) (F_WR_join 264 264 (F_WR_size 264 g) y x5 f g) := by
  have e264 : (264 : Int32).toInt = 264 := rfl
  have n264 : (264 : Int32).toNatClampNeg = 264 := rfl
  have hz := R_size (N := 264) (f := g) (by decide)
  have hv := hz.val
  have hs := R_size4 (f := g)
  have hc := q_clI (i := F_WR_size 264 g) rfl hs.1
  have hj := R_join (N := 264) (M := 264) (s := F_WR_size 264 g) (y := y) (x5 := x5) (f := f) (g := g) hσ (by decide) (by decide) hs.1 (by omega) (by omega) (hg.1.mono (by omega)) hy hf.1
  refine ⟨hj.1, ?_⟩
  have hj2 := hj.2
  rw [← hv, n264] at hj2
  have ef : wV f 264 = va := hf.2
  have eg : wV g 264 = vb := hg.2
  rw [ef, eg] at hj2
  exact ⟨hj2.1, hj2.val h0 h1⟩
theorem wK.nn {v : Int} {r : Nat → Int32} (h : wK v r) : 0 ≤ v := by
  have e : wV r 264 = v := h.2
  rw [← e]
  exact w_nn h.1
def wSum (s : Int) (th fa : Int32) (p : Int32 × Int32 × Int32 × Int32 × Int32 × Int32 × Int32 × (Nat → Int32)) : Prop := p.1 = th ∧ p.2.1 = fa ∧ (p.2.2.2.1 = 0 ∨ p.2.2.2.1 = 1) ∧ ∃ u, wK u p.2.2.2.2.2.2.2 ∧ sgI p.2.2.2.1 u = s
theorem R_sumV {x3 x5 t0_0 t0_1 t0_2 t0_3 t0_4 t0_5 t0_6 : Int32} {t1_0 t2_0 t3_0 : Nat → Int32} {va vb : Int} (h3 : x3 = 0 ∨ x3 = 1) (h5 : x5 = 0 ∨ x5 = 1) (hf : wK va t2_0) (hg : wK vb t3_0) (h1 : va + vb < 65536 ^ 264) : S_WR_sum 264 x3 264 x5 t0_0 t0_1 t0_2 t0_3 t0_4 t0_5 t0_6 t1_0 t2_0 t3_0 ∧ wSum (sgI x3 va + sgI x5 vb) t0_0 t0_1 (F_WR_sum 264 x3 264 x5 t0_0 t0_1 t0_2 t0_3 t0_4 t0_5 t0_6 t1_0 t2_0 t3_0) := by
  have a0 := hf.nn
  have b0 := hg.nn
  have e1 : (1 : Int64).toInt = 1 := rfl
  have cf := R_copy4 (g := t1_0) hf
  have cg := R_copy4 (g := t1_0) hg
  have hc := R_cmp (N := 264) (M := 264) (f := t2_0) (g := t3_0) (by decide) (by decide) hf.1 hg.1
  have ea : wV t2_0 264 = va := hf.2
  have eb : wV t3_0 264 = vb := hg.2
  have hcv : wC (F_WR_compareRows 264 264 t2_0 t3_0) va vb := by
    have h := hc.2
    rw [show (264 : Int32).toNatClampNeg = 264 from rfl, ea, eb] at h
    exact h
  unfold S_WR_sum F_WR_sum
  by_cases c : x3 = x5
  · rw [if_pos c, if_pos c]
    have j := R_join4V (y := 1) (x5 := 0) (σ := 1) rfl (by decide) cf hg (by rw [e1]; omega) (by rw [e1]; omega)
    refine ⟨⟨⟨trivial, j.1⟩, trivial⟩, rfl, rfl, h3, _, j.2, ?_⟩
    show sgI x3 _ = _
    rw [e1, ← c]
    unfold sgI
    split <;> omega
  · rw [if_neg c, if_neg c]
    refine v_owe hc.1 ?_
    have em : (-1 : Int32).toInt = -1 := rfl
    have e0 : (0 : Int32).toInt = 0 := rfl
    have e1i : (1 : Int32).toInt = 1 := rfl
    by_cases d : F_WR_compareRows 264 264 t2_0 t3_0 < 0
    · rw [if_pos d, if_pos d]
      have d2 := q_ltI d
      have hlt : va < vb := by
        rcases hcv with ⟨k, _⟩ | ⟨k, _⟩ | ⟨_, k⟩
        · rw [k] at d2; omega
        · rw [k] at d2; omega
        · exact k
      have j := R_join4V (y := 1) (x5 := 1) (σ := -1) rfl (by decide) cg hf (by rw [e1]; omega) (by rw [e1]; omega)
      refine ⟨⟨⟨trivial, j.1⟩, trivial⟩, rfl, rfl, h5, _, j.2, ?_⟩
      show sgI x5 _ = _
      rw [e1]
      unfold sgI
      rcases h3 with rfl | rfl <;> rcases h5 with rfl | rfl
      · exact absurd rfl c
      · rw [if_neg (by decide), if_pos rfl, if_neg (by decide)]; omega
      · rw [if_pos rfl, if_neg (by decide), if_pos rfl]; omega
      · exact absurd rfl c
    · rw [if_neg d, if_neg d]
      have d2 := q_nltI d
      have hge : vb ≤ va := by
        rcases hcv with ⟨_, k⟩ | ⟨_, k⟩ | ⟨k, _⟩
        · omega
        · omega
        · rw [k] at d2; omega
      have j := R_join4V (y := 1) (x5 := 1) (σ := -1) rfl (by decide) cf hg (by rw [e1]; omega) (by rw [e1]; omega)
      refine ⟨⟨⟨trivial, j.1⟩, trivial⟩, rfl, rfl, h3, _, j.2, ?_⟩
      show sgI x3 _ = _
      rw [e1]
      unfold sgI
      rcases h3 with rfl | rfl <;> rcases h5 with rfl | rfl
      · exact absurd rfl c
      · rw [if_pos rfl, if_pos rfl, if_neg (by decide)]; omega
      · rw [if_neg (by decide), if_neg (by decide), if_pos rfl]; omega
      · exact absurd rfl c
/-- what a store leaves, exactly -/
def wSt2 (to th fa be : Int32) (k0 m0 row : Nat → Int32) (p : Int32 × Int32 × Int32 × Int32 × Int32 × Int32 × Int32 × (Nat → Int32) × (Nat → Int32)) : Prop :=
  p.1 = th ∧ p.2.1 = fa ∧ (∀ i, p.2.2.2.2.2.2.2.1 i = if 128 * to.toNatClampNeg ≤ i ∧ i < 128 * to.toNatClampNeg + 128 then row (i - 128 * to.toNatClampNeg) else k0 i) ∧ ((p.2.2.2.2.2.2.2.2 = upd m0 to.toNatClampNeg 0 ∧ (be = 0 ∨ ∀ i, i < 128 → row i = 0)) ∨ (p.2.2.2.2.2.2.2.2 = upd m0 to.toNatClampNeg 1 ∧ be ≠ 0 ∧ ∃ i, i < 128 ∧ row i ≠ 0))
theorem w_storeL2 {x2 t0_0 t0_1 t0_2 t0_3 t0_4 t0_5 t0_6 : Int32} {t1_0 t2_0 t3_0 : Nat → Int32} (hx : 0 ≤ x2.toInt ∧ x2.toInt ≤ 10) : ∀ (n : Nat) (k b : Int32) (g : Nat → Int32), 0 ≤ k.toInt → k.toInt ≤ 128 → 128 - k.toInt < n → (∀ i : Nat, g i = if 128 * x2.toNatClampNeg ≤ i ∧ i < 128 * x2.toNatClampNeg + k.toNatClampNeg then t3_0 (i - 128 * x2.toNatClampNeg) else t1_0 i) → ((b = 0 ∧ ∀ i, i < k.toNatClampNeg → t3_0 i = 0) ∨ (b ≠ 0 ∧ ∃ i, i < k.toNatClampNeg ∧ t3_0 i ≠ 0)) →
    wSt2 x2 t0_0 t0_1 t0_3 t1_0 t2_0 t3_0 (F_WR_store_L26 x2 t0_0 t0_1 t0_2 t0_3 t0_4 t0_5 t0_6 t1_0 t2_0 t3_0 n k b g) := by
  intro n
  induction n with
  | zero => intro k b g h0 hk h1 h2 h3; omega
  | succ n ih =>
    intro k b g h0 hk h1 h2 h3
    have z0 : (vp_nar .boolean 0 : Int32) = 0 := by decide
    have z1 : (vp_nar .boolean 1 : Int32) = 1 := by decide
    rw [F_WR_store_L26.eq_2]
    have e8 : (128 : Int32).toInt = 128 := rfl
    have ek := q_clI (i := k) rfl h0
    by_cases c : (128 : Int32) ≤ k
    · rw [if_pos c]
      have c2 := q_leI c
      have e9 : k.toNatClampNeg = 128 := by omega
      rw [e9] at h2 h3
      by_cases d : t0_3 = 0
      · rw [if_pos d]
        exact ⟨rfl, rfl, h2, Or.inl ⟨by rw [z0], Or.inl d⟩⟩
      · rw [if_neg d]
        by_cases d2 : b = 0
        · rw [if_pos d2]
          rcases h3 with ⟨_, h4⟩ | ⟨h4, _⟩
          · exact ⟨rfl, rfl, h2, Or.inl ⟨by rw [z0], Or.inr h4⟩⟩
          · exact absurd d2 h4
        · rw [if_neg d2]
          rcases h3 with ⟨h4, _⟩ | ⟨_, h4⟩
          · exact absurd h4 d2
          · exact ⟨rfl, rfl, h2, Or.inr ⟨by rw [z1], d, h4⟩⟩
    · rw [if_neg c]
      have c2 := q_nleI c
      have e1 : (k + 1 : Int32).toInt = k.toInt + 1 := q_addI (y := 1) rfl (by decide) (by omega) (by omega)
      have ek1 := q_clI (i := k + 1) e1 (by omega)
      obtain ⟨i1, i2⟩ := w_ix hx ⟨h0, by omega⟩
      rw [i2]
      have go : ∀ i : Nat, upd g (128 * x2.toNatClampNeg + k.toNatClampNeg) (t3_0 k.toNatClampNeg) i = if 128 * x2.toNatClampNeg ≤ i ∧ i < 128 * x2.toNatClampNeg + (k + 1 : Int32).toNatClampNeg then t3_0 (i - 128 * x2.toNatClampNeg) else t1_0 i := fun i => by
        by_cases e : i = 128 * x2.toNatClampNeg + k.toNatClampNeg
        · have e5 : i - 128 * x2.toNatClampNeg = k.toNatClampNeg := by omega
          rw [if_pos (by omega), e5, e, v_eq]
        · rw [v_ne e, h2 i]
          by_cases e6 : 128 * x2.toNatClampNeg ≤ i ∧ i < 128 * x2.toNatClampNeg + k.toNatClampNeg
          · rw [if_pos e6, if_pos (by omega)]
          · rw [if_neg e6, if_neg (by omega)]
      have kk : (k + 1 : Int32).toNatClampNeg = k.toNatClampNeg + 1 := by omega
      by_cases d : b = 0
      · rw [if_pos d]
        have h4 : ∀ i, i < k.toNatClampNeg → t3_0 i = 0 := by
          rcases h3 with ⟨_, h4⟩ | ⟨h4, _⟩
          · exact h4
          · exact absurd d h4
        by_cases d2 : t3_0 k.toNatClampNeg = 0
        · rw [if_pos d2]
          refine ih _ _ _ (by omega) (by omega) (by omega) go (Or.inl ⟨rfl, fun i hi => ?_⟩)
          by_cases e : i = k.toNatClampNeg
          · rw [e]; exact d2
          · exact h4 i (by omega)
        · rw [if_neg d2]
          exact ih _ _ _ (by omega) (by omega) (by omega) go (Or.inr ⟨by decide, k.toNatClampNeg, by omega, d2⟩)
      · rw [if_neg d]
        obtain ⟨i, hi, hn⟩ : ∃ i, i < k.toNatClampNeg ∧ t3_0 i ≠ 0 := by
          rcases h3 with ⟨h4, _⟩ | ⟨_, h4⟩
          · exact absurd h4 d
          · exact h4
        exact ih _ _ _ (by omega) (by omega) (by omega) go (Or.inr ⟨by decide, i, by omega, hn⟩)
theorem wVi_ext {k k' : Nat → Int32} {i : Nat} (h : ∀ j, j < 128 → k (128 * i + j) = k' (128 * i + j)) : wVi k i = wVi k' i := w_ext h
/-- registers behind a store: v goes in with its sign, or it is too large -/
def wSv (x : Int32) (W : Nat → Int) (v : Int) (th fa be : Int32) (p : Int32 × Int32 × Int32 × Int32 × Int32 × Int32 × Int32 × (Nat → Int32) × (Nat → Int32)) : Prop := p.2.1 = fa ∧ ((v < 65536 ^ 128 ∧ p.1 = th ∧ wRv p.2.2.2.2.2.2.2.1 p.2.2.2.2.2.2.2.2 (updW W x.toNatClampNeg (sgI be v))) ∨ (65536 ^ 128 ≤ v ∧ p.1 = fa ∧ wRv p.2.2.2.2.2.2.2.1 p.2.2.2.2.2.2.2.2 W))
theorem R_storeV {x2 t0_0 t0_1 t0_2 t0_3 t0_4 t0_5 t0_6 : Int32} {t1_0 t2_0 t3_0 : Nat → Int32} {W : Nat → Int} {v : Int} (hx : 0 ≤ x2.toInt ∧ x2.toInt ≤ 10) (hr : wRv t1_0 t2_0 W) (hk : wK v t3_0) : S_WR_store x2 t0_0 t0_1 t0_2 t0_3 t0_4 t0_5 t0_6 t1_0 t2_0 t3_0 ∧ wSv x2 W v t0_0 t0_1 t0_3 (F_WR_store x2 t0_0 t0_1 t0_2 t0_3 t0_4 t0_5 t0_6 t1_0 t2_0 t3_0) := by
  refine ⟨(R_store hx hr.R hk.1).1, ?_⟩
  have e0 : (0 : Int32).toInt = 0 := rfl
  have e128 : (128 : Int32).toInt = 128 := rfl
  have n0 : (0 : Int32).toNatClampNeg = 0 := rfl
  have n264 : (264 : Int32).toNatClampNeg = 264 := rfl
  have ex := q_clI (i := x2) rfl hx.1
  have ev : wV t3_0 264 = v := hk.2
  have hz := R_size (N := 264) (f := t3_0) (by decide)
  have hs := R_size4 (f := t3_0)
  have hc := q_clI (i := F_WR_size 264 t3_0) rfl hs.1
  unfold F_WR_store
  by_cases c : F_WR_size 264 t3_0 ≤ 128
  · rw [if_pos c]
    have c2 := q_leI c
    have hlt : v < 65536 ^ 128 := by
      have h1 := hz.lt hk.1
      rw [n264, ev] at h1
      have h2 := w_pwle (k := (F_WR_size 264 t3_0).toNatClampNeg) (i := 128) (by omega)
      omega
    have e28 : wV t3_0 128 = v := by
      rw [← ev]
      exact (w_zer (by omega) (w_top hk.1 (by rw [ev]; exact hlt))).symm
    obtain ⟨p1, p2, p3, p4⟩ := w_storeL2 (t0_0 := t0_0) (t0_1 := t0_1) (t0_2 := t0_2) (t0_3 := t0_3) (t0_4 := t0_4) (t0_5 := t0_5) (t0_6 := t0_6) (t1_0 := t1_0) (t2_0 := t2_0) (t3_0 := t3_0) hx ((128 - (0 : Int32).toInt).toNat + 1) 0 0 t1_0 (by decide) (by decide) (by omega) (fun i => by rw [if_neg (by omega)]) (Or.inl ⟨rfl, fun i hi => by omega⟩)
    refine ⟨p2, Or.inl ⟨hlt, p1, ?_⟩⟩
    generalize F_WR_store_L26 x2 t0_0 t0_1 t0_2 t0_3 t0_4 t0_5 t0_6 t1_0 t2_0 t3_0 ((128 - (0 : Int32).toInt).toNat + 1) 0 0 t1_0 = p at p1 p2 p3 p4 ⊢
    have hvx : wVi p.2.2.2.2.2.2.2.1 x2.toNatClampNeg = v := by
      rw [← e28]
      refine w_ext (fun j hj => ?_)
      rw [p3, if_pos (by omega), show 128 * x2.toNatClampNeg + j - 128 * x2.toNatClampNeg = j by omega]
    have hvo : ∀ i, i ≠ x2.toNatClampNeg → wVi p.2.2.2.2.2.2.2.1 i = wVi t1_0 i := fun i hi => by
      refine w_ext (fun j hj => ?_)
      show p.2.2.2.2.2.2.2.1 (128 * i + j) = _
      rw [p3, if_neg (by omega)]
    refine ⟨fun i hi => ?_, fun i hi => ?_⟩
    · rw [p3 i]
      split
      · exact hk.1 _ (by omega)
      · exact hr.1 i hi
    · unfold updW
      by_cases e : i = x2.toNatClampNeg
      · rw [if_pos e, e, hvx]
        rcases p4 with ⟨m1, m2⟩ | ⟨m1, m2, j, m3, m4⟩
        · rw [m1, v_eq]
          refine Or.inl ⟨rfl, ?_⟩
          rcases m2 with m2 | m2
          · rw [sgI, if_pos m2]
          · have : v = 0 := by
              rw [← e28, w_zer (k := 0) (by omega) (fun i _ hi => m2 i hi)]
              rfl
            rw [this, sgI]
            split <;> rfl
        · rw [m1, v_eq]
          refine Or.inr ⟨rfl, ?_, by rw [sgI, if_neg m2]⟩
          have h5 := w_ge (hk.1.mono (by omega : 128 ≤ 264)) m3 m4
          rw [e28] at h5
          have h6 := w_pos j
          omega
      · rw [if_neg e, hvo i e]
        have hm : p.2.2.2.2.2.2.2.2 i = t2_0 i := by
          rcases p4 with ⟨m1, _⟩ | ⟨m1, _⟩ <;> rw [m1, v_ne e]
        rw [hm]
        exact hr.2 i hi
  · rw [if_neg c]
    have c2 := q_nleI c
    have hge : 65536 ^ 128 ≤ v := by
      have h1 := hz.ge hk.1 (by omega)
      rw [n264, ev] at h1
      have h2 := w_pwle (k := 128) (i := (F_WR_size 264 t3_0).toNatClampNeg - 1) (by omega)
      omega
    exact ⟨rfl, Or.inr ⟨hge, rfl, hr⟩⟩
