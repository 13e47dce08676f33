/-! DecimalRows: nextFigure, loadUnder, beginQuotient, append -/
/-- the division at work: what is left is below what is under it -/
def uW (z : Int32) (un le : Nat → Int32) : Prop := (1 ≤ z.toInt ∧ z.toInt ≤ 2199) ∧ gO un z.toNatClampNeg ∧ gO le (z.toNatClampNeg + 1) ∧ wL (uV le (z.toNatClampNeg + 1)) (uV un z.toNatClampNeg)
section UE
variable {x2 t0_0 t0_1 t0_2 : Int32} {t0_3 : Int64} {t0_4 t0_5 t0_6 t0_7 t0_8 t0_9 t0_10 : Int32} {un l0 : Nat → Int32} {u : Nat}
def uQ (z : Int32) (un : Nat → Int32) (L : Int) (p : Int32 × (Nat → Int32)) : Prop := (0 ≤ p.1.toInt ∧ p.1.toInt ≤ 9) ∧ uW z un p.2 ∧ wE (p.1.toInt * uV un z.toNatClampNeg + uV p.2 (z.toNatClampNeg + 1)) L
theorem u_9 {d U l L : Int} (h : d * U + l = L) (hl : 0 ≤ l) (hL : L < 10 * U) (hU : 0 < U) : d ≤ 9 := by
  by_cases c : d ≤ 9
  · exact c
  · have := Int.mul_le_mul_of_nonneg_right (show 10 ≤ d by omega) (Int.le_of_lt hU)
    omega
theorem u_nfL {KF : Int32 → (Nat → Int32) → Int32 × (Nat → Int32)} {KS : Int32 → (Nat → Int32) → Prop} {a24 : Int32} {f25 : Nat → Int32} {L : Int} (hu : t0_7.toInt = u) (h0 : 1 ≤ u) (h9 : u ≤ 2199) (hg : gO un u) (hU : wL 0 (uV un u)) (hL : wL L (10 * uV un u)) : ∀ (n : Nat) (d : Int32) (le : Nat → Int32), 0 ≤ d.toInt → 10 ≤ d.toInt + n → gO le (u + 1) → wE (d.toInt * uV un u + uV le (u + 1)) L →
    S_DR_nextFigure_L42 KS x2 t0_0 t0_1 t0_2 t0_3 t0_4 t0_5 t0_6 t0_7 t0_8 t0_9 t0_10 un l0 a24 f25 n d le ∧ uQ t0_7 un L (F_DR_nextFigure_L42 KF x2 t0_0 t0_1 t0_2 t0_3 t0_4 t0_5 t0_6 t0_7 t0_8 t0_9 t0_10 un l0 a24 f25 n d le) := by
  have eu : t0_7.toNatClampNeg = u := by have := q_clI (i := t0_7) hu (by omega); omega
  intro n
  induction n with
  | zero =>
    intro d le d0 d1 hl he
    have := u_9 he (u_nn hl) hL hU
    exact absurd d1 (by clear he; omega)
  | succ n ih =>
    intro d le d0 d1 hl he
    have d9 := u_9 he (u_nn hl) hL hU
    obtain ⟨r1, r2⟩ := R_reach (t0_0 := t0_0) (t0_1 := t0_1) (t0_2 := t0_2) (t0_3 := t0_3) (t0_4 := t0_4) (t0_5 := t0_5) (t0_6 := t0_6) (t0_8 := t0_8) (t0_9 := t0_9) (t0_10 := t0_10) hu h9 hg hl
    rw [S_DR_nextFigure_L42.eq_2, F_DR_nextFigure_L42.eq_2]
    with_reducible refine v_owe r1 ?_
    by_cases c : F_DR_reaches t0_0 t0_1 t0_2 t0_3 t0_4 t0_5 t0_6 t0_7 t0_8 t0_9 t0_10 un le = 0
    · rw [if_pos c, if_pos c]
      refine ⟨trivial, ⟨d0, d9⟩, ⟨⟨by omega, by omega⟩, by rw [eu]; exact hg, by rw [eu]; exact hl, ?_⟩, by rw [eu]; exact he⟩
      show _ < _
      rw [eu]
      rcases r2 with ⟨-, h⟩ | ⟨h, -⟩
      · exact h
      · exact absurd c h
    · rw [if_neg c, if_neg c]
      have hUL : uV un u ≤ uV le (u + 1) := by
        rcases r2 with ⟨h, -⟩ | ⟨-, h⟩
        · exact absurd h c
        · exact h
      obtain ⟨s1, s2, s3⟩ := R_takeA (t0_0 := t0_0) (t0_1 := t0_1) (t0_2 := t0_2) (t0_3 := t0_3) (t0_4 := t0_4) (t0_5 := t0_5) (t0_6 := t0_6) (t0_8 := t0_8) (t0_9 := t0_9) (t0_10 := t0_10) hu h0 h9 hg hl hUL
      with_reducible refine v_owe s1 ?_
      have e1 : (d + 1 : Int32).toInt = d.toInt + 1 := q_addI (y := 1) rfl (by decide) (by clear he s3 hUL r2; omega) (by clear he s3 hUL r2; omega)
      refine ih _ _ (by clear he s3 hUL r2; omega) (by clear he s3 hUL r2; omega) s2 ?_
      show _ = _
      have he : _ = _ := he
      rw [s3, e1, ← he, Int.add_mul, Int.one_mul]
      generalize d.toInt * uV un u = a
      generalize uV un u = b
      generalize uV le (u + 1) = c
      omega
theorem u_nf2 {L : Int} (hu : t0_7.toInt = u) (h0 : 1 ≤ u) (h9 : u ≤ 2199) (hg : gO un u) (hU : wL 0 (uV un u)) (hL : wL L (uV un u)) (hl0 : gO l0 (u + 1)) (hx : 0 ≤ x2.toInt ∧ x2.toInt ≤ 9) (hv : wE (uV l0 (u + 1)) L) : ∀ (n k : Nat) (x : Int32) (le : Nat → Int32), x.toInt = k → k ≤ u → 4100 - k < n → (∀ i, i < k → le i = l0 (i + 1)) → (∀ i, k ≤ i → le i = l0 i) →
    S_DR_nextFigure_L2 x2 t0_0 t0_1 t0_2 t0_3 t0_4 t0_5 t0_6 t0_7 t0_8 t0_9 t0_10 un l0 n x le ∧ uQ t0_7 un (L * 10 + x2.toInt) (F_DR_nextFigure_L2 x2 t0_0 t0_1 t0_2 t0_3 t0_4 t0_5 t0_6 t0_7 t0_8 t0_9 t0_10 un l0 n x le) := by
  have eu : t0_7.toNatClampNeg = u := by have := q_clI (i := t0_7) hu (by omega); omega
  intro n
  induction n with
  | zero => intro k x le hk h1 h2 ha hb; omega
  | succ n ih =>
    intro k x le hk h1 h2 ha hb
    have ex : x.toNatClampNeg = k := by have := q_clI (i := x) hk (by omega); omega
    have e1 : (x + 1 : Int32).toInt = (k : Int) + 1 := q_addI (y := 1) hk (by decide) (by omega) (by omega)
    have ex1 : (x + 1 : Int32).toNatClampNeg = k + 1 := by have := q_clI (i := x + 1) e1 (by omega); omega
    rw [S_DR_nextFigure_L2.eq_2, F_DR_nextFigure_L2.eq_2]
    by_cases c : t0_7 ≤ x
    · rw [if_pos c, if_pos c]
      have c2 := q_leI c
      have : k = u := by omega
      subst this
      refine v_cons (by omega) (v_cons (by omega) ?_)
      have e0 : (0 : Int32).toInt = 0 := rfl
      -- the first figure was 0
      have f0 : (l0 0).toInt = 0 := by
        have h3 := u_tl (f := l0) (n := k)
        have hv : _ = _ := hv
        have hL : _ < _ := hL
        have h4 := u_lt hg
        have h5 : 0 ≤ uV (fun i => l0 (i + 1)) k := u_nn (fun i hi => hl0 (i + 1) (by omega))
        have h6 := (hl0 0 (by omega)).1
        by_cases w : (l0 0).toInt = 0
        · exact w
        · have h7 := Int.mul_le_mul_of_nonneg_right (show 1 ≤ (l0 0).toInt by omega) (Int.le_of_lt (u_pos k))
          rw [Int.one_mul] at h7
          rw [hv] at h3
          generalize (l0 0).toInt * 10 ^ k = a at *
          generalize (10 : Int) ^ k = b at *
          generalize uV (fun i => l0 (i + 1)) k = d at *
          generalize uV un k = e at *
          exact absurd hL (by clear ih; omega)
      have nv : uV (upd le t0_7.toNatClampNeg x2) (k + 1) = L * 10 + x2.toInt := by
        have hv : _ = _ := hv
        show uV (upd le t0_7.toNatClampNeg x2) k * 10 + (upd le t0_7.toNatClampNeg x2 k).toInt = _
        rw [eu, v_eq, u_updge (Nat.le_refl _), u_ext (g := fun i => l0 (i + 1)) (fun i hi => ha i hi), ← hv, u_tl, f0, Int.zero_mul, Int.zero_add]
      refine u_nfL (L := L * 10 + x2.toInt) hu h0 h9 hg hU ?_ 1000000 0 _ (by decide) (by decide) ?_ ?_
      · show _ < _
        have hL : _ < _ := hL
        clear nv hv
        omega
      · rw [eu]
        intro i hi
        by_cases w : i = k
        · rw [w, v_eq]; exact hx
        · rw [v_ne w, ha i (by omega)]; exact hl0 (i + 1) (by omega)
      · show 0 * _ + _ = _
        rw [nv, Int.zero_mul, Int.zero_add]
    · rw [if_neg c, if_neg c]
      have c2 := q_nleI c
      rw [ex, ex1]
      refine v_cons (by omega) ?_
      refine ih (k + 1) (x + 1) _ (by omega) (by omega) (by omega) (fun i hi => ?_) (fun i hi => ?_)
      · by_cases w : i = k
        · rw [w, v_eq]; exact hb (k + 1) (by omega)
        · rw [v_ne w]; exact ha i (by omega)
      · rw [v_ne (by omega)]; exact hb i (by omega)
/-- the next figure of a quotient -/
theorem R_next (h : uW t0_7 un l0) (hU : wL 0 (uV un t0_7.toNatClampNeg)) (hx : 0 ≤ x2.toInt ∧ x2.toInt ≤ 9) : S_DR_nextFigure x2 t0_0 t0_1 t0_2 t0_3 t0_4 t0_5 t0_6 t0_7 t0_8 t0_9 t0_10 un l0 ∧ uQ t0_7 un (uV l0 (t0_7.toNatClampNeg + 1) * 10 + x2.toInt) (F_DR_nextFigure x2 t0_0 t0_1 t0_2 t0_3 t0_4 t0_5 t0_6 t0_7 t0_8 t0_9 t0_10 un l0) := by
  obtain ⟨h1, h2, h3, h4⟩ := h
  have e := q_clI (i := t0_7) rfl (by omega)
  have e0 : (0 : Int32).toInt = 0 := rfl
  unfold S_DR_nextFigure F_DR_nextFigure
  exact u_nf2 (u := t0_7.toNatClampNeg) (L := uV l0 (t0_7.toNatClampNeg + 1)) (by omega) (by omega) (by omega) h2 hU h4 h3 hx rfl _ 0 0 l0 rfl (by omega) (by omega) (fun i hi => by omega) (fun i _ => rfl)
end UE
