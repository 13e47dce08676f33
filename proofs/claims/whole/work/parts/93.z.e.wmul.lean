/-! the reference's rows: products -/
theorem w_mulL35 {N2 : Int32} {N3 : Int32} {N4 : Int32} {t0_0 : Int32} {t0_1 : Int32} {t0_2 : Int32} {t0_3 : Int32} {t0_4 : Int32} {t0_5 : Int32} {t0_6 : Int32} {t1_0 : Nat → Int32} {t2_0 : Nat → Int32} {t3_0 : Nat → Int32} {t4_0 : Nat → Int32} {ma na i : Int32} {p0 : Nat → Int32} {KF : Int32 → (Nat → Int32) → ((Nat → Int32) × (Nat → Int32))} {KS : Int32 → (Nat → Int32) → Prop} {Q : (Nat → Int32) × (Nat → Int32) → Prop} (hi : 0 ≤ i.toInt ∧ i.toInt ≤ 263) (hm : 0 ≤ ma.toInt ∧ ma.toInt ≤ 264) (hb : wO t3_0 ma.toNatClampNeg) (ha : 0 ≤ (t2_0 i.toNatClampNeg).toInt ∧ (t2_0 i.toNatClampNeg).toInt < 65536) {T : Int}
    (hK : ∀ p : Nat → Int32, wO p 528 → (∀ t : Nat, i.toInt + 1 + ma.toInt ≤ t → t < 528 → p t = 0) → wE (wV p 528) T → KS (i + 1) p ∧ Q (KF (i + 1) p)) :
    ∀ (n : Nat) (j : Int32) (c : Int64) (p : Nat → Int32), 0 ≤ j.toInt → j.toInt ≤ ma.toInt + 1 → ma.toInt + 1 - j.toInt < n → 0 ≤ c.toInt → c.toInt ≤ 65535 → (j.toInt = ma.toInt + 1 → c.toInt = 0) → wO p 528 → (∀ t : Nat, i.toInt + ma.toInt ≤ t → i.toInt + j.toInt ≤ t → t < 528 → p t = 0) →
      wE (wV p 528 + c.toInt * 65536 ^ (i.toNatClampNeg + j.toNatClampNeg) + (t2_0 i.toNatClampNeg).toInt * (65536 ^ i.toNatClampNeg * wT t3_0 ma.toNatClampNeg j.toNatClampNeg)) T →
      S_WR_multiplyRows_L35 KS N2 N3 N4 t0_0 t0_1 t0_2 t0_3 t0_4 t0_5 t0_6 t1_0 t2_0 t3_0 t4_0 ma na i p0 n j c p ∧ Q (F_WR_multiplyRows_L35 KF N2 N3 N4 t0_0 t0_1 t0_2 t0_3 t0_4 t0_5 t0_6 t1_0 t2_0 t3_0 t4_0 ma na i p0 n j c p) := by
  intro n
  induction n with
  | zero => intro j c p j0 j1 j2 c0 c1 c2 ho hz hT; omega
  | succ n ih =>
    intro j c p j0 j1 j2 c0 c1 c2 ho hz hT
    have ei := q_clI (i := i) rfl hi.1
    have ej := q_clI (i := j) rfl j0
    have em := q_clI (i := ma) rfl hm.1
    have eij : (i + j : Int32).toInt = i.toInt + j.toInt := q_addI rfl rfl (by omega) (by omega)
    have eijn := q_clI (i := i + j) eij (by omega)
    have enn : (i + j : Int32).toNatClampNeg = i.toNatClampNeg + j.toNatClampNeg := by omega
    have e1 : (j + 1 : Int32).toInt = j.toInt + 1 := q_addI (y := 1) rfl (by decide) (by omega) (by omega)
    have ej1 := q_clI (i := j + 1) e1 (by omega)
    have ejj : (j + 1 : Int32).toNatClampNeg = j.toNatClampNeg + 1 := by omega
    rw [S_WR_multiplyRows_L35.eq_2, F_WR_multiplyRows_L35.eq_2]
    have go : ∀ (x : Int64) (X : Int), j.toInt ≤ ma.toInt → x.toInt = X → 0 ≤ X → X ≤ 65535 * 65535 → (j.toInt = ma.toInt → X = 0) → wE ((t2_0 i.toNatClampNeg).toInt * (65536 ^ i.toNatClampNeg * wT t3_0 ma.toNatClampNeg j.toNatClampNeg)) (X * 65536 ^ (i.toNatClampNeg + j.toNatClampNeg) + (t2_0 i.toNatClampNeg).toInt * (65536 ^ i.toNatClampNeg * wT t3_0 ma.toNatClampNeg (j.toNatClampNeg + 1))) →
        S_WR_multiplyRows_J85 KS (S_WR_multiplyRows_L35 KS N2 N3 N4 t0_0 t0_1 t0_2 t0_3 t0_4 t0_5 t0_6 t1_0 t2_0 t3_0 t4_0 ma na i p0 n) N2 N3 N4 t0_0 t0_1 t0_2 t0_3 t0_4 t0_5 t0_6 t1_0 t2_0 t3_0 t4_0 ma na i p0 j c p (c + ((p (i + j : Int32).toNatClampNeg).toInt64)) x ∧ Q (F_WR_multiplyRows_J85 KF (F_WR_multiplyRows_L35 KF N2 N3 N4 t0_0 t0_1 t0_2 t0_3 t0_4 t0_5 t0_6 t1_0 t2_0 t3_0 t4_0 ma na i p0 n) N2 N3 N4 t0_0 t0_1 t0_2 t0_3 t0_4 t0_5 t0_6 t1_0 t2_0 t3_0 t4_0 ma na i p0 j c p (c + ((p (i + j : Int32).toNatClampNeg).toInt64)) x) := by
      intro x X hj hx x0 x1 x2 hX
      unfold S_WR_multiplyRows_J85 F_WR_multiplyRows_J85
      have lt28 : i.toNatClampNeg + j.toNatClampNeg < 528 := by omega
      rw [enn]
      obtain ⟨a, ea⟩ := q_nm (p (i.toNatClampNeg + j.toNatClampNeg))
      have ha : 0 ≤ a.toInt ∧ a.toInt < 65536 := by rw [← ea]; exact ho _ (by omega)
      have az : j.toInt = ma.toInt → a.toInt = 0 := fun h => by rw [← ea, hz _ (by omega) (by omega) (by omega)]; rfl
      rw [ea]
      have u1 : (c + a.toInt64 : Int64).toInt = c.toInt + a.toInt := q_addL rfl (q_i2l rfl) (by omega) (by omega)
      have u2 : (c + a.toInt64 + x : Int64).toInt = c.toInt + a.toInt + X := q_addL u1 hx (by omega) (by omega)
      generalize (c + a.toInt64 + x : Int64) = w at u2 ⊢
      have w1 := w_and' (x := w)
      have w2 := w_shr (x := w)
      rw [u2] at w1 w2
      generalize ((w &&& 65535).toInt32 : Int32) = m at w1 ⊢
      generalize (w >>> ((16 : Int32).toInt64 &&& 63) : Int64) = c' at w2 ⊢
      have m1 : 0 ≤ m.toInt ∧ m.toInt < 65536 := by rw [w1]; exact ⟨Int.emod_nonneg _ (by decide), Int.emod_lt_of_pos _ (by decide)⟩
      have m2 : m.toInt + 65536 * c'.toInt = c.toInt + a.toInt + X := by rw [w1, w2]; exact Int.emod_add_mul_ediv _ _
      refine ih (j + 1) c' (upd p (i.toNatClampNeg + j.toNatClampNeg) m) (by omega) (by omega) (by omega) (by omega) (by omega) (fun h => ?_) (wO_upd ho m1) (fun t t1 t2 t3 => ?_) ?_
      · have := az (by omega)
        have := x2 (by omega)
        omega
      · rw [v_ne (by omega)]
        exact hz t t1 (by omega) t3
      · have hT : _ = _ := hT
        have hX : _ = _ := hX
        show _ = _
        rw [← hT, hX, ejj, w_upd lt28, ea]
        show _ + c'.toInt * 65536 ^ (i.toNatClampNeg + j.toNatClampNeg + 1) + _ = _
        rw [w_pw]
        exact w_joinId m2
    have goJ : j.toInt ≤ ma.toInt → S_WR_multiplyRows_J49 KS (S_WR_multiplyRows_L35 KS N2 N3 N4 t0_0 t0_1 t0_2 t0_3 t0_4 t0_5 t0_6 t1_0 t2_0 t3_0 t4_0 ma na i p0 n) N2 N3 N4 t0_0 t0_1 t0_2 t0_3 t0_4 t0_5 t0_6 t1_0 t2_0 t3_0 t4_0 ma na i p0 j c p ∧ Q (F_WR_multiplyRows_J49 KF (F_WR_multiplyRows_L35 KF N2 N3 N4 t0_0 t0_1 t0_2 t0_3 t0_4 t0_5 t0_6 t1_0 t2_0 t3_0 t4_0 ma na i p0 n) N2 N3 N4 t0_0 t0_1 t0_2 t0_3 t0_4 t0_5 t0_6 t1_0 t2_0 t3_0 t4_0 ma na i p0 j c p) := by
      intro hj
      unfold S_WR_multiplyRows_J49 F_WR_multiplyRows_J49
      refine v_cons (by omega) ?_
      by_cases d : ma ≤ j
      · rw [if_pos d, if_pos d]
        have d2 := q_leI d
        refine go 0 0 hj rfl (by omega) (by omega) (fun _ => rfl) ?_
        show _ = _
        rw [wT_0 (by omega), wT_0 (by omega), Int.mul_zero, Int.mul_zero, Int.zero_mul, Int.add_zero]
      · rw [if_neg d, if_neg d]
        have d2 := q_nleI d
        have ejm : j.toNatClampNeg < ma.toNatClampNeg := by omega
        obtain ⟨b, eb⟩ := q_nm (t3_0 j.toNatClampNeg)
        have hbj : 0 ≤ b.toInt ∧ b.toInt < 65536 := by rw [← eb]; exact hb _ (by omega)
        rw [eb]
        obtain ⟨a, ea⟩ := q_nm (t2_0 i.toNatClampNeg)
        rw [ea] at ha go ⊢
        have n1 : 0 ≤ a.toInt * b.toInt := Int.mul_nonneg ha.1 hbj.1
        have n2 : a.toInt * b.toInt ≤ 65535 * 65535 := Int.mul_le_mul (by omega) (by omega) hbj.1 (by decide)
        refine go (a.toInt64 * b.toInt64) (a.toInt * b.toInt) hj (q_mulL (q_i2l rfl) (q_i2l rfl) (by omega) (by omega)) n1 n2 (fun h => by omega) ?_
        show _ = _
        rw [wT_s ejm, eb, Int.pow_add]
        simp only [Int.mul_add, Int.mul_assoc, Int.mul_comm, Int.mul_left_comm]
    by_cases d : j < ma
    · rw [if_pos d, if_pos d]
      have d2 := q_ltI d
      exact goJ (by omega)
    · rw [if_neg d, if_neg d]
      have d2 := q_nltI d
      by_cases z : lg_cmp c 0 = 0
      · rw [if_pos z, if_pos z]
        have z2 : c.toInt = 0 := v_cmp0 z
        refine hK p ho (fun t t1 t2 => hz t (by omega) (by omega) t2) ?_
        have hT : _ = _ := hT
        show _ = _
        rw [← hT, z2, wT_0 (by omega), Int.mul_zero, Int.mul_zero, Int.zero_mul]
        simp only [Int.add_zero]
      · rw [if_neg z, if_neg z]
        have z2 : c.toInt ≠ 0 := q_k10 z
        refine goJ ?_
        by_cases e : j.toInt = ma.toInt + 1
        · exact absurd (c2 e) z2
        · omega
def wM (N : Int32) (v : Int) (r : (Nat → Int32) × (Nat → Int32)) : Prop := wO r.1 528 ∧ wE (wV r.1 528) v ∧ ∀ i : Nat, (i : Int) < N.toInt → r.2 i = if (i : Int) < 528 then r.1 i else 0
theorem w_mulL22 {N2 : Int32} {N3 : Int32} {N4 : Int32} {t0_0 : Int32} {t0_1 : Int32} {t0_2 : Int32} {t0_3 : Int32} {t0_4 : Int32} {t0_5 : Int32} {t0_6 : Int32} {t1_0 : Nat → Int32} {t2_0 : Nat → Int32} {t3_0 : Nat → Int32} {t4_0 : Nat → Int32} {ma na : Int32} (hto : 0 ≤ N4.toInt ∧ N4.toInt ≤ 264) (hm : 0 ≤ ma.toInt ∧ ma.toInt ≤ 264) (hn : 0 ≤ na.toInt ∧ na.toInt ≤ 264) (hb : wO t3_0 ma.toNatClampNeg) (ha : wO t2_0 na.toNatClampNeg) :
    ∀ (n : Nat) (i : Int32) (p : Nat → Int32), 0 ≤ i.toInt → i.toInt ≤ na.toInt → na.toInt - i.toInt < n → wO p 528 → (∀ t : Nat, i.toInt + ma.toInt ≤ t → t < 528 → p t = 0) → wE (wV p 528) (wV t2_0 i.toNatClampNeg * wV t3_0 ma.toNatClampNeg) →
      S_WR_multiplyRows_L22 N2 N3 N4 t0_0 t0_1 t0_2 t0_3 t0_4 t0_5 t0_6 t1_0 t2_0 t3_0 t4_0 ma na n i p ∧ wM N4 (wV t2_0 na.toNatClampNeg * wV t3_0 ma.toNatClampNeg) (F_WR_multiplyRows_L22 N2 N3 N4 t0_0 t0_1 t0_2 t0_3 t0_4 t0_5 t0_6 t1_0 t2_0 t3_0 t4_0 ma na n i p) := by
  intro n
  induction n with
  | zero => intro i p i0 i1 i2 ho hz hT; omega
  | succ n ih =>
    intro i p i0 i1 i2 ho hz hT
    have e0 : (0 : Int32).toInt = 0 := rfl
    have ei := q_clI (i := i) rfl i0
    have en := q_clI (i := na) rfl hn.1
    rw [S_WR_multiplyRows_L22.eq_2, F_WR_multiplyRows_L22.eq_2]
    by_cases d : na ≤ i
    · rw [if_pos d, if_pos d]
      have d2 := q_leI d
      have e1 : i.toNatClampNeg = na.toNatClampNeg := by omega
      rw [e1] at hT
      exact ⟨trivial, ho, hT, R_copy (N1 := 528) hto.1 (by omega)⟩
    · rw [if_neg d, if_neg d]
      have d2 := q_nleI d
      have e1 : (i + 1 : Int32).toInt = i.toInt + 1 := q_addI (y := 1) rfl (by decide) (by omega) (by omega)
      have ei1 := q_clI (i := i + 1) e1 (by omega)
      have eii : (i + 1 : Int32).toNatClampNeg = i.toNatClampNeg + 1 := by omega
      refine w_mulL35 (by omega) hm hb (ha _ (by omega)) (T := wV t2_0 (i.toNatClampNeg + 1) * wV t3_0 ma.toNatClampNeg) (fun p' q1 q2 q3 => ih (i + 1) p' (by omega) (by omega) (by omega) q1 (fun t t1 t2 => q2 t (by omega) t2) (by rw [eii]; exact q3)) ((2100 - (0 : Int32).toInt).toNat + 1) 0 0 p (by decide) (by omega) (by omega) (by decide) (by decide) (fun _ => rfl) ho (fun t t1 t2 t3 => hz t (by omega) t3) ?_
      have hT : _ = _ := hT
      show _ + 0 * _ + _ * (_ * wT t3_0 ma.toNatClampNeg 0) = (wV t2_0 i.toNatClampNeg + (t2_0 i.toNatClampNeg).toInt * 65536 ^ i.toNatClampNeg) * _
      rw [hT, wT_a, Int.add_mul, Int.zero_mul, Int.mul_assoc, Int.add_zero]
theorem R_mul {N2 : Int32} {N3 : Int32} {N4 : Int32} {t0_0 : Int32} {t0_1 : Int32} {t0_2 : Int32} {t0_3 : Int32} {t0_4 : Int32} {t0_5 : Int32} {t0_6 : Int32} {t1_0 : Nat → Int32} {t2_0 : Nat → Int32} {t3_0 : Nat → Int32} {t4_0 : Nat → Int32} (hto : 0 ≤ N4.toInt ∧ N4.toInt ≤ 264) (h2 : 0 ≤ N2.toInt ∧ N2.toInt ≤ 264) (h3 : 0 ≤ N3.toInt ∧ N3.toInt ≤ 264) (oA : wO t2_0 N2.toNatClampNeg) (oB : wO t3_0 N3.toNatClampNeg) : S_WR_multiplyRows N2 N3 N4 t0_0 t0_1 t0_2 t0_3 t0_4 t0_5 t0_6 t1_0 t2_0 t3_0 t4_0 ∧ wM N4 (wV t2_0 N2.toNatClampNeg * wV t3_0 N3.toNatClampNeg) (F_WR_multiplyRows N2 N3 N4 t0_0 t0_1 t0_2 t0_3 t0_4 t0_5 t0_6 t1_0 t2_0 t3_0 t4_0) := by
  have e0 : (0 : Int32).toInt = 0 := rfl
  have sA := R_size (N := N2) (f := t2_0) h2.1
  have sB := R_size (N := N3) (f := t3_0) h3.1
  have cl := R_clear (N := 528) (f := t1_0) (by decide) (by decide)
  have e528 : (528 : Int32).toInt = 528 := rfl
  unfold S_WR_multiplyRows F_WR_multiplyRows
  rw [sA.val, sB.val]
  generalize F_WR_size N2 t2_0 = zzA at sA ⊢
  generalize F_WR_size N3 t3_0 = zzB at sB ⊢
  generalize F_WR_clear 528 t1_0 = p at cl ⊢
  have zA := sA.2.1
  have zB := sB.2.1
  have nA := q_clI (i := zzA) rfl sA.1
  have nB := q_clI (i := zzB) rfl sB.1
  have mA := q_clI (i := N2) rfl h2.1
  have mB := q_clI (i := N3) rfl h3.1
  refine w_mulL22 hto ⟨sB.1, by omega⟩ ⟨sA.1, by omega⟩ (oB.mono (by omega)) (oA.mono (by omega)) ((20200 - (0 : Int32).toInt).toNat + 1) 0 p (by decide) (by omega) (by omega) (fun t ht => ?_) (fun t _ t2 => cl t (by omega)) ?_
  · rw [cl t (by omega)]; decide
  · show _ = _
    rw [w_zer (k := 0) (n := 528) (by omega) (fun i _ h => cl i (by omega))]
    show 0 = 0 * _
    rw [Int.zero_mul]

theorem w_mulL35_a {N2 : Int32} {N3 : Int32} {t0_0 : Int32} {t0_1 : Int32} {t0_2 : Int32} {t0_3 : Int32} {t0_4 : Int32} {t0_5 : Int32} {t0_6 : Int32} {t1_0 : Nat → Int32} {t2_0 : Nat → Int32} {t3_0 : Nat → Int32} {ma na i : Int32} {p0 : Nat → Int32} {KF : Int32 → (Nat → Int32) → ((Nat → Int32) × (Nat → Int32))} {KS : Int32 → (Nat → Int32) → Prop} {Q : (Nat → Int32) × (Nat → Int32) → Prop} (hi : 0 ≤ i.toInt ∧ i.toInt ≤ 263) (hm : 0 ≤ ma.toInt ∧ ma.toInt ≤ 264) (hb : wO t3_0 ma.toNatClampNeg) (ha : 0 ≤ (t2_0 i.toNatClampNeg).toInt ∧ (t2_0 i.toNatClampNeg).toInt < 65536) {T : Int}
    (hK : ∀ p : Nat → Int32, wO p 528 → (∀ t : Nat, i.toInt + 1 + ma.toInt ≤ t → t < 528 → p t = 0) → wE (wV p 528) T → KS (i + 1) p ∧ Q (KF (i + 1) p)) :
    ∀ (n : Nat) (j : Int32) (c : Int64) (p : Nat → Int32), 0 ≤ j.toInt → j.toInt ≤ ma.toInt + 1 → ma.toInt + 1 - j.toInt < n → 0 ≤ c.toInt → c.toInt ≤ 65535 → (j.toInt = ma.toInt + 1 → c.toInt = 0) → wO p 528 → (∀ t : Nat, i.toInt + ma.toInt ≤ t → i.toInt + j.toInt ≤ t → t < 528 → p t = 0) →
      wE (wV p 528 + c.toInt * 65536 ^ (i.toNatClampNeg + j.toNatClampNeg) + (t2_0 i.toNatClampNeg).toInt * (65536 ^ i.toNatClampNeg * wT t3_0 ma.toNatClampNeg j.toNatClampNeg)) T →
      S_WR_multiplyRows_a_L35 KS N2 N3 t0_0 t0_1 t0_2 t0_3 t0_4 t0_5 t0_6 t1_0 t2_0 t3_0 ma na i p0 n j c p ∧ Q (F_WR_multiplyRows_a_L35 KF N2 N3 t0_0 t0_1 t0_2 t0_3 t0_4 t0_5 t0_6 t1_0 t2_0 t3_0 ma na i p0 n j c p) := by
  intro n
  induction n with
  | zero => intro j c p j0 j1 j2 c0 c1 c2 ho hz hT; omega
  | succ n ih =>
    intro j c p j0 j1 j2 c0 c1 c2 ho hz hT
    have ei := q_clI (i := i) rfl hi.1
    have ej := q_clI (i := j) rfl j0
    have em := q_clI (i := ma) rfl hm.1
    have eij : (i + j : Int32).toInt = i.toInt + j.toInt := q_addI rfl rfl (by omega) (by omega)
    have eijn := q_clI (i := i + j) eij (by omega)
    have enn : (i + j : Int32).toNatClampNeg = i.toNatClampNeg + j.toNatClampNeg := by omega
    have e1 : (j + 1 : Int32).toInt = j.toInt + 1 := q_addI (y := 1) rfl (by decide) (by omega) (by omega)
    have ej1 := q_clI (i := j + 1) e1 (by omega)
    have ejj : (j + 1 : Int32).toNatClampNeg = j.toNatClampNeg + 1 := by omega
    rw [S_WR_multiplyRows_a_L35.eq_2, F_WR_multiplyRows_a_L35.eq_2]
    have go : ∀ (x : Int64) (X : Int), j.toInt ≤ ma.toInt → x.toInt = X → 0 ≤ X → X ≤ 65535 * 65535 → (j.toInt = ma.toInt → X = 0) → wE ((t2_0 i.toNatClampNeg).toInt * (65536 ^ i.toNatClampNeg * wT t3_0 ma.toNatClampNeg j.toNatClampNeg)) (X * 65536 ^ (i.toNatClampNeg + j.toNatClampNeg) + (t2_0 i.toNatClampNeg).toInt * (65536 ^ i.toNatClampNeg * wT t3_0 ma.toNatClampNeg (j.toNatClampNeg + 1))) →
        S_WR_multiplyRows_a_J85 KS (S_WR_multiplyRows_a_L35 KS N2 N3 t0_0 t0_1 t0_2 t0_3 t0_4 t0_5 t0_6 t1_0 t2_0 t3_0 ma na i p0 n) N2 N3 t0_0 t0_1 t0_2 t0_3 t0_4 t0_5 t0_6 t1_0 t2_0 t3_0 ma na i p0 j c p (c + ((p (i + j : Int32).toNatClampNeg).toInt64)) x ∧ Q (F_WR_multiplyRows_a_J85 KF (F_WR_multiplyRows_a_L35 KF N2 N3 t0_0 t0_1 t0_2 t0_3 t0_4 t0_5 t0_6 t1_0 t2_0 t3_0 ma na i p0 n) N2 N3 t0_0 t0_1 t0_2 t0_3 t0_4 t0_5 t0_6 t1_0 t2_0 t3_0 ma na i p0 j c p (c + ((p (i + j : Int32).toNatClampNeg).toInt64)) x) := by
      intro x X hj hx x0 x1 x2 hX
      unfold S_WR_multiplyRows_a_J85 F_WR_multiplyRows_a_J85
      have lt28 : i.toNatClampNeg + j.toNatClampNeg < 528 := by omega
      rw [enn]
      obtain ⟨a, ea⟩ := q_nm (p (i.toNatClampNeg + j.toNatClampNeg))
      have ha : 0 ≤ a.toInt ∧ a.toInt < 65536 := by rw [← ea]; exact ho _ (by omega)
      have az : j.toInt = ma.toInt → a.toInt = 0 := fun h => by rw [← ea, hz _ (by omega) (by omega) (by omega)]; rfl
      rw [ea]
      have u1 : (c + a.toInt64 : Int64).toInt = c.toInt + a.toInt := q_addL rfl (q_i2l rfl) (by omega) (by omega)
      have u2 : (c + a.toInt64 + x : Int64).toInt = c.toInt + a.toInt + X := q_addL u1 hx (by omega) (by omega)
      generalize (c + a.toInt64 + x : Int64) = w at u2 ⊢
      have w1 := w_and' (x := w)
      have w2 := w_shr (x := w)
      rw [u2] at w1 w2
      generalize ((w &&& 65535).toInt32 : Int32) = m at w1 ⊢
      generalize (w >>> ((16 : Int32).toInt64 &&& 63) : Int64) = c' at w2 ⊢
      have m1 : 0 ≤ m.toInt ∧ m.toInt < 65536 := by rw [w1]; exact ⟨Int.emod_nonneg _ (by decide), Int.emod_lt_of_pos _ (by decide)⟩
      have m2 : m.toInt + 65536 * c'.toInt = c.toInt + a.toInt + X := by rw [w1, w2]; exact Int.emod_add_mul_ediv _ _
      refine ih (j + 1) c' (upd p (i.toNatClampNeg + j.toNatClampNeg) m) (by omega) (by omega) (by omega) (by omega) (by omega) (fun h => ?_) (wO_upd ho m1) (fun t t1 t2 t3 => ?_) ?_
      · have := az (by omega)
        have := x2 (by omega)
        omega
      · rw [v_ne (by omega)]
        exact hz t t1 (by omega) t3
      · have hT : _ = _ := hT
        have hX : _ = _ := hX
        show _ = _
        rw [← hT, hX, ejj, w_upd lt28, ea]
        show _ + c'.toInt * 65536 ^ (i.toNatClampNeg + j.toNatClampNeg + 1) + _ = _
        rw [w_pw]
        exact w_joinId m2
    have goJ : j.toInt ≤ ma.toInt → S_WR_multiplyRows_a_J49 KS (S_WR_multiplyRows_a_L35 KS N2 N3 t0_0 t0_1 t0_2 t0_3 t0_4 t0_5 t0_6 t1_0 t2_0 t3_0 ma na i p0 n) N2 N3 t0_0 t0_1 t0_2 t0_3 t0_4 t0_5 t0_6 t1_0 t2_0 t3_0 ma na i p0 j c p ∧ Q (F_WR_multiplyRows_a_J49 KF (F_WR_multiplyRows_a_L35 KF N2 N3 t0_0 t0_1 t0_2 t0_3 t0_4 t0_5 t0_6 t1_0 t2_0 t3_0 ma na i p0 n) N2 N3 t0_0 t0_1 t0_2 t0_3 t0_4 t0_5 t0_6 t1_0 t2_0 t3_0 ma na i p0 j c p) := by
      intro hj
      unfold S_WR_multiplyRows_a_J49 F_WR_multiplyRows_a_J49
      refine v_cons (by omega) ?_
      by_cases d : ma ≤ j
      · rw [if_pos d, if_pos d]
        have d2 := q_leI d
        refine go 0 0 hj rfl (by omega) (by omega) (fun _ => rfl) ?_
        show _ = _
        rw [wT_0 (by omega), wT_0 (by omega), Int.mul_zero, Int.mul_zero, Int.zero_mul, Int.add_zero]
      · rw [if_neg d, if_neg d]
        have d2 := q_nleI d
        have ejm : j.toNatClampNeg < ma.toNatClampNeg := by omega
        obtain ⟨b, eb⟩ := q_nm (t3_0 j.toNatClampNeg)
        have hbj : 0 ≤ b.toInt ∧ b.toInt < 65536 := by rw [← eb]; exact hb _ (by omega)
        rw [eb]
        obtain ⟨a, ea⟩ := q_nm (t2_0 i.toNatClampNeg)
        rw [ea] at ha go ⊢
        have n1 : 0 ≤ a.toInt * b.toInt := Int.mul_nonneg ha.1 hbj.1
        have n2 : a.toInt * b.toInt ≤ 65535 * 65535 := Int.mul_le_mul (by omega) (by omega) hbj.1 (by decide)
        refine go (a.toInt64 * b.toInt64) (a.toInt * b.toInt) hj (q_mulL (q_i2l rfl) (q_i2l rfl) (by omega) (by omega)) n1 n2 (fun h => by omega) ?_
        show _ = _
        rw [wT_s ejm, eb, Int.pow_add]
        simp only [Int.mul_add, Int.mul_assoc, Int.mul_comm, Int.mul_left_comm]
    by_cases d : j < ma
    · rw [if_pos d, if_pos d]
      have d2 := q_ltI d
      exact goJ (by omega)
    · rw [if_neg d, if_neg d]
      have d2 := q_nltI d
      by_cases z : lg_cmp c 0 = 0
      · rw [if_pos z, if_pos z]
        have z2 : c.toInt = 0 := v_cmp0 z
        refine hK p ho (fun t t1 t2 => hz t (by omega) (by omega) t2) ?_
        have hT : _ = _ := hT
        show _ = _
        rw [← hT, z2, wT_0 (by omega), Int.mul_zero, Int.mul_zero, Int.zero_mul]
        simp only [Int.add_zero]
      · rw [if_neg z, if_neg z]
        have z2 : c.toInt ≠ 0 := q_k10 z
        refine goJ ?_
        by_cases e : j.toInt = ma.toInt + 1
        · exact absurd (c2 e) z2
        · omega
def wM_a (N : Int32) (v : Int) (r : (Nat → Int32) × (Nat → Int32)) : Prop := wO r.1 528 ∧ wE (wV r.1 528) v ∧ ∀ i : Nat, (i : Int) < N.toInt → r.2 i = if (i : Int) < 528 then r.1 i else 0
theorem w_mulL22_a {N2 : Int32} {N3 : Int32} {t0_0 : Int32} {t0_1 : Int32} {t0_2 : Int32} {t0_3 : Int32} {t0_4 : Int32} {t0_5 : Int32} {t0_6 : Int32} {t1_0 : Nat → Int32} {t2_0 : Nat → Int32} {t3_0 : Nat → Int32} {ma na : Int32} (hto : 0 ≤ N2.toInt ∧ N2.toInt ≤ 264) (hm : 0 ≤ ma.toInt ∧ ma.toInt ≤ 264) (hn : 0 ≤ na.toInt ∧ na.toInt ≤ 264) (hb : wO t3_0 ma.toNatClampNeg) (ha : wO t2_0 na.toNatClampNeg) :
    ∀ (n : Nat) (i : Int32) (p : Nat → Int32), 0 ≤ i.toInt → i.toInt ≤ na.toInt → na.toInt - i.toInt < n → wO p 528 → (∀ t : Nat, i.toInt + ma.toInt ≤ t → t < 528 → p t = 0) → wE (wV p 528) (wV t2_0 i.toNatClampNeg * wV t3_0 ma.toNatClampNeg) →
      S_WR_multiplyRows_a_L22 N2 N3 t0_0 t0_1 t0_2 t0_3 t0_4 t0_5 t0_6 t1_0 t2_0 t3_0 ma na n i p ∧ wM_a N2 (wV t2_0 na.toNatClampNeg * wV t3_0 ma.toNatClampNeg) (F_WR_multiplyRows_a_L22 N2 N3 t0_0 t0_1 t0_2 t0_3 t0_4 t0_5 t0_6 t1_0 t2_0 t3_0 ma na n i p) := by
  intro n
  induction n with
  | zero => intro i p i0 i1 i2 ho hz hT; omega
  | succ n ih =>
    intro i p i0 i1 i2 ho hz hT
    have e0 : (0 : Int32).toInt = 0 := rfl
    have ei := q_clI (i := i) rfl i0
    have en := q_clI (i := na) rfl hn.1
    rw [S_WR_multiplyRows_a_L22.eq_2, F_WR_multiplyRows_a_L22.eq_2]
    by_cases d : na ≤ i
    · rw [if_pos d, if_pos d]
      have d2 := q_leI d
      have e1 : i.toNatClampNeg = na.toNatClampNeg := by omega
      rw [e1] at hT
      exact ⟨trivial, ho, hT, R_copy (N1 := 528) hto.1 (by omega)⟩
    · rw [if_neg d, if_neg d]
      have d2 := q_nleI d
      have e1 : (i + 1 : Int32).toInt = i.toInt + 1 := q_addI (y := 1) rfl (by decide) (by omega) (by omega)
      have ei1 := q_clI (i := i + 1) e1 (by omega)
      have eii : (i + 1 : Int32).toNatClampNeg = i.toNatClampNeg + 1 := by omega
      refine w_mulL35_a (by omega) hm hb (ha _ (by omega)) (T := wV t2_0 (i.toNatClampNeg + 1) * wV t3_0 ma.toNatClampNeg) (fun p' q1 q2 q3 => ih (i + 1) p' (by omega) (by omega) (by omega) q1 (fun t t1 t2 => q2 t (by omega) t2) (by rw [eii]; exact q3)) ((2100 - (0 : Int32).toInt).toNat + 1) 0 0 p (by decide) (by omega) (by omega) (by decide) (by decide) (fun _ => rfl) ho (fun t t1 t2 t3 => hz t (by omega) t3) ?_
      have hT : _ = _ := hT
      show _ + 0 * _ + _ * (_ * wT t3_0 ma.toNatClampNeg 0) = (wV t2_0 i.toNatClampNeg + (t2_0 i.toNatClampNeg).toInt * 65536 ^ i.toNatClampNeg) * _
      rw [hT, wT_a, Int.add_mul, Int.zero_mul, Int.mul_assoc, Int.add_zero]
theorem R_mul_a {N2 : Int32} {N3 : Int32} {t0_0 : Int32} {t0_1 : Int32} {t0_2 : Int32} {t0_3 : Int32} {t0_4 : Int32} {t0_5 : Int32} {t0_6 : Int32} {t1_0 : Nat → Int32} {t2_0 : Nat → Int32} {t3_0 : Nat → Int32} (hto : 0 ≤ N2.toInt ∧ N2.toInt ≤ 264) (h2 : 0 ≤ N2.toInt ∧ N2.toInt ≤ 264) (h3 : 0 ≤ N3.toInt ∧ N3.toInt ≤ 264) (oA : wO t2_0 N2.toNatClampNeg) (oB : wO t3_0 N3.toNatClampNeg) : S_WR_multiplyRows_a N2 N3 t0_0 t0_1 t0_2 t0_3 t0_4 t0_5 t0_6 t1_0 t2_0 t3_0 ∧ wM_a N2 (wV t2_0 N2.toNatClampNeg * wV t3_0 N3.toNatClampNeg) (F_WR_multiplyRows_a N2 N3 t0_0 t0_1 t0_2 t0_3 t0_4 t0_5 t0_6 t1_0 t2_0 t3_0) := by
  have e0 : (0 : Int32).toInt = 0 := rfl
  have sA := R_size (N := N2) (f := t2_0) h2.1
  have sB := R_size (N := N3) (f := t3_0) h3.1
  have cl := R_clear (N := 528) (f := t1_0) (by decide) (by decide)
  have e528 : (528 : Int32).toInt = 528 := rfl
  unfold S_WR_multiplyRows_a F_WR_multiplyRows_a
  rw [sA.val, sB.val]
  generalize F_WR_size N2 t2_0 = zzA at sA ⊢
  generalize F_WR_size N3 t3_0 = zzB at sB ⊢
  generalize F_WR_clear 528 t1_0 = p at cl ⊢
  have zA := sA.2.1
  have zB := sB.2.1
  have nA := q_clI (i := zzA) rfl sA.1
  have nB := q_clI (i := zzB) rfl sB.1
  have mA := q_clI (i := N2) rfl h2.1
  have mB := q_clI (i := N3) rfl h3.1
  refine w_mulL22_a hto ⟨sB.1, by omega⟩ ⟨sA.1, by omega⟩ (oB.mono (by omega)) (oA.mono (by omega)) ((20200 - (0 : Int32).toInt).toNat + 1) 0 p (by decide) (by omega) (by omega) (fun t ht => ?_) (fun t _ t2 => cl t (by omega)) ?_
  · rw [cl t (by omega)]; decide
  · show _ = _
    rw [w_zer (k := 0) (n := 528) (by omega) (fun i _ h => cl i (by omega))]
    show 0 = 0 * _
    rw [Int.zero_mul]

theorem w_mulL35_b {N2 : Int32} {N4 : Int32} {t0_0 : Int32} {t0_1 : Int32} {t0_2 : Int32} {t0_3 : Int32} {t0_4 : Int32} {t0_5 : Int32} {t0_6 : Int32} {t1_0 : Nat → Int32} {t2_0 : Nat → Int32} {t3_0 : Nat → Int32} {ma na i : Int32} {p0 : Nat → Int32} {KF : Int32 → (Nat → Int32) → ((Nat → Int32) × (Nat → Int32))} {KS : Int32 → (Nat → Int32) → Prop} {Q : (Nat → Int32) × (Nat → Int32) → Prop} (hi : 0 ≤ i.toInt ∧ i.toInt ≤ 263) (hm : 0 ≤ ma.toInt ∧ ma.toInt ≤ 264) (hb : wO t2_0 ma.toNatClampNeg) (ha : 0 ≤ (t2_0 i.toNatClampNeg).toInt ∧ (t2_0 i.toNatClampNeg).toInt < 65536) {T : Int}
    (hK : ∀ p : Nat → Int32, wO p 528 → (∀ t : Nat, i.toInt + 1 + ma.toInt ≤ t → t < 528 → p t = 0) → wE (wV p 528) T → KS (i + 1) p ∧ Q (KF (i + 1) p)) :
    ∀ (n : Nat) (j : Int32) (c : Int64) (p : Nat → Int32), 0 ≤ j.toInt → j.toInt ≤ ma.toInt + 1 → ma.toInt + 1 - j.toInt < n → 0 ≤ c.toInt → c.toInt ≤ 65535 → (j.toInt = ma.toInt + 1 → c.toInt = 0) → wO p 528 → (∀ t : Nat, i.toInt + ma.toInt ≤ t → i.toInt + j.toInt ≤ t → t < 528 → p t = 0) →
      wE (wV p 528 + c.toInt * 65536 ^ (i.toNatClampNeg + j.toNatClampNeg) + (t2_0 i.toNatClampNeg).toInt * (65536 ^ i.toNatClampNeg * wT t2_0 ma.toNatClampNeg j.toNatClampNeg)) T →
      S_WR_multiplyRows_b_L35 KS N2 N4 t0_0 t0_1 t0_2 t0_3 t0_4 t0_5 t0_6 t1_0 t2_0 t3_0 ma na i p0 n j c p ∧ Q (F_WR_multiplyRows_b_L35 KF N2 N4 t0_0 t0_1 t0_2 t0_3 t0_4 t0_5 t0_6 t1_0 t2_0 t3_0 ma na i p0 n j c p) := by
  intro n
  induction n with
  | zero => intro j c p j0 j1 j2 c0 c1 c2 ho hz hT; omega
  | succ n ih =>
    intro j c p j0 j1 j2 c0 c1 c2 ho hz hT
    have ei := q_clI (i := i) rfl hi.1
    have ej := q_clI (i := j) rfl j0
    have em := q_clI (i := ma) rfl hm.1
    have eij : (i + j : Int32).toInt = i.toInt + j.toInt := q_addI rfl rfl (by omega) (by omega)
    have eijn := q_clI (i := i + j) eij (by omega)
    have enn : (i + j : Int32).toNatClampNeg = i.toNatClampNeg + j.toNatClampNeg := by omega
    have e1 : (j + 1 : Int32).toInt = j.toInt + 1 := q_addI (y := 1) rfl (by decide) (by omega) (by omega)
    have ej1 := q_clI (i := j + 1) e1 (by omega)
    have ejj : (j + 1 : Int32).toNatClampNeg = j.toNatClampNeg + 1 := by omega
    rw [S_WR_multiplyRows_b_L35.eq_2, F_WR_multiplyRows_b_L35.eq_2]
    have go : ∀ (x : Int64) (X : Int), j.toInt ≤ ma.toInt → x.toInt = X → 0 ≤ X → X ≤ 65535 * 65535 → (j.toInt = ma.toInt → X = 0) → wE ((t2_0 i.toNatClampNeg).toInt * (65536 ^ i.toNatClampNeg * wT t2_0 ma.toNatClampNeg j.toNatClampNeg)) (X * 65536 ^ (i.toNatClampNeg + j.toNatClampNeg) + (t2_0 i.toNatClampNeg).toInt * (65536 ^ i.toNatClampNeg * wT t2_0 ma.toNatClampNeg (j.toNatClampNeg + 1))) →
        S_WR_multiplyRows_b_J85 KS (S_WR_multiplyRows_b_L35 KS N2 N4 t0_0 t0_1 t0_2 t0_3 t0_4 t0_5 t0_6 t1_0 t2_0 t3_0 ma na i p0 n) N2 N4 t0_0 t0_1 t0_2 t0_3 t0_4 t0_5 t0_6 t1_0 t2_0 t3_0 ma na i p0 j c p (c + ((p (i + j : Int32).toNatClampNeg).toInt64)) x ∧ Q (F_WR_multiplyRows_b_J85 KF (F_WR_multiplyRows_b_L35 KF N2 N4 t0_0 t0_1 t0_2 t0_3 t0_4 t0_5 t0_6 t1_0 t2_0 t3_0 ma na i p0 n) N2 N4 t0_0 t0_1 t0_2 t0_3 t0_4 t0_5 t0_6 t1_0 t2_0 t3_0 ma na i p0 j c p (c + ((p (i + j : Int32).toNatClampNeg).toInt64)) x) := by
      intro x X hj hx x0 x1 x2 hX
      unfold S_WR_multiplyRows_b_J85 F_WR_multiplyRows_b_J85
      have lt28 : i.toNatClampNeg + j.toNatClampNeg < 528 := by omega
      rw [enn]
      obtain ⟨a, ea⟩ := q_nm (p (i.toNatClampNeg + j.toNatClampNeg))
      have ha : 0 ≤ a.toInt ∧ a.toInt < 65536 := by rw [← ea]; exact ho _ (by omega)
      have az : j.toInt = ma.toInt → a.toInt = 0 := fun h => by rw [← ea, hz _ (by omega) (by omega) (by omega)]; rfl
      rw [ea]
      have u1 : (c + a.toInt64 : Int64).toInt = c.toInt + a.toInt := q_addL rfl (q_i2l rfl) (by omega) (by omega)
      have u2 : (c + a.toInt64 + x : Int64).toInt = c.toInt + a.toInt + X := q_addL u1 hx (by omega) (by omega)
      generalize (c + a.toInt64 + x : Int64) = w at u2 ⊢
      have w1 := w_and' (x := w)
      have w2 := w_shr (x := w)
      rw [u2] at w1 w2
      generalize ((w &&& 65535).toInt32 : Int32) = m at w1 ⊢
      generalize (w >>> ((16 : Int32).toInt64 &&& 63) : Int64) = c' at w2 ⊢
      have m1 : 0 ≤ m.toInt ∧ m.toInt < 65536 := by rw [w1]; exact ⟨Int.emod_nonneg _ (by decide), Int.emod_lt_of_pos _ (by decide)⟩
      have m2 : m.toInt + 65536 * c'.toInt = c.toInt + a.toInt + X := by rw [w1, w2]; exact Int.emod_add_mul_ediv _ _
      refine ih (j + 1) c' (upd p (i.toNatClampNeg + j.toNatClampNeg) m) (by omega) (by omega) (by omega) (by omega) (by omega) (fun h => ?_) (wO_upd ho m1) (fun t t1 t2 t3 => ?_) ?_
      · have := az (by omega)
        have := x2 (by omega)
        omega
      · rw [v_ne (by omega)]
        exact hz t t1 (by omega) t3
      · have hT : _ = _ := hT
        have hX : _ = _ := hX
        show _ = _
        rw [← hT, hX, ejj, w_upd lt28, ea]
        show _ + c'.toInt * 65536 ^ (i.toNatClampNeg + j.toNatClampNeg + 1) + _ = _
        rw [w_pw]
        exact w_joinId m2
    have goJ : j.toInt ≤ ma.toInt → S_WR_multiplyRows_b_J49 KS (S_WR_multiplyRows_b_L35 KS N2 N4 t0_0 t0_1 t0_2 t0_3 t0_4 t0_5 t0_6 t1_0 t2_0 t3_0 ma na i p0 n) N2 N4 t0_0 t0_1 t0_2 t0_3 t0_4 t0_5 t0_6 t1_0 t2_0 t3_0 ma na i p0 j c p ∧ Q (F_WR_multiplyRows_b_J49 KF (F_WR_multiplyRows_b_L35 KF N2 N4 t0_0 t0_1 t0_2 t0_3 t0_4 t0_5 t0_6 t1_0 t2_0 t3_0 ma na i p0 n) N2 N4 t0_0 t0_1 t0_2 t0_3 t0_4 t0_5 t0_6 t1_0 t2_0 t3_0 ma na i p0 j c p) := by
      intro hj
      unfold S_WR_multiplyRows_b_J49 F_WR_multiplyRows_b_J49
      refine v_cons (by omega) ?_
      by_cases d : ma ≤ j
      · rw [if_pos d, if_pos d]
        have d2 := q_leI d
        refine go 0 0 hj rfl (by omega) (by omega) (fun _ => rfl) ?_
        show _ = _
        rw [wT_0 (by omega), wT_0 (by omega), Int.mul_zero, Int.mul_zero, Int.zero_mul, Int.add_zero]
      · rw [if_neg d, if_neg d]
        have d2 := q_nleI d
        have ejm : j.toNatClampNeg < ma.toNatClampNeg := by omega
        obtain ⟨b, eb⟩ := q_nm (t2_0 j.toNatClampNeg)
        have hbj : 0 ≤ b.toInt ∧ b.toInt < 65536 := by rw [← eb]; exact hb _ (by omega)
        rw [eb]
        obtain ⟨a, ea⟩ := q_nm (t2_0 i.toNatClampNeg)
        rw [ea] at ha go ⊢
        have n1 : 0 ≤ a.toInt * b.toInt := Int.mul_nonneg ha.1 hbj.1
        have n2 : a.toInt * b.toInt ≤ 65535 * 65535 := Int.mul_le_mul (by omega) (by omega) hbj.1 (by decide)
        refine go (a.toInt64 * b.toInt64) (a.toInt * b.toInt) hj (q_mulL (q_i2l rfl) (q_i2l rfl) (by omega) (by omega)) n1 n2 (fun h => by omega) ?_
        show _ = _
        rw [wT_s ejm, eb, Int.pow_add]
        simp only [Int.mul_add, Int.mul_assoc, Int.mul_comm, Int.mul_left_comm]
    by_cases d : j < ma
    · rw [if_pos d, if_pos d]
      have d2 := q_ltI d
      exact goJ (by omega)
    · rw [if_neg d, if_neg d]
      have d2 := q_nltI d
      by_cases z : lg_cmp c 0 = 0
      · rw [if_pos z, if_pos z]
        have z2 : c.toInt = 0 := v_cmp0 z
        refine hK p ho (fun t t1 t2 => hz t (by omega) (by omega) t2) ?_
        have hT : _ = _ := hT
        show _ = _
        rw [← hT, z2, wT_0 (by omega), Int.mul_zero, Int.mul_zero, Int.zero_mul]
        simp only [Int.add_zero]
      · rw [if_neg z, if_neg z]
        have z2 : c.toInt ≠ 0 := q_k10 z
        refine goJ ?_
        by_cases e : j.toInt = ma.toInt + 1
        · exact absurd (c2 e) z2
        · omega
def wM_b (N : Int32) (v : Int) (r : (Nat → Int32) × (Nat → Int32)) : Prop := wO r.1 528 ∧ wE (wV r.1 528) v ∧ ∀ i : Nat, (i : Int) < N.toInt → r.2 i = if (i : Int) < 528 then r.1 i else 0
theorem w_mulL22_b {N2 : Int32} {N4 : Int32} {t0_0 : Int32} {t0_1 : Int32} {t0_2 : Int32} {t0_3 : Int32} {t0_4 : Int32} {t0_5 : Int32} {t0_6 : Int32} {t1_0 : Nat → Int32} {t2_0 : Nat → Int32} {t3_0 : Nat → Int32} {ma na : Int32} (hto : 0 ≤ N4.toInt ∧ N4.toInt ≤ 264) (hm : 0 ≤ ma.toInt ∧ ma.toInt ≤ 264) (hn : 0 ≤ na.toInt ∧ na.toInt ≤ 264) (hb : wO t2_0 ma.toNatClampNeg) (ha : wO t2_0 na.toNatClampNeg) :
    ∀ (n : Nat) (i : Int32) (p : Nat → Int32), 0 ≤ i.toInt → i.toInt ≤ na.toInt → na.toInt - i.toInt < n → wO p 528 → (∀ t : Nat, i.toInt + ma.toInt ≤ t → t < 528 → p t = 0) → wE (wV p 528) (wV t2_0 i.toNatClampNeg * wV t2_0 ma.toNatClampNeg) →
      S_WR_multiplyRows_b_L22 N2 N4 t0_0 t0_1 t0_2 t0_3 t0_4 t0_5 t0_6 t1_0 t2_0 t3_0 ma na n i p ∧ wM_b N4 (wV t2_0 na.toNatClampNeg * wV t2_0 ma.toNatClampNeg) (F_WR_multiplyRows_b_L22 N2 N4 t0_0 t0_1 t0_2 t0_3 t0_4 t0_5 t0_6 t1_0 t2_0 t3_0 ma na n i p) := by
  intro n
  induction n with
  | zero => intro i p i0 i1 i2 ho hz hT; omega
  | succ n ih =>
    intro i p i0 i1 i2 ho hz hT
    have e0 : (0 : Int32).toInt = 0 := rfl
    have ei := q_clI (i := i) rfl i0
    have en := q_clI (i := na) rfl hn.1
    rw [S_WR_multiplyRows_b_L22.eq_2, F_WR_multiplyRows_b_L22.eq_2]
    by_cases d : na ≤ i
    · rw [if_pos d, if_pos d]
      have d2 := q_leI d
      have e1 : i.toNatClampNeg = na.toNatClampNeg := by omega
      rw [e1] at hT
      exact ⟨trivial, ho, hT, R_copy (N1 := 528) hto.1 (by omega)⟩
    · rw [if_neg d, if_neg d]
      have d2 := q_nleI d
      have e1 : (i + 1 : Int32).toInt = i.toInt + 1 := q_addI (y := 1) rfl (by decide) (by omega) (by omega)
      have ei1 := q_clI (i := i + 1) e1 (by omega)
      have eii : (i + 1 : Int32).toNatClampNeg = i.toNatClampNeg + 1 := by omega
      refine w_mulL35_b (by omega) hm hb (ha _ (by omega)) (T := wV t2_0 (i.toNatClampNeg + 1) * wV t2_0 ma.toNatClampNeg) (fun p' q1 q2 q3 => ih (i + 1) p' (by omega) (by omega) (by omega) q1 (fun t t1 t2 => q2 t (by omega) t2) (by rw [eii]; exact q3)) ((2100 - (0 : Int32).toInt).toNat + 1) 0 0 p (by decide) (by omega) (by omega) (by decide) (by decide) (fun _ => rfl) ho (fun t t1 t2 t3 => hz t (by omega) t3) ?_
      have hT : _ = _ := hT
      show _ + 0 * _ + _ * (_ * wT t2_0 ma.toNatClampNeg 0) = (wV t2_0 i.toNatClampNeg + (t2_0 i.toNatClampNeg).toInt * 65536 ^ i.toNatClampNeg) * _
      rw [hT, wT_a, Int.add_mul, Int.zero_mul, Int.mul_assoc, Int.add_zero]
theorem R_mul_b {N2 : Int32} {N4 : Int32} {t0_0 : Int32} {t0_1 : Int32} {t0_2 : Int32} {t0_3 : Int32} {t0_4 : Int32} {t0_5 : Int32} {t0_6 : Int32} {t1_0 : Nat → Int32} {t2_0 : Nat → Int32} {t3_0 : Nat → Int32} (hto : 0 ≤ N4.toInt ∧ N4.toInt ≤ 264) (h2 : 0 ≤ N2.toInt ∧ N2.toInt ≤ 264) (oA : wO t2_0 N2.toNatClampNeg) : S_WR_multiplyRows_b N2 N4 t0_0 t0_1 t0_2 t0_3 t0_4 t0_5 t0_6 t1_0 t2_0 t3_0 ∧ wM_b N4 (wV t2_0 N2.toNatClampNeg * wV t2_0 N2.toNatClampNeg) (F_WR_multiplyRows_b N2 N4 t0_0 t0_1 t0_2 t0_3 t0_4 t0_5 t0_6 t1_0 t2_0 t3_0) := by
  have e0 : (0 : Int32).toInt = 0 := rfl
  have h3 := h2
  have oB := oA
  have sA := R_size (N := N2) (f := t2_0) h2.1
  have sB := R_size (N := N2) (f := t2_0) h3.1
  have cl := R_clear (N := 528) (f := t1_0) (by decide) (by decide)
  have e528 : (528 : Int32).toInt = 528 := rfl
  unfold S_WR_multiplyRows_b F_WR_multiplyRows_b
  rw [sA.val]
  generalize F_WR_size N2 t2_0 = zzA at sA sB ⊢
  generalize F_WR_clear 528 t1_0 = p at cl ⊢
  have zA := sA.2.1
  have zB := sB.2.1
  have nA := q_clI (i := zzA) rfl sA.1
  have nB := q_clI (i := zzA) rfl sB.1
  have mA := q_clI (i := N2) rfl h2.1
  have mB := q_clI (i := N2) rfl h3.1
  refine w_mulL22_b hto ⟨sB.1, by omega⟩ ⟨sA.1, by omega⟩ (oB.mono (by omega)) (oA.mono (by omega)) ((20200 - (0 : Int32).toInt).toNat + 1) 0 p (by decide) (by omega) (by omega) (fun t ht => ?_) (fun t _ t2 => cl t (by omega)) ?_
  · rw [cl t (by omega)]; decide
  · show _ = _
    rw [w_zer (k := 0) (n := 528) (by omega) (fun i _ h => cl i (by omega))]
    show 0 = 0 * _
    rw [Int.zero_mul]

theorem w_mulL35_c {N2 : Int32} {t0_0 : Int32} {t0_1 : Int32} {t0_2 : Int32} {t0_3 : Int32} {t0_4 : Int32} {t0_5 : Int32} {t0_6 : Int32} {t1_0 : Nat → Int32} {t2_0 : Nat → Int32} {ma na i : Int32} {p0 : Nat → Int32} {KF : Int32 → (Nat → Int32) → ((Nat → Int32) × (Nat → Int32))} {KS : Int32 → (Nat → Int32) → Prop} {Q : (Nat → Int32) × (Nat → Int32) → Prop} (hi : 0 ≤ i.toInt ∧ i.toInt ≤ 263) (hm : 0 ≤ ma.toInt ∧ ma.toInt ≤ 264) (hb : wO t2_0 ma.toNatClampNeg) (ha : 0 ≤ (t2_0 i.toNatClampNeg).toInt ∧ (t2_0 i.toNatClampNeg).toInt < 65536) {T : Int}
    (hK : ∀ p : Nat → Int32, wO p 528 → (∀ t : Nat, i.toInt + 1 + ma.toInt ≤ t → t < 528 → p t = 0) → wE (wV p 528) T → KS (i + 1) p ∧ Q (KF (i + 1) p)) :
    ∀ (n : Nat) (j : Int32) (c : Int64) (p : Nat → Int32), 0 ≤ j.toInt → j.toInt ≤ ma.toInt + 1 → ma.toInt + 1 - j.toInt < n → 0 ≤ c.toInt → c.toInt ≤ 65535 → (j.toInt = ma.toInt + 1 → c.toInt = 0) → wO p 528 → (∀ t : Nat, i.toInt + ma.toInt ≤ t → i.toInt + j.toInt ≤ t → t < 528 → p t = 0) →
      wE (wV p 528 + c.toInt * 65536 ^ (i.toNatClampNeg + j.toNatClampNeg) + (t2_0 i.toNatClampNeg).toInt * (65536 ^ i.toNatClampNeg * wT t2_0 ma.toNatClampNeg j.toNatClampNeg)) T →
      S_WR_multiplyRows_c_L35 KS N2 t0_0 t0_1 t0_2 t0_3 t0_4 t0_5 t0_6 t1_0 t2_0 ma na i p0 n j c p ∧ Q (F_WR_multiplyRows_c_L35 KF N2 t0_0 t0_1 t0_2 t0_3 t0_4 t0_5 t0_6 t1_0 t2_0 ma na i p0 n j c p) := by
  intro n
  induction n with
  | zero => intro j c p j0 j1 j2 c0 c1 c2 ho hz hT; omega
  | succ n ih =>
    intro j c p j0 j1 j2 c0 c1 c2 ho hz hT
    have ei := q_clI (i := i) rfl hi.1
    have ej := q_clI (i := j) rfl j0
    have em := q_clI (i := ma) rfl hm.1
    have eij : (i + j : Int32).toInt = i.toInt + j.toInt := q_addI rfl rfl (by omega) (by omega)
    have eijn := q_clI (i := i + j) eij (by omega)
    have enn : (i + j : Int32).toNatClampNeg = i.toNatClampNeg + j.toNatClampNeg := by omega
    have e1 : (j + 1 : Int32).toInt = j.toInt + 1 := q_addI (y := 1) rfl (by decide) (by omega) (by omega)
    have ej1 := q_clI (i := j + 1) e1 (by omega)
    have ejj : (j + 1 : Int32).toNatClampNeg = j.toNatClampNeg + 1 := by omega
    rw [S_WR_multiplyRows_c_L35.eq_2, F_WR_multiplyRows_c_L35.eq_2]
    have go : ∀ (x : Int64) (X : Int), j.toInt ≤ ma.toInt → x.toInt = X → 0 ≤ X → X ≤ 65535 * 65535 → (j.toInt = ma.toInt → X = 0) → wE ((t2_0 i.toNatClampNeg).toInt * (65536 ^ i.toNatClampNeg * wT t2_0 ma.toNatClampNeg j.toNatClampNeg)) (X * 65536 ^ (i.toNatClampNeg + j.toNatClampNeg) + (t2_0 i.toNatClampNeg).toInt * (65536 ^ i.toNatClampNeg * wT t2_0 ma.toNatClampNeg (j.toNatClampNeg + 1))) →
        S_WR_multiplyRows_c_J85 KS (S_WR_multiplyRows_c_L35 KS N2 t0_0 t0_1 t0_2 t0_3 t0_4 t0_5 t0_6 t1_0 t2_0 ma na i p0 n) N2 t0_0 t0_1 t0_2 t0_3 t0_4 t0_5 t0_6 t1_0 t2_0 ma na i p0 j c p (c + ((p (i + j : Int32).toNatClampNeg).toInt64)) x ∧ Q (F_WR_multiplyRows_c_J85 KF (F_WR_multiplyRows_c_L35 KF N2 t0_0 t0_1 t0_2 t0_3 t0_4 t0_5 t0_6 t1_0 t2_0 ma na i p0 n) N2 t0_0 t0_1 t0_2 t0_3 t0_4 t0_5 t0_6 t1_0 t2_0 ma na i p0 j c p (c + ((p (i + j : Int32).toNatClampNeg).toInt64)) x) := by
      intro x X hj hx x0 x1 x2 hX
      unfold S_WR_multiplyRows_c_J85 F_WR_multiplyRows_c_J85
      have lt28 : i.toNatClampNeg + j.toNatClampNeg < 528 := by omega
      rw [enn]
      obtain ⟨a, ea⟩ := q_nm (p (i.toNatClampNeg + j.toNatClampNeg))
      have ha : 0 ≤ a.toInt ∧ a.toInt < 65536 := by rw [← ea]; exact ho _ (by omega)
      have az : j.toInt = ma.toInt → a.toInt = 0 := fun h => by rw [← ea, hz _ (by omega) (by omega) (by omega)]; rfl
      rw [ea]
      have u1 : (c + a.toInt64 : Int64).toInt = c.toInt + a.toInt := q_addL rfl (q_i2l rfl) (by omega) (by omega)
      have u2 : (c + a.toInt64 + x : Int64).toInt = c.toInt + a.toInt + X := q_addL u1 hx (by omega) (by omega)
      generalize (c + a.toInt64 + x : Int64) = w at u2 ⊢
      have w1 := w_and' (x := w)
      have w2 := w_shr (x := w)
      rw [u2] at w1 w2
      generalize ((w &&& 65535).toInt32 : Int32) = m at w1 ⊢
      generalize (w >>> ((16 : Int32).toInt64 &&& 63) : Int64) = c' at w2 ⊢
      have m1 : 0 ≤ m.toInt ∧ m.toInt < 65536 := by rw [w1]; exact ⟨Int.emod_nonneg _ (by decide), Int.emod_lt_of_pos _ (by decide)⟩
      have m2 : m.toInt + 65536 * c'.toInt = c.toInt + a.toInt + X := by rw [w1, w2]; exact Int.emod_add_mul_ediv _ _
      refine ih (j + 1) c' (upd p (i.toNatClampNeg + j.toNatClampNeg) m) (by omega) (by omega) (by omega) (by omega) (by omega) (fun h => ?_) (wO_upd ho m1) (fun t t1 t2 t3 => ?_) ?_
      · have := az (by omega)
        have := x2 (by omega)
        omega
      · rw [v_ne (by omega)]
        exact hz t t1 (by omega) t3
      · have hT : _ = _ := hT
        have hX : _ = _ := hX
        show _ = _
        rw [← hT, hX, ejj, w_upd lt28, ea]
        show _ + c'.toInt * 65536 ^ (i.toNatClampNeg + j.toNatClampNeg + 1) + _ = _
        rw [w_pw]
        exact w_joinId m2
    have goJ : j.toInt ≤ ma.toInt → S_WR_multiplyRows_c_J49 KS (S_WR_multiplyRows_c_L35 KS N2 t0_0 t0_1 t0_2 t0_3 t0_4 t0_5 t0_6 t1_0 t2_0 ma na i p0 n) N2 t0_0 t0_1 t0_2 t0_3 t0_4 t0_5 t0_6 t1_0 t2_0 ma na i p0 j c p ∧ Q (F_WR_multiplyRows_c_J49 KF (F_WR_multiplyRows_c_L35 KF N2 t0_0 t0_1 t0_2 t0_3 t0_4 t0_5 t0_6 t1_0 t2_0 ma na i p0 n) N2 t0_0 t0_1 t0_2 t0_3 t0_4 t0_5 t0_6 t1_0 t2_0 ma na i p0 j c p) := by
      intro hj
      unfold S_WR_multiplyRows_c_J49 F_WR_multiplyRows_c_J49
      refine v_cons (by omega) ?_
      by_cases d : ma ≤ j
      · rw [if_pos d, if_pos d]
        have d2 := q_leI d
        refine go 0 0 hj rfl (by omega) (by omega) (fun _ => rfl) ?_
        show _ = _
        rw [wT_0 (by omega), wT_0 (by omega), Int.mul_zero, Int.mul_zero, Int.zero_mul, Int.add_zero]
      · rw [if_neg d, if_neg d]
        have d2 := q_nleI d
        have ejm : j.toNatClampNeg < ma.toNatClampNeg := by omega
        obtain ⟨b, eb⟩ := q_nm (t2_0 j.toNatClampNeg)
        have hbj : 0 ≤ b.toInt ∧ b.toInt < 65536 := by rw [← eb]; exact hb _ (by omega)
        rw [eb]
        obtain ⟨a, ea⟩ := q_nm (t2_0 i.toNatClampNeg)
        rw [ea] at ha go ⊢
        have n1 : 0 ≤ a.toInt * b.toInt := Int.mul_nonneg ha.1 hbj.1
        have n2 : a.toInt * b.toInt ≤ 65535 * 65535 := Int.mul_le_mul (by omega) (by omega) hbj.1 (by decide)
        refine go (a.toInt64 * b.toInt64) (a.toInt * b.toInt) hj (q_mulL (q_i2l rfl) (q_i2l rfl) (by omega) (by omega)) n1 n2 (fun h => by omega) ?_
        show _ = _
        rw [wT_s ejm, eb, Int.pow_add]
        simp only [Int.mul_add, Int.mul_assoc, Int.mul_comm, Int.mul_left_comm]
    by_cases d : j < ma
    · rw [if_pos d, if_pos d]
      have d2 := q_ltI d
      exact goJ (by omega)
    · rw [if_neg d, if_neg d]
      have d2 := q_nltI d
      by_cases z : lg_cmp c 0 = 0
      · rw [if_pos z, if_pos z]
        have z2 : c.toInt = 0 := v_cmp0 z
        refine hK p ho (fun t t1 t2 => hz t (by omega) (by omega) t2) ?_
        have hT : _ = _ := hT
        show _ = _
        rw [← hT, z2, wT_0 (by omega), Int.mul_zero, Int.mul_zero, Int.zero_mul]
        simp only [Int.add_zero]
      · rw [if_neg z, if_neg z]
        have z2 : c.toInt ≠ 0 := q_k10 z
        refine goJ ?_
        by_cases e : j.toInt = ma.toInt + 1
        · exact absurd (c2 e) z2
        · omega
def wM_c (N : Int32) (v : Int) (r : (Nat → Int32) × (Nat → Int32)) : Prop := wO r.1 528 ∧ wE (wV r.1 528) v ∧ ∀ i : Nat, (i : Int) < N.toInt → r.2 i = if (i : Int) < 528 then r.1 i else 0
theorem w_mulL22_c {N2 : Int32} {t0_0 : Int32} {t0_1 : Int32} {t0_2 : Int32} {t0_3 : Int32} {t0_4 : Int32} {t0_5 : Int32} {t0_6 : Int32} {t1_0 : Nat → Int32} {t2_0 : Nat → Int32} {ma na : Int32} (hto : 0 ≤ N2.toInt ∧ N2.toInt ≤ 264) (hm : 0 ≤ ma.toInt ∧ ma.toInt ≤ 264) (hn : 0 ≤ na.toInt ∧ na.toInt ≤ 264) (hb : wO t2_0 ma.toNatClampNeg) (ha : wO t2_0 na.toNatClampNeg) :
    ∀ (n : Nat) (i : Int32) (p : Nat → Int32), 0 ≤ i.toInt → i.toInt ≤ na.toInt → na.toInt - i.toInt < n → wO p 528 → (∀ t : Nat, i.toInt + ma.toInt ≤ t → t < 528 → p t = 0) → wE (wV p 528) (wV t2_0 i.toNatClampNeg * wV t2_0 ma.toNatClampNeg) →
      S_WR_multiplyRows_c_L22 N2 t0_0 t0_1 t0_2 t0_3 t0_4 t0_5 t0_6 t1_0 t2_0 ma na n i p ∧ wM_c N2 (wV t2_0 na.toNatClampNeg * wV t2_0 ma.toNatClampNeg) (F_WR_multiplyRows_c_L22 N2 t0_0 t0_1 t0_2 t0_3 t0_4 t0_5 t0_6 t1_0 t2_0 ma na n i p) := by
  intro n
  induction n with
  | zero => intro i p i0 i1 i2 ho hz hT; omega
  | succ n ih =>
    intro i p i0 i1 i2 ho hz hT
    have e0 : (0 : Int32).toInt = 0 := rfl
    have ei := q_clI (i := i) rfl i0
    have en := q_clI (i := na) rfl hn.1
    rw [S_WR_multiplyRows_c_L22.eq_2, F_WR_multiplyRows_c_L22.eq_2]
    by_cases d : na ≤ i
    · rw [if_pos d, if_pos d]
      have d2 := q_leI d
      have e1 : i.toNatClampNeg = na.toNatClampNeg := by omega
      rw [e1] at hT
      exact ⟨trivial, ho, hT, R_copy (N1 := 528) hto.1 (by omega)⟩
    · rw [if_neg d, if_neg d]
      have d2 := q_nleI d
      have e1 : (i + 1 : Int32).toInt = i.toInt + 1 := q_addI (y := 1) rfl (by decide) (by omega) (by omega)
      have ei1 := q_clI (i := i + 1) e1 (by omega)
      have eii : (i + 1 : Int32).toNatClampNeg = i.toNatClampNeg + 1 := by omega
      refine w_mulL35_c (by omega) hm hb (ha _ (by omega)) (T := wV t2_0 (i.toNatClampNeg + 1) * wV t2_0 ma.toNatClampNeg) (fun p' q1 q2 q3 => ih (i + 1) p' (by omega) (by omega) (by omega) q1 (fun t t1 t2 => q2 t (by omega) t2) (by rw [eii]; exact q3)) ((2100 - (0 : Int32).toInt).toNat + 1) 0 0 p (by decide) (by omega) (by omega) (by decide) (by decide) (fun _ => rfl) ho (fun t t1 t2 t3 => hz t (by omega) t3) ?_
      have hT : _ = _ := hT
      show _ + 0 * _ + _ * (_ * wT t2_0 ma.toNatClampNeg 0) = (wV t2_0 i.toNatClampNeg + (t2_0 i.toNatClampNeg).toInt * 65536 ^ i.toNatClampNeg) * _
      rw [hT, wT_a, Int.add_mul, Int.zero_mul, Int.mul_assoc, Int.add_zero]
theorem R_mul_c {N2 : Int32} {t0_0 : Int32} {t0_1 : Int32} {t0_2 : Int32} {t0_3 : Int32} {t0_4 : Int32} {t0_5 : Int32} {t0_6 : Int32} {t1_0 : Nat → Int32} {t2_0 : Nat → Int32} (hto : 0 ≤ N2.toInt ∧ N2.toInt ≤ 264) (h2 : 0 ≤ N2.toInt ∧ N2.toInt ≤ 264) (oA : wO t2_0 N2.toNatClampNeg) : S_WR_multiplyRows_c N2 t0_0 t0_1 t0_2 t0_3 t0_4 t0_5 t0_6 t1_0 t2_0 ∧ wM_c N2 (wV t2_0 N2.toNatClampNeg * wV t2_0 N2.toNatClampNeg) (F_WR_multiplyRows_c N2 t0_0 t0_1 t0_2 t0_3 t0_4 t0_5 t0_6 t1_0 t2_0) := by
  have e0 : (0 : Int32).toInt = 0 := rfl
  have h3 := h2
  have oB := oA
  have sA := R_size (N := N2) (f := t2_0) h2.1
  have sB := R_size (N := N2) (f := t2_0) h3.1
  have cl := R_clear (N := 528) (f := t1_0) (by decide) (by decide)
  have e528 : (528 : Int32).toInt = 528 := rfl
  unfold S_WR_multiplyRows_c F_WR_multiplyRows_c
  rw [sA.val]
  generalize F_WR_size N2 t2_0 = zzA at sA sB ⊢
  generalize F_WR_clear 528 t1_0 = p at cl ⊢
  have zA := sA.2.1
  have zB := sB.2.1
  have nA := q_clI (i := zzA) rfl sA.1
  have nB := q_clI (i := zzA) rfl sB.1
  have mA := q_clI (i := N2) rfl h2.1
  have mB := q_clI (i := N2) rfl h3.1
  refine w_mulL22_c hto ⟨sB.1, by omega⟩ ⟨sA.1, by omega⟩ (oB.mono (by omega)) (oA.mono (by omega)) ((20200 - (0 : Int32).toInt).toNat + 1) 0 p (by decide) (by omega) (by omega) (fun t ht => ?_) (fun t _ t2 => cl t (by omega)) ?_
  · rw [cl t (by omega)]; decide
  · show _ = _
    rw [w_zer (k := 0) (n := 528) (by omega) (fun i _ h => cl i (by omega))]
    show 0 = 0 * _
    rw [Int.zero_mul]
