/-! values, for whole: what a written text says when it is read -/
theorem y_mnL {b : Prop} [Decidable b] : (b ∧ yMin b = [45]) ∨ (¬ b ∧ yMin b = []) := by
  unfold yMin
  by_cases h : b
  · rw [if_pos h]; exact Or.inl ⟨h, rfl⟩
  · rw [if_neg h]; exact Or.inr ⟨h, rfl⟩
theorem yDv_69 : yDv 69 = 14 := by decide
theorem y_brR {neg : Prop} [Decidable neg] {a b : List Nat} {i : Nat} (hi : i < a.length) : yBr (yMin neg ++ (a ++ b)) ((yMin neg).length + i) = yBr a i := by
  rw [yBr_b, yBr_a hi]
theorem y_brS {neg : Prop} [Decidable neg] {a b : List Nat} {i : Nat} : yBr (yMin neg ++ (a ++ b)) ((yMin neg).length + a.length + i) = yBr b i := by
  rw [Nat.add_assoc, yBr_b, yBr_b]
theorem y_sgR {neg : Prop} [Decidable neg] {d r : List Nat} (hd : yDi d) (h0 : 0 < d.length) {t : List Nat} (e : t = yMin neg ++ (d ++ r)) : yS1 (yBr t) t.length 0 = (yMin neg).length ∧ (yNg (yBr t) t.length 0 ↔ neg) ∧ (yBr t 0 = 45 ↔ neg) ∧ 0 < t.length ∧ 32 < yBr t 0 := by
  subst e
  have hl : (yMin neg ++ (d ++ r)).length = (yMin neg).length + (d.length + r.length) := by rw [List.length_append, List.length_append]
  have h := y_brR (neg := neg) (a := d) (b := r) (i := 0) h0
  have g := yBr_d hd h0
  unfold yS1 yNg
  rcases y_mnL (b := neg) with ⟨n, m⟩ | ⟨n, m⟩
  · rw [m] at hl h ⊢
    have b0 : yBr ([45] ++ (d ++ r)) 0 = 45 := rfl
    have k : ([45] : List Nat).length = 1 := rfl
    rw [k] at hl
    refine ⟨?_, ⟨fun _ => n, fun _ => ⟨by omega, b0⟩⟩, ⟨fun _ => n, fun _ => b0⟩, by omega, by omega⟩
    rw [if_pos ⟨by omega, Or.inl b0⟩]
    rfl
  · rw [m] at hl h ⊢
    have k : ([] : List Nat).length = 0 := rfl
    rw [k] at hl h
    rw [Nat.zero_add] at h
    refine ⟨?_, ⟨fun q => by have := q.2; omega, fun q => absurd q n⟩, ⟨fun q => by omega, fun q => absurd q n⟩, by omega, by omega⟩
    rw [if_neg (fun q => by have := q.2; omega)]
    rfl
/-- a whole number's text -/
theorem y_tW {neg : Prop} [Decidable neg] {d : List Nat} (hd : yDi d) (h0 : 0 < d.length) {t : List Nat} (e : t = yMin neg ++ d) : yWt (yBr t) 10 t.length ∧ yWn (yBr t) 10 t.length = yLV d 0 ∧ (yBr t 0 = 45 ↔ neg) ∧ (yNg (yBr t) t.length 0 ↔ neg) := by
  have e' : t = yMin neg ++ (d ++ []) := by rw [List.append_nil]; exact e
  obtain ⟨s1, s2, s3, s4, _⟩ := y_sgR hd h0 e'
  have hl : t.length = (yMin neg).length + d.length := by rw [e, List.length_append]
  have b : ∀ i, i < d.length → yBr t ((yMin neg).length + i) = yBr d i := by
    intro i hi
    rw [e']
    exact y_brR hi
  refine ⟨⟨by rw [s1]; omega, fun i h1 h2 => ?_⟩, ?_, s3, s2⟩
  · rw [s1] at h1
    have q := b (i - (yMin neg).length) (by omega)
    rw [show (yMin neg).length + (i - (yMin neg).length) = i by omega] at q
    have w := yBr_d hd (i := i - (yMin neg).length) (by omega)
    rw [q, yDv_d w]
    omega
  · unfold yWn
    rw [s1, show t.length - (yMin neg).length = d.length by omega]
    refine yuB_l rfl hd (fun j hj => ?_)
    show yDv (yBr t ((yMin neg).length + j)) = _
    rw [b j hj, yDv_d (yBr_d hd hj)]
/-- a run of figures, perhaps with a point, and what stands behind -/
theorem y_rn {neg : Prop} [Decidable neg] {d1 d2 tl z : List Nat} {o : Option Nat} (h1 : yDi d1) (h0 : 0 < d1.length) (h2 : yDi d2) (ht : (tl = [] ∧ d2 = [] ∧ o = none) ∨ (tl = 46 :: d2 ∧ o = some d1.length)) (hz : z = [] ∨ ∃ r, z = 69 :: r) {t : List Nat} (e : t = yMin neg ++ (d1 ++ (tl ++ z))) : yRn (yBr t) 10 (yMin neg).length ((yMin neg).length + d1.length + tl.length) (d1.length + d2.length) o (fun j => yBr (d1 ++ d2) j - 48) ∧ ySp (yBr t) 10 t.length ((yMin neg).length + d1.length + tl.length) o ∧ yuB 10 (fun j => yBr (d1 ++ d2) j - 48) (d1.length + d2.length) = yLV (d1 ++ d2) 0 ∧ ((d1.length + d2.length : Nat) : Int) - ((o.getD (d1.length + d2.length) : Nat) : Int) = (d2.length : Int) ∧ t.length = (yMin neg).length + d1.length + tl.length + z.length := by
  have hl : t.length = (yMin neg).length + d1.length + tl.length + z.length := by rw [e, List.length_append, List.length_append, List.length_append]; omega
  have hd : yDi (d1 ++ d2) := yDi_app h1 h2
  have b1 : ∀ i, i < d1.length → yBr t ((yMin neg).length + i) = yBr d1 i := fun i hi => by rw [e]; exact y_brR hi
  have b2 : ∀ i, yBr t ((yMin neg).length + d1.length + i) = yBr (tl ++ z) i := fun i => by rw [e]; exact y_brS
  have f1 : ∀ i, i < d1.length → yBr (d1 ++ d2) i = yBr d1 i := fun i hi => yBr_a hi
  have u : yuB 10 (fun j => yBr (d1 ++ d2) j - 48) (d1.length + d2.length) = yLV (d1 ++ d2) 0 := yuB_l (by rw [List.length_append]) hd (fun j _ => rfl)
  have b3 : yBr t ((yMin neg).length + d1.length + tl.length) = yBr z 0 := by
    rw [b2]
    exact yBr_b (i := 0)
  have sp : 10 ≤ yDv (yBr t ((yMin neg).length + d1.length + tl.length)) ∨ z = [] := by
    rcases hz with hz | ⟨r, hz⟩
    · exact Or.inr hz
    · left
      rw [b3, hz]
      show 10 ≤ yDv 69
      rw [yDv_69]
      decide
  have sp2 : yBr t ((yMin neg).length + d1.length + tl.length) ≠ 46 := by
    rw [b3]
    rcases hz with hz | ⟨r, hz⟩
    · rw [hz]; decide
    · rw [hz]; show (69 : Int) ≠ 46; decide
  have S : ySp (yBr t) 10 t.length ((yMin neg).length + d1.length + tl.length) o := by
    refine ⟨by omega, ?_⟩
    rcases sp with q | q
    · exact Or.inr ⟨q, fun c => absurd c sp2⟩
    · left
      rw [hl, q]
      rfl
  refine ⟨?_, S, u, ?_, hl⟩
  · rcases ht with ⟨a, b, c⟩ | ⟨a, c⟩
    · subst a b c
      refine ⟨by simp, fun j hj => ?_⟩
      have hj' : j < d1.length := by simpa using hj
      have w := yBr_d h1 hj'
      dsimp only
      rw [b1 j hj', f1 j hj', yDv_d w]
      exact ⟨rfl, by omega⟩
    · subst c
      refine ⟨by rw [a, List.length_cons]; omega, by omega, ?_, fun j hj => ?_, fun j h3 h4 => ?_⟩
      · have := b2 0
        rw [a] at this
        exact this
      · have w := yBr_d h1 hj
        dsimp only
        rw [b1 j hj, f1 j hj, yDv_d w]
        exact ⟨rfl, by omega⟩
      · have g := b2 (j - d1.length + 1)
        rw [show (yMin neg).length + d1.length + (j - d1.length + 1) = (yMin neg).length + j + 1 by omega] at g
        have g2 : yBr (tl ++ z) (j - d1.length + 1) = yBr d2 (j - d1.length) := by
          rw [yBr_a (by rw [a, List.length_cons]; omega), a]
          rfl
        have g3 : yBr (d1 ++ d2) j = yBr d2 (j - d1.length) := by
          have := yBr_b (l := d1) (m := d2) (i := j - d1.length)
          rw [show d1.length + (j - d1.length) = j by omega] at this
          exact this
        have w := yBr_d h2 (i := j - d1.length) (by omega)
        dsimp only
        rw [g, g2, g3, yDv_d w]
        exact ⟨rfl, by omega⟩
  · rcases ht with ⟨a, b, c⟩ | ⟨a, c⟩
    · subst b c
      simp
    · subst c
      show ((d1.length + d2.length : Nat) : Int) - ((d1.length : Nat) : Int) = _
      omega
/-- a decimal's text without a power -/
theorem y_tD {neg : Prop} [Decidable neg] {d1 d2 tl : List Nat} (h1 : yDi d1) (h0 : 0 < d1.length) (h2 : yDi d2) (ht : (tl = [] ∧ d2 = []) ∨ tl = 46 :: d2) {t : List Nat} (e : t = yMin neg ++ (d1 ++ tl)) : ∃ f, yDc (yBr t) t.length (some (d1.length + d2.length, f, (d2.length : Int))) ∧ yuB 10 f (d1.length + d2.length) = yLV (d1 ++ d2) 0 ∧ (yNg (yBr t) t.length 0 ↔ neg) := by
  have e' : t = yMin neg ++ (d1 ++ (tl ++ [])) := by rw [List.append_nil]; exact e
  have ⟨o, ho⟩ : ∃ o : Option Nat, (tl = [] ∧ d2 = [] ∧ o = none) ∨ (tl = 46 :: d2 ∧ o = some d1.length) := by
    rcases ht with ⟨a, b⟩ | a
    · exact ⟨none, Or.inl ⟨a, b, rfl⟩⟩
    · exact ⟨some d1.length, Or.inr ⟨a, rfl⟩⟩
  obtain ⟨r1, r2, r3, r4, r5⟩ := y_rn h1 h0 h2 ho (Or.inl rfl) e'
  obtain ⟨s1, s2, _⟩ := y_sgR h1 h0 e'
  refine ⟨_, ⟨_, _, o, _, by rw [s1]; exact r1, r2, Or.inr (Or.inl ⟨by omega, fun q => ?_, Or.inl ⟨?_, by rw [r4]⟩⟩)⟩, r3, s2⟩
  · have := q.1
    rw [r5] at this
    exact absurd this (Nat.lt_irrefl _)
  · rw [r5]
    rfl
/-- a float's text without and with a power -/
theorem y_nWo {B : Nat → Int} {L s : Nat} (h : 48 ≤ B s ∧ B s ≤ 57) : ¬ yWo B L s yNaN ∧ ¬ yWo B L s yInf :=
  ⟨fun q => by have : B s = ((78 : Nat) : Int) := q.2.1; omega, fun q => by have : B s = ((73 : Nat) : Int) := q.2.1; omega⟩
def yEt (z : List Nat) (e : Int) : Prop := (z = [] ∧ e = 0) ∨ (z = yE e ∧ -99999 ≤ e ∧ e ≤ 99999)
theorem y_ePw {t a : List Nat} {e : Int} {cap : Nat} (hc : 1000000000 ≤ cap) (he : -99999 ≤ e ∧ e ≤ 99999) (h : t = a ++ yE e) : yPw (yBr t) cap t.length (a.length + 1) (some (t.length, e)) := by
  have hn := yCt5_t (n := e.natAbs) (by omega)
  have hm : e.natAbs < 10 ^ max (yCt5 e.natAbs) 1 := Nat.lt_of_lt_of_le hn.1 (Nat.pow_le_pow_right (by decide) (Nat.le_max_left _ _))
  have h1 : 1 ≤ max (yCt5 e.natAbs) 1 := Nat.le_max_right _ _
  have h' : t = a ++ (69 :: ySgn e ++ yDs (max (yCt5 e.natAbs) 1) e.natAbs) := h
  clear h hn
  generalize max (yCt5 e.natAbs) 1 = m at hm h1 h'
  have hd : yDi (yDs m e.natAbs) := by rw [yDs_dz]; exact yDz_di
  have hdl : (yDs m e.natAbs).length = m := yDs_len
  have hv : yLV (yDs m e.natAbs) 0 = e.natAbs := by
    rw [yDs_dz]
    have := yLV_dz (N := e.natAbs) (k := 0) (n := m)
    rw [Nat.zero_add, Nat.pow_zero, Nat.div_one, Nat.mod_eq_of_lt hm] at this
    exact this
  revert hd hdl hv h'
  generalize yDs m e.natAbs = ds
  intro h' hd hdl hv
  obtain ⟨sg, hs, hs2⟩ : ∃ sg, ySgn e = [sg] ∧ ((sg = 45 ∧ e < 0) ∨ (sg = 43 ∧ 0 ≤ e)) := by
    unfold ySgn
    by_cases q : e < 0
    · rw [if_pos q]; exact ⟨45, rfl, Or.inl ⟨rfl, q⟩⟩
    · rw [if_neg q]; exact ⟨43, rfl, Or.inr ⟨rfl, by omega⟩⟩
  rw [hs] at h'
  have hl : t.length = a.length + 2 + m := by
    rw [h', List.length_append]
    show a.length + (ds.length + 2) = _
    omega
  have b1 : yBr t (a.length + 1) = (sg : Int) := by rw [h', yBr_b]; rfl
  have b2 : ∀ i, yBr t (a.length + 2 + i) = yBr ds i := by
    intro i
    rw [h', Nat.add_assoc, yBr_b]
    exact yBr_b (l := [69, sg]) (m := ds) (i := i)
  have S : yS1 (yBr t) t.length (a.length + 1) = a.length + 2 := by
    unfold yS1
    rw [if_pos ⟨by omega, by rw [b1]; omega⟩]
  unfold yPw
  rw [S]
  refine ⟨t.length, ⟨by omega, Nat.le_refl _, fun i g1 g2 => ?_, Or.inl rfl⟩, Or.inr ⟨by omega, e.natAbs, e, Or.inl ⟨?_, ?_⟩, by omega, rfl, ?_⟩⟩
  · have := b2 (i - (a.length + 2))
    rw [show a.length + 2 + (i - (a.length + 2)) = i by omega] at this
    rw [this]
    exact yBr_d hd (by omega)
  · have q : yDx (yBr t) (a.length + 2) (t.length - (a.length + 2)) = e.natAbs := by
      unfold yDx
      rw [show t.length - (a.length + 2) = m by omega, ← hv]
      exact yuB_l hdl hd (fun j _ => by rw [b2 j])
    rw [q]
    omega
  · unfold yDx
    rw [show t.length - (a.length + 2) = m by omega, ← hv]
    exact (yuB_l hdl hd (fun j _ => by rw [b2 j])).symm
  · unfold yNg
    rw [b1]
    rcases hs2 with ⟨q, w⟩ | ⟨q, w⟩
    · exact Or.inl ⟨⟨by omega, by omega⟩, by omega⟩
    · exact Or.inr ⟨fun c => by have := c.2; omega, by omega⟩
theorem y_tF {neg : Prop} [Decidable neg] {d1 d2 tl z : List Nat} {o : Option Nat} {e : Int} {cap : Nat} (hc : 1000000000 ≤ cap) (h1 : yDi d1) (h0 : 0 < d1.length) (h2 : yDi d2) (ht : (tl = [] ∧ d2 = [] ∧ o = none) ∨ (tl = 46 :: d2 ∧ o = some d1.length)) (hz : yEt z e) {t : List Nat} (et : t = yMin neg ++ (d1 ++ (tl ++ z))) : yFl (yBr t) cap t.length (some (if neg then 1 else 0, 0, d1.length + d2.length, o.getD (d1.length + d2.length), fun j => yBr (d1 ++ d2) j - 48, e)) := by
  have hz' : z = [] ∨ ∃ r, z = 69 :: r := by
    rcases hz with ⟨q, _⟩ | ⟨q, _⟩
    · exact Or.inl q
    · exact Or.inr ⟨_, q⟩
  obtain ⟨r1, r2, r3, r4, r5⟩ := y_rn h1 h0 h2 ht hz' et
  obtain ⟨s1, s2, s3, s4, s5⟩ := y_sgR h1 h0 et
  have b1 : yBr t (yMin neg).length = yBr d1 0 := by rw [et]; exact y_brR (i := 0) h0
  have w1 := yBr_d h1 h0
  have n := y_nWo (B := yBr t) (L := t.length) (s := (yMin neg).length) (by rw [b1]; exact w1)
  have nx : ¬ yHx (yBr t) t.length (yMin neg).length := by
    intro q
    obtain ⟨q1, _, q2⟩ := q
    by_cases c : 1 < d1.length
    · have b2 : yBr t ((yMin neg).length + 1) = yBr d1 1 := by rw [et]; exact y_brR c
      have w2 := yBr_d h1 c
      rw [b2] at q2
      omega
    · have c1 : d1.length = 1 := by omega
      have b2 : yBr t ((yMin neg).length + 1) = yBr (tl ++ z) 0 := by
        have := y_brS (neg := neg) (a := d1) (b := tl ++ z) (i := 0)
        rw [← et, c1] at this
        exact this
      rw [b2] at q2
      rcases ht with ⟨a, _, _⟩ | ⟨a, _⟩
      · rw [a] at q2
        rcases hz' with q | ⟨r, q⟩
        · rw [q] at q2
          exact absurd q2 (by decide)
        · rw [q] at q2
          have : (69 : Int) = 120 ∨ (69 : Int) = 88 := q2
          omega
      · rw [a] at q2
        have : (46 : Int) = 120 ∨ (46 : Int) = 88 := q2
        omega
  have nz : yNz (yBr t) t.length 0 = if neg then 1 else 0 := by
    unfold yNz
    by_cases q : neg
    · rw [if_pos q, if_pos ⟨s4, s3.mpr q⟩]
    · rw [if_neg q, if_neg (fun c => q (s3.mp c.2))]
  refine ⟨0, some (0, t.length, d1.length + d2.length, o.getD (d1.length + d2.length), fun j => yBr (d1 ++ d2) j - 48, e), ⟨Nat.le_refl _, Nat.zero_le _, fun i _ q => absurd q (Nat.not_lt_zero _), Or.inr s5⟩, ?_, Or.inr ⟨0, t.length, _, _, _, e, rfl, Or.inr ⟨fun i q1 q2 => absurd q2 (by omega), by rw [nz]⟩⟩⟩
  rw [s1]
  refine Or.inr (Or.inr ⟨n.1, n.2, Or.inr ⟨nx, _, _, o, _, r1, r2, Or.inr ?_⟩⟩)
  rcases hz with ⟨q, q2⟩ | ⟨q, q2⟩
  · left
    have hp : (yMin neg).length + d1.length + tl.length = t.length := by rw [r5, q]; rfl
    rw [hp]
    refine ⟨by omega, fun c => absurd c.1 (Nat.lt_irrefl _), ?_⟩
    have : yEn (yBr t) t.length t.length = t.length := by
      unfold yEn
      rw [if_neg (fun c => absurd c.1 (Nat.lt_irrefl _))]
    rw [this, q2]
  · right
    have hlen : (yMin neg ++ (d1 ++ tl)).length = (yMin neg).length + d1.length + tl.length := by rw [List.length_append, List.length_append]; omega
    have et2 : t = (yMin neg ++ (d1 ++ tl)) ++ yE e := by rw [et, q, List.append_assoc, List.append_assoc]
    have pw := y_ePw hc q2 et2
    rw [hlen] at pw
    have zl : 0 < z.length := by rw [q]; exact Nat.succ_pos _
    have bz : yBr t ((yMin neg).length + d1.length + tl.length) = 69 := by
      rw [et2, ← hlen]
      exact yBr_b (i := 0)
    refine ⟨by omega, ⟨by omega, Or.inr bz⟩, _, pw, ?_⟩
    have : yEn (yBr t) t.length t.length = t.length := by
      unfold yEn
      rw [if_neg (fun c => absurd c.1 (Nat.lt_irrefl _))]
    show _ = some (0, yEn (yBr t) t.length t.length, d1.length + d2.length, o.getD (d1.length + d2.length), fun j => yBr (d1 ++ d2) j - 48, e)
    rw [this]
