/-! values, for whole: texts: the reference's TextRows: number -/
theorem V_nuD {t0_0 : Int32} {t0_1 : Int32} {t0_2 : Int32} {t0_3 : Int32} {t0_4 : Int32} {t0_5 : Int32} {t0_6 : Int32} {t0_7 : Int64} {t0_8 : Int32} {t0_9 : Int32} {t0_10 : Int64} {t0_11 : Int64} {t0_12 : Int32} {t0_13 : Int32} {t1_0 : (Nat → Int32)} {t2_0 : (Nat → Int32)} {p174 : (Int32 × Int32 × Int32 × Int32 × Int32 × Int32 × Int32 × Int32 × Int64 × Int32 × Int32 × Int64 × Int64 × Int32 × Int32 × (Nat → Int32))} {L s : Nat} {B : Nat → Int} (hT : yTr t1_0 L B) (h1 : t0_1.toInt = (L : Int)) (hL : L ≤ 4100) (hx : ¬ yHx B L s) (hd : QV_dg B 10 L s p174.1 p174.2.2.2.2.1 p174.2.2.2.2.2.2.1 p174.2.2.2.2.2.2.2.1 p174.2.2.2.2.2.2.2.2.2.2.2.2.2.2.2) (q0 : p174.2.1 = t0_0) (q1 : p174.2.2.1 = t0_1) (q2 : p174.2.2.2.1 = 0) (q4 : p174.2.2.2.2.2.1 = t0_4) (q7 : p174.2.2.2.2.2.2.2.2.1 = 0) : QV_nu B L s t0_0 t0_1 t0_4 (F_TR_number_c121 t0_0 t0_1 t0_2 t0_3 t0_4 t0_5 t0_6 t0_7 t0_8 t0_9 t0_10 t0_11 t0_12 t0_13 t1_0 t2_0 p174) := by
  obtain ⟨p, M, o, f, a1, a2, a3, a4, a5, a6, a7⟩ := hd
  have rle := yRn_le a1
  have pL := a2.1
  have kM := yRn_k a1
  unfold F_TR_number_c121
  rcases a3 with ⟨c1, c2⟩ | ⟨c1, c2⟩
  · rw [if_pos c1]
    exact ⟨q0, q1, q4, none, Or.inr ⟨hx, p, M, o, f, a1, a2, Or.inl ⟨c2, rfl⟩⟩, Or.inl ⟨rfl, rfl⟩⟩
  · rw [if_neg (show ¬ p174.1 = 0 by rw [c1]; decide)]
    rcases V_TR_isAt (x2 := 101) (x3 := 69) (t0_0 := p174.2.1) (t0_1 := p174.2.2.1) (t0_2 := p174.2.2.2.1) (t0_3 := p174.2.2.2.2.1) (t0_4 := p174.2.2.2.2.2.1) (t0_5 := p174.2.2.2.2.2.2.1) (t0_6 := p174.2.2.2.2.2.2.2.1) (t0_7 := p174.2.2.2.2.2.2.2.2.1) (t0_8 := p174.2.2.2.2.2.2.2.2.2.1) (t0_9 := p174.2.2.2.2.2.2.2.2.2.2.1) (t0_10 := p174.2.2.2.2.2.2.2.2.2.2.2.1) (t0_11 := p174.2.2.2.2.2.2.2.2.2.2.2.2.1) (t0_12 := p174.2.2.2.2.2.2.2.2.2.2.2.2.2.1) (t0_13 := p174.2.2.2.2.2.2.2.2.2.2.2.2.2.2.1) hT (by rw [q1]; exact h1) a4 (show (101 : Int32).toInt = 101 from rfl) (show (69 : Int32).toInt = 69 from rfl) (by decide) (by decide) with ⟨d1, d2⟩ | ⟨d1, d2⟩
    · rw [d1, if_pos rfl]
      rw [← q1]
      refine V_nu159 (p := p) (M := M) (pt := o.getD M) (f := f) (e := 0) (k := 0) hT (by rw [q1]; exact h1) hL (Or.inr ⟨hx, p, M, o, f, a1, a2, Or.inr (Or.inl ⟨c2, d2, rfl⟩)⟩) pL (by omega) kM q2 a4 a5 a6 (by rw [q7]; rfl) (by decide) a7 q0 q4
    · rw [d1, if_neg (show ¬ (1 : Int32) = 0 by decide)]
      have ea : (p174.2.2.2.2.1 + 1 : Int32).toInt = ((p + 1 : Nat) : Int) := by
        rw [q_addI (y := 1) a4 rfl (by omega) (by omega)]
        omega
      have hp := V_TR_power (t0_0 := p174.2.1) (t0_1 := p174.2.2.1) (t0_2 := p174.2.2.2.1) (t0_3 := p174.2.2.2.2.1 + 1) (t0_4 := p174.2.2.2.2.2.1) (t0_5 := p174.2.2.2.2.2.2.1) (t0_6 := p174.2.2.2.2.2.2.2.1) (t0_7 := p174.2.2.2.2.2.2.2.2.1) (t0_8 := p174.2.2.2.2.2.2.2.2.2.1) (t0_9 := p174.2.2.2.2.2.2.2.2.2.2.1) (t0_10 := p174.2.2.2.2.2.2.2.2.2.2.2.1) (t0_11 := p174.2.2.2.2.2.2.2.2.2.2.2.2.1) (t0_12 := p174.2.2.2.2.2.2.2.2.2.2.2.2.2.1) (t0_13 := p174.2.2.2.2.2.2.2.2.2.2.2.2.2.2.1) hT (by rw [q1]; exact h1) hL ea (by have := d2.1; omega) q7
      generalize F_TR_power p174.2.1 p174.2.2.1 p174.2.2.2.1 (p174.2.2.2.2.1 + 1) p174.2.2.2.2.2.1 p174.2.2.2.2.2.2.1 p174.2.2.2.2.2.2.2.1 p174.2.2.2.2.2.2.2.2.1 p174.2.2.2.2.2.2.2.2.2.1 p174.2.2.2.2.2.2.2.2.2.2.1 p174.2.2.2.2.2.2.2.2.2.2.2.1 p174.2.2.2.2.2.2.2.2.2.2.2.2.1 p174.2.2.2.2.2.2.2.2.2.2.2.2.2.1 p174.2.2.2.2.2.2.2.2.2.2.2.2.2.2.1 t1_0 = y at hp ⊢
      obtain ⟨hq, r0, r1, r2, r4, r5, r6⟩ := hp
      unfold F_TR_number_c151
      rcases hq.o with ⟨s1, s2⟩ | ⟨s1, p2, s2, s3, s4, s5⟩
      · rw [if_pos s1]
        exact ⟨r0.trans q0, r1.trans q1, r4.trans q4, none, Or.inr ⟨hx, p, M, o, f, a1, a2, Or.inr (Or.inr ⟨c2, d2, none, s2, rfl⟩)⟩, Or.inl ⟨rfl, rfl⟩⟩
      · rw [if_neg (show ¬ y.1 = 0 by rw [s1]; decide)]
        have r1' : y.2.2.1 = t0_1 := r1.trans q1
        rw [← r1']
        refine V_nu159 (p := p2) (M := M) (pt := o.getD M) (f := f) (e := y.2.2.2.2.2.2.2.2.1.toInt) (k := 0) hT (by rw [r1']; exact h1) hL (Or.inr ⟨hx, p, M, o, f, a1, a2, Or.inr (Or.inr ⟨c2, d2, _, s5, rfl⟩)⟩) s3 (by omega) kM (r2.trans q2) s2 (by rw [r5]; exact a5) (by rw [r6]; exact a6) rfl ⟨by omega, by omega⟩ a7 (r0.trans q0) (r4.trans q4)
theorem V_nuX {t0_0 : Int32} {t0_1 : Int32} {t0_2 : Int32} {t0_3 : Int32} {t0_4 : Int32} {t0_5 : Int32} {t0_6 : Int32} {t0_7 : Int64} {t0_8 : Int32} {t0_9 : Int32} {t0_10 : Int64} {t0_11 : Int64} {t0_12 : Int32} {t0_13 : Int32} {t1_0 : (Nat → Int32)} {t2_0 : (Nat → Int32)} {p367 : (Int32 × Int32 × Int32 × Int32 × Int32 × Int32 × Int32 × Int32 × Int64 × Int32 × Int32 × Int64 × Int64 × Int32 × Int32 × (Nat → Int32))} {L s : Nat} {B : Nat → Int} (hT : yTr t1_0 L B) (h1 : t0_1.toInt = (L : Int)) (hL : L ≤ 4100) (hx : yHx B L s) (hd : QV_dg B 16 L (s + 2) p367.1 p367.2.2.2.2.1 p367.2.2.2.2.2.2.1 p367.2.2.2.2.2.2.2.1 p367.2.2.2.2.2.2.2.2.2.2.2.2.2.2.2) (q0 : p367.2.1 = t0_0) (q1 : p367.2.2.1 = t0_1) (q2 : p367.2.2.2.1 = 1) (q4 : p367.2.2.2.2.2.1 = t0_4) (q7 : p367.2.2.2.2.2.2.2.2.1 = 0) : QV_nu B L s t0_0 t0_1 t0_4 (F_TR_number_c76 t0_0 t0_1 t0_2 t0_3 t0_4 t0_5 t0_6 t0_7 t0_8 t0_9 t0_10 t0_11 t0_12 t0_13 t1_0 t2_0 p367) := by
  obtain ⟨p, M, o, f, a1, a2, a3, a4, a5, a6, a7⟩ := hd
  have rle := yRn_le a1
  have pL := a2.1
  have kM := yRn_k a1
  unfold F_TR_number_c76
  rcases a3 with ⟨c1, c2⟩ | ⟨c1, c2⟩
  · rw [if_pos c1]
    exact ⟨q0, q1, q4, none, Or.inl ⟨hx, p, M, o, f, a1, a2, Or.inl ⟨Or.inl c2, rfl⟩⟩, Or.inl ⟨rfl, rfl⟩⟩
  · rw [if_neg (show ¬ p367.1 = 0 by rw [c1]; decide)]
    rcases V_TR_isAt (x2 := 112) (x3 := 80) (t0_0 := p367.2.1) (t0_1 := p367.2.2.1) (t0_2 := p367.2.2.2.1) (t0_3 := p367.2.2.2.2.1) (t0_4 := p367.2.2.2.2.2.1) (t0_5 := p367.2.2.2.2.2.2.1) (t0_6 := p367.2.2.2.2.2.2.2.1) (t0_7 := p367.2.2.2.2.2.2.2.2.1) (t0_8 := p367.2.2.2.2.2.2.2.2.2.1) (t0_9 := p367.2.2.2.2.2.2.2.2.2.2.1) (t0_10 := p367.2.2.2.2.2.2.2.2.2.2.2.1) (t0_11 := p367.2.2.2.2.2.2.2.2.2.2.2.2.1) (t0_12 := p367.2.2.2.2.2.2.2.2.2.2.2.2.2.1) (t0_13 := p367.2.2.2.2.2.2.2.2.2.2.2.2.2.2.1) hT (by rw [q1]; exact h1) a4 (show (112 : Int32).toInt = 112 from rfl) (show (80 : Int32).toInt = 80 from rfl) (by decide) (by decide) with ⟨d1, d2⟩ | ⟨d1, d2⟩
    · rw [d1, if_pos rfl]
      exact ⟨q0, q1, q4, none, Or.inl ⟨hx, p, M, o, f, a1, a2, Or.inl ⟨Or.inr d2, rfl⟩⟩, Or.inl ⟨rfl, rfl⟩⟩
    · rw [d1, if_neg (show ¬ (1 : Int32) = 0 by decide)]
      have ea : (p367.2.2.2.2.1 + 1 : Int32).toInt = ((p + 1 : Nat) : Int) := by
        rw [q_addI (y := 1) a4 rfl (by omega) (by omega)]
        omega
      have hp := V_TR_power (t0_0 := p367.2.1) (t0_1 := p367.2.2.1) (t0_2 := p367.2.2.2.1) (t0_3 := p367.2.2.2.2.1 + 1) (t0_4 := p367.2.2.2.2.2.1) (t0_5 := p367.2.2.2.2.2.2.1) (t0_6 := p367.2.2.2.2.2.2.2.1) (t0_7 := p367.2.2.2.2.2.2.2.2.1) (t0_8 := p367.2.2.2.2.2.2.2.2.2.1) (t0_9 := p367.2.2.2.2.2.2.2.2.2.2.1) (t0_10 := p367.2.2.2.2.2.2.2.2.2.2.2.1) (t0_11 := p367.2.2.2.2.2.2.2.2.2.2.2.2.1) (t0_12 := p367.2.2.2.2.2.2.2.2.2.2.2.2.2.1) (t0_13 := p367.2.2.2.2.2.2.2.2.2.2.2.2.2.2.1) hT (by rw [q1]; exact h1) hL ea (by have := d2.1; omega) q7
      generalize F_TR_power p367.2.1 p367.2.2.1 p367.2.2.2.1 (p367.2.2.2.2.1 + 1) p367.2.2.2.2.2.1 p367.2.2.2.2.2.2.1 p367.2.2.2.2.2.2.2.1 p367.2.2.2.2.2.2.2.2.1 p367.2.2.2.2.2.2.2.2.2.1 p367.2.2.2.2.2.2.2.2.2.2.1 p367.2.2.2.2.2.2.2.2.2.2.2.1 p367.2.2.2.2.2.2.2.2.2.2.2.2.1 p367.2.2.2.2.2.2.2.2.2.2.2.2.2.1 p367.2.2.2.2.2.2.2.2.2.2.2.2.2.2.1 t1_0 = y at hp ⊢
      obtain ⟨hq, r0, r1, r2, r4, r5, r6⟩ := hp
      unfold F_TR_number_c106
      rcases hq.o with ⟨s1, s2⟩ | ⟨s1, p2, s2, s3, s4, s5⟩
      · rw [if_pos s1]
        exact ⟨r0.trans q0, r1.trans q1, r4.trans q4, none, Or.inl ⟨hx, p, M, o, f, a1, a2, Or.inr ⟨c2, d2, none, s2, rfl⟩⟩, Or.inl ⟨rfl, rfl⟩⟩
      · rw [if_neg (show ¬ y.1 = 0 by rw [s1]; decide)]
        have r1' : y.2.2.1 = t0_1 := r1.trans q1
        rw [← r1']
        refine V_nu159 (p := p2) (M := M) (pt := o.getD M) (f := f) (e := y.2.2.2.2.2.2.2.2.1.toInt) (k := 1) hT (by rw [r1']; exact h1) hL (Or.inl ⟨hx, p, M, o, f, a1, a2, Or.inr ⟨c2, d2, _, s5, rfl⟩⟩) s3 (by omega) kM (r2.trans q2) s2 (by rw [r5]; exact a5) (by rw [r6]; exact a6) rfl ⟨by omega, by omega⟩ a7 (r0.trans q0) (r4.trans q4)
theorem V_TR_number {t0_0 : Int32} {t0_1 : Int32} {t0_2 : Int32} {t0_3 : Int32} {t0_4 : Int32} {t0_5 : Int32} {t0_6 : Int32} {t0_7 : Int64} {t0_8 : Int32} {t0_9 : Int32} {t0_10 : Int64} {t0_11 : Int64} {t0_12 : Int32} {t0_13 : Int32} {t1_0 : (Nat → Int32)} {t2_0 : (Nat → Int32)} {L s : Nat} {B : Nat → Int} (hT : yTr t1_0 L B) (h1 : t0_1.toInt = (L : Int)) (hL : L ≤ 4100) (h3 : t0_3.toInt = (s : Int)) (hs : s ≤ L) : QV_nu B L s t0_0 t0_1 t0_4 (F_TR_number t0_0 t0_1 t0_2 t0_3 t0_4 t0_5 t0_6 t0_7 t0_8 t0_9 t0_10 t0_11 t0_12 t0_13 t1_0 t2_0) := by
  have e48 : (48 : Int32).toInt = 48 := rfl
  have hh := V_TR_here (t0_0 := t0_0) (t0_1 := t0_1) (t0_2 := t0_2) (t0_3 := t0_3) (t0_4 := t0_4) (t0_5 := t0_5) (t0_6 := t0_6) (t0_7 := 0) (t0_8 := t0_8) (t0_9 := t0_9) (t0_10 := t0_10) (t0_11 := t0_11) (t0_12 := t0_12) (t0_13 := t0_13) hT h1 h3
  have dec : ¬ yHx B L s → QV_nu B L s t0_0 t0_1 t0_4 (F_TR_number_J114 t0_0 t0_1 t0_2 t0_3 t0_4 t0_5 t0_6 t0_7 t0_8 t0_9 t0_10 t0_11 t0_12 t0_13 t1_0 t2_0) := fun hx => by
    unfold F_TR_number_J114
    have hd := V_TR_digits (x2 := 0) (t0_0 := t0_0) (t0_1 := t0_1) (t0_2 := 0) (t0_3 := t0_3) (t0_4 := t0_4) (t0_5 := t0_5) (t0_6 := t0_6) (t0_7 := 0) (t0_8 := t0_8) (t0_9 := t0_9) (t0_10 := t0_10) (t0_11 := t0_11) (t0_12 := t0_12) (t0_13 := t0_13) (t2_0 := t2_0) hT h1 hL (Or.inl ⟨rfl, rfl⟩) h3 hs
    generalize F_TR_digits 0 t0_0 t0_1 0 t0_3 t0_4 t0_5 t0_6 0 t0_8 t0_9 t0_10 t0_11 t0_12 t0_13 t1_0 t2_0 = p174 at hd ⊢
    obtain ⟨d1, d2, d3, d4, d5, d6⟩ := hd
    exact V_nuD hT h1 hL hx d1 d2 d3 d4 d5 d6
  have hex : yHx B L s → QV_nu B L s t0_0 t0_1 t0_4 (F_TR_number_J59 t0_0 t0_1 t0_2 t0_3 t0_4 t0_5 t0_6 t0_7 t0_8 t0_9 t0_10 t0_11 t0_12 t0_13 t1_0 t2_0) := fun hx => by
    unfold F_TR_number_J59
    have ea : (t0_3 + 2 : Int32).toInt = ((s + 2 : Nat) : Int) := by
      rw [q_addI (y := 2) h3 rfl (by omega) (by omega)]
      omega
    have hd := V_TR_digits (x2 := 1) (t0_0 := t0_0) (t0_1 := t0_1) (t0_2 := 1) (t0_3 := t0_3 + 2) (t0_4 := t0_4) (t0_5 := t0_5) (t0_6 := t0_6) (t0_7 := 0) (t0_8 := t0_8) (t0_9 := t0_9) (t0_10 := t0_10) (t0_11 := t0_11) (t0_12 := t0_12) (t0_13 := t0_13) (t2_0 := t2_0) hT h1 hL (Or.inr ⟨rfl, rfl⟩) ea (by have := hx.1; omega)
    generalize F_TR_digits 1 t0_0 t0_1 1 (t0_3 + 2) t0_4 t0_5 t0_6 0 t0_8 t0_9 t0_10 t0_11 t0_12 t0_13 t1_0 t2_0 = p367 at hd ⊢
    obtain ⟨d1, d2, d3, d4, d5, d6⟩ := hd
    exact V_nuX hT h1 hL hx d1 d2 d3 d4 d5 d6
  unfold F_TR_number
  generalize F_TR_here t0_0 t0_1 t0_2 t0_3 t0_4 t0_5 t0_6 0 t0_8 t0_9 t0_10 t0_11 t0_12 t0_13 t1_0 = c at hh ⊢
  by_cases c1 : c = 48
  · rw [if_pos c1]
    rw [c1, e48] at hh
    have iL : s < L := by
      by_cases a : s < L
      · exact a
      · rw [if_neg a] at hh
        omega
    rw [if_pos iL] at hh
    have ea : (t0_3 + 1 : Int32).toInt = ((s + 1 : Nat) : Int) := by
      rw [q_addI (y := 1) h3 rfl (by omega) (by omega)]
      omega
    have ec := q_clI ea (by omega)
    by_cases c2 : t0_1 ≤ (t0_3 + 1 : Int32)
    · rw [if_pos c2]
      have c2i := q_leI c2
      exact dec (fun h => by have := h.1; omega)
    · rw [if_neg c2]
      have c2i := q_nleI c2
      rw [show (t0_3 + 1 : Int32).toNatClampNeg = s + 1 by omega]
      have hb := hT (s + 1) (by omega)
      by_cases c3 : t1_0 (s + 1) = 120
      · rw [if_pos c3]
        rw [c3] at hb
        exact hex ⟨by omega, hh.symm, Or.inl hb.symm⟩
      · rw [if_neg c3]
        by_cases c4 : t1_0 (s + 1) = 88
        · rw [if_pos c4]
          rw [c4] at hb
          exact hex ⟨by omega, hh.symm, Or.inr hb.symm⟩
        · rw [if_neg c4]
          refine dec (fun h => ?_)
          rcases h.2.2 with e | e
          · exact c3 (Int32.toInt_inj.mp (by rw [hb, e]; rfl))
          · exact c4 (Int32.toInt_inj.mp (by rw [hb, e]; rfl))
  · rw [if_neg c1]
    refine dec (fun h => c1 (Int32.toInt_inj.mp ?_))
    have hs1 := h.1
    rw [hh, if_pos (by omega), h.2.1]
    rfl
