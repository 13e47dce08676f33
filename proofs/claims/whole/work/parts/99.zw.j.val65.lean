/-! values, for whole: the reference's inverse -/
theorem w_is1 {f : Nat → Int32} {v : Int} (h : wK v f) : (F_WR_size 264 f = 1 ∧ f 0 = 1) ↔ v = 1 := by
  have e1 : (1 : Int32).toInt = 1 := rfl
  have ev : wV f 264 = v := h.2
  have hz := R_size (N := 264) (f := f) (by decide)
  have hs := R_size4 (f := f)
  have hc := q_clI (i := F_WR_size 264 f) rfl hs.1
  have hv := hz.val
  rw [show (264 : Int32).toNatClampNeg = 264 from rfl, ev] at hv
  have h1 : wV f 1 = (f 0).toInt := by
    show 0 + (f 0).toInt * 65536 ^ 0 = _
    omega
  constructor
  · rintro ⟨a, b⟩
    rw [a, show (1 : Int32).toNatClampNeg = 1 from rfl, h1, b] at hv
    omega
  · intro hv1
    have h2 : F_WR_size 264 f = 1 := by
      have l1 := hz.lt h.1
      rw [show (264 : Int32).toNatClampNeg = 264 from rfl, ev] at l1
      have l2 : (F_WR_size 264 f).toInt ≠ 0 := fun h9 => by
        rw [show (F_WR_size 264 f).toNatClampNeg = 0 by omega] at hv
        have : wV f 0 = 0 := rfl
        omega
      have l3 : (F_WR_size 264 f).toInt ≤ 1 := by
        apply Classical.byContradiction
        intro h9
        have l4 := hz.ge h.1 (by omega)
        rw [show (264 : Int32).toNatClampNeg = 264 from rfl, ev] at l4
        have l5 : (65536 : Int) ^ 1 ≤ 65536 ^ ((F_WR_size 264 f).toNatClampNeg - 1) := w_pwle (by omega)
        have l6 : (65536 : Int) ^ 1 = 65536 := Int.pow_one 65536
        omega
      exact Int32.toInt_inj.mp (by omega)
    refine ⟨h2, ?_⟩
    rw [h2, show (1 : Int32).toNatClampNeg = 1 from rfl, h1] at hv
    exact Int32.toInt_inj.mp (by omega)
/-- a rest brought to 0 .. m - 1 -/
theorem w_redE {b : Int32} {A vm : Int} {r row f g g2 : Nat → Int32} (hb : b = 0 ∨ b = 1) (h0 : 0 < vm) (h1 : vm < 65536 ^ 263) (hr : wK (A % vm) r) (hm : wK vm row) : wK (sgI b A % vm) (if b = 0 then F_WR_copy 264 264 r f else if F_WR_size 264 (F_WR_copy 264 264 r f) ≤ 0 then F_WR_copy 264 264 r f else F_WR_copy 264 264 (F_WR_join 264 264 (F_WR_size 264 (F_WR_copy 264 264 r f)) 1 1 (F_WR_copy 264 264 row g) (F_WR_copy 264 264 r f)) g2) := by
  have hc := R_copy4 (g := f) hr
  have n0 := Int.emod_nonneg A (b := vm) (by omega)
  have n1 := Int.emod_lt_of_pos A h0
  by_cases c : b = 0
  · rw [if_pos c, c, sgI0]
    exact hc
  · have c1 : b = 1 := hb.resolve_left c
    rw [if_neg c, c1, sgI, if_neg (by decide), w_negM h0]
    have ec : wV (F_WR_copy 264 264 r f) 264 = A % vm := hc.2
    by_cases d : F_WR_size 264 (F_WR_copy 264 264 r f) ≤ 0
    · rw [if_pos d]
      have z := w_sz0 hc.1 d
      rw [ec] at z
      rw [if_pos z]
      rw [z] at hc
      exact hc
    · rw [if_neg d]
      have z : 0 < wV (F_WR_copy 264 264 r f) 264 := w_sz1 hc.1 d
      rw [ec] at z
      rw [if_neg (by omega)]
      have e1 : (1 : Int64).toInt = 1 := rfl
      have hp := w_p263
      have j := (R_join4V (y := 1) (x5 := 1) (σ := -1) rfl (by decide) (R_copy4 (g := g) hm) hc (by rw [e1]; omega) (by rw [e1]; omega)).2
      have j2 := R_copy4 (g := g2) j
      rw [e1] at j2
      have e5 : vm + -1 * (1 * (A % vm)) = vm - A % vm := by omega
      rw [e5] at j2
      exact j2
theorem w_ivX {a m h H : Int} (hm : 0 < m) (hh : h = 1) (hi : iv a m h H) : vIv a m 1 (H % m) := by
  refine ⟨Int.emod_nonneg H (by omega), Int.emod_lt_of_pos H hm, fun _ => ?_⟩
  obtain ⟨t, ht⟩ := hi
  have e := Int.emod_def H m
  refine ⟨-(H / m) * a - t, ?_⟩
  rw [e, Int.sub_mul, Int.sub_mul, Int.neg_mul, Int.neg_mul, Int.mul_assoc m, Int.mul_comm m, ]
  omega
/-- the state of Euclid's loop -/
def wIs (va vm h l A B : Int) (fb sb : Int32) : Prop := (fb = 0 ∨ fb = 1) ∧ (sb = 0 ∨ sb = 1) ∧ (bE h l (sgI fb A) (sgI sb B) vm ∨ (h < vm ∧ l = vm ∧ A = 1 ∧ fb = 0 ∧ B = 0)) ∧ h ≤ vm ∧ iv va vm h (sgI fb A) ∧ iv va vm l (sgI sb B)
theorem w_qE {h l : Int} (h0 : 0 ≤ h) (l0 : 0 < l) : h / l = ((h.natAbs / l.natAbs : Nat) : Int) := by
  rw [Int.natCast_ediv, Int.natAbs_of_nonneg h0, Int.natAbs_of_nonneg (by omega)]
theorem wIs.step {va vm h l A B u : Int} {fb sb nb b2 : Int32} (w : wIs va vm h l A B fb sb) (h0 : 0 ≤ h) (l0 : 0 < l) (A0 : 0 ≤ A) (B0 : 0 ≤ B) (hm0 : 0 < vm) (hn : (sb = 0 ∧ nb = 1) ∨ (¬ sb = 0 ∧ nb = 0)) (hb2 : b2 = 0 ∨ b2 = 1) (hu : sgI b2 u = sgI fb A + sgI nb (h / l * B)) : wIs va vm l (h % l) B u sb b2 := by
  obtain ⟨w1, w2, w3, w4, w5, w6⟩ := w
  have e1 : h % l = h.tmod l := (Int.tmod_eq_emod_of_nonneg h0).symm
  have e2 : sgI nb (h / l * B) = -(h / l * sgI sb B) := by
    unfold sgI
    rcases hn with ⟨a, b⟩ | ⟨a, b⟩
    · rw [b, if_neg (by decide), if_pos a]
    · rw [b, if_pos rfl, if_neg a, Int.mul_neg, Int.neg_neg]
  have e3 : sgI b2 u = sgI fb A - h / l * sgI sb B := by
    rw [hu, e2]
    omega
  have hqr := Int.emod_add_mul_ediv h l
  have v3 := w5.step (q := h / l) (r := h % l) (by omega) w6
  refine ⟨w2, hb2, Or.inl ?_, ?_, w6, by rw [e3]; exact v3⟩
  · rcases w3 with w3 | ⟨a1, a2, a3, a4, a5⟩
    · have st := (w3.step (by omega)).1
      rw [e3, e1, w_qE h0 l0]
      exact st
    · have q0 : h / l = 0 := Int.ediv_eq_zero_of_lt h0 (by omega)
      have r0 : h % l = h := Int.emod_eq_of_lt h0 (by omega)
      rw [e3, q0, r0, a2, a3, a4, a5, Int.zero_mul, Int.sub_zero, sgI0]
      have z : sgI sb 0 = 0 := by
        unfold sgI
        split <;> rfl
      rw [z]
      exact bE.ini h0 a1
  · rcases w3 with w3 | ⟨a1, a2, a3, a4, a5⟩
    · have := w3.2.1
      omega
    · omega
theorem wIs.bd {va vm h l A B : Int} {fb sb : Int32} (w : wIs va vm h l A B fb sb) (h0 : 0 ≤ h) (l0 : 0 < l) (A0 : 0 ≤ A) (B0 : 0 ≤ B) (hm0 : 0 < vm) : A ≤ vm ∧ h / l * B ≤ vm ∧ l ≤ vm ∧ 0 ≤ h / l * B := by
  obtain ⟨w1, w2, w3, w4, w5, w6⟩ := w
  have q0 : 0 ≤ h / l := Int.ediv_nonneg h0 (by omega)
  have n0 := Int.mul_nonneg q0 B0
  rcases w3 with w3 | ⟨a1, a2, a3, a4, a5⟩
  · have st := (w3.step (by omega)).2
    have e4 := w3.2.2.2.1
    have l1 := w3.2.1
    rw [sgI_abs] at e4
    rw [← w_qE h0 l0, Int.natAbs_mul, sgI_abs, ← Int.natAbs_mul] at st
    refine ⟨by omega, by omega, by omega, n0⟩
  · rw [a5, Int.mul_zero]
    refine ⟨by omega, by omega, by omega, by omega⟩
theorem R_sum5 {N2 x3 N4 x5 t0_0 t0_1 t0_2 t0_3 t0_4 t0_5 t0_6 : Int32} {t1_0 t2_0 t3_0 : Nat → Int32} : (F_WR_sum N2 x3 N4 x5 t0_0 t0_1 t0_2 t0_3 t0_4 t0_5 t0_6 t1_0 t2_0 t3_0).2.2.2.2.2.1 = t0_5 := by
  unfold F_WR_sum
  split
  · rfl
  · split <;> rfl
theorem V_ivL {t0_0 : Int32} {t0_1 : Int32} {t0_2 : Int32} {t0_3 : Int32} {t0_4 : Int32} {t0_5 : Int32} {t0_6 : Int32} {t1_0 : (Nat → Int32)} {t2_0 : (Nat → Int32)} {t3_0 : (Nat → Int32)} {t4_0 : (Nat → Int32)} {t5_0 : (Nat → Int32)} {t6_0 : (Nat → Int32)} {t7_0 : (Nat → Int32)} {t8_0 : (Nat → Int32)} {t9_0 : (Nat → Int32)} {t10_0 : (Nat → Int32)} {va vm : Int} {g : Nat} (hm0 : 0 < vm) (hm : wK vm t10_0) (hm1 : vm < 65536 ^ 128) : ∀ (n : Nat) (lx70 : Int32) (lx71 : Int32) (lx72 : Int32) (lx73 : Int32) (lx74 : Int32) (lx75 : Int32) (lx76 : Int32) (lx77 : (Nat → Int32)) (lx78 : (Nat → Int32)) (lx79 : (Nat → Int32)) (lx80 : (Nat → Int32)) (lx81 : (Nat → Int32)) (lx82 : (Nat → Int32)) (lx83 : (Nat → Int32)) (lx84 : (Nat → Int32)) (lx85 : (Nat → Int32)), (∃ h l A B : Int, wK h lx82 ∧ wK l lx83 ∧ wK A lx84 ∧ wK B lx85 ∧ wIs va vm h l A B lx74 lx75 ∧ Nat.gcd h.natAbs l.natAbs = g ∧ wEu n h l) → (F_WR_inverts_L36 t0_0 t0_1 t0_2 t0_3 t0_4 t0_5 t0_6 t1_0 t2_0 t3_0 t4_0 t5_0 t6_0 t7_0 t8_0 t9_0 t10_0 n lx70 lx71 lx72 lx73 lx74 lx75 lx76 lx77 lx78 lx79 lx80 lx81 lx82 lx83 lx84 lx85).2.1 = lx70 ∧ (F_WR_inverts_L36 t0_0 t0_1 t0_2 t0_3 t0_4 t0_5 t0_6 t1_0 t2_0 t3_0 t4_0 t5_0 t6_0 t7_0 t8_0 t9_0 t10_0 n lx70 lx71 lx72 lx73 lx74 lx75 lx76 lx77 lx78 lx79 lx80 lx81 lx82 lx83 lx84 lx85).2.2.1 = lx71 ∧ (((F_WR_inverts_L36 t0_0 t0_1 t0_2 t0_3 t0_4 t0_5 t0_6 t1_0 t2_0 t3_0 t4_0 t5_0 t6_0 t7_0 t8_0 t9_0 t10_0 n lx70 lx71 lx72 lx73 lx74 lx75 lx76 lx77 lx78 lx79 lx80 lx81 lx82 lx83 lx84 lx85).1 = 0 ∧ g ≠ 1) ∨ ((F_WR_inverts_L36 t0_0 t0_1 t0_2 t0_3 t0_4 t0_5 t0_6 t1_0 t2_0 t3_0 t4_0 t5_0 t6_0 t7_0 t8_0 t9_0 t10_0 n lx70 lx71 lx72 lx73 lx74 lx75 lx76 lx77 lx78 lx79 lx80 lx81 lx82 lx83 lx84 lx85).1 = 1 ∧ g = 1 ∧ ∃ x, vIv va vm 1 x ∧ wK x (F_WR_inverts_L36 t0_0 t0_1 t0_2 t0_3 t0_4 t0_5 t0_6 t1_0 t2_0 t3_0 t4_0 t5_0 t6_0 t7_0 t8_0 t9_0 t10_0 n lx70 lx71 lx72 lx73 lx74 lx75 lx76 lx77 lx78 lx79 lx80 lx81 lx82 lx83 lx84 lx85).2.2.2.2.2.2.2.2.2.2.2.2.2.1)) := by
  intro n
  induction n with
  | zero =>
    intro lx70 lx71 lx72 lx73 lx74 lx75 lx76 lx77 lx78 lx79 lx80 lx81 lx82 lx83 lx84 lx85 hh
    obtain ⟨h, l, A, B, _, _, _, _, _, _, hE⟩ := hh
    have := hE.ge
    omega
  | succ n ih =>
    intro lx70 lx71 lx72 lx73 lx74 lx75 lx76 lx77 lx78 lx79 lx80 lx81 lx82 lx83 lx84 lx85 hh
    obtain ⟨h, l, A, B, i1, i2, i3, i4, w, hg, hE⟩ := hh
    have h0 := i1.nn
    have l0 := i2.nn
    have A0 := i3.nn
    have B0 := i4.nn
    have el : wV lx83 264 = l := i2.2
    have hone := w_is1 i1
    rw [F_WR_inverts_L36.eq_2]
    by_cases c : F_WR_size 264 lx83 ≤ 0
    · rw [if_pos c]
      have z := w_sz0 i2.1 c
      rw [el] at z
      have e9 := v_gcd0 hg z
      have hg1 : g = 1 ↔ h = 1 := by omega
      by_cases d1 : F_WR_size 264 lx82 = 1
      · rw [if_pos d1]
        by_cases d2 : lx82 (0 : Int32).toNatClampNeg = 1
        · rw [if_pos d2]
          have h1 := hone.mp ⟨d1, d2⟩
          have hd : (fun p => wK (A % vm) p.1) (F_WR_divideRows (264 : Int32) (264 : Int32) lx70 lx71 lx72 lx73 lx74 lx75 lx76 lx80 lx81 lx84 t10_0) := (R_div4V i3 hm hm0 (Int.lt_of_lt_of_le hm1 w_p128)).2.1
          generalize (F_WR_divideRows (264 : Int32) (264 : Int32) lx70 lx71 lx72 lx73 lx74 lx75 lx76 lx80 lx81 lx84 t10_0) = p150 at hd ⊢
          unfold F_WR_inverts_c197
          have hx := w_redE (f := lx82) (g := lx77) (g2 := F_WR_copy 264 264 p150.1 lx82) w.1 hm0 (Int.lt_of_lt_of_le hm1 w_p128) hd hm
          have hv := w_ivX hm0 h1 w.2.2.2.2.1
          by_cases k1 : lx74 = 0
          · rw [if_pos k1] at hx ⊢
            (refine ⟨rfl, rfl, Or.inr ⟨rfl, hg1.mpr h1, _, hv, ?_⟩⟩; dsimp only; with_reducible exact hx)
          · rw [if_neg k1] at hx ⊢
            by_cases k2 : F_WR_size 264 (F_WR_copy 264 264 p150.1 lx82) ≤ 0
            · rw [if_pos k2] at hx ⊢
              (refine ⟨rfl, rfl, Or.inr ⟨rfl, hg1.mpr h1, _, hv, ?_⟩⟩; dsimp only; with_reducible exact hx)
            · rw [if_neg k2] at hx ⊢
              (refine ⟨rfl, rfl, Or.inr ⟨rfl, hg1.mpr h1, _, hv, ?_⟩⟩; dsimp only; with_reducible exact hx)
        · rw [if_neg d2]
          exact ⟨rfl, rfl, Or.inl ⟨rfl, fun h9 => d2 (hone.mpr (hg1.mp h9)).2⟩⟩
      · rw [if_neg d1]
        exact ⟨rfl, rfl, Or.inl ⟨rfl, fun h9 => d1 (hone.mpr (hg1.mp h9)).1⟩⟩
    · rw [if_neg c]
      have z : 0 < wV lx83 264 := w_sz1 i2.1 c
      rw [el] at z
      obtain ⟨b1, b2, b3, b4⟩ := w.bd h0 z A0 B0 hm0
      have hp := w_128_264
      have hd : (fun p => wK (h % l) p.1 ∧ wK (h / l) p.2) (F_WR_divideRows (264 : Int32) (264 : Int32) lx70 lx71 lx72 lx73 lx74 lx75 lx76 lx80 lx81 lx82 lx83) := (R_div4V i1 i2 z (Int.lt_of_lt_of_le (Int.lt_of_le_of_lt b3 hm1) w_p128)).2
      generalize (F_WR_divideRows (264 : Int32) (264 : Int32) lx70 lx71 lx72 lx73 lx74 lx75 lx76 lx80 lx81 lx82 lx83) = p219 at hd ⊢
      unfold F_WR_inverts_c55
      have hq : (fun p => wK (h / l * B) p.2) (F_WR_multiplyRows (264 : Int32) (264 : Int32) (264 : Int32) lx70 lx71 lx72 lx73 lx74 lx75 lx76 lx79 (p219.2 : (Nat → Int32)) lx85 lx78) := (R_mul4V hd.2 i4 (by omega)).2
      generalize (F_WR_multiplyRows (264 : Int32) (264 : Int32) (264 : Int32) lx70 lx71 lx72 lx73 lx74 lx75 lx76 lx79 (p219.2 : (Nat → Int32)) lx85 lx78) = p251 at hq ⊢
      unfold F_WR_inverts_c93
      have n0 := Int.emod_nonneg h (b := l) (by omega)
      have n1 := Int.emod_lt_of_pos h z
      have e1 := Int.emod_add_mul_ediv h l
      have hs264 : A + h / l * B < 65536 ^ 264 := by
        have h5 : (65536 : Int) ^ 129 ≤ 65536 ^ 264 := w_pwle (by omega)
        have h6 := w_pw 128
        have h7 := w_pos 128
        omega
      have hE2 : wEu n l (h % l) := hE.step (q := h / l) h0 z (by rw [Int.mul_comm, Int.add_comm]; exact e1) n0 n1
      by_cases k1 : lx75 = 0
      · rw [if_pos k1]
        unfold F_WR_inverts_J121
        have hs : wSum (sgI lx74 A + sgI 1 (h / l * B)) lx70 lx71 (F_WR_sum 264 lx74 264 1 lx70 lx71 lx72 lx73 lx74 lx75 lx76 lx77 lx84 p251.2) := (R_sumV w.1 (Or.inr rfl) i3 hq hs264).2
        have s6 : (F_WR_sum 264 lx74 264 1 lx70 lx71 lx72 lx73 lx74 lx75 lx76 lx77 lx84 p251.2).2.2.2.2.2.1 = lx75 := R_sum5
        generalize F_WR_sum 264 lx74 264 1 lx70 lx71 lx72 lx73 lx74 lx75 lx76 lx77 lx84 p251.2 = p309 at hs s6 ⊢
        unfold F_WR_inverts_c121
        obtain ⟨s1, s2, s3, u, s4, s5⟩ := hs
        rw [← s1, ← s2, s6]
        exact ih _ _ _ _ _ _ _ _ _ _ _ _ _ _ _ _ ⟨l, h % l, B, u, R_copy4 i2, R_copy4 hd.1, R_copy4 i4, R_copy4 s4, w.step h0 z A0 B0 hm0 (Or.inl ⟨k1, rfl⟩) s3 s5, w_gcdS h0 hg, hE2⟩
      · rw [if_neg k1]
        unfold F_WR_inverts_J121
        have hs : wSum (sgI lx74 A + sgI 0 (h / l * B)) lx70 lx71 (F_WR_sum 264 lx74 264 0 lx70 lx71 lx72 lx73 lx74 lx75 lx76 lx77 lx84 p251.2) := (R_sumV w.1 (Or.inl rfl) i3 hq hs264).2
        have s6 : (F_WR_sum 264 lx74 264 0 lx70 lx71 lx72 lx73 lx74 lx75 lx76 lx77 lx84 p251.2).2.2.2.2.2.1 = lx75 := R_sum5
        generalize F_WR_sum 264 lx74 264 0 lx70 lx71 lx72 lx73 lx74 lx75 lx76 lx77 lx84 p251.2 = p309 at hs s6 ⊢
        unfold F_WR_inverts_c121
        obtain ⟨s1, s2, s3, u, s4, s5⟩ := hs
        rw [← s1, ← s2, s6]
        exact ih _ _ _ _ _ _ _ _ _ _ _ _ _ _ _ _ ⟨l, h % l, B, u, R_copy4 i2, R_copy4 hd.1, R_copy4 i4, R_copy4 s4, w.step h0 z A0 B0 hm0 (Or.inr ⟨k1, rfl⟩) s3 s5, w_gcdS h0 hg, hE2⟩
theorem V_inverts {t0_0 : Int32} {t0_1 : Int32} {t0_2 : Int32} {t0_3 : Int32} {t0_4 : Int32} {t0_5 : Int32} {t0_6 : Int32} {t1_0 : (Nat → Int32)} {t2_0 : (Nat → Int32)} {t3_0 : (Nat → Int32)} {t4_0 : (Nat → Int32)} {t5_0 : (Nat → Int32)} {t6_0 : (Nat → Int32)} {t7_0 : (Nat → Int32)} {t8_0 : (Nat → Int32)} {t9_0 : (Nat → Int32)} {t10_0 : (Nat → Int32)} {va vm h : Int} (hm0 : 0 < vm) (hm : wK vm t10_0) (hm1 : vm < 65536 ^ 128) (hh : wK h t6_0) (hE : h = va % vm) : (F_WR_inverts t0_0 t0_1 t0_2 t0_3 t0_4 t0_5 t0_6 t1_0 t2_0 t3_0 t4_0 t5_0 t6_0 t7_0 t8_0 t9_0 t10_0).2.1 = t0_0 ∧ (F_WR_inverts t0_0 t0_1 t0_2 t0_3 t0_4 t0_5 t0_6 t1_0 t2_0 t3_0 t4_0 t5_0 t6_0 t7_0 t8_0 t9_0 t10_0).2.2.1 = t0_1 ∧ (((F_WR_inverts t0_0 t0_1 t0_2 t0_3 t0_4 t0_5 t0_6 t1_0 t2_0 t3_0 t4_0 t5_0 t6_0 t7_0 t8_0 t9_0 t10_0).1 = 0 ∧ Int.gcd va vm ≠ 1) ∨ ((F_WR_inverts t0_0 t0_1 t0_2 t0_3 t0_4 t0_5 t0_6 t1_0 t2_0 t3_0 t4_0 t5_0 t6_0 t7_0 t8_0 t9_0 t10_0).1 = 1 ∧ Int.gcd va vm = 1 ∧ ∃ x, vIv va vm 1 x ∧ wK x (F_WR_inverts t0_0 t0_1 t0_2 t0_3 t0_4 t0_5 t0_6 t1_0 t2_0 t3_0 t4_0 t5_0 t6_0 t7_0 t8_0 t9_0 t10_0).2.2.2.2.2.2.2.2.2.2.2.2.2.1)) := by
  have n0 := Int.emod_nonneg va (b := vm) (by omega)
  have n1 := Int.emod_lt_of_pos va hm0
  have hp := w_128_264
  have hg : Nat.gcd h.natAbs vm.natAbs = Int.gcd va vm := by
    have h1 := v_gcdM (a := va) (m := vm)
    rw [v_emd hm0] at h1
    rw [hE, Nat.gcd_comm]
    exact h1
  have hi : iv va vm h 1 := by
    refine ⟨-(va / vm), ?_⟩
    have e := Int.emod_def va vm
    rw [hE, e, Int.one_mul, Int.neg_mul, Int.mul_comm]
    omega
  unfold F_WR_inverts
  refine V_ivL hm0 hm hm1 _ _ _ _ _ _ _ _ _ _ _ _ _ _ _ _ _ ⟨h, vm, 1, 0, hh, R_copy4 hm, R_setOne.2, R_clear4, ⟨Or.inl rfl, Or.inl rfl, Or.inr ⟨by omega, rfl, rfl, rfl, rfl⟩, by omega, by rw [sgI0]; exact hi, by rw [sgI0]; exact v_iv0 va vm⟩, hg, wEu.start (by decide) (by omega) (by omega) (by omega) (by omega)⟩
