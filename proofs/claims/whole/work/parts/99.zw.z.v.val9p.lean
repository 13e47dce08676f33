/-! values, for whole: the class's dropZeros, shorten, divideToPrecision -/
theorem V_dzL {R : Int32} {x3 : Int64} {t0_0 : Int32} {t0_1 : Int32} {t1_0 : (Nat → Int32)} {t2_0 : Int32} {t2_1 : Int32} {t3_0 : (Nat → Int32)} (hR : R.toInt ≤ 220) : ∀ (n : Nat) (lx18 : Int32) (lx19 : Int32) (lx20 : Int32) (lx21 : (Nat → Int32)) (lx22 : Int32) (lx23 : Int32) (lx24 : (Nat → Int32)), ∀ v : Int, 10000 - lx18.toInt < (n : Int) → 0 ≤ lx18.toInt → lx18.toInt ≤ 10000 → v ≠ 0 → v.natAbs * 10 ^ lx18.toInt.toNat < 10 ^ 3000 → bI 220 lx19 lx20 lx21 → bO R lx22 lx23 lx24 v → ∃ w : Int, w.natAbs * 10 ^ (dzN (v.natAbs : Int) (x3.toInt - lx18.toInt).toNat) = v.natAbs ∧ (0 ≤ v → 0 ≤ w) ∧ (v ≤ 0 → w ≤ 0) ∧ (F_Mil_dropZeros_L3 R x3 t0_0 t0_1 t1_0 t2_0 t2_1 t3_0 n lx18 lx19 lx20 lx21 lx22 lx23 lx24).1.toInt = lx18.toInt + (dzN (v.natAbs : Int) (x3.toInt - lx18.toInt).toNat : Int) ∧ G2 (bI 220) (bW R w) (F_Mil_dropZeros_L3 R x3 t0_0 t0_1 t1_0 t2_0 t2_1 t3_0 n lx18 lx19 lx20 lx21 lx22 lx23 lx24).2 := by
  have e := e220
  have e0 : (0 : Int32).toInt = 0 := rfl
  have eT := v_eTT
  intro n
  induction n with
  | zero => intros; omega
  | succ n ih =>
    intro lx18 lx19 lx20 lx21 lx22 lx23 lx24 v hn hl hl2 v0 hB hw hv
    have k3 : lx18.toInt.toNat < 3000 := by
      by_cases c : lx18.toInt.toNat < 3000
      · exact c
      · exfalso
        have h1 : 10 ^ 3000 ≤ 10 ^ lx18.toInt.toNat := Nat.pow_le_pow_right (by decide) (by omega)
        have h2 : 1 * 10 ^ lx18.toInt.toNat ≤ v.natAbs * 10 ^ lx18.toInt.toNat := Nat.mul_le_mul_right _ (by omega)
        rw [Nat.one_mul] at h2
        exact absurd (Nat.lt_of_lt_of_le hB (Nat.le_trans h1 h2)) (Nat.lt_irrefl _)
    rw [F_Mil_dropZeros_L3.eq_2]
    by_cases g1 : 0 ≤ lg_cmp lx18.toInt64 x3
    · have g1' := g_lc5 g1
      rw [Int32.toInt_toInt64] at g1'
      rw [if_pos g1, show (x3.toInt - lx18.toInt).toNat = 0 by omega]
      exact ⟨v, Nat.mul_one _, id, id, (Int.add_zero _).symm, hw, hv⟩
    · have g1' := g_lc6 g1
      rw [Int32.toInt_toInt64] at g1'
      rw [if_neg g1]
      obtain ⟨K, hK⟩ : ∃ K, (x3.toInt - lx18.toInt).toNat = K + 1 := ⟨(x3.toInt - lx18.toInt).toNat - 1, by omega⟩
      rw [hK]
      have hp := hv.pos.mpr v0
      rw [if_neg (fun c => by have := q_leI c; omega), if_neg (fun c => by have := q_leI c; omega)]
      have h31 : P1 220 v (F_Big_copy (220 : Int32) R lx19 lx20 lx21 lx22 lx23 lx24) := W_copy hv hv.fit (by decide)
      generalize (F_Big_copy (220 : Int32) R lx19 lx20 lx21 lx22 lx23 lx24) = p81 at h31 ⊢
      unfold F_Mil_dropZeros_c31
      have hd := W_divS (x := 10) h31 (by decide)
      have hR2 := hv.2.2.2.1
      have hsz := (h31.szE hv)
      generalize F_Big_divideSmall 220 10 p81.1 p81.2.1 p81.2.2 = p105 at hd ⊢
      obtain ⟨d1, w, d2, d3, d4, d5⟩ := hd
      have d1' : p105.1.toInt = (v.natAbs : Int) % 10 := d1
      have d2' : w.natAbs = v.natAbs / 10 := d2
      unfold F_Mil_dropZeros_c40
      by_cases g4 : p105.1 = 0
      · rw [if_pos g4]
        rw [g4, e0] at d1'
        have hw10 : w.natAbs * 10 = v.natAbs := by omega
        have hws : p105.2.1.toInt ≤ p81.1.toInt := by
          refine d5.1.szL h31.1 ?_
          rw [d5.abs, h31.abs, d2]
          exact Int.ofNat_le.mpr (Nat.div_le_self _ _)
        have h54 : P1 R w (F_Big_copy R (220 : Int32) lx22 lx23 lx24 (p105.2.1 : Int32) (p105.2.2.1 : Int32) (p105.2.2.2 : (Nat → Int32))) := W_copy d5 (by omega) hR
        generalize (F_Big_copy R (220 : Int32) lx22 lx23 lx24 (p105.2.1 : Int32) (p105.2.2.1 : Int32) (p105.2.2.2 : (Nat → Int32))) = p132 at h54 ⊢
        unfold F_Mil_dropZeros_c54
        have ej : (lx18 + 1 : Int32).toInt = lx18.toInt + 1 := q_addI rfl v_e1 (by omega) (by omega)
        have hB2 : w.natAbs * 10 ^ (lx18 + 1 : Int32).toInt.toNat < 10 ^ 3000 := by
          rw [ej, show (lx18.toInt + 1).toNat = lx18.toInt.toNat + 1 by omega, Nat.pow_succ, Nat.mul_comm (10 ^ _) 10, ← Nat.mul_assoc, hw10]
          exact hB
        obtain ⟨u, u1, u2, u3, u4, u5⟩ := ih (lx18 + 1) p105.2.1 p105.2.2.1 p105.2.2.2 p132.1 p132.2.1 p132.2.2 w (by omega) (by omega) (by omega) (by omega) hB2 d5.I h54
        have ek : (x3.toInt - (lx18 + 1 : Int32).toInt).toNat = K := by omega
        have ez : dzN (v.natAbs : Int) (K + 1) = dzN (w.natAbs : Int) K + 1 := by
          show (if (v.natAbs : Int) % 10 = 0 then dzN ((v.natAbs : Int) / 10) K + 1 else 0) = _
          rw [if_pos d1'.symm, show (v.natAbs : Int) / 10 = (w.natAbs : Int) by omega]
        rw [ek] at u1 u4
        rw [ez]
        refine ⟨u, ?_, fun h => u2 (d3 h), fun h => u3 (d4 h), ?_, u5⟩
        · rw [Nat.pow_succ, ← Nat.mul_assoc, u1, hw10]
        · rw [u4, ej]
          omega
      · rw [if_neg g4]
        have ez : dzN (v.natAbs : Int) (K + 1) = 0 := if_neg (fun h => g4 (Int32.toInt_inj.mp (d1'.trans (h.trans e0.symm))))
        rw [ez]
        exact ⟨v, Nat.mul_one _, id, id, (Int.add_zero _).symm, d5.I, hv⟩
theorem v_b3 {M : Nat} {v : Int} (h : bB M v) (hM : M ≤ 219) : v.natAbs < 10 ^ 3000 := by
  have h1 : 2147483648 ^ M ≤ (10 ^ 10) ^ M := Nat.pow_le_pow_left (by decide) M
  rw [← Nat.pow_mul] at h1
  have h2 : 10 ^ (10 * M) ≤ 10 ^ 3000 := Nat.pow_le_pow_right (by decide) (by omega)
  exact Nat.lt_of_lt_of_le h (Nat.le_trans h1 h2)
theorem V_dropZeros {R : Int32} {x3 : Int64} {t0_0 : Int32} {t0_1 : Int32} {t1_0 : (Nat → Int32)} {t2_0 : Int32} {t2_1 : Int32} {t3_0 : (Nat → Int32)} {v : Int} {M : Nat} (hv : bO R t2_0 t2_1 t3_0 v) (hM : bB M v) (hM2 : M ≤ 219) (v0 : v ≠ 0) (hw : bI 220 t0_0 t0_1 t1_0) : ∃ w : Int, w.natAbs * 10 ^ (dzN (v.natAbs : Int) x3.toInt.toNat) = v.natAbs ∧ (0 ≤ v → 0 ≤ w) ∧ (v ≤ 0 → w ≤ 0) ∧ (F_Mil_dropZeros R x3 t0_0 t0_1 t1_0 t2_0 t2_1 t3_0).1.toInt = (dzN (v.natAbs : Int) x3.toInt.toNat : Int) ∧ G2 (bI 220) (bW R w) (F_Mil_dropZeros R x3 t0_0 t0_1 t1_0 t2_0 t2_1 t3_0).2 := by
  have e0 : (0 : Int32).toInt = 0 := rfl
  unfold F_Mil_dropZeros
  have h := V_dzL (x3 := x3) (t0_0 := t0_0) (t0_1 := t0_1) (t1_0 := t1_0) (t2_0 := t2_0) (t2_1 := t2_1) (t3_0 := t3_0) hv.2.2.2.2 ((10000 - (0 : Int32).toInt).toNat + 1) 0 t0_0 t0_1 t1_0 t2_0 t2_1 t3_0 v (by decide) (by decide) (by decide) v0 (by rw [e0]; show _ * 1 < _; rw [Nat.mul_one]; exact v_b3 hM hM2) hw hv
  rw [e0, Int.sub_zero, Int.zero_add] at h
  exact h
theorem dzN_le (u : Int) : ∀ f : Nat, dzN u f ≤ f
  | 0 => Nat.le_refl _
  | f + 1 => by
    show (if u % 10 = 0 then dzN (u / 10) f + 1 else 0) ≤ f + 1
    have := dzN_le (u / 10) f
    split <;> omega
/-- signed back -/
theorem sg_back {g : Int32} {u w X : Int} {P : Nat} (hX : 0 ≤ X) (hg : g = 0 ∨ g = 1) (hP : 0 < P) (h : w.natAbs * P = (sgI g X).natAbs) (h1 : 0 ≤ sgI g X → 0 ≤ w) (h2 : sgI g X ≤ 0 → w ≤ 0) : w = sgI g (X / (P : Int)) := by
  rw [sgI_abs] at h
  have e1 : X / (P : Int) = (w.natAbs : Int) := by
    have e2 : (X.natAbs : Int) = X := Int.natAbs_of_nonneg hX
    rw [← e2, ← Int.natCast_ediv, ← h, Nat.mul_div_cancel _ hP]
  rw [e1]
  unfold sgI at *
  rcases hg with e | e
  · rw [if_pos e] at h1 ⊢
    have := h1 hX
    omega
  · have n : ¬ g = 0 := by rw [e]; decide
    rw [if_neg n] at h2 ⊢
    have := h2 (by omega)
    omega
theorem V_shortenJ {x2 : Int32} {x3 : Int32} {x4 : Int64} {x5 : Int32} {t0_0 : Int64} {t0_1 : Int32} {t1_0 : Int32} {t1_1 : Int32} {t2_0 : (Nat → Int32)} {t3_0 : Int32} {t3_1 : Int32} {t4_0 : (Nat → Int32)} {t5_0 : Int32} {t5_1 : Int32} {t6_0 : (Nat → Int32)} {p44 : (Int32 × Int32 × (Nat → Int32))} {lx54 : Int32} {lx55 : Int32} {lx56 : Int32} {lx57 : (Nat → Int32)} {t w wish : Int} {p M : Nat} (h : bO 220 t1_0 t1_1 t2_0 t) (hM : bB M t) (hM2 : M + 1 ≤ 217) (h2 : x2 = 0 ∨ x2 = 1) (hp : x3.toInt = (p : Int)) (hp1 : 1 ≤ p) (hw : t0_0.toInt = w) (hw2 : -100000 ≤ w ∧ w ≤ 100000) (hx : x4.toInt = wish) (hx2 : -100000 ≤ wish ∧ wish ≤ 100000) (h5 : 0 ≤ x5.toInt ∧ x5.toInt ≤ 7) (r1 : (10 : Int) ^ p ≤ t) (r2 : t < 10 ^ (p + 1)) (i2 : bI 220 t5_0 t5_1 t6_0) (hex : ((t % 10 = 0 ∧ t0_1 = 0) ∧ lx54 = 1) ∨ (¬ (t % 10 = 0 ∧ t0_1 = 0) ∧ lx54 = 0)) : ((F_DW_shorten_J44 x2 x3 x4 x5 t0_0 t0_1 t1_0 t1_1 t2_0 t3_0 t3_1 t4_0 t5_0 t5_1 t6_0 p44 lx54 lx55 lx56 lx57).1 = 0 ∧ sSht x5 x2 t0_1 p t wish w = none) ∨ ((F_DW_shorten_J44 x2 x3 x4 x5 t0_0 t0_1 t1_0 t1_1 t2_0 t3_0 t3_1 t4_0 t5_0 t5_1 t6_0 p44 lx54 lx55 lx56 lx57).1 = 1 ∧ ∃ q, sSht x5 x2 t0_1 p t wish w = some q ∧ (F_DW_shorten_J44 x2 x3 x4 x5 t0_0 t0_1 t1_0 t1_1 t2_0 t3_0 t3_1 t4_0 t5_0 t5_1 t6_0 p44 lx54 lx55 lx56 lx57).2.1.toInt = q.2 ∧ bO 220 (F_DW_shorten_J44 x2 x3 x4 x5 t0_0 t0_1 t1_0 t1_1 t2_0 t3_0 t3_1 t4_0 t5_0 t5_1 t6_0 p44 lx54 lx55 lx56 lx57).2.2.2.1 (F_DW_shorten_J44 x2 x3 x4 x5 t0_0 t0_1 t1_0 t1_1 t2_0 t3_0 t3_1 t4_0 t5_0 t5_1 t6_0 p44 lx54 lx55 lx56 lx57).2.2.2.2.1 (F_DW_shorten_J44 x2 x3 x4 x5 t0_0 t0_1 t1_0 t1_1 t2_0 t3_0 t3_1 t4_0 t5_0 t5_1 t6_0 p44 lx54 lx55 lx56 lx57).2.2.2.2.2.1 (sgI x2 q.1) ∧ bB 217 (sgI x2 q.1)) := by
  have t0 : 0 ≤ t := Int.le_trans (Int.le_of_lt (u_pos p)) r1
  have hr := V_roundLast (x2 := x2) (x3 := x5) (t0_0 := t0_0) (t0_1 := t0_1) (t3_0 := lx55) (t3_1 := lx56) (t4_0 := lx57) h t0 hM (by omega) h2 h5
  unfold F_DW_shorten_J44
  generalize F_DW_roundLast x2 x5 t0_0 t0_1 t1_0 t1_1 t2_0 lx55 lx56 lx57 = p106 at hr ⊢
  unfold F_DW_shorten_c50 sSht
  rcases hex with ⟨ex, e54⟩ | ⟨ex, e54⟩
  · rw [rGr_ex ex.1 ex.2] at hr
    obtain ⟨_, c1, c2, c3⟩ := hr.resolve_left (fun h => absurd h.1 (by decide))
    rw [show (0 : Int32).toInt = 0 from rfl, Int.add_zero] at c2 c3
    rw [if_neg (show ¬ p106.1 = 0 by rw [c1]; decide), if_neg (show ¬ lx54 = 0 by rw [e54]; decide), if_pos ex]
    have p10 : (10 : Int) ≤ 10 ^ p := by
      obtain ⟨k, rfl⟩ : ∃ k, p = k + 1 := ⟨p - 1, by omega⟩
      have := u_pos k
      rw [u_pw]
      omega
    have q0 : 0 < t / 10 := by omega
    have ne : sgI x2 (t / 10) ≠ 0 := fun h => by
      have h3 := congrArg Int.natAbs h
      rw [sgI_abs] at h3
      omega
    have es : (t0_0 - x4 : Int64).toInt = w - wish := q_subL hw hx (by omega) (by omega)
    obtain ⟨u, u1, u2, u3, u4, u5, u6⟩ := V_dropZeros (R := 220) (x3 := t0_0 - x4) (t0_0 := t5_0) (t0_1 := t5_1) (t1_0 := t6_0) c2 c3 (by omega) ne i2
    generalize F_Mil_dropZeros 220 (t0_0 - x4) t5_0 t5_1 t6_0 p106.2.1 p106.2.2.1 p106.2.2.2.1 = p214 at u4 u5 u6 ⊢
    unfold F_DW_shorten_c85
    rw [es, sgI_abs, Int.natAbs_of_nonneg (Int.le_of_lt q0)] at u4
    rw [es, sgI_abs (v := t / 10)] at u1
    rw [Int.natAbs_of_nonneg (Int.le_of_lt q0)] at u1
    have hdz := dzN_le (t / 10) (w - wish).toNat
    generalize dzN (t / 10) (w - wish).toNat = k at *
    have eu := sg_back (g := x2) (X := t / 10) (w := u) (P := 10 ^ k) (u := 0) (Int.le_of_lt q0) h2 (Nat.pow_pos (by decide)) (by rw [sgI_abs]; exact u1) u2 u3
    rw [Int.natCast_pow] at eu
    refine Or.inr ⟨rfl, _, rfl, ?_, ?_, ?_⟩
    · show (t0_0 - p214.1.toInt64 : Int64).toInt = w - (k : Int)
      exact q_subL hw ((Int32.toInt_toInt64 _).trans u4) (by omega) (by omega)
    · show bO 220 _ _ _ (sgI x2 (t / 10 / 10 ^ k))
      rw [show ((10 : Nat) : Int) = 10 from rfl] at eu
      rw [← eu]
      exact u6
    · show bB 217 (sgI x2 (t / 10 / 10 ^ k))
      rw [show ((10 : Nat) : Int) = 10 from rfl] at eu
      rw [← eu]
      refine (c3.mono hM2).le ?_
      rw [sgI_abs, ← u1]
      exact Nat.le_mul_of_pos_right _ (Nat.pow_pos (by decide))
  · unfold sRnd
    rcases hr with ⟨g, y0⟩ | ⟨g, y1, y2, y3⟩
    · rw [if_pos y0, if_neg ex, if_pos g]
      exact Or.inl ⟨rfl, rfl⟩
    · rw [if_neg (show ¬ p106.1 = 0 by rw [y1]; decide), if_pos e54, if_neg ex, if_neg g]
      have g01 := rGr_01 g
      generalize rGr x5 x2 t0_1 t = G at *
      have G01 : G.toInt = 0 ∨ G.toInt = 1 := g01.imp (fun h => by rw [h]; rfl) (fun h => by rw [h]; rfl)
      have u0 : 0 ≤ t / 10 + G.toInt := by omega
      have u1 : t / 10 + G.toInt ≤ 10 ^ p := by
        rw [u_pw] at r2
        omega
      generalize t / 10 + G.toInt = U at *
      obtain ⟨⟨d, d1, d2⟩, d3⟩ := V_countFigures y2 y3 (by omega) i2
      generalize F_Mil_countFigures 220 t5_0 t5_1 t6_0 p106.2.1 p106.2.2.1 p106.2.2.2.1 = p139 at d1 d3 ⊢
      unfold F_DW_shorten_c107
      have hd : d ≤ p ↔ U < 10 ^ p := by
        rw [vG_le d2 hp1, sgI_abs]
        constructor
        · intro h3
          have h4 := Int.ofNat_lt.mpr h3
          rw [Int.natCast_pow] at h4
          rw [← Int.natAbs_of_nonneg u0]
          exact h4
        · intro h3
          refine Int.ofNat_lt.mp ?_
          rw [Int.natCast_pow, Int.natAbs_of_nonneg u0]
          exact h3
      by_cases c : p139.1 ≤ x3
      · have c2 := q_leI c
        have lt := hd.mp (by omega)
        rw [if_pos c]
        refine Or.inr ⟨rfl, _, rfl, ?_⟩
        rw [show sFull p w U = (U, w) from if_neg (Int.ne_of_lt lt)]
        exact ⟨hw, y2, y3.mono hM2⟩
      · have c2 := q_nleI c
        have eU : U = 10 ^ p := by
          have : ¬ U < 10 ^ p := fun h3 => by
            have := hd.mpr h3
            omega
          omega
        rw [if_neg c]
        obtain ⟨x, x1, x2', x3', x4', x5'⟩ := V_drop (x2 := 1) y2
        generalize F_Big_dropFigures 220 1 p106.2.1 p106.2.2.1 p106.2.2.2.1 = p170 at x4' x5' ⊢
        unfold F_DW_shorten_c122
        refine Or.inr ⟨rfl, _, rfl, ?_⟩
        rw [show sFull p w U = (10 ^ (p - 1), w - 1) from if_pos eU]
        have e7 : (10 : Int) ^ p = 10 ^ (p - 1) * 10 := by
          obtain ⟨k, rfl⟩ : ∃ k, p = k + 1 := ⟨p - 1, by omega⟩
          rw [Nat.add_sub_cancel]
          exact u_pw k
        have p1 := u_pos (p - 1)
        have x1' : x.natAbs * 10 = (sgI x2 U).natAbs := by
          have : x.natAbs = (sgI x2 U).natAbs / 10 := x1
          rw [sgI_abs] at this ⊢
          omega
        have ex := sg_back (g := x2) (X := U) (w := x) (P := 10) (u := 0) u0 h2 (by decide) x1' x2' x3'
        have eV : U / ((10 : Nat) : Int) = 10 ^ (p - 1) := by
          show U / 10 = _
          omega
        rw [eV] at ex
        refine ⟨q_subL hw rfl (by omega) (by omega), ?_, ?_⟩
        · show bO 220 _ _ _ (sgI x2 (10 ^ (p - 1)))
          rw [← ex]
          exact x5'
        · show bB 217 (sgI x2 (10 ^ (p - 1)))
          rw [← ex]
          refine (y3.mono hM2).le ?_
          omega
theorem V_shorten {x2 : Int32} {x3 : Int32} {x4 : Int64} {x5 : Int32} {t0_0 : Int64} {t0_1 : Int32} {t1_0 : Int32} {t1_1 : Int32} {t2_0 : (Nat → Int32)} {t3_0 : Int32} {t3_1 : Int32} {t4_0 : (Nat → Int32)} {t5_0 : Int32} {t5_1 : Int32} {t6_0 : (Nat → Int32)} {t w wish : Int} {p M : Nat} (h : bO 220 t1_0 t1_1 t2_0 t) (hM : bB M t) (hM2 : M + 1 ≤ 217) (h2 : x2 = 0 ∨ x2 = 1) (hp : x3.toInt = (p : Int)) (hp1 : 1 ≤ p) (hw : t0_0.toInt = w) (hw2 : -100000 ≤ w ∧ w ≤ 100000) (hx : x4.toInt = wish) (hx2 : -100000 ≤ wish ∧ wish ≤ 100000) (h5 : 0 ≤ x5.toInt ∧ x5.toInt ≤ 7) (r1 : (10 : Int) ^ p ≤ t) (r2 : t < 10 ^ (p + 1)) (i2 : bI 220 t5_0 t5_1 t6_0) : ((F_DW_shorten x2 x3 x4 x5 t0_0 t0_1 t1_0 t1_1 t2_0 t3_0 t3_1 t4_0 t5_0 t5_1 t6_0).1 = 0 ∧ sSht x5 x2 t0_1 p t wish w = none) ∨ ((F_DW_shorten x2 x3 x4 x5 t0_0 t0_1 t1_0 t1_1 t2_0 t3_0 t3_1 t4_0 t5_0 t5_1 t6_0).1 = 1 ∧ ∃ q, sSht x5 x2 t0_1 p t wish w = some q ∧ (F_DW_shorten x2 x3 x4 x5 t0_0 t0_1 t1_0 t1_1 t2_0 t3_0 t3_1 t4_0 t5_0 t5_1 t6_0).2.1.toInt = q.2 ∧ bO 220 (F_DW_shorten x2 x3 x4 x5 t0_0 t0_1 t1_0 t1_1 t2_0 t3_0 t3_1 t4_0 t5_0 t5_1 t6_0).2.2.2.1 (F_DW_shorten x2 x3 x4 x5 t0_0 t0_1 t1_0 t1_1 t2_0 t3_0 t3_1 t4_0 t5_0 t5_1 t6_0).2.2.2.2.1 (F_DW_shorten x2 x3 x4 x5 t0_0 t0_1 t1_0 t1_1 t2_0 t3_0 t3_1 t4_0 t5_0 t5_1 t6_0).2.2.2.2.2.1 (sgI x2 q.1) ∧ bB 217 (sgI x2 q.1)) := by
  have t0 : 0 ≤ t := Int.le_trans (Int.le_of_lt (u_pos p)) r1
  unfold F_DW_shorten
  have h1 : P1 220 t (F_Big_copy (220 : Int32) (220 : Int32) t3_0 t3_1 t4_0 t1_0 t1_1 t2_0) := W_copy h h.fit (by decide)
  generalize (F_Big_copy (220 : Int32) (220 : Int32) t3_0 t3_1 t4_0 t1_0 t1_1 t2_0) = p44 at h1 ⊢
  unfold F_DW_shorten_c14
  by_cases c : t0_1 = 0
  · rw [if_pos c]
    obtain ⟨d1, _⟩ := W_divS (x := 10) h1 (by decide)
    have d1' : (F_Big_divideSmall 220 10 p44.1 p44.2.1 p44.2.2).1.toInt = (t.natAbs : Int) % 10 := d1
    rw [Int.natAbs_of_nonneg t0] at d1'
    generalize F_Big_divideSmall 220 10 p44.1 p44.2.1 p44.2.2 = p275 at d1' ⊢
    unfold F_DW_shorten_c33 F_DW_shorten_J43
    by_cases d : p275.1 = 0
    · rw [if_pos d]
      rw [d] at d1'
      exact V_shortenJ h hM hM2 h2 hp hp1 hw hw2 hx hx2 h5 r1 r2 i2 (Or.inl ⟨⟨d1'.symm, c⟩, rfl⟩)
    · rw [if_neg d]
      exact V_shortenJ h hM hM2 h2 hp hp1 hw hw2 hx hx2 h5 r1 r2 i2 (Or.inr ⟨fun g => d (Int32.toInt_inj.mp (d1'.trans g.1)), rfl⟩)
  · rw [if_neg c]
    unfold F_DW_shorten_J43
    exact V_shortenJ h hM hM2 h2 hp hp1 hw hw2 hx hx2 h5 r1 r2 i2 (Or.inr ⟨fun g => c g.2, rfl⟩)
