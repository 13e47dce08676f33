/-! values: Euclid with factors -/
def bE (h l H L m : Int) : Prop := 0 ≤ l ∧ l < h ∧ h * (L.natAbs : Int) + l * (H.natAbs : Int) = m ∧ (H.natAbs : Int) ≤ m ∧ ((0 ≤ H ∧ L ≤ 0) ∨ (H ≤ 0 ∧ 0 ≤ L))
theorem bE.L {h l H L m : Int} (e : bE h l H L m) : (L.natAbs : Int) ≤ m := by
  obtain ⟨h1, h2, h3, h4, h5⟩ := e
  have h6 : 1 * (L.natAbs : Int) ≤ h * (L.natAbs : Int) := Int.mul_le_mul_of_nonneg_right (by omega) (by omega)
  have h7 : 0 ≤ l * (H.natAbs : Int) := Int.mul_nonneg h1 (by omega)
  omega
theorem v_hqr {h l : Int} (h0 : 0 ≤ h) (l0 : 0 < l) : h = l * ((h.natAbs / l.natAbs : Nat) : Int) + h.tmod l ∧ 0 ≤ h.tmod l ∧ h.tmod l < l := by
  have e1 : h = (h.natAbs : Int) := by omega
  have e2 : l = (l.natAbs : Int) := by omega
  generalize h.natAbs = a at e1 ⊢
  generalize l.natAbs = b at e2 ⊢
  subst e1
  subst e2
  rw [← Int.ofNat_tmod]
  have h1 := Nat.div_add_mod a b
  have h2 := Nat.mod_lt a (y := b) (by omega)
  refine ⟨?_, by omega, by omega⟩
  rw [← Int.natCast_mul]
  omega
theorem v_eucl {h l q r x y m : Int} (e : h = l * q + r) (f : h * y + l * x = m) : l * (x + q * y) + r * y = m := by
  subst e
  rw [Int.add_mul] at f
  rw [Int.mul_add, ← Int.mul_assoc]
  omega
theorem v_le1 {l x m : Int} (hl : 0 < l) (hx : 0 ≤ x) (h : l * x ≤ m) : x ≤ m := by
  have h6 : 1 * x ≤ l * x := Int.mul_le_mul_of_nonneg_right (by omega) hx
  omega
theorem bE.step {h l H L m : Int} (e : bE h l H L m) (l0 : l ≠ 0) : bE l (h.tmod l) L (H - ((h.natAbs / l.natAbs : Nat) : Int) * L) m ∧ ((((h.natAbs / l.natAbs : Nat) : Int) * L).natAbs : Int) ≤ m := by
  have eL := e.L
  obtain ⟨h1, h2, h3, h4, h5⟩ := e
  obtain ⟨k1, k2, k3⟩ := v_hqr (h := h) (l := l) (by omega) (by omega)
  have q0 : 0 ≤ ((h.natAbs / l.natAbs : Nat) : Int) := Int.natCast_nonneg _
  generalize ((h.natAbs / l.natAbs : Nat) : Int) = q at k1 q0 ⊢
  generalize h.tmod l = r at k1 k2 k3 ⊢
  have k4 := v_eucl k1 h3
  have t0 : 0 ≤ q * (L.natAbs : Int) := Int.mul_nonneg q0 (by omega)
  have ry : 0 ≤ r * (L.natAbs : Int) := Int.mul_nonneg k2 (by omega)
  have k5 : ((H.natAbs : Int) + q * (L.natAbs : Int)) ≤ m := v_le1 (l := l) (by omega) (by omega) (by omega)
  have key : ((H - q * L).natAbs : Int) = (H.natAbs : Int) + q * (L.natAbs : Int) ∧ ((q * L).natAbs : Int) = q * (L.natAbs : Int) ∧ ((0 ≤ L ∧ H - q * L ≤ 0) ∨ (L ≤ 0 ∧ 0 ≤ H - q * L)) := by
    rcases h5 with ⟨a, b⟩ | ⟨a, b⟩
    · have eq : q * L = -(q * (L.natAbs : Int)) := by
        rw [← Int.mul_neg]
        congr 1
        omega
      rw [eq]
      generalize q * (L.natAbs : Int) = t at t0 ⊢
      omega
    · have eq : q * L = q * (L.natAbs : Int) := by
        congr 1
        omega
      rw [eq]
      generalize q * (L.natAbs : Int) = t at t0 ⊢
      omega
  obtain ⟨c1, c2, c3⟩ := key
  refine ⟨⟨k2, k3, ?_, eL, c3⟩, ?_⟩
  · rw [c1]
    exact k4
  · rw [c2]
    omega
abbrev G7 (a b c d e f g : bT) (p : Int32 × Int32 × (Nat → Int32) × Int32 × Int32 × (Nat → Int32) × Int32 × Int32 × (Nat → Int32) × Int32 × Int32 × (Nat → Int32) × Int32 × Int32 × (Nat → Int32) × Int32 × Int32 × (Nat → Int32) × Int32 × Int32 × (Nat → Int32)) : Prop := a p.1 p.2.1 p.2.2.1 ∧ G6 b c d e f g p.2.2.2
abbrev G8 (a b c d e f g h : bT) (p : Int32 × Int32 × (Nat → Int32) × Int32 × Int32 × (Nat → Int32) × Int32 × Int32 × (Nat → Int32) × Int32 × Int32 × (Nat → Int32) × Int32 × Int32 × (Nat → Int32) × Int32 × Int32 × (Nat → Int32) × Int32 × Int32 × (Nat → Int32) × Int32 × Int32 × (Nat → Int32)) : Prop := a p.1 p.2.1 p.2.2.1 ∧ G7 b c d e f g h p.2.2.2
theorem v_mU {H m : Int} (hm : 0 < m) : 0 ≤ (if H.tmod m < 0 then H.tmod m + m else H.tmod m) ∧ (if H.tmod m < 0 then H.tmod m + m else H.tmod m).natAbs < m.natAbs := by
  have h := v_tmU (u := H) (m := m) (by omega)
  split <;> omega
theorem bB.i {M : Nat} {u v : Int} (h : bB M v) (hu : (u.natAbs : Int) ≤ v) : bB M u := h.le (by omega)
theorem T_inverseL {R : Int32} {R2 : Int32} {t0_0 : Int32} {t0_1 : Int32} {t1_0 : (Nat → Int32)} {t2_0 : Int32} {t2_1 : Int32} {t3_0 : (Nat → Int32)} {t4_0 : Int32} {t4_1 : Int32} {t5_0 : (Nat → Int32)} {t6_0 : Int32} {t6_1 : Int32} {t7_0 : (Nat → Int32)} {t8_0 : Int32} {t8_1 : Int32} {t9_0 : (Nat → Int32)} {t10_0 : Int32} {t10_1 : Int32} {t11_0 : (Nat → Int32)} {t12_0 : Int32} {t12_1 : Int32} {t13_0 : (Nat → Int32)} {t14_0 : Int32} {t14_1 : Int32} {t15_0 : (Nat → Int32)} {t16_0 : Int32} {t16_1 : Int32} {t17_0 : (Nat → Int32)} {p88 : (Int32 × Int32 × (Nat → Int32))} {y77 : Int32} {y78 : Int32} {f79 : (Nat → Int32)} {p135 : (Int32 × Int32 × (Nat → Int32) × Int32 × Int32 × (Nat → Int32) × Int32 × Int32 × (Nat → Int32))} {y104 : Int32} {y105 : Int32} {f106 : (Nat → Int32)} {y114 : Int32} {y115 : Int32} {f116 : (Nat → Int32)} {y109 : Int32} {y110 : Int32} {f111 : (Nat → Int32)} {p162 : (Int32 × Int32)} {y154 : Int32} {y155 : Int32} {p185 : (Int32 × Int32 × (Nat → Int32))} {vm : Int} {M : Nat} (hm0 : 0 < vm) (hMm : bB M vm) (hM : 2 * M + 2 ≤ 220) (hm : bO R2 y109 y110 f111 vm) : ∀ (n : Nat) (lx215 : Int32) (lx216 : Int32) (lx217 : Int32) (lx218 : (Nat → Int32)) (lx219 : Int32) (lx220 : Int32) (lx221 : (Nat → Int32)) (lx222 : Int32) (lx223 : Int32) (lx224 : (Nat → Int32)) (lx225 : Int32) (lx226 : Int32) (lx227 : (Nat → Int32)) (lx228 : Int32) (lx229 : Int32) (lx230 : (Nat → Int32)) (lx231 : Int32) (lx232 : Int32) (lx233 : (Nat → Int32)), 0 < n → 10000 - lx215.toInt < (n : Int) → 0 ≤ lx215.toInt → lx215.toInt ≤ 10001 → bI 220 lx216 lx217 lx218 → bI 220 lx219 lx220 lx221 → (∃ h l H L, bE h l H L vm ∧ bB M h ∧ bO 220 lx222 lx223 lx224 h ∧ bO 220 lx225 lx226 lx227 l ∧ bO 220 lx228 lx229 lx230 H ∧ bO 220 lx231 lx232 lx233 L) → (S_Mil_inverse_L50 R R2 t0_0 t0_1 t1_0 t2_0 t2_1 t3_0 t4_0 t4_1 t5_0 t6_0 t6_1 t7_0 t8_0 t8_1 t9_0 t10_0 t10_1 t11_0 t12_0 t12_1 t13_0 t14_0 t14_1 t15_0 t16_0 t16_1 t17_0 p88 y77 y78 f79 p135 y104 y105 f106 y114 y115 f116 y109 y110 f111 p162 y154 y155 p185 n lx215 lx216 lx217 lx218 lx219 lx220 lx221 lx222 lx223 lx224 lx225 lx226 lx227 lx228 lx229 lx230 lx231 lx232 lx233) ∧ G8 (bU 220 vm 0) (bI 220) (bI 220) (bI 220) (bI 220) (bI 220) (bI 220) (bW R2 vm) (F_Mil_inverse_L50 R R2 t0_0 t0_1 t1_0 t2_0 t2_1 t3_0 t4_0 t4_1 t5_0 t6_0 t6_1 t7_0 t8_0 t8_1 t9_0 t10_0 t10_1 t11_0 t12_0 t12_1 t13_0 t14_0 t14_1 t15_0 t16_0 t16_1 t17_0 p88 y77 y78 f79 p135 y104 y105 f106 y114 y115 f116 y109 y110 f111 p162 y154 y155 p185 n lx215 lx216 lx217 lx218 lx219 lx220 lx221 lx222 lx223 lx224 lx225 lx226 lx227 lx228 lx229 lx230 lx231 lx232 lx233).2 := by
  have e := e220
  have e0 : (0 : Int32).toInt = 0 := rfl
  have eT := v_eTT
  have sm := hm.sB hMm
  intro n
  induction n with
  | zero => intros; omega
  | succ n ih =>
    intro lx215 lx216 lx217 lx218 lx219 lx220 lx221 lx222 lx223 lx224 lx225 lx226 lx227 lx228 lx229 lx230 lx231 lx232 lx233 hn hl hl0 hl1 hq hw hh
    rw [S_Mil_inverse_L50.eq_2, F_Mil_inverse_L50.eq_2]
    obtain ⟨h, l, H, L, hE, hB, i1, i2, i3, i4⟩ := hh
    have hE0 := hE
    obtain ⟨E1, E2, E3, E4, E5⟩ := hE0
    have EL := hE.L
    have s1 := i1.sB hB
    have s2 := i2.sB (hB.le (by omega : l.natAbs ≤ h.natAbs))
    have s3 := i3.sB (hMm.i E4)
    have s4 := i4.sB (hMm.i EL)
    by_cases hj : 10000 ≤ lx215
    · rw [if_pos hj, if_pos hj]
      have h135 : S_Mil_modulo (220 : Int32) R2 (220 : Int32) lx216 lx217 lx218 lx228 lx229 lx230 y109 y110 f111 t0_0 t0_1 t1_0 ∧ P3 220 R2 220 ((H.natAbs / vm.natAbs : Nat) : Int) vm (if H.tmod vm < 0 then H.tmod vm + vm else H.tmod vm) (F_Mil_modulo (220 : Int32) R2 (220 : Int32) lx216 lx217 lx218 lx228 lx229 lx230 y109 y110 f111 t0_0 t0_1 t1_0) := T_modulo (M := M) i3 hm (by omega) (hMm.i E4) (by omega) (by omega) (by decide)
      refine v_owe h135.1 ?_
      replace h135 := h135.2
      generalize (F_Mil_modulo (220 : Int32) R2 (220 : Int32) lx216 lx217 lx218 lx228 lx229 lx230 y109 y110 f111 t0_0 t0_1 t1_0) = p331 at h135 ⊢
      unfold S_Mil_inverse_c135 F_Mil_inverse_c135
      exact ⟨trivial, ⟨_, (v_mU hm0).2, fun _ => (v_mU hm0).1, h135.2.2⟩, h135.1.I, hw, i1.I, i2.I, i3.I, i4.I, h135.2.1⟩
    rw [if_neg hj, if_neg hj]
    have hj2 := q_nleI hj
    by_cases hk : lx225 ≤ 0
    · rw [if_pos hk, if_pos hk]
      have h135 : S_Mil_modulo (220 : Int32) R2 (220 : Int32) lx216 lx217 lx218 lx228 lx229 lx230 y109 y110 f111 t0_0 t0_1 t1_0 ∧ P3 220 R2 220 ((H.natAbs / vm.natAbs : Nat) : Int) vm (if H.tmod vm < 0 then H.tmod vm + vm else H.tmod vm) (F_Mil_modulo (220 : Int32) R2 (220 : Int32) lx216 lx217 lx218 lx228 lx229 lx230 y109 y110 f111 t0_0 t0_1 t1_0) := T_modulo (M := M) i3 hm (by omega) (hMm.i E4) (by omega) (by omega) (by decide)
      refine v_owe h135.1 ?_
      replace h135 := h135.2
      generalize (F_Mil_modulo (220 : Int32) R2 (220 : Int32) lx216 lx217 lx218 lx228 lx229 lx230 y109 y110 f111 t0_0 t0_1 t1_0) = p396 at h135 ⊢
      unfold S_Mil_inverse_c135_7 F_Mil_inverse_c135_7
      exact ⟨trivial, ⟨_, (v_mU hm0).2, fun _ => (v_mU hm0).1, h135.2.2⟩, h135.1.I, hw, i1.I, i2.I, i3.I, i4.I, h135.2.1⟩
    rw [if_neg hk, if_neg hk]
    have w0 := i2.pos.mp (v_nle0 hk)
    have h73 : S_Big_divideBy (220 : Int32) (220 : Int32) (220 : Int32) lx222 lx223 lx224 lx225 lx226 lx227 lx216 lx217 lx218 ∧ P3 220 220 220 (h.tmod l) l ((h.natAbs / l.natAbs : Nat) : Int) (F_Big_divideBy (220 : Int32) (220 : Int32) (220 : Int32) lx222 lx223 lx224 lx225 lx226 lx227 lx216 lx217 lx218) := W_divideBy i1 i2 w0 (by omega) (by omega) (by decide)
    refine v_owe h73.1 ?_
    replace h73 := h73.2
    generalize (F_Big_divideBy (220 : Int32) (220 : Int32) (220 : Int32) lx222 lx223 lx224 lx225 lx226 lx227 lx216 lx217 lx218) = p457 at h73 ⊢
    unfold S_Mil_inverse_c73 F_Mil_inverse_c73
    obtain ⟨hE2, hqL⟩ := hE.step w0
    have sq := h73.2.2.sB (hB.ndiv (v := l))
    have q0 : 0 ≤ ((h.natAbs / l.natAbs : Nat) : Int) := Int.natCast_nonneg _
    generalize ((h.natAbs / l.natAbs : Nat) : Int) = q at h73 hE2 hqL sq q0
    have hB2 : bB M l := hB.le (by omega)
    have h86 : P1 220 (q * L) (F_Big_product (220 : Int32) (220 : Int32) (220 : Int32) lx219 lx220 lx221 (p457.2.2.2.2.2.2.1 : Int32) (p457.2.2.2.2.2.2.2.1 : Int32) (p457.2.2.2.2.2.2.2.2 : (Nat → Int32)) lx231 lx232 lx233) := W_product h73.2.2 i4 (by decide) (by omega)
    generalize (F_Big_product (220 : Int32) (220 : Int32) (220 : Int32) lx219 lx220 lx221 (p457.2.2.2.2.2.2.1 : Int32) (p457.2.2.2.2.2.2.2.1 : Int32) (p457.2.2.2.2.2.2.2.2 : (Nat → Int32)) lx231 lx232 lx233) = p486 at h86 ⊢
    unfold S_Mil_inverse_c86 F_Mil_inverse_c86
    have s86 := h86.sB (hMm.i hqL)
    have h96 : P1 220 (H - q * L) (F_Big_addSigned (220 : Int32) (220 : Int32) (1 : Int32) lx228 lx229 lx230 (p486.1 : Int32) (p486.2.1 : Int32) (p486.2.2 : (Nat → Int32))) := W_add (x := 1) i3 h86 (Or.inr rfl) (by omega) (by omega)
    generalize (F_Big_addSigned (220 : Int32) (220 : Int32) (1 : Int32) lx228 lx229 lx230 (p486.1 : Int32) (p486.2.1 : Int32) (p486.2.2 : (Nat → Int32))) = p509 at h96 ⊢
    unfold S_Mil_inverse_c96 F_Mil_inverse_c96
    have ej : (lx215 + 1 : Int32).toInt = lx215.toInt + 1 := q_addI rfl v_e1 (by omega) (by omega)
    have hE3 := hE2
    obtain ⟨D1, D2, D3, D4, D5⟩ := hE3
    have DL := hE2.L
    generalize h.tmod l = r at h73 hE2 D1 D2 D3
    generalize H - q * L = L2 at h96 hE2 D3 D5 DL
    have t1 := h73.1.sB (hB2.le (by omega : r.natAbs ≤ l.natAbs))
    have t2 := h73.2.1.sB hB2
    have t4 := h96.sB (hMm.i DL)
    by_cases hj3 : 10000 ≤ (lx215 + 1 : Int32)
    · rw [if_pos hj3, if_pos hj3]
      have h135 : S_Mil_modulo (220 : Int32) R2 (220 : Int32) (p457.2.2.2.2.2.2.1 : Int32) (p457.2.2.2.2.2.2.2.1 : Int32) (p457.2.2.2.2.2.2.2.2 : (Nat → Int32)) lx231 lx232 lx233 y109 y110 f111 t0_0 t0_1 t1_0 ∧ P3 220 R2 220 ((L.natAbs / vm.natAbs : Nat) : Int) vm (if L.tmod vm < 0 then L.tmod vm + vm else L.tmod vm) (F_Mil_modulo (220 : Int32) R2 (220 : Int32) (p457.2.2.2.2.2.2.1 : Int32) (p457.2.2.2.2.2.2.2.1 : Int32) (p457.2.2.2.2.2.2.2.2 : (Nat → Int32)) lx231 lx232 lx233 y109 y110 f111 t0_0 t0_1 t1_0) := T_modulo (M := M) i4 hm (by omega) (hMm.i EL) (by omega) (by omega) (by decide)
      refine v_owe h135.1 ?_
      replace h135 := h135.2
      generalize (F_Mil_modulo (220 : Int32) R2 (220 : Int32) (p457.2.2.2.2.2.2.1 : Int32) (p457.2.2.2.2.2.2.2.1 : Int32) (p457.2.2.2.2.2.2.2.2 : (Nat → Int32)) lx231 lx232 lx233 y109 y110 f111 t0_0 t0_1 t1_0) = p561 at h135 ⊢
      unfold S_Mil_inverse_c135_11 F_Mil_inverse_c135_11
      exact ⟨trivial, ⟨_, (v_mU hm0).2, fun _ => (v_mU hm0).1, h135.2.2⟩, h135.1.I, h86.I, h73.1.I, h73.2.1.I, h96.I, i4.I, h135.2.1⟩
    rw [if_neg hj3, if_neg hj3]
    have hj4 := q_nleI hj3
    by_cases hk2 : p457.1 ≤ 0
    · rw [if_pos hk2, if_pos hk2]
      have h135 : S_Mil_modulo (220 : Int32) R2 (220 : Int32) (p457.2.2.2.2.2.2.1 : Int32) (p457.2.2.2.2.2.2.2.1 : Int32) (p457.2.2.2.2.2.2.2.2 : (Nat → Int32)) lx231 lx232 lx233 y109 y110 f111 t0_0 t0_1 t1_0 ∧ P3 220 R2 220 ((L.natAbs / vm.natAbs : Nat) : Int) vm (if L.tmod vm < 0 then L.tmod vm + vm else L.tmod vm) (F_Mil_modulo (220 : Int32) R2 (220 : Int32) (p457.2.2.2.2.2.2.1 : Int32) (p457.2.2.2.2.2.2.2.1 : Int32) (p457.2.2.2.2.2.2.2.2 : (Nat → Int32)) lx231 lx232 lx233 y109 y110 f111 t0_0 t0_1 t1_0) := T_modulo (M := M) i4 hm (by omega) (hMm.i EL) (by omega) (by omega) (by decide)
      refine v_owe h135.1 ?_
      replace h135 := h135.2
      generalize (F_Mil_modulo (220 : Int32) R2 (220 : Int32) (p457.2.2.2.2.2.2.1 : Int32) (p457.2.2.2.2.2.2.2.1 : Int32) (p457.2.2.2.2.2.2.2.2 : (Nat → Int32)) lx231 lx232 lx233 y109 y110 f111 t0_0 t0_1 t1_0) = p625 at h135 ⊢
      unfold S_Mil_inverse_c135_12 F_Mil_inverse_c135_12
      exact ⟨trivial, ⟨_, (v_mU hm0).2, fun _ => (v_mU hm0).1, h135.2.2⟩, h135.1.I, h86.I, h73.1.I, h73.2.1.I, h96.I, i4.I, h135.2.1⟩
    rw [if_neg hk2, if_neg hk2]
    have w1 := h73.1.pos.mp (v_nle0 hk2)
    have h13 : S_Big_divideBy (220 : Int32) (220 : Int32) (220 : Int32) (p457.2.2.2.1 : Int32) (p457.2.2.2.2.1 : Int32) (p457.2.2.2.2.2.1 : (Nat → Int32)) (p457.1 : Int32) (p457.2.1 : Int32) (p457.2.2.1 : (Nat → Int32)) (p457.2.2.2.2.2.2.1 : Int32) (p457.2.2.2.2.2.2.2.1 : Int32) (p457.2.2.2.2.2.2.2.2 : (Nat → Int32)) ∧ P3 220 220 220 (l.tmod r) r ((l.natAbs / r.natAbs : Nat) : Int) (F_Big_divideBy (220 : Int32) (220 : Int32) (220 : Int32) (p457.2.2.2.1 : Int32) (p457.2.2.2.2.1 : Int32) (p457.2.2.2.2.2.1 : (Nat → Int32)) (p457.1 : Int32) (p457.2.1 : Int32) (p457.2.2.1 : (Nat → Int32)) (p457.2.2.2.2.2.2.1 : Int32) (p457.2.2.2.2.2.2.2.1 : Int32) (p457.2.2.2.2.2.2.2.2 : (Nat → Int32))) := W_divideBy h73.2.1 h73.1 w1 (by omega) (by omega) (by decide)
    refine v_owe h13.1 ?_
    replace h13 := h13.2
    generalize (F_Big_divideBy (220 : Int32) (220 : Int32) (220 : Int32) (p457.2.2.2.1 : Int32) (p457.2.2.2.2.1 : Int32) (p457.2.2.2.2.2.1 : (Nat → Int32)) (p457.1 : Int32) (p457.2.1 : Int32) (p457.2.2.1 : (Nat → Int32)) (p457.2.2.2.2.2.2.1 : Int32) (p457.2.2.2.2.2.2.2.1 : Int32) (p457.2.2.2.2.2.2.2.2 : (Nat → Int32))) = p685 at h13 ⊢
    unfold S_Mil_inverse_c73_13 F_Mil_inverse_c73_13
    obtain ⟨hE4, hqL2⟩ := hE2.step w1
    have sq2 := h13.2.2.sB (hB2.ndiv (v := r))
    have q02 : 0 ≤ ((l.natAbs / r.natAbs : Nat) : Int) := Int.natCast_nonneg _
    generalize ((l.natAbs / r.natAbs : Nat) : Int) = q2 at h13 hE4 hqL2 sq2 q02
    have h14 : P1 220 (q2 * L2) (F_Big_product (220 : Int32) (220 : Int32) (220 : Int32) (p486.1 : Int32) (p486.2.1 : Int32) (p486.2.2 : (Nat → Int32)) (p685.2.2.2.2.2.2.1 : Int32) (p685.2.2.2.2.2.2.2.1 : Int32) (p685.2.2.2.2.2.2.2.2 : (Nat → Int32)) (p509.1 : Int32) (p509.2.1 : Int32) (p509.2.2 : (Nat → Int32))) := W_product h13.2.2 h96 (by decide) (by omega)
    generalize (F_Big_product (220 : Int32) (220 : Int32) (220 : Int32) (p486.1 : Int32) (p486.2.1 : Int32) (p486.2.2 : (Nat → Int32)) (p685.2.2.2.2.2.2.1 : Int32) (p685.2.2.2.2.2.2.2.1 : Int32) (p685.2.2.2.2.2.2.2.2 : (Nat → Int32)) (p509.1 : Int32) (p509.2.1 : Int32) (p509.2.2 : (Nat → Int32))) = p714 at h14 ⊢
    unfold S_Mil_inverse_c86_14 F_Mil_inverse_c86_14
    have s14 := h14.sB (hMm.i hqL2)
    have h15 : P1 220 (L - q2 * L2) (F_Big_addSigned (220 : Int32) (220 : Int32) (1 : Int32) lx231 lx232 lx233 (p714.1 : Int32) (p714.2.1 : Int32) (p714.2.2 : (Nat → Int32))) := W_add (x := 1) i4 h14 (Or.inr rfl) (by omega) (by omega)
    generalize (F_Big_addSigned (220 : Int32) (220 : Int32) (1 : Int32) lx231 lx232 lx233 (p714.1 : Int32) (p714.2.1 : Int32) (p714.2.2 : (Nat → Int32))) = p737 at h15 ⊢
    unfold S_Mil_inverse_c96_15 F_Mil_inverse_c96_15
    have ej2 : (lx215 + 1 + 1 : Int32).toInt = lx215.toInt + 1 + 1 := q_addI ej v_e1 (by omega) (by omega)
    exact ih _ _ _ _ _ _ _ _ _ _ _ _ _ _ _ _ _ _ _ (by omega) (by omega) (by omega) (by omega) h13.2.2.I h14.I ⟨_, _, _, _, hE4, hB2.le (by omega : r.natAbs ≤ l.natAbs), h13.2.1, h13.1, h96, h15⟩
theorem T_inverse_aL {R2 : Int32} {t0_0 : Int32} {t0_1 : Int32} {t1_0 : (Nat → Int32)} {t2_0 : Int32} {t2_1 : Int32} {t3_0 : (Nat → Int32)} {t4_0 : Int32} {t4_1 : Int32} {t5_0 : (Nat → Int32)} {t6_0 : Int32} {t6_1 : Int32} {t7_0 : (Nat → Int32)} {t8_0 : Int32} {t8_1 : Int32} {t9_0 : (Nat → Int32)} {t10_0 : Int32} {t10_1 : Int32} {t11_0 : (Nat → Int32)} {t12_0 : Int32} {t12_1 : Int32} {t13_0 : (Nat → Int32)} {t14_0 : Int32} {t14_1 : Int32} {t15_0 : (Nat → Int32)} {p80 : (Int32 × Int32 × (Nat → Int32))} {y69 : Int32} {y70 : Int32} {f71 : (Nat → Int32)} {p125 : (Int32 × Int32 × (Nat → Int32) × Int32 × Int32 × (Nat → Int32) × Int32 × Int32 × (Nat → Int32))} {y94 : Int32} {y95 : Int32} {f96 : (Nat → Int32)} {y104 : Int32} {y105 : Int32} {f106 : (Nat → Int32)} {y99 : Int32} {y100 : Int32} {f101 : (Nat → Int32)} {p152 : (Int32 × Int32)} {y144 : Int32} {y145 : Int32} {p175 : (Int32 × Int32 × (Nat → Int32))} {vm : Int} {M : Nat} (hm0 : 0 < vm) (hMm : bB M vm) (hM : 2 * M + 2 ≤ 220) (hm : bO R2 y99 y100 f101 vm) : ∀ (n : Nat) (lx205 : Int32) (lx206 : Int32) (lx207 : Int32) (lx208 : (Nat → Int32)) (lx209 : Int32) (lx210 : Int32) (lx211 : (Nat → Int32)) (lx212 : Int32) (lx213 : Int32) (lx214 : (Nat → Int32)) (lx215 : Int32) (lx216 : Int32) (lx217 : (Nat → Int32)) (lx218 : Int32) (lx219 : Int32) (lx220 : (Nat → Int32)) (lx221 : Int32) (lx222 : Int32) (lx223 : (Nat → Int32)), 0 < n → 10000 - lx205.toInt < (n : Int) → 0 ≤ lx205.toInt → lx205.toInt ≤ 10001 → bI 220 lx206 lx207 lx208 → bI 220 lx209 lx210 lx211 → (∃ h l H L, bE h l H L vm ∧ bB M h ∧ bO 220 lx212 lx213 lx214 h ∧ bO 220 lx215 lx216 lx217 l ∧ bO 220 lx218 lx219 lx220 H ∧ bO 220 lx221 lx222 lx223 L) → (S_Mil_inverse_a_L50 R2 t0_0 t0_1 t1_0 t2_0 t2_1 t3_0 t4_0 t4_1 t5_0 t6_0 t6_1 t7_0 t8_0 t8_1 t9_0 t10_0 t10_1 t11_0 t12_0 t12_1 t13_0 t14_0 t14_1 t15_0 p80 y69 y70 f71 p125 y94 y95 f96 y104 y105 f106 y99 y100 f101 p152 y144 y145 p175 n lx205 lx206 lx207 lx208 lx209 lx210 lx211 lx212 lx213 lx214 lx215 lx216 lx217 lx218 lx219 lx220 lx221 lx222 lx223) ∧ G8 (bU 220 vm 0) (bI 220) (bI 220) (bI 220) (bI 220) (bI 220) (bI 220) (bW R2 vm) (F_Mil_inverse_a_L50 R2 t0_0 t0_1 t1_0 t2_0 t2_1 t3_0 t4_0 t4_1 t5_0 t6_0 t6_1 t7_0 t8_0 t8_1 t9_0 t10_0 t10_1 t11_0 t12_0 t12_1 t13_0 t14_0 t14_1 t15_0 p80 y69 y70 f71 p125 y94 y95 f96 y104 y105 f106 y99 y100 f101 p152 y144 y145 p175 n lx205 lx206 lx207 lx208 lx209 lx210 lx211 lx212 lx213 lx214 lx215 lx216 lx217 lx218 lx219 lx220 lx221 lx222 lx223).2 := by
  have e := e220
  have e0 : (0 : Int32).toInt = 0 := rfl
  have eT := v_eTT
  have sm := hm.sB hMm
  intro n
  induction n with
  | zero => intros; omega
  | succ n ih =>
    intro lx205 lx206 lx207 lx208 lx209 lx210 lx211 lx212 lx213 lx214 lx215 lx216 lx217 lx218 lx219 lx220 lx221 lx222 lx223 hn hl hl0 hl1 hq hw hh
    rw [S_Mil_inverse_a_L50.eq_2, F_Mil_inverse_a_L50.eq_2]
    obtain ⟨h, l, H, L, hE, hB, i1, i2, i3, i4⟩ := hh
    have hE0 := hE
    obtain ⟨E1, E2, E3, E4, E5⟩ := hE0
    have EL := hE.L
    have s1 := i1.sB hB
    have s2 := i2.sB (hB.le (by omega : l.natAbs ≤ h.natAbs))
    have s3 := i3.sB (hMm.i E4)
    have s4 := i4.sB (hMm.i EL)
    by_cases hj : 10000 ≤ lx205
    · rw [if_pos hj, if_pos hj]
      have h135 : S_Mil_modulo (220 : Int32) R2 (220 : Int32) lx206 lx207 lx208 lx218 lx219 lx220 y99 y100 f101 t0_0 t0_1 t1_0 ∧ P3 220 R2 220 ((H.natAbs / vm.natAbs : Nat) : Int) vm (if H.tmod vm < 0 then H.tmod vm + vm else H.tmod vm) (F_Mil_modulo (220 : Int32) R2 (220 : Int32) lx206 lx207 lx208 lx218 lx219 lx220 y99 y100 f101 t0_0 t0_1 t1_0) := T_modulo (M := M) i3 hm (by omega) (hMm.i E4) (by omega) (by omega) (by decide)
      refine v_owe h135.1 ?_
      replace h135 := h135.2
      generalize (F_Mil_modulo (220 : Int32) R2 (220 : Int32) lx206 lx207 lx208 lx218 lx219 lx220 y99 y100 f101 t0_0 t0_1 t1_0) = p317 at h135 ⊢
      unfold S_Mil_inverse_a_c135 F_Mil_inverse_a_c135
      exact ⟨trivial, ⟨_, (v_mU hm0).2, fun _ => (v_mU hm0).1, h135.2.2⟩, h135.1.I, hw, i1.I, i2.I, i3.I, i4.I, h135.2.1⟩
    rw [if_neg hj, if_neg hj]
    have hj2 := q_nleI hj
    by_cases hk : lx215 ≤ 0
    · rw [if_pos hk, if_pos hk]
      have h135 : S_Mil_modulo (220 : Int32) R2 (220 : Int32) lx206 lx207 lx208 lx218 lx219 lx220 y99 y100 f101 t0_0 t0_1 t1_0 ∧ P3 220 R2 220 ((H.natAbs / vm.natAbs : Nat) : Int) vm (if H.tmod vm < 0 then H.tmod vm + vm else H.tmod vm) (F_Mil_modulo (220 : Int32) R2 (220 : Int32) lx206 lx207 lx208 lx218 lx219 lx220 y99 y100 f101 t0_0 t0_1 t1_0) := T_modulo (M := M) i3 hm (by omega) (hMm.i E4) (by omega) (by omega) (by decide)
      refine v_owe h135.1 ?_
      replace h135 := h135.2
      generalize (F_Mil_modulo (220 : Int32) R2 (220 : Int32) lx206 lx207 lx208 lx218 lx219 lx220 y99 y100 f101 t0_0 t0_1 t1_0) = p380 at h135 ⊢
      unfold S_Mil_inverse_a_c135_7 F_Mil_inverse_a_c135_7
      exact ⟨trivial, ⟨_, (v_mU hm0).2, fun _ => (v_mU hm0).1, h135.2.2⟩, h135.1.I, hw, i1.I, i2.I, i3.I, i4.I, h135.2.1⟩
    rw [if_neg hk, if_neg hk]
    have w0 := i2.pos.mp (v_nle0 hk)
    have h73 : S_Big_divideBy (220 : Int32) (220 : Int32) (220 : Int32) lx212 lx213 lx214 lx215 lx216 lx217 lx206 lx207 lx208 ∧ P3 220 220 220 (h.tmod l) l ((h.natAbs / l.natAbs : Nat) : Int) (F_Big_divideBy (220 : Int32) (220 : Int32) (220 : Int32) lx212 lx213 lx214 lx215 lx216 lx217 lx206 lx207 lx208) := W_divideBy i1 i2 w0 (by omega) (by omega) (by decide)
    refine v_owe h73.1 ?_
    replace h73 := h73.2
    generalize (F_Big_divideBy (220 : Int32) (220 : Int32) (220 : Int32) lx212 lx213 lx214 lx215 lx216 lx217 lx206 lx207 lx208) = p441 at h73 ⊢
    unfold S_Mil_inverse_a_c73 F_Mil_inverse_a_c73
    obtain ⟨hE2, hqL⟩ := hE.step w0
    have sq := h73.2.2.sB (hB.ndiv (v := l))
    have q0 : 0 ≤ ((h.natAbs / l.natAbs : Nat) : Int) := Int.natCast_nonneg _
    generalize ((h.natAbs / l.natAbs : Nat) : Int) = q at h73 hE2 hqL sq q0
    have hB2 : bB M l := hB.le (by omega)
    have h86 : P1 220 (q * L) (F_Big_product (220 : Int32) (220 : Int32) (220 : Int32) lx209 lx210 lx211 (p441.2.2.2.2.2.2.1 : Int32) (p441.2.2.2.2.2.2.2.1 : Int32) (p441.2.2.2.2.2.2.2.2 : (Nat → Int32)) lx221 lx222 lx223) := W_product h73.2.2 i4 (by decide) (by omega)
    generalize (F_Big_product (220 : Int32) (220 : Int32) (220 : Int32) lx209 lx210 lx211 (p441.2.2.2.2.2.2.1 : Int32) (p441.2.2.2.2.2.2.2.1 : Int32) (p441.2.2.2.2.2.2.2.2 : (Nat → Int32)) lx221 lx222 lx223) = p470 at h86 ⊢
    unfold S_Mil_inverse_a_c86 F_Mil_inverse_a_c86
    have s86 := h86.sB (hMm.i hqL)
    have h96 : P1 220 (H - q * L) (F_Big_addSigned (220 : Int32) (220 : Int32) (1 : Int32) lx218 lx219 lx220 (p470.1 : Int32) (p470.2.1 : Int32) (p470.2.2 : (Nat → Int32))) := W_add (x := 1) i3 h86 (Or.inr rfl) (by omega) (by omega)
    generalize (F_Big_addSigned (220 : Int32) (220 : Int32) (1 : Int32) lx218 lx219 lx220 (p470.1 : Int32) (p470.2.1 : Int32) (p470.2.2 : (Nat → Int32))) = p493 at h96 ⊢
    unfold S_Mil_inverse_a_c96 F_Mil_inverse_a_c96
    have ej : (lx205 + 1 : Int32).toInt = lx205.toInt + 1 := q_addI rfl v_e1 (by omega) (by omega)
    have hE3 := hE2
    obtain ⟨D1, D2, D3, D4, D5⟩ := hE3
    have DL := hE2.L
    generalize h.tmod l = r at h73 hE2 D1 D2 D3
    generalize H - q * L = L2 at h96 hE2 D3 D5 DL
    have t1 := h73.1.sB (hB2.le (by omega : r.natAbs ≤ l.natAbs))
    have t2 := h73.2.1.sB hB2
    have t4 := h96.sB (hMm.i DL)
    by_cases hj3 : 10000 ≤ (lx205 + 1 : Int32)
    · rw [if_pos hj3, if_pos hj3]
      have h135 : S_Mil_modulo (220 : Int32) R2 (220 : Int32) (p441.2.2.2.2.2.2.1 : Int32) (p441.2.2.2.2.2.2.2.1 : Int32) (p441.2.2.2.2.2.2.2.2 : (Nat → Int32)) lx221 lx222 lx223 y99 y100 f101 t0_0 t0_1 t1_0 ∧ P3 220 R2 220 ((L.natAbs / vm.natAbs : Nat) : Int) vm (if L.tmod vm < 0 then L.tmod vm + vm else L.tmod vm) (F_Mil_modulo (220 : Int32) R2 (220 : Int32) (p441.2.2.2.2.2.2.1 : Int32) (p441.2.2.2.2.2.2.2.1 : Int32) (p441.2.2.2.2.2.2.2.2 : (Nat → Int32)) lx221 lx222 lx223 y99 y100 f101 t0_0 t0_1 t1_0) := T_modulo (M := M) i4 hm (by omega) (hMm.i EL) (by omega) (by omega) (by decide)
      refine v_owe h135.1 ?_
      replace h135 := h135.2
      generalize (F_Mil_modulo (220 : Int32) R2 (220 : Int32) (p441.2.2.2.2.2.2.1 : Int32) (p441.2.2.2.2.2.2.2.1 : Int32) (p441.2.2.2.2.2.2.2.2 : (Nat → Int32)) lx221 lx222 lx223 y99 y100 f101 t0_0 t0_1 t1_0) = p543 at h135 ⊢
      unfold S_Mil_inverse_a_c135_11 F_Mil_inverse_a_c135_11
      exact ⟨trivial, ⟨_, (v_mU hm0).2, fun _ => (v_mU hm0).1, h135.2.2⟩, h135.1.I, h86.I, h73.1.I, h73.2.1.I, h96.I, i4.I, h135.2.1⟩
    rw [if_neg hj3, if_neg hj3]
    have hj4 := q_nleI hj3
    by_cases hk2 : p441.1 ≤ 0
    · rw [if_pos hk2, if_pos hk2]
      have h135 : S_Mil_modulo (220 : Int32) R2 (220 : Int32) (p441.2.2.2.2.2.2.1 : Int32) (p441.2.2.2.2.2.2.2.1 : Int32) (p441.2.2.2.2.2.2.2.2 : (Nat → Int32)) lx221 lx222 lx223 y99 y100 f101 t0_0 t0_1 t1_0 ∧ P3 220 R2 220 ((L.natAbs / vm.natAbs : Nat) : Int) vm (if L.tmod vm < 0 then L.tmod vm + vm else L.tmod vm) (F_Mil_modulo (220 : Int32) R2 (220 : Int32) (p441.2.2.2.2.2.2.1 : Int32) (p441.2.2.2.2.2.2.2.1 : Int32) (p441.2.2.2.2.2.2.2.2 : (Nat → Int32)) lx221 lx222 lx223 y99 y100 f101 t0_0 t0_1 t1_0) := T_modulo (M := M) i4 hm (by omega) (hMm.i EL) (by omega) (by omega) (by decide)
      refine v_owe h135.1 ?_
      replace h135 := h135.2
      generalize (F_Mil_modulo (220 : Int32) R2 (220 : Int32) (p441.2.2.2.2.2.2.1 : Int32) (p441.2.2.2.2.2.2.2.1 : Int32) (p441.2.2.2.2.2.2.2.2 : (Nat → Int32)) lx221 lx222 lx223 y99 y100 f101 t0_0 t0_1 t1_0) = p605 at h135 ⊢
      unfold S_Mil_inverse_a_c135_12 F_Mil_inverse_a_c135_12
      exact ⟨trivial, ⟨_, (v_mU hm0).2, fun _ => (v_mU hm0).1, h135.2.2⟩, h135.1.I, h86.I, h73.1.I, h73.2.1.I, h96.I, i4.I, h135.2.1⟩
    rw [if_neg hk2, if_neg hk2]
    have w1 := h73.1.pos.mp (v_nle0 hk2)
    have h13 : S_Big_divideBy (220 : Int32) (220 : Int32) (220 : Int32) (p441.2.2.2.1 : Int32) (p441.2.2.2.2.1 : Int32) (p441.2.2.2.2.2.1 : (Nat → Int32)) (p441.1 : Int32) (p441.2.1 : Int32) (p441.2.2.1 : (Nat → Int32)) (p441.2.2.2.2.2.2.1 : Int32) (p441.2.2.2.2.2.2.2.1 : Int32) (p441.2.2.2.2.2.2.2.2 : (Nat → Int32)) ∧ P3 220 220 220 (l.tmod r) r ((l.natAbs / r.natAbs : Nat) : Int) (F_Big_divideBy (220 : Int32) (220 : Int32) (220 : Int32) (p441.2.2.2.1 : Int32) (p441.2.2.2.2.1 : Int32) (p441.2.2.2.2.2.1 : (Nat → Int32)) (p441.1 : Int32) (p441.2.1 : Int32) (p441.2.2.1 : (Nat → Int32)) (p441.2.2.2.2.2.2.1 : Int32) (p441.2.2.2.2.2.2.2.1 : Int32) (p441.2.2.2.2.2.2.2.2 : (Nat → Int32))) := W_divideBy h73.2.1 h73.1 w1 (by omega) (by omega) (by decide)
    refine v_owe h13.1 ?_
    replace h13 := h13.2
    generalize (F_Big_divideBy (220 : Int32) (220 : Int32) (220 : Int32) (p441.2.2.2.1 : Int32) (p441.2.2.2.2.1 : Int32) (p441.2.2.2.2.2.1 : (Nat → Int32)) (p441.1 : Int32) (p441.2.1 : Int32) (p441.2.2.1 : (Nat → Int32)) (p441.2.2.2.2.2.2.1 : Int32) (p441.2.2.2.2.2.2.2.1 : Int32) (p441.2.2.2.2.2.2.2.2 : (Nat → Int32))) = p665 at h13 ⊢
    unfold S_Mil_inverse_a_c73_13 F_Mil_inverse_a_c73_13
    obtain ⟨hE4, hqL2⟩ := hE2.step w1
    have sq2 := h13.2.2.sB (hB2.ndiv (v := r))
    have q02 : 0 ≤ ((l.natAbs / r.natAbs : Nat) : Int) := Int.natCast_nonneg _
    generalize ((l.natAbs / r.natAbs : Nat) : Int) = q2 at h13 hE4 hqL2 sq2 q02
    have h14 : P1 220 (q2 * L2) (F_Big_product (220 : Int32) (220 : Int32) (220 : Int32) (p470.1 : Int32) (p470.2.1 : Int32) (p470.2.2 : (Nat → Int32)) (p665.2.2.2.2.2.2.1 : Int32) (p665.2.2.2.2.2.2.2.1 : Int32) (p665.2.2.2.2.2.2.2.2 : (Nat → Int32)) (p493.1 : Int32) (p493.2.1 : Int32) (p493.2.2 : (Nat → Int32))) := W_product h13.2.2 h96 (by decide) (by omega)
    generalize (F_Big_product (220 : Int32) (220 : Int32) (220 : Int32) (p470.1 : Int32) (p470.2.1 : Int32) (p470.2.2 : (Nat → Int32)) (p665.2.2.2.2.2.2.1 : Int32) (p665.2.2.2.2.2.2.2.1 : Int32) (p665.2.2.2.2.2.2.2.2 : (Nat → Int32)) (p493.1 : Int32) (p493.2.1 : Int32) (p493.2.2 : (Nat → Int32))) = p694 at h14 ⊢
    unfold S_Mil_inverse_a_c86_14 F_Mil_inverse_a_c86_14
    have s14 := h14.sB (hMm.i hqL2)
    have h15 : P1 220 (L - q2 * L2) (F_Big_addSigned (220 : Int32) (220 : Int32) (1 : Int32) lx221 lx222 lx223 (p694.1 : Int32) (p694.2.1 : Int32) (p694.2.2 : (Nat → Int32))) := W_add (x := 1) i4 h14 (Or.inr rfl) (by omega) (by omega)
    generalize (F_Big_addSigned (220 : Int32) (220 : Int32) (1 : Int32) lx221 lx222 lx223 (p694.1 : Int32) (p694.2.1 : Int32) (p694.2.2 : (Nat → Int32))) = p717 at h15 ⊢
    unfold S_Mil_inverse_a_c96_15 F_Mil_inverse_a_c96_15
    have ej2 : (lx205 + 1 + 1 : Int32).toInt = lx205.toInt + 1 + 1 := q_addI ej v_e1 (by omega) (by omega)
    exact ih _ _ _ _ _ _ _ _ _ _ _ _ _ _ _ _ _ _ _ (by omega) (by omega) (by omega) (by omega) h13.2.2.I h14.I ⟨_, _, _, _, hE4, hB2.le (by omega : r.natAbs ≤ l.natAbs), h13.2.1, h13.1, h96, h15⟩
theorem v_one : bB 1 1 := by
  show 1 < 2147483648 ^ 1
  decide
theorem bE.ini {l m : Int} (h0 : 0 ≤ l) (h1 : l < m) : bE m l 0 1 m := by
  refine ⟨h0, h1, ?_, ?_, Or.inr ⟨Int.le_refl _, by decide⟩⟩
  · show m * 1 + l * 0 = m
    omega
  · show (0 : Int) ≤ m
    omega
theorem T_inverse {R : Int32} {R2 : Int32} {t0_0 : Int32} {t0_1 : Int32} {t1_0 : (Nat → Int32)} {t2_0 : Int32} {t2_1 : Int32} {t3_0 : (Nat → Int32)} {t4_0 : Int32} {t4_1 : Int32} {t5_0 : (Nat → Int32)} {t6_0 : Int32} {t6_1 : Int32} {t7_0 : (Nat → Int32)} {t8_0 : Int32} {t8_1 : Int32} {t9_0 : (Nat → Int32)} {t10_0 : Int32} {t10_1 : Int32} {t11_0 : (Nat → Int32)} {t12_0 : Int32} {t12_1 : Int32} {t13_0 : (Nat → Int32)} {t14_0 : Int32} {t14_1 : Int32} {t15_0 : (Nat → Int32)} {t16_0 : Int32} {t16_1 : Int32} {t17_0 : (Nat → Int32)} {va vm : Int} {M : Nat} (ha : bO R t14_0 t14_1 t15_0 va) (hm : bO R2 t16_0 t16_1 t17_0 vm) (hm0 : 0 < vm) (hMa : bB M va) (hMm : bB M vm) (hM : 2 * M + 2 ≤ 220) (hw : bI 220 t4_0 t4_1 t5_0) : (S_Mil_inverse R R2 t0_0 t0_1 t1_0 t2_0 t2_1 t3_0 t4_0 t4_1 t5_0 t6_0 t6_1 t7_0 t8_0 t8_1 t9_0 t10_0 t10_1 t11_0 t12_0 t12_1 t13_0 t14_0 t14_1 t15_0 t16_0 t16_1 t17_0) ∧ G8 (bU 220 vm 0) (bI 220) (bI 220) (bI 220) (bI 220) (bI 220) (bI 220) (bW R2 vm) (F_Mil_inverse R R2 t0_0 t0_1 t1_0 t2_0 t2_1 t3_0 t4_0 t4_1 t5_0 t6_0 t6_1 t7_0 t8_0 t8_1 t9_0 t10_0 t10_1 t11_0 t12_0 t12_1 t13_0 t14_0 t14_1 t15_0 t16_0 t16_1 t17_0).2 := by
  have e := e220
  have sm := hm.sB hMm
  unfold S_Mil_inverse F_Mil_inverse
  have h25 : P1 220 vm (F_Big_copy (220 : Int32) R2 t6_0 t6_1 t7_0 t16_0 t16_1 t17_0) := W_copy hm hm.fit (by decide)
  generalize (F_Big_copy (220 : Int32) R2 t6_0 t6_1 t7_0 t16_0 t16_1 t17_0) = p88 at h25 ⊢
  unfold S_Mil_inverse_c25 F_Mil_inverse_c25
  have h33 : S_Mil_modulo R R2 (220 : Int32) t2_0 t2_1 t3_0 t14_0 t14_1 t15_0 t16_0 t16_1 t17_0 t8_0 t8_1 t9_0 ∧ P3 220 R2 220 ((va.natAbs / vm.natAbs : Nat) : Int) vm (if va.tmod vm < 0 then va.tmod vm + vm else va.tmod vm) (F_Mil_modulo R R2 (220 : Int32) t2_0 t2_1 t3_0 t14_0 t14_1 t15_0 t16_0 t16_1 t17_0 t8_0 t8_1 t9_0) := T_modulo (M := M) ha hm (by omega) hMa (by omega) (by omega) (by decide)
  refine v_owe h33.1 ?_
  replace h33 := h33.2
  generalize (F_Mil_modulo R R2 (220 : Int32) t2_0 t2_1 t3_0 t14_0 t14_1 t15_0 t16_0 t16_1 t17_0 t8_0 t8_1 t9_0) = p135 at h33 ⊢
  unfold S_Mil_inverse_c33 F_Mil_inverse_c33
  have hl := v_mU (H := va) hm0
  generalize (if va.tmod vm < 0 then va.tmod vm + vm else va.tmod vm) = l at h33 hl
  have h38 : (fun p => bO 220 p.1 p.2 t11_0 0) (F_Big_clear (220 : Int32) t10_0 t10_1) := W_clear (by decide) (by decide)
  generalize (F_Big_clear (220 : Int32) t10_0 t10_1) = p162 at h38 ⊢
  unfold S_Mil_inverse_c38 F_Mil_inverse_c38
  have h44 : P1 220 1 (F_Big_setLong (220 : Int32) (1 : Int64) t12_0 t12_1 t13_0) := W_setLong (x := 1) (by decide) (by decide)
  generalize (F_Big_setLong (220 : Int32) (1 : Int64) t12_0 t12_1 t13_0) = p185 at h44 ⊢
  unfold S_Mil_inverse_c44 F_Mil_inverse_c44
  exact T_inverseL hm0 hMm hM h33.2.1 _ _ _ _ _ _ _ _ _ _ _ _ _ _ _ _ _ _ _ _ (by decide) (by decide) (by decide) (by decide) h33.1.I hw ⟨_, _, _, _, bE.ini hl.1 (by omega), hMm, h25, h33.2.2, h38, h44⟩
theorem T_inverse_a {R2 : Int32} {t0_0 : Int32} {t0_1 : Int32} {t1_0 : (Nat → Int32)} {t2_0 : Int32} {t2_1 : Int32} {t3_0 : (Nat → Int32)} {t4_0 : Int32} {t4_1 : Int32} {t5_0 : (Nat → Int32)} {t6_0 : Int32} {t6_1 : Int32} {t7_0 : (Nat → Int32)} {t8_0 : Int32} {t8_1 : Int32} {t9_0 : (Nat → Int32)} {t10_0 : Int32} {t10_1 : Int32} {t11_0 : (Nat → Int32)} {t12_0 : Int32} {t12_1 : Int32} {t13_0 : (Nat → Int32)} {t14_0 : Int32} {t14_1 : Int32} {t15_0 : (Nat → Int32)} {vm : Int} {M : Nat} (hm : bO R2 t14_0 t14_1 t15_0 vm) (hm0 : 0 < vm) (hMm : bB M vm) (hM : 2 * M + 2 ≤ 220) (hw : bI 220 t4_0 t4_1 t5_0) : (S_Mil_inverse_a R2 t0_0 t0_1 t1_0 t2_0 t2_1 t3_0 t4_0 t4_1 t5_0 t6_0 t6_1 t7_0 t8_0 t8_1 t9_0 t10_0 t10_1 t11_0 t12_0 t12_1 t13_0 t14_0 t14_1 t15_0) ∧ G8 (bU 220 vm 0) (bI 220) (bI 220) (bI 220) (bI 220) (bI 220) (bI 220) (bW R2 vm) (F_Mil_inverse_a R2 t0_0 t0_1 t1_0 t2_0 t2_1 t3_0 t4_0 t4_1 t5_0 t6_0 t6_1 t7_0 t8_0 t8_1 t9_0 t10_0 t10_1 t11_0 t12_0 t12_1 t13_0 t14_0 t14_1 t15_0).2 := by
  have e := e220
  have sm := hm.sB hMm
  unfold S_Mil_inverse_a F_Mil_inverse_a
  have h25 : P1 220 vm (F_Big_copy (220 : Int32) R2 t6_0 t6_1 t7_0 t14_0 t14_1 t15_0) := W_copy hm hm.fit (by decide)
  generalize (F_Big_copy (220 : Int32) R2 t6_0 t6_1 t7_0 t14_0 t14_1 t15_0) = p80 at h25 ⊢
  unfold S_Mil_inverse_a_c25 F_Mil_inverse_a_c25
  have h33 : S_Mil_modulo_a R2 (220 : Int32) t2_0 t2_1 t3_0 t14_0 t14_1 t15_0 t8_0 t8_1 t9_0 ∧ P3 220 R2 220 ((vm.natAbs / vm.natAbs : Nat) : Int) vm 0 (F_Mil_modulo_a R2 (220 : Int32) t2_0 t2_1 t3_0 t14_0 t14_1 t15_0 t8_0 t8_1 t9_0) := T_modulo_a (M := M) hm (by omega) hMm (by omega) (by decide)
  refine v_owe h33.1 ?_
  replace h33 := h33.2
  generalize (F_Mil_modulo_a R2 (220 : Int32) t2_0 t2_1 t3_0 t14_0 t14_1 t15_0 t8_0 t8_1 t9_0) = p125 at h33 ⊢
  unfold S_Mil_inverse_a_c33 F_Mil_inverse_a_c33
  have h38 : (fun p => bO 220 p.1 p.2 t11_0 0) (F_Big_clear (220 : Int32) t10_0 t10_1) := W_clear (by decide) (by decide)
  generalize (F_Big_clear (220 : Int32) t10_0 t10_1) = p152 at h38 ⊢
  unfold S_Mil_inverse_a_c38 F_Mil_inverse_a_c38
  have h44 : P1 220 1 (F_Big_setLong (220 : Int32) (1 : Int64) t12_0 t12_1 t13_0) := W_setLong (x := 1) (by decide) (by decide)
  generalize (F_Big_setLong (220 : Int32) (1 : Int64) t12_0 t12_1 t13_0) = p175 at h44 ⊢
  unfold S_Mil_inverse_a_c44 F_Mil_inverse_a_c44
  exact T_inverse_aL hm0 hMm hM h33.2.1 _ _ _ _ _ _ _ _ _ _ _ _ _ _ _ _ _ _ _ _ (by decide) (by decide) (by decide) (by decide) h33.1.I hw ⟨_, _, _, _, bE.ini (Int.le_refl 0) hm0, hMm, h25, h33.2.2, h38, h44⟩
