/-! values, for whole: the class's floats written in hexadecimal -/
def yHg (G k : Nat) : Nat := G / 2 ^ (4 * k) % 16
def yHd (v : Nat) : Nat := if v < 10 then 48 + v else 87 + v
def yHl (G z k : Nat) : List Nat := match k with
  | 0 => []
  | k + 1 => if k + 1 ≤ z then [] else yHd (yHg G k) :: yHl G z k
def yHq (G k : Nat) : List Nat := match k with
  | 0 => []
  | k + 1 => if G % 2 ^ (4 * (k + 1)) = 0 then [] else yHd (yHg G k) :: yHq G k
theorem yHg_l (G k : Nat) : yHg G k < 16 := Nat.mod_lt _ (by decide)
theorem yHl_e {G z k : Nat} (h : k ≤ z) : yHl G z k = [] := by
  cases k with
  | zero => rfl
  | succ k => exact if_pos h
theorem yHl_s {G z k : Nat} (h : ¬ k + 1 ≤ z) : yHl G z (k + 1) = yHd (yHg G k) :: yHl G z k := if_neg h
def yHz (G k : Nat) : Prop := G % 2 ^ (4 * k) = 0
theorem yHz_s {G k : Nat} : yHz G (k + 1) ↔ yHz G k ∧ yHg G k = 0 := by
  have e : (2 : Nat) ^ (4 * (k + 1)) = 2 ^ (4 * k) * 16 := by
    rw [show 4 * (k + 1) = 4 * k + 4 from by omega, Nat.pow_add]
  have hp : 0 < 2 ^ (4 * k) := Nat.pow_pos (by decide)
  unfold yHz yHg
  rw [e, Nat.mod_mul]
  constructor
  · intro h
    have h1 : 2 ^ (4 * k) * (G / 2 ^ (4 * k) % 16) = 0 := by omega
    refine ⟨by omega, ?_⟩
    rcases Nat.mul_eq_zero.mp h1 with q | q
    · omega
    · exact q
  · intro h
    rw [h.1, h.2]
    omega
theorem yHz_m {G z k : Nat} (h : z < k) (hz : yHg G z ≠ 0) : ¬ yHz G k := by
  induction k with
  | zero => omega
  | succ k ih =>
    intro q
    have q := yHz_s.mp q
    rcases Nat.lt_or_ge z k with g | g
    · exact ih g q.1
    · obtain rfl : z = k := by omega
      exact hz q.2
theorem yHl_x {G z H k : Nat} (hz : yHz G z) (hn : z = H ∨ yHg G z ≠ 0) (hk : z ≤ k) (hH : k ≤ H) : yHl G z k = yHq G k := by
  induction k with
  | zero => rfl
  | succ k ih =>
    rcases Nat.eq_or_lt_of_le hk with g | g
    · rw [yHl_e (by omega)]
      subst g
      exact (if_pos hz).symm
    · rw [yHl_s (by omega), ih (by omega) (by omega)]
      have zz : yHg G z ≠ 0 := by
        rcases hn with q | q
        · omega
        · exact q
      have nz : ¬ yHz G (k + 1) := yHz_m g zz
      exact (if_neg nz).symm
theorem y_hxS {x : Int64} {a : Int32} {G k : Nat} (hx : yu x = G) (ha : a.toInt = (k : Int)) (hk : k < 16) : yu ((x.toUInt64 >>> ((4 * a : Int32).toInt64.toUInt64 &&& Int64.toUInt64 63)).toInt64) = G / 2 ^ (4 * k) := by
  have e4 : (4 : Int32).toInt = 4 := rfl
  have h4 : (4 * a : Int32).toInt = ((4 * k : Nat) : Int) := by
    have := q_mulI (x := 4) e4 ha (by omega) (by omega)
    rw [this]
    omega
  rw [← hx]
  exact w_lshr (x := x) h4 (by omega)
theorem y_hxN {x : Int64} {a : Int32} {G k : Nat} (hx : yu x = G) (ha : a.toInt = (k : Int)) (hk : k < 16) : lg_cmp (((x.toUInt64 >>> ((4 * a : Int32).toInt64.toUInt64 &&& Int64.toUInt64 63)).toInt64) &&& 15) 0 = 0 ↔ yHg G k = 0 := by
  have s := y_hxS hx ha hk
  have w := y_andM (x := ((x.toUInt64 >>> ((4 * a : Int32).toInt64.toUInt64 &&& Int64.toUInt64 63)).toInt64)) (m := 15) (k := 4) (by decide)
  rw [s] at w
  have t := y_toI w (Nat.lt_of_lt_of_le (Nat.mod_lt _ (by decide)) (by decide))
  rw [y_lcE, t]
  have e : G / 2 ^ (4 * k) % 2 ^ 4 = yHg G k := rfl
  have e0 : (0 : Int64).toInt = 0 := rfl
  rw [e, e0]
  omega
theorem y_hxC {x : Int64} {a : Int32} {G k : Nat} (hx : yu x = G) (ha : a.toInt = (k : Int)) (hk : k < 16) : (F_jStr_charAt_22 ((((x.toUInt64 >>> ((4 * a : Int32).toInt64.toUInt64 &&& Int64.toUInt64 63)).toInt64).toInt32) &&& 15)).toInt = ((yHd (yHg G k) : Nat) : Int) ∧ yHd (yHg G k) < 256 := by
  have s := y_hxS hx ha hk
  have w := fx_and (k := 4) (m := 15) s (by decide) (by decide)
  have e : G / 2 ^ (4 * k) % 2 ^ 4 = yHg G k := rfl
  rw [e] at w
  have l := yHg_l G k
  revert w l
  generalize ((((x.toUInt64 >>> ((4 * a : Int32).toInt64.toUInt64 &&& Int64.toUInt64 63)).toInt64).toInt32) &&& 15 : Int32) = i
  generalize yHg G k = v
  intro w l
  have xc : i.toNatClampNeg = v := by
    show i.toInt.toNat = v
    omega
  unfold F_jStr_charAt_22 F_jLat_charAt_22
  rw [xc]
  have key : ∀ v : Nat, v < 16 → ((((((([48, 49, 50, 51, 52, 53, 54, 55, 56, 57, 97, 98, 99, 100, 101, 102, 103, 104, 105, 106, 107, 108, 109, 110, 111, 112, 113, 114, 115, 116, 117, 118, 119, 120, 121, 122] : List Int32).getD v 0) : Int32) &&& 255 : Int32).toUInt32 % 65536).toInt32 : Int32)).toInt = ((yHd v : Nat) : Int) ∧ yHd v < 256 := by decide +kernel
  exact key v l
/-- the fraction, laid so that its figures are whole ones; how many figures -/
def yHG (P w : Nat) : Nat := yFx P w * 2 ^ (if P = 52 then 0 else 1)
def yHn (P : Nat) : Nat := if P = 52 then 12 else 5
theorem y_hxG {A B C : Int32} {P T : Nat} {l : Int} (hF : yF A B C P T l) {x : Int64} : yu ((F_Flo_fraction A B C x) <<< (((4 * ((A + 3) / 4)) - A : Int32).toInt64 &&& 63)) = yHG P (yu x) ∧ ((A + 3) / 4 - 1 : Int32).toInt = ((yHn P : Nat) : Int) ∧ yHn P ≤ 12 := by
  have f := y_fra hF (x := x)
  have fl := yFx_lt (P := P) (u := yu x)
  revert f
  generalize F_Flo_fraction A B C x = y
  intro f
  unfold yHG
  rcases hF with ⟨rfl, rfl, rfl, rfl, rfl, rfl⟩ | ⟨rfl, rfl, rfl, rfl, rfl, rfl⟩
  · have p : (2 : Nat) ^ 52 = 4503599627370496 := rfl
    have s := fx_shl (k := 0) (c := ((4 * ((52 + 3) / 4)) - 52 : Int32)) f (by decide) (by decide) (by rw [Nat.pow_zero]; omega)
    have n := s_nnL (x := y <<< (((4 * ((52 + 3) / 4)) - 52 : Int32).toInt64 &&& 63)) (by rw [s]; omega)
    refine ⟨?_, by decide, by decide⟩
    rw [if_pos (rfl : 52 = 52)]
    show (y <<< (((4 * ((52 + 3) / 4)) - 52 : Int32).toInt64 &&& 63)).toBitVec.toNat = _
    rw [s] at n
    omega
  · have p : (2 : Nat) ^ 23 = 8388608 := rfl
    have s := fx_shl (k := 1) (c := ((4 * ((23 + 3) / 4)) - 23 : Int32)) f (by decide) (by decide) (by rw [Nat.pow_one]; omega)
    have n := s_nnL (x := y <<< (((4 * ((23 + 3) / 4)) - 23 : Int32).toInt64 &&& 63)) (by rw [s]; omega)
    refine ⟨?_, by decide, by decide⟩
    rw [if_neg (by decide : ¬ 23 = 52)]
    show (y <<< (((4 * ((23 + 3) / 4)) - 23 : Int32).toInt64 &&& 63)).toBitVec.toNat = _
    rw [s] at n
    omega
theorem y_hxP {A B C : Int32} {P T : Nat} {l : Int} (hF : yF A B C P T l) {x : Int64} : (F_Flo_power A B C x + A : Int32).toInt = yPx l (yEx P T (yu x)) + P ∧ -99999 ≤ yPx l (yEx P T (yu x)) + P ∧ yPx l (yEx P T (yu x)) + P ≤ 99999 := by
  have p := y_pow hF (x := x)
  have le := yEx_le (P := P) (T := T) (u := yu x)
  have b : -1074 ≤ yPx l (yEx P T (yu x)) ∧ yPx l (yEx P T (yu x)) ≤ 2000 ∧ A.toInt = (P : Int) ∧ P ≤ 52 := by
    unfold yPx
    revert le
    generalize yEx P T (yu x) = e
    intro le
    rcases hF with ⟨rfl, rfl, rfl, rfl, rfl, rfl⟩ | ⟨rfl, rfl, rfl, rfl, rfl, rfl⟩
    · exact ⟨by omega, by omega, by decide, by decide⟩
    · exact ⟨by omega, by omega, by decide, by decide⟩
  obtain ⟨b1, b2, b3, b4⟩ := b
  refine ⟨q_addI p b3 (by omega) (by omega), by omega, by omega⟩
theorem V_hxD {K_F_Wri_writeHexadecimal_L52 : Int32 → (Int32 × (Nat → Int64))} {A : Int32} {B : Int32} {C : Int32} {x3 : Int64} {t0_0 : Int32} {t1_0 : (Nat → Int64)} {t2_0 : Int64} {t2_1 : Int32} {t2_2 : Int32} {p30 : (Int32 × (Nat → Int64))} {j56 : Int64} {a42 : Int32} {y23 : Int32} {f24 : (Nat → Int64)} {lx59 : Int32} {P T G z : Nat} {l0 : Int} (hF : yF A B C P T l0) (hj : yu j56 = G) (hz : lx59.toInt = (z : Int)) (hz15 : z ≤ 13) : ∀ (n : Nat) (lx84 : Int32) (lx85 : Int32) (lx86 : (Nat → Int64)), ∀ (k : Nat) (l : List Nat), lx84.toInt + 1 = (k : Int) → k ≤ 13 → k < n → yPa lx85 lx86 l → l.length + k < 1000 → yPa (F_Wri_writeHexadecimal_L89 K_F_Wri_writeHexadecimal_L52 A B C x3 t0_0 t1_0 t2_0 t2_1 t2_2 p30 j56 a42 y23 f24 lx59 n lx84 lx85 lx86).1 (F_Wri_writeHexadecimal_L89 K_F_Wri_writeHexadecimal_L52 A B C x3 t0_0 t1_0 t2_0 t2_1 t2_2 p30 j56 a42 y23 f24 lx59 n lx84 lx85 lx86).2 (l ++ (yHl G z k ++ ([112] ++ yPs (yPx l0 (yEx P T (yu x3)) + P)))) := by
  obtain ⟨w1, w2, w3⟩ := y_hxP hF (x := x3)
  intro n
  induction n with
  | zero =>
    intro lx84 lx85 lx86 k l h1 h2 h3
    omega
  | succ n ih =>
    intro lx84 lx85 lx86 k l h1 h2 h3 h4 h5
    rw [F_Wri_writeHexadecimal_L89.eq_2]
    by_cases c : lx84 < lx59
    · rw [if_pos c]
      have c := q_ltI c
      have p1 := V_paP (N := 1376) (K := 1000000) (x2 := 112) (v := 112) h4 (by omega) rfl (by decide)
      revert p1
      generalize F_She_add_p 11008 1376 1000000 112 lx85 lx86 = p
      intro p1
      unfold F_Wri_writeHexadecimal_c131
      have w := V_wSig (x2 := F_Flo_power A B C x3 + A) p1 (by rw [List.length_append, List.length_singleton]; omega) (by rw [w1]; exact ⟨w2, w3⟩)
      rw [w1] at w
      revert w
      generalize F_Wri_writeSigned (F_Flo_power A B C x3 + A) p.1 p.2 = r
      intro w
      unfold F_Wri_writeHexadecimal_c145
      rw [yHl_e (by omega : k ≤ z), List.nil_append, ← List.append_assoc]
      exact w
    · rw [if_neg c]
      have c := q_nltI c
      obtain ⟨m, rfl⟩ : ∃ m, k = m + 1 := ⟨k - 1, by omega⟩
      have hm : lx84.toInt = (m : Int) := by omega
      obtain ⟨d1, d2⟩ := y_hxC hj hm (by omega)
      have p1 := V_paP (N := 1376) (K := 1000000) h4 (by omega) d1 d2
      unfold F_Wri_writeHexadecimal_c116
      have r := ih (lx84 + -1) _ _ m _ (y_dn1 hm) (by omega) (by omega) p1 (by rw [List.length_append, List.length_singleton]; omega)
      rw [yHl_s (by omega)]
      rw [List.append_assoc] at r
      exact r
theorem V_hxZ {A : Int32} {B : Int32} {C : Int32} {x3 : Int64} {t0_0 : Int32} {t1_0 : (Nat → Int64)} {t2_0 : Int64} {t2_1 : Int32} {t2_2 : Int32} {p30 : (Int32 × (Nat → Int64))} {j56 : Int64} {a42 : Int32} {y23 : Int32} {f24 : (Nat → Int64)} {P T G H : Nat} {l0 : Int} {l : List Nat} (hF : yF A B C P T l0) (hj : yu j56 = G) (ha : (a42 - 1 : Int32).toInt = (H : Int)) (hH : H ≤ 12) (hp : yPa y23 f24 l) (hl : l.length ≤ 100) : ∀ (n : Nat) (lx59 : Int32), ∀ z : Nat, lx59.toInt = (z : Int) → z ≤ H → 12 < n + z → yHz G z → yPa (F_Wri_writeHexadecimal_L52 A B C x3 t0_0 t1_0 t2_0 t2_1 t2_2 p30 j56 a42 y23 f24 n lx59).1 (F_Wri_writeHexadecimal_L52 A B C x3 t0_0 t1_0 t2_0 t2_1 t2_2 p30 j56 a42 y23 f24 n lx59).2 (l ++ (yHd (yHg G H) :: yHq G H ++ ([112] ++ yPs (yPx l0 (yEx P T (yu x3)) + P)))) := by
  have e1 : (1 : Int32).toInt = 1 := rfl
  intro n
  induction n with
  | zero =>
    intro lx59 z h1 h2 h3
    omega
  | succ n ih =>
    intro lx59 z h1 h2 h3 h4
    rw [F_Wri_writeHexadecimal_L52.eq_2]
    by_cases c : a42 - 1 ≤ lx59
    · rw [if_pos c]
      have c := q_leI c
      obtain rfl : z = H := by omega
      unfold F_Wri_writeHexadecimal_J83
      have e : yHl G z (z + 1) = yHd (yHg G z) :: yHq G z := by rw [yHl_s (by omega), yHl_x h4 (Or.inl rfl) (Nat.le_refl _) (Nat.le_refl _)]
      rw [← e]
      exact V_hxD hF hj h1 (by omega) (((a42 - 1).toInt - -1).toNat + 1) (a42 - 1) y23 f24 (z + 1) l (by omega) (by omega) (by omega) hp (by omega)
    · rw [if_neg c]
      have c := q_nleI c
      by_cases d : yHg G z = 0
      · rw [if_pos ((y_hxN hj h1 (by omega)).mpr d)]
        exact ih (lx59 + 1) (z + 1) (q_addI h1 e1 (by omega) (by omega)) (by omega) (by omega) (yHz_s.mpr ⟨h4, d⟩)
      · rw [if_neg (fun q => d ((y_hxN hj h1 (by omega)).mp q))]
        unfold F_Wri_writeHexadecimal_J83
        have e : yHl G z (H + 1) = yHd (yHg G H) :: yHq G H := by rw [yHl_s (by omega), yHl_x h4 (Or.inr d) (by omega) (Nat.le_refl _)]
        rw [← e]
        exact V_hxD hF hj h1 (by omega) (((a42 - 1).toInt - -1).toNat + 1) (a42 - 1) y23 f24 (H + 1) l (by omega) (by omega) (by omega) hp (by omega)
theorem V_hxD2 {K_F_Wri_writeHexadecimal_L52_9 : Int32 → (Int32 × (Nat → Int64))} {A : Int32} {B : Int32} {C : Int32} {x3 : Int64} {t0_0 : Int32} {t1_0 : (Nat → Int64)} {t2_0 : Int64} {t2_1 : Int32} {t2_2 : Int32} {p225 : (Int32 × (Nat → Int64))} {j251 : Int64} {a237 : Int32} {y218 : Int32} {f219 : (Nat → Int64)} {lx254 : Int32} {P T G z : Nat} {l0 : Int} (hF : yF A B C P T l0) (hj : yu j251 = G) (hz : lx254.toInt = (z : Int)) (hz15 : z ≤ 13) : ∀ (n : Nat) (lx279 : Int32) (lx280 : Int32) (lx281 : (Nat → Int64)), ∀ (k : Nat) (l : List Nat), lx279.toInt + 1 = (k : Int) → k ≤ 13 → k < n → yPa lx280 lx281 l → l.length + k < 1000 → yPa (F_Wri_writeHexadecimal_L89_11 K_F_Wri_writeHexadecimal_L52_9 A B C x3 t0_0 t1_0 t2_0 t2_1 t2_2 p225 j251 a237 y218 f219 lx254 n lx279 lx280 lx281).1 (F_Wri_writeHexadecimal_L89_11 K_F_Wri_writeHexadecimal_L52_9 A B C x3 t0_0 t1_0 t2_0 t2_1 t2_2 p225 j251 a237 y218 f219 lx254 n lx279 lx280 lx281).2 (l ++ (yHl G z k ++ ([112] ++ yPs (yPx l0 (yEx P T (yu x3)) + P)))) := by
  obtain ⟨w1, w2, w3⟩ := y_hxP hF (x := x3)
  intro n
  induction n with
  | zero =>
    intro lx279 lx280 lx281 k l h1 h2 h3
    omega
  | succ n ih =>
    intro lx279 lx280 lx281 k l h1 h2 h3 h4 h5
    rw [F_Wri_writeHexadecimal_L89_11.eq_2]
    by_cases c : lx279 < lx254
    · rw [if_pos c]
      have c := q_ltI c
      have p1 := V_paP (N := 1376) (K := 1000000) (x2 := 112) (v := 112) h4 (by omega) rfl (by decide)
      revert p1
      generalize F_She_add_p 11008 1376 1000000 112 lx280 lx281 = p
      intro p1
      unfold F_Wri_writeHexadecimal_c131_12
      have w := V_wSig (x2 := F_Flo_power A B C x3 + A) p1 (by rw [List.length_append, List.length_singleton]; omega) (by rw [w1]; exact ⟨w2, w3⟩)
      rw [w1] at w
      revert w
      generalize F_Wri_writeSigned (F_Flo_power A B C x3 + A) p.1 p.2 = r
      intro w
      unfold F_Wri_writeHexadecimal_c145_13
      rw [yHl_e (by omega : k ≤ z), List.nil_append, ← List.append_assoc]
      exact w
    · rw [if_neg c]
      have c := q_nltI c
      obtain ⟨m, rfl⟩ : ∃ m, k = m + 1 := ⟨k - 1, by omega⟩
      have hm : lx279.toInt = (m : Int) := by omega
      obtain ⟨d1, d2⟩ := y_hxC hj hm (by omega)
      have p1 := V_paP (N := 1376) (K := 1000000) h4 (by omega) d1 d2
      unfold F_Wri_writeHexadecimal_c116_14
      have r := ih (lx279 + -1) _ _ m _ (y_dn1 hm) (by omega) (by omega) p1 (by rw [List.length_append, List.length_singleton]; omega)
      rw [yHl_s (by omega)]
      rw [List.append_assoc] at r
      exact r
theorem V_hxZ2 {A : Int32} {B : Int32} {C : Int32} {x3 : Int64} {t0_0 : Int32} {t1_0 : (Nat → Int64)} {t2_0 : Int64} {t2_1 : Int32} {t2_2 : Int32} {p225 : (Int32 × (Nat → Int64))} {j251 : Int64} {a237 : Int32} {y218 : Int32} {f219 : (Nat → Int64)} {P T G H : Nat} {l0 : Int} {l : List Nat} (hF : yF A B C P T l0) (hj : yu j251 = G) (ha : (a237 - 1 : Int32).toInt = (H : Int)) (hH : H ≤ 12) (hp : yPa y218 f219 l) (hl : l.length ≤ 100) : ∀ (n : Nat) (lx254 : Int32), ∀ z : Nat, lx254.toInt = (z : Int) → z ≤ H → 12 < n + z → yHz G z → yPa (F_Wri_writeHexadecimal_L52_9 A B C x3 t0_0 t1_0 t2_0 t2_1 t2_2 p225 j251 a237 y218 f219 n lx254).1 (F_Wri_writeHexadecimal_L52_9 A B C x3 t0_0 t1_0 t2_0 t2_1 t2_2 p225 j251 a237 y218 f219 n lx254).2 (l ++ (yHd (yHg G H) :: yHq G H ++ ([112] ++ yPs (yPx l0 (yEx P T (yu x3)) + P)))) := by
  have e1 : (1 : Int32).toInt = 1 := rfl
  intro n
  induction n with
  | zero =>
    intro lx254 z h1 h2 h3
    omega
  | succ n ih =>
    intro lx254 z h1 h2 h3 h4
    rw [F_Wri_writeHexadecimal_L52_9.eq_2]
    by_cases c : a237 - 1 ≤ lx254
    · rw [if_pos c]
      have c := q_leI c
      obtain rfl : z = H := by omega
      unfold F_Wri_writeHexadecimal_J83_10
      have e : yHl G z (z + 1) = yHd (yHg G z) :: yHq G z := by rw [yHl_s (by omega), yHl_x h4 (Or.inl rfl) (Nat.le_refl _) (Nat.le_refl _)]
      rw [← e]
      exact V_hxD2 hF hj h1 (by omega) (((a237 - 1).toInt - -1).toNat + 1) (a237 - 1) y218 f219 (z + 1) l (by omega) (by omega) (by omega) hp (by omega)
    · rw [if_neg c]
      have c := q_nleI c
      by_cases d : yHg G z = 0
      · rw [if_pos ((y_hxN hj h1 (by omega)).mpr d)]
        exact ih (lx254 + 1) (z + 1) (q_addI h1 e1 (by omega) (by omega)) (by omega) (by omega) (yHz_s.mpr ⟨h4, d⟩)
      · rw [if_neg (fun q => d ((y_hxN hj h1 (by omega)).mp q))]
        unfold F_Wri_writeHexadecimal_J83_10
        have e : yHl G z (H + 1) = yHd (yHg G H) :: yHq G H := by rw [yHl_s (by omega), yHl_x h4 (Or.inr d) (by omega) (Nat.le_refl _)]
        rw [← e]
        exact V_hxD2 hF hj h1 (by omega) (((a237 - 1).toInt - -1).toNat + 1) (a237 - 1) y218 f219 (H + 1) l (by omega) (by omega) (by omega) hp (by omega)
/-- a float other than infinities and no number, in hexadecimal -/
def yHtx (P T : Nat) (l : Int) (w : Nat) : List Nat := [48, 120, if yEx P T w = 0 then 48 else 49, 46] ++ (yHd (yHg (yHG P w) (yHn P)) :: yHq (yHG P w) (yHn P) ++ ([112] ++ yPs (yPx l (yEx P T w) + P)))
theorem V_wHex {A : Int32} {B : Int32} {C : Int32} {x3 : Int64} {t0_0 : Int32} {t1_0 : (Nat → Int64)} {t2_0 : Int64} {t2_1 : Int32} {t2_2 : Int32} {P T : Nat} {l0 : Int} {l : List Nat} (hF : yF A B C P T l0) (hp : yPa t0_0 t1_0 l) (hl : l.length ≤ 90) : yPa (F_Wri_writeHexadecimal A B C x3 t0_0 t1_0 t2_0 t2_1 t2_2).1 (F_Wri_writeHexadecimal A B C x3 t0_0 t1_0 t2_0 t2_1 t2_2).2 (l ++ yHtx P T l0 (yu x3)) := by
  have e0 : (0 : Int32).toInt = 0 := rfl
  obtain ⟨g1, g2, g3⟩ := y_hxG hF (x := x3)
  have ex := y_exp hF (x := x3)
  have z0 : yHz (yHG P (yu x3)) 0 := Nat.mod_one _
  unfold F_Wri_writeHexadecimal yHtx
  rw [← List.append_assoc]
  by_cases c : F_Flo_exponent A B C x3 ≤ 0
  · rw [if_pos c]
    have c := q_leI c
    rw [if_pos (by omega)]
    have w := V_at28 (N := 1376) (K := 1000000) rfl hp (by omega)
    revert w
    generalize F_She_addText_28 11008 1376 1000000 t0_0 t1_0 = r
    intro w
    unfold F_Wri_writeHexadecimal_c19
    exact V_hxZ hF g1 g2 g3 w (by rw [List.length_append]; show _ + 4 ≤ _; omega) ((13 - (0 : Int32).toInt).toNat + 1) 0 0 rfl (by omega) (by decide) z0
  · rw [if_neg c]
    have c := q_nleI c
    rw [if_neg (by omega)]
    have w := V_at27 (N := 1376) (K := 1000000) rfl hp (by omega)
    revert w
    generalize F_She_addText_27 11008 1376 1000000 t0_0 t1_0 = r
    intro w
    unfold F_Wri_writeHexadecimal_c19_8
    exact V_hxZ2 hF g1 g2 g3 w (by rw [List.length_append]; show _ + 4 ≤ _; omega) ((13 - (0 : Int32).toInt).toNat + 1) 0 0 rfl (by omega) (by decide) z0
