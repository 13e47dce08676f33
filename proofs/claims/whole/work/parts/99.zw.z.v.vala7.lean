/-! values, for whole: the class's Floats: exactly, towardsZero, changed -/
theorem y_tdN {n k : Nat} : ((n : Int)).tdiv (2 ^ k) = ((n / 2 ^ k : Nat) : Int) := by
  rw [Int.tdiv_eq_ediv_of_nonneg (by omega), Int.natCast_ediv, Int.natCast_pow]
  rfl
theorem y_sgn {R s n m : Int32} {f : Nat → Int32} {v : Nat} (h : bO R s n f (v : Int)) (v0 : v ≠ 0) (hm : m = 0 ∨ m = 1) : bO R s m f (sgI m (v : Int)) := by
  obtain ⟨h1, h2, h3, h4, h5⟩ := h
  have sp : 0 < s.toInt := by
    have := h1.1
    rcases Int.lt_or_le 0 s.toInt with c | c
    · exact c
    · exfalso
      have z : s = 0 := Int32.toInt_inj.mp (by have e0 : (0 : Int32).toInt = 0 := rfl; omega)
      have hb : bO R s n f (v : Int) := ⟨h1, h2, h3, h4, h5⟩
      have := hb.nil.mp z
      omega
  have hb : bO R s n f (v : Int) := ⟨h1, h2, h3, h4, h5⟩
  rcases hb.ngB with ⟨n0, _⟩ | ⟨_, vn⟩
  · unfold bS at h3
    rw [n0, if_pos rfl] at h3
    refine ⟨h1, ?_, ?_, h4, h5⟩
    · rcases hm with rfl | rfl
      · exact Or.inl rfl
      · exact Or.inr ⟨rfl, sp⟩
    · unfold bS sgI
      rw [h3]
  · omega
/-- the exact value of a float: u / 10 ^ s, with the least s not below 0 -/
def yEq (n : Nat) (pw : Int) (u s : Nat) : Prop := u * 2 ^ (-pw).toNat = n * 2 ^ pw.toNat * 10 ^ s ∧ (s = 0 ∨ u % 10 ≠ 0)
theorem yEq_U {n u v s t : Nat} {pw : Int} (h : yEq n pw u s) (g : yEq n pw v t) : u = v ∧ s = t := by
  have key : ∀ {u v s t : Nat}, yEq n pw u s → yEq n pw v t → s ≤ t → u = v ∧ s = t := fun {u v s t} h g c => by
    obtain ⟨k, rfl⟩ : ∃ k, t = s + k := ⟨t - s, by omega⟩
    obtain ⟨h1, h2⟩ := h
    obtain ⟨g1, g2⟩ := g
    have p : 0 < 2 ^ (-pw).toNat := Nat.pow_pos (by decide)
    have e : v = u * 10 ^ k := by
      refine Nat.eq_of_mul_eq_mul_right p ?_
      rw [g1, Nat.pow_add, ← Nat.mul_assoc, ← h1]
      ac_rfl
    rcases Nat.eq_zero_or_pos k with rfl | kp
    · rw [Nat.pow_zero, Nat.mul_one] at e
      exact ⟨e.symm, rfl⟩
    · exfalso
      obtain ⟨j, rfl⟩ : ∃ j, k = j + 1 := ⟨k - 1, by omega⟩
      have : v % 10 = 0 := by
        rw [e, Nat.pow_succ, ← Nat.mul_assoc]
        exact Nat.mul_mod_left _ _
      rcases g2 with g2 | g2
      · omega
      · exact g2 this
  rcases Nat.le_total s t with c | c
  · exact key h g c
  · obtain ⟨a, b⟩ := key g h c
    exact ⟨a.symm, b.symm⟩
theorem yEq_ex {n low ev sc k : Nat} {pw : Int} (j : Nat) (hl : n = 2 ^ low * (2 * j + 1)) (hk : k = (-pw).toNat) (he : ev = min k low) (hs : sc = k - ev) : yEq n pw (n / 2 ^ ev * 2 ^ pw.toNat * 5 ^ sc) sc := by
  have dv : n / 2 ^ ev * 2 ^ ev = n := by
    refine Nat.div_mul_cancel ?_
    rw [hl]
    exact Nat.dvd_trans (Nat.pow_dvd_pow 2 (by omega)) (Nat.dvd_mul_right _ _)
  constructor
  · rw [← hk, show k = ev + sc by omega, Nat.pow_add, y_ten]
    generalize n / 2 ^ ev = m at dv ⊢
    rw [← dv]
    ac_rfl
  · rcases Nat.eq_zero_or_pos sc with c | c
    · exact Or.inl c
    · refine Or.inr ?_
      have e1 : ev = low := by omega
      have e2 : pw.toNat = 0 := by omega
      rw [e1, e2, hl, Nat.mul_div_cancel_left _ (Nat.pow_pos (by decide)), Nat.pow_zero, Nat.mul_one]
      have o5 : 5 ^ sc % 2 = 1 := by
        rw [Nat.pow_mod]
        show 1 ^ sc % 2 = 1
        rw [Nat.one_pow]
      intro h
      have h2 : ((2 * j + 1) * 5 ^ sc) % 2 = 0 := by omega
      rw [Nat.mul_mod, o5] at h2
      omega
theorem V_exactly {A : Int32} {B : Int32} {C : Int32} {x2 : Int64} {t0_0 : Int32} {t0_1 : Int32} {t1_0 : (Nat → Int32)} {P T : Nat} {l : Int} (hF : yF A B C P T l) (hfin : yEx P T (yu x2) ≠ T) : ∃ u s : Nat, yEq (yNx P T (yu x2)) (yPx l (yEx P T (yu x2))) u s ∧ (F_Flo_exactly A B C x2 t0_0 t0_1 t1_0).1.toInt = (s : Int) ∧ s ≤ 1074 ∧ bO 220 (F_Flo_exactly A B C x2 t0_0 t0_1 t1_0).2.1 (F_Flo_exactly A B C x2 t0_0 t0_1 t1_0).2.2.1 (F_Flo_exactly A B C x2 t0_0 t0_1 t1_0).2.2.2 (sgI (if yNx P T (yu x2) = 0 then 0 else if ySx P T (yu x2) = 1 then 1 else 0) (u : Int)) ∧ bB 176 (u : Int) := by
  obtain ⟨f1, f2, f3, f4, f5, f6, f7⟩ := hF.n
  have e := e220
  have e0 : (0 : Int32).toInt = 0 := rfl
  have hp := y_pow hF (x := x2)
  have hn := y_num hF (x := x2)
  have hg := y_neg hF (x := x2)
  have hE : yEx P T (yu x2) < T + 1 := Nat.mod_lt _ (by omega)
  have pb : -1074 ≤ yPx l (yEx P T (yu x2)) ∧ yPx l (yEx P T (yu x2)) ≤ 971 := by
    have : (T : Int) + l ≤ 973 := by
      rcases hF with ⟨rfl, rfl, rfl, rfl, rfl, rfl⟩ | ⟨rfl, rfl, rfl, rfl, rfl, rfl⟩ <;> decide
    unfold yPx
    omega
  have nb : yNx P T (yu x2) < 2 ^ 53 := by
    have h1 := yFx_lt (P := P) (u := yu x2)
    have h2 := y_P52 hF
    unfold yNx
    split <;> omega
  generalize yPx l (yEx P T (yu x2)) = pw at hp pb ⊢
  generalize yNx P T (yu x2) = n at hn nb ⊢
  generalize (if ySx P T (yu x2) = 1 then (1 : Int32) else 0) = sg at hg ⊢
  have sg01 : sg = 0 ∨ sg = 1 := by
    rw [← hg]
    unfold F_Flo_isNegative
    split
    · exact Or.inl rfl
    · exact Or.inr rfl
  unfold F_Flo_exactly
  have h1 : P1 220 (F_Flo_number A B C x2).toInt (F_Big_setLong 220 (F_Flo_number A B C x2) t0_0 t0_1 t1_0) := W_setLong (by decide) (by decide)
  have b1 := bB3 (x := F_Flo_number A B C x2)
  rw [hn] at h1 b1
  generalize F_Big_setLong 220 (F_Flo_number A B C x2) t0_0 t0_1 t1_0 = p40 at h1 ⊢
  generalize F_Flo_power A B C x2 = a15 at hp ⊢
  unfold F_Flo_exactly_c22
  by_cases g : p40.1 = 0
  · rw [if_pos g]
    have z : n = 0 := by
      have := h1.nil.mp g
      omega
    refine ⟨0, 0, ⟨?_, Or.inl rfl⟩, rfl, by omega, ?_, ?_⟩
    · rw [z, Nat.zero_mul, Nat.zero_mul, Nat.zero_mul]
    · rw [if_pos z]
      rw [z] at h1
      exact h1
    · show 0 < 2147483648 ^ 176
      exact Nat.pow_pos (by decide)
  rw [if_neg g]
  have hv : n ≠ 0 := fun h9 => g (h1.nil.mpr (by omega))
  rw [if_neg hv]
  obtain ⟨low, j, l1, l2, l3⟩ := W_lowE h1 (by omega)
  rw [Int.natAbs_natCast] at l3
  have qn : (-a15 : Int32).toInt = -pw := q_negI hp (by omega)
  generalize F_Big_lowestOne 220 p40.1 p40.2.1 p40.2.2 = lo at l1 ⊢
  obtain ⟨na, en⟩ := q_nm (-a15 : Int32)
  rw [en] at qn ⊢
  obtain ⟨mx, em⟩ := q_nm (if 0 < na then na else 0 : Int32)
  have hmx : mx.toInt = (((-pw).toNat : Nat) : Int) := by
    rw [← em]
    split
    · rename_i h11
      have := q_ltI h11
      omega
    · rename_i h11
      have := q_nltI h11
      rw [e0]
      omega
  rw [em]
  obtain ⟨ev, ee⟩ := q_nm (if mx < lo then mx else lo : Int32)
  have hev : ev.toInt = ((min (-pw).toNat low : Nat) : Int) := by
    rw [← ee]
    split
    · rename_i h9
      have h10 := q_ltI h9
      omega
    · rename_i h9
      have h10 := q_nltI h9
      omega
  rw [ee]
  obtain ⟨k, hk⟩ : ∃ k, (-pw).toNat = k := ⟨_, rfl⟩
  rw [hk] at hev hmx
  obtain ⟨m, hm⟩ : ∃ m, min k low = m := ⟨_, rfl⟩
  rw [hm] at hev
  have evc : ev.toNatClampNeg = m := by
    rw [v_cn, hev]
    omega
  have w3 := W_shrV (x := ev) h1
  rw [evc, y_tdN] at w3
  have bw : bB 3 ((n / 2 ^ m : Nat) : Int) := b1.le (by rw [Int.natAbs_natCast, Int.natAbs_natCast]; exact Nat.div_le_self _ _)
  generalize F_Big_shiftRight 220 ev p40.1 p40.2.1 p40.2.2 = p85 at w3 ⊢
  have sw := w3.sB bw
  unfold F_Flo_exactly_c55
  have h2 := W_shl (x := a15) w3 (fun _ _ => by omega)
  have b2 : bB 60 (((n / 2 ^ m : Nat) : Int) * 2 ^ a15.toNatClampNeg) := (v_p2B bw).mono (by rw [v_cn]; omega)
  have pc : a15.toNatClampNeg = pw.toNat := by rw [v_cn, hp]
  rw [pc] at h2 b2
  generalize F_Big_shiftLeft 220 a15 p85.2.1 p85.2.2.1 p85.2.2.2 = p110 at h2 ⊢
  unfold F_Flo_exactly_c62
  rw [en]
  have q2 : (na - ev : Int32).toInt = -pw - (m : Int) := q_subI qn hev (by omega) (by omega)
  obtain ⟨sc, es⟩ := q_nm (if 0 < (na - ev : Int32) then (na - ev : Int32) else 0 : Int32)
  have hsc : sc.toInt = ((k - m : Nat) : Int) := by
    rw [← es]
    split
    · rename_i h9
      have := q_ltI h9
      omega
    · rename_i h9
      have := q_nltI h9
      rw [e0]
      omega
  rw [es]
  clear q2
  have scc : sc.toNatClampNeg = k - m := by
    rw [v_cn, hsc]
    omega
  have m1 : (((n / 2 ^ m : Nat) : Int) * 2 ^ pw.toNat).natAbs * 5 ^ sc.toNatClampNeg < 2147483648 ^ 176 := by
    have k1 : 5 ^ sc.toNatClampNeg ≤ 10 ^ 1075 := Nat.le_trans (Nat.pow_le_pow_left (by decide) _) (Nat.pow_le_pow_right (by decide) (by rw [scc]; omega))
    have k2 : (10 : Nat) ^ 1075 ≤ 2147483648 ^ 116 := v_tB (by decide)
    have k3 := Nat.mul_lt_mul_of_lt_of_le b2 (Nat.le_trans k1 k2) (Nat.pow_pos (by decide))
    rw [← Nat.pow_add] at k3
    exact k3
  have h3 := W_five (M := 176) h2 (by decide) m1
  rw [scc] at h3 m1
  have uE : ((n / 2 ^ m : Nat) : Int) * 2 ^ pw.toNat * 5 ^ (k - m) = ((n / 2 ^ m * 2 ^ pw.toNat * 5 ^ (k - m) : Nat) : Int) := by
    rw [Int.natCast_mul, Int.natCast_mul, Int.natCast_pow, Int.natCast_pow]
    rfl
  rw [uE] at h3
  generalize F_Big_timesFive 220 sc p110.1 p110.2.1 p110.2.2 = p142 at h3 ⊢
  unfold F_Flo_exactly_c80
  have yq := yEq_ex (pw := pw) (k := k) (ev := m) (sc := k - m) j l3 hk.symm hm.symm rfl
  have dp : 1 ≤ n / 2 ^ m := by
    refine (Nat.le_div_iff_mul_le (Nat.pow_pos (by decide))).mpr ?_
    rw [Nat.one_mul, l3]
    exact Nat.le_trans (Nat.pow_le_pow_right (by decide) (by omega)) (Nat.le_mul_of_pos_right _ (by omega))
  have un : n / 2 ^ m * 2 ^ pw.toNat * 5 ^ (k - m) ≠ 0 := by
    have := Nat.mul_pos (Nat.mul_pos dp (Nat.pow_pos (n := pw.toNat) (show 0 < 2 by decide))) (Nat.pow_pos (n := k - m) (show 0 < 5 by decide))
    omega
  refine ⟨_, k - m, yq, hsc, by omega, ?_, ?_⟩
  · rw [hg]
    exact y_sgn h3 un sg01
  · unfold bB
    rw [Int.natAbs_natCast]
    rw [Int.natAbs_mul, Int.natAbs_natCast, Int.natAbs_pow] at m1
    exact m1
theorem V_Flo_towardsZero {A : Int32} {B : Int32} {C : Int32} {x2 : Int64} {t0_0 : Int32} {t0_1 : Int32} {t1_0 : (Nat → Int32)} {P T : Nat} {l : Int} {m : Nat} (hF : yF A B C P T l) (hfin : yEx P T (yu x2) ≠ T) (hm : m = yNx P T (yu x2) * 2 ^ (yPx l (yEx P T (yu x2))).toNat / 2 ^ (-(yPx l (yEx P T (yu x2)))).toNat) : bO 220 (F_Flo_towardsZero A B C x2 t0_0 t0_1 t1_0).1 (F_Flo_towardsZero A B C x2 t0_0 t0_1 t1_0).2.1 (F_Flo_towardsZero A B C x2 t0_0 t0_1 t1_0).2.2 (sgI (if m = 0 then 0 else if ySx P T (yu x2) = 1 then 1 else 0) (m : Int)) ∧ bB 60 (m : Int) := by
  obtain ⟨f1, f2, f3, f4, f5, f6, f7⟩ := hF.n
  have e := e220
  have e0 : (0 : Int32).toInt = 0 := rfl
  have hp := y_pow hF (x := x2)
  have hn := y_num hF (x := x2)
  have hg := y_neg hF (x := x2)
  have hE : yEx P T (yu x2) < T + 1 := Nat.mod_lt _ (by omega)
  have pb : -1074 ≤ yPx l (yEx P T (yu x2)) ∧ yPx l (yEx P T (yu x2)) ≤ 971 := by
    have : (T : Int) + l ≤ 973 := by
      rcases hF with ⟨rfl, rfl, rfl, rfl, rfl, rfl⟩ | ⟨rfl, rfl, rfl, rfl, rfl, rfl⟩ <;> decide
    unfold yPx
    omega
  generalize yPx l (yEx P T (yu x2)) = pw at hp pb hm ⊢
  generalize yNx P T (yu x2) = n at hn hm ⊢
  generalize (if ySx P T (yu x2) = 1 then (1 : Int32) else 0) = sg at hg ⊢
  have sg01 : sg = 0 ∨ sg = 1 := by
    rw [← hg]
    unfold F_Flo_isNegative
    split
    · exact Or.inl rfl
    · exact Or.inr rfl
  unfold F_Flo_towardsZero
  have h1 : P1 220 (F_Flo_number A B C x2).toInt (F_Big_setLong 220 (F_Flo_number A B C x2) t0_0 t0_1 t1_0) := W_setLong (by decide) (by decide)
  have b1 := bB3 (x := F_Flo_number A B C x2)
  rw [hn] at h1 b1
  have s1 := h1.sB b1
  generalize F_Big_setLong 220 (F_Flo_number A B C x2) t0_0 t0_1 t1_0 = p40 at h1 s1 ⊢
  generalize F_Flo_power A B C x2 = a15 at hp ⊢
  unfold F_Flo_towardsZero_c18
  have h2 := W_shl (x := a15) h1 (fun _ _ => by omega)
  have b2 : bB 60 ((n : Int) * 2 ^ a15.toNatClampNeg) := (v_p2B b1).mono (by rw [v_cn]; omega)
  have pc : a15.toNatClampNeg = pw.toNat := by rw [v_cn, hp]
  have qn : (-a15 : Int32).toInt = -pw := q_negI hp (by omega)
  have nc : (-a15 : Int32).toNatClampNeg = (-pw).toNat := by rw [v_cn, qn]
  have c1 : (n : Int) * 2 ^ pw.toNat = ((n * 2 ^ pw.toNat : Nat) : Int) := by
    rw [Int.natCast_mul, Int.natCast_pow]
    rfl
  rw [pc, c1] at h2 b2
  generalize F_Big_shiftLeft 220 a15 p40.1 p40.2.1 p40.2.2 = p64 at h2 ⊢
  unfold F_Flo_towardsZero_c29
  have h3 := W_shrV (x := -a15) h2
  rw [nc, y_tdN, ← hm] at h3
  have b3 : bB 60 (m : Int) := b2.le (by rw [Int.natAbs_natCast, Int.natAbs_natCast, hm]; exact Nat.div_le_self _ _)
  generalize F_Big_shiftRight 220 (-a15) p64.1 p64.2.1 p64.2.2 = p94 at h3 ⊢
  refine ⟨?_, b3⟩
  unfold F_Flo_towardsZero_c41
  by_cases g : p94.2.1 ≤ 0
  · rw [if_pos g]
    have z := (y_sizeP h3).mp g
    rw [if_pos (show m = 0 by omega)]
    have zz : p94.2.1 = 0 := h3.nil.mpr z
    rcases h3.ngB with ⟨n0, _⟩ | ⟨_, vn⟩
    · rw [n0] at h3
      exact h3
    · omega
  · rw [if_neg g]
    have z : ¬ m = 0 := fun h => g ((y_sizeP h3).mpr (by omega))
    rw [if_neg z, hg]
    rcases sg01 with rfl | rfl
    · rw [if_pos rfl]
      exact y_sgn h3 z (Or.inl rfl)
    · rw [if_neg (by decide)]
      exact y_sgn h3 z (Or.inr rfl)
theorem yfRnd_le {P T : Nat} {l : Int} {N D b : Nat} (h : yfRnd P T l N D b) : b ≤ T * 2 ^ P := by
  obtain ⟨q, _, e⟩ := h
  rw [e]
  exact Nat.min_le_left _ _
/-- a size, and the sign's bit -/
theorem y_orS {A B C : Int32} {P T : Nat} {l : Int} (hF : yF A B C P T l) {x : Int64} {b : Nat} {n : Int32} (hx : yu x = b) (hb : b < 2 ^ P * (T + 1)) (hn : n = 0 ∨ n = 1) : yu (x ||| F_Flo_signBit A B C n) = b + n.toInt.toNat * (2 ^ P * (T + 1)) := by
  obtain ⟨s1, s2, k, s3, s4⟩ := y_sgb hF
  rcases hn with rfl | rfl
  · rw [s2]
    show (x ||| (0 : Int64)).toBitVec.toNat = b + 0 * _
    rw [Int64.or_zero, Nat.zero_mul, Nat.add_zero]
    exact hx
  · show (x ||| F_Flo_signBit A B C 1).toBitVec.toNat = b + 1 * _
    rw [Int64.toBitVec_or, BitVec.toNat_or]
    have e1 : x.toBitVec.toNat = b := hx
    have e2 : (F_Flo_signBit A B C 1).toBitVec.toNat = 2 ^ P * (T + 1) := s1
    rw [e1, e2, s4, Nat.or_comm, Nat.one_mul]
    rw [s4] at hb
    have := Nat.two_pow_add_eq_or_of_lt hb 1
    rw [Nat.mul_one] at this
    rw [← this, Nat.add_comm]
theorem yf_ex2 {n : Nat} {pw : Int} : yfT pw (n * 2 ^ pw.toNat) (2 ^ (-pw).toNat) = n ∧ yfR pw (n * 2 ^ pw.toNat) (2 ^ (-pw).toNat) = 0 := by
  unfold yfT yfR
  have e : n * 2 ^ pw.toNat * 2 ^ (-pw).toNat = n * (2 ^ (-pw).toNat * 2 ^ pw.toNat) := by ac_rfl
  have p : 0 < 2 ^ (-pw).toNat * 2 ^ pw.toNat := Nat.mul_pos (Nat.pow_pos (by decide)) (Nat.pow_pos (by decide))
  rw [e]
  exact ⟨Nat.mul_div_cancel _ p, Nat.mul_mod_left _ _⟩
/-- bits u of the format P2, T2, l2 in the format P, T, l -/
def yCh (P T : Nat) (l : Int) (P2 T2 : Nat) (l2 : Int) (u v : Nat) : Prop := (yEx P2 T2 u = T2 ∧ yFx P2 u ≠ 0 ∧ v = T * 2 ^ P + 2 ^ (P - 1)) ∨ (yEx P2 T2 u = T2 ∧ yFx P2 u = 0 ∧ v = T * 2 ^ P + ySx P2 T2 u * (2 ^ P * (T + 1))) ∨ (yEx P2 T2 u ≠ T2 ∧ ∃ b, yfRnd P T l (yNx P2 T2 u * 2 ^ (yPx l2 (yEx P2 T2 u)).toNat) (2 ^ (-(yPx l2 (yEx P2 T2 u))).toNat) b ∧ v = b + ySx P2 T2 u * (2 ^ P * (T + 1)))
theorem yCh_U {P T : Nat} {l : Int} {P2 T2 : Nat} {l2 : Int} {u v w : Nat} (h : yCh P T l P2 T2 l2 u v) (g : yCh P T l P2 T2 l2 u w) : v = w := by
  rcases h with ⟨h1, h2, h3⟩ | ⟨h1, h2, h3⟩ | ⟨h1, b, h2, h3⟩ <;> rcases g with ⟨g1, g2, g3⟩ | ⟨g1, g2, g3⟩ | ⟨g1, c, g2, g3⟩
  · rw [h3, g3]
  · exact absurd g2 h2
  · exact absurd h1 g1
  · exact absurd h2 g2
  · rw [h3, g3]
  · exact absurd h1 g1
  · exact absurd g1 h1
  · exact absurd g1 h1
  · rw [h3, g3, yfRnd_U h2 g2]
theorem y_tI {x : Int64} {b : Nat} (h : x.toInt = (b : Int)) : yu x = b := by
  have := s_nnL (x := x) (by omega)
  show x.toBitVec.toNat = b
  omega
theorem ySx_01 {P T u : Nat} : ySx P T u = 0 ∨ ySx P T u = 1 := by
  unfold ySx
  omega
theorem V_changed {A : Int32} {B : Int32} {C : Int32} {x2 : Int64} {A2 : Int32} {B2 : Int32} {C2 : Int32} {t0_0 : Int32} {t0_1 : Int32} {t1_0 : (Nat → Int32)} {P T P2 T2 : Nat} {l l2 : Int} (hF : yF A B C P T l) (hF2 : yF A2 B2 C2 P2 T2 l2) : yCh P T l P2 T2 l2 (yu x2) (yu (F_Flo_changed A B C x2 A2 B2 C2 t0_0 t0_1 t1_0).1) := by
  obtain ⟨f1, f2, f3, f4, f5, f6, f7⟩ := hF.n
  obtain ⟨-, -, -, -, -, k6, -⟩ := hF2.n
  have hp := y_pow hF2 (x := x2)
  have hn := y_num hF2 (x := x2)
  have hg := y_neg hF2 (x := x2)
  have hE : yEx P2 T2 (yu x2) < T2 + 1 := Nat.mod_lt _ (by omega)
  have iT : yu (F_Flo_infinity A B C) = T * 2 ^ P := by
    unfold F_Flo_infinity
    exact y_tI (hF.sh (q_i2l f3) f7)
  have tb : T * 2 ^ P < 2 ^ P * (T + 1) := by
    rw [Nat.mul_comm (2 ^ P), Nat.add_mul, Nat.one_mul]
    have : 0 < 2 ^ P := Nat.pow_pos (by decide)
    omega
  have sgE : (if ySx P2 T2 (yu x2) = 1 then (1 : Int32) else 0).toInt.toNat = ySx P2 T2 (yu x2) ∧ ((if ySx P2 T2 (yu x2) = 1 then (1 : Int32) else 0) = 0 ∨ (if ySx P2 T2 (yu x2) = 1 then (1 : Int32) else 0) = 1) := by
    rcases ySx_01 (P := P2) (T := T2) (u := yu x2) with z | z
    · rw [z]
      exact ⟨rfl, Or.inl rfl⟩
    · rw [z]
      exact ⟨rfl, Or.inr rfl⟩
  unfold F_Flo_changed
  have n1 := y_non hF2 (x := x2)
  have n2 := y_fin hF2 (x := x2)
  rw [hg]
  by_cases c : yEx P2 T2 (yu x2) = T2
  · by_cases d : yFx P2 (yu x2) = 0
    · rw [if_neg (fun h => h.2 d)] at n1
      rw [if_pos c] at n2
      rw [n1, n2, if_pos rfl, if_pos rfl]
      refine Or.inr (Or.inl ⟨c, d, ?_⟩)
      have := y_orS hF iT tb sgE.2
      rw [sgE.1] at this
      exact this
    · rw [if_pos ⟨c, d⟩] at n1
      rw [n1, if_neg (show ¬ (1 : Int32) = 0 by decide)]
      refine Or.inl ⟨c, d, ?_⟩
      show yu (F_Flo_noNumber A B C) = _
      unfold F_Flo_noNumber F_Flo_infinity
      rcases hF with ⟨rfl, rfl, rfl, rfl, rfl, rfl⟩ | ⟨rfl, rfl, rfl, rfl, rfl, rfl⟩ <;> decide
  · rw [if_neg (fun h => c h.1)] at n1
    rw [if_neg c] at n2
    rw [n1, n2, if_pos rfl, if_neg (show ¬ (1 : Int32) = 0 by decide)]
    have h1 : P1 220 (F_Flo_number A2 B2 C2 x2).toInt (F_Big_setLong 220 (F_Flo_number A2 B2 C2 x2) t0_0 t0_1 t1_0) := W_setLong (by decide) (by decide)
    rw [hn] at h1
    generalize F_Big_setLong 220 (F_Flo_number A2 B2 C2 x2) t0_0 t0_1 t1_0 = p68 at h1 ⊢
    unfold F_Flo_changed_c59
    obtain ⟨z1, z2⟩ := yf_ex2 (n := yNx P2 T2 (yu x2)) (pw := yPx l2 (yEx P2 T2 (yu x2)))
    have pb : -2000 ≤ yPx l2 (yEx P2 T2 (yu x2)) ∧ yPx l2 (yEx P2 T2 (yu x2)) ≤ 4000 := by
      have := hF2.n.2.2.2.2.1
      unfold yPx
      omega
    obtain ⟨b, b1, b2⟩ := V_nearest (v := yNx P2 T2 (yu x2)) hF h1 (Int.natAbs_natCast _) (q_i2l hp) ⟨by omega, by omega⟩ (Or.inl rfl) z1 ⟨fun _ => rfl, fun _ => z2⟩ (Or.inl rfl) (Nat.pow_pos (by decide))
    refine Or.inr (Or.inr ⟨c, b, b2, ?_⟩)
    have bl := yfRnd_le b2
    have := y_orS hF (y_tI b1) (by omega) sgE.2
    rw [sgE.1] at this
    exact this
