/-! values, for whole: the reference's FloatRows: a float's parts, narrowed, widened -/
def yG (x : Int32) (P T : Nat) (l : Int) : Prop := (x = 0 ∧ P = 52 ∧ T = 2047 ∧ l = -1074) ∨ (x = 1 ∧ P = 23 ∧ T = 255 ∧ l = -149)
theorem yG.n {x : Int32} {P T : Nat} {l : Int} (h : yG x P T l) : (x = 0 ∨ x = 1) ∧ (23 ≤ P ∧ P ≤ 52) ∧ (255 ≤ T ∧ T ≤ 2047) ∧ (-1074 ≤ l ∧ l ≤ -149) ∧ 2 ^ P ≤ 4503599627370496 ∧ (T : Int) + l ≤ 973 := by
  rcases h with ⟨rfl, rfl, rfl, rfl⟩ | ⟨rfl, rfl, rfl, rfl⟩
  · exact ⟨by decide, by decide, by decide, by decide, by decide, by decide⟩
  · exact ⟨by decide, by decide, by decide, by decide, by decide, by decide⟩
/-- a float is open -/
def QV_open (x3 : Int32) (P T : Nat) (l : Int) (u : Nat) (a0 a1 : Int32) (a9 : Int64) (a10 : Int32) (p : Int32 × Int32 × Int32 × Int32 × Int64 × Int32 × Int32 × Int64 × Int32 × Int64 × Int32) : Prop := p.1 = a0 ∧ p.2.1 = a1 ∧ p.2.2.1 = (if ySx P T u = 1 then 1 else 0) ∧ p.2.2.2.1.toInt = ((yEx P T u : Nat) : Int) ∧ p.2.2.2.2.1.toInt = ((yFx P u : Nat) : Int) ∧ p.2.2.2.2.2.1.toInt = (P : Int) ∧ p.2.2.2.2.2.2.1.toInt = (T : Int) ∧ p.2.2.2.2.2.2.2.1.toInt = ((yNx P T u : Nat) : Int) ∧ p.2.2.2.2.2.2.2.2.1.toInt = yPx l (yEx P T u) ∧ p.2.2.2.2.2.2.2.2.2.1 = a9 ∧ p.2.2.2.2.2.2.2.2.2.2 = a10
theorem y_sg1 {x : Int64} {c : Int32} {k : Nat} (hc : ((c.toInt64.toUInt64 &&& Int64.toUInt64 63).toBitVec % 64).toNat = k) : lg_cmp (((x.toUInt64 >>> (c.toInt64.toUInt64 &&& Int64.toUInt64 63)).toInt64) &&& 1) 1 = 0 ↔ yu x / 2 ^ k % 2 = 1 := by
  have h := fx_ush (x := x) hc
  generalize (x.toUInt64 >>> (c.toInt64.toUInt64 &&& Int64.toUInt64 63)).toInt64 = z at h ⊢
  have h2 : yu (z &&& 1) = yu z % 2 ^ 1 := y_andM (by decide)
  have h3 : yu z = yu x / 2 ^ k := h
  rw [h3, Nat.pow_one] at h2
  have h4 := y_toI h2 (by omega)
  rw [y_lcE, h4, show (1 : Int64).toInt = 1 from rfl]
  omega
theorem V_FR_open {x2 : Int64} {x3 : Int32} {t0_0 : Int32} {t0_1 : Int32} {t0_2 : Int32} {t0_3 : Int32} {t0_4 : Int64} {t0_5 : Int32} {t0_6 : Int32} {t0_7 : Int64} {t0_8 : Int32} {t0_9 : Int64} {t0_10 : Int32} {P T : Nat} {l : Int} (hG : yG x3 P T l) : QV_open x3 P T l (yu x2) t0_0 t0_1 t0_9 t0_10 (F_FR_open x2 x3 t0_0 t0_1 t0_2 t0_3 t0_4 t0_5 t0_6 t0_7 t0_8 t0_9 t0_10) := by
  have h1 := yFx_lt (P := P) (u := yu x2)
  have key : ∀ (a14 a26 a38 : Int32) (sh : Nat), yF a14 (if x3 = 0 then 1075 else 150) a26 P T l → ((a38.toInt64.toUInt64 &&& Int64.toUInt64 63).toBitVec % 64).toNat = sh → 2 ^ sh = 2 ^ P * (T + 1) → QV_open x3 P T l (yu x2) t0_0 t0_1 t0_9 t0_10 (F_FR_open_J45 x2 x3 t0_0 t0_1 t0_2 t0_3 t0_4 t0_5 t0_6 t0_7 t0_8 t0_9 t0_10 a14 a26 a38) := fun a14 a26 a38 sh hF hc h38 => by
    obtain ⟨f1, f2, f3, f4, f5, f6, f7⟩ := hF.n
    have hP := y_P52 hF
    have hE := y_exp hF (x := x2)
    have hf := y_fra hF (x := x2)
    have hb : yEx P T (yu x2) < T + 1 := Nat.mod_lt _ (by omega)
    unfold F_Flo_exponent at hE
    unfold F_Flo_fraction at hf
    have m : ((1 : Int64) <<< (a14.toInt64 &&& 63)).toInt = ((2 ^ P : Nat) : Int) := by
      have := hF.sh (x := 1) (n := 1) rfl (by omega)
      rw [Nat.one_mul] at this
      exact this
    have tail : ∀ lx56 lx85 : _, lx56 = (if ySx P T (yu x2) = 1 then 1 else 0) → Int64.toInt lx85 = ((yNx P T (yu x2) : Nat) : Int) → QV_open x3 P T l (yu x2) t0_0 t0_1 t0_9 t0_10 (F_FR_open_J117 x2 x3 t0_0 t0_1 t0_2 t0_3 t0_4 t0_5 t0_6 t0_7 t0_8 t0_9 t0_10 a14 a26 a38 lx56 ((((x2.toUInt64 >>> (a14.toInt64.toUInt64 &&& Int64.toUInt64 63)).toInt64).toInt32) &&& a26) (x2 &&& (((1 : Int64) <<< (a14.toInt64 &&& 63)) - 1)) lx85) := fun lx56 lx85 e1 e2 => by
      have hz := y_eqN hE (b := 0) (m := 0) rfl
      unfold F_FR_open_J117
      generalize ((((x2.toUInt64 >>> (a14.toInt64.toUInt64 &&& Int64.toUInt64 63)).toInt64).toInt32) &&& a26) = a72 at hE hz ⊢
      generalize (x2 &&& (((1 : Int64) <<< (a14.toInt64 &&& 63)) - 1)) = j81 at hf ⊢
      by_cases c : a72 = 0
      · rw [if_pos c]
        have z := hz.mp c
        rcases hG with ⟨rfl, g1, g2, g3⟩ | ⟨rfl, g1, g2, g3⟩
        · rw [if_pos rfl]
          refine ⟨rfl, rfl, e1, hE, hf, f1, f3, e2, ?_, rfl, rfl⟩
          rw [z, g3]
          rfl
        · rw [if_neg (by decide)]
          refine ⟨rfl, rfl, e1, hE, hf, f1, f3, e2, ?_, rfl, rfl⟩
          rw [z, g3]
          rfl
      · rw [if_neg c]
        have z : yEx P T (yu x2) ≠ 0 := fun h => c (hz.mpr h)
        rcases hG with ⟨rfl, g1, g2, g3⟩ | ⟨rfl, g1, g2, g3⟩
        · rw [if_pos rfl]
          refine ⟨rfl, rfl, e1, hE, hf, f1, f3, e2, ?_, rfl, rfl⟩
          show (a72 - 1075 : Int32).toInt = _
          rw [q_subI (y := 1075) hE rfl (by omega) (by omega)]
          unfold yPx
          omega
        · rw [if_neg (by decide)]
          refine ⟨rfl, rfl, e1, hE, hf, f1, f3, e2, ?_, rfl, rfl⟩
          show (a72 - 150 : Int32).toInt = _
          rw [q_subI (y := 150) hE rfl (by omega) (by omega)]
          unfold yPx
          omega
    have mid : ∀ lx56 : Int32, lx56 = (if ySx P T (yu x2) = 1 then 1 else 0) → QV_open x3 P T l (yu x2) t0_0 t0_1 t0_9 t0_10 (F_FR_open_J58 x2 x3 t0_0 t0_1 t0_2 t0_3 t0_4 t0_5 t0_6 t0_7 t0_8 t0_9 t0_10 a14 a26 a38 lx56) := fun lx56 e1 => by
      have hz := y_eqN hE (b := 0) (m := 0) rfl
      unfold F_FR_open_J58
      split
      · rename_i c
        refine tail _ _ e1 ?_
        rw [hf]
        unfold yNx
        rw [if_pos (hz.mp c)]
      · rename_i c
        refine tail _ _ e1 ?_
        unfold yNx
        rw [if_neg (fun h => c (hz.mpr h)), q_addL hf m (by omega) (by omega)]
        omega
    have sg := y_sg1 (x := x2) hc
    unfold F_FR_open_J45
    by_cases c : lg_cmp (((x2.toUInt64 >>> (a38.toInt64.toUInt64 &&& Int64.toUInt64 63)).toInt64) &&& 1) 1 = 0
    · rw [if_pos c]
      refine mid 1 ?_
      unfold ySx
      rw [← h38, if_pos (sg.mp c)]
    · rw [if_neg c]
      refine mid 0 ?_
      unfold ySx
      rw [← h38, if_neg (fun h => c (sg.mpr h))]
  unfold F_FR_open F_FR_open_J12 F_FR_open_J29
  rcases hG with ⟨rfl, rfl, rfl, rfl⟩ | ⟨rfl, rfl, rfl, rfl⟩
  · rw [if_pos rfl, if_pos rfl, if_pos rfl]
    exact key 52 2047 63 63 (Or.inl ⟨rfl, rfl, rfl, rfl, rfl, rfl⟩) (by decide) (by decide)
  · rw [if_neg (by decide), if_neg (by decide), if_neg (by decide)]
    exact key 23 255 31 31 (Or.inr ⟨rfl, rfl, rfl, rfl, rfl, rfl⟩) (by decide) (by decide)
theorem y_frF {x3 : Int32} {P T : Nat} {l : Int} {u : Nat} {a0 a1 : Int32} {a9 : Int64} {a10 : Int32} {p : Int32 × Int32 × Int32 × Int32 × Int64 × Int32 × Int32 × Int64 × Int32 × Int64 × Int32} (hG : yG x3 P T l) (h : QV_open x3 P T l u a0 a1 a9 a10 p) : F_FR_isFinite p.1 p.2.1 p.2.2.1 p.2.2.2.1 p.2.2.2.2.1 p.2.2.2.2.2.1 p.2.2.2.2.2.2.1 p.2.2.2.2.2.2.2.1 p.2.2.2.2.2.2.2.2.1 p.2.2.2.2.2.2.2.2.2.1 p.2.2.2.2.2.2.2.2.2.2 = (if yEx P T u = T then 0 else 1) := by
  obtain ⟨-, -, -, h3, -, -, h6, -⟩ := h
  have hb : yEx P T u < T + 1 := Nat.mod_lt _ (by omega)
  unfold F_FR_isFinite
  by_cases c : yEx P T u = T
  · rw [if_pos c, if_pos (Int32.le_iff_toInt_le.mpr (by omega))]
  · rw [if_neg c, if_neg (fun h => by have := q_leI h; omega)]
theorem y_shrI {x : Int64} {n : Nat} (h : x.toInt = (n : Int)) : (x >>> ((1 : Int32).toInt64 &&& 63)).toInt = ((n / 2 : Nat) : Int) := by
  have := fl_shr1 (x := x) (by omega)
  rw [this, h]
  omega
theorem y_a1I {x : Int64} {n : Nat} (h : x.toInt = (n : Int)) : ((x &&& 1).toInt32).toInt = ((n % 2 : Nat) : Int) := by
  have h1 := y_and1 h
  rw [s_l2i (by omega) (by omega), h1]
/-- the last steps of narrowed: m, rounded, in units of 2 ^ k -/
def QV_na (N D : Nat) (sg : Nat) (y : Int64) : Prop := ∃ b, yfRnd 23 255 (-149) N D b ∧ yu y = b + sg * 2147483648
theorem y_orN {x y : Int64} {sg b : Nat} (hx : yu x = sg * 2147483648) (hs : sg ≤ 1) (hy : yu y = b) (hb : b < 2147483648) : yu (x ||| y) = b + sg * 2147483648 := by
  show (x ||| y).toBitVec.toNat = _
  rw [Int64.toBitVec_or, BitVec.toNat_or]
  have e1 : x.toBitVec.toNat = sg * 2147483648 := hx
  have e2 : y.toBitVec.toNat = b := hy
  rw [e1, e2]
  have := Nat.two_pow_add_eq_or_of_lt (i := 31) (b := b) hb sg
  rw [show 2 ^ 31 = 2147483648 from rfl, Nat.mul_comm] at this
  rw [← this, Nat.add_comm]
theorem y_255 : 255 * 2 ^ 23 = 2139095040 := by decide
theorem y_sh23 {x : Int64} {n : Nat} (hx : x.toInt = (n : Int)) (hn : n ≤ 1000) : (x <<< ((23 : Int32).toInt64 &&& 63)).toInt = (n : Int) * 8388608 := by
  have h : n * 2 ^ 23 < 9223372036854775808 := Nat.lt_of_le_of_lt (Nat.mul_le_mul_right _ hn) (by decide)
  rw [fx_shl (k := 23) (c := 23) hx (by decide) (by decide) h, Int.natCast_mul]
  rfl
theorem y_na211 {lx71 lx192 : Int64} {lx193 : Int32} {sg M N D up : Nat} {k q : Int} (h71 : yu lx71 = sg * 2147483648) (hs : sg ≤ 1) (h192 : lx192.toInt = (M : Int)) (h193 : lx193.toInt = k) (hk : -149 ≤ k ∧ k ≤ 2000) (hM : M ≤ 16777215) (hq : yfS 23 (-149) N D q) (hup : yfUp (yfT (q - 1) N D) (yfR (q - 1) N D) = up) (hj : (M = up ∧ k = q ∧ (k = -149 ∨ 8388608 ≤ M)) ∨ (M = 8388608 ∧ up = 16777216 ∧ k = q + 1)) : QV_na N D sg (if lx193 ≤ 104 then (if 0 ≤ lg_cmp lx192 8388608 then lx71 ||| (((((lx193 + 150 : Int32).toInt64) <<< ((23 : Int32).toInt64 &&& 63)) + lx192) - 8388608) else lx71 ||| lx192) else lx71 ||| 2139095040) := by
  have e8 : (8388608 : Int64).toInt = 8388608 := rfl
  have e104 : (104 : Int32).toInt = 104 := rfl
  have q1 := hq.1
  have total : ((q - (-149)).toNat * 2 ^ 23 + up : Nat) = ((k + 149).toNat * 8388608 + M : Nat) := by
    rw [show 2 ^ 23 = 8388608 from rfl]
    rcases hj with ⟨h1, h2, h3⟩ | ⟨h1, h2, h3⟩
    · rw [h1, h2, show q - (-149) = q + 149 by omega]
    · omega
  by_cases c : lx193 ≤ 104
  · rw [if_pos c]
    have c2 := q_leI c
    have le : (k + 149).toNat * 8388608 + M < 2139095040 := by omega
    refine ⟨(k + 149).toNat * 8388608 + M, ⟨q, hq, ?_⟩, ?_⟩
    · rw [hup, total, y_255]
      exact (Nat.min_eq_right (Nat.le_of_lt le)).symm
    · by_cases d : 0 ≤ lg_cmp lx192 8388608
      · rw [if_pos d]
        have d2 := g_lc5 d
        have i1 : (lx193 + 150 : Int32).toInt = k + 150 := q_addI (y := 150) h193 rfl (by omega) (by omega)
        have i2 : (lx193 + 150 : Int32).toInt64.toInt = (((k + 150).toNat : Nat) : Int) := by
          rw [q_i2l i1]
          omega
        have i3 := y_sh23 i2 (by omega)
        clear total
        have i4 := q_addL i3 h192 (by omega) (by omega)
        have i5 := q_subL (b := 8388608) i4 e8 (by omega) (by omega)
        refine y_orN h71 hs (y_tI ?_) (by omega)
        rw [i5]
        omega
      · rw [if_neg d]
        have d2 := g_lc6 d
        refine y_orN h71 hs (y_tI ?_) (by omega)
        rw [h192]
        omega
  · rw [if_neg c]
    have c2 := q_nleI c
    refine ⟨2139095040, ⟨q, hq, ?_⟩, y_orN h71 hs (by decide) (by decide)⟩
    rw [hup, total, y_255]
    exact (Nat.min_eq_left (by clear total; omega)).symm
theorem V_na193 {K_F_FR_narrowed_L72 : Int32 → Int32 → Int32 → Int64 → (Int64 × Int32 × Int32 × Int32 × Int32 × Int64 × Int32 × Int32 × Int64 × Int32 × Int64 × Int32)} {K_F_FR_narrowed_L157 : Int64 → Int32 → (Int64 × Int32 × Int32 × Int32 × Int32 × Int64 × Int32 × Int32 × Int64 × Int32 × Int64 × Int32)} {x2 : Int64} {t0_0 : Int32} {t0_1 : Int32} {t0_2 : Int32} {t0_3 : Int32} {t0_4 : Int64} {t0_5 : Int32} {t0_6 : Int32} {t0_7 : Int64} {t0_8 : Int32} {t0_9 : Int64} {t0_10 : Int32} {p53 : (Int32 × Int32 × Int32 × Int32 × Int64 × Int32 × Int32 × Int64 × Int32 × Int64 × Int32)} {y19 : Int32} {y20 : Int32} {y21 : Int32} {y22 : Int32} {y23 : Int64} {y24 : Int32} {y25 : Int32} {y26 : Int64} {y27 : Int32} {y28 : Int64} {y29 : Int32} {lx71 : Int64} {lx94 : Int32} {lx95 : Int32} {lx96 : Int32} {lx97 : Int64} {lx156 : Int64} {lx169 : Int64} {lx170 : Int32} {sg N D up : Nat} {q : Int} (h71 : yu lx71 = sg * 2147483648) (hs : sg ≤ 1) (h169 : lx169.toInt = (up : Int)) (h170 : lx170.toInt = q) (hqb : -149 ≤ q ∧ q ≤ 1500) (hup2 : up ≤ 16777216) (hq : yfS 23 (-149) N D q) (hup : yfUp (yfT (q - 1) N D) (yfR (q - 1) N D) = up) (hj : q = -149 ∨ 8388608 ≤ up) : QV_na N D sg (F_FR_narrowed_J193 K_F_FR_narrowed_L72 K_F_FR_narrowed_L157 x2 t0_0 t0_1 t0_2 t0_3 t0_4 t0_5 t0_6 t0_7 t0_8 t0_9 t0_10 p53 y19 y20 y21 y22 y23 y24 y25 y26 y27 y28 y29 lx71 lx94 lx95 lx96 lx97 lx156 lx169 lx170).1 := by
  have e16 : (16777216 : Int64).toInt = 16777216 := rfl
  unfold F_FR_narrowed_J193
  by_cases c : lg_cmp lx169 16777216 = 0
  · rw [if_pos c]
    have c2 := y_lcE.mp c
    have u1 : up = 16777216 := by omega
    have i1 := y_shrI h169
    have i2 : (lx170 + 1 : Int32).toInt = q + 1 := q_addI (y := 1) h170 rfl (by omega) (by omega)
    have := y_na211 (M := 8388608) h71 hs (by rw [i1, u1]) i2 ⟨by omega, by omega⟩ (by omega) hq hup (Or.inr ⟨rfl, u1, rfl⟩)
    unfold F_FR_narrowed_J211
    revert this
    split
    · split
      · exact id
      · exact id
    · exact id
  · rw [if_neg c]
    have c2 : lx169.toInt ≠ 16777216 := fun h => c (y_lcE.mpr h)
    have := y_na211 (M := up) h71 hs h169 h170 ⟨by omega, by omega⟩ (by omega) hq hup (Or.inl ⟨rfl, rfl, hj⟩)
    unfold F_FR_narrowed_J211
    revert this
    split
    · split
      · exact id
      · exact id
    · exact id
theorem V_na155 {K_F_FR_narrowed_L72 : Int32 → Int32 → Int32 → Int64 → (Int64 × Int32 × Int32 × Int32 × Int32 × Int64 × Int32 × Int32 × Int64 × Int32 × Int64 × Int32)} {x2 : Int64} {t0_0 : Int32} {t0_1 : Int32} {t0_2 : Int32} {t0_3 : Int32} {t0_4 : Int64} {t0_5 : Int32} {t0_6 : Int32} {t0_7 : Int64} {t0_8 : Int32} {t0_9 : Int64} {t0_10 : Int32} {p53 : (Int32 × Int32 × Int32 × Int32 × Int64 × Int32 × Int32 × Int64 × Int32 × Int64 × Int32)} {y19 : Int32} {y20 : Int32} {y21 : Int32} {y22 : Int32} {y23 : Int64} {y24 : Int32} {y25 : Int32} {y26 : Int64} {y27 : Int32} {y28 : Int64} {y29 : Int32} {lx71 : Int64} {lx94 : Int32} {lx95 : Int32} {lx96 : Int32} {lx97 : Int64} {lx156 : Int64} {sg N D up : Nat} {q : Int} (h71 : yu lx71 = sg * 2147483648) (hs : sg ≤ 1) (h156 : lx156.toInt = (up : Int)) (h96 : lx96.toInt = q) (hqb : -149 ≤ q ∧ q ≤ 1500) (hup2 : up ≤ 16777216) (hq : yfS 23 (-149) N D q) (hup : yfUp (yfT (q - 1) N D) (yfR (q - 1) N D) = up) (hj : q = -149 ∨ 8388608 ≤ up) : QV_na N D sg (F_FR_narrowed_J155 K_F_FR_narrowed_L72 x2 t0_0 t0_1 t0_2 t0_3 t0_4 t0_5 t0_6 t0_7 t0_8 t0_9 t0_10 p53 y19 y20 y21 y22 y23 y24 y25 y26 y27 y28 y29 lx71 lx94 lx95 lx96 lx97 lx156).1 := by
  have e8 : (8388608 : Int64).toInt = 8388608 := rfl
  have e149 : (-149 : Int32).toInt = -149 := rfl
  have h193 := fun KK => V_na193 (K_F_FR_narrowed_L157 := KK) (K_F_FR_narrowed_L72 := K_F_FR_narrowed_L72) (x2 := x2) (t0_0 := t0_0) (t0_1 := t0_1) (t0_2 := t0_2) (t0_3 := t0_3) (t0_4 := t0_4) (t0_5 := t0_5) (t0_6 := t0_6) (t0_7 := t0_7) (t0_8 := t0_8) (t0_9 := t0_9) (t0_10 := t0_10) (p53 := p53) (y19 := y19) (y20 := y20) (y21 := y21) (y22 := y22) (y23 := y23) (y24 := y24) (y25 := y25) (y26 := y26) (y27 := y27) (y28 := y28) (y29 := y29) (lx94 := lx94) (lx95 := lx95) (lx96 := lx96) (lx97 := lx97) (lx156 := lx156) h71 hs h156 h96 hqb hup2 hq hup hj
  unfold F_FR_narrowed_J155
  rw [F_FR_narrowed_L157.eq_2]
  by_cases c : lg_cmp lx156 0 = 0
  · rw [if_pos c]
    exact h193 _
  · rw [if_neg c]
    by_cases d : 0 ≤ lg_cmp lx156 8388608
    · rw [if_pos d]
      exact h193 _
    · rw [if_neg d]
      have d2 := g_lc6 d
      have q1 : q = -149 := hj.resolve_right (by omega)
      rw [if_pos (Int32.le_iff_toInt_le.mpr (by omega))]
      exact h193 _
theorem V_na72 {x2 : Int64} {t0_0 : Int32} {t0_1 : Int32} {t0_2 : Int32} {t0_3 : Int32} {t0_4 : Int64} {t0_5 : Int32} {t0_6 : Int32} {t0_7 : Int64} {t0_8 : Int32} {t0_9 : Int64} {t0_10 : Int32} {p53 : (Int32 × Int32 × Int32 × Int32 × Int64 × Int32 × Int32 × Int64 × Int32 × Int64 × Int32)} {y19 : Int32} {y20 : Int32} {y21 : Int32} {y22 : Int32} {y23 : Int64} {y24 : Int32} {y25 : Int32} {y26 : Int64} {y27 : Int32} {y28 : Int64} {y29 : Int32} {lx71 : Int64} {sg N D : Nat} (h71 : yu lx71 = sg * 2147483648) (hs : sg ≤ 1) : ∀ (n : Nat) (lx94 : Int32) (lx95 : Int32) (lx96 : Int32) (lx97 : Int64), ∀ (k : Int) (m : Nat), lx96.toInt = k → lx97.toInt = (m : Int) → (-1074 ≤ k ∧ k ≤ 1500) → 1501 - k < (n : Int) → (∃ la : Nat, lx94.toInt = (la : Int) ∧ la ≤ 1 ∧ yfT (k - 1) N D = 2 * m + la) → (lx95 = 0 ∨ lx95 = 1) → (yfR (k - 1) N D = 0 ↔ lx95 = 0) → (k ≤ -149 ∨ 8388608 ≤ m) → m < 2 ^ (1524 - k).toNat → QV_na N D sg (F_FR_narrowed_L72 x2 t0_0 t0_1 t0_2 t0_3 t0_4 t0_5 t0_6 t0_7 t0_8 t0_9 t0_10 p53 y19 y20 y21 y22 y23 y24 y25 y26 y27 y28 y29 lx71 n lx94 lx95 lx96 lx97).1 := by
  have e16 : (16777216 : Int64).toInt = 16777216 := rfl
  have e149 : (-149 : Int32).toInt = -149 := rfl
  have e1 : (1 : Int32).toInt = 1 := rfl
  intro n
  induction n with
  | zero =>
    intro lx94 lx95 lx96 lx97 k m h0 h1 h2 h3
    omega
  | succ n ih =>
    intro lx94 lx95 lx96 lx97 k m h0 h1 h2 h3 ⟨la, l1, l2, l3⟩ hso hR hJ hb
    have mI : lx97.toInt < 9223372036854775808 := Int64.toInt_lt lx97
    -- a step
    have step : 16777216 ≤ m ∨ k < -149 → ∀ KK, (KK = fun a b c d => F_FR_narrowed_L72 x2 t0_0 t0_1 t0_2 t0_3 t0_4 t0_5 t0_6 t0_7 t0_8 t0_9 t0_10 p53 y19 y20 y21 y22 y23 y24 y25 y26 y27 y28 y29 lx71 n a b c d) → QV_na N D sg (F_FR_narrowed_J89 KK x2 t0_0 t0_1 t0_2 t0_3 t0_4 t0_5 t0_6 t0_7 t0_8 t0_9 t0_10 p53 y19 y20 y21 y22 y23 y24 y25 y26 y27 y28 y29 lx71 lx94 lx95 lx96 lx97).1 := fun hc KK hK => by
      subst hK
      have k3 : k ≤ 1499 := by
        rcases hc with c | c
        · rcases Int.lt_or_le k 1500 with d | d
          · omega
          · exfalso
            have : m < 2 ^ 24 := Nat.lt_of_lt_of_le hb (Nat.pow_le_pow_right (by decide) (by omega))
            omega
        · omega
      have a1 := y_a1I h1
      have a2 := y_shrI h1
      have a3 : (lx96 + 1 : Int32).toInt = k + 1 := q_addI (y := 1) h0 rfl (by omega) (by omega)
      have g1 := yf_add (q := k - 1) (k := 1) (N := N) (D := D)
      rw [show k - 1 + ((1 : Nat) : Int) = k by omega, Nat.pow_one, l3, hR] at g1
      have tm : yfT (k + 1 - 1) N D = 2 * (m / 2) + m % 2 := by
        rw [show k + 1 - 1 = k by omega, g1.1]
        omega
      have go : ∀ s : Int32, (s = 0 ∨ s = 1) → (s = 0 ↔ (lx95 = 0 ∧ la = 0)) → QV_na N D sg (F_FR_narrowed_L72 x2 t0_0 t0_1 t0_2 t0_3 t0_4 t0_5 t0_6 t0_7 t0_8 t0_9 t0_10 p53 y19 y20 y21 y22 y23 y24 y25 y26 y27 y28 y29 lx71 n ((lx97 &&& 1).toInt32) s (lx96 + 1) (lx97 >>> ((1 : Int32).toInt64 &&& 63))).1 := fun s s1 s2 => by
        refine ih _ _ _ _ (k + 1) (m / 2) a3 a2 ⟨by omega, by omega⟩ (by omega) ⟨m % 2, a1, by omega, tm⟩ s1 ?_ ?_ ?_
        · rw [show k + 1 - 1 = k by omega, g1.2, s2]
          constructor
          · intro h
            exact ⟨h.1, by omega⟩
          · intro h
            exact ⟨h.1, by omega⟩
        · rcases hc with c | c
          · exact Or.inr (by omega)
          · exact Or.inl (by omega)
        · rw [show (1524 - k).toNat = (1524 - (k + 1)).toNat + 1 by omega, Nat.pow_succ] at hb
          omega
      unfold F_FR_narrowed_J89 F_FR_narrowed_J100
      by_cases c : lx95 = 0
      · rw [if_pos c]
        by_cases d : lx94 = 1
        · rw [if_pos d]
          rw [d, e1] at l1
          exact go 1 (Or.inr rfl) ⟨fun h => absurd h (by decide), fun h => by omega⟩
        · rw [if_neg d]
          have : la = 0 := by
            rcases Nat.eq_zero_or_pos la with z | z
            · exact z
            · exact absurd (Int32.toInt_inj.mp (by rw [l1, e1]; omega)) d
          exact go 0 (Or.inl rfl) ⟨fun _ => ⟨c, this⟩, fun _ => rfl⟩
      · rw [if_neg c]
        exact go 1 (Or.inr rfl) ⟨fun h => absurd h (by decide), fun h => absurd h.1 c⟩
    rw [F_FR_narrowed_L72.eq_2]
    by_cases g1 : 0 ≤ lg_cmp lx97 16777216
    · rw [if_pos g1]
      have g2 := g_lc5 g1
      exact step (Or.inl (by omega)) _ rfl
    · rw [if_neg g1]
      have g2 := g_lc6 g1
      by_cases g3 : (-149 : Int32) ≤ lx96
      · rw [if_pos g3]
        have g4 := q_leI g3
        have hq : yfS 23 (-149) N D k := ⟨by omega, by rw [l3]; omega, by rw [l3]; omega⟩
        have up0 : ∀ up, yfUp (2 * m + la) (yfR (k - 1) N D) = up → (m ≤ up ∧ up ≤ 16777216) := fun up e => by
          rw [← e]
          unfold yfUp
          split <;> omega
        have od := y_and1 h1
        have e1L : (1 : Int64).toInt = 1 := rfl
        have f146 : yfUp (2 * m + la) (yfR (k - 1) N D) = m + 1 → ∀ KK, QV_na N D sg (F_FR_narrowed_J146 KK x2 t0_0 t0_1 t0_2 t0_3 t0_4 t0_5 t0_6 t0_7 t0_8 t0_9 t0_10 p53 y19 y20 y21 y22 y23 y24 y25 y26 y27 y28 y29 lx71 lx94 lx95 lx96 lx97).1 := fun hu KK => by
          have := up0 _ hu
          unfold F_FR_narrowed_J146
          refine V_na155 (up := m + 1) (q := k) h71 hs ?_ h0 ⟨by omega, by omega⟩ (by omega) hq (by rw [l3]; exact hu) (by omega)
          rw [q_addL (y := 1) h1 e1L (by omega) (by omega)]
          omega
        have f153 : yfUp (2 * m + la) (yfR (k - 1) N D) = m → ∀ KK, QV_na N D sg (F_FR_narrowed_J153 KK x2 t0_0 t0_1 t0_2 t0_3 t0_4 t0_5 t0_6 t0_7 t0_8 t0_9 t0_10 p53 y19 y20 y21 y22 y23 y24 y25 y26 y27 y28 y29 lx71 lx94 lx95 lx96 lx97).1 := fun hu KK => by
          have := up0 _ hu
          unfold F_FR_narrowed_J153
          exact V_na155 (up := m) (q := k) h71 hs h1 h0 ⟨by omega, by omega⟩ (by omega) hq (by rw [l3]; exact hu) (by omega)
        by_cases g5 : lx94 = 1
        · rw [if_pos g5]
          rw [g5, e1] at l1
          have la1 : la = 1 := by omega
          by_cases g6 : lx95 = 0
          · rw [if_pos g6]
            have r0 := hR.mpr g6
            by_cases g7 : lg_cmp (lx97 &&& 1) 1 = 0
            · rw [if_pos g7]
              have g8 := y_lcE.mp g7
              rw [od, e1L] at g8
              refine f146 ?_ _
              unfold yfUp
              rw [if_pos ⟨by omega, Or.inr (by omega)⟩]
              omega
            · rw [if_neg g7]
              have g8 : ¬ (((m % 2 : Nat) : Int) = 1) := fun h => g7 (y_lcE.mpr (by rw [od, h]; rfl))
              refine f153 ?_ _
              unfold yfUp
              rw [if_neg (fun h => h.2.elim (fun h => h r0) (fun h => g8 (by omega)))]
              omega
          · rw [if_neg g6]
            refine f146 ?_ _
            unfold yfUp
            rw [if_pos ⟨by omega, Or.inl (fun h => g6 (hR.mp h))⟩]
            omega
        · rw [if_neg g5]
          have la0 : la = 0 := by
            rcases Nat.eq_zero_or_pos la with z | z
            · exact z
            · exact absurd (Int32.toInt_inj.mp (by rw [l1, e1]; omega)) g5
          refine f153 ?_ _
          unfold yfUp
          rw [if_neg (fun h => by omega)]
          omega
      · rw [if_neg g3]
        have g4 := q_nleI g3
        exact step (Or.inr (by omega)) _ rfl
