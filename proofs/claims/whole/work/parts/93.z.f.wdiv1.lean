/-! the reference's rows: division -/
def wL (a b : Int) : Prop := a < b
theorem w_orG {x : Int64} {y : Int32} (h : 0 ≤ x.toInt) (h2 : x.toInt < 4611686018427387904) (hm : x.toInt % 65536 = 0) (hy : 0 ≤ y.toInt ∧ y.toInt < 65536) : (x ||| y.toInt64).toInt = x.toInt + y.toInt := by
  obtain ⟨h1, h3, -⟩ := s_nnL h
  have ey : y.toInt64.toInt = y.toInt := q_i2l rfl
  obtain ⟨y1, y3, -⟩ := s_nnL (x := y.toInt64) (by omega)
  have e : (x ||| y.toInt64).toBitVec.toNat = x.toBitVec.toNat + y.toInt64.toBitVec.toNat := by
    rw [Int64.toBitVec_or, BitVec.toNat_or]
    have hx : x.toBitVec.toNat = 65536 * (x.toBitVec.toNat / 65536) := by omega
    rw [hx]
    have := Nat.two_pow_add_eq_or_of_lt (i := 16) (b := y.toInt64.toBitVec.toNat) (by omega) (x.toBitVec.toNat / 65536)
    exact this.symm
  have h5 := s_ofL e (by omega)
  rw [h5]
  omega
/-- a row moved up by one -/
theorem w_up {f g : Nat → Int32} : ∀ {n : Nat}, (∀ t, t < n → g (t + 1) = f t) → wV g (n + 1) = (g 0).toInt + 65536 * wV f n
  | 0, _ => by
    show 0 + (g 0).toInt * 1 = (g 0).toInt + 65536 * 0
    omega
  | n + 1, h => by
    have h1 := w_up (f := f) (g := g) (n := n) (fun t ht => h t (by omega))
    show wV g (n + 1) + (g (n + 1)).toInt * 65536 ^ (n + 1) = (g 0).toInt + 65536 * (wV f n + (f n).toInt * 65536 ^ n)
    rw [h1, h n (by omega), w_pw]
    generalize (65536 : Int) ^ n = P
    generalize wV f n = u
    have e : (f n).toInt * (P * 65536) = 65536 * ((f n).toInt * P) := by rw [← Int.mul_assoc, Int.mul_comm]
    rw [e, Int.mul_add]
    omega
theorem w_pwle {k i : Nat} (h : k ≤ i) : (65536 : Int) ^ k ≤ 65536 ^ i := by
  obtain ⟨d, rfl⟩ := Nat.exists_eq_add_of_le h
  rw [Int.pow_add]
  have h1 := w_pos k
  have h2 := w_pos d
  have h3 := Int.mul_le_mul_of_nonneg_left (show 1 ≤ (65536 : Int) ^ d by omega) (Int.le_of_lt h1)
  rw [Int.mul_one] at h3
  exact h3
/-- limbs behind a value's length are 0 -/
theorem w_top {f : Nat → Int32} {k n : Nat} (ho : wO f n) (h : wV f n < 65536 ^ k) : ∀ i, k ≤ i → i < n → f i = 0 := fun i h1 h2 => by
  by_cases e : f i = 0
  · exact e
  · have a := w_ge ho h2 e
    have b : (65536 : Int) ^ k ≤ 65536 ^ i := w_pwle h1
    exact absurd h (by omega)
theorem w_est2 {s hd tp P Vb Vr : Int} (h0 : 0 ≤ s) (h : s * (hd + 1) ≤ tp) (hb : Vb ≤ (hd + 1) * P) (hr : tp * P ≤ Vr) (hP : 0 < P) : s * Vb ≤ Vr := by
  have h1 := Int.mul_le_mul_of_nonneg_left hb h0
  have h2 := Int.mul_le_mul_of_nonneg_right h (Int.le_of_lt hP)
  rw [Int.mul_assoc] at h2
  omega
theorem w_est1 {s hd tp Vb Vr : Int} (h0 : 0 ≤ s) (h : s * (hd + 1) ≤ tp) (hb : Vb * 65536 = hd) (hr : tp = Vr * 65536) : s * Vb ≤ Vr := by
  rw [← hb, hr, Int.mul_add, ← Int.mul_assoc] at h
  omega
def wHd (b : Nat → Int32) (m : Nat) : Int := (b (m - 1)).toInt * 65536 + (if m ≤ 1 then 0 else (b (m - 2)).toInt)
def wTp (r : Nat → Int32) (m : Nat) : Int := ((r m).toInt * 65536 + (r (m - 1)).toInt) * 65536 + (if m ≤ 1 then 0 else (r (m - 2)).toInt)
/-- the first limbs guess low -/
theorem w_est {b r : Nat → Int32} {m : Nat} {s : Int} (hm : 1 ≤ m) (hb : wO b m) (hr : wO r (m + 1)) (h0 : 0 ≤ s) (h : s * (wHd b m + 1) ≤ wTp r m) : s * wV b m ≤ wV r (m + 1) := by
  unfold wHd wTp at h
  by_cases e : m = 1
  · subst e
    rw [if_pos (by decide), if_pos (by decide)] at h
    refine w_est1 h0 h ?_ ?_
    · show (0 + (b 0).toInt * 1) * 65536 = (b 0).toInt * 65536 + 0
      omega
    · show ((r 1).toInt * 65536 + (r 0).toInt) * 65536 + 0 = (0 + (r 0).toInt * 1 + (r 1).toInt * 65536) * 65536
      omega
  · obtain ⟨k, rfl⟩ : ∃ k, m = k + 2 := ⟨m - 2, by omega⟩
    rw [if_neg (by omega), if_neg (by omega)] at h
    have e1 : k + 2 - 1 = k + 1 := by omega
    have e2 : k + 2 - 2 = k := by omega
    rw [e1, e2] at h
    have l1 := w_lt (hb.mono (show k ≤ k + 2 by omega))
    have l2 := w_nn (hr.mono (show k ≤ k + 2 + 1 by omega))
    refine w_est2 h0 h ?_ ?_ (w_pos k)
    · show wV b k + (b k).toInt * 65536 ^ k + (b (k + 1)).toInt * 65536 ^ (k + 1) ≤ _
      rw [w_pw, Int.add_mul, Int.add_mul]
      generalize (65536 : Int) ^ k = P at l1 ⊢
      generalize wV b k = u at l1 ⊢
      have e3 : (b (k + 1)).toInt * 65536 * P = (b (k + 1)).toInt * (P * 65536) := by rw [Int.mul_assoc, Int.mul_comm P]
      rw [e3]
      clear h hb hr
      omega
    · show _ ≤ wV r k + (r k).toInt * 65536 ^ k + (r (k + 1)).toInt * 65536 ^ (k + 1) + (r (k + 2)).toInt * 65536 ^ (k + 2)
      have e4 : (65536 : Int) ^ (k + 2) = 65536 ^ k * 65536 * 65536 := by rw [w_pw, w_pw]
      rw [e4, w_pw]
      generalize (65536 : Int) ^ k = P at l2 ⊢
      generalize wV r k = u at l2 ⊢
      simp only [Int.add_mul]
      have e3 : (r (k + 1)).toInt * 65536 * P = (r (k + 1)).toInt * (P * 65536) := by rw [Int.mul_assoc, Int.mul_comm P]
      have e5 : (r (k + 2)).toInt * 65536 * 65536 * P = (r (k + 2)).toInt * (P * 65536 * 65536) := by rw [Int.mul_assoc, Int.mul_assoc, Int.mul_comm P, Int.mul_assoc, Int.mul_comm P]
      rw [e3, e5]
      clear h hb hr
      omega
/-- what a division holds between two figures: figures from K on are found -/
def wDv (Va Vb : Int) (a : Nat → Int32) (K : Nat) (r q : Nat → Int32) : Prop := wO r 264 ∧ wO q 264 ∧ (∀ t, t < K → q t = 0) ∧ wE (wV q 264 * Vb + (wV r 264 * 65536 ^ K + wV a K)) Va ∧ wL (wV r 264) Vb
/-- and within one -/
def wDw (Va Vb : Int) (a : Nat → Int32) (K : Nat) (r q : Nat → Int32) : Prop := wO r 264 ∧ wO q 264 ∧ (∀ t, t < K → q t = 0) ∧ wE (wV q 264 * Vb + (wV r 264 * 65536 ^ K + wV a K)) Va ∧ wL ((q K).toInt * Vb + wV r 264) (65536 * Vb)
theorem w_dwId {q s B r P v : Int} : (q + s * P) * B + ((r - s * B) * P + v) = q * B + (r * P + v) := by
  rw [Int.add_mul, Int.sub_mul]
  have : s * P * B = s * B * P := by rw [Int.mul_assoc, Int.mul_comm P, ← Int.mul_assoc]
  omega
theorem w_fuel {r s B n : Int} (h : r < (n + 1) * B) (hs : 1 ≤ s) (hB : 0 < B) : r - s * B < n * B := by
  have h1 := Int.mul_le_mul_of_nonneg_right hs (Int.le_of_lt hB)
  rw [Int.add_mul] at h
  omega
theorem w_dLt {d B r s : Int} (h : d * B + r < 65536 * B) (hr : s * B ≤ r) (hB : 0 < B) : d + s < 65536 := by
  by_cases c : d + s < 65536
  · exact c
  · have h1 := Int.mul_le_mul_of_nonneg_right (show 65536 ≤ d + s by omega) (Int.le_of_lt hB)
    rw [Int.add_mul] at h1
    omega
theorem w_divL155 {N2 : Int32} {N3 : Int32} {t0_0 : Int32} {t0_1 : Int32} {t0_2 : Int32} {t0_3 : Int32} {t0_4 : Int32} {t0_5 : Int32} {t0_6 : Int32} {t1_0 : Nat → Int32} {t2_0 : Nat → Int32} {t3_0 : Nat → Int32} {t4_0 : Nat → Int32} {a35 : Int32} {a28 : Int32} {f49 : Nat → Int32} {f42 : Nat → Int32} {lx54 : Int32} {lx70 : Int32} {lx71 : Nat → Int32} {lx92 : Int32} {lx93 : Nat → Int32} {lx94 : Nat → Int32} {lx113 : Int32} {lx114 : Nat → Int32} {j147 : Int64} {f136 : Nat → Int32} {lx149 : Int32} {j164 : Int64} {KF47 : Int32 → (Nat → Int32) → ((Nat → Int32) × (Nat → Int32))} {KS47 : Int32 → (Nat → Int32) → Prop} {KF79 : Int32 → (Nat → Int32) → (Nat → Int32) → ((Nat → Int32) × (Nat → Int32))} {KS79 : Int32 → (Nat → Int32) → (Nat → Int32) → Prop} {KF88 : Int32 → (Nat → Int32) → ((Nat → Int32) × (Nat → Int32))} {KS88 : Int32 → (Nat → Int32) → Prop} {Q : ((Nat → Int32) × (Nat → Int32)) → Prop} {Va : Int} {m K : Nat} (hN3 : N3 = 264) (hm : a35.toInt = m) (m1 : 1 ≤ m) (m2 : m ≤ 263) (hk : lx92.toInt = K) (k2 : K ≤ 263) (hb : wO t4_0 264) (sB : wS 264 t4_0 a35) (hh : j164.toInt = wHd t4_0 m)
    (hK : ∀ r q : Nat → Int32, wDv Va (wV t4_0 264) t3_0 K r q → KS79 (lx92 + (-1)) r q ∧ Q (KF79 (lx92 + (-1)) r q)) :
    ∀ (n : Nat) (r q : Nat → Int32), wL (wV r 264) (n * wV t4_0 264) → wDw Va (wV t4_0 264) t3_0 K r q → S_WR_divideRows_L155 KS47 KS79 KS88 N2 N3 t0_0 t0_1 t0_2 t0_3 t0_4 t0_5 t0_6 t1_0 t2_0 t3_0 t4_0 a35 a28 f49 f42 lx54 lx70 lx71 lx92 lx93 lx94 lx113 lx114 j147 f136 lx149 j164 n r q ∧ Q (F_WR_divideRows_L155 KF47 KF79 KF88 N2 N3 t0_0 t0_1 t0_2 t0_3 t0_4 t0_5 t0_6 t1_0 t2_0 t3_0 t4_0 a35 a28 f49 f42 lx54 lx70 lx71 lx92 lx93 lx94 lx113 lx114 j147 f136 lx149 j164 n r q) := by
  subst hN3
  have e264 : (264 : Int32).toInt = 264 := rfl
  have n264 : (264 : Int32).toNatClampNeg = 264 := rfl
  have em : a35.toNatClampNeg = m := by have := q_clI (i := a35) hm (by omega); omega
  have ek : lx92.toNatClampNeg = K := by have := q_clI (i := lx92) hk (by omega); omega
  have e1 : (a35 - 1 : Int32).toInt = (m : Int) - 1 := q_subI (y := 1) hm (by decide) (by omega) (by omega)
  have em1 : (a35 - 1 : Int32).toNatClampNeg = m - 1 := by have := q_clI (i := a35 - 1) e1 (by omega); omega
  have vb := sB.val
  rw [n264, em] at vb
  have bg := sB.ge (by rw [n264]; exact hb) (by omega)
  rw [n264, em] at bg
  have bp : wL 0 (wV t4_0 264) := by show 0 < _; have := w_pos (m - 1); omega
  have bl : wL (wV t4_0 264) (65536 ^ m) := by
    show _ < _
    rw [vb]; exact w_lt (hb.mono (by omega))
  have hb1 : t4_0 (m - 1) ≠ 0 := by have := sB.2.2.2 (by omega); rw [em] at this; exact this
  have hbh : 1 ≤ (t4_0 (m - 1)).toInt := by
    have h1 := (hb (m - 1) (by omega)).1
    have h2 : (t4_0 (m - 1)).toInt ≠ 0 := fun e => hb1 (Int32.toInt_inj.mp (by rw [e]; rfl))
    omega
  have hdl : 65536 ≤ wHd t4_0 m ∧ wHd t4_0 m < 4294967296 := by
    unfold wHd
    have h1 := (hb (m - 1) (by omega)).2
    split
    · omega
    · have h2 := hb (m - 2) (by omega)
      omega
  have hd1 : (j164 + 1 : Int64).toInt = wHd t4_0 m + 1 := q_addL (y := 1) hh (by decide) (by omega) (by omega)
  clear vb bg
  intro n
  induction n with
  | zero =>
    intro r q hf hw
    have h1 : wV r 264 < 0 * wV t4_0 264 := hf
    have h2 := w_nn hw.1
    rw [Int.zero_mul] at h1
    exact absurd h1 (by omega)
  | succ n ih =>
    intro r q hf hw
    obtain ⟨or, oq, zq, hv, hl⟩ := hw
    have hc := R_cmp (N := 264) (M := 264) (f := r) (g := t4_0) (by decide) (by decide) or hb
    rw [S_WR_divideRows_L155.eq_2, F_WR_divideRows_L155.eq_2]
    refine v_owe hc.1 ?_
    have hc2 := hc.2
    rw [n264] at hc2
    generalize F_WR_compareRows 264 264 r t4_0 = cc at hc2 ⊢
    by_cases cz : cc < 0
    · rw [if_pos cz, if_pos cz]
      refine hK r q ⟨or, oq, zq, hv, ?_⟩
      rcases hc2 with ⟨h, -⟩ | ⟨h, -⟩ | ⟨-, h⟩
      · rw [h] at cz; exact absurd cz (by decide)
      · rw [h] at cz; exact absurd cz (by decide)
      · exact h
    · rw [if_neg cz, if_neg cz]
      have ge : wL (wV t4_0 264 - 1) (wV r 264) := by
        show _ < _
        rcases hc2 with ⟨-, h⟩ | ⟨-, h⟩ | ⟨h, -⟩
        · rw [h]; omega
        · omega
        · rw [h] at cz; exact absurd (by decide) cz
      refine v_cons (by omega) ?_
      -- the first limbs
      have rl : wV r 264 < 65536 ^ (m + 1) := by
        have h1 : _ < _ := hl
        have h2 := Int.mul_nonneg (oq K (by omega)).1 (w_nn hb)
        have h3 : wV t4_0 264 < 65536 ^ m := bl
        rw [w_pw]
        generalize (65536 : Int) ^ m = u1 at *
        generalize wV t4_0 264 = u2 at *
        generalize wV r 264 = u3 at *
        generalize (q K).toInt * u2 = u4 at *
        clear ih hK
        omega
      have rz := w_top or rl
      have rv : wV r 264 = wV r (m + 1) := w_zer (by omega) (fun i a b => rz i a b)
      have rm := or m (by omega)
      have rm1 := or (m - 1) (by omega)
      have u1 : ((r m).toInt64 <<< ((16 : Int32).toInt64 &&& 63)).toInt = (r m).toInt * 65536 := by
        have h := w_shl (x := (r m).toInt64) (by rw [q_i2l rfl]; exact rm.1) (by rw [q_i2l rfl]; omega)
        rw [q_i2l rfl] at h; exact h
      have u2 := w_orG (x := (r m).toInt64 <<< ((16 : Int32).toInt64 &&& 63)) (y := r (m - 1)) (by rw [u1]; omega) (by rw [u1]; omega) (by rw [u1]; omega) rm1
      rw [u1] at u2
      have u3 := w_shl (x := ((r m).toInt64 <<< ((16 : Int32).toInt64 &&& 63)) ||| (r (m - 1)).toInt64) (by rw [u2]; omega) (by rw [u2]; omega)
      rw [u2] at u3
      have hbm : wO t4_0 m := hb.mono (by omega)
      have hrm : wO r (m + 1) := or.mono (by omega)
      have bval : wV t4_0 264 = wV t4_0 m := by have := sB.val; rw [n264, em] at this; exact this
      -- one turn
      have turn : ∀ (s : Int64), 1 ≤ s.toInt → s.toInt ≤ 8589934592 → wL (s.toInt * wV t4_0 264 - 1) (wV r 264) → ∀ (j214 : Int64) (lx216 : Int32), S_WR_divideRows_J236 KS47 KS79 KS88 (S_WR_divideRows_L155 KS47 KS79 KS88 N2 264 t0_0 t0_1 t0_2 t0_3 t0_4 t0_5 t0_6 t1_0 t2_0 t3_0 t4_0 a35 a28 f49 f42 lx54 lx70 lx71 lx92 lx93 lx94 lx113 lx114 j147 f136 lx149 j164 n) N2 264 t0_0 t0_1 t0_2 t0_3 t0_4 t0_5 t0_6 t1_0 t2_0 t3_0 t4_0 a35 a28 f49 f42 lx54 lx70 lx71 lx92 lx93 lx94 lx113 lx114 j147 f136 lx149 j164 r q j214 lx216 s ∧ Q (F_WR_divideRows_J236 KF47 KF79 KF88 (F_WR_divideRows_L155 KF47 KF79 KF88 N2 264 t0_0 t0_1 t0_2 t0_3 t0_4 t0_5 t0_6 t1_0 t2_0 t3_0 t4_0 a35 a28 f49 f42 lx54 lx70 lx71 lx92 lx93 lx94 lx113 lx114 j147 f136 lx149 j164 n) N2 264 t0_0 t0_1 t0_2 t0_3 t0_4 t0_5 t0_6 t1_0 t2_0 t3_0 t4_0 a35 a28 f49 f42 lx54 lx70 lx71 lx92 lx93 lx94 lx113 lx114 j147 f136 lx149 j164 r q j214 lx216 s) := by
        intro s s1 s2 s3 j214 lx216
        have s3 : s.toInt * wV t4_0 264 - 1 < wV r 264 := s3
        have hj := R_join (N := 264) (M := 264) (s := a35) (y := s) (x5 := 1) (f := r) (g := t4_0) (σ := -1) (by rw [if_neg (by decide)]) (by decide) (by decide) (by omega) (by omega) (by omega) (by rw [em]; exact hbm) ⟨by omega, s2⟩ or
        rw [n264, em, ← bval] at hj
        unfold S_WR_divideRows_J236 F_WR_divideRows_J236
        refine v_owe hj.1 ?_
        refine v_cons (by omega) ?_
        have hj2 := hj.2
        generalize F_WR_join 264 264 a35 s 1 r t4_0 = r' at hj2 ⊢
        have bp' : 0 < wV t4_0 264 := bp
        have sB0 := Int.mul_nonneg (show 0 ≤ s.toInt by omega) (Int.le_of_lt bp')
        have rl' : wV r 264 < 65536 ^ 264 := w_lt or
        have jv := hj2.val (by rw [Int.neg_mul, Int.one_mul]; omega) (by rw [Int.neg_mul, Int.one_mul]; omega)
        have jv : wV r' 264 = wV r 264 - s.toInt * wV t4_0 264 := by rw [jv, Int.neg_mul, Int.one_mul]; rfl
        have dl : (q K).toInt + s.toInt < 65536 := w_dLt (B := wV t4_0 264) (r := wV r 264) hl (by omega) bp'
        have qk := oq K (by omega)
        have es : s.toInt32.toInt = s.toInt := s_l2i (by clear jv; omega) (by clear jv; omega)
        have eq : ((q K) + s.toInt32 : Int32).toInt = (q K).toInt + s.toInt := q_addI rfl es (by clear jv; omega) (by clear jv; omega)
        rw [ek]
        refine ih r' (upd q K (q K + s.toInt32)) ?_ ⟨hj2.1, wO_upd oq (by rw [eq]; clear jv; omega), fun t ht => by rw [v_ne (by omega)]; exact zq t ht, ?_, ?_⟩
        · show _ < _
          rw [jv]
          refine w_fuel ?_ s1 bp'
          have hf : _ < _ := hf
          rw [← Int.natCast_succ]
          exact hf
        · show _ = _
          have hv : _ = _ := hv
          rw [jv, w_upd (by omega), eq, ← hv]
          have e9 : (q K).toInt + s.toInt - (q K).toInt = s.toInt := by omega
          rw [e9]
          exact w_dwId
        · show _ < _
          have hl : _ < _ := hl
          rw [jv, v_eq, eq, Int.add_mul]
          omega
      have top : ∀ (j214 : Int64) (lx216 : Int32), j214.toInt = ((r m).toInt * 65536 + (r (m - 1)).toInt) * 65536 → lx216.toInt = (if m ≤ 1 then 0 else (r (m - 2)).toInt) → S_WR_divideRows_J210 KS47 KS79 KS88 (S_WR_divideRows_L155 KS47 KS79 KS88 N2 264 t0_0 t0_1 t0_2 t0_3 t0_4 t0_5 t0_6 t1_0 t2_0 t3_0 t4_0 a35 a28 f49 f42 lx54 lx70 lx71 lx92 lx93 lx94 lx113 lx114 j147 f136 lx149 j164 n) N2 264 t0_0 t0_1 t0_2 t0_3 t0_4 t0_5 t0_6 t1_0 t2_0 t3_0 t4_0 a35 a28 f49 f42 lx54 lx70 lx71 lx92 lx93 lx94 lx113 lx114 j147 f136 lx149 j164 r q j214 lx216 ∧ Q (F_WR_divideRows_J210 KF47 KF79 KF88 (F_WR_divideRows_L155 KF47 KF79 KF88 N2 264 t0_0 t0_1 t0_2 t0_3 t0_4 t0_5 t0_6 t1_0 t2_0 t3_0 t4_0 a35 a28 f49 f42 lx54 lx70 lx71 lx92 lx93 lx94 lx113 lx114 j147 f136 lx149 j164 n) N2 264 t0_0 t0_1 t0_2 t0_3 t0_4 t0_5 t0_6 t1_0 t2_0 t3_0 t4_0 a35 a28 f49 f42 lx54 lx70 lx71 lx92 lx93 lx94 lx113 lx114 j147 f136 lx149 j164 r q j214 lx216) := by
        intro j214 lx216 hj hx
        unfold S_WR_divideRows_J210 F_WR_divideRows_J210
        refine v_cons (by rw [hd1]; omega) ?_
        have lxb : 0 ≤ lx216.toInt ∧ lx216.toInt < 65536 := by
          rw [hx]
          split
          · omega
          · exact or (m - 2) (by omega)
        have tv := w_orG (x := j214) (y := lx216) (by rw [hj]; omega) (by rw [hj]; omega) (by rw [hj]; omega) lxb
        have tv : (j214 ||| lx216.toInt64).toInt = wTp r m := by rw [tv, hj, hx]; rfl
        have tb : 0 ≤ wTp r m ∧ wTp r m < 281474976710656 := by
          have : wTp r m = ((r m).toInt * 65536 + (r (m - 1)).toInt) * 65536 + lx216.toInt := by rw [hx]; rfl
          omega
        have dv := w_divL (a := j214 ||| lx216.toInt64) (b := j164 + 1) (by rw [tv]; exact tb.1) hd1 (by omega)
        rw [tv] at dv
        generalize ((j214 ||| lx216.toInt64) / (j164 + 1) : Int64) = s at dv ⊢
        have d1 := Int.mul_ediv_self_le (x := wTp r m) (k := wHd t4_0 m + 1) (by omega)
        have d3 : 0 ≤ wTp r m / (wHd t4_0 m + 1) := Int.ediv_nonneg tb.1 (by omega)
        have d4 : wTp r m / (wHd t4_0 m + 1) < 8589934592 := Int.ediv_lt_of_lt_mul (by omega) (by omega)
        rw [← dv] at d1 d3 d4
        by_cases c : (0 : Int32) ≤ lg_cmp s 1
        · rw [if_pos c, if_pos c]
          have c2 : 1 ≤ s.toInt := by
            have h1 := q_leI c
            have h2 := s_lcmp (a := s) (b := 1)
            have e0 : (0 : Int32).toInt = 0 := rfl
            have e9 : (1 : Int64).toInt = 1 := rfl
            omega
          refine turn s c2 (by omega) ?_ j214 lx216
          have := w_est (s := s.toInt) m1 hbm hrm d3 (by rw [Int.mul_comm]; exact d1)
          rw [← bval, ← rv] at this
          show _ < _
          clear rl rz rv bval d1 d3 d4
          omega
        · rw [if_neg c, if_neg c]
          refine turn 1 (by decide) (by decide) ?_ j214 lx216
          show 1 * wV t4_0 264 - 1 < _
          rw [Int.one_mul]
          exact ge
      rw [em, em1]
      by_cases c : a35 ≤ 1
      · rw [if_pos c, if_pos c]
        have c2 := q_leI c
        have e9 : (1 : Int32).toInt = 1 := rfl
        refine top _ _ u3 ?_
        rw [if_pos (by omega)]
        rfl
      · rw [if_neg c, if_neg c]
        have c2 := q_nleI c
        have e9 : (1 : Int32).toInt = 1 := rfl
        have e2 : (a35 - 2 : Int32).toInt = (m : Int) - 2 := q_subI (y := 2) hm (by decide) (by omega) (by omega)
        have em2 : (a35 - 2 : Int32).toNatClampNeg = m - 2 := by have := q_clI (i := a35 - 2) e2 (by omega); omega
        rw [em2]
        refine top _ _ u3 ?_
        rw [if_neg (by omega)]
