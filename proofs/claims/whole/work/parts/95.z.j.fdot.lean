/-! FloatRows: the point in what fixed writes; where narrowed lies -/
def fxK (f : Nat → Int32) (n : Int32) : Prop := ∃ k : Nat, (k : Int) < n.toInt ∧ f k = 46
theorem fxK.put {f : Nat → Int32} {n m x : Int32} (h : fxK f n) (h0 : 0 ≤ n.toInt) (e : m.toInt = n.toInt + 1) : fxK (upd f n.toNatClampNeg x) m := by
  obtain ⟨k, a, b⟩ := h
  have c := q_clI (i := n) rfl h0
  exact ⟨k, by omega, by rw [v_ne (by omega)]; exact b⟩
theorem fxK.new {f : Nat → Int32} {n m : Int32} (h0 : 0 ≤ n.toInt) (e : m.toInt = n.toInt + 1) : fxK (upd f n.toNatClampNeg 46) m := by
  have c := q_clI (i := n) rfl h0
  exact ⟨n.toNatClampNeg, by omega, v_eq⟩
def fxE (b : Int64) (nar : Int32) : Int := if nar = 0 then ((b.toBitVec.toNat / 4503599627370496 % 2048 : Nat) : Int) else ((b.toBitVec.toNat / 8388608 % 256 : Nat) : Int)
def fxM (nar : Int32) : Int := if nar = 0 then 2047 else 255
theorem fx_ush {x : Int64} {c : Int32} {k : Nat} (hc : ((c.toInt64.toUInt64 &&& Int64.toUInt64 63).toBitVec % 64).toNat = k) : ((x.toUInt64 >>> (c.toInt64.toUInt64 &&& Int64.toUInt64 63)).toInt64).toBitVec.toNat = x.toBitVec.toNat / 2 ^ k := by
  show (x.toUInt64 >>> (c.toInt64.toUInt64 &&& Int64.toUInt64 63)).toBitVec.toNat = _
  rw [UInt64.toBitVec_shiftRight, BitVec.ushiftRight_eq', BitVec.toNat_ushiftRight, hc, Nat.shiftRight_eq_div_pow]
  rfl
theorem fx_and {y : Int64} {n k : Nat} {m : Int32} (hy : y.toBitVec.toNat = n) (hk : k ≤ 16) (hm : m.toBitVec.toNat = 2 ^ k - 1) : ((y.toInt32) &&& m : Int32).toInt = ((n % 2 ^ k : Nat) : Int) := by
  have hp : 2 ^ k ≤ 2 ^ 16 := Nat.pow_le_pow_right (by decide) hk
  have hlt : n % 2 ^ k < 2 ^ k := Nat.mod_lt _ (Nat.two_pow_pos k)
  refine s_of ?_ (by omega)
  rw [Int32.toBitVec_and, BitVec.toNat_and, hm, Nat.and_two_pow_sub_one_eq_mod]
  have e : (y.toInt32).toBitVec.toNat = n % 2 ^ 32 := by
    rw [Int64.toBitVec_toInt32, BitVec.signExtend_eq_setWidth_of_le _ (by decide), BitVec.toNat_setWidth, hy]
  rw [e]
  exact Nat.mod_mod_of_dvd n (Nat.pow_dvd_pow 2 (by omega))
theorem fx_e52 {x : Int64} : ((((x.toUInt64 >>> ((52 : Int32).toInt64.toUInt64 &&& Int64.toUInt64 63)).toInt64).toInt32) &&& 2047 : Int32).toInt = ((x.toBitVec.toNat / 4503599627370496 % 2048 : Nat) : Int) := fx_and (k := 11) (fx_ush (k := 52) (by decide)) (by decide) (by decide)
theorem fx_e23 {x : Int64} : ((((x.toUInt64 >>> ((23 : Int32).toInt64.toUInt64 &&& Int64.toUInt64 63)).toInt64).toInt32) &&& 255 : Int32).toInt = ((x.toBitVec.toNat / 8388608 % 256 : Nat) : Int) := fx_and (k := 8) (fx_ush (k := 23) (by decide)) (by decide) (by decide)
theorem fx_openA {c0 c1 c2 c3 : Int32} {c4 : Int64} {c5 c6 : Int32} {c7 : Int64} {c8 : Int32} {c9 : Int64} {c10 : Int32} {b : Int64} {nar t0 t1 : Int32} (h0 : c3.toInt = fxE b nar) (h1 : c6.toInt = fxM nar) (h2 : c1 = t1) (h3 : c0 = t0) : (fun (p : Int32 × Int32 × Int32 × Int32 × Int64 × Int32 × Int32 × Int64 × Int32 × Int64 × Int32) => p.2.2.2.1.toInt = fxE b nar ∧ p.2.2.2.2.2.2.1.toInt = fxM nar ∧ p.2.1 = t1 ∧ p.1 = t0) (c0, c1, c2, c3, c4, c5, c6, c7, c8, c9, c10) := ⟨h0, h1, h2, h3⟩
def Q_FX_open (b : Int64) (nar t0 t1 : Int32) (p : Int32 × Int32 × Int32 × Int32 × Int64 × Int32 × Int32 × Int64 × Int32 × Int64 × Int32) : Prop := p.2.2.2.1.toInt = fxE b nar ∧ p.2.2.2.2.2.2.1.toInt = fxM nar ∧ p.2.1 = t1 ∧ p.1 = t0
theorem T_FX_open {x2 : Int64} {x3 : Int32} {t0_0 : Int32} {t0_1 : Int32} {t0_2 : Int32} {t0_3 : Int32} {t0_4 : Int64} {t0_5 : Int32} {t0_6 : Int32} {t0_7 : Int64} {t0_8 : Int32} {t0_9 : Int64} {t0_10 : Int32}  : Q_FX_open x2 x3 t0_0 t0_1 (F_FR_open x2 x3 t0_0 t0_1 t0_2 t0_3 t0_4 t0_5 t0_6 t0_7 t0_8 t0_9 t0_10) := by
  have e0 : (0 : Int32).toInt = 0 := rfl
  have e1 : (1 : Int32).toInt = 1 := rfl
  have eL0 : (0 : Int64).toInt = 0 := rfl
  unfold F_FR_open
  by_cases g1 : x3 = (0 : Int32)
  ·
    rw [if_pos g1]
    have gx := g1
    unfold F_FR_open_J12
    rw [if_pos g1]
    unfold F_FR_open_J29
    rw [if_pos g1]
    unfold F_FR_open_J45
    by_cases g2 : (lg_cmp (((x2.toUInt64 >>> ((63 : Int32).toInt64.toUInt64 &&& Int64.toUInt64 63)).toInt64 : Int64) &&& 1 : Int64) 1 : Int32) = (0 : Int32)
    ·
      rw [if_pos g2]
      unfold F_FR_open_J58
      by_cases g3 : ((((x2.toUInt64 >>> ((52 : Int32).toInt64.toUInt64 &&& Int64.toUInt64 63)).toInt64 : Int64).toInt32 : Int32) &&& (2047 : Int32) : Int32) = (0 : Int32)
      ·
        rw [if_pos g3]
        obtain ⟨a72, e4⟩ := q_nm (((((x2.toUInt64 >>> ((52 : Int32).toInt64.toUInt64 &&& Int64.toUInt64 63)).toInt64 : Int64).toInt32 : Int32) &&& (2047 : Int32) : Int32) : Int32)
        rw [e4]
        have a72E : a72.toInt = fxE x2 x3 := by rw [← e4]; unfold fxE; rw [if_pos gx]; exact fx_e52
        unfold F_FR_open_J117
        by_cases g5 : a72 = (0 : Int32)
        ·
          rw [if_pos g5]
          rw [if_pos g1]
          exact fx_openA a72E (by unfold fxM; rw [if_pos gx]; rfl) rfl rfl
        ·
          rw [if_neg g5]
          rw [if_pos g1]
          exact fx_openA a72E (by unfold fxM; rw [if_pos gx]; rfl) rfl rfl
      ·
        rw [if_neg g3]
        obtain ⟨a72, e6⟩ := q_nm (((((x2.toUInt64 >>> ((52 : Int32).toInt64.toUInt64 &&& Int64.toUInt64 63)).toInt64 : Int64).toInt32 : Int32) &&& (2047 : Int32) : Int32) : Int32)
        rw [e6]
        have a72E : a72.toInt = fxE x2 x3 := by rw [← e6]; unfold fxE; rw [if_pos gx]; exact fx_e52
        unfold F_FR_open_J117
        by_cases g7 : a72 = (0 : Int32)
        ·
          rw [if_pos g7]
          rw [if_pos g1]
          exact fx_openA a72E (by unfold fxM; rw [if_pos gx]; rfl) rfl rfl
        ·
          rw [if_neg g7]
          rw [if_pos g1]
          exact fx_openA a72E (by unfold fxM; rw [if_pos gx]; rfl) rfl rfl
    ·
      rw [if_neg g2]
      unfold F_FR_open_J58
      by_cases g8 : ((((x2.toUInt64 >>> ((52 : Int32).toInt64.toUInt64 &&& Int64.toUInt64 63)).toInt64 : Int64).toInt32 : Int32) &&& (2047 : Int32) : Int32) = (0 : Int32)
      ·
        rw [if_pos g8]
        obtain ⟨a72, e9⟩ := q_nm (((((x2.toUInt64 >>> ((52 : Int32).toInt64.toUInt64 &&& Int64.toUInt64 63)).toInt64 : Int64).toInt32 : Int32) &&& (2047 : Int32) : Int32) : Int32)
        rw [e9]
        have a72E : a72.toInt = fxE x2 x3 := by rw [← e9]; unfold fxE; rw [if_pos gx]; exact fx_e52
        unfold F_FR_open_J117
        by_cases g10 : a72 = (0 : Int32)
        ·
          rw [if_pos g10]
          rw [if_pos g1]
          exact fx_openA a72E (by unfold fxM; rw [if_pos gx]; rfl) rfl rfl
        ·
          rw [if_neg g10]
          rw [if_pos g1]
          exact fx_openA a72E (by unfold fxM; rw [if_pos gx]; rfl) rfl rfl
      ·
        rw [if_neg g8]
        obtain ⟨a72, e11⟩ := q_nm (((((x2.toUInt64 >>> ((52 : Int32).toInt64.toUInt64 &&& Int64.toUInt64 63)).toInt64 : Int64).toInt32 : Int32) &&& (2047 : Int32) : Int32) : Int32)
        rw [e11]
        have a72E : a72.toInt = fxE x2 x3 := by rw [← e11]; unfold fxE; rw [if_pos gx]; exact fx_e52
        unfold F_FR_open_J117
        by_cases g12 : a72 = (0 : Int32)
        ·
          rw [if_pos g12]
          rw [if_pos g1]
          exact fx_openA a72E (by unfold fxM; rw [if_pos gx]; rfl) rfl rfl
        ·
          rw [if_neg g12]
          rw [if_pos g1]
          exact fx_openA a72E (by unfold fxM; rw [if_pos gx]; rfl) rfl rfl
  ·
    rw [if_neg g1]
    have gx := g1
    unfold F_FR_open_J12
    rw [if_neg g1]
    unfold F_FR_open_J29
    rw [if_neg g1]
    unfold F_FR_open_J45
    by_cases g13 : (lg_cmp (((x2.toUInt64 >>> ((31 : Int32).toInt64.toUInt64 &&& Int64.toUInt64 63)).toInt64 : Int64) &&& 1 : Int64) 1 : Int32) = (0 : Int32)
    ·
      rw [if_pos g13]
      unfold F_FR_open_J58
      by_cases g14 : ((((x2.toUInt64 >>> ((23 : Int32).toInt64.toUInt64 &&& Int64.toUInt64 63)).toInt64 : Int64).toInt32 : Int32) &&& (255 : Int32) : Int32) = (0 : Int32)
      ·
        rw [if_pos g14]
        obtain ⟨a72, e15⟩ := q_nm (((((x2.toUInt64 >>> ((23 : Int32).toInt64.toUInt64 &&& Int64.toUInt64 63)).toInt64 : Int64).toInt32 : Int32) &&& (255 : Int32) : Int32) : Int32)
        rw [e15]
        have a72E : a72.toInt = fxE x2 x3 := by rw [← e15]; unfold fxE; rw [if_neg gx]; exact fx_e23
        unfold F_FR_open_J117
        by_cases g16 : a72 = (0 : Int32)
        ·
          rw [if_pos g16]
          rw [if_neg g1]
          exact fx_openA a72E (by unfold fxM; rw [if_neg gx]; rfl) rfl rfl
        ·
          rw [if_neg g16]
          rw [if_neg g1]
          exact fx_openA a72E (by unfold fxM; rw [if_neg gx]; rfl) rfl rfl
      ·
        rw [if_neg g14]
        obtain ⟨a72, e17⟩ := q_nm (((((x2.toUInt64 >>> ((23 : Int32).toInt64.toUInt64 &&& Int64.toUInt64 63)).toInt64 : Int64).toInt32 : Int32) &&& (255 : Int32) : Int32) : Int32)
        rw [e17]
        have a72E : a72.toInt = fxE x2 x3 := by rw [← e17]; unfold fxE; rw [if_neg gx]; exact fx_e23
        unfold F_FR_open_J117
        by_cases g18 : a72 = (0 : Int32)
        ·
          rw [if_pos g18]
          rw [if_neg g1]
          exact fx_openA a72E (by unfold fxM; rw [if_neg gx]; rfl) rfl rfl
        ·
          rw [if_neg g18]
          rw [if_neg g1]
          exact fx_openA a72E (by unfold fxM; rw [if_neg gx]; rfl) rfl rfl
    ·
      rw [if_neg g13]
      unfold F_FR_open_J58
      by_cases g19 : ((((x2.toUInt64 >>> ((23 : Int32).toInt64.toUInt64 &&& Int64.toUInt64 63)).toInt64 : Int64).toInt32 : Int32) &&& (255 : Int32) : Int32) = (0 : Int32)
      ·
        rw [if_pos g19]
        obtain ⟨a72, e20⟩ := q_nm (((((x2.toUInt64 >>> ((23 : Int32).toInt64.toUInt64 &&& Int64.toUInt64 63)).toInt64 : Int64).toInt32 : Int32) &&& (255 : Int32) : Int32) : Int32)
        rw [e20]
        have a72E : a72.toInt = fxE x2 x3 := by rw [← e20]; unfold fxE; rw [if_neg gx]; exact fx_e23
        unfold F_FR_open_J117
        by_cases g21 : a72 = (0 : Int32)
        ·
          rw [if_pos g21]
          rw [if_neg g1]
          exact fx_openA a72E (by unfold fxM; rw [if_neg gx]; rfl) rfl rfl
        ·
          rw [if_neg g21]
          rw [if_neg g1]
          exact fx_openA a72E (by unfold fxM; rw [if_neg gx]; rfl) rfl rfl
      ·
        rw [if_neg g19]
        obtain ⟨a72, e22⟩ := q_nm (((((x2.toUInt64 >>> ((23 : Int32).toInt64.toUInt64 &&& Int64.toUInt64 63)).toInt64 : Int64).toInt32 : Int32) &&& (255 : Int32) : Int32) : Int32)
        rw [e22]
        have a72E : a72.toInt = fxE x2 x3 := by rw [← e22]; unfold fxE; rw [if_neg gx]; exact fx_e23
        unfold F_FR_open_J117
        by_cases g23 : a72 = (0 : Int32)
        ·
          rw [if_pos g23]
          rw [if_neg g1]
          exact fx_openA a72E (by unfold fxM; rw [if_neg gx]; rfl) rfl rfl
        ·
          rw [if_neg g23]
          rw [if_neg g1]
          exact fx_openA a72E (by unfold fxM; rw [if_neg gx]; rfl) rfl rfl
def Q_FX_add (x2 t0_1 : Int32) (t1_0 : Nat → Int32) (p : Int32 × Int32 × Int32 × Int32 × Int64 × Int32 × Int32 × Int64 × Int32 × Int64 × Int32 × (Nat → Int32)) : Prop := p.2.1.toInt = t0_1.toInt + 1 ∧ p.2.2.2.2.2.2.2.2.2.2.2 = upd t1_0 t0_1.toNatClampNeg x2
theorem T_FX_add {x2 : Int32} {t0_0 : Int32} {t0_1 : Int32} {t0_2 : Int32} {t0_3 : Int32} {t0_4 : Int64} {t0_5 : Int32} {t0_6 : Int32} {t0_7 : Int64} {t0_8 : Int32} {t0_9 : Int64} {t0_10 : Int32} {t1_0 : (Nat → Int32)} (hL : 0 ≤ t0_1.toInt ∧ t0_1.toInt ≤ 100000) : Q_FX_add x2 t0_1 t1_0 (F_FR_add x2 t0_0 t0_1 t0_2 t0_3 t0_4 t0_5 t0_6 t0_7 t0_8 t0_9 t0_10 t1_0) := by
  have e0 : (0 : Int32).toInt = 0 := rfl
  have e1 : (1 : Int32).toInt = 1 := rfl
  have eL0 : (0 : Int64).toInt = 0 := rfl
  unfold F_FR_add
  exact ⟨q_addI (y := 1) rfl (by decide) (by omega) (by omega), rfl⟩
def Q_FX_begin (p : Int32 × Int32 × Int32 × Int32 × Int64 × Int32 × Int32 × Int64 × Int32 × Int64 × Int32 × (Nat → Int32)) : Prop := 0 ≤ p.2.1.toInt ∧ p.2.1.toInt ≤ 1
theorem T_FX_begin {t0_0 : Int32} {t0_1 : Int32} {t0_2 : Int32} {t0_3 : Int32} {t0_4 : Int64} {t0_5 : Int32} {t0_6 : Int32} {t0_7 : Int64} {t0_8 : Int32} {t0_9 : Int64} {t0_10 : Int32} {t1_0 : (Nat → Int32)}  : Q_FX_begin (F_FR_begin t0_0 t0_1 t0_2 t0_3 t0_4 t0_5 t0_6 t0_7 t0_8 t0_9 t0_10 t1_0) := by
  have e0 : (0 : Int32).toInt = 0 := rfl
  have e1 : (1 : Int32).toInt = 1 := rfl
  have eL0 : (0 : Int64).toInt = 0 := rfl
  unfold F_FR_begin
  by_cases g1 : t0_2 = (0 : Int32)
  ·
    rw [if_pos g1]
    have g1i : t0_2.toInt = 0 := q_eqI g1
    exact ⟨by first | decide | (dsimp only; omega), by first | decide | (dsimp only; omega)⟩
  ·
    rw [if_neg g1]
    have g1i : t0_2.toInt ≠ 0 := q_neI g1
    have h2 := T_FX_add (x2 := (45 : Int32)) (t0_0 := t0_0) (t0_1 := (0 : Int32)) (t0_2 := t0_2) (t0_3 := t0_3) (t0_4 := t0_4) (t0_5 := t0_5) (t0_6 := t0_6) (t0_7 := t0_7) (t0_8 := t0_8) (t0_9 := t0_9) (t0_10 := t0_10) (t1_0 := t1_0) ⟨by first | omega | decide, by first | omega | decide⟩
    generalize F_FR_add (45 : Int32) t0_0 (0 : Int32) t0_2 t0_3 t0_4 t0_5 t0_6 t0_7 t0_8 t0_9 t0_10 t1_0 = p65 at *
    unfold Q_FX_add at h2
    have ap65 := h2.2
    unfold F_FR_begin_c15
    exact ⟨by first | decide | (dsimp only; omega), by first | decide | (dsimp only; omega)⟩
def Q_FX_fixed (p : Int32 × Int32 × Int32 × Int32 × Int32 × Int64 × Int32 × Int32 × Int64 × Int32 × Int64 × Int32 × (Nat → Int32) × (Nat → Int32) × (Nat → Int32) × (Nat → Int32) × (Nat → Int32)) : Prop := fxK p.2.2.2.2.2.2.2.2.2.2.2.2.2.2.2.2 p.1
theorem fl_ng3 {a b : Int32} (hb : 0 ≤ b.toInt ∧ b.toInt ≤ 2000) (g : ¬ a < -b) : -b.toInt ≤ a.toInt := fl_ng2 hb g
theorem vx_fx3 {K_F_FR_fixed_L130 : Int32 → (Int32 × Int32 × Int32 × Int32 × Int32 × Int64 × Int32 × Int32 × Int64 × Int32 × Int64 × Int32 × (Nat → Int32) × (Nat → Int32) × (Nat → Int32) × (Nat → Int32) × (Nat → Int32))} {K_F_FR_fixed_L162 : Int32 → Int32 → Int32 → Int32 → Int32 → Int64 → Int32 → Int32 → Int64 → Int32 → Int64 → Int32 → (Nat → Int32) → (Int32 × Int32 × Int32 × Int32 × Int32 × Int64 × Int32 × Int32 × Int64 × Int32 × Int64 × Int32 × (Nat → Int32) × (Nat → Int32) × (Nat → Int32) × (Nat → Int32) × (Nat → Int32))} {x2 : Int64} {x3 : Int32} {x4 : Int32} {x5 : Int32} {t0_0 : Int32} {t0_1 : Int32} {t0_2 : Int32} {t0_3 : Int32} {t0_4 : Int64} {t0_5 : Int32} {t0_6 : Int32} {t0_7 : Int64} {t0_8 : Int32} {t0_9 : Int64} {t0_10 : Int32} {t1_0 : (Nat → Int32)} {t2_0 : (Nat → Int32)} {t3_0 : (Nat → Int32)} {t4_0 : (Nat → Int32)} {t5_0 : (Nat → Int32)} {lx29 : Int32} {p81 : (Int32 × Int32 × Int32 × Int32 × Int64 × Int32 × Int32 × Int64 × Int32 × Int64 × Int32)} {y47 : Int32} {y48 : Int32} {y49 : Int32} {y50 : Int32} {y51 : Int64} {y52 : Int32} {y53 : Int32} {y54 : Int64} {y55 : Int32} {y56 : Int64} {y57 : Int32} {lx106 : Int32} {p136 : ((Nat → Int32) × (Nat → Int32) × (Nat → Int32))} {f128 : (Nat → Int32)} {f130 : (Nat → Int32)} {f132 : (Nat → Int32)} {lx146 : Int32} {f170 : (Nat → Int32)} {p216 : (Int32 × Int32 × Int32 × Int32 × Int64 × Int32 × Int32 × Int64 × Int32 × Int64 × Int32 × (Nat → Int32))} {y179 : Int32} {y180 : Int32} {y181 : Int32} {y182 : Int32} {y183 : Int64} {y184 : Int32} {y185 : Int32} {y186 : Int64} {y187 : Int32} {y188 : Int64} {y189 : Int32} {f190 : (Nat → Int32)} {lx236 : Int32} {lx261 : Int32} {lx262 : Int32} {lx263 : Int32} {lx264 : Int32} {lx265 : Int32} {lx266 : Int64} {lx267 : Int32} {lx268 : Int32} {lx269 : Int64} {lx270 : Int32} {lx271 : Int64} {lx272 : Int32} {lx273 : (Nat → Int32)} {lx316 : Int32} {lx317 : Int32} {lx318 : Int32} {lx319 : Int32} {lx320 : Int64} {lx321 : Int32} {lx322 : Int32} {lx323 : Int64} {lx324 : Int32} {lx325 : Int64} {lx326 : Int32} {lx327 : (Nat → Int32)} (hx4 : 1 ≤ x4.toInt ∧ x4.toInt ≤ 1100)  : ∀ (n : Nat) (lx364 : Int32) (lx365 : Int32) (lx366 : Int32) (lx367 : Int32) (lx368 : Int32) (lx369 : Int64) (lx370 : Int32) (lx371 : Int32) (lx372 : Int64) (lx373 : Int32) (lx374 : Int64) (lx375 : Int32) (lx376 : (Nat → Int32)), (-x4.toInt - 1 ≤ lx364.toInt ∧ lx364.toInt ≤ -1) → (1897 - lx366.toInt < (n : Int)) → (0 ≤ lx366.toInt ∧ lx366.toInt + lx364.toInt ≤ 329) → (fxK lx376 lx366) → Q_FX_fixed (F_FR_fixed_L200 K_F_FR_fixed_L130 K_F_FR_fixed_L162 x2 x3 x4 x5 t0_0 t0_1 t0_2 t0_3 t0_4 t0_5 t0_6 t0_7 t0_8 t0_9 t0_10 t1_0 t2_0 t3_0 t4_0 t5_0 lx29 p81 y47 y48 y49 y50 y51 y52 y53 y54 y55 y56 y57 lx106 p136 f128 f130 f132 lx146 f170 p216 y179 y180 y181 y182 y183 y184 y185 y186 y187 y188 y189 f190 lx236 lx261 lx262 lx263 lx264 lx265 lx266 lx267 lx268 lx269 lx270 lx271 lx272 lx273 lx316 lx317 lx318 lx319 lx320 lx321 lx322 lx323 lx324 lx325 lx326 lx327 n lx364 lx365 lx366 lx367 lx368 lx369 lx370 lx371 lx372 lx373 lx374 lx375 lx376) := by
  intro n
  induction n with
  | zero => intro lx364 lx365 lx366 lx367 lx368 lx369 lx370 lx371 lx372 lx373 lx374 lx375 lx376 h0 hm hs hk; exact absurd (show False by omega) id
  | succ n ih =>
    intro lx364 lx365 lx366 lx367 lx368 lx369 lx370 lx371 lx372 lx373 lx374 lx375 lx376 h0 hm hs hk
    have e0 : (0 : Int32).toInt = 0 := rfl
    have e1 : (1 : Int32).toInt = 1 := rfl
    have eL0 : (0 : Int64).toInt = 0 := rfl
    rw [F_FR_fixed_L200.eq_2]
    by_cases g1 : lx364 < (-x4 : Int32)
    ·
      rw [if_pos g1]
      exact hk
    ·
      rw [if_neg g1]
      have g1i := fl_ng2 ⟨by omega, by omega⟩ g1
      have h2 := T_FX_add (x2 := (48 + ((F_FR_figureAt lx364 lx365 lx366 lx367 lx368 lx369 lx370 lx371 lx372 lx373 lx374 lx375 f170) : Int32) : Int32)) (t0_0 := lx365) (t0_1 := lx366) (t0_2 := lx367) (t0_3 := lx368) (t0_4 := lx369) (t0_5 := lx370) (t0_6 := lx371) (t0_7 := lx372) (t0_8 := lx373) (t0_9 := lx374) (t0_10 := lx375) (t1_0 := lx376) ⟨by first | omega | decide, by first | omega | decide⟩
      generalize F_FR_add (48 + ((F_FR_figureAt lx364 lx365 lx366 lx367 lx368 lx369 lx370 lx371 lx372 lx373 lx374 lx375 f170) : Int32) : Int32) lx365 lx366 lx367 lx368 lx369 lx370 lx371 lx372 lx373 lx374 lx375 lx376 = p467 at *
      unfold Q_FX_add at h2
      have ap467 := h2.2
      unfold F_FR_fixed_c218
      obtain ⟨a3, e4⟩ := q_nm (lx364 + (-1) : Int32)
      rw [e4]
      have a3i : a3.toInt = lx364.toInt + (-1) := by rw [← e4]; exact q_addI (x := lx364.toInt) (y := (-1)) rfl (by decide) (by omega) (by omega)
      exact ih _ _ _ _ _ _ _ _ _ _ _ _ _ ⟨by omega, by omega⟩ (by omega) ⟨by omega, by omega⟩ (by rw [ap467]; exact hk.put hs.1 (by omega))
theorem vx_fx2 {K_F_FR_fixed_L130 : Int32 → (Int32 × Int32 × Int32 × Int32 × Int32 × Int64 × Int32 × Int32 × Int64 × Int32 × Int64 × Int32 × (Nat → Int32) × (Nat → Int32) × (Nat → Int32) × (Nat → Int32) × (Nat → Int32))} {x2 : Int64} {x3 : Int32} {x4 : Int32} {x5 : Int32} {t0_0 : Int32} {t0_1 : Int32} {t0_2 : Int32} {t0_3 : Int32} {t0_4 : Int64} {t0_5 : Int32} {t0_6 : Int32} {t0_7 : Int64} {t0_8 : Int32} {t0_9 : Int64} {t0_10 : Int32} {t1_0 : (Nat → Int32)} {t2_0 : (Nat → Int32)} {t3_0 : (Nat → Int32)} {t4_0 : (Nat → Int32)} {t5_0 : (Nat → Int32)} {lx29 : Int32} {p81 : (Int32 × Int32 × Int32 × Int32 × Int64 × Int32 × Int32 × Int64 × Int32 × Int64 × Int32)} {y47 : Int32} {y48 : Int32} {y49 : Int32} {y50 : Int32} {y51 : Int64} {y52 : Int32} {y53 : Int32} {y54 : Int64} {y55 : Int32} {y56 : Int64} {y57 : Int32} {lx106 : Int32} {p136 : ((Nat → Int32) × (Nat → Int32) × (Nat → Int32))} {f128 : (Nat → Int32)} {f130 : (Nat → Int32)} {f132 : (Nat → Int32)} {lx146 : Int32} {f170 : (Nat → Int32)} {p216 : (Int32 × Int32 × Int32 × Int32 × Int64 × Int32 × Int32 × Int64 × Int32 × Int64 × Int32 × (Nat → Int32))} {y179 : Int32} {y180 : Int32} {y181 : Int32} {y182 : Int32} {y183 : Int64} {y184 : Int32} {y185 : Int32} {y186 : Int64} {y187 : Int32} {y188 : Int64} {y189 : Int32} {f190 : (Nat → Int32)} {lx236 : Int32} (hx4 : 1 ≤ x4.toInt ∧ x4.toInt ≤ 1100)  : ∀ (n : Nat) (lx261 : Int32) (lx262 : Int32) (lx263 : Int32) (lx264 : Int32) (lx265 : Int32) (lx266 : Int64) (lx267 : Int32) (lx268 : Int32) (lx269 : Int64) (lx270 : Int32) (lx271 : Int64) (lx272 : Int32) (lx273 : (Nat → Int32)), (-1 ≤ lx261.toInt ∧ lx261.toInt ≤ 323) → (lx261.toInt + 1074 < (n : Int)) → (0 ≤ lx263.toInt ∧ lx263.toInt + lx261.toInt ≤ 325) → Q_FX_fixed (F_FR_fixed_L162 K_F_FR_fixed_L130 x2 x3 x4 x5 t0_0 t0_1 t0_2 t0_3 t0_4 t0_5 t0_6 t0_7 t0_8 t0_9 t0_10 t1_0 t2_0 t3_0 t4_0 t5_0 lx29 p81 y47 y48 y49 y50 y51 y52 y53 y54 y55 y56 y57 lx106 p136 f128 f130 f132 lx146 f170 p216 y179 y180 y181 y182 y183 y184 y185 y186 y187 y188 y189 f190 lx236 n lx261 lx262 lx263 lx264 lx265 lx266 lx267 lx268 lx269 lx270 lx271 lx272 lx273) := by
  intro n
  induction n with
  | zero => intro lx261 lx262 lx263 lx264 lx265 lx266 lx267 lx268 lx269 lx270 lx271 lx272 lx273 h0 hm hs; exact absurd (show False by omega) id
  | succ n ih =>
    intro lx261 lx262 lx263 lx264 lx265 lx266 lx267 lx268 lx269 lx270 lx271 lx272 lx273 h0 hm hs
    have e0 : (0 : Int32).toInt = 0 := rfl
    have e1 : (1 : Int32).toInt = 1 := rfl
    have eL0 : (0 : Int64).toInt = 0 := rfl
    have em1 : (-1 : Int32).toInt = -1 := rfl
    rw [F_FR_fixed_L162.eq_2]
    by_cases g1 : lx261 < (0 : Int32)
    ·
      rw [if_pos g1]
      have g1i : lx261.toInt < 0 := q_ltI g1
      have g2 : ¬ (x4 ≤ (0 : Int32)) := (fun z => by have := q_leI z; omega)
      rw [if_neg g2]
      have h3 := T_FX_add (x2 := (46 : Int32)) (t0_0 := lx262) (t0_1 := lx263) (t0_2 := lx264) (t0_3 := lx265) (t0_4 := lx266) (t0_5 := lx267) (t0_6 := lx268) (t0_7 := lx269) (t0_8 := lx270) (t0_9 := lx271) (t0_10 := lx272) (t1_0 := lx273) ⟨by first | omega | decide, by first | omega | decide⟩
      generalize F_FR_add (46 : Int32) lx262 lx263 lx264 lx265 lx266 lx267 lx268 lx269 lx270 lx271 lx272 lx273 = p534 at *
      unfold Q_FX_add at h3
      have ap534 := h3.2
      unfold F_FR_fixed_c194
      unfold F_FR_fixed_J197
      exact vx_fx3 hx4 _ _ _ _ _ _ _ _ _ _ _ _ _ _ ⟨by first | omega | decide, by decide⟩ (by omega) ⟨by omega, by omega⟩ (by rw [ap534]; exact fxK.new hs.1 (by omega))
    ·
      rw [if_neg g1]
      have g1i : 0 ≤ lx261.toInt := q_nltI g1
      have h4 := T_FX_add (x2 := (48 + ((F_FR_figureAt lx261 lx262 lx263 lx264 lx265 lx266 lx267 lx268 lx269 lx270 lx271 lx272 f170) : Int32) : Int32)) (t0_0 := lx262) (t0_1 := lx263) (t0_2 := lx264) (t0_3 := lx265) (t0_4 := lx266) (t0_5 := lx267) (t0_6 := lx268) (t0_7 := lx269) (t0_8 := lx270) (t0_9 := lx271) (t0_10 := lx272) (t1_0 := lx273) ⟨by first | omega | decide, by first | omega | decide⟩
      generalize F_FR_add (48 + ((F_FR_figureAt lx261 lx262 lx263 lx264 lx265 lx266 lx267 lx268 lx269 lx270 lx271 lx272 f170) : Int32) : Int32) lx262 lx263 lx264 lx265 lx266 lx267 lx268 lx269 lx270 lx271 lx272 lx273 = p604 at *
      unfold Q_FX_add at h4
      have ap604 := h4.2
      unfold F_FR_fixed_c177
      obtain ⟨a5, e6⟩ := q_nm (lx261 + (-1) : Int32)
      rw [e6]
      have a5i : a5.toInt = lx261.toInt + (-1) := by rw [← e6]; exact q_addI (x := lx261.toInt) (y := (-1)) rfl (by decide) (by omega) (by omega)
      exact ih _ _ _ _ _ _ _ _ _ _ _ _ _ ⟨by omega, by omega⟩ (by omega) ⟨by omega, by omega⟩
theorem vx_fx1 {x2 : Int64} {x3 : Int32} {x4 : Int32} {x5 : Int32} {t0_0 : Int32} {t0_1 : Int32} {t0_2 : Int32} {t0_3 : Int32} {t0_4 : Int64} {t0_5 : Int32} {t0_6 : Int32} {t0_7 : Int64} {t0_8 : Int32} {t0_9 : Int64} {t0_10 : Int32} {t1_0 : (Nat → Int32)} {t2_0 : (Nat → Int32)} {t3_0 : (Nat → Int32)} {t4_0 : (Nat → Int32)} {t5_0 : (Nat → Int32)} {lx29 : Int32} {p81 : (Int32 × Int32 × Int32 × Int32 × Int64 × Int32 × Int32 × Int64 × Int32 × Int64 × Int32)} {y47 : Int32} {y48 : Int32} {y49 : Int32} {y50 : Int32} {y51 : Int64} {y52 : Int32} {y53 : Int32} {y54 : Int64} {y55 : Int32} {y56 : Int64} {y57 : Int32} {lx106 : Int32} {p136 : ((Nat → Int32) × (Nat → Int32) × (Nat → Int32))} {f128 : (Nat → Int32)} {f130 : (Nat → Int32)} {f132 : (Nat → Int32)} {lx146 : Int32} {f170 : (Nat → Int32)} {p216 : (Int32 × Int32 × Int32 × Int32 × Int64 × Int32 × Int32 × Int64 × Int32 × Int64 × Int32 × (Nat → Int32))} {y179 : Int32} {y180 : Int32} {y181 : Int32} {y182 : Int32} {y183 : Int64} {y184 : Int32} {y185 : Int32} {y186 : Int64} {y187 : Int32} {y188 : Int64} {y189 : Int32} {f190 : (Nat → Int32)} (hx4 : 1 ≤ x4.toInt ∧ x4.toInt ≤ 1100) (hy : 0 ≤ y180.toInt ∧ y180.toInt ≤ 1) : ∀ (n : Nat) (lx236 : Int32), (1080 ≤ lx236.toInt ∧ lx236.toInt ≤ 1403) → (lx236.toInt + 1074 < (n : Int)) → Q_FX_fixed (F_FR_fixed_L130 x2 x3 x4 x5 t0_0 t0_1 t0_2 t0_3 t0_4 t0_5 t0_6 t0_7 t0_8 t0_9 t0_10 t1_0 t2_0 t3_0 t4_0 t5_0 lx29 p81 y47 y48 y49 y50 y51 y52 y53 y54 y55 y56 y57 lx106 p136 f128 f130 f132 lx146 f170 p216 y179 y180 y181 y182 y183 y184 y185 y186 y187 y188 y189 f190 n lx236) := by
  intro n
  induction n with
  | zero => intro lx236 h0 hm; exact absurd (show False by omega) id
  | succ n ih =>
    intro lx236 h0 hm
    have e0 : (0 : Int32).toInt = 0 := rfl
    have e1 : (1 : Int32).toInt = 1 := rfl
    have eL0 : (0 : Int64).toInt = 0 := rfl
    rw [F_FR_fixed_L130.eq_2]
    by_cases g1 : lx236 ≤ (1080 : Int32)
    ·
      rw [if_pos g1]
      have g1i : lx236.toInt ≤ 1080 := q_leI g1
      unfold F_FR_fixed_J154
      have e5 : (lx236 - 1080 : Int32).toInt = lx236.toInt - 1080 := q_subI (y := 1080) rfl (by decide) (by omega) (by omega); exact vx_fx2 hx4 _ _ _ _ _ _ _ _ _ _ _ _ _ _ ⟨by omega, by omega⟩ (by omega) ⟨by omega, by omega⟩
    ·
      rw [if_neg g1]
      have g1i : 1080 < lx236.toInt := q_nleI g1
      by_cases g2 : (f170 lx236.toNatClampNeg : Int32) = (0 : Int32)
      ·
        rw [if_pos g2]
        obtain ⟨a3, e4⟩ := q_nm (lx236 + (-1) : Int32)
        rw [e4]
        have a3i : a3.toInt = lx236.toInt + (-1) := by rw [← e4]; exact q_addI (x := lx236.toInt) (y := (-1)) rfl (by decide) (by omega) (by omega)
        exact ih _ (by first | with_reducible assumption | omega | decide) (by first | with_reducible assumption | omega | decide)
      ·
        rw [if_neg g2]
        unfold F_FR_fixed_J154
        have e5 : (lx236 - 1080 : Int32).toInt = lx236.toInt - 1080 := q_subI (y := 1080) rfl (by decide) (by omega) (by omega); exact vx_fx2 hx4 _ _ _ _ _ _ _ _ _ _ _ _ _ _ ⟨by omega, by omega⟩ (by omega) ⟨by omega, by omega⟩
theorem fx_le3 {x : Int32} (h : 0 ≤ x.toInt ∧ x.toInt ≤ 3) : x ≤ 3 := q_Ile (x := x.toInt) (y := 3) rfl (by decide) h.2
theorem fx_fin {nar t0_0 t0_1 t0_2 t0_3 t0_5 t0_6 t0_8 t0_10 : Int32} {t0_4 t0_7 t0_9 : Int64} (h3 : t0_3.toInt < fxM nar) (h6 : t0_6.toInt = fxM nar) : ¬ F_FR_isFinite t0_0 t0_1 t0_2 t0_3 t0_4 t0_5 t0_6 t0_7 t0_8 t0_9 t0_10 = 0 := by
  unfold F_FR_isFinite
  rw [if_neg (fun z => by have := q_leI z; omega)]
  decide
theorem T_FX_fixed {x2 : Int64} {x3 : Int32} {x4 : Int32} {x5 : Int32} {t0_0 : Int32} {t0_1 : Int32} {t0_2 : Int32} {t0_3 : Int32} {t0_4 : Int64} {t0_5 : Int32} {t0_6 : Int32} {t0_7 : Int64} {t0_8 : Int32} {t0_9 : Int64} {t0_10 : Int32} {t1_0 : (Nat → Int32)} {t2_0 : (Nat → Int32)} {t3_0 : (Nat → Int32)} {t4_0 : (Nat → Int32)} {t5_0 : (Nat → Int32)} (hw : F_FR_isWrong x2 x3 = 0) (hx4 : 1 ≤ x4.toInt ∧ x4.toInt ≤ 1100) (hx5 : 0 ≤ x5.toInt ∧ x5.toInt ≤ 3) (hf0 : x3 = 0 → fxE x2 0 < fxM 0) (hf1 : ¬ x3 = 0 → fxE x2 1 < fxM 1)  : Q_FX_fixed (F_FR_fixed x2 x3 x4 x5 t0_0 t0_1 t0_2 t0_3 t0_4 t0_5 t0_6 t0_7 t0_8 t0_9 t0_10 t1_0 t2_0 t3_0 t4_0 t5_0) := by
  have e0 : (0 : Int32).toInt = 0 := rfl
  have e1 : (1 : Int32).toInt = 1 := rfl
  have eL0 : (0 : Int64).toInt = 0 := rfl
  unfold F_FR_fixed
  by_cases g1 : x3 = (0 : Int32)
  ·
    rw [if_pos g1]
    have gx := g1
    unfold F_FR_fixed_J18
    unfold F_FR_fixed_J19
    have h2 := T_FX_open (x2 := x2) (x3 := (0 : Int32)) (t0_0 := t0_0) (t0_1 := t0_1) (t0_2 := t0_2) (t0_3 := t0_3) (t0_4 := t0_4) (t0_5 := t0_5) (t0_6 := t0_6) (t0_7 := t0_7) (t0_8 := t0_8) (t0_9 := t0_9) (t0_10 := t0_10) 
    generalize F_FR_open x2 (0 : Int32) t0_0 t0_1 t0_2 t0_3 t0_4 t0_5 t0_6 t0_7 t0_8 t0_9 t0_10 = p81 at *
    unfold Q_FX_open at h2
    have qo := h2
    unfold F_FR_fixed_c19
    rw [if_pos hw]
    have g3 : ¬ (x4 < (0 : Int32)) := (fun z => by have := q_ltI z; omega)
    rw [if_neg g3]
    have g4 : ¬ ((1100 : Int32) < x4) := (fun z => by have := q_ltI z; have e11 : (1100 : Int32).toInt = 1100 := rfl; omega)
    rw [if_neg g4]
    have g5 : ¬ (x5 < (0 : Int32)) := (fun z => by have := q_ltI z; omega)
    rw [if_neg g5]
    have g6 : (x5 ≤ (3 : Int32)) := (fx_le3 hx5)
    rw [if_pos g6]
    have g7 : ¬ (((F_FR_isFinite (p81.1 : Int32) (p81.2.1 : Int32) (p81.2.2.1 : Int32) (p81.2.2.2.1 : Int32) (p81.2.2.2.2.1 : Int64) (p81.2.2.2.2.2.1 : Int32) (p81.2.2.2.2.2.2.1 : Int32) (p81.2.2.2.2.2.2.2.1 : Int64) (p81.2.2.2.2.2.2.2.2.1 : Int32) (p81.2.2.2.2.2.2.2.2.2.1 : Int64) (p81.2.2.2.2.2.2.2.2.2.2 : Int32)) : Int32) = (0 : Int32)) := (fx_fin (by rw [qo.1]; first | with_reducible exact hf0 gx | with_reducible exact hf1 gx) qo.2.1)
    rw [if_neg g7]
    unfold F_FR_fixed_J71
    have g8 : ((0 : Int32) ≤ (0 : Int32)) := (by decide)
    rw [if_pos g8]
    generalize F_FR_setValue (0 : Int32) (p81.2.1 : Int32) (p81.2.2.1 : Int32) (p81.2.2.2.1 : Int32) (p81.2.2.2.2.1 : Int64) (p81.2.2.2.2.2.1 : Int32) (p81.2.2.2.2.2.2.1 : Int32) (p81.2.2.2.2.2.2.2.1 : Int64) (p81.2.2.2.2.2.2.2.2.1 : Int32) (p81.2.2.2.2.2.2.2.2.2.1 : Int64) (p81.2.2.2.2.2.2.2.2.2.2 : Int32) t1_0 t2_0 t3_0 = p136 at *
    unfold F_FR_fixed_c84
    by_cases g9 : x4 ≤ (1080 : Int32)
    ·
      rw [if_pos g9]
      unfold F_FR_fixed_J105
      have h10 := T_FX_begin (t0_0 := (0 : Int32)) (t0_1 := (p81.2.1 : Int32)) (t0_2 := (p81.2.2.1 : Int32)) (t0_3 := (p81.2.2.2.1 : Int32)) (t0_4 := (p81.2.2.2.2.1 : Int64)) (t0_5 := (p81.2.2.2.2.2.1 : Int32)) (t0_6 := (p81.2.2.2.2.2.2.1 : Int32)) (t0_7 := (p81.2.2.2.2.2.2.2.1 : Int64)) (t0_8 := (p81.2.2.2.2.2.2.2.2.1 : Int32)) (t0_9 := (p81.2.2.2.2.2.2.2.2.2.1 : Int64)) (t0_10 := (p81.2.2.2.2.2.2.2.2.2.2 : Int32)) (t1_0 := t5_0) 
      generalize F_FR_begin (0 : Int32) (p81.2.1 : Int32) (p81.2.2.1 : Int32) (p81.2.2.2.1 : Int32) (p81.2.2.2.2.1 : Int64) (p81.2.2.2.2.2.1 : Int32) (p81.2.2.2.2.2.2.1 : Int32) (p81.2.2.2.2.2.2.2.1 : Int64) (p81.2.2.2.2.2.2.2.2.1 : Int32) (p81.2.2.2.2.2.2.2.2.2.1 : Int64) (p81.2.2.2.2.2.2.2.2.2.2 : Int32) t5_0 = p216 at *
      unfold Q_FX_begin at h10
      generalize F_FR_cut (1080 - x4 : Int32) ((F_FR_isMore (1080 - x4 : Int32) x5 (0 : Int32) (p81.2.1 : Int32) (p81.2.2.1 : Int32) (p81.2.2.2.1 : Int32) (p81.2.2.2.2.1 : Int64) (p81.2.2.2.2.2.1 : Int32) (p81.2.2.2.2.2.2.1 : Int32) (p81.2.2.2.2.2.2.2.1 : Int64) (p81.2.2.2.2.2.2.2.2.1 : Int32) (p81.2.2.2.2.2.2.2.2.2.1 : Int64) (p81.2.2.2.2.2.2.2.2.2.2 : Int32) (p136.2.2 : (Nat → Int32))) : Int32) (0 : Int32) (p81.2.1 : Int32) (p81.2.2.1 : Int32) (p81.2.2.2.1 : Int32) (p81.2.2.2.2.1 : Int64) (p81.2.2.2.2.2.1 : Int32) (p81.2.2.2.2.2.2.1 : Int32) (p81.2.2.2.2.2.2.2.1 : Int64) (p81.2.2.2.2.2.2.2.2.1 : Int32) (p81.2.2.2.2.2.2.2.2.2.1 : Int64) (p81.2.2.2.2.2.2.2.2.2.2 : Int32) (p136.2.2 : (Nat → Int32)) t4_0 = f170 at *
      unfold F_FR_fixed_c122
      exact vx_fx1 hx4 ⟨by omega, by omega⟩ _ _ ⟨by decide, by decide⟩ (by decide)
    ·
      rw [if_neg g9]
      unfold F_FR_fixed_J105
      have h11 := T_FX_begin (t0_0 := (0 : Int32)) (t0_1 := (p81.2.1 : Int32)) (t0_2 := (p81.2.2.1 : Int32)) (t0_3 := (p81.2.2.2.1 : Int32)) (t0_4 := (p81.2.2.2.2.1 : Int64)) (t0_5 := (p81.2.2.2.2.2.1 : Int32)) (t0_6 := (p81.2.2.2.2.2.2.1 : Int32)) (t0_7 := (p81.2.2.2.2.2.2.2.1 : Int64)) (t0_8 := (p81.2.2.2.2.2.2.2.2.1 : Int32)) (t0_9 := (p81.2.2.2.2.2.2.2.2.2.1 : Int64)) (t0_10 := (p81.2.2.2.2.2.2.2.2.2.2 : Int32)) (t1_0 := t5_0) 
      generalize F_FR_begin (0 : Int32) (p81.2.1 : Int32) (p81.2.2.1 : Int32) (p81.2.2.2.1 : Int32) (p81.2.2.2.2.1 : Int64) (p81.2.2.2.2.2.1 : Int32) (p81.2.2.2.2.2.2.1 : Int32) (p81.2.2.2.2.2.2.2.1 : Int64) (p81.2.2.2.2.2.2.2.2.1 : Int32) (p81.2.2.2.2.2.2.2.2.2.1 : Int64) (p81.2.2.2.2.2.2.2.2.2.2 : Int32) t5_0 = p216 at *
      unfold Q_FX_begin at h11
      generalize F_FR_cut (0 : Int32) ((F_FR_isMore (0 : Int32) x5 (0 : Int32) (p81.2.1 : Int32) (p81.2.2.1 : Int32) (p81.2.2.2.1 : Int32) (p81.2.2.2.2.1 : Int64) (p81.2.2.2.2.2.1 : Int32) (p81.2.2.2.2.2.2.1 : Int32) (p81.2.2.2.2.2.2.2.1 : Int64) (p81.2.2.2.2.2.2.2.2.1 : Int32) (p81.2.2.2.2.2.2.2.2.2.1 : Int64) (p81.2.2.2.2.2.2.2.2.2.2 : Int32) (p136.2.2 : (Nat → Int32))) : Int32) (0 : Int32) (p81.2.1 : Int32) (p81.2.2.1 : Int32) (p81.2.2.2.1 : Int32) (p81.2.2.2.2.1 : Int64) (p81.2.2.2.2.2.1 : Int32) (p81.2.2.2.2.2.2.1 : Int32) (p81.2.2.2.2.2.2.2.1 : Int64) (p81.2.2.2.2.2.2.2.2.1 : Int32) (p81.2.2.2.2.2.2.2.2.2.1 : Int64) (p81.2.2.2.2.2.2.2.2.2.2 : Int32) (p136.2.2 : (Nat → Int32)) t4_0 = f170 at *
      unfold F_FR_fixed_c122
      exact vx_fx1 hx4 ⟨by omega, by omega⟩ _ _ ⟨by decide, by decide⟩ (by decide)
  ·
    rw [if_neg g1]
    have gx := g1
    rw [if_pos hw]
    unfold F_FR_fixed_J19
    have h12 := T_FX_open (x2 := x2) (x3 := (1 : Int32)) (t0_0 := t0_0) (t0_1 := t0_1) (t0_2 := t0_2) (t0_3 := t0_3) (t0_4 := t0_4) (t0_5 := t0_5) (t0_6 := t0_6) (t0_7 := t0_7) (t0_8 := t0_8) (t0_9 := t0_9) (t0_10 := t0_10) 
    generalize F_FR_open x2 (1 : Int32) t0_0 t0_1 t0_2 t0_3 t0_4 t0_5 t0_6 t0_7 t0_8 t0_9 t0_10 = p81 at *
    unfold Q_FX_open at h12
    have qo := h12
    unfold F_FR_fixed_c19
    rw [if_pos hw]
    have g13 : ¬ (x4 < (0 : Int32)) := (fun z => by have := q_ltI z; omega)
    rw [if_neg g13]
    have g14 : ¬ ((1100 : Int32) < x4) := (fun z => by have := q_ltI z; have e11 : (1100 : Int32).toInt = 1100 := rfl; omega)
    rw [if_neg g14]
    have g15 : ¬ (x5 < (0 : Int32)) := (fun z => by have := q_ltI z; omega)
    rw [if_neg g15]
    have g16 : (x5 ≤ (3 : Int32)) := (fx_le3 hx5)
    rw [if_pos g16]
    have g17 : ¬ (((F_FR_isFinite (p81.1 : Int32) (p81.2.1 : Int32) (p81.2.2.1 : Int32) (p81.2.2.2.1 : Int32) (p81.2.2.2.2.1 : Int64) (p81.2.2.2.2.2.1 : Int32) (p81.2.2.2.2.2.2.1 : Int32) (p81.2.2.2.2.2.2.2.1 : Int64) (p81.2.2.2.2.2.2.2.2.1 : Int32) (p81.2.2.2.2.2.2.2.2.2.1 : Int64) (p81.2.2.2.2.2.2.2.2.2.2 : Int32)) : Int32) = (0 : Int32)) := (fx_fin (by rw [qo.1]; first | with_reducible exact hf0 gx | with_reducible exact hf1 gx) qo.2.1)
    rw [if_neg g17]
    unfold F_FR_fixed_J71
    have g18 : ((0 : Int32) ≤ (0 : Int32)) := (by decide)
    rw [if_pos g18]
    generalize F_FR_setValue (0 : Int32) (p81.2.1 : Int32) (p81.2.2.1 : Int32) (p81.2.2.2.1 : Int32) (p81.2.2.2.2.1 : Int64) (p81.2.2.2.2.2.1 : Int32) (p81.2.2.2.2.2.2.1 : Int32) (p81.2.2.2.2.2.2.2.1 : Int64) (p81.2.2.2.2.2.2.2.2.1 : Int32) (p81.2.2.2.2.2.2.2.2.2.1 : Int64) (p81.2.2.2.2.2.2.2.2.2.2 : Int32) t1_0 t2_0 t3_0 = p136 at *
    unfold F_FR_fixed_c84
    by_cases g19 : x4 ≤ (1080 : Int32)
    ·
      rw [if_pos g19]
      unfold F_FR_fixed_J105
      have h20 := T_FX_begin (t0_0 := (0 : Int32)) (t0_1 := (p81.2.1 : Int32)) (t0_2 := (p81.2.2.1 : Int32)) (t0_3 := (p81.2.2.2.1 : Int32)) (t0_4 := (p81.2.2.2.2.1 : Int64)) (t0_5 := (p81.2.2.2.2.2.1 : Int32)) (t0_6 := (p81.2.2.2.2.2.2.1 : Int32)) (t0_7 := (p81.2.2.2.2.2.2.2.1 : Int64)) (t0_8 := (p81.2.2.2.2.2.2.2.2.1 : Int32)) (t0_9 := (p81.2.2.2.2.2.2.2.2.2.1 : Int64)) (t0_10 := (p81.2.2.2.2.2.2.2.2.2.2 : Int32)) (t1_0 := t5_0) 
      generalize F_FR_begin (0 : Int32) (p81.2.1 : Int32) (p81.2.2.1 : Int32) (p81.2.2.2.1 : Int32) (p81.2.2.2.2.1 : Int64) (p81.2.2.2.2.2.1 : Int32) (p81.2.2.2.2.2.2.1 : Int32) (p81.2.2.2.2.2.2.2.1 : Int64) (p81.2.2.2.2.2.2.2.2.1 : Int32) (p81.2.2.2.2.2.2.2.2.2.1 : Int64) (p81.2.2.2.2.2.2.2.2.2.2 : Int32) t5_0 = p216 at *
      unfold Q_FX_begin at h20
      generalize F_FR_cut (1080 - x4 : Int32) ((F_FR_isMore (1080 - x4 : Int32) x5 (0 : Int32) (p81.2.1 : Int32) (p81.2.2.1 : Int32) (p81.2.2.2.1 : Int32) (p81.2.2.2.2.1 : Int64) (p81.2.2.2.2.2.1 : Int32) (p81.2.2.2.2.2.2.1 : Int32) (p81.2.2.2.2.2.2.2.1 : Int64) (p81.2.2.2.2.2.2.2.2.1 : Int32) (p81.2.2.2.2.2.2.2.2.2.1 : Int64) (p81.2.2.2.2.2.2.2.2.2.2 : Int32) (p136.2.2 : (Nat → Int32))) : Int32) (0 : Int32) (p81.2.1 : Int32) (p81.2.2.1 : Int32) (p81.2.2.2.1 : Int32) (p81.2.2.2.2.1 : Int64) (p81.2.2.2.2.2.1 : Int32) (p81.2.2.2.2.2.2.1 : Int32) (p81.2.2.2.2.2.2.2.1 : Int64) (p81.2.2.2.2.2.2.2.2.1 : Int32) (p81.2.2.2.2.2.2.2.2.2.1 : Int64) (p81.2.2.2.2.2.2.2.2.2.2 : Int32) (p136.2.2 : (Nat → Int32)) t4_0 = f170 at *
      unfold F_FR_fixed_c122
      exact vx_fx1 hx4 ⟨by omega, by omega⟩ _ _ ⟨by decide, by decide⟩ (by decide)
    ·
      rw [if_neg g19]
      unfold F_FR_fixed_J105
      have h21 := T_FX_begin (t0_0 := (0 : Int32)) (t0_1 := (p81.2.1 : Int32)) (t0_2 := (p81.2.2.1 : Int32)) (t0_3 := (p81.2.2.2.1 : Int32)) (t0_4 := (p81.2.2.2.2.1 : Int64)) (t0_5 := (p81.2.2.2.2.2.1 : Int32)) (t0_6 := (p81.2.2.2.2.2.2.1 : Int32)) (t0_7 := (p81.2.2.2.2.2.2.2.1 : Int64)) (t0_8 := (p81.2.2.2.2.2.2.2.2.1 : Int32)) (t0_9 := (p81.2.2.2.2.2.2.2.2.2.1 : Int64)) (t0_10 := (p81.2.2.2.2.2.2.2.2.2.2 : Int32)) (t1_0 := t5_0) 
      generalize F_FR_begin (0 : Int32) (p81.2.1 : Int32) (p81.2.2.1 : Int32) (p81.2.2.2.1 : Int32) (p81.2.2.2.2.1 : Int64) (p81.2.2.2.2.2.1 : Int32) (p81.2.2.2.2.2.2.1 : Int32) (p81.2.2.2.2.2.2.2.1 : Int64) (p81.2.2.2.2.2.2.2.2.1 : Int32) (p81.2.2.2.2.2.2.2.2.2.1 : Int64) (p81.2.2.2.2.2.2.2.2.2.2 : Int32) t5_0 = p216 at *
      unfold Q_FX_begin at h21
      generalize F_FR_cut (0 : Int32) ((F_FR_isMore (0 : Int32) x5 (0 : Int32) (p81.2.1 : Int32) (p81.2.2.1 : Int32) (p81.2.2.2.1 : Int32) (p81.2.2.2.2.1 : Int64) (p81.2.2.2.2.2.1 : Int32) (p81.2.2.2.2.2.2.1 : Int32) (p81.2.2.2.2.2.2.2.1 : Int64) (p81.2.2.2.2.2.2.2.2.1 : Int32) (p81.2.2.2.2.2.2.2.2.2.1 : Int64) (p81.2.2.2.2.2.2.2.2.2.2 : Int32) (p136.2.2 : (Nat → Int32))) : Int32) (0 : Int32) (p81.2.1 : Int32) (p81.2.2.1 : Int32) (p81.2.2.2.1 : Int32) (p81.2.2.2.2.1 : Int64) (p81.2.2.2.2.2.1 : Int32) (p81.2.2.2.2.2.2.1 : Int32) (p81.2.2.2.2.2.2.2.1 : Int64) (p81.2.2.2.2.2.2.2.2.1 : Int32) (p81.2.2.2.2.2.2.2.2.2.1 : Int64) (p81.2.2.2.2.2.2.2.2.2.2 : Int32) (p136.2.2 : (Nat → Int32)) t4_0 = f170 at *
      unfold F_FR_fixed_c122
      exact vx_fx1 hx4 ⟨by omega, by omega⟩ _ _ ⟨by decide, by decide⟩ (by decide)
def fxN (x : Int64) : Prop := 0 ≤ x.toInt ∧ x.toInt < 4294967296
theorem fxN.or {a b : Int64} (h : fxN a) (g : fxN b) : fxN (a ||| b) := s_orJ 32 (by decide) h g
theorem fx_shl {x : Int64} {n k : Nat} {c : Int32} (hx : x.toInt = (n : Int)) (hc : ((c.toInt64 &&& 63).toBitVec.smod 64) = BitVec.ofNat 64 k) (hk : k < 64) (hn : n * 2 ^ k < 9223372036854775808) : (x <<< (c.toInt64 &&& 63)).toInt = ((n * 2 ^ k : Nat) : Int) := by
  have e := s_nnL (x := x) (by omega)
  have m : (BitVec.ofNat 64 k).toNat = k := by rw [BitVec.toNat_ofNat, Nat.mod_eq_of_lt (by omega)]
  have e2 : (x <<< (c.toInt64 &&& 63)).toBitVec.toNat = x.toBitVec.toNat * 2 ^ k % 2 ^ 64 := by
    rw [Int64.toBitVec_shiftLeft, hc, BitVec.shiftLeft_eq', BitVec.toNat_shiftLeft, m, Nat.shiftLeft_eq]
  have ex : x.toBitVec.toNat = n := by omega
  rw [ex, Nat.mod_eq_of_lt (by omega)] at e2
  exact s_ofL e2 hn
theorem fx_nr {k : Int32} {m : Int64} (hk : -149 ≤ k.toInt ∧ k.toInt ≤ 104) (hm : 0 ≤ m.toInt ∧ m.toInt ≤ 16777216) : fxN (((((k + 150 : Int32).toInt64) <<< ((23 : Int32).toInt64 &&& 63)) + m) - 8388608) := by
  have e1 : (k + 150 : Int32).toInt = k.toInt + 150 := q_addI (y := 150) rfl (by decide) (by omega) (by omega)
  have e2 : (k + 150 : Int32).toInt64.toInt = k.toInt + 150 := by rw [q_i2l rfl]; exact e1
  obtain ⟨n, hn⟩ : ∃ n : Nat, k.toInt + 150 = (n : Int) := ⟨(k.toInt + 150).toNat, by omega⟩
  have e3 : (((k + 150 : Int32).toInt64) <<< ((23 : Int32).toInt64 &&& 63)).toInt = ((n * 2 ^ 23 : Nat) : Int) := fx_shl (n := n) (k := 23) (by omega) (by decide) (by decide) (by omega)
  have e4 := q_addL e3 (rfl : m.toInt = m.toInt) (by omega) (by omega)
  have e5 := q_subL (b := 8388608) (y := 8388608) e4 (by decide) (by omega) (by omega)
  unfold fxN
  rw [e5]; omega
def Q_FX_nar (p : Int64 × Int32 × Int32 × Int32 × Int32 × Int64 × Int32 × Int32 × Int64 × Int32 × Int64 × Int32) : Prop := fxN p.1
theorem g_lcz {a b : Int64} (h : lg_cmp a b = 0) : a.toInt = b.toInt := by
  have h1 : lg_cmp a b ≤ 0 := by rw [h]; decide
  have h2 : 0 ≤ lg_cmp a b := by rw [h]; decide
  have a1 := g_lc3 h1
  have a2 := g_lc5 h2
  omega
theorem T_FX_n211 {K_F_FR_narrowed_L72 : Int32 → Int32 → Int32 → Int64 → (Int64 × Int32 × Int32 × Int32 × Int32 × Int64 × Int32 × Int32 × Int64 × Int32 × Int64 × Int32)} {K_F_FR_narrowed_L157 : Int64 → Int32 → (Int64 × Int32 × Int32 × Int32 × Int32 × Int64 × Int32 × Int32 × Int64 × Int32 × Int64 × Int32)} {x2 : Int64} {t0_0 : Int32} {t0_1 : Int32} {t0_2 : Int32} {t0_3 : Int32} {t0_4 : Int64} {t0_5 : Int32} {t0_6 : Int32} {t0_7 : Int64} {t0_8 : Int32} {t0_9 : Int64} {t0_10 : Int32} {p53 : (Int32 × Int32 × Int32 × Int32 × Int64 × Int32 × Int32 × Int64 × Int32 × Int64 × Int32)} {y19 : Int32} {y20 : Int32} {y21 : Int32} {y22 : Int32} {y23 : Int64} {y24 : Int32} {y25 : Int32} {y26 : Int64} {y27 : Int32} {y28 : Int64} {y29 : Int32} {lx71 : Int64} {lx94 : Int32} {lx95 : Int32} {lx96 : Int32} {lx97 : Int64} {lx156 : Int64} {lx169 : Int64} {lx170 : Int32} {lx192 : Int64} {lx193 : Int32} (h71 : lx71 = 0 ∨ lx71 = 2147483648) (hm2 : 0 ≤ lx192.toInt ∧ lx192.toInt ≤ 16777216) (hk2 : -149 ≤ lx193.toInt)  : Q_FX_nar (F_FR_narrowed_J211 K_F_FR_narrowed_L72 K_F_FR_narrowed_L157 x2 t0_0 t0_1 t0_2 t0_3 t0_4 t0_5 t0_6 t0_7 t0_8 t0_9 t0_10 p53 y19 y20 y21 y22 y23 y24 y25 y26 y27 y28 y29 lx71 lx94 lx95 lx96 lx97 lx156 lx169 lx170 lx192 lx193) := by
  have e0 : (0 : Int32).toInt = 0 := rfl
  have e1 : (1 : Int32).toInt = 1 := rfl
  have eL0 : (0 : Int64).toInt = 0 := rfl
  have em : (-149 : Int32).toInt = -149 := rfl
  have eM : (8388608 : Int64).toInt = 8388608 := rfl
  have eG : (16777216 : Int64).toInt = 16777216 := rfl
  have e104 : (104 : Int32).toInt = 104 := rfl
  have f71 : fxN lx71 := by rcases h71 with h | h <;> (rw [h]; unfold fxN; decide)
  unfold F_FR_narrowed_J211
  by_cases g1 : lx193 ≤ (104 : Int32)
  ·
    rw [if_pos g1]
    have g1i : lx193.toInt ≤ 104 := q_leI g1
    by_cases g2 : (0 : Int32) ≤ (lg_cmp lx192 8388608 : Int32)
    ·
      rw [if_pos g2]
      have g2l := g_lc5 g2
      exact (show fxN _ from f71.or (fx_nr ⟨by omega, by omega⟩ ⟨by omega, by omega⟩))
    ·
      rw [if_neg g2]
      have g2l := g_lc6 g2
      exact (show fxN _ from f71.or ⟨by omega, by omega⟩)
  ·
    rw [if_neg g1]
    have g1i : 104 < lx193.toInt := q_nleI g1
    exact (show fxN _ from f71.or (by unfold fxN; decide))
theorem T_FX_n193 {K_F_FR_narrowed_L72 : Int32 → Int32 → Int32 → Int64 → (Int64 × Int32 × Int32 × Int32 × Int32 × Int64 × Int32 × Int32 × Int64 × Int32 × Int64 × Int32)} {K_F_FR_narrowed_L157 : Int64 → Int32 → (Int64 × Int32 × Int32 × Int32 × Int32 × Int64 × Int32 × Int32 × Int64 × Int32 × Int64 × Int32)} {x2 : Int64} {t0_0 : Int32} {t0_1 : Int32} {t0_2 : Int32} {t0_3 : Int32} {t0_4 : Int64} {t0_5 : Int32} {t0_6 : Int32} {t0_7 : Int64} {t0_8 : Int32} {t0_9 : Int64} {t0_10 : Int32} {p53 : (Int32 × Int32 × Int32 × Int32 × Int64 × Int32 × Int32 × Int64 × Int32 × Int64 × Int32)} {y19 : Int32} {y20 : Int32} {y21 : Int32} {y22 : Int32} {y23 : Int64} {y24 : Int32} {y25 : Int32} {y26 : Int64} {y27 : Int32} {y28 : Int64} {y29 : Int32} {lx71 : Int64} {lx94 : Int32} {lx95 : Int32} {lx96 : Int32} {lx97 : Int64} {lx156 : Int64} {lx169 : Int64} {lx170 : Int32} (h71 : lx71 = 0 ∨ lx71 = 2147483648) (hm2 : 0 ≤ lx169.toInt ∧ lx169.toInt ≤ 16777216) (hk2 : -149 ≤ lx170.toInt ∧ lx170.toInt ≤ 1100)  : Q_FX_nar (F_FR_narrowed_J193 K_F_FR_narrowed_L72 K_F_FR_narrowed_L157 x2 t0_0 t0_1 t0_2 t0_3 t0_4 t0_5 t0_6 t0_7 t0_8 t0_9 t0_10 p53 y19 y20 y21 y22 y23 y24 y25 y26 y27 y28 y29 lx71 lx94 lx95 lx96 lx97 lx156 lx169 lx170) := by
  have e0 : (0 : Int32).toInt = 0 := rfl
  have e1 : (1 : Int32).toInt = 1 := rfl
  have eL0 : (0 : Int64).toInt = 0 := rfl
  have em : (-149 : Int32).toInt = -149 := rfl
  have eM : (8388608 : Int64).toInt = 8388608 := rfl
  have eG : (16777216 : Int64).toInt = 16777216 := rfl
  have e104 : (104 : Int32).toInt = 104 := rfl
  unfold F_FR_narrowed_J193
  by_cases g1 : (lg_cmp lx169 16777216 : Int32) = (0 : Int32)
  ·
    rw [if_pos g1]
    have g1z := g_lcz g1
    have er := fl_shr1 (x := lx169) (by omega); have ek : (lx170 + 1 : Int32).toInt = lx170.toInt + 1 := q_addI (y := 1) rfl (by decide) (by omega) (by omega); exact T_FX_n211 h71 ⟨by omega, by omega⟩ (by omega)
  ·
    rw [if_neg g1]
    have er := fl_shr1 (x := lx169) (by omega); have ek : (lx170 + 1 : Int32).toInt = lx170.toInt + 1 := q_addI (y := 1) rfl (by decide) (by omega) (by omega); exact T_FX_n211 h71 ⟨by omega, by omega⟩ (by omega)
theorem vx_n2 {K_F_FR_narrowed_L72 : Int32 → Int32 → Int32 → Int64 → (Int64 × Int32 × Int32 × Int32 × Int32 × Int64 × Int32 × Int32 × Int64 × Int32 × Int64 × Int32)} {x2 : Int64} {t0_0 : Int32} {t0_1 : Int32} {t0_2 : Int32} {t0_3 : Int32} {t0_4 : Int64} {t0_5 : Int32} {t0_6 : Int32} {t0_7 : Int64} {t0_8 : Int32} {t0_9 : Int64} {t0_10 : Int32} {p53 : (Int32 × Int32 × Int32 × Int32 × Int64 × Int32 × Int32 × Int64 × Int32 × Int64 × Int32)} {y19 : Int32} {y20 : Int32} {y21 : Int32} {y22 : Int32} {y23 : Int64} {y24 : Int32} {y25 : Int32} {y26 : Int64} {y27 : Int32} {y28 : Int64} {y29 : Int32} {lx71 : Int64} {lx94 : Int32} {lx95 : Int32} {lx96 : Int32} {lx97 : Int64} {lx156 : Int64} (h71 : lx71 = 0 ∨ lx71 = 2147483648)  : ∀ (n : Nat) (lx169 : Int64) (lx170 : Int32), (0 ≤ lx169.toInt ∧ lx169.toInt ≤ 16777216) → (-149 ≤ lx170.toInt ∧ lx170.toInt ≤ 1100) → (lx170.toInt + 1074 < (n : Int)) → Q_FX_nar (F_FR_narrowed_L157 K_F_FR_narrowed_L72 x2 t0_0 t0_1 t0_2 t0_3 t0_4 t0_5 t0_6 t0_7 t0_8 t0_9 t0_10 p53 y19 y20 y21 y22 y23 y24 y25 y26 y27 y28 y29 lx71 lx94 lx95 lx96 lx97 lx156 n lx169 lx170) := by
  intro n
  induction n with
  | zero => intro lx169 lx170 hm2 hk2 hm; exact absurd (show False by omega) id
  | succ n ih =>
    intro lx169 lx170 hm2 hk2 hm
    have e0 : (0 : Int32).toInt = 0 := rfl
    have e1 : (1 : Int32).toInt = 1 := rfl
    have eL0 : (0 : Int64).toInt = 0 := rfl
    have em : (-149 : Int32).toInt = -149 := rfl
    have eM : (8388608 : Int64).toInt = 8388608 := rfl
    have eG : (16777216 : Int64).toInt = 16777216 := rfl
    have e104 : (104 : Int32).toInt = 104 := rfl
    rw [F_FR_narrowed_L157.eq_2]
    by_cases g1 : (lg_cmp lx169 0 : Int32) = (0 : Int32)
    ·
      rw [if_pos g1]
      have g1z := g_lcz g1
      exact T_FX_n193 h71 ⟨by omega, by omega⟩ ⟨by omega, by omega⟩
    ·
      rw [if_neg g1]
      by_cases g2 : (0 : Int32) ≤ (lg_cmp lx169 8388608 : Int32)
      ·
        rw [if_pos g2]
        have g2l := g_lc5 g2
        exact T_FX_n193 h71 ⟨by omega, by omega⟩ ⟨by omega, by omega⟩
      ·
        rw [if_neg g2]
        have g2l := g_lc6 g2
        by_cases g3 : lx170 ≤ (-149 : Int32)
        ·
          rw [if_pos g3]
          have g3i : lx170.toInt ≤ -149 := q_leI g3
          exact T_FX_n193 h71 ⟨by omega, by omega⟩ ⟨by omega, by omega⟩
        ·
          rw [if_neg g3]
          have g3i : -149 < lx170.toInt := q_nleI g3
          obtain ⟨a4, e5⟩ := q_nm (lx170 + (-1) : Int32)
          rw [e5]
          have a4i : a4.toInt = lx170.toInt + (-1) := by rw [← e5]; exact q_addI (x := lx170.toInt) (y := (-1)) rfl (by decide) (by omega) (by omega)
          have es := fl_shl1 (x := lx169) (by omega) (by omega); exact ih _ _ ⟨by omega, by omega⟩ ⟨by omega, by omega⟩ (by omega)
theorem vx_n1 {x2 : Int64} {t0_0 : Int32} {t0_1 : Int32} {t0_2 : Int32} {t0_3 : Int32} {t0_4 : Int64} {t0_5 : Int32} {t0_6 : Int32} {t0_7 : Int64} {t0_8 : Int32} {t0_9 : Int64} {t0_10 : Int32} {p53 : (Int32 × Int32 × Int32 × Int32 × Int64 × Int32 × Int32 × Int64 × Int32 × Int64 × Int32)} {y19 : Int32} {y20 : Int32} {y21 : Int32} {y22 : Int32} {y23 : Int64} {y24 : Int32} {y25 : Int32} {y26 : Int64} {y27 : Int32} {y28 : Int64} {y29 : Int32} {lx71 : Int64} (h71 : lx71 = 0 ∨ lx71 = 2147483648)  : ∀ (n : Nat) (lx94 : Int32) (lx95 : Int32) (lx96 : Int32) (lx97 : Int64), (0 ≤ lx97.toInt) → (∃ j : Nat, j ≤ 53 ∧ lx97.toInt < 2 ^ j ∧ lx96.toInt + (j : Int) ≤ 1030 ∧ (j : Int) ≤ (n : Int) + 23 ∧ -148 - lx96.toInt ≤ (n : Int)) → (1 ≤ (n : Int) ∧ -1100 ≤ lx96.toInt) → Q_FX_nar (F_FR_narrowed_L72 x2 t0_0 t0_1 t0_2 t0_3 t0_4 t0_5 t0_6 t0_7 t0_8 t0_9 t0_10 p53 y19 y20 y21 y22 y23 y24 y25 y26 y27 y28 y29 lx71 n lx94 lx95 lx96 lx97) := by
  intro n
  induction n with
  | zero => intro lx94 lx95 lx96 lx97 hm0 hj hn; omega
  | succ n ih =>
    intro lx94 lx95 lx96 lx97 hm0 hj hn
    have e0 : (0 : Int32).toInt = 0 := rfl
    have e1 : (1 : Int32).toInt = 1 := rfl
    have eL0 : (0 : Int64).toInt = 0 := rfl
    have em : (-149 : Int32).toInt = -149 := rfl
    have eM : (8388608 : Int64).toInt = 8388608 := rfl
    have eG : (16777216 : Int64).toInt = 16777216 := rfl
    have e104 : (104 : Int32).toInt = 104 := rfl
    obtain ⟨j, j1, j2, j3, j4, j5⟩ := hj
    have e25 : 16777216 ≤ lx97.toInt → 25 ≤ j := fl_j24 j2
    rw [F_FR_narrowed_L72.eq_2]
    by_cases g1 : (0 : Int32) ≤ (lg_cmp lx97 16777216 : Int32)
    ·
      rw [if_pos g1]
      have g1l := g_lc5 g1
      unfold F_FR_narrowed_J89
      by_cases g2 : lx95 = (0 : Int32)
      ·
        rw [if_pos g2]
        by_cases g3 : lx94 = (1 : Int32)
        ·
          rw [if_pos g3]
          unfold F_FR_narrowed_J100
          obtain ⟨a4, e5⟩ := q_nm (lx96 + 1 : Int32)
          rw [e5]
          have a4i : a4.toInt = lx96.toInt + 1 := by rw [← e5]; exact q_addI (x := lx96.toInt) (y := 1) rfl (by decide) (by omega) (by omega)
          have hv := fl_hv hm0 j2; exact ih _ _ _ _ hv.1 ⟨j - 1, by omega, hv.2, by omega, by omega, by omega⟩ ⟨by omega, by omega⟩
        ·
          rw [if_neg g3]
          obtain ⟨a6, e7⟩ := q_nm (lx96 + 1 : Int32)
          rw [e7]
          have a6i : a6.toInt = lx96.toInt + 1 := by rw [← e7]; exact q_addI (x := lx96.toInt) (y := 1) rfl (by decide) (by omega) (by omega)
          have hv := fl_hv hm0 j2; exact ih _ _ _ _ hv.1 ⟨j - 1, by omega, hv.2, by omega, by omega, by omega⟩ ⟨by omega, by omega⟩
      ·
        rw [if_neg g2]
        unfold F_FR_narrowed_J100
        obtain ⟨a8, e9⟩ := q_nm (lx96 + 1 : Int32)
        rw [e9]
        have a8i : a8.toInt = lx96.toInt + 1 := by rw [← e9]; exact q_addI (x := lx96.toInt) (y := 1) rfl (by decide) (by omega) (by omega)
        have hv := fl_hv hm0 j2; exact ih _ _ _ _ hv.1 ⟨j - 1, by omega, hv.2, by omega, by omega, by omega⟩ ⟨by omega, by omega⟩
    ·
      rw [if_neg g1]
      have g1l := g_lc6 g1
      by_cases g10 : (-149 : Int32) ≤ lx96
      ·
        rw [if_pos g10]
        have g10i := q_leI g10
        by_cases g11 : lx94 = (1 : Int32)
        ·
          rw [if_pos g11]
          by_cases g12 : lx95 = (0 : Int32)
          ·
            rw [if_pos g12]
            by_cases g13 : (lg_cmp (lx97 &&& 1 : Int64) 1 : Int32) = (0 : Int32)
            ·
              rw [if_pos g13]
              unfold F_FR_narrowed_J146
              unfold F_FR_narrowed_J155
              have ep : (lx97 + 1 : Int64).toInt = lx97.toInt + 1 := q_addL (y := 1) rfl (by decide) (by omega) (by omega); exact vx_n2 h71 _ _ _ ⟨by omega, by omega⟩ ⟨by omega, by omega⟩ (by omega)
            ·
              rw [if_neg g13]
              unfold F_FR_narrowed_J153
              unfold F_FR_narrowed_J155
              exact vx_n2 h71 _ _ _ ⟨by omega, by omega⟩ ⟨by omega, by omega⟩ (by omega)
          ·
            rw [if_neg g12]
            unfold F_FR_narrowed_J146
            unfold F_FR_narrowed_J155
            have ep : (lx97 + 1 : Int64).toInt = lx97.toInt + 1 := q_addL (y := 1) rfl (by decide) (by omega) (by omega); exact vx_n2 h71 _ _ _ ⟨by omega, by omega⟩ ⟨by omega, by omega⟩ (by omega)
        ·
          rw [if_neg g11]
          unfold F_FR_narrowed_J153
          unfold F_FR_narrowed_J155
          exact vx_n2 h71 _ _ _ ⟨by omega, by omega⟩ ⟨by omega, by omega⟩ (by omega)
      ·
        rw [if_neg g10]
        have g10i := q_nleI g10
        unfold F_FR_narrowed_J89
        by_cases g14 : lx95 = (0 : Int32)
        ·
          rw [if_pos g14]
          by_cases g15 : lx94 = (1 : Int32)
          ·
            rw [if_pos g15]
            unfold F_FR_narrowed_J100
            obtain ⟨a16, e17⟩ := q_nm (lx96 + 1 : Int32)
            rw [e17]
            have a16i : a16.toInt = lx96.toInt + 1 := by rw [← e17]; exact q_addI (x := lx96.toInt) (y := 1) rfl (by decide) (by omega) (by omega)
            have hv := fl_hv hm0 j2; exact ih _ _ _ _ hv.1 ⟨j - 1, by omega, hv.2, by omega, by omega, by omega⟩ ⟨by omega, by omega⟩
          ·
            rw [if_neg g15]
            obtain ⟨a18, e19⟩ := q_nm (lx96 + 1 : Int32)
            rw [e19]
            have a18i : a18.toInt = lx96.toInt + 1 := by rw [← e19]; exact q_addI (x := lx96.toInt) (y := 1) rfl (by decide) (by omega) (by omega)
            have hv := fl_hv hm0 j2; exact ih _ _ _ _ hv.1 ⟨j - 1, by omega, hv.2, by omega, by omega, by omega⟩ ⟨by omega, by omega⟩
        ·
          rw [if_neg g14]
          unfold F_FR_narrowed_J100
          obtain ⟨a20, e21⟩ := q_nm (lx96 + 1 : Int32)
          rw [e21]
          have a20i : a20.toInt = lx96.toInt + 1 := by rw [← e21]; exact q_addI (x := lx96.toInt) (y := 1) rfl (by decide) (by omega) (by omega)
          have hv := fl_hv hm0 j2; exact ih _ _ _ _ hv.1 ⟨j - 1, by omega, hv.2, by omega, by omega, by omega⟩ ⟨by omega, by omega⟩
theorem fx_fn2 {t0_0 t0_1 t0_2 t0_3 t0_5 t0_6 t0_8 t0_10 : Int32} {t0_4 t0_7 t0_9 : Int64} (h : ¬ F_FR_isFinite t0_0 t0_1 t0_2 t0_3 t0_4 t0_5 t0_6 t0_7 t0_8 t0_9 t0_10 = 0) : t0_3.toInt < t0_6.toInt := by
  unfold F_FR_isFinite at h
  by_cases c : t0_6 ≤ t0_3
  · rw [if_pos c] at h; exact absurd rfl h
  · exact q_nleI c
theorem T_FX_narrowed {x2 : Int64} {t0_0 : Int32} {t0_1 : Int32} {t0_2 : Int32} {t0_3 : Int32} {t0_4 : Int64} {t0_5 : Int32} {t0_6 : Int32} {t0_7 : Int64} {t0_8 : Int32} {t0_9 : Int64} {t0_10 : Int32}  : Q_FX_nar (F_FR_narrowed x2 t0_0 t0_1 t0_2 t0_3 t0_4 t0_5 t0_6 t0_7 t0_8 t0_9 t0_10) := by
  have e0 : (0 : Int32).toInt = 0 := rfl
  have e1 : (1 : Int32).toInt = 1 := rfl
  have eL0 : (0 : Int64).toInt = 0 := rfl
  have em : (-149 : Int32).toInt = -149 := rfl
  have eM : (8388608 : Int64).toInt = 8388608 := rfl
  have eG : (16777216 : Int64).toInt = 16777216 := rfl
  have e104 : (104 : Int32).toInt = 104 := rfl
  unfold F_FR_narrowed
  have h1 := T_FR_open (x2 := x2) (x3 := (0 : Int32)) (t0_0 := (0 : Int32)) (t0_1 := t0_1) (t0_2 := t0_2) (t0_3 := t0_3) (t0_4 := t0_4) (t0_5 := t0_5) (t0_6 := t0_6) (t0_7 := t0_7) (t0_8 := t0_8) (t0_9 := t0_9) (t0_10 := t0_10) 
  generalize F_FR_open x2 (0 : Int32) (0 : Int32) t0_1 t0_2 t0_3 t0_4 t0_5 t0_6 t0_7 t0_8 t0_9 t0_10 = p53 at *
  unfold Q_FR_open at h1
  have op7 := h1.2.2.1
  have op8 := h1.2.2.2.1
  have op9 := h1.2.2.2.2.1
  unfold F_FR_narrowed_c8
  by_cases g2 : (p53.2.2.1 : Int32) = (0 : Int32)
  ·
    rw [if_pos g2]
    unfold F_FR_narrowed_J25
    by_cases g3 : ((F_FR_isFinite (p53.1 : Int32) (p53.2.1 : Int32) (p53.2.2.1 : Int32) (p53.2.2.2.1 : Int32) (p53.2.2.2.2.1 : Int64) (p53.2.2.2.2.2.1 : Int32) (p53.2.2.2.2.2.2.1 : Int32) (p53.2.2.2.2.2.2.2.1 : Int64) (p53.2.2.2.2.2.2.2.2.1 : Int32) (p53.2.2.2.2.2.2.2.2.2.1 : Int64) (p53.2.2.2.2.2.2.2.2.2.2 : Int32)) : Int32) = (0 : Int32)
    ·
      rw [if_pos g3]
      by_cases g4 : (lg_cmp (p53.2.2.2.2.1 : Int64) 0 : Int32) = (0 : Int32)
      ·
        rw [if_pos g4]
        exact (show fxN (0 ||| 2139095040 : Int64) from by unfold fxN; decide)
      ·
        rw [if_neg g4]
        exact (show fxN (2143289344 : Int64) from by unfold fxN; decide)
    ·
      rw [if_neg g3]
      have gf := g3
      have z3 := fx_fn2 gf; have z9 := op9 z3; exact vx_n1 (Or.inl rfl) _ _ _ _ _ (by omega) ⟨53, by decide, Int.lt_of_lt_of_le op7.2 (by decide), by omega, by decide, by omega⟩ ⟨by decide, by omega⟩
  ·
    rw [if_neg g2]
    unfold F_FR_narrowed_J25
    by_cases g5 : ((F_FR_isFinite (p53.1 : Int32) (p53.2.1 : Int32) (p53.2.2.1 : Int32) (p53.2.2.2.1 : Int32) (p53.2.2.2.2.1 : Int64) (p53.2.2.2.2.2.1 : Int32) (p53.2.2.2.2.2.2.1 : Int32) (p53.2.2.2.2.2.2.2.1 : Int64) (p53.2.2.2.2.2.2.2.2.1 : Int32) (p53.2.2.2.2.2.2.2.2.2.1 : Int64) (p53.2.2.2.2.2.2.2.2.2.2 : Int32)) : Int32) = (0 : Int32)
    ·
      rw [if_pos g5]
      by_cases g6 : (lg_cmp (p53.2.2.2.2.1 : Int64) 0 : Int32) = (0 : Int32)
      ·
        rw [if_pos g6]
        exact (show fxN (2147483648 ||| 2139095040 : Int64) from by unfold fxN; decide)
      ·
        rw [if_neg g6]
        exact (show fxN (2143289344 : Int64) from by unfold fxN; decide)
    ·
      rw [if_neg g5]
      have gf := g5
      have z3 := fx_fn2 gf; have z9 := op9 z3; exact vx_n1 (Or.inr rfl) _ _ _ _ _ (by omega) ⟨53, by decide, Int.lt_of_lt_of_le op7.2 (by decide), by omega, by decide, by omega⟩ ⟨by decide, by omega⟩
