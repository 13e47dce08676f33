/-! values, for whole: Integer.bitCount counts the ones -/
theorem n_and8 {a b m c : Nat} (hb : b < 256) (hc : c < 256) : (256 * a + b) &&& (256 * m + c) = 256 * (a &&& m) + (b &&& c) := by
  have h1 := Nat.and_div_two_pow (a := 256 * a + b) (b := 256 * m + c) (n := 8)
  have h2 := Nat.and_mod_two_pow (a := 256 * a + b) (b := 256 * m + c) (n := 8)
  rw [show (2 : Nat) ^ 8 = 256 from rfl] at h1 h2
  rw [show (256 * a + b) / 256 = a by omega, show (256 * m + c) / 256 = m by omega] at h1
  rw [show (256 * a + b) % 256 = b by omega, show (256 * m + c) % 256 = c by omega] at h2
  have h3 := Nat.div_add_mod ((256 * a + b) &&& (256 * m + c)) 256
  rw [h1, h2] at h3
  exact h3.symm
theorem n_sw1b : ∀ (b : Fin 256) (t : Fin 2), ((b.val / 2 + 128 * t.val) &&& 85) = (b.val / 2) &&& 85 := by decide +kernel
theorem n_sw2b : ∀ (b : Fin 256) (t : Fin 4), ((b.val / 4 + 64 * t.val) &&& 51) = (b.val / 4) &&& 51 := by decide +kernel
theorem n_sw1 {a b m : Nat} (hb : b < 256) : ((256 * a + b) / 2) &&& (256 * m + 85) = 256 * ((a / 2) &&& m) + ((b / 2) &&& 85) := by
  have h : ((b / 2 + 128 * (a % 2)) &&& 85) = (b / 2) &&& 85 := n_sw1b ⟨b, hb⟩ ⟨a % 2, by omega⟩
  rw [show (256 * a + b) / 2 = 256 * (a / 2) + (b / 2 + 128 * (a % 2)) by omega, n_and8 (by omega) (by decide), h]
theorem n_sw2 {a b m : Nat} (hb : b < 256) : ((256 * a + b) / 4) &&& (256 * m + 51) = 256 * ((a / 4) &&& m) + ((b / 4) &&& 51) := by
  have h : ((b / 4 + 64 * (a % 4)) &&& 51) = (b / 4) &&& 51 := n_sw2b ⟨b, hb⟩ ⟨a % 4, by omega⟩
  rw [show (256 * a + b) / 4 = 256 * (a / 4) + (b / 4 + 64 * (a % 4)) by omega, n_and8 (by omega) (by decide), h]
theorem n_15 (y : Nat) : y &&& 15 = y % 16 := Nat.and_two_pow_sub_one_eq_mod y 4
theorem n_63 (y : Nat) : y &&& 63 = y % 64 := Nat.and_two_pow_sub_one_eq_mod y 6
theorem n_m16 {X d : Nat} (h : d % 16 ≤ 4) : (256 * X + d) % 16 ≤ 4 := by omega
theorem n_sw3 {D d m : Nat} (hd : d ≤ 68) (hD : D % 16 ≤ 4) : ((256 * D + d) + (256 * D + d) / 16) &&& (256 * m + 15) = 256 * ((D + D / 16) &&& m) + (d + d / 16) % 16 := by
  rw [show (256 * D + d) + (256 * D + d) / 16 = 256 * (D + D / 16) + (d + d / 16 + 16 * (D % 16)) by omega, n_and8 (by omega) (by decide), n_15, show (d + d / 16 + 16 * (D % 16)) % 16 = (d + d / 16) % 16 by omega]
theorem n_fin {a b c d : Nat} (ha : a ≤ 8) (hb : b ≤ 8) (hc : c ≤ 8) (hd : d ≤ 8) : ((256 * (256 * (256 * d + c) + b) + a) + (256 * (256 * d + c) + b) + ((256 * (256 * (256 * d + c) + b) + a) + (256 * (256 * d + c) + b)) / 65536) % 64 = a + b + c + d := by
  have e : ((256 * (256 * (256 * d + c) + b) + a) + (256 * (256 * d + c) + b)) / 65536 = 256 * d + (c + d) := by omega
  rw [e]
  omega
def bC (b : Nat) : Nat := b - ((b / 2) &&& 85)
def bD (b : Nat) : Nat := (bC b &&& 51) + ((bC b / 4) &&& 51)
theorem n_wB : ∀ b : Fin 256, bC b.val < 256 ∧ (b.val / 2) &&& 85 ≤ b.val ∧ bD b.val ≤ 68 ∧ bD b.val % 16 ≤ 4 ∧ (bD b.val + bD b.val / 16) % 16 = pN 8 b.val ∧ pN 8 b.val ≤ 8 := by decide +kernel
def bc_k1 (x : Int32) : Int32 := x - ((x.toUInt32 >>> ((1 : Int32).toUInt32 &&& Int32.toUInt32 31)).toInt32 &&& 1431655765)
def bc_k2 (x : Int32) : Int32 := (x &&& 858993459) + ((x.toUInt32 >>> ((2 : Int32).toUInt32 &&& Int32.toUInt32 31)).toInt32 &&& 858993459)
def bc_k3 (x : Int32) : Int32 := (x + (x.toUInt32 >>> ((4 : Int32).toUInt32 &&& Int32.toUInt32 31)).toInt32) &&& 252645135
def bc_k4 (x : Int32) : Int32 := x + (x.toUInt32 >>> ((8 : Int32).toUInt32 &&& Int32.toUInt32 31)).toInt32
def bc_k5 (x : Int32) : Int32 := (x + (x.toUInt32 >>> ((16 : Int32).toUInt32 &&& Int32.toUInt32 31)).toInt32) &&& 63
theorem bc_eq (x : Int32) : F_jInt_bitCount x = bc_k5 (bc_k4 (bc_k3 (bc_k2 (bc_k1 x)))) := by
  unfold F_jInt_bitCount bc_k5 bc_k4 bc_k3 bc_k2 bc_k1
  rfl
theorem n_subI {x y : Int32} (h : y.toBitVec.toNat ≤ x.toBitVec.toNat) : (x - y).toBitVec.toNat = x.toBitVec.toNat - y.toBitVec.toNat := by
  rw [Int32.toBitVec_sub, BitVec.toNat_sub_of_le (BitVec.le_def.mpr h)]
theorem n_addI {x y : Int32} (h : x.toBitVec.toNat + y.toBitVec.toNat < 4294967296) : (x + y).toBitVec.toNat = x.toBitVec.toNat + y.toBitVec.toNat := by
  rw [Int32.toBitVec_add, BitVec.toNat_add, Nat.mod_eq_of_lt h]
theorem n_andI {x y : Int32} : (x &&& y).toBitVec.toNat = x.toBitVec.toNat &&& y.toBitVec.toNat := by
  rw [Int32.toBitVec_and, BitVec.toNat_and]
theorem pN_byte {b0 b1 b2 b3 : Nat} (h0 : b0 < 256) (h1 : b1 < 256) (h2 : b2 < 256) (h3 : b3 < 256) : pN 32 (256 * (256 * (256 * b3 + b2) + b1) + b0) = pN 8 b0 + pN 8 b1 + pN 8 b2 + pN 8 b3 := by
  have e : (2 : Nat) ^ 8 = 256 := rfl
  have f : ∀ a b : Nat, b < 256 → ∀ n, pN (8 + n) (256 * a + b) = pN 8 b + pN n a := fun a b hb n => by
    have m := pN_mod (a := 8) (m := 256 * a + b) (n := 8) (Nat.le_refl _)
    rw [e, show (256 * a + b) % 256 = b by omega] at m
    rw [pN_add, ← m, e, show (256 * a + b) / 256 = a by omega]
  have g := f (256 * (256 * b3 + b2) + b1) b0 h0 24
  have g1 := f (256 * b3 + b2) b1 h1 16
  have g2 := f b3 b2 h2 8
  rw [g1, g2] at g
  rw [show (32 : Nat) = 8 + 24 from rfl, g]
  omega
theorem V_bitCount (x : Int32) : (F_jInt_bitCount x).toInt = (pN 32 x.toBitVec.toNat : Int) := by
  have hn : x.toBitVec.toNat < 4294967296 := x.toBitVec.isLt
  obtain ⟨b0, b1, b2, b3, h0, h1, h2, h3, e⟩ : ∃ b0 b1 b2 b3 : Nat, b0 < 256 ∧ b1 < 256 ∧ b2 < 256 ∧ b3 < 256 ∧ x.toBitVec.toNat = 256 * (256 * (256 * b3 + b2) + b1) + b0 := by
    generalize x.toBitVec.toNat = n at hn
    exact ⟨n % 256, n / 256 % 256, n / 65536 % 256, n / 16777216, by omega, by omega, by omega, by omega, by omega⟩
  obtain ⟨p1, p2, p3, p4, p5, p6⟩ := n_wB ⟨b0, h0⟩
  obtain ⟨q1, q2, q3, q4, q5, q6⟩ := n_wB ⟨b1, h1⟩
  obtain ⟨r1, r2, r3, r4, r5, r6⟩ := n_wB ⟨b2, h2⟩
  obtain ⟨s1, s2, s3, s4, s5, s6⟩ := n_wB ⟨b3, h3⟩
  dsimp only at p1 p2 p3 p4 p5 p6 q1 q2 q3 q4 q5 q6 r1 r2 r3 r4 r5 r6 s1 s2 s3 s4 s5 s6
  have m1 : (1431655765 : Int32).toBitVec.toNat = 256 * (256 * (256 * 85 + 85) + 85) + 85 := rfl
  have m2 : (858993459 : Int32).toBitVec.toNat = 256 * (256 * (256 * 51 + 51) + 51) + 51 := rfl
  have m3 : (252645135 : Int32).toBitVec.toNat = 256 * (256 * (256 * 15 + 15) + 15) + 15 := rfl
  have m4 : (63 : Int32).toBitVec.toNat = 63 := rfl
  rw [bc_eq, e, pN_byte h0 h1 h2 h3]
  have w1 := v_ushrN (x := x) (a := 1) (k := 1) rfl (by decide)
  rw [e, Nat.pow_one] at w1
  have z1 : (bc_k1 x).toBitVec.toNat = 256 * (256 * (256 * bC b3 + bC b2) + bC b1) + bC b0 := by
    have a1 : ((x.toUInt32 >>> ((1 : Int32).toUInt32 &&& Int32.toUInt32 31)).toInt32 &&& 1431655765 : Int32).toBitVec.toNat = 256 * (256 * (256 * ((b3 / 2) &&& 85) + ((b2 / 2) &&& 85)) + ((b1 / 2) &&& 85)) + ((b0 / 2) &&& 85) := by
      rw [n_andI, w1, m1, n_sw1 h0, n_sw1 h1, n_sw1 h2]
    unfold bc_k1
    rw [n_subI (by rw [a1, e]; omega), a1, e]
    unfold bC
    omega
  generalize bc_k1 x = y1 at z1 ⊢
  have w2 := v_ushrN (x := y1) (a := 2) (k := 2) rfl (by decide)
  rw [z1, show (2 : Nat) ^ 2 = 4 from rfl] at w2
  have z2 : (bc_k2 y1).toBitVec.toNat = 256 * (256 * (256 * bD b3 + bD b2) + bD b1) + bD b0 := by
    have a1 : ((y1.toUInt32 >>> ((2 : Int32).toUInt32 &&& Int32.toUInt32 31)).toInt32 &&& 858993459 : Int32).toBitVec.toNat = 256 * (256 * (256 * ((bC b3 / 4) &&& 51) + ((bC b2 / 4) &&& 51)) + ((bC b1 / 4) &&& 51)) + ((bC b0 / 4) &&& 51) := by
      rw [n_andI, w2, m2, n_sw2 p1, n_sw2 q1, n_sw2 r1]
    have a2 : (y1 &&& 858993459 : Int32).toBitVec.toNat = 256 * (256 * (256 * (bC b3 &&& 51) + (bC b2 &&& 51)) + (bC b1 &&& 51)) + (bC b0 &&& 51) := by
      rw [n_andI, z1, m2, n_and8 p1 (by decide), n_and8 q1 (by decide), n_and8 r1 (by decide)]
    unfold bD at p3 q3 r3 s3
    unfold bc_k2
    rw [n_addI (by rw [a1, a2]; omega), a1, a2]
    unfold bD
    omega
  generalize bc_k2 y1 = y2 at z2 ⊢
  have w3 := v_ushrN (x := y2) (a := 4) (k := 4) rfl (by decide)
  rw [z2, show (2 : Nat) ^ 4 = 16 from rfl] at w3
  have z3 : (bc_k3 y2).toBitVec.toNat = 256 * (256 * (256 * pN 8 b3 + pN 8 b2) + pN 8 b1) + pN 8 b0 := by
    unfold bc_k3
    rw [n_andI, n_addI (by rw [w3, z2]; omega), w3, z2, m3, n_sw3 p3 (n_m16 q4), n_sw3 q3 (n_m16 r4), n_sw3 r3 s4, n_15, p5, q5, r5, s5]
  generalize bc_k3 y2 = y3 at z3 ⊢
  have w4 := v_ushrN (x := y3) (a := 8) (k := 8) rfl (by decide)
  rw [z3, show (2 : Nat) ^ 8 = 256 from rfl] at w4
  have z4 : (bc_k4 y3).toBitVec.toNat = (256 * (256 * (256 * pN 8 b3 + pN 8 b2) + pN 8 b1) + pN 8 b0) + (256 * (256 * pN 8 b3 + pN 8 b2) + pN 8 b1) := by
    unfold bc_k4
    rw [n_addI (by rw [w4, z3]; omega), w4, z3]
    omega
  generalize bc_k4 y3 = y4 at z4 ⊢
  have w5 := v_ushrN (x := y4) (a := 16) (k := 16) rfl (by decide)
  rw [z4, show (2 : Nat) ^ 16 = 65536 from rfl] at w5
  have z5 : (bc_k5 y4).toBitVec.toNat = pN 8 b0 + pN 8 b1 + pN 8 b2 + pN 8 b3 := by
    unfold bc_k5
    rw [n_andI, n_addI (by rw [w5, z4]; omega), w5, z4, m4, n_63]
    exact n_fin p6 q6 r6 s6
  exact w_toI z5 (by omega)
