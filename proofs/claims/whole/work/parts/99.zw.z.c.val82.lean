/-! values, for whole: what the reference tells of a whole: its bits -/
theorem sBit_01 {v : Int} {n : Nat} : sBit v n = 0 ∨ sBit v n = 1 := by
  unfold sBit
  generalize v / 2 ^ n = z
  omega
theorem w_lbit {L b : Int32} {v : Int} {k : Nat} (hL : L.toInt = v / 65536 ^ (k / 16) % 65536) (hb : b.toInt = (k : Int)) (hk : k < 4000) : ((L >>> ((b - b / 16 * 16) &&& 31)) &&& 1 : Int32).toInt = sBit v k := by
  have e16 : (16 : Int32).toInt = 16 := rfl
  have d2 : (b - b / 16 * 16 : Int32).toInt = ((k % 16 : Nat) : Int) := by
    rw [v_rem (by omega) (by omega), hb, e16]
    omega
  have l4 := w_sar (x := L) d2 (by omega)
  have tb := sTb_limb (v := v) (e := 16) (k := k / 16) (j := k % 16) (by omega)
  rw [show 16 * (k / 16) + k % 16 = k by omega, show (2 : Int) ^ 16 = 65536 from rfl, ← hL, Nat.testBit_eq_decide_div_mod_eq] at tb
  have t2 := decide_eq_decide.mp tb
  have hL0 : 0 ≤ L.toInt := by omega
  obtain ⟨l, hl⟩ : ∃ l : Nat, L.toInt = (l : Int) := ⟨L.toInt.toNat, by omega⟩
  rw [hl, Int.toNat_natCast] at t2
  have l5 : (L >>> ((b - b / 16 * 16) &&& 31)).toInt = ((l / 2 ^ (k % 16) : Nat) : Int) := by
    rw [l4, hl, Int.natCast_ediv _ (2 ^ (k % 16)), Int.natCast_pow]
    rfl
  have l6 := v_natI (x := L >>> ((b - b / 16 * 16) &&& 31)) (by rw [l5]; exact Int.natCast_nonneg _)
  have l7 : (L >>> ((b - b / 16 * 16) &&& 31)).toBitVec.toNat = l / 2 ^ (k % 16) := Int.ofNat_inj.mp (l6.trans l5)
  have l8 := w_and1N (z := L >>> ((b - b / 16 * 16) &&& 31))
  rw [l7] at l8
  rw [w_toI l8 (by omega)]
  have s1 := sBit_01 (v := v) (n := k)
  have s2 : v / 2 ^ k % 2 = sBit v k := rfl
  rw [s2] at t2
  omega
/-- of the bits below n: the length past the last that is not g, how many are not g, the lowest 1 or -1 -/
def tLen (v g : Int) : Nat → Nat
  | 0 => 0
  | n + 1 => if sBit v n = g then tLen v g n else n + 1
def tCnt (v g : Int) : Nat → Nat
  | 0 => 0
  | n + 1 => if sBit v n = g then tCnt v g n else tCnt v g n + 1
def tLow (v : Int) : Nat → Int
  | 0 => -1
  | n + 1 => if 0 ≤ tLow v n then tLow v n else if sBit v n = 1 then (n : Int) else -1
theorem tCnt_le {v g : Int} : ∀ {n : Nat}, tCnt v g n ≤ n
  | 0 => Nat.le_refl 0
  | n + 1 => by
    have := tCnt_le (v := v) (g := g) (n := n)
    unfold tCnt
    split <;> omega
