/-! values, for whole: texts: figures behind the 800th count only as more than nothing -/
theorem y_800 : (2 : Nat) ^ 54 * 5 ^ 1075 < 10 ^ 799 := by decide +kernel
theorem y_nc {i : Int} {u m J : Nat} (hi : -1075 ≤ i) (hu : u ≤ 2 ^ 54) (hm : 10 ^ 799 ≤ m) (h1 : m * 2 ^ (-i).toNat < u * (10 ^ J * 2 ^ i.toNat)) (h2 : u * (10 ^ J * 2 ^ i.toNat) < (m + 1) * 2 ^ (-i).toNat) : False := by
  rcases Int.lt_or_le i 0 with c | c
  · rw [show i.toNat = 0 by omega, Nat.pow_zero, Nat.mul_one] at h1 h2
    obtain ⟨I, hI⟩ : ∃ I, I = (-i).toNat := ⟨_, rfl⟩
    rw [← hI] at h1 h2
    have I1 : I ≤ 1075 := by omega
    have e10 : (10 : Nat) ^ J = 2 ^ J * 5 ^ J := by
      rw [← Nat.mul_pow]
    rw [e10] at h1 h2
    rcases Nat.lt_or_ge J I with d | d
    · have a : u * (2 ^ J * 5 ^ J) ≤ u * 5 ^ J * 2 ^ I := by
        rw [show u * (2 ^ J * 5 ^ J) = u * 5 ^ J * 2 ^ J by ac_rfl]
        exact Nat.mul_le_mul_left _ (Nat.pow_le_pow_right (by decide) (by omega))
      have b : m < u * 5 ^ J := Nat.lt_of_mul_lt_mul_right (Nat.lt_of_lt_of_le h1 a)
      have c2 : u * 5 ^ J ≤ 2 ^ 54 * 5 ^ 1075 := Nat.mul_le_mul hu (Nat.pow_le_pow_right (by decide) (by omega))
      exact absurd (Nat.lt_of_lt_of_le b c2) (Nat.not_lt.mpr (Nat.le_of_lt (Nat.lt_of_lt_of_le y_800 hm)))
    · have e2 : (2 : Nat) ^ J = 2 ^ (J - I) * 2 ^ I := by
        rw [← Nat.pow_add]
        congr 1
        omega
      rw [e2, show u * (2 ^ (J - I) * 2 ^ I * 5 ^ J) = (u * (2 ^ (J - I) * 5 ^ J)) * 2 ^ I by ac_rfl] at h1 h2
      have a := Nat.lt_of_mul_lt_mul_right h1
      have b := Nat.lt_of_mul_lt_mul_right h2
      omega
  · rw [show (-i).toNat = 0 by omega, Nat.pow_zero, Nat.mul_one] at h1 h2
    omega
/-- two sizes between the same figures: one float -/
theorem yf_st {A B C : Int32} {P T : Nat} {l S : Int} {m k r1 r2 b : Nat} (hF : yF A B C P T l) (hm : 10 ^ 799 ≤ m) (a1 : 0 < r1) (a2 : r1 < 10 ^ k) (b1 : 0 < r2) (b2 : r2 < 10 ^ k) (h : yfRnd P T l ((m * 10 ^ k + r1) * 10 ^ (-S).toNat) (10 ^ S.toNat) b) : yfRnd P T l ((m * 10 ^ k + r2) * 10 ^ (-S).toNat) (10 ^ S.toNat) b := by
  obtain ⟨f1, f2, f3, f4, f5, f6, f7⟩ := hF.n
  have big : ∀ r, 10 ^ (800 + k - 1) ≤ m * 10 ^ k + r := fun r => by
    rw [show 800 + k - 1 = 799 + k by omega, Nat.pow_add]
    exact Nat.le_trans (Nat.mul_le_mul_right _ hm) (Nat.le_add_right _ _)
  rcases Int.lt_or_le S ((k : Int) + 400) with c | c
  · have far : ∀ r, yfRnd P T l ((m * 10 ^ k + r) * 10 ^ (-S).toNat) (10 ^ S.toNat) (T * 2 ^ P) := fun r => yf_far (c := 800 + k) hF (big r) (by omega) (by omega)
    rw [yfRnd_U h (far r1)]
    exact far r2
  · obtain ⟨J, hJ⟩ : ∃ J : Nat, S = (k : Int) + J := ⟨(S - k).toNat, by omega⟩
    have eS : S.toNat = k + J := by omega
    rw [show (-S).toNat = 0 by omega, Nat.pow_zero, Nat.mul_one, eS, Nat.pow_add] at h ⊢
    obtain ⟨q, ⟨s1, s2, s3⟩, hb⟩ := h
    have pk : 0 < 10 ^ k := Nat.pow_pos (by decide)
    have px : 0 < 2 ^ (-(q - 1)).toNat := Nat.pow_pos (by decide)
    have pj : 0 < 10 ^ J * 2 ^ (q - 1).toNat := Nat.mul_pos (Nat.pow_pos (by decide)) (Nat.pow_pos (by decide))
    have P54 : 2 ^ (P + 2) ≤ 2 ^ 54 := Nat.pow_le_pow_right (by decide) (by omega)
    have nc : ∀ u, u ≤ 2 ^ (P + 2) → m * 2 ^ (-(q - 1)).toNat < u * (10 ^ J * 2 ^ (q - 1).toNat) → (m + 1) * 2 ^ (-(q - 1)).toNat ≤ u * (10 ^ J * 2 ^ (q - 1).toNat) := fun u hu h1 => by
      rcases Nat.lt_or_ge (u * (10 ^ J * 2 ^ (q - 1).toNat)) ((m + 1) * 2 ^ (-(q - 1)).toNat) with h2 | h2
      · exact (y_nc (by omega) (Nat.le_trans hu P54) hm h1 h2).elim
      · exact h2
    have T1 : ∀ r, yfT (q - 1) (m * 10 ^ k + r) (10 ^ k * 10 ^ J) = (m * 10 ^ k + r) * 2 ^ (-(q - 1)).toNat / (10 ^ k * (10 ^ J * 2 ^ (q - 1).toNat)) := fun r => by
      unfold yfT
      rw [Nat.mul_assoc (10 ^ k)]
    have R1 : ∀ r, yfR (q - 1) (m * 10 ^ k + r) (10 ^ k * 10 ^ J) = (m * 10 ^ k + r) * 2 ^ (-(q - 1)).toNat % (10 ^ k * (10 ^ J * 2 ^ (q - 1).toNat)) := fun r => by
      unfold yfR
      rw [Nat.mul_assoc (10 ^ k)]
    generalize 2 ^ (-(q - 1)).toNat = X at *
    generalize 10 ^ J * 2 ^ (q - 1).toNat = Z at *
    generalize 10 ^ k = K at *
    have lo : ∀ r, 0 < r → K * (m * X) < (m * K + r) * X := fun r hr => by
      have := Nat.mul_pos hr px
      grind
    have hi : ∀ r, r < K → (m * K + r) * X < K * ((m + 1) * X) := fun r hr => by
      have : (m * K + r) * X < (m * K + K) * X := Nat.mul_lt_mul_of_pos_right (by omega) px
      grind
    have pw : 0 < K * Z := Nat.mul_pos pk pj
    have key : ∀ r, 0 < r → r < K → ∀ t, t < 2 ^ (P + 2) → (m * K + r1) * X / (K * Z) = t → (m * K + r) * X / (K * Z) = t ∧ (m * K + r) * X % (K * Z) ≠ 0 := fun r hr hr2 t ht e => by
      have u1 : t * (K * Z) ≤ (m * K + r1) * X := by
        rw [← e]
        exact Nat.div_mul_le_self _ _
      have u2 : (m * K + r1) * X < (t + 1) * (K * Z) := by
        rw [← e]
        have := Nat.lt_mul_div_succ ((m * K + r1) * X) pw
        rw [Nat.mul_comm (K * Z)] at this
        exact this
      have v1 : m * X < (t + 1) * Z := by
        have : K * (m * X) < K * ((t + 1) * Z) := by
          refine Nat.lt_trans (lo r1 a1) (Nat.lt_of_lt_of_le u2 (Nat.le_of_eq ?_))
          ac_rfl
        exact Nat.lt_of_mul_lt_mul_left this
      have v2 := nc (t + 1) (by omega) v1
      have v3 : t * Z < (m + 1) * X := by
        have : K * (t * Z) < K * ((m + 1) * X) := by
          refine Nat.lt_of_le_of_lt (Nat.le_trans (Nat.le_of_eq ?_) u1) (hi r1 a2)
          ac_rfl
        exact Nat.lt_of_mul_lt_mul_left this
      have v4 : t * Z ≤ m * X := by
        rcases Nat.lt_or_ge (m * X) (t * Z) with g | g
        · have := nc t (by omega) g
          omega
        · exact g
      have w1 : t * (K * Z) < (m * K + r) * X := by
        refine Nat.lt_of_le_of_lt ?_ (lo r hr)
        rw [show t * (K * Z) = K * (t * Z) by ac_rfl]
        exact Nat.mul_le_mul_left _ v4
      have w2 : (m * K + r) * X < (t + 1) * (K * Z) := by
        refine Nat.lt_of_lt_of_le (hi r hr2) ?_
        rw [show (t + 1) * (K * Z) = K * ((t + 1) * Z) by ac_rfl]
        exact Nat.mul_le_mul_left _ v2
      have w3 : (m * K + r) * X / (K * Z) = t := Nat.div_eq_of_lt_le (Nat.le_of_lt w1) w2
      refine ⟨w3, fun z => ?_⟩
      have dm := Nat.div_add_mod ((m * K + r) * X) (K * Z)
      rw [z, w3, Nat.add_zero, Nat.mul_comm] at dm
      omega
    rw [T1] at s2 s3 hb
    rw [R1] at hb
    obtain ⟨k1, k2⟩ := key r1 a1 a2 _ s2 rfl
    obtain ⟨k3, k4⟩ := key r2 b1 b2 _ s2 rfl
    refine ⟨q, ⟨s1, ?_, ?_⟩, ?_⟩
    · rw [T1, k3]
      exact s2
    · rw [T1, k3]
      exact s3
    · rw [T1, R1, k3, hb, yfUp_c (show _ = 0 ↔ _ = 0 from ⟨fun h => absurd h k2, fun h => absurd h k4⟩)]
/-- figures without a tail of nothing -/
theorem yf_rat {P T : Nat} {l S : Int} {v d b : Nat} (h : yfRnd P T l (v * 10 ^ (-(S - d)).toNat) (10 ^ (S - d).toNat) b) : yfRnd P T l (v * 10 ^ d * 10 ^ (-S).toNat) (10 ^ S.toNat) b := by
  refine yfRnd_v (Nat.pow_pos (by decide)) (Nat.pow_pos (by decide)) ?_ h
  rw [Nat.mul_assoc, Nat.mul_assoc, Nat.mul_assoc, ← Nat.pow_add, ← Nat.pow_add, ← Nat.pow_add]
  congr 2
  omega
