/-! values: the division -/
theorem v_ext {f g : Nat → Int32} : ∀ {n : Nat}, (∀ k, k < n → f k = g k) → vB f n = vB g n
  | 0, _ => rfl
  | n + 1, h => by
    show vB f n + (f n).toInt * _ = vB g n + (g n).toInt * _
    rw [v_ext (fun k hk => h k (by omega)), h n (by omega)]
def D_res (R R2 R3 pl sh s sn nd dn : Int32) (d : Nat → Int32) (qn : Int32) (h qh : Nat → Int32) : Int32 × Int32 × (Nat → Int32) × Int32 × Int32 × (Nat → Int32) × Int32 × Int32 × (Nat → Int32) :=
  ((F_Big_shiftRight R sh (F_Big_trim R s sn h).1 (F_Big_trim R s sn h).2 h).2.1, (F_Big_shiftRight R sh (F_Big_trim R s sn h).1 (F_Big_trim R s sn h).2 h).2.2.1, (F_Big_shiftRight R sh (F_Big_trim R s sn h).1 (F_Big_trim R s sn h).2 h).2.2.2, (F_Big_shiftRight R2 sh nd dn d).2.1, (F_Big_shiftRight R2 sh nd dn d).2.2.1, (F_Big_shiftRight R2 sh nd dn d).2.2.2, (F_Big_trim R3 (if R3 < pl then R3 else pl) qn qh).1, (F_Big_trim R3 (if R3 < pl then R3 else pl) qn qh).2, qh)
theorem v_dstep {V W Z P U x : Int} (hP : 0 < P) (hW : W + P * Z < V) (hV : V < P) (W0 : 0 ≤ W) (Z0 : 0 ≤ Z) (hU : U = x + 2147483648 * W) (x1 : x < 2147483648) : Z = 0 ∧ U < V * 2147483648 := by
  have z : Z = 0 := by
    apply Int.le_antisymm _ Z0
    apply Int.le_of_not_gt
    intro h
    have h1 : P * 1 ≤ P * Z := Int.mul_le_mul_of_nonneg_left (by omega) (by omega)
    omega
  rw [z, Int.mul_zero] at hW
  exact ⟨z, by omega⟩
theorem v_dvId {H X Y P A q V h Q : Int} (b1 : H = Y + P * (A - q * V)) (b2 : X = Y + P * A) (k : h + V * Q = H) : h + V * (Q + q * P) = X := by
  have e : V * (q * P) = P * (q * V) := by ac_rfl
  rw [Int.mul_sub] at b1
  rw [Int.mul_add, e]
  omega
theorem V_dvL {R R2 R3 a0 a1 b0 b1 c0 c1 pl sh s sn nd dn y0 qn : Int32} {a2 b2 c2 d : Nat → Int32} (hnd : 2 ≤ nd.toInt) (hs : s.toInt = pl.toInt + nd.toInt) (hsR : s.toInt ≤ R.toInt) (hR : R.toInt ≤ 220) (okd : okL d nd.toNatClampNeg) (hd : 1073741824 ≤ (d (nd.toNatClampNeg - 1)).toInt) (hpl : pl.toInt ≤ R3.toInt) :
    ∀ (n : Nat) (I : Nat) (i : Int32) (x q : Nat → Int32), i.toInt = (I : Int) - 1 → i.toInt < pl.toInt → I < n → okL x s.toNatClampNeg → vB (fun j => x (I + j)) (s.toNatClampNeg - I) < vB d nd.toNatClampNeg →
    ∃ h qh : Nat → Int32, F_Big_divideBy_L92 R R2 R3 a0 a1 a2 b0 b1 b2 c0 c1 c2 pl sh s sn nd dn d y0 qn n i x q = D_res R R2 R3 pl sh s sn nd dn d qn h qh ∧ okL h s.toNatClampNeg ∧ vB h s.toNatClampNeg < vB d nd.toNatClampNeg ∧ (∀ k, I ≤ k → qh k = q k) ∧ okL qh I ∧ vB h s.toNatClampNeg + vB d nd.toNatClampNeg * vB qh I = vB x s.toNatClampNeg := by
  intro n
  induction n with
  | zero => intro I i x q h1 h2 h3; omega
  | succ n ih =>
    intro I i x q h1 h2 h3 h4 h5
    have e0 : (0 : Int32).toInt = 0 := rfl
    have es := q_clI (i := s) rfl (by omega)
    have en := q_clI (i := nd) rfl (by omega)
    rw [F_Big_divideBy_L92.eq_2]
    by_cases hc : i < 0
    · rw [if_pos hc]
      have := q_ltI hc
      have hI : I = 0 := by omega
      subst hI
      refine ⟨x, q, rfl, h4, ?_, fun _ _ => rfl, fun k hk => by omega, ?_⟩
      · rw [Nat.sub_zero] at h5
        rw [v_ext (f := x) (g := fun j => x (0 + j)) (fun k _ => by rw [Nat.zero_add])]
        exact h5
      · rw [show vB q 0 = 0 from rfl, Int.mul_zero, Int.add_zero]
    · rw [if_neg hc, if_neg (fun hh => by have := q_leI hh; omega)]
      have hi0 := q_nltI hc
      have ei := q_clI (i := i) rfl (by omega)
      obtain ⟨J, hJ⟩ : ∃ J, I = J + 1 := ⟨I - 1, by omega⟩
      subst hJ
      have eJ : i.toNatClampNeg = J := by omega
      obtain ⟨N, eN⟩ := q_nm nd.toNatClampNeg
      obtain ⟨S, eS⟩ := q_nm s.toNatClampNeg
      rw [eN] at okd hd h5 en ih ⊢
      rw [eS] at h4 h5 es ih ⊢
      obtain ⟨e, he⟩ : ∃ e, S = J + 1 + (N + e) := ⟨S - (J + 1) - N, by omega⟩
      have p1 : (i + (-1) : Int32).toInt = i.toInt + (-1) := q_addI (y := -1) rfl (by decide) (by omega) (by omega)
      obtain ⟨i', ei'⟩ := q_nm (i + (-1) : Int32)
      rw [ei'] at p1 ⊢
      have o1 : i'.toInt = (J : Int) - 1 := by omega
      have o2 : i'.toInt < pl.toInt := by omega
      have o3 : J < n := by omega
      have o4 : ∀ k, J + 1 ≤ k → J ≤ k ∧ k ≠ J := fun k hk => by omega
      have o5 : ∀ k, k < J + 1 → k ≠ J → k < J := fun k hk hk2 => by omega
      have o6 : J + (N + 1 + e) = S := by omega
      have hS : S - J = N + 1 + e := by omega
      have o7 : ∀ k, J + N < J + (N + 1 + k) := fun k => by omega
      have o8 : ∀ k, J + (N + 1 + k) = J + 1 + (N + k) := fun k => by omega
      have w1 := v_split (f := fun j => x (J + 1 + j)) (p := N) (n := e)
      rw [show S - (J + 1) = N + e by omega, w1] at h5
      have okw : okL (fun j => x (J + 1 + j)) (N + e) := fun j hj => h4 _ (by omega)
      have okz : okL (fun i => x (J + 1 + (N + i))) e := fun j hj => h4 _ (by omega)
      have u1 := v_split (f := fun j => x (J + j)) (p := 1) (n := N)
      have u2 : vB (fun i => x (J + (1 + i))) N = vB (fun j => x (J + 1 + j)) N := v_ext (fun k _ => by
        show x (J + (1 + k)) = x (J + 1 + k)
        rw [Nat.add_assoc])
      have u3 : vB (fun j => x (J + j)) 1 = (x J).toInt := by
        show 0 + (x (J + 0)).toInt * 1 = _
        rw [Nat.add_zero]
        omega
      rw [u2, u3, Int.pow_one, Nat.add_comm 1 N] at u1
      have x1 := Int32.toInt_lt (x J)
      have V1 := v_lt okd
      obtain ⟨z0, hU⟩ := v_dstep (v_pos N) h5 V1 (v_nn (okw.mono (by omega))) (v_nn okz) u1 (by omega)
      obtain ⟨qq, h, r1, r2, r3, r4, r5, r6⟩ := V_take (R := R) (p := i) (R2 := R2) (s := s) (neg := sn) (s2 := nd) (neg2 := dn) (f := x) (d := d) (by omega) hnd (by omega) hsR hR (by rw [eN]; exact okd) (by rw [eS]; exact h4) (by rw [eN]; exact hd) (by rw [eN, eJ]; exact hU)
      rw [eN, eJ] at r4 r5 r6
      rw [eS] at r3
      rw [r1, eJ]
      have s3 : vB (fun i => h (J + (N + 1 + i))) e = 0 := by
        refine Eq.trans (v_ext (fun k _ => ?_)) z0
        show h (J + (N + 1 + k)) = x (J + 1 + (N + k))
        rw [r4 (J + (N + 1 + k)) (Or.inr (o7 k)), o8 k]
      have s4 : vB (fun i => x (J + (N + 1 + i))) e = 0 := by
        refine Eq.trans (v_ext (fun k _ => ?_)) z0
        show x (J + (N + 1 + k)) = x (J + 1 + (N + k))
        rw [o8 k]
      have s1 : vB (fun j => h (J + j)) (N + 1 + e) = vB (fun j => h (J + j)) (N + 1) := by
        have a : vB (fun j => h (J + j)) (N + 1 + e) = vB (fun j => h (J + j)) (N + 1) + 2147483648 ^ (N + 1) * vB (fun i => h (J + (N + 1 + i))) e := v_split
        refine a.trans ?_
        rw [s3, Int.mul_zero, Int.add_zero]
      have s2 : vB (fun j => x (J + j)) (N + 1 + e) = vB (fun j => x (J + j)) (N + 1) := by
        have a : vB (fun j => x (J + j)) (N + 1 + e) = vB (fun j => x (J + j)) (N + 1) + 2147483648 ^ (N + 1) * vB (fun i => x (J + (N + 1 + i))) e := v_split
        refine a.trans ?_
        rw [s4, Int.mul_zero, Int.add_zero]
      have s5 : vB (fun j => h (J + j)) (S - J) < vB d N := by
        rw [hS]
        exact Int.lt_of_le_of_lt (Int.le_of_eq s1) r6
      obtain ⟨h', qh, k1, k2, k3, k4, k5, k6⟩ := ih J i' h (upd q J qq) o1 o2 o3 r3 s5
      refine ⟨h', qh, k1, k2, k3, fun k hk => by rw [k4 k (o4 k hk).1, v_ne (o4 k hk).2], fun k hk => ?_, ?_⟩
      · by_cases hkJ : k = J
        · subst hkJ
          rw [k4 k (Nat.le_refl k), v_eq]
          exact r2
        · exact k5 k (o5 k hk hkJ)
      · have b3 : vB h J = vB x J := v_ext (fun k hk => r4 k (Or.inl hk))
        have b1 : vB h S = vB x J + 2147483648 ^ J * (vB (fun j => x (J + j)) (N + 1) - qq.toInt * vB d N) := by
          have a : vB h (J + (N + 1 + e)) = vB h J + 2147483648 ^ J * vB (fun j => h (J + j)) (N + 1 + e) := v_split
          rw [o6] at a
          refine a.trans ?_
          rw [b3, s1.trans r5]
        have b2 : vB x S = vB x J + 2147483648 ^ J * vB (fun j => x (J + j)) (N + 1) := by
          have a : vB x (J + (N + 1 + e)) = vB x J + 2147483648 ^ J * vB (fun j => x (J + j)) (N + 1 + e) := v_split
          rw [o6] at a
          refine a.trans ?_
          rw [s2]
        have b5 : vB qh (J + 1) = vB qh J + qq.toInt * 2147483648 ^ J := by
          show vB qh J + (qh J).toInt * _ = _
          rw [k4 J (Nat.le_refl J), v_eq]
        rw [b5]
        exact v_dvId b1 b2 k6
theorem v_dvEnd {A V Q r K : Int} (hK : 0 < K) (h : r + V * K * Q = A * K) (h0 : 0 ≤ r) (h1 : r < V * K) : Q = A / V ∧ r / K = A % V := by
  have e : r = K * (A - V * Q) := by
    rw [Int.mul_sub]
    have e1 : K * (V * Q) = V * K * Q := by ac_rfl
    have e2 : K * A = A * K := Int.mul_comm _ _
    omega
  have t0 : 0 ≤ A - V * Q := by
    apply Int.le_of_not_gt
    intro h9
    have : K * (A - V * Q) ≤ K * (-1) := Int.mul_le_mul_of_nonneg_left (by omega) (by omega)
    omega
  have t1 : A - V * Q < V := by
    apply Int.lt_of_not_ge
    intro h9
    have h10 : K * V ≤ K * (A - V * Q) := Int.mul_le_mul_of_nonneg_left h9 (by omega)
    have : K * V = V * K := Int.mul_comm _ _
    omega
  have q : A / V = Q := v_edivU (r := A - V * Q) (by rw [Int.mul_comm Q V]; omega) t0 t1
  have m := Int.emod_add_mul_ediv A V
  rw [q] at m
  refine ⟨q.symm, ?_⟩
  rw [e, Int.mul_ediv_cancel_left _ (by omega)]
  omega
