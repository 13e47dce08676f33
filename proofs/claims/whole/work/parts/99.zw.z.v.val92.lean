/-! values, for whole: the reference's DecimalRows: trim -/
theorem u_drop {f : Nat → Int32} {z : Nat} (h : ∀ i, i < z → f i = 0) : ∀ m : Nat, uV f (z + m) = uV (fun i => f (i + z)) m
  | 0 => u_zer h
  | m + 1 => by
    show uV f (z + m) * 10 + (f (z + m)).toInt = uV (fun i => f (i + z)) m * 10 + (f (m + z)).toInt
    rw [u_drop h m, Nat.add_comm z m]
theorem u_hdL {f : Nat → Int32} {m : Nat} (hg : gO f (m + 1)) (h : f 0 ≠ 0) : (10 : Int) ^ m ≤ uV f (m + 1) := by
  have h0 := hg 0 (by omega)
  have h1 : (f 0).toInt ≠ 0 := fun e => h (Int32.toInt_inj.mp e)
  have h2 : 0 ≤ uV (fun i => f (i + 1)) m := u_nn (fun i hi => hg (i + 1) (by omega))
  have h3 := u_pos m
  have h4 : 0 ≤ ((f 0).toInt - 1) * 10 ^ m := Int.mul_nonneg (by omega) (by omega)
  rw [Int.sub_mul, Int.one_mul] at h4
  rw [u_tl]
  omega
theorem u_hd {f : Nat → Int32} {n : Nat} (hg : gO f n) (hn : 1 ≤ n) (h : uV f n = 0) : f 0 = 0 := by
  obtain ⟨m, rfl⟩ : ∃ m, n = m + 1 := ⟨n - 1, by omega⟩
  by_cases c : f 0 = 0
  · exact c
  · have h1 := u_hdL hg c
    have h2 := u_pos m
    omega
theorem u_abs {f : Nat → Int32} {n : Nat} (hg : gO f n) : ((uV f n).natAbs : Int) = uV f n := Int.natAbs_of_nonneg (u_nn hg)
theorem u_vF {f : Nat → Int32} {n : Nat} (hg : gO f n) (hn : 1 ≤ n) (h : f 0 ≠ 0 ∨ n = 1) : vF (uV f n) n := by
  have h2 := u_lt hg
  refine ⟨hn, Int.ofNat_lt.mp (by rw [u_abs hg, Int.natCast_pow]; exact h2), fun hv => Int.ofNat_le.mp ?_⟩
  rw [u_abs hg, Int.natCast_pow]
  obtain ⟨m, rfl⟩ : ∃ m, n = m + 1 := ⟨n - 1, by omega⟩
  have c : f 0 ≠ 0 := by
    rcases h with h | h
    · exact h
    · intro c
      have e : m = 0 := by omega
      subst e
      apply hv
      show 0 * 10 + (f 0).toInt = 0
      rw [c]
      rfl
  exact u_hdL hg c
/-- the number of figures of v, exactly -/
def vG (v : Int) (c : Nat) : Prop := vF v c ∧ (v = 0 → c = 1)
theorem u_vG {f : Nat → Int32} {n : Nat} (hg : gO f n) (hn : 1 ≤ n) (h : f 0 ≠ 0 ∨ n = 1) : vG (uV f n) n := by
  refine ⟨u_vF hg hn h, fun z => ?_⟩
  rcases h with h | h
  · exact absurd (u_hd hg hn z) h
  · exact h
theorem vG_U {v : Int} {c d : Nat} (h : vG v c) (g : vG v d) : c = d := by
  by_cases z : v = 0
  · rw [h.2 z, g.2 z]
  · obtain ⟨⟨a1, a2, a3⟩, _⟩ := h
    obtain ⟨⟨b1, b2, b3⟩, _⟩ := g
    have e1 := (Nat.pow_lt_pow_iff_right (a := 10) (by decide)).mp (Nat.lt_of_le_of_lt (a3 z) b2)
    have e2 := (Nat.pow_lt_pow_iff_right (a := 10) (by decide)).mp (Nat.lt_of_le_of_lt (b3 z) a2)
    omega
theorem vG_abs {v w : Int} {c : Nat} (h : vG v c) (e : w.natAbs = v.natAbs) : vG w c := by
  obtain ⟨⟨h1, h2, h3⟩, h4⟩ := h
  refine ⟨⟨h1, by rw [e]; exact h2, fun hw => ?_⟩, fun hw => h4 (by omega)⟩
  rw [e]
  exact h3 (by omega)
theorem vG_le {v : Int} {c M : Nat} (h : vG v c) (hM : 1 ≤ M) : c ≤ M ↔ v.natAbs < 10 ^ M := by
  obtain ⟨⟨h1, h2, h3⟩, h4⟩ := h
  constructor
  · intro hc
    exact Nat.lt_of_lt_of_le h2 (Nat.pow_le_pow_right (by decide) hc)
  · intro hv
    by_cases z : v = 0
    · have := h4 z
      omega
    · have := (Nat.pow_lt_pow_iff_right (a := 10) (by decide)).mp (Nat.lt_of_le_of_lt (h3 z) hv)
      omega
def gT (v : Int) (s : Int32) (f : Nat → Int32) : Prop := (1 ≤ s.toInt ∧ s.toInt ≤ 4400) ∧ gO f s.toNatClampNeg ∧ uV f s.toNatClampNeg = v ∧ vG v s.toNatClampNeg
def QV_trim (v : Int) (b a0 a1 : Int32) (a3 : Int64) (a4 a6 a7 a8 a9 a10 : Int32) (p : Int32 × Int32 × Int32 × Int64 × Int32 × Int32 × Int32 × Int32 × Int32 × Int32 × Int32 × (Nat → Int32)) : Prop := gT v p.2.2.1 p.2.2.2.2.2.2.2.2.2.2.2 ∧ p.2.2.2.2.2.1 = (if v = 0 then 0 else b) ∧ p.1 = a0 ∧ p.2.1 = a1 ∧ p.2.2.2.1 = a3 ∧ p.2.2.2.2.1 = a4 ∧ p.2.2.2.2.2.2.1 = a6 ∧ p.2.2.2.2.2.2.2.1 = a7 ∧ p.2.2.2.2.2.2.2.2.1 = a8 ∧ p.2.2.2.2.2.2.2.2.2.1 = a9 ∧ p.2.2.2.2.2.2.2.2.2.2.1 = a10
theorem V_trmJ {K_F_DR_trim_L2 : Int32 → (Int32 × Int32 × Int32 × Int64 × Int32 × Int32 × Int32 × Int32 × Int32 × Int32 × Int32 × (Nat → Int32))} {K_F_DR_trim_L29 : Int32 → (Nat → Int32) → (Int32 × Int32 × Int32 × Int64 × Int32 × Int32 × Int32 × Int32 × Int32 × Int32 × Int32 × (Nat → Int32))} {t0_0 : Int32} {t0_1 : Int32} {t0_2 : Int32} {t0_3 : Int64} {t0_4 : Int32} {t0_5 : Int32} {t0_6 : Int32} {t0_7 : Int32} {t0_8 : Int32} {t0_9 : Int32} {t0_10 : Int32} {t1_0 : (Nat → Int32)} {lx21 : Int32} {lx42 : Int32} {lx43 : (Nat → Int32)} {lx60 : Int32} {lx61 : (Nat → Int32)} {v : Int} (hb : t0_5 = 0 ∨ t0_5 = 1) (hT : gT v lx60 lx61) (h0 : lx61 0 = 0 ↔ v = 0) : QV_trim v t0_5 t0_0 t0_1 t0_3 t0_4 t0_6 t0_7 t0_8 t0_9 t0_10 (F_DR_trim_J91 K_F_DR_trim_L2 K_F_DR_trim_L29 t0_0 t0_1 t0_2 t0_3 t0_4 t0_5 t0_6 t0_7 t0_8 t0_9 t0_10 t1_0 lx21 lx42 lx43 lx60 lx61) := by
  have e : (0 : Int32).toNatClampNeg = 0 := rfl
  unfold F_DR_trim_J91
  rw [e]
  by_cases c : t0_5 = 0
  · rw [if_pos c]
    refine ⟨hT, ?_, rfl, rfl, rfl, rfl, rfl, rfl, rfl, rfl, rfl⟩
    rw [c]
    split <;> rfl
  · rw [if_neg c]
    have b1 : t0_5 = 1 := hb.resolve_left c
    by_cases d : lx61 0 = 0
    · rw [if_pos d]
      exact ⟨hT, (if_pos (h0.mp d)).symm, rfl, rfl, rfl, rfl, rfl, rfl, rfl, rfl, rfl⟩
    · rw [if_neg d]
      refine ⟨hT, ?_, rfl, rfl, rfl, rfl, rfl, rfl, rfl, rfl, rfl⟩
      rw [if_neg (fun z => d (h0.mpr z)), b1]
theorem V_trm1 {K_F_DR_trim_L2 : Int32 → (Int32 × Int32 × Int32 × Int64 × Int32 × Int32 × Int32 × Int32 × Int32 × Int32 × Int32 × (Nat → Int32))} {t0_0 : Int32} {t0_1 : Int32} {t0_2 : Int32} {t0_3 : Int64} {t0_4 : Int32} {t0_5 : Int32} {t0_6 : Int32} {t0_7 : Int32} {t0_8 : Int32} {t0_9 : Int32} {t0_10 : Int32} {t1_0 : (Nat → Int32)} {lx21 : Int32} {v : Int} {z : Nat} (hb : t0_5 = 0 ∨ t0_5 = 1) (h2 : 0 ≤ t0_2.toInt ∧ t0_2.toInt ≤ 4400) (hg : gO t1_0 t0_2.toNatClampNeg) (hv : uV t1_0 t0_2.toNatClampNeg = v) (hz : lx21.toInt = (z : Int)) (hzz : z < t0_2.toNatClampNeg ∨ z = 0) (h0 : ∀ i, i < z → t1_0 i = 0) (hs : z + 1 = t0_2.toNatClampNeg ∨ t1_0 z ≠ 0 ∨ t0_2 = 0) : ∀ (n : Nat) (lx42 : Int32) (lx43 : (Nat → Int32)), ∀ k : Nat, lx42.toInt = (k : Int) → (k + z ≤ t0_2.toNatClampNeg ∨ k = 0) → 12200 - k < n → (∀ i, i < k → lx43 i = t1_0 (i + z)) → (∀ i, k ≤ i → lx43 i = t1_0 i) → QV_trim v t0_5 t0_0 t0_1 t0_3 t0_4 t0_6 t0_7 t0_8 t0_9 t0_10 (F_DR_trim_L29 K_F_DR_trim_L2 t0_0 t0_1 t0_2 t0_3 t0_4 t0_5 t0_6 t0_7 t0_8 t0_9 t0_10 t1_0 lx21 n lx42 lx43) := by
  have hn := q_clI (i := t0_2) rfl h2.1
  have e0 : (0 : Int32).toInt = 0 := rfl
  have e00 : (0 : Int32).toNatClampNeg = 0 := rfl
  have e10 : (1 : Int32).toNatClampNeg = 1 := rfl
  intro n
  induction n with
  | zero => intros; omega
  | succ n ih =>
    intro lx42 lx43 k hk hk2 hkn ho hp
    have es : (lx42 + lx21 : Int32).toInt = ((k + z : Nat) : Int) := by
      rw [q_addI hk hz (by omega) (by omega)]
      omega
    rw [F_DR_trim_L29.eq_2]
    by_cases c : t0_2 ≤ (lx42 + lx21 : Int32)
    · have c2 := q_leI c
      rw [if_pos c]
      by_cases d : t0_2 = 0
      · rw [if_pos d]
        have v0 : v = 0 := by
          rw [← hv, d]
          rfl
        have r0 : upd lx43 (0 : Int32).toNatClampNeg 0 0 = 0 := v_eq
        refine V_trmJ hb ⟨⟨by decide, by decide⟩, g_one, ?_, ?_⟩ ⟨fun _ => v0, fun _ => r0⟩
        · rw [e10, v0]
          show 0 * 10 + (upd lx43 (0 : Int32).toNatClampNeg 0 0).toInt = 0
          rw [r0]
          rfl
        · rw [e10, v0]
          exact ⟨⟨Nat.le_refl 1, by decide, fun h => absurd rfl h⟩, fun _ => rfl⟩
      · rw [if_neg d]
        have d2 : t0_2.toInt ≠ 0 := fun e => d (Int32.toInt_inj.mp e)
        have ek : k + z = t0_2.toNatClampNeg := by omega
        have k1 : 1 ≤ k := by omega
        have ed : (t0_2 - lx21 : Int32).toInt = (k : Int) := by
          rw [q_subI rfl hz (by omega) (by omega)]
          omega
        have edc := q_clI ed (by omega)
        have edn : (t0_2 - lx21 : Int32).toNatClampNeg = k := by omega
        have gk : gO lx43 k := fun i hi => by
          rw [ho i hi]
          exact hg _ (by omega)
        have vk : uV lx43 k = v := by
          rw [u_ext (g := fun i => t1_0 (i + z)) ho, ← u_drop h0, Nat.add_comm z k, ek, hv]
        have l0 : lx43 0 = t1_0 z := by
          rw [ho 0 (by omega), Nat.zero_add]
        have hf : lx43 0 ≠ 0 ∨ k = 1 := by
          rcases hs with hs | hs | hs
          · exact Or.inr (by omega)
          · rw [l0]
            exact Or.inl hs
          · exact absurd hs d
        refine V_trmJ hb ⟨by omega, by rw [edn]; exact gk, by rw [edn]; exact vk, ?_⟩ ⟨fun h => ?_, fun h => u_hd gk k1 (vk.trans h)⟩
        · rw [edn, ← vk]
          exact u_vG gk k1 hf
        · rcases hf with hf | hf
          · exact absurd h hf
          · rw [← vk, hf]
            show 0 * 10 + (lx43 0).toInt = 0
            rw [h]
            rfl
    · have c2 := q_nleI c
      rw [if_neg c]
      have e1 : (lx42 + 1 : Int32).toInt = ((k + 1 : Nat) : Int) := by
        rw [q_addI (y := 1) hk rfl (by omega) (by omega)]
        omega
      have q0 := q_clI hk (by omega)
      have q1 := q_clI es (by omega)
      have ix0 : lx42.toNatClampNeg = k := by omega
      have ix1 : (lx42 + lx21 : Int32).toNatClampNeg = k + z := by omega
      rw [ix0, ix1]
      refine ih _ _ (k + 1) e1 (Or.inl (by omega)) (by omega) (fun i hi => ?_) (fun i hi => ?_)
      · by_cases ci : i = k
        · rw [ci, v_eq]
          exact hp _ (by omega)
        · rw [v_ne ci]
          exact ho i (by omega)
      · rw [v_ne (by omega)]
        exact hp i (by omega)
theorem V_trm2 {t0_0 : Int32} {t0_1 : Int32} {t0_2 : Int32} {t0_3 : Int64} {t0_4 : Int32} {t0_5 : Int32} {t0_6 : Int32} {t0_7 : Int32} {t0_8 : Int32} {t0_9 : Int32} {t0_10 : Int32} {t1_0 : (Nat → Int32)} {v : Int} (hb : t0_5 = 0 ∨ t0_5 = 1) (h2 : 0 ≤ t0_2.toInt ∧ t0_2.toInt ≤ 4400) (hg : gO t1_0 t0_2.toNatClampNeg) (hv : uV t1_0 t0_2.toNatClampNeg = v) : ∀ (n : Nat) (lx21 : Int32), ∀ k : Nat, lx21.toInt = (k : Int) → (k < t0_2.toNatClampNeg ∨ k = 0) → 12200 - k < n → (∀ i, i < k → t1_0 i = 0) → QV_trim v t0_5 t0_0 t0_1 t0_3 t0_4 t0_6 t0_7 t0_8 t0_9 t0_10 (F_DR_trim_L2 t0_0 t0_1 t0_2 t0_3 t0_4 t0_5 t0_6 t0_7 t0_8 t0_9 t0_10 t1_0 n lx21) := by
  have hn := q_clI (i := t0_2) rfl h2.1
  have e0 : (0 : Int32).toInt = 0 := rfl
  intro n
  induction n with
  | zero => intros; omega
  | succ n ih =>
    intro lx21 k hk hk2 hkn h0
    have e1 : (lx21 + 1 : Int32).toInt = ((k + 1 : Nat) : Int) := by
      rw [q_addI (y := 1) hk rfl (by omega) (by omega)]
      omega
    have q0 := q_clI hk (by omega)
    have ix0 : lx21.toNatClampNeg = k := by omega
    rw [F_DR_trim_L2.eq_2, ix0]
    by_cases c : t0_2 ≤ (lx21 + 1 : Int32)
    · have c2 := q_leI c
      rw [if_pos c]
      unfold F_DR_trim_J27
      refine V_trm1 (z := k) hb h2 hg hv hk hk2 h0 ?_ _ _ _ 0 rfl (Or.inr rfl) (by decide) (fun i h => absurd h (Nat.not_lt_zero _)) (fun _ _ => rfl)
      by_cases d : t0_2.toInt = 0
      · exact Or.inr (Or.inr (Int32.toInt_inj.mp d))
      · exact Or.inl (by omega)
    · have c2 := q_nleI c
      rw [if_neg c]
      by_cases d : t1_0 k = 0
      · rw [if_pos d]
        refine ih _ (k + 1) e1 (Or.inl (by omega)) (by omega) (fun i hi => ?_)
        by_cases ci : i = k
        · rw [ci]
          exact d
        · exact h0 i (by omega)
      · rw [if_neg d]
        unfold F_DR_trim_J27
        exact V_trm1 (z := k) hb h2 hg hv hk hk2 h0 (Or.inr (Or.inl d)) _ _ _ 0 rfl (Or.inr rfl) (by decide) (fun i h => absurd h (Nat.not_lt_zero _)) (fun _ _ => rfl)
theorem V_DR_trim {t0_0 : Int32} {t0_1 : Int32} {t0_2 : Int32} {t0_3 : Int64} {t0_4 : Int32} {t0_5 : Int32} {t0_6 : Int32} {t0_7 : Int32} {t0_8 : Int32} {t0_9 : Int32} {t0_10 : Int32} {t1_0 : (Nat → Int32)} {v : Int} (hb : t0_5 = 0 ∨ t0_5 = 1) (h2 : 0 ≤ t0_2.toInt ∧ t0_2.toInt ≤ 4400) (hg : gO t1_0 t0_2.toNatClampNeg) (hv : uV t1_0 t0_2.toNatClampNeg = v) : QV_trim v t0_5 t0_0 t0_1 t0_3 t0_4 t0_6 t0_7 t0_8 t0_9 t0_10 (F_DR_trim t0_0 t0_1 t0_2 t0_3 t0_4 t0_5 t0_6 t0_7 t0_8 t0_9 t0_10 t1_0) := by
  unfold F_DR_trim
  exact V_trm2 hb h2 hg hv _ _ 0 rfl (Or.inr rfl) (by decide) (fun i h => absurd h (Nat.not_lt_zero _))
