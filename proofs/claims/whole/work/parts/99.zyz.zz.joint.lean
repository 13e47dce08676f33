/-! whole's law: both sides meet -/
theorem x_zOk {g : Nat → ClassId} {q : Nat → Nat} {u : va_W} {th : Int32} {σ : zSt} (hI : q_I (nsh g q) q u) (hS : sC g q u σ) (hM : iM g q u) (hT : sM g q u th σ) (hP : (zsP σ).length ≤ 11008) : zOk σ := by
  obtain ⟨-, -, -, -, ⟨s, c, y1, -, hL, hB2⟩, ⟨s2, c2, -, -, hPa⟩, -⟩ := hS
  obtain ⟨⟨f0, f1, -, -, W9, hr, hE⟩, ⟨d0, d1, d2, d3, -, -, -, -, hd⟩, ⟨f, ya, -, hN⟩, -⟩ := hT
  obtain ⟨f9, yb, hB⟩ := hM.2.2.2
  obtain rfl := x_rl ya yb
  obtain ⟨sz, yc, hsz⟩ := n_shO hI (n_h1 g q)
  obtain rfl := x_sh y1 yc
  refine ⟨fun i hi => ?_, fun i hi => dRv_fit hd hi, fun i hi => ?_, fun i hi => ?_, ?_, fun i => ?_, hP, y_byte hPa hP⟩
  · have e : (Int32.ofNat i).toInt = (i : Int) := Int32.toInt_ofNat_of_lt (by omega)
    have z := hr.lt (x := Int32.ofNat i) (by rw [e]; omega)
    have e2 : (Int32.ofNat i).toNatClampNeg = i := by
      show (Int32.ofNat i).toInt.toNat = i
      rw [e]
      omega
    rw [e2, hE i hi] at z
    exact z
  · exact Nat.lt_of_lt_of_le (zsV σ i).toBitVec.isLt (by decide)
  · have z := hB (10 + i) (by omega) (by omega)
    rw [hN i hi] at z
    obtain ⟨b, hb⟩ := yu_int (zsN σ i)
    have lt := (zsN σ i).toBitVec.isLt
    have lt2 : yu (zsN σ i) < 18446744073709551616 := lt
    show yu (zsN σ i) < 2 * (2 ^ 23 * (255 + 1))
    have p : 2 * (2 ^ 23 * (255 + 1)) = 4294967296 := by decide
    rw [p]
    omega
  · have k : (4100 : Int32).toInt = 4100 := by decide
    omega
  · rw [hB2]
    have b : ySh c i < 256 := Nat.mod_lt _ (by decide)
    unfold ySB
    omega
theorem x_th {g : Nat → ClassId} {q : Nat → Nat} {u : va_W} {th : Int32} {σ : zSt} (h : sM g q u th σ) : ∃ tB tC : Int32, u[116]? = (some (q 116, .inr (12, [.int th, .ref (q 117), .int tB, .ref (q 118), .int tC, .ref (q 119), .ref (q 134), .ref (q 145), .ref (q 153), .ref (q 157), .ref (q 167), .ref (q 168)])) : Option (Nat × va_E)) := by
  obtain ⟨-, -, -, ⟨s, p, r, r2, a, -⟩, -⟩ := h
  exact ⟨s, p, a⟩
def lSt (g : Nat → ClassId) (q : Nat → Nat) (u : va_W) : Prop := ∃ (th : Int32) (σ : zSt), sC g q u σ ∧ sM g q u th σ ∧ zOk σ
theorem rPw_p {x : Int32} {o : Option Int} {σ s : zSt} {c : Int32} (h : rPw x o σ c s) : zsP s = zsP σ := by
  rcases h with ⟨v, _, _, _, e⟩ | ⟨_, _, e⟩ <;> subst e <;> rfl
theorem rPd_p {x : Int32} {o : Option (Int × Int)} {σ s : zSt} {c : Int32} (h : rPd x o σ c s) : zsP s = zsP σ := by
  rcases h with ⟨v, _, _, _, e⟩ | ⟨_, _, e⟩ <;> subst e <;> rfl
theorem j_A {r : Int32 → zSt → Prop} {S : zSt → Prop} {M : Int32 → zSt → Prop} {k : Int32} (U : ∀ {c d : Int32} {s t : zSt}, r c s → r d t → c = d ∧ s = t) (hP : ∃ s, r k s ∧ S s) (hR : ∃ c s, r c s ∧ M c s) : ∃ s, r k s ∧ S s ∧ M k s := by
  obtain ⟨s, p1, p2⟩ := hP
  obtain ⟨c, t, q1, q2⟩ := hR
  obtain ⟨e1, e2⟩ := U p1 q1
  subst e1
  subst e2
  exact ⟨s, p1, p2, q2⟩
theorem j_B {α : Type} {r : Int32 → α → zSt → Prop} {S : zSt → Prop} {M : Int32 → zSt → Prop} {k : Int32} {b : α} {v : α → Int64} {f : Nat → Int64} (U : ∀ {c d : Int32} {a b : α} {s t : zSt}, r c a s → r d b t → c = d ∧ (c = 0 → a = b) ∧ s = t) (hP : ∃ a s, r k a s ∧ S s ∧ (k = 0 → f 0 = v a)) (hR : ∃ c s, r c b s ∧ M c s) : ∃ s, r k b s ∧ S s ∧ M k s ∧ (k = 0 → f 0 = v b) := by
  obtain ⟨a, s, p1, p2, p3⟩ := hP
  obtain ⟨c, t, q1, q2⟩ := hR
  obtain ⟨e1, e2, e3⟩ := U p1 q1
  subst e1
  subst e3
  exact ⟨s, q1, p2, q2, fun z => by rw [p3 z, e2 z]⟩
theorem j_C {α : Type} {r : Int32 → α → Prop} {S : Prop} {M : Int32 → Prop} {k : Int32} {b : α} {v : α → Int64} {f : Nat → Int64} (U : ∀ {c d : Int32} {a b : α}, r c a → r d b → c = d ∧ (c = 0 → a = b)) (hP : ∃ a, r k a ∧ S ∧ (k = 0 → f 0 = v a)) (hR : ∃ c, r c b ∧ M c) : S ∧ M k ∧ (k = 0 → f 0 = v b) := by
  obtain ⟨a, p1, p2, p3⟩ := hP
  obtain ⟨c, q1, q2⟩ := hR
  obtain ⟨e1, e2⟩ := U p1 q1
  subst e1
  exact ⟨p2, q2, fun z => by rw [p3 z, e2 z]⟩
/-- what the law's own method of a call leaves: S = the program's cells hold a state, k = what it returns, f = its row for the answer -/
def pFm (S : zSt → Prop) (σ : zSt) (k : Int32) (f : Nat → Int64) : Prop := ∃ (c a : Int32) (s : zSt), rFm σ c a s ∧ S s ∧ k = (if c = 0 then 0 else 1) ∧ (k = 0 → f 0 = a.toInt64)
theorem j_F {S : zSt → Prop} {M : Int32 → zSt → Prop} {σ : zSt} {k b : Int32} {f : Nat → Int64} (hp : (zsP σ).length ≤ 11008) (hP : pFm S σ k f) (hR : ∃ c s, rFm σ c b s ∧ M (if c = 0 then 0 else 1) s) : ∃ s, S s ∧ M k s ∧ (zsP s).length ≤ 11008 ∧ (k = 0 → f 0 = b.toInt64) := by
  obtain ⟨c, a, s, p1, p2, p3, p4⟩ := hP
  obtain ⟨d, t, q1, q2⟩ := hR
  obtain ⟨e1, e2, e3⟩ := rFm_U p1 q1
  subst e1
  subst e3
  rw [← p3] at q2
  refine ⟨s, p2, q2, ?_, fun z => ?_⟩
  · rcases q1 with ⟨_, _, e⟩ | ⟨_, _, F, pl, o, _, ⟨_, _, l, e⟩ | ⟨_, _, e⟩⟩
    · rw [e]; exact hp
    · rw [e]; exact Nat.le_trans l (by decide)
    · rw [e]; exact Nat.zero_le _
  · have c0 : c = 0 := Classical.byContradiction fun n => by
      rw [if_neg n, z] at p3
      exact absurd p3 (by decide)
    rw [p4 z, e2 c0]
def pPr (S : zSt → Prop) (x2 x3 x4 : Int32) (σ : zSt) (k : Int32) (f : Nat → Int64) : Prop := (k = 0 ∧ yPrOk x2 x3 x4 ∧ ∃ a : Int32, f 0 = a.toInt64 ∧ ∀ t, yPrT x2 x4 (zsW σ x3.toNatClampNeg) (zsD σ x3.toNatClampNeg) (yu (zsV σ x3.toNatClampNeg)) (yu (zsN σ x3.toNatClampNeg)) t → a.toInt = (t.length : Int) ∧ S (zsW σ, zsD σ, zsV σ, zsN σ, zsL σ, zsB σ, t, zsA σ)) ∨ (k = 1 ∧ ¬ yPrOk x2 x3 x4 ∧ S σ)
theorem j_P {S : zSt → Prop} {M : Int32 → zSt → Prop} {x2 x3 x4 : Int32} {σ : zSt} {k b : Int32} {f : Nat → Int64} (hp : (zsP σ).length ≤ 11008) (hP : pPr S x2 x3 x4 σ k f) (hR : (yPrOk x2 x3 x4 ∧ ∃ t, yPrT x2 x4 (zsW σ x3.toNatClampNeg) (zsD σ x3.toNatClampNeg) (yu (zsV σ x3.toNatClampNeg)) (yu (zsN σ x3.toNatClampNeg)) t ∧ t.length ≤ 11008 ∧ b.toInt = (t.length : Int) ∧ M 0 (zsW σ, zsD σ, zsV σ, zsN σ, zsL σ, zsB σ, t, zsA σ)) ∨ (¬ yPrOk x2 x3 x4 ∧ M 1 σ)) : ∃ s, S s ∧ M k s ∧ (zsP s).length ≤ 11008 ∧ (k = 0 → f 0 = b.toInt64) := by
  rcases hP with ⟨k0, ok, a, fa, w⟩ | ⟨k1, ok, w⟩ <;> rcases hR with ⟨ok2, t, h1, h2, h3, h4⟩ | ⟨ok2, h4⟩
  · obtain ⟨w1, w2⟩ := w t h1
    refine ⟨_, w2, by rw [k0]; exact h4, h2, fun _ => ?_⟩
    rw [fa, Int32.toInt_inj.mp (w1.trans h3.symm)]
  · exact absurd ok ok2
  · exact absurd ok2 ok
  · exact ⟨σ, w, by rw [k1]; exact h4, hp, fun z => absurd (k1.symm.trans z) (by decide)⟩
def pFi (S : zSt → Prop) (x2 x3 x4 x5 x6 : Int32) (σ : zSt) (k : Int32) (f : Nat → Int64) : Prop := (k = 0 ∧ yFiOk x2 x3 x4 x5 x6 ∧ zFn x2 x3 σ ∧ ∃ (a : Int32) (t : List Nat), f 0 = a.toInt64 ∧ zFt x2 x3 x4 x5 x6 σ t ∧ a.toInt = (t.length : Int) ∧ S (zsW σ, zsD σ, zsV σ, zsN σ, zsL σ, zsB σ, t, zsA σ)) ∨ (k = 1 ∧ ¬ yFiOk x2 x3 x4 x5 x6 ∧ S σ) ∨ (k = 2 ∧ yFiOk x2 x3 x4 x5 x6 ∧ zFi x2 x3 σ ∧ S σ)
theorem j_G {S : zSt → Prop} {M : Int32 → zSt → Prop} {x2 x3 x4 x5 x6 : Int32} {σ : zSt} {k b : Int32} {f : Nat → Int64} (hp : (zsP σ).length ≤ 11008) (hP : pFi S x2 x3 x4 x5 x6 σ k f) (hR : (yFiOk x2 x3 x4 x5 x6 ∧ zFn x2 x3 σ ∧ ∀ t, zFt x2 x3 x4 x5 x6 σ t → t.length ≤ 1600 ∧ b.toInt = (t.length : Int) ∧ M 0 (zsW σ, zsD σ, zsV σ, zsN σ, zsL σ, zsB σ, t, zsA σ)) ∨ (¬ yFiOk x2 x3 x4 x5 x6 ∧ M 1 σ) ∨ (yFiOk x2 x3 x4 x5 x6 ∧ zFi x2 x3 σ ∧ M 2 σ)) : ∃ s, S s ∧ M k s ∧ (zsP s).length ≤ 11008 ∧ (k = 0 → f 0 = b.toInt64) := by
  rcases hP with ⟨k0, ok, n1, a, t, fa, h1, h2, h3⟩ | ⟨k1, ok, w⟩ | ⟨k2, ok, n1, w⟩ <;> rcases hR with ⟨ok2, m1, h4⟩ | ⟨ok2, h4⟩ | ⟨ok2, m1, h4⟩
  · obtain ⟨w1, w2, w3⟩ := h4 t h1
    refine ⟨_, h3, by rw [k0]; exact w3, Nat.le_trans w1 (by decide), fun _ => ?_⟩
    rw [fa, Int32.toInt_inj.mp (h2.trans w2.symm)]
  · exact absurd ok ok2
  · exact (zFn_i ok.1 n1 m1).elim
  · exact absurd ok2 ok
  · exact ⟨σ, w, by rw [k1]; exact h4, hp, fun z => absurd (k1.symm.trans z) (by decide)⟩
  · exact absurd ok2 ok
  · exact (zFn_i ok.1 m1 n1).elim
  · exact absurd ok ok2
  · exact ⟨σ, w, by rw [k2]; exact h4, hp, fun z => absurd (k2.symm.trans z) (by decide)⟩
theorem rPt_p {x2 x3 : Int32} {x4 : Int64} {σ s : zSt} {c : Int32} (h : rPt x2 x3 x4 σ c s) : zsP s = zsP σ := by
  rcases h with ⟨_, _, e⟩ | ⟨_, _, ⟨_, e⟩ | ⟨_, e⟩ | ⟨_, e⟩ | ⟨_, e⟩⟩ <;> subst e <;> rfl
theorem j_put {x2 x3 : Int32} {x4 : Int64} {S : zSt → Prop} {M : Int32 → zSt → Prop} {σ : zSt} {k : Int32} (hp : (zsP σ).length ≤ 11008) (hP : ∃ s, rPt x2 x3 x4 σ k s ∧ S s) (hR : ∃ c s, rPt x2 x3 x4 σ c s ∧ M c s) : ∃ s, S s ∧ M k s ∧ (zsP s).length ≤ 11008 := by
  obtain ⟨s, h1, h2, h3⟩ := j_A (fun h g => rPt_U h g) hP hR
  exact ⟨s, h2, h3, by rw [rPt_p h1]; exact hp⟩
theorem rWh_p {x2 x3 x4 x5 : Int32} {σ s : zSt} {c : Int32} (h : rWh x2 x3 x4 x5 σ c s) : zsP s = zsP σ := by
  rcases h with ⟨_, _, e⟩ | ⟨_, w⟩
  · subst e; rfl
  · exact rPw_p w
theorem j_whole {x2 x3 x4 x5 : Int32} {S : zSt → Prop} {M : Int32 → zSt → Prop} {σ : zSt} {k : Int32} (hp : (zsP σ).length ≤ 11008) (hP : ∃ s, rWh x2 x3 x4 x5 σ k s ∧ S s) (hR : ∃ c s, rWh x2 x3 x4 x5 σ c s ∧ M c s) : ∃ s, S s ∧ M k s ∧ (zsP s).length ≤ 11008 := by
  obtain ⟨s, h1, h2, h3⟩ := j_A (fun h g => rWh_U h g) hP hR
  exact ⟨s, h2, h3, by rw [rWh_p h1]; exact hp⟩
theorem rWb_p {x2 x3 x4 x5 : Int32} {σ s : zSt} {c : Int32} (h : rWb x2 x3 x4 x5 σ c s) : zsP s = zsP σ := by
  rcases h with ⟨_, _, e⟩ | ⟨_, w⟩
  · subst e; rfl
  · exact rPw_p w
theorem j_wholeBy {x2 x3 x4 x5 : Int32} {S : zSt → Prop} {M : Int32 → zSt → Prop} {σ : zSt} {k : Int32} (hp : (zsP σ).length ≤ 11008) (hP : ∃ s, rWb x2 x3 x4 x5 σ k s ∧ S s) (hR : ∃ c s, rWb x2 x3 x4 x5 σ c s ∧ M c s) : ∃ s, S s ∧ M k s ∧ (zsP s).length ≤ 11008 := by
  obtain ⟨s, h1, h2, h3⟩ := j_A (fun h g => rWb_U h g) hP hR
  exact ⟨s, h2, h3, by rw [rWb_p h1]; exact hp⟩
theorem rPm_p {x2 x3 x4 x5 : Int32} {σ s : zSt} {c : Int32} (h : rPm x2 x3 x4 x5 σ c s) : zsP s = zsP σ := by
  rcases h with ⟨_, _, e⟩ | ⟨_, w⟩
  · subst e; rfl
  · exact rPw_p w
theorem j_powerModulo {x2 x3 x4 x5 : Int32} {S : zSt → Prop} {M : Int32 → zSt → Prop} {σ : zSt} {k : Int32} (hp : (zsP σ).length ≤ 11008) (hP : ∃ s, rPm x2 x3 x4 x5 σ k s ∧ S s) (hR : ∃ c s, rPm x2 x3 x4 x5 σ c s ∧ M c s) : ∃ s, S s ∧ M k s ∧ (zsP s).length ≤ 11008 := by
  obtain ⟨s, h1, h2, h3⟩ := j_A (fun h g => rPm_U h g) hP hR
  exact ⟨s, h2, h3, by rw [rPm_p h1]; exact hp⟩
theorem rDc_p {x2 x3 x4 x5 : Int32} {σ s : zSt} {c : Int32} (h : rDc x2 x3 x4 x5 σ c s) : zsP s = zsP σ := by
  rcases h with ⟨_, _, e⟩ | ⟨_, o, _, w⟩
  · subst e; rfl
  · exact rPd_p w
theorem j_decimal {x2 x3 x4 x5 : Int32} {S : zSt → Prop} {M : Int32 → zSt → Prop} {σ : zSt} {k : Int32} (hp : (zsP σ).length ≤ 11008) (hP : ∃ s, rDc x2 x3 x4 x5 σ k s ∧ S s) (hR : ∃ c s, rDc x2 x3 x4 x5 σ c s ∧ M c s) : ∃ s, S s ∧ M k s ∧ (zsP s).length ≤ 11008 := by
  obtain ⟨s, h1, h2, h3⟩ := j_A (fun h g => rDc_U h g) hP hR
  exact ⟨s, h2, h3, by rw [rDc_p h1]; exact hp⟩
theorem rDb_p {x2 x3 x4 x5 : Int32} {σ s : zSt} {c : Int32} (h : rDb x2 x3 x4 x5 σ c s) : zsP s = zsP σ := by
  rcases h with ⟨_, _, e⟩ | ⟨_, o, _, w⟩
  · subst e; rfl
  · exact rPd_p w
theorem j_decimalBy {x2 x3 x4 x5 : Int32} {S : zSt → Prop} {M : Int32 → zSt → Prop} {σ : zSt} {k : Int32} (hp : (zsP σ).length ≤ 11008) (hP : ∃ s, rDb x2 x3 x4 x5 σ k s ∧ S s) (hR : ∃ c s, rDb x2 x3 x4 x5 σ c s ∧ M c s) : ∃ s, S s ∧ M k s ∧ (zsP s).length ≤ 11008 := by
  obtain ⟨s, h1, h2, h3⟩ := j_A (fun h g => rDb_U h g) hP hR
  exact ⟨s, h2, h3, by rw [rDb_p h1]; exact hp⟩
theorem rDv_p {x2 x3 x4 x5 x6 : Int32} {σ s : zSt} {c : Int32} (h : rDv x2 x3 x4 x5 x6 σ c s) : zsP s = zsP σ := by
  rcases h with ⟨_, _, e⟩ | ⟨_, o, _, w⟩
  · subst e; rfl
  · exact rPd_p w
theorem j_divide {x2 x3 x4 x5 x6 : Int32} {S : zSt → Prop} {M : Int32 → zSt → Prop} {σ : zSt} {k : Int32} (hp : (zsP σ).length ≤ 11008) (hP : ∃ s, rDv x2 x3 x4 x5 x6 σ k s ∧ S s) (hR : ∃ c s, rDv x2 x3 x4 x5 x6 σ c s ∧ M c s) : ∃ s, S s ∧ M k s ∧ (zsP s).length ≤ 11008 := by
  obtain ⟨s, h1, h2, h3⟩ := j_A (fun h g => rDv_U h g) hP hR
  exact ⟨s, h2, h3, by rw [rDv_p h1]; exact hp⟩
theorem rQt_p {x2 x3 x4 x5 x6 : Int32} {σ s : zSt} {c : Int32} (h : rQt x2 x3 x4 x5 x6 σ c s) : zsP s = zsP σ := by
  rcases h with ⟨_, _, e⟩ | ⟨_, o, _, w⟩
  · subst e; rfl
  · exact rPd_p w
theorem j_quotient {x2 x3 x4 x5 x6 : Int32} {S : zSt → Prop} {M : Int32 → zSt → Prop} {σ : zSt} {k : Int32} (hp : (zsP σ).length ≤ 11008) (hP : ∃ s, rQt x2 x3 x4 x5 x6 σ k s ∧ S s) (hR : ∃ c s, rQt x2 x3 x4 x5 x6 σ c s ∧ M c s) : ∃ s, S s ∧ M k s ∧ (zsP s).length ≤ 11008 := by
  obtain ⟨s, h1, h2, h3⟩ := j_A (fun h g => rQt_U h g) hP hR
  exact ⟨s, h2, h3, by rw [rQt_p h1]; exact hp⟩
theorem rSh_p {x2 x3 x4 x5 x6 : Int32} {σ s : zSt} {c : Int32} (h : rSh x2 x3 x4 x5 x6 σ c s) : zsP s = zsP σ := by
  rcases h with ⟨_, _, e⟩ | ⟨_, o, _, w⟩
  · subst e; rfl
  · exact rPd_p w
theorem j_shape {x2 x3 x4 x5 x6 : Int32} {S : zSt → Prop} {M : Int32 → zSt → Prop} {σ : zSt} {k : Int32} (hp : (zsP σ).length ≤ 11008) (hP : ∃ s, rSh x2 x3 x4 x5 x6 σ k s ∧ S s) (hR : ∃ c s, rSh x2 x3 x4 x5 x6 σ c s ∧ M c s) : ∃ s, S s ∧ M k s ∧ (zsP s).length ≤ 11008 := by
  obtain ⟨s, h1, h2, h3⟩ := j_A (fun h g => rSh_U h g) hP hR
  exact ⟨s, h2, h3, by rw [rSh_p h1]; exact hp⟩
theorem rCv_p {x2 x3 x4 x5 : Int32} {σ s : zSt} {c : Int32} (h : rCv x2 x3 x4 x5 σ c s) : zsP s = zsP σ := by
  rcases h with ⟨_, _, e⟩ | ⟨_, ⟨_, o, _, w⟩ | ⟨_, o, _, w⟩ | ⟨_, _, y, _, e⟩ | ⟨_, _, y, _, e⟩⟩
  · subst e; rfl
  · exact rPw_p w
  · exact rPd_p w
  · subst e; rfl
  · subst e; rfl
theorem j_convert {x2 x3 x4 x5 : Int32} {S : zSt → Prop} {M : Int32 → zSt → Prop} {σ : zSt} {k : Int32} (hp : (zsP σ).length ≤ 11008) (hP : ∃ s, rCv x2 x3 x4 x5 σ k s ∧ S s) (hR : ∃ c s, rCv x2 x3 x4 x5 σ c s ∧ M c s) : ∃ s, S s ∧ M k s ∧ (zsP s).length ≤ 11008 := by
  obtain ⟨s, h1, h2, h3⟩ := j_A (fun h g => rCv_U h g) hP hR
  exact ⟨s, h2, h3, by rw [rCv_p h1]; exact hp⟩
theorem rFd_p {x2 : Int32} {x3 : Int64} {σ s : zSt} {c a : Int32} (h : rFd x2 x3 σ c a s) : zsP s = zsP σ := by
  rcases h with ⟨_, _, e⟩ | ⟨_, _, ⟨_, _, e⟩ | ⟨k, _, _, _, e⟩⟩ <;> subst e <;> rfl
theorem j_feed {x2 : Int32} {x3 : Int64} {S : zSt → Prop} {M : Int32 → zSt → Prop} {σ : zSt} {k b : Int32} {f : Nat → Int64} (hp : (zsP σ).length ≤ 11008) (hP : ∃ a s, rFd x2 x3 σ k a s ∧ S s ∧ (k = 0 → f 0 = Int32.toInt64 a)) (hR : ∃ c s, rFd x2 x3 σ c b s ∧ M c s) : ∃ s, S s ∧ M k s ∧ (zsP s).length ≤ 11008 ∧ (k = 0 → f 0 = Int32.toInt64 b) := by
  obtain ⟨s, h1, h2, h3, h4⟩ := j_B (v := Int32.toInt64) (fun h g => rFd_U h g) hP hR
  exact ⟨s, h2, h3, by rw [rFd_p h1]; exact hp, h4⟩
theorem rRd_p {x2 x3 x4 : Int32} {σ s : zSt} {c a : Int32} (h : rRd x2 x3 x4 σ c a s) : zsP s = zsP σ := by
  have key : ∀ {α : Type} {o : Option α} {fit : α → Prop} {new : α → zSt → Prop}, (∀ v t, new v t → zsP t = zsP σ) → rRs o fit new σ c a s → zsP s = zsP σ := by
    intro α o fit new hn w
    rcases w with ⟨_, _, _, e⟩ | ⟨v, _, _, _, _, e⟩ | ⟨v, _, _, _, e⟩
    · subst e; rfl
    · exact hn v s e
    · subst e; rfl
  rcases h with ⟨_, _, e⟩ | ⟨_, ⟨_, b, o, _, _, w⟩ | ⟨_, o, _, w⟩ | ⟨_, o, _, w⟩ | ⟨_, o, _, w⟩⟩
  · subst e; rfl
  · exact key (fun v t e => by subst e; rfl) w
  · exact key (fun v t e => by subst e; rfl) w
  · exact key (fun v t ⟨u, _, e⟩ => by subst e; rfl) w
  · exact key (fun v t ⟨u, _, e⟩ => by subst e; rfl) w
theorem j_read {x2 x3 x4 : Int32} {S : zSt → Prop} {M : Int32 → zSt → Prop} {σ : zSt} {k b : Int32} {f : Nat → Int64} (hp : (zsP σ).length ≤ 11008) (hL : zsL σ ≤ 4100) (hP : ∃ a s, rRd x2 x3 x4 σ k a s ∧ S s ∧ (k = 0 → f 0 = (fun a : Int32 => if a = 0 then (0 : Int64) else 1) a)) (hR : ∃ c s, rRd x2 x3 x4 σ c b s ∧ M c s) : ∃ s, S s ∧ M k s ∧ (zsP s).length ≤ 11008 ∧ (k = 0 → f 0 = (fun a : Int32 => if a = 0 then (0 : Int64) else 1) b) := by
  obtain ⟨s, h1, h2, h3, h4⟩ := j_B (v := (fun a : Int32 => if a = 0 then (0 : Int64) else 1)) (fun h g => rRd_U hL h g) hP hR
  exact ⟨s, h2, h3, by rw [rRd_p h1]; exact hp, h4⟩
theorem rAr_p {x2 x3 : Int32} {σ s : zSt} {c a : Int32} (h : rAr x2 x3 σ c a s) : zsP s = zsP σ := by
  obtain ⟨tp, A, _, e⟩ := h
  subst e; rfl
theorem j_argument {x2 x3 : Int32} {S : zSt → Prop} {M : Int32 → zSt → Prop} {σ : zSt} {k b : Int32} {f : Nat → Int64} (hp : (zsP σ).length ≤ 11008) (hP : ∃ a s, rAr x2 x3 σ k a s ∧ S s ∧ (k = 0 → f 0 = Int32.toInt64 a)) (hR : ∃ c s, rAr x2 x3 σ c b s ∧ M c s) : ∃ s, S s ∧ M k s ∧ (zsP s).length ≤ 11008 ∧ (k = 0 → f 0 = Int32.toInt64 b) := by
  obtain ⟨s, h1, h2, h3, h4⟩ := j_B (v := Int32.toInt64) (fun h g => rAr_U h g) hP hR
  exact ⟨s, h2, h3, by rw [rAr_p h1]; exact hp, h4⟩
theorem j_told {x2 x3 x4 : Int32} {S : zSt → Prop} {M : Int32 → zSt → Prop} {σ : zSt} {k : Int32} {b : Int64} {f : Nat → Int64} (hp : (zsP σ).length ≤ 11008) (hP : ∃ a, rTd x2 x3 x4 σ k a ∧ S σ ∧ (k = 0 → f 0 = (fun a : Int64 => a) a)) (hR : ∃ c, rTd x2 x3 x4 σ c b ∧ M c σ) : ∃ s, S s ∧ M k s ∧ (zsP s).length ≤ 11008 ∧ (k = 0 → f 0 = (fun a : Int64 => a) b) := by
  obtain ⟨h1, h2, h3⟩ := j_C (M := fun c => M c σ) (v := (fun a : Int64 => a)) (fun h g => rTd_U h g) hP hR
  exact ⟨σ, h1, h2, hp, h3⟩
theorem j_compare {x2 x3 x4 : Int32} {S : zSt → Prop} {M : Int32 → zSt → Prop} {σ : zSt} {k : Int32} {b : Int32} {f : Nat → Int64} (hp : (zsP σ).length ≤ 11008) (hP : ∃ a, rCm x2 x3 x4 σ k a ∧ S σ ∧ (k = 0 → f 0 = Int32.toInt64 a)) (hR : ∃ c, rCm x2 x3 x4 σ c b ∧ M c σ) : ∃ s, S s ∧ M k s ∧ (zsP s).length ≤ 11008 ∧ (k = 0 → f 0 = Int32.toInt64 b) := by
  obtain ⟨h1, h2, h3⟩ := j_C (M := fun c => M c σ) (v := Int32.toInt64) (fun h g => rCm_U h g) hP hR
  exact ⟨σ, h1, h2, hp, h3⟩
theorem DW_put (l : Launch) (D : va_G) (g : Nat → ClassId) (q : Nat → Nat) (ws : va_W) (x2 : Int32) (x3 : Int32) (x4 : Int64) (hlt : l.stackTraces = false) (hI : q_I (nsh g q) q ws) (hC : iC g q ws) {σ : zSt} (hS : sC g q ws σ) (hk0 : zOk σ) : ∀ sz, q_Mx l y_NH_put prog_1_method_5_code 5 none 9 2 12 D g [.ref (q 0), .int x2, .int x3, .long x4] ws sz (va_Qv (fun u => iP g q ws u ∧ ∃ σ2, rPt x2 x3 x4 σ 0 σ2 ∧ sC g q u σ2) (q_B D g (va_A ws sz)) (va_A ws sz)) (fun E u => ∃ c : Int32, E = qE c ∧ (c = 1) ∧ iP g q ws u ∧ rPt x2 x3 x4 σ c σ ∧ sC g q u σ) := by
  obtain ⟨i3, hi3, e3⟩ := iX x3
  exact CW_put l D g q ws x2 x3 x4 i3 hi3 e3 hlt hI hC hS hk0
theorem DW_told (l : Launch) (D : va_G) (g : Nat → ClassId) (q : Nat → Nat) (ws : va_W) (x2 : Int32) (x3 : Int32) (x4 : Int32) (hlt : l.stackTraces = false) (hI : q_I (nsh g q) q ws) (hC : iC g q ws) {σ : zSt} (hS : sC g q ws σ) (hk0 : zOk σ) : ∀ sz, q_Mx l y_NH_told prog_1_method_6_code 7 (some .long) 9 4 24 D g [.ref (q 0), .int x2, .int x3, .int x4] ws sz (va_Ql (fun r u => iP g q ws u ∧ rTd x2 x3 x4 σ 0 r ∧ sC g q u σ) (q_B D g (va_A ws sz)) (va_A ws sz)) (fun E u => ∃ c : Int32, E = qE c ∧ (c = 1 ∨ c = 2) ∧ iP g q ws u ∧ rTd x2 x3 x4 σ c 0 ∧ sC g q u σ) := by
  obtain ⟨i3, hi3, e3⟩ := iX x3
  exact CW_told l D g q ws x2 x3 x4 i3 hi3 e3 hlt hI hC hS hk0
theorem DW_read (l : Launch) (D : va_G) (g : Nat → ClassId) (q : Nat → Nat) (ws : va_W) (x2 : Int32) (x3 : Int32) (x4 : Int32) (hlt : l.stackTraces = false) (hI : q_I (nsh g q) q ws) (hC : iC g q ws) {σ : zSt} (hS : sC g q ws σ) (hk0 : zOk σ) : ∀ sz, q_Mx l y_NH_read prog_1_method_4_code 5 (some .boolean) 9 4 24 D g [.ref (q 0), .int x2, .int x3, .int x4] ws sz (va_Qi (fun r u => iP g q ws u ∧ ∃ σ2, rRd x2 x3 x4 σ 0 r σ2 ∧ sC g q u σ2) (q_B D g (va_A ws sz)) (va_A ws sz)) (fun E u => ∃ c : Int32, E = qE c ∧ (c = 1 ∨ c = 2) ∧ iP g q ws u ∧ rRd x2 x3 x4 σ c 0 σ ∧ sC g q u σ) := by
  obtain ⟨i3, hi3, e3⟩ := iX x3
  exact CW_read l D g q ws x2 x3 x4 i3 hi3 e3 hlt hI hC hS hk0
theorem DW_compare (l : Launch) (D : va_G) (g : Nat → ClassId) (q : Nat → Nat) (ws : va_W) (x2 : Int32) (x3 : Int32) (x4 : Int32) (hlt : l.stackTraces = false) (hI : q_I (nsh g q) q ws) (hC : iC g q ws) {σ : zSt} (hS : sC g q ws σ) (hk0 : zOk σ) : ∀ sz, q_Mx l y_NH_compare prog_1_method_7_code 9 (some .int) 9 3 18 D g [.ref (q 0), .int x2, .int x3, .int x4] ws sz (va_Qi (fun r u => iP g q ws u ∧ rCm x2 x3 x4 σ 0 r ∧ sC g q u σ) (q_B D g (va_A ws sz)) (va_A ws sz)) (fun E u => ∃ c : Int32, E = qE c ∧ (c = 1 ∨ c = 2) ∧ iP g q ws u ∧ rCm x2 x3 x4 σ c 0 ∧ sC g q u σ) := by
  obtain ⟨i3, hi3, e3⟩ := iX x3
  obtain ⟨i4, hi4, e4⟩ := iX x4
  exact CW_compare l D g q ws x2 x3 x4 i3 hi3 i4 hi4 e3 e4 hlt hI hC hS hk0
theorem DW_wholeBy (l : Launch) (D : va_G) (g : Nat → ClassId) (q : Nat → Nat) (ws : va_W) (x2 : Int32) (x3 : Int32) (x4 : Int32) (x5 : Int32) (hlt : l.stackTraces = false) (hI : q_I (nsh g q) q ws) (hC : iC g q ws) {σ : zSt} (hS : sC g q ws σ) (hk0 : zOk σ) : ∀ sz, q_Mx l y_NH_wholeBy prog_1_method_9_code 6 none 9 5 30 D g [.ref (q 0), .int x2, .int x3, .int x4, .int x5] ws sz (va_Qv (fun u => iP g q ws u ∧ ∃ σ2, rWb x2 x3 x4 x5 σ 0 σ2 ∧ sC g q u σ2) (q_B D g (va_A ws sz)) (va_A ws sz)) (fun E u => ∃ c : Int32, E = qE c ∧ (c = 1 ∨ c = 2) ∧ iP g q ws u ∧ rWb x2 x3 x4 x5 σ c σ ∧ sC g q u σ) := by
  obtain ⟨i3, hi3, e3⟩ := iX x3
  obtain ⟨i5, hi5, e5⟩ := iX x5
  exact CW_wholeBy l D g q ws x2 x3 x4 x5 i3 hi3 i5 hi5 e3 e5 hlt hI hC hS
