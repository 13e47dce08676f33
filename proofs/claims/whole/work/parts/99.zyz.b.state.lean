/-! whole's law: the state in the reference's cells -/
def mWr (g : Nat → ClassId) (q : Nat → Nat) (u : va_W) (W : Nat → Int) : Prop := ∃ f0 f1 : Nat → Int32, u[121]? = (some (q 121, .inl (g 0, (1408 : Int32).toNatClampNeg, .inl f0)) : Option (Nat × va_E)) ∧ u[122]? = (some (q 122, .inl (g 3, 11, .inl f1)) : Option (Nat × va_E)) ∧ wRw f0 f1 W
def mDr (g : Nat → ClassId) (q : Nat → Nat) (u : va_W) (D : Nat → Int × Int) : Prop := ∃ f0 f1 f2 f3 : Nat → Int32, u[136]? = (some (q 136, .inl (g 0, (10000 : Int32).toNatClampNeg, .inl f0)) : Option (Nat × va_E)) ∧ u[137]? = (some (q 137, .inl (g 0, (10 : Int32).toNatClampNeg, .inl f1)) : Option (Nat × va_E)) ∧ u[138]? = (some (q 138, .inl (g 3, 10, .inl f2)) : Option (Nat × va_E)) ∧ u[139]? = (some (q 139, .inl (g 0, (10 : Int32).toNatClampNeg, .inl f3)) : Option (Nat × va_E)) ∧ dRv f0 f1 f2 f3 D
def mFr (g : Nat → ClassId) (q : Nat → Nat) (u : va_W) (V N : Nat → Int64) : Prop := ∃ f : Nat → Int64, u[167]? = (some (q 167, .inl (g 1, 20, .inr (.inl f))) : Option (Nat × va_E)) ∧ (∀ i, i < 10 → f i = V i) ∧ ∀ i, i < 10 → f (10 + i) = N i
def mTx (g : Nat → ClassId) (q : Nat → Nat) (u : va_W) (th : Int32) (L : Nat) (B : Nat → Int) (l : List Nat) : Prop := ∃ (s p : Int32) (r r2 : Nat → Int32), u[116]? = (some (q 116, .inr (12, [.int th, .ref (q 117), .int s, .ref (q 118), .int p, .ref (q 119), .ref (q 134), .ref (q 145), .ref (q 153), .ref (q 157), .ref (q 167), .ref (q 168)])) : Option (Nat × va_E)) ∧ u[117]? = (some (q 117, .inl (g 0, (4100 : Int32).toNatClampNeg, .inl r)) : Option (Nat × va_E)) ∧ u[118]? = (some (q 118, .inl (g 0, (12200 : Int32).toNatClampNeg, .inl r2)) : Option (Nat × va_E)) ∧ s.toInt = (L : Int) ∧ yTr r L B ∧ yRt p r2 l
def mAr (g : Nat → ClassId) (q : Nat → Nat) (u : va_W) (A : List yA) : Prop := ∃ (x0 x1 x2 x3 x4 x5 x6 x7 x8 x9 x10 x11 x12 x13 x14 x15 x16 x17 x18 x19 x20 x21 : Int32) (kd sz : Nat → Int32) (va : Nat → Int64) (tx : Nat → Int32), u[157]? = (some (q 157, .inr (17, [.int x0, .ref (q 158), .int x1, .int x2, .ref (q 159), .ref (q 160), .ref (q 161), .ref (q 162), .ref (q 163), .int x3, .ref (q 164), .int x4, .int x5, .int x6, .int x7, .int x8, .int x9, .int x10, .int x11, .int x12, .int x13, .int x14, .int x15, .int x16, .ref (q 165), .int x17, .int x18, .int x19, .ref (q 166), .int x20, .int x21])) : Option (Nat × va_E)) ∧ u[159]? = (some (q 159, .inl (g 0, (9 : Int32).toNatClampNeg, .inl kd)) : Option (Nat × va_E)) ∧ u[160]? = (some (q 160, .inl (g 0, (9 : Int32).toNatClampNeg, .inl sz)) : Option (Nat × va_E)) ∧ u[161]? = (some (q 161, .inl (g 1, 9, .inr (.inl va))) : Option (Nat × va_E)) ∧ u[162]? = (some (q 162, .inl (g 0, (576 : Int32).toNatClampNeg, .inl tx)) : Option (Nat × va_E)) ∧ yRA x2 kd sz va tx A
/-- the reference's cells hold the state, and what was thrown last -/
def sM (g : Nat → ClassId) (q : Nat → Nat) (u : va_W) (th : Int32) (σ : zSt) : Prop := mWr g q u (zsW σ) ∧ mDr g q u (zsD σ) ∧ mFr g q u (zsV σ) (zsN σ) ∧ mTx g q u th (zsL σ) (zsB σ) (zsP σ) ∧ mAr g q u (zsA σ)
theorem mWr_fr {g : Nat → ClassId} {q : Nat → Nat} {ws u : va_W} {W : Nat → Int} (h : mWr g q ws W) (h0 : u[121]? = ws[121]?) (h1 : u[122]? = ws[122]?) : mWr g q u W := by
  obtain ⟨f0, f1, a, b, c⟩ := h
  exact ⟨f0, f1, h0.trans a, h1.trans b, c⟩
theorem mDr_fr {g : Nat → ClassId} {q : Nat → Nat} {ws u : va_W} {D : Nat → Int × Int} (h : mDr g q ws D) (h0 : u[136]? = ws[136]?) (h1 : u[137]? = ws[137]?) (h2 : u[138]? = ws[138]?) (h3 : u[139]? = ws[139]?) : mDr g q u D := by
  obtain ⟨f0, f1, f2, f3, a, b, c, d, e⟩ := h
  exact ⟨f0, f1, f2, f3, h0.trans a, h1.trans b, h2.trans c, h3.trans d, e⟩
theorem mFr_fr {g : Nat → ClassId} {q : Nat → Nat} {ws u : va_W} {V N : Nat → Int64} (h : mFr g q ws V N) (h0 : u[167]? = ws[167]?) : mFr g q u V N := by
  obtain ⟨f, a, b⟩ := h
  exact ⟨f, h0.trans a, b⟩
theorem mTx_fr {g : Nat → ClassId} {q : Nat → Nat} {ws u : va_W} {th : Int32} {L : Nat} {B : Nat → Int} {l : List Nat} (h : mTx g q ws th L B l) (h0 : u[116]? = ws[116]?) (h1 : u[117]? = ws[117]?) (h2 : u[118]? = ws[118]?) : mTx g q u th L B l := by
  obtain ⟨s, p, r, r2, a, b, c, e⟩ := h
  exact ⟨s, p, r, r2, h0.trans a, h1.trans b, h2.trans c, e⟩
theorem mAr_fr {g : Nat → ClassId} {q : Nat → Nat} {ws u : va_W} {A : List yA} (h : mAr g q ws A) (h0 : u[157]? = ws[157]?) (h1 : u[159]? = ws[159]?) (h2 : u[160]? = ws[160]?) (h3 : u[161]? = ws[161]?) (h4 : u[162]? = ws[162]?) : mAr g q u A := by
  obtain ⟨x0, x1, x2, x3, x4, x5, x6, x7, x8, x9, x10, x11, x12, x13, x14, x15, x16, x17, x18, x19, x20, x21, kd, sz, va, tx, y0, y1, y2, y3, y4, e⟩ := h
  exact ⟨x0, x1, x2, x3, x4, x5, x6, x7, x8, x9, x10, x11, x12, x13, x14, x15, x16, x17, x18, x19, x20, x21, kd, sz, va, tx, h0.trans y0, h1.trans y1, h2.trans y2, h3.trans y3, h4.trans y4, e⟩
/-- the other side's calls leave a side as it is -/
theorem sC_fr {g : Nat → ClassId} {q : Nat → Nat} {ws u : va_W} {σ : zSt} (h : sC g q ws σ) (hu : ∀ i, i < 116 → u[i]? = ws[i]?) : sC g q u σ := by
  obtain ⟨h1, h2, h3, h4, h5, h6, h7⟩ := h
  exact ⟨fun i hi => cWr_fr (h1 i hi) (hu _ (by omega)) (hu _ (by omega)), fun i hi => cDr_fr (h2 i hi) (hu _ (by omega)) (hu _ (by omega)) (hu _ (by omega)), cFr_fr h3 (hu _ (by decide)), cFr_fr h4 (hu _ (by decide)), cTp_fr h5 (hu _ (by decide)) (hu _ (by decide)), cPp_fr h6 (hu _ (by decide)) (hu _ (by decide)), cAr_fr h7 (fun i _ _ => hu i (by omega)) (fun i _ _ => hu i (by omega))⟩
theorem sM_fr {g : Nat → ClassId} {q : Nat → Nat} {ws u : va_W} {th : Int32} {σ : zSt} (h : sM g q ws th σ) (hu : ∀ i, 116 ≤ i → i ≠ 169 → u[i]? = ws[i]?) : sM g q u th σ := by
  obtain ⟨h1, h2, h3, h4, h5⟩ := h
  exact ⟨mWr_fr h1 (hu _ (by decide) (by decide)) (hu _ (by decide) (by decide)), mDr_fr h2 (hu _ (by decide) (by decide)) (hu _ (by decide) (by decide)) (hu _ (by decide) (by decide)) (hu _ (by decide) (by decide)), mFr_fr h3 (hu _ (by decide) (by decide)), mTx_fr h4 (hu _ (by decide) (by decide)) (hu _ (by decide) (by decide)) (hu _ (by decide) (by decide)), mAr_fr h5 (hu _ (by decide) (by decide)) (hu _ (by decide) (by decide)) (hu _ (by decide) (by decide)) (hu _ (by decide) (by decide)) (hu _ (by decide) (by decide))⟩
/-- what format leaves: code (0, or 3), answer, state -/
def rFm (σ : zSt) (c a : Int32) (σ' : zSt) : Prop := (256 < zsL σ ∧ c = 3 ∧ σ' = σ) ∨ (zsL σ ≤ 256 ∧ c = 0 ∧ ∃ F pl o, zRun (zsB σ) (zsL σ) (zsA σ) (zsL σ + 1) 0 0 (-1) [] F pl o ∧ ((F = 0 ∧ a.toInt = (o.length : Int) ∧ o.length ≤ 4096 ∧ σ' = (zsW σ, zsD σ, zsV σ, zsN σ, 0, zsB σ, o, zsA σ)) ∨ (F ≠ 0 ∧ a.toInt = -1000 * F - pl ∧ σ' = (zsW σ, zsD σ, zsV σ, zsN σ, zsL σ, zsB σ, [], zsA σ))))
theorem rFm_U {σ : zSt} {c a c2 a2 : Int32} {s t : zSt} (h : rFm σ c a s) (g : rFm σ c2 a2 t) : c = c2 ∧ (c = 0 → a = a2) ∧ s = t := by
  rcases h with ⟨h1, h2, h3⟩ | ⟨h1, h2, F, pl, o, h3, h4⟩ <;> rcases g with ⟨g1, g2, g3⟩ | ⟨g1, g2, F2, pl2, o2, g3, g4⟩
  · exact ⟨h2.trans g2.symm, fun w => absurd (h2.symm.trans w) (by decide), h3.trans g3.symm⟩
  · omega
  · omega
  · obtain ⟨u1, u2, u3⟩ := zRun_U h3 g3
    refine ⟨h2.trans g2.symm, ?_⟩
    rcases h4 with ⟨p1, p2, p3, p4⟩ | ⟨p1, p2, p3⟩ <;> rcases g4 with ⟨r1, r2, r3, r4⟩ | ⟨r1, r2, r3⟩
    · have oo := u2 p1
      exact ⟨fun _ => Int32.toInt_inj.mp (by rw [p2, r2, oo]), by rw [p4, r4, oo]⟩
    · exact absurd (u1.symm.trans p1) r1
    · exact absurd (u1.trans r1) p1
    · exact ⟨fun _ => Int32.toInt_inj.mp (by rw [p2, r2, u1, u3 p1]), by rw [p3, r3]⟩

