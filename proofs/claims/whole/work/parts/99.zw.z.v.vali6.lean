/-! values, for whole: a format's run -/
def zI32 (v : Int) : Int32 := Int32.ofInt v
theorem zI32_e {x : Int32} {v : Int} (h : x.toInt = v) : x = zI32 v := by
  unfold zI32
  rw [← h, Int32.ofInt_toInt]
/-- the fault (0: none), its place, what is printed -/
def zRun (B : Nat → Int) (L : Nat) (A : List yA) (n p ord : Nat) (last : Int) (out : List Nat) (F pl : Int) (o : List Nat) : Prop := match n with
  | 0 => False
  | n + 1 => (L ≤ p ∧ F = 0 ∧ o = out) ∨ (p < L ∧ B p ≠ 37 ∧ ((4096 < out.length + 1 ∧ F = 12 ∧ pl = (p : Int)) ∨ (out.length + 1 ≤ 4096 ∧ zRun B L A n (p + 1) ord last (out ++ [(B p).toNat]) F pl o))) ∨ (p < L ∧ B p = 37 ∧ ∃ F1 wh o1 l1, zFnd (zF3 B L (p + 1)).1 (zI32 (yWd B L (p + 1))) (zI32 (yPc B L (p + 1))) (zI32 (yCv B L (p + 1))) (zF3 B L (p + 1)).2.1 (yIdx B L (p + 1)) ord last A F1 wh o1 l1 ∧ ((F1 ≠ 0 ∧ F = F1 ∧ pl = (p : Int)) ∨ (F1 = 0 ∧ ∃ q, zPc (zI32 (yCv B L (p + 1))) (zF3 B L (p + 1)).1 (yWd B L (p + 1)) (yPc B L (p + 1)) (A.getD (zWh (zF3 B L (p + 1)).1 (yIdx B L (p + 1)) ord last).toNat yA0) q ∧ ((4096 < out.length + q.length ∧ F = 12 ∧ pl = (p : Int)) ∨ (out.length + q.length ≤ 4096 ∧ zRun B L A n (yP4 B L (p + 1) + 1) o1.toNat l1 (out ++ q) F pl o)))))
theorem zFnd_U {fl wd pr cv tw : Int32} {idx ord : Nat} {last : Int} {A : List yA} {F wh o l F2 wh2 o2 l2 : Int} (h : zFnd fl wd pr cv tw idx ord last A F wh o l) (g : zFnd fl wd pr cv tw idx ord last A F2 wh2 o2 l2) : F = F2 ∧ (F = 0 → o = o2 ∧ l = l2) := by
  rcases h with ⟨h1, h2⟩ | ⟨h1, h2, h3, h4, h5⟩ | ⟨h1, h2, h3⟩
  · rcases g with ⟨g1, g2⟩ | ⟨g1, _⟩ | ⟨g1, _⟩
    · refine ⟨by rw [h2, g2], fun w => absurd (Int32.toInt_inj.mp (show (zBs fl wd pr cv tw).toInt = (0 : Int32).toInt from ?_)) h1⟩
      rw [← h2, w]
      rfl
    · exact absurd g1 h1
    · exact absurd g1 h1
  · rcases g with ⟨g1, _⟩ | ⟨g1, g2, g3, g4, g5⟩ | ⟨g1, g2, _⟩
    · exact absurd h1 g1
    · exact ⟨by rw [h3, g3], fun _ => ⟨by rw [h4, g4], by rw [h5, g5]⟩⟩
    · exact absurd h2 g2
  · rcases g with ⟨g1, _⟩ | ⟨g1, g2, _⟩ | ⟨g1, g2, g3⟩
    · exact absurd h1 g1
    · exact absurd g2 h2
    · rcases h3 with ⟨a1, a2⟩ | ⟨a1, a2, a3⟩
      · rcases g3 with ⟨b1, b2⟩ | ⟨b1, b2, b3⟩
        · exact ⟨by rw [a2, b2], fun w => by omega⟩
        · exfalso
          omega
      · rcases g3 with ⟨b1, b2⟩ | ⟨b1, b2, b3⟩
        · exfalso
          omega
        · rcases a3 with ⟨c1, c2⟩ | ⟨c1, c2, c3, c4, c5⟩
          · rcases b3 with ⟨d1, d2⟩ | ⟨d1, _⟩
            · exact ⟨by rw [c2, d2], fun w => by omega⟩
            · exact absurd d1 c1
          · rcases b3 with ⟨d1, d2⟩ | ⟨d1, d2, d3, d4, d5⟩
            · exact absurd c1 d1
            · exact ⟨by rw [c2, d2], fun _ => ⟨by rw [c4, d4], by rw [c5, d5]⟩⟩
theorem zRun_U {B : Nat → Int} {L : Nat} {A : List yA} : ∀ {n p ord : Nat} {last : Int} {out : List Nat} {F pl F2 pl2 : Int} {o o2 : List Nat}, zRun B L A n p ord last out F pl o → zRun B L A n p ord last out F2 pl2 o2 → F = F2 ∧ (F = 0 → o = o2) ∧ (F ≠ 0 → pl = pl2) := by
  intro n
  induction n with
  | zero =>
    intro p ord last out F pl F2 pl2 o o2 h
    exact h.elim
  | succ n ih =>
    intro p ord last out F pl F2 pl2 o o2 h g
    unfold zRun at h g
    have f12 : ∀ {F F2 : Int}, F = 12 ∧ pl = (p : Int) → F2 = 12 ∧ pl2 = (p : Int) → F = F2 ∧ (F = 0 → o = o2) ∧ (F ≠ 0 → pl = pl2) := fun a b => ⟨by rw [a.1, b.1], fun w => by have := a.1; omega, fun _ => by rw [a.2, b.2]⟩
    rcases h with ⟨h1, h2, h3⟩ | ⟨h1, h2, h3⟩ | ⟨h1, h2, h3⟩
    · rcases g with ⟨g1, g2, g3⟩ | ⟨g1, _⟩ | ⟨g1, _⟩
      · exact ⟨by rw [h2, g2], fun _ => by rw [h3, g3], fun w => absurd h2 w⟩
      · omega
      · omega
    · rcases g with ⟨g1, _⟩ | ⟨g1, g2, g3⟩ | ⟨_, g2, _⟩
      · omega
      · rcases h3 with ⟨a, h3⟩ | ⟨a, h3⟩ <;> rcases g3 with ⟨b, g3⟩ | ⟨b, g3⟩
        · exact f12 h3 g3
        · omega
        · omega
        · exact ih h3 g3
      · exact absurd g2 h2
    · rcases g with ⟨g1, _⟩ | ⟨_, g2, _⟩ | ⟨g1, g2, g3⟩
      · omega
      · exact absurd h2 g2
      · obtain ⟨F1, wh, o1, l1, h4, h5⟩ := h3
        obtain ⟨F1', wh', o1', l1', g4, g5⟩ := g3
        obtain ⟨e1, e2⟩ := zFnd_U h4 g4
        rcases h5 with ⟨h5, h6, h7⟩ | ⟨h5, q, h6, h7⟩
        · rcases g5 with ⟨g5, g6, g7⟩ | ⟨g5, _⟩
          · exact ⟨by rw [h6, g6, e1], fun w => absurd (h6.symm.trans w) h5, fun _ => by rw [h7, g7]⟩
          · exact absurd (e1.trans g5) h5
        · rcases g5 with ⟨g5, g6, g7⟩ | ⟨g5, q', g6, g7⟩
          · exact absurd (e1.symm.trans h5) g5
          · obtain ⟨e3, e4⟩ := e2 h5
            have eq := zPc_U h6 g6
            subst eq
            subst e3
            subst e4
            rcases h7 with ⟨a, h7⟩ | ⟨a, h7⟩ <;> rcases g7 with ⟨b, g7⟩ | ⟨b, g7⟩
            · exact f12 h7 g7
            · omega
            · omega
            · exact ih h7 g7
theorem Z_bsP {fl wd pr cv tw : Int32} : 0 ≤ (zBs fl wd pr cv tw).toInt ∧ (zBs fl wd pr cv tw).toInt ≤ 8 := by
  have J136 : ∀ {a0 fl wd pr cv a5 tw : Int32}, 0 ≤ (F_Dir_fault_J136 a0 fl wd pr cv a5 tw).toInt ∧ (F_Dir_fault_J136 a0 fl wd pr cv a5 tw).toInt ≤ 8 := by
    intro a0 fl wd pr cv a5 tw
    unfold F_Dir_fault_J136
    repeat' split
    all_goals decide
  have J119 : ∀ {a0 fl wd pr cv a5 tw : Int32}, 0 ≤ (F_Dir_fault_J119 a0 fl wd pr cv a5 tw).toInt ∧ (F_Dir_fault_J119 a0 fl wd pr cv a5 tw).toInt ≤ 8 := by
    intro a0 fl wd pr cv a5 tw
    unfold F_Dir_fault_J119
    repeat' split
    all_goals first | decide | exact J136
  have J82 : ∀ {a0 fl wd pr cv a5 tw : Int32}, 0 ≤ (F_Dir_fault_J82 a0 fl wd pr cv a5 tw).toInt ∧ (F_Dir_fault_J82 a0 fl wd pr cv a5 tw).toInt ≤ 8 := by
    intro a0 fl wd pr cv a5 tw
    unfold F_Dir_fault_J82
    repeat' split
    all_goals first | decide | exact J119
  have J63 : ∀ {a0 fl wd pr cv a5 tw : Int32}, 0 ≤ (F_Dir_fault_J63 a0 fl wd pr cv a5 tw).toInt ∧ (F_Dir_fault_J63 a0 fl wd pr cv a5 tw).toInt ≤ 8 := by
    intro a0 fl wd pr cv a5 tw
    unfold F_Dir_fault_J63
    repeat' split
    all_goals first | decide | exact J82
  unfold zBs F_Dir_fault
  repeat' split
  all_goals first | decide | exact J63
theorem zFnd_P {fl wd pr cv tw : Int32} {idx ord : Nat} {last : Int} {A : List yA} {F wh o l : Int} (h : zFnd fl wd pr cv tw idx ord last A F wh o l) : 0 ≤ F ∧ F ≤ 10 := by
  have := Z_bsP (fl := fl) (wd := wd) (pr := pr) (cv := cv) (tw := tw)
  rcases h with ⟨h1, h2⟩ | ⟨h1, h2, h3, h4, h5⟩ | ⟨h1, h2, h3⟩
  · omega
  · omega
  · rcases h3 with ⟨a1, a2⟩ | ⟨a1, a2, ⟨_, a3⟩ | ⟨_, a3, _⟩⟩ <;> omega
/-- what no fault means -/
theorem zFnd_0 {fl wd pr cv tw : Int32} {idx ord : Nat} {last : Int} {A : List yA} {F wh o l : Int} (h : zFnd fl wd pr cv tw idx ord last A F wh o l) (h0 : F = 0) : zBs fl wd pr cv tw = 0 ∧ (((cv = 37 ∨ cv = 110) ∧ o = (ord : Int) ∧ l = last) ∨ (¬ (cv = 37 ∨ cv = 110) ∧ 0 ≤ zWh fl idx ord last ∧ zWh fl idx ord last < A.length ∧ zTk cv (A.getD (zWh fl idx ord last).toNat yA0).1 ∧ wh = zWh fl idx ord last ∧ o = (zOr fl idx ord : Int) ∧ l = zWh fl idx ord last)) := by
  rcases h with ⟨h1, h2⟩ | ⟨h1, h2, h3, h4, h5⟩ | ⟨h1, h2, h3⟩
  · exfalso
    rw [h2] at h0
    exact h1 (Int32.toInt_inj.mp h0)
  · exact ⟨h1, Or.inl ⟨h2, h4, h5⟩⟩
  · refine ⟨h1, Or.inr ⟨h2, ?_⟩⟩
    rcases h3 with ⟨a1, a2⟩ | ⟨a1, a2, ⟨_, a3⟩ | ⟨b, a3, b2, b3, b4⟩⟩
    · omega
    · omega
    · exact ⟨a1, a2, b, b2, b3, b4⟩

