/-! whole's law: compare gives one answer -/
theorem x_wC {c d : Int32} {a b : Int} (h : wC c a b) (g : wC d a b) : c = d := by
  rcases h with ⟨h1, h2⟩ | ⟨h1, h2⟩ | ⟨h1, h2⟩ <;> rcases g with ⟨g1, g2⟩ | ⟨g1, g2⟩ | ⟨g1, g2⟩ <;> first | exact h1.trans g1.symm | omega
theorem x_yCf {P T u v : Nat} {c a c2 a2 : Int32} (h : yCf P T u v c a) (g : yCf P T u v c2 a2) : c = c2 ∧ (c = 0 → a = a2) := by
  rcases h with ⟨h1, h2⟩ | ⟨h1, h2, h3, h4⟩ <;> rcases g with ⟨g1, g2⟩ | ⟨g1, g2, g3, g4⟩
  · exact ⟨h2.trans g2.symm, fun w => absurd (h2.symm.trans w) (by decide)⟩
  · exact absurd h1 (fun w => w.elim g1 g2)
  · exact absurd g1 (fun w => w.elim h1 h2)
  · exact ⟨h3.trans g3.symm, fun _ => x_wC h4 g4⟩
theorem rCm_U {x2 x3 x4 : Int32} {σ : zSt} {c a c2 a2 : Int32} (h : rCm x2 x3 x4 σ c a) (g : rCm x2 x3 x4 σ c2 a2) : c = c2 ∧ (c = 0 → a = a2) := by
  rcases h with ⟨h1, h2⟩ | ⟨h1, h2⟩ <;> rcases g with ⟨g1, g2⟩ | ⟨g1, g2⟩
  · exact ⟨h2.trans g2.symm, fun w => absurd (h2.symm.trans w) (by decide)⟩
  · exact absurd g1 h1
  · exact absurd h1 g1
  · have ne : ∀ {p q : Int32}, x2 = p → x2 = q → p ≠ q → False := fun a b c => c (a.symm.trans b)
    rcases h2 with ⟨k, p1, p2⟩ | ⟨k, p1, p2⟩ | ⟨k, p1⟩ | ⟨k, p1⟩ <;> rcases g2 with ⟨j, q1, q2⟩ | ⟨j, q1, q2⟩ | ⟨j, q1⟩ | ⟨j, q1⟩
    · exact ⟨p1.trans q1.symm, fun _ => x_wC p2 q2⟩
    · exact (ne k j (by decide)).elim
    · exact (ne k j (by decide)).elim
    · exact (ne k j (by decide)).elim
    · exact (ne k j (by decide)).elim
    · exact ⟨p1.trans q1.symm, fun _ => x_wC p2 q2⟩
    · exact (ne k j (by decide)).elim
    · exact (ne k j (by decide)).elim
    · exact (ne k j (by decide)).elim
    · exact (ne k j (by decide)).elim
    · exact x_yCf p1 q1
    · exact (ne k j (by decide)).elim
    · exact (ne k j (by decide)).elim
    · exact (ne k j (by decide)).elim
    · exact (ne k j (by decide)).elim
    · exact x_yCf p1 q1
