/-! a number that is 0 or 1, as a boolean -/
theorem q_b01 {y : Int32} (h0 : (0 : Int32) ≤ y) (h1 : y ≤ 1) : y = 0 ∨ y = 1 := by
  have a := q_leI h0
  have b := q_leI h1
  have e0 : (0 : Int32).toInt = 0 := rfl
  have e1 : (1 : Int32).toInt = 1 := rfl
  rcases (show y.toInt = 0 ∨ y.toInt = 1 by omega) with h | h
  · exact Or.inl (Int32.toInt_inj.mp (h.trans e0.symm))
  · exact Or.inr (Int32.toInt_inj.mp (h.trans e1.symm))
theorem q_nz01 {y : Int32} (h0 : (0 : Int32) ≤ y) (h1 : y ≤ 1) : narrow .boolean (.int y) = .int y := by rcases q_b01 h0 h1 with rfl | rfl <;> rfl
theorem q_fz01 {y : Int32} (h0 : (0 : Int32) ≤ y) (h1 : y ≤ 1) : fits .boolean (.int y) = true := by rcases q_b01 h0 h1 with rfl | rfl <;> rfl
