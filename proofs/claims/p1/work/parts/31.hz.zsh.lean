/-! a zero that is shifted -/
theorem q_zishl {b : Int32} : (0 : Int32) <<< (b &&& 31) = 0 := by
  apply Int32.toBitVec_inj.mp
  rw [Int32.toBitVec_shiftLeft]
  show (0#32) <<< _ = 0#32
  simp
