theorem zsw3 {k : Int32} (h : ¬ (0 ≤ k ∧ k < 3)) : k.toInt < 0 ∨ 2 < k.toInt := by
  rw [Int32.le_iff_toInt_le, Int32.lt_iff_toInt_lt, show (0 : Int32).toInt = 0 from rfl, show (3 : Int32).toInt = 3 from rfl] at h
  omega
