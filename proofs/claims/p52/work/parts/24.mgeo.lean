theorem zT2_of {x : Int32} (h : -2 ≤ x ∧ x ≤ 2) : ∃ d, d < 5 ∧ x = nI d - 2 := by
  obtain ⟨d, hd, e⟩ := znatle (n := 4) (x := x + 2) (by decide) (by grind) (by show x + 2 ≤ 4; grind)
  exact ⟨d, by omega, by rw [← e]; grind⟩
theorem zab_2 {t : Int32} (h : -2 ≤ t ∧ t ≤ 2) : zab t ≤ 2 ∧ (if 0 ≤ t then t else 0 - t) = nI (zab t) ∧ (¬ 0 ≤ t → -t = nI (zab t)) ∧ (0 ≤ t → t = nI (zab t)) := by
  obtain ⟨d, hd, rfl⟩ := zT2_of h
  exact (by decide +kernel : ∀ d, d < 5 → (zab (nI d - 2) ≤ 2 ∧ (if 0 ≤ nI d - 2 then nI d - 2 else 0 - (nI d - 2)) = nI (zab (nI d - 2)) ∧ (¬ 0 ≤ nI d - 2 → -(nI d - 2) = nI (zab (nI d - 2))) ∧ (0 ≤ nI d - 2 → nI d - 2 = nI (zab (nI d - 2))))) d hd
