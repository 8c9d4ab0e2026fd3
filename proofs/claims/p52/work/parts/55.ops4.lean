theorem rn {r : Int32} {n : Nat} (hn : n ≤ 4000) (h : 0 ≤ r ∧ r < nI n) : ∃ j, j < n ∧ r = nI j := by
  obtain ⟨j, m, hj, hm, e, em⟩ := zSz_in (x := nI n) (L := 4000) (Or.inr ⟨n, hn, rfl⟩) (by decide) h.1 h.2
  have := nI_inj (a := n) (b := m) (by omega) (by omega) em
  exact ⟨j, by omega, e⟩
theorem r3 {r : Int32} (h : 0 ≤ r ∧ r < 3) : ∃ j, j < 3 ∧ r = nI j := rn (n := 3) (by decide) h
