theorem zcnt_0 {P : Nat → Bool} {n : Nat} : zcnt P n = 0 ↔ ∀ i, i < n → ¬ P i = true := by
  induction n with
  | zero => exact ⟨fun _ i h => absurd h (by omega), fun _ => rfl⟩
  | succ n ih =>
    by_cases h : P n = true
    · rw [zcnt_t h]
      exact ⟨fun q => by omega, fun q => absurd h (q n (by omega))⟩
    · rw [zcnt_f h, ih]
      constructor
      · intro q i hi
        rcases Nat.lt_succ_iff_lt_or_eq.mp hi with g | rfl
        · exact q i g
        · exact h
      · intro q i hi
        exact q i (by omega)
