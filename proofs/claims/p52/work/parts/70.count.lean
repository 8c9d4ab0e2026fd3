theorem zcnt_s {P : Nat → Bool} {i : Nat} : zcnt P (i + 1) = zcnt P i + (if P i = true then 1 else 0) := by
  by_cases h : P i = true
  · rw [zcnt_t h, if_pos h]
  · rw [zcnt_f h, if_neg h]
    omega
