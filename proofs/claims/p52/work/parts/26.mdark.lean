theorem zcnt_rm {P R : Nat → Bool} {k : Nat} (hk : P k = true) (hR : R k = false) (he : ∀ i, i ≠ k → R i = P i) : ∀ {n : Nat}, zcnt R n + (if k < n then 1 else 0) = zcnt P n
  | 0 => by rw [if_neg (by omega)]; rfl
  | n + 1 => by
    have ih := zcnt_rm hk hR he (n := n)
    by_cases q : n = k
    · subst q
      rw [if_neg (by omega)] at ih
      rw [if_pos (by omega), zcnt_t hk, zcnt_f (by rw [hR]; decide)]
      omega
    · have e : (k < n + 1) ↔ (k < n) := by omega
      by_cases h : P n = true
      · rw [zcnt_t h, zcnt_t (by rw [he n q]; exact h)]
        by_cases r : k < n
        · rw [if_pos (by omega)]
          rw [if_pos r] at ih
          omega
        · rw [if_neg (by omega)]
          rw [if_neg r] at ih
          omega
      · rw [zcnt_f h, zcnt_f (by rw [he n q]; exact h)]
        by_cases r : k < n
        · rw [if_pos (by omega)]
          rw [if_pos r] at ih
          omega
        · rw [if_neg (by omega)]
          rw [if_neg r] at ih
          omega
