theorem nI_inj {a b : Nat} (ha : a < 2 ^ 31) (hb : b < 2 ^ 31) (h : nI a = nI b) : a = b := by
  have h1 := nI_leD (a := a) (y := b) (by rw [h]; exact Int32.le_refl _) ha hb
  have h2 := nI_leD (a := b) (y := a) (by rw [h]; exact Int32.le_refl _) hb ha
  omega
