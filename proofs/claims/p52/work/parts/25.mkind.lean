/-- turns without signs together, of a hand (-1: of both) -/
def zldo (D : zD) (t : Nat → Int32) (o : Int32) (m : Nat) : Nat := zsm (fun j => if zac D o (dH D j) = true then zab (t j) else 0) m
/-- HELD 1, STRAINED 2, BARRED 3 -/
def zkd (D : zD) (t : Nat → Int32) (o : Int32) (T : Nat) : Int32 := if 0 < zwrL zno (zP D t o) then 3 else if T < zldo D t o (dJ D) then 2 else 1
theorem zP_len {D : zD} (hD : zDok D) (t : Nat → Int32) (o : Int32) : (zP D t o).length ≤ 14 := by
  have := zLf_len (D := D) (t := t) (o := o) (dF D)
  have := hD.1
  have := hD.2.2.2.1
  unfold zP
  omega
theorem zpr_le {D : zD} (hD : zDok D) {m : Nat} (hm : m ≤ dJ D) : zpr (zsp D) m ≤ 15625 := by
  have h6 := hD.1.2.2
  have key : ∀ m, m ≤ dJ D → zpr (zsp D) m ≤ 5 ^ m := by
    intro m
    induction m with
    | zero => intro _; exact Nat.le_refl _
    | succ m ih =>
      intro h
      have h1 := ih (by omega)
      have h2 := (zsp_b hD (show m < dJ D by omega)).2
      show zpr (zsp D) m * zsp D m ≤ 5 ^ (m + 1)
      rw [Nat.pow_succ]
      exact Nat.mul_le_mul h1 h2
  exact Nat.le_trans (key m hm) (Nat.le_trans (Nat.pow_le_pow_right (by decide) (show m ≤ 6 by omega)) (by decide))
/-- turns by digits -/
def ztv (D : zD) (d : Nat → Nat) (j : Nat) : Int32 := nI (d j) - nI (dB D j)
abbrev zcode_t (D : zD) (i : Nat) : Nat → Int32 := ztv D (zdg (zsp D) (dJ D) i)
