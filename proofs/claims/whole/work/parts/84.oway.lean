theorem qP1_d {w : zW} {D : zD} {p : Nat} (h : qP1 w D p) : ∃ d : Nat → Nat, (∀ j, j < dJ D → d j < zsp D j) ∧ ∀ j, j < dJ D → w.1 (48 + 4 * p) j = ztv D d j := by
  refine ⟨fun j => if hj : j < dJ D then (h.2.1 j hj).choose else 0, fun j hj => ?_, fun j hj => ?_⟩
  · simp only [hj, dif_pos]
    exact (h.2.1 j hj).choose_spec.1
  · unfold ztv
    simp only [hj, dif_pos]
    exact (h.2.1 j hj).choose_spec.2
