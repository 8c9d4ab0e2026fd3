theorem qP1_d {w : zW} {D : zD} {p : Nat} (h : qP1 w D p) : ∃ d : Nat → Nat, (∀ j, j < dJ D → d j < zsp D j) ∧ ∀ j, j < dJ D → w.1 (48 + 4 * p) j = ztv D d j := by
  refine ⟨fun j => if hj : j < dJ D then (h.2.1 j hj).choose else 0, fun j hj => ?_, fun j hj => ?_⟩
  · simp only [hj, dif_pos]
    exact (h.2.1 j hj).choose_spec.1
  · unfold ztv
    simp only [hj, dif_pos]
    exact (h.2.1 j hj).choose_spec.2
theorem zRc_b {E : Nat → Nat → Prop} {O O' : Nat → Bool} {p N : Nat} (hE : ∀ u v, u < N → E u v → v < N) (hp : p < N) (hO : ∀ v, v < N → O v = O' v) : ∀ {m v : Nat}, zRc E O p m v → v < N ∧ zRc E O' p m v
  | 0, v, q => ⟨by have q : v = p := q; omega, q⟩
  | m + 1, v, ⟨u, h1, h2, h3, h4⟩ => by
    have ih := zRc_b hE hp hO h1
    have hv := hE u v ih.1 h2
    exact ⟨hv, u, ih.2, h2, (hO v hv) ▸ h3, h4⟩
theorem zDs_b {E : Nat → Nat → Prop} {O O' : Nat → Bool} {p N v : Nat} (hE : ∀ u v, u < N → E u v → v < N) (hp : p < N) (hO : ∀ v, v < N → O v = O' v) {r : Option Nat} (q : zDs E O p v r) : zDs E O' p v r := by
  have hO' : ∀ v, v < N → O' v = O v := fun v hv => (hO v hv).symm
  cases r with
  | none => exact fun k z => q k (zRc_b hE hp hO' z).2
  | some m => exact ⟨(zRc_b hE hp hO q.1).2, fun k hk z => q.2 k hk (zRc_b hE hp hO' z).2⟩
/-- what isn't open is never come to -/
theorem zDs_no {E : Nat → Nat → Prop} {O : Nat → Bool} {p v : Nat} (hv : O v = false) (hne : v ≠ p) {r : Option Nat} (q : zDs E O p v r) : r = none := by
  cases r with
  | none => rfl
  | some m =>
    have h := q.1
    cases m with
    | zero => exact absurd h hne
    | succ m =>
      obtain ⟨u, _, _, h3, _⟩ := h
      rw [hv] at h3
      cases h3
