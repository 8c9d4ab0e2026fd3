/-- by a walk of m steps, never back to p -/
def zRc (E : Nat → Nat → Prop) (O : Nat → Bool) (p : Nat) : Nat → Nat → Prop
  | 0, v => v = p
  | m + 1, v => ∃ u, zRc E O p m u ∧ E u v ∧ O v = true ∧ v ≠ p
def zDs (E : Nat → Nat → Prop) (O : Nat → Bool) (p v : Nat) : Option Nat → Prop
  | some m => zRc E O p m v ∧ ∀ k, k < m → ¬ zRc E O p k v
  | none => ∀ k, ¬ zRc E O p k v
def zvis (F : Nat → Option Nat) (v : Nat) : Bool := (F v).isSome
def zfd (F : Nat → Option Nat) (v : Nat) : Nat := (F v).getD 0
/-- the state of a search: F how far, Q the n that were come to, h done -/
def zBI (E : Nat → Nat → Prop) (O : Nat → Bool) (p N : Nat) (F : Nat → Option Nat) (Q : Nat → Nat) (n h : Nat) : Prop :=
  (n = zcnt (zvis F) N ∧ h ≤ n ∧ 0 < n) ∧ (∀ i, i < n → Q i < N ∧ zvis F (Q i) = true) ∧ (∀ v, zvis F v = true → ∃ i, i < n ∧ Q i = v) ∧ F p = some 0 ∧
  (∀ v m, F v = some m → zRc E O p m v ∧ m < n) ∧ (∀ i j, i ≤ j → j < n → zfd F (Q i) ≤ zfd F (Q j)) ∧ (∀ i j, h ≤ i → i < n → j < n → zfd F (Q j) ≤ zfd F (Q i) + 1) ∧
  ∀ i, i < h → ∀ v, E (Q i) v → O v = true → v ≠ p → zvis F v = true ∧ zfd F v ≤ zfd F (Q i) + 1
theorem zfd_some {F : Nat → Option Nat} {v m : Nat} (h : F v = some m) : zfd F v = m := by unfold zfd; rw [h]; rfl
theorem zvis_some {F : Nat → Option Nat} {v : Nat} (h : zvis F v = true) : F v = some (zfd F v) := by
  unfold zvis at h
  unfold zfd
  cases e : F v with
  | none => rw [e] at h; cases h
  | some m => rfl
def zst0 (p : Nat) : Nat → Option Nat := fun v => if v = p then some 0 else none
theorem zcnt_one {p : Nat} : ∀ {N : Nat}, p < N → zcnt (zvis (zst0 p)) N = 1 := by
  intro N hp
  have h := zcnt_rm (P := zvis (zst0 p)) (R := fun _ => false) (k := p) (by unfold zvis zst0; rw [if_pos rfl]; rfl) rfl (fun i hi => by unfold zvis zst0; rw [if_neg hi]; rfl) (n := N)
  rw [if_pos hp] at h
  have e : ∀ n, zcnt (fun _ => false) n = 0 := by
    intro n
    induction n with
    | zero => rfl
    | succ n ih => rw [zcnt_f (by decide), ih]
  rw [e] at h
  omega
theorem zBI_0 {E : Nat → Nat → Prop} {O : Nat → Bool} {p N : Nat} {Q : Nat → Nat} (hp : p < N) (hQ : Q 0 = p) : zBI E O p N (zst0 p) Q 1 0 := by
  have e : zst0 p p = some 0 := if_pos rfl
  have e2 : ∀ v m, zst0 p v = some m → v = p ∧ m = 0 := by
    intro v m h
    unfold zst0 at h
    split at h
    · rename_i q
      cases h
      exact ⟨q, rfl⟩
    · cases h
  refine ⟨⟨(zcnt_one hp).symm, by omega, by omega⟩, fun i hi => ?_, fun v hv => ?_, e, fun v m h => ?_, fun i j h1 h2 => ?_, fun i j h0 h1 h2 => ?_, fun i hi => absurd hi (by omega)⟩
  · obtain rfl : i = 0 := by omega
    rw [hQ]
    exact ⟨hp, by unfold zvis; rw [e]; rfl⟩
  · exact ⟨0, by omega, by rw [hQ]; exact ((e2 v _ (zvis_some hv)).1).symm⟩
  · obtain ⟨rfl, rfl⟩ := e2 v m h
    exact ⟨rfl, by omega⟩
  · rw [show i = j by omega]
    exact Nat.le_refl _
  · rw [show i = j by omega]
    omega
def zupO (F : Nat → Option Nat) (v m : Nat) : Nat → Option Nat := fun a => if a = v then some m else F a
def zupN (Q : Nat → Nat) (n v : Nat) : Nat → Nat := fun i => if i = n then v else Q i
theorem zBI_room {E : Nat → Nat → Prop} {O : Nat → Bool} {p N : Nat} {F : Nat → Option Nat} {Q : Nat → Nat} {n h v : Nat} (b : zBI E O p N F Q n h) (hv : v < N) (hF : F v = none) : n < N := by
  have h1 := zcnt_rm (P := fun a => zvis F a || decide (a = v)) (R := zvis F) (k := v) (by simp) (by unfold zvis; rw [hF]; rfl) (fun i hi => by simp [hi]) (n := N)
  rw [if_pos hv, ← b.1.1] at h1
  have h2 := zcnt_le (fun a => zvis F a || decide (a = v)) N
  omega
/-- one more is come to, from the one that is at work -/
theorem zBI_push {E : Nat → Nat → Prop} {O : Nat → Bool} {p N : Nat} {F : Nat → Option Nat} {Q : Nat → Nat} {n h v : Nat} (b : zBI E O p N F Q n h) (hh : h < n) (hv : v < N) (hF : F v = none) (hE : E (Q h) v) (hO : O v = true) :
    zBI E O p N (zupO F v (zfd F (Q h) + 1)) (zupN Q n v) (n + 1) h := by
  obtain ⟨⟨b1, b2, b2'⟩, b3, b4, b5, b6, b7, b8, b9⟩ := b
  have hvp : v ≠ p := by
    rintro rfl
    rw [b5] at hF
    cases hF
  have hvis : zvis F v = false := by unfold zvis; rw [hF]; rfl
  have ev : ∀ a, a ≠ v → zupO F v (zfd F (Q h) + 1) a = F a := fun a ha => if_neg ha
  have ev2 : zupO F v (zfd F (Q h) + 1) v = some (zfd F (Q h) + 1) := if_pos rfl
  have vs : ∀ a, zvis F a = true → a ≠ v := by
    rintro a ha rfl
    rw [hvis] at ha
    cases ha
  have fv : ∀ a, zvis F a = true → zfd (zupO F v (zfd F (Q h) + 1)) a = zfd F a := fun a ha => congrArg (fun o => o.getD 0) (ev a (vs a ha))
  have fvv : zfd (zupO F v (zfd F (Q h) + 1)) v = zfd F (Q h) + 1 := zfd_some ev2
  have vv : ∀ a, zvis F a = true → zvis (zupO F v (zfd F (Q h) + 1)) a = true := fun a ha => by
    unfold zvis
    rw [ev a (vs a ha)]
    exact ha
  have qi : ∀ i, i < n → zupN Q n v i = Q i := fun i hi => if_neg (by omega)
  have qn : zupN Q n v n = v := if_pos rfl
  have eF := zvis_some (b3 h hh).2
  have hlt := (b6 _ _ eF).2
  refine ⟨⟨?_, by omega, by omega⟩, fun i hi => ?_, fun a ha => ?_, ?_, fun a m ha => ?_, fun i j h1 h2 => ?_, fun i j h0 h1 h2 => ?_, fun i hi a e o q => ?_⟩
  · have h1 := zcnt_rm (P := zvis (zupO F v (zfd F (Q h) + 1))) (R := zvis F) (k := v) (by unfold zvis; rw [ev2]; rfl) hvis (fun a ha => by unfold zvis; rw [ev a ha]) (n := N)
    rw [if_pos hv] at h1
    omega
  · rcases Nat.lt_succ_iff_lt_or_eq.mp hi with g | rfl
    · rw [qi i g]
      exact ⟨(b3 i g).1, vv _ (b3 i g).2⟩
    · rw [qn]
      exact ⟨hv, by unfold zvis; rw [ev2]; rfl⟩
  · by_cases q : a = v
    · exact ⟨n, by omega, by rw [qn, q]⟩
    · have ha2 : zvis F a = true := by
        unfold zvis at ha ⊢
        rwa [ev a q] at ha
      obtain ⟨i, h1, h2⟩ := b4 a ha2
      exact ⟨i, by omega, by rw [qi i h1, h2]⟩
  · rw [ev p (fun q => hvp q.symm)]
    exact b5
  · by_cases q : a = v
    · rw [q, ev2] at ha
      cases ha
      rw [q]
      exact ⟨⟨Q h, (b6 _ _ eF).1, hE, hO, hvp⟩, by omega⟩
    · rw [ev a q] at ha
      have := b6 a m ha
      exact ⟨this.1, by omega⟩
  · rcases Nat.lt_succ_iff_lt_or_eq.mp h2 with g | rfl
    · rw [qi i (by omega), qi j g, fv _ (b3 i (by omega)).2, fv _ (b3 j g).2]
      exact b7 i j h1 g
    · rw [qn, fvv]
      rcases Nat.lt_succ_iff_lt_or_eq.mp (show i < j + 1 by omega) with g | rfl
      · rw [qi i g, fv _ (b3 i g).2]
        exact b8 h i (Nat.le_refl _) hh g
      · rw [qn, fvv]
        exact Nat.le_refl _
  · rcases Nat.lt_succ_iff_lt_or_eq.mp h1 with g | rfl
    · rw [qi i g, fv _ (b3 i g).2]
      rcases Nat.lt_succ_iff_lt_or_eq.mp h2 with g2 | rfl
      · rw [qi j g2, fv _ (b3 j g2).2]
        exact b8 i j h0 g g2
      · rw [qn, fvv]
        have := b7 h i h0 g
        omega
    · rw [qn, fvv]
      rcases Nat.lt_succ_iff_lt_or_eq.mp h2 with g2 | rfl
      · rw [qi j g2, fv _ (b3 j g2).2]
        have := b8 h j (Nat.le_refl _) hh g2
        omega
      · rw [qn, fvv]
        omega
  · rw [qi i (by omega)] at e ⊢
    have r := b9 i hi a e o q
    rw [fv _ r.1, fv _ (b3 i (by omega)).2]
    exact ⟨vv _ r.1, r.2⟩
/-- the one at work is done -/
theorem zBI_next {E : Nat → Nat → Prop} {O : Nat → Bool} {p N : Nat} {F : Nat → Option Nat} {Q : Nat → Nat} {n h : Nat} (b : zBI E O p N F Q n h) (hh : h < n) (hd : ∀ v, E (Q h) v → O v = true → v ≠ p → zvis F v = true) : zBI E O p N F Q n (h + 1) := by
  obtain ⟨⟨b1, b2, b2'⟩, b3, b4, b5, b6, b7, b8, b9⟩ := b
  refine ⟨⟨b1, hh, b2'⟩, b3, b4, b5, b6, b7, fun i j h0 h1 h2 => b8 i j (by omega) h1 h2, fun i hi v e o q => ?_⟩
  rcases Nat.lt_succ_iff_lt_or_eq.mp hi with g | rfl
  · exact b9 i g v e o q
  · have hv := hd v e o q
    obtain ⟨j, h1, h2⟩ := b4 v hv
    refine ⟨hv, ?_⟩
    rw [← h2]
    exact b8 i j (Nat.le_refl _) hh h1
theorem zBI_near {E : Nat → Nat → Prop} {O : Nat → Bool} {p N : Nat} {F : Nat → Option Nat} {Q : Nat → Nat} {n h : Nat} (b : zBI E O p N F Q n h) : ∀ (m v : Nat), (h < n → m ≤ zfd F (Q h)) → zRc E O p m v → ∃ k, F v = some k ∧ k ≤ m
  | 0, v, _, hr => by
    have hr : v = p := hr
    exact ⟨0, by rw [hr]; exact b.2.2.2.1, Nat.le_refl _⟩
  | m + 1, v, hm, ⟨u, h1, h2, h3, h4⟩ => by
    obtain ⟨k, e, hk⟩ := zBI_near b m u (fun q => by have := hm q; omega) h1
    have hu : zvis F u = true := by unfold zvis; rw [e]; rfl
    obtain ⟨i, i1, i2⟩ := b.2.2.1 u hu
    have hi : i < h := by
      rcases Nat.lt_or_ge i h with g | g
      · exact g
      · exfalso
        have hn : h < n := by omega
        have h5 := b.2.2.2.2.2.1 h i g i1
        have h6 := hm hn
        rw [i2, zfd_some e] at h5
        omega
    have r := b.2.2.2.2.2.2.2 i hi v (by rw [i2]; exact h2) h3 h4
    refine ⟨_, zvis_some r.1, ?_⟩
    have h7 := r.2
    rw [i2, zfd_some e] at h7
    omega
theorem zBI_far {E : Nat → Nat → Prop} {O : Nat → Bool} {p N : Nat} {F : Nat → Option Nat} {Q : Nat → Nat} {n h v : Nat} (b : zBI E O p N F Q n h) (hd : h = n ∨ zvis F v = true) : zDs E O p v (F v) := by
  cases e : F v with
  | none =>
    rcases hd with hd | hd
    · intro k hr
      obtain ⟨j, h1, h2⟩ := zBI_near b k v (fun q => by omega) hr
      rw [e] at h1
      cases h1
    · unfold zvis at hd
      rw [e] at hd
      cases hd
  | some m =>
    refine ⟨(b.2.2.2.2.1 v m e).1, fun k hk hr => ?_⟩
    have hv : zvis F v = true := by unfold zvis; rw [e]; rfl
    obtain ⟨i, i1, i2⟩ := b.2.2.1 v hv
    obtain ⟨j, h1, h2⟩ := zBI_near b k v (fun q => by
      have := b.2.2.2.2.2.2.1 h i (Nat.le_refl _) q i1
      rw [i2, zfd_some e] at this
      omega) hr
    rw [e] at h1
    cases h1
    omega

