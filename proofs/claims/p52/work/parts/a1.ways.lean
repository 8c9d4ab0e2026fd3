/-! ways: as long back, no longer than by a third; the same in the glass -/
def zWk (E : Nat → Nat → Prop) (O : Nat → Bool) (p : Nat) : Nat → Nat → Prop
  | 0, v => v = p
  | m + 1, v => ∃ u, zWk E O p m u ∧ E u v ∧ O v = true
theorem zWk_of {E : Nat → Nat → Prop} {O : Nat → Bool} {p : Nat} : ∀ {m v : Nat}, zRc E O p m v → zWk E O p m v
  | 0, v, h => h
  | m + 1, v, h => by
    obtain ⟨u, h1, h2, h3, -⟩ := h
    exact ⟨u, zWk_of h1, h2, h3⟩
theorem zRc_of {E : Nat → Nat → Prop} {O : Nat → Bool} {p : Nat} : ∀ {m v : Nat}, zWk E O p m v → ∃ k, k ≤ m ∧ zRc E O p k v
  | 0, v, h => ⟨0, Nat.le_refl _, h⟩
  | m + 1, v, h => by
    obtain ⟨u, h1, h2, h3⟩ := h
    obtain ⟨k, hk, h4⟩ := zRc_of h1
    by_cases e : v = p
    · exact ⟨0, by omega, e⟩
    · exact ⟨k + 1, by omega, u, h4, h2, h3, e⟩
theorem zWk_add {E : Nat → Nat → Prop} {O : Nat → Bool} {p c : Nat} {m : Nat} (h : zWk E O p m c) : ∀ {k v : Nat}, zWk E O c k v → zWk E O p (m + k) v
  | 0, v, h2 => by
    have h2 : v = c := h2
    subst h2
    exact h
  | k + 1, v, h2 => by
    obtain ⟨u, h3, h4, h5⟩ := h2
    exact ⟨u, zWk_add h h3, h4, h5⟩
theorem zWk_O {E : Nat → Nat → Prop} {O : Nat → Bool} {p : Nat} (hp : O p = true) : ∀ {m v : Nat}, zWk E O p m v → O v = true
  | 0, v, h => by
    have h : v = p := h
    rw [h]
    exact hp
  | m + 1, v, h => by
    obtain ⟨u, -, -, h3⟩ := h
    exact h3
theorem zWk_N {E : Nat → Nat → Prop} {O : Nat → Bool} {p N : Nat} (hp : p < N) (hO : ∀ v, O v = true → v < N) : ∀ {m v : Nat}, zWk E O p m v → v < N
  | 0, v, h => by
    have h : v = p := h
    rw [h]
    exact hp
  | m + 1, v, h => by
    obtain ⟨u, -, -, h3⟩ := h
    exact hO v h3
theorem zWk_back {E : Nat → Nat → Prop} {O : Nat → Bool} {N p : Nat} (hE : ∀ u v, u < N → v < N → E u v → E v u) (hO : ∀ v, O v = true → v < N) (hp : O p = true) : ∀ {m v : Nat}, zWk E O p m v → zWk E O v m p
  | 0, v, h => by
    have h : v = p := h
    exact h.symm
  | m + 1, v, h => by
    obtain ⟨u, h1, h2, h3⟩ := h
    have hu := zWk_O hp h1
    have h4 := zWk_back hE hO hp h1
    have h5 : zWk E O v 1 u := ⟨v, rfl, hE u v (hO u hu) (hO v h3) h2, hu⟩
    rw [Nat.add_comm]
    exact zWk_add h5 h4
theorem zWk_map {E E' : Nat → Nat → Prop} {O O' : Nat → Bool} {N p : Nat} {f : Nat → Nat} (hp : p < N) (hO : ∀ v, O v = true → v < N) (hE : ∀ u v, u < N → v < N → E u v → E' (f u) (f v)) (hO2 : ∀ v, O v = true → O' (f v) = true) : ∀ {m v : Nat}, zWk E O p m v → zWk E' O' (f p) m (f v)
  | 0, v, h => by
    have h : v = p := h
    rw [h]
    exact rfl
  | m + 1, v, h => by
    obtain ⟨u, h1, h2, h3⟩ := h
    exact ⟨f u, zWk_map hp hO hE hO2 h1, hE u v (zWk_N hp hO h1) (hO v h3) h2, hO2 v h3⟩
/-- one way is at most as long as another -/
def zDle : Option Nat → Option Nat → Prop
  | _, none => True
  | some a, some b => a ≤ b
  | none, some _ => False
theorem zDle_a {a b : Option Nat} (h : zDle a b) (h2 : zDle b a) : a = b := by
  cases a with
  | none =>
    cases b with
    | none => rfl
    | some y => exact h.elim
  | some x =>
    cases b with
    | none => exact h2.elim
    | some y => exact congrArg some (Nat.le_antisymm h h2)
theorem zDs_le {E E' : Nat → Nat → Prop} {O O' : Nat → Bool} {p v p' v' : Nat} {r r' : Option Nat} (h : zDs E O p v r) (h' : zDs E' O' p' v' r') (hm : ∀ m, zWk E' O' p' m v' → zWk E O p m v) : zDle r r' := by
  cases r' with
  | none => exact trivial
  | some b =>
    obtain ⟨h1, -⟩ := h'
    obtain ⟨k, hk, h3⟩ := zRc_of (hm b (zWk_of h1))
    cases r with
    | none => exact h k h3
    | some a =>
      obtain ⟨-, h5⟩ := h
      show a ≤ b
      rcases Nat.lt_or_ge k a with h6 | h6
      · exact absurd h3 (h5 k h6)
      · omega
theorem zDs_tri {E : Nat → Nat → Prop} {O : Nat → Bool} {p c v : Nat} {r : Option Nat} {a b : Nat} (h : zDs E O p v r) (h1 : zDs E O p c (some a)) (h2 : zDs E O c v (some b)) : ∃ m, r = some m ∧ m ≤ a + b := by
  obtain ⟨k, hk, h3⟩ := zRc_of (zWk_add (zWk_of h1.1) (zWk_of h2.1))
  cases r with
  | none => exact absurd h3 (h k)
  | some m =>
    refine ⟨m, rfl, ?_⟩
    rcases Nat.lt_or_ge k m with h6 | h6
    · exact absurd h3 (h.2 k h6)
    · omega
theorem zDs_0 {E : Nat → Nat → Prop} {O : Nat → Bool} {p : Nat} {r : Option Nat} (h : zDs E O p p r) : r = some 0 := by
  cases r with
  | none => exact absurd (show zRc E O p 0 p from rfl) (h 0)
  | some m =>
    cases m with
    | zero => rfl
    | succ m => exact absurd (show zRc E O p 0 p from rfl) (h.2 0 (by omega))
section WAY
variable {sp : Nat → Nat} {m i k : Nat}
theorem zsf_c {sp sp' : Nat → Nat} : ∀ {m j : Nat}, (∀ j, j < m → sp j = sp' j) → zsf sp m j = zsf sp' m j
  | 0, _, _ => rfl
  | m + 1, j, h => by
    show (if j ≤ m then zsf sp m j * sp m else 1) = (if j ≤ m then zsf sp' m j * sp' m else 1)
    rw [zsf_c (fun j hj => h j (by omega)), h m (Nat.lt_succ_self m)]
theorem zadj_c {sp sp' : Nat → Nat} (h : ∀ j, j < m → sp j = sp' j) : zadj sp m i k ↔ zadj sp' m i k := by
  constructor
  · rintro ⟨j, h1, h2⟩
    refine ⟨j, h1, ?_⟩
    rw [← zsf_c h, ← zdg_c _ _ h, ← h j h1]
    exact h2
  · rintro ⟨j, h1, h2⟩
    refine ⟨j, h1, ?_⟩
    rw [zsf_c h, zdg_c _ _ h, h j h1]
    exact h2
theorem zadj_rev (hp : ∀ j, j < m → 0 < sp j) (hi : i < zpr sp m) (hk : k < zpr sp m) (h : zadj sp m i k) : zadj sp m (zpr sp m - 1 - i) (zpr sp m - 1 - k) := by
  obtain ⟨j, h1, h2⟩ := h
  refine ⟨j, h1, ?_⟩
  rw [zdg_rev hp hi h1]
  have h3 := zdg_lt (sp := sp) (m := m) i (hp j h1) h1
  rcases h2 with ⟨h4, h5⟩ | ⟨h4, h5⟩
  · exact Or.inr ⟨by omega, by omega⟩
  · exact Or.inl ⟨by omega, by omega⟩
theorem zadj_sym (hp : ∀ j, j < m → 0 < sp j) (h : zadj sp m i k) : zadj sp m k i := by
  obtain ⟨j, h1, h2⟩ := h
  refine ⟨j, h1, ?_⟩
  have hs : 0 < zsf sp m (j + 1) := zsf_pos hp
  have h3 := zdg_sf sp (m := m) (j := j) i h1
  have h4 := zdg_sf sp (m := m) (j := j) k h1
  have hj := hp j h1
  rcases h2 with ⟨h5, h6⟩ | ⟨h5, h6⟩
  · refine Or.inr ⟨h5, ?_⟩
    rw [h3] at h6
    rw [h4, h5, Nat.add_div_right _ hs]
    generalize i / zsf sp m (j + 1) = q at h6 ⊢
    have e : (q + 1) % sp j = q % sp j + 1 := by
      have e1 := Nat.div_add_mod q (sp j)
      have e2 : q + 1 = sp j * (q / sp j) + (q % sp j + 1) := by omega
      rw [e2, Nat.mul_add_mod, Nat.mod_eq_of_lt h6]
    rw [e]
    omega
  · refine Or.inl ⟨h5, ?_⟩
    rw [h3, h5, Nat.add_div_right _ hs] at h6
    rw [h4]
    generalize k / zsf sp m (j + 1) = q at h6 ⊢
    rcases Nat.lt_or_ge (q % sp j + 1) (sp j) with h7 | h7
    · exact h7
    · exfalso
      have h8 : q % sp j < sp j := Nat.mod_lt _ hj
      have e1 := Nat.div_add_mod q (sp j)
      have e2 : q + 1 = sp j * (q / sp j + 1) := by
        rw [Nat.mul_add, Nat.mul_one]
        omega
      rw [e2, Nat.mul_mod_right] at h6
      omega
end WAY
section WAYD
variable {D D' : zD} {T : Nat}
theorem rH_lt (hD : zDok D) {i : Nat} (h : rH D (-1) T i = true) : i < zpr (zsp D) (dJ D) := by
  have h := (of_decide_eq_true h).1
  rwa [zN_code hD] at h
theorem rH_g (hD : zDok D) (hD' : zDok D') (hM : zMir D D') {i : Nat} (h : rH D (-1) T i = true) : rH D' (-1) T (zpr (zsp D) (dJ D) - 1 - i) = true := by
  have hi := rH_lt hD h
  rw [rH_code hD' (by rw [zprN_g hM]; omega), mQ_g hD hM hi, ← rH_code hD hi]
  exact h
theorem zMir_s (hD : zDok D) (h : zMir D D') : zMir D' D := by
  obtain ⟨⟨h1, h2, h3⟩, h4, h5, h6⟩ := h
  refine ⟨⟨h1.symm, h2.symm, h3.symm⟩, fun h hh => ?_, fun f hf => ?_, fun j hj => ?_⟩
  · obtain ⟨a, b⟩ := h4 h (by omega)
    exact ⟨by omega, b.symm⟩
  · obtain ⟨a, b, c, d⟩ := h5 f (by omega)
    have := (hD.2.2.1 f (by omega)).2.1
    exact ⟨a.symm, by omega, c.symm, d.symm⟩
  · obtain ⟨a, b, c⟩ := h6 j (by omega)
    exact ⟨a.symm, c.symm, b.symm⟩
theorem way_g {p v : Nat} {r r' : Option Nat} (hD : zDok D) (hD' : zDok D') (hM : zMir D D') (hp : p < zpr (zsp D) (dJ D)) (hv : v < zpr (zsp D) (dJ D))
    (h : zDs (zadj (zsp D) (dJ D)) (rH D (-1) T) p v r) (h' : zDs (zadj (zsp D') (dJ D')) (rH D' (-1) T) (zpr (zsp D) (dJ D) - 1 - p) (zpr (zsp D) (dJ D) - 1 - v) r') : r = r' := by
  have hpos : ∀ j, j < dJ D → 0 < zsp D j := fun j hj => (zsp_b hD hj).1
  have hN := zprN_g hM
  have hE : ∀ u v, u < zpr (zsp D) (dJ D) → v < zpr (zsp D) (dJ D) → zadj (zsp D) (dJ D) u v → zadj (zsp D') (dJ D') (zpr (zsp D) (dJ D) - 1 - u) (zpr (zsp D) (dJ D) - 1 - v) := fun u v hu hv q => by
    rw [hM.1.2.2]
    exact (zadj_c (zsp_g hM)).mpr (zadj_rev hpos hu hv q)
  have hE' : ∀ u v, u < zpr (zsp D) (dJ D) → v < zpr (zsp D) (dJ D) → zadj (zsp D') (dJ D') u v → zadj (zsp D) (dJ D) (zpr (zsp D) (dJ D) - 1 - u) (zpr (zsp D) (dJ D) - 1 - v) := fun u v hu hv q => by
    rw [hM.1.2.2] at q
    exact zadj_rev hpos hu hv ((zadj_c (zsp_g hM)).mp q)
  refine zDle_a (zDs_le h h' (fun m q => ?_)) (zDs_le h' h (fun m q => ?_))
  · have q2 := zWk_map (f := fun i => zpr (zsp D) (dJ D) - 1 - i) (by omega) (fun v hv => by have := rH_lt hD' hv; omega) hE' (fun v hv => by
      have := rH_g hD' hD (zMir_s hD hM) hv
      rwa [hN] at this) q
    simp only [show zpr (zsp D) (dJ D) - 1 - (zpr (zsp D) (dJ D) - 1 - p) = p by omega, show zpr (zsp D) (dJ D) - 1 - (zpr (zsp D) (dJ D) - 1 - v) = v by omega] at q2
    exact q2
  · exact zWk_map (f := fun i => zpr (zsp D) (dJ D) - 1 - i) hp (fun v hv => rH_lt hD hv) hE (fun v hv => rH_g hD hD' hM hv) q
theorem way_b {O O' : Nat → Bool} {p v : Nat} {r r' : Option Nat} (hD : zDok D) (hO : ∀ v, O v = true → v < zpr (zsp D) (dJ D)) (e : O = O') (hp : O p = true) (hv : O v = true) (h : zDs (zadj (zsp D) (dJ D)) O p v r) (h' : zDs (zadj (zsp D) (dJ D)) O' v p r') : r = r' := by
  subst e
  have hpos : ∀ j, j < dJ D → 0 < zsp D j := fun j hj => (zsp_b hD hj).1
  have hE : ∀ u v, u < zpr (zsp D) (dJ D) → v < zpr (zsp D) (dJ D) → zadj (zsp D) (dJ D) u v → zadj (zsp D) (dJ D) v u := fun u v _ _ q => zadj_sym hpos q
  exact zDle_a (zDs_le h h' (fun m q => zWk_back hE hO hv q)) (zDs_le h' h (fun m q => zWk_back hE hO hp q))
theorem way_u {O : Nat → Bool} {p v : Nat} {r r' : Option Nat} {E : Nat → Nat → Prop} {O' : Nat → Bool} (hO : ∀ v, O v = true → O' v = true) (h : zDs E O' p v r) (h' : zDs E O p v r') : zDle r r' := by
  refine zDs_le h h' (fun m q => ?_)
  have key : ∀ {m v}, zWk E O p m v → zWk E O' p m v := by
    intro m
    induction m with
    | zero => intro v q; exact q
    | succ m ih =>
      intro v q
      obtain ⟨u, q1, q2, q3⟩ := q
      exact ⟨u, ih q1, q2, hO v q3⟩
  exact key q
end WAYD
