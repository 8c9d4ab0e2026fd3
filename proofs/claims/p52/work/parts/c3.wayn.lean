/-! how long a way can be -/
theorem zcnt_up {P R : Nat → Bool} {N : Nat} (h : ∀ i, i < N → P i = true → R i = true) {v : Nat} (hv : v < N) (h1 : R v = true) (h2 : ¬ P v = true) : zcnt P N + 1 ≤ zcnt R N := by
  have key : ∀ n, n ≤ N → zcnt P n + (if v < n then 1 else 0) ≤ zcnt R n := by
    intro n
    induction n with
    | zero => intro _; rw [if_neg (Nat.not_lt_zero _)]; exact Nat.le_refl _
    | succ n ih =>
      intro hn
      have h3 := ih (by omega)
      rw [zcnt_s, zcnt_s]
      by_cases e : v = n
      · subst e
        rw [if_neg h2, if_pos h1, if_pos (Nat.lt_succ_self _)]
        rw [if_neg (Nat.lt_irrefl _)] at h3
        omega
      · by_cases h4 : P n = true
        · rw [if_pos h4, if_pos (h n (by omega) h4)]
          by_cases h5 : v < n
          · rw [if_pos h5] at h3
            rw [if_pos (by omega)]
            omega
          · rw [if_neg h5] at h3
            rw [if_neg (by omega)]
            omega
        · rw [if_neg h4]
          by_cases h5 : v < n
          · rw [if_pos h5] at h3
            rw [if_pos (by omega)]
            omega
          · rw [if_neg h5] at h3
            rw [if_neg (by omega)]
            omega
  have := key N (Nat.le_refl _)
  rw [if_pos hv] at this
  exact this
section WN
variable {E : Nat → Nat → Prop} {O : Nat → Bool} {p v N : Nat}
theorem zWk_split : ∀ {l k : Nat} {v : Nat}, zWk E O p (k + l) v → ∃ u, zWk E O p k u ∧ zWk E O u l v
  | 0, k, v, h => ⟨v, h, rfl⟩
  | l + 1, k, v, h => by
    obtain ⟨u, h1, h2, h3⟩ := h
    obtain ⟨x, h4, h5⟩ := zWk_split h1
    exact ⟨x, h4, u, h5, h2, h3⟩
theorem zDs_lt (hp : p < N) (hO : ∀ v, O v = true → v < N) {m : Nat} (h : zDs E O p v (some m)) : m < N := by
  obtain ⟨h1, h2⟩ := h
  have hw := zWk_of h1
  have lev : ∀ k, k ≤ m → ∃ u, u < N ∧ zWk E O p k u ∧ ∀ j, j < k → ¬ zWk E O p j u := by
    intro k hk
    obtain ⟨u, q1, q2⟩ := zWk_split (k := k) (l := m - k) (v := v) (by rw [show k + (m - k) = m by omega]; exact hw)
    refine ⟨u, zWk_N hp hO q1, q1, fun j hj q => ?_⟩
    obtain ⟨i, hi, q3⟩ := zRc_of (zWk_add q q2)
    exact h2 i (by omega) q3
  have cnt : ∀ k, k ≤ m → k + 1 ≤ zcnt (fun u => @decide (∃ j, j ≤ k ∧ zWk E O p j u) (Classical.propDecidable _)) N := by
    intro k
    induction k with
    | zero =>
      intro hk
      rcases Nat.eq_zero_or_pos (zcnt (fun u => @decide (∃ j, j ≤ 0 ∧ zWk E O p j u) (Classical.propDecidable _)) N) with e | e
      · exact absurd (@decide_eq_true _ (Classical.propDecidable _) (show ∃ j, j ≤ 0 ∧ zWk E O p j p from ⟨0, Nat.le_refl _, rfl⟩)) (zcnt_0.mp e p hp)
      · exact e
    | succ k ih =>
      intro hk
      have h3 := ih (by omega)
      obtain ⟨u, u1, u2, u3⟩ := lev (k + 1) hk
      have h4 := zcnt_up (P := fun u => @decide (∃ j, j ≤ k ∧ zWk E O p j u) (Classical.propDecidable _)) (R := fun u => @decide (∃ j, j ≤ k + 1 ∧ zWk E O p j u) (Classical.propDecidable _)) (N := N) (fun i _ q => by
        obtain ⟨j, j1, j2⟩ := @of_decide_eq_true _ (Classical.propDecidable _) q
        exact @decide_eq_true _ (Classical.propDecidable _) ⟨j, by omega, j2⟩) u1 (@decide_eq_true _ (Classical.propDecidable _) ⟨k + 1, Nat.le_refl _, u2⟩) (fun q => by
        obtain ⟨j, j1, j2⟩ := @of_decide_eq_true _ (Classical.propDecidable _) q
        exact u3 j (by omega) j2)
      omega
  have h5 := cnt m (Nat.le_refl _)
  have h6 := zcnt_le (fun u => @decide (∃ j, j ≤ m ∧ zWk E O p j u) (Classical.propDecidable _)) N
  omega
end WN
section WA
variable {D D' : zD} {T c e : Nat} {M Y : zS}
theorem wA_b (hD : zDok D) (hN : nT D ≤ 4096) (hc : c < nT D) {r : Int32} (h : wA D T c e r) (h0 : 0 ≤ r) : (zkd D (zcode_t D c) (-1) T = 1 ∧ zkd D (zcode_t D e) (-1) T = 1) ∧ ∃ m, m < 4096 ∧ r = nI m ∧ zDs (zadj (zsp D) (dJ D)) (rH D (-1) T) c e (some m) := by
  rcases h with ⟨-, rfl⟩ | ⟨h1, res, rfl, h2⟩
  · exact absurd h0 (by decide)
  · cases res with
    | none => exact absurd h0 (by decide)
    | some m =>
      have := zDs_lt hc (fun v hv => rH_lt hD hv) h2
      exact ⟨h1, m, by omega, rfl, h2⟩
theorem wA_g (hD : zDok D) (hD' : zDok D') (hM : zMir D D') (hc : c < nT D) (he : e < nT D) {r r' : Int32} (h : wA D T c e r) (h' : wA D' T (nT D - 1 - c) (nT D - 1 - e) r') : r = r' := by
  unfold wA at h'
  rw [kd_g hD hM hc, kd_g hD hM he] at h'
  rcases h with ⟨h1, rfl⟩ | ⟨h1, res, rfl, h2⟩
  · rcases h' with ⟨-, rfl⟩ | ⟨h3, -⟩
    · rfl
    · exact absurd h3 h1
  · rcases h' with ⟨h3, -⟩ | ⟨-, res', rfl, h4⟩
    · exact absurd h1 h3
    · exact congrArg zoe (way_g hD hD' hM hc he h2 h4)
theorem wA_s (hD : zDok D) (hc : c < nT D) (he : e < nT D) {r r' : Int32} (h : wA D T c e r) (h' : wA D T e c r') : r = r' := by
  rcases h with ⟨h1, rfl⟩ | ⟨h1, res, rfl, h2⟩
  · rcases h' with ⟨-, rfl⟩ | ⟨h3, -⟩
    · rfl
    · exact absurd ⟨h3.2, h3.1⟩ h1
  · rcases h' with ⟨h3, -⟩ | ⟨-, res', rfl, h4⟩
    · exact absurd ⟨h1.2, h1.1⟩ h3
    · exact congrArg zoe (way_b hD (fun v hv => rH_lt hD hv) rfl (rH_1 hD hc h1.1) (rH_1 hD he h1.2) h2 h4)
theorem wA_0 {r : Int32} (h : wA D T c c r) : r ≤ 0 := by
  rcases h with ⟨h1, rfl⟩ | ⟨h1, res, rfl, h2⟩
  · decide
  · rw [zDs_0 h2]
    decide
theorem wA_t (hD : zDok D) (hN : nT D ≤ 4096) {m : Nat} (hc : c < nT D) (hm : m < nT D) {r r1 r2 : Int32} (h : wA D T c e r) (h1 : wA D T c m r1) (h2 : wA D T m e r2) (p1 : 0 ≤ r1) (p2 : 0 ≤ r2) : 0 ≤ r ∧ r ≤ r1 + r2 := by
  obtain ⟨a1, x, x1, rfl, x2⟩ := wA_b hD hN hc h1 p1
  obtain ⟨b1, y, y1, rfl, y2⟩ := wA_b hD hN hm h2 p2
  rcases h with ⟨h3, -⟩ | ⟨-, res, rfl, h4⟩
  · exact absurd ⟨a1.1, b1.2⟩ h3
  · obtain ⟨z, rfl, z2⟩ := zDs_tri h4 x2 y2
    rw [nI_add]
    exact ⟨nI_pos' (show z < 2 ^ 31 by omega), nI_le z2 (by omega)⟩
theorem rU_H {p q d a : Nat} (h : rU D 1 3 3 T M Y p q d a = true) : rH D (-1) T a = true := by
  unfold rU at h
  rw [Bool.and_eq_true] at h
  exact h.1
theorem rU_s {p q d : Nat} : rU D 1 3 3 T M Y p q d = rU D 1 3 3 T M Y q p d := by
  funext a
  unfold rU
  rw [Bool.or_comm (decide (a = p)) (decide (a = q))]
theorem uA_w (hD : zDok D) (hN : nT D ≤ 4096) (hc : c < nT D) {r u : Int32} (h : wA D T c e r) (h' : uA D T M Y c e u) (h0 : 0 ≤ u) : r ≤ u := by
  rcases h' with ⟨-, rfl⟩ | ⟨h1, res, rfl, h2⟩
  · exact absurd h0 (by decide)
  · cases res with
    | none => exact absurd h0 (by decide)
    | some k =>
      rcases h with ⟨h3, -⟩ | ⟨-, res', rfl, h4⟩
      · exact absurd h1 h3
      · have h5 := way_u (O := rU D 1 3 3 T M Y c e 3) (fun v hv => rU_H hv) h4 h2
        have h6 := zDs_lt hc (fun v hv => rH_lt hD (rU_H hv)) h2
        cases res' with
        | none => exact h5.elim
        | some j => exact nI_le h5 (by omega)
theorem uA_s (hD : zDok D) (hc : c < nT D) (he : e < nT D) {u u' : Int32} (h : uA D T M Y c e u) (h' : uA D T M Y e c u') : u = u' := by
  rcases h with ⟨h1, rfl⟩ | ⟨h1, res, rfl, h2⟩
  · rcases h' with ⟨-, rfl⟩ | ⟨h3, -⟩
    · rfl
    · exact absurd ⟨h3.2, h3.1⟩ h1
  · rcases h' with ⟨h3, -⟩ | ⟨-, res', rfl, h4⟩
    · exact absurd ⟨h1.2, h1.1⟩ h3
    · refine congrArg zoe (way_b hD (O := rU D 1 3 3 T M Y c e 3) (fun v hv => rH_lt hD (rU_H hv)) rU_s ?_ ?_ h2 h4)
      · unfold rU
        rw [rH_1 hD hc h1.1, decide_eq_true (show c = c from rfl)]
        rfl
      · unfold rU
        rw [rH_1 hD he h1.2, decide_eq_true (show e = e from rfl), Bool.or_true]
        rfl
end WA
