/-- hands on the way -/
def gM (D : zD) : Prop := zDok D ∧ dJ D ≤ 3 ∧ (∀ h, h < dW D → (24 ≤ dw D h ∧ dw D h < 96) ∧ 1 ≤ dw D h % 12 ∧ dw D h % 12 ≤ 10) ∧ (∀ f, f < dF D → dL D f ≤ 2) ∧ ∀ f g, f ≤ g → g < dF D → dO D f ≤ dO D g
theorem gM_0 : gM dNil := ⟨dNil_ok, by decide, fun h hh => absurd hh (Nat.not_lt_zero _), fun h hh => absurd hh (Nat.not_lt_zero _), fun f g _ hh => absurd hh (Nat.not_lt_zero _)⟩
theorem gM_hand {D : zD} {v : Nat} (h : gM D) (hW : dW D < 2) (hv : (24 ≤ v ∧ v < 96) ∧ 1 ≤ v % 12 ∧ v % 12 ≤ 10) : gM (dHand D v) := by
  obtain ⟨h1, h2, h3, h4, h5⟩ := h
  refine ⟨dHand_ok h1 hW (by omega), h2, fun q hq => ?_, h4, h5⟩
  show (24 ≤ nup (dw D) (dW D) v q ∧ nup (dw D) (dW D) v q < 96) ∧ 1 ≤ nup (dw D) (dW D) v q % 12 ∧ nup (dw D) (dW D) v q % 12 ≤ 10
  have hq : q < dW D + 1 := hq
  by_cases e : q = dW D
  · subst e
    rw [nup_s]
    exact hv
  · rw [nup_n e]
    exact h3 q (by omega)
theorem gM_fin {D : zD} {s : Nat} (h : gM D) (hW : 0 < dW D) (hF : dF D < 6) (hs : s < 8) : gM (dFin D s) := by
  obtain ⟨h1, h2, h3, h4, h5⟩ := h
  refine ⟨dFin_ok h1 hW hF hs, h2, h3, fun q hq => ?_, fun f g hfg hg => ?_⟩
  · show nup (dL D) (dF D) 0 q ≤ 2
    have hq : q < dF D + 1 := hq
    by_cases e : q = dF D
    · subst e
      rw [nup_s]
      decide
    · rw [nup_n e]
      exact h4 q (by omega)
  · show nup (dO D) (dF D) (dW D - 1) f ≤ nup (dO D) (dF D) (dW D - 1) g
    have hg : g < dF D + 1 := hg
    by_cases e : g = dF D
    · subst e
      rw [nup_s]
      by_cases e2 : f = dF D
      · subst e2
        rw [nup_s]
        exact Nat.le_refl _
      · rw [nup_n e2]
        have := (h1.2.2.1 f (by omega)).1
        omega
    · rw [nup_n e, nup_n (by omega)]
      exact h5 f g hfg (by omega)
theorem gM_jnt {D : zD} {b t : Nat} (h : gM D) (hF : 0 < dF D) (hJ : dJ D < 3) (hL : dL D (dF D - 1) < 2) (hb : b ≤ 2) (ht : t ≤ 2) : gM (dJnt D b t) := by
  obtain ⟨h1, h2, h3, h4, h5⟩ := h
  refine ⟨dJnt_ok h1 hF (by omega) (by omega) hb ht, by show dJ D + 1 ≤ 3; omega, h3, fun q hq => ?_, h5⟩
  show nup (dL D) (dF D - 1) (dL D (dF D - 1) + 1) q ≤ 2
  by_cases e : q = dF D - 1
  · subst e
    rw [nup_s]
    omega
  · rw [nup_n e]
    exact h4 q hq
theorem cutm {P : Nat → Prop} [DecidablePred P] : ∀ n, (∀ f g, f ≤ g → g < n → P g → P f) → ∃ m, m ≤ n ∧ ∀ f, f < n → (P f ↔ f < m)
  | 0, _ => ⟨0, Nat.le_refl _, fun f hf => absurd hf (Nat.not_lt_zero _)⟩
  | n + 1, h => by
    obtain ⟨m, h1, h2⟩ := cutm n (fun f g q1 q2 => h f g q1 (by omega))
    by_cases q : P n
    · refine ⟨n + 1, Nat.le_refl _, fun f hf => ⟨fun _ => hf, fun _ => h f n (by omega) (by omega) q⟩⟩
    · refine ⟨m, by omega, fun f hf => ?_⟩
      by_cases e : f = n
      · subst e
        exact ⟨fun z => absurd z q, fun z => by omega⟩
      · exact h2 f (by omega)
theorem gM_D {D : zD} (h : gM D) (hW : 1 ≤ dW D) (hF : dF D ≤ 4) : ∃ c, gD D c := by
  obtain ⟨h1, h2, h3, h4, h5⟩ := h
  have hW2 := h1.1.1
  obtain ⟨m, m1, m2⟩ := cutm (P := fun f => dO D f = 0) (dF D) (fun f g q1 q2 q3 => by
    have := h5 f g q1 q2
    have q3 : dO D g = 0 := q3
    show dO D f = 0
    omega)
  refine ⟨fun h => if h = 0 then 0 else if h = 1 then m else dF D, h1, ⟨hW, hF, h2⟩, h3, h4, ⟨rfl, ?_, ?_⟩, ?_⟩
  · show (if dW D = 0 then 0 else if dW D = 1 then m else dF D) = dF D
    rw [if_neg (by omega)]
    by_cases e : dW D = 1
    · rw [if_pos e]
      rcases Nat.lt_or_ge m (dF D) with q | q
      · have a1 := (h1.2.2.1 m q).1
        have a2 : dO D m = 0 := by omega
        have := (m2 m q).mp a2
        omega
      · omega
    · rw [if_neg e]
  · intro h hh
    show (if h = 0 then 0 else if h = 1 then m else dF D) ≤ (if h + 1 = 0 then 0 else if h + 1 = 1 then m else dF D)
    rw [if_neg (show ¬ h + 1 = 0 by omega)]
    by_cases e : h = 0
    · rw [if_pos e]
      exact Nat.zero_le _
    · rw [if_neg e, if_neg (show ¬ h + 1 = 1 by omega), if_pos (show h = 1 by omega)]
      exact m1
  · intro f hf h hh
    have a1 := (h1.2.2.1 f hf).1
    have a2 := m2 f hf
    show dO D f = h ↔ ((if h = 0 then 0 else if h = 1 then m else dF D) ≤ f ∧ f < (if h + 1 = 0 then 0 else if h + 1 = 1 then m else dF D))
    rw [if_neg (show ¬ h + 1 = 0 by omega)]
    by_cases e : h = 0
    · subst e
      rw [if_pos rfl, if_pos rfl]
      exact ⟨fun q => ⟨Nat.zero_le _, a2.mp q⟩, fun q => a2.mpr q.2⟩
    · have e1 : h = 1 := by omega
      subst e1
      rw [if_neg (by decide), if_pos rfl, if_neg (by decide)]
      refine ⟨fun q => ⟨?_, hf⟩, fun q => ?_⟩
      · rcases Nat.lt_or_ge f m with z | z
        · have := a2.mpr z
          omega
        · exact z
      · have : ¬ dO D f = 0 := fun z => by
          have := a2.mp z
          omega
        omega
/-- the law's numbers on the way: F fingers are counted, the last one's joints are to be n -/
def aX (f : Nat → Int32) (D : zD) (F n : Nat) : Prop := (f 3 = nI F ∧ f 4 = nI (dJ D)) ∧ (∀ h, h < dW D → f (1 + h) = nI (dw D h)) ∧
  (∀ g, g < dF D → f (8 + 4 * g) = nI (dO D g) ∧ f (9 + 4 * g) = nI (dS D g) ∧ f (10 + 4 * g) = nI (dI D g) ∧ f (11 + 4 * g) = nI (if g + 1 = dF D then n else dL D g)) ∧
  ∀ j, j < dJ D → f (40 + 3 * j) = nI (dH D j) ∧ f (41 + 3 * j) = nI (dB D j) ∧ f (42 + 3 * j) = nI (dA D j)
theorem aX_end {f : Nat → Int32} {D : zD} (h : aX f D (dF D) (dL D (dF D - 1))) (h0 : f 0 = nI (dW D)) : aH f D := by
  obtain ⟨⟨h1, h2⟩, h3, h4, h5⟩ := h
  refine ⟨⟨h0, h1, h2⟩, h3, fun g hg => ?_, h5⟩
  obtain ⟨a, b, c, d⟩ := h4 g hg
  refine ⟨a, b, c, d.trans ?_⟩
  by_cases e : g + 1 = dF D
  · rw [if_pos e, show dF D - 1 = g by omega]
  · rw [if_neg e]
/-- f but x at k -/
def fu (f : Nat → Int32) (k : Nat) (x : Int32) : Nat → Int32 := fun i => if i = k then x else f i
theorem fu_s {f : Nat → Int32} {k : Nat} {x : Int32} : fu f k x k = x := if_pos rfl
theorem fu_n {f : Nat → Int32} {k i : Nat} {x : Int32} (h : i ≠ k) : fu f k x i = f i := if_neg h
theorem zu3_f {a : zA3} {k j : Nat} {x : Int32} : zu3 a k j x k = fu (a k) j x := by
  funext i
  unfold zu3 fu
  by_cases h : i = j
  · rw [if_pos ⟨rfl, h⟩, if_pos h]
  · rw [if_neg (fun q => h q.2), if_neg h]
theorem aX_hand {f : Nat → Int32} {D : zD} {F n v : Nat} (h : aX f D F n) (hW : dW D < 2) : aX (fu f (1 + dW D) (nI v)) (dHand D v) F n := by
  obtain ⟨⟨h1, h2⟩, h3, h4, h5⟩ := h
  refine ⟨⟨(fu_n (by omega)).trans h1, (fu_n (by omega)).trans h2⟩, fun q hq => ?_, fun g hg => ?_, fun j hj => ?_⟩
  · have hq : q < dW D + 1 := hq
    show _ = nI (nup (dw D) (dW D) v q)
    by_cases e : q = dW D
    · subst e
      rw [fu_s, nup_s]
    · rw [fu_n (by omega), nup_n e]
      exact h3 q (by omega)
  · rw [fu_n (by omega), fu_n (by omega), fu_n (by omega), fu_n (by omega)]
    exact h4 g hg
  · rw [fu_n (by omega), fu_n (by omega), fu_n (by omega)]
    exact h5 j hj
theorem aX_fin {f : Nat → Int32} {D : zD} {s L0 L1 : Nat} (h : aX f D (dF D) (dL D (dF D - 1))) (hW : 0 < dW D ∧ dW D ≤ 2) (hF : dF D < 6) : aX (fu (fu (fu (fu (fu f (8 + 4 * dF D) (nI (dW D - 1))) (8 + 4 * dF D + 1) (nI s)) (8 + 4 * dF D + 2) (nI (dJ D))) (8 + 4 * dF D + 3) (nI L0)) (8 + 4 * dF D + 3) (nI L1)) (dFin D s) (dF D) L1 := by
  obtain ⟨⟨h1, h2⟩, h3, h4, h5⟩ := h
  refine ⟨⟨?_, ?_⟩, fun q hq => ?_, fun g hg => ?_, fun j hj => ?_⟩
  · rw [fu_n (by omega), fu_n (by omega), fu_n (by omega), fu_n (by omega), fu_n (by omega)]
    exact h1
  · rw [fu_n (by omega), fu_n (by omega), fu_n (by omega), fu_n (by omega), fu_n (by omega)]
    exact h2
  · have hq : q < dW D := hq
    rw [fu_n (by omega), fu_n (by omega), fu_n (by omega), fu_n (by omega), fu_n (by omega)]
    exact h3 q hq
  · have hg : g < dF D + 1 := hg
    show _ = nI (nup (dO D) (dF D) (dW D - 1) g) ∧ _ = nI (nup (dS D) (dF D) s g) ∧ _ = nI (nup (dI D) (dF D) (dJ D) g) ∧ _ = nI (if g + 1 = dF D + 1 then L1 else nup (dL D) (dF D) 0 g)
    by_cases e : g = dF D
    · subst e
      rw [nup_s, nup_s, nup_s, if_pos rfl]
      refine ⟨?_, ?_, ?_, ?_⟩
      · rw [fu_n (by omega), fu_n (by omega), fu_n (by omega), fu_n (by omega), fu_s]
      · rw [fu_n (by omega), fu_n (by omega), fu_n (by omega), show 9 + 4 * dF D = 8 + 4 * dF D + 1 by omega, fu_s]
      · rw [fu_n (by omega), fu_n (by omega), show 10 + 4 * dF D = 8 + 4 * dF D + 2 by omega, fu_s]
      · rw [show 11 + 4 * dF D = 8 + 4 * dF D + 3 by omega, fu_s]
    · obtain ⟨a, b, c, d⟩ := h4 g (by omega)
      rw [nup_n e, nup_n e, nup_n e, nup_n e, if_neg (by omega)]
      refine ⟨?_, ?_, ?_, ?_⟩
      · rw [fu_n (by omega), fu_n (by omega), fu_n (by omega), fu_n (by omega), fu_n (by omega)]
        exact a
      · rw [fu_n (by omega), fu_n (by omega), fu_n (by omega), fu_n (by omega), fu_n (by omega)]
        exact b
      · rw [fu_n (by omega), fu_n (by omega), fu_n (by omega), fu_n (by omega), fu_n (by omega)]
        exact c
      · rw [fu_n (by omega), fu_n (by omega), fu_n (by omega), fu_n (by omega), fu_n (by omega), d]
        by_cases e2 : g + 1 = dF D
        · rw [if_pos e2, show dF D - 1 = g by omega]
        · rw [if_neg e2]
  · have hj : j < dJ D := hj
    rw [fu_n (by omega), fu_n (by omega), fu_n (by omega), fu_n (by omega), fu_n (by omega), fu_n (by omega), fu_n (by omega), fu_n (by omega), fu_n (by omega), fu_n (by omega), fu_n (by omega), fu_n (by omega), fu_n (by omega), fu_n (by omega), fu_n (by omega)]
    exact h5 j hj
theorem aX_jnt {f : Nat → Int32} {D : zD} {n b t : Nat} (h : aX f D (dF D - 1) n) (hF : 0 < dF D ∧ dF D ≤ 6) (hW : dW D ≤ 2) : aX (fu (fu (fu (fu f (40 + 3 * dJ D) (nI (dF D - 1))) (41 + 3 * dJ D) (nI b)) (42 + 3 * dJ D) (nI t)) 4 (nI (dJ D + 1))) (dJnt D b t) (dF D - 1) n := by
  obtain ⟨⟨h1, h2⟩, h3, h4, h5⟩ := h
  refine ⟨⟨?_, fu_s⟩, fun q hq => ?_, fun g hg => ?_, fun j hj => ?_⟩
  · rw [fu_n (by omega), fu_n (by omega), fu_n (by omega), fu_n (by omega)]
    exact h1
  · have hq : q < dW D := hq
    rw [fu_n (by omega), fu_n (by omega), fu_n (by omega), fu_n (by omega)]
    exact h3 q hq
  · have hg : g < dF D := hg
    obtain ⟨a, b9, c, d⟩ := h4 g hg
    rw [fu_n (by omega), fu_n (by omega), fu_n (by omega), fu_n (by omega), fu_n (by omega), fu_n (by omega), fu_n (by omega), fu_n (by omega), fu_n (by omega), fu_n (by omega), fu_n (by omega), fu_n (by omega), fu_n (by omega), fu_n (by omega), fu_n (by omega), fu_n (by omega)]
    refine ⟨a, b9, c, d.trans ?_⟩
    show _ = nI (if g + 1 = dF D then n else nup (dL D) (dF D - 1) (dL D (dF D - 1) + 1) g)
    by_cases e : g + 1 = dF D
    · rw [if_pos e, if_pos e]
    · rw [if_neg e, if_neg e, nup_n (by omega)]
  · have hj : j < dJ D + 1 := hj
    show _ = nI (nup (dH D) (dJ D) (dF D - 1) j) ∧ _ = nI (nup (dB D) (dJ D) b j) ∧ _ = nI (nup (dA D) (dJ D) t j)
    by_cases e : j = dJ D
    · subst e
      rw [nup_s, nup_s, nup_s]
      refine ⟨?_, ?_, ?_⟩
      · rw [fu_n (by omega), fu_n (by omega), fu_n (by omega), fu_s]
      · rw [fu_n (by omega), fu_n (by omega), fu_s]
      · rw [fu_n (by omega), fu_s]
    · rw [nup_n e, nup_n e, nup_n e]
      obtain ⟨a, b9, c⟩ := h5 j (by omega)
      rw [fu_n (by omega), fu_n (by omega), fu_n (by omega), fu_n (by omega), fu_n (by omega), fu_n (by omega), fu_n (by omega), fu_n (by omega), fu_n (by omega), fu_n (by omega), fu_n (by omega), fu_n (by omega)]
      exact ⟨a, b9, c⟩
theorem aX_cnt {f : Nat → Int32} {D : zD} {F n : Nat} (h : aX f D F n) (hW : dW D ≤ 2) : aX (fu f 3 (nI (F + 1))) D (F + 1) n := by
  obtain ⟨⟨h1, h2⟩, h3, h4, h5⟩ := h
  refine ⟨⟨fu_s, (fu_n (by decide)).trans h2⟩, fun q hq => (fu_n (by omega)).trans (h3 q hq), fun g hg => ?_, fun j hj => ?_⟩
  · rw [fu_n (by omega), fu_n (by omega), fu_n (by omega), fu_n (by omega)]
    exact h4 g hg
  · rw [fu_n (by omega), fu_n (by omega), fu_n (by omega)]
    exact h5 j hj
