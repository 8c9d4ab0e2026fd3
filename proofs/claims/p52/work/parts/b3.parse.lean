/-! hands as a text, and what is read of it -/
def tJ (D : zD) (a : Nat) : Nat → List Nat
  | 0 => []
  | n + 1 => tJ D a n ++ [48 + dB D (a + n), 48 + dA D (a + n)]
def tFn (D : zD) (f : Nat) : List Nat := 102 :: (48 + dS D f) :: tJ D (dI D f) (dL D f)
def tH (D : zD) (h : Nat) : Nat → List Nat
  | 0 => []
  | n + 1 => tH D h n ++ (if dO D n = h then tFn D n else [])
def tA (D : zD) : Nat → List Nat
  | 0 => []
  | n + 1 => tA D n ++ (104 :: (48 + dw D n / 10) :: (48 + dw D n % 10) :: tH D n (dF D))
def pJ (E D : zD) (a : Nat) : Nat → zD
  | 0 => E
  | n + 1 => dJnt (pJ E D a n) (dB D (a + n)) (dA D (a + n))
def pF (E D : zD) (f : Nat) : zD := pJ (dFin E (dS D f)) D (dI D f) (dL D f)
def pH (E D : zD) (h : Nat) : Nat → zD
  | 0 => E
  | n + 1 => if dO D n = h then pF (pH E D h n) D n else pH E D h n
def pA (D : zD) : Nat → zD
  | 0 => dNil
  | n + 1 => pH (dHand (pA D n) (dw D n)) D n (dF D)
theorem tJ_c (D : zD) : ∀ (n a : Nat), tJ D a (n + 1) = (48 + dB D a) :: (48 + dA D a) :: tJ D (a + 1) n
  | 0, a => rfl
  | n + 1, a => by
    show tJ D a (n + 1) ++ [48 + dB D (a + (n + 1)), 48 + dA D (a + (n + 1))] = (48 + dB D a) :: (48 + dA D a) :: (tJ D (a + 1) n ++ [48 + dB D (a + 1 + n), 48 + dA D (a + 1 + n)])
    rw [tJ_c D n a, show a + (n + 1) = a + 1 + n by omega]
    rfl
theorem pJ_c (D : zD) : ∀ (n a : Nat) (E : zD), pJ E D a (n + 1) = pJ (dJnt E (dB D a) (dA D a)) D (a + 1) n
  | 0, a, E => rfl
  | n + 1, a, E => by
    show dJnt (pJ E D a (n + 1)) (dB D (a + (n + 1))) (dA D (a + (n + 1))) = dJnt (pJ (dJnt E (dB D a) (dA D a)) D (a + 1) n) (dB D (a + 1 + n)) (dA D (a + 1 + n))
    rw [pJ_c D n a E, show a + (n + 1) = a + 1 + n by omega]
theorem tJ_len (D : zD) (a : Nat) : ∀ n, (tJ D a n).length = 2 * n
  | 0 => rfl
  | n + 1 => by
    show (tJ D a n ++ [_, _]).length = _
    rw [List.length_append, tJ_len D a n]
    show 2 * n + 2 = _
    omega
theorem pJ_J (D : zD) (a : Nat) (E : zD) : ∀ n, dJ (pJ E D a n) = dJ E + n
  | 0 => rfl
  | n + 1 => by
    show dJ (pJ E D a n) + 1 = _
    rw [pJ_J D a E n]
    omega
section PRS
variable {T : Nat → Int32} {L l r : List Nat} {E D : zD}
/-- the text's places are L's, spaces behind it -/
def Tx (T : Nat → Int32) (L : List Nat) : Prop := ∀ i, i < 60 → T i = nI (L.getD i 32)
/-- what follows isn't a digit -/
def nd (r : List Nat) : Prop := (r.getD 0 32 < 48 ∨ 57 < r.getD 0 32) ∧ r.getD 0 32 < 200
theorem nd_nil : nd [] := ⟨Or.inl (by decide), by decide⟩
theorem nd_c {x : Nat} (h : 57 < x) (h2 : x < 200) : nd (x :: r) := ⟨Or.inr h, h2⟩
theorem gD_app {l s : List Nat} {i : Nat} : (l ++ s).getD (l.length + i) 32 = s.getD i 32 := by
  simp [List.getD_eq_getElem?_getD, List.getElem?_append_right (Nat.le_add_right l.length i)]
theorem Tx_at {s : List Nat} {i : Nat} (h : Tx T (l ++ s)) (hi : l.length + i < 60) : T (l.length + i) = nI (s.getD i 32) := by
  rw [h _ hi, gD_app]
theorem zfg_d {p d : Nat} (hp : p < 60) (hd : d ≤ 9) (h : T p = nI (48 + d)) : zfg T 60 p = d := by
  unfold zfg
  rw [h, if_pos ⟨hp, (nI_le (a := 48) (by omega) (by omega)), (nI_le (b := 57) (by omega) (by decide))⟩]
  rw [show (48 : Int32) = nI 48 from rfl, nI_subE (a := 48 + d) (b := 48) (by omega) rfl rfl, nI_clamp (by omega)]
  omega
theorem zfg_x {p x : Nat} (hx : x < 48 ∨ 57 < x) (hx2 : x < 200) (h : T p = nI x) : zfg T 60 p = 99 := by
  unfold zfg
  refine if_neg (fun q => ?_)
  rw [h] at q
  have h1 := nI_leD (a := 48) (y := x) q.2.1 (by decide) (by omega)
  have h2 := nI_leD (a := x) (y := 57) q.2.2 (by omega) (by decide)
  omega
/-- read on from p to q -/
def PR (T : Nat → Int32) (p : Nat) (E : zD) (q : Nat) (E' : zD) : Prop := p ≤ q ∧ ∃ k, k ≤ q - p ∧ ∀ n, rAll T 60 (k + n) p E = rAll T 60 n q E'
theorem PR_r {p : Nat} : PR T p E p E := ⟨Nat.le_refl _, 0, Nat.zero_le _, fun n => by rw [Nat.zero_add]⟩
theorem PR_t {p q s : Nat} {E' E2 : zD} (h : PR T p E q E') (h2 : PR T q E' s E2) : PR T p E s E2 := by
  obtain ⟨a1, k, a2, a3⟩ := h
  obtain ⟨b1, j, b2, b3⟩ := h2
  exact ⟨by omega, k + j, by omega, fun n => by rw [Nat.add_assoc, a3, b3]⟩
theorem PR_1 {p q : Nat} {E' : zD} (hp : p < 60) (hq : p < q) (h : rOne T 60 p E = (true, q, E')) : PR T p E q E' := by
  refine ⟨by omega, 1, by omega, fun n => ?_⟩
  rw [Nat.add_comm]
  show (if p < 60 then (if (rOne T 60 p E).1 = true then rAll T 60 n (rOne T 60 p E).2.1 (rOne T 60 p E).2.2 else _) else _) = _
  rw [if_pos hp, h]
  exact if_pos rfl
theorem rOne_h {a b : Nat} (hT : Tx T (l ++ (104 :: (48 + a) :: (48 + b) :: r))) (hl : l.length + 3 < 60) (ha : a ≤ 9) (hb : b ≤ 9) (hr : nd r) (hW : dW E < 2) (hc : 10 * a + b < 120) : rOne T 60 l.length E = (true, l.length + 3, dHand E (10 * a + b)) := by
  have t0 : T l.length = 104 := Tx_at (i := 0) hT (by omega)
  have t1 : zfg T 60 (l.length + 1) = a := zfg_d (by omega) ha (Tx_at (i := 1) hT (by omega))
  have t2 : zfg T 60 (l.length + 1 + 1) = b := zfg_d (by omega) hb (Tx_at (i := 2) hT (by omega))
  have t3 : zfg T 60 (l.length + 1 + 1 + 1) = 99 := zfg_x hr.1 hr.2 (by
    have := Tx_at (i := 3) hT (by omega)
    exact this)
  have e : rNum T 60 3 (l.length + 1) 0 = (l.length + 3, 10 * a + b) := by
    show (if zfg T 60 (l.length + 1) = 99 then _ else (if zfg T 60 (l.length + 1 + 1) = 99 then _ else (if zfg T 60 (l.length + 1 + 1 + 1) = 99 then (l.length + 1 + 1 + 1, 10 * (10 * 0 + zfg T 60 (l.length + 1)) + zfg T 60 (l.length + 1 + 1)) else _))) = _
    rw [if_neg (by omega), if_neg (by omega), if_pos t3, t1, t2]
    refine Prod.ext ?_ ?_
    · show l.length + 1 + 1 + 1 = l.length + 3
      omega
    · show 10 * (10 * 0 + a) + b = 10 * a + b
      omega
  unfold rOne
  rw [if_pos t0]
  unfold rHand
  rw [if_neg (by omega), e, if_pos ⟨by show l.length + 1 < l.length + 3; omega, hc⟩]
theorem rJs_run : ∀ (n k a : Nat) (l : List Nat) (E : zD), Tx T (l ++ (tJ D a n ++ r)) → l.length + 2 * n < 60 → n < k → nd r → dJ E + n ≤ 6 → (∀ j, j < n → dB D (a + j) ≤ 2 ∧ dA D (a + j) ≤ 2) → rJs T 60 k l.length E = (true, l.length + 2 * n, pJ E D a n)
  | 0, 0, a, l, E, _, _, hk, _, _, _ => absurd hk (Nat.lt_irrefl _)
  | 0, k + 1, a, l, E, hT, hl, _, hr, _, _ => by
    have t0 : zfg T 60 l.length = 99 := zfg_x hr.1 hr.2 (Tx_at (i := 0) hT (by omega))
    show (if zfg T 60 l.length = 99 then (true, l.length, E) else _) = _
    rw [if_pos t0]
    rfl
  | n + 1, 0, a, l, E, _, _, hk, _, _, _ => absurd hk (Nat.not_lt_zero _)
  | n + 1, k + 1, a, l, E, hT, hl, hk, hr, hJ, hb => by
    obtain ⟨h1, h2⟩ := hb 0 (by omega)
    rw [Nat.add_zero] at h1 h2
    rw [tJ_c] at hT
    have t0 : zfg T 60 l.length = dB D a := zfg_d (by omega) (by omega) (Tx_at (i := 0) hT (by omega))
    have t1 : zfg T 60 (l.length + 1) = dA D a := zfg_d (by omega) (by omega) (Tx_at (i := 1) hT (by omega))
    have ih := rJs_run n k (a + 1) (l ++ [48 + dB D a, 48 + dA D a]) (dJnt E (dB D a) (dA D a)) (by rw [List.append_assoc]; exact hT) (by rw [List.length_append]; show l.length + 2 + 2 * n < 60; omega) (by omega) hr (by show dJ E + 1 + n ≤ 6; omega) (fun j hj => by
      have := hb (j + 1) (by omega)
      rwa [show a + (j + 1) = a + 1 + j by omega] at this)
    rw [List.length_append] at ih
    show (if zfg T 60 l.length = 99 then _ else if dJ E = 6 ∨ 2 < zfg T 60 l.length then _ else if 2 < zfg T 60 (l.length + 1) then _ else rJs T 60 k (l.length + 2) (dJnt E (zfg T 60 l.length) (zfg T 60 (l.length + 1)))) = _
    rw [if_neg (by omega), if_neg (by omega), if_neg (by omega), t0, t1, pJ_c]
    refine ih.trans ?_
    refine congrArg (Prod.mk true) (Prod.ext ?_ rfl)
    show l.length + 2 + 2 * n = l.length + 2 * (n + 1)
    omega
theorem rOne_f {f : Nat} (hT : Tx T (l ++ (tFn D f ++ r))) (hl : l.length + 2 + 2 * dL D f < 60) (hs : dS D f < 8) (hr : nd r) (hW : 0 < dW E) (hF : dF E < 6) (hL : dL D f ≤ 2) (hJ : dJ E + dL D f ≤ 6) (hb : ∀ j, j < dL D f → dB D (dI D f + j) ≤ 2 ∧ dA D (dI D f + j) ≤ 2) : rOne T 60 l.length E = (true, l.length + 2 + 2 * dL D f, pF E D f) := by
  have t0 : T l.length = 102 := Tx_at (i := 0) hT (by omega)
  have t1 : zfg T 60 (l.length + 1) = dS D f := zfg_d (by omega) (by omega) (Tx_at (i := 1) hT (by omega))
  unfold rOne
  rw [if_neg (by rw [t0]; decide), if_pos t0]
  unfold rFin
  rw [if_neg (by omega), if_neg (by omega), t1]
  have h := rJs_run (T := T) (r := r) (D := D) (dL D f) 3 (dI D f) (l ++ [102, 48 + dS D f]) (dFin E (dS D f)) (by rw [List.append_assoc]; exact hT) (by rw [List.length_append]; exact hl) (by omega) hr hJ hb
  rw [List.length_append] at h
  exact h
theorem rAll_sp : ∀ (n p : Nat) (E : zD), 60 ≤ p + n → (∀ i, p ≤ i → i < 60 → T i = 32) → p ≤ 60 → rAll T 60 (n + 1) p E = (-9, E)
  | 0, p, E, hn, h, hp => by
    show (if p < 60 then _ else ((-9 : Int32), E)) = _
    exact if_neg (by omega)
  | n + 1, p, E, hn, h, hp => by
    by_cases hp2 : p < 60
    · have t0 := h p (Nat.le_refl _) hp2
      have e : rOne T 60 p E = (true, p + 1, E) := by
        unfold rOne
        rw [if_neg (by rw [t0]; decide), if_neg (by rw [t0]; decide), if_pos t0]
      show (if p < 60 then (if (rOne T 60 p E).1 = true then rAll T 60 (n + 1) (rOne T 60 p E).2.1 (rOne T 60 p E).2.2 else _) else _) = _
      rw [if_pos hp2, e]
      exact (if_pos rfl).trans (rAll_sp n (p + 1) E (by omega) (fun i h1 h2 => h i (by omega) h2) (by omega))
    · show (if p < 60 then _ else ((-9 : Int32), E)) = _
      exact if_neg hp2
end PRS
/-- what has been read: the first w hands and f fingers -/
def pre (E D : zD) (w f : Nat) : Prop := (dW E = w ∧ dF E = f ∧ dJ E = zoff D f) ∧ (∀ h, h < w → dw E h = dw D h) ∧ (∀ g, g < f → dO E g = dO D g ∧ dS E g = dS D g ∧ dI E g = dI D g ∧ dL E g = dL D g) ∧ ∀ j, j < zoff D f → dH E j = dH D j ∧ dB E j = dB D j ∧ dA E j = dA D j
/-- of such hands as the law tells; c: how many fingers the hands ahead have -/
def gD (D : zD) (c : Nat → Nat) : Prop := zDok D ∧ (1 ≤ dW D ∧ dF D ≤ 4 ∧ dJ D ≤ 3) ∧ (∀ h, h < dW D → (24 ≤ dw D h ∧ dw D h < 96) ∧ 1 ≤ dw D h % 12 ∧ dw D h % 12 ≤ 10) ∧ (∀ f, f < dF D → dL D f ≤ 2) ∧ (c 0 = 0 ∧ c (dW D) = dF D ∧ ∀ h, h < dW D → c h ≤ c (h + 1)) ∧ ∀ f, f < dF D → ∀ h, h < dW D → (dO D f = h ↔ (c h ≤ f ∧ f < c (h + 1)))
theorem pre_hand {E D : zD} {w f : Nat} (h : pre E D w f) : pre (dHand E (dw D w)) D (w + 1) f := by
  obtain ⟨⟨h1, h2, h3⟩, h4, h5, h6⟩ := h
  refine ⟨⟨by show dW E + 1 = _; omega, h2, h3⟩, fun k hk => ?_, h5, h6⟩
  show nup (dw E) (dW E) (dw D w) k = _
  by_cases e : k = w
  · subst e
    rw [h1]
    exact nup_s
  · rw [nup_n (by omega)]
    exact h4 k (by omega)
theorem pre_fin {E D : zD} {w f : Nat} (hD : zDok D) (hf : f < dF D) (h : pre E D w f) (hw : dO D f + 1 = w) : pre (pF E D f) D w (f + 1) := by
  obtain ⟨⟨h1, h2, h3⟩, h4, h5, h6⟩ := h
  obtain ⟨g1, g2, g3, g4⟩ := hD.2.2.1 f hf
  have gH := hD.2.2.2.2.2
  have key : ∀ n, n ≤ dL D f → (dW (pJ (dFin E (dS D f)) D (dI D f) n) = w ∧ dF (pJ (dFin E (dS D f)) D (dI D f) n) = f + 1 ∧ dJ (pJ (dFin E (dS D f)) D (dI D f) n) = zoff D f + n) ∧ dw (pJ (dFin E (dS D f)) D (dI D f) n) = dw E ∧
      (∀ g, g < f + 1 → dO (pJ (dFin E (dS D f)) D (dI D f) n) g = dO D g ∧ dS (pJ (dFin E (dS D f)) D (dI D f) n) g = dS D g ∧ dI (pJ (dFin E (dS D f)) D (dI D f) n) g = dI D g ∧ dL (pJ (dFin E (dS D f)) D (dI D f) n) g = if g = f then n else dL D g) ∧
      ∀ j, j < zoff D f + n → dH (pJ (dFin E (dS D f)) D (dI D f) n) j = dH D j ∧ dB (pJ (dFin E (dS D f)) D (dI D f) n) j = dB D j ∧ dA (pJ (dFin E (dS D f)) D (dI D f) n) j = dA D j := by
    intro n
    induction n with
    | zero =>
      intro _
      refine ⟨⟨h1, by show dF E + 1 = _; omega, h3⟩, rfl, fun g hg => ?_, h6⟩
      show nup (dO E) (dF E) (dW E - 1) g = _ ∧ nup (dS E) (dF E) (dS D f) g = _ ∧ nup (dI E) (dF E) (dJ E) g = _ ∧ nup (dL E) (dF E) 0 g = _
      by_cases e : g = f
      · subst e
        rw [h2, nup_s, nup_s, nup_s, nup_s, if_pos rfl]
        exact ⟨by omega, rfl, by omega, rfl⟩
      · rw [nup_n (by omega), nup_n (by omega), nup_n (by omega), nup_n (by omega), if_neg e]
        exact h5 g (by omega)
    | succ n ih =>
      intro hn
      obtain ⟨⟨i1, i2, i3⟩, i4, i5, i6⟩ := ih (by omega)
      refine ⟨⟨i1, i2, by show dJ (pJ _ D (dI D f) n) + 1 = _; omega⟩, i4, fun g hg => ?_, fun j hj => ?_⟩
      · obtain ⟨k1, k2, k3, k4⟩ := i5 g hg
        refine ⟨k1, k2, k3, ?_⟩
        show nup (dL (pJ _ D (dI D f) n)) (dF (pJ _ D (dI D f) n) - 1) (dL (pJ _ D (dI D f) n) (dF (pJ _ D (dI D f) n) - 1) + 1) g = _
        rw [i2, Nat.add_sub_cancel]
        by_cases e : g = f
        · subst e
          rw [nup_s, k4, if_pos rfl, if_pos rfl]
        · rw [nup_n e, k4, if_neg e, if_neg e]
      · show nup (dH (pJ _ D (dI D f) n)) (dJ (pJ _ D (dI D f) n)) (dF (pJ _ D (dI D f) n) - 1) j = _ ∧ nup (dB (pJ _ D (dI D f) n)) (dJ (pJ _ D (dI D f) n)) (dB D (dI D f + n)) j = _ ∧ nup (dA (pJ _ D (dI D f) n)) (dJ (pJ _ D (dI D f) n)) (dA D (dI D f + n)) j = _
        rw [i3]
        by_cases e : j = zoff D f + n
        · subst e
          rw [nup_s, nup_s, nup_s, i2, g4, gH f n hf (by omega)]
          exact ⟨by omega, rfl, rfl⟩
        · rw [nup_n e, nup_n e, nup_n e]
          exact i6 j (by omega)
  obtain ⟨⟨k1, k2, k3⟩, k4, k5, k6⟩ := key (dL D f) (Nat.le_refl _)
  refine ⟨⟨k1, k2, k3⟩, fun h hh => by rw [show dw (pF E D f) = dw E from k4]; exact h4 h hh, fun g hg => ?_, k6⟩
  obtain ⟨m1, m2, m3, m4⟩ := k5 g hg
  refine ⟨m1, m2, m3, m4.trans ?_⟩
  by_cases e : g = f
  · subst e
    exact if_pos rfl
  · exact if_neg e
theorem tH_len {D : zD} (h : Nat) : ∀ n, (tH D h n).length ≤ 2 * n + 2 * zoff D n
  | 0 => Nat.le_refl _
  | n + 1 => by
    have ih := tH_len (D := D) h n
    have e : zoff D (n + 1) = zoff D n + dL D n := rfl
    show (tH D h n ++ _).length ≤ _
    rw [List.length_append]
    by_cases q : dO D n = h
    · rw [if_pos q]
      have : (tFn D n).length = 2 * dL D n + 2 := by
        show (tJ D (dI D n) (dL D n)).length + 1 + 1 = _
        rw [tJ_len]
      omega
    · rw [if_neg q]
      show (tH D h n).length + 0 ≤ _
      omega
theorem tA_len {D : zD} {c : Nat → Nat} (hg : gD D c) : ∀ n, (tA D n).length ≤ 17 * n
  | 0 => Nat.le_refl _
  | n + 1 => by
    have ih := tA_len hg n
    have h1 := tH_len (D := D) n (dF D)
    have h2 := hg.2.1.2.1
    have h3 := hg.2.1.2.2
    have h4 := hg.1.2.2.2.1
    show (tA D n ++ _).length ≤ _
    rw [List.length_append]
    show (tA D n).length + ((tH D n (dF D)).length + 1 + 1 + 1) ≤ _
    omega
theorem nd_H {D : zD} {h n : Nat} {r : List Nat} (hr : nd r) : nd ((if dO D n = h then tFn D n else []) ++ r) := by
  by_cases q : dO D n = h
  · rw [if_pos q]
    exact nd_c (by decide) (by decide)
  · rw [if_neg q]
    exact hr
/-- a hand's fingers are read -/
theorem PR_H {T : Nat → Int32} {D E : zD} {c : Nat → Nat} {h : Nat} (hg : gD D c) (hh : h < dW D) (hE : pre E D (h + 1) (c h)) : ∀ (n : Nat) (l r : List Nat), n ≤ dF D → Tx T (l ++ (tH D h n ++ r)) → l.length + (tH D h n).length < 60 → nd r → PR T l.length E (l.length + (tH D h n).length) (pH E D h n) ∧ pre (pH E D h n) D (h + 1) (max (c h) (min n (c (h + 1))))
  | 0, l, r, _, _, _, _ => by
    refine ⟨PR_r, ?_⟩
    have : max (c h) (min 0 (c (h + 1))) = c h := by omega
    rw [this]
    exact hE
  | n + 1, l, r, hn, hT, hl, hr => by
    have hT : Tx T (l ++ (tH D h n ++ ((if dO D n = h then tFn D n else []) ++ r))) := by
      have e : tH D h (n + 1) ++ r = tH D h n ++ ((if dO D n = h then tFn D n else []) ++ r) := List.append_assoc _ _ _
      rw [← e]
      exact hT
    have hlen : (tH D h (n + 1)).length = (tH D h n).length + (if dO D n = h then tFn D n else []).length := List.length_append
    obtain ⟨ih1, ih2⟩ := PR_H hg hh hE n l _ (by omega) hT (by omega) (nd_H hr)
    have hc := hg.2.2.2.2.1.2.2 h hh
    have ho := hg.2.2.2.2.2 n (by omega) h hh
    by_cases q : dO D n = h
    · rw [if_pos q] at hT hlen
      obtain ⟨q1, q2⟩ := ho.mp q
      have e1 : max (c h) (min n (c (h + 1))) = n := by omega
      rw [e1] at ih2
      have e2 : max (c h) (min (n + 1) (c (h + 1))) = n + 1 := by omega
      have hD := hg.1
      obtain ⟨z1, z2, z3, z4⟩ := hD.2.2.1 n (by omega)
      have hzo := zoff_mono (D := D) (show n + 1 ≤ dF D from hn)
      rw [hD.2.2.2.1] at hzo
      have ez : zoff D (n + 1) = zoff D n + dL D n := rfl
      have hfl : (tFn D n).length = 2 + 2 * dL D n := by
        show (tJ D (dI D n) (dL D n)).length + 1 + 1 = _
        rw [tJ_len]
        omega
      have hL2 := hg.2.2.2.1 n (by omega)
      have hT2 : Tx T ((l ++ tH D h n) ++ (tFn D n ++ r)) := by rw [List.append_assoc]; exact hT
      have hJ6 := hg.2.1.2.2
      have hF4 := hg.2.1.2.1
      have hstep := rOne_f (E := pH E D h n) hT2 (by rw [List.length_append]; omega) z2 hr (by rw [ih2.1.1]; omega) (by rw [ih2.1.2.1]; omega) hL2 (by rw [ih2.1.2.2]; omega) (fun j hj => by
        obtain ⟨-, b1, b2⟩ := hD.2.2.2.2.1 (dI D n + j) (by omega)
        exact ⟨b1, b2⟩)
      rw [List.length_append] at hstep
      have e3 : pH E D h (n + 1) = pF (pH E D h n) D n := if_pos q
      rw [e3, e2, hlen, hfl]
      refine ⟨PR_t ih1 ?_, pre_fin hD (by omega) ih2 (by omega)⟩
      rw [show l.length + ((tH D h n).length + (2 + 2 * dL D n)) = l.length + (tH D h n).length + 2 + 2 * dL D n by omega]
      exact PR_1 (by omega) (by omega) hstep
    · rw [if_neg q] at hlen
      have e3 : pH E D h (n + 1) = pH E D h n := if_neg q
      have hq : ¬ (c h ≤ n ∧ n < c (h + 1)) := fun z => q (ho.mpr z)
      have e2 : max (c h) (min (n + 1) (c (h + 1))) = max (c h) (min n (c (h + 1))) := by omega
      rw [e3, e2, hlen]
      exact ⟨ih1, ih2⟩
theorem PR_A {T : Nat → Int32} {D : zD} {c : Nat → Nat} (hg : gD D c) : ∀ (n : Nat) (r : List Nat), n ≤ dW D → Tx T (tA D n ++ r) → nd r → PR T 0 dNil (tA D n).length (pA D n) ∧ pre (pA D n) D n (c n)
  | 0, r, _, _, _ => by
    refine ⟨PR_r, ?_⟩
    rw [hg.2.2.2.2.1.1]
    exact ⟨⟨rfl, rfl, rfl⟩, fun h hh => absurd hh (Nat.not_lt_zero _), fun h hh => absurd hh (Nat.not_lt_zero _), fun h hh => absurd hh (Nat.not_lt_zero _)⟩
  | n + 1, r, hn, hT, hr => by
    have hT : Tx T (tA D n ++ (104 :: (48 + dw D n / 10) :: (48 + dw D n % 10) :: (tH D n (dF D) ++ r))) := by
      have e : tA D (n + 1) ++ r = tA D n ++ (104 :: (48 + dw D n / 10) :: (48 + dw D n % 10) :: (tH D n (dF D) ++ r)) := List.append_assoc _ _ _
      rw [← e]
      exact hT
    obtain ⟨ih1, ih2⟩ := PR_A hg n _ (by omega) hT (nd_c (by decide) (by decide))
    have hW2 := hg.1.1.1
    have hlen := tA_len hg n
    have hHl := tH_len (D := D) n (dF D)
    have hF4 := hg.2.1.2.1
    have hJ3 := hg.2.1.2.2
    have hz := hg.1.2.2.2.1
    obtain ⟨⟨w1, w2⟩, w3, w4⟩ := hg.2.2.1 n (by omega)
    have hnd : nd (tH D n (dF D) ++ r) := by
      have key : ∀ m, nd (tH D n m ++ r) := by
        intro m
        induction m with
        | zero => exact hr
        | succ m ih =>
          show nd ((tH D n m ++ _) ++ r)
          rw [List.append_assoc]
          cases htm : tH D n m with
          | nil => exact nd_H hr
          | cons x s =>
            rw [htm] at ih
            exact ih
      exact key _
    have hstep := rOne_h (E := pA D n) hT (by omega) (by omega) (by omega) hnd (by rw [ih2.1.1]; omega) (by omega)
    rw [show 10 * (dw D n / 10) + dw D n % 10 = dw D n by omega] at hstep
    have h1 : PR T (tA D n).length (pA D n) ((tA D n).length + 3) (dHand (pA D n) (dw D n)) := PR_1 (by omega) (by omega) hstep
    have hp := pre_hand ih2
    have hT3 : Tx T ((tA D n ++ [104, 48 + dw D n / 10, 48 + dw D n % 10]) ++ (tH D n (dF D) ++ r)) := by
      rw [List.append_assoc]
      exact hT
    have hl3 : (tA D n ++ [104, 48 + dw D n / 10, 48 + dw D n % 10]).length = (tA D n).length + 3 := List.length_append
    obtain ⟨k1, k2⟩ := PR_H hg (show n < dW D by omega) hp (dF D) _ r (Nat.le_refl _) hT3 (by omega) hr
    rw [hl3] at k1
    have hc1 := hg.2.2.2.2.1.2.2 n (by omega)
    have hcF : c (n + 1) ≤ dF D := by
      have key : ∀ k, n + 1 + k ≤ dW D → c (n + 1) ≤ c (n + 1 + k) := by
        intro k
        induction k with
        | zero => intro _; exact Nat.le_refl _
        | succ k ih => intro hk; exact Nat.le_trans (ih (by omega)) (hg.2.2.2.2.1.2.2 _ (by omega))
      have := key (dW D - (n + 1)) (by omega)
      rw [show n + 1 + (dW D - (n + 1)) = dW D by omega, hg.2.2.2.2.1.2.1] at this
      exact this
    have e2 : max (c n) (min (dF D) (c (n + 1))) = c (n + 1) := by omega
    rw [e2] at k2
    refine ⟨PR_t ih1 (PR_t h1 ?_), k2⟩
    have el : (tA D (n + 1)).length = (tA D n).length + 3 + (tH D n (dF D)).length := by
      show (tA D n ++ _).length = _
      rw [List.length_append]
      show (tA D n).length + ((tH D n (dF D)).length + 1 + 1 + 1) = _
      omega
    rw [el]
    exact k1
/-- alike as far as they go -/
def eqD (E D : zD) : Prop := (dW E = dW D ∧ dF E = dF D ∧ dJ E = dJ D) ∧ (∀ h, h < dW D → dw E h = dw D h) ∧ (∀ g, g < dF D → dO E g = dO D g ∧ dS E g = dS D g ∧ dI E g = dI D g ∧ dL E g = dL D g) ∧ ∀ j, j < dJ D → dH E j = dH D j ∧ dB E j = dB D j ∧ dA E j = dA D j
theorem rAll_T {T : Nat → Int32} {D : zD} {c : Nat → Nat} (hg : gD D c) (hT : Tx T (tA D (dW D))) : (rAll T 60 81 0 dNil).1 = -9 ∧ eqD (rAll T 60 81 0 dNil).2 D := by
  have hT2 : Tx T (tA D (dW D) ++ []) := by rw [List.append_nil]; exact hT
  obtain ⟨h1, h2⟩ := PR_A hg (dW D) [] (Nat.le_refl _) hT2 nd_nil
  have hlen := tA_len hg (dW D)
  have hW := hg.1.1.1
  obtain ⟨h3, k, h4, h5⟩ := h1
  have e : rAll T 60 81 0 dNil = (-9, pA D (dW D)) := by
    rw [show 81 = k + (81 - k) by omega, h5, show 81 - k = (80 - k) + 1 by omega]
    refine rAll_sp _ _ _ (by omega) (fun i q1 q2 => ?_) (by omega)
    rw [hT i q2]
    have : (tA D (dW D)).getD i 32 = 32 := by simp [List.getD_eq_getElem?_getD, List.getElem?_eq_none q1]
    rw [this]
    rfl
  rw [e]
  rw [hg.2.2.2.2.1.2.1] at h2
  obtain ⟨⟨a1, a2, a3⟩, a4, a5, a6⟩ := h2
  rw [hg.1.2.2.2.1] at a3 a6
  exact ⟨rfl, ⟨a1, a2, a3⟩, a4, a5, a6⟩
