/-! a row of bits as a number -/
def zbits (P : Nat → Bool) : Nat → Nat
  | 0 => 0
  | n + 1 => zbits P n + if P n = true then 2 ^ n else 0
theorem zbits_lt (P : Nat → Bool) : ∀ n, zbits P n < 2 ^ n
  | 0 => by show 0 < 2 ^ 0; decide
  | n + 1 => by
    have h := zbits_lt P n
    have h2 : 2 ^ (n + 1) = 2 ^ n + 2 ^ n := by rw [Nat.pow_succ]; omega
    unfold zbits
    split <;> omega
theorem zbits_bit (P : Nat → Bool) : ∀ n i, (zbits P n).testBit i = (decide (i < n) && P i)
  | 0, i => by simp [zbits]
  | n + 1, i => by
    have h := zbits_lt P n
    have ih := zbits_bit P n i
    unfold zbits
    by_cases hp : P n = true
    · rw [if_pos hp, Nat.add_comm]
      rcases Nat.lt_trichotomy i n with q | q | q
      · rw [Nat.testBit_two_pow_add_gt q, ih]
        simp [q, Nat.lt_succ_of_lt q]
      · subst q
        rw [Nat.testBit_two_pow_add_eq, ih]
        simp [hp]
      · have hl : 2 ^ n + zbits P n < 2 ^ i := by
          have h1 : 2 ^ (n + 1) ≤ 2 ^ i := Nat.pow_le_pow_right (by decide) q
          have h2 : 2 ^ (n + 1) = 2 ^ n + 2 ^ n := by rw [Nat.pow_succ]; omega
          omega
        rw [Nat.testBit_lt_two_pow hl]
        have : ¬ i < n + 1 := by omega
        simp [this]
    · rw [if_neg hp, Nat.add_zero, ih]
      rcases Nat.lt_trichotomy i n with q | q | q
      · simp [q, Nat.lt_succ_of_lt q]
      · subst q
        simp at hp
        simp [hp]
      · have h1 : ¬ i < n + 1 := by omega
        have h2 : ¬ i < n := by omega
        simp [h1, h2]
theorem zbits_of {P : Nat → Bool} {n a : Nat} (ha : a < 2 ^ n) (h : ∀ i, i < n → a.testBit i = P i) : a = zbits P n := by
  apply Nat.eq_of_testBit_eq
  intro i
  rw [zbits_bit]
  by_cases hi : i < n
  · simp [hi, h i hi]
  · have h1 : a < 2 ^ i := Nat.lt_of_lt_of_le ha (Nat.pow_le_pow_right (by decide) (by omega))
    rw [Nat.testBit_lt_two_pow h1]
    simp [hi]
theorem zbits_c {P R : Nat → Bool} : ∀ {n : Nat}, (∀ i, i < n → P i = R i) → zbits P n = zbits R n
  | 0, _ => rfl
  | n + 1, h => by
    unfold zbits
    rw [zbits_c (fun i hi => h i (by omega)), h n (by omega)]
theorem zbits_inj {P R : Nat → Bool} {n : Nat} (h : zbits P n = zbits R n) {i : Nat} (hi : i < n) : P i = R i := by
  have h1 := zbits_bit P n i
  have h2 := zbits_bit R n i
  rw [h] at h1
  simpa [hi] using h1.symm.trans h2
theorem zbits_cnt {P : Nat → Bool} {n m : Nat} (h : n ≤ m) : zcnt (zbits P n).testBit m = zcnt P n := by
  obtain ⟨d, rfl⟩ : ∃ d, m = n + d := ⟨m - n, by omega⟩
  rw [zcnt_add]
  have h1 : zcnt (zbits P n).testBit n = zcnt P n := zcnt_c (fun i hi => by rw [zbits_bit]; simp [hi])
  have h2 : ∀ k, zcnt (fun i => (zbits P n).testBit (n + i)) k = 0 := by
    intro k
    induction k with
    | zero => rfl
    | succ k ih =>
      rw [zcnt_f (by rw [zbits_bit]; have q : ¬ n + k < n := by omega
                     simp [q]), ih]
  rw [h1, h2, Nat.add_zero]
/-! a set of cells, as the class holds it -/
abbrev zS : Type := Nat → Bool
def zT (S : zS) : Int64 := lN (zbits S 60)
def zLo (S : zS) : Int64 := lN (zbits (fun i => S (60 + i)) 60)
def zun (S T : zS) : zS := fun c => S c || T c
def zno : zS := fun _ => false
def zdiff (S T : zS) : zS := fun c => S c && !T c
theorem zb_or {P R : Nat → Bool} {n : Nat} : zbits P n ||| zbits R n = zbits (fun i => P i || R i) n := by
  refine zbits_of ?_ (fun i hi => ?_)
  · exact Nat.or_lt_two_pow (zbits_lt P n) (zbits_lt R n)
  · rw [Nat.testBit_or, zbits_bit, zbits_bit]
    simp [hi]
theorem zb_diff {P R : Nat → Bool} {n : Nat} : zbits P n ^^^ (zbits P n &&& zbits R n) = zbits (fun i => P i && !R i) n := by
  refine zbits_of ?_ (fun i hi => ?_)
  · exact Nat.xor_lt_two_pow (zbits_lt P n) (Nat.lt_of_le_of_lt Nat.and_le_left (zbits_lt P n))
  · rw [Nat.testBit_xor, Nat.testBit_and, zbits_bit, zbits_bit]
    simp [hi]
    cases P i <;> cases R i <;> rfl
theorem zT_or (S T : zS) : zT S ||| zT T = zT (zun S T) := by unfold zT; rw [lN_or, zb_or]; rfl
theorem zLo_or (S T : zS) : zLo S ||| zLo T = zLo (zun S T) := by unfold zLo; rw [lN_or, zb_or]; rfl
theorem zT_diff (S T : zS) : zT S &&& (zT T ^^^ -1) = zT (zdiff S T) := by unfold zT; rw [lN_andnot, zb_diff]; rfl
theorem zLo_diff (S T : zS) : zLo S &&& (zLo T ^^^ -1) = zLo (zdiff S T) := by unfold zLo; rw [lN_andnot, zb_diff]; rfl
theorem zbits_0 : ∀ n, zbits (fun _ => false) n = 0
  | 0 => rfl
  | n + 1 => by unfold zbits; rw [zbits_0 n]; rfl
theorem zT_no : zT zno = 0 := by unfold zT zno; rw [zbits_0]; rfl
theorem zLo_no : zLo zno = 0 := by unfold zLo zno; rw [zbits_0]; rfl
theorem zp60 {a : Nat} (h : a < 2 ^ 60) : a < 2 ^ 63 := Nat.lt_of_lt_of_le h (by decide)
theorem zp64 {a : Nat} (h : a < 2 ^ 60) : a < 2 ^ 64 := Nat.lt_of_lt_of_le h (by decide)
theorem zT_eq {S T : zS} : zT S = zT T ↔ ∀ c, c < 60 → S c = T c := by
  unfold zT
  rw [lN_inj (zp64 (zbits_lt _ _)) (zp64 (zbits_lt _ _))]
  exact ⟨fun h c hc => zbits_inj h hc, fun h => zbits_c h⟩
theorem zLo_eq {S T : zS} : zLo S = zLo T ↔ ∀ c, c < 60 → S (60 + c) = T (60 + c) := by
  unfold zLo
  rw [lN_inj (zp64 (zbits_lt _ _)) (zp64 (zbits_lt _ _))]
  exact ⟨fun h c hc => zbits_inj (P := fun i => S (60 + i)) (R := fun i => T (60 + i)) h hc, fun h => zbits_c h⟩
theorem zTL_eq {S T : zS} : (zT S = zT T ∧ zLo S = zLo T) ↔ ∀ c, c < 120 → S c = T c := by
  rw [zT_eq, zLo_eq]
  constructor
  · intro ⟨h1, h2⟩ c hc
    by_cases h : c < 60
    · exact h1 c h
    · have := h2 (c - 60) (by omega)
      rwa [show 60 + (c - 60) = c by omega] at this
  · intro h
    exact ⟨fun c hc => h c (by omega), fun c hc => h (60 + c) (by omega)⟩
/-- cell k holds the set S -/
def zHas (w : zW) (k : Nat) (S : zS) : Prop := w.2.1 k 0 = zT S ∧ w.2.1 k 1 = zLo S
def zsetS (w : zW) (k : Nat) (S : zS) : zW := zsl (zsl w k 0 (zT S)) k 1 (zLo S)
theorem zsetS_has {w : zW} {k : Nat} {S : zS} : zHas (zsetS w k S) k S := by
  unfold zHas zsetS
  constructor
  · rw [zsl_2, if_neg (by omega), zsl_2, if_pos ⟨rfl, rfl⟩]
  · rw [zsl_2, if_pos ⟨rfl, rfl⟩]
theorem zsetS_2 {w : zW} {k : Nat} {S : zS} {a : Nat} (h : a ≠ k) : (zsetS w k S).2.1 a = w.2.1 a := by
  unfold zsetS
  funext i
  rw [zsl_2, if_neg (by omega), zsl_2, if_neg (by omega)]
theorem zsetS_1 {w : zW} {k : Nat} {S : zS} : (zsetS w k S).1 = w.1 := rfl
theorem zsetS_3 {w : zW} {k : Nat} {S : zS} : (zsetS w k S).2.2 = w.2.2 := rfl
theorem zsetS_ss {w : zW} {k : Nat} {S T : zS} : zsetS (zsetS w k S) k T = zsetS w k T := by
  unfold zsetS zsl
  refine Prod.ext rfl (Prod.ext ?_ rfl)
  funext a i
  show (if a = k ∧ i = 1 then zLo T else if a = k ∧ i = 0 then zT T else if a = k ∧ i = 1 then zLo S else if a = k ∧ i = 0 then zT S else w.2.1 a i) = if a = k ∧ i = 1 then zLo T else if a = k ∧ i = 0 then zT T else w.2.1 a i
  by_cases h1 : a = k ∧ i = 1
  · rw [if_pos h1, if_pos h1]
  · by_cases h0 : a = k ∧ i = 0
    · rw [if_neg h1, if_pos h0, if_neg h1, if_pos h0]
    · rw [if_neg h1, if_neg h0, if_neg h1, if_neg h0, if_neg h1, if_neg h0]
theorem zHas_o {w w' : zW} {k : Nat} {S : zS} (h : zHas w k S) (e : w'.2.1 k = w.2.1 k) : zHas w' k S := by
  unfold zHas
  rw [e]
  exact h
def zCe (k : Nat) : Prop := k < zN ∧ zsh k = (0, 1, 0)
