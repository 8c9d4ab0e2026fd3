abbrev zD : Type := Nat × Nat × Nat × (Nat → Nat) × (Nat → Nat) × (Nat → Nat) × (Nat → Nat) × (Nat → Nat) × (Nat → Nat) × (Nat → Nat) × (Nat → Nat)
abbrev dW (D : zD) : Nat := D.1
abbrev dF (D : zD) : Nat := D.2.1
abbrev dJ (D : zD) : Nat := D.2.2.1
abbrev dw (D : zD) : Nat → Nat := D.2.2.2.1
abbrev dO (D : zD) : Nat → Nat := D.2.2.2.2.1
abbrev dS (D : zD) : Nat → Nat := D.2.2.2.2.2.1
abbrev dI (D : zD) : Nat → Nat := D.2.2.2.2.2.2.1
abbrev dL (D : zD) : Nat → Nat := D.2.2.2.2.2.2.2.1
abbrev dH (D : zD) : Nat → Nat := D.2.2.2.2.2.2.2.2.1
abbrev dB (D : zD) : Nat → Nat := D.2.2.2.2.2.2.2.2.2.1
abbrev dA (D : zD) : Nat → Nat := D.2.2.2.2.2.2.2.2.2.2
/-- joints of the fingers ahead -/
def zoff (D : zD) : Nat → Nat
  | 0 => 0
  | f + 1 => zoff D f + dL D f
def zDok (D : zD) : Prop := (dW D ≤ 2 ∧ dF D ≤ 6 ∧ dJ D ≤ 6) ∧ (∀ h, h < dW D → dw D h < 120) ∧ (∀ f, f < dF D → dO D f < dW D ∧ dS D f < 8 ∧ dL D f ≤ 3 ∧ dI D f = zoff D f) ∧ zoff D (dF D) = dJ D ∧
  (∀ j, j < dJ D → dH D j < dF D ∧ dB D j ≤ 2 ∧ dA D j ≤ 2) ∧ ∀ f i, f < dF D → i < dL D f → dH D (zoff D f + i) = f
theorem zoff_mono {D : zD} {f g : Nat} (h : f ≤ g) : zoff D f ≤ zoff D g := by
  induction h with
  | refl => exact Nat.le_refl _
  | step h ih => exact Nat.le_trans ih (Nat.le_add_right _ _)
theorem zoff_le {D : zD} (h : zDok D) {f : Nat} (hf : f ≤ dF D) : zoff D f ≤ dJ D := by
  have := zoff_mono (D := D) hf
  have := h.2.2.2.1
  omega
theorem zoff_in {D : zD} (h : zDok D) {f i : Nat} (hf : f < dF D) (hi : i < dL D f) : zoff D f + i < dJ D := by
  have h1 := zoff_le h (f := f + 1) (by omega)
  have h2 : zoff D (f + 1) = zoff D f + dL D f := rfl
  omega
abbrev zPt : Type := Int32 × Int32
abbrev zon (p : zPt) : Prop := (0 ≤ p.1 ∧ p.1 < 12) ∧ (0 ≤ p.2 ∧ p.2 < 10)
def zcel (p : zPt) : Nat := 12 * p.2.toNatClampNeg + p.1.toNatClampNeg
theorem zon_nat {p : zPt} (h : zon p) : ∃ x y, x < 12 ∧ y < 10 ∧ p = (nI x, nI y) := by
  obtain ⟨a, b⟩ := p
  obtain ⟨⟨h1, h2⟩, h3, h4⟩ := h
  obtain ⟨x, hx, e1⟩ := znat (n := 12) (by decide) h1 h2
  obtain ⟨y, hy, e2⟩ := znat (n := 10) (by decide) h3 h4
  exact ⟨x, y, hx, hy, by rw [show a = nI x from e1, show b = nI y from e2]⟩
theorem zcel_nI {x y : Nat} (hx : x < 12) (hy : y < 10) : zcel (nI x, nI y) = 12 * y + x := by
  show 12 * (nI y).toNatClampNeg + (nI x).toNatClampNeg = _
  rw [nI_clamp (by omega), nI_clamp (by omega)]
theorem zcel_lt {p : zPt} (h : zon p) : zcel p < 120 := by
  obtain ⟨x, y, hx, hy, rfl⟩ := zon_nat h
  rw [zcel_nI hx hy]
  omega
def zdk1 (S : zS) (p : zPt) : zS := if zon p then zput S (zcel p) else S
def zdkL (S : zS) (L : List zPt) : zS := L.foldl zdk1 S
def zwr1 (S : zS) (p : zPt) : Nat := if zon p ∧ S (zcel p) = false then 0 else 1
def zwrL : zS → List zPt → Nat
  | _, [] => 0
  | S, p :: L => zwr1 S p + zwrL (zdk1 S p) L
theorem zdkL_app (S : zS) (L M : List zPt) : zdkL S (L ++ M) = zdkL (zdkL S L) M := List.foldl_append
theorem zdkL_1 (S : zS) (p : zPt) : zdkL S [p] = zdk1 S p := rfl
theorem zdkL_0 (S : zS) : zdkL S [] = S := rfl
theorem zwrL_app : ∀ (S : zS) (L M : List zPt), zwrL S (L ++ M) = zwrL S L + zwrL (zdkL S L) M
  | S, [], M => by show zwrL S M = 0 + zwrL S M; omega
  | S, p :: L, M => by
    show zwr1 S p + zwrL (zdk1 S p) (L ++ M) = zwr1 S p + zwrL (zdk1 S p) L + zwrL (zdkL (zdk1 S p) L) M
    rw [zwrL_app]
    omega
theorem zwrL_1 (S : zS) (p : zPt) : zwrL S [p] = zwr1 S p := rfl
theorem zdk1_m (S : zS) (p : zPt) (c : Nat) : zdk1 S p c = true ↔ (S c = true ∨ (zon p ∧ zcel p = c)) := by
  unfold zdk1
  by_cases h : zon p
  · rw [if_pos h]
    unfold zput
    rw [Bool.or_eq_true, decide_eq_true_eq]
    exact ⟨fun q => q.imp_right (fun z => ⟨h, z.symm⟩), fun q => q.imp_right (fun z => z.2.symm)⟩
  · rw [if_neg h]
    exact ⟨Or.inl, fun q => q.elim id (fun z => absurd z.1 h)⟩
theorem zdkL_m (c : Nat) : ∀ (L : List zPt) (S : zS), zdkL S L c = true ↔ (S c = true ∨ ∃ p, p ∈ L ∧ zon p ∧ zcel p = c)
  | [], S => by simp [zdkL_0]
  | p :: L, S => by
    show zdkL (zdk1 S p) L c = true ↔ _
    rw [zdkL_m c L, zdk1_m]
    constructor
    · rintro ((h | h) | ⟨q, h1, h2⟩)
      · exact Or.inl h
      · exact Or.inr ⟨p, List.mem_cons_self, h⟩
      · exact Or.inr ⟨q, List.mem_cons_of_mem _ h1, h2⟩
    · rintro (h | ⟨q, h1, h2⟩)
      · exact Or.inl (Or.inl h)
      · rcases List.mem_cons.mp h1 with rfl | h1
        · exact Or.inl (Or.inr h2)
        · exact Or.inr ⟨q, h1, h2⟩
theorem zS_ext {S T : zS} (h : ∀ c, S c = true ↔ T c = true) : S = T := by
  funext c
  have := h c
  cases hS : S c <;> cases hT : T c <;> simp_all
theorem zdkL_un (S : zS) (L : List zPt) : zdkL S L = zun S (zdkL zno L) := by
  refine zS_ext (fun c => ?_)
  unfold zun
  rw [zdkL_m, Bool.or_eq_true, zdkL_m]
  simp [zno]
theorem zdkL_lt {L : List zPt} {c : Nat} (h : zdkL zno L c = true) : c < 120 := by
  rcases (zdkL_m c L zno).mp h with h | ⟨p, _, h1, h2⟩
  · cases h
  · rw [← h2]
    exact zcel_lt h1
theorem zwr1_0 {S : zS} {p : zPt} : zwr1 S p = 0 ↔ (zon p ∧ S (zcel p) = false) := by
  unfold zwr1
  split
  · rename_i h
    exact ⟨fun _ => h, fun _ => rfl⟩
  · rename_i h
    exact ⟨fun q => absurd q (by decide), fun q => absurd q h⟩
/-- none wrong on top of S: none wrong alone, and nothing in common -/
theorem zwrL_on : ∀ (L M : List zPt), zwrL (zdkL zno L) M = 0 ↔ (zwrL zno M = 0 ∧ ∀ c, ¬ (zdkL zno L c = true ∧ zdkL zno M c = true)) := by
  intro L M
  suffices h : ∀ (N : List zPt) (S : zS), (∀ K : List zPt, zwrL S (K ++ N) = 0 ↔ (zwrL S K = 0 ∧ zwrL (zdkL S K) N = 0)) by
    generalize zdkL zno L = S
    have key : ∀ n (M : List zPt), M.length = n → (zwrL S M = 0 ↔ (zwrL zno M = 0 ∧ ∀ c, ¬ (S c = true ∧ zdkL zno M c = true))) := by
      intro n
      induction n with
      | zero =>
        intro M hM
        obtain rfl : M = [] := List.length_eq_zero_iff.mp hM
        simp [zwrL, zdkL_0, zno]
      | succ n ih =>
        intro M hM
        rcases List.eq_nil_or_concat M with rfl | ⟨K, p, rfl⟩
        · simp at hM
        · have hK : K.length = n := by simpa using hM
          rw [List.concat_eq_append, h [p] S K, h [p] zno K, ih K hK, zwrL_1, zwrL_1, zwr1_0, zwr1_0, zdkL_un S K]
          have e : ∀ c, zdkL zno (K ++ [p]) c = true ↔ (zdkL zno K c = true ∨ (zon p ∧ zcel p = c)) := fun c => by rw [zdkL_app, zdkL_1, zdk1_m]
          unfold zun
          constructor
          · rintro ⟨⟨h1, h2⟩, h3, h4⟩
            rw [Bool.or_eq_false_iff] at h4
            refine ⟨⟨h1, h3, h4.2⟩, fun c hc => ?_⟩
            rcases (e c).mp hc.2 with q | ⟨q1, q2⟩
            · exact h2 c ⟨hc.1, q⟩
            · rw [q2, hc.1] at h4
              exact absurd h4.1 (by decide)
          · rintro ⟨⟨h1, h3, h4⟩, h2⟩
            refine ⟨⟨h1, fun c hc => h2 c ⟨hc.1, (e c).mpr (Or.inl hc.2)⟩⟩, h3, ?_⟩
            rw [Bool.or_eq_false_iff]
            refine ⟨?_, h4⟩
            cases q : S (zcel p) with
            | false => rfl
            | true => exact absurd ⟨q, (e _).mpr (Or.inr ⟨h3, rfl⟩)⟩ (h2 (zcel p))
    exact key _ M rfl
  intro N S K
  rw [zwrL_app]
  omega
def zside (s : Nat) (t : Int32) : Nat := ((nI s + t) &&& 7).toNatClampNeg
def zpos (D : zD) (t : Nat → Int32) (f : Nat) : Nat → Int32 × Int32 × Nat
  | 0 => (nI (dw D (dO D f) % 12) + zsX (dS D f), nI (dw D (dO D f) / 12) + zsY (dS D f), dS D f)
  | i + 1 => ((zpos D t f i).1 + zsX (zside (zpos D t f i).2.2 (t (dI D f + i))), (zpos D t f i).2.1 + zsY (zside (zpos D t f i).2.2 (t (dI D f + i))), zside (zpos D t f i).2.2 (t (dI D f + i)))
def zpt (D : zD) (t : Nat → Int32) (f i : Nat) : zPt := ((zpos D t f i).1, (zpos D t f i).2.1)
def zac (D : zD) (o : Int32) (f : Nat) : Bool := decide (o = -1 ∨ o = nI (dO D f))
def zwt (D : zD) (h : Nat) : zPt := (nI (dw D h % 12), nI (dw D h / 12))
def zLw (D : zD) (o : Int32) : Nat → List zPt
  | 0 => []
  | h + 1 => zLw D o h ++ (if o = -1 ∨ o = nI h then [zwt D h] else [])
def zLq (D : zD) (t : Nat → Int32) (f : Nat) : Nat → List zPt
  | 0 => []
  | i + 1 => zLq D t f i ++ [zpt D t f i]
def zLf (D : zD) (t : Nat → Int32) (o : Int32) : Nat → List zPt
  | 0 => zLw D o (dW D)
  | f + 1 => zLf D t o f ++ (if zac D o f = true then zLq D t f (dL D f + 1) else [])
def zP (D : zD) (t : Nat → Int32) (o : Int32) : List zPt := zLf D t o (dF D)
theorem zpos_c {D : zD} {t t' : Nat → Int32} {f : Nat} : ∀ {i : Nat}, (∀ k, k < i → t (dI D f + k) = t' (dI D f + k)) → zpos D t f i = zpos D t' f i
  | 0, _ => rfl
  | i + 1, h => by
    unfold zpos
    rw [zpos_c (i := i) (fun k hk => h k (by omega)), h i (by omega)]
theorem zLq_c {D : zD} {t t' : Nat → Int32} {f : Nat} : ∀ {n : Nat}, (∀ k, k + 1 < n → t (dI D f + k) = t' (dI D f + k)) → zLq D t f n = zLq D t' f n
  | 0, _ => rfl
  | n + 1, h => by
    unfold zLq zpt
    rw [zLq_c (n := n) (fun k hk => h k (by omega)), zpos_c (i := n) (fun k hk => h k (by omega))]
theorem zLf_c {D : zD} (hD : zDok D) {t t' : Nat → Int32} {o : Int32} : ∀ {n : Nat}, n ≤ dF D → (∀ f, f < n → zac D o f = true → ∀ k, k < dL D f → t (zoff D f + k) = t' (zoff D f + k)) → zLf D t o n = zLf D t' o n
  | 0, _, _ => rfl
  | n + 1, hn, h => by
    unfold zLf
    rw [zLf_c hD (n := n) (by omega) (fun f hf => h f (by omega))]
    by_cases q : zac D o n = true
    · have e : zLq D t n (dL D n + 1) = zLq D t' n (dL D n + 1) := zLq_c (fun k hk => by
        rw [(hD.2.2.1 n (by omega)).2.2.2]
        exact h n (by omega) q k (by omega))
      rw [if_pos q, if_pos q, e]
    · rw [if_neg q, if_neg q]
theorem zside_lt (s : Nat) (t : Int32) : zside s t < 8 := by
  unfold zside
  have h1 : ((nI s + t) &&& 7).toBitVec.toNat ≤ 7 := by
    rw [Int32.toBitVec_and, BitVec.toNat_and]
    exact Nat.and_le_right
  have h2 : ((nI s + t) &&& 7).toInt = (((nI s + t) &&& 7).toBitVec.toNat : Int) := by
    show ((nI s + t) &&& 7).toBitVec.toInt = _
    rw [BitVec.toInt_eq_toNat_of_lt (by omega)]
  show ((nI s + t) &&& 7).toInt.toNat < 8
  omega
theorem zLq_len {D : zD} {t : Nat → Int32} {f : Nat} : ∀ n, (zLq D t f n).length = n
  | 0 => rfl
  | n + 1 => by
    unfold zLq
    rw [List.length_append, zLq_len n]
    rfl
theorem zLw_len {D : zD} {o : Int32} : ∀ n, (zLw D o n).length ≤ n
  | 0 => Nat.le_refl _
  | n + 1 => by
    unfold zLw
    rw [List.length_append]
    have := zLw_len (D := D) (o := o) n
    split
    · show (zLw D o n).length + 1 ≤ n + 1
      omega
    · show (zLw D o n).length + 0 ≤ n + 1
      omega
theorem zLf_len {D : zD} {t : Nat → Int32} {o : Int32} : ∀ n, (zLf D t o n).length ≤ dW D + n + zoff D n
  | 0 => zLw_len _
  | n + 1 => by
    unfold zLf
    rw [List.length_append]
    have := zLf_len (D := D) (t := t) (o := o) n
    have e : zoff D (n + 1) = zoff D n + dL D n := rfl
    split
    · rw [zLq_len]
      omega
    · show (zLf D t o n).length + 0 ≤ _
      omega

