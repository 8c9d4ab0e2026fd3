theorem zrt_code {D : zD} (hD : zDok D) {i : Nat} : zrt D (-1) (dF D) i = zcode_t D i := by
  unfold zrt
  rw [hD.2.2.2.1, show zso D (-1) = zsp D from funext (fun _ => zso_m)]
theorem rL_code {D : zD} (hD : zDok D) {i : Nat} : rL D (-1) (dF D) i = zP D (zcode_t D i) (-1) := by
  unfold rL
  rw [zrt_code hD]
  rfl
theorem rA_code {D : zD} (hD : zDok D) {i : Nat} : rA D (-1) (dF D) i = zldo D (zcode_t D i) (-1) (dJ D) := by
  unfold rA
  rw [zrt_code hD, hD.2.2.2.1]
theorem zN_code {D : zD} (hD : zDok D) : zN_ D (-1) (dF D) = zpr (zsp D) (dJ D) := by
  unfold zN_
  rw [hD.2.2.2.1, show zso D (-1) = zsp D from funext (fun _ => zso_m)]
theorem zkd_1 {D : zD} {t : Nat → Int32} {o : Int32} {T : Nat} : zkd D t o T = 1 ↔ (zwrL zno (zP D t o) = 0 ∧ zldo D t o (dJ D) ≤ T) := by
  unfold zkd
  by_cases h : 0 < zwrL zno (zP D t o)
  · rw [if_pos h]
    exact ⟨fun q => absurd q (by decide), fun q => by omega⟩
  · rw [if_neg h]
    by_cases h2 : T < zldo D t o (dJ D)
    · rw [if_pos h2]
      exact ⟨fun q => absurd q (by decide), fun q => by omega⟩
    · rw [if_neg h2]
      exact ⟨fun _ => by omega, fun _ => rfl⟩
/-- the model's: held, what is thrown, OFF, of a number -/
def mQ (D : zD) (o : Int32) (T i : Nat) : Bool := decide (zkd D (zcode_t D i) o T = 1)
def mS (D : zD) (o : Int32) (z u v i : Nat) : zS := zthr z u v (zdkL zno (zP D (zcode_t D i) o))
def mF (D : zD) (o : Int32) (z u v : Nat) (M Y : zS) (i : Nat) : Nat := zofB M Y (mS D o z u v i)
theorem rH_code {D : zD} (hD : zDok D) {T i : Nat} (hi : i < zpr (zsp D) (dJ D)) : rH D (-1) T i = mQ D (-1) T i := by
  unfold rH mQ
  rw [decide_eq_decide, zkd_1, rL_code hD, rA_code hD, zN_code hD]
  exact ⟨fun q => q.2, fun q => ⟨hi, q⟩⟩
theorem rO_code {D : zD} (hD : zDok D) {z u v : Nat} {M Y : zS} {i : Nat} : rO D (-1) z u v M Y i = mF D (-1) z u v M Y i := by
  unfold rO mF mS
  rw [rL_code hD]
