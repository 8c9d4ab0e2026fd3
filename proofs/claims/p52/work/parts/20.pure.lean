def zpr (sp : Nat → Nat) : Nat → Nat
  | 0 => 1
  | m + 1 => zpr sp m * sp m
def zdg (sp : Nat → Nat) : Nat → Nat → Nat → Nat
  | 0, _, _ => 0
  | m + 1, i, j => if j = m then i % sp m else zdg sp m (i / sp m) j
def zcd (sp d : Nat → Nat) : Nat → Nat
  | 0 => 0
  | m + 1 => zcd sp d m * sp m + d m
/-- the product of those from j on, below m -/
def zsf (sp : Nat → Nat) : Nat → Nat → Nat
  | 0, _ => 1
  | m + 1, j => if j ≤ m then zsf sp m j * sp m else 1
theorem zsf_ge (sp : Nat → Nat) : ∀ {m j : Nat}, m ≤ j → zsf sp m j = 1
  | 0, _, _ => rfl
  | m + 1, j, h => by
    show (if j ≤ m then zsf sp m j * sp m else 1) = 1
    rw [if_neg (by omega)]
theorem zsf_s (sp : Nat → Nat) : ∀ {m j : Nat}, j < m → zsf sp m j = sp j * zsf sp m (j + 1)
  | 0, _, h => absurd h (by omega)
  | m + 1, j, h => by
    show (if j ≤ m then zsf sp m j * sp m else 1) = sp j * (if j + 1 ≤ m then zsf sp m (j + 1) * sp m else 1)
    rw [if_pos (by omega)]
    by_cases q : j + 1 ≤ m
    · rw [if_pos q, zsf_s sp (by omega), Nat.mul_assoc]
    · rw [if_neg q]
      obtain rfl : j = m := by omega
      rw [zsf_ge sp (Nat.le_refl _)]
      omega
theorem zdg_sf (sp : Nat → Nat) : ∀ {m j : Nat} (i : Nat), j < m → zdg sp m i j = i / zsf sp m (j + 1) % sp j
  | 0, _, _, h => absurd h (by omega)
  | m + 1, j, i, h => by
    show (if j = m then i % sp m else zdg sp m (i / sp m) j) = i / (if j + 1 ≤ m then zsf sp m (j + 1) * sp m else 1) % sp j
    by_cases q : j = m
    · subst q
      rw [if_pos rfl, if_neg (by omega), Nat.div_one]
    · rw [if_neg q, if_pos (by omega), zdg_sf sp (i / sp m) (by omega), Nat.div_div_eq_div_mul, Nat.mul_comm]
theorem zpr_c {sp sp' : Nat → Nat} : ∀ {m : Nat}, (∀ j, j < m → sp j = sp' j) → zpr sp m = zpr sp' m
  | 0, _ => rfl
  | m + 1, h => by
    show zpr sp m * sp m = zpr sp' m * sp' m
    rw [zpr_c (fun j hj => h j (by omega)), h m (by omega)]
theorem zdg_c {sp sp' : Nat → Nat} : ∀ {m : Nat} (i j : Nat), (∀ j, j < m → sp j = sp' j) → zdg sp m i j = zdg sp' m i j
  | 0, _, _, _ => rfl
  | m + 1, i, j, h => by
    show (if j = m then i % sp m else zdg sp m (i / sp m) j) = (if j = m then i % sp' m else zdg sp' m (i / sp' m) j)
    rw [h m (by omega), zdg_c _ j (fun k hk => h k (by omega))]
theorem zdg_lt {sp : Nat → Nat} : ∀ {m j : Nat} (i : Nat), 0 < sp j → j < m → zdg sp m i j < sp j
  | 0, _, _, _, hj => absurd hj (by omega)
  | m + 1, j, i, h, hj => by
    show (if j = m then i % sp m else zdg sp m (i / sp m) j) < sp j
    by_cases q : j = m
    · subst q
      rw [if_pos rfl]
      exact Nat.mod_lt _ h
    · rw [if_neg q]
      exact zdg_lt _ h (by omega)
theorem zpr_add (sp : Nat → Nat) (m : Nat) : ∀ l, zpr sp (m + l) = zpr sp m * zpr (fun k => sp (m + k)) l
  | 0 => by show zpr sp m = zpr sp m * 1; omega
  | l + 1 => by
    show zpr sp (m + l) * sp (m + l) = zpr sp m * (zpr (fun k => sp (m + k)) l * sp (m + l))
    rw [zpr_add sp m l, Nat.mul_assoc]
theorem zpr_pos {sp : Nat → Nat} : ∀ {m : Nat}, (∀ j, j < m → 0 < sp j) → 0 < zpr sp m
  | 0, _ => by show 0 < 1; decide
  | m + 1, h => Nat.mul_pos (zpr_pos (fun j hj => h j (by omega))) (h m (by omega))
theorem zpr_mono {sp : Nat → Nat} {m n : Nat} (h : ∀ j, j < n → 0 < sp j) (hm : m ≤ n) : zpr sp m ≤ zpr sp n := by
  obtain ⟨l, rfl⟩ : ∃ l, n = m + l := ⟨n - m, by omega⟩
  rw [zpr_add]
  exact Nat.le_mul_of_pos_right _ (zpr_pos (fun j hj => h _ (by omega)))
theorem zdg_join (sp : Nat → Nat) (m i : Nat) : ∀ (l c j : Nat), c < zpr (fun k => sp (m + k)) l → j < m + l →
    zdg sp (m + l) (i * zpr (fun k => sp (m + k)) l + c) j = if j < m then zdg sp m i j else zdg (fun k => sp (m + k)) l c (j - m)
  | 0, c, j, hc, hj => by
    have hc : c < 1 := hc
    rw [if_pos (by omega)]
    show zdg sp m (i * 1 + c) j = _
    rw [show i * 1 + c = i by omega]
  | l + 1, c, j, hc, hj => by
    have hc : c < zpr (fun k => sp (m + k)) l * sp (m + l) := hc
    have hs : 0 < sp (m + l) := by
      rcases Nat.eq_zero_or_pos (sp (m + l)) with q | q
      · rw [q] at hc; omega
      · exact q
    have hc1 : c / sp (m + l) < zpr (fun k => sp (m + k)) l := Nat.div_lt_of_lt_mul (by rwa [Nat.mul_comm])
    have e : i * (zpr (fun k => sp (m + k)) l * sp (m + l)) + c = sp (m + l) * (i * zpr (fun k => sp (m + k)) l) + c := by
      rw [← Nat.mul_assoc, Nat.mul_comm]
    show (if j = m + l then (i * (zpr (fun k => sp (m + k)) l * sp (m + l)) + c) % sp (m + l) else zdg sp (m + l) ((i * (zpr (fun k => sp (m + k)) l * sp (m + l)) + c) / sp (m + l)) j) = if j < m then zdg sp m i j else (if j - m = l then c % sp (m + l) else zdg (fun k => sp (m + k)) l (c / sp (m + l)) (j - m))
    rw [e, Nat.mul_add_mod, Nat.mul_add_div hs]
    by_cases q : j = m + l
    · rw [if_pos q, if_neg (by omega), if_pos (by omega)]
    · rw [if_neg q, zdg_join sp m i l _ j hc1 (by omega)]
      by_cases q2 : j < m
      · rw [if_pos q2, if_pos q2]
      · rw [if_neg q2, if_neg q2, if_neg (by omega)]
theorem zpr_sf (sp : Nat → Nat) : ∀ {m j : Nat}, j ≤ m → zpr sp m = zpr sp j * zsf sp m j
  | 0, j, h => by
    obtain rfl : j = 0 := by omega
    rfl
  | m + 1, j, h => by
    by_cases q : j ≤ m
    · show zpr sp m * sp m = zpr sp j * (if j ≤ m then zsf sp m j * sp m else 1)
      rw [if_pos q, zpr_sf sp q, Nat.mul_assoc]
    · obtain rfl : j = m + 1 := by omega
      rw [zsf_ge sp (Nat.le_refl _), Nat.mul_one]
theorem zsf_pos {sp : Nat → Nat} : ∀ {m j : Nat}, (∀ j, j < m → 0 < sp j) → 0 < zsf sp m j
  | 0, _, _ => by show 0 < 1; decide
  | m + 1, j, h => by
    show 0 < (if j ≤ m then zsf sp m j * sp m else 1)
    split
    · exact Nat.mul_pos (zsf_pos (fun j hj => h j (by omega))) (h m (by omega))
    · decide
/-- one step up at place j stays below -/
theorem zdg_up {sp : Nat → Nat} {m i j : Nat} (hp : ∀ j, j < m → 0 < sp j) (hj : j < m) (hi : i < zpr sp m) (h : zdg sp m i j + 1 < sp j) : i + zsf sp m (j + 1) < zpr sp m := by
  rw [zdg_sf sp i hj] at h
  have hs := zsf_pos (sp := sp) (m := m) (j := j + 1) hp
  rw [zpr_sf sp (show j + 1 ≤ m by omega)] at hi ⊢
  generalize zsf sp m (j + 1) = S at *
  have e : zpr sp (j + 1) = zpr sp j * sp j := rfl
  rw [e] at hi ⊢
  have h1 : i / S < zpr sp j * sp j := Nat.div_lt_of_lt_mul (by rwa [Nat.mul_comm])
  have h2 : i / S / sp j < zpr sp j := Nat.div_lt_of_lt_mul (by rwa [Nat.mul_comm])
  have h3 := Nat.div_add_mod (i / S) (sp j)
  have h4 : (i / S / sp j + 1) * sp j ≤ zpr sp j * sp j := Nat.mul_le_mul_right _ h2
  rw [Nat.add_mul, Nat.one_mul, Nat.mul_comm] at h4
  have h5 : i / S + 2 ≤ zpr sp j * sp j := by omega
  have h6 : (i / S + 2) * S ≤ zpr sp j * sp j * S := Nat.mul_le_mul_right _ h5
  have h7 := Nat.div_add_mod i S
  have h8 := Nat.mod_lt i hs
  rw [Nat.add_mul, Nat.mul_comm (i / S)] at h6
  omega
/-- one step apart -/
def zadj (sp : Nat → Nat) (m i k : Nat) : Prop := ∃ j, j < m ∧ ((k = i + zsf sp m (j + 1) ∧ zdg sp m i j + 1 < sp j) ∨ (i = k + zsf sp m (j + 1) ∧ 0 < zdg sp m i j))
