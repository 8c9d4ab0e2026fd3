/-! the world that the two constructors leave -/
theorem zv_wf : zWf zv129 := by
  intro k j hk
  by_cases h : (20 ≤ j ∧ k ≠ 166) ∨ 60 ≤ j
  · rw [zvl129 k j h]
    symm
    by_cases h2 : k < 202
    · exact (by decide +kernel : ∀ k, k < 202 → (zrT.getD k []).length ≤ 60 ∧ (k ≠ 166 → (zrT.getD k []).length ≤ 20)) k h2 |> fun q => by
        unfold zref
        rw [List.getD_eq_getElem?_getD, List.getElem?_eq_none (by omega)]
        rfl
    · unfold zref
      rw [List.getD_eq_getElem?_getD (l := zrT), List.getElem?_eq_none (show zrT.length ≤ k from Nat.le_trans (by decide +kernel : zrT.length ≤ 202) (by omega))]
      rfl
  · by_cases h2 : k < 202
    · by_cases h3 : k = 166
      · subst h3
        exact (by decide +kernel : ∀ j, j < 60 → zv129.2.2 166 j = zref 166 j) j (by omega)
      · have hj : j < 20 := by omega
        by_cases h4 : k < 100
        · exact (by decide +kernel : ∀ k, k < 100 → ∀ j, j < 20 → k ≠ 25 → zv129.2.2 k j = zref k j) k h4 j hj hk
        · have key : ∀ q, q < 102 → ∀ j, j < 20 → 100 + q ≠ 166 → zv129.2.2 (100 + q) j = zref (100 + q) j := by decide +kernel
          have := key (k - 100) (by omega) j hj (by omega)
          rwa [show 100 + (k - 100) = k by omega] at this
    · rw [(zvn129 k (by omega)).2.2 j]
      symm
      unfold zref
      rw [List.getD_eq_getElem?_getD (l := zrT), List.getElem?_eq_none (show zrT.length ≤ k from Nat.le_trans (by decide +kernel : zrT.length ≤ 202) (by omega))]
      rfl
theorem zv_m1 {m : Nat} (h : (-1 : Int32) = nI m) (hm : m ≤ 80) : False := by
  have key : ∀ m, m < 81 → (-1 : Int32) ≠ nI m := by decide +kernel
  exact key m (by omega) h
def zD0 : zD := (0, 0, 0, fun _ => 0, fun _ => 0, fun _ => 0, fun _ => 0, fun _ => 0, fun _ => 0, fun _ => 0, fun _ => 0)
theorem zD0_W : dW zD0 = 0 := rfl
theorem zD0_F : dF zD0 = 0 := rfl
theorem zD0_J : dJ zD0 = 0 := rfl
theorem zv_qT : qT zv129 := ⟨by decide +kernel, by decide +kernel, by decide +kernel, by decide +kernel, by decide +kernel⟩
theorem zv_qR : qR zv129 := by
  have key : ∀ r, r < 6 → zv129.1 (4 + 2 * r) 0 = zv129.1 168 r ∧ zv129.1 168 r = -1 := by decide +kernel
  intro r hr
  obtain ⟨h1, h2⟩ := key r hr
  refine ⟨h1, Or.inl h2, fun m hm hm2 => (zv_m1 (h2.symm.trans hm) (by omega)).elim⟩
theorem zv_qX : qX zv129 := by
  have key : ∀ r, r < 4 → zv129.1 (17 + 2 * r) 0 = zv129.1 171 r ∧ zv129.1 171 r = -1 := by decide +kernel
  intro r hr
  obtain ⟨h1, h2⟩ := key r hr
  refine ⟨h1, Or.inl h2, fun m hm hm2 => (zv_m1 (h2.symm.trans hm) (by omega)).elim⟩
theorem zv_qB : qB zv129 := by
  have key : ∀ k, k < 6 → zv129.1 (96 + 3 * k) 3 = zv129.1 186 k ∧ zv129.1 186 k = 0 ∧ zv129.1 (96 + 3 * k) 2 = zv129.1 189 k ∧ (zv129.2.1 (97 + 3 * k) 0 = 0 ∧ zv129.2.1 (97 + 3 * k) 1 = 0) ∧ (zv129.2.1 (98 + 3 * k) 0 = 0 ∧ zv129.2.1 (98 + 3 * k) 1 = 0) ∧ ∀ y, y < 10 → zv129.1 187 (10 * k + y) = 0 ∧ zv129.1 188 (10 * k + y) = 0 := by decide +kernel
  intro k hk
  obtain ⟨h1, h2, h3, ⟨h4, h5⟩, ⟨h6, h7⟩, h8⟩ := key k hk
  refine ⟨h1, Or.inl h2, h3, zno, zno, ⟨⟨by rw [zT_no]; exact h4, by rw [zLo_no]; exact h5⟩, by rw [zT_no]; exact h6, by rw [zLo_no]; exact h7⟩, fun y hy => ?_⟩
  obtain ⟨g1, g2⟩ := h8 y hy
  rw [zline_no]
  exact ⟨g1, g2⟩
theorem zv_qH : qH zv129 zD0 := by
  refine ⟨⟨⟨by decide, by decide, by decide⟩, fun h hh => absurd hh (Nat.not_lt_zero _), fun f hf => absurd hf (Nat.not_lt_zero _), rfl, fun j hj => absurd hj (Nat.not_lt_zero _), fun f i hf => absurd hf (Nat.not_lt_zero _)⟩, ⟨⟨by decide +kernel, by decide +kernel, by decide +kernel⟩, fun h hh => absurd hh (Nat.not_lt_zero _), fun f hf => absurd hf (Nat.not_lt_zero _), fun j hj => absurd hj (Nat.not_lt_zero _)⟩, ⟨⟨by decide +kernel, by decide +kernel, by decide +kernel⟩, fun h hh => absurd hh (Nat.not_lt_zero _), fun f hf => absurd hf (Nat.not_lt_zero _), fun j hj => absurd hj (Nat.not_lt_zero _)⟩, fun j hj => absurd hj (Nat.not_lt_zero _), fun f hf => absurd hf (Nat.not_lt_zero _), ?_, fun _ => ⟨?_, ?_⟩⟩
  · rw [show zpr (zsp zD0) (dJ zD0) = 1 from rfl, if_neg (by decide)]
    decide +kernel
  · rw [show zN_ zD0 (-1) (dF zD0) = 1 from rfl]
    decide +kernel
  · intro i hi
    have h0 : i = 0 := by
      have : i < 1 := hi
      omega
    subst h0
    rw [show rL zD0 (-1) (dF zD0) 0 = [] from rfl, show rA zD0 (-1) (dF zD0) 0 = 0 from rfl, show zdkL zno [] = zno from rfl, show zwrL zno [] = 0 from rfl, zT_no, zLo_no]
    exact ⟨by decide +kernel, by decide +kernel, by decide +kernel⟩
theorem zv_zQ : zQ zv129 := by
  refine ⟨zv_wf, zv_qT, zv_qR, zv_qX, zv_qB, zD0, 1, 3, 3, 99, 0, 0, 0, zv_qH, ⟨⟨⟨by decide, by decide⟩, by decide, by decide⟩, ⟨by decide +kernel, by decide +kernel, by decide +kernel⟩, by decide +kernel, by decide +kernel, by decide +kernel⟩, ⟨by decide, by decide +kernel, by decide +kernel⟩, ⟨by decide, by decide +kernel, by decide +kernel, fun p hp => absurd hp (Nat.not_lt_zero _)⟩, ⟨by decide, by decide +kernel, by decide +kernel, fun q t hq => absurd hq (Nat.not_lt_zero _)⟩, by decide, by decide +kernel, by decide +kernel, fun q hq => absurd hq (Nat.not_lt_zero _)⟩
