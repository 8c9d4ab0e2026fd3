theorem zcopy_fr {w : zW} {A B F : List Nat} {k0 k1 i j n : Nat} (h : k1 ∈ A) (h2 : k1 ≠ 166) : zFr A B F w (zcopy w k0 k1 i j n) := by
  refine ⟨rfl, fun a h1 _ => ?_, fun _ _ => rfl, fun q _ => ?_⟩
  · funext q
    exact if_neg (fun (z : a = k1 ∧ j ≤ q ∧ q < j + n) => h1 (z.1.symm ▸ h))
  · exact if_neg (fun (z : 166 = k1 ∧ j ≤ q ∧ q < j + n) => h2 z.1.symm)
theorem zSz_n {x : Int32} {L : Nat} (h : zSz x L) (h0 : 0 ≤ x) : ∃ m, m ≤ L ∧ x = nI m := by
  rcases h with e | h
  · rw [e] at h0
    exact absurd h0 (by decide)
  · exact h
theorem nI_pn {x : Int32} (h : ¬ x < 0) : ∃ k, k < 2 ^ 31 ∧ x = nI k := by
  obtain ⟨k, hk, e⟩ := nI_of h
  exact ⟨k, by omega, e⟩
theorem zO_copy {G : zG} (r i t j n : Int32) : zOi G mX11_copy mX12_copy [.int r, .int i, .int t, .int j, .int n] := by
  intro w h
  have h0 := h
  obtain ⟨hw, hT, hR, hX, hB, D, z, u, v, T, np, nl, c, hH, hL, hS, hP, hK⟩ := h
  by_cases hk0 : (0 ≤ r ∧ r < 6) ∧ (0 ≤ t ∧ t < 6)
  · obtain ⟨r, hr, rfl⟩ := r6 hk0.1
    obtain ⟨t, ht, rfl⟩ := r6 hk0.2
    have qr := hR r hr
    have qt := hR t ht
    by_cases hn : n < 0
    · exact zO_find h0 5 (s_X11_copy_n hw hr ht i j n hn) (s_X12_copy_n (zfind_w hw) hr ht i j n hn)
    · obtain ⟨n, hn31, rfl⟩ := nI_pn hn
      by_cases hm : 0 ≤ w.1 168 r ∧ 0 ≤ w.1 168 t
      · obtain ⟨m, hm40, em⟩ := zSz_n qr.2.1 hm.1
        obtain ⟨m', hm40', em'⟩ := zSz_n qt.2.1 hm.2
        have em1 := qr.1.trans em
        have em1' := qt.1.trans em'
        by_cases ho : ∃ i' j', i = nI i' ∧ j = nI j' ∧ i' + n ≤ m ∧ j' + n ≤ m'
        · obtain ⟨i, j, rfl, rfl, hi, hj⟩ := ho
          have c1 := s_X11_copy_ok (G := G) hw hr ht hm40 hm40' em1 em1' hi hj
          rw [show 4 + 2 * r + 1 = 5 + 2 * r by omega, show 4 + 2 * t + 1 = 5 + 2 * t by omega] at c1
          have hF1 : zFr kRo [] [] w (zcopy w (5 + 2 * r) (5 + 2 * t) i j n) := zcopy_fr (kRo_1 ht).2.1 (by omega)
          have e5 : ∀ a q, (zcopy w (5 + 2 * r) (5 + 2 * t) i j n).1 a q = if a = 5 + 2 * t ∧ j ≤ q ∧ q < j + n then w.1 (5 + 2 * r) (i + (q - j)) else w.1 a q := fun a q => zcopy_1
          generalize zcopy w (5 + 2 * r) (5 + 2 * t) i j n = w1 at c1 hF1 e5
          have hw1 := zFr_wf hF1 hw
          have a8 : w1.1 168 = w.1 168 := hF1.2.1 168 (by decide) (by decide)
          have a9 : w1.1 169 = w.1 169 := hF1.2.1 169 (by decide) (by decide)
          refine zEi_c c1 (zCi_m (s_X12_copy_ok (G := G) hw1 hr ht hm40 hm40' (by rw [a8]; exact em) (by rw [a8]; exact em') hi hj) (fun a w2 g => ?_))
          obtain ⟨rfl, k1, k2⟩ := g
          rw [a9] at k2
          have hF : zFr (kRo ++ [169, 170]) [] [] w w2 := zFr_t (zFr_s hF1 (by decide)) (zFr_s k1 (by decide))
          have b : ∀ a, 4 ≤ a → a ≤ 15 → w2.1 a = w1.1 a := fun a h1 h2 => k1.2.1 a (by simp; omega) (by omega)
          have b8 : w2.1 168 = w.1 168 := hF.2.1 168 (by decide) (by decide)
          refine ⟨rfl, zQ_R h0 (zFr_wf hF hw) hF.2 (by decide) (qT_f hT hF.2 (by decide)) (qR_one hR t (fun s hs hne => ⟨?_, ?_, by rw [b8], fun q hq => ?_⟩) (fun _ => ⟨?_, ?_, fun m2 e2 hm2 q hq => ?_⟩))⟩
          · rw [b _ (by omega) (by omega), e5, if_neg (by omega)]
          · rw [b _ (by omega) (by omega)]
            funext q
            rw [e5, if_neg (by omega)]
          · rw [k2, if_neg (by omega)]
          · rw [b _ (by omega) (by omega), e5, if_neg (by omega), b8]
            exact qt.1
          · rw [b8]
            exact qt.2.1
          · rw [b8] at e2
            rw [b _ (by omega) (by omega), e5, k2]
            by_cases g : j ≤ q ∧ q < j + n
            · rw [if_pos ⟨rfl, g⟩, if_pos (by omega), qr.2.2 m em hm40 (i + (q - j)) (by omega), show 40 * r + i + (40 * t + q - (40 * t + j)) = 40 * r + (i + (q - j)) by omega]
            · rw [if_neg (fun z => g z.2), if_neg (by omega)]
              exact qt.2.2 m2 e2 hm2 q hq
        · have hc : ¬ c_copyOK w r t i j (nI n) := by
            rintro ⟨⟨a1, a2, a3⟩, b1, b2, b3⟩
            obtain ⟨i', hi, rfl⟩ := nI_pn (Int32.not_lt.mpr a1)
            obtain ⟨j', hj, rfl⟩ := nI_pn (Int32.not_lt.mpr b1)
            rw [em1] at a2 a3
            rw [em1'] at b2 b3
            have a2 := nI_leD a2 hi (by omega)
            have b2 := nI_leD b2 hj (by omega)
            rw [nI_sub a2] at a3
            rw [nI_sub b2] at b3
            have a3 := nI_leD a3 hn31 (by omega)
            have b3 := nI_leD b3 hn31 (by omega)
            exact ho ⟨i', j', rfl, rfl, by omega, by omega⟩
          have hb : i < 0 ∨ j < 0 ∨ ∃ i' j', i = nI i' ∧ j = nI j' ∧ i' < 2 ^ 31 ∧ j' < 2 ^ 31 ∧ (m < i' + n ∨ m' < j' + n) := by
            by_cases h1 : i < 0
            · exact Or.inl h1
            · by_cases h2 : j < 0
              · exact Or.inr (Or.inl h2)
              · obtain ⟨i', hi, rfl⟩ := nI_pn h1
                obtain ⟨j', hj, rfl⟩ := nI_pn h2
                refine Or.inr (Or.inr ⟨i', j', rfl, rfl, hi, hj, ?_⟩)
                rcases Nat.lt_or_ge m (i' + n) with q | q
                · exact Or.inl q
                · rcases Nat.lt_or_ge m' (j' + n) with q2 | q2
                  · exact Or.inr q2
                  · exact absurd ⟨i', j', rfl, rfl, q, q2⟩ ho
          exact zO_find h0 2 (s_X11_copy_b hw hr ht i j (nI n) hn (by rw [qr.1]; exact hm.1) (by rw [qt.1]; exact hm.2) hc) (s_X12_copy_b (zfind_w hw) hr ht i j hn31 hm40 hm40' (by rw [zfind_a (by decide) (by decide)]; exact em) (by rw [zfind_a (by decide) (by decide)]; exact em') hb)
      · exact zO_find h0 1 (s_X11_copy_m hw hr ht i j (nI n) hn (by rw [qr.1, qt.1]; exact hm)) (s_X12_copy_m (zfind_w hw) hr ht i j (nI n) hn (by rw [zfind_a (by decide) (by decide)]; exact hm))
  · exact zOe (s_X11_copy_bad r i t j n hk0) (s_X12_copy_bad r i t j n (fun q => hk0 ⟨by grind, by grind⟩)) rfl h0
