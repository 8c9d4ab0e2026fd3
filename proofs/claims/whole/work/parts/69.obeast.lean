theorem qB_o {w w' : zW} {k : Nat} {M Y : zS} (h : w.1 (96 + 3 * k) 3 = w.1 186 k ∧ (w.1 186 k = 0 ∨ w.1 186 k = 1) ∧ w.1 (96 + 3 * k) 2 = w.1 189 k ∧ cBe w k M Y ∧ mBe w k M Y) (e1 : w'.1 (96 + 3 * k) = w.1 (96 + 3 * k)) (e2 : w'.1 186 k = w.1 186 k ∧ w'.1 189 k = w.1 189 k) (e3 : w'.2.1 (97 + 3 * k) = w.2.1 (97 + 3 * k) ∧ w'.2.1 (98 + 3 * k) = w.2.1 (98 + 3 * k)) (e4 : ∀ y, y < 10 → w'.1 187 (10 * k + y) = w.1 187 (10 * k + y) ∧ w'.1 188 (10 * k + y) = w.1 188 (10 * k + y)) :
    w'.1 (96 + 3 * k) 3 = w'.1 186 k ∧ (w'.1 186 k = 0 ∨ w'.1 186 k = 1) ∧ w'.1 (96 + 3 * k) 2 = w'.1 189 k ∧ ∃ M Y, cBe w' k M Y ∧ mBe w' k M Y := by
  rw [e1, e2.1, e2.2]
  refine ⟨h.1, h.2.1, h.2.2.1, M, Y, ⟨zHas_o h.2.2.2.1.1 e3.1, zHas_o h.2.2.2.1.2 e3.2⟩, fun y hy => ?_⟩
  rw [(e4 y hy).1, (e4 y hy).2]
  exact h.2.2.2.2 y hy
theorem zlk_n {g : Nat → Int32} (h : ∀ y, y < 10 → 0 ≤ g y ∧ g y ≤ 4095) : ∀ y, y < 10 → g y = nI (g y).toNatClampNeg ∧ (g y).toNatClampNeg < 4096 := by
  intro y hy
  obtain ⟨j, hj, e⟩ := znatle (n := 4095) (by decide) (h y hy).1 (h y hy).2
  rw [e, nI_clamp (by omega)]
  exact ⟨rfl, by omega⟩
theorem zO_beast {G : zG} (k r t m : Int32) : zOi G mX11_beast mX12_beast [.int k, .int r, .int t, .int m] := by
  intro w h
  have h0 := h
  obtain ⟨hw, hT, hR, hX, hB, D, z, u, v, T, n, nl, c, hH, hL, hS, hP, hK⟩ := h
  by_cases hk0 : (0 ≤ k ∧ k < 6) ∧ (0 ≤ r ∧ r < 6) ∧ (0 ≤ t ∧ t < 6) ∧ (0 ≤ m ∧ m ≤ 1)
  · obtain ⟨hk1, hr1, ht1, hm⟩ := hk0
    obtain ⟨k, hk, rfl⟩ := r6 hk1
    obtain ⟨r, hr, rfl⟩ := r6 hr1
    obtain ⟨t, ht, rfl⟩ := r6 ht1
    have qr := hR r hr
    have qt := hR t ht
    by_cases g1 : 0 ≤ w.1 168 r ∧ 0 ≤ w.1 168 t
    · by_cases g2 : w.1 168 r = 10 ∧ w.1 168 t = 10
      · have er : ∀ y, y < 10 → w.1 (5 + 2 * r) y = w.1 169 (40 * r + y) := fun y hy => qr.2.2 10 g2.1 (by decide) y hy
        have et : ∀ y, y < 10 → w.1 (5 + 2 * t) y = w.1 169 (40 * t + y) := fun y hy => qt.2.2 10 g2.2 (by decide) y hy
        by_cases g3 : zLkK w r t 10
        · have g4 : zLok (w.1 (5 + 2 * r)) ∧ zLok (w.1 (5 + 2 * t)) := ⟨fun y hy => by rw [er y hy]; exact (g3 y hy).1, fun y hy => by rw [et y hy]; exact (g3 y hy).2⟩
          have hf := zlk_n (g := fun y => w.1 169 (40 * r + y)) (fun y hy => (g3 y hy).1)
          have hg := zlk_n (g := fun y => w.1 169 (40 * t + y)) (fun y hy => (g3 y hy).2)
          generalize ef : (fun y => (w.1 169 (40 * r + y)).toNatClampNeg) = f
          generalize eg : (fun y => (w.1 169 (40 * t + y)).toNatClampNeg) = g
          have hf1 : ∀ y, y < 10 → w.1 169 (40 * r + y) = nI (f y) ∧ f y < 4096 := fun y hy => by rw [← ef]; exact hf y hy
          have hg1 : ∀ y, y < 10 → w.1 169 (40 * t + y) = nI (g y) ∧ g y < 4096 := fun y hy => by rw [← eg]; exact hg y hy
          have c1 := s_X11_beast (G := G) (f := f) (g := g) (m := m) hw hk hr ht hm (by unfold c_shf; rw [qr.1, qt.1, if_neg (fun q => q g1), if_neg (fun q => q g2), if_pos g4]) (qr.1.trans g2.1) (qt.1.trans g2.2) (fun y hy => by rw [er y hy, (hf1 y hy).1]) (fun y hy => by rw [et y hy, (hg1 y hy).1])
          generalize e1 : zsi (zsi (zsetS (zsetS w (97 + 3 * k) (zofL f)) (98 + 3 * k) (zofL g)) (96 + 3 * k) 2 m) (96 + 3 * k) 3 1 = w1 at c1
          have hF1 : zFr kBe kBe [] w w1 := by
            rw [← e1]
            exact zFr_t (zFr_t (zFr_S (kBe_m (by omega) (by omega))) (zFr_S (kBe_m (by omega) (by omega)))) (zFr_t (zFr_i (kBe_m (by omega) (by omega)) (by omega)) (zFr_i (kBe_m (by omega) (by omega)) (by omega)))
          have hw1 := zFr_wf hF1 hw
          have a8 : w1.1 168 = w.1 168 := hF1.2.1 168 (by decide) (by decide)
          have a9 : w1.1 169 = w.1 169 := hF1.2.1 169 (by decide) (by decide)
          refine zEi_c c1 (zCi_m (s_X12_beast (G := G) (f := f) (g := g) hw1 hk hr ht hm (by rw [a8]; exact g1) (by rw [a8]; exact g2) (by unfold zLkK; rw [a9]; exact g3) (fun y hy => by rw [a9]; exact (hf1 y hy).1) (fun y hy => by rw [a9]; exact (hg1 y hy).1) (fun y hy => (hf1 y hy).2)) (fun a w2 q => ?_))
          obtain ⟨rfl, k1, k2, k3, k4, k5⟩ := q
          have hF : zFx (kBe ++ [186, 187, 188, 189]) kBe [] w w2 := (zFr_t (zFr_s hF1 (by decide)) (zFr_s k1 (by decide))).2
          have bi : ∀ a, 96 ≤ a → a ≤ 113 → w2.1 a = w1.1 a := fun a h1 h2 => k1.2.1 a (by simp; omega) (by omega)
          have bl : w2.2.1 = w1.2.1 := funext (fun a => k1.2.2.1 a (by simp))
          refine ⟨rfl, zFr_wf k1 hw1, qT_f hT hF (by decide), qR_f hR hF (by decide), qX_f hX hF (by decide), fun s hs => ?_, D, z, u, v, T, n, nl, c, qH_f hH hF (by decide), qL_f hL hF (by decide), qS_f hS hF (by decide), qP_f hP hF (by decide), qK_f hK hF (by decide)⟩
          by_cases es : s = k
          · subst es
            rw [bi _ (by omega) (by omega), k4.1, k4.2, ← e1, zsi_1, if_pos ⟨rfl, rfl⟩, zsi_1, if_neg (by omega), zsi_1, if_pos ⟨rfl, rfl⟩]
            refine ⟨rfl, Or.inr rfl, rfl, zofL f, zofL g, ⟨?_, ?_⟩, fun y hy => ⟨?_, ?_⟩⟩
            · refine zHas_o (zsetS_has (w := w) (k := 97 + 3 * s) (S := zofL f)) ?_
              rw [bl, ← e1]
              exact zsetS_2 (by omega)
            · refine zHas_o (zsetS_has (w := zsetS w (97 + 3 * s) (zofL f)) (k := 98 + 3 * s) (S := zofL g)) ?_
              rw [bl, ← e1]
              rfl
            · rw [(k2 y hy).1, zline_of (hf1 y hy).2]
            · rw [(k2 y hy).2, zline_of (hg1 y hy).2]
          · obtain ⟨b1, b2, b3, M, Y, b4, b5⟩ := hB s hs
            refine qB_o ⟨b1, b2, b3, b4, b5⟩ ?_ ⟨?_, ?_⟩ ⟨?_, ?_⟩ (fun y hy => ⟨?_, ?_⟩)
            · rw [bi _ (by omega) (by omega), ← e1, zsi_o (by omega), zsi_o (by omega), zsetS_1, zsetS_1]
            · rw [(k5 s es).2, hF1.2.1 186 (by decide) (by decide)]
            · rw [(k5 s es).1, hF1.2.1 189 (by decide) (by decide)]
            · rw [bl, ← e1]
              exact (zsetS_2 (w := zsetS w (97 + 3 * k) (zofL f)) (by omega)).trans (zsetS_2 (by omega))
            · rw [bl, ← e1]
              exact (zsetS_2 (w := zsetS w (97 + 3 * k) (zofL f)) (by omega)).trans (zsetS_2 (by omega))
            · rw [(k3 _ (by omega)).1, hF1.2.1 187 (by decide) (by decide)]
            · rw [(k3 _ (by omega)).2, hF1.2.1 188 (by decide) (by decide)]
        · have g4 : ¬ (zLok (w.1 (5 + 2 * r)) ∧ zLok (w.1 (5 + 2 * t))) := fun q => g3 (fun y hy => by rw [← er y hy, ← et y hy]; exact ⟨q.1 y hy, q.2 y hy⟩)
          exact zO_find h0 3 (s_X11_beast_f hw hk hr ht hm ⟨by decide, by decide⟩ (by unfold c_shf; rw [qr.1, qt.1, if_neg (fun q => q g1), if_neg (fun q => q g2), if_neg g4]; rfl)) (s_X12_beast_l (zfind_w hw) hk hr ht hm (by rw [zfind_a (by decide) (by decide)]; exact g1) (by rw [zfind_a (by decide) (by decide)]; exact g2) (by unfold zLkK; rw [zfind_a (by decide) (by decide)]; exact g3))
      · exact zO_find h0 5 (s_X11_beast_f hw hk hr ht hm ⟨by decide, by decide⟩ (by unfold c_shf; rw [qr.1, qt.1, if_neg (fun q => q g1), if_pos g2]; rfl)) (s_X12_beast_s (zfind_w hw) hk hr ht hm (by rw [zfind_a (by decide) (by decide)]; exact g1) (by rw [zfind_a (by decide) (by decide)]; exact g2))
    · exact zO_find h0 1 (s_X11_beast_f hw hk hr ht hm ⟨by decide, by decide⟩ (by unfold c_shf; rw [qr.1, qt.1, if_pos g1]; rfl)) (s_X12_beast_m (zfind_w hw) hk hr ht hm (by rw [zfind_a (by decide) (by decide)]; exact g1))
  · exact zOe (s_X11_beast_bad k r t m hk0) (s_X12_beast_bad k r t m hk0) rfl h0
