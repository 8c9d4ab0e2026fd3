theorem zO_nearest {G : zG} (k r : Int32) : zOi G mX11_nearest mX12_nearest [.int k, .int r] := by
  intro w h
  have h0 := h
  obtain ⟨hw, hT, hR, hX, hB, D, z, u, v, T, n, nl, c, hH, hL, hS, hP, hK⟩ := h
  obtain ⟨hD, hH1, hM, hRe⟩ := hH
  by_cases hk0 : (0 ≤ k ∧ k < 6) ∧ (0 ≤ r ∧ r < 6)
  · obtain ⟨k, hk, rfl⟩ := r6 hk0.1
    obtain ⟨r, hr, rfl⟩ := r6 hk0.2
    obtain ⟨b1, b2, b3, M, Y, b4, b5⟩ := hB k hk
    by_cases hz : w.1 186 k = 0
    · exact zO_find h0 1 (s_X11_nearest_m hw hk hr (b1.trans hz)) (s_X12_nearest_m (zfind_w hw) hk hr (by rw [zfind_a (by decide) (by decide)]; exact hz))
    · have hz' : ¬ w.1 (96 + 3 * k) 3 = 0 := by rw [b1]; exact hz
      by_cases hN : 4096 < zpr (zsp D) (dJ D)
      · exact zOe (s_X11_nearest_s hw hk hr hz' (by rw [hRe.2.2.1, if_pos hN])) (s_X12_nearest_s hw hM hD hk hr hz hN) rfl h0
      · refine zCi_m (s_X11_nearest (G := G) (T := T) hw hD hH1 hRe (by omega) hS.1 hS.2.1 hL.2.1 hL.1 hk hr hz' b4) (fun a w1 g => ?_)
        obtain ⟨rfl, g⟩ := g
        have cm : ∀ w1 : zW, zFr kRo [137, 138, 143, 144, 146] [] w w1 → _ := fun w1 hF => s_X12_nearest (G := G) (w := w1) (D := D) (T := T) (k := k) (r := r) (z := z) (u := u) (v := v) (M := M) (Y := Y) (zFr_wf hF hw) (mHd_f hM hF (by decide)) hD (by omega) hS.1 (by rw [hF.2.2.2 24 (by decide)]; exact hS.2.2) (mLm_o hL.2.2 ⟨hF.2.2.2 25 (by decide), hF.2.2.2 26 (by decide), hF.2.2.2 27 (by decide)⟩) hL.1 hk hr (by rw [hF.2.1 186 (by decide) (by decide)]; exact hz) (mBe_o b5 ⟨hF.2.1 187 (by decide) (by decide), hF.2.1 188 (by decide) (by decide)⟩)
        rcases g with ⟨e, k1⟩ | ⟨b, e, hb, w0, k0, k1⟩
        · have hF1 : zFr kRo [137, 138, 143, 144, 146] [] w w1 := zFr_s k1 (by decide)
          refine zCi_m (cm w1 hF1) (fun a w2 g => ?_)
          obtain ⟨rfl, g⟩ := g
          rcases g with ⟨_, k2⟩ | ⟨b, e', _⟩
          · have hF : zFr [179, 180, 181, 182] [137, 138, 143, 144, 146] [29, 41] w w2 := zFr_t (zFr_s k1 (by decide)) (zFr_s k2 (by decide))
            exact ⟨rfl, zQ_told h0 (zFr_wf hF hw) hF.2 (by decide) (qT_f hT hF.2 (by decide))⟩
          · rw [e] at e'
            cases e'
        · have hF1 : zFr kRo [137, 138, 143, 144, 146] [] w w1 := zFr_t (zFr_s k0 (by decide)) (zFr_s (cRowW_fr k1 hr) (by decide))
          refine zCi_m (cm w1 hF1) (fun a w3 g => ?_)
          obtain ⟨rfl, g⟩ := g
          rcases g with ⟨e', _⟩ | ⟨b', e', _, w2, k2, k3⟩
          · rw [e] at e'
            cases e'
          · have eb : b' = b := by
              rw [e] at e'
              exact (Option.some.inj e').symm
            rw [eb] at k3
            have h6 := hD.1.2.2
            have hF : zFr (kRo ++ [168, 169, 179, 180, 181, 182]) [137, 138, 143, 144, 146] [29, 41] w w3 := zFr_t (zFr_s hF1 (by decide)) (zFr_t (zFr_s k2 (by decide)) (zFr_s k3.1 (by decide)))
            exact ⟨rfl, zQ_R h0 (zFr_wf hF hw) hF.2 (by decide) (qT_f hT hF.2 (by decide)) (qR_sh hR hr (by omega) k0.2 (by decide) k1 k2.2 (by decide) k3)⟩
  · exact zOe (s_X11_nearest_bad k r hk0) (s_X12_nearest_bad k r hk0) rfl h0
