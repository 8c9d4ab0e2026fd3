theorem zO_hands {G : zG} (t : Int32) : zOi G mX11_hands mX12_hands [.int t] := by
  intro w h
  by_cases ht0 : 0 ≤ t ∧ t < 4
  · obtain ⟨t, ht, rfl⟩ := r4 ht0
    have q := h.2.2.2.1 t ht
    have h0 := h
    obtain ⟨hw, hT, hR, hX, hB, D, z, u, v, T, n, l, c, hH, hL, hS, hP, hK⟩ := h
    rcases q.2.1 with e | ⟨m, hm, e⟩
    · exact zO_find h0 1 (s_X11_hands_m hw ht (by rw [q.1, e]; decide)) (s_X12_hands_m (zfind_w hw) ht (by rw [zfind_a (by decide) (by decide), e]; decide))
    · have eT : ∀ w1 : zW, w1.1 172 = w.1 172 → rAll (mT w1 t) m 81 0 dNil = rAll (w.1 (17 + 2 * t + 1)) m 81 0 dNil := by
        intro w1 e1
        refine rAll_c (fun i hi => ?_) 81 0 dNil
        unfold mT
        rw [e1, show 17 + 2 * t + 1 = 18 + 2 * t by omega]
        exact (q.2.2 m e hm i hi).symm
      have ok := rAll_ok (T := w.1 (17 + 2 * t + 1)) (m := m) 81 0 dNil dNil_ok
      refine zCi_m (s_X11_hands (G := G) hw ht hm (q.1.trans e) hK.2.1 hK.2.2.1 (fun q hq => by rw [(hK.2.2.2.2 q hq).1.2.1]; exact (hK.2.2.2.2 q hq).2.2.1.1)) (fun r w1 g => ?_)
      obtain ⟨hw1, ⟨g1, rfl, f1, f2⟩ | ⟨g1, rfl, f1, f2, f3, f4, f5, f6⟩⟩ := g
      · have hF1 : zFx [25, 35, 36, 37, 38, 39, 40, 41, 42, 43] [] [] w w1 := ⟨fun a h1 _ => f1 a h1, fun a _ => by rw [f2], fun i _ => by rw [f1 166 (by decide)]⟩
        have c2 := s_X12_hands (G := G) (w := w1) hw1 ht hm (by rw [f1 171 (by decide)]; exact e)
        rw [eT w1 (f1 172 (by decide))] at c2
        refine zCi_m c2 (fun r w2 g => ?_)
        rcases g with ⟨_, rfl, k1⟩ | ⟨k1, _⟩
        · refine ⟨rfl, ?_⟩
          have hF : zFx [25, 35, 36, 37, 38, 39, 40, 41, 42, 43, 176, 177, 178] [] [16, 17, 18, 19, 20] w w2 := zFx_t (w1 := w1) ⟨fun a h1 h2 => hF1.1 a (by simp at h1 ⊢; omega) h2, fun a h1 => hF1.2.1 a h1, fun i _ => hF1.2.2 i (by simp)⟩ (zFr_s k1 (by decide)).2
          exact zQ_i (zQt_f (zQ_t h0) (zFr_wf k1 hw1) hF (by decide)) (qT_f hT hF (by decide))
        · exact absurd k1 g1
      · generalize (rAll (w.1 (17 + 2 * t + 1)) m 81 0 dNil) = RR at *
        have n171 : (171 : Nat) ∉ oHd := by decide
        have n172 : (172 : Nat) ∉ oHd := by decide
        have c2 := s_X12_hands (G := G) (w := w1) hw1 ht hm (by rw [f5 171 n171]; exact e)
        rw [eT w1 (f5 172 n172)] at c2
        refine zCi_m c2 (fun r w2 g => ?_)
        rcases g with ⟨k1, _⟩ | ⟨_, rfl, k2, k3, k4, k5⟩
        · exact absurd g1 k1
        · refine ⟨rfl, ?_⟩
          have hF1 : zFx (oHd ++ oMd) [135, 136, 141, 142, 146] [10, 11, 12, 16, 17, 18, 19, 20, 33, 55] w w1 := ⟨fun a h1 _ => f5 a (fun q => h1 (List.mem_append_left _ q)), f6, fun i _ => by rw [f5 166 (by decide)]⟩
          have hF : zFx (oHd ++ oMd) [135, 136, 141, 142, 146] [10, 11, 12, 16, 17, 18, 19, 20, 33, 55] w w2 := zFx_t hF1 (zFr_s k5 (by decide)).2
          have e0 : w2.1 0 = w1.1 0 := k5.2.1 0 (by decide) (by decide)
          have e114 : w2.1 114 = w1.1 114 := k5.2.1 114 (by decide) (by decide)
          refine ⟨zFr_wf k5 hw1, qT_f hT hF (by decide), qR_f hR hF (by decide), qX_f hX hF (by decide), qB_f hB hF (by decide), RR.2, z, u, v, T, 0, l, 0, ⟨ok, cHd_o f1 (fun a h1 h2 => k5.2.1 a (by simp [oMd]; omega) (by omega)), k2, cRe_f f2 k5.2 (by decide)⟩, qL_f hL hF (by decide), qS_o hS ?_ (hF.2.2 24 (by decide)), ⟨by omega, ?_, k3, fun p hp => absurd hp (by omega)⟩, ⟨hK.1.1, ?_, ?_, fun q t hq ht => ?_⟩, by omega, ?_, k4, fun q hq => absurd hq (by omega)⟩
          · rw [e0, f4.2 8 (by decide)]
          · rw [e0, f4.1]
            rfl
          · rw [e114, f3.2 0 (by decide)]
            exact hK.1.2.1
          · rw [hF.2.2 53 (by decide)]
            exact hK.1.2.2.1
          · have := hK.1.1
            rw [hF.1 (116 + q) (by simp [oHd, oMd]; omega) (by omega), hF.1 200 (by decide) (by decide)]
            exact hK.1.2.2.2 q t hq ht
          · rw [e114, f3.1]
            rfl
  · exact zOe (s_X11_hands_bad t ht0) (s_X12_hands_bad t (r43 ht0)) rfl h
