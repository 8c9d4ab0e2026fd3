/-! order: both alike -/
theorem mfind_mono {A B F : List Nat} {w1 w2 : zW} {k : Nat} (hF : zFr A B F w1 w2) (h : 167 ∉ A) : zFr A B F (mfind w1 k) (mfind w2 k) := by
  refine ⟨hF.1, fun a h1 h2 => ?_, hF.2.2.1, fun i hi => ?_⟩
  · funext j
    unfold mfind
    rw [zsi_1, zsi_1, zsi_1, zsi_1, hF.2.1 a h1 h2, hF.2.1 167 h (by decide)]
  · unfold mfind
    rw [zsi_1, zsi_1, zsi_1, zsi_1, hF.2.2.2 i hi, hF.2.1 167 h (by decide)]
theorem zO_order {G : zG} (v r : Int32) : zOi G mX11_order mX12_order [.int v, .int r] := by
  intro w h
  have h0 := h
  obtain ⟨hw, hT, hR, hX, hB, D, z, u, v', T, n, nl, c, hH, hL, hS, hP, hK⟩ := h
  obtain ⟨hD, hH1, hM, hRe⟩ := hH
  have h12 := hP.1
  have hp12 : 2 ^ n ≤ 2 ^ 12 := Nat.pow_le_pow_right (by decide) h12
  by_cases hk0 : 1 ≤ v ∧ v < nI (2 ^ n)
  · obtain ⟨a, ha2, rfl⟩ := znat (n := 2 ^ n) (by omega) (Int32.le_trans (by decide) hk0.1) hk0.2
    have ha1 : 1 ≤ a := nI_leD (a := 1) hk0.1 (by omega) (by omega)
    by_cases hk1 : zcnt a.testBit n ≤ 8 ∧ 0 ≤ r ∧ r < 6
    · obtain ⟨h8, hr0⟩ := hk1
      obtain ⟨r, hr, rfl⟩ := r6 hr0
      have heq : oHeld a (mHk w) n = true ↔ ∀ p, p < n → a.testBit p = true → zheldk (w.1 (47 + 4 * p) 3) := by
        rw [oHeld_ok]
        constructor
        · intro g p hp hb
          rw [(hP.2.2.2 p hp).2.2.2.1.1]
          have g := g p hp hb
          unfold mHk at g
          rw [decide_eq_true_eq] at g
          exact g
        · intro g p hp hb
          have := g p hp hb
          rw [(hP.2.2.2 p hp).2.2.2.1.1] at this
          unfold mHk
          rw [decide_eq_true_eq]
          exact this
      by_cases hh : oHeld a (mHk w) n = true
      · have hh' := heq.mp hh
        by_cases hN : 4096 < zpr (zsp D) (dJ D)
        · refine zEi_c (s_X11_order_s hw h12 hP.2.1 ha2 ha1 h8 hr hh' (by rw [hRe.2.2.1, if_pos hN])) (zCi_m (s_X12_order_s hw hM hD h12 hP.2.2.1 ha2 ha1 h8 hr hh hN) (fun b w2 g => ?_))
          obtain ⟨rfl, hF⟩ := g
          exact ⟨rfl, zQ_told h0 (zFr_wf hF hw) hF.2 (by decide) (qT_f hT hF.2 (by decide))⟩
        · have exd : ∀ p : Nat, ∃ d : Nat → Nat, p < n → (∀ j, j < dJ D → d j < zsp D j) ∧ ∀ j, j < dJ D → w.1 (48 + 4 * p) j = ztv D d j := fun p => by
            by_cases hp : p < n
            · obtain ⟨d, h1, h2⟩ := qP1_d (hP.2.2.2 p hp)
              exact ⟨d, fun _ => ⟨h1, h2⟩⟩
            · exact ⟨fun _ => 0, fun q => absurd q hp⟩
          obtain ⟨dd, hdd⟩ : ∃ dd : Nat → Nat → Nat, ∀ p, p < n → (∀ j, j < dJ D → dd p j < zsp D j) ∧ ∀ j, j < dJ D → w.1 (48 + 4 * p) j = ztv D (dd p) j := ⟨fun p => (exd p).choose, fun p hp => (exd p).choose_spec hp⟩
          obtain ⟨W, hW⟩ := oWd_ex (zadj (zsp D) (dJ D)) (rH D (-1) T) (fun i => zcd (zsp D) (dd (oSel a n i)) (dJ D))
          refine zCi_m (s_X11_order (G := G) (T := T) hw hD hH1 hRe (by omega) hS.1 hS.2.1 h12 hP.2.1 ha2 ha1 h8 hr hh' (fun p hp => (hdd p hp).1) (fun p hp => (hdd p hp).2) hW) (fun b w1 g => ?_)
          obtain ⟨g1, U, g2, g3⟩ := g
          have cm : ∀ w1 : zW, zFr (cLs ++ kRo) [] [] w w1 → (oV (zcnt a.testBit n) (oB W) U 0 none < 1000000 → ∃ X, oSeq (zcnt a.testBit n) (oB W) U X (zcnt a.testBit n)) → _ := fun w1 hF hXs => s_X12_order (G := G) (w := w1) (D := D) (T := T) (r := r) (dd := dd) (W := W) (U := U) (zFr_wf hF hw) (mHd_f hM hF (by decide)) hD (by omega) hS.1 (by rw [hF.2.2.2 24 (by decide)]; exact hS.2.2) h12 (by rw [hF.2.2.2 33 (by decide)]; exact hP.2.2.1) ha2 ha1 h8 hr (by rw [show mHk w1 = mHk w from by unfold mHk; rw [hF.2.1 183 (by decide) (by decide)]]; exact hh) (fun p hp => (hdd p hp).1) (fun p hp j hj => by rw [hF.2.1 184 (by decide) (by decide), (hP.2.2.2 p hp).2.2.1 j hj]; exact (hdd p hp).2 j hj) hW g1 g2 hXs
          have hs40 : zcnt a.testBit n ≤ 40 := by omega
          rcases g3 with ⟨g4, rfl, k1⟩ | ⟨g4, rfl, X, g5, w0, k0, k1⟩
          · refine zCi_m (cm w1 (zFr_s k1 (by decide)) (fun q => absurd q g4)) (fun b w2 g => ?_)
            rcases g with ⟨_, rfl, k2⟩ | ⟨q, _⟩
            · have hF : zFr (cLs ++ mLs) [] [29, 49] w w2 := zFr_t (zFr_s k1 (by decide)) (zFr_s k2 (by decide))
              exact ⟨rfl, zQ_told h0 (zFr_wf hF hw) hF.2 (by decide) (qT_f hT hF.2 (by decide))⟩
            · exact absurd q g4
          · have hF1 : zFr (cLs ++ kRo) [] [] w w1 := zFr_t (zFr_s k0 (by decide)) (zFr_s (cRowW_fr k1 hr) (by decide))
            refine zCi_m (cm w1 hF1 (fun _ => ⟨X, g5⟩)) (fun b w3 g => ?_)
            rcases g with ⟨q, _⟩ | ⟨_, rfl, w2, k2, k3⟩
            · exact absurd g4 q
            · have k4 := k3 X g5
              have hF : zFr (cLs ++ kRo ++ [168, 169] ++ mLs) [] [29, 49] w w3 := zFr_t (zFr_s hF1 (by decide)) (zFr_t (zFr_s k2 (by decide)) (zFr_s k4.1 (by decide)))
              exact ⟨rfl, zQ_R h0 (zFr_wf hF hw) hF.2 (by decide) (qT_f hT hF.2 (by decide)) (qR_sh hR hr hs40 k0.2 (by decide) k1 k2.2 (by decide) k4)⟩
      · have hw1 := zfind_w (k := 3) hw
        have em : mHk (zfind w 3) = mHk w := by
          unfold mHk
          rw [zfind_a (by decide) (by decide)]
        refine zEi_c (s_X11_order_n hw h12 hP.2.1 ha2 ha1 h8 hr (fun q => hh (heq.mpr q))) (zCi_m (s_X12_order_n hw1 h12 (by rw [zfind_a (by decide) (by decide)]; exact hP.2.2.1) ha2 ha1 h8 hr (by rw [em]; exact hh)) (fun b w2 g => ?_))
        obtain ⟨rfl, w1, hF, rfl⟩ := g
        have hQ := zQ_find h0 3
        have hF2 := mfind_mono (k := 3) hF (by decide)
        exact ⟨rfl, zQ_told hQ (zFr_wf hF2 hQ.1) hF2.2 (by decide) (qT_f hQ.2.1 hF2.2 (by decide))⟩
    · exact zOe (s_X11_order_b2 hw h12 hP.2.1 ha1 ha2 r hk1) (s_X12_order_b2 hw h12 hP.2.2.1 ha1 ha2 r hk1) rfl h0
  · exact zOe (s_X11_order_b1 hw h12 hP.2.1 v r hk0) (s_X12_order_b1 hw h12 hP.2.2.1 v r hk0) rfl h0
