theorem zO_call {G : zG} (lk p k : Int32) : zOi G mX11_call mX12_call [.int lk, .int p, .int k] := by
  intro w h
  have h0 := h
  obtain ⟨hw, hT, hR, hX, hB, D, z, u, v, T, n, nl, c, hH, hL, hS, hP, hK⟩ := h
  have h8 := hK.1.1
  have h12 := hP.1
  by_cases hk : (0 ≤ lk ∧ lk < nI nl) ∧ (0 ≤ p ∧ p < nI n) ∧ (0 ≤ k ∧ k < 6)
  · obtain ⟨hk1, hk2, hk3⟩ := hk
    obtain ⟨k, hk6, rfl⟩ := r6 hk3
    have c1 := s_X11_call (G := G) hw hK.2.1 hK.2.2.1 hk6 lk p ⟨by rw [hK.1.2.1]; exact hk1, by rw [hP.2.1]; exact hk2⟩
    unfold zFi c_call at c1
    have hb := hB k hk6
    rw [hb.1] at c1
    by_cases hz : w.1 186 k = 0
    · rw [if_pos hz] at c1
      have c2 := s_X12_call (G := G) (w := zfind w 1) (zfind_w hw) hK.2.1 (by rw [zfind_a (by decide) (by decide)]; exact hK.2.2.2.1) (show nl ≤ 4000 by omega) (by rw [zfind_a (by decide) (by decide)]; exact hK.1.2.2.1) (show n ≤ 4000 by omega) (by rw [zfind_a (by decide) (by decide)]; exact hP.2.2.1) hk6 lk p ⟨hk1, hk2⟩
      unfold zFi m_call at c2
      rw [zfind_a (by decide) (by decide), if_pos hz] at c2
      exact zO_find h0 1 c1 c2
    · rw [if_neg hz] at c1
      by_cases hc : c < 24
      · rw [if_pos hc] at c1
        generalize e1 : zsi (zsetCall w c lk p (nI k)) 114 2 (nI (c + 1)) = w1 at c1
        have hF1 : zFr [114, 124, 125, 126] [] [] w w1 := by
          rw [← e1]
          exact zFr_t (zFr_t (zFr_t (zFr_i (by decide) (by decide)) (zFr_i (by decide) (by decide))) (zFr_i (by decide) (by decide))) (zFr_i (by decide) (by decide))
        have hw1 := zFr_wf hF1 hw
        have c2 := s_X12_call (G := G) (w := w1) hw1 hK.2.1 (by rw [hF1.2.2.2 55 (by decide)]; exact hK.2.2.2.1) (show nl ≤ 4000 by omega) (by rw [hF1.2.2.2 53 (by decide)]; exact hK.1.2.2.1) (show n ≤ 4000 by omega) (by rw [hF1.2.2.2 33 (by decide)]; exact hP.2.2.1) hk6 lk p ⟨hk1, hk2⟩
        unfold zFi m_call at c2
        rw [hF1.2.1 186 (by decide) (by decide), if_neg hz, if_pos hc] at c2
        generalize e2 : zsi (zsi (zsi (zsi w1 201 (3 * c) lk) 201 (3 * c + 1) p) 201 (3 * c + 2) (nI k)) 166 55 (nI (c + 1)) = w2 at c2
        have hF2 : zFr [201] [] [55] w1 w2 := by
          rw [← e2]
          exact zFr_t (zFr_t (zFr_t (zFr_i (by decide) (by decide)) (zFr_i (by decide) (by decide))) (zFr_i (by decide) (by decide))) (zFr_m (by decide))
        have hF : zFx [114, 124, 125, 126, 201] [] [55] w w2 := (zFr_t (zFr_s hF1 (by decide)) (zFr_s hF2 (by decide))).2
        refine zOe c1 c2 rfl ⟨zFr_wf hF2 hw1, qT_f hT hF (by decide), qR_f hR hF (by decide), qX_f hX hF (by decide), qB_f hB hF (by decide), D, z, u, v, T, n, nl, c + 1, qH_f hH hF (by decide), qL_f hL hF (by decide), qS_f hS hF (by decide), qP_f hP hF (by decide), ⟨h8, ?_, ?_, fun q t hq ht => ?_⟩, by omega, ?_, ?_, fun q hq => ?_⟩
        · rw [hF2.2.1 114 (by decide) (by decide), ← e1, zsi_1, if_neg (by omega), zsetCall_o (by decide) (by decide) (by decide)]
          exact hK.1.2.1
        · rw [hF.2.2 53 (by decide)]
          exact hK.1.2.2.1
        · rw [hF.1 (116 + q) (by simp; omega) (by omega), hF.1 200 (by decide) (by decide)]
          exact hK.1.2.2.2 q t hq ht
        · rw [hF2.2.1 114 (by decide) (by decide), ← e1, zsi_1, if_pos ⟨rfl, rfl⟩]
        · rw [← e2, zsi_1, if_pos ⟨rfl, rfl⟩]
        · have e4 : w2.1 124 q = if q = c then lk else w.1 124 q := by rw [hF2.2.1 124 (by decide) (by decide), ← e1, zsi_o (by decide), zsetCall_4]
          have e5 : w2.1 125 q = if q = c then p else w.1 125 q := by rw [hF2.2.1 125 (by decide) (by decide), ← e1, zsi_o (by decide), zsetCall_5]
          have e6 : w2.1 126 q = if q = c then nI k else w.1 126 q := by rw [hF2.2.1 126 (by decide) (by decide), ← e1, zsi_o (by decide), zsetCall_6]
          have f0 : ∀ j, w2.1 201 j = if j = 3 * c + 2 then nI k else if j = 3 * c + 1 then p else if j = 3 * c then lk else w.1 201 j := by
            intro j
            rw [← e2, zsi_o (by decide), zsi_1, zsi_1, zsi_1, hF1.2.1 201 (by decide) (by decide)]
            simp
          rw [e4, e5, e6, f0, f0, f0]
          by_cases eq : q = c
          · subst eq
            rw [if_pos rfl, if_pos rfl, if_pos rfl, if_neg (by omega), if_neg (by omega), if_pos rfl, if_neg (by omega), if_pos rfl, if_pos rfl]
            exact ⟨⟨rfl, rfl, rfl⟩, hk1, hk2, hk3⟩
          · rw [if_neg eq, if_neg eq, if_neg eq, if_neg (by omega), if_neg (by omega), if_neg (by omega), if_neg (by omega), if_neg (by omega), if_neg (by omega), if_neg (by omega), if_neg (by omega), if_neg (by omega)]
            exact hK.2.2.2.2 q (by omega)
      · rw [if_neg hc] at c1
        have c2 := s_X12_call (G := G) hw hK.2.1 hK.2.2.2.1 (show nl ≤ 4000 by omega) hK.1.2.2.1 (show n ≤ 4000 by omega) hP.2.2.1 hk6 lk p ⟨hk1, hk2⟩
        unfold zFi m_call at c2
        rw [if_neg hz, if_neg hc] at c2
        exact zOe c1 c2 rfl h0
  · exact zOe (s_X11_call_bad hw lk p k (by rw [hK.1.2.1, hP.2.1]; exact hk)) (s_X12_call_bad (n := nl) (m := n) (by omega) hK.1.2.2.1 (by omega) hP.2.2.1 lk p k hk) rfl h0
theorem zO_odds {G : zG} (p k : Int32) : zOi G mX11_odds mX12_odds [.int p, .int k] := by
  intro w h
  have h0 := h
  obtain ⟨hw, hT, hR, hX, hB, D, z, u, v, T, n, nl, c, hH, hL, hS, hP, hK⟩ := h
  have h12 := hP.1
  by_cases hk : (0 ≤ p ∧ p < nI n) ∧ (0 ≤ k ∧ k < 6)
  · have c1 := s_X11_odds (G := G) hw hK.2.1 hK.2.2.1 p k ⟨by rw [hP.2.1]; exact hk.1, hk.2⟩
    unfold zFi c_odds at c1
    have e1 : zcnt (zofP w p (-9)) c = zcnt (mofP w p) c := zcnt_c (fun q hq => by
      unfold zofP mofP
      rw [(hK.2.2.2.2 q hq).1.2.1]
      simp)
    have e2 : zcnt (zofP w p k) c = zcnt (mofPK w p k) c := zcnt_c (fun q hq => by
      unfold zofP mofPK
      rw [(hK.2.2.2.2 q hq).1.2.1, (hK.2.2.2.2 q hq).1.2.2]
      have : ¬ k = -9 := by grind
      simp [this])
    rw [e1, e2] at c1
    by_cases hz : zcnt (mofP w p) c = 0
    · rw [if_pos hz] at c1
      have c2 := s_X12_odds (G := G) (w := zfind w 4) (zfind_w hw) hK.2.1 (by rw [zfind_a (by decide) (by decide)]; exact hK.2.2.2.1) (show n ≤ 4000 by omega) (by rw [zfind_a (by decide) (by decide)]; exact hP.2.2.1) p k hk
      unfold zFi m_odds at c2
      rw [show mofP (zfind w 4) p = mofP w p by unfold mofP; rw [zfind_a (by decide) (by decide)], if_pos hz] at c2
      exact zO_find h0 4 c1 c2
    · rw [if_neg hz] at c1
      have c2 := s_X12_odds (G := G) (w := zodds w 1 1 2 (zcnt (mofPK w p k) c) (zcnt (mofP w p) c)) (zWf_of hw rfl) hK.2.1 hK.2.2.2.1 (show n ≤ 4000 by omega) hP.2.2.1 p k hk
      unfold zFi m_odds at c2
      rw [show mofP (zodds w 1 1 2 (zcnt (mofPK w p k) c) (zcnt (mofP w p) c)) p = mofP w p from rfl, if_neg hz, show mofPK (zodds w 1 1 2 (zcnt (mofPK w p k) c) (zcnt (mofP w p) c)) p k = mofPK w p k from rfl] at c2
      have hF : zFx [] [1, 166] [] w (zodds (zodds w 1 1 2 (zcnt (mofPK w p k) c) (zcnt (mofP w p) c)) 166 3 4 (zcnt (mofPK w p k) c) (zcnt (mofP w p) c)) := (zFr_t (zFr_t (zFr_l (by decide)) (zFr_l (by decide))) (zFr_t (zFr_l (by decide)) (zFr_l (by decide)))).2
      refine zOe c1 c2 rfl (zQ_i (zQt_f (zQ_t h0) (zWf_of hw rfl) hF (by decide)) ⟨hT.1, ?_, ?_, hT.2.2.2.1, hT.2.2.2.2⟩)
      · unfold zodds
        simp [zsl]
      · unfold zodds
        simp [zsl]
  · exact zOe (s_X11_odds_bad hw p k (by rw [hP.2.1]; exact hk)) (s_X12_odds_bad (n := n) (by omega) hP.2.2.1 p k hk) rfl h0
theorem zkept_c {f g : Nat → Int32} {n : Int32} : ∀ {m : Nat}, (∀ q, q < m → f q = g q) → zkept f n m = zkept g n m
  | 0, _ => rfl
  | m + 1, h => by
    show zkept f n m + (if f m < n then 1 else 0) = zkept g n m + (if g m < n then 1 else 0)
    rw [zkept_c (fun q hq => h q (by omega)), h m (by omega)]
theorem qS_o {w w' : zW} {T : Nat} (h : qS w T) (e : w'.1 0 8 = w.1 0 8) (e2 : w'.1 166 24 = w.1 166 24) : qS w' T := by
  unfold qS
  rw [e, e2]
  exact h
theorem qP_g {A B F : List Nat} {w w' : zW} {D : zD} {n n' : Nat} (h : qP w D n) (hF : zFx A B F w w') (k : (okc [183, 184, 185] A && okc kPo A && okc kPo B) = true) (hn : n' ≤ n) (e1 : w'.1 0 10 = nI n') (e2 : w'.1 166 33 = nI n') : qP w' D n' := by
  simp only [Bool.and_eq_true] at k
  have h12 := h.1
  refine ⟨by omega, e1, e2, fun p hp => qP1_o (h.2.2.2 p (by omega)) (hF.1 _ (okc_m k.1.2 (kPo_m (by omega) (by omega))) (by omega)) (hF.1 _ (okc_m k.1.2 (kPo_m (by omega) (by omega))) (by omega)) (hF.2.1 _ (okc_m k.2 (kPo_m (by omega) (by omega)))) (hF.2.1 _ (okc_m k.2 (kPo_m (by omega) (by omega)))) (hF.1 183 (okc_m k.1.1 (by simp)) (by decide)) (hF.1 184 (okc_m k.1.1 (by simp)) (by decide)) (hF.1 185 (okc_m k.1.1 (by simp)) (by decide))⟩
theorem zO_back {G : zG} (n : Int32) : zOi G mX11_back mX12_back [.int n] := by
  intro w h
  have h0 := h
  obtain ⟨hw, hT, hR, hX, hB, D, z, u, v, T, np, nl, c, hH, hL, hS, hP, hK⟩ := h
  have h12 := hP.1
  by_cases hk : 0 ≤ n ∧ n ≤ nI np
  · obtain ⟨n, hn, rfl⟩ := znatle (n := np) (by omega) hk.1 hk.2
    refine zCi_m (s_X11_back (G := G) hw hK.2.1 hK.2.2.1 (nI n) (by rw [hP.2.1]; exact hk)) (fun r w3 q => ?_)
    obtain ⟨rfl, w1, hD1, rfl⟩ := q
    have hw3 : zWf (zsi (zsi w1 114 2 (nI (zkept (w.1 125) (nI n) c))) 0 10 (nI n)) := zWf_i (zWf_i (zWf_of hw (by rw [hD1.1])))
    have hF3 : zFx [0, 114, 124, 125, 126] [] [] w (zsi (zsi w1 114 2 (nI (zkept (w.1 125) (nI n) c))) 0 10 (nI n)) :=
      ⟨fun a h1 _ => by simp only [List.mem_cons, List.not_mem_nil, or_false, not_or] at h1; rw [zsi_o h1.1, zsi_o h1.2.1, hD1.2.1 a h1.2.2.1 h1.2.2.2.1 h1.2.2.2.2], fun a _ => by show w1.2.1 a = _; rw [hD1.1], fun i _ => by rw [zsi_o (by decide), zsi_o (by decide), hD1.2.1 166 (by decide) (by decide) (by decide)]⟩
    have g4 : ∀ q, q < c → w.1 125 q < nI n → (zsi (zsi w1 114 2 (nI (zkept (w.1 125) (nI n) c))) 0 10 (nI n)).1 124 (zkept (w.1 125) (nI n) q) = w.1 124 q ∧ (zsi (zsi w1 114 2 (nI (zkept (w.1 125) (nI n) c))) 0 10 (nI n)).1 125 (zkept (w.1 125) (nI n) q) = w.1 125 q ∧ (zsi (zsi w1 114 2 (nI (zkept (w.1 125) (nI n) c))) 0 10 (nI n)).1 126 (zkept (w.1 125) (nI n) q) = w.1 126 q := by
      intro q hq hl
      rw [zsi_o (by decide), zsi_o (by decide), zsi_o (by decide), zsi_o (by decide), zsi_o (by decide), zsi_o (by decide)]
      exact hD1.2.2.2 q hq hl
    have e0 : (zsi (zsi w1 114 2 (nI (zkept (w.1 125) (nI n) c))) 0 10 (nI n)).1 0 10 = nI n ∧ (zsi (zsi w1 114 2 (nI (zkept (w.1 125) (nI n) c))) 0 10 (nI n)).1 0 8 = w.1 0 8 ∧ (zsi (zsi w1 114 2 (nI (zkept (w.1 125) (nI n) c))) 0 10 (nI n)).1 114 2 = nI (zkept (w.1 125) (nI n) c) ∧ (zsi (zsi w1 114 2 (nI (zkept (w.1 125) (nI n) c))) 0 10 (nI n)).1 114 0 = w.1 114 0 := by
      rw [zsi_1, if_pos ⟨rfl, rfl⟩, zsi_1, if_neg (by omega), zsi_o (by decide), zsi_o (by decide), zsi_1, if_pos ⟨rfl, rfl⟩, zsi_1, if_neg (by omega), hD1.2.1 0 (by decide) (by decide) (by decide), hD1.2.1 114 (by decide) (by decide) (by decide)]
      exact ⟨rfl, rfl, rfl, rfl⟩
    generalize zsi (zsi w1 114 2 (nI (zkept (w.1 125) (nI n) c))) 0 10 (nI n) = w3 at hw3 hF3 g4 e0
    refine zCi_m (s_X12_back (G := G) (w := w3) hw3 hK.2.1 (by rw [hF3.2.2 55 (by decide)]; exact hK.2.2.2.1) (nI n) (by rw [hF3.2.2 33 (by decide), hP.2.2.1]; exact hk)) (fun r w4 q => ?_)
    obtain ⟨rfl, w5, hD5, rfl⟩ := q
    refine ⟨by rw [hF3.2.2 33 (by decide), hP.2.1, hP.2.2.1], ?_⟩
    have e201 : w3.1 201 = w.1 201 := hF3.1 201 (by decide) (by decide)
    have ek : zkept (mcalled w3) (nI n) c = zkept (w.1 125) (nI n) c := by
      refine (zkept_c (fun q hq => ?_)).symm
      show w.1 125 q = w3.1 201 (3 * q + 1)
      rw [e201]
      exact (hK.2.2.2.2 q hq).1.2.1
    have hF4 : zFx [201] [] [33, 55] w3 (zsi (zsi w5 166 55 (nI (zkept (mcalled w3) (nI n) c))) 166 33 (nI n)) :=
      ⟨fun a h1 h2 => by simp only [List.mem_cons, List.not_mem_nil, or_false] at h1; rw [zsi_o h2, zsi_o h2, hD5.2.1 a h1], fun a _ => by show w5.2.1 a = _; rw [hD5.1], fun i h1 => by simp only [List.mem_cons, List.not_mem_nil, or_false, not_or] at h1; rw [zsi_1, if_neg (fun q => h1.1 q.2), zsi_1, if_neg (fun q => h1.2 q.2), hD5.2.1 166 (by decide)]⟩
    have hF : zFx [0, 114, 124, 125, 126, 201] [] [33, 55] w (zsi (zsi w5 166 55 (nI (zkept (mcalled w3) (nI n) c))) 166 33 (nI n)) :=
      ⟨fun a h1 h2 => by simp only [List.mem_cons, List.not_mem_nil, or_false, not_or] at h1; rw [hF4.1 a (by simp; omega) h2, hF3.1 a (by simp; omega) h2], fun a h1 => (hF4.2.1 a h1).trans (hF3.2.1 a h1), fun i h1 => (hF4.2.2 i h1).trans (hF3.2.2 i (by simp))⟩
    have hkl := zkept_le (w.1 125) (nI n) c
    have hc24 := hK.2.1
    refine ⟨zWf_i (zWf_i (zWf_of hw3 (by rw [hD5.1]))), qT_f hT hF (by decide), qR_f hR hF (by decide), qX_f hX hF (by decide), qB_f hB hF (by decide), D, z, u, v, T, n, nl, zkept (w.1 125) (nI n) c, qH_f hH hF (by decide), qL_f hL hF (by decide), qS_o hS ?_ (hF.2.2 24 (by decide)), qP_g hP hF (by decide) hn ?_ ?_, ⟨hK.1.1, ?_, ?_, fun q t hq ht => ?_⟩, by omega, ?_, ?_, fun q hq => ?_⟩
    · rw [hF4.1 0 (by decide) (by decide)]
      exact e0.2.1
    · rw [hF4.1 0 (by decide) (by decide)]
      exact e0.1
    · rw [zsi_1, if_pos ⟨rfl, rfl⟩]
    · rw [hF4.1 114 (by decide) (by decide), e0.2.2.2]
      exact hK.1.2.1
    · rw [hF.2.2 53 (by decide)]
      exact hK.1.2.2.1
    · have := hK.1.1
      rw [hF.1 (116 + q) (by simp; omega) (by omega), hF.1 200 (by decide) (by decide)]
      exact hK.1.2.2.2 q t hq ht
    · rw [hF4.1 114 (by decide) (by decide)]
      exact e0.2.2.1
    · rw [zsi_1, if_neg (by omega), zsi_1, if_pos ⟨rfl, rfl⟩, ek]
    · obtain ⟨q0, hq0, hl, rfl⟩ := zkept_of c q hq
      have g := g4 q0 hq0 hl
      have hk0 := hK.2.2.2.2 q0 hq0
      have ek0 : zkept (mcalled w3) (nI n) q0 = zkept (w.1 125) (nI n) q0 := by
        refine (zkept_c (fun q hq => ?_)).symm
        show w.1 125 q = w3.1 201 (3 * q + 1)
        rw [e201]
        exact (hK.2.2.2.2 q (by omega)).1.2.1
      have m0 := fun t ht => hD5.2.2.2 q0 t hq0 ht (by rw [e201, ← hk0.1.2.1]; exact hl)
      rw [ek0] at m0
      rw [hF4.1 124 (by decide) (by decide), hF4.1 125 (by decide) (by decide), hF4.1 126 (by decide) (by decide), g.1, g.2.1, g.2.2, zsi_o (by decide), zsi_o (by decide), m0 1 (by decide), m0 2 (by decide), show 3 * zkept (w.1 125) (nI n) q0 = 3 * zkept (w.1 125) (nI n) q0 + 0 from rfl, m0 0 (by decide), e201]
      exact ⟨hk0.1, hk0.2.1, ⟨hk0.2.2.1.1, by rw [← hk0.1.2.1]; exact hl⟩, hk0.2.2.2⟩
  · exact zOe (s_X11_back_bad n (by rw [hP.2.1]; exact hk)) (s_X12_back_bad n (by rw [hP.2.2.1]; exact hk)) rfl h0
