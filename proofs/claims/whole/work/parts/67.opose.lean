/-! a pose asked of both -/
theorem qK_n {w : zW} {n n' l c : Nat} (h : qK w n l c) (hn : n ≤ n') (h4 : n' ≤ 4000) : qK w n' l c := by
  refine ⟨h.1, h.2.1, h.2.2.1, h.2.2.2.1, fun q hq => ?_⟩
  have g := h.2.2.2.2 q hq
  have e : nI n ≤ nI n' := nI_le hn (by omega)
  exact ⟨g.1, g.2.1, ⟨g.2.2.1.1, by have := g.2.2.1.2; grind⟩, g.2.2.2⟩
/-- the main case: a pose is put -/
theorem zO_pose_g {G : zG} {w : zW} {D : zD} {z u v T n nl c r : Nat} {j : Int32} (hw : zWf w) (hT : qT w) (hR : qR w) (hX : qX w) (hB : qB w) (hH : qH w D) (hL : qL w z u v) (hS : qS w T) (hP : qP w D n) (hK : qK w n nl c) (hr : r < 6) (hj : jok D j) (g0 : 0 ≤ w.1 168 r) (gs : w.1 168 r = nI (dJ D)) (gt : mturnK w D r (dJ D)) (ga : j = -9 ∨ ¬ w.1 169 (40 * r + j.toNatClampNeg) = nI (dA D j.toNatClampNeg)) (ga' : j = -9 ∨ zRget w (4 + 2 * r) j < nI (dA D j.toNatClampNeg)) (gn : n < 12) :
    zCi G mX11_pose (.ref 0 :: [.int (nI r), .int j]) w (fun a w1 => zCi G mX12_pose (.ref 166 :: [.int (nI r), .int j]) w1 (fun a' w2 => a' = a ∧ zQ w2)) := by
  obtain ⟨hD, hH1, hM, hRe⟩ := id hH
  have h6 := hD.1.2.2
  have qr := hR r hr
  have es : w.1 (4 + 2 * r) 0 = nI (dJ D) := qr.1.trans gs
  have eg : ∀ i, i < dJ D → zRget w (4 + 2 * r) (nI i) = w.1 169 (40 * r + i) := fun i hi => by
    rw [zRget_in es (by omega) hi, show 4 + 2 * r + 1 = 5 + 2 * r by omega]
    exact qr.2.2 (dJ D) gs (by omega) i hi
  have gt' : zturn w D (4 + 2 * r) := fun i hi => by rw [eg i hi]; exact gt i hi
  have gz : ∀ i, dJ D ≤ i → i < 6 → zRget w (4 + 2 * r) (nI i) = 0 := fun i h1 h2 => by
    unfold zRget
    rw [es, if_neg (fun q => absurd ((nI_ltI (by omega) (by omega)).mp q.2) (by omega))]
  have gj : ∀ i, i < dJ D → -2 ≤ zRget w (4 + 2 * r) (nI i) ∧ zRget w (4 + 2 * r) (nI i) ≤ 2 := fun i hi => by
    have q := gt' i hi
    have qd := hD.2.2.2.2.1 i hi
    have a1 : nI (dB D i) ≤ 2 := nI_le (b := 2) qd.2.1 (by decide)
    have a2 : nI (dA D i) ≤ 2 := nI_le (b := 2) qd.2.2 (by decide)
    have a3 : 0 ≤ nI (dB D i) := nI_pos' (by omega)
    grind
  refine zCi_m (s_X11_pose_g (G := G) hw hH1 hD hr hj (by rw [qr.1]; exact qr.2.1) (by rw [qr.1]; exact g0) es gt' ga' gn hP.2.1 hS.1 hS.2.1) (fun a w1 q => ?_)
  obtain ⟨rfl, w2, w3, ⟨b1, b2, b3, b4⟩, ⟨d1, d2, d3, d4⟩, e1⟩ := q
  have h6t : zT6 D (w2.1 (48 + 4 * n)) := fun i hi => by
    rw [b2 i hi]
    exact ⟨by (by_cases g : i < dJ D; exact gj i g; rw [gz i (by omega) hi]; decide), fun g => gz i g hi⟩
  have et2 : ∀ i, i < dJ D → w2.1 (48 + 4 * n) i = w.1 169 (40 * r + i) := fun i hi => by rw [b2 i (by omega), eg i hi]
  have hF1 : zFr ([0, 1] ++ kPo) (163 :: kPo) [] w w1 := by
    rw [e1]
    refine zFr_t (w1 := w3) ?_ (zFr_t (zFr_i (by decide) (by decide)) (zFr_i (by decide) (by decide)))
    refine zFr_t (w1 := w2) ⟨b1.1, fun a h1 h2 => b1.2.1 a (fun q => h1 ?_) h2, fun a h1 => b1.2.2.1 a (fun q => h1 ?_), b1.2.2.2⟩ ⟨d1.1, fun a h1 h2 => d1.2.1 a (fun q => h1 ?_) h2, fun a h1 => d1.2.2.1 a (fun q => h1 ?_), d1.2.2.2⟩
    · simp at q
      exact List.mem_append_right _ (kPo_m (by omega) (by omega))
    · simp at q
      exact List.mem_cons_of_mem _ (kPo_m (by omega) (by omega))
    · simp at q
      exact List.mem_append_right _ (kPo_m (by omega) (by omega))
    · simp at q
      rcases q with q | q
      · exact List.mem_cons_of_mem _ (kPo_m (by omega) (by omega))
      · rw [q]
        exact List.mem_cons_self
  have hw1 := zFr_wf hF1 hw
  have a8 : w1.1 168 = w.1 168 := hF1.2.1 168 (by decide) (by decide)
  have a9 : w1.1 169 = w.1 169 := hF1.2.1 169 (by decide) (by decide)
  refine zCi_m (s_X12_pose_g (G := G) (w := w1) (D := D) (t := w2.1 (48 + 4 * n)) hw1 (mHd_f hM hF1 (by decide)) hD hr hj (by rw [a8]; exact g0) (by rw [a8]; exact gs) (by unfold mturnK; rw [a9]; exact gt) (by rw [a9]; exact ga) gn (by rw [hF1.2.2.2 33 (by decide)]; exact hP.2.2.1) hS.1 (by rw [hF1.2.2.2 24 (by decide)]; exact hS.2.2) h6t (fun i hi => by rw [a9]; exact (et2 i hi).symm)) (fun a w9 q => ?_)
  obtain ⟨rfl, w5, k1, k2, k3, ⟨m1, m2, m3, m4, m5, m6⟩⟩ := q
  have hF9 : zFr [179, 180, 181, 183, 184, 185] [] [2, 29, 33] w1 w9 := zFr_t (zFr_s k1 (by decide)) (zFr_s m1 (by decide))
  have hF : zFx ([0, 1] ++ kPo ++ [179, 180, 181, 183, 184, 185]) (163 :: kPo) [2, 29, 33] w w9 := (zFr_t (zFr_s hF1 (by decide)) (zFr_s hF9 (by decide))).2
  generalize et : w2.1 (48 + 4 * n) = t at *
  have c0 : w9.1 0 = (zsi (zsi w3 1 0 (jk D t j T)) 0 10 (nI (n + 1))).1 0 := by rw [hF9.2.1 0 (by decide) (by decide), e1]
  have c1 : w9.1 1 = (zsi (zsi w3 1 0 (jk D t j T)) 0 10 (nI (n + 1))).1 1 := by rw [hF9.2.1 1 (by decide) (by decide), e1]
  have f0 : w3.1 0 = w.1 0 := (d1.2.1 0 (by simp; omega) (by decide)).trans (b1.2.1 0 (by simp; omega) (by decide))
  have f1 : w3.1 1 = w.1 1 := (d1.2.1 1 (by simp; omega) (by decide)).trans (b1.2.1 1 (by simp; omega) (by decide))
  have cp : ∀ a, 47 ≤ a → a ≤ 94 → w9.1 a = w3.1 a := fun a h1 h2 => by rw [hF9.2.1 a (by simp; omega) (by omega), e1, zsi_o (by omega), zsi_o (by omega)]
  have cl : w9.2.1 = w3.2.1 := by
    rw [show w9.2.1 = w1.2.1 from funext (fun a => hF9.2.2.1 a (by simp)), e1]
    rfl
  refine ⟨rfl, zFr_wf hF9 hw1, qT_v hT ?_ ⟨hF.2.1 1 (by decide), hF.2.1 166 (by decide)⟩ ⟨?_, hF.2.2 0 (by decide)⟩ ⟨hF.1 2 (by decide) (by decide), hF.1 167 (by decide) (by decide)⟩, qR_f hR hF (by decide), qX_f hX hF (by decide), qB_f hB hF (by decide), D, z, u, v, T, n + 1, nl, c, qH_f hH hF (by decide), qL_f hL hF (by decide), qS_o hS ?_ (hF.2.2 24 (by decide)), ⟨gn, ?_, m2, fun p hp => ?_⟩, qK_n (qK_f hK hF (by decide)) (by omega) (by omega)⟩
  · rw [c1, m3, zsi_o (by decide), zsi_1, if_pos ⟨rfl, rfl⟩]
  · rw [c1, zsi_o (by decide), zsi_1, if_neg (by omega), f1]
  · rw [c0, zsi_1, if_neg (by omega), zsi_o (by decide), f0]
  · rw [c0, zsi_1, if_pos ⟨rfl, rfl⟩]
  · by_cases ep : p = n
    · rw [ep]
      have e7 : w9.1 (47 + 4 * n) = w3.1 (47 + 4 * n) := cp _ (by omega) (by omega)
      have e8 : w9.1 (48 + 4 * n) = t := by rw [cp _ (by omega) (by omega), d2]
      unfold qP1
      rw [e8, e7, m4.1, m4.2.1, m4.2.2.1]
      refine ⟨h6t, fun i hi => ?_, fun i hi => ?_, ⟨d3.1, d3.2.1, d3.2.2.1⟩, ?_, ⟨zno, ?_, fun y hy => ?_⟩, ?_⟩
      · have q := gt i hi
        rw [← et2 i hi] at q
        have qd := hD.2.2.2.2.1 i hi
        have a1 : nI (dB D i) ≤ 2 := nI_le (b := 2) qd.2.1 (by decide)
        have a2 : nI (dA D i) ≤ 2 := nI_le (b := 2) qd.2.2 (by decide)
        have a3 : 0 ≤ nI (dB D i) := nI_pos' (by omega)
        obtain ⟨d, hd, ed⟩ := znatle (n := dB D i + dA D i) (x := t i + nI (dB D i)) (by omega) (by grind) (by rw [← nI_add]; grind)
        exact ⟨d, by unfold zsp; omega, by rw [← ed]; grind⟩
      · rw [m1.2.1 184 (by decide) (by decide)]
        exact k2 i hi
      · exact zHas_o d4 (by rw [cl])
      · refine zHas_o b4 ?_
        rw [cl, d1.2.2.1 _ (by simp; omega)]
      · rw [m5 y hy, zline_no]
        rfl
      · have hjk : jk D t j T = if 0 < jw D t j then 3 else if T < jm t j then 2 else if j = -9 then 1 else 4 := rfl
        by_cases x1 : 0 < jw D t j
        · rw [if_pos x1] at hjk
          left
          rw [hjk, if_pos rfl]
          exact ⟨rfl, d3.2.2.2.2⟩
        · rw [if_neg x1] at hjk
          by_cases x2 : T < jm t j
          · rw [if_pos x2] at hjk
            right
            left
            rw [hjk, if_neg (by decide)]
            exact ⟨rfl, d3.2.2.2.1⟩
          · rw [if_neg x2] at hjk
            right
            right
            refine ⟨?_, ?_⟩
            · rw [hjk]
              by_cases x3 : j = -9
              · rw [if_pos x3]
                exact Or.inl rfl
              · rw [if_neg x3]
                exact Or.inr (Or.inl rfl)
            · unfold jw at x1
              by_cases x3 : j = -9
              · rw [if_pos x3] at x1
                omega
              · rw [if_neg x3] at x1
                omega
    · refine qP1_p (hP.2.2.2 p (by omega)) ?_ ?_ ?_ ?_ (fun t ht => ?_) (fun i hi => ?_) (fun y hy => ?_) h6
      · rw [cp _ (by omega) (by omega), d1.2.1 _ (by simp; omega) (by omega), b1.2.1 _ (by simp; omega) (by omega)]
      · rw [cp _ (by omega) (by omega), d1.2.1 _ (by simp; omega) (by omega), b1.2.1 _ (by simp; omega) (by omega)]
      · rw [cl, d1.2.2.1 _ (by simp; omega), b1.2.2.1 _ (by simp; omega)]
      · rw [cl, d1.2.2.1 _ (by simp; omega), b1.2.2.1 _ (by simp; omega)]
      · rw [m4.2.2.2 _ (by omega), k1.2.1 183 (by decide) (by decide), hF1.2.1 183 (by decide) (by decide)]
      · rw [m1.2.1 184 (by decide) (by decide), k3 _ (by omega), hF1.2.1 184 (by decide) (by decide)]
      · rw [m6 _ (by omega), k1.2.1 185 (by decide) (by decide), hF1.2.1 185 (by decide) (by decide)]
theorem zO_pose {G : zG} (r j : Int32) : zOi G mX11_pose mX12_pose [.int r, .int j] := by
  intro w h
  have h0 := h
  obtain ⟨hw, hT, hR, hX, hB, D, z, u, v, T, n, nl, c, hH, hL, hS, hP, hK⟩ := h
  obtain ⟨hD, hH1, hM, hRe⟩ := hH
  have h12 := hP.1
  have h6 := hD.1.2.2
  by_cases hk0 : (0 ≤ r ∧ r < 6) ∧ (j = -9 ∨ (0 ≤ j ∧ j < nI (dJ D)))
  · obtain ⟨r, hr, rfl⟩ := r6 hk0.1
    have hj : jok D j := hk0.2
    have qr := hR r hr
    have mz : ∀ k, mHd (zfind w k) D := fun k => mHd_f hM (zfind_fr k) (by decide)
    by_cases g0 : 0 ≤ w.1 168 r
    · by_cases gs : w.1 168 r = nI (dJ D)
      · have es : w.1 (4 + 2 * r) 0 = nI (dJ D) := qr.1.trans gs
        have eg : ∀ i, i < dJ D → zRget w (4 + 2 * r) (nI i) = w.1 169 (40 * r + i) := fun i hi => by
          rw [zRget_in es (by omega) hi, show 4 + 2 * r + 1 = 5 + 2 * r by omega]
          exact qr.2.2 (dJ D) gs (by omega) i hi
        have hSz : zSz (w.1 (4 + 2 * r) 0) 40 := by rw [qr.1]; exact qr.2.1
        have g0' : 0 ≤ w.1 (4 + 2 * r) 0 := by rw [qr.1]; exact g0
        by_cases gt : mturnK w D r (dJ D)
        · have gt' : zturn w D (4 + 2 * r) := fun i hi => by rw [eg i hi]; exact gt i hi
          by_cases ga : j = -9 ∨ ¬ w.1 169 (40 * r + j.toNatClampNeg) = nI (dA D j.toNatClampNeg)
          · have ga' : j = -9 ∨ zRget w (4 + 2 * r) j < nI (dA D j.toNatClampNeg) := by
              by_cases e : j = -9
              · exact Or.inl e
              · right
                obtain ⟨i, hi, rfl⟩ := rn (by omega) (hj.resolve_left e)
                have ga := ga.resolve_left e
                rw [nI_clamp (by omega)] at ga ⊢
                rw [eg i hi]
                have := gt i hi
                grind
            by_cases gn : n = 12
            · rw [gn] at hP
              exact zOe (s_X11_pose_12 hw hH1 hD hr hj hSz g0' es gt' ga' hP.2.1) (s_X12_pose_12 hw hM hD hr hj g0 gs gt ga hP.2.2.1) rfl h0
            · exact zO_pose_g hw hT hR hX hB ⟨hD, hH1, hM, hRe⟩ hL hS hP hK hr hj g0 gs gt ga ga' (by omega)
          · have e9 : ¬ j = -9 := fun q => ga (Or.inl q)
            obtain ⟨i, hi, rfl⟩ := rn (by omega) (hj.resolve_left e9)
            have ga2 : w.1 169 (40 * r + i) = nI (dA D i) := by
              have := Decidable.not_not.mp (fun q => ga (Or.inr q))
              rw [nI_clamp (by omega)] at this
              exact this
            exact zOe (s_X11_pose_a hw hH1 hD hr hi hSz g0' es gt' (by rw [eg i hi, ga2]; exact fun q => absurd q Int32.lt_irrefl)) (s_X12_pose_a hw hM hD hr hi g0 gs gt ga2) rfl h0
        · exact zO_find h0 3 (s_X11_pose_t hw hH1 hD hr hj hSz g0' es (fun q => gt (fun i hi => by rw [← eg i hi]; exact q i hi))) (s_X12_pose_t (zfind_w hw) (mz 3) hD hr hj (by rw [zfind_a (by decide) (by decide)]; exact g0) (by rw [zfind_a (by decide) (by decide)]; exact gs) (by unfold mturnK; rw [zfind_a (by decide) (by decide)]; exact gt))
      · exact zO_find h0 5 (s_X11_pose_s hw hH1 hr hj (by rw [qr.1]; exact g0) (by rw [qr.1]; exact gs)) (s_X12_pose_s (zfind_w hw) (mz 5) hD hr hj (by rw [zfind_a (by decide) (by decide)]; exact g0) (by rw [zfind_a (by decide) (by decide)]; exact gs))
    · exact zO_find h0 1 (s_X11_pose_m hw hH1 hr hj (by rw [qr.1]; exact g0)) (s_X12_pose_m (zfind_w hw) (mz 1) hD hr hj (by rw [zfind_a (by decide) (by decide)]; exact g0))
  · exact zOe (s_X11_pose_bad hw hH1 r j hk0) (s_X12_pose_bad hM hD r j hk0) rfl h0
