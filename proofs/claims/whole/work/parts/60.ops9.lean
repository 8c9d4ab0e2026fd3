theorem zcard_put {S : zS} {c : Nat} (hc : c < 120) (h : S c = false) : zcard (zput S c) = zcard S + 1 := by
  have := zcnt_rm (P := zput S c) (R := S) (k := c) (by unfold zput; simp) h (fun i hi => by unfold zput; simp [hi]) (n := 120)
  rw [if_pos hc] at this
  exact this.symm
theorem zcard_L : ∀ (L : List zPt) (S : zS), zwrL S L = 0 → zcard (zdkL S L) = zcard S + L.length
  | [], S, _ => by
    rw [zdkL_0]
    simp
  | p :: L, S, h => by
    have h : zwr1 S p + zwrL (zdk1 S p) L = 0 := h
    have h1 : zwr1 S p = 0 := by omega
    have h2 : zwrL (zdk1 S p) L = 0 := by omega
    have ih := zcard_L L (zdk1 S p) h2
    show zcard (zdkL (zdk1 S p) L) = zcard S + (L.length + 1)
    rw [ih]
    unfold zwr1 at h1
    by_cases q : zon p ∧ S (zcel p) = false
    · have e : zdk1 S p = zput S (zcel p) := if_pos q.1
      rw [e, zcard_put (zcel_lt q.1) q.2]
      omega
    · rw [if_neg q] at h1
      exact absurd h1 (by decide)
theorem zcard_no : zcard zno = 0 := by decide +kernel
theorem zcard_P {L : List zPt} (h : zwrL zno L = 0) : zcard (zdkL zno L) = L.length := by
  rw [zcard_L L zno h, zcard_no]
  omega
theorem qR_show {w w' : zW} (h : qR w) {r n : Nat} {f : Nat → Int32} (hr : r < 6) (hn : n ≤ 40) (e1 : ∀ s, s < 6 → s ≠ r → w'.1 (4 + 2 * s) = w.1 (4 + 2 * s) ∧ w'.1 (5 + 2 * s) = w.1 (5 + 2 * s)) (e2 : w'.1 (4 + 2 * r) 0 = nI n) (e3 : ∀ i, i < n → w'.1 (5 + 2 * r) i = f i)
    (m1 : ∀ i, i ≠ r → w'.1 168 i = w.1 168 i) (m2 : w'.1 168 r = nI n) (m3 : ∀ i, i < 40 * r ∨ 40 * r + 40 ≤ i → w'.1 169 i = w.1 169 i) (m4 : ∀ i, i < n → w'.1 169 (40 * r + i) = f i) : qR w' := by
  refine qR_one h r (fun s hs hn => ⟨by rw [(e1 s hs hn).1], (e1 s hs hn).2, m1 s hn, fun j hj => m3 _ (by omega)⟩) (fun _ => ⟨e2.trans m2.symm, Or.inr ⟨n, hn, m2⟩, fun m em hm i hi => ?_⟩)
  have : m = n := nI_inj (by omega) (by omega) (em.symm.trans m2)
  rw [e3 i (by omega), m4 i (by omega)]
/-- the places that hold rows, on both sides -/
def kRw : List Nat := [4, 5, 6, 7, 8, 9, 10, 11, 12, 13, 14, 15, 168, 169]
/-- a row shown on both sides -/
theorem qR_sh {w w0 w1 w2 w3 : zW} {r n : Nat} {f : Nat → Int32} {A B F A' B' F' : List Nat} (h : qR w) (hr : r < 6) (hn : n ≤ 40) (hF0 : zFx A B F w w0) (k0 : okc kRw A = true) (hc : cRowW w0 r n f w1) (hF : zFx A' B' F' w1 w2) (k : okc kRw A' = true) (hm : mRowW w2 r n f w3) : qR w3 := by
  obtain ⟨c1, c2, c3⟩ := hc
  obtain ⟨m0, m1, m2, m3, m4⟩ := hm
  have a2 : ∀ a, 4 ≤ a → a ≤ 15 → w3.1 a = w1.1 a := fun a h1 h2 => (m0.2.1 a (by simp; omega) (by omega)).trans (hF.1 a (okc_m k (by simp [kRw]; omega)) (by omega))
  have e8 : w2.1 168 = w.1 168 := (hF.1 168 (okc_m k (by decide)) (by decide)).trans ((c1.2.1 168 (by simp; omega) (by decide)).trans (hF0.1 168 (okc_m k0 (by decide)) (by decide)))
  have e9 : w2.1 169 = w.1 169 := (hF.1 169 (okc_m k (by decide)) (by decide)).trans ((c1.2.1 169 (by simp; omega) (by decide)).trans (hF0.1 169 (okc_m k0 (by decide)) (by decide)))
  refine qR_show h hr hn (f := f) (fun s hs hne => ⟨?_, ?_⟩) ?_ (fun i hi => ?_) (fun i hi => by rw [m1 i hi, e8]) m2 (fun i hi => by rw [m3 i hi, e9]) m4
  · rw [a2 _ (by omega) (by omega), c1.2.1 _ (by simp; omega) (by omega), hF0.1 _ (okc_m k0 (by simp [kRw]; omega)) (by omega)]
  · rw [a2 _ (by omega) (by omega), c1.2.1 _ (by simp; omega) (by omega), hF0.1 _ (okc_m k0 (by simp [kRw]; omega)) (by omega)]
  · rw [a2 _ (by omega) (by omega)]
    exact c2
  · rw [a2 _ (by omega) (by omega)]
    exact c3 i hi
theorem cRowW_fr {w w' : zW} {r n : Nat} {f : Nat → Int32} (h : cRowW w r n f w') (hr : r < 6) : zFr kRo [] [] w w' := ⟨h.1.1, fun a h1 h2 => h.1.2.1 a (fun q => h1 (by simp at q; simp [kRo]; omega)) h2, h.1.2.2.1, h.1.2.2.2⟩
theorem s_X11_shape_bad {G : zG} {w : zW} (hw : zWf w) (p r : Int32) (h : ¬ ((0 ≤ p ∧ p < w.1 0 10) ∧ (0 ≤ r ∧ r < 6))) : zEi G mX11_shape [.ref 0, .int p, .int r] w (-1) w := by
  refine zC_of (lo := [_, _, _]) kcX11_shape (Nat.le_of_ble_eq_true rfl) rfl (fun X hX hE => ?_)
  refine zk_aload_n hX dX11_shape_0 rfl ?_
  refine zk_iload_n hX dX11_shape_1 rfl ?_
  refine zk_V1i hX dX11_shape_2 kcX11_isPose mlX11_227 viX11_isPose rfl k_0 z_0 (s_X11_isPose hw _) (Nat.le_of_ble_eq_true rfl) rfl ?_
  refine zk_if_eqB (tgt := 15) hX dX11_shape_5 (by decide) (fun c5 => ?_) (fun c5 => ?_)
  · refine zk_iconst (v := -1) hX dX11_shape_15 (by decide) ?_
    refine zk_iret hX hE rfl ⟨rfl, rfl⟩ dX11_shape_16 ⟨_, rfl, ?_⟩
    exact ⟨rfl, rfl⟩
  · refine zk_iload_n hX dX11_shape_8 rfl ?_
    refine zk_S1i hX dX11_shape_9 kcX11_isRow mlX11_107 smX11_isRow rfl (s_X11_isRow _) (Nat.le_of_ble_eq_true rfl) rfl ?_
    refine zk_if_neB (tgt := 17) hX dX11_shape_12 (by decide) (fun c12 => ?_) (fun c12 => ?_)
    · exact absurd c12 (fun q => h ⟨by first | exact c5 | exact Decidable.not_not.mp c5, q⟩)
    refine zk_iconst (v := -1) hX dX11_shape_15 (by decide) ?_
    refine zk_iret hX hE rfl ⟨rfl, rfl⟩ dX11_shape_16 ⟨_, rfl, ?_⟩
    exact ⟨rfl, rfl⟩
theorem s_X11_shape {G : zG} {w : zW} {n p r : Nat} {S : zS} (hw : zWf w) (hn : n ≤ 12) (hP : w.1 0 10 = nI n) (hp : p < n) (hr : r < 6) (hS : zHas w (49 + 4 * p) S) :
    zCi G mX11_shape [.ref 0, .int (nI p), .int (nI r)] w (fun v w' => v = nI (zcard S) ∧ cRowW w r 10 (fun y => nI (zline S y)) w') := by
  refine zC_of (lo := [_, _, _]) kcX11_shape (Nat.le_of_ble_eq_true rfl) rfl (fun X hX hE => ?_)
  refine zk_aload_n hX dX11_shape_0 rfl ?_
  refine zk_iload_n hX dX11_shape_1 rfl ?_
  refine zk_V1i hX dX11_shape_2 kcX11_isPose mlX11_227 viX11_isPose rfl k_0 z_0 (s_X11_isPose hw _) (Nat.le_of_ble_eq_true rfl) rfl ?_
  refine zk_if_eqB (tgt := 15) hX dX11_shape_5 (by decide) (fun c5 => ?_) (fun c5 => ?_)
  · exact absurd c5 (not_not_intro (by rw [hP]; exact ⟨nI_pos' (by omega), nI_lt hp (by omega)⟩))
  refine zk_iload_n hX dX11_shape_8 rfl ?_
  refine zk_S1i hX dX11_shape_9 kcX11_isRow mlX11_107 smX11_isRow rfl (s_X11_isRow _) (Nat.le_of_ble_eq_true rfl) rfl ?_
  refine zk_if_neB (tgt := 17) hX dX11_shape_12 (by decide) (fun c12 => ?_) (fun c12 => ?_)
  rotate_left
  · exact absurd (zrlt hr) c12
  refine zk_aload_n hX dX11_shape_17 rfl ?_
  refine zk_getR hX dX11_shape_18 flX11_18 k_0 z_0 (hw _ _ (by decide) |>.trans r_0_1) ?_
  refine zk_iload_n hX dX11_shape_21 rfl ?_
  refine zk_rows hX hw dX11_shape_22 rfl (by first | assumption | omega) ?_
  refine zk_aload_n hX dX11_shape_23 rfl ?_
  refine zk_getR hX dX11_shape_24 flX11_61 k_0 z_0 (hw _ _ (by decide) |>.trans r_0_9) ?_
  refine zk_iload_n hX dX11_shape_27 rfl ?_
  refine zk_poses hX hw dX11_shape_28 rfl (by first | assumption | omega) ?_
  refine zk_getR hX dX11_shape_29 flX11_256 (zPok (by first | assumption | omega)) (zPoz _ (by first | assumption | omega)).1 ((hw _ _ (by omega)).trans (zPoz _ (by first | assumption | omega)).2.2.2.2.2.1) ?_
  refine zk_V1vp hX dX11_shape_32 kcX8_showCells mlX11_265 viX8_showCells rfl (zRwR0 (by first | assumption | omega)) (zRw_r _ (by first | assumption | omega)).2.1 (s_X8_showCells hw hr (zPoD (by omega)) hS) (Nat.le_of_ble_eq_true rfl) rfl (fun w2 q2 => ?_)
  have hw2 := zFr_wf q2.1 hw
  refine zk_aload_n hX dX11_shape_35 rfl ?_
  refine zk_getR hX dX11_shape_36 flX11_61 k_0 z_0 (hw2 _ _ (by decide) |>.trans r_0_9) ?_
  refine zk_iload_n hX dX11_shape_39 rfl ?_
  refine zk_poses hX hw2 dX11_shape_40 rfl (by first | assumption | omega) ?_
  refine zk_getR hX dX11_shape_41 flX11_256 (zPok (by first | assumption | omega)) (zPoz _ (by first | assumption | omega)).1 ((hw2 _ _ (by omega)).trans (zPoz _ (by first | assumption | omega)).2.2.2.2.2.1) ?_
  refine zk_V0i hX dX11_shape_44 kcX1_number mlX11_247 viX1_number rfl (show 49 + 4 * _ < 202 by omega) (zPoz _ (by first | assumption | omega)).2.2.1 (s_X1_number (zPoD (by omega)) (zHas_o hS (q2.1.2.2.1 _ (by simp)))) (Nat.le_of_ble_eq_true rfl) rfl ?_
  refine zk_iret hX hE rfl ⟨rfl, rfl⟩ dX11_shape_47 ⟨_, rfl, ?_⟩
  exact ⟨rfl, q2⟩
theorem s_X12_shape_bad {G : zG} {w : zW} {n : Nat} (hn : n ≤ 12) (hP : w.1 166 33 = nI n) (p r : Int32) (h : ¬ ((0 ≤ p ∧ p < nI n) ∧ (0 ≤ r ∧ r < 6))) : zEi G mX12_shape [.ref 166, .int p, .int r] w (-1) w := by
  refine zC_of (lo := [_, _, _]) kcX12_shape (Nat.le_of_ble_eq_true rfl) rfl (fun X hX hE => ?_)
  refine zk_aload_n hX dX12_shape_0 rfl ?_
  refine zk_iload_n hX dX12_shape_1 rfl ?_
  refine zk_V1i hX dX12_shape_2 kcX12_isPose mlX12_290 viX12_isPose rfl k_166 z_166 (s_X12_isPose (n := n) (by omega) hP _) (Nat.le_of_ble_eq_true rfl) rfl ?_
  refine zk_if_eqB (tgt := 15) hX dX12_shape_5 (by decide) (fun c5 => ?_) (fun c5 => ?_)
  · refine zk_iconst (v := -1) hX dX12_shape_15 (by decide) ?_
    refine zk_iret hX hE rfl ⟨rfl, rfl⟩ dX12_shape_16 ⟨_, rfl, ?_⟩
    exact ⟨rfl, rfl⟩
  · refine zk_iload_n hX dX12_shape_8 rfl ?_
    refine zk_S1i hX dX12_shape_9 kcX12_isRow mlX12_141 smX12_isRow rfl (s_X12_isRow _) (Nat.le_of_ble_eq_true rfl) rfl ?_
    refine zk_if_neB (tgt := 17) hX dX12_shape_12 (by decide) (fun c12 => ?_) (fun c12 => ?_)
    · exact absurd c12 (fun q => h ⟨by first | exact c5 | exact Decidable.not_not.mp c5, by grind⟩)
    refine zk_iconst (v := -1) hX dX12_shape_15 (by decide) ?_
    refine zk_iret hX hE rfl ⟨rfl, rfl⟩ dX12_shape_16 ⟨_, rfl, ?_⟩
    exact ⟨rfl, rfl⟩
theorem s_X12_shape {G : zG} {w : zW} {D : zD} {n p r : Nat} (hw : zWf w) (hM : mHd w D) (hD : zDok D) (hn : n ≤ 12) (hP : w.1 166 33 = nI n) (hp : p < n) (hr : r < 6) {t : Nat → Int32} (hT : zT2 D t) (ht : ∀ j, j < dJ D → w.1 184 (6 * p + j) = t j) :
    zCi G mX12_shape [.ref 166, .int (nI p), .int (nI r)] w (fun v w' => v = nI (zcard (zdkL zno (zP D t (-1)))) ∧ ∃ w1, zFr [179, 180, 181, 182] [] [29] w w1 ∧ mRowW w1 r 10 (fun y => nI (zline (zdkL zno (zP D t (-1))) y)) w') := by
  refine zC_of (lo := [_, _, _]) kcX12_shape (Nat.le_of_ble_eq_true rfl) rfl (fun X hX hE => ?_)
  refine zk_aload_n hX dX12_shape_0 rfl ?_
  refine zk_iload_n hX dX12_shape_1 rfl ?_
  refine zk_V1i hX dX12_shape_2 kcX12_isPose mlX12_290 viX12_isPose rfl k_166 z_166 (s_X12_isPose (n := n) (by omega) hP _) (Nat.le_of_ble_eq_true rfl) rfl ?_
  refine zk_if_eqB (tgt := 15) hX dX12_shape_5 (by decide) (fun c5 => ?_) (fun c5 => ?_)
  · exact absurd c5 (not_not_intro ⟨nI_pos' (by omega), nI_lt hp (by omega)⟩)
  refine zk_iload_n hX dX12_shape_8 rfl ?_
  refine zk_S1i hX dX12_shape_9 kcX12_isRow mlX12_141 smX12_isRow rfl (s_X12_isRow _) (Nat.le_of_ble_eq_true rfl) rfl ?_
  refine zk_if_neB (tgt := 17) hX dX12_shape_12 (by decide) (fun c12 => ?_) (fun c12 => ?_)
  rotate_left
  · exact absurd (zrle (n := 5) (by omega)) c12
  refine zk_aload_n hX dX12_shape_17 rfl ?_
  refine zk_iload_n hX dX12_shape_18 rfl ?_
  refine zk_V1vp hX dX12_shape_19 kcX12_layPose mlX12_284 viX12_layPose rfl k_166 z_166 (s_X12_layPose hw hM hD (by omega) hT ht) (Nat.le_of_ble_eq_true rfl) rfl (fun w2 q2 => ?_)
  obtain ⟨k1, k2, k3⟩ := q2
  have hw2 := zFr_wf k1 hw
  refine zk_aload_n hX dX12_shape_22 rfl ?_
  refine zk_V0vp hX dX12_shape_23 kcX12_layShape mlX12_305 viX12_layShape rfl k_166 z_166 (s_X12_layShape hw2 k3 (zP_len hD _ _)) (Nat.le_of_ble_eq_true rfl) rfl (fun w3 q3 => ?_)
  have hw3 := zFr_wf q3.1 hw2
  refine zk_aload_n hX dX12_shape_26 rfl ?_
  refine zk_iload_n hX dX12_shape_27 rfl ?_
  refine zk_V1ip hX dX12_shape_28 kcX12_toRow mlX12_308 viX12_toRow rfl k_166 z_166 (s_X12_toRow hw3 hr q3.2) (Nat.le_of_ble_eq_true rfl) rfl (fun r4 w4 q4 => ?_)
  refine zk_iret hX hE rfl ⟨rfl, rfl⟩ dX12_shape_31 ⟨_, rfl, ?_⟩
  exact ⟨q4.1, w3, zFr_t (zFr_s k1 (by decide)) (zFr_s q3.1 (by decide)), q4.2⟩
theorem zO_shape {G : zG} (p r : Int32) : zOi G mX11_shape mX12_shape [.int p, .int r] := by
  intro w h
  have h0 := h
  obtain ⟨hw, hT, hR, hX, hB, D, z, u, v, T, n, nl, c, hH, hL, hS, hP, hK⟩ := h
  have h12 := hP.1
  by_cases hk0 : (0 ≤ p ∧ p < nI n) ∧ (0 ≤ r ∧ r < 6)
  · obtain ⟨p, hp, rfl⟩ := rn (by omega) hk0.1
    obtain ⟨r, hr, rfl⟩ := r6 hk0.2
    have q := hP.2.2.2 p hp
    refine zCi_m (s_X11_shape (G := G) hw h12 hP.2.1 hp hr q.2.2.2.2.1) (fun a w1 g => ?_)
    obtain ⟨rfl, k1⟩ := g
    have hF1 := cRowW_fr k1 hr
    refine zCi_m (s_X12_shape (G := G) (w := w1) (D := D) (zFr_wf hF1 hw) (mHd_f hH.2.2.1 hF1 (by decide)) hH.1 h12 (by rw [hF1.2.2.2 33 (by decide)]; exact hP.2.2.1) hp hr (qP1_t2 hH.1 q) (fun j hj => by rw [hF1.2.1 184 (by decide) (by decide)]; exact q.2.2.1 j hj)) (fun a w3 g => ?_)
    obtain ⟨rfl, w2, k2, k3⟩ := g
    have hF : zFr (kRo ++ [168, 169, 179, 180, 181, 182]) [] [29] w w3 := zFr_t (zFr_s hF1 (by decide)) (zFr_t (zFr_s k2 (by decide)) (zFr_s k3.1 (by decide)))
    exact ⟨rfl, zQ_R h0 (zFr_wf hF hw) hF.2 (by decide) (qT_f hT hF.2 (by decide)) (qR_sh hR hr (by omega) (A := []) (B := []) (F := []) zFr_r.2 (by decide) k1 k2.2 (by decide) k3)⟩
  · exact zOe (s_X11_shape_bad hw p r (by rw [hP.2.1]; exact hk0)) (s_X12_shape_bad h12 hP.2.2.1 p r hk0) rfl h0
theorem s_X11_thrown_bad {G : zG} {w : zW} (hw : zWf w) (p r : Int32) (h : ¬ ((0 ≤ p ∧ p < w.1 0 10) ∧ (0 ≤ r ∧ r < 6))) : zEi G mX11_thrown [.ref 0, .int p, .int r] w (-1) w := by
  refine zC_of (lo := [_, _, _]) kcX11_thrown (Nat.le_of_ble_eq_true rfl) rfl (fun X hX hE => ?_)
  refine zk_aload_n hX dX11_thrown_0 rfl ?_
  refine zk_iload_n hX dX11_thrown_1 rfl ?_
  refine zk_V1i hX dX11_thrown_2 kcX11_isPose mlX11_227 viX11_isPose rfl k_0 z_0 (s_X11_isPose hw _) (Nat.le_of_ble_eq_true rfl) rfl ?_
  refine zk_if_eqB (tgt := 15) hX dX11_thrown_5 (by decide) (fun c5 => ?_) (fun c5 => ?_)
  · refine zk_iconst (v := -1) hX dX11_thrown_15 (by decide) ?_
    refine zk_iret hX hE rfl ⟨rfl, rfl⟩ dX11_thrown_16 ⟨_, rfl, ?_⟩
    exact ⟨rfl, rfl⟩
  · refine zk_iload_n hX dX11_thrown_8 rfl ?_
    refine zk_S1i hX dX11_thrown_9 kcX11_isRow mlX11_107 smX11_isRow rfl (s_X11_isRow _) (Nat.le_of_ble_eq_true rfl) rfl ?_
    refine zk_if_neB (tgt := 17) hX dX11_thrown_12 (by decide) (fun c12 => ?_) (fun c12 => ?_)
    · exact absurd c12 (fun q => h ⟨by first | exact c5 | exact Decidable.not_not.mp c5, q⟩)
    refine zk_iconst (v := -1) hX dX11_thrown_15 (by decide) ?_
    refine zk_iret hX hE rfl ⟨rfl, rfl⟩ dX11_thrown_16 ⟨_, rfl, ?_⟩
    exact ⟨rfl, rfl⟩
theorem s_X11_thrown {G : zG} {w : zW} {n p r z u v : Nat} {S C : zS} (hw : zWf w) (hn : n ≤ 12) (hP : w.1 0 10 = nI n) (hp : p < n) (hr : r < 6) (hS : zHas w (49 + 4 * p) S) (hC : zHas w (50 + 4 * p) C) (hL : zLm w 44 z u v) (ho : zlok z u v) :
    zCi G mX11_thrown [.ref 0, .int (nI p), .int (nI r)] w (fun a w' => a = nI (zcard (if w.1 (47 + 4 * p) 3 = 5 then zun (zthr z u v S) C else zthr z u v S)) ∧ ∃ w1, zFr [] [163] [] w w1 ∧ cRowW w1 r 10 (fun y => nI (zline (if w.1 (47 + 4 * p) 3 = 5 then zun (zthr z u v S) C else zthr z u v S) y)) w') := by
  have hC3 : zCe 163 := ⟨by decide, by decide +kernel⟩
  refine zC_of (lo := [_, _, _]) kcX11_thrown (Nat.le_of_ble_eq_true rfl) rfl (fun X hX hE => ?_)
  refine zk_aload_n hX dX11_thrown_0 rfl ?_
  refine zk_iload_n hX dX11_thrown_1 rfl ?_
  refine zk_V1i hX dX11_thrown_2 kcX11_isPose mlX11_227 viX11_isPose rfl k_0 z_0 (s_X11_isPose hw _) (Nat.le_of_ble_eq_true rfl) rfl ?_
  refine zk_if_eqB (tgt := 15) hX dX11_thrown_5 (by decide) (fun c5 => ?_) (fun c5 => ?_)
  · exact absurd c5 (not_not_intro (by rw [hP]; exact ⟨nI_pos' (by omega), nI_lt hp (by omega)⟩))
  refine zk_iload_n hX dX11_thrown_8 rfl ?_
  refine zk_S1i hX dX11_thrown_9 kcX11_isRow mlX11_107 smX11_isRow rfl (s_X11_isRow _) (Nat.le_of_ble_eq_true rfl) rfl ?_
  refine zk_if_neB (tgt := 17) hX dX11_thrown_12 (by decide) (fun c12 => ?_) (fun c12 => ?_)
  rotate_left
  · exact absurd (zrlt hr) c12
  refine zk_aload_n hX dX11_thrown_17 rfl ?_
  refine zk_getR hX dX11_thrown_18 flX11_61 k_0 z_0 (hw _ _ (by decide) |>.trans r_0_9) ?_
  refine zk_iload_n hX dX11_thrown_21 rfl ?_
  refine zk_poses hX hw dX11_thrown_22 rfl (by first | assumption | omega) ?_
  refine zk_aload_n hX dX11_thrown_23 rfl ?_
  refine zk_getR hX dX11_thrown_24 flX11_48 k_0 z_0 (hw _ _ (by decide) |>.trans r_0_6) ?_
  refine zk_aload_n hX dX11_thrown_27 rfl ?_
  refine zk_getR hX dX11_thrown_28 flX11_97 k_0 z_0 (hw _ _ (by decide) |>.trans r_0_15) ?_
  refine zk_V2v hX dX11_thrown_31 kcX5_shadow mlX11_268 viX5_shadow rfl (zPok (by first | assumption | omega)) (zPoz _ (by first | assumption | omega)).1 (s_X5_shadow hw (by omega) (Or.inl rfl) hC3 (by omega) hS hC hL ho) (Nat.le_of_ble_eq_true rfl) rfl ?_
  refine zk_aload_n hX dX11_thrown_34 rfl ?_
  refine zk_getR hX dX11_thrown_35 flX11_18 k_0 z_0 ((zWf_of hw rfl (w' := zsetS w 163 (if w.1 (47 + 4 * p) 3 = 5 then zun (zthr z u v S) C else zthr z u v S))) _ _ (by decide) |>.trans r_0_1) ?_
  refine zk_iload_n hX dX11_thrown_38 rfl ?_
  refine zk_rows hX (zWf_of hw rfl (w' := zsetS w 163 (if w.1 (47 + 4 * p) 3 = 5 then zun (zthr z u v S) C else zthr z u v S))) dX11_thrown_39 rfl (by first | assumption | omega) ?_
  refine zk_aload_n hX dX11_thrown_40 rfl ?_
  refine zk_getR hX dX11_thrown_41 flX11_97 k_0 z_0 ((zWf_of hw rfl (w' := zsetS w 163 (if w.1 (47 + 4 * p) 3 = 5 then zun (zthr z u v S) C else zthr z u v S))) _ _ (by decide) |>.trans r_0_15) ?_
  refine zk_V1vp hX dX11_thrown_44 kcX8_showCells mlX11_265 viX8_showCells rfl (zRwR0 (by first | assumption | omega)) (zRw_r _ (by first | assumption | omega)).2.1 (s_X8_showCells (zWf_of hw rfl (w' := zsetS w 163 (if w.1 (47 + 4 * p) 3 = 5 then zun (zthr z u v S) C else zthr z u v S))) hr hC3 zsetS_has) (Nat.le_of_ble_eq_true rfl) rfl (fun w2 q2 => ?_)
  have hw2 := zFr_wf q2.1 (zWf_of hw rfl (w' := zsetS w 163 (if w.1 (47 + 4 * p) 3 = 5 then zun (zthr z u v S) C else zthr z u v S)))
  refine zk_aload_n hX dX11_thrown_47 rfl ?_
  refine zk_getR hX dX11_thrown_48 flX11_97 k_0 z_0 (hw2 _ _ (by decide) |>.trans r_0_15) ?_
  refine zk_V0i hX dX11_thrown_51 kcX1_number mlX11_247 viX1_number rfl k_163 z_163 (s_X1_number hC3 (zHas_o zsetS_has (q2.1.2.2.1 _ (by simp)))) (Nat.le_of_ble_eq_true rfl) rfl ?_
  refine zk_iret hX hE rfl ⟨rfl, rfl⟩ dX11_thrown_54 ⟨_, rfl, ?_⟩
  exact ⟨rfl, _, zFr_S (by decide), q2⟩
theorem s_X12_thrown_bad {G : zG} {w : zW} {n : Nat} (hn : n ≤ 12) (hP : w.1 166 33 = nI n) (p r : Int32) (h : ¬ ((0 ≤ p ∧ p < nI n) ∧ (0 ≤ r ∧ r < 6))) : zEi G mX12_thrown [.ref 166, .int p, .int r] w (-1) w := by
  refine zC_of (lo := [_, _, _]) kcX12_thrown (Nat.le_of_ble_eq_true rfl) rfl (fun X hX hE => ?_)
  refine zk_aload_n hX dX12_thrown_0 rfl ?_
  refine zk_iload_n hX dX12_thrown_1 rfl ?_
  refine zk_V1i hX dX12_thrown_2 kcX12_isPose mlX12_290 viX12_isPose rfl k_166 z_166 (s_X12_isPose (n := n) (by omega) hP _) (Nat.le_of_ble_eq_true rfl) rfl ?_
  refine zk_if_eqB (tgt := 15) hX dX12_thrown_5 (by decide) (fun c5 => ?_) (fun c5 => ?_)
  · refine zk_iconst (v := -1) hX dX12_thrown_15 (by decide) ?_
    refine zk_iret hX hE rfl ⟨rfl, rfl⟩ dX12_thrown_16 ⟨_, rfl, ?_⟩
    exact ⟨rfl, rfl⟩
  · refine zk_iload_n hX dX12_thrown_8 rfl ?_
    refine zk_S1i hX dX12_thrown_9 kcX12_isRow mlX12_141 smX12_isRow rfl (s_X12_isRow _) (Nat.le_of_ble_eq_true rfl) rfl ?_
    refine zk_if_neB (tgt := 17) hX dX12_thrown_12 (by decide) (fun c12 => ?_) (fun c12 => ?_)
    · exact absurd c12 (fun q => h ⟨by first | exact c5 | exact Decidable.not_not.mp c5, by grind⟩)
    refine zk_iconst (v := -1) hX dX12_thrown_15 (by decide) ?_
    refine zk_iret hX hE rfl ⟨rfl, rfl⟩ dX12_thrown_16 ⟨_, rfl, ?_⟩
    exact ⟨rfl, rfl⟩
theorem s_X12_thrown {G : zG} {w : zW} {D : zD} {n p r z u v : Nat} {C : zS} (hw : zWf w) (hM : mHd w D) (hD : zDok D) (hn : n ≤ 12) (hP : w.1 166 33 = nI n) (hp : p < n) (hr : r < 6) {t : Nat → Int32} (hT : zT2 D t) (ht : ∀ j, j < dJ D → w.1 184 (6 * p + j) = t j) (hl : mLm w z u v) (ho : zlok z u v) (hC : ∀ y, y < 10 → w.1 185 (10 * p + y) = nI (zline C y)) :
    zCi G mX12_thrown [.ref 166, .int (nI p), .int (nI r)] w (fun a w' => a = nI (zcard (zshd z u v (zP D t (-1)) (w.1 183 (3 * p)) C)) ∧ ∃ w1, zFr [179, 180, 181, 182] [] [29] w w1 ∧ mRowW w1 r 10 (fun y => nI (zline (zshd z u v (zP D t (-1)) (w.1 183 (3 * p)) C) y)) w') := by
  refine zC_of (lo := [_, _, _]) kcX12_thrown (Nat.le_of_ble_eq_true rfl) rfl (fun X hX hE => ?_)
  refine zk_aload_n hX dX12_thrown_0 rfl ?_
  refine zk_iload_n hX dX12_thrown_1 rfl ?_
  refine zk_V1i hX dX12_thrown_2 kcX12_isPose mlX12_290 viX12_isPose rfl k_166 z_166 (s_X12_isPose (n := n) (by omega) hP _) (Nat.le_of_ble_eq_true rfl) rfl ?_
  refine zk_if_eqB (tgt := 15) hX dX12_thrown_5 (by decide) (fun c5 => ?_) (fun c5 => ?_)
  · exact absurd c5 (not_not_intro ⟨nI_pos' (by omega), nI_lt hp (by omega)⟩)
  refine zk_iload_n hX dX12_thrown_8 rfl ?_
  refine zk_S1i hX dX12_thrown_9 kcX12_isRow mlX12_141 smX12_isRow rfl (s_X12_isRow _) (Nat.le_of_ble_eq_true rfl) rfl ?_
  refine zk_if_neB (tgt := 17) hX dX12_thrown_12 (by decide) (fun c12 => ?_) (fun c12 => ?_)
  rotate_left
  · exact absurd (zrle (n := 5) (by omega)) c12
  refine zk_aload_n hX dX12_thrown_17 rfl ?_
  refine zk_iload_n hX dX12_thrown_18 rfl ?_
  refine zk_V1vp hX dX12_thrown_19 kcX12_throwPose mlX12_314 viX12_throwPose rfl k_166 z_166 (s_X12_throwPose hw hM hD (by omega) hT ht hl ho hC) (Nat.le_of_ble_eq_true rfl) rfl (fun w2 q2 => ?_)
  obtain ⟨k1, k2⟩ := q2
  have hw2 := zFr_wf k1 hw
  refine zk_aload_n hX dX12_thrown_22 rfl ?_
  refine zk_iload_n hX dX12_thrown_23 rfl ?_
  refine zk_V1ip hX dX12_thrown_24 kcX12_toRow mlX12_308 viX12_toRow rfl k_166 z_166 (s_X12_toRow hw2 hr k2) (Nat.le_of_ble_eq_true rfl) rfl (fun r4 w4 q4 => ?_)
  refine zk_iret hX hE rfl ⟨rfl, rfl⟩ dX12_thrown_27 ⟨_, rfl, ?_⟩
  exact ⟨q4.1, w2, k1, q4.2⟩
theorem zO_thrown {G : zG} (p r : Int32) : zOi G mX11_thrown mX12_thrown [.int p, .int r] := by
  intro w h
  have h0 := h
  obtain ⟨hw, hT, hR, hX, hB, D, z, u, v, T, n, nl, c, hH, hL, hS, hP, hK⟩ := h
  have h12 := hP.1
  by_cases hk0 : (0 ≤ p ∧ p < nI n) ∧ (0 ≤ r ∧ r < 6)
  · obtain ⟨p, hp, rfl⟩ := rn (by omega) hk0.1
    obtain ⟨r, hr, rfl⟩ := r6 hk0.2
    have q := hP.2.2.2 p hp
    obtain ⟨C, hC1, hC2⟩ := q.2.2.2.2.2.1
    have c1 := s_X11_thrown (G := G) hw h12 hP.2.1 hp hr q.2.2.2.2.1 hC1 hL.2.1 hL.1
    rw [show (if w.1 (47 + 4 * p) 3 = 5 then zun (zthr z u v (zdkL zno (zP D (w.1 (48 + 4 * p)) (-1)))) C else zthr z u v (zdkL zno (zP D (w.1 (48 + 4 * p)) (-1)))) = zshd z u v (zP D (w.1 (48 + 4 * p)) (-1)) (w.1 183 (3 * p)) C by rw [q.2.2.2.1.1]; rfl] at c1
    refine zCi_m c1 (fun a w1 g => ?_)
    obtain ⟨rfl, w0, k0, k1⟩ := g
    have hF0 : zFr kRo [163] [] w w1 := zFr_t (zFr_s k0 (by decide)) (zFr_s (cRowW_fr k1 hr) (by decide))
    have c2 := s_X12_thrown (G := G) (w := w1) (D := D) (C := C) (zFr_wf hF0 hw) (mHd_f hH.2.2.1 hF0 (by decide)) hH.1 h12 (by rw [hF0.2.2.2 33 (by decide)]; exact hP.2.2.1) hp hr (qP1_t2 hH.1 q) (fun j hj => by rw [hF0.2.1 184 (by decide) (by decide)]; exact q.2.2.1 j hj) (mLm_o hL.2.2 ⟨hF0.2.2.2 25 (by decide), hF0.2.2.2 26 (by decide), hF0.2.2.2 27 (by decide)⟩) hL.1 (fun y hy => by rw [hF0.2.1 185 (by decide) (by decide)]; exact hC2 y hy)
    rw [hF0.2.1 183 (by decide) (by decide)] at c2
    refine zCi_m c2 (fun a w3 g => ?_)
    obtain ⟨rfl, w2, k2, k3⟩ := g
    have hF : zFr (kRo ++ [168, 169, 179, 180, 181, 182]) [163] [29] w w3 := zFr_t (zFr_s hF0 (by decide)) (zFr_t (zFr_s k2 (by decide)) (zFr_s k3.1 (by decide)))
    exact ⟨rfl, zQ_R h0 (zFr_wf hF hw) hF.2 (by decide) (qT_f hT hF.2 (by decide)) (qR_sh hR hr (by omega) k0.2 (by decide) k1 k2.2 (by decide) k3)⟩
  · exact zOe (s_X11_thrown_bad hw p r (by rw [hP.2.1]; exact hk0)) (s_X12_thrown_bad h12 hP.2.2.1 p r hk0) rfl h0
