/-! lamp, lookers, calls of both -/
theorem zO_lamp {G : zG} (z dx dy : Int32) : zOi G mX11_lamp mX12_lamp [.int z, .int dx, .int dy] := by
  intro w h
  by_cases hk : zlampOK z dx dy
  · have c1 := s_X11_lamp (G := G) h.1 z dx dy hk
    have c2 := s_X12_lamp (G := G) (w := zbecome w 44 z dx dy) z dx dy hk
    obtain ⟨hw, hT, hR, hX, hB, D, z0, u0, v0, T, n, l, c, hH, hL, hS, hP, hK⟩ := h
    have hF : zFx [44] [] [25, 26, 27] w (mbecome (zbecome w 44 z dx dy) z dx dy) := (zFr_t (zFr_t (zFr_t (zFr_i (by decide) (by decide)) (zFr_i (by decide) (by decide))) (zFr_i (by decide) (by decide))) (zFr_t (zFr_t (zFr_m (by decide)) (zFr_m (by decide))) (zFr_m (by decide)))).2
    have hw2 : zWf (mbecome (zbecome w 44 z dx dy) z dx dy) := zWf_of hw rfl
    obtain ⟨k1, k2, k3⟩ := hk
    obtain ⟨z1, hz, rfl⟩ := znatle (n := 2) (by decide) (by grind) k1.2
    obtain ⟨u1, hu, eu⟩ := znatle (n := 6) (x := dx + 3) (by decide) (by grind) (by show dx + 3 ≤ 6; grind)
    obtain ⟨v1, hv, ev⟩ := znatle (n := 6) (x := dy + 3) (by decide) (by grind) (by show dy + 3 ≤ 6; grind)
    have eu2 : dx = nI u1 - 3 := by rw [← eu]; grind
    have ev2 : dy = nI v1 - 3 := by rw [← ev]; grind
    have hz1 : 1 ≤ z1 := by
      rcases Nat.lt_or_ge z1 1 with q | q
      · have e0 : z1 = 0 := by omega
        rw [e0] at k1
        exact absurd k1.1 (by decide)
      · exact q
    refine zOe c1 c2 ?_ ⟨hw2, qT_f hT hF (by decide), qR_f hR hF (by decide), qX_f hX hF (by decide), qB_f hB hF (by decide), D, z1, u1, v1, T, n, l, c, qH_f hH hF (by decide), ⟨⟨⟨hz1, hz⟩, hu, hv⟩, ⟨?_, ?_, ?_⟩, ?_, ?_, ?_⟩, qS_f hS hF (by decide), qP_f hP hF (by decide), qK_f hK hF (by decide)⟩
    · have e : (zbecome w 44 (nI z1) dx dy).1 166 = w.1 166 := by
        unfold zbecome
        rw [zsi_o (by decide), zsi_o (by decide), zsi_o (by decide)]
      rw [e, hL.2.1.1, hL.2.1.2.1, hL.2.1.2.2, hL.2.2.1, hL.2.2.2.1, hL.2.2.2.2]
    · unfold mbecome zbecome
      rw [zsi_o (by decide), zsi_o (by decide), zsi_o (by decide), zsi_1, if_neg (by omega), zsi_1, if_neg (by omega), zsi_1, if_pos ⟨rfl, rfl⟩]
    · unfold mbecome zbecome
      rw [zsi_o (by decide), zsi_o (by decide), zsi_o (by decide), zsi_1, if_neg (by omega), zsi_1, if_pos ⟨rfl, rfl⟩, eu2]
    · unfold mbecome zbecome
      rw [zsi_o (by decide), zsi_o (by decide), zsi_o (by decide), zsi_1, if_pos ⟨rfl, rfl⟩, ev2]
    · unfold mbecome zbecome
      rw [zsi_1, if_neg (by omega), zsi_1, if_neg (by omega), zsi_1, if_pos ⟨rfl, rfl⟩]
    · unfold mbecome zbecome
      rw [zsi_1, if_neg (by omega), zsi_1, if_pos ⟨rfl, rfl⟩, eu2]
    · unfold mbecome zbecome
      rw [zsi_1, if_pos ⟨rfl, rfl⟩, ev2]
  · exact zOe (s_X11_lamp_bad z dx dy hk) (s_X12_lamp_bad z dx dy hk) rfl h
theorem nI_le9 {x : Int32} (h : 0 ≤ x ∧ x ≤ 9) : 0 ≤ x ∧ x ≤ 9 := h
theorem zO_looker {G : zG} (e a d : Int32) : zOi G mX11_looker mX12_looker [.int e, .int a, .int d] := by
  intro w h
  by_cases hk : (0 ≤ e ∧ e ≤ 9) ∧ (0 ≤ a ∧ a ≤ 9) ∧ (0 ≤ d ∧ d ≤ 9)
  · have h0 := h
    obtain ⟨hw, hT, hR, hX, hB, D, z, u, v, T, n, l, c, hH, hL, hS, hP, hK⟩ := h
    have h8 := hK.1.1
    have c1 := s_X11_looker (G := G) hw h8 hK.1.2.1 e a d hk
    unfold zFi c_looker at c1
    by_cases hl : l < 8
    · rw [if_pos hl] at c1
      generalize e1 : zsi (zsi (zsi (zsi w (116 + l) 0 e) (116 + l) 1 a) (116 + l) 2 d) 114 0 (nI (l + 1)) = w1 at c1
      have hF1 : zFr [114, 116, 117, 118, 119, 120, 121, 122, 123] [] [] w w1 := by
        rw [← e1]
        exact zFr_t (zFr_t (zFr_t (zFr_i (by simp; omega) (by omega)) (zFr_i (by simp; omega) (by omega))) (zFr_i (by simp; omega) (by omega))) (zFr_i (by simp) (by omega))
      have hw1 := zFr_wf hF1 hw
      have c2 := s_X12_looker (G := G) (w := w1) hw1 h8 (by rw [hF1.2.2.2 53 (by decide)]; exact hK.1.2.2.1) e a d hk
      unfold zFi m_looker at c2
      rw [if_pos hl] at c2
      generalize e2 : zsi (zsi (zsi (zsi w1 200 (3 * l) e) 200 (3 * l + 1) a) 200 (3 * l + 2) d) 166 53 (nI (l + 1)) = w2 at c2
      have hF2 : zFr [200] [] [53] w1 w2 := by
        rw [← e2]
        exact zFr_t (zFr_t (zFr_t (zFr_i (by simp) (by omega)) (zFr_i (by simp) (by omega))) (zFr_i (by simp) (by omega))) (zFr_m (by simp))
      have hF : zFx [114, 116, 117, 118, 119, 120, 121, 122, 123, 200] [] [53] w w2 := (zFr_t (zFr_s hF1 (by decide)) (zFr_s hF2 (by decide))).2
      refine zOe c1 c2 rfl ⟨zFr_wf hF2 hw1, qT_f hT hF (by decide), qR_f hR hF (by decide), qX_f hX hF (by decide), qB_f hB hF (by decide), D, z, u, v, T, n, l + 1, c, qH_f hH hF (by decide), qL_f hL hF (by decide), qS_f hS hF (by decide), qP_f hP hF (by decide), ⟨by omega, ?_, ?_, fun q t hq ht => ?_⟩, hK.2.1, ?_, ?_, fun q hq => ?_⟩
      · rw [hF2.2.1 114 (by decide) (by decide), ← e1, zsi_1, if_pos ⟨rfl, rfl⟩]
      · rw [← e2, zsi_1, if_pos ⟨rfl, rfl⟩]
      · have ea : w2.1 (116 + q) t = w1.1 (116 + q) t := by rw [hF2.2.1 (116 + q) (by simp; omega) (by omega)]
        have eb : w2.1 200 (3 * q + t) = if q = l then (if t = 0 then e else if t = 1 then a else d) else w.1 200 (3 * q + t) := by
          rw [← e2, zsi_o (by decide), zsi_1, zsi_1, zsi_1, hF1.2.1 200 (by decide) (by decide)]
          by_cases eq : q = l
          · subst eq
            rcases (show t = 0 ∨ t = 1 ∨ t = 2 by omega) with g | g | g <;> subst g <;> simp
          · rw [if_neg (by omega), if_neg (by omega), if_neg (by omega), if_neg eq]
        have ec : w1.1 (116 + q) t = if q = l then (if t = 0 then e else if t = 1 then a else d) else w.1 (116 + q) t := by
          rw [← e1, zsi_o (by omega), zsi_1, zsi_1, zsi_1]
          by_cases eq : q = l
          · subst eq
            rcases (show t = 0 ∨ t = 1 ∨ t = 2 by omega) with g | g | g <;> subst g <;> simp
          · rw [if_neg (by omega), if_neg (by omega), if_neg (by omega), if_neg eq]
        rw [ea, eb, ec]
        by_cases eq : q = l
        · rw [if_pos eq, if_pos eq]
          rcases (show t = 0 ∨ t = 1 ∨ t = 2 by omega) with g | g | g <;> subst g
          · exact ⟨rfl, hk.1.1, hk.1.2⟩
          · exact ⟨rfl, hk.2.1.1, hk.2.1.2⟩
          · exact ⟨rfl, hk.2.2.1, hk.2.2.2⟩
        · rw [if_neg eq, if_neg eq]
          exact hK.1.2.2.2 q t (by omega) ht
      · rw [hF2.2.1 114 (by decide) (by decide), ← e1, zsi_1, if_neg (by omega), zsi_o (by omega), zsi_o (by omega), zsi_o (by omega)]
        exact hK.2.2.1
      · rw [hF.2.2 55 (by decide)]
        exact hK.2.2.2.1
      · rw [hF.1 124 (by decide) (by decide), hF.1 125 (by decide) (by decide), hF.1 126 (by decide) (by decide), hF.1 201 (by decide) (by decide)]
        have g := hK.2.2.2.2 q hq
        exact ⟨g.1, ⟨g.2.1.1, Int32.lt_trans g.2.1.2 (nI_lt (b := l + 1) (by omega) (by omega))⟩, g.2.2⟩
    · rw [if_neg hl] at c1
      have c2 := s_X12_looker (G := G) hw h8 hK.1.2.2.1 e a d hk
      unfold zFi m_looker at c2
      rw [if_neg hl] at c2
      exact zOe c1 c2 rfl h0
  · exact zOe (s_X11_looker_bad e a d hk) (s_X12_looker_bad e a d hk) rfl h
theorem rn {r : Int32} {n : Nat} (hn : n ≤ 4000) (h : 0 ≤ r ∧ r < nI n) : ∃ j, j < n ∧ r = nI j := by
  obtain ⟨j, m, hj, hm, e, em⟩ := zSz_in (x := nI n) (L := 4000) (Or.inr ⟨n, hn, rfl⟩) (by decide) h.1 h.2
  have := nI_inj (a := n) (b := m) (by omega) (by omega) em
  exact ⟨j, by omega, e⟩
theorem r3 {r : Int32} (h : 0 ≤ r ∧ r < 3) : ∃ j, j < 3 ∧ r = nI j := rn (n := 3) (by decide) h
theorem zO_weight {G : zG} (l t : Int32) : zOi G mX11_weight mX12_weight [.int l, .int t] := by
  intro w h
  have h0 := h
  obtain ⟨hw, hT, hR, hX, hB, D, z, u, v, T, n, nl, c, hH, hL, hS, hP, hK⟩ := h
  have h8 := hK.1.1
  by_cases hk : (0 ≤ l ∧ l < nI nl) ∧ (0 ≤ t ∧ t < 3)
  · obtain ⟨l, hl, rfl⟩ := rn (by omega) hk.1
    obtain ⟨t, ht, rfl⟩ := r3 hk.2
    have c1 := s_X11_weight (G := G) hw h8 hK.1.2.1 hl ht
    have c2 := s_X12_weight (G := G) (w := zsi w 1 0 (w.1 (116 + l) t)) (zWf_i hw) h8 (by rw [zsi_o (by decide)]; exact hK.1.2.2.1) hl ht
    rw [zsi_o (by decide), ← (hK.1.2.2.2 l t hl ht).1] at c2
    exact zOe c1 c2 rfl (zQ_tell h0 _)
  · refine zOe (s_X11_weight_bad hw l t (by rw [hK.1.2.1]; exact hk)) (s_X12_weight_bad (n := nl) (by omega) hK.1.2.2.1 l t (fun z => hk ⟨z.1, by grind⟩)) rfl h0
