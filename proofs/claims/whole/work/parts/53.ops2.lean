/-! rows and texts of both -/
theorem r6 {r : Int32} (h : 0 ≤ r ∧ r < 6) : ∃ j, j < 6 ∧ r = nI j := by
  obtain ⟨j, hj, e⟩ := znatle (n := 5) (by decide) h.1 (by show r ≤ 5; grind)
  exact ⟨j, by omega, e⟩
theorem r4 {r : Int32} (h : 0 ≤ r ∧ r < 4) : ∃ j, j < 4 ∧ r = nI j := by
  obtain ⟨j, hj, e⟩ := znatle (n := 3) (by decide) h.1 (by show r ≤ 3; grind)
  exact ⟨j, by omega, e⟩
theorem r65 {r : Int32} : ¬ (0 ≤ r ∧ r < 6) → ¬ (0 ≤ r ∧ r ≤ 5) := fun h q => h (by grind)
theorem r43 {r : Int32} : ¬ (0 ≤ r ∧ r < 4) → ¬ (0 ≤ r ∧ r ≤ 3) := fun h q => h (by grind)
theorem qR_get {w : zW} (h : qR w) {r : Nat} (hr : r < 6) {i : Int32} (hi : 0 ≤ i ∧ i < w.1 168 r) : zRget w (4 + 2 * r) i = mRget w r i := by
  have q := h r hr
  obtain ⟨j, m, hj, hm, rfl, e⟩ := zSz_in q.2.1 (by decide) hi.1 hi.2
  rw [zRget_in (q.1.trans e) (by omega) hj, show 4 + 2 * r + 1 = 5 + 2 * r by omega, q.2.2 m e hm j hj]
  unfold mRget
  rw [nI_clamp (by omega)]
theorem zO_at {G : zG} (r i : Int32) : zOi G mX11_at mX12_at [.int r, .int i] := by
  intro w h
  by_cases hr0 : 0 ≤ r ∧ r < 6
  · obtain ⟨r, hr, rfl⟩ := r6 hr0
    have q := h.2.2.1 r hr
    have c1 := s_X11_at (G := G) h.1 hr (by rw [q.1]; exact q.2.1) i
    unfold zFi c_at at c1
    rw [q.1] at c1
    by_cases h1 : ¬ 0 ≤ w.1 168 r
    · rw [if_pos h1] at c1
      have c2 := s_X12_at (G := G) (w := zfind w 1) (zfind_w h.1) hr (by rw [zfind_a (by decide) (by decide)]; exact q.2.1) i
      unfold zFi m_at at c2
      rw [zfind_a (by decide) (by decide), if_pos h1] at c2
      exact zO_find h 1 c1 c2
    · rw [if_neg h1] at c1
      by_cases h2 : ¬ (0 ≤ i ∧ i < w.1 168 r)
      · rw [if_pos h2] at c1
        have c2 := s_X12_at (G := G) (w := zfind w 2) (zfind_w h.1) hr (by rw [zfind_a (by decide) (by decide)]; exact q.2.1) i
        unfold zFi m_at at c2
        rw [zfind_a (by decide) (by decide), if_neg h1, if_pos h2] at c2
        exact zO_find h 2 c1 c2
      · rw [if_neg h2] at c1
        have c2 := s_X12_at (G := G) (w := zsi w 1 0 (zRget w (4 + 2 * r) i)) (zWf_i h.1) hr (by rw [zsi_o (by decide)]; exact q.2.1) i
        unfold zFi m_at at c2
        rw [zsi_o (by decide), if_neg h1, if_neg h2] at c2
        refine zOe c1 c2 rfl ?_
        rw [show mRget (zsi w 1 0 (zRget w (4 + 2 * r) i)) r i = zRget w (4 + 2 * r) i by rw [qR_get h.2.2.1 hr (Decidable.not_not.mp h2)]; unfold mRget; rw [zsi_o (by decide)]]
        exact zQ_tell h _
  · exact zOe (s_X11_at_bad r i hr0) (s_X12_at_bad r i (r65 hr0)) rfl h
/-- the lists of places that hold rows -/
def kRo : List Nat := [4, 5, 6, 7, 8, 9, 10, 11, 12, 13, 14, 15]
theorem kRo_1 {r : Nat} (hr : r < 6) : 4 + 2 * r ∈ kRo ∧ 5 + 2 * r ∈ kRo ∧ 4 + 2 * r + 1 ∈ kRo := by
  simp [kRo]
  omega
/-- rows and what is told changed -/
theorem zQ_R {A B F : List Nat} {w w' : zW} (h : zQ w) (hw : zWf w') (hF : zFx A B F w w') (k : (okc [17, 18, 19, 20, 21, 22, 23, 24, 171, 172] A && (okc kBe A && okc [186, 187, 188, 189] A && okc kBe B) && (okc [26, 27, 28, 29, 30, 31, 32, 33, 34, 173, 174, 175] A && okc [131, 132, 133, 134, 139, 140] A && okc [135, 136, 141, 142] B && okc [10, 11, 12] F) && (okc [44] A && okc [25, 26, 27] F) && (okc [0] A && okc [24] F) && (okc [0, 183, 184, 185] A && okc kPo A && okc kPo B && okc [33] F) && (okc [114, 116, 117, 118, 119, 120, 121, 122, 123, 124, 125, 126, 200, 201] A && okc [53, 55] F)) = true) (hT' : qT w') (hR' : qR w') : zQ w' := by
  rw [Bool.and_eq_true, Bool.and_eq_true, Bool.and_eq_true, Bool.and_eq_true, Bool.and_eq_true, Bool.and_eq_true] at k
  obtain ⟨⟨⟨⟨⟨⟨k2, k3⟩, k4⟩, k5⟩, k6⟩, k7⟩, k8⟩ := k
  obtain ⟨_, hT, hR, hX, hB, D, z, u, v, T, n, l, c, hH, hL, hS, hP, hK⟩ := h
  exact ⟨hw, hT', hR', qX_f hX hF k2, qB_f hB hF k3, D, z, u, v, T, n, l, c, qH_f hH hF k4, qL_f hL hF k5, qS_f hS hF k6, qP_f hP hF k7, qK_f hK hF k8⟩
theorem zO_tear {G : zG} (r : Int32) : zOi G mX11_tear mX12_tear [.int r] := by
  intro w h
  by_cases hr0 : 0 ≤ r ∧ r < 6
  · obtain ⟨r, hr, rfl⟩ := r6 hr0
    have q := h.2.2.1 r hr
    have c1 := s_X11_tear (G := G) h.1 hr
    unfold zFi c_tear at c1
    rw [q.1] at c1
    by_cases h1 : ¬ 0 ≤ w.1 168 r
    · rw [if_pos h1] at c1
      have c2 := s_X12_tear (G := G) (w := zfind w 1) (zfind_w h.1) hr
      unfold zFi m_tear at c2
      rw [zfind_a (by decide) (by decide), if_pos h1] at c2
      exact zO_find h 1 c1 c2
    · rw [if_neg h1] at c1
      have c2 := s_X12_tear (G := G) (w := zsi w (4 + 2 * r) 0 (-1)) (zWf_i h.1) hr
      unfold zFi m_tear at c2
      rw [zsi_o (by omega), if_neg h1] at c2
      have k := kRo_1 hr
      have hF : zFx (kRo ++ [168]) [] [] w (zsi (zsi w (4 + 2 * r) 0 (-1)) 168 r (-1)) := (zFr_t (zFr_i (List.mem_append_left _ k.1) (by omega)) (zFr_i (by decide) (by decide))).2
      refine zOe c1 c2 rfl (zQ_R h (zWf_i (zWf_i h.1)) hF (by decide) (qT_f h.2.1 hF (by decide)) (fun s hs => ?_))
      rw [zsi_o (by omega), zsi_1, zsi_1, zsi_o (a := 5 + 2 * s) (by omega), zsi_o (a := 5 + 2 * s) (by omega), zsi_o (a := 169) (by decide), zsi_o (a := 169) (by omega), zsi_o (a := 168) (by omega)]
      by_cases e : s = r
      · subst e
        rw [if_pos ⟨rfl, rfl⟩, if_pos ⟨rfl, rfl⟩]
        exact ⟨rfl, Or.inl rfl, fun m e hm => absurd e (by intro e; have := nI_pos' (n := m) (by omega); rw [← e] at this; exact absurd this (by decide))⟩
      · rw [if_neg (fun z => by omega), if_neg (fun z => e z.2)]
        exact h.2.2.1 s hs
  · exact zOe (s_X11_tear_bad r hr0) (s_X12_tear_bad r (r65 hr0)) rfl h
theorem qR_one {w w' : zW} (h : qR w) (r : Nat) (e1 : ∀ s, s < 6 → s ≠ r → w'.1 (4 + 2 * s) 0 = w.1 (4 + 2 * s) 0 ∧ w'.1 (5 + 2 * s) = w.1 (5 + 2 * s) ∧ w'.1 168 s = w.1 168 s ∧ ∀ j, j < 40 → w'.1 169 (40 * s + j) = w.1 169 (40 * s + j)) (e2 : r < 6 → w'.1 (4 + 2 * r) 0 = w'.1 168 r ∧ zSz (w'.1 168 r) 40 ∧ ∀ m, w'.1 168 r = nI m → m ≤ 40 → ∀ i, i < m → w'.1 (5 + 2 * r) i = w'.1 169 (40 * r + i)) : qR w' := by
  intro s hs
  by_cases e : s = r
  · subst e
    exact e2 hs
  · obtain ⟨a1, a2, a3, a4⟩ := e1 s hs e
    rw [a1, a2, a3]
    refine ⟨(h s hs).1, (h s hs).2.1, fun m em hm i hi => ?_⟩
    rw [a4 i (by omega)]
    exact (h s hs).2.2 m em hm i hi
theorem qX_one {w w' : zW} (h : qX w) (r : Nat) (e1 : ∀ s, s < 4 → s ≠ r → w'.1 (17 + 2 * s) 0 = w.1 (17 + 2 * s) 0 ∧ w'.1 (18 + 2 * s) = w.1 (18 + 2 * s) ∧ w'.1 171 s = w.1 171 s ∧ ∀ j, j < 80 → w'.1 172 (80 * s + j) = w.1 172 (80 * s + j)) (e2 : r < 4 → w'.1 (17 + 2 * r) 0 = w'.1 171 r ∧ zSz (w'.1 171 r) 80 ∧ ∀ m, w'.1 171 r = nI m → m ≤ 80 → ∀ i, i < m → w'.1 (18 + 2 * r) i = w'.1 172 (80 * r + i)) : qX w' := by
  intro s hs
  by_cases e : s = r
  · subst e
    exact e2 hs
  · obtain ⟨a1, a2, a3, a4⟩ := e1 s hs e
    rw [a1, a2, a3]
    refine ⟨(h s hs).1, (h s hs).2.1, fun m em hm i hi => ?_⟩
    rw [a4 i (by omega)]
    exact (h s hs).2.2 m em hm i hi
theorem zO_lay {G : zG} (r i v : Int32) : zOi G mX11_lay mX12_lay [.int r, .int i, .int v] := by
  intro w h
  by_cases hr0 : 0 ≤ r ∧ r < 6
  · obtain ⟨r, hr, rfl⟩ := r6 hr0
    have q := h.2.2.1 r hr
    have c1 := s_X11_lay (G := G) h.1 hr (by rw [q.1]; exact q.2.1) i v
    unfold zFi c_lay at c1
    rw [q.1] at c1
    by_cases h1 : ¬ 0 ≤ w.1 168 r
    · rw [if_pos h1] at c1
      have c2 := s_X12_lay (G := G) (w := zfind w 1) (zfind_w h.1) hr (by rw [zfind_a (by decide) (by decide)]; exact q.2.1) i v
      unfold zFi m_lay at c2
      rw [zfind_a (by decide) (by decide), if_pos h1] at c2
      exact zO_find h 1 c1 c2
    · rw [if_neg h1] at c1
      by_cases h2 : ¬ (0 ≤ i ∧ i < w.1 168 r)
      · rw [if_pos h2] at c1
        have c2 := s_X12_lay (G := G) (w := zfind w 2) (zfind_w h.1) hr (by rw [zfind_a (by decide) (by decide)]; exact q.2.1) i v
        unfold zFi m_lay at c2
        rw [zfind_a (by decide) (by decide), if_neg h1, if_pos h2] at c2
        exact zO_find h 2 c1 c2
      · have h3 := Decidable.not_not.mp h2
        have eg := qR_get h.2.2.1 hr h3
        rw [if_neg h2, eg] at c1
        obtain ⟨i, m, hi, hm, rfl, em⟩ := zSz_in q.2.1 (by decide) h3.1 h3.2
        rw [nI_clamp (by omega)] at c1
        generalize e1 : zsi (zsi w (5 + 2 * r) i v) 1 0 (mRget w r (nI i)) = w1 at c1
        have f1 : w1.1 168 = w.1 168 := by rw [← e1, zsi_o (by decide), zsi_o (by omega)]
        have f2 : w1.1 169 = w.1 169 := by rw [← e1, zsi_o (by decide), zsi_o (by omega)]
        have hw1 : zWf w1 := by rw [← e1]; exact zWf_i (zWf_i h.1)
        have c2 := s_X12_lay (G := G) (w := w1) hw1 hr (by rw [f1]; exact q.2.1) (nI i) v
        unfold zFi m_lay mRget at c2
        rw [f1, f2, if_neg h1, if_neg h2, nI_clamp (by omega)] at c2
        refine zOe c1 c2 rfl ?_
        have k := kRo_1 hr
        have hF1 : zFr (kRo ++ [1]) [] [] w w1 := by rw [← e1]; exact zFr_t (zFr_i (List.mem_append_left _ k.2.1) (by omega)) (zFr_i (by decide) (by decide))
        have hF : zFx (kRo ++ [1, 169]) [] [2] w (zsi (zsi w1 169 (40 * r + i) v) 166 2 (w.1 169 (40 * r + i))) := (zFr_t (zFr_s hF1 (by decide)) (zFr_t (zFr_i (by decide) (by decide)) (zFr_m (by decide)))).2
        refine zQ_R h (zWf_i (zWf_i hw1)) hF (by decide) ?_ (qR_one h.2.2.1 r (fun s hs hn => ?_) (fun _ => ?_))
        · have g := qT_tell h.2.1 (w.1 169 (40 * r + i))
          refine ⟨?_, ?_, ?_, ?_, fun k hk => ?_⟩
          · rw [zsi_o (by decide), zsi_o (by decide), zsi_1, if_pos ⟨rfl, rfl⟩, ← e1, zsi_1, if_pos ⟨rfl, rfl⟩]
            unfold mRget
            rw [nI_clamp (by omega)]
          · show w1.2.1 1 1 = w1.2.1 166 3
            rw [← e1]
            exact h.2.1.2.1
          · show w1.2.1 1 2 = w1.2.1 166 4
            rw [← e1]
            exact h.2.1.2.2.1
          · rw [zsi_o (by decide), zsi_o (by decide), zsi_1, if_neg (by omega), zsi_o (by decide), ← e1, zsi_1, if_neg (by omega), zsi_o (a := 1) (by omega), zsi_o (a := 166) (by decide), zsi_o (a := 166) (by omega)]
            exact h.2.1.2.2.2.1
          · rw [zsi_o (by decide), zsi_o (by decide), zsi_o (by decide), zsi_o (by decide), ← e1, zsi_o (by decide), zsi_o (a := 2) (by omega), zsi_o (by decide), zsi_o (a := 167) (by omega)]
            exact h.2.1.2.2.2.2 k hk
        · rw [zsi_o (by omega), zsi_o (by omega), zsi_o (a := 5 + 2 * s) (by omega), zsi_o (a := 5 + 2 * s) (by omega), zsi_o (a := 168) (by decide), zsi_o (a := 168) (by decide), f1, zsi_o (a := 169) (by decide), ← e1, zsi_o (by omega), zsi_o (by omega), zsi_o (a := 5 + 2 * s) (by omega), zsi_o (a := 5 + 2 * s) (by omega)]
          refine ⟨rfl, rfl, rfl, fun j hj => ?_⟩
          rw [zsi_1, if_neg (by omega), zsi_o (by decide), zsi_o (by omega)]
        · rw [zsi_o (by omega), zsi_o (by omega), zsi_o (a := 5 + 2 * r) (by omega), zsi_o (a := 5 + 2 * r) (by omega), zsi_o (a := 168) (by decide), zsi_o (a := 168) (by decide), f1, zsi_o (a := 169) (by decide)]
          refine ⟨?_, q.2.1, fun m' em' hm' j hj => ?_⟩
          · rw [← e1, zsi_o (by omega), zsi_o (by omega)]
            exact q.1
          · rw [zsi_1, f2, ← e1, zsi_o (by omega), zsi_1]
            by_cases e : j = i
            · subst e
              rw [if_pos ⟨rfl, rfl⟩, if_pos ⟨rfl, rfl⟩]
            · rw [if_neg (fun z => e z.2), if_neg (by omega)]
              exact q.2.2 m' em' hm' j hj
  · exact zOe (s_X11_lay_bad r i v hr0) (s_X12_lay_bad r i v (r65 hr0)) rfl h
