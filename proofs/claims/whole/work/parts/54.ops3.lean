theorem zsumL_c {f g : Nat → Int32} : ∀ {n : Nat}, (∀ i, i < n → f i = g i) → zsumL f n = zsumL g n
  | 0, _ => rfl
  | n + 1, h => by
    show zsumL f n + (f n).toInt64 = zsumL g n + (g n).toInt64
    rw [zsumL_c (fun i hi => h i (by omega)), h n (by omega)]
theorem zO_mean {G : zG} (r : Int32) : zOi G mX11_mean mX12_mean [.int r] := by
  intro w h
  by_cases hr0 : 0 ≤ r ∧ r < 6
  · obtain ⟨r, hr, rfl⟩ := r6 hr0
    have q := h.2.2.1 r hr
    have c1 := s_X11_mean (G := G) h.1 hr (by rw [q.1]; exact q.2.1)
    unfold zFi c_mean at c1
    rw [q.1] at c1
    by_cases h1 : ¬ 0 ≤ w.1 168 r
    · rw [if_pos h1] at c1
      have c2 := s_X12_mean (G := G) (w := zfind w 1) (zfind_w h.1) hr (by rw [zfind_a (by decide) (by decide)]; exact q.2.1)
      unfold zFi m_mean at c2
      rw [zfind_a (by decide) (by decide), if_pos h1] at c2
      exact zO_find h 1 c1 c2
    · rw [if_neg h1] at c1
      by_cases h2 : w.1 168 r < 1
      · rw [if_pos h2] at c1
        have c2 := s_X12_mean (G := G) (w := zfind w 4) (zfind_w h.1) hr (by rw [zfind_a (by decide) (by decide)]; exact q.2.1)
        unfold zFi m_mean at c2
        rw [zfind_a (by decide) (by decide), if_neg h1, if_pos h2] at c2
        exact zO_find h 4 c1 c2
      · rw [if_neg h2] at c1
        have e : zsumL (w.1 (5 + 2 * r)) (w.1 168 r).toNatClampNeg = zsumL (fun i => w.1 169 (40 * r + i)) (w.1 168 r).toNatClampNeg := by
          rcases q.2.1 with e | ⟨m, hm, e⟩
          · rw [e] at h1
            exact absurd h1 (by decide)
          · rw [e, nI_clamp (by omega)]
            exact zsumL_c (q.2.2 m e hm)
        rw [e] at c1
        generalize ea : (zsumL (fun i => w.1 169 (40 * r + i)) (w.1 168 r).toNatClampNeg / (w.1 168 r).toInt64).toInt32 = v at c1
        have c2 := s_X12_mean (G := G) (w := zsi w 1 0 v) (zWf_i h.1) hr (by rw [zsi_o (by decide)]; exact q.2.1)
        unfold zFi m_mean at c2
        rw [zsi_o (by decide), zsi_o (by decide), if_neg h1, if_neg h2, ea] at c2
        exact zOe c1 c2 rfl (zQ_tell h _)
  · exact zOe (s_X11_mean_bad r hr0) (s_X12_mean_bad r (r65 hr0)) rfl h
theorem zfill_o {w : zW} {k m a : Nat} {v : Int32} (h : a ≠ k) : (zfill w k m v).1 a = w.1 a := by
  funext i
  rw [zfill_1, if_neg (fun q => h q.1)]
theorem zfillR_o {w : zW} {k lo m a : Nat} {v : Int32} (h : a ≠ k) : (zfillR w k lo m v).1 a = w.1 a := by
  funext i
  rw [zfillR_1, if_neg (fun q => h q.1)]
theorem zO_row {G : zG} (r n : Int32) : zOi G mX11_row mX12_row [.int r, .int n] := by
  intro w h
  by_cases hr1 : (0 ≤ r ∧ r < 6) ∧ n ≤ 40
  · obtain ⟨hr0, hn⟩ := hr1
    obtain ⟨r, hr, rfl⟩ := r6 hr0
    have q := h.2.2.1 r hr
    have c1 := s_X11_row (G := G) h.1 hr hn
    unfold zFi c_row at c1
    by_cases h1 : n < 0
    · rw [if_pos h1] at c1
      have c2 := s_X12_row (G := G) (w := zfind w 5) (zfind_w h.1) hr hn
      unfold zFi m_row at c2
      rw [if_pos h1] at c2
      exact zO_find h 5 c1 c2
    · rw [if_neg h1] at c1
      obtain ⟨n, hn4, rfl⟩ := znatle (n := 40) (by decide) (by grind) hn
      rw [nI_clamp (by omega)] at c1
      generalize e1 : zfill (zsi w (4 + 2 * r) 0 (nI n)) (5 + 2 * r) n 0 = w1 at c1
      have k := kRo_1 hr
      have hF1 : zFr kRo [] [] w w1 := by rw [← e1]; exact zFr_t (zFr_i k.1 (by omega)) (zfill_fr k.2.1 (by omega))
      have hw1 := zFr_wf hF1 h.1
      have c2 := s_X12_row (G := G) (w := w1) hw1 hr hn
      unfold zFi m_row at c2
      rw [if_neg h1] at c2
      have hF2 : zFr [168, 169] [] [] w1 (zfillR (zsi w1 168 r (nI n)) 169 (40 * r) 40 0) := zFr_t (zFr_i (by decide) (by decide)) (zfillR_fr (by decide) (by decide))
      have hF : zFx (kRo ++ [168, 169]) [] [] w (zfillR (zsi w1 168 r (nI n)) 169 (40 * r) 40 0) := (zFr_t (zFr_s hF1 (by decide)) (zFr_s hF2 (by decide))).2
      refine zOe c1 c2 rfl (zQ_R h (zFr_wf hF2 hw1) hF (by decide) (qT_f h.2.1 hF (by decide)) (qR_one h.2.2.1 r (fun s hs hn => ?_) (fun _ => ?_)))
      · rw [zfillR_o (by omega), zsi_o (by omega), zfillR_o (by omega), zsi_o (by omega), zfillR_o (by decide), zsi_1, if_neg (fun z => hn z.2), ← e1, zfill_o (by omega), zsi_o (by omega), zfill_o (by omega), zsi_o (by omega), zfill_o (by omega), zsi_o (by omega)]
        refine ⟨rfl, rfl, rfl, fun j hj => ?_⟩
        rw [zfillR_1, if_neg (by omega), zsi_o (by decide), zfill_o (by omega), zsi_o (by omega)]
      · rw [zfillR_o (a := 4 + 2 * r) (by omega), zsi_o (a := 4 + 2 * r) (by omega), zfillR_o (a := 5 + 2 * r) (by omega), zsi_o (a := 5 + 2 * r) (by omega), zfillR_o (a := 168) (by decide), zsi_1, if_pos ⟨rfl, rfl⟩, ← e1, zfill_o (by omega), zsi_1, if_pos ⟨rfl, rfl⟩]
        refine ⟨rfl, Or.inr ⟨n, hn4, rfl⟩, fun m em hm i hi => ?_⟩
        have emn : m = n := (nI_inj (by omega) (by omega) em).symm
        rw [zfill_1, if_pos ⟨rfl, by omega⟩, zfillR_1, if_pos ⟨rfl, by omega, by omega⟩]
  · exact zOe (s_X11_row_bad r n hr1) (s_X12_row_bad r n (fun z => hr1 ⟨by grind, z.2⟩)) rfl h
def kTe : List Nat := [17, 18, 19, 20, 21, 22, 23, 24]
theorem kTe_1 {r : Nat} (hr : r < 4) : 17 + 2 * r ∈ kTe ∧ 18 + 2 * r ∈ kTe := by
  simp [kTe]
  omega
/-- texts changed -/
theorem zQ_X {A B F : List Nat} {w w' : zW} (h : zQ w) (hw : zWf w') (hF : zFx A B F w w') (k : (okc [4, 5, 6, 7, 8, 9, 10, 11, 12, 13, 14, 15, 168, 169] A && (okc kBe A && okc [186, 187, 188, 189] A && okc kBe B) && (okc [26, 27, 28, 29, 30, 31, 32, 33, 34, 173, 174, 175] A && okc [131, 132, 133, 134, 139, 140] A && okc [135, 136, 141, 142] B && okc [10, 11, 12] F) && (okc [44] A && okc [25, 26, 27] F) && (okc [0] A && okc [24] F) && (okc [0, 183, 184, 185] A && okc kPo A && okc kPo B && okc [33] F) && (okc [114, 116, 117, 118, 119, 120, 121, 122, 123, 124, 125, 126, 200, 201] A && okc [53, 55] F)) = true) (hT' : qT w') (hX' : qX w') : zQ w' := by
  rw [Bool.and_eq_true, Bool.and_eq_true, Bool.and_eq_true, Bool.and_eq_true, Bool.and_eq_true, Bool.and_eq_true] at k
  obtain ⟨⟨⟨⟨⟨⟨k2, k3⟩, k4⟩, k5⟩, k6⟩, k7⟩, k8⟩ := k
  obtain ⟨_, hT, hR, hX, hB, D, z, u, v, T, n, l, c, hH, hL, hS, hP, hK⟩ := h
  exact ⟨hw, hT', qR_f hR hF k2, hX', qB_f hB hF k3, D, z, u, v, T, n, l, c, qH_f hH hF k4, qL_f hL hF k5, qS_f hS hF k6, qP_f hP hF k7, qK_f hK hF k8⟩
theorem zO_text {G : zG} (r n : Int32) : zOi G mX11_text mX12_text [.int r, .int n] := by
  intro w h
  by_cases hr1 : (0 ≤ r ∧ r < 4) ∧ n ≤ 80
  · obtain ⟨hr0, hn⟩ := hr1
    obtain ⟨r, hr, rfl⟩ := r4 hr0
    have c1 := s_X11_text (G := G) h.1 hr hn
    unfold zFi c_text at c1
    by_cases h1 : n < 0
    · rw [if_pos h1] at c1
      have c2 := s_X12_text (G := G) (w := zfind w 5) (zfind_w h.1) hr hn
      unfold zFi m_text at c2
      rw [if_pos h1] at c2
      exact zO_find h 5 c1 c2
    · rw [if_neg h1] at c1
      obtain ⟨n, hn4, rfl⟩ := znatle (n := 80) (by decide) (by grind) hn
      rw [nI_clamp (by omega)] at c1
      generalize e1 : zfill (zsi w (17 + 2 * r) 0 (nI n)) (18 + 2 * r) n 32 = w1 at c1
      have k := kTe_1 hr
      have hF1 : zFr kTe [] [] w w1 := by rw [← e1]; exact zFr_t (zFr_i k.1 (by omega)) (zfill_fr k.2 (by omega))
      have hw1 := zFr_wf hF1 h.1
      have c2 := s_X12_text (G := G) (w := w1) hw1 hr hn
      unfold zFi m_text at c2
      rw [if_neg h1] at c2
      have hF2 : zFr [171, 172] [] [] w1 (zfillR (zsi w1 171 r (nI n)) 172 (80 * r) 80 32) := zFr_t (zFr_i (by decide) (by decide)) (zfillR_fr (by decide) (by decide))
      have hF : zFx (kTe ++ [171, 172]) [] [] w (zfillR (zsi w1 171 r (nI n)) 172 (80 * r) 80 32) := (zFr_t (zFr_s hF1 (by decide)) (zFr_s hF2 (by decide))).2
      refine zOe c1 c2 rfl (zQ_X h (zFr_wf hF2 hw1) hF (by decide) (qT_f h.2.1 hF (by decide)) (qX_one h.2.2.2.1 r (fun s hs hn => ?_) (fun _ => ?_)))
      · rw [zfillR_o (by omega), zsi_o (by omega), zfillR_o (by omega), zsi_o (by omega), zfillR_o (by decide), zsi_1, if_neg (fun z => hn z.2), ← e1, zfill_o (by omega), zsi_o (by omega), zfill_o (by omega), zsi_o (by omega), zfill_o (by omega), zsi_o (by omega)]
        refine ⟨rfl, rfl, rfl, fun j hj => ?_⟩
        rw [zfillR_1, if_neg (by omega), zsi_o (by decide), zfill_o (by omega), zsi_o (by omega)]
      · rw [zfillR_o (a := 17 + 2 * r) (by omega), zsi_o (a := 17 + 2 * r) (by omega), zfillR_o (a := 18 + 2 * r) (by omega), zsi_o (a := 18 + 2 * r) (by omega), zfillR_o (a := 171) (by decide), zsi_1, if_pos ⟨rfl, rfl⟩, ← e1, zfill_o (by omega), zsi_1, if_pos ⟨rfl, rfl⟩]
        refine ⟨rfl, Or.inr ⟨n, hn4, rfl⟩, fun m em hm i hi => ?_⟩
        have emn : m = n := (nI_inj (by omega) (by omega) em).symm
        rw [zfill_1, if_pos ⟨rfl, by omega⟩, zfillR_1, if_pos ⟨rfl, by omega, by omega⟩]
  · exact zOe (s_X11_text_bad r n hr1) (s_X12_text_bad r n (fun z => hr1 ⟨by grind, z.2⟩)) rfl h
theorem zO_put {G : zG} (r i v : Int32) : zOi G mX11_put mX12_put [.int r, .int i, .int v] := by
  intro w h
  by_cases hr0 : 0 ≤ r ∧ r < 4
  · obtain ⟨r, hr, rfl⟩ := r4 hr0
    have q := h.2.2.2.1 r hr
    have c1 := s_X11_put (G := G) h.1 hr (by rw [q.1]; exact q.2.1) i v
    unfold zFi c_put at c1
    rw [q.1] at c1
    by_cases h1 : ¬ 0 ≤ w.1 171 r
    · rw [if_pos h1] at c1
      have c2 := s_X12_put (G := G) (w := zfind w 1) (zfind_w h.1) hr (by rw [zfind_a (by decide) (by decide)]; exact q.2.1) i v
      unfold zFi m_put at c2
      rw [zfind_a (by decide) (by decide), if_pos h1] at c2
      exact zO_find h 1 c1 c2
    · rw [if_neg h1] at c1
      by_cases h2 : ¬ (0 ≤ i ∧ i < w.1 171 r)
      · rw [if_pos h2] at c1
        have c2 := s_X12_put (G := G) (w := zfind w 2) (zfind_w h.1) hr (by rw [zfind_a (by decide) (by decide)]; exact q.2.1) i v
        unfold zFi m_put at c2
        rw [zfind_a (by decide) (by decide), if_neg h1, if_pos h2] at c2
        exact zO_find h 2 c1 c2
      · have h3 := Decidable.not_not.mp h2
        obtain ⟨i, m, hi, hm, rfl, em⟩ := zSz_in q.2.1 (by decide) h3.1 h3.2
        rw [if_neg h2, zRget_in (q.1.trans em) (by omega) hi, nI_clamp (by omega), show 17 + 2 * r + 1 = 18 + 2 * r by omega, q.2.2 m em hm i hi] at c1
        have c2 := s_X12_put (G := G) (w := zsi w (18 + 2 * r) i v.toInt8.toInt32) (zWf_i h.1) hr (by rw [zsi_o (by omega)]; exact q.2.1) (nI i) v
        unfold zFi m_put at c2
        rw [zsi_o (by omega), zsi_o (by omega), if_neg h1, if_neg h2, nI_clamp (by omega)] at c2
        have k := kTe_1 hr
        have hF : zFx (kTe ++ [172]) [] [] w (zsi (zsi w (18 + 2 * r) i v.toInt8.toInt32) 172 (80 * r + i) v.toInt8.toInt32) := (zFr_t (zFr_i (List.mem_append_left _ k.2) (by omega)) (zFr_i (by decide) (by decide))).2
        refine zOe c1 c2 (Int32.add_comm _ _) (zQ_X h (zWf_i (zWf_i h.1)) hF (by decide) (qT_f h.2.1 hF (by decide)) (qX_one h.2.2.2.1 r (fun s hs hn => ?_) (fun _ => ?_)))
        · rw [zsi_o (by omega), zsi_o (by omega), zsi_o (a := 18 + 2 * s) (by omega), zsi_o (a := 18 + 2 * s) (by omega), zsi_o (a := 171) (by decide), zsi_o (a := 171) (by omega)]
          refine ⟨rfl, rfl, rfl, fun j hj => ?_⟩
          rw [zsi_1, if_neg (by omega), zsi_o (by omega)]
        · rw [zsi_o (by omega), zsi_o (by omega), zsi_o (a := 18 + 2 * r) (by omega), zsi_o (a := 171) (by decide), zsi_o (a := 171) (by omega)]
          refine ⟨q.1, q.2.1, fun m' em' hm' j hj => ?_⟩
          rw [zsi_1, zsi_1, zsi_o (by omega)]
          by_cases e : j = i
          · subst e
            rw [if_pos ⟨rfl, rfl⟩, if_pos ⟨rfl, rfl⟩]
          · rw [if_neg (fun z => e z.2), if_neg (by omega)]
            exact q.2.2 m' em' hm' j hj
  · exact zOe (s_X11_put_bad r i v hr0) (s_X12_put_bad r i v (r43 hr0)) rfl h
