/-! calls that answer alike -/
abbrev zOi (G : zG) (Mc Mm : zM) (as : List Value) : Prop := ∀ w, zQ w → zCi G Mc (.ref 0 :: as) w (fun r w1 => zCi G Mm (.ref 166 :: as) w1 (fun r' w2 => r' = r ∧ zQ w2))
abbrev zOl (G : zG) (Mc Mm : zM) (as : List Value) : Prop := ∀ w, zQ w → zCl G Mc (.ref 0 :: as) w (fun r w1 => zCl G Mm (.ref 166 :: as) w1 (fun r' w2 => r' = r ∧ zQ w2))
theorem zCi_m {G : zG} {M : zM} {as : List Value} {w : zW} {Q Q' : Int32 → zW → Prop} (h : zCi G M as w Q) (hq : ∀ r w', Q r w' → Q' r w') : zCi G M as w Q' := zC.mono h (fun v w' q => by obtain ⟨r, e, q⟩ := q; exact ⟨r, e, hq r w' q⟩)
theorem zCl_m {G : zG} {M : zM} {as : List Value} {w : zW} {Q Q' : Int64 → zW → Prop} (h : zCl G M as w Q) (hq : ∀ r w', Q r w' → Q' r w') : zCl G M as w Q' := zC.mono h (fun v w' q => by obtain ⟨r, e, q⟩ := q; exact ⟨r, e, hq r w' q⟩)
theorem zEi_c {G : zG} {M : zM} {as : List Value} {w w1 : zW} {r : Int32} {Q : Int32 → zW → Prop} (h : zEi G M as w r w1) (hq : Q r w1) : zCi G M as w Q := zCi_m h (fun r' w' q => by rw [q.1, q.2]; exact hq)
theorem zEl_c {G : zG} {M : zM} {as : List Value} {w w1 : zW} {r : Int64} {Q : Int64 → zW → Prop} (h : zEl G M as w r w1) (hq : Q r w1) : zCl G M as w Q := zCl_m h (fun r' w' q => by rw [q.1, q.2]; exact hq)
theorem zOe {G : zG} {Mc Mm : zM} {as : List Value} {w w1 w2 : zW} {r r' : Int32} (h1 : zEi G Mc (.ref 0 :: as) w r w1) (h2 : zEi G Mm (.ref 166 :: as) w1 r' w2) (e : r' = r) (hq : zQ w2) : zCi G Mc (.ref 0 :: as) w (fun r w1 => zCi G Mm (.ref 166 :: as) w1 (fun r' w2 => r' = r ∧ zQ w2)) :=
  zEi_c h1 (zEi_c h2 ⟨e, hq⟩)
theorem zOel {G : zG} {Mc Mm : zM} {as : List Value} {w w1 w2 : zW} {r r' : Int64} (h1 : zEl G Mc (.ref 0 :: as) w r w1) (h2 : zEl G Mm (.ref 166 :: as) w1 r' w2) (e : r' = r) (hq : zQ w2) : zCl G Mc (.ref 0 :: as) w (fun r w1 => zCl G Mm (.ref 166 :: as) w1 (fun r' w2 => r' = r ∧ zQ w2)) :=
  zEl_c h1 (zEl_c h2 ⟨e, hq⟩)
theorem qT_tell {w : zW} (h : qT w) (v : Int32) : qT (zsi (zsi w 1 0 v) 166 2 v) := by
  refine ⟨?_, h.2.1, h.2.2.1, ?_, fun k hk => ?_⟩
  · rw [zsi_1, if_neg (by omega), zsi_1, if_pos ⟨rfl, rfl⟩, zsi_1, if_pos ⟨rfl, rfl⟩]
  · rw [zsi_1, if_neg (by omega), zsi_1, if_neg (by omega), zsi_1, if_neg (by omega), zsi_1, if_neg (by omega)]
    exact h.2.2.2.1
  · rw [zsi_o (by decide), zsi_o (by decide), zsi_o (by decide), zsi_o (by decide)]
    exact h.2.2.2.2 k hk
theorem qT_find {w : zW} (h : qT w) (k : Nat) : qT (mfind (zfind w k) k) := by
  unfold mfind zfind
  refine ⟨?_, h.2.1, h.2.2.1, ?_, fun q hq => ?_⟩
  · rw [zsi_o (by decide), zsi_o (by decide), zsi_o (by decide), zsi_1, if_neg (by omega), zsi_o (by decide), zsi_1, if_neg (by omega), zsi_o (by decide), zsi_o (by decide)]
    exact h.1
  · rw [zsi_o (by decide), zsi_o (by decide), zsi_o (by decide), zsi_1, if_pos ⟨rfl, rfl⟩, zsi_o (by decide), zsi_1, if_pos ⟨rfl, rfl⟩]
  · rw [zsi_o (by decide), zsi_o (by decide), zsi_1, zsi_o (by decide), zsi_1, zsi_o (a := 167) (by decide), zsi_o (a := 167) (by decide), zsi_o (a := 167) (by decide)]
    by_cases e : q = k
    · subst e
      rw [if_pos ⟨rfl, rfl⟩, if_pos ⟨rfl, rfl⟩, h.2.2.2.2 q hq]
    · rw [if_neg (fun z => e z.2), if_neg (fun z => e z.2), zsi_o (by decide), zsi_o (by decide)]
      exact h.2.2.2.2 q hq
theorem zQ_tell {w : zW} (h : zQ w) (v : Int32) : zQ (zsi (zsi w 1 0 v) 166 2 v) :=
  zQ_i (zQt_f (A := [1]) (B := []) (F := [2]) (zQ_t h) (zWf_i (zWf_i h.1)) (zFr_t (zFr_i (by decide) (by decide)) (zFr_m (by decide))).2 (by decide)) (qT_tell h.2.1 v)
theorem zfind_fr {w : zW} (k : Nat) : zFr [1, 2] [] [] w (zfind w k) := zFr_t (zFr_i (by decide) (by decide)) (zFr_i (by decide) (by decide))
theorem mfind_fr {w : zW} (k : Nat) : zFr [167] [] [0] w (mfind w k) := zFr_t (zFr_m (by decide)) (zFr_i (by decide) (by decide))
theorem zQ_find {w : zW} (h : zQ w) (k : Nat) : zQ (mfind (zfind w k) k) :=
  zQ_i (zQt_f (A := [1, 2, 167]) (B := []) (F := [0]) (zQ_t h) (zFr_wf (mfind_fr k) (zFr_wf (zfind_fr k) h.1)) (zFr_t (zFr_s (zfind_fr k) (by decide)) (zFr_s (mfind_fr k) (by decide))).2 (by decide)) (qT_find h.2.1 k)
theorem zO_asked {G : zG} : zOi G mX11_asked mX12_asked [] := fun _ h => zOe (s_X11_asked h.1) s_X12_asked h.2.1.1.symm h
theorem zO_upper {G : zG} : zOl G mX11_upper mX12_upper [] := fun _ h => zOel (s_X11_upper h.1) s_X12_upper h.2.1.2.1.symm h
theorem zO_lower {G : zG} : zOl G mX11_lower mX12_lower [] := fun _ h => zOel (s_X11_lower h.1) s_X12_lower h.2.1.2.2.1.symm h
theorem zO_finding {G : zG} : zOi G mX11_finding mX12_finding [] := fun _ h => zOe (s_X11_finding h.1) s_X12_finding h.2.1.2.2.2.1.symm h
theorem zO_findings {G : zG} (f : Int32) : zOi G mX11_findings mX12_findings [.int f] := fun w h => zOe (s_X11_findings h.1 f) (s_X12_findings h.1 f) (by
  by_cases hf : 1 ≤ f ∧ f ≤ 5
  · obtain ⟨k, hk, rfl⟩ := znatle (n := 5) (by decide) (by grind) hf.2
    rw [if_pos hf, if_pos hf, nI_clamp (by omega), h.2.1.2.2.2.2 k (by omega)]
  · rw [if_neg hf, if_neg hf]) h
/-- a finding of both -/
theorem zO_find {G : zG} {Mc Mm : zM} {as : List Value} {w : zW} (h : zQ w) (k : Nat) (h1 : zEi G Mc (.ref 0 :: as) w (-3) (zfind w k)) (h2 : zEi G Mm (.ref 166 :: as) (zfind w k) (-3) (mfind (zfind w k) k)) : zCi G Mc (.ref 0 :: as) w (fun r w1 => zCi G Mm (.ref 166 :: as) w1 (fun r' w2 => r' = r ∧ zQ w2)) := zOe h1 h2 rfl (zQ_find h k)
theorem zfind_a {w : zW} {k a : Nat} (h1 : a ≠ 1) (h2 : a ≠ 2) : (zfind w k).1 a = w.1 a := by
  unfold zfind
  rw [zsi_o h2, zsi_o h1]
theorem zfind_w {w : zW} {k : Nat} (h : zWf w) : zWf (zfind w k) := zFr_wf (zfind_fr k) h
theorem zO_strain {G : zG} (v : Int32) : zOi G mX11_strain mX12_strain [.int v] := by
  intro w h
  refine zOe (s_X11_strain v) (s_X12_strain v) ?_ ?_
  · obtain ⟨hw, hT, hR, hX, hB, D, z, u, vv, T, n, l, c, hH, hL, hS, hP, hK⟩ := h
    unfold c_strain m_strain
    by_cases hv : 0 ≤ v ∧ v ≤ 99
    · rw [if_pos hv, if_pos hv]
      show (zsi w 0 8 v).1 166 24 = w.1 0 8
      rw [zsi_o (by decide), hS.2.1, hS.2.2]
    · rw [if_neg hv, if_neg hv]
  · unfold c_strain m_strain
    by_cases hv : 0 ≤ v ∧ v ≤ 99
    · rw [if_pos hv, if_pos hv]
      obtain ⟨hw, hT, hR, hX, hB, D, z, u, vv, T, n, l, c, hH, hL, hS, hP, hK⟩ := h
      obtain ⟨m, hm, rfl⟩ := znatle (n := 99) (by decide) hv.1 hv.2
      have hF : zFx [0] [] [24] w (zsi (zsi w 0 8 (nI m)) 166 24 (nI m)) := (zFr_t (zFr_i (by decide) (by decide)) (zFr_m (by decide))).2
      refine ⟨zWf_i (zWf_i hw), qT_f hT hF (by decide), qR_f hR hF (by decide), qX_f hX hF (by decide), qB_f hB hF (by decide), D, z, u, vv, m, n, l, c, qH_f hH hF (by decide), qL_f hL hF (by decide), ⟨hm, ?_, ?_⟩, ⟨hP.1, ?_, ?_, fun p hp => qP1_o (hP.2.2.2 p hp) ?_ ?_ ?_ ?_ ?_ ?_ ?_⟩, qK_f hK hF (by decide)⟩
      · rw [zsi_o (by decide), zsi_1, if_pos ⟨rfl, rfl⟩]
      · rw [zsi_1, if_pos ⟨rfl, rfl⟩]
      · rw [zsi_o (by decide), zsi_1, if_neg (by omega)]
        exact hP.2.1
      · rw [zsi_1, if_neg (by omega), zsi_o (by decide)]
        exact hP.2.2.1
      · have := hP.1
        exact hF.1 _ (by simp) (by omega)
      · have := hP.1
        exact hF.1 _ (by simp) (by omega)
      · rfl
      · rfl
      · exact hF.1 _ (by decide) (by decide)
      · exact hF.1 _ (by decide) (by decide)
      · exact hF.1 _ (by decide) (by decide)
    · rw [if_neg hv, if_neg hv]
      exact h
