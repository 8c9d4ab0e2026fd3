/-- hands, as the model holds them -/
def mHd (w : zW) (D : zD) : Prop := (w.1 166 10 = nI (dW D) ∧ w.1 166 11 = nI (dF D) ∧ w.1 166 12 = nI (dJ D)) ∧ (∀ h, h < dW D → w.1 173 h = nI (dw D h)) ∧
  (∀ f, f < dF D → w.1 174 (4 * f) = nI (dO D f) ∧ w.1 174 (4 * f + 1) = nI (dS D f) ∧ w.1 174 (4 * f + 2) = nI (dI D f) ∧ w.1 174 (4 * f + 3) = nI (dL D f)) ∧
  ∀ j, j < dJ D → w.1 175 (3 * j) = nI (dH D j) ∧ w.1 175 (3 * j + 1) = nI (dB D j) ∧ w.1 175 (3 * j + 2) = nI (dA D j)
theorem mHd_o {w w' : zW} {D : zD} (h : mHd w D) (e : w'.1 173 = w.1 173 ∧ w'.1 174 = w.1 174 ∧ w'.1 175 = w.1 175) (e2 : w'.1 166 10 = w.1 166 10 ∧ w'.1 166 11 = w.1 166 11 ∧ w'.1 166 12 = w.1 166 12) : mHd w' D := by
  unfold mHd
  rw [e.1, e.2.1, e.2.2, e2.1, e2.2.1, e2.2.2]
  exact h
theorem mHd_f {w w' : zW} {D : zD} {A B F : List Nat} (h : mHd w D) (hF : zFr A B F w w') (hA : (!A.contains 173 && !A.contains 174 && !A.contains 175 && !F.contains 10 && !F.contains 11 && !F.contains 12) = true) : mHd w' D := by
  simp only [Bool.and_eq_true, Bool.not_eq_true', ← Bool.not_eq_true, List.contains_iff_mem] at hA
  exact mHd_o h ⟨hF.2.1 _ hA.1.1.1.1.1 (by decide), hF.2.1 _ hA.1.1.1.1.2 (by decide), hF.2.1 _ hA.1.1.1.2 (by decide)⟩ ⟨hF.2.2.2 _ hA.1.1.2, hF.2.2.2 _ hA.1.2, hF.2.2.2 _ hA.2⟩
/-- turns of two at most -/
def zT2 (D : zD) (t : Nat → Int32) : Prop := ∀ j, j < dJ D → -2 ≤ t j ∧ t j ≤ 2
theorem zT2_of {x : Int32} (h : -2 ≤ x ∧ x ≤ 2) : ∃ d, d < 5 ∧ x = nI d - 2 := by
  obtain ⟨d, hd, e⟩ := znatle (n := 4) (x := x + 2) (by decide) (by grind) (by show x + 2 ≤ 4; grind)
  exact ⟨d, by omega, by rw [← e]; grind⟩
theorem zside_8 {s : Nat} {t : Int32} (hs : s < 8) (h : -2 ≤ t ∧ t ≤ 2) : nI s + t + 8 - (nI s + t + 8) / 8 * 8 = nI (zside s t) := by
  obtain ⟨d, hd, rfl⟩ := zT2_of h
  exact (by decide +kernel : ∀ s, s < 8 → ∀ d, d < 5 → nI s + (nI d - 2) + 8 - (nI s + (nI d - 2) + 8) / 8 * 8 = nI (zside s (nI d - 2))) s hs d hd
theorem zab_2 {t : Int32} (h : -2 ≤ t ∧ t ≤ 2) : zab t ≤ 2 ∧ (if 0 ≤ t then t else 0 - t) = nI (zab t) ∧ (¬ 0 ≤ t → -t = nI (zab t)) ∧ (0 ≤ t → t = nI (zab t)) := by
  obtain ⟨d, hd, rfl⟩ := zT2_of h
  exact (by decide +kernel : ∀ d, d < 5 → (zab (nI d - 2) ≤ 2 ∧ (if 0 ≤ nI d - 2 then nI d - 2 else 0 - (nI d - 2)) = nI (zab (nI d - 2)) ∧ (¬ 0 ≤ nI d - 2 → -(nI d - 2) = nI (zab (nI d - 2))) ∧ (0 ≤ nI d - 2 → nI d - 2 = nI (zab (nI d - 2))))) d hd
theorem zwX : ∀ s, s < 8 → zsX s = if nI s - nI s / 4 * 4 = 0 then 0 else if nI s < 4 then 1 else -1 := by decide +kernel
theorem zwY : ∀ s, s < 8 → zsY s = if nI s = 2 ∨ nI s = 6 then 0 else if 2 < nI s ∧ nI s < 6 then 1 else -1 := by decide +kernel
theorem s_X12_wayX {G : zG} {w : zW} {s : Nat} (hs : s < 8) : zEi G mX12_wayX [.int (nI s)] w (zsX s) w := by
  refine zC_of (lo := [_]) kcX12_wayX (Nat.le_of_ble_eq_true rfl) rfl (fun X hX hE => ?_)
  refine zk_iload_n hX dX12_wayX_0 rfl ?_
  refine zk_iconst (v := 4) hX dX12_wayX_1 (by decide) ?_
  refine zk_irem hX dX12_wayX_2 (by decide) ?_
  refine zk_if_ne (tgt := 10) hX dX12_wayX_3 (by decide) (fun c3 => ?_) (fun c3 => ?_)
  · refine zk_iload_n hX dX12_wayX_10 rfl ?_
    refine zk_iconst (v := 4) hX dX12_wayX_11 (by decide) ?_
    refine zk_icmp_ge (tgt := 19) hX dX12_wayX_12 (by decide) (fun c12 => ?_) (fun c12 => ?_)
    · refine zk_iconst (v := -1) hX dX12_wayX_19 (by decide) ?_
      refine zk_iret hX hE rfl ⟨rfl, rfl⟩ dX12_wayX_20 ⟨_, rfl, ?_⟩
      rw [zwX s hs]
      first | (rw [if_pos (by grind)]; exact ⟨rfl, rfl⟩) | (rw [if_neg (by grind), if_pos (by grind)]; exact ⟨rfl, rfl⟩) | (rw [if_neg (by grind), if_neg (by grind)]; exact ⟨rfl, rfl⟩)
    · refine zk_iconst (v := 1) hX dX12_wayX_15 (by decide) ?_
      refine zk_goto (tgt := 20) hX dX12_wayX_16 (by decide) ?_
      refine zk_iret hX hE rfl ⟨rfl, rfl⟩ dX12_wayX_20 ⟨_, rfl, ?_⟩
      rw [zwX s hs]
      first | (rw [if_pos (by grind)]; exact ⟨rfl, rfl⟩) | (rw [if_neg (by grind), if_pos (by grind)]; exact ⟨rfl, rfl⟩) | (rw [if_neg (by grind), if_neg (by grind)]; exact ⟨rfl, rfl⟩)
  · refine zk_iconst (v := 0) hX dX12_wayX_6 (by decide) ?_
    refine zk_goto (tgt := 20) hX dX12_wayX_7 (by decide) ?_
    refine zk_iret hX hE rfl ⟨rfl, rfl⟩ dX12_wayX_20 ⟨_, rfl, ?_⟩
    rw [zwX s hs]
    first | (rw [if_pos (by grind)]; exact ⟨rfl, rfl⟩) | (rw [if_neg (by grind), if_pos (by grind)]; exact ⟨rfl, rfl⟩) | (rw [if_neg (by grind), if_neg (by grind)]; exact ⟨rfl, rfl⟩)
theorem s_X12_wayY {G : zG} {w : zW} {s : Nat} (hs : s < 8) : zEi G mX12_wayY [.int (nI s)] w (zsY s) w := by
  refine zC_of (lo := [_]) kcX12_wayY (Nat.le_of_ble_eq_true rfl) rfl (fun X hX hE => ?_)
  refine zk_iload_n hX dX12_wayY_0 rfl ?_
  refine zk_iconst (v := 2) hX dX12_wayY_1 (by decide) ?_
  refine zk_icmp_eq (tgt := 11) hX dX12_wayY_2 (by decide) (fun c2 => ?_) (fun c2 => ?_)
  · refine zk_iconst (v := 0) hX dX12_wayY_11 (by decide) ?_
    refine zk_goto (tgt := 31) hX dX12_wayY_12 (by decide) ?_
    refine zk_iret hX hE rfl ⟨rfl, rfl⟩ dX12_wayY_31 ⟨_, rfl, ?_⟩
    rw [zwY s hs]
    first | (rw [if_pos (by grind)]; exact ⟨rfl, rfl⟩) | (rw [if_neg (by grind), if_pos (by grind)]; exact ⟨rfl, rfl⟩) | (rw [if_neg (by grind), if_neg (by grind)]; exact ⟨rfl, rfl⟩)
  · refine zk_iload_n hX dX12_wayY_5 rfl ?_
    refine zk_bipush (v := 6) hX dX12_wayY_6 (by decide) ?_
    refine zk_icmp_ne (tgt := 15) hX dX12_wayY_8 (by decide) (fun c8 => ?_) (fun c8 => ?_)
    · refine zk_iload_n hX dX12_wayY_15 rfl ?_
      refine zk_iconst (v := 2) hX dX12_wayY_16 (by decide) ?_
      refine zk_icmp_le (tgt := 30) hX dX12_wayY_17 (by decide) (fun c17 => ?_) (fun c17 => ?_)
      · refine zk_iconst (v := -1) hX dX12_wayY_30 (by decide) ?_
        refine zk_iret hX hE rfl ⟨rfl, rfl⟩ dX12_wayY_31 ⟨_, rfl, ?_⟩
        rw [zwY s hs]
        first | (rw [if_pos (by grind)]; exact ⟨rfl, rfl⟩) | (rw [if_neg (by grind), if_pos (by grind)]; exact ⟨rfl, rfl⟩) | (rw [if_neg (by grind), if_neg (by grind)]; exact ⟨rfl, rfl⟩)
      · refine zk_iload_n hX dX12_wayY_20 rfl ?_
        refine zk_bipush (v := 6) hX dX12_wayY_21 (by decide) ?_
        refine zk_icmp_ge (tgt := 30) hX dX12_wayY_23 (by decide) (fun c23 => ?_) (fun c23 => ?_)
        · refine zk_iconst (v := -1) hX dX12_wayY_30 (by decide) ?_
          refine zk_iret hX hE rfl ⟨rfl, rfl⟩ dX12_wayY_31 ⟨_, rfl, ?_⟩
          rw [zwY s hs]
          first | (rw [if_pos (by grind)]; exact ⟨rfl, rfl⟩) | (rw [if_neg (by grind), if_pos (by grind)]; exact ⟨rfl, rfl⟩) | (rw [if_neg (by grind), if_neg (by grind)]; exact ⟨rfl, rfl⟩)
        · refine zk_iconst (v := 1) hX dX12_wayY_26 (by decide) ?_
          refine zk_goto (tgt := 31) hX dX12_wayY_27 (by decide) ?_
          refine zk_iret hX hE rfl ⟨rfl, rfl⟩ dX12_wayY_31 ⟨_, rfl, ?_⟩
          rw [zwY s hs]
          first | (rw [if_pos (by grind)]; exact ⟨rfl, rfl⟩) | (rw [if_neg (by grind), if_pos (by grind)]; exact ⟨rfl, rfl⟩) | (rw [if_neg (by grind), if_neg (by grind)]; exact ⟨rfl, rfl⟩)
    · refine zk_iconst (v := 0) hX dX12_wayY_11 (by decide) ?_
      refine zk_goto (tgt := 31) hX dX12_wayY_12 (by decide) ?_
      refine zk_iret hX hE rfl ⟨rfl, rfl⟩ dX12_wayY_31 ⟨_, rfl, ?_⟩
      rw [zwY s hs]
      first | (rw [if_pos (by grind)]; exact ⟨rfl, rfl⟩) | (rw [if_neg (by grind), if_pos (by grind)]; exact ⟨rfl, rfl⟩) | (rw [if_neg (by grind), if_neg (by grind)]; exact ⟨rfl, rfl⟩)
/-- points laid -/
def zPts (w : zW) (L : List zPt) : Prop := w.1 166 29 = nI L.length ∧ ∀ i p, L[i]? = some p → w.1 180 i = p.1 ∧ w.1 181 i = p.2
theorem zPts_o {w w' : zW} {L : List zPt} (h : zPts w L) (e : w'.1 166 29 = w.1 166 29 ∧ w'.1 180 = w.1 180 ∧ w'.1 181 = w.1 181) : zPts w' L := by
  unfold zPts
  rw [e.1, e.2.1, e.2.2]
  exact h
theorem s_X12_point {G : zG} {w : zW} {L : List zPt} (hw : zWf w) (hP : zPts w L) (hL : L.length < 14) (x y : Int32) :
    zCv G mX12_point [.ref 166, .int x, .int y] w (fun w' => zFr [180, 181] [] [29] w w' ∧ zPts w' (L ++ [(x, y)])) := by
  refine zC_of (lo := [_, _, _]) kcX12_point (Nat.le_of_ble_eq_true rfl) rfl (fun X hX hE => ?_)
  refine zk_aload_n hX dX12_point_0 rfl ?_
  refine zk_getR hX dX12_point_1 flX12_50 k_166 z_166 (hw _ _ (by decide) |>.trans r_166_30) ?_
  refine zk_aload_n hX dX12_point_4 rfl ?_
  refine zk_getI hX dX12_point_5 flX12_225 k_166 z_166 ?_
  rw [hP.1]
  refine zk_iload_n hX dX12_point_8 rfl ?_
  refine zk_iastE hX dX12_point_9 rfl k_180 z_180 (by first | assumption | omega) rfl ?_
  refine zk_aload_n hX dX12_point_10 rfl ?_
  refine zk_getR hX dX12_point_11 flX12_53 k_166 z_166 ((zWf_i hw) _ _ (by decide) |>.trans r_166_31) ?_
  refine zk_aload_n hX dX12_point_14 rfl ?_
  refine zk_getI hX dX12_point_15 flX12_225 k_166 z_166 ?_
  rw [zsi_1, if_neg (by omega), hP.1]
  refine zk_iload_n hX dX12_point_18 rfl ?_
  refine zk_iastE hX dX12_point_19 rfl k_181 z_181 (by first | assumption | omega) rfl ?_
  refine zk_aload_n hX dX12_point_20 rfl ?_
  refine zk_dup hX dX12_point_21 rfl ?_
  refine zk_getI hX dX12_point_22 flX12_225 k_166 z_166 ?_
  rw [zsi_1, if_neg (by omega), zsi_1, if_neg (by omega), hP.1]
  refine zk_iconst (v := 1) hX dX12_point_25 (by decide) ?_
  refine zk_iadd hX dX12_point_26 ?_
  rw [← nI_succ]
  refine zk_putI hX dX12_point_27 plX12_225 (fun h => by cases h) k_166 z_166 rfl rfl ?_
  refine zk_vret hX hE rfl ⟨rfl, rfl⟩ dX12_point_30 ⟨rfl, ?_⟩
  refine ⟨zFr_t (zFr_t (zFr_i (by decide) (by decide)) (zFr_i (by decide) (by decide))) (zFr_m (by decide)), ?_, fun i p h => ?_⟩
  · rw [zsi_1, if_pos ⟨rfl, rfl⟩, List.length_append]
    rfl
  · have e0 : (zsi (zsi (zsi w 180 L.length x) 181 L.length y) 166 29 (nI (L.length + 1))).1 180 i = if i = L.length then x else w.1 180 i := by
      rw [zsi_1, if_neg (by omega), zsi_1, if_neg (by omega), zsi_1]
      simp
    have e1 : (zsi (zsi (zsi w 180 L.length x) 181 L.length y) 166 29 (nI (L.length + 1))).1 181 i = if i = L.length then y else w.1 181 i := by
      rw [zsi_1, if_neg (by omega), zsi_1]
      simp [zsi_1]
    rw [e0, e1]
    by_cases q : i < L.length
    · rw [List.getElem?_append_left q] at h
      rw [if_neg (by omega), if_neg (by omega)]
      exact hP.2 i p h
    · rw [List.getElem?_append_right (by omega)] at h
      have q2 : i = L.length := by
        have h1 := (List.getElem?_eq_some_iff.mp h).1
        simp at h1
        omega
      subst q2
      simp at h
      subst h
      rw [if_pos rfl, if_pos rfl]
      exact ⟨rfl, rfl⟩
theorem s_X12_layFinger {G : zG} {w : zW} {L : List zPt} {D : zD} {f : Nat} (hw : zWf w) (hM : mHd w D) (hD : zDok D) (hT : zT2 D (w.1 179)) (hP : zPts w L) (hf : f < dF D) (hL : L.length + dL D f < 14) :
    zCv G mX12_layFinger [.ref 166, .int (nI f)] w (fun w' => zFr [180, 181] [] [29] w w' ∧ zPts w' (L ++ zLq D (w.1 179) f (dL D f + 1))) := by
  have h6 := hD.1.2.2
  have hF := hD.2.2.1 f hf
  have hF6 := hD.1.2.1
  have ho := zoff_le hD (f := f + 1) (by omega)
  rw [show zoff D (f + 1) = zoff D f + dL D f from rfl] at ho
  have hMf := hM.2.2.1 f hf
  have hW := hM.2.1 (dO D f) hF.1
  have hW2 := hD.2.1 _ hF.1
  have hW3 := hD.1.1
  have es : ∀ i, zpos D (w.1 179) f (i + 1) = ((zpos D (w.1 179) f i).1 + zsX (zside (zpos D (w.1 179) f i).2.2 (w.1 179 (dI D f + i))), (zpos D (w.1 179) f i).2.1 + zsY (zside (zpos D (w.1 179) f i).2.2 (w.1 179 (dI D f + i))), zside (zpos D (w.1 179) f i).2.2 (w.1 179 (dI D f + i))) := fun i => rfl
  refine zC_of (lo := [_, _, _, _, _, _]) kcX12_layFinger (Nat.le_of_ble_eq_true rfl) rfl (fun X hX hE => ?_)
  have loop : ∀ z i w1, i + z = dL D f → zFr [180, 181] [] [29] w w1 → zPts w1 (L ++ zLq D (w.1 179) f (i + 1)) → zk0 G X mX12_layFinger 66 [.ref 166, .int (nI f), .int (nI (zpos D (w.1 179) f i).2.2), .int (zpos D (w.1 179) f i).1, .int (zpos D (w.1 179) f i).2.1, .int (nI i)] [] w1 := by
    intro z
    induction z with
    | zero =>
      intro i w1 hi hFr hP1
      obtain rfl : i = dL D f := by omega
      have hw1 := zFr_wf hFr hw
      have hMf1 := (mHd_f hM hFr (by decide)).2.2.1 f hf
      refine zk_iload hX dX12_layFinger_66 rfl ?_
      refine zk_aload_n hX dX12_layFinger_68 rfl ?_
      refine zk_getR hX dX12_layFinger_69 flX12_32 k_166 z_166 (hw1 _ _ (by decide) |>.trans r_166_14) ?_
      refine zk_iconst (v := 4) hX dX12_layFinger_72 (by decide) ?_
      refine zk_iload_n hX dX12_layFinger_73 rfl ?_
      refine zk_imul hX dX12_layFinger_74 ?_
      refine zk_iconst (v := 3) hX dX12_layFinger_75 (by decide) ?_
      refine zk_iadd hX dX12_layFinger_76 ?_
      refine zk_ialdE hX dX12_layFinger_77 (nI_addE (nI_mulE (nI_k 4 rfl) rfl) (nI_k 3 rfl)) k_174 z_174 (by first | assumption | omega) rfl ?_
      rw [hMf1.2.2.2]
      refine zk_icmp_ge (tgt := 137) hX dX12_layFinger_78 (by decide) (fun c78 => ?_) (fun c78 => ?_)
      rotate_left
      · exact absurd (nI_le (Nat.le_refl _) (by omega)) c78
      refine zk_vret hX hE rfl ⟨rfl, rfl⟩ dX12_layFinger_137 ⟨rfl, ?_⟩
      exact ⟨hFr, hP1⟩
    | succ z ih =>
      intro i w1 hi hFr hP1
      have hw1 := zFr_wf hFr hw
      have hMf1 := (mHd_f hM hFr (by decide)).2.2.1 f hf
      have e9 : w1.1 179 = w.1 179 := hFr.2.1 179 (by decide) (by decide)
      have h8 := zside_lt (zpos D (w.1 179) f i).2.2 (w.1 179 (dI D f + i))
      have hp8 := zpos_s (t := w.1 179) hF.2.1 i
      have hI2 := hF.2.2.2
      have ht := hT (dI D f + i) (by omega)
      refine zk_iload hX dX12_layFinger_66 rfl ?_
      refine zk_aload_n hX dX12_layFinger_68 rfl ?_
      refine zk_getR hX dX12_layFinger_69 flX12_32 k_166 z_166 (hw1 _ _ (by decide) |>.trans r_166_14) ?_
      refine zk_iconst (v := 4) hX dX12_layFinger_72 (by decide) ?_
      refine zk_iload_n hX dX12_layFinger_73 rfl ?_
      refine zk_imul hX dX12_layFinger_74 ?_
      refine zk_iconst (v := 3) hX dX12_layFinger_75 (by decide) ?_
      refine zk_iadd hX dX12_layFinger_76 ?_
      refine zk_ialdE hX dX12_layFinger_77 (nI_addE (nI_mulE (nI_k 4 rfl) rfl) (nI_k 3 rfl)) k_174 z_174 (by first | assumption | omega) rfl ?_
      rw [hMf1.2.2.2]
      refine zk_icmp_ge (tgt := 137) hX dX12_layFinger_78 (by decide) (fun c78 => ?_) (fun c78 => ?_)
      · exact absurd c78 (nI_ge (by omega) (by omega))
      refine zk_iload_n hX dX12_layFinger_81 rfl ?_
      refine zk_aload_n hX dX12_layFinger_82 rfl ?_
      refine zk_getR hX dX12_layFinger_83 flX12_47 k_166 z_166 (hw1 _ _ (by decide) |>.trans r_166_28) ?_
      refine zk_aload_n hX dX12_layFinger_86 rfl ?_
      refine zk_getR hX dX12_layFinger_87 flX12_32 k_166 z_166 (hw1 _ _ (by decide) |>.trans r_166_14) ?_
      refine zk_iconst (v := 4) hX dX12_layFinger_90 (by decide) ?_
      refine zk_iload_n hX dX12_layFinger_91 rfl ?_
      refine zk_imul hX dX12_layFinger_92 ?_
      refine zk_iconst (v := 2) hX dX12_layFinger_93 (by decide) ?_
      refine zk_iadd hX dX12_layFinger_94 ?_
      refine zk_ialdE hX dX12_layFinger_95 (nI_addE (nI_mulE (nI_k 4 rfl) rfl) (nI_k 2 rfl)) k_174 z_174 (by first | assumption | omega) rfl ?_
      rw [hMf1.2.2.1]
      refine zk_iload hX dX12_layFinger_96 rfl ?_
      refine zk_iadd hX dX12_layFinger_98 ?_
      rw [nI_add]
      refine zk_ialdE hX dX12_layFinger_99 rfl k_179 z_179 (by first | assumption | omega) rfl ?_
      rw [e9]
      refine zk_iadd hX dX12_layFinger_100 ?_
      refine zk_bipush (v := 8) hX dX12_layFinger_101 (by decide) ?_
      refine zk_iadd hX dX12_layFinger_103 ?_
      refine zk_bipush (v := 8) hX dX12_layFinger_104 (by decide) ?_
      refine zk_irem hX dX12_layFinger_106 (by decide) ?_
      rw [zside_8 hp8 ht]
      refine zk_istore_n (lo' := [_, _, _, _, _, _]) hX dX12_layFinger_107 (Nat.le_of_ble_eq_true rfl) rfl rfl ?_
      refine zk_iload_n hX dX12_layFinger_108 rfl ?_
      refine zk_iload_n hX dX12_layFinger_109 rfl ?_
      refine zk_S1i hX dX12_layFinger_110 kcX12_wayX mlX12_236 smX12_wayX rfl (s_X12_wayX h8) (Nat.le_of_ble_eq_true rfl) rfl ?_
      refine zk_iadd hX dX12_layFinger_113 ?_
      refine zk_istore_n (lo' := [_, _, _, _, _, _]) hX dX12_layFinger_114 (Nat.le_of_ble_eq_true rfl) rfl rfl ?_
      refine zk_iload hX dX12_layFinger_115 rfl ?_
      refine zk_iload_n hX dX12_layFinger_117 rfl ?_
      refine zk_S1i hX dX12_layFinger_118 kcX12_wayY mlX12_239 smX12_wayY rfl (s_X12_wayY h8) (Nat.le_of_ble_eq_true rfl) rfl ?_
      refine zk_iadd hX dX12_layFinger_121 ?_
      refine zk_istore (lo' := [_, _, _, _, _, _]) hX dX12_layFinger_122 (Nat.le_of_ble_eq_true rfl) rfl rfl ?_
      refine zk_aload_n hX dX12_layFinger_124 rfl ?_
      refine zk_iload_n hX dX12_layFinger_125 rfl ?_
      refine zk_iload hX dX12_layFinger_126 rfl ?_
      refine zk_V2vp hX dX12_layFinger_128 kcX12_point mlX12_228 viX12_point rfl k_166 z_166 (s_X12_point hw1 hP1 (by rw [List.length_append, zLq_len]; omega) _ _) (Nat.le_of_ble_eq_true rfl) rfl (fun w2 q2 => ?_)
      refine zk_iinc (lo' := [_, _, _, _, _, _]) hX dX12_layFinger_131 rfl (by first | exact zinc _ | exact rfl) (Nat.le_of_ble_eq_true rfl) rfl rfl ?_
      refine zk_goto (tgt := 66) hX dX12_layFinger_134 (by decide) ?_
      have h0 := ih (i + 1) w2 (by omega) (zFr_t hFr q2.1) (by rw [List.append_assoc] at q2; exact q2.2)
      rw [es] at h0
      exact h0
  refine zk_aload_n hX dX12_layFinger_0 rfl ?_
  refine zk_getR hX dX12_layFinger_1 flX12_32 k_166 z_166 (hw _ _ (by decide) |>.trans r_166_14) ?_
  refine zk_iconst (v := 4) hX dX12_layFinger_4 (by decide) ?_
  refine zk_iload_n hX dX12_layFinger_5 rfl ?_
  refine zk_imul hX dX12_layFinger_6 ?_
  refine zk_iconst (v := 1) hX dX12_layFinger_7 (by decide) ?_
  refine zk_iadd hX dX12_layFinger_8 ?_
  refine zk_ialdE hX dX12_layFinger_9 (nI_addE (nI_mulE (nI_k 4 rfl) rfl) (nI_k 1 rfl)) k_174 z_174 (by first | assumption | omega) rfl ?_
  rw [hMf.2.1]
  refine zk_istore_n (lo' := [_, _, _, _, _, _]) hX dX12_layFinger_10 (Nat.le_of_ble_eq_true rfl) rfl rfl ?_
  refine zk_aload_n hX dX12_layFinger_11 rfl ?_
  refine zk_getR hX dX12_layFinger_12 flX12_29 k_166 z_166 (hw _ _ (by decide) |>.trans r_166_13) ?_
  refine zk_aload_n hX dX12_layFinger_15 rfl ?_
  refine zk_getR hX dX12_layFinger_16 flX12_32 k_166 z_166 (hw _ _ (by decide) |>.trans r_166_14) ?_
  refine zk_iconst (v := 4) hX dX12_layFinger_19 (by decide) ?_
  refine zk_iload_n hX dX12_layFinger_20 rfl ?_
  refine zk_imul hX dX12_layFinger_21 ?_
  refine zk_ialdE hX dX12_layFinger_22 (nI_mulE (nI_k 4 rfl) rfl) k_174 z_174 (by first | assumption | omega) rfl ?_
  rw [hMf.1]
  refine zk_ialdE hX dX12_layFinger_23 rfl k_173 z_173 (by first | assumption | omega) rfl ?_
  rw [hW]
  refine zk_bipush (v := 12) hX dX12_layFinger_24 (by decide) ?_
  refine zk_irem hX dX12_layFinger_26 (by decide) ?_
  rw [show (12 : Int32) = nI 12 from rfl, nI_rem (by omega) (by decide)]
  refine zk_iload_n hX dX12_layFinger_27 rfl ?_
  refine zk_S1i hX dX12_layFinger_28 kcX12_wayX mlX12_236 smX12_wayX rfl (s_X12_wayX hF.2.1) (Nat.le_of_ble_eq_true rfl) rfl ?_
  refine zk_iadd hX dX12_layFinger_31 ?_
  refine zk_istore_n (lo' := [_, _, _, _, _, _]) hX dX12_layFinger_32 (Nat.le_of_ble_eq_true rfl) rfl rfl ?_
  refine zk_aload_n hX dX12_layFinger_33 rfl ?_
  refine zk_getR hX dX12_layFinger_34 flX12_29 k_166 z_166 (hw _ _ (by decide) |>.trans r_166_13) ?_
  refine zk_aload_n hX dX12_layFinger_37 rfl ?_
  refine zk_getR hX dX12_layFinger_38 flX12_32 k_166 z_166 (hw _ _ (by decide) |>.trans r_166_14) ?_
  refine zk_iconst (v := 4) hX dX12_layFinger_41 (by decide) ?_
  refine zk_iload_n hX dX12_layFinger_42 rfl ?_
  refine zk_imul hX dX12_layFinger_43 ?_
  refine zk_ialdE hX dX12_layFinger_44 (nI_mulE (nI_k 4 rfl) rfl) k_174 z_174 (by first | assumption | omega) rfl ?_
  rw [hMf.1]
  refine zk_ialdE hX dX12_layFinger_45 rfl k_173 z_173 (by first | assumption | omega) rfl ?_
  rw [hW]
  refine zk_bipush (v := 12) hX dX12_layFinger_46 (by decide) ?_
  refine zk_idiv hX dX12_layFinger_48 (by decide) ?_
  rw [show (12 : Int32) = nI 12 from rfl, nI_div (by omega) (by decide)]
  refine zk_iload_n hX dX12_layFinger_49 rfl ?_
  refine zk_S1i hX dX12_layFinger_50 kcX12_wayY mlX12_239 smX12_wayY rfl (s_X12_wayY hF.2.1) (Nat.le_of_ble_eq_true rfl) rfl ?_
  refine zk_iadd hX dX12_layFinger_53 ?_
  refine zk_istore (lo' := [_, _, _, _, _, _]) hX dX12_layFinger_54 (Nat.le_of_ble_eq_true rfl) rfl rfl ?_
  refine zk_aload_n hX dX12_layFinger_56 rfl ?_
  refine zk_iload_n hX dX12_layFinger_57 rfl ?_
  refine zk_iload hX dX12_layFinger_58 rfl ?_
  refine zk_V2vp hX dX12_layFinger_60 kcX12_point mlX12_228 viX12_point rfl k_166 z_166 (s_X12_point hw hP (by omega) _ _) (Nat.le_of_ble_eq_true rfl) rfl (fun w2 q2 => ?_)
  refine zk_iconst (v := 0) hX dX12_layFinger_63 (by decide) ?_
  refine zk_istore (lo' := [_, _, _, _, _, _]) hX dX12_layFinger_64 (Nat.le_of_ble_eq_true rfl) rfl rfl ?_
  exact loop (dL D f) 0 w2 (by omega) q2.1 q2.2
theorem s_X12_layPoints {G : zG} {w : zW} {D : zD} (hw : zWf w) (hM : mHd w D) (hD : zDok D) (hT : zT2 D (w.1 179)) {o : Int32} (ho : o = -1 ∨ 0 ≤ o) :
    zCv G mX12_layPoints [.ref 166, .int o] w (fun w' => zFr [180, 181] [] [29] w w' ∧ zPts w' (zP D (w.1 179) o)) := by
  have h6 := hD.1.2.2
  have hF6 := hD.1.2.1
  have hW3 := hD.1.1
  refine zC_of (lo := [_, _, _]) kcX12_layPoints (Nat.le_of_ble_eq_true rfl) rfl (fun X hX hE => ?_)
  have loop2 : ∀ z f w1, f + z = dF D → zFr [180, 181] [] [29] w w1 → zPts w1 (zLf D (w.1 179) o f) → zk0 G X mX12_layPoints 54 [.ref 166, .int o, .int (nI f)] [] w1 := by
    intro z
    induction z with
    | zero =>
      intro f w1 hi hFr hP1
      obtain rfl : f = dF D := by omega
      have hw1 := zFr_wf hFr hw
      have hM1 := mHd_f hM hFr (by decide)
      refine zk_iload_n hX dX12_layPoints_54 rfl ?_
      refine zk_aload_n hX dX12_layPoints_55 rfl ?_
      refine zk_getI hX dX12_layPoints_56 flX12_196 k_166 z_166 ?_
      rw [hM1.1.2.1]
      refine zk_icmp_ge (tgt := 89) hX dX12_layPoints_59 (by decide) (fun c59 => ?_) (fun c59 => ?_)
      rotate_left
      · exact absurd (nI_le (Nat.le_refl _) (by omega)) c59
      refine zk_vret hX hE rfl ⟨rfl, rfl⟩ dX12_layPoints_89 ⟨rfl, ?_⟩
      exact ⟨hFr, hP1⟩
    | succ z ih =>
      intro f w1 hi hFr hP1
      have hw1 := zFr_wf hFr hw
      have hM1 := mHd_f hM hFr (by decide)
      have e9 : w1.1 179 = w.1 179 := hFr.2.1 179 (by decide) (by decide)
      have ea : (o = -1 ∨ o = nI (dO D f)) → zLf D (w.1 179) o (f + 1) = zLf D (w.1 179) o f ++ zLq D (w.1 179) f (dL D f + 1) := fun q => by
        show _ ++ (if zac D o f = true then _ else _) = _
        rw [if_pos (by unfold zac; exact decide_eq_true q)]
      have eb : ¬ (o = -1 ∨ o = nI (dO D f)) → zLf D (w.1 179) o (f + 1) = zLf D (w.1 179) o f := fun q => by
        show _ ++ (if zac D o f = true then _ else _) = _
        rw [if_neg (by unfold zac; simpa using q), List.append_nil]
      have hl := zLf_len (D := D) (t := w.1 179) (o := o) f
      have ho2 := zoff_le hD (f := f + 1) (by omega)
      rw [show zoff D (f + 1) = zoff D f + dL D f from rfl] at ho2
      refine zk_iload_n hX dX12_layPoints_54 rfl ?_
      refine zk_aload_n hX dX12_layPoints_55 rfl ?_
      refine zk_getI hX dX12_layPoints_56 flX12_196 k_166 z_166 ?_
      rw [hM1.1.2.1]
      refine zk_icmp_ge (tgt := 89) hX dX12_layPoints_59 (by decide) (fun c59 => ?_) (fun c59 => ?_)
      · exact absurd c59 (nI_ge (by omega) (by omega))
      refine zk_iload_n hX dX12_layPoints_62 rfl ?_
      refine zk_if_lt (tgt := 78) hX dX12_layPoints_63 (by decide) (fun c63 => ?_) (fun c63 => ?_)
      · refine zk_aload_n hX dX12_layPoints_78 rfl ?_
        refine zk_iload_n hX dX12_layPoints_79 rfl ?_
        refine zk_V1vp hX dX12_layPoints_80 kcX12_layFinger mlX12_232 viX12_layFinger rfl k_166 z_166 (s_X12_layFinger hw1 hM1 hD (by rw [e9]; exact hT) hP1 (by omega) (by omega)) (Nat.le_of_ble_eq_true rfl) rfl (fun w2 q2 => ?_)
        refine zk_iinc (lo' := [_, _, _]) hX dX12_layPoints_83 rfl (by first | exact zinc _ | exact rfl) (Nat.le_of_ble_eq_true rfl) rfl rfl ?_
        refine zk_goto (tgt := 54) hX dX12_layPoints_86 (by decide) ?_
        first
        | (refine ih (f + 1) w2 (by omega) (zFr_t hFr q2.1) ?_
           have q3 := q2.2
           rw [e9] at q3
           rw [ea (by grind)]
           exact q3)
        | (refine ih (f + 1) w1 (by omega) hFr ?_
           rw [eb (by grind)]
           exact hP1)
      · refine zk_iload_n hX dX12_layPoints_66 rfl ?_
        refine zk_aload_n hX dX12_layPoints_67 rfl ?_
        refine zk_getR hX dX12_layPoints_68 flX12_32 k_166 z_166 (hw1 _ _ (by decide) |>.trans r_166_14) ?_
        refine zk_iconst (v := 4) hX dX12_layPoints_71 (by decide) ?_
        refine zk_iload_n hX dX12_layPoints_72 rfl ?_
        refine zk_imul hX dX12_layPoints_73 ?_
        refine zk_ialdE hX dX12_layPoints_74 (nI_mulE (nI_k 4 rfl) rfl) k_174 z_174 (by first | assumption | omega) rfl ?_
        rw [(hM1.2.2.1 f (by omega)).1]
        refine zk_icmp_ne (tgt := 83) hX dX12_layPoints_75 (by decide) (fun c75 => ?_) (fun c75 => ?_)
        · refine zk_iinc (lo' := [_, _, _]) hX dX12_layPoints_83 rfl (by first | exact zinc _ | exact rfl) (Nat.le_of_ble_eq_true rfl) rfl rfl ?_
          refine zk_goto (tgt := 54) hX dX12_layPoints_86 (by decide) ?_
          first
          | (refine ih (f + 1) w2 (by omega) (zFr_t hFr q2.1) ?_
             have q3 := q2.2
             rw [e9] at q3
             rw [ea (by grind)]
             exact q3)
          | (refine ih (f + 1) w1 (by omega) hFr ?_
             rw [eb (by grind)]
             exact hP1)
        · refine zk_aload_n hX dX12_layPoints_78 rfl ?_
          refine zk_iload_n hX dX12_layPoints_79 rfl ?_
          refine zk_V1vp hX dX12_layPoints_80 kcX12_layFinger mlX12_232 viX12_layFinger rfl k_166 z_166 (s_X12_layFinger hw1 hM1 hD (by rw [e9]; exact hT) hP1 (by omega) (by omega)) (Nat.le_of_ble_eq_true rfl) rfl (fun w2 q2 => ?_)
          refine zk_iinc (lo' := [_, _, _]) hX dX12_layPoints_83 rfl (by first | exact zinc _ | exact rfl) (Nat.le_of_ble_eq_true rfl) rfl rfl ?_
          refine zk_goto (tgt := 54) hX dX12_layPoints_86 (by decide) ?_
          first
          | (refine ih (f + 1) w2 (by omega) (zFr_t hFr q2.1) ?_
             have q3 := q2.2
             rw [e9] at q3
             rw [ea (by grind)]
             exact q3)
          | (refine ih (f + 1) w1 (by omega) hFr ?_
             rw [eb (by grind)]
             exact hP1)
  have loop1 : ∀ z h w1, h + z = dW D → zFr [180, 181] [] [29] w w1 → zPts w1 (zLw D o h) → zk0 G X mX12_layPoints 7 [.ref 166, .int o, .int (nI h)] [] w1 := by
    intro z
    induction z with
    | zero =>
      intro h w1 hi hFr hP1
      obtain rfl : h = dW D := by omega
      have hw1 := zFr_wf hFr hw
      have hM1 := mHd_f hM hFr (by decide)
      refine zk_iload_n hX dX12_layPoints_7 rfl ?_
      refine zk_aload_n hX dX12_layPoints_8 rfl ?_
      refine zk_getI hX dX12_layPoints_9 flX12_193 k_166 z_166 ?_
      rw [hM1.1.1]
      refine zk_icmp_ge (tgt := 52) hX dX12_layPoints_12 (by decide) (fun c12 => ?_) (fun c12 => ?_)
      rotate_left
      · exact absurd (nI_le (Nat.le_refl _) (by omega)) c12
      refine zk_iconst (v := 0) hX dX12_layPoints_52 (by decide) ?_
      refine zk_istore_n (lo' := [_, _, _]) hX dX12_layPoints_53 (Nat.le_of_ble_eq_true rfl) rfl rfl ?_
      exact loop2 (dF D) 0 w1 (by omega) hFr hP1
    | succ z ih =>
      intro h w1 hi hFr hP1
      have hw1 := zFr_wf hFr hw
      have hM1 := mHd_f hM hFr (by decide)
      have ea : (o = -1 ∨ o = nI h) → zLw D o (h + 1) = zLw D o h ++ [zwt D h] := fun q => by show zLw D o h ++ (if _ then _ else _) = _; rw [if_pos q]
      have eb : ¬ (o = -1 ∨ o = nI h) → zLw D o (h + 1) = zLw D o h := fun q => by show zLw D o h ++ (if _ then _ else _) = _; rw [if_neg q, List.append_nil]
      have hl := zLw_len (D := D) (o := o) h
      have hd := hD.2.1 h (by omega)
      refine zk_iload_n hX dX12_layPoints_7 rfl ?_
      refine zk_aload_n hX dX12_layPoints_8 rfl ?_
      refine zk_getI hX dX12_layPoints_9 flX12_193 k_166 z_166 ?_
      rw [hM1.1.1]
      refine zk_icmp_ge (tgt := 52) hX dX12_layPoints_12 (by decide) (fun c12 => ?_) (fun c12 => ?_)
      · exact absurd c12 (nI_ge (by omega) (by omega))
      refine zk_iload_n hX dX12_layPoints_15 rfl ?_
      refine zk_if_lt (tgt := 24) hX dX12_layPoints_16 (by decide) (fun c16 => ?_) (fun c16 => ?_)
      · refine zk_aload_n hX dX12_layPoints_24 rfl ?_
        refine zk_aload_n hX dX12_layPoints_25 rfl ?_
        refine zk_getR hX dX12_layPoints_26 flX12_29 k_166 z_166 (hw1 _ _ (by decide) |>.trans r_166_13) ?_
        refine zk_iload_n hX dX12_layPoints_29 rfl ?_
        refine zk_ialdE hX dX12_layPoints_30 rfl k_173 z_173 (by first | assumption | omega) rfl ?_
        rw [hM1.2.1 h (by omega)]
        refine zk_bipush (v := 12) hX dX12_layPoints_31 (by decide) ?_
        refine zk_irem hX dX12_layPoints_33 (by decide) ?_
        rw [show (12 : Int32) = nI 12 from rfl, nI_rem (by omega) (by decide)]
        refine zk_aload_n hX dX12_layPoints_34 rfl ?_
        refine zk_getR hX dX12_layPoints_35 flX12_29 k_166 z_166 (hw1 _ _ (by decide) |>.trans r_166_13) ?_
        refine zk_iload_n hX dX12_layPoints_38 rfl ?_
        refine zk_ialdE hX dX12_layPoints_39 rfl k_173 z_173 (by first | assumption | omega) rfl ?_
        rw [hM1.2.1 h (by omega)]
        refine zk_bipush (v := 12) hX dX12_layPoints_40 (by decide) ?_
        refine zk_idiv hX dX12_layPoints_42 (by decide) ?_
        rw [show (12 : Int32) = nI 12 from rfl, nI_div (by omega) (by decide)]
        refine zk_V2vp hX dX12_layPoints_43 kcX12_point mlX12_228 viX12_point rfl k_166 z_166 (s_X12_point hw1 hP1 (by omega) _ _) (Nat.le_of_ble_eq_true rfl) rfl (fun w2 q2 => ?_)
        refine zk_iinc (lo' := [_, _, _]) hX dX12_layPoints_46 rfl (by first | exact zinc _ | exact rfl) (Nat.le_of_ble_eq_true rfl) rfl rfl ?_
        refine zk_goto (tgt := 7) hX dX12_layPoints_49 (by decide) ?_
        first
        | (refine ih (h + 1) w2 (by omega) (zFr_t hFr q2.1) ?_
           rw [ea (by grind)]
           exact q2.2)
        | (refine ih (h + 1) w1 (by omega) hFr ?_
           rw [eb (by grind)]
           exact hP1)
      · refine zk_iload_n hX dX12_layPoints_19 rfl ?_
        refine zk_iload_n hX dX12_layPoints_20 rfl ?_
        refine zk_icmp_ne (tgt := 46) hX dX12_layPoints_21 (by decide) (fun c21 => ?_) (fun c21 => ?_)
        · refine zk_iinc (lo' := [_, _, _]) hX dX12_layPoints_46 rfl (by first | exact zinc _ | exact rfl) (Nat.le_of_ble_eq_true rfl) rfl rfl ?_
          refine zk_goto (tgt := 7) hX dX12_layPoints_49 (by decide) ?_
          first
          | (refine ih (h + 1) w2 (by omega) (zFr_t hFr q2.1) ?_
             rw [ea (by grind)]
             exact q2.2)
          | (refine ih (h + 1) w1 (by omega) hFr ?_
             rw [eb (by grind)]
             exact hP1)
        · refine zk_aload_n hX dX12_layPoints_24 rfl ?_
          refine zk_aload_n hX dX12_layPoints_25 rfl ?_
          refine zk_getR hX dX12_layPoints_26 flX12_29 k_166 z_166 (hw1 _ _ (by decide) |>.trans r_166_13) ?_
          refine zk_iload_n hX dX12_layPoints_29 rfl ?_
          refine zk_ialdE hX dX12_layPoints_30 rfl k_173 z_173 (by first | assumption | omega) rfl ?_
          rw [hM1.2.1 h (by omega)]
          refine zk_bipush (v := 12) hX dX12_layPoints_31 (by decide) ?_
          refine zk_irem hX dX12_layPoints_33 (by decide) ?_
          rw [show (12 : Int32) = nI 12 from rfl, nI_rem (by omega) (by decide)]
          refine zk_aload_n hX dX12_layPoints_34 rfl ?_
          refine zk_getR hX dX12_layPoints_35 flX12_29 k_166 z_166 (hw1 _ _ (by decide) |>.trans r_166_13) ?_
          refine zk_iload_n hX dX12_layPoints_38 rfl ?_
          refine zk_ialdE hX dX12_layPoints_39 rfl k_173 z_173 (by first | assumption | omega) rfl ?_
          rw [hM1.2.1 h (by omega)]
          refine zk_bipush (v := 12) hX dX12_layPoints_40 (by decide) ?_
          refine zk_idiv hX dX12_layPoints_42 (by decide) ?_
          rw [show (12 : Int32) = nI 12 from rfl, nI_div (by omega) (by decide)]
          refine zk_V2vp hX dX12_layPoints_43 kcX12_point mlX12_228 viX12_point rfl k_166 z_166 (s_X12_point hw1 hP1 (by omega) _ _) (Nat.le_of_ble_eq_true rfl) rfl (fun w2 q2 => ?_)
          refine zk_iinc (lo' := [_, _, _]) hX dX12_layPoints_46 rfl (by first | exact zinc _ | exact rfl) (Nat.le_of_ble_eq_true rfl) rfl rfl ?_
          refine zk_goto (tgt := 7) hX dX12_layPoints_49 (by decide) ?_
          first
          | (refine ih (h + 1) w2 (by omega) (zFr_t hFr q2.1) ?_
             rw [ea (by grind)]
             exact q2.2)
          | (refine ih (h + 1) w1 (by omega) hFr ?_
             rw [eb (by grind)]
             exact hP1)
  refine zk_aload_n hX dX12_layPoints_0 rfl ?_
  refine zk_iconst (v := 0) hX dX12_layPoints_1 (by decide) ?_
  refine zk_putI hX dX12_layPoints_2 plX12_225 (fun h => by cases h) k_166 z_166 rfl rfl ?_
  refine zk_iconst (v := 0) hX dX12_layPoints_5 (by decide) ?_
  refine zk_istore_n (lo' := [_, _, _]) hX dX12_layPoints_6 (Nat.le_of_ble_eq_true rfl) rfl rfl ?_
  exact loop1 (dW D) 0 _ (by omega) (zFr_m (by decide)) ⟨by rw [zsi_1, if_pos ⟨rfl, rfl⟩]; rfl, fun i p h => by cases h⟩
