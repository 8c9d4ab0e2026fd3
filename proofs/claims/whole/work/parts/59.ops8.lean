/-! asking of poses -/
theorem qP1_t2 {w : zW} {D : zD} {p : Nat} (hD : zDok D) (h : qP1 w D p) : zT2 D (w.1 (48 + 4 * p)) := fun j hj => (h.1 j (by have := hD.1.2.2; omega)).1
theorem s_X11_turn {G : zG} {w : zW} {m n p j : Nat} (hw : zWf w) (hn : n ≤ 12) (hP : w.1 0 10 = nI n) (hm : m ≤ 6) (hJ : w.1 26 2 = nI m) (hp : p < n) (hj : j < m) : zEi G mX11_turn [.ref 0, .int (nI p), .int (nI j)] w 1 (zsi w 1 0 (w.1 (48 + 4 * p) j)) := by
  refine zC_of (lo := [_, _, _]) kcX11_turn (Nat.le_of_ble_eq_true rfl) rfl (fun X hX hE => ?_)
  refine zk_aload_n hX dX11_turn_0 rfl ?_
  refine zk_iload_n hX dX11_turn_1 rfl ?_
  refine zk_V1i hX dX11_turn_2 kcX11_isPose mlX11_227 viX11_isPose rfl k_0 z_0 (s_X11_isPose hw _) (Nat.le_of_ble_eq_true rfl) rfl ?_
  refine zk_if_eqB (tgt := 16) hX dX11_turn_5 (by decide) (fun c5 => ?_) (fun c5 => ?_)
  · exact absurd c5 (not_not_intro (by rw [hP]; exact ⟨nI_pos' (by omega), nI_lt hp (by omega)⟩))
  refine zk_aload_n hX dX11_turn_8 rfl ?_
  refine zk_iload_n hX dX11_turn_9 rfl ?_
  refine zk_V1i hX dX11_turn_10 kcX11_isJoint mlX11_186 viX11_isJoint rfl k_0 z_0 (s_X11_isJoint hw _) (Nat.le_of_ble_eq_true rfl) rfl ?_
  refine zk_if_neB (tgt := 18) hX dX11_turn_13 (by decide) (fun c13 => ?_) (fun c13 => ?_)
  rotate_left
  · exact absurd (by rw [hJ]; exact ⟨nI_pos' (by omega), nI_lt hj (by omega)⟩) c13
  refine zk_aload_n hX dX11_turn_18 rfl ?_
  refine zk_getR hX dX11_turn_19 flX11_12 k_0 z_0 (hw _ _ (by decide) |>.trans r_0_0) ?_
  refine zk_aload_n hX dX11_turn_22 rfl ?_
  refine zk_getR hX dX11_turn_23 flX11_61 k_0 z_0 (hw _ _ (by decide) |>.trans r_0_9) ?_
  refine zk_iload_n hX dX11_turn_26 rfl ?_
  refine zk_poses hX hw dX11_turn_27 rfl (by first | assumption | omega) ?_
  refine zk_getR hX dX11_turn_28 flX11_253 (zPok (by first | assumption | omega)) (zPoz _ (by first | assumption | omega)).1 ((hw _ _ (by omega)).trans (zPoz _ (by first | assumption | omega)).2.2.2.2.1) ?_
  refine zk_iload_n hX dX11_turn_31 rfl ?_
  refine zk_ialdE hX dX11_turn_32 rfl (show 48 + 4 * _ < 202 by omega) (zPoz _ (by first | assumption | omega)).2.1 (by first | assumption | omega) rfl ?_
  refine zk_V1i hX dX11_turn_33 kcX9_tell mlX11_132 viX9_tell rfl k_1 z_1 (s_X9_tell _) (Nat.le_of_ble_eq_true rfl) rfl ?_
  refine zk_iret hX hE rfl ⟨rfl, rfl⟩ dX11_turn_36 ⟨_, rfl, ?_⟩
  exact ⟨rfl, rfl⟩
theorem s_X11_turn_bad {G : zG} {w : zW} (hw : zWf w) (p j : Int32) (h : ¬ ((0 ≤ p ∧ p < w.1 0 10) ∧ (0 ≤ j ∧ j < w.1 26 2))) : zEi G mX11_turn [.ref 0, .int p, .int j] w (-1) w := by
  refine zC_of (lo := [_, _, _]) kcX11_turn (Nat.le_of_ble_eq_true rfl) rfl (fun X hX hE => ?_)
  refine zk_aload_n hX dX11_turn_0 rfl ?_
  refine zk_iload_n hX dX11_turn_1 rfl ?_
  refine zk_V1i hX dX11_turn_2 kcX11_isPose mlX11_227 viX11_isPose rfl k_0 z_0 (s_X11_isPose hw _) (Nat.le_of_ble_eq_true rfl) rfl ?_
  refine zk_if_eqB (tgt := 16) hX dX11_turn_5 (by decide) (fun c5 => ?_) (fun c5 => ?_)
  · refine zk_iconst (v := -1) hX dX11_turn_16 (by decide) ?_
    refine zk_iret hX hE rfl ⟨rfl, rfl⟩ dX11_turn_17 ⟨_, rfl, ?_⟩
    exact ⟨rfl, rfl⟩
  · refine zk_aload_n hX dX11_turn_8 rfl ?_
    refine zk_iload_n hX dX11_turn_9 rfl ?_
    refine zk_V1i hX dX11_turn_10 kcX11_isJoint mlX11_186 viX11_isJoint rfl k_0 z_0 (s_X11_isJoint hw _) (Nat.le_of_ble_eq_true rfl) rfl ?_
    refine zk_if_neB (tgt := 18) hX dX11_turn_13 (by decide) (fun c13 => ?_) (fun c13 => ?_)
    · exact absurd c13 (fun q => h ⟨by first | exact c5 | exact Decidable.not_not.mp c5, q⟩)
    refine zk_iconst (v := -1) hX dX11_turn_16 (by decide) ?_
    refine zk_iret hX hE rfl ⟨rfl, rfl⟩ dX11_turn_17 ⟨_, rfl, ?_⟩
    exact ⟨rfl, rfl⟩
theorem s_X12_turn {G : zG} {w : zW} {m n p j : Nat} (hw : zWf w) (hn : n ≤ 12) (hP : w.1 166 33 = nI n) (hm : m ≤ 6) (hJ : w.1 166 12 = nI m) (hp : p < n) (hj : j < m) : zEi G mX12_turn [.ref 166, .int (nI p), .int (nI j)] w 1 (zsi w 166 2 (w.1 184 (6 * p + j))) := by
  refine zC_of (lo := [_, _, _]) kcX12_turn (Nat.le_of_ble_eq_true rfl) rfl (fun X hX hE => ?_)
  refine zk_aload_n hX dX12_turn_0 rfl ?_
  refine zk_iload_n hX dX12_turn_1 rfl ?_
  refine zk_V1i hX dX12_turn_2 kcX12_isPose mlX12_290 viX12_isPose rfl k_166 z_166 (s_X12_isPose (n := n) (by omega) hP _) (Nat.le_of_ble_eq_true rfl) rfl ?_
  refine zk_if_eqB (tgt := 35) hX dX12_turn_5 (by decide) (fun c5 => ?_) (fun c5 => ?_)
  · exact absurd c5 (not_not_intro ⟨nI_pos' (by omega), nI_lt hp (by omega)⟩)
  refine zk_aload_n hX dX12_turn_8 rfl ?_
  refine zk_iload_n hX dX12_turn_9 rfl ?_
  refine zk_V1i hX dX12_turn_10 kcX12_isJoint mlX12_208 viX12_isJoint rfl k_166 z_166 (s_X12_isJoint (n := m) (by omega) hJ _) (Nat.le_of_ble_eq_true rfl) rfl ?_
  refine zk_if_eqB (tgt := 35) hX dX12_turn_13 (by decide) (fun c13 => ?_) (fun c13 => ?_)
  · exact absurd c13 (not_not_intro ⟨nI_pos' (by omega), nI_lt hj (by omega)⟩)
  refine zk_aload_n hX dX12_turn_16 rfl ?_
  refine zk_aload_n hX dX12_turn_17 rfl ?_
  refine zk_getR hX dX12_turn_18 flX12_62 k_166 z_166 (hw _ _ (by decide) |>.trans r_166_35) ?_
  refine zk_bipush (v := 6) hX dX12_turn_21 (by decide) ?_
  refine zk_iload_n hX dX12_turn_23 rfl ?_
  refine zk_imul hX dX12_turn_24 ?_
  refine zk_iload_n hX dX12_turn_25 rfl ?_
  refine zk_iadd hX dX12_turn_26 ?_
  refine zk_ialdE hX dX12_turn_27 (nI_addE (nI_mulE (nI_k 6 rfl) rfl) rfl) k_184 z_184 (by first | assumption | omega) rfl ?_
  refine zk_iconst (v := 1) hX dX12_turn_28 (by decide) ?_
  refine zk_V2i hX dX12_turn_29 kcX12_tells mlX12_153 viX12_tells rfl k_166 z_166 (s_X12_tells _ _) (Nat.le_of_ble_eq_true rfl) rfl ?_
  refine zk_goto (tgt := 36) hX dX12_turn_32 (by decide) ?_
  refine zk_iret hX hE rfl ⟨rfl, rfl⟩ dX12_turn_36 ⟨_, rfl, ?_⟩
  exact ⟨rfl, rfl⟩
theorem s_X12_turn_bad {G : zG} {w : zW} {m n : Nat} (hn : n ≤ 12) (hP : w.1 166 33 = nI n) (hm : m ≤ 6) (hJ : w.1 166 12 = nI m) (p j : Int32) (h : ¬ ((0 ≤ p ∧ p < nI n) ∧ (0 ≤ j ∧ j < nI m))) : zEi G mX12_turn [.ref 166, .int p, .int j] w (-1) w := by
  refine zC_of (lo := [_, _, _]) kcX12_turn (Nat.le_of_ble_eq_true rfl) rfl (fun X hX hE => ?_)
  refine zk_aload_n hX dX12_turn_0 rfl ?_
  refine zk_iload_n hX dX12_turn_1 rfl ?_
  refine zk_V1i hX dX12_turn_2 kcX12_isPose mlX12_290 viX12_isPose rfl k_166 z_166 (s_X12_isPose (n := n) (by omega) hP _) (Nat.le_of_ble_eq_true rfl) rfl ?_
  refine zk_if_eqB (tgt := 35) hX dX12_turn_5 (by decide) (fun c5 => ?_) (fun c5 => ?_)
  · refine zk_iconst (v := -1) hX dX12_turn_35 (by decide) ?_
    refine zk_iret hX hE rfl ⟨rfl, rfl⟩ dX12_turn_36 ⟨_, rfl, ?_⟩
    exact ⟨rfl, rfl⟩
  · refine zk_aload_n hX dX12_turn_8 rfl ?_
    refine zk_iload_n hX dX12_turn_9 rfl ?_
    refine zk_V1i hX dX12_turn_10 kcX12_isJoint mlX12_208 viX12_isJoint rfl k_166 z_166 (s_X12_isJoint (n := m) (by omega) hJ _) (Nat.le_of_ble_eq_true rfl) rfl ?_
    refine zk_if_eqB (tgt := 35) hX dX12_turn_13 (by decide) (fun c13 => ?_) (fun c13 => ?_)
    rotate_left
    · exact absurd ⟨by first | exact c5 | exact Decidable.not_not.mp c5, by first | exact c13 | exact Decidable.not_not.mp c13⟩ h
    refine zk_iconst (v := -1) hX dX12_turn_35 (by decide) ?_
    refine zk_iret hX hE rfl ⟨rfl, rfl⟩ dX12_turn_36 ⟨_, rfl, ?_⟩
    exact ⟨rfl, rfl⟩
theorem zO_turn {G : zG} (p j : Int32) : zOi G mX11_turn mX12_turn [.int p, .int j] := by
  intro w h
  have h0 := h
  obtain ⟨hw, hT, hR, hX, hB, D, z, u, v, T, n, nl, c, hH, hL, hS, hP, hK⟩ := h
  have h6 := hH.1.1.2.2
  by_cases hk : (0 ≤ p ∧ p < nI n) ∧ (0 ≤ j ∧ j < nI (dJ D))
  · have h12 := hP.1
    obtain ⟨p, hp, rfl⟩ := rn (by omega) hk.1
    obtain ⟨j, hj, rfl⟩ := rn (by omega) hk.2
    have c1 := s_X11_turn (G := G) hw h12 hP.2.1 h6 hH.2.1.1.2.2 hp hj
    have c2 := s_X12_turn (G := G) (w := zsi w 1 0 (w.1 (48 + 4 * p) j)) (zWf_i hw) h12 (by rw [zsi_o (by decide)]; exact hP.2.2.1) h6 (by rw [zsi_o (by decide)]; exact hH.2.2.1.1.2.2) hp hj
    rw [zsi_o (by decide), (hP.2.2.2 p hp).2.2.1 j hj] at c2
    exact zOe c1 c2 rfl (zQ_tell h0 _)
  · exact zOe (s_X11_turn_bad hw p j (by rw [hP.2.1, hH.2.1.1.2.2]; exact hk)) (s_X12_turn_bad hP.1 hP.2.2.1 h6 hH.2.2.1.1.2.2 p j hk) rfl h0
theorem s_X11_about_bad {G : zG} {w : zW} (hw : zWf w) (j k : Int32) (h : ¬ ((0 ≤ j ∧ j < w.1 0 10) ∧ (0 ≤ k ∧ k < 3))) : zEi G mX11_about [.ref 0, .int j, .int k] w (-1) w := by
  refine zC_of (lo := [_, _, _]) kcX11_about (Nat.le_of_ble_eq_true rfl) rfl (fun X hX hE => ?_)
  refine zk_aload_n hX dX11_about_0 rfl ?_
  refine zk_iload_n hX dX11_about_1 rfl ?_
  refine zk_V1i hX dX11_about_2 kcX11_isPose mlX11_227 viX11_isPose rfl k_0 z_0 (s_X11_isPose hw _) (Nat.le_of_ble_eq_true rfl) rfl ?_
  refine zk_if_neB (tgt := 10) hX dX11_about_5 (by decide) (fun c5 => ?_) (fun c5 => ?_)
  · refine zk_iload_n hX dX11_about_10 rfl ?_
    refine zk_tableOut hX dX11_about_11 (zsw3 (fun q => h ⟨by first | exact c5 | exact Decidable.not_not.mp c5, q⟩)) (tgt := 87) (by decide) ?_
    refine zk_iconst (v := -1) hX dX11_about_87 (by decide) ?_
    refine zk_iret hX hE rfl ⟨rfl, rfl⟩ dX11_about_88 ⟨_, rfl, ?_⟩
    exact ⟨rfl, rfl⟩
  · refine zk_iconst (v := -1) hX dX11_about_8 (by decide) ?_
    refine zk_iret hX hE rfl ⟨rfl, rfl⟩ dX11_about_9 ⟨_, rfl, ?_⟩
    exact ⟨rfl, rfl⟩
theorem s_X11_about {G : zG} {w : zW} {n p k : Nat} (hw : zWf w) (hn : n ≤ 12) (hP : w.1 0 10 = nI n) (hp : p < n) (hk : k < 3) : zEi G mX11_about [.ref 0, .int (nI p), .int (nI k)] w 1 (zsi w 1 0 (w.1 (47 + 4 * p) (if k = 0 then 3 else if k = 1 then 5 else 4))) := by
  rcases (show k = 0 ∨ k = 1 ∨ k = 2 by omega) with g | g | g <;> subst g
  · skip
    refine zC_of (lo := [_, _, _]) kcX11_about (Nat.le_of_ble_eq_true rfl) rfl (fun X hX hE => ?_)
    refine zk_aload_n hX dX11_about_0 rfl ?_
    refine zk_iload_n hX dX11_about_1 rfl ?_
    refine zk_V1i hX dX11_about_2 kcX11_isPose mlX11_227 viX11_isPose rfl k_0 z_0 (s_X11_isPose hw _) (Nat.le_of_ble_eq_true rfl) rfl ?_
    refine zk_if_neB (tgt := 10) hX dX11_about_5 (by decide) (fun c5 => ?_) (fun c5 => ?_)
    rotate_left
    · exact absurd (by rw [hP]; exact ⟨nI_pos' (by omega), nI_lt hp (by omega)⟩) c5
    refine zk_iload_n hX dX11_about_10 rfl ?_
    refine zk_tableIn hX dX11_about_11 (by decide) (by decide) (off := 25) (tgt := 36) (by decide +kernel) (by decide) ?_
    refine zk_aload_n hX dX11_about_36 rfl ?_
    refine zk_getR hX dX11_about_37 flX11_12 k_0 z_0 (hw _ _ (by decide) |>.trans r_0_0) ?_
    refine zk_aload_n hX dX11_about_40 rfl ?_
    refine zk_getR hX dX11_about_41 flX11_61 k_0 z_0 (hw _ _ (by decide) |>.trans r_0_9) ?_
    refine zk_iload_n hX dX11_about_44 rfl ?_
    refine zk_poses hX hw dX11_about_45 rfl (by first | assumption | omega) ?_
    refine zk_getI hX dX11_about_46 flX11_224 (zPok (by first | assumption | omega)) (zPoz _ (by first | assumption | omega)).1 ?_
    refine zk_V1i hX dX11_about_49 kcX9_tell mlX11_132 viX9_tell rfl k_1 z_1 (s_X9_tell _) (Nat.le_of_ble_eq_true rfl) rfl ?_
    refine zk_iret hX hE rfl ⟨rfl, rfl⟩ dX11_about_52 ⟨_, rfl, ?_⟩
    exact ⟨rfl, rfl⟩
  · skip
    refine zC_of (lo := [_, _, _]) kcX11_about (Nat.le_of_ble_eq_true rfl) rfl (fun X hX hE => ?_)
    refine zk_aload_n hX dX11_about_0 rfl ?_
    refine zk_iload_n hX dX11_about_1 rfl ?_
    refine zk_V1i hX dX11_about_2 kcX11_isPose mlX11_227 viX11_isPose rfl k_0 z_0 (s_X11_isPose hw _) (Nat.le_of_ble_eq_true rfl) rfl ?_
    refine zk_if_neB (tgt := 10) hX dX11_about_5 (by decide) (fun c5 => ?_) (fun c5 => ?_)
    rotate_left
    · exact absurd (by rw [hP]; exact ⟨nI_pos' (by omega), nI_lt hp (by omega)⟩) c5
    refine zk_iload_n hX dX11_about_10 rfl ?_
    refine zk_tableIn hX dX11_about_11 (by decide) (by decide) (off := 42) (tgt := 53) (by decide +kernel) (by decide) ?_
    refine zk_aload_n hX dX11_about_53 rfl ?_
    refine zk_getR hX dX11_about_54 flX11_12 k_0 z_0 (hw _ _ (by decide) |>.trans r_0_0) ?_
    refine zk_aload_n hX dX11_about_57 rfl ?_
    refine zk_getR hX dX11_about_58 flX11_61 k_0 z_0 (hw _ _ (by decide) |>.trans r_0_9) ?_
    refine zk_iload_n hX dX11_about_61 rfl ?_
    refine zk_poses hX hw dX11_about_62 rfl (by first | assumption | omega) ?_
    refine zk_getI hX dX11_about_63 flX11_250 (zPok (by first | assumption | omega)) (zPoz _ (by first | assumption | omega)).1 ?_
    refine zk_V1i hX dX11_about_66 kcX9_tell mlX11_132 viX9_tell rfl k_1 z_1 (s_X9_tell _) (Nat.le_of_ble_eq_true rfl) rfl ?_
    refine zk_iret hX hE rfl ⟨rfl, rfl⟩ dX11_about_69 ⟨_, rfl, ?_⟩
    exact ⟨rfl, rfl⟩
  · skip
    refine zC_of (lo := [_, _, _]) kcX11_about (Nat.le_of_ble_eq_true rfl) rfl (fun X hX hE => ?_)
    refine zk_aload_n hX dX11_about_0 rfl ?_
    refine zk_iload_n hX dX11_about_1 rfl ?_
    refine zk_V1i hX dX11_about_2 kcX11_isPose mlX11_227 viX11_isPose rfl k_0 z_0 (s_X11_isPose hw _) (Nat.le_of_ble_eq_true rfl) rfl ?_
    refine zk_if_neB (tgt := 10) hX dX11_about_5 (by decide) (fun c5 => ?_) (fun c5 => ?_)
    rotate_left
    · exact absurd (by rw [hP]; exact ⟨nI_pos' (by omega), nI_lt hp (by omega)⟩) c5
    refine zk_iload_n hX dX11_about_10 rfl ?_
    refine zk_tableIn hX dX11_about_11 (by decide) (by decide) (off := 59) (tgt := 70) (by decide +kernel) (by decide) ?_
    refine zk_aload_n hX dX11_about_70 rfl ?_
    refine zk_getR hX dX11_about_71 flX11_12 k_0 z_0 (hw _ _ (by decide) |>.trans r_0_0) ?_
    refine zk_aload_n hX dX11_about_74 rfl ?_
    refine zk_getR hX dX11_about_75 flX11_61 k_0 z_0 (hw _ _ (by decide) |>.trans r_0_9) ?_
    refine zk_iload_n hX dX11_about_78 rfl ?_
    refine zk_poses hX hw dX11_about_79 rfl (by first | assumption | omega) ?_
    refine zk_getI hX dX11_about_80 flX11_244 (zPok (by first | assumption | omega)) (zPoz _ (by first | assumption | omega)).1 ?_
    refine zk_V1i hX dX11_about_83 kcX9_tell mlX11_132 viX9_tell rfl k_1 z_1 (s_X9_tell _) (Nat.le_of_ble_eq_true rfl) rfl ?_
    refine zk_iret hX hE rfl ⟨rfl, rfl⟩ dX11_about_86 ⟨_, rfl, ?_⟩
    exact ⟨rfl, rfl⟩
theorem s_X12_about_bad {G : zG} {w : zW} {n : Nat} (hn : n ≤ 12) (hP : w.1 166 33 = nI n) (p k : Int32) (h : ¬ ((0 ≤ p ∧ p < nI n) ∧ (0 ≤ k ∧ k < 3))) : zEi G mX12_about [.ref 166, .int p, .int k] w (-1) w := by
  refine zC_of (lo := [_, _, _]) kcX12_about (Nat.le_of_ble_eq_true rfl) rfl (fun X hX hE => ?_)
  refine zk_aload_n hX dX12_about_0 rfl ?_
  refine zk_iload_n hX dX12_about_1 rfl ?_
  refine zk_V1i hX dX12_about_2 kcX12_isPose mlX12_290 viX12_isPose rfl k_166 z_166 (s_X12_isPose (n := n) (by omega) hP _) (Nat.le_of_ble_eq_true rfl) rfl ?_
  refine zk_if_eqB (tgt := 31) hX dX12_about_5 (by decide) (fun c5 => ?_) (fun c5 => ?_)
  · refine zk_iconst (v := -1) hX dX12_about_31 (by decide) ?_
    refine zk_iret hX hE rfl ⟨rfl, rfl⟩ dX12_about_32 ⟨_, rfl, ?_⟩
    exact ⟨rfl, rfl⟩
  · refine zk_iload_n hX dX12_about_8 rfl ?_
    refine zk_iconst (v := 0) hX dX12_about_9 (by decide) ?_
    refine zk_iconst (v := 2) hX dX12_about_10 (by decide) ?_
    refine zk_S3i hX dX12_about_11 kcX12_in mlX12_131 smX12_in rfl (s_X12_in _ _ _) (Nat.le_of_ble_eq_true rfl) rfl ?_
    refine zk_if_eqB (tgt := 31) hX dX12_about_14 (by decide) (fun c14 => ?_) (fun c14 => ?_)
    rotate_left
    · exact absurd ⟨by first | exact c5 | exact Decidable.not_not.mp c5, by grind⟩ h
    refine zk_iconst (v := -1) hX dX12_about_31 (by decide) ?_
    refine zk_iret hX hE rfl ⟨rfl, rfl⟩ dX12_about_32 ⟨_, rfl, ?_⟩
    exact ⟨rfl, rfl⟩
theorem s_X12_about {G : zG} {w : zW} {D : zD} {n p k : Nat} (hw : zWf w) (hM : mHd w D) (hD : zDok D) (hn : n ≤ 12) (hP : w.1 166 33 = nI n) (hp : p < n) (hk : k < 3) {t : Nat → Int32} (hT : zT6 D t) (ht : ∀ j, j < dJ D → w.1 184 (6 * p + j) = t j) :
    zCi G mX12_about [.ref 166, .int (nI p), .int (nI k)] w (fun r w' => r = 1 ∧ zFr [179, 180, 181] [] [2, 29] w w' ∧ w'.1 166 2 = if k = 0 then w.1 183 (3 * p) else if k = 1 then nI (zld t) else w.1 183 (3 * p + 1)) := by
  have h6 := hD.1.2.2
  rcases (show k = 0 ∨ k = 1 ∨ k = 2 by omega) with g | g | g <;> subst g
  · have c0 : zEi G mX12_aboutPose [.ref 166, .int (nI p), .int (nI 0)] w (w.1 183 (3 * p)) w := by
      refine zC_of (lo := [_, _, _]) kcX12_aboutPose (Nat.le_of_ble_eq_true rfl) rfl (fun X hX hE => ?_)
      refine zk_iload_n hX dX12_aboutPose_0 rfl ?_
      refine zk_iconst (v := 1) hX dX12_aboutPose_1 (by decide) ?_
      refine zk_icmp_ne (tgt := 16) hX dX12_aboutPose_2 (by decide) (fun c2 => ?_) (fun c2 => ?_)
      rotate_left
      · exact absurd c2 (by decide)
      refine zk_iload_n hX dX12_aboutPose_16 rfl ?_
      refine zk_if_ne (tgt := 28) hX dX12_aboutPose_17 (by decide) (fun c17 => ?_) (fun c17 => ?_)
      · exact absurd c17 (by decide)
      refine zk_aload_n hX dX12_aboutPose_20 rfl ?_
      refine zk_iload_n hX dX12_aboutPose_21 rfl ?_
      refine zk_V1i hX dX12_aboutPose_22 kcX12_kind mlX12_281 viX12_kind rfl k_166 z_166 (s_X12_kind hw (by omega)) (Nat.le_of_ble_eq_true rfl) rfl ?_
      refine zk_goto (tgt := 38) hX dX12_aboutPose_25 (by decide) ?_
      refine zk_iret hX hE rfl ⟨rfl, rfl⟩ dX12_aboutPose_38 ⟨_, rfl, ?_⟩
      exact ⟨rfl, rfl⟩
    refine zC_of (lo := [_, _, _]) kcX12_about (Nat.le_of_ble_eq_true rfl) rfl (fun X hX hE => ?_)
    refine zk_aload_n hX dX12_about_0 rfl ?_
    refine zk_iload_n hX dX12_about_1 rfl ?_
    refine zk_V1i hX dX12_about_2 kcX12_isPose mlX12_290 viX12_isPose rfl k_166 z_166 (s_X12_isPose (n := n) (by omega) hP _) (Nat.le_of_ble_eq_true rfl) rfl ?_
    refine zk_if_eqB (tgt := 31) hX dX12_about_5 (by decide) (fun c5 => ?_) (fun c5 => ?_)
    · exact absurd c5 (not_not_intro ⟨nI_pos' (by omega), nI_lt hp (by omega)⟩)
    refine zk_iload_n hX dX12_about_8 rfl ?_
    refine zk_iconst (v := 0) hX dX12_about_9 (by decide) ?_
    refine zk_iconst (v := 2) hX dX12_about_10 (by decide) ?_
    refine zk_S3i hX dX12_about_11 kcX12_in mlX12_131 smX12_in rfl (s_X12_in _ _ _) (Nat.le_of_ble_eq_true rfl) rfl ?_
    refine zk_if_eqB (tgt := 31) hX dX12_about_14 (by decide) (fun c14 => ?_) (fun c14 => ?_)
    · exact absurd c14 (not_not_intro (zrle (n := 2) (by omega)))
    refine zk_aload_n hX dX12_about_17 rfl ?_
    refine zk_aload_n hX dX12_about_18 rfl ?_
    refine zk_iload_n hX dX12_about_19 rfl ?_
    refine zk_iload_n hX dX12_about_20 rfl ?_
    refine zk_V2i hX dX12_about_21 kcX12_aboutPose mlX12_302 viX12_aboutPose rfl k_166 z_166 c0 (Nat.le_of_ble_eq_true rfl) rfl ?_
    refine zk_iconst (v := 1) hX dX12_about_24 (by decide) ?_
    refine zk_V2i hX dX12_about_25 kcX12_tells mlX12_153 viX12_tells rfl k_166 z_166 (s_X12_tells _ _) (Nat.le_of_ble_eq_true rfl) rfl ?_
    refine zk_goto (tgt := 32) hX dX12_about_28 (by decide) ?_
    refine zk_iret hX hE rfl ⟨rfl, rfl⟩ dX12_about_32 ⟨_, rfl, ?_⟩
    exact ⟨rfl, zFr_m (by decide), by rw [zsi_1, if_pos ⟨rfl, rfl⟩]; rfl⟩
  · have c0 : zCi G mX12_aboutPose [.ref 166, .int (nI p), .int (nI 1)] w (fun r w' => r = nI (zld t) ∧ zFr [179, 180, 181] [] [29] w w') := by
      refine zC_of (lo := [_, _, _]) kcX12_aboutPose (Nat.le_of_ble_eq_true rfl) rfl (fun X hX hE => ?_)
      refine zk_iload_n hX dX12_aboutPose_0 rfl ?_
      refine zk_iconst (v := 1) hX dX12_aboutPose_1 (by decide) ?_
      refine zk_icmp_ne (tgt := 16) hX dX12_aboutPose_2 (by decide) (fun c2 => ?_) (fun c2 => ?_)
      · exact absurd rfl c2
      refine zk_aload_n hX dX12_aboutPose_5 rfl ?_
      refine zk_iload_n hX dX12_aboutPose_6 rfl ?_
      refine zk_V1vp hX dX12_aboutPose_7 kcX12_layPose mlX12_284 viX12_layPose rfl k_166 z_166 (s_X12_layPose hw hM hD (by omega) (fun j hj => (hT j (by omega)).1) ht) (Nat.le_of_ble_eq_true rfl) rfl (fun w2 q2 => ?_)
      obtain ⟨k1, k2, k3⟩ := q2
      refine zk_aload_n hX dX12_aboutPose_10 rfl ?_
      refine zk_iconst (v := -1) hX dX12_aboutPose_11 (by decide) ?_
      refine zk_V1i hX dX12_aboutPose_12 kcX12_turned mlX12_248 viX12_turned rfl k_166 z_166 (s_X12_turned (zFr_wf k1 hw) (mHd_f hM k1 (by decide)) hD (fun j hj => by rw [k2 j hj]; exact (hT j (by omega)).1) (Or.inl rfl)) (Nat.le_of_ble_eq_true rfl) rfl ?_
      refine zk_iret hX hE rfl ⟨rfl, rfl⟩ dX12_aboutPose_15 ⟨_, rfl, ?_⟩
      refine ⟨?_, k1⟩
      have e : zldo D (w2.1 179) (-1) (dJ D) = zldo D t (-1) (dJ D) := zsm_c (fun j hj => by rw [k2 j hj])
      rw [e, zld_o hD (fun j h1 h2 => (hT j h2).2 h1)]
    refine zC_of (lo := [_, _, _]) kcX12_about (Nat.le_of_ble_eq_true rfl) rfl (fun X hX hE => ?_)
    refine zk_aload_n hX dX12_about_0 rfl ?_
    refine zk_iload_n hX dX12_about_1 rfl ?_
    refine zk_V1i hX dX12_about_2 kcX12_isPose mlX12_290 viX12_isPose rfl k_166 z_166 (s_X12_isPose (n := n) (by omega) hP _) (Nat.le_of_ble_eq_true rfl) rfl ?_
    refine zk_if_eqB (tgt := 31) hX dX12_about_5 (by decide) (fun c5 => ?_) (fun c5 => ?_)
    · exact absurd c5 (not_not_intro ⟨nI_pos' (by omega), nI_lt hp (by omega)⟩)
    refine zk_iload_n hX dX12_about_8 rfl ?_
    refine zk_iconst (v := 0) hX dX12_about_9 (by decide) ?_
    refine zk_iconst (v := 2) hX dX12_about_10 (by decide) ?_
    refine zk_S3i hX dX12_about_11 kcX12_in mlX12_131 smX12_in rfl (s_X12_in _ _ _) (Nat.le_of_ble_eq_true rfl) rfl ?_
    refine zk_if_eqB (tgt := 31) hX dX12_about_14 (by decide) (fun c14 => ?_) (fun c14 => ?_)
    · exact absurd c14 (not_not_intro (zrle (n := 2) (by omega)))
    refine zk_aload_n hX dX12_about_17 rfl ?_
    refine zk_aload_n hX dX12_about_18 rfl ?_
    refine zk_iload_n hX dX12_about_19 rfl ?_
    refine zk_iload_n hX dX12_about_20 rfl ?_
    refine zk_V2ip hX dX12_about_21 kcX12_aboutPose mlX12_302 viX12_aboutPose rfl k_166 z_166 c0 (Nat.le_of_ble_eq_true rfl) rfl (fun r2 w2 q2 => ?_)
    obtain ⟨rfl, k1⟩ := q2
    refine zk_iconst (v := 1) hX dX12_about_24 (by decide) ?_
    refine zk_V2i hX dX12_about_25 kcX12_tells mlX12_153 viX12_tells rfl k_166 z_166 (s_X12_tells _ _) (Nat.le_of_ble_eq_true rfl) rfl ?_
    refine zk_goto (tgt := 32) hX dX12_about_28 (by decide) ?_
    refine zk_iret hX hE rfl ⟨rfl, rfl⟩ dX12_about_32 ⟨_, rfl, ?_⟩
    exact ⟨rfl, zFr_t (zFr_s k1 (by decide)) (zFr_m (by decide)), by rw [zsi_1, if_pos ⟨rfl, rfl⟩]; rfl⟩
  · have c0 : zEi G mX12_aboutPose [.ref 166, .int (nI p), .int (nI 2)] w (w.1 183 (3 * p + 1)) w := by
      refine zC_of (lo := [_, _, _]) kcX12_aboutPose (Nat.le_of_ble_eq_true rfl) rfl (fun X hX hE => ?_)
      refine zk_iload_n hX dX12_aboutPose_0 rfl ?_
      refine zk_iconst (v := 1) hX dX12_aboutPose_1 (by decide) ?_
      refine zk_icmp_ne (tgt := 16) hX dX12_aboutPose_2 (by decide) (fun c2 => ?_) (fun c2 => ?_)
      rotate_left
      · exact absurd c2 (by decide)
      refine zk_iload_n hX dX12_aboutPose_16 rfl ?_
      refine zk_if_ne (tgt := 28) hX dX12_aboutPose_17 (by decide) (fun c17 => ?_) (fun c17 => ?_)
      rotate_left
      · exact absurd c17 (by decide)
      refine zk_aload_n hX dX12_aboutPose_28 rfl ?_
      refine zk_getR hX dX12_aboutPose_29 flX12_59 k_166 z_166 (hw _ _ (by decide) |>.trans r_166_34) ?_
      refine zk_iconst (v := 3) hX dX12_aboutPose_32 (by decide) ?_
      refine zk_iload_n hX dX12_aboutPose_33 rfl ?_
      refine zk_imul hX dX12_aboutPose_34 ?_
      refine zk_iconst (v := 1) hX dX12_aboutPose_35 (by decide) ?_
      refine zk_iadd hX dX12_aboutPose_36 ?_
      refine zk_ialdE hX dX12_aboutPose_37 (nI_addE (nI_mulE (nI_k 3 rfl) rfl) (nI_k 1 rfl)) k_183 z_183 (by first | assumption | omega) rfl ?_
      refine zk_iret hX hE rfl ⟨rfl, rfl⟩ dX12_aboutPose_38 ⟨_, rfl, ?_⟩
      exact ⟨rfl, rfl⟩
    refine zC_of (lo := [_, _, _]) kcX12_about (Nat.le_of_ble_eq_true rfl) rfl (fun X hX hE => ?_)
    refine zk_aload_n hX dX12_about_0 rfl ?_
    refine zk_iload_n hX dX12_about_1 rfl ?_
    refine zk_V1i hX dX12_about_2 kcX12_isPose mlX12_290 viX12_isPose rfl k_166 z_166 (s_X12_isPose (n := n) (by omega) hP _) (Nat.le_of_ble_eq_true rfl) rfl ?_
    refine zk_if_eqB (tgt := 31) hX dX12_about_5 (by decide) (fun c5 => ?_) (fun c5 => ?_)
    · exact absurd c5 (not_not_intro ⟨nI_pos' (by omega), nI_lt hp (by omega)⟩)
    refine zk_iload_n hX dX12_about_8 rfl ?_
    refine zk_iconst (v := 0) hX dX12_about_9 (by decide) ?_
    refine zk_iconst (v := 2) hX dX12_about_10 (by decide) ?_
    refine zk_S3i hX dX12_about_11 kcX12_in mlX12_131 smX12_in rfl (s_X12_in _ _ _) (Nat.le_of_ble_eq_true rfl) rfl ?_
    refine zk_if_eqB (tgt := 31) hX dX12_about_14 (by decide) (fun c14 => ?_) (fun c14 => ?_)
    · exact absurd c14 (not_not_intro (zrle (n := 2) (by omega)))
    refine zk_aload_n hX dX12_about_17 rfl ?_
    refine zk_aload_n hX dX12_about_18 rfl ?_
    refine zk_iload_n hX dX12_about_19 rfl ?_
    refine zk_iload_n hX dX12_about_20 rfl ?_
    refine zk_V2i hX dX12_about_21 kcX12_aboutPose mlX12_302 viX12_aboutPose rfl k_166 z_166 c0 (Nat.le_of_ble_eq_true rfl) rfl ?_
    refine zk_iconst (v := 1) hX dX12_about_24 (by decide) ?_
    refine zk_V2i hX dX12_about_25 kcX12_tells mlX12_153 viX12_tells rfl k_166 z_166 (s_X12_tells _ _) (Nat.le_of_ble_eq_true rfl) rfl ?_
    refine zk_goto (tgt := 32) hX dX12_about_28 (by decide) ?_
    refine zk_iret hX hE rfl ⟨rfl, rfl⟩ dX12_about_32 ⟨_, rfl, ?_⟩
    exact ⟨rfl, zFr_m (by decide), by rw [zsi_1, if_pos ⟨rfl, rfl⟩]; rfl⟩
/-- told on both sides, else scratch -/
theorem zQ_told {A B F : List Nat} {w w' : zW} (h : zQ w) (hw : zWf w') (hF : zFx A B F w w') (k : okQ A B F = true) (hT : qT w') : zQ w' := zQ_i (zQt_f (zQ_t h) hw hF k) hT
theorem qT_v {w w' : zW} (h : qT w) (e1 : w'.1 1 0 = w'.1 166 2) (e2 : w'.2.1 1 = w.2.1 1 ∧ w'.2.1 166 = w.2.1 166) (e3 : w'.1 1 3 = w.1 1 3 ∧ w'.1 166 0 = w.1 166 0) (e4 : w'.1 2 = w.1 2 ∧ w'.1 167 = w.1 167) : qT w' := by
  refine ⟨e1, ?_, ?_, ?_, ?_⟩
  · rw [e2.1, e2.2]
    exact h.2.1
  · rw [e2.1, e2.2]
    exact h.2.2.1
  · rw [e3.1, e3.2]
    exact h.2.2.2.1
  · rw [e4.1, e4.2]
    exact h.2.2.2.2
theorem zO_about {G : zG} (p k : Int32) : zOi G mX11_about mX12_about [.int p, .int k] := by
  intro w h
  have h0 := h
  obtain ⟨hw, hT, hR, hX, hB, D, z, u, v, T, n, nl, c, hH, hL, hS, hP, hK⟩ := h
  have h12 := hP.1
  by_cases hk0 : (0 ≤ p ∧ p < nI n) ∧ (0 ≤ k ∧ k < 3)
  · obtain ⟨p, hp, rfl⟩ := rn (by omega) hk0.1
    obtain ⟨k, hk, rfl⟩ := r3 hk0.2
    have q := hP.2.2.2 p hp
    have c1 := s_X11_about (G := G) hw h12 hP.2.1 hp hk
    generalize ev : w.1 (47 + 4 * p) (if k = 0 then 3 else if k = 1 then 5 else 4) = x at c1
    have hF1 : zFr [1] [] [] w (zsi w 1 0 x) := zFr_i (by decide) (by decide)
    refine zEi_c c1 (zCi_m (s_X12_about (G := G) (w := zsi w 1 0 x) (D := D) (zWf_i hw) (mHd_f hH.2.2.1 hF1 (by decide)) hH.1 h12 (by rw [zsi_o (by decide)]; exact hP.2.2.1) hp hk q.1 (fun j hj => by rw [zsi_o (by decide)]; exact q.2.2.1 j hj)) (fun r w2 g => ?_))
    obtain ⟨rfl, k1, k2⟩ := g
    have hF : zFr [1, 179, 180, 181] [] [2, 29] w w2 := zFr_t (zFr_s hF1 (by decide)) (zFr_s k1 (by decide))
    refine ⟨rfl, zQ_told h0 (zFr_wf hF hw) hF.2 (by decide) (qT_v hT ?_ ⟨hF.2.2.1 1 (by decide), hF.2.2.1 166 (by decide)⟩ ⟨?_, hF.2.2.2 0 (by decide)⟩ ⟨hF.2.1 2 (by decide) (by decide), hF.2.1 167 (by decide) (by decide)⟩)⟩
    · rw [k1.2.1 1 (by decide) (by decide), zsi_1, if_pos ⟨rfl, rfl⟩, k2, ← ev, zsi_o (by decide)]
      rcases (show k = 0 ∨ k = 1 ∨ k = 2 by omega) with g | g | g <;> subst g
      · exact q.2.2.2.1.1
      · exact q.2.2.2.1.2.2
      · exact q.2.2.2.1.2.1
    · rw [k1.2.1 1 (by decide) (by decide), zsi_1, if_neg (by omega)]
  · exact zOe (s_X11_about_bad hw p k (by rw [hP.2.1]; exact hk0)) (s_X12_about_bad h12 hP.2.2.1 p k hk0) rfl h0
