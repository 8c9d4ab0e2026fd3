theorem s_X11_way_bad {G : zG} {w : zW} (hw : zWf w) (p q : Int32) (h : ¬ ((0 ≤ p ∧ p < w.1 0 10) ∧ (0 ≤ q ∧ q < w.1 0 10))) : zEi G mX11_way [.ref 0, .int p, .int q] w (-1) w := by
  refine zC_of (lo := [_, _, _]) kcX11_way (Nat.le_of_ble_eq_true rfl) rfl (fun X hX hE => ?_)
  refine zk_aload_n hX dX11_way_0 rfl ?_
  refine zk_iload_n hX dX11_way_1 rfl ?_
  refine zk_V1i hX dX11_way_2 kcX11_isPose mlX11_227 viX11_isPose rfl k_0 z_0 (s_X11_isPose hw _) (Nat.le_of_ble_eq_true rfl) rfl ?_
  refine zk_if_eqB (tgt := 16) hX dX11_way_5 (by decide) (fun c5 => ?_) (fun c5 => ?_)
  · refine zk_iconst (v := -1) hX dX11_way_16 (by decide) ?_
    refine zk_iret hX hE rfl ⟨rfl, rfl⟩ dX11_way_17 ⟨_, rfl, ?_⟩
    exact ⟨rfl, rfl⟩
  · refine zk_aload_n hX dX11_way_8 rfl ?_
    refine zk_iload_n hX dX11_way_9 rfl ?_
    refine zk_V1i hX dX11_way_10 kcX11_isPose mlX11_227 viX11_isPose rfl k_0 z_0 (s_X11_isPose hw _) (Nat.le_of_ble_eq_true rfl) rfl ?_
    refine zk_if_neB (tgt := 18) hX dX11_way_13 (by decide) (fun c13 => ?_) (fun c13 => ?_)
    · exact absurd c13 (fun z => h ⟨by first | exact c5 | exact Decidable.not_not.mp c5, z⟩)
    refine zk_iconst (v := -1) hX dX11_way_16 (by decide) ?_
    refine zk_iret hX hE rfl ⟨rfl, rfl⟩ dX11_way_17 ⟨_, rfl, ?_⟩
    exact ⟨rfl, rfl⟩
theorem s_X11_way_n {G : zG} {w : zW} {n p q : Nat} (hw : zWf w) (hn : n ≤ 12) (hP : w.1 0 10 = nI n) (hp : p < n) (hq : q < n) (hk : ¬ (zheldk (w.1 (47 + 4 * p) 3) ∧ zheldk (w.1 (47 + 4 * q) 3))) : zEi G mX11_way [.ref 0, .int (nI p), .int (nI q)] w (-3) (zfind w 3) := by
  refine zC_of (lo := [_, _, _]) kcX11_way (Nat.le_of_ble_eq_true rfl) rfl (fun X hX hE => ?_)
  refine zk_aload_n hX dX11_way_0 rfl ?_
  refine zk_iload_n hX dX11_way_1 rfl ?_
  refine zk_V1i hX dX11_way_2 kcX11_isPose mlX11_227 viX11_isPose rfl k_0 z_0 (s_X11_isPose hw _) (Nat.le_of_ble_eq_true rfl) rfl ?_
  refine zk_if_eqB (tgt := 16) hX dX11_way_5 (by decide) (fun c5 => ?_) (fun c5 => ?_)
  · exact absurd c5 (not_not_intro (by rw [hP]; exact ⟨nI_pos' (by omega), nI_lt hp (by omega)⟩))
  refine zk_aload_n hX dX11_way_8 rfl ?_
  refine zk_iload_n hX dX11_way_9 rfl ?_
  refine zk_V1i hX dX11_way_10 kcX11_isPose mlX11_227 viX11_isPose rfl k_0 z_0 (s_X11_isPose hw _) (Nat.le_of_ble_eq_true rfl) rfl ?_
  refine zk_if_neB (tgt := 18) hX dX11_way_13 (by decide) (fun c13 => ?_) (fun c13 => ?_)
  rotate_left
  · exact absurd (by rw [hP]; exact ⟨nI_pos' (by omega), nI_lt hq (by omega)⟩) c13
  refine zk_aload_n hX dX11_way_18 rfl ?_
  refine zk_getR hX dX11_way_19 flX11_61 k_0 z_0 (hw _ _ (by decide) |>.trans r_0_9) ?_
  refine zk_iload_n hX dX11_way_22 rfl ?_
  refine zk_poses hX hw dX11_way_23 rfl (by first | assumption | omega) ?_
  refine zk_V0i hX dX11_way_24 kcX5_isHeld mlX11_230 viX5_isHeld rfl (zPok (by first | assumption | omega)) (zPoz _ (by first | assumption | omega)).1 (s_X5_isHeld (by omega)) (Nat.le_of_ble_eq_true rfl) rfl ?_
  refine zk_if_eqB (tgt := 42) hX dX11_way_27 (by decide) (fun c27 => ?_) (fun c27 => ?_)
  · refine zk_aload_n hX dX11_way_42 rfl ?_
    refine zk_getR hX dX11_way_43 flX11_12 k_0 z_0 (hw _ _ (by decide) |>.trans r_0_0) ?_
    refine zk_iconst (v := 3) hX dX11_way_46 (by decide) ?_
    refine zk_V1i hX dX11_way_47 kcX9_find mlX11_111 viX9_find rfl k_1 z_1 (s_X9_find hw _ (by decide)) (Nat.le_of_ble_eq_true rfl) rfl ?_
    refine zk_iret hX hE rfl ⟨rfl, rfl⟩ dX11_way_50 ⟨_, rfl, ?_⟩
    exact ⟨rfl, rfl⟩
  · refine zk_aload_n hX dX11_way_30 rfl ?_
    refine zk_getR hX dX11_way_31 flX11_61 k_0 z_0 (hw _ _ (by decide) |>.trans r_0_9) ?_
    refine zk_iload_n hX dX11_way_34 rfl ?_
    refine zk_poses hX hw dX11_way_35 rfl (by first | assumption | omega) ?_
    refine zk_V0i hX dX11_way_36 kcX5_isHeld mlX11_230 viX5_isHeld rfl (zPok (by first | assumption | omega)) (zPoz _ (by first | assumption | omega)).1 (s_X5_isHeld (by omega)) (Nat.le_of_ble_eq_true rfl) rfl ?_
    refine zk_if_neB (tgt := 51) hX dX11_way_39 (by decide) (fun c39 => ?_) (fun c39 => ?_)
    · exact absurd c39 (fun z => hk ⟨by first | exact c27 | exact Decidable.not_not.mp c27, z⟩)
    refine zk_aload_n hX dX11_way_42 rfl ?_
    refine zk_getR hX dX11_way_43 flX11_12 k_0 z_0 (hw _ _ (by decide) |>.trans r_0_0) ?_
    refine zk_iconst (v := 3) hX dX11_way_46 (by decide) ?_
    refine zk_V1i hX dX11_way_47 kcX9_find mlX11_111 viX9_find rfl k_1 z_1 (s_X9_find hw _ (by decide)) (Nat.le_of_ble_eq_true rfl) rfl ?_
    refine zk_iret hX hE rfl ⟨rfl, rfl⟩ dX11_way_50 ⟨_, rfl, ?_⟩
    exact ⟨rfl, rfl⟩
theorem s_X11_way_s {G : zG} {w : zW} {n p q : Nat} (hw : zWf w) (hn : n ≤ 12) (hP : w.1 0 10 = nI n) (hp : p < n) (hq : q < n) (hk : zheldk (w.1 (47 + 4 * p) 3) ∧ zheldk (w.1 (47 + 4 * q) 3)) (hs : w.1 131 0 = 1) : zEi G mX11_way [.ref 0, .int (nI p), .int (nI q)] w (-6) w := by
  refine zC_of (lo := [_, _, _]) kcX11_way (Nat.le_of_ble_eq_true rfl) rfl (fun X hX hE => ?_)
  refine zk_aload_n hX dX11_way_0 rfl ?_
  refine zk_iload_n hX dX11_way_1 rfl ?_
  refine zk_V1i hX dX11_way_2 kcX11_isPose mlX11_227 viX11_isPose rfl k_0 z_0 (s_X11_isPose hw _) (Nat.le_of_ble_eq_true rfl) rfl ?_
  refine zk_if_eqB (tgt := 16) hX dX11_way_5 (by decide) (fun c5 => ?_) (fun c5 => ?_)
  · exact absurd c5 (not_not_intro (by rw [hP]; exact ⟨nI_pos' (by omega), nI_lt hp (by omega)⟩))
  refine zk_aload_n hX dX11_way_8 rfl ?_
  refine zk_iload_n hX dX11_way_9 rfl ?_
  refine zk_V1i hX dX11_way_10 kcX11_isPose mlX11_227 viX11_isPose rfl k_0 z_0 (s_X11_isPose hw _) (Nat.le_of_ble_eq_true rfl) rfl ?_
  refine zk_if_neB (tgt := 18) hX dX11_way_13 (by decide) (fun c13 => ?_) (fun c13 => ?_)
  rotate_left
  · exact absurd (by rw [hP]; exact ⟨nI_pos' (by omega), nI_lt hq (by omega)⟩) c13
  refine zk_aload_n hX dX11_way_18 rfl ?_
  refine zk_getR hX dX11_way_19 flX11_61 k_0 z_0 (hw _ _ (by decide) |>.trans r_0_9) ?_
  refine zk_iload_n hX dX11_way_22 rfl ?_
  refine zk_poses hX hw dX11_way_23 rfl (by first | assumption | omega) ?_
  refine zk_V0i hX dX11_way_24 kcX5_isHeld mlX11_230 viX5_isHeld rfl (zPok (by first | assumption | omega)) (zPoz _ (by first | assumption | omega)).1 (s_X5_isHeld (by omega)) (Nat.le_of_ble_eq_true rfl) rfl ?_
  refine zk_if_eqB (tgt := 42) hX dX11_way_27 (by decide) (fun c27 => ?_) (fun c27 => ?_)
  · exact absurd c27 (not_not_intro hk.1)
  refine zk_aload_n hX dX11_way_30 rfl ?_
  refine zk_getR hX dX11_way_31 flX11_61 k_0 z_0 (hw _ _ (by decide) |>.trans r_0_9) ?_
  refine zk_iload_n hX dX11_way_34 rfl ?_
  refine zk_poses hX hw dX11_way_35 rfl (by first | assumption | omega) ?_
  refine zk_V0i hX dX11_way_36 kcX5_isHeld mlX11_230 viX5_isHeld rfl (zPok (by first | assumption | omega)) (zPoz _ (by first | assumption | omega)).1 (s_X5_isHeld (by omega)) (Nat.le_of_ble_eq_true rfl) rfl ?_
  refine zk_if_neB (tgt := 51) hX dX11_way_39 (by decide) (fun c39 => ?_) (fun c39 => ?_)
  rotate_left
  · exact absurd hk.2 c39
  refine zk_aload_n hX dX11_way_51 rfl ?_
  refine zk_getR hX dX11_way_52 flX11_83 k_0 z_0 (hw _ _ (by decide) |>.trans r_0_13) ?_
  refine zk_getI hX dX11_way_55 flX11_302 k_131 z_131 ?_
  rw [hs]
  refine zk_if_eq (tgt := 64) hX dX11_way_58 (by decide) (fun c58 => ?_) (fun c58 => ?_)
  · exact absurd c58 (by decide)
  refine zk_bipush (v := -6) hX dX11_way_61 (by decide) ?_
  refine zk_iret hX hE rfl ⟨rfl, rfl⟩ dX11_way_63 ⟨_, rfl, ?_⟩
  exact ⟨rfl, rfl⟩
