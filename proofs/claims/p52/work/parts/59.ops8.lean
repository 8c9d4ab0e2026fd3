theorem s_X11_about_bad {G : zG} {w : zW} (hw : zWf w) (j k : Int32) (h : ¬ ((0 ≤ j ∧ j < w.1 0 10) ∧ (0 ≤ k ∧ k < 3))) : zEi G mX11_about [.ref 0, .int j, .int k] w (-1) w := by
  refine zC_of (lo := [_, _, _]) kcX11_about (Nat.le_of_ble_eq_true rfl) rfl (fun X hX hE => ?_)
  refine zk_aload_n hX dX11_about_0 rfl ?_
  refine zk_iload_n hX dX11_about_1 rfl ?_
  refine zk_V1i hX dX11_about_2 kcX11_isPose mlX11_227 viX11_isPose rfl k_0 z_0 (s_X11_isPose hw _) (Nat.le_of_ble_eq_true rfl) rfl ?_
  refine zk_if_neB (tgt := 10) hX dX11_about_5 (by decide) (fun c5 => ?_) (fun c5 => ?_)
  · refine zk_iload_n hX dX11_about_10 rfl ?_
    refine zk_tableOut hX dX11_about_11 (zsw3 (fun q => h ⟨by first | exact c5 | exact Decidable.not_not.mp c5, q⟩)) (tgt := 87) (by decide) ?_
    refine zk_iconst (v := -1) hX dX11_about_87 (by decide) ?_
    refine zk_iret hX hE rfl ⟨rfl, rfl⟩ dX11_about_88 ⟨_, rfl, ?_⟩
    exact ⟨rfl, rfl⟩
  · refine zk_iconst (v := -1) hX dX11_about_8 (by decide) ?_
    refine zk_iret hX hE rfl ⟨rfl, rfl⟩ dX11_about_9 ⟨_, rfl, ?_⟩
    exact ⟨rfl, rfl⟩
theorem s_X11_about {G : zG} {w : zW} {n p k : Nat} (hw : zWf w) (hn : n ≤ 12) (hP : w.1 0 10 = nI n) (hp : p < n) (hk : k < 3) : zEi G mX11_about [.ref 0, .int (nI p), .int (nI k)] w 1 (zsi w 1 0 (w.1 (47 + 4 * p) (if k = 0 then 3 else if k = 1 then 5 else 4))) := by
  rcases (show k = 0 ∨ k = 1 ∨ k = 2 by omega) with g | g | g <;> subst g
  · skip
    refine zC_of (lo := [_, _, _]) kcX11_about (Nat.le_of_ble_eq_true rfl) rfl (fun X hX hE => ?_)
    refine zk_aload_n hX dX11_about_0 rfl ?_
    refine zk_iload_n hX dX11_about_1 rfl ?_
    refine zk_V1i hX dX11_about_2 kcX11_isPose mlX11_227 viX11_isPose rfl k_0 z_0 (s_X11_isPose hw _) (Nat.le_of_ble_eq_true rfl) rfl ?_
    refine zk_if_neB (tgt := 10) hX dX11_about_5 (by decide) (fun c5 => ?_) (fun c5 => ?_)
    rotate_left
    · exact absurd (by rw [hP]; exact ⟨nI_pos' (by omega), nI_lt hp (by omega)⟩) c5
    refine zk_iload_n hX dX11_about_10 rfl ?_
    refine zk_tableIn hX dX11_about_11 (by decide) (by decide) (off := 25) (tgt := 36) (by decide +kernel) (by decide) ?_
    refine zk_aload_n hX dX11_about_36 rfl ?_
    refine zk_getR hX dX11_about_37 flX11_12 k_0 z_0 (hw _ _ (by decide) |>.trans r_0_0) ?_
    refine zk_aload_n hX dX11_about_40 rfl ?_
    refine zk_getR hX dX11_about_41 flX11_61 k_0 z_0 (hw _ _ (by decide) |>.trans r_0_9) ?_
    refine zk_iload_n hX dX11_about_44 rfl ?_
    refine zk_poses hX hw dX11_about_45 rfl (by first | assumption | omega) ?_
    refine zk_getI hX dX11_about_46 flX11_224 (zPok (by first | assumption | omega)) (zPoz _ (by first | assumption | omega)).1 ?_
    refine zk_V1i hX dX11_about_49 kcX9_tell mlX11_132 viX9_tell rfl k_1 z_1 (s_X9_tell _) (Nat.le_of_ble_eq_true rfl) rfl ?_
    refine zk_iret hX hE rfl ⟨rfl, rfl⟩ dX11_about_52 ⟨_, rfl, ?_⟩
    exact ⟨rfl, rfl⟩
  · skip
    refine zC_of (lo := [_, _, _]) kcX11_about (Nat.le_of_ble_eq_true rfl) rfl (fun X hX hE => ?_)
    refine zk_aload_n hX dX11_about_0 rfl ?_
    refine zk_iload_n hX dX11_about_1 rfl ?_
    refine zk_V1i hX dX11_about_2 kcX11_isPose mlX11_227 viX11_isPose rfl k_0 z_0 (s_X11_isPose hw _) (Nat.le_of_ble_eq_true rfl) rfl ?_
    refine zk_if_neB (tgt := 10) hX dX11_about_5 (by decide) (fun c5 => ?_) (fun c5 => ?_)
    rotate_left
    · exact absurd (by rw [hP]; exact ⟨nI_pos' (by omega), nI_lt hp (by omega)⟩) c5
    refine zk_iload_n hX dX11_about_10 rfl ?_
    refine zk_tableIn hX dX11_about_11 (by decide) (by decide) (off := 42) (tgt := 53) (by decide +kernel) (by decide) ?_
    refine zk_aload_n hX dX11_about_53 rfl ?_
    refine zk_getR hX dX11_about_54 flX11_12 k_0 z_0 (hw _ _ (by decide) |>.trans r_0_0) ?_
    refine zk_aload_n hX dX11_about_57 rfl ?_
    refine zk_getR hX dX11_about_58 flX11_61 k_0 z_0 (hw _ _ (by decide) |>.trans r_0_9) ?_
    refine zk_iload_n hX dX11_about_61 rfl ?_
    refine zk_poses hX hw dX11_about_62 rfl (by first | assumption | omega) ?_
    refine zk_getI hX dX11_about_63 flX11_250 (zPok (by first | assumption | omega)) (zPoz _ (by first | assumption | omega)).1 ?_
    refine zk_V1i hX dX11_about_66 kcX9_tell mlX11_132 viX9_tell rfl k_1 z_1 (s_X9_tell _) (Nat.le_of_ble_eq_true rfl) rfl ?_
    refine zk_iret hX hE rfl ⟨rfl, rfl⟩ dX11_about_69 ⟨_, rfl, ?_⟩
    exact ⟨rfl, rfl⟩
  · skip
    refine zC_of (lo := [_, _, _]) kcX11_about (Nat.le_of_ble_eq_true rfl) rfl (fun X hX hE => ?_)
    refine zk_aload_n hX dX11_about_0 rfl ?_
    refine zk_iload_n hX dX11_about_1 rfl ?_
    refine zk_V1i hX dX11_about_2 kcX11_isPose mlX11_227 viX11_isPose rfl k_0 z_0 (s_X11_isPose hw _) (Nat.le_of_ble_eq_true rfl) rfl ?_
    refine zk_if_neB (tgt := 10) hX dX11_about_5 (by decide) (fun c5 => ?_) (fun c5 => ?_)
    rotate_left
    · exact absurd (by rw [hP]; exact ⟨nI_pos' (by omega), nI_lt hp (by omega)⟩) c5
    refine zk_iload_n hX dX11_about_10 rfl ?_
    refine zk_tableIn hX dX11_about_11 (by decide) (by decide) (off := 59) (tgt := 70) (by decide +kernel) (by decide) ?_
    refine zk_aload_n hX dX11_about_70 rfl ?_
    refine zk_getR hX dX11_about_71 flX11_12 k_0 z_0 (hw _ _ (by decide) |>.trans r_0_0) ?_
    refine zk_aload_n hX dX11_about_74 rfl ?_
    refine zk_getR hX dX11_about_75 flX11_61 k_0 z_0 (hw _ _ (by decide) |>.trans r_0_9) ?_
    refine zk_iload_n hX dX11_about_78 rfl ?_
    refine zk_poses hX hw dX11_about_79 rfl (by first | assumption | omega) ?_
    refine zk_getI hX dX11_about_80 flX11_244 (zPok (by first | assumption | omega)) (zPoz _ (by first | assumption | omega)).1 ?_
    refine zk_V1i hX dX11_about_83 kcX9_tell mlX11_132 viX9_tell rfl k_1 z_1 (s_X9_tell _) (Nat.le_of_ble_eq_true rfl) rfl ?_
    refine zk_iret hX hE rfl ⟨rfl, rfl⟩ dX11_about_86 ⟨_, rfl, ?_⟩
    exact ⟨rfl, rfl⟩
