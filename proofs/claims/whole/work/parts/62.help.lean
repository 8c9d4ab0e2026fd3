/-! help -/
theorem s_X11_help_bad {G : zG} {w : zW} (hw : zWf w) (p r : Int32) (h : ¬ ((0 ≤ p ∧ p < w.1 0 10) ∧ (0 ≤ r ∧ r < 6))) : zEi G mX11_help [.ref 0, .int p, .int r] w (-1) w := by
  refine zC_of (lo := [_, _, _, _]) kcX11_help (Nat.le_of_ble_eq_true rfl) rfl (fun X hX hE => ?_)
  refine zk_aload_n hX dX11_help_0 rfl ?_
  refine zk_iload_n hX dX11_help_1 rfl ?_
  refine zk_V1i hX dX11_help_2 kcX11_isPose mlX11_227 viX11_isPose rfl k_0 z_0 (s_X11_isPose hw _) (Nat.le_of_ble_eq_true rfl) rfl ?_
  refine zk_if_eqB (tgt := 15) hX dX11_help_5 (by decide) (fun c5 => ?_) (fun c5 => ?_)
  · refine zk_iconst (v := -1) hX dX11_help_15 (by decide) ?_
    refine zk_iret hX hE rfl ⟨rfl, rfl⟩ dX11_help_16 ⟨_, rfl, ?_⟩
    exact ⟨rfl, rfl⟩
  · refine zk_iload_n hX dX11_help_8 rfl ?_
    refine zk_S1i hX dX11_help_9 kcX11_isRow mlX11_107 smX11_isRow rfl (s_X11_isRow _) (Nat.le_of_ble_eq_true rfl) rfl ?_
    refine zk_if_neB (tgt := 17) hX dX11_help_12 (by decide) (fun c12 => ?_) (fun c12 => ?_)
    · exact absurd c12 (fun q => h ⟨by first | exact c5 | exact Decidable.not_not.mp c5, q⟩)
    refine zk_iconst (v := -1) hX dX11_help_15 (by decide) ?_
    refine zk_iret hX hE rfl ⟨rfl, rfl⟩ dX11_help_16 ⟨_, rfl, ?_⟩
    exact ⟨rfl, rfl⟩
theorem s_X11_help_n {G : zG} {w : zW} {n p r : Nat} (hw : zWf w) (hn : n ≤ 12) (hP : w.1 0 10 = nI n) (hp : p < n) (hr : r < 6) (hk : ¬ zheldk (w.1 (47 + 4 * p) 3)) : zEi G mX11_help [.ref 0, .int (nI p), .int (nI r)] w (-3) (zfind w 3) := by
  refine zC_of (lo := [_, _, _, _]) kcX11_help (Nat.le_of_ble_eq_true rfl) rfl (fun X hX hE => ?_)
  refine zk_aload_n hX dX11_help_0 rfl ?_
  refine zk_iload_n hX dX11_help_1 rfl ?_
  refine zk_V1i hX dX11_help_2 kcX11_isPose mlX11_227 viX11_isPose rfl k_0 z_0 (s_X11_isPose hw _) (Nat.le_of_ble_eq_true rfl) rfl ?_
  refine zk_if_eqB (tgt := 15) hX dX11_help_5 (by decide) (fun c5 => ?_) (fun c5 => ?_)
  · exact absurd c5 (not_not_intro (by rw [hP]; exact ⟨nI_pos' (by omega), nI_lt hp (by omega)⟩))
  refine zk_iload_n hX dX11_help_8 rfl ?_
  refine zk_S1i hX dX11_help_9 kcX11_isRow mlX11_107 smX11_isRow rfl (s_X11_isRow _) (Nat.le_of_ble_eq_true rfl) rfl ?_
  refine zk_if_neB (tgt := 17) hX dX11_help_12 (by decide) (fun c12 => ?_) (fun c12 => ?_)
  rotate_left
  · exact absurd (zrlt hr) c12
  refine zk_aload_n hX dX11_help_17 rfl ?_
  refine zk_getR hX dX11_help_18 flX11_61 k_0 z_0 (hw _ _ (by decide) |>.trans r_0_9) ?_
  refine zk_iload_n hX dX11_help_21 rfl ?_
  refine zk_poses hX hw dX11_help_22 rfl (by first | assumption | omega) ?_
  refine zk_V0i hX dX11_help_23 kcX5_isHeld mlX11_230 viX5_isHeld rfl (zPok (by first | assumption | omega)) (zPoz _ (by first | assumption | omega)).1 (s_X5_isHeld (by omega)) (Nat.le_of_ble_eq_true rfl) rfl ?_
  refine zk_if_neB (tgt := 38) hX dX11_help_26 (by decide) (fun c26 => ?_) (fun c26 => ?_)
  · exact absurd c26 hk
  refine zk_aload_n hX dX11_help_29 rfl ?_
  refine zk_getR hX dX11_help_30 flX11_12 k_0 z_0 (hw _ _ (by decide) |>.trans r_0_0) ?_
  refine zk_iconst (v := 3) hX dX11_help_33 (by decide) ?_
  refine zk_V1i hX dX11_help_34 kcX9_find mlX11_111 viX9_find rfl k_1 z_1 (s_X9_find hw _ (by decide)) (Nat.le_of_ble_eq_true rfl) rfl ?_
  refine zk_iret hX hE rfl ⟨rfl, rfl⟩ dX11_help_37 ⟨_, rfl, ?_⟩
  exact ⟨rfl, rfl⟩
theorem s_X11_help_f {G : zG} {w : zW} {n p r k : Nat} (hw : zWf w) (hn : n ≤ 12) (hP : w.1 0 10 = nI n) (hp : p < n) (hr : r < 6) (hk : zheldk (w.1 (47 + 4 * p) 3)) (h5 : 1 ≤ k ∧ k ≤ 5) (hf : c_shf w r r = nI k) : zEi G mX11_help [.ref 0, .int (nI p), .int (nI r)] w (-3) (zfind w k) := by
  refine zC_of (lo := [_, _, _, _]) kcX11_help (Nat.le_of_ble_eq_true rfl) rfl (fun X hX hE => ?_)
  refine zk_aload_n hX dX11_help_0 rfl ?_
  refine zk_iload_n hX dX11_help_1 rfl ?_
  refine zk_V1i hX dX11_help_2 kcX11_isPose mlX11_227 viX11_isPose rfl k_0 z_0 (s_X11_isPose hw _) (Nat.le_of_ble_eq_true rfl) rfl ?_
  refine zk_if_eqB (tgt := 15) hX dX11_help_5 (by decide) (fun c5 => ?_) (fun c5 => ?_)
  · exact absurd c5 (not_not_intro (by rw [hP]; exact ⟨nI_pos' (by omega), nI_lt hp (by omega)⟩))
  refine zk_iload_n hX dX11_help_8 rfl ?_
  refine zk_S1i hX dX11_help_9 kcX11_isRow mlX11_107 smX11_isRow rfl (s_X11_isRow _) (Nat.le_of_ble_eq_true rfl) rfl ?_
  refine zk_if_neB (tgt := 17) hX dX11_help_12 (by decide) (fun c12 => ?_) (fun c12 => ?_)
  rotate_left
  · exact absurd (zrlt hr) c12
  refine zk_aload_n hX dX11_help_17 rfl ?_
  refine zk_getR hX dX11_help_18 flX11_61 k_0 z_0 (hw _ _ (by decide) |>.trans r_0_9) ?_
  refine zk_iload_n hX dX11_help_21 rfl ?_
  refine zk_poses hX hw dX11_help_22 rfl (by first | assumption | omega) ?_
  refine zk_V0i hX dX11_help_23 kcX5_isHeld mlX11_230 viX5_isHeld rfl (zPok (by first | assumption | omega)) (zPoz _ (by first | assumption | omega)).1 (s_X5_isHeld (by omega)) (Nat.le_of_ble_eq_true rfl) rfl ?_
  refine zk_if_neB (tgt := 38) hX dX11_help_26 (by decide) (fun c26 => ?_) (fun c26 => ?_)
  rotate_left
  · exact absurd hk c26
  refine zk_aload_n hX dX11_help_38 rfl ?_
  refine zk_getR hX dX11_help_39 flX11_18 k_0 z_0 (hw _ _ (by decide) |>.trans r_0_1) ?_
  refine zk_iload_n hX dX11_help_42 rfl ?_
  refine zk_rows hX hw dX11_help_43 rfl (by first | assumption | omega) ?_
  refine zk_aload_n hX dX11_help_44 rfl ?_
  refine zk_getR hX dX11_help_45 flX11_18 k_0 z_0 (hw _ _ (by decide) |>.trans r_0_1) ?_
  refine zk_iload_n hX dX11_help_48 rfl ?_
  refine zk_rows hX hw dX11_help_49 rfl (by first | assumption | omega) ?_
  refine zk_S2i hX dX11_help_50 kcX11_shadowFinding mlX11_233 smX11_shadowFinding rfl (s_X11_shadowFinding hw hr hr) (Nat.le_of_ble_eq_true rfl) rfl ?_
  rw [hf]
  refine zk_istore_n (lo' := [_, _, _, _]) hX dX11_help_53 (Nat.le_of_ble_eq_true rfl) rfl rfl ?_
  refine zk_iload_n hX dX11_help_54 rfl ?_
  refine zk_if_eq (tgt := 67) hX dX11_help_55 (by decide) (fun c55 => ?_) (fun c55 => ?_)
  · exact absurd (nI_inj (a := k) (b := 0) (by omega) (by decide) c55) (by omega)
  refine zk_aload_n hX dX11_help_58 rfl ?_
  refine zk_getR hX dX11_help_59 flX11_12 k_0 z_0 (hw _ _ (by decide) |>.trans r_0_0) ?_
  refine zk_iload_n hX dX11_help_62 rfl ?_
  refine zk_V1i hX dX11_help_63 kcX9_find mlX11_111 viX9_find rfl k_1 z_1 (s_X9_find hw k h5) (Nat.le_of_ble_eq_true rfl) rfl ?_
  refine zk_iret hX hE rfl ⟨rfl, rfl⟩ dX11_help_66 ⟨_, rfl, ?_⟩
  exact ⟨rfl, rfl⟩
theorem s_X11_help {G : zG} {w : zW} {n p r : Nat} {f : Nat → Nat} (hw : zWf w) (hn : n ≤ 12) (hP : w.1 0 10 = nI n) (hp : p < n) (hr : r < 6) (hk : zheldk (w.1 (47 + 4 * p) 3)) (h0 : c_shf w r r = 0) (h10 : w.1 (4 + 2 * r) 0 = nI 10) (hf : ∀ y, y < 10 → w.1 (5 + 2 * r) y = nI (f y)) :
    zEi G mX11_help [.ref 0, .int (nI p), .int (nI r)] w (nI (zcard (zofL f))) (zsi (zsi (zsetS w (50 + 4 * p) (zofL f)) (47 + 4 * p) 3 5) (47 + 4 * p) 4 (-9)) := by
  have hw1 : zWf (zsetS w (50 + 4 * p) (zofL f)) := zWf_of hw rfl
  refine zC_of (lo := [_, _, _, _]) kcX11_help (Nat.le_of_ble_eq_true rfl) rfl (fun X hX hE => ?_)
  refine zk_aload_n hX dX11_help_0 rfl ?_
  refine zk_iload_n hX dX11_help_1 rfl ?_
  refine zk_V1i hX dX11_help_2 kcX11_isPose mlX11_227 viX11_isPose rfl k_0 z_0 (s_X11_isPose hw _) (Nat.le_of_ble_eq_true rfl) rfl ?_
  refine zk_if_eqB (tgt := 15) hX dX11_help_5 (by decide) (fun c5 => ?_) (fun c5 => ?_)
  · exact absurd c5 (not_not_intro (by rw [hP]; exact ⟨nI_pos' (by omega), nI_lt hp (by omega)⟩))
  refine zk_iload_n hX dX11_help_8 rfl ?_
  refine zk_S1i hX dX11_help_9 kcX11_isRow mlX11_107 smX11_isRow rfl (s_X11_isRow _) (Nat.le_of_ble_eq_true rfl) rfl ?_
  refine zk_if_neB (tgt := 17) hX dX11_help_12 (by decide) (fun c12 => ?_) (fun c12 => ?_)
  rotate_left
  · exact absurd (zrlt hr) c12
  refine zk_aload_n hX dX11_help_17 rfl ?_
  refine zk_getR hX dX11_help_18 flX11_61 k_0 z_0 (hw _ _ (by decide) |>.trans r_0_9) ?_
  refine zk_iload_n hX dX11_help_21 rfl ?_
  refine zk_poses hX hw dX11_help_22 rfl (by first | assumption | omega) ?_
  refine zk_V0i hX dX11_help_23 kcX5_isHeld mlX11_230 viX5_isHeld rfl (zPok (by first | assumption | omega)) (zPoz _ (by first | assumption | omega)).1 (s_X5_isHeld (by omega)) (Nat.le_of_ble_eq_true rfl) rfl ?_
  refine zk_if_neB (tgt := 38) hX dX11_help_26 (by decide) (fun c26 => ?_) (fun c26 => ?_)
  rotate_left
  · exact absurd hk c26
  refine zk_aload_n hX dX11_help_38 rfl ?_
  refine zk_getR hX dX11_help_39 flX11_18 k_0 z_0 (hw _ _ (by decide) |>.trans r_0_1) ?_
  refine zk_iload_n hX dX11_help_42 rfl ?_
  refine zk_rows hX hw dX11_help_43 rfl (by first | assumption | omega) ?_
  refine zk_aload_n hX dX11_help_44 rfl ?_
  refine zk_getR hX dX11_help_45 flX11_18 k_0 z_0 (hw _ _ (by decide) |>.trans r_0_1) ?_
  refine zk_iload_n hX dX11_help_48 rfl ?_
  refine zk_rows hX hw dX11_help_49 rfl (by first | assumption | omega) ?_
  refine zk_S2i hX dX11_help_50 kcX11_shadowFinding mlX11_233 smX11_shadowFinding rfl (s_X11_shadowFinding hw hr hr) (Nat.le_of_ble_eq_true rfl) rfl ?_
  rw [h0]
  refine zk_istore_n (lo' := [_, _, _, _]) hX dX11_help_53 (Nat.le_of_ble_eq_true rfl) rfl rfl ?_
  refine zk_iload_n hX dX11_help_54 rfl ?_
  refine zk_if_eq (tgt := 67) hX dX11_help_55 (by decide) (fun c55 => ?_) (fun c55 => ?_)
  rotate_left
  · exact absurd rfl c55
  refine zk_aload_n hX dX11_help_67 rfl ?_
  refine zk_getR hX dX11_help_68 flX11_18 k_0 z_0 (hw _ _ (by decide) |>.trans r_0_1) ?_
  refine zk_iload_n hX dX11_help_71 rfl ?_
  refine zk_rows hX hw dX11_help_72 rfl (by first | assumption | omega) ?_
  refine zk_aload_n hX dX11_help_73 rfl ?_
  refine zk_getR hX dX11_help_74 flX11_61 k_0 z_0 (hw _ _ (by decide) |>.trans r_0_9) ?_
  refine zk_iload_n hX dX11_help_77 rfl ?_
  refine zk_poses hX hw dX11_help_78 rfl (by first | assumption | omega) ?_
  refine zk_getR hX dX11_help_79 flX11_237 (zPok (by first | assumption | omega)) (zPoz _ (by first | assumption | omega)).1 ((hw _ _ (by omega)).trans (zPoz _ (by first | assumption | omega)).2.2.2.2.2.2) ?_
  refine zk_V1v hX dX11_help_82 kcX8_showTo mlX11_240 viX8_showTo rfl (zRwR0 (by first | assumption | omega)) (zRw_r _ (by first | assumption | omega)).2.1 (s_X8_showTo hw (zRwR hr) (zPoC (by omega)) h10 (fun y hy => by rw [show 4 + 2 * r + 1 = 5 + 2 * r by omega]; exact hf y hy)) (Nat.le_of_ble_eq_true rfl) rfl ?_
  refine zk_aload_n hX dX11_help_85 rfl ?_
  refine zk_getR hX dX11_help_86 flX11_61 k_0 z_0 (hw1 _ _ (by decide) |>.trans r_0_9) ?_
  refine zk_iload_n hX dX11_help_89 rfl ?_
  refine zk_poses hX hw1 dX11_help_90 rfl (by first | assumption | omega) ?_
  refine zk_iconst (v := 5) hX dX11_help_91 (by decide) ?_
  refine zk_putI hX dX11_help_92 plX11_224 (fun h => by cases h) (zPok (by first | assumption | omega)) (zPoz _ (by first | assumption | omega)).1 rfl rfl ?_
  refine zk_aload_n hX dX11_help_95 rfl ?_
  refine zk_getR hX dX11_help_96 flX11_61 k_0 z_0 ((zWf_i hw1) _ _ (by decide) |>.trans r_0_9) ?_
  refine zk_iload_n hX dX11_help_99 rfl ?_
  refine zk_poses hX (zWf_i hw1) dX11_help_100 rfl (by first | assumption | omega) ?_
  refine zk_bipush (v := -9) hX dX11_help_101 (by decide) ?_
  refine zk_putI hX dX11_help_103 plX11_244 (fun h => by cases h) (zPok (by first | assumption | omega)) (zPoz _ (by first | assumption | omega)).1 rfl rfl ?_
  refine zk_aload_n hX dX11_help_106 rfl ?_
  refine zk_getR hX dX11_help_107 flX11_61 k_0 z_0 ((zWf_i (zWf_i hw1)) _ _ (by decide) |>.trans r_0_9) ?_
  refine zk_iload_n hX dX11_help_110 rfl ?_
  refine zk_poses hX (zWf_i (zWf_i hw1)) dX11_help_111 rfl (by first | assumption | omega) ?_
  refine zk_getR hX dX11_help_112 flX11_237 (zPok (by first | assumption | omega)) (zPoz _ (by first | assumption | omega)).1 (((zWf_i (zWf_i hw1)) _ _ (by omega)).trans (zPoz _ (by first | assumption | omega)).2.2.2.2.2.2) ?_
  refine zk_V0i hX dX11_help_115 kcX1_number mlX11_247 viX1_number rfl (show 50 + 4 * _ < 202 by omega) (zPoz _ (by first | assumption | omega)).2.2.2.1 (s_X1_number (zPoC (by omega)) zsetS_has) (Nat.le_of_ble_eq_true rfl) rfl ?_
  refine zk_iret hX hE rfl ⟨rfl, rfl⟩ dX11_help_118 ⟨_, rfl, ?_⟩
  exact ⟨rfl, rfl⟩
theorem s_X12_help_bad {G : zG} {w : zW} {n : Nat} (hn : n ≤ 12) (hP : w.1 166 33 = nI n) (p r : Int32) (h : ¬ ((0 ≤ p ∧ p < nI n) ∧ (0 ≤ r ∧ r < 6))) : zEi G mX12_help [.ref 166, .int p, .int r] w (-1) w := by
  refine zC_of (lo := [_, _, _, _, _]) kcX12_help (Nat.le_of_ble_eq_true rfl) rfl (fun X hX hE => ?_)
  refine zk_aload_n hX dX12_help_0 rfl ?_
  refine zk_iload_n hX dX12_help_1 rfl ?_
  refine zk_V1i hX dX12_help_2 kcX12_isPose mlX12_290 viX12_isPose rfl k_166 z_166 (s_X12_isPose (n := n) (by omega) hP _) (Nat.le_of_ble_eq_true rfl) rfl ?_
  refine zk_if_eqB (tgt := 15) hX dX12_help_5 (by decide) (fun c5 => ?_) (fun c5 => ?_)
  · refine zk_iconst (v := -1) hX dX12_help_15 (by decide) ?_
    refine zk_iret hX hE rfl ⟨rfl, rfl⟩ dX12_help_16 ⟨_, rfl, ?_⟩
    exact ⟨rfl, rfl⟩
  · refine zk_iload_n hX dX12_help_8 rfl ?_
    refine zk_S1i hX dX12_help_9 kcX12_isRow mlX12_141 smX12_isRow rfl (s_X12_isRow _) (Nat.le_of_ble_eq_true rfl) rfl ?_
    refine zk_if_neB (tgt := 17) hX dX12_help_12 (by decide) (fun c12 => ?_) (fun c12 => ?_)
    · exact absurd c12 (fun q => h ⟨by first | exact c5 | exact Decidable.not_not.mp c5, by grind⟩)
    refine zk_iconst (v := -1) hX dX12_help_15 (by decide) ?_
    refine zk_iret hX hE rfl ⟨rfl, rfl⟩ dX12_help_16 ⟨_, rfl, ?_⟩
    exact ⟨rfl, rfl⟩
theorem s_X12_help_n {G : zG} {w : zW} {n p r : Nat} (hw : zWf w) (hn : n ≤ 12) (hP : w.1 166 33 = nI n) (hp : p < n) (hr : r < 6) (hk : ¬ zheldk (w.1 183 (3 * p))) : zEi G mX12_help [.ref 166, .int (nI p), .int (nI r)] w (-3) (mfind w 3) := by
  refine zC_of (lo := [_, _, _, _, _]) kcX12_help (Nat.le_of_ble_eq_true rfl) rfl (fun X hX hE => ?_)
  refine zk_aload_n hX dX12_help_0 rfl ?_
  refine zk_iload_n hX dX12_help_1 rfl ?_
  refine zk_V1i hX dX12_help_2 kcX12_isPose mlX12_290 viX12_isPose rfl k_166 z_166 (s_X12_isPose (n := n) (by omega) hP _) (Nat.le_of_ble_eq_true rfl) rfl ?_
  refine zk_if_eqB (tgt := 15) hX dX12_help_5 (by decide) (fun c5 => ?_) (fun c5 => ?_)
  · exact absurd c5 (not_not_intro ⟨nI_pos' (by omega), nI_lt hp (by omega)⟩)
  refine zk_iload_n hX dX12_help_8 rfl ?_
  refine zk_S1i hX dX12_help_9 kcX12_isRow mlX12_141 smX12_isRow rfl (s_X12_isRow _) (Nat.le_of_ble_eq_true rfl) rfl ?_
  refine zk_if_neB (tgt := 17) hX dX12_help_12 (by decide) (fun c12 => ?_) (fun c12 => ?_)
  rotate_left
  · exact absurd (zrle (n := 5) (by omega)) c12
  refine zk_aload_n hX dX12_help_17 rfl ?_
  refine zk_iload_n hX dX12_help_18 rfl ?_
  refine zk_V1i hX dX12_help_19 kcX12_isHeldPose mlX12_293 viX12_isHeldPose rfl k_166 z_166 (s_X12_isHeldPose hw (by omega)) (Nat.le_of_ble_eq_true rfl) rfl ?_
  refine zk_if_neB (tgt := 31) hX dX12_help_22 (by decide) (fun c22 => ?_) (fun c22 => ?_)
  · exact absurd c22 hk
  refine zk_aload_n hX dX12_help_25 rfl ?_
  refine zk_iconst (v := 3) hX dX12_help_26 (by decide) ?_
  refine zk_V1i hX dX12_help_27 kcX12_meets mlX12_145 viX12_meets rfl k_166 z_166 (s_X12_meets hw _ (by decide)) (Nat.le_of_ble_eq_true rfl) rfl ?_
  refine zk_iret hX hE rfl ⟨rfl, rfl⟩ dX12_help_30 ⟨_, rfl, ?_⟩
  exact ⟨rfl, rfl⟩
theorem s_X12_help_f {G : zG} {w : zW} {n p r k : Nat} (hw : zWf w) (hn : n ≤ 12) (hP : w.1 166 33 = nI n) (hp : p < n) (hr : r < 6) (hk : zheldk (w.1 183 (3 * p))) (hf : m_need w r = (-3, mfind w k)) : zEi G mX12_help [.ref 166, .int (nI p), .int (nI r)] w (-3) (mfind w k) := by
  have c1 := s_X12_needShadow (G := G) hw hr
  unfold zFi at c1
  rw [hf] at c1
  have c1 : zEi G mX12_needShadow [.ref 166, .int (nI r)] w (-3) (mfind w k) := c1
  refine zC_of (lo := [_, _, _, _, _]) kcX12_help (Nat.le_of_ble_eq_true rfl) rfl (fun X hX hE => ?_)
  refine zk_aload_n hX dX12_help_0 rfl ?_
  refine zk_iload_n hX dX12_help_1 rfl ?_
  refine zk_V1i hX dX12_help_2 kcX12_isPose mlX12_290 viX12_isPose rfl k_166 z_166 (s_X12_isPose (n := n) (by omega) hP _) (Nat.le_of_ble_eq_true rfl) rfl ?_
  refine zk_if_eqB (tgt := 15) hX dX12_help_5 (by decide) (fun c5 => ?_) (fun c5 => ?_)
  · exact absurd c5 (not_not_intro ⟨nI_pos' (by omega), nI_lt hp (by omega)⟩)
  refine zk_iload_n hX dX12_help_8 rfl ?_
  refine zk_S1i hX dX12_help_9 kcX12_isRow mlX12_141 smX12_isRow rfl (s_X12_isRow _) (Nat.le_of_ble_eq_true rfl) rfl ?_
  refine zk_if_neB (tgt := 17) hX dX12_help_12 (by decide) (fun c12 => ?_) (fun c12 => ?_)
  rotate_left
  · exact absurd (zrle (n := 5) (by omega)) c12
  refine zk_aload_n hX dX12_help_17 rfl ?_
  refine zk_iload_n hX dX12_help_18 rfl ?_
  refine zk_V1i hX dX12_help_19 kcX12_isHeldPose mlX12_293 viX12_isHeldPose rfl k_166 z_166 (s_X12_isHeldPose hw (by omega)) (Nat.le_of_ble_eq_true rfl) rfl ?_
  refine zk_if_neB (tgt := 31) hX dX12_help_22 (by decide) (fun c22 => ?_) (fun c22 => ?_)
  rotate_left
  · exact absurd hk c22
  refine zk_aload_n hX dX12_help_31 rfl ?_
  refine zk_iload_n hX dX12_help_32 rfl ?_
  refine zk_V1i hX dX12_help_33 kcX12_needShadow mlX12_296 viX12_needShadow rfl k_166 z_166 c1 (Nat.le_of_ble_eq_true rfl) rfl ?_
  refine zk_istore_n (lo' := [_, _, _, _, _]) hX dX12_help_36 (Nat.le_of_ble_eq_true rfl) rfl rfl ?_
  refine zk_iload_n hX dX12_help_37 rfl ?_
  refine zk_if_ge (tgt := 43) hX dX12_help_38 (by decide) (fun c38 => ?_) (fun c38 => ?_)
  · exact absurd c38 (by decide)
  refine zk_iload_n hX dX12_help_41 rfl ?_
  refine zk_iret hX hE rfl ⟨rfl, rfl⟩ dX12_help_42 ⟨_, rfl, ?_⟩
  exact ⟨rfl, rfl⟩
theorem s_X12_help {G : zG} {w : zW} {n p r : Nat} {f : Nat → Nat} (hw : zWf w) (hn : n ≤ 12) (hP : w.1 166 33 = nI n) (hp : p < n) (hr : r < 6) (hk : zheldk (w.1 183 (3 * p))) (h0 : m_need w r = (0, w)) (hf : ∀ y, y < 10 → w.1 169 (40 * r + y) = nI (f y)) (h4 : ∀ y, y < 10 → f y < 4096) :
    zCi G mX12_help [.ref 166, .int (nI p), .int (nI r)] w (fun a w' => a = nI (zcard (zofL f)) ∧ zFr [183, 185] [] [] w w' ∧ (w'.1 183 (3 * p) = 5 ∧ w'.1 183 (3 * p + 1) = -9 ∧ ∀ j, j ≠ 3 * p → j ≠ 3 * p + 1 → w'.1 183 j = w.1 183 j) ∧ (∀ j, j < 10 * p ∨ 10 * p + 10 ≤ j → w'.1 185 j = w.1 185 j) ∧ ∀ y, y < 10 → w'.1 185 (10 * p + y) = nI (f y)) := by
  have c1 := s_X12_needShadow (G := G) hw hr
  unfold zFi at c1
  rw [h0] at c1
  have c1 : zEi G mX12_needShadow [.ref 166, .int (nI r)] w 0 w := c1
  refine zC_of (lo := [_, _, _, _, _]) kcX12_help (Nat.le_of_ble_eq_true rfl) rfl (fun X hX hE => ?_)
  have loop : ∀ z i w1, i + z = 10 → zFr [185] [] [] w w1 → (∀ j, j < 10 * p ∨ 10 * p + 10 ≤ j → w1.1 185 j = w.1 185 j) → (∀ y, y < i → w1.1 185 (10 * p + y) = nI (f y)) → zk0 G X mX12_help 46 [.ref 166, .int (nI p), .int (nI r), .int 0, .int (nI i)] [] w1 := by
    intro z
    induction z with
    | zero =>
      intro i w1 hi hF g1 g2
      obtain rfl : i = 10 := by omega
      have hw1 := zFr_wf hF hw
      refine zk_iload hX dX12_help_46 rfl ?_
      refine zk_bipush (v := 10) hX dX12_help_48 (by decide) ?_
      refine zk_icmp_ge (tgt := 78) hX dX12_help_50 (by decide) (fun c50 => ?_) (fun c50 => ?_)
      rotate_left
      · exact absurd (nI_le (a := 10) (by omega) (by omega)) c50
      refine zk_aload_n hX dX12_help_78 rfl ?_
      refine zk_getR hX dX12_help_79 flX12_59 k_166 z_166 (hw1 _ _ (by decide) |>.trans r_166_34) ?_
      refine zk_iconst (v := 3) hX dX12_help_82 (by decide) ?_
      refine zk_iload_n hX dX12_help_83 rfl ?_
      refine zk_imul hX dX12_help_84 ?_
      refine zk_iconst (v := 5) hX dX12_help_85 (by decide) ?_
      refine zk_iastE hX dX12_help_86 (nI_mulE (nI_k 3 rfl) rfl) k_183 z_183 (by first | assumption | omega) rfl ?_
      refine zk_aload_n hX dX12_help_87 rfl ?_
      refine zk_getR hX dX12_help_88 flX12_59 k_166 z_166 ((zWf_i hw1) _ _ (by decide) |>.trans r_166_34) ?_
      refine zk_iconst (v := 3) hX dX12_help_91 (by decide) ?_
      refine zk_iload_n hX dX12_help_92 rfl ?_
      refine zk_imul hX dX12_help_93 ?_
      refine zk_iconst (v := 1) hX dX12_help_94 (by decide) ?_
      refine zk_iadd hX dX12_help_95 ?_
      refine zk_bipush (v := -9) hX dX12_help_96 (by decide) ?_
      refine zk_iastE hX dX12_help_98 (nI_addE (nI_mulE (nI_k 3 rfl) rfl) (nI_k 1 rfl)) k_183 z_183 (by first | assumption | omega) rfl ?_
      refine zk_aload_n hX dX12_help_99 rfl ?_
      refine zk_iload_n hX dX12_help_100 rfl ?_
      refine zk_V1i hX dX12_help_101 kcX12_cardMany mlX12_299 viX12_cardMany rfl k_166 z_166 (s_X12_cardMany (C := zofL f) (zWf_i (zWf_i hw1)) (by omega) (fun y hy => by rw [zsi_o (by decide), zsi_o (by decide), g2 y hy, zline_of (h4 y hy)])) (Nat.le_of_ble_eq_true rfl) rfl ?_
      refine zk_iret hX hE rfl ⟨rfl, rfl⟩ dX12_help_104 ⟨_, rfl, ?_⟩
      refine ⟨rfl, zFr_t (zFr_s hF (by decide)) (zFr_t (zFr_i (by decide) (by decide)) (zFr_i (by decide) (by decide))), ⟨?_, ?_, fun j h1 h2 => ?_⟩, fun j hj => ?_, fun y hy => ?_⟩
      · rw [zsi_1, if_neg (by omega), zsi_1, if_pos ⟨rfl, rfl⟩]
      · rw [zsi_1, if_pos ⟨rfl, rfl⟩]
      · rw [zsi_1, if_neg (fun q => h2 q.2), zsi_1, if_neg (fun q => h1 q.2), hF.2.1 183 (by decide) (by decide)]
      · rw [zsi_o (by decide), zsi_o (by decide)]
        exact g1 j hj
      · rw [zsi_o (by decide), zsi_o (by decide)]
        exact g2 y hy
    | succ z ih =>
      intro i w1 hi hF g1 g2
      have hw1 := zFr_wf hF hw
      refine zk_iload hX dX12_help_46 rfl ?_
      refine zk_bipush (v := 10) hX dX12_help_48 (by decide) ?_
      refine zk_icmp_ge (tgt := 78) hX dX12_help_50 (by decide) (fun c50 => ?_) (fun c50 => ?_)
      · exact absurd c50 (nI_ge (b := 10) (by omega) (by decide))
      refine zk_aload_n hX dX12_help_53 rfl ?_
      refine zk_getR hX dX12_help_54 flX12_65 k_166 z_166 (hw1 _ _ (by decide) |>.trans r_166_36) ?_
      refine zk_bipush (v := 10) hX dX12_help_57 (by decide) ?_
      refine zk_iload_n hX dX12_help_59 rfl ?_
      refine zk_imul hX dX12_help_60 ?_
      refine zk_iload hX dX12_help_61 rfl ?_
      refine zk_iadd hX dX12_help_63 ?_
      refine zk_aload_n hX dX12_help_64 rfl ?_
      refine zk_iload_n hX dX12_help_65 rfl ?_
      refine zk_iload hX dX12_help_66 rfl ?_
      refine zk_V2i hX dX12_help_68 kcX12_rowAt mlX12_149 viX12_rowAt rfl k_166 z_166 (s_X12_rowAt hw1 (by omega)) (Nat.le_of_ble_eq_true rfl) rfl ?_
      rw [hF.2.1 169 (by decide) (by decide), hf i (by omega)]
      refine zk_iastE hX dX12_help_71 (nI_addE (nI_mulE (nI_k 10 rfl) rfl) rfl) k_185 z_185 (by first | assumption | omega) rfl ?_
      refine zk_iinc (lo' := [_, _, _, _, _]) hX dX12_help_72 rfl (by first | exact zinc _ | exact rfl) (Nat.le_of_ble_eq_true rfl) rfl rfl ?_
      refine zk_goto (tgt := 46) hX dX12_help_75 (by decide) ?_
      refine ih (i + 1) _ (by omega) (zFr_t hF (zFr_i (by decide) (by decide))) (fun j hj => ?_) (fun y hy => ?_)
      · rw [zsi_1, if_neg (by omega)]
        exact g1 j hj
      · rw [zsi_1]
        by_cases e : y = i
        · subst e
          rw [if_pos ⟨rfl, rfl⟩]
        · rw [if_neg (by omega)]
          exact g2 y (by omega)
  refine zk_aload_n hX dX12_help_0 rfl ?_
  refine zk_iload_n hX dX12_help_1 rfl ?_
  refine zk_V1i hX dX12_help_2 kcX12_isPose mlX12_290 viX12_isPose rfl k_166 z_166 (s_X12_isPose (n := n) (by omega) hP _) (Nat.le_of_ble_eq_true rfl) rfl ?_
  refine zk_if_eqB (tgt := 15) hX dX12_help_5 (by decide) (fun c5 => ?_) (fun c5 => ?_)
  · exact absurd c5 (not_not_intro ⟨nI_pos' (by omega), nI_lt hp (by omega)⟩)
  refine zk_iload_n hX dX12_help_8 rfl ?_
  refine zk_S1i hX dX12_help_9 kcX12_isRow mlX12_141 smX12_isRow rfl (s_X12_isRow _) (Nat.le_of_ble_eq_true rfl) rfl ?_
  refine zk_if_neB (tgt := 17) hX dX12_help_12 (by decide) (fun c12 => ?_) (fun c12 => ?_)
  rotate_left
  · exact absurd (zrle (n := 5) (by omega)) c12
  refine zk_aload_n hX dX12_help_17 rfl ?_
  refine zk_iload_n hX dX12_help_18 rfl ?_
  refine zk_V1i hX dX12_help_19 kcX12_isHeldPose mlX12_293 viX12_isHeldPose rfl k_166 z_166 (s_X12_isHeldPose hw (by omega)) (Nat.le_of_ble_eq_true rfl) rfl ?_
  refine zk_if_neB (tgt := 31) hX dX12_help_22 (by decide) (fun c22 => ?_) (fun c22 => ?_)
  rotate_left
  · exact absurd hk c22
  refine zk_aload_n hX dX12_help_31 rfl ?_
  refine zk_iload_n hX dX12_help_32 rfl ?_
  refine zk_V1i hX dX12_help_33 kcX12_needShadow mlX12_296 viX12_needShadow rfl k_166 z_166 c1 (Nat.le_of_ble_eq_true rfl) rfl ?_
  refine zk_istore_n (lo' := [_, _, _, _, _]) hX dX12_help_36 (Nat.le_of_ble_eq_true rfl) rfl rfl ?_
  refine zk_iload_n hX dX12_help_37 rfl ?_
  refine zk_if_ge (tgt := 43) hX dX12_help_38 (by decide) (fun c38 => ?_) (fun c38 => ?_)
  rotate_left
  · exact absurd (by decide) c38
  refine zk_iconst (v := 0) hX dX12_help_43 (by decide) ?_
  refine zk_istore (lo' := [_, _, _, _, _]) hX dX12_help_44 (Nat.le_of_ble_eq_true rfl) rfl rfl ?_
  exact loop 10 0 w rfl zFr_r (fun _ _ => rfl) (fun y hy => absurd hy (by omega))
theorem qP1_p {w w' : zW} {D : zD} {p : Nat} (h : qP1 w D p) (e1 : w'.1 (47 + 4 * p) = w.1 (47 + 4 * p)) (e2 : w'.1 (48 + 4 * p) = w.1 (48 + 4 * p)) (e3 : w'.2.1 (49 + 4 * p) = w.2.1 (49 + 4 * p)) (e4 : w'.2.1 (50 + 4 * p) = w.2.1 (50 + 4 * p)) (e5 : ∀ t, t < 3 → w'.1 183 (3 * p + t) = w.1 183 (3 * p + t)) (e6 : ∀ j, j < 6 → w'.1 184 (6 * p + j) = w.1 184 (6 * p + j)) (e7 : ∀ y, y < 10 → w'.1 185 (10 * p + y) = w.1 185 (10 * p + y)) (hJ : dJ D ≤ 6) : qP1 w' D p := by
  have a0 : w'.1 183 (3 * p) = w.1 183 (3 * p) := e5 0 (by decide)
  obtain ⟨h1, h2, h3, h4, h5, ⟨C, h6, h7⟩, h8⟩ := h
  unfold qP1 zHas
  rw [e1, e2, e3, e4, a0, e5 1 (by decide), e5 2 (by decide)]
  refine ⟨h1, h2, fun j hj => ?_, h4, h5, ⟨C, h6, fun y hy => ?_⟩, h8⟩
  · rw [e6 j (by omega)]
    exact h3 j hj
  · rw [e7 y hy]
    exact h7 y hy
theorem zO_help {G : zG} (p r : Int32) : zOi G mX11_help mX12_help [.int p, .int r] := by
  intro w h
  have h0 := h
  obtain ⟨hw, hT, hR, hX, hB, D, z, u, v, T, n, nl, c, hH, hL, hS, hP, hK⟩ := h
  have h12 := hP.1
  by_cases hk0 : (0 ≤ p ∧ p < nI n) ∧ (0 ≤ r ∧ r < 6)
  · obtain ⟨p, hp, rfl⟩ := rn (by omega) hk0.1
    obtain ⟨r, hr, rfl⟩ := r6 hk0.2
    have q := hP.2.2.2 p hp
    have qr := hR r hr
    by_cases hk : w.1 183 (3 * p) = 1 ∨ w.1 183 (3 * p) = 4 ∨ w.1 183 (3 * p) = 5
    · have hk' : zheldk (w.1 (47 + 4 * p) 3) := by rw [q.2.2.2.1.1]; exact hk
      have find : ∀ k, (1 ≤ k ∧ k ≤ 5) → c_shf w r r = nI k → m_need (zfind w k) r = (-3, mfind (zfind w k) k) → zCi G mX11_help (.ref 0 :: [.int (nI p), .int (nI r)]) w (fun a w1 => zCi G mX12_help (.ref 166 :: [.int (nI p), .int (nI r)]) w1 (fun a' w2 => a' = a ∧ zQ w2)) := by
        intro k hk5 e1 e2
        exact zO_find h0 k (s_X11_help_f hw h12 hP.2.1 hp hr hk' hk5 e1) (s_X12_help_f (zfind_w hw) h12 (by rw [zfind_a (by decide) (by decide)]; exact hP.2.2.1) hp hr (by rw [zfind_a (by decide) (by decide)]; exact hk) e2)
      have sz := qr.1
      by_cases g1 : 0 ≤ w.1 168 r
      · by_cases g2 : w.1 168 r = 10
        · have er : ∀ y, y < 10 → w.1 (5 + 2 * r) y = w.1 169 (40 * r + y) := fun y hy => qr.2.2 10 g2 (by decide) y hy
          by_cases g3 : zLok (fun y => w.1 169 (40 * r + y))
          · have g4 : zLok (w.1 (5 + 2 * r)) := fun y hy => by rw [er y hy]; exact g3 y hy
            have hf : ∀ y, y < 10 → w.1 169 (40 * r + y) = nI (w.1 169 (40 * r + y)).toNatClampNeg ∧ (w.1 169 (40 * r + y)).toNatClampNeg < 4096 := by
              intro y hy
              obtain ⟨j, hj, e⟩ := znatle (n := 4095) (by decide) (g3 y hy).1 (g3 y hy).2
              have e : w.1 169 (40 * r + y) = nI j := e
              rw [e, nI_clamp (by omega)]
              exact ⟨rfl, by omega⟩
            generalize ef : (fun y => (w.1 169 (40 * r + y)).toNatClampNeg) = f
            have ef' : ∀ y, (w.1 169 (40 * r + y)).toNatClampNeg = f y := fun y => congrFun ef y
            have c1 := s_X11_help (G := G) (f := f) hw h12 hP.2.1 hp hr hk' (by unfold c_shf; rw [sz, if_neg (fun q => q ⟨g1, g1⟩), if_neg (fun q => q ⟨g2, g2⟩), if_pos ⟨g4, g4⟩]) (sz.trans g2) (fun y hy => by rw [er y hy, (hf y hy).1, ef'])
            generalize e1 : zsi (zsi (zsetS w (50 + 4 * p) (zofL f)) (47 + 4 * p) 3 5) (47 + 4 * p) 4 (-9) = w1 at c1
            have hF1 : zFr kPo kPo [] w w1 := by
              rw [← e1]
              exact zFr_t (zFr_S (kPo_m (by omega) (by omega))) (zFr_t (zFr_i (kPo_m (by omega) (by omega)) (by omega)) (zFr_i (kPo_m (by omega) (by omega)) (by omega)))
            have hw1 := zFr_wf hF1 hw
            have a8 : w1.1 168 = w.1 168 := hF1.2.1 168 (by decide) (by decide)
            have a9 : w1.1 169 = w.1 169 := hF1.2.1 169 (by decide) (by decide)
            refine zEi_c c1 (zCi_m (s_X12_help (G := G) (f := f) hw1 h12 (by rw [hF1.2.2.2 33 (by decide)]; exact hP.2.2.1) hp hr (by rw [hF1.2.1 183 (by decide) (by decide)]; exact hk) (by unfold m_need; rw [a8, a9, if_neg (not_not_intro g1), if_neg (not_not_intro g2), if_pos g3]) (fun y hy => by rw [a9, (hf y hy).1, ef']) (fun y hy => by rw [← ef']; exact (hf y hy).2)) (fun a w2 g => ?_))
            obtain ⟨rfl, k1, k2, k3, k4⟩ := g
            have hF : zFx (kPo ++ [183, 185]) kPo [] w w2 := (zFr_t (zFr_s hF1 (by decide)) (zFr_s k1 (by decide))).2
            refine ⟨rfl, zFr_wf k1 hw1, qT_f hT hF (by decide), qR_f hR hF (by decide), qX_f hX hF (by decide), qB_f hB hF (by decide), D, z, u, v, T, n, nl, c, qH_f hH hF (by decide), qL_f hL hF (by decide), qS_f hS hF (by decide), ⟨h12, by rw [hF.1 0 (by decide) (by decide)]; exact hP.2.1, by rw [hF.2.2 33 (by decide)]; exact hP.2.2.1, fun s hs => ?_⟩, qK_f hK hF (by decide)⟩
            have b3 : w1.1 183 = w.1 183 := hF1.2.1 183 (by decide) (by decide)
            have b5 : w1.1 185 = w.1 185 := hF1.2.1 185 (by decide) (by decide)
            have b4 : w2.1 184 = w.1 184 := hF.1 184 (by decide) (by decide)
            have bi : ∀ a, 47 ≤ a → a ≤ 94 → w2.1 a = w1.1 a := fun a h1 h2 => k1.2.1 a (by simp; omega) (by omega)
            have bl : w2.2.1 = w1.2.1 := funext (fun a => k1.2.2.1 a (by simp))
            by_cases es : s = p
            · subst es
              have d7 : ∀ i, w2.1 (47 + 4 * s) i = if i = 4 then -9 else if i = 3 then 5 else w.1 (47 + 4 * s) i := by
                intro i
                rw [bi _ (by omega) (by omega), ← e1, zsi_1, zsi_1, zsetS_1]
                simp
              have d8 : w2.1 (48 + 4 * s) = w.1 (48 + 4 * s) := by
                rw [bi _ (by omega) (by omega), ← e1, zsi_o (by omega), zsi_o (by omega), zsetS_1]
              have d9 : w2.2.1 (49 + 4 * s) = w.2.1 (49 + 4 * s) := by
                rw [bl, ← e1]
                exact zsetS_2 (by omega)
              have d5 : w2.2.1 (50 + 4 * s) = (zsetS w (50 + 4 * s) (zofL f)).2.1 (50 + 4 * s) := by
                rw [bl, ← e1]
                rfl
              obtain ⟨p1, p2, p3, p4, p5, p6, p7⟩ := q
              have e0 : zwrL zno (zP D (w.1 (48 + 4 * s)) (-1)) = 0 := by
                rcases p7 with e | e | e
                · exfalso
                  rcases hk with g | g | g <;> (rw [e.1] at g; exact absurd g (by decide))
                · exfalso
                  rcases hk with g | g | g <;> (rw [e.1] at g; exact absurd g (by decide))
                · exact e.2
              unfold qP1
              rw [d8, d7, d7, d7, k2.1, k2.2.1, b4]
              refine ⟨p1, p2, p3, ⟨rfl, rfl, p4.2.2⟩, zHas_o p5 d9, ⟨zofL f, zHas_o zsetS_has d5, fun y hy => ?_⟩, Or.inr (Or.inr ⟨Or.inr (Or.inr rfl), e0⟩)⟩
              rw [k4 y hy, zline_of (by rw [← ef']; exact (hf y hy).2)]
            · refine qP1_p (hP.2.2.2 s hs) ?_ ?_ ?_ ?_ (fun t ht => ?_) (fun j hj => by rw [b4]) (fun y hy => ?_) hH.1.1.2.2
              · rw [bi _ (by omega) (by omega), ← e1, zsi_o (by omega), zsi_o (by omega), zsetS_1]
              · rw [bi _ (by omega) (by omega), ← e1, zsi_o (by omega), zsi_o (by omega), zsetS_1]
              · rw [bl, ← e1]
                exact zsetS_2 (by omega)
              · rw [bl, ← e1]
                exact zsetS_2 (by omega)
              · rw [k2.2.2 _ (by omega) (by omega), b3]
              · rw [k3 _ (by omega), b5]
          · have g4 : ¬ zLok (w.1 (5 + 2 * r)) := fun q => g3 (fun y hy => by show 0 ≤ w.1 169 (40 * r + y) ∧ w.1 169 (40 * r + y) ≤ 4095; rw [← er y hy]; exact q y hy)
            exact find 3 ⟨by decide, by decide⟩ (by unfold c_shf; rw [sz, if_neg (fun q => q ⟨g1, g1⟩), if_neg (fun q => q ⟨g2, g2⟩), if_neg (fun q => g4 q.1)]; rfl) (by unfold m_need; rw [zfind_a (by decide) (by decide), zfind_a (by decide) (by decide), if_neg (not_not_intro g1), if_neg (not_not_intro g2), if_neg g3])
        · exact find 5 ⟨by decide, by decide⟩ (by unfold c_shf; rw [sz, if_neg (fun q => q ⟨g1, g1⟩), if_pos (fun q => g2 q.1)]; rfl) (by unfold m_need; rw [zfind_a (by decide) (by decide), if_neg (not_not_intro g1), if_pos g2])
      · exact find 1 ⟨by decide, by decide⟩ (by unfold c_shf; rw [sz, if_pos (fun q => g1 q.1)]; rfl) (by unfold m_need; rw [zfind_a (by decide) (by decide), if_pos g1])
    · exact zO_find h0 3 (s_X11_help_n hw h12 hP.2.1 hp hr (by rw [q.2.2.2.1.1]; exact hk)) (s_X12_help_n (zfind_w hw) h12 (by rw [zfind_a (by decide) (by decide)]; exact hP.2.2.1) hp hr (by rw [zfind_a (by decide) (by decide)]; exact hk))
  · exact zOe (s_X11_help_bad hw p r (by rw [hP.2.1]; exact hk0)) (s_X12_help_bad h12 hP.2.2.1 p r hk0) rfl h0
