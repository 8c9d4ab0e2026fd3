theorem s_X11_shape_bad {G : zG} {w : zW} (hw : zWf w) (p r : Int32) (h : ¬ ((0 ≤ p ∧ p < w.1 0 10) ∧ (0 ≤ r ∧ r < 6))) : zEi G mX11_shape [.ref 0, .int p, .int r] w (-1) w := by
  refine zC_of (lo := [_, _, _]) kcX11_shape (Nat.le_of_ble_eq_true rfl) rfl (fun X hX hE => ?_)
  refine zk_aload_n hX dX11_shape_0 rfl ?_
  refine zk_iload_n hX dX11_shape_1 rfl ?_
  refine zk_V1i hX dX11_shape_2 kcX11_isPose mlX11_227 viX11_isPose rfl k_0 z_0 (s_X11_isPose hw _) (Nat.le_of_ble_eq_true rfl) rfl ?_
  refine zk_if_eqB (tgt := 15) hX dX11_shape_5 (by decide) (fun c5 => ?_) (fun c5 => ?_)
  · refine zk_iconst (v := -1) hX dX11_shape_15 (by decide) ?_
    refine zk_iret hX hE rfl ⟨rfl, rfl⟩ dX11_shape_16 ⟨_, rfl, ?_⟩
    exact ⟨rfl, rfl⟩
  · refine zk_iload_n hX dX11_shape_8 rfl ?_
    refine zk_S1i hX dX11_shape_9 kcX11_isRow mlX11_107 smX11_isRow rfl (s_X11_isRow _) (Nat.le_of_ble_eq_true rfl) rfl ?_
    refine zk_if_neB (tgt := 17) hX dX11_shape_12 (by decide) (fun c12 => ?_) (fun c12 => ?_)
    · exact absurd c12 (fun q => h ⟨by first | exact c5 | exact Decidable.not_not.mp c5, q⟩)
    refine zk_iconst (v := -1) hX dX11_shape_15 (by decide) ?_
    refine zk_iret hX hE rfl ⟨rfl, rfl⟩ dX11_shape_16 ⟨_, rfl, ?_⟩
    exact ⟨rfl, rfl⟩
theorem s_X11_shape {G : zG} {w : zW} {n p r : Nat} {S : zS} (hw : zWf w) (hn : n ≤ 12) (hP : w.1 0 10 = nI n) (hp : p < n) (hr : r < 6) (hS : zHas w (49 + 4 * p) S) :
    zCi G mX11_shape [.ref 0, .int (nI p), .int (nI r)] w (fun v w' => v = nI (zcard S) ∧ cRowW w r 10 (fun y => nI (zline S y)) w') := by
  refine zC_of (lo := [_, _, _]) kcX11_shape (Nat.le_of_ble_eq_true rfl) rfl (fun X hX hE => ?_)
  refine zk_aload_n hX dX11_shape_0 rfl ?_
  refine zk_iload_n hX dX11_shape_1 rfl ?_
  refine zk_V1i hX dX11_shape_2 kcX11_isPose mlX11_227 viX11_isPose rfl k_0 z_0 (s_X11_isPose hw _) (Nat.le_of_ble_eq_true rfl) rfl ?_
  refine zk_if_eqB (tgt := 15) hX dX11_shape_5 (by decide) (fun c5 => ?_) (fun c5 => ?_)
  · exact absurd c5 (not_not_intro (by rw [hP]; exact ⟨nI_pos' (by omega), nI_lt hp (by omega)⟩))
  refine zk_iload_n hX dX11_shape_8 rfl ?_
  refine zk_S1i hX dX11_shape_9 kcX11_isRow mlX11_107 smX11_isRow rfl (s_X11_isRow _) (Nat.le_of_ble_eq_true rfl) rfl ?_
  refine zk_if_neB (tgt := 17) hX dX11_shape_12 (by decide) (fun c12 => ?_) (fun c12 => ?_)
  rotate_left
  · exact absurd (zrlt hr) c12
  refine zk_aload_n hX dX11_shape_17 rfl ?_
  refine zk_getR hX dX11_shape_18 flX11_18 k_0 z_0 (hw _ _ (by decide) |>.trans r_0_1) ?_
  refine zk_iload_n hX dX11_shape_21 rfl ?_
  refine zk_rows hX hw dX11_shape_22 rfl (by first | assumption | omega) ?_
  refine zk_aload_n hX dX11_shape_23 rfl ?_
  refine zk_getR hX dX11_shape_24 flX11_61 k_0 z_0 (hw _ _ (by decide) |>.trans r_0_9) ?_
  refine zk_iload_n hX dX11_shape_27 rfl ?_
  refine zk_poses hX hw dX11_shape_28 rfl (by first | assumption | omega) ?_
  refine zk_getR hX dX11_shape_29 flX11_256 (zPok (by first | assumption | omega)) (zPoz _ (by first | assumption | omega)).1 ((hw _ _ (by omega)).trans (zPoz _ (by first | assumption | omega)).2.2.2.2.2.1) ?_
  refine zk_V1vp hX dX11_shape_32 kcX8_showCells mlX11_265 viX8_showCells rfl (zRwR0 (by first | assumption | omega)) (zRw_r _ (by first | assumption | omega)).2.1 (s_X8_showCells hw hr (zPoD (by omega)) hS) (Nat.le_of_ble_eq_true rfl) rfl (fun w2 q2 => ?_)
  have hw2 := zFr_wf q2.1 hw
  refine zk_aload_n hX dX11_shape_35 rfl ?_
  refine zk_getR hX dX11_shape_36 flX11_61 k_0 z_0 (hw2 _ _ (by decide) |>.trans r_0_9) ?_
  refine zk_iload_n hX dX11_shape_39 rfl ?_
  refine zk_poses hX hw2 dX11_shape_40 rfl (by first | assumption | omega) ?_
  refine zk_getR hX dX11_shape_41 flX11_256 (zPok (by first | assumption | omega)) (zPoz _ (by first | assumption | omega)).1 ((hw2 _ _ (by omega)).trans (zPoz _ (by first | assumption | omega)).2.2.2.2.2.1) ?_
  refine zk_V0i hX dX11_shape_44 kcX1_number mlX11_247 viX1_number rfl (show 49 + 4 * _ < 166 by omega) (zPoz _ (by first | assumption | omega)).2.2.1 (s_X1_number (zPoD (by omega)) (zHas_o hS (q2.1.2.2.1 _ (by simp)))) (Nat.le_of_ble_eq_true rfl) rfl ?_
  refine zk_iret hX hE rfl ⟨rfl, rfl⟩ dX11_shape_47 ⟨_, rfl, ?_⟩
  exact ⟨rfl, q2⟩
theorem s_X11_thrown_bad {G : zG} {w : zW} (hw : zWf w) (p r : Int32) (h : ¬ ((0 ≤ p ∧ p < w.1 0 10) ∧ (0 ≤ r ∧ r < 6))) : zEi G mX11_thrown [.ref 0, .int p, .int r] w (-1) w := by
  refine zC_of (lo := [_, _, _]) kcX11_thrown (Nat.le_of_ble_eq_true rfl) rfl (fun X hX hE => ?_)
  refine zk_aload_n hX dX11_thrown_0 rfl ?_
  refine zk_iload_n hX dX11_thrown_1 rfl ?_
  refine zk_V1i hX dX11_thrown_2 kcX11_isPose mlX11_227 viX11_isPose rfl k_0 z_0 (s_X11_isPose hw _) (Nat.le_of_ble_eq_true rfl) rfl ?_
  refine zk_if_eqB (tgt := 15) hX dX11_thrown_5 (by decide) (fun c5 => ?_) (fun c5 => ?_)
  · refine zk_iconst (v := -1) hX dX11_thrown_15 (by decide) ?_
    refine zk_iret hX hE rfl ⟨rfl, rfl⟩ dX11_thrown_16 ⟨_, rfl, ?_⟩
    exact ⟨rfl, rfl⟩
  · refine zk_iload_n hX dX11_thrown_8 rfl ?_
    refine zk_S1i hX dX11_thrown_9 kcX11_isRow mlX11_107 smX11_isRow rfl (s_X11_isRow _) (Nat.le_of_ble_eq_true rfl) rfl ?_
    refine zk_if_neB (tgt := 17) hX dX11_thrown_12 (by decide) (fun c12 => ?_) (fun c12 => ?_)
    · exact absurd c12 (fun q => h ⟨by first | exact c5 | exact Decidable.not_not.mp c5, q⟩)
    refine zk_iconst (v := -1) hX dX11_thrown_15 (by decide) ?_
    refine zk_iret hX hE rfl ⟨rfl, rfl⟩ dX11_thrown_16 ⟨_, rfl, ?_⟩
    exact ⟨rfl, rfl⟩
theorem s_X11_thrown {G : zG} {w : zW} {n p r z u v : Nat} {S C : zS} (hw : zWf w) (hn : n ≤ 12) (hP : w.1 0 10 = nI n) (hp : p < n) (hr : r < 6) (hS : zHas w (49 + 4 * p) S) (hC : zHas w (50 + 4 * p) C) (hL : zLm w 44 z u v) (ho : zlok z u v) :
    zCi G mX11_thrown [.ref 0, .int (nI p), .int (nI r)] w (fun a w' => a = nI (zcard (if w.1 (47 + 4 * p) 3 = 5 then zun (zthr z u v S) C else zthr z u v S)) ∧ ∃ w1, zFr [] [163] [] w w1 ∧ cRowW w1 r 10 (fun y => nI (zline (if w.1 (47 + 4 * p) 3 = 5 then zun (zthr z u v S) C else zthr z u v S) y)) w') := by
  have hC3 : zCe 163 := ⟨by decide, by decide +kernel⟩
  refine zC_of (lo := [_, _, _]) kcX11_thrown (Nat.le_of_ble_eq_true rfl) rfl (fun X hX hE => ?_)
  refine zk_aload_n hX dX11_thrown_0 rfl ?_
  refine zk_iload_n hX dX11_thrown_1 rfl ?_
  refine zk_V1i hX dX11_thrown_2 kcX11_isPose mlX11_227 viX11_isPose rfl k_0 z_0 (s_X11_isPose hw _) (Nat.le_of_ble_eq_true rfl) rfl ?_
  refine zk_if_eqB (tgt := 15) hX dX11_thrown_5 (by decide) (fun c5 => ?_) (fun c5 => ?_)
  · exact absurd c5 (not_not_intro (by rw [hP]; exact ⟨nI_pos' (by omega), nI_lt hp (by omega)⟩))
  refine zk_iload_n hX dX11_thrown_8 rfl ?_
  refine zk_S1i hX dX11_thrown_9 kcX11_isRow mlX11_107 smX11_isRow rfl (s_X11_isRow _) (Nat.le_of_ble_eq_true rfl) rfl ?_
  refine zk_if_neB (tgt := 17) hX dX11_thrown_12 (by decide) (fun c12 => ?_) (fun c12 => ?_)
  rotate_left
  · exact absurd (zrlt hr) c12
  refine zk_aload_n hX dX11_thrown_17 rfl ?_
  refine zk_getR hX dX11_thrown_18 flX11_61 k_0 z_0 (hw _ _ (by decide) |>.trans r_0_9) ?_
  refine zk_iload_n hX dX11_thrown_21 rfl ?_
  refine zk_poses hX hw dX11_thrown_22 rfl (by first | assumption | omega) ?_
  refine zk_aload_n hX dX11_thrown_23 rfl ?_
  refine zk_getR hX dX11_thrown_24 flX11_48 k_0 z_0 (hw _ _ (by decide) |>.trans r_0_6) ?_
  refine zk_aload_n hX dX11_thrown_27 rfl ?_
  refine zk_getR hX dX11_thrown_28 flX11_97 k_0 z_0 (hw _ _ (by decide) |>.trans r_0_15) ?_
  refine zk_V2v hX dX11_thrown_31 kcX5_shadow mlX11_268 viX5_shadow rfl (zPok (by first | assumption | omega)) (zPoz _ (by first | assumption | omega)).1 (s_X5_shadow hw (by omega) (Or.inl rfl) hC3 (by omega) hS hC hL ho) (Nat.le_of_ble_eq_true rfl) rfl ?_
  refine zk_aload_n hX dX11_thrown_34 rfl ?_
  refine zk_getR hX dX11_thrown_35 flX11_18 k_0 z_0 ((zWf_of hw rfl (w' := zsetS w 163 (if w.1 (47 + 4 * p) 3 = 5 then zun (zthr z u v S) C else zthr z u v S))) _ _ (by decide) |>.trans r_0_1) ?_
  refine zk_iload_n hX dX11_thrown_38 rfl ?_
  refine zk_rows hX (zWf_of hw rfl (w' := zsetS w 163 (if w.1 (47 + 4 * p) 3 = 5 then zun (zthr z u v S) C else zthr z u v S))) dX11_thrown_39 rfl (by first | assumption | omega) ?_
  refine zk_aload_n hX dX11_thrown_40 rfl ?_
  refine zk_getR hX dX11_thrown_41 flX11_97 k_0 z_0 ((zWf_of hw rfl (w' := zsetS w 163 (if w.1 (47 + 4 * p) 3 = 5 then zun (zthr z u v S) C else zthr z u v S))) _ _ (by decide) |>.trans r_0_15) ?_
  refine zk_V1vp hX dX11_thrown_44 kcX8_showCells mlX11_265 viX8_showCells rfl (zRwR0 (by first | assumption | omega)) (zRw_r _ (by first | assumption | omega)).2.1 (s_X8_showCells (zWf_of hw rfl (w' := zsetS w 163 (if w.1 (47 + 4 * p) 3 = 5 then zun (zthr z u v S) C else zthr z u v S))) hr hC3 zsetS_has) (Nat.le_of_ble_eq_true rfl) rfl (fun w2 q2 => ?_)
  have hw2 := zFr_wf q2.1 (zWf_of hw rfl (w' := zsetS w 163 (if w.1 (47 + 4 * p) 3 = 5 then zun (zthr z u v S) C else zthr z u v S)))
  refine zk_aload_n hX dX11_thrown_47 rfl ?_
  refine zk_getR hX dX11_thrown_48 flX11_97 k_0 z_0 (hw2 _ _ (by decide) |>.trans r_0_15) ?_
  refine zk_V0i hX dX11_thrown_51 kcX1_number mlX11_247 viX1_number rfl k_163 z_163 (s_X1_number hC3 (zHas_o zsetS_has (q2.1.2.2.1 _ (by simp)))) (Nat.le_of_ble_eq_true rfl) rfl ?_
  refine zk_iret hX hE rfl ⟨rfl, rfl⟩ dX11_thrown_54 ⟨_, rfl, ?_⟩
  exact ⟨rfl, _, zFr_S (by decide), q2⟩
