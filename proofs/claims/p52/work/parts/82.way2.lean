theorem s_X11_placeOf {G : zG} {w : zW} {D : zD} {p : Nat} {d : Nat → Nat} (hw : zWf w) (hD : zDok D) (hH : cHd w 26 D) (hS : cStep w D) (hp : p < 12) (ht : ∀ j, j < dJ D → w.1 (48 + 4 * p) j = ztv D d j) : zEi G mX11_placeOf [.ref 0, .int (nI p)] w (nI (zcd (zsp D) d (dJ D))) w := by
  refine zC_of (lo := [_, _]) kcX11_placeOf (Nat.le_of_ble_eq_true rfl) rfl (fun X hX hE => ?_)
  refine zk_aload_n hX dX11_placeOf_0 rfl ?_
  refine zk_getR hX dX11_placeOf_1 flX11_83 k_0 z_0 (hw _ _ (by decide) |>.trans r_0_13) ?_
  refine zk_aload_n hX dX11_placeOf_4 rfl ?_
  refine zk_getR hX dX11_placeOf_5 flX11_38 k_0 z_0 (hw _ _ (by decide) |>.trans r_0_4) ?_
  refine zk_aload_n hX dX11_placeOf_8 rfl ?_
  refine zk_getR hX dX11_placeOf_9 flX11_61 k_0 z_0 (hw _ _ (by decide) |>.trans r_0_9) ?_
  refine zk_iload_n hX dX11_placeOf_12 rfl ?_
  refine zk_poses hX hw dX11_placeOf_13 rfl (by first | assumption | omega) ?_
  refine zk_getR hX dX11_placeOf_14 flX11_253 (zPok (by first | assumption | omega)) (zPoz _ (by first | assumption | omega)).1 ((hw _ _ (by omega)).trans (zPoz _ (by first | assumption | omega)).2.2.2.2.1) ?_
  refine zk_V2i hX dX11_placeOf_17 kcX6_placeOf mlX11_516 viX6_placeOf rfl k_131 z_131 (s_X6_placeOf hw hD hH hS (zPoT hp) ht) (Nat.le_of_ble_eq_true rfl) rfl ?_
  refine zk_iret hX hE rfl ⟨rfl, rfl⟩ dX11_placeOf_20 ⟨_, rfl, ?_⟩
  exact ⟨rfl, rfl⟩
theorem s_X11_way {G : zG} {w : zW} {D : zD} {n p q T : Nat} {d e : Nat → Nat} (hw : zWf w) (hD : zDok D) (hH : cHd w 26 D) (hRe : cRe w D) (hN : zpr (zsp D) (dJ D) ≤ 4096) (hT9 : T ≤ 99) (hS : w.1 0 8 = nI T) (hn : n ≤ 12) (hP : w.1 0 10 = nI n) (hp : p < n) (hq : q < n) (hk : zheldk (w.1 (47 + 4 * p) 3) ∧ zheldk (w.1 (47 + 4 * q) 3))
    (hd : ∀ j, j < dJ D → w.1 (48 + 4 * p) j = ztv D d j) (he : ∀ j, j < dJ D → w.1 (48 + 4 * q) j = ztv D e j) (hdp : zcd (zsp D) d (dJ D) < zpr (zsp D) (dJ D)) (hep : zcd (zsp D) e (dJ D) < zpr (zsp D) (dJ D)) :
    zCi G mX11_way [.ref 0, .int (nI p), .int (nI q)] w (fun r w' => zFr [147, 148, 149] [] [] w w' ∧ ((rH D (-1) T (zcd (zsp D) d (dJ D)) = false ∧ r = -9) ∨ (rH D (-1) T (zcd (zsp D) d (dJ D)) = true ∧ ∃ res, r = zoe res ∧ zDs (zadj (zsp D) (dJ D)) (rH D (-1) T) (zcd (zsp D) d (dJ D)) (zcd (zsp D) e (dJ D)) res))) := by
  have hc := hRe.2.2.2 hN
  have hT : cTab w D (-1) := ⟨hc.1, hc.2, by rw [zN_code hD]; exact hN⟩
  have hs : w.1 131 0 = 0 := by rw [hRe.2.2.1, if_neg (by omega)]
  have hON : ∀ v, rH D (-1) T v = true → v < zpr (zsp D) (dJ D) := fun v hv => by
    have := (of_decide_eq_true hv).1
    rw [zN_code hD] at this
    exact this
  refine zC_of (lo := [_, _, _]) kcX11_way (Nat.le_of_ble_eq_true rfl) rfl (fun X hX hE => ?_)
  refine zk_aload_n hX dX11_way_0 rfl ?_
  refine zk_iload_n hX dX11_way_1 rfl ?_
  refine zk_V1i hX dX11_way_2 kcX11_isPose mlX11_227 viX11_isPose rfl k_0 z_0 (s_X11_isPose hw _) (Nat.le_of_ble_eq_true rfl) rfl ?_
  refine zk_if_eqB (tgt := 16) hX dX11_way_5 (by decide) (fun c5 => ?_) (fun c5 => ?_)
  · exact absurd c5 (not_not_intro (by rw [hP]; exact ⟨nI_pos' (by omega), nI_lt hp (by omega)⟩))
  refine zk_aload_n hX dX11_way_8 rfl ?_
  refine zk_iload_n hX dX11_way_9 rfl ?_
  refine zk_V1i hX dX11_way_10 kcX11_isPose mlX11_227 viX11_isPose rfl k_0 z_0 (s_X11_isPose hw _) (Nat.le_of_ble_eq_true rfl) rfl ?_
  refine zk_if_neB (tgt := 18) hX dX11_way_13 (by decide) (fun c13 => ?_) (fun c13 => ?_)
  rotate_left
  · exact absurd (by rw [hP]; exact ⟨nI_pos' (by omega), nI_lt hq (by omega)⟩) c13
  refine zk_aload_n hX dX11_way_18 rfl ?_
  refine zk_getR hX dX11_way_19 flX11_61 k_0 z_0 (hw _ _ (by decide) |>.trans r_0_9) ?_
  refine zk_iload_n hX dX11_way_22 rfl ?_
  refine zk_poses hX hw dX11_way_23 rfl (by first | assumption | omega) ?_
  refine zk_V0i hX dX11_way_24 kcX5_isHeld mlX11_230 viX5_isHeld rfl (zPok (by first | assumption | omega)) (zPoz _ (by first | assumption | omega)).1 (s_X5_isHeld (by omega)) (Nat.le_of_ble_eq_true rfl) rfl ?_
  refine zk_if_eqB (tgt := 42) hX dX11_way_27 (by decide) (fun c27 => ?_) (fun c27 => ?_)
  · exact absurd c27 (not_not_intro hk.1)
  refine zk_aload_n hX dX11_way_30 rfl ?_
  refine zk_getR hX dX11_way_31 flX11_61 k_0 z_0 (hw _ _ (by decide) |>.trans r_0_9) ?_
  refine zk_iload_n hX dX11_way_34 rfl ?_
  refine zk_poses hX hw dX11_way_35 rfl (by first | assumption | omega) ?_
  refine zk_V0i hX dX11_way_36 kcX5_isHeld mlX11_230 viX5_isHeld rfl (zPok (by first | assumption | omega)) (zPoz _ (by first | assumption | omega)).1 (s_X5_isHeld (by omega)) (Nat.le_of_ble_eq_true rfl) rfl ?_
  refine zk_if_neB (tgt := 51) hX dX11_way_39 (by decide) (fun c39 => ?_) (fun c39 => ?_)
  rotate_left
  · exact absurd hk.2 c39
  refine zk_aload_n hX dX11_way_51 rfl ?_
  refine zk_getR hX dX11_way_52 flX11_83 k_0 z_0 (hw _ _ (by decide) |>.trans r_0_13) ?_
  refine zk_getI hX dX11_way_55 flX11_302 k_131 z_131 ?_
  rw [hs]
  refine zk_if_eq (tgt := 64) hX dX11_way_58 (by decide) (fun c58 => ?_) (fun c58 => ?_)
  rotate_left
  · exact absurd rfl c58
  refine zk_aload_n hX dX11_way_64 rfl ?_
  refine zk_getR hX dX11_way_65 flX11_90 k_0 z_0 (hw _ _ (by decide) |>.trans r_0_14) ?_
  refine zk_aload_n hX dX11_way_68 rfl ?_
  refine zk_getR hX dX11_way_69 flX11_83 k_0 z_0 (hw _ _ (by decide) |>.trans r_0_13) ?_
  refine zk_aload_n hX dX11_way_72 rfl ?_
  refine zk_getI hX dX11_way_73 flX11_55 k_0 z_0 ?_
  rw [hS]
  refine zk_V2vp hX dX11_way_76 kcX10_openHeld mlX11_347 viX10_openHeld rfl k_147 z_147 (s_X10_openHeld hw hD hT hT9) (Nat.le_of_ble_eq_true rfl) rfl (fun w1 q1 => ?_)
  have hw1 := zFr_wf q1.1 hw
  have hH1 : cHd w1 26 D := cHd_o hH (fun a h1 h2 => q1.1.2.1 a (by simp; omega) (by omega))
  have hS1 : cStep w1 D := (fun j hj => by rw [q1.1.2.1 132 (by decide) (by decide), q1.1.2.1 133 (by decide) (by decide)]; exact hRe.1 j hj)
  have hd1 : ∀ j, j < dJ D → w1.1 (48 + 4 * p) j = ztv D d j := (fun j hj => by rw [q1.1.2.1 (48 + 4 * p) (by simp; omega) (by omega)]; exact hd j hj)
  have he1 : ∀ j, j < dJ D → w1.1 (48 + 4 * q) j = ztv D e j := (fun j hj => by rw [q1.1.2.1 (48 + 4 * q) (by simp; omega) (by omega)]; exact he j hj)
  refine zk_aload_n hX dX11_way_79 rfl ?_
  refine zk_getR hX dX11_way_80 flX11_90 k_0 z_0 (hw1 _ _ (by decide) |>.trans r_0_14) ?_
  refine zk_aload_n hX dX11_way_83 rfl ?_
  refine zk_getR hX dX11_way_84 flX11_83 k_0 z_0 (hw1 _ _ (by decide) |>.trans r_0_13) ?_
  refine zk_aload_n hX dX11_way_87 rfl ?_
  refine zk_getR hX dX11_way_88 flX11_38 k_0 z_0 (hw1 _ _ (by decide) |>.trans r_0_4) ?_
  refine zk_aload_n hX dX11_way_91 rfl ?_
  refine zk_iload_n hX dX11_way_92 rfl ?_
  refine zk_V1i hX dX11_way_93 kcX11_placeOf mlX11_351 viX11_placeOf rfl k_0 z_0 (s_X11_placeOf hw1 hD hH1 hS1 (by omega) hd1) (Nat.le_of_ble_eq_true rfl) rfl ?_
  refine zk_aload_n hX dX11_way_96 rfl ?_
  refine zk_iload_n hX dX11_way_97 rfl ?_
  refine zk_V1i hX dX11_way_98 kcX11_placeOf mlX11_351 viX11_placeOf rfl k_0 z_0 (s_X11_placeOf hw1 hD hH1 hS1 (by omega) he1) (Nat.le_of_ble_eq_true rfl) rfl ?_
  refine zk_V4ip hX dX11_way_101 kcX10_length mlX11_354 viX10_length rfl k_147 z_147 (s_X10_length hw1 hD hH1 hS1 hN q1.2 hON (by omega) (by omega)) (Nat.le_of_ble_eq_true rfl) rfl (fun r9 w9 q9 => ?_)
  refine zk_iret hX hE rfl ⟨rfl, rfl⟩ dX11_way_104 ⟨_, rfl, ?_⟩
  exact ⟨zFr_t (zFr_s q1.1 (by decide)) q9.1, q9.2⟩

