theorem s_X11_sets_bad {G : zG} {w : zW} (r : Int32) (h : ¬ (0 ≤ r ∧ r < 6)) : zEi G mX11_sets [.ref 0, .int r] w (-1) w := by
  refine zC_of (lo := [_, _, _]) kcX11_sets (Nat.le_of_ble_eq_true rfl) rfl (fun X hX hE => ?_)
  refine zk_iload_n hX dX11_sets_0 rfl ?_
  refine zk_S1i hX dX11_sets_1 kcX11_isRow mlX11_107 smX11_isRow rfl (s_X11_isRow _) (Nat.le_of_ble_eq_true rfl) rfl ?_
  refine zk_if_neB (tgt := 9) hX dX11_sets_4 (by decide) (fun c4 => ?_) (fun c4 => ?_)
  · exact absurd c4 h
  refine zk_iconst (v := -1) hX dX11_sets_7 (by decide) ?_
  refine zk_iret hX hE rfl ⟨rfl, rfl⟩ dX11_sets_8 ⟨_, rfl, ?_⟩
  exact ⟨rfl, rfl⟩
theorem s_X11_sets_f {G : zG} {w : zW} {r k : Nat} (hw : zWf w) (hr : r < 6) (h5 : 1 ≤ k ∧ k ≤ 5) (hf : c_shf w r r = nI k) : zEi G mX11_sets [.ref 0, .int (nI r)] w (-3) (zfind w k) := by
  refine zC_of (lo := [_, _, _]) kcX11_sets (Nat.le_of_ble_eq_true rfl) rfl (fun X hX hE => ?_)
  refine zk_iload_n hX dX11_sets_0 rfl ?_
  refine zk_S1i hX dX11_sets_1 kcX11_isRow mlX11_107 smX11_isRow rfl (s_X11_isRow _) (Nat.le_of_ble_eq_true rfl) rfl ?_
  refine zk_if_neB (tgt := 9) hX dX11_sets_4 (by decide) (fun c4 => ?_) (fun c4 => ?_)
  rotate_left
  · exact absurd (zrlt hr) c4
  refine zk_aload_n hX dX11_sets_9 rfl ?_
  refine zk_getR hX dX11_sets_10 flX11_18 k_0 z_0 (hw _ _ (by decide) |>.trans r_0_1) ?_
  refine zk_iload_n hX dX11_sets_13 rfl ?_
  refine zk_rows hX hw dX11_sets_14 rfl (by first | assumption | omega) ?_
  refine zk_aload_n hX dX11_sets_15 rfl ?_
  refine zk_getR hX dX11_sets_16 flX11_18 k_0 z_0 (hw _ _ (by decide) |>.trans r_0_1) ?_
  refine zk_iload_n hX dX11_sets_19 rfl ?_
  refine zk_rows hX hw dX11_sets_20 rfl (by first | assumption | omega) ?_
  refine zk_S2i hX dX11_sets_21 kcX11_shadowFinding mlX11_233 smX11_shadowFinding rfl (s_X11_shadowFinding hw hr hr) (Nat.le_of_ble_eq_true rfl) rfl ?_
  rw [hf]
  refine zk_istore_n (lo' := [_, _, _]) hX dX11_sets_24 (Nat.le_of_ble_eq_true rfl) rfl rfl ?_
  refine zk_iload_n hX dX11_sets_25 rfl ?_
  refine zk_if_eq (tgt := 38) hX dX11_sets_26 (by decide) (fun c26 => ?_) (fun c26 => ?_)
  · exact absurd (nI_inj (a := k) (b := 0) (by omega) (by decide) c26) (by omega)
  refine zk_aload_n hX dX11_sets_29 rfl ?_
  refine zk_getR hX dX11_sets_30 flX11_12 k_0 z_0 (hw _ _ (by decide) |>.trans r_0_0) ?_
  refine zk_iload_n hX dX11_sets_33 rfl ?_
  refine zk_V1i hX dX11_sets_34 kcX9_find mlX11_111 viX9_find rfl k_1 z_1 (s_X9_find hw k h5) (Nat.le_of_ble_eq_true rfl) rfl ?_
  refine zk_iret hX hE rfl ⟨rfl, rfl⟩ dX11_sets_37 ⟨_, rfl, ?_⟩
  exact ⟨rfl, rfl⟩
theorem s_X11_sets_s {G : zG} {w : zW} {r : Nat} (hw : zWf w) (hr : r < 6) (h0 : c_shf w r r = 0) (hs : w.1 131 0 = 1) : zEi G mX11_sets [.ref 0, .int (nI r)] w (-6) w := by
  refine zC_of (lo := [_, _, _]) kcX11_sets (Nat.le_of_ble_eq_true rfl) rfl (fun X hX hE => ?_)
  refine zk_iload_n hX dX11_sets_0 rfl ?_
  refine zk_S1i hX dX11_sets_1 kcX11_isRow mlX11_107 smX11_isRow rfl (s_X11_isRow _) (Nat.le_of_ble_eq_true rfl) rfl ?_
  refine zk_if_neB (tgt := 9) hX dX11_sets_4 (by decide) (fun c4 => ?_) (fun c4 => ?_)
  rotate_left
  · exact absurd (zrlt hr) c4
  refine zk_aload_n hX dX11_sets_9 rfl ?_
  refine zk_getR hX dX11_sets_10 flX11_18 k_0 z_0 (hw _ _ (by decide) |>.trans r_0_1) ?_
  refine zk_iload_n hX dX11_sets_13 rfl ?_
  refine zk_rows hX hw dX11_sets_14 rfl (by first | assumption | omega) ?_
  refine zk_aload_n hX dX11_sets_15 rfl ?_
  refine zk_getR hX dX11_sets_16 flX11_18 k_0 z_0 (hw _ _ (by decide) |>.trans r_0_1) ?_
  refine zk_iload_n hX dX11_sets_19 rfl ?_
  refine zk_rows hX hw dX11_sets_20 rfl (by first | assumption | omega) ?_
  refine zk_S2i hX dX11_sets_21 kcX11_shadowFinding mlX11_233 smX11_shadowFinding rfl (s_X11_shadowFinding hw hr hr) (Nat.le_of_ble_eq_true rfl) rfl ?_
  rw [h0]
  refine zk_istore_n (lo' := [_, _, _]) hX dX11_sets_24 (Nat.le_of_ble_eq_true rfl) rfl rfl ?_
  refine zk_iload_n hX dX11_sets_25 rfl ?_
  refine zk_if_eq (tgt := 38) hX dX11_sets_26 (by decide) (fun c26 => ?_) (fun c26 => ?_)
  rotate_left
  · exact absurd rfl c26
  refine zk_aload_n hX dX11_sets_38 rfl ?_
  refine zk_getR hX dX11_sets_39 flX11_83 k_0 z_0 (hw _ _ (by decide) |>.trans r_0_13) ?_
  refine zk_getI hX dX11_sets_42 flX11_302 k_131 z_131 ?_
  rw [hs]
  refine zk_if_eq (tgt := 51) hX dX11_sets_45 (by decide) (fun c45 => ?_) (fun c45 => ?_)
  · exact absurd c45 (by decide)
  refine zk_bipush (v := -6) hX dX11_sets_48 (by decide) ?_
  refine zk_iret hX hE rfl ⟨rfl, rfl⟩ dX11_sets_50 ⟨_, rfl, ?_⟩
  exact ⟨rfl, rfl⟩
theorem s_X11_sets {G : zG} {w : zW} {D : zD} {r z u v T : Nat} {f : Nat → Nat} (hw : zWf w) (hD : zDok D) (hH : cHd w 26 D) (hRe : cRe w D) (hN : zpr (zsp D) (dJ D) ≤ 4096) (hT9 : T ≤ 99) (hS : w.1 0 8 = nI T) (hL : zLm w 44 z u v) (ho : zlok z u v) (hr : r < 6) (h0 : c_shf w r r = 0) (h10 : w.1 (4 + 2 * r) 0 = nI 10) (hf : ∀ y, y < 10 → w.1 (5 + 2 * r) y = nI (f y)) :
    zCi G mX11_sets [.ref 0, .int (nI r)] w (fun a w' => a = nI (zcnt (rJ D (-1) z u v T (zofL f)) (zN_ D (-1) (dF D))) ∧ zFr [1] [137, 138, 143, 144, 146, 164] [] w w' ∧ (∀ i, i ≠ 0 → w'.1 1 i = w.1 1 i) ∧ w'.1 1 0 = nI (zbits (zalk (rJ D (-1) z u v T (zofL f)) (zcode_t D) (zN_ D (-1) (dF D))) (dJ D))) := by
  have hc := hRe.2.2.2 hN
  have hs : w.1 131 0 = 0 := by rw [hRe.2.2.1, if_neg (by omega)]
  have hC4 : zCe 164 := ⟨by decide, by decide +kernel⟩
  have hT : cTab w D (-1) := ⟨hc.1, hc.2, by rw [zN_code hD]; exact hN⟩
  have csh := s_X8_showTo (G := G) hw (zRwR hr) hC4 h10 (fun y hy => by rw [show 4 + 2 * r + 1 = 5 + 2 * r by omega]; exact hf y hy)
  generalize zofL f = W at *
  have hw1 : zWf (zsetS w 164 W) := zWf_of hw rfl
  have hF1 : zFr [1] [137, 138, 143, 144, 146, 164] [] w (zsetS w 164 W) := zFr_S (by decide)
  refine zC_of (lo := [_, _, _]) kcX11_sets (Nat.le_of_ble_eq_true rfl) rfl (fun X hX hE => ?_)
  refine zk_iload_n hX dX11_sets_0 rfl ?_
  refine zk_S1i hX dX11_sets_1 kcX11_isRow mlX11_107 smX11_isRow rfl (s_X11_isRow _) (Nat.le_of_ble_eq_true rfl) rfl ?_
  refine zk_if_neB (tgt := 9) hX dX11_sets_4 (by decide) (fun c4 => ?_) (fun c4 => ?_)
  rotate_left
  · exact absurd (zrlt hr) c4
  refine zk_aload_n hX dX11_sets_9 rfl ?_
  refine zk_getR hX dX11_sets_10 flX11_18 k_0 z_0 (hw _ _ (by decide) |>.trans r_0_1) ?_
  refine zk_iload_n hX dX11_sets_13 rfl ?_
  refine zk_rows hX hw dX11_sets_14 rfl (by first | assumption | omega) ?_
  refine zk_aload_n hX dX11_sets_15 rfl ?_
  refine zk_getR hX dX11_sets_16 flX11_18 k_0 z_0 (hw _ _ (by decide) |>.trans r_0_1) ?_
  refine zk_iload_n hX dX11_sets_19 rfl ?_
  refine zk_rows hX hw dX11_sets_20 rfl (by first | assumption | omega) ?_
  refine zk_S2i hX dX11_sets_21 kcX11_shadowFinding mlX11_233 smX11_shadowFinding rfl (s_X11_shadowFinding hw hr hr) (Nat.le_of_ble_eq_true rfl) rfl ?_
  rw [h0]
  refine zk_istore_n (lo' := [_, _, _]) hX dX11_sets_24 (Nat.le_of_ble_eq_true rfl) rfl rfl ?_
  refine zk_iload_n hX dX11_sets_25 rfl ?_
  refine zk_if_eq (tgt := 38) hX dX11_sets_26 (by decide) (fun c26 => ?_) (fun c26 => ?_)
  rotate_left
  · exact absurd rfl c26
  refine zk_aload_n hX dX11_sets_38 rfl ?_
  refine zk_getR hX dX11_sets_39 flX11_83 k_0 z_0 (hw _ _ (by decide) |>.trans r_0_13) ?_
  refine zk_getI hX dX11_sets_42 flX11_302 k_131 z_131 ?_
  rw [hs]
  refine zk_if_eq (tgt := 51) hX dX11_sets_45 (by decide) (fun c45 => ?_) (fun c45 => ?_)
  rotate_left
  · exact absurd rfl c45
  refine zk_aload_n hX dX11_sets_51 rfl ?_
  refine zk_getR hX dX11_sets_52 flX11_18 k_0 z_0 (hw _ _ (by decide) |>.trans r_0_1) ?_
  refine zk_iload_n hX dX11_sets_55 rfl ?_
  refine zk_rows hX hw dX11_sets_56 rfl (by first | assumption | omega) ?_
  refine zk_aload_n hX dX11_sets_57 rfl ?_
  refine zk_getR hX dX11_sets_58 flX11_101 k_0 z_0 (hw _ _ (by decide) |>.trans r_0_16) ?_
  refine zk_V1v hX dX11_sets_61 kcX8_showTo mlX11_240 viX8_showTo rfl (zRwR0 (by first | assumption | omega)) (zRw_r _ (by first | assumption | omega)).2.1 csh (Nat.le_of_ble_eq_true rfl) rfl ?_
  refine zk_aload_n hX dX11_sets_64 rfl ?_
  refine zk_getR hX dX11_sets_65 flX11_83 k_0 z_0 (hw1 _ _ (by decide) |>.trans r_0_13) ?_
  refine zk_aload_n hX dX11_sets_68 rfl ?_
  refine zk_getR hX dX11_sets_69 flX11_38 k_0 z_0 (hw1 _ _ (by decide) |>.trans r_0_4) ?_
  refine zk_aload_n hX dX11_sets_72 rfl ?_
  refine zk_getR hX dX11_sets_73 flX11_48 k_0 z_0 (hw1 _ _ (by decide) |>.trans r_0_6) ?_
  refine zk_iconst (v := -1) hX dX11_sets_76 (by decide) ?_
  refine zk_V3vp hX dX11_sets_77 kcX6_shade mlX11_311 viX6_shade rfl k_131 z_131 (s_X6_shade hw1 (cHd_o hH (fun a _ _ => congrFun zsetS_1 a)) hD (cRe_f hRe hF1.2 (by decide)).2.1 hN (Or.inl rfl) (zLm_o hL rfl) ho (-1)) (Nat.le_of_ble_eq_true rfl) rfl (fun w2 q2 => ?_)
  have hw2 := zFr_wf q2.1 hw1
  have hF2 : zFr [1] [137, 138, 143, 144, 146, 164] [] w w2 := zFr_t hF1 (zFr_s q2.1 (by decide))
  have hT2 := cTab_f hT hF2 (by decide)
  have hH2 : cHd w2 26 D := cHd_o hH (fun a h1 h2 => hF2.2.1 a (by simp; omega) (by omega))
  have hS2 : cStep w2 D := (cRe_f hRe hF2.2 (by decide)).1
  have h42 : zHas w2 164 W := zHas_o zsetS_has (q2.1.2.2.1 164 (by decide))
  have e8 : w2.1 0 8 = nI T := (by rw [hF2.2.1 0 (by decide) (by decide)]; exact hS)
  have hw3 : zWf (zsi w2 1 0 (nI (zbits (zalk (rJ D (-1) z u v T W) (zcode_t D) (zN_ D (-1) (dF D))) (dJ D)))) := zWf_i hw2
  refine zk_aload_n hX dX11_sets_80 rfl ?_
  refine zk_getR hX dX11_sets_81 flX11_12 k_0 z_0 (hw2 _ _ (by decide) |>.trans r_0_0) ?_
  refine zk_aload_n hX dX11_sets_84 rfl ?_
  refine zk_getR hX dX11_sets_85 flX11_83 k_0 z_0 (hw2 _ _ (by decide) |>.trans r_0_13) ?_
  refine zk_aload_n hX dX11_sets_88 rfl ?_
  refine zk_getR hX dX11_sets_89 flX11_38 k_0 z_0 (hw2 _ _ (by decide) |>.trans r_0_4) ?_
  refine zk_aload_n hX dX11_sets_92 rfl ?_
  refine zk_getR hX dX11_sets_93 flX11_101 k_0 z_0 (hw2 _ _ (by decide) |>.trans r_0_16) ?_
  refine zk_aload_n hX dX11_sets_96 rfl ?_
  refine zk_getI hX dX11_sets_97 flX11_55 k_0 z_0 ?_
  rw [e8]
  refine zk_V3i hX dX11_sets_100 kcX6_alikeJoints mlX11_339 viX6_alikeJoints rfl k_131 z_131 (s_X6_alikeJoints hw2 hD hH2 hS2 hT9 hT2 q2.2 hC4 h42) (Nat.le_of_ble_eq_true rfl) rfl ?_
  refine zk_V1i hX dX11_sets_103 kcX9_tell mlX11_132 viX9_tell rfl k_1 z_1 (s_X9_tell _) (Nat.le_of_ble_eq_true rfl) rfl ?_
  refine zk_pop hX dX11_sets_106 rfl ?_
  refine zk_aload_n hX dX11_sets_107 rfl ?_
  refine zk_getR hX dX11_sets_108 flX11_83 k_0 z_0 (hw3 _ _ (by decide) |>.trans r_0_13) ?_
  refine zk_aload_n hX dX11_sets_111 rfl ?_
  refine zk_getR hX dX11_sets_112 flX11_101 k_0 z_0 (hw3 _ _ (by decide) |>.trans r_0_16) ?_
  refine zk_aload_n hX dX11_sets_115 rfl ?_
  refine zk_getI hX dX11_sets_116 flX11_55 k_0 z_0 ?_
  rw [zsi_o (by decide), e8]
  refine zk_V2i hX dX11_sets_119 kcX6_numberThrowing mlX11_343 viX6_numberThrowing rfl k_131 z_131 (s_X6_numberThrowing hw3 hD hT9 (cTab_f hT2 (A := [1]) (B := []) (F := []) (zFr_i (by decide) (by decide)) (by decide)) (cThr_f q2.2 (A := [1]) (B := []) (F := []) (zFr_i (by decide) (by decide)) (by decide)) hC4 (zHas_o h42 rfl)) (Nat.le_of_ble_eq_true rfl) rfl ?_
  refine zk_iret hX hE rfl ⟨rfl, rfl⟩ dX11_sets_122 ⟨_, rfl, ?_⟩
  refine ⟨rfl, zFr_t hF2 (zFr_i (by decide) (by decide)), fun i hi => ?_, by rw [zsi_1, if_pos ⟨rfl, rfl⟩]⟩
  rw [zsi_1, if_neg (fun q => hi q.2), q2.1.2.1 1 (by decide) (by decide)]
  rfl
