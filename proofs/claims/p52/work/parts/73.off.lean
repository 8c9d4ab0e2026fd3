theorem s_X11_off_bad {G : zG} {w : zW} (hw : zWf w) (p k : Int32) (h : ¬ ((0 ≤ p ∧ p < w.1 0 10) ∧ (0 ≤ k ∧ k < 6))) : zEi G mX11_off [.ref 0, .int p, .int k] w (-1) w := by
  refine zC_of (lo := [_, _, _]) kcX11_off (Nat.le_of_ble_eq_true rfl) rfl (fun X hX hE => ?_)
  refine zk_aload_n hX dX11_off_0 rfl ?_
  refine zk_iload_n hX dX11_off_1 rfl ?_
  refine zk_V1i hX dX11_off_2 kcX11_isPose mlX11_227 viX11_isPose rfl k_0 z_0 (s_X11_isPose hw _) (Nat.le_of_ble_eq_true rfl) rfl ?_
  refine zk_if_eqB (tgt := 15) hX dX11_off_5 (by decide) (fun c5 => ?_) (fun c5 => ?_)
  · refine zk_iconst (v := -1) hX dX11_off_15 (by decide) ?_
    refine zk_iret hX hE rfl ⟨rfl, rfl⟩ dX11_off_16 ⟨_, rfl, ?_⟩
    exact ⟨rfl, rfl⟩
  · refine zk_iload_n hX dX11_off_8 rfl ?_
    refine zk_S1i hX dX11_off_9 kcX11_isBeast mlX11_272 smX11_isBeast rfl (s_X11_isBeast _) (Nat.le_of_ble_eq_true rfl) rfl ?_
    refine zk_if_neB (tgt := 17) hX dX11_off_12 (by decide) (fun c12 => ?_) (fun c12 => ?_)
    · exact absurd c12 (fun q => h ⟨by first | exact c5 | exact Decidable.not_not.mp c5, q⟩)
    refine zk_iconst (v := -1) hX dX11_off_15 (by decide) ?_
    refine zk_iret hX hE rfl ⟨rfl, rfl⟩ dX11_off_16 ⟨_, rfl, ?_⟩
    exact ⟨rfl, rfl⟩
theorem s_X11_off_m {G : zG} {w : zW} {n p k : Nat} (hw : zWf w) (hn : n ≤ 12) (hP : w.1 0 10 = nI n) (hp : p < n) (hk : k < 6) (ht : w.1 (96 + 3 * k) 3 = 0) : zEi G mX11_off [.ref 0, .int (nI p), .int (nI k)] w (-3) (zfind w 1) := by
  refine zC_of (lo := [_, _, _]) kcX11_off (Nat.le_of_ble_eq_true rfl) rfl (fun X hX hE => ?_)
  refine zk_aload_n hX dX11_off_0 rfl ?_
  refine zk_iload_n hX dX11_off_1 rfl ?_
  refine zk_V1i hX dX11_off_2 kcX11_isPose mlX11_227 viX11_isPose rfl k_0 z_0 (s_X11_isPose hw _) (Nat.le_of_ble_eq_true rfl) rfl ?_
  refine zk_if_eqB (tgt := 15) hX dX11_off_5 (by decide) (fun c5 => ?_) (fun c5 => ?_)
  · exact absurd c5 (not_not_intro (by rw [hP]; exact ⟨nI_pos' (by omega), nI_lt hp (by omega)⟩))
  refine zk_iload_n hX dX11_off_8 rfl ?_
  refine zk_S1i hX dX11_off_9 kcX11_isBeast mlX11_272 smX11_isBeast rfl (s_X11_isBeast _) (Nat.le_of_ble_eq_true rfl) rfl ?_
  refine zk_if_neB (tgt := 17) hX dX11_off_12 (by decide) (fun c12 => ?_) (fun c12 => ?_)
  rotate_left
  · exact absurd (zrlt hk) c12
  refine zk_aload_n hX dX11_off_17 rfl ?_
  refine zk_getR hX dX11_off_18 flX11_68 k_0 z_0 (hw _ _ (by decide) |>.trans r_0_11) ?_
  refine zk_iload_n hX dX11_off_21 rfl ?_
  refine zk_beasts hX hw dX11_off_22 rfl (by first | assumption | omega) ?_
  refine zk_getI hX dX11_off_23 flX11_284 (zBek (by first | assumption | omega)) (zBez _ (by first | assumption | omega)).1 ?_
  refine zk_if_ne (tgt := 38) hX dX11_off_26 (by decide) (fun c26 => ?_) (fun c26 => ?_)
  · exact absurd c26 (fun q => q ht)
  refine zk_aload_n hX dX11_off_29 rfl ?_
  refine zk_getR hX dX11_off_30 flX11_12 k_0 z_0 (hw _ _ (by decide) |>.trans r_0_0) ?_
  refine zk_iconst (v := 1) hX dX11_off_33 (by decide) ?_
  refine zk_V1i hX dX11_off_34 kcX9_find mlX11_111 viX9_find rfl k_1 z_1 (s_X9_find hw _ (by decide)) (Nat.le_of_ble_eq_true rfl) rfl ?_
  refine zk_iret hX hE rfl ⟨rfl, rfl⟩ dX11_off_37 ⟨_, rfl, ?_⟩
  exact ⟨rfl, rfl⟩
theorem s_X11_off {G : zG} {w : zW} {n p k z u v : Nat} {S C Z M Y : zS} (hw : zWf w) (hn : n ≤ 12) (hP : w.1 0 10 = nI n) (hp : p < n) (hk : k < 6) (ht : ¬ w.1 (96 + 3 * k) 3 = 0) (hS : zHas w (49 + 4 * p) S) (hC : zHas w (50 + 4 * p) C) (hL : zLm w 44 z u v) (ho : zlok z u v) (hB : cBe w k M Y) (eZ : (if w.1 (47 + 4 * p) 3 = 5 then zun (zthr z u v S) C else zthr z u v S) = Z) :
    zEi G mX11_off [.ref 0, .int (nI p), .int (nI k)] w (nI (zofB M Y Z)) (zsi (zsetS w 163 Z) 1 0 (nI (zmis M Z))) := by
  have hC3 : zCe 163 := ⟨by decide, by decide +kernel⟩
  have cs := s_X5_shadow (G := G) hw (by omega) (Or.inl rfl) hC3 (by omega) hS hC hL ho
  rw [eZ] at cs
  have hw1 : zWf (zsetS w 163 Z) := zWf_of hw rfl
  have hZ : zHas (zsetS w 163 Z) 163 Z := zsetS_has
  have hB1 : cBe (zsetS w 163 Z) k M Y := ⟨zHas_o hB.1 (zsetS_2 (by omega)), zHas_o hB.2 (zsetS_2 (by omega))⟩
  refine zC_of (lo := [_, _, _]) kcX11_off (Nat.le_of_ble_eq_true rfl) rfl (fun X hX hE => ?_)
  refine zk_aload_n hX dX11_off_0 rfl ?_
  refine zk_iload_n hX dX11_off_1 rfl ?_
  refine zk_V1i hX dX11_off_2 kcX11_isPose mlX11_227 viX11_isPose rfl k_0 z_0 (s_X11_isPose hw _) (Nat.le_of_ble_eq_true rfl) rfl ?_
  refine zk_if_eqB (tgt := 15) hX dX11_off_5 (by decide) (fun c5 => ?_) (fun c5 => ?_)
  · exact absurd c5 (not_not_intro (by rw [hP]; exact ⟨nI_pos' (by omega), nI_lt hp (by omega)⟩))
  refine zk_iload_n hX dX11_off_8 rfl ?_
  refine zk_S1i hX dX11_off_9 kcX11_isBeast mlX11_272 smX11_isBeast rfl (s_X11_isBeast _) (Nat.le_of_ble_eq_true rfl) rfl ?_
  refine zk_if_neB (tgt := 17) hX dX11_off_12 (by decide) (fun c12 => ?_) (fun c12 => ?_)
  rotate_left
  · exact absurd (zrlt hk) c12
  refine zk_aload_n hX dX11_off_17 rfl ?_
  refine zk_getR hX dX11_off_18 flX11_68 k_0 z_0 (hw _ _ (by decide) |>.trans r_0_11) ?_
  refine zk_iload_n hX dX11_off_21 rfl ?_
  refine zk_beasts hX hw dX11_off_22 rfl (by first | assumption | omega) ?_
  refine zk_getI hX dX11_off_23 flX11_284 (zBek (by first | assumption | omega)) (zBez _ (by first | assumption | omega)).1 ?_
  refine zk_if_ne (tgt := 38) hX dX11_off_26 (by decide) (fun c26 => ?_) (fun c26 => ?_)
  rotate_left
  · exact absurd c26 ht
  refine zk_aload_n hX dX11_off_38 rfl ?_
  refine zk_getR hX dX11_off_39 flX11_61 k_0 z_0 (hw _ _ (by decide) |>.trans r_0_9) ?_
  refine zk_iload_n hX dX11_off_42 rfl ?_
  refine zk_poses hX hw dX11_off_43 rfl (by first | assumption | omega) ?_
  refine zk_aload_n hX dX11_off_44 rfl ?_
  refine zk_getR hX dX11_off_45 flX11_48 k_0 z_0 (hw _ _ (by decide) |>.trans r_0_6) ?_
  refine zk_aload_n hX dX11_off_48 rfl ?_
  refine zk_getR hX dX11_off_49 flX11_97 k_0 z_0 (hw _ _ (by decide) |>.trans r_0_15) ?_
  refine zk_V2v hX dX11_off_52 kcX5_shadow mlX11_268 viX5_shadow rfl (zPok (by first | assumption | omega)) (zPoz _ (by first | assumption | omega)).1 cs (Nat.le_of_ble_eq_true rfl) rfl ?_
  refine zk_aload_n hX dX11_off_55 rfl ?_
  refine zk_getR hX dX11_off_56 flX11_12 k_0 z_0 (hw1 _ _ (by decide) |>.trans r_0_0) ?_
  refine zk_aload_n hX dX11_off_59 rfl ?_
  refine zk_getR hX dX11_off_60 flX11_68 k_0 z_0 (hw1 _ _ (by decide) |>.trans r_0_11) ?_
  refine zk_iload_n hX dX11_off_63 rfl ?_
  refine zk_beasts hX hw1 dX11_off_64 rfl (by first | assumption | omega) ?_
  refine zk_aload_n hX dX11_off_65 rfl ?_
  refine zk_getR hX dX11_off_66 flX11_97 k_0 z_0 (hw1 _ _ (by decide) |>.trans r_0_15) ?_
  refine zk_getL hX dX11_off_69 flX11_288 k_163 z_163 ?_
  rw [hZ.1]
  refine zk_aload_n hX dX11_off_72 rfl ?_
  refine zk_getR hX dX11_off_73 flX11_97 k_0 z_0 (hw1 _ _ (by decide) |>.trans r_0_15) ?_
  refine zk_getL hX dX11_off_76 flX11_292 k_163 z_163 ?_
  rw [hZ.2]
  refine zk_V2i hX dX11_off_79 kcX0_missed mlX11_295 viX0_missed rfl (zBek (by first | assumption | omega)) (zBez _ (by first | assumption | omega)).1 (s_X0_missed hw1 hk hB1) (Nat.le_of_ble_eq_true rfl) rfl ?_
  refine zk_V1i hX dX11_off_82 kcX9_tell mlX11_132 viX9_tell rfl k_1 z_1 (s_X9_tell _) (Nat.le_of_ble_eq_true rfl) rfl ?_
  refine zk_pop hX dX11_off_85 rfl ?_
  refine zk_aload_n hX dX11_off_86 rfl ?_
  refine zk_getR hX dX11_off_87 flX11_68 k_0 z_0 ((zWf_i hw1) _ _ (by decide) |>.trans r_0_11) ?_
  refine zk_iload_n hX dX11_off_90 rfl ?_
  refine zk_beasts hX (zWf_i hw1) dX11_off_91 rfl (by first | assumption | omega) ?_
  refine zk_aload_n hX dX11_off_92 rfl ?_
  refine zk_getR hX dX11_off_93 flX11_97 k_0 z_0 ((zWf_i hw1) _ _ (by decide) |>.trans r_0_15) ?_
  refine zk_getL hX dX11_off_96 flX11_288 k_163 z_163 ?_
  rw [show (zsi (zsetS w 163 Z) 1 0 (nI (zmis M Z))).2.1 163 0 = zT Z from hZ.1]
  refine zk_aload_n hX dX11_off_99 rfl ?_
  refine zk_getR hX dX11_off_100 flX11_97 k_0 z_0 ((zWf_i hw1) _ _ (by decide) |>.trans r_0_15) ?_
  refine zk_getL hX dX11_off_103 flX11_292 k_163 z_163 ?_
  rw [show (zsi (zsetS w 163 Z) 1 0 (nI (zmis M Z))).2.1 163 1 = zLo Z from hZ.2]
  refine zk_V2i hX dX11_off_106 kcX0_offOf mlX11_299 viX0_offOf rfl (zBek (by first | assumption | omega)) (zBez _ (by first | assumption | omega)).1 (s_X0_offOf (zWf_i hw1) hk (show cBe (zsi (zsetS w 163 Z) 1 0 (nI (zmis M Z))) k M Y from hB1)) (Nat.le_of_ble_eq_true rfl) rfl ?_
  refine zk_iret hX hE rfl ⟨rfl, rfl⟩ dX11_off_109 ⟨_, rfl, ?_⟩
  exact ⟨rfl, rfl⟩
