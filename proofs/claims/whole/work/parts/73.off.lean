/-! off -/
theorem s_X11_off_bad {G : zG} {w : zW} (hw : zWf w) (p k : Int32) (h : ¬ ((0 ≤ p ∧ p < w.1 0 10) ∧ (0 ≤ k ∧ k < 6))) : zEi G mX11_off [.ref 0, .int p, .int k] w (-1) w := by
  refine zC_of (lo := [_, _, _]) kcX11_off (Nat.le_of_ble_eq_true rfl) rfl (fun X hX hE => ?_)
  refine zk_aload_n hX dX11_off_0 rfl ?_
  refine zk_iload_n hX dX11_off_1 rfl ?_
  refine zk_V1i hX dX11_off_2 kcX11_isPose mlX11_227 viX11_isPose rfl k_0 z_0 (s_X11_isPose hw _) (Nat.le_of_ble_eq_true rfl) rfl ?_
  refine zk_if_eqB (tgt := 15) hX dX11_off_5 (by decide) (fun c5 => ?_) (fun c5 => ?_)
  · refine zk_iconst (v := -1) hX dX11_off_15 (by decide) ?_
    refine zk_iret hX hE rfl ⟨rfl, rfl⟩ dX11_off_16 ⟨_, rfl, ?_⟩
    exact ⟨rfl, rfl⟩
  · refine zk_iload_n hX dX11_off_8 rfl ?_
    refine zk_S1i hX dX11_off_9 kcX11_isBeast mlX11_272 smX11_isBeast rfl (s_X11_isBeast _) (Nat.le_of_ble_eq_true rfl) rfl ?_
    refine zk_if_neB (tgt := 17) hX dX11_off_12 (by decide) (fun c12 => ?_) (fun c12 => ?_)
    · exact absurd c12 (fun q => h ⟨by first | exact c5 | exact Decidable.not_not.mp c5, q⟩)
    refine zk_iconst (v := -1) hX dX11_off_15 (by decide) ?_
    refine zk_iret hX hE rfl ⟨rfl, rfl⟩ dX11_off_16 ⟨_, rfl, ?_⟩
    exact ⟨rfl, rfl⟩
theorem s_X11_off_m {G : zG} {w : zW} {n p k : Nat} (hw : zWf w) (hn : n ≤ 12) (hP : w.1 0 10 = nI n) (hp : p < n) (hk : k < 6) (ht : w.1 (96 + 3 * k) 3 = 0) : zEi G mX11_off [.ref 0, .int (nI p), .int (nI k)] w (-3) (zfind w 1) := by
  refine zC_of (lo := [_, _, _]) kcX11_off (Nat.le_of_ble_eq_true rfl) rfl (fun X hX hE => ?_)
  refine zk_aload_n hX dX11_off_0 rfl ?_
  refine zk_iload_n hX dX11_off_1 rfl ?_
  refine zk_V1i hX dX11_off_2 kcX11_isPose mlX11_227 viX11_isPose rfl k_0 z_0 (s_X11_isPose hw _) (Nat.le_of_ble_eq_true rfl) rfl ?_
  refine zk_if_eqB (tgt := 15) hX dX11_off_5 (by decide) (fun c5 => ?_) (fun c5 => ?_)
  · exact absurd c5 (not_not_intro (by rw [hP]; exact ⟨nI_pos' (by omega), nI_lt hp (by omega)⟩))
  refine zk_iload_n hX dX11_off_8 rfl ?_
  refine zk_S1i hX dX11_off_9 kcX11_isBeast mlX11_272 smX11_isBeast rfl (s_X11_isBeast _) (Nat.le_of_ble_eq_true rfl) rfl ?_
  refine zk_if_neB (tgt := 17) hX dX11_off_12 (by decide) (fun c12 => ?_) (fun c12 => ?_)
  rotate_left
  · exact absurd (zrlt hk) c12
  refine zk_aload_n hX dX11_off_17 rfl ?_
  refine zk_getR hX dX11_off_18 flX11_68 k_0 z_0 (hw _ _ (by decide) |>.trans r_0_11) ?_
  refine zk_iload_n hX dX11_off_21 rfl ?_
  refine zk_beasts hX hw dX11_off_22 rfl (by first | assumption | omega) ?_
  refine zk_getI hX dX11_off_23 flX11_284 (zBek (by first | assumption | omega)) (zBez _ (by first | assumption | omega)).1 ?_
  refine zk_if_ne (tgt := 38) hX dX11_off_26 (by decide) (fun c26 => ?_) (fun c26 => ?_)
  · exact absurd c26 (fun q => q ht)
  refine zk_aload_n hX dX11_off_29 rfl ?_
  refine zk_getR hX dX11_off_30 flX11_12 k_0 z_0 (hw _ _ (by decide) |>.trans r_0_0) ?_
  refine zk_iconst (v := 1) hX dX11_off_33 (by decide) ?_
  refine zk_V1i hX dX11_off_34 kcX9_find mlX11_111 viX9_find rfl k_1 z_1 (s_X9_find hw _ (by decide)) (Nat.le_of_ble_eq_true rfl) rfl ?_
  refine zk_iret hX hE rfl ⟨rfl, rfl⟩ dX11_off_37 ⟨_, rfl, ?_⟩
  exact ⟨rfl, rfl⟩
theorem s_X11_off {G : zG} {w : zW} {n p k z u v : Nat} {S C Z M Y : zS} (hw : zWf w) (hn : n ≤ 12) (hP : w.1 0 10 = nI n) (hp : p < n) (hk : k < 6) (ht : ¬ w.1 (96 + 3 * k) 3 = 0) (hS : zHas w (49 + 4 * p) S) (hC : zHas w (50 + 4 * p) C) (hL : zLm w 44 z u v) (ho : zlok z u v) (hB : cBe w k M Y) (eZ : (if w.1 (47 + 4 * p) 3 = 5 then zun (zthr z u v S) C else zthr z u v S) = Z) :
    zEi G mX11_off [.ref 0, .int (nI p), .int (nI k)] w (nI (zofB M Y Z)) (zsi (zsetS w 163 Z) 1 0 (nI (zmis M Z))) := by
  have hC3 : zCe 163 := ⟨by decide, by decide +kernel⟩
  have cs := s_X5_shadow (G := G) hw (by omega) (Or.inl rfl) hC3 (by omega) hS hC hL ho
  rw [eZ] at cs
  have hw1 : zWf (zsetS w 163 Z) := zWf_of hw rfl
  have hZ : zHas (zsetS w 163 Z) 163 Z := zsetS_has
  have hB1 : cBe (zsetS w 163 Z) k M Y := ⟨zHas_o hB.1 (zsetS_2 (by omega)), zHas_o hB.2 (zsetS_2 (by omega))⟩
  refine zC_of (lo := [_, _, _]) kcX11_off (Nat.le_of_ble_eq_true rfl) rfl (fun X hX hE => ?_)
  refine zk_aload_n hX dX11_off_0 rfl ?_
  refine zk_iload_n hX dX11_off_1 rfl ?_
  refine zk_V1i hX dX11_off_2 kcX11_isPose mlX11_227 viX11_isPose rfl k_0 z_0 (s_X11_isPose hw _) (Nat.le_of_ble_eq_true rfl) rfl ?_
  refine zk_if_eqB (tgt := 15) hX dX11_off_5 (by decide) (fun c5 => ?_) (fun c5 => ?_)
  · exact absurd c5 (not_not_intro (by rw [hP]; exact ⟨nI_pos' (by omega), nI_lt hp (by omega)⟩))
  refine zk_iload_n hX dX11_off_8 rfl ?_
  refine zk_S1i hX dX11_off_9 kcX11_isBeast mlX11_272 smX11_isBeast rfl (s_X11_isBeast _) (Nat.le_of_ble_eq_true rfl) rfl ?_
  refine zk_if_neB (tgt := 17) hX dX11_off_12 (by decide) (fun c12 => ?_) (fun c12 => ?_)
  rotate_left
  · exact absurd (zrlt hk) c12
  refine zk_aload_n hX dX11_off_17 rfl ?_
  refine zk_getR hX dX11_off_18 flX11_68 k_0 z_0 (hw _ _ (by decide) |>.trans r_0_11) ?_
  refine zk_iload_n hX dX11_off_21 rfl ?_
  refine zk_beasts hX hw dX11_off_22 rfl (by first | assumption | omega) ?_
  refine zk_getI hX dX11_off_23 flX11_284 (zBek (by first | assumption | omega)) (zBez _ (by first | assumption | omega)).1 ?_
  refine zk_if_ne (tgt := 38) hX dX11_off_26 (by decide) (fun c26 => ?_) (fun c26 => ?_)
  rotate_left
  · exact absurd c26 ht
  refine zk_aload_n hX dX11_off_38 rfl ?_
  refine zk_getR hX dX11_off_39 flX11_61 k_0 z_0 (hw _ _ (by decide) |>.trans r_0_9) ?_
  refine zk_iload_n hX dX11_off_42 rfl ?_
  refine zk_poses hX hw dX11_off_43 rfl (by first | assumption | omega) ?_
  refine zk_aload_n hX dX11_off_44 rfl ?_
  refine zk_getR hX dX11_off_45 flX11_48 k_0 z_0 (hw _ _ (by decide) |>.trans r_0_6) ?_
  refine zk_aload_n hX dX11_off_48 rfl ?_
  refine zk_getR hX dX11_off_49 flX11_97 k_0 z_0 (hw _ _ (by decide) |>.trans r_0_15) ?_
  refine zk_V2v hX dX11_off_52 kcX5_shadow mlX11_268 viX5_shadow rfl (zPok (by first | assumption | omega)) (zPoz _ (by first | assumption | omega)).1 cs (Nat.le_of_ble_eq_true rfl) rfl ?_
  refine zk_aload_n hX dX11_off_55 rfl ?_
  refine zk_getR hX dX11_off_56 flX11_12 k_0 z_0 (hw1 _ _ (by decide) |>.trans r_0_0) ?_
  refine zk_aload_n hX dX11_off_59 rfl ?_
  refine zk_getR hX dX11_off_60 flX11_68 k_0 z_0 (hw1 _ _ (by decide) |>.trans r_0_11) ?_
  refine zk_iload_n hX dX11_off_63 rfl ?_
  refine zk_beasts hX hw1 dX11_off_64 rfl (by first | assumption | omega) ?_
  refine zk_aload_n hX dX11_off_65 rfl ?_
  refine zk_getR hX dX11_off_66 flX11_97 k_0 z_0 (hw1 _ _ (by decide) |>.trans r_0_15) ?_
  refine zk_getL hX dX11_off_69 flX11_288 k_163 z_163 ?_
  rw [hZ.1]
  refine zk_aload_n hX dX11_off_72 rfl ?_
  refine zk_getR hX dX11_off_73 flX11_97 k_0 z_0 (hw1 _ _ (by decide) |>.trans r_0_15) ?_
  refine zk_getL hX dX11_off_76 flX11_292 k_163 z_163 ?_
  rw [hZ.2]
  refine zk_V2i hX dX11_off_79 kcX0_missed mlX11_295 viX0_missed rfl (zBek (by first | assumption | omega)) (zBez _ (by first | assumption | omega)).1 (s_X0_missed hw1 hk hB1) (Nat.le_of_ble_eq_true rfl) rfl ?_
  refine zk_V1i hX dX11_off_82 kcX9_tell mlX11_132 viX9_tell rfl k_1 z_1 (s_X9_tell _) (Nat.le_of_ble_eq_true rfl) rfl ?_
  refine zk_pop hX dX11_off_85 rfl ?_
  refine zk_aload_n hX dX11_off_86 rfl ?_
  refine zk_getR hX dX11_off_87 flX11_68 k_0 z_0 ((zWf_i hw1) _ _ (by decide) |>.trans r_0_11) ?_
  refine zk_iload_n hX dX11_off_90 rfl ?_
  refine zk_beasts hX (zWf_i hw1) dX11_off_91 rfl (by first | assumption | omega) ?_
  refine zk_aload_n hX dX11_off_92 rfl ?_
  refine zk_getR hX dX11_off_93 flX11_97 k_0 z_0 ((zWf_i hw1) _ _ (by decide) |>.trans r_0_15) ?_
  refine zk_getL hX dX11_off_96 flX11_288 k_163 z_163 ?_
  rw [show (zsi (zsetS w 163 Z) 1 0 (nI (zmis M Z))).2.1 163 0 = zT Z from hZ.1]
  refine zk_aload_n hX dX11_off_99 rfl ?_
  refine zk_getR hX dX11_off_100 flX11_97 k_0 z_0 ((zWf_i hw1) _ _ (by decide) |>.trans r_0_15) ?_
  refine zk_getL hX dX11_off_103 flX11_292 k_163 z_163 ?_
  rw [show (zsi (zsetS w 163 Z) 1 0 (nI (zmis M Z))).2.1 163 1 = zLo Z from hZ.2]
  refine zk_V2i hX dX11_off_106 kcX0_offOf mlX11_299 viX0_offOf rfl (zBek (by first | assumption | omega)) (zBez _ (by first | assumption | omega)).1 (s_X0_offOf (zWf_i hw1) hk (show cBe (zsi (zsetS w 163 Z) 1 0 (nI (zmis M Z))) k M Y from hB1)) (Nat.le_of_ble_eq_true rfl) rfl ?_
  refine zk_iret hX hE rfl ⟨rfl, rfl⟩ dX11_off_109 ⟨_, rfl, ?_⟩
  exact ⟨rfl, rfl⟩
theorem s_X12_off_bad {G : zG} {w : zW} {n : Nat} (hn : n ≤ 12) (hP : w.1 166 33 = nI n) (p k : Int32) (h : ¬ ((0 ≤ p ∧ p < nI n) ∧ (0 ≤ k ∧ k < 6))) : zEi G mX12_off [.ref 166, .int p, .int k] w (-1) w := by
  refine zC_of (lo := [_, _, _]) kcX12_off (Nat.le_of_ble_eq_true rfl) rfl (fun X hX hE => ?_)
  refine zk_aload_n hX dX12_off_0 rfl ?_
  refine zk_iload_n hX dX12_off_1 rfl ?_
  refine zk_V1i hX dX12_off_2 kcX12_isPose mlX12_290 viX12_isPose rfl k_166 z_166 (s_X12_isPose (n := n) (by omega) hP _) (Nat.le_of_ble_eq_true rfl) rfl ?_
  refine zk_if_eqB (tgt := 15) hX dX12_off_5 (by decide) (fun c5 => ?_) (fun c5 => ?_)
  · refine zk_iconst (v := -1) hX dX12_off_15 (by decide) ?_
    refine zk_iret hX hE rfl ⟨rfl, rfl⟩ dX12_off_16 ⟨_, rfl, ?_⟩
    exact ⟨rfl, rfl⟩
  · refine zk_iload_n hX dX12_off_8 rfl ?_
    refine zk_S1i hX dX12_off_9 kcX12_isBeast mlX12_317 smX12_isBeast rfl (s_X12_isBeast' _) (Nat.le_of_ble_eq_true rfl) rfl ?_
    refine zk_if_neB (tgt := 17) hX dX12_off_12 (by decide) (fun c12 => ?_) (fun c12 => ?_)
    · exact absurd c12 (fun q => h ⟨by first | exact c5 | exact Decidable.not_not.mp c5, by grind⟩)
    refine zk_iconst (v := -1) hX dX12_off_15 (by decide) ?_
    refine zk_iret hX hE rfl ⟨rfl, rfl⟩ dX12_off_16 ⟨_, rfl, ?_⟩
    exact ⟨rfl, rfl⟩
theorem s_X12_off_m {G : zG} {w : zW} {n p k : Nat} (hw : zWf w) (hn : n ≤ 12) (hP : w.1 166 33 = nI n) (hp : p < n) (hk : k < 6) (ht : w.1 186 k = 0) : zEi G mX12_off [.ref 166, .int (nI p), .int (nI k)] w (-3) (mfind w 1) := by
  refine zC_of (lo := [_, _, _]) kcX12_off (Nat.le_of_ble_eq_true rfl) rfl (fun X hX hE => ?_)
  refine zk_aload_n hX dX12_off_0 rfl ?_
  refine zk_iload_n hX dX12_off_1 rfl ?_
  refine zk_V1i hX dX12_off_2 kcX12_isPose mlX12_290 viX12_isPose rfl k_166 z_166 (s_X12_isPose (n := n) (by omega) hP _) (Nat.le_of_ble_eq_true rfl) rfl ?_
  refine zk_if_eqB (tgt := 15) hX dX12_off_5 (by decide) (fun c5 => ?_) (fun c5 => ?_)
  · exact absurd c5 (not_not_intro ⟨nI_pos' (by omega), nI_lt hp (by omega)⟩)
  refine zk_iload_n hX dX12_off_8 rfl ?_
  refine zk_S1i hX dX12_off_9 kcX12_isBeast mlX12_317 smX12_isBeast rfl (s_X12_isBeast' _) (Nat.le_of_ble_eq_true rfl) rfl ?_
  refine zk_if_neB (tgt := 17) hX dX12_off_12 (by decide) (fun c12 => ?_) (fun c12 => ?_)
  rotate_left
  · exact absurd (zrle (n := 5) (by omega)) c12
  refine zk_aload_n hX dX12_off_17 rfl ?_
  refine zk_getR hX dX12_off_18 flX12_68 k_166 z_166 (hw _ _ (by decide) |>.trans r_166_37) ?_
  refine zk_iload_n hX dX12_off_21 rfl ?_
  refine zk_zaldE hX dX12_off_22 rfl k_186 z_186 (by first | assumption | omega) rfl ?_
  refine zk_if_ne (tgt := 32) hX dX12_off_23 (by decide) (fun c23 => ?_) (fun c23 => ?_)
  · exact absurd c23 (fun q => q ht)
  refine zk_aload_n hX dX12_off_26 rfl ?_
  refine zk_iconst (v := 1) hX dX12_off_27 (by decide) ?_
  refine zk_V1i hX dX12_off_28 kcX12_meets mlX12_145 viX12_meets rfl k_166 z_166 (s_X12_meets hw _ (by decide)) (Nat.le_of_ble_eq_true rfl) rfl ?_
  refine zk_iret hX hE rfl ⟨rfl, rfl⟩ dX12_off_31 ⟨_, rfl, ?_⟩
  exact ⟨rfl, rfl⟩
theorem s_X12_off {G : zG} {w : zW} {D : zD} {n p k z u v : Nat} {t : Nat → Int32} {C M Y : zS} (hw : zWf w) (hM : mHd w D) (hD : zDok D) (hn : n ≤ 12) (hP : w.1 166 33 = nI n) (hp : p < n) (hk : k < 6) (h1 : ¬ w.1 186 k = 0) (hT : zT2 D t) (ht : ∀ j, j < dJ D → w.1 184 (6 * p + j) = t j) (hl : mLm w z u v) (ho : zlok z u v) (hC : ∀ y, y < 10 → w.1 185 (10 * p + y) = nI (zline C y)) (hB : mBe w k M Y) :
    zCi G mX12_off [.ref 166, .int (nI p), .int (nI k)] w (fun a w' => a = nI (zofB M Y (zshd z u v (zP D t (-1)) (w.1 183 (3 * p)) C)) ∧ zFr [179, 180, 181, 182] [] [2, 29] w w' ∧ w'.1 166 2 = nI (zmis M (zshd z u v (zP D t (-1)) (w.1 183 (3 * p)) C))) := by
  refine zC_of (lo := [_, _, _]) kcX12_off (Nat.le_of_ble_eq_true rfl) rfl (fun X hX hE => ?_)
  refine zk_aload_n hX dX12_off_0 rfl ?_
  refine zk_iload_n hX dX12_off_1 rfl ?_
  refine zk_V1i hX dX12_off_2 kcX12_isPose mlX12_290 viX12_isPose rfl k_166 z_166 (s_X12_isPose (n := n) (by omega) hP _) (Nat.le_of_ble_eq_true rfl) rfl ?_
  refine zk_if_eqB (tgt := 15) hX dX12_off_5 (by decide) (fun c5 => ?_) (fun c5 => ?_)
  · exact absurd c5 (not_not_intro ⟨nI_pos' (by omega), nI_lt hp (by omega)⟩)
  refine zk_iload_n hX dX12_off_8 rfl ?_
  refine zk_S1i hX dX12_off_9 kcX12_isBeast mlX12_317 smX12_isBeast rfl (s_X12_isBeast' _) (Nat.le_of_ble_eq_true rfl) rfl ?_
  refine zk_if_neB (tgt := 17) hX dX12_off_12 (by decide) (fun c12 => ?_) (fun c12 => ?_)
  rotate_left
  · exact absurd (zrle (n := 5) (by omega)) c12
  refine zk_aload_n hX dX12_off_17 rfl ?_
  refine zk_getR hX dX12_off_18 flX12_68 k_166 z_166 (hw _ _ (by decide) |>.trans r_166_37) ?_
  refine zk_iload_n hX dX12_off_21 rfl ?_
  refine zk_zaldE hX dX12_off_22 rfl k_186 z_186 (by first | assumption | omega) rfl ?_
  refine zk_if_ne (tgt := 32) hX dX12_off_23 (by decide) (fun c23 => ?_) (fun c23 => ?_)
  rotate_left
  · exact absurd c23 h1
  refine zk_aload_n hX dX12_off_32 rfl ?_
  refine zk_iload_n hX dX12_off_33 rfl ?_
  refine zk_V1vp hX dX12_off_34 kcX12_throwPose mlX12_314 viX12_throwPose rfl k_166 z_166 (s_X12_throwPose hw hM hD (by omega) hT ht hl ho hC) (Nat.le_of_ble_eq_true rfl) rfl (fun w2 q2 => ?_)
  obtain ⟨k1, k2⟩ := q2
  have hw2 := zFr_wf k1 hw
  have hB2 : mBe w2 k M Y := mBe_o hB ⟨k1.2.1 187 (by decide) (by decide), k1.2.1 188 (by decide) (by decide)⟩
  refine zk_aload_n hX dX12_off_37 rfl ?_
  refine zk_aload_n hX dX12_off_38 rfl ?_
  refine zk_iload_n hX dX12_off_39 rfl ?_
  refine zk_V1i hX dX12_off_40 kcX12_missedBy mlX12_320 viX12_missedBy rfl k_166 z_166 (s_X12_missedBy hw2 hk hB2 k2) (Nat.le_of_ble_eq_true rfl) rfl ?_
  refine zk_aload_n hX dX12_off_43 rfl ?_
  refine zk_iload_n hX dX12_off_44 rfl ?_
  refine zk_V1i hX dX12_off_45 kcX12_offBy mlX12_326 viX12_offBy rfl k_166 z_166 (s_X12_offBy hw2 hk hB2 k2) (Nat.le_of_ble_eq_true rfl) rfl ?_
  refine zk_V2i hX dX12_off_48 kcX12_tells mlX12_153 viX12_tells rfl k_166 z_166 (s_X12_tells _ _) (Nat.le_of_ble_eq_true rfl) rfl ?_
  refine zk_iret hX hE rfl ⟨rfl, rfl⟩ dX12_off_51 ⟨_, rfl, ?_⟩
  exact ⟨rfl, zFr_t (zFr_s k1 (by decide)) (zFr_m (by decide)), by rw [zsi_1, if_pos ⟨rfl, rfl⟩]⟩
theorem zO_off {G : zG} (p k : Int32) : zOi G mX11_off mX12_off [.int p, .int k] := by
  intro w h
  have h0 := h
  obtain ⟨hw, hT, hR, hX, hB, D, z, u, v, T, n, nl, c, hH, hL, hS, hP, hK⟩ := h
  have h12 := hP.1
  by_cases hk0 : (0 ≤ p ∧ p < nI n) ∧ (0 ≤ k ∧ k < 6)
  · obtain ⟨p, hp, rfl⟩ := rn (by omega) hk0.1
    obtain ⟨k, hk, rfl⟩ := r6 hk0.2
    have q := hP.2.2.2 p hp
    obtain ⟨b1, b2, b3, M, Y, b4, b5⟩ := hB k hk
    obtain ⟨C, hC1, hC2⟩ := q.2.2.2.2.2.1
    by_cases hz : w.1 186 k = 0
    · exact zO_find h0 1 (s_X11_off_m hw h12 hP.2.1 hp hk (b1.trans hz)) (s_X12_off_m (zfind_w hw) h12 (by rw [zfind_a (by decide) (by decide)]; exact hP.2.2.1) hp hk (by rw [zfind_a (by decide) (by decide)]; exact hz))
    · have c1 := s_X11_off (G := G) hw h12 hP.2.1 hp hk (by rw [b1]; exact hz) q.2.2.2.2.1 hC1 hL.2.1 hL.1 b4 (Z := zshd z u v (zP D (w.1 (48 + 4 * p)) (-1)) (w.1 183 (3 * p)) C) (by rw [q.2.2.2.1.1]; rfl)
      generalize eZ : zshd z u v (zP D (w.1 (48 + 4 * p)) (-1)) (w.1 183 (3 * p)) C = Z at c1
      generalize e1 : zsi (zsetS w 163 Z) 1 0 (nI (zmis M Z)) = w1 at c1
      have hF1 : zFr [1] [163] [] w w1 := by
        rw [← e1]
        exact zFr_t (zFr_S (by decide)) (zFr_i (by decide) (by decide))
      have c2 := s_X12_off (G := G) (w := w1) (D := D) (t := w.1 (48 + 4 * p)) (C := C) (M := M) (Y := Y) (zFr_wf hF1 hw) (mHd_f hH.2.2.1 hF1 (by decide)) hH.1 h12 (by rw [hF1.2.2.2 33 (by decide)]; exact hP.2.2.1) hp hk (by rw [hF1.2.1 186 (by decide) (by decide)]; exact hz) (qP1_t2 hH.1 q) (fun j hj => by rw [hF1.2.1 184 (by decide) (by decide)]; exact q.2.2.1 j hj) (mLm_o hL.2.2 ⟨hF1.2.2.2 25 (by decide), hF1.2.2.2 26 (by decide), hF1.2.2.2 27 (by decide)⟩) hL.1 (fun y hy => by rw [hF1.2.1 185 (by decide) (by decide)]; exact hC2 y hy) (mBe_o b5 ⟨hF1.2.1 187 (by decide) (by decide), hF1.2.1 188 (by decide) (by decide)⟩)
      rw [hF1.2.1 183 (by decide) (by decide), eZ] at c2
      refine zEi_c c1 (zCi_m c2 (fun a w2 g => ?_))
      obtain ⟨rfl, k1, k2⟩ := g
      have hF : zFr [1, 179, 180, 181, 182] [163] [2, 29] w w2 := zFr_t (zFr_s hF1 (by decide)) (zFr_s k1 (by decide))
      refine ⟨rfl, zQ_told h0 (zFr_wf hF hw) hF.2 (by decide) (qT_v hT ?_ ⟨hF.2.2.1 1 (by decide), hF.2.2.1 166 (by decide)⟩ ⟨?_, hF.2.2.2 0 (by decide)⟩ ⟨hF.2.1 2 (by decide) (by decide), hF.2.1 167 (by decide) (by decide)⟩)⟩
      · rw [k1.2.1 1 (by decide) (by decide), k2, ← e1, zsi_1, if_pos ⟨rfl, rfl⟩]
      · rw [k1.2.1 1 (by decide) (by decide), ← e1, zsi_1, if_neg (by omega), zsetS_1]
  · exact zOe (s_X11_off_bad hw p k (by rw [hP.2.1]; exact hk0)) (s_X12_off_bad h12 hP.2.2.1 p k hk0) rfl h0
