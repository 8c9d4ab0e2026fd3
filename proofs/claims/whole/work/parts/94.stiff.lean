/-! stiff: a joint that is stiff -/
def zsr1 (x y : Int32) : Int32 := if x = -9 then -9 else x - y
def zsr2 (x e : Int32) : Int32 := if x = -9 then e else x
theorem s_X11_stiff_bad {G : zG} {w : zW} (hw : zWf w) (j k : Int32) (h : ¬ ((0 ≤ j ∧ j < w.1 26 2) ∧ (0 ≤ k ∧ k < 6))) : zEi G mX11_stiff [.ref 0, .int j, .int k] w (-1) w := by
  refine zC_of (lo := [_, _, _, _]) kcX11_stiff (Nat.le_of_ble_eq_true rfl) rfl (fun X hX hE => ?_)
  refine zk_aload_n hX dX11_stiff_0 rfl ?_
  refine zk_iload_n hX dX11_stiff_1 rfl ?_
  refine zk_V1i hX dX11_stiff_2 kcX11_isJoint mlX11_186 viX11_isJoint rfl k_0 z_0 (s_X11_isJoint hw _) (Nat.le_of_ble_eq_true rfl) rfl ?_
  refine zk_if_eqB (tgt := 15) hX dX11_stiff_5 (by decide) (fun c5 => ?_) (fun c5 => ?_)
  · refine zk_iconst (v := -1) hX dX11_stiff_15 (by decide) ?_
    refine zk_iret hX hE rfl ⟨rfl, rfl⟩ dX11_stiff_16 ⟨_, rfl, ?_⟩
    exact ⟨rfl, rfl⟩
  · refine zk_iload_n hX dX11_stiff_8 rfl ?_
    refine zk_S1i hX dX11_stiff_9 kcX11_isBeast mlX11_272 smX11_isBeast rfl (s_X11_isBeast _) (Nat.le_of_ble_eq_true rfl) rfl ?_
    refine zk_if_neB (tgt := 17) hX dX11_stiff_12 (by decide) (fun c12 => ?_) (fun c12 => ?_)
    · exact absurd c12 (fun q => h ⟨by first | exact c5 | exact Decidable.not_not.mp c5, q⟩)
    refine zk_iconst (v := -1) hX dX11_stiff_15 (by decide) ?_
    refine zk_iret hX hE rfl ⟨rfl, rfl⟩ dX11_stiff_16 ⟨_, rfl, ?_⟩
    exact ⟨rfl, rfl⟩
theorem s_X11_stiff_m {G : zG} {w : zW} {n j k : Nat} (hw : zWf w) (hn : n ≤ 6) (hJ : w.1 26 2 = nI n) (hj : j < n) (hk : k < 6) (h : w.1 (96 + 3 * k) 3 = 0) : zEi G mX11_stiff [.ref 0, .int (nI j), .int (nI k)] w (-3) (zfind w 1) := by
  refine zC_of (lo := [_, _, _, _]) kcX11_stiff (Nat.le_of_ble_eq_true rfl) rfl (fun X hX hE => ?_)
  refine zk_aload_n hX dX11_stiff_0 rfl ?_
  refine zk_iload_n hX dX11_stiff_1 rfl ?_
  refine zk_V1i hX dX11_stiff_2 kcX11_isJoint mlX11_186 viX11_isJoint rfl k_0 z_0 (s_X11_isJoint hw _) (Nat.le_of_ble_eq_true rfl) rfl ?_
  refine zk_if_eqB (tgt := 15) hX dX11_stiff_5 (by decide) (fun c5 => ?_) (fun c5 => ?_)
  · exact absurd c5 (not_not_intro (by rw [hJ]; exact ⟨nI_pos' (by omega), nI_lt hj (by omega)⟩))
  refine zk_iload_n hX dX11_stiff_8 rfl ?_
  refine zk_S1i hX dX11_stiff_9 kcX11_isBeast mlX11_272 smX11_isBeast rfl (s_X11_isBeast _) (Nat.le_of_ble_eq_true rfl) rfl ?_
  refine zk_if_neB (tgt := 17) hX dX11_stiff_12 (by decide) (fun c12 => ?_) (fun c12 => ?_)
  rotate_left
  · exact absurd (zrlt hk) c12
  refine zk_aload_n hX dX11_stiff_17 rfl ?_
  refine zk_getR hX dX11_stiff_18 flX11_68 k_0 z_0 (hw _ _ (by decide) |>.trans r_0_11) ?_
  refine zk_iload_n hX dX11_stiff_21 rfl ?_
  refine zk_beasts hX hw dX11_stiff_22 rfl (by first | assumption | omega) ?_
  refine zk_getI hX dX11_stiff_23 flX11_284 (zBek (by first | assumption | omega)) (zBez _ (by first | assumption | omega)).1 ?_
  refine zk_if_ne (tgt := 38) hX dX11_stiff_26 (by decide) (fun c26 => ?_) (fun c26 => ?_)
  · exact absurd c26 (fun q => q h)
  refine zk_aload_n hX dX11_stiff_29 rfl ?_
  refine zk_getR hX dX11_stiff_30 flX11_12 k_0 z_0 (hw _ _ (by decide) |>.trans r_0_0) ?_
  refine zk_iconst (v := 1) hX dX11_stiff_33 (by decide) ?_
  refine zk_V1i hX dX11_stiff_34 kcX9_find mlX11_111 viX9_find rfl k_1 z_1 (s_X9_find hw _ (by decide)) (Nat.le_of_ble_eq_true rfl) rfl ?_
  refine zk_iret hX hE rfl ⟨rfl, rfl⟩ dX11_stiff_37 ⟨_, rfl, ?_⟩
  exact ⟨rfl, rfl⟩
theorem s_X11_stiff_s {G : zG} {w : zW} {n j k : Nat} (hw : zWf w) (hn : n ≤ 6) (hJ : w.1 26 2 = nI n) (hj : j < n) (hk : k < 6) (h : ¬ w.1 (96 + 3 * k) 3 = 0) (hs : w.1 131 0 = 1) : zEi G mX11_stiff [.ref 0, .int (nI j), .int (nI k)] w (-6) w := by
  refine zC_of (lo := [_, _, _, _]) kcX11_stiff (Nat.le_of_ble_eq_true rfl) rfl (fun X hX hE => ?_)
  refine zk_aload_n hX dX11_stiff_0 rfl ?_
  refine zk_iload_n hX dX11_stiff_1 rfl ?_
  refine zk_V1i hX dX11_stiff_2 kcX11_isJoint mlX11_186 viX11_isJoint rfl k_0 z_0 (s_X11_isJoint hw _) (Nat.le_of_ble_eq_true rfl) rfl ?_
  refine zk_if_eqB (tgt := 15) hX dX11_stiff_5 (by decide) (fun c5 => ?_) (fun c5 => ?_)
  · exact absurd c5 (not_not_intro (by rw [hJ]; exact ⟨nI_pos' (by omega), nI_lt hj (by omega)⟩))
  refine zk_iload_n hX dX11_stiff_8 rfl ?_
  refine zk_S1i hX dX11_stiff_9 kcX11_isBeast mlX11_272 smX11_isBeast rfl (s_X11_isBeast _) (Nat.le_of_ble_eq_true rfl) rfl ?_
  refine zk_if_neB (tgt := 17) hX dX11_stiff_12 (by decide) (fun c12 => ?_) (fun c12 => ?_)
  rotate_left
  · exact absurd (zrlt hk) c12
  refine zk_aload_n hX dX11_stiff_17 rfl ?_
  refine zk_getR hX dX11_stiff_18 flX11_68 k_0 z_0 (hw _ _ (by decide) |>.trans r_0_11) ?_
  refine zk_iload_n hX dX11_stiff_21 rfl ?_
  refine zk_beasts hX hw dX11_stiff_22 rfl (by first | assumption | omega) ?_
  refine zk_getI hX dX11_stiff_23 flX11_284 (zBek (by first | assumption | omega)) (zBez _ (by first | assumption | omega)).1 ?_
  refine zk_if_ne (tgt := 38) hX dX11_stiff_26 (by decide) (fun c26 => ?_) (fun c26 => ?_)
  rotate_left
  · exact absurd c26 h
  refine zk_aload_n hX dX11_stiff_38 rfl ?_
  refine zk_getR hX dX11_stiff_39 flX11_83 k_0 z_0 (hw _ _ (by decide) |>.trans r_0_13) ?_
  refine zk_getI hX dX11_stiff_42 flX11_302 k_131 z_131 ?_
  rw [hs]
  refine zk_if_eq (tgt := 51) hX dX11_stiff_45 (by decide) (fun c45 => ?_) (fun c45 => ?_)
  · exact absurd c45 (by decide)
  refine zk_bipush (v := -6) hX dX11_stiff_48 (by decide) ?_
  refine zk_iret hX hE rfl ⟨rfl, rfl⟩ dX11_stiff_50 ⟨_, rfl, ?_⟩
  exact ⟨rfl, rfl⟩
theorem s_X11_stiff {G : zG} {w : zW} {D : zD} {j k z u v T : Nat} {M Y : zS} (hw : zWf w) (hD : zDok D) (hH : cHd w 26 D) (hRe : cRe w D) (hN : zpr (zsp D) (dJ D) ≤ 4096) (hT9 : T ≤ 99) (hS : w.1 0 8 = nI T) (hL : zLm w 44 z u v) (ho : zlok z u v) (hj : j < dJ D) (hk : k < 6) (h : ¬ w.1 (96 + 3 * k) 3 = 0) (hB : cBe w k M Y) {α β : Int32}
    (hα : zoe ((zbst (rHs D T j) (rO D (-1) z u v M Y) (zN_ D (-1) (dF D))).map (rO D (-1) z u v M Y)) = α) (hβ : zoe ((zbst (rH D (-1) T) (rO D (-1) z u v M Y) (zN_ D (-1) (dF D))).map (rO D (-1) z u v M Y)) = β) :
    zCi G mX11_stiff [.ref 0, .int (nI j), .int (nI k)] w (fun a w' => a = zsr1 α β ∧ zFr [1] [137, 138, 143, 144, 146] [] w w' ∧ (∀ i, i ≠ 0 → w'.1 1 i = w.1 1 i) ∧ w'.1 1 0 = zsr2 α (w.1 1 0)) := by
  have h6 := hD.1.2.2
  have hc := hRe.2.2.2 hN
  have hs : w.1 131 0 = 0 := by rw [hRe.2.2.1, if_neg (by omega)]
  have hT : cTab w D (-1) := ⟨hc.1, hc.2, by rw [zN_code hD]; exact hN⟩
  have pre : ∀ w1, zFr [1] [137, 138, 143, 144, 146] [] w w1 → zWf w1 ∧ cHd w1 26 D ∧ cTab w1 D (-1) ∧ cBe w1 k M Y ∧ cStep w1 D ∧ w1.1 0 8 = nI T := fun w1 hF => ⟨zFr_wf hF hw, cHd_o hH (fun a h1 h2 => hF.2.1 a (by simp; omega) (by omega)), cTab_f hT hF (by decide), ⟨zHas_o hB.1 (hF.2.2.1 _ (by simp; omega)), zHas_o hB.2 (hF.2.2.1 _ (by simp; omega))⟩, fun j hj => by rw [hF.2.1 132 (by decide) (by decide), hF.2.1 133 (by decide) (by decide)]; exact hRe.1 j hj, by rw [hF.2.1 0 (by decide) (by decide)]; exact hS⟩
  refine zC_of (lo := [_, _, _, _]) kcX11_stiff (Nat.le_of_ble_eq_true rfl) rfl (fun X hX hE => ?_)
  refine zk_aload_n hX dX11_stiff_0 rfl ?_
  refine zk_iload_n hX dX11_stiff_1 rfl ?_
  refine zk_V1i hX dX11_stiff_2 kcX11_isJoint mlX11_186 viX11_isJoint rfl k_0 z_0 (s_X11_isJoint hw _) (Nat.le_of_ble_eq_true rfl) rfl ?_
  refine zk_if_eqB (tgt := 15) hX dX11_stiff_5 (by decide) (fun c5 => ?_) (fun c5 => ?_)
  · exact absurd c5 (not_not_intro (by rw [hH.1.2.2]; exact ⟨nI_pos' (by omega), nI_lt hj (by omega)⟩))
  refine zk_iload_n hX dX11_stiff_8 rfl ?_
  refine zk_S1i hX dX11_stiff_9 kcX11_isBeast mlX11_272 smX11_isBeast rfl (s_X11_isBeast _) (Nat.le_of_ble_eq_true rfl) rfl ?_
  refine zk_if_neB (tgt := 17) hX dX11_stiff_12 (by decide) (fun c12 => ?_) (fun c12 => ?_)
  rotate_left
  · exact absurd (zrlt hk) c12
  refine zk_aload_n hX dX11_stiff_17 rfl ?_
  refine zk_getR hX dX11_stiff_18 flX11_68 k_0 z_0 (hw _ _ (by decide) |>.trans r_0_11) ?_
  refine zk_iload_n hX dX11_stiff_21 rfl ?_
  refine zk_beasts hX hw dX11_stiff_22 rfl (by first | assumption | omega) ?_
  refine zk_getI hX dX11_stiff_23 flX11_284 (zBek (by first | assumption | omega)) (zBez _ (by first | assumption | omega)).1 ?_
  refine zk_if_ne (tgt := 38) hX dX11_stiff_26 (by decide) (fun c26 => ?_) (fun c26 => ?_)
  rotate_left
  · exact absurd c26 h
  refine zk_aload_n hX dX11_stiff_38 rfl ?_
  refine zk_getR hX dX11_stiff_39 flX11_83 k_0 z_0 (hw _ _ (by decide) |>.trans r_0_13) ?_
  refine zk_getI hX dX11_stiff_42 flX11_302 k_131 z_131 ?_
  rw [hs]
  refine zk_if_eq (tgt := 51) hX dX11_stiff_45 (by decide) (fun c45 => ?_) (fun c45 => ?_)
  rotate_left
  · exact absurd rfl c45
  refine zk_aload_n hX dX11_stiff_51 rfl ?_
  refine zk_getR hX dX11_stiff_52 flX11_83 k_0 z_0 (hw _ _ (by decide) |>.trans r_0_13) ?_
  refine zk_aload_n hX dX11_stiff_55 rfl ?_
  refine zk_getR hX dX11_stiff_56 flX11_38 k_0 z_0 (hw _ _ (by decide) |>.trans r_0_4) ?_
  refine zk_aload_n hX dX11_stiff_59 rfl ?_
  refine zk_getR hX dX11_stiff_60 flX11_48 k_0 z_0 (hw _ _ (by decide) |>.trans r_0_6) ?_
  refine zk_iconst (v := -1) hX dX11_stiff_63 (by decide) ?_
  refine zk_V3vp hX dX11_stiff_64 kcX6_shade mlX11_311 viX6_shade rfl k_131 z_131 (s_X6_shade hw hH hD hRe.2.1 hN (Or.inl rfl) hL ho (-1)) (Nat.le_of_ble_eq_true rfl) rfl (fun w1 q1 => ?_)
  have hF1 : zFr [1] [137, 138, 143, 144, 146] [] w w1 := zFr_s q1.1 (by decide)
  obtain ⟨a1, a2, a3, a4, a5, a6⟩ := pre w1 hF1
  have cj := s_X6_leastOff_j (G := G) (j := j) a1 hD a2 a5 hj hT9 a3 q1.2 hk a4
  rw [hα] at cj
  refine zk_aload_n hX dX11_stiff_67 rfl ?_
  refine zk_getR hX dX11_stiff_68 flX11_83 k_0 z_0 (a1 _ _ (by decide) |>.trans r_0_13) ?_
  refine zk_aload_n hX dX11_stiff_71 rfl ?_
  refine zk_getR hX dX11_stiff_72 flX11_38 k_0 z_0 (a1 _ _ (by decide) |>.trans r_0_4) ?_
  refine zk_aload_n hX dX11_stiff_75 rfl ?_
  refine zk_getR hX dX11_stiff_76 flX11_68 k_0 z_0 (a1 _ _ (by decide) |>.trans r_0_11) ?_
  refine zk_iload_n hX dX11_stiff_79 rfl ?_
  refine zk_beasts hX a1 dX11_stiff_80 rfl (by first | assumption | omega) ?_
  refine zk_aload_n hX dX11_stiff_81 rfl ?_
  refine zk_getI hX dX11_stiff_82 flX11_55 k_0 z_0 ?_
  rw [a6]
  refine zk_iload_n hX dX11_stiff_85 rfl ?_
  refine zk_V4i hX dX11_stiff_86 kcX6_leastOff mlX11_396 viX6_leastOff rfl k_131 z_131 cj (Nat.le_of_ble_eq_true rfl) rfl ?_
  refine zk_istore_n (lo' := [_, _, _, _]) hX dX11_stiff_89 (Nat.le_of_ble_eq_true rfl) rfl rfl ?_
  refine zk_iload_n hX dX11_stiff_90 rfl ?_
  refine zk_bipush (v := -9) hX dX11_stiff_91 (by decide) ?_
  refine zk_icmp_ne (tgt := 99) hX dX11_stiff_93 (by decide) (fun c93 => ?_) (fun c93 => ?_)
  · refine zk_aload_n hX dX11_stiff_99 rfl ?_
    refine zk_getR hX dX11_stiff_100 flX11_12 k_0 z_0 (a1 _ _ (by decide) |>.trans r_0_0) ?_
    refine zk_iload_n hX dX11_stiff_103 rfl ?_
    refine zk_V1i hX dX11_stiff_104 kcX9_tell mlX11_132 viX9_tell rfl k_1 z_1 (s_X9_tell _) (Nat.le_of_ble_eq_true rfl) rfl ?_
    have hF2 : zFr [1] [137, 138, 143, 144, 146] [] w (zsi w1 1 0 α) := zFr_t hF1 (zFr_i (by decide) (by decide))
    obtain ⟨b1, b2, b3, b4, b5, b6⟩ := pre _ hF2
    have cn := s_X6_leastOff_n (G := G) (T := T) b1 hD hT9 b3 (cThr_f q1.2 (A := [1]) (B := []) (F := []) (zFr_i (by decide) (by decide)) (by decide)) hk b4
    rw [hβ] at cn
    refine zk_pop hX dX11_stiff_107 rfl ?_
    refine zk_iload_n hX dX11_stiff_108 rfl ?_
    refine zk_aload_n hX dX11_stiff_109 rfl ?_
    refine zk_getR hX dX11_stiff_110 flX11_83 k_0 z_0 (b1 _ _ (by decide) |>.trans r_0_13) ?_
    refine zk_aload_n hX dX11_stiff_113 rfl ?_
    refine zk_getR hX dX11_stiff_114 flX11_38 k_0 z_0 (b1 _ _ (by decide) |>.trans r_0_4) ?_
    refine zk_aload_n hX dX11_stiff_117 rfl ?_
    refine zk_getR hX dX11_stiff_118 flX11_68 k_0 z_0 (b1 _ _ (by decide) |>.trans r_0_11) ?_
    refine zk_iload_n hX dX11_stiff_121 rfl ?_
    refine zk_beasts hX b1 dX11_stiff_122 rfl (by first | assumption | omega) ?_
    refine zk_aload_n hX dX11_stiff_123 rfl ?_
    refine zk_getI hX dX11_stiff_124 flX11_55 k_0 z_0 ?_
    rw [b6]
    refine zk_bipush (v := -9) hX dX11_stiff_127 (by decide) ?_
    refine zk_V4i hX dX11_stiff_129 kcX6_leastOff mlX11_396 viX6_leastOff rfl k_131 z_131 cn (Nat.le_of_ble_eq_true rfl) rfl ?_
    refine zk_isub hX dX11_stiff_132 ?_
    refine zk_iret hX hE rfl ⟨rfl, rfl⟩ dX11_stiff_133 ⟨_, rfl, ?_⟩
    refine ⟨?_, hF2, fun i hi => ?_, ?_⟩
    · unfold zsr1
      rw [if_neg c93]
    · rw [zsi_1, if_neg (fun q => hi q.2), q1.1.2.1 1 (by decide) (by decide)]
    · unfold zsr2
      rw [if_neg c93, zsi_1, if_pos ⟨rfl, rfl⟩]
  · refine zk_bipush (v := -9) hX dX11_stiff_96 (by decide) ?_
    refine zk_iret hX hE rfl ⟨rfl, rfl⟩ dX11_stiff_98 ⟨_, rfl, ?_⟩
    refine ⟨?_, hF1, fun i _ => by rw [q1.1.2.1 1 (by decide) (by decide)], ?_⟩
    · unfold zsr1
      rw [if_pos (by first | exact c93 | exact Decidable.not_not.mp c93)]
    · unfold zsr2
      rw [if_pos (by first | exact c93 | exact Decidable.not_not.mp c93), q1.1.2.1 1 (by decide) (by decide)]
theorem s_X12_stiff_bad {G : zG} {w : zW} {n : Nat} (hn : n ≤ 6) (hJ : w.1 166 12 = nI n) (j k : Int32) (h : ¬ ((0 ≤ j ∧ j < nI n) ∧ (0 ≤ k ∧ k < 6))) : zEi G mX12_stiff [.ref 166, .int j, .int k] w (-1) w := by
  refine zC_of (lo := [_, _, _, _, _]) kcX12_stiff (Nat.le_of_ble_eq_true rfl) rfl (fun X hX hE => ?_)
  refine zk_aload_n hX dX12_stiff_0 rfl ?_
  refine zk_aload_n hX dX12_stiff_1 rfl ?_
  refine zk_iload_n hX dX12_stiff_2 rfl ?_
  refine zk_V1i hX dX12_stiff_3 kcX12_isJoint mlX12_208 viX12_isJoint rfl k_166 z_166 (s_X12_isJoint (by omega) hJ _) (Nat.le_of_ble_eq_true rfl) rfl ?_
  refine zk_iload_n hX dX12_stiff_6 rfl ?_
  refine zk_V2i hX dX12_stiff_7 kcX12_needBeast mlX12_338 viX12_needBeast rfl k_166 z_166 (s_X12_needBeast_bad k h) (Nat.le_of_ble_eq_true rfl) rfl ?_
  refine zk_istore_n (lo' := [_, _, _, _, _]) hX dX12_stiff_10 (Nat.le_of_ble_eq_true rfl) rfl rfl ?_
  refine zk_iload_n hX dX12_stiff_11 rfl ?_
  refine zk_if_ge (tgt := 17) hX dX12_stiff_12 (by decide) (fun c12 => ?_) (fun c12 => ?_)
  · exact absurd c12 (by decide)
  refine zk_iload_n hX dX12_stiff_15 rfl ?_
  refine zk_iret hX hE rfl ⟨rfl, rfl⟩ dX12_stiff_16 ⟨_, rfl, ?_⟩
  exact ⟨rfl, rfl⟩
theorem s_X12_stiff_m {G : zG} {w : zW} {n j k : Nat} (hw : zWf w) (hn : n ≤ 6) (hJ : w.1 166 12 = nI n) (hj : j < n) (hk : k < 6) (h : w.1 186 k = 0) : zEi G mX12_stiff [.ref 166, .int (nI j), .int (nI k)] w (-3) (mfind w 1) := by
  refine zC_of (lo := [_, _, _, _, _]) kcX12_stiff (Nat.le_of_ble_eq_true rfl) rfl (fun X hX hE => ?_)
  refine zk_aload_n hX dX12_stiff_0 rfl ?_
  refine zk_aload_n hX dX12_stiff_1 rfl ?_
  refine zk_iload_n hX dX12_stiff_2 rfl ?_
  refine zk_V1i hX dX12_stiff_3 kcX12_isJoint mlX12_208 viX12_isJoint rfl k_166 z_166 (s_X12_isJoint (by omega) hJ _) (Nat.le_of_ble_eq_true rfl) rfl ?_
  refine zk_iload_n hX dX12_stiff_6 rfl ?_
  refine zk_V2i hX dX12_stiff_7 kcX12_needBeast mlX12_338 viX12_needBeast rfl k_166 z_166 (s_X12_needBeast_m hw ⟨nI_pos' (by omega), nI_lt hj (by omega)⟩ hk h) (Nat.le_of_ble_eq_true rfl) rfl ?_
  refine zk_istore_n (lo' := [_, _, _, _, _]) hX dX12_stiff_10 (Nat.le_of_ble_eq_true rfl) rfl rfl ?_
  refine zk_iload_n hX dX12_stiff_11 rfl ?_
  refine zk_if_ge (tgt := 17) hX dX12_stiff_12 (by decide) (fun c12 => ?_) (fun c12 => ?_)
  · exact absurd c12 (by decide)
  refine zk_iload_n hX dX12_stiff_15 rfl ?_
  refine zk_iret hX hE rfl ⟨rfl, rfl⟩ dX12_stiff_16 ⟨_, rfl, ?_⟩
  exact ⟨rfl, rfl⟩
theorem s_X12_stiff_s {G : zG} {w : zW} {D : zD} {j k : Nat} (hw : zWf w) (hM : mHd w D) (hD : zDok D) (hj : j < dJ D) (hk : k < 6) (h : ¬ w.1 186 k = 0) (hN : 4096 < zpr (zsp D) (dJ D)) : zEi G mX12_stiff [.ref 166, .int (nI j), .int (nI k)] w (-6) w := by
  have h6 := hD.1.2.2
  refine zC_of (lo := [_, _, _, _, _]) kcX12_stiff (Nat.le_of_ble_eq_true rfl) rfl (fun X hX hE => ?_)
  refine zk_aload_n hX dX12_stiff_0 rfl ?_
  refine zk_aload_n hX dX12_stiff_1 rfl ?_
  refine zk_iload_n hX dX12_stiff_2 rfl ?_
  refine zk_V1i hX dX12_stiff_3 kcX12_isJoint mlX12_208 viX12_isJoint rfl k_166 z_166 (s_X12_isJoint (n := dJ D) (by omega) hM.1.2.2 _) (Nat.le_of_ble_eq_true rfl) rfl ?_
  refine zk_iload_n hX dX12_stiff_6 rfl ?_
  refine zk_V2i hX dX12_stiff_7 kcX12_needBeast mlX12_338 viX12_needBeast rfl k_166 z_166 (s_X12_needBeast_s hw hM hD ⟨nI_pos' (by omega), nI_lt hj (by omega)⟩ hk h hN) (Nat.le_of_ble_eq_true rfl) rfl ?_
  refine zk_istore_n (lo' := [_, _, _, _, _]) hX dX12_stiff_10 (Nat.le_of_ble_eq_true rfl) rfl rfl ?_
  refine zk_iload_n hX dX12_stiff_11 rfl ?_
  refine zk_if_ge (tgt := 17) hX dX12_stiff_12 (by decide) (fun c12 => ?_) (fun c12 => ?_)
  · exact absurd c12 (by decide)
  refine zk_iload_n hX dX12_stiff_15 rfl ?_
  refine zk_iret hX hE rfl ⟨rfl, rfl⟩ dX12_stiff_16 ⟨_, rfl, ?_⟩
  exact ⟨rfl, rfl⟩
theorem s_X12_stiff {G : zG} {w : zW} {D : zD} {j k z u v T : Nat} {M Y : zS} (hw : zWf w) (hM : mHd w D) (hD : zDok D) (hN : zpr (zsp D) (dJ D) ≤ 4096) (hT9 : T ≤ 99) (hS : w.1 166 24 = nI T) (hl : mLm w z u v) (ho : zlok z u v) (hj : j < dJ D) (hk : k < 6) (h : ¬ w.1 186 k = 0) (hB : mBe w k M Y) {α β : Int32}
    (hα : zoe ((zbst (fun i => mQ D (-1) T i && decide (zcode_t D i j = 0)) (mF D (-1) z u v M Y) (zpr (zsp D) (dJ D))).map (mF D (-1) z u v M Y)) = α) (hβ : zoe ((zbst (mQ D (-1) T) (mF D (-1) z u v M Y) (zpr (zsp D) (dJ D))).map (mF D (-1) z u v M Y)) = β) :
    zCi G mX12_stiff [.ref 166, .int (nI j), .int (nI k)] w (fun a w' => a = zsr1 α β ∧ zFr [179, 180, 181, 182] [] [2, 29, 41] w w' ∧ w'.1 166 2 = zsr2 α (w.1 166 2)) := by
  have h6 := hD.1.2.2
  have pre : ∀ w1, zFr [179, 180, 181, 182] [] [29, 41] w w1 → zWf w1 ∧ mHd w1 D ∧ mBe w1 k M Y ∧ mLm w1 z u v ∧ w1.1 166 24 = nI T := fun w1 hF => ⟨zFr_wf hF hw, mHd_f hM hF (by decide), mBe_o hB ⟨hF.2.1 187 (by decide) (by decide), hF.2.1 188 (by decide) (by decide)⟩, mLm_o hl ⟨hF.2.2.2 25 (by decide), hF.2.2.2 26 (by decide), hF.2.2.2 27 (by decide)⟩, by rw [hF.2.2.2 24 (by decide)]; exact hS⟩
  have cl := s_X12_leastOff (G := G) (T := T) (k := k) (z := z) (u := u) (v := v) (M := M) (Y := Y) (o := -1) (st := nI j) (P := fun i => mQ D (-1) T i && decide (zcode_t D i j = 0)) hw hM hD hS hT9 hN hk hB hl ho (Or.inl rfl) (Or.inr ⟨j, hj, rfl, rfl⟩)
  rw [hα] at cl
  refine zC_of (lo := [_, _, _, _, _]) kcX12_stiff (Nat.le_of_ble_eq_true rfl) rfl (fun X hX hE => ?_)
  refine zk_aload_n hX dX12_stiff_0 rfl ?_
  refine zk_aload_n hX dX12_stiff_1 rfl ?_
  refine zk_iload_n hX dX12_stiff_2 rfl ?_
  refine zk_V1i hX dX12_stiff_3 kcX12_isJoint mlX12_208 viX12_isJoint rfl k_166 z_166 (s_X12_isJoint (n := dJ D) (by omega) hM.1.2.2 _) (Nat.le_of_ble_eq_true rfl) rfl ?_
  refine zk_iload_n hX dX12_stiff_6 rfl ?_
  refine zk_V2i hX dX12_stiff_7 kcX12_needBeast mlX12_338 viX12_needBeast rfl k_166 z_166 (s_X12_needBeast hw hM hD ⟨nI_pos' (by omega), nI_lt hj (by omega)⟩ hk h hN) (Nat.le_of_ble_eq_true rfl) rfl ?_
  refine zk_istore_n (lo' := [_, _, _, _, _]) hX dX12_stiff_10 (Nat.le_of_ble_eq_true rfl) rfl rfl ?_
  refine zk_iload_n hX dX12_stiff_11 rfl ?_
  refine zk_if_ge (tgt := 17) hX dX12_stiff_12 (by decide) (fun c12 => ?_) (fun c12 => ?_)
  rotate_left
  · exact absurd (by decide) c12
  refine zk_aload_n hX dX12_stiff_17 rfl ?_
  refine zk_iload_n hX dX12_stiff_18 rfl ?_
  refine zk_iconst (v := -1) hX dX12_stiff_19 (by decide) ?_
  refine zk_iload_n hX dX12_stiff_20 rfl ?_
  refine zk_V3ip hX dX12_stiff_21 kcX12_leastOff mlX12_342 viX12_leastOff rfl k_166 z_166 cl (Nat.le_of_ble_eq_true rfl) rfl (fun x w1 q1 => ?_)
  obtain ⟨rfl, k1, _⟩ := q1
  obtain ⟨a1, a2, a3, a4, a5⟩ := pre w1 k1
  have cn := s_X12_leastOff (G := G) (T := T) (k := k) (z := z) (u := u) (v := v) (M := M) (Y := Y) (o := -1) (st := -9) (P := mQ D (-1) T) a1 a2 hD a5 hT9 hN hk a3 a4 ho (Or.inl rfl) (Or.inl ⟨rfl, rfl⟩)
  rw [hβ] at cn
  refine zk_istore (lo' := [_, _, _, _, _]) hX dX12_stiff_24 (Nat.le_of_ble_eq_true rfl) rfl rfl ?_
  refine zk_iload hX dX12_stiff_26 rfl ?_
  refine zk_bipush (v := -9) hX dX12_stiff_28 (by decide) ?_
  refine zk_icmp_ne (tgt := 38) hX dX12_stiff_30 (by decide) (fun c30 => ?_) (fun c30 => ?_)
  · refine zk_aload_n hX dX12_stiff_38 rfl ?_
    refine zk_iload hX dX12_stiff_39 rfl ?_
    refine zk_iload hX dX12_stiff_41 rfl ?_
    refine zk_aload_n hX dX12_stiff_43 rfl ?_
    refine zk_iload_n hX dX12_stiff_44 rfl ?_
    refine zk_iconst (v := -1) hX dX12_stiff_45 (by decide) ?_
    refine zk_bipush (v := -9) hX dX12_stiff_46 (by decide) ?_
    refine zk_V3ip hX dX12_stiff_48 kcX12_leastOff mlX12_342 viX12_leastOff rfl k_166 z_166 cn (Nat.le_of_ble_eq_true rfl) rfl (fun y w2 q2 => ?_)
    obtain ⟨rfl, k2, _⟩ := q2
    have hF2 : zFr [179, 180, 181, 182] [] [2, 29, 41] w w2 := zFr_s (zFr_t k1 k2) (by decide)
    refine zk_isub hX dX12_stiff_51 ?_
    refine zk_V2i hX dX12_stiff_52 kcX12_tells mlX12_153 viX12_tells rfl k_166 z_166 (s_X12_tells _ _) (Nat.le_of_ble_eq_true rfl) rfl ?_
    refine zk_iret hX hE rfl ⟨rfl, rfl⟩ dX12_stiff_55 ⟨_, rfl, ?_⟩
    first
    | exact ⟨by unfold zsr1; rw [if_pos (by first | exact c30 | exact Decidable.not_not.mp c30)], zFr_s k1 (by decide), by unfold zsr2; rw [if_pos (by first | exact c30 | exact Decidable.not_not.mp c30), k1.2.2.2 2 (by decide)]⟩
    | exact ⟨by unfold zsr1; rw [if_neg c30], zFr_t hF2 (zFr_m (by decide)), by unfold zsr2; rw [if_neg c30, zsi_1, if_pos ⟨rfl, rfl⟩]⟩
  · refine zk_bipush (v := -9) hX dX12_stiff_33 (by decide) ?_
    refine zk_goto (tgt := 55) hX dX12_stiff_35 (by decide) ?_
    refine zk_iret hX hE rfl ⟨rfl, rfl⟩ dX12_stiff_55 ⟨_, rfl, ?_⟩
    first
    | exact ⟨by unfold zsr1; rw [if_pos (by first | exact c30 | exact Decidable.not_not.mp c30)], zFr_s k1 (by decide), by unfold zsr2; rw [if_pos (by first | exact c30 | exact Decidable.not_not.mp c30), k1.2.2.2 2 (by decide)]⟩
    | exact ⟨by unfold zsr1; rw [if_neg c30], zFr_t hF2 (zFr_m (by decide)), by unfold zsr2; rw [if_neg c30, zsi_1, if_pos ⟨rfl, rfl⟩]⟩
theorem zO_stiff {G : zG} (j k : Int32) : zOi G mX11_stiff mX12_stiff [.int j, .int k] := by
  intro w h
  have h0 := h
  obtain ⟨hw, hT, hR, hX, hB, D, z, u, v, T, n, nl, c, hH, hL, hS, hP, hK⟩ := h
  obtain ⟨hD, hH1, hM, hRe⟩ := hH
  have h6 := hD.1.2.2
  by_cases hk0 : (0 ≤ j ∧ j < nI (dJ D)) ∧ (0 ≤ k ∧ k < 6)
  · obtain ⟨j, hj, rfl⟩ := rn (by omega) hk0.1
    obtain ⟨k, hk, rfl⟩ := r6 hk0.2
    obtain ⟨b1, b2, b3, M, Y, b4, b5⟩ := hB k hk
    by_cases hz : w.1 186 k = 0
    · exact zO_find h0 1 (s_X11_stiff_m hw h6 hH1.1.2.2 hj hk (b1.trans hz)) (s_X12_stiff_m (zfind_w hw) h6 (by rw [zfind_a (by decide) (by decide)]; exact hM.1.2.2) hj hk (by rw [zfind_a (by decide) (by decide)]; exact hz))
    · have hz' : ¬ w.1 (96 + 3 * k) 3 = 0 := by rw [b1]; exact hz
      by_cases hN : 4096 < zpr (zsp D) (dJ D)
      · exact zOe (s_X11_stiff_s hw h6 hH1.1.2.2 hj hk hz' (by rw [hRe.2.2.1, if_pos hN])) (s_X12_stiff_s hw hM hD hj hk hz hN) rfl h0
      · have eb : zbst (rH D (-1) T) (rO D (-1) z u v M Y) (zN_ D (-1) (dF D)) = zbst (mQ D (-1) T) (mF D (-1) z u v M Y) (zpr (zsp D) (dJ D)) := by
          rw [zN_code hD]
          exact zbst_c (fun i hi => rH_code hD hi) (fun i hi => rO_code hD)
        have ea : zbst (rHs D T j) (rO D (-1) z u v M Y) (zN_ D (-1) (dF D)) = zbst (fun i => mQ D (-1) T i && decide (zcode_t D i j = 0)) (mF D (-1) z u v M Y) (zpr (zsp D) (dJ D)) := by
          rw [zN_code hD]
          exact zbst_c (fun i hi => by unfold rHs; rw [rH_code hD hi]) (fun i hi => rO_code hD)
        have ef : rO D (-1) z u v M Y = mF D (-1) z u v M Y := funext (fun i => rO_code hD)
        refine zCi_m (s_X11_stiff (G := G) (T := T) hw hD hH1 hRe (by omega) hS.1 hS.2.1 hL.2.1 hL.1 hj hk hz' b4 rfl rfl) (fun a w1 g => ?_)
        rw [ea, eb, ef] at g
        obtain ⟨rfl, k1, k2, k3⟩ := g
        refine zCi_m (s_X12_stiff (G := G) (w := w1) (D := D) (T := T) (zFr_wf k1 hw) (mHd_f hM k1 (by decide)) hD (by omega) hS.1 (by rw [k1.2.2.2 24 (by decide)]; exact hS.2.2) (mLm_o hL.2.2 ⟨k1.2.2.2 25 (by decide), k1.2.2.2 26 (by decide), k1.2.2.2 27 (by decide)⟩) hL.1 hj hk (by rw [k1.2.1 186 (by decide) (by decide)]; exact hz) (mBe_o b5 ⟨k1.2.1 187 (by decide) (by decide), k1.2.1 188 (by decide) (by decide)⟩) rfl rfl) (fun a w2 g => ?_)
        obtain ⟨rfl, k4, k5⟩ := g
        have hF : zFr [1, 179, 180, 181, 182] [137, 138, 143, 144, 146] [2, 29, 41] w w2 := zFr_t (zFr_s k1 (by decide)) (zFr_s k4 (by decide))
        refine ⟨rfl, zQ_told h0 (zFr_wf hF hw) hF.2 (by decide) (qT_v hT ?_ ⟨hF.2.2.1 1 (by decide), hF.2.2.1 166 (by decide)⟩ ⟨?_, hF.2.2.2 0 (by decide)⟩ ⟨hF.2.1 2 (by decide) (by decide), hF.2.1 167 (by decide) (by decide)⟩)⟩
        · rw [k4.2.1 1 (by decide) (by decide), k3, k5, k1.2.2.2 2 (by decide), hT.1]
        · rw [k4.2.1 1 (by decide) (by decide), k2 3 (by decide)]
  · exact zOe (s_X11_stiff_bad hw j k (by rw [hH1.1.2.2]; exact hk0)) (s_X12_stiff_bad h6 hM.1.2.2 j k hk0) rfl h0
