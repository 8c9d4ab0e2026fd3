def zsr1 (x y : Int32) : Int32 := if x = -9 then -9 else x - y
def zsr2 (x e : Int32) : Int32 := if x = -9 then e else x
theorem s_X11_stiff_bad {G : zG} {w : zW} (hw : zWf w) (j k : Int32) (h : ¬ ((0 ≤ j ∧ j < w.1 26 2) ∧ (0 ≤ k ∧ k < 6))) : zEi G mX11_stiff [.ref 0, .int j, .int k] w (-1) w := by
  refine zC_of (lo := [_, _, _, _]) kcX11_stiff (Nat.le_of_ble_eq_true rfl) rfl (fun X hX hE => ?_)
  refine zk_aload_n hX dX11_stiff_0 rfl ?_
  refine zk_iload_n hX dX11_stiff_1 rfl ?_
  refine zk_V1i hX dX11_stiff_2 kcX11_isJoint mlX11_186 viX11_isJoint rfl k_0 z_0 (s_X11_isJoint hw _) (Nat.le_of_ble_eq_true rfl) rfl ?_
  refine zk_if_eqB (tgt := 15) hX dX11_stiff_5 (by decide) (fun c5 => ?_) (fun c5 => ?_)
  · refine zk_iconst (v := -1) hX dX11_stiff_15 (by decide) ?_
    refine zk_iret hX hE rfl ⟨rfl, rfl⟩ dX11_stiff_16 ⟨_, rfl, ?_⟩
    exact ⟨rfl, rfl⟩
  · refine zk_iload_n hX dX11_stiff_8 rfl ?_
    refine zk_S1i hX dX11_stiff_9 kcX11_isBeast mlX11_272 smX11_isBeast rfl (s_X11_isBeast _) (Nat.le_of_ble_eq_true rfl) rfl ?_
    refine zk_if_neB (tgt := 17) hX dX11_stiff_12 (by decide) (fun c12 => ?_) (fun c12 => ?_)
    · exact absurd c12 (fun q => h ⟨by first | exact c5 | exact Decidable.not_not.mp c5, q⟩)
    refine zk_iconst (v := -1) hX dX11_stiff_15 (by decide) ?_
    refine zk_iret hX hE rfl ⟨rfl, rfl⟩ dX11_stiff_16 ⟨_, rfl, ?_⟩
    exact ⟨rfl, rfl⟩
theorem s_X11_stiff_m {G : zG} {w : zW} {n j k : Nat} (hw : zWf w) (hn : n ≤ 6) (hJ : w.1 26 2 = nI n) (hj : j < n) (hk : k < 6) (h : w.1 (96 + 3 * k) 3 = 0) : zEi G mX11_stiff [.ref 0, .int (nI j), .int (nI k)] w (-3) (zfind w 1) := by
  refine zC_of (lo := [_, _, _, _]) kcX11_stiff (Nat.le_of_ble_eq_true rfl) rfl (fun X hX hE => ?_)
  refine zk_aload_n hX dX11_stiff_0 rfl ?_
  refine zk_iload_n hX dX11_stiff_1 rfl ?_
  refine zk_V1i hX dX11_stiff_2 kcX11_isJoint mlX11_186 viX11_isJoint rfl k_0 z_0 (s_X11_isJoint hw _) (Nat.le_of_ble_eq_true rfl) rfl ?_
  refine zk_if_eqB (tgt := 15) hX dX11_stiff_5 (by decide) (fun c5 => ?_) (fun c5 => ?_)
  · exact absurd c5 (not_not_intro (by rw [hJ]; exact ⟨nI_pos' (by omega), nI_lt hj (by omega)⟩))
  refine zk_iload_n hX dX11_stiff_8 rfl ?_
  refine zk_S1i hX dX11_stiff_9 kcX11_isBeast mlX11_272 smX11_isBeast rfl (s_X11_isBeast _) (Nat.le_of_ble_eq_true rfl) rfl ?_
  refine zk_if_neB (tgt := 17) hX dX11_stiff_12 (by decide) (fun c12 => ?_) (fun c12 => ?_)
  rotate_left
  · exact absurd (zrlt hk) c12
  refine zk_aload_n hX dX11_stiff_17 rfl ?_
  refine zk_getR hX dX11_stiff_18 flX11_68 k_0 z_0 (hw _ _ (by decide) |>.trans r_0_11) ?_
  refine zk_iload_n hX dX11_stiff_21 rfl ?_
  refine zk_beasts hX hw dX11_stiff_22 rfl (by first | assumption | omega) ?_
  refine zk_getI hX dX11_stiff_23 flX11_284 (zBek (by first | assumption | omega)) (zBez _ (by first | assumption | omega)).1 ?_
  refine zk_if_ne (tgt := 38) hX dX11_stiff_26 (by decide) (fun c26 => ?_) (fun c26 => ?_)
  · exact absurd c26 (fun q => q h)
  refine zk_aload_n hX dX11_stiff_29 rfl ?_
  refine zk_getR hX dX11_stiff_30 flX11_12 k_0 z_0 (hw _ _ (by decide) |>.trans r_0_0) ?_
  refine zk_iconst (v := 1) hX dX11_stiff_33 (by decide) ?_
  refine zk_V1i hX dX11_stiff_34 kcX9_find mlX11_111 viX9_find rfl k_1 z_1 (s_X9_find hw _ (by decide)) (Nat.le_of_ble_eq_true rfl) rfl ?_
  refine zk_iret hX hE rfl ⟨rfl, rfl⟩ dX11_stiff_37 ⟨_, rfl, ?_⟩
  exact ⟨rfl, rfl⟩
theorem s_X11_stiff_s {G : zG} {w : zW} {n j k : Nat} (hw : zWf w) (hn : n ≤ 6) (hJ : w.1 26 2 = nI n) (hj : j < n) (hk : k < 6) (h : ¬ w.1 (96 + 3 * k) 3 = 0) (hs : w.1 131 0 = 1) : zEi G mX11_stiff [.ref 0, .int (nI j), .int (nI k)] w (-6) w := by
  refine zC_of (lo := [_, _, _, _]) kcX11_stiff (Nat.le_of_ble_eq_true rfl) rfl (fun X hX hE => ?_)
  refine zk_aload_n hX dX11_stiff_0 rfl ?_
  refine zk_iload_n hX dX11_stiff_1 rfl ?_
  refine zk_V1i hX dX11_stiff_2 kcX11_isJoint mlX11_186 viX11_isJoint rfl k_0 z_0 (s_X11_isJoint hw _) (Nat.le_of_ble_eq_true rfl) rfl ?_
  refine zk_if_eqB (tgt := 15) hX dX11_stiff_5 (by decide) (fun c5 => ?_) (fun c5 => ?_)
  · exact absurd c5 (not_not_intro (by rw [hJ]; exact ⟨nI_pos' (by omega), nI_lt hj (by omega)⟩))
  refine zk_iload_n hX dX11_stiff_8 rfl ?_
  refine zk_S1i hX dX11_stiff_9 kcX11_isBeast mlX11_272 smX11_isBeast rfl (s_X11_isBeast _) (Nat.le_of_ble_eq_true rfl) rfl ?_
  refine zk_if_neB (tgt := 17) hX dX11_stiff_12 (by decide) (fun c12 => ?_) (fun c12 => ?_)
  rotate_left
  · exact absurd (zrlt hk) c12
  refine zk_aload_n hX dX11_stiff_17 rfl ?_
  refine zk_getR hX dX11_stiff_18 flX11_68 k_0 z_0 (hw _ _ (by decide) |>.trans r_0_11) ?_
  refine zk_iload_n hX dX11_stiff_21 rfl ?_
  refine zk_beasts hX hw dX11_stiff_22 rfl (by first | assumption | omega) ?_
  refine zk_getI hX dX11_stiff_23 flX11_284 (zBek (by first | assumption | omega)) (zBez _ (by first | assumption | omega)).1 ?_
  refine zk_if_ne (tgt := 38) hX dX11_stiff_26 (by decide) (fun c26 => ?_) (fun c26 => ?_)
  rotate_left
  · exact absurd c26 h
  refine zk_aload_n hX dX11_stiff_38 rfl ?_
  refine zk_getR hX dX11_stiff_39 flX11_83 k_0 z_0 (hw _ _ (by decide) |>.trans r_0_13) ?_
  refine zk_getI hX dX11_stiff_42 flX11_302 k_131 z_131 ?_
  rw [hs]
  refine zk_if_eq (tgt := 51) hX dX11_stiff_45 (by decide) (fun c45 => ?_) (fun c45 => ?_)
  · exact absurd c45 (by decide)
  refine zk_bipush (v := -6) hX dX11_stiff_48 (by decide) ?_
  refine zk_iret hX hE rfl ⟨rfl, rfl⟩ dX11_stiff_50 ⟨_, rfl, ?_⟩
  exact ⟨rfl, rfl⟩
theorem s_X11_stiff {G : zG} {w : zW} {D : zD} {j k z u v T : Nat} {M Y : zS} (hw : zWf w) (hD : zDok D) (hH : cHd w 26 D) (hRe : cRe w D) (hN : zpr (zsp D) (dJ D) ≤ 4096) (hT9 : T ≤ 99) (hS : w.1 0 8 = nI T) (hL : zLm w 44 z u v) (ho : zlok z u v) (hj : j < dJ D) (hk : k < 6) (h : ¬ w.1 (96 + 3 * k) 3 = 0) (hB : cBe w k M Y) {α β : Int32}
    (hα : zoe ((zbst (rHs D T j) (rO D (-1) z u v M Y) (zN_ D (-1) (dF D))).map (rO D (-1) z u v M Y)) = α) (hβ : zoe ((zbst (rH D (-1) T) (rO D (-1) z u v M Y) (zN_ D (-1) (dF D))).map (rO D (-1) z u v M Y)) = β) :
    zCi G mX11_stiff [.ref 0, .int (nI j), .int (nI k)] w (fun a w' => a = zsr1 α β ∧ zFr [1] [137, 138, 143, 144, 146] [] w w' ∧ (∀ i, i ≠ 0 → w'.1 1 i = w.1 1 i) ∧ w'.1 1 0 = zsr2 α (w.1 1 0)) := by
  have h6 := hD.1.2.2
  have hc := hRe.2.2.2 hN
  have hs : w.1 131 0 = 0 := by rw [hRe.2.2.1, if_neg (by omega)]
  have hT : cTab w D (-1) := ⟨hc.1, hc.2, by rw [zN_code hD]; exact hN⟩
  have pre : ∀ w1, zFr [1] [137, 138, 143, 144, 146] [] w w1 → zWf w1 ∧ cHd w1 26 D ∧ cTab w1 D (-1) ∧ cBe w1 k M Y ∧ cStep w1 D ∧ w1.1 0 8 = nI T := fun w1 hF => ⟨zFr_wf hF hw, cHd_o hH (fun a h1 h2 => hF.2.1 a (by simp; omega) (by omega)), cTab_f hT hF (by decide), ⟨zHas_o hB.1 (hF.2.2.1 _ (by simp; omega)), zHas_o hB.2 (hF.2.2.1 _ (by simp; omega))⟩, fun j hj => by rw [hF.2.1 132 (by decide) (by decide), hF.2.1 133 (by decide) (by decide)]; exact hRe.1 j hj, by rw [hF.2.1 0 (by decide) (by decide)]; exact hS⟩
  refine zC_of (lo := [_, _, _, _]) kcX11_stiff (Nat.le_of_ble_eq_true rfl) rfl (fun X hX hE => ?_)
  refine zk_aload_n hX dX11_stiff_0 rfl ?_
  refine zk_iload_n hX dX11_stiff_1 rfl ?_
  refine zk_V1i hX dX11_stiff_2 kcX11_isJoint mlX11_186 viX11_isJoint rfl k_0 z_0 (s_X11_isJoint hw _) (Nat.le_of_ble_eq_true rfl) rfl ?_
  refine zk_if_eqB (tgt := 15) hX dX11_stiff_5 (by decide) (fun c5 => ?_) (fun c5 => ?_)
  · exact absurd c5 (not_not_intro (by rw [hH.1.2.2]; exact ⟨nI_pos' (by omega), nI_lt hj (by omega)⟩))
  refine zk_iload_n hX dX11_stiff_8 rfl ?_
  refine zk_S1i hX dX11_stiff_9 kcX11_isBeast mlX11_272 smX11_isBeast rfl (s_X11_isBeast _) (Nat.le_of_ble_eq_true rfl) rfl ?_
  refine zk_if_neB (tgt := 17) hX dX11_stiff_12 (by decide) (fun c12 => ?_) (fun c12 => ?_)
  rotate_left
  · exact absurd (zrlt hk) c12
  refine zk_aload_n hX dX11_stiff_17 rfl ?_
  refine zk_getR hX dX11_stiff_18 flX11_68 k_0 z_0 (hw _ _ (by decide) |>.trans r_0_11) ?_
  refine zk_iload_n hX dX11_stiff_21 rfl ?_
  refine zk_beasts hX hw dX11_stiff_22 rfl (by first | assumption | omega) ?_
  refine zk_getI hX dX11_stiff_23 flX11_284 (zBek (by first | assumption | omega)) (zBez _ (by first | assumption | omega)).1 ?_
  refine zk_if_ne (tgt := 38) hX dX11_stiff_26 (by decide) (fun c26 => ?_) (fun c26 => ?_)
  rotate_left
  · exact absurd c26 h
  refine zk_aload_n hX dX11_stiff_38 rfl ?_
  refine zk_getR hX dX11_stiff_39 flX11_83 k_0 z_0 (hw _ _ (by decide) |>.trans r_0_13) ?_
  refine zk_getI hX dX11_stiff_42 flX11_302 k_131 z_131 ?_
  rw [hs]
  refine zk_if_eq (tgt := 51) hX dX11_stiff_45 (by decide) (fun c45 => ?_) (fun c45 => ?_)
  rotate_left
  · exact absurd rfl c45
  refine zk_aload_n hX dX11_stiff_51 rfl ?_
  refine zk_getR hX dX11_stiff_52 flX11_83 k_0 z_0 (hw _ _ (by decide) |>.trans r_0_13) ?_
  refine zk_aload_n hX dX11_stiff_55 rfl ?_
  refine zk_getR hX dX11_stiff_56 flX11_38 k_0 z_0 (hw _ _ (by decide) |>.trans r_0_4) ?_
  refine zk_aload_n hX dX11_stiff_59 rfl ?_
  refine zk_getR hX dX11_stiff_60 flX11_48 k_0 z_0 (hw _ _ (by decide) |>.trans r_0_6) ?_
  refine zk_iconst (v := -1) hX dX11_stiff_63 (by decide) ?_
  refine zk_V3vp hX dX11_stiff_64 kcX6_shade mlX11_311 viX6_shade rfl k_131 z_131 (s_X6_shade hw hH hD hRe.2.1 hN (Or.inl rfl) hL ho (-1)) (Nat.le_of_ble_eq_true rfl) rfl (fun w1 q1 => ?_)
  have hF1 : zFr [1] [137, 138, 143, 144, 146] [] w w1 := zFr_s q1.1 (by decide)
  obtain ⟨a1, a2, a3, a4, a5, a6⟩ := pre w1 hF1
  have cj := s_X6_leastOff_j (G := G) (j := j) a1 hD a2 a5 hj hT9 a3 q1.2 hk a4
  rw [hα] at cj
  refine zk_aload_n hX dX11_stiff_67 rfl ?_
  refine zk_getR hX dX11_stiff_68 flX11_83 k_0 z_0 (a1 _ _ (by decide) |>.trans r_0_13) ?_
  refine zk_aload_n hX dX11_stiff_71 rfl ?_
  refine zk_getR hX dX11_stiff_72 flX11_38 k_0 z_0 (a1 _ _ (by decide) |>.trans r_0_4) ?_
  refine zk_aload_n hX dX11_stiff_75 rfl ?_
  refine zk_getR hX dX11_stiff_76 flX11_68 k_0 z_0 (a1 _ _ (by decide) |>.trans r_0_11) ?_
  refine zk_iload_n hX dX11_stiff_79 rfl ?_
  refine zk_beasts hX a1 dX11_stiff_80 rfl (by first | assumption | omega) ?_
  refine zk_aload_n hX dX11_stiff_81 rfl ?_
  refine zk_getI hX dX11_stiff_82 flX11_55 k_0 z_0 ?_
  rw [a6]
  refine zk_iload_n hX dX11_stiff_85 rfl ?_
  refine zk_V4i hX dX11_stiff_86 kcX6_leastOff mlX11_396 viX6_leastOff rfl k_131 z_131 cj (Nat.le_of_ble_eq_true rfl) rfl ?_
  refine zk_istore_n (lo' := [_, _, _, _]) hX dX11_stiff_89 (Nat.le_of_ble_eq_true rfl) rfl rfl ?_
  refine zk_iload_n hX dX11_stiff_90 rfl ?_
  refine zk_bipush (v := -9) hX dX11_stiff_91 (by decide) ?_
  refine zk_icmp_ne (tgt := 99) hX dX11_stiff_93 (by decide) (fun c93 => ?_) (fun c93 => ?_)
  · refine zk_aload_n hX dX11_stiff_99 rfl ?_
    refine zk_getR hX dX11_stiff_100 flX11_12 k_0 z_0 (a1 _ _ (by decide) |>.trans r_0_0) ?_
    refine zk_iload_n hX dX11_stiff_103 rfl ?_
    refine zk_V1i hX dX11_stiff_104 kcX9_tell mlX11_132 viX9_tell rfl k_1 z_1 (s_X9_tell _) (Nat.le_of_ble_eq_true rfl) rfl ?_
    have hF2 : zFr [1] [137, 138, 143, 144, 146] [] w (zsi w1 1 0 α) := zFr_t hF1 (zFr_i (by decide) (by decide))
    obtain ⟨b1, b2, b3, b4, b5, b6⟩ := pre _ hF2
    have cn := s_X6_leastOff_n (G := G) (T := T) b1 hD hT9 b3 (cThr_f q1.2 (A := [1]) (B := []) (F := []) (zFr_i (by decide) (by decide)) (by decide)) hk b4
    rw [hβ] at cn
    refine zk_pop hX dX11_stiff_107 rfl ?_
    refine zk_iload_n hX dX11_stiff_108 rfl ?_
    refine zk_aload_n hX dX11_stiff_109 rfl ?_
    refine zk_getR hX dX11_stiff_110 flX11_83 k_0 z_0 (b1 _ _ (by decide) |>.trans r_0_13) ?_
    refine zk_aload_n hX dX11_stiff_113 rfl ?_
    refine zk_getR hX dX11_stiff_114 flX11_38 k_0 z_0 (b1 _ _ (by decide) |>.trans r_0_4) ?_
    refine zk_aload_n hX dX11_stiff_117 rfl ?_
    refine zk_getR hX dX11_stiff_118 flX11_68 k_0 z_0 (b1 _ _ (by decide) |>.trans r_0_11) ?_
    refine zk_iload_n hX dX11_stiff_121 rfl ?_
    refine zk_beasts hX b1 dX11_stiff_122 rfl (by first | assumption | omega) ?_
    refine zk_aload_n hX dX11_stiff_123 rfl ?_
    refine zk_getI hX dX11_stiff_124 flX11_55 k_0 z_0 ?_
    rw [b6]
    refine zk_bipush (v := -9) hX dX11_stiff_127 (by decide) ?_
    refine zk_V4i hX dX11_stiff_129 kcX6_leastOff mlX11_396 viX6_leastOff rfl k_131 z_131 cn (Nat.le_of_ble_eq_true rfl) rfl ?_
    refine zk_isub hX dX11_stiff_132 ?_
    refine zk_iret hX hE rfl ⟨rfl, rfl⟩ dX11_stiff_133 ⟨_, rfl, ?_⟩
    refine ⟨?_, hF2, fun i hi => ?_, ?_⟩
    · unfold zsr1
      rw [if_neg c93]
    · rw [zsi_1, if_neg (fun q => hi q.2), q1.1.2.1 1 (by decide) (by decide)]
    · unfold zsr2
      rw [if_neg c93, zsi_1, if_pos ⟨rfl, rfl⟩]
  · refine zk_bipush (v := -9) hX dX11_stiff_96 (by decide) ?_
    refine zk_iret hX hE rfl ⟨rfl, rfl⟩ dX11_stiff_98 ⟨_, rfl, ?_⟩
    refine ⟨?_, hF1, fun i _ => by rw [q1.1.2.1 1 (by decide) (by decide)], ?_⟩
    · unfold zsr1
      rw [if_pos (by first | exact c93 | exact Decidable.not_not.mp c93)]
    · unfold zsr2
      rw [if_pos (by first | exact c93 | exact Decidable.not_not.mp c93), q1.1.2.1 1 (by decide) (by decide)]
