theorem cThr_g {A B F : List Nat} {w w' : zW} {D : zD} {o : Int32} {z u v n : Nat} (h : cThr w D o z u v n) (hF : zFr A B F w w') (k : okc [137, 138] B = true) : cThr w' D o z u v n := by
  intro i hi
  rw [hF.2.2.1 137 (okc_m k (by simp)), hF.2.2.1 138 (okc_m k (by simp))]
  exact h i hi
theorem s_X11_nearest {G : zG} {w : zW} {D : zD} {k r z u v T : Nat} {M Y : zS} (hw : zWf w) (hD : zDok D) (hH : cHd w 26 D) (hRe : cRe w D) (hN : zpr (zsp D) (dJ D) ≤ 4096) (hT9 : T ≤ 99) (hS : w.1 0 8 = nI T) (hL : zLm w 44 z u v) (ho : zlok z u v) (hk : k < 6) (hr : r < 6) (h : ¬ w.1 (96 + 3 * k) 3 = 0) (hB : cBe w k M Y) :
    zCi G mX11_nearest [.ref 0, .int (nI k), .int (nI r)] w (fun a w' => a = zoe ((zbst (mQ D (-1) T) (mF D (-1) z u v M Y) (zpr (zsp D) (dJ D))).map (mF D (-1) z u v M Y)) ∧
      ((zbst (mQ D (-1) T) (mF D (-1) z u v M Y) (zpr (zsp D) (dJ D)) = none ∧ zFr [] [137, 138, 143, 144, 146] [] w w') ∨ ∃ b, zbst (mQ D (-1) T) (mF D (-1) z u v M Y) (zpr (zsp D) (dJ D)) = some b ∧ b < zpr (zsp D) (dJ D) ∧ ∃ w1, zFr [] [137, 138, 143, 144, 146] [] w w1 ∧ cRowW w1 r (dJ D) (zcode_t D b) w')) := by
  have h6 := hD.1.2.2
  have hc := hRe.2.2.2 hN
  have eb : zbst (rH D (-1) T) (rO D (-1) z u v M Y) (zN_ D (-1) (dF D)) = zbst (mQ D (-1) T) (mF D (-1) z u v M Y) (zpr (zsp D) (dJ D)) := by
    rw [zN_code hD]
    exact zbst_c (fun i hi => rH_code hD hi) (fun i hi => rO_code hD)
  have hs : w.1 131 0 = 0 := by rw [hRe.2.2.1, if_neg (by omega)]
  have pre : ∀ w1, zFr [] [137, 138, 143, 144, 146] [] w w1 → cThr w1 D (-1) z u v (dF D) → zWf w1 ∧ cHd w1 26 D ∧ cTab w1 D (-1) ∧ cBe w1 k M Y ∧ cStep w1 D := fun w1 hF hR => ⟨zFr_wf hF hw, cHd_o hH (fun a h1 h2 => hF.2.1 a (by simp) (by omega)), cTab_f ⟨hc.1, hc.2, by rw [zN_code hD]; exact hN⟩ hF (by decide), ⟨zHas_o hB.1 (hF.2.2.1 _ (by simp; omega)), zHas_o hB.2 (hF.2.2.1 _ (by simp; omega))⟩, fun j hj => by rw [hF.2.1 132 (by decide) (by decide), hF.2.1 133 (by decide) (by decide)]; exact hRe.1 j hj⟩
  rcases zbst_ok (mQ D (-1) T) (mF D (-1) z u v M Y) (zpr (zsp D) (dJ D)) with ⟨e, _⟩ | ⟨b, e, hb, _, _⟩
  · rw [e]
    have en : zoe (zbst (rH D (-1) T) (rO D (-1) z u v M Y) (zN_ D (-1) (dF D))) = -9 := by rw [eb, e]; rfl
    refine zC_of (lo := [_, _, _, _, _]) kcX11_nearest (Nat.le_of_ble_eq_true rfl) rfl (fun X hX hE => ?_)
    refine zk_iload_n hX dX11_nearest_0 rfl ?_
    refine zk_S1i hX dX11_nearest_1 kcX11_isBeast mlX11_272 smX11_isBeast rfl (s_X11_isBeast _) (Nat.le_of_ble_eq_true rfl) rfl ?_
    refine zk_if_eqB (tgt := 14) hX dX11_nearest_4 (by decide) (fun c4 => ?_) (fun c4 => ?_)
    · exact absurd c4 (not_not_intro (zrlt hk))
    refine zk_iload_n hX dX11_nearest_7 rfl ?_
    refine zk_S1i hX dX11_nearest_8 kcX11_isRow mlX11_107 smX11_isRow rfl (s_X11_isRow _) (Nat.le_of_ble_eq_true rfl) rfl ?_
    refine zk_if_neB (tgt := 16) hX dX11_nearest_11 (by decide) (fun c11 => ?_) (fun c11 => ?_)
    rotate_left
    · exact absurd (zrlt hr) c11
    refine zk_aload_n hX dX11_nearest_16 rfl ?_
    refine zk_getR hX dX11_nearest_17 flX11_68 k_0 z_0 (hw _ _ (by decide) |>.trans r_0_11) ?_
    refine zk_iload_n hX dX11_nearest_20 rfl ?_
    refine zk_beasts hX hw dX11_nearest_21 rfl (by first | assumption | omega) ?_
    refine zk_getI hX dX11_nearest_22 flX11_284 (zBek (by first | assumption | omega)) (zBez _ (by first | assumption | omega)).1 ?_
    refine zk_if_ne (tgt := 37) hX dX11_nearest_25 (by decide) (fun c25 => ?_) (fun c25 => ?_)
    rotate_left
    · exact absurd c25 h
    refine zk_aload_n hX dX11_nearest_37 rfl ?_
    refine zk_getR hX dX11_nearest_38 flX11_83 k_0 z_0 (hw _ _ (by decide) |>.trans r_0_13) ?_
    refine zk_getI hX dX11_nearest_41 flX11_302 k_131 z_131 ?_
    rw [hs]
    refine zk_if_eq (tgt := 50) hX dX11_nearest_44 (by decide) (fun c44 => ?_) (fun c44 => ?_)
    rotate_left
    · exact absurd rfl c44
    refine zk_aload_n hX dX11_nearest_50 rfl ?_
    refine zk_getR hX dX11_nearest_51 flX11_83 k_0 z_0 (hw _ _ (by decide) |>.trans r_0_13) ?_
    refine zk_aload_n hX dX11_nearest_54 rfl ?_
    refine zk_getR hX dX11_nearest_55 flX11_38 k_0 z_0 (hw _ _ (by decide) |>.trans r_0_4) ?_
    refine zk_aload_n hX dX11_nearest_58 rfl ?_
    refine zk_getR hX dX11_nearest_59 flX11_48 k_0 z_0 (hw _ _ (by decide) |>.trans r_0_6) ?_
    refine zk_iconst (v := -1) hX dX11_nearest_62 (by decide) ?_
    refine zk_V3vp hX dX11_nearest_63 kcX6_shade mlX11_311 viX6_shade rfl k_131 z_131 (s_X6_shade hw hH hD hRe.2.1 hN (Or.inl rfl) hL ho (-1)) (Nat.le_of_ble_eq_true rfl) rfl (fun w1 q1 => ?_)
    obtain ⟨p1, p2, p3, p4, p5⟩ := pre w1 q1.1 q1.2
    have hT1 : w1.1 0 8 = nI T := by rw [q1.1.2.1 0 (by decide) (by decide)]; exact hS
    refine zk_aload_n hX dX11_nearest_66 rfl ?_
    refine zk_getR hX dX11_nearest_67 flX11_83 k_0 z_0 (p1 _ _ (by decide) |>.trans r_0_13) ?_
    refine zk_aload_n hX dX11_nearest_70 rfl ?_
    refine zk_getR hX dX11_nearest_71 flX11_38 k_0 z_0 (p1 _ _ (by decide) |>.trans r_0_4) ?_
    refine zk_aload_n hX dX11_nearest_74 rfl ?_
    refine zk_getR hX dX11_nearest_75 flX11_68 k_0 z_0 (p1 _ _ (by decide) |>.trans r_0_11) ?_
    refine zk_iload_n hX dX11_nearest_78 rfl ?_
    refine zk_beasts hX p1 dX11_nearest_79 rfl (by first | assumption | omega) ?_
    refine zk_aload_n hX dX11_nearest_80 rfl ?_
    refine zk_getI hX dX11_nearest_81 flX11_55 k_0 z_0 ?_
    rw [hT1]
    refine zk_bipush (v := -9) hX dX11_nearest_84 (by decide) ?_
    refine zk_V4i hX dX11_nearest_86 kcX6_nearestTurns mlX11_315 viX6_nearestTurns rfl k_131 z_131 (s_X6_nearest_n p1 hD hT9 p3 q1.2 hk p4) (Nat.le_of_ble_eq_true rfl) rfl ?_
    rw [en]
    refine zk_istore_n (lo' := [_, _, _, _, _]) hX dX11_nearest_89 (Nat.le_of_ble_eq_true rfl) rfl rfl ?_
    refine zk_iload_n hX dX11_nearest_90 rfl ?_
    refine zk_bipush (v := -9) hX dX11_nearest_91 (by decide) ?_
    refine zk_icmp_ne (tgt := 99) hX dX11_nearest_93 (by decide) (fun c93 => ?_) (fun c93 => ?_)
    · exact absurd c93 (fun q => q rfl)
    refine zk_bipush (v := -9) hX dX11_nearest_96 (by decide) ?_
    refine zk_iret hX hE rfl ⟨rfl, rfl⟩ dX11_nearest_98 ⟨_, rfl, ?_⟩
    exact ⟨rfl, Or.inl ⟨rfl, q1.1⟩⟩
  · rw [e]
    have en : zoe (zbst (rH D (-1) T) (rO D (-1) z u v M Y) (zN_ D (-1) (dF D))) = nI b := by rw [eb, e]; rfl
    have hb9 : ¬ nI b = -9 := fun q => absurd (show (0 : Int32) ≤ nI b from nI_pos' (by omega)) (by rw [q]; decide)
    refine zC_of (lo := [_, _, _, _, _]) kcX11_nearest (Nat.le_of_ble_eq_true rfl) rfl (fun X hX hE => ?_)
    have loop : ∀ w1, zFr [] [137, 138, 143, 144, 146] [] w w1 → cThr w1 D (-1) z u v (dF D) → ∀ z' i w2, i + z' = dJ D → cRowW w1 r (dJ D) (fun _ => 0) w2 ∨ zFr [4 + 2 * r, 5 + 2 * r] [] [] w1 w2 → zFr [4 + 2 * r, 5 + 2 * r] [] [] w1 w2 → w2.1 (4 + 2 * r) 0 = nI (dJ D) → (∀ q, q < i → w2.1 (5 + 2 * r) q = zcode_t D b q) → zk0 G X mX11_nearest 119 [.ref 0, .int (nI k), .int (nI r), .int (nI b), .int (nI i)] [] w2 := by
      intro w1 hF1 hR1
      obtain ⟨p1, p2, p3, p4, p5⟩ := pre w1 hF1 hR1
      intro z'
      induction z' with
      | zero =>
        intro i w2 hi _ hF g1 g2
        obtain rfl : i = dJ D := by omega
        have hw2 := zFr_wf hF p1
        have hH2 : cHd w2 26 D := cHd_o p2 (fun a h1 h2 => hF.2.1 a (by simp; omega) (by omega))
        have hF' : zFr kRo [] [] w1 w2 := ⟨hF.1, fun a h1 h2 => hF.2.1 a (fun q => h1 (by simp at q; simp [kRo]; omega)) h2, hF.2.2.1, hF.2.2.2⟩
        have co := s_X6_offOf (G := G) (z := z) (u := u) (v := v) hw2 (cTab_f p3 hF' (by decide)) (cThr_g hR1 hF' (by decide)) hk (show cBe w2 k M Y from ⟨zHas_o p4.1 (hF.2.2.1 _ (by simp)), zHas_o p4.2 (hF.2.2.1 _ (by simp))⟩) (some b) (fun b' e' => by cases e'; rw [zN_code hD]; exact hb)
        refine zk_iload hX dX11_nearest_119 rfl ?_
        refine zk_aload_n hX dX11_nearest_121 rfl ?_
        refine zk_getR hX dX11_nearest_122 flX11_38 k_0 z_0 (hw2 _ _ (by decide) |>.trans r_0_4) ?_
        refine zk_getI hX dX11_nearest_125 flX11_167 k_26 z_26 ?_
        rw [hH2.1.2.2]
        refine zk_icmp_ge (tgt := 162) hX dX11_nearest_128 (by decide) (fun c128 => ?_) (fun c128 => ?_)
        rotate_left
        · exact absurd (nI_le (Nat.le_refl _) (by omega)) c128
        refine zk_aload_n hX dX11_nearest_162 rfl ?_
        refine zk_getR hX dX11_nearest_163 flX11_83 k_0 z_0 (hw2 _ _ (by decide) |>.trans r_0_13) ?_
        refine zk_aload_n hX dX11_nearest_166 rfl ?_
        refine zk_getR hX dX11_nearest_167 flX11_68 k_0 z_0 (hw2 _ _ (by decide) |>.trans r_0_11) ?_
        refine zk_iload_n hX dX11_nearest_170 rfl ?_
        refine zk_beasts hX hw2 dX11_nearest_171 rfl (by first | assumption | omega) ?_
        refine zk_iload_n hX dX11_nearest_172 rfl ?_
        refine zk_V2i hX dX11_nearest_173 kcX6_offOf mlX11_323 viX6_offOf rfl k_131 z_131 co (Nat.le_of_ble_eq_true rfl) rfl ?_
        refine zk_iret hX hE rfl ⟨rfl, rfl⟩ dX11_nearest_176 ⟨_, rfl, ?_⟩
        refine ⟨?_, Or.inr ⟨b, rfl, hb, w1, hF1, hF, g1, g2⟩⟩
        show nI (rO D (-1) z u v M Y b) = nI (mF D (-1) z u v M Y b)
        rw [rO_code hD]
      | succ z' ih =>
        intro i w2 hi _ hF g1 g2
        have hw2 := zFr_wf hF p1
        have hH2 : cHd w2 26 D := cHd_o p2 (fun a h1 h2 => hF.2.1 a (by simp; omega) (by omega))
        have hS2 : cStep w2 D := fun j hj => by rw [hF.2.1 132 (by simp; omega) (by decide), hF.2.1 133 (by simp; omega) (by decide)]; exact p5 j hj
        refine zk_iload hX dX11_nearest_119 rfl ?_
        refine zk_aload_n hX dX11_nearest_121 rfl ?_
        refine zk_getR hX dX11_nearest_122 flX11_38 k_0 z_0 (hw2 _ _ (by decide) |>.trans r_0_4) ?_
        refine zk_getI hX dX11_nearest_125 flX11_167 k_26 z_26 ?_
        rw [hH2.1.2.2]
        refine zk_icmp_ge (tgt := 162) hX dX11_nearest_128 (by decide) (fun c128 => ?_) (fun c128 => ?_)
        · exact absurd c128 (nI_ge (by omega) (by omega))
        refine zk_aload_n hX dX11_nearest_131 rfl ?_
        refine zk_getR hX dX11_nearest_132 flX11_18 k_0 z_0 (hw2 _ _ (by decide) |>.trans r_0_1) ?_
        refine zk_iload_n hX dX11_nearest_135 rfl ?_
        refine zk_rows hX hw2 dX11_nearest_136 rfl (by first | assumption | omega) ?_
        refine zk_iload hX dX11_nearest_137 rfl ?_
        refine zk_aload_n hX dX11_nearest_139 rfl ?_
        refine zk_getR hX dX11_nearest_140 flX11_83 k_0 z_0 (hw2 _ _ (by decide) |>.trans r_0_13) ?_
        refine zk_aload_n hX dX11_nearest_143 rfl ?_
        refine zk_getR hX dX11_nearest_144 flX11_38 k_0 z_0 (hw2 _ _ (by decide) |>.trans r_0_4) ?_
        refine zk_iload_n hX dX11_nearest_147 rfl ?_
        refine zk_iload hX dX11_nearest_148 rfl ?_
        refine zk_V3i hX dX11_nearest_150 kcX6_turnAt mlX11_319 viX6_turnAt rfl k_131 z_131 (s_X6_turnAt hw2 hD hH2 hS2 (by omega) (by omega)) (Nat.le_of_ble_eq_true rfl) rfl ?_
        refine zk_V2v hX dX11_nearest_153 kcX8_set mlX11_129 viX8_set rfl (zRwR0 (by first | assumption | omega)) (zRw_r _ (by first | assumption | omega)).2.1 (s_X8_set (zRwR hr) hw2 (m := dJ D) (by omega) (by omega) g1 _) (Nat.le_of_ble_eq_true rfl) rfl ?_
        refine zk_iinc (lo' := [_, _, _, _, _]) hX dX11_nearest_156 rfl (by first | exact zinc _ | exact rfl) (Nat.le_of_ble_eq_true rfl) rfl rfl ?_
        refine zk_goto (tgt := 119) hX dX11_nearest_159 (by decide) ?_
        have hFi : zFr [4 + 2 * r, 5 + 2 * r] [] [] w1 (zsi w2 (4 + 2 * r + 1) i (zcode_t D b i)) := zFr_t hF (zFr_i (by simp; omega) (by omega))
        refine ih (i + 1) _ (by omega) (Or.inr hFi) hFi (by rw [zsi_o (by omega)]; exact g1) (fun q hq => ?_)
        rw [show 4 + 2 * r + 1 = 5 + 2 * r by omega, zsi_1]
        by_cases e5 : q = i
        · subst e5
          rw [if_pos ⟨rfl, rfl⟩]
        · rw [if_neg (fun z => e5 z.2)]
          exact g2 q (by omega)
    refine zk_iload_n hX dX11_nearest_0 rfl ?_
    refine zk_S1i hX dX11_nearest_1 kcX11_isBeast mlX11_272 smX11_isBeast rfl (s_X11_isBeast _) (Nat.le_of_ble_eq_true rfl) rfl ?_
    refine zk_if_eqB (tgt := 14) hX dX11_nearest_4 (by decide) (fun c4 => ?_) (fun c4 => ?_)
    · exact absurd c4 (not_not_intro (zrlt hk))
    refine zk_iload_n hX dX11_nearest_7 rfl ?_
    refine zk_S1i hX dX11_nearest_8 kcX11_isRow mlX11_107 smX11_isRow rfl (s_X11_isRow _) (Nat.le_of_ble_eq_true rfl) rfl ?_
    refine zk_if_neB (tgt := 16) hX dX11_nearest_11 (by decide) (fun c11 => ?_) (fun c11 => ?_)
    rotate_left
    · exact absurd (zrlt hr) c11
    refine zk_aload_n hX dX11_nearest_16 rfl ?_
    refine zk_getR hX dX11_nearest_17 flX11_68 k_0 z_0 (hw _ _ (by decide) |>.trans r_0_11) ?_
    refine zk_iload_n hX dX11_nearest_20 rfl ?_
    refine zk_beasts hX hw dX11_nearest_21 rfl (by first | assumption | omega) ?_
    refine zk_getI hX dX11_nearest_22 flX11_284 (zBek (by first | assumption | omega)) (zBez _ (by first | assumption | omega)).1 ?_
    refine zk_if_ne (tgt := 37) hX dX11_nearest_25 (by decide) (fun c25 => ?_) (fun c25 => ?_)
    rotate_left
    · exact absurd c25 h
    refine zk_aload_n hX dX11_nearest_37 rfl ?_
    refine zk_getR hX dX11_nearest_38 flX11_83 k_0 z_0 (hw _ _ (by decide) |>.trans r_0_13) ?_
    refine zk_getI hX dX11_nearest_41 flX11_302 k_131 z_131 ?_
    rw [hs]
    refine zk_if_eq (tgt := 50) hX dX11_nearest_44 (by decide) (fun c44 => ?_) (fun c44 => ?_)
    rotate_left
    · exact absurd rfl c44
    refine zk_aload_n hX dX11_nearest_50 rfl ?_
    refine zk_getR hX dX11_nearest_51 flX11_83 k_0 z_0 (hw _ _ (by decide) |>.trans r_0_13) ?_
    refine zk_aload_n hX dX11_nearest_54 rfl ?_
    refine zk_getR hX dX11_nearest_55 flX11_38 k_0 z_0 (hw _ _ (by decide) |>.trans r_0_4) ?_
    refine zk_aload_n hX dX11_nearest_58 rfl ?_
    refine zk_getR hX dX11_nearest_59 flX11_48 k_0 z_0 (hw _ _ (by decide) |>.trans r_0_6) ?_
    refine zk_iconst (v := -1) hX dX11_nearest_62 (by decide) ?_
    refine zk_V3vp hX dX11_nearest_63 kcX6_shade mlX11_311 viX6_shade rfl k_131 z_131 (s_X6_shade hw hH hD hRe.2.1 hN (Or.inl rfl) hL ho (-1)) (Nat.le_of_ble_eq_true rfl) rfl (fun w1 q1 => ?_)
    obtain ⟨p1, p2, p3, p4, p5⟩ := pre w1 q1.1 q1.2
    have hT1 : w1.1 0 8 = nI T := by rw [q1.1.2.1 0 (by decide) (by decide)]; exact hS
    refine zk_aload_n hX dX11_nearest_66 rfl ?_
    refine zk_getR hX dX11_nearest_67 flX11_83 k_0 z_0 (p1 _ _ (by decide) |>.trans r_0_13) ?_
    refine zk_aload_n hX dX11_nearest_70 rfl ?_
    refine zk_getR hX dX11_nearest_71 flX11_38 k_0 z_0 (p1 _ _ (by decide) |>.trans r_0_4) ?_
    refine zk_aload_n hX dX11_nearest_74 rfl ?_
    refine zk_getR hX dX11_nearest_75 flX11_68 k_0 z_0 (p1 _ _ (by decide) |>.trans r_0_11) ?_
    refine zk_iload_n hX dX11_nearest_78 rfl ?_
    refine zk_beasts hX p1 dX11_nearest_79 rfl (by first | assumption | omega) ?_
    refine zk_aload_n hX dX11_nearest_80 rfl ?_
    refine zk_getI hX dX11_nearest_81 flX11_55 k_0 z_0 ?_
    rw [hT1]
    refine zk_bipush (v := -9) hX dX11_nearest_84 (by decide) ?_
    refine zk_V4i hX dX11_nearest_86 kcX6_nearestTurns mlX11_315 viX6_nearestTurns rfl k_131 z_131 (s_X6_nearest_n p1 hD hT9 p3 q1.2 hk p4) (Nat.le_of_ble_eq_true rfl) rfl ?_
    rw [en]
    refine zk_istore_n (lo' := [_, _, _, _, _]) hX dX11_nearest_89 (Nat.le_of_ble_eq_true rfl) rfl rfl ?_
    refine zk_iload_n hX dX11_nearest_90 rfl ?_
    refine zk_bipush (v := -9) hX dX11_nearest_91 (by decide) ?_
    refine zk_icmp_ne (tgt := 99) hX dX11_nearest_93 (by decide) (fun c93 => ?_) (fun c93 => ?_)
    rotate_left
    · exact absurd c93 hb9
    refine zk_aload_n hX dX11_nearest_99 rfl ?_
    refine zk_getR hX dX11_nearest_100 flX11_18 k_0 z_0 (p1 _ _ (by decide) |>.trans r_0_1) ?_
    refine zk_iload_n hX dX11_nearest_103 rfl ?_
    refine zk_rows hX p1 dX11_nearest_104 rfl (by first | assumption | omega) ?_
    refine zk_aload_n hX dX11_nearest_105 rfl ?_
    refine zk_getR hX dX11_nearest_106 flX11_38 k_0 z_0 (p1 _ _ (by decide) |>.trans r_0_4) ?_
    refine zk_getI hX dX11_nearest_109 flX11_167 k_26 z_26 ?_
    rw [p2.1.2.2]
    refine zk_iconst (v := 0) hX dX11_nearest_112 (by decide) ?_
    refine zk_V2v hX dX11_nearest_113 kcX8_renew mlX11_115 viX8_renew rfl (zRwR0 (by first | assumption | omega)) (zRw_r _ (by first | assumption | omega)).2.1 (s_X8_renew (zRwR hr) p1 (m := dJ D) (by omega) 0) (Nat.le_of_ble_eq_true rfl) rfl ?_
    refine zk_iconst (v := 0) hX dX11_nearest_116 (by decide) ?_
    refine zk_istore (lo' := [_, _, _, _, _]) hX dX11_nearest_117 (Nat.le_of_ble_eq_true rfl) rfl rfl ?_
    have hF2 : zFr [4 + 2 * r, 5 + 2 * r] [] [] w1 (zfill (zsi w1 (4 + 2 * r) 0 (nI (dJ D))) (4 + 2 * r + 1) (dJ D) 0) := zFr_t (zFr_i (by simp) (by omega)) (zfill_fr (by simp; omega) (by omega))
    exact loop w1 q1.1 q1.2 (dJ D) 0 _ (by omega) (Or.inr hF2) hF2 (by rw [zfill_1, if_neg (by omega), zsi_1, if_pos ⟨rfl, rfl⟩]) (fun q hq => absurd hq (by omega))

