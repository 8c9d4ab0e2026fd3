/-! reading and asking of hands -/
theorem zfg_c {T T' : Nat → Int32} {m p : Nat} (h : ∀ i, i < m → T i = T' i) : zfg T m p = zfg T' m p := by
  unfold zfg
  by_cases q : p < m
  · rw [h p q]
  · rw [if_neg (fun z => q z.1), if_neg (fun z => q z.1)]
theorem rNum_c {T T' : Nat → Int32} {m : Nat} (h : ∀ i, i < m → T i = T' i) : ∀ (n p c : Nat), rNum T m n p c = rNum T' m n p c
  | 0, _, _ => rfl
  | n + 1, p, c => by
    unfold rNum
    rw [zfg_c h, rNum_c h n]
theorem rJs_c {T T' : Nat → Int32} {m : Nat} (h : ∀ i, i < m → T i = T' i) : ∀ (n p : Nat) (D : zD), rJs T m n p D = rJs T' m n p D
  | 0, _, _ => rfl
  | n + 1, p, D => by
    unfold rJs
    rw [zfg_c h, zfg_c (p := p + 1) h, rJs_c h n]
theorem rOne_c {T T' : Nat → Int32} {m p : Nat} {D : zD} (h : ∀ i, i < m → T i = T' i) (hp : p < m) : rOne T m p D = rOne T' m p D := by
  unfold rOne rHand rFin
  rw [h p hp, zfg_c h, rNum_c h, rJs_c h]
theorem rAll_c {T T' : Nat → Int32} {m : Nat} (h : ∀ i, i < m → T i = T' i) : ∀ (n p : Nat) (D : zD), rAll T m n p D = rAll T' m n p D
  | 0, _, _ => rfl
  | n + 1, p, D => by
    unfold rAll
    by_cases q : p < m
    · rw [rOne_c h q, rAll_c h n]
    · rw [if_neg q, if_neg q]
theorem zO_fault {G : zG} (t : Int32) : zOi G mX11_fault mX12_fault [.int t] := by
  intro w h
  by_cases ht0 : 0 ≤ t ∧ t < 4
  · obtain ⟨t, ht, rfl⟩ := r4 ht0
    have q := h.2.2.2.1 t ht
    rcases q.2.1 with e | ⟨m, hm, e⟩
    · exact zO_find h 1 (s_X11_fault_m h.1 ht (by rw [q.1, e]; decide)) (s_X12_fault_m (zfind_w h.1) ht (by rw [zfind_a (by decide) (by decide), e]; decide))
    · refine zCi_m (s_X11_fault (G := G) h.1 ht hm (q.1.trans e)) (fun r w1 g => ?_)
      obtain ⟨hw1, f1, f2, rfl⟩ := g
      have hF1 : zFx [25, 35, 36, 37, 38, 39, 40, 41, 42, 43] [] [] w w1 := ⟨fun a h1 _ => f1 a h1, fun a _ => by rw [f2], fun i _ => by rw [f1 166 (by decide)]⟩
      refine zCi_m (s_X12_fault (G := G) (w := w1) hw1 ht hm (by rw [f1 171 (by decide)]; exact e)) (fun r w2 g => ?_)
      obtain ⟨k1, rfl⟩ := g
      refine ⟨?_, ?_⟩
      · rw [show w.1 (17 + 2 * t + 1) = w.1 (18 + 2 * t) by rw [show 17 + 2 * t + 1 = 18 + 2 * t by omega]]
        rw [rAll_c (T := mT w1 t) (T' := w.1 (18 + 2 * t)) (fun i hi => ?_)]
        unfold mT
        rw [f1 172 (by decide)]
        exact (q.2.2 m e hm i hi).symm
      · have hF : zFx [25, 35, 36, 37, 38, 39, 40, 41, 42, 43, 176, 177, 178] [] [16, 17, 18, 19, 20] w w2 := zFx_t (w1 := w1) ⟨fun a h1 h2 => hF1.1 a (by simp at h1 ⊢; omega) h2, fun a h1 => hF1.2.1 a h1, fun i _ => hF1.2.2 i (by simp)⟩ (zFr_s k1 (by decide)).2
        exact zQ_i (zQt_f (zQ_t h) (zFr_wf k1 hw1) hF (by decide)) (qT_f h.2.1 hF (by decide))
  · exact zOe (s_X11_fault_bad t ht0) (s_X12_fault_bad t (r43 ht0)) rfl h
theorem zsw3 {k : Int32} (h : ¬ (0 ≤ k ∧ k < 3)) : k.toInt < 0 ∨ 2 < k.toInt := by
  rw [Int32.le_iff_toInt_le, Int32.lt_iff_toInt_lt, show (0 : Int32).toInt = 0 from rfl, show (3 : Int32).toInt = 3 from rfl] at h
  omega
theorem zsw4 {k : Int32} (h : ¬ (0 ≤ k ∧ k < 4)) : k.toInt < 0 ∨ 3 < k.toInt := by
  rw [Int32.le_iff_toInt_le, Int32.lt_iff_toInt_lt, show (0 : Int32).toInt = 0 from rfl, show (4 : Int32).toInt = 4 from rfl] at h
  omega
theorem s_X11_joint {G : zG} {w : zW} {m j k : Nat} (hw : zWf w) (hm : m ≤ 6) (hJ : w.1 26 2 = nI m) (hj : j < m) (hk : k < 3) : zEi G mX11_joint [.ref 0, .int (nI j), .int (nI k)] w 1 (zsi w 1 0 (w.1 (32 + k) j)) := by
  rcases (show k = 0 ∨ k = 1 ∨ k = 2 by omega) with g | g | g <;> subst g
  · skip
    refine zC_of (lo := [_, _, _]) kcX11_joint (Nat.le_of_ble_eq_true rfl) rfl (fun X hX hE => ?_)
    refine zk_aload_n hX dX11_joint_0 rfl ?_
    refine zk_iload_n hX dX11_joint_1 rfl ?_
    refine zk_V1i hX dX11_joint_2 kcX11_isJoint mlX11_186 viX11_isJoint rfl k_0 z_0 (s_X11_isJoint hw _) (Nat.le_of_ble_eq_true rfl) rfl ?_
    refine zk_if_neB (tgt := 10) hX dX11_joint_5 (by decide) (fun c5 => ?_) (fun c5 => ?_)
    rotate_left
    · exact absurd (by rw [hJ]; exact ⟨nI_pos' (by omega), nI_lt hj (by omega)⟩) c5
    refine zk_iload_n hX dX11_joint_10 rfl ?_
    refine zk_tableIn hX dX11_joint_11 (by decide) (by decide) (off := 25) (tgt := 36) (by decide +kernel) (by decide) ?_
    refine zk_aload_n hX dX11_joint_36 rfl ?_
    refine zk_getR hX dX11_joint_37 flX11_12 k_0 z_0 (hw _ _ (by decide) |>.trans r_0_0) ?_
    refine zk_aload_n hX dX11_joint_40 rfl ?_
    refine zk_getR hX dX11_joint_41 flX11_38 k_0 z_0 (hw _ _ (by decide) |>.trans r_0_4) ?_
    refine zk_getR hX dX11_joint_44 flX11_189 k_26 z_26 (hw _ _ (by decide) |>.trans r_26_8) ?_
    refine zk_iload_n hX dX11_joint_47 rfl ?_
    refine zk_ialdE hX dX11_joint_48 rfl k_32 z_32 (by first | assumption | omega) rfl ?_
    refine zk_V1i hX dX11_joint_49 kcX9_tell mlX11_132 viX9_tell rfl k_1 z_1 (s_X9_tell _) (Nat.le_of_ble_eq_true rfl) rfl ?_
    refine zk_iret hX hE rfl ⟨rfl, rfl⟩ dX11_joint_52 ⟨_, rfl, ?_⟩
    exact ⟨rfl, rfl⟩
  · skip
    refine zC_of (lo := [_, _, _]) kcX11_joint (Nat.le_of_ble_eq_true rfl) rfl (fun X hX hE => ?_)
    refine zk_aload_n hX dX11_joint_0 rfl ?_
    refine zk_iload_n hX dX11_joint_1 rfl ?_
    refine zk_V1i hX dX11_joint_2 kcX11_isJoint mlX11_186 viX11_isJoint rfl k_0 z_0 (s_X11_isJoint hw _) (Nat.le_of_ble_eq_true rfl) rfl ?_
    refine zk_if_neB (tgt := 10) hX dX11_joint_5 (by decide) (fun c5 => ?_) (fun c5 => ?_)
    rotate_left
    · exact absurd (by rw [hJ]; exact ⟨nI_pos' (by omega), nI_lt hj (by omega)⟩) c5
    refine zk_iload_n hX dX11_joint_10 rfl ?_
    refine zk_tableIn hX dX11_joint_11 (by decide) (by decide) (off := 42) (tgt := 53) (by decide +kernel) (by decide) ?_
    refine zk_aload_n hX dX11_joint_53 rfl ?_
    refine zk_getR hX dX11_joint_54 flX11_12 k_0 z_0 (hw _ _ (by decide) |>.trans r_0_0) ?_
    refine zk_aload_n hX dX11_joint_57 rfl ?_
    refine zk_getR hX dX11_joint_58 flX11_38 k_0 z_0 (hw _ _ (by decide) |>.trans r_0_4) ?_
    refine zk_getR hX dX11_joint_61 flX11_192 k_26 z_26 (hw _ _ (by decide) |>.trans r_26_9) ?_
    refine zk_iload_n hX dX11_joint_64 rfl ?_
    refine zk_ialdE hX dX11_joint_65 rfl k_33 z_33 (by first | assumption | omega) rfl ?_
    refine zk_V1i hX dX11_joint_66 kcX9_tell mlX11_132 viX9_tell rfl k_1 z_1 (s_X9_tell _) (Nat.le_of_ble_eq_true rfl) rfl ?_
    refine zk_iret hX hE rfl ⟨rfl, rfl⟩ dX11_joint_69 ⟨_, rfl, ?_⟩
    exact ⟨rfl, rfl⟩
  · skip
    refine zC_of (lo := [_, _, _]) kcX11_joint (Nat.le_of_ble_eq_true rfl) rfl (fun X hX hE => ?_)
    refine zk_aload_n hX dX11_joint_0 rfl ?_
    refine zk_iload_n hX dX11_joint_1 rfl ?_
    refine zk_V1i hX dX11_joint_2 kcX11_isJoint mlX11_186 viX11_isJoint rfl k_0 z_0 (s_X11_isJoint hw _) (Nat.le_of_ble_eq_true rfl) rfl ?_
    refine zk_if_neB (tgt := 10) hX dX11_joint_5 (by decide) (fun c5 => ?_) (fun c5 => ?_)
    rotate_left
    · exact absurd (by rw [hJ]; exact ⟨nI_pos' (by omega), nI_lt hj (by omega)⟩) c5
    refine zk_iload_n hX dX11_joint_10 rfl ?_
    refine zk_tableIn hX dX11_joint_11 (by decide) (by decide) (off := 59) (tgt := 70) (by decide +kernel) (by decide) ?_
    refine zk_aload_n hX dX11_joint_70 rfl ?_
    refine zk_getR hX dX11_joint_71 flX11_12 k_0 z_0 (hw _ _ (by decide) |>.trans r_0_0) ?_
    refine zk_aload_n hX dX11_joint_74 rfl ?_
    refine zk_getR hX dX11_joint_75 flX11_38 k_0 z_0 (hw _ _ (by decide) |>.trans r_0_4) ?_
    refine zk_getR hX dX11_joint_78 flX11_195 k_26 z_26 (hw _ _ (by decide) |>.trans r_26_10) ?_
    refine zk_iload_n hX dX11_joint_81 rfl ?_
    refine zk_ialdE hX dX11_joint_82 rfl k_34 z_34 (by first | assumption | omega) rfl ?_
    refine zk_V1i hX dX11_joint_83 kcX9_tell mlX11_132 viX9_tell rfl k_1 z_1 (s_X9_tell _) (Nat.le_of_ble_eq_true rfl) rfl ?_
    refine zk_iret hX hE rfl ⟨rfl, rfl⟩ dX11_joint_86 ⟨_, rfl, ?_⟩
    exact ⟨rfl, rfl⟩
theorem s_X11_joint_bad {G : zG} {w : zW} (hw : zWf w) (j k : Int32) (h : ¬ ((0 ≤ j ∧ j < w.1 26 2) ∧ (0 ≤ k ∧ k < 3))) : zEi G mX11_joint [.ref 0, .int j, .int k] w (-1) w := by
  refine zC_of (lo := [_, _, _]) kcX11_joint (Nat.le_of_ble_eq_true rfl) rfl (fun X hX hE => ?_)
  refine zk_aload_n hX dX11_joint_0 rfl ?_
  refine zk_iload_n hX dX11_joint_1 rfl ?_
  refine zk_V1i hX dX11_joint_2 kcX11_isJoint mlX11_186 viX11_isJoint rfl k_0 z_0 (s_X11_isJoint hw _) (Nat.le_of_ble_eq_true rfl) rfl ?_
  refine zk_if_neB (tgt := 10) hX dX11_joint_5 (by decide) (fun c5 => ?_) (fun c5 => ?_)
  · refine zk_iload_n hX dX11_joint_10 rfl ?_
    refine zk_tableOut hX dX11_joint_11 (zsw3 (fun q => h ⟨by first | exact c5 | exact Decidable.not_not.mp c5, q⟩)) (tgt := 87) (by decide) ?_
    refine zk_iconst (v := -1) hX dX11_joint_87 (by decide) ?_
    refine zk_iret hX hE rfl ⟨rfl, rfl⟩ dX11_joint_88 ⟨_, rfl, ?_⟩
    exact ⟨rfl, rfl⟩
  · refine zk_iconst (v := -1) hX dX11_joint_8 (by decide) ?_
    refine zk_iret hX hE rfl ⟨rfl, rfl⟩ dX11_joint_9 ⟨_, rfl, ?_⟩
    exact ⟨rfl, rfl⟩
theorem s_X12_joint {G : zG} {w : zW} {m j k : Nat} (hw : zWf w) (hm : m ≤ 6) (hJ : w.1 166 12 = nI m) (hj : j < m) (hk : k < 3) : zEi G mX12_joint [.ref 166, .int (nI j), .int (nI k)] w 1 (zsi w 166 2 (w.1 175 (3 * j + k))) := by
  refine zC_of (lo := [_, _, _]) kcX12_joint (Nat.le_of_ble_eq_true rfl) rfl (fun X hX hE => ?_)
  refine zk_aload_n hX dX12_joint_0 rfl ?_
  refine zk_iload_n hX dX12_joint_1 rfl ?_
  refine zk_V1i hX dX12_joint_2 kcX12_isJoint mlX12_208 viX12_isJoint rfl k_166 z_166 (s_X12_isJoint (n := m) (by omega) hJ _) (Nat.le_of_ble_eq_true rfl) rfl ?_
  refine zk_if_eqB (tgt := 35) hX dX12_joint_5 (by decide) (fun c5 => ?_) (fun c5 => ?_)
  · exact absurd c5 (not_not_intro ⟨nI_pos' (by omega), nI_lt hj (by omega)⟩)
  refine zk_iload_n hX dX12_joint_8 rfl ?_
  refine zk_iconst (v := 0) hX dX12_joint_9 (by decide) ?_
  refine zk_iconst (v := 2) hX dX12_joint_10 (by decide) ?_
  refine zk_S3i hX dX12_joint_11 kcX12_in mlX12_131 smX12_in rfl (s_X12_in _ _ _) (Nat.le_of_ble_eq_true rfl) rfl ?_
  refine zk_if_eqB (tgt := 35) hX dX12_joint_14 (by decide) (fun c14 => ?_) (fun c14 => ?_)
  · exact absurd c14 (not_not_intro (zrle (n := 2) (by omega)))
  refine zk_aload_n hX dX12_joint_17 rfl ?_
  refine zk_aload_n hX dX12_joint_18 rfl ?_
  refine zk_getR hX dX12_joint_19 flX12_35 k_166 z_166 (hw _ _ (by decide) |>.trans r_166_15) ?_
  refine zk_iconst (v := 3) hX dX12_joint_22 (by decide) ?_
  refine zk_iload_n hX dX12_joint_23 rfl ?_
  refine zk_imul hX dX12_joint_24 ?_
  refine zk_iload_n hX dX12_joint_25 rfl ?_
  refine zk_iadd hX dX12_joint_26 ?_
  refine zk_ialdE hX dX12_joint_27 (nI_addE (nI_mulE (nI_k 3 rfl) rfl) rfl) k_175 z_175 (by first | assumption | omega) rfl ?_
  refine zk_iconst (v := 1) hX dX12_joint_28 (by decide) ?_
  refine zk_V2i hX dX12_joint_29 kcX12_tells mlX12_153 viX12_tells rfl k_166 z_166 (s_X12_tells _ _) (Nat.le_of_ble_eq_true rfl) rfl ?_
  refine zk_goto (tgt := 36) hX dX12_joint_32 (by decide) ?_
  refine zk_iret hX hE rfl ⟨rfl, rfl⟩ dX12_joint_36 ⟨_, rfl, ?_⟩
  exact ⟨rfl, rfl⟩
theorem s_X12_joint_bad {G : zG} {w : zW} {m : Nat} (hm : m ≤ 6) (hJ : w.1 166 12 = nI m) (j k : Int32) (h : ¬ ((0 ≤ j ∧ j < nI m) ∧ (0 ≤ k ∧ k < 3))) : zEi G mX12_joint [.ref 166, .int j, .int k] w (-1) w := by
  refine zC_of (lo := [_, _, _]) kcX12_joint (Nat.le_of_ble_eq_true rfl) rfl (fun X hX hE => ?_)
  refine zk_aload_n hX dX12_joint_0 rfl ?_
  refine zk_iload_n hX dX12_joint_1 rfl ?_
  refine zk_V1i hX dX12_joint_2 kcX12_isJoint mlX12_208 viX12_isJoint rfl k_166 z_166 (s_X12_isJoint (n := m) (by omega) hJ _) (Nat.le_of_ble_eq_true rfl) rfl ?_
  refine zk_if_eqB (tgt := 35) hX dX12_joint_5 (by decide) (fun c5 => ?_) (fun c5 => ?_)
  · refine zk_iconst (v := -1) hX dX12_joint_35 (by decide) ?_
    refine zk_iret hX hE rfl ⟨rfl, rfl⟩ dX12_joint_36 ⟨_, rfl, ?_⟩
    exact ⟨rfl, rfl⟩
  · refine zk_iload_n hX dX12_joint_8 rfl ?_
    refine zk_iconst (v := 0) hX dX12_joint_9 (by decide) ?_
    refine zk_iconst (v := 2) hX dX12_joint_10 (by decide) ?_
    refine zk_S3i hX dX12_joint_11 kcX12_in mlX12_131 smX12_in rfl (s_X12_in _ _ _) (Nat.le_of_ble_eq_true rfl) rfl ?_
    refine zk_if_eqB (tgt := 35) hX dX12_joint_14 (by decide) (fun c14 => ?_) (fun c14 => ?_)
    rotate_left
    · exact absurd ⟨by first | exact c5 | exact Decidable.not_not.mp c5, by grind⟩ h
    refine zk_iconst (v := -1) hX dX12_joint_35 (by decide) ?_
    refine zk_iret hX hE rfl ⟨rfl, rfl⟩ dX12_joint_36 ⟨_, rfl, ?_⟩
    exact ⟨rfl, rfl⟩
theorem zO_joint {G : zG} (j k : Int32) : zOi G mX11_joint mX12_joint [.int j, .int k] := by
  intro w h
  have h0 := h
  obtain ⟨hw, hT, hR, hX, hB, D, z, u, v, T, n, nl, c, hH, hL, hS, hP, hK⟩ := h
  have h6 := hH.1.1.2.2
  by_cases hk0 : (0 ≤ j ∧ j < nI (dJ D)) ∧ (0 ≤ k ∧ k < 3)
  · obtain ⟨j, hj, rfl⟩ := rn (by omega) hk0.1
    obtain ⟨k, hk, rfl⟩ := r3 hk0.2
    have c1 := s_X11_joint (G := G) hw h6 hH.2.1.1.2.2 hj hk
    have c2 := s_X12_joint (G := G) (w := zsi w 1 0 (w.1 (32 + k) j)) (zWf_i hw) h6 (by rw [zsi_o (by decide)]; exact hH.2.2.1.1.2.2) hj hk
    have e : w.1 175 (3 * j + k) = w.1 (32 + k) j := by
      have a := hH.2.1.2.2.2 j hj
      have b := hH.2.2.1.2.2.2 j hj
      rcases (show k = 0 ∨ k = 1 ∨ k = 2 by omega) with g | g | g <;> subst g
      · exact b.1.trans a.1.symm
      · exact b.2.1.trans a.2.1.symm
      · exact b.2.2.trans a.2.2.symm
    rw [zsi_o (by decide), e] at c2
    exact zOe c1 c2 rfl (zQ_tell h0 _)
  · exact zOe (s_X11_joint_bad hw j k (by rw [hH.2.1.1.2.2]; exact hk0)) (s_X12_joint_bad h6 hH.2.2.1.1.2.2 j k hk0) rfl h0
theorem s_X11_finger {G : zG} {w : zW} {m j k : Nat} (hw : zWf w) (hm : m ≤ 6) (hJ : w.1 26 1 = nI m) (hj : j < m) (hk : k < 4) : zEi G mX11_finger [.ref 0, .int (nI j), .int (nI k)] w 1 (zsi w 1 0 (w.1 (28 + k) j)) := by
  rcases (show k = 0 ∨ k = 1 ∨ k = 2 ∨ k = 3 by omega) with g | g | g | g <;> subst g
  · skip
    refine zC_of (lo := [_, _, _]) kcX11_finger (Nat.le_of_ble_eq_true rfl) rfl (fun X hX hE => ?_)
    refine zk_iload_n hX dX11_finger_0 rfl ?_
    refine zk_if_lt (tgt := 15) hX dX11_finger_1 (by decide) (fun c1 => ?_) (fun c1 => ?_)
    · exact absurd c1 (Int32.not_lt.mpr (nI_pos' (by omega)))
    refine zk_iload_n hX dX11_finger_4 rfl ?_
    refine zk_aload_n hX dX11_finger_5 rfl ?_
    refine zk_getR hX dX11_finger_6 flX11_38 k_0 z_0 (hw _ _ (by decide) |>.trans r_0_4) ?_
    refine zk_getI hX dX11_finger_9 flX11_170 k_26 z_26 ?_
    rw [hJ]
    refine zk_icmp_lt (tgt := 17) hX dX11_finger_12 (by decide) (fun c12 => ?_) (fun c12 => ?_)
    rotate_left
    · exact absurd (nI_lt hj (by omega)) c12
    refine zk_iload_n hX dX11_finger_17 rfl ?_
    refine zk_tableIn hX dX11_finger_18 (by decide) (by decide) (off := 30) (tgt := 48) (by decide +kernel) (by decide) ?_
    refine zk_aload_n hX dX11_finger_48 rfl ?_
    refine zk_getR hX dX11_finger_49 flX11_12 k_0 z_0 (hw _ _ (by decide) |>.trans r_0_0) ?_
    refine zk_aload_n hX dX11_finger_52 rfl ?_
    refine zk_getR hX dX11_finger_53 flX11_38 k_0 z_0 (hw _ _ (by decide) |>.trans r_0_4) ?_
    refine zk_getR hX dX11_finger_56 flX11_173 k_26 z_26 (hw _ _ (by decide) |>.trans r_26_4) ?_
    refine zk_iload_n hX dX11_finger_59 rfl ?_
    refine zk_ialdE hX dX11_finger_60 rfl k_28 z_28 (by first | assumption | omega) rfl ?_
    refine zk_V1i hX dX11_finger_61 kcX9_tell mlX11_132 viX9_tell rfl k_1 z_1 (s_X9_tell _) (Nat.le_of_ble_eq_true rfl) rfl ?_
    refine zk_iret hX hE rfl ⟨rfl, rfl⟩ dX11_finger_64 ⟨_, rfl, ?_⟩
    exact ⟨rfl, rfl⟩
  · skip
    refine zC_of (lo := [_, _, _]) kcX11_finger (Nat.le_of_ble_eq_true rfl) rfl (fun X hX hE => ?_)
    refine zk_iload_n hX dX11_finger_0 rfl ?_
    refine zk_if_lt (tgt := 15) hX dX11_finger_1 (by decide) (fun c1 => ?_) (fun c1 => ?_)
    · exact absurd c1 (Int32.not_lt.mpr (nI_pos' (by omega)))
    refine zk_iload_n hX dX11_finger_4 rfl ?_
    refine zk_aload_n hX dX11_finger_5 rfl ?_
    refine zk_getR hX dX11_finger_6 flX11_38 k_0 z_0 (hw _ _ (by decide) |>.trans r_0_4) ?_
    refine zk_getI hX dX11_finger_9 flX11_170 k_26 z_26 ?_
    rw [hJ]
    refine zk_icmp_lt (tgt := 17) hX dX11_finger_12 (by decide) (fun c12 => ?_) (fun c12 => ?_)
    rotate_left
    · exact absurd (nI_lt hj (by omega)) c12
    refine zk_iload_n hX dX11_finger_17 rfl ?_
    refine zk_tableIn hX dX11_finger_18 (by decide) (by decide) (off := 47) (tgt := 65) (by decide +kernel) (by decide) ?_
    refine zk_aload_n hX dX11_finger_65 rfl ?_
    refine zk_getR hX dX11_finger_66 flX11_12 k_0 z_0 (hw _ _ (by decide) |>.trans r_0_0) ?_
    refine zk_aload_n hX dX11_finger_69 rfl ?_
    refine zk_getR hX dX11_finger_70 flX11_38 k_0 z_0 (hw _ _ (by decide) |>.trans r_0_4) ?_
    refine zk_getR hX dX11_finger_73 flX11_177 k_26 z_26 (hw _ _ (by decide) |>.trans r_26_5) ?_
    refine zk_iload_n hX dX11_finger_76 rfl ?_
    refine zk_ialdE hX dX11_finger_77 rfl k_29 z_29 (by first | assumption | omega) rfl ?_
    refine zk_V1i hX dX11_finger_78 kcX9_tell mlX11_132 viX9_tell rfl k_1 z_1 (s_X9_tell _) (Nat.le_of_ble_eq_true rfl) rfl ?_
    refine zk_iret hX hE rfl ⟨rfl, rfl⟩ dX11_finger_81 ⟨_, rfl, ?_⟩
    exact ⟨rfl, rfl⟩
  · skip
    refine zC_of (lo := [_, _, _]) kcX11_finger (Nat.le_of_ble_eq_true rfl) rfl (fun X hX hE => ?_)
    refine zk_iload_n hX dX11_finger_0 rfl ?_
    refine zk_if_lt (tgt := 15) hX dX11_finger_1 (by decide) (fun c1 => ?_) (fun c1 => ?_)
    · exact absurd c1 (Int32.not_lt.mpr (nI_pos' (by omega)))
    refine zk_iload_n hX dX11_finger_4 rfl ?_
    refine zk_aload_n hX dX11_finger_5 rfl ?_
    refine zk_getR hX dX11_finger_6 flX11_38 k_0 z_0 (hw _ _ (by decide) |>.trans r_0_4) ?_
    refine zk_getI hX dX11_finger_9 flX11_170 k_26 z_26 ?_
    rw [hJ]
    refine zk_icmp_lt (tgt := 17) hX dX11_finger_12 (by decide) (fun c12 => ?_) (fun c12 => ?_)
    rotate_left
    · exact absurd (nI_lt hj (by omega)) c12
    refine zk_iload_n hX dX11_finger_17 rfl ?_
    refine zk_tableIn hX dX11_finger_18 (by decide) (by decide) (off := 64) (tgt := 82) (by decide +kernel) (by decide) ?_
    refine zk_aload_n hX dX11_finger_82 rfl ?_
    refine zk_getR hX dX11_finger_83 flX11_12 k_0 z_0 (hw _ _ (by decide) |>.trans r_0_0) ?_
    refine zk_aload_n hX dX11_finger_86 rfl ?_
    refine zk_getR hX dX11_finger_87 flX11_38 k_0 z_0 (hw _ _ (by decide) |>.trans r_0_4) ?_
    refine zk_getR hX dX11_finger_90 flX11_180 k_26 z_26 (hw _ _ (by decide) |>.trans r_26_6) ?_
    refine zk_iload_n hX dX11_finger_93 rfl ?_
    refine zk_ialdE hX dX11_finger_94 rfl k_30 z_30 (by first | assumption | omega) rfl ?_
    refine zk_V1i hX dX11_finger_95 kcX9_tell mlX11_132 viX9_tell rfl k_1 z_1 (s_X9_tell _) (Nat.le_of_ble_eq_true rfl) rfl ?_
    refine zk_iret hX hE rfl ⟨rfl, rfl⟩ dX11_finger_98 ⟨_, rfl, ?_⟩
    exact ⟨rfl, rfl⟩
  · skip
    refine zC_of (lo := [_, _, _]) kcX11_finger (Nat.le_of_ble_eq_true rfl) rfl (fun X hX hE => ?_)
    refine zk_iload_n hX dX11_finger_0 rfl ?_
    refine zk_if_lt (tgt := 15) hX dX11_finger_1 (by decide) (fun c1 => ?_) (fun c1 => ?_)
    · exact absurd c1 (Int32.not_lt.mpr (nI_pos' (by omega)))
    refine zk_iload_n hX dX11_finger_4 rfl ?_
    refine zk_aload_n hX dX11_finger_5 rfl ?_
    refine zk_getR hX dX11_finger_6 flX11_38 k_0 z_0 (hw _ _ (by decide) |>.trans r_0_4) ?_
    refine zk_getI hX dX11_finger_9 flX11_170 k_26 z_26 ?_
    rw [hJ]
    refine zk_icmp_lt (tgt := 17) hX dX11_finger_12 (by decide) (fun c12 => ?_) (fun c12 => ?_)
    rotate_left
    · exact absurd (nI_lt hj (by omega)) c12
    refine zk_iload_n hX dX11_finger_17 rfl ?_
    refine zk_tableIn hX dX11_finger_18 (by decide) (by decide) (off := 81) (tgt := 99) (by decide +kernel) (by decide) ?_
    refine zk_aload_n hX dX11_finger_99 rfl ?_
    refine zk_getR hX dX11_finger_100 flX11_12 k_0 z_0 (hw _ _ (by decide) |>.trans r_0_0) ?_
    refine zk_aload_n hX dX11_finger_103 rfl ?_
    refine zk_getR hX dX11_finger_104 flX11_38 k_0 z_0 (hw _ _ (by decide) |>.trans r_0_4) ?_
    refine zk_getR hX dX11_finger_107 flX11_183 k_26 z_26 (hw _ _ (by decide) |>.trans r_26_7) ?_
    refine zk_iload_n hX dX11_finger_110 rfl ?_
    refine zk_ialdE hX dX11_finger_111 rfl k_31 z_31 (by first | assumption | omega) rfl ?_
    refine zk_V1i hX dX11_finger_112 kcX9_tell mlX11_132 viX9_tell rfl k_1 z_1 (s_X9_tell _) (Nat.le_of_ble_eq_true rfl) rfl ?_
    refine zk_iret hX hE rfl ⟨rfl, rfl⟩ dX11_finger_115 ⟨_, rfl, ?_⟩
    exact ⟨rfl, rfl⟩
theorem s_X11_finger_bad {G : zG} {w : zW} (hw : zWf w) (j k : Int32) (h : ¬ ((0 ≤ j ∧ j < w.1 26 1) ∧ (0 ≤ k ∧ k < 4))) : zEi G mX11_finger [.ref 0, .int j, .int k] w (-1) w := by
  refine zC_of (lo := [_, _, _]) kcX11_finger (Nat.le_of_ble_eq_true rfl) rfl (fun X hX hE => ?_)
  refine zk_iload_n hX dX11_finger_0 rfl ?_
  refine zk_if_lt (tgt := 15) hX dX11_finger_1 (by decide) (fun c1 => ?_) (fun c1 => ?_)
  · refine zk_iconst (v := -1) hX dX11_finger_15 (by decide) ?_
    refine zk_iret hX hE rfl ⟨rfl, rfl⟩ dX11_finger_16 ⟨_, rfl, ?_⟩
    exact ⟨rfl, rfl⟩
  · refine zk_iload_n hX dX11_finger_4 rfl ?_
    refine zk_aload_n hX dX11_finger_5 rfl ?_
    refine zk_getR hX dX11_finger_6 flX11_38 k_0 z_0 (hw _ _ (by decide) |>.trans r_0_4) ?_
    refine zk_getI hX dX11_finger_9 flX11_170 k_26 z_26 ?_
    refine zk_icmp_lt (tgt := 17) hX dX11_finger_12 (by decide) (fun c12 => ?_) (fun c12 => ?_)
    · refine zk_iload_n hX dX11_finger_17 rfl ?_
      refine zk_tableOut hX dX11_finger_18 (zsw4 (fun q => h ⟨⟨by grind, c12⟩, q⟩)) (tgt := 116) (by decide) ?_
      refine zk_iconst (v := -1) hX dX11_finger_116 (by decide) ?_
      refine zk_iret hX hE rfl ⟨rfl, rfl⟩ dX11_finger_117 ⟨_, rfl, ?_⟩
      exact ⟨rfl, rfl⟩
    · refine zk_iconst (v := -1) hX dX11_finger_15 (by decide) ?_
      refine zk_iret hX hE rfl ⟨rfl, rfl⟩ dX11_finger_16 ⟨_, rfl, ?_⟩
      exact ⟨rfl, rfl⟩
theorem s_X12_finger {G : zG} {w : zW} {m j k : Nat} (hw : zWf w) (hm : m ≤ 6) (hJ : w.1 166 11 = nI m) (hj : j < m) (hk : k < 4) : zEi G mX12_finger [.ref 166, .int (nI j), .int (nI k)] w 1 (zsi w 166 2 (w.1 174 (4 * j + k))) := by
  have hS : zSz (nI m) 6 := Or.inr ⟨m, hm, rfl⟩
  refine zC_of (lo := [_, _, _]) kcX12_finger (Nat.le_of_ble_eq_true rfl) rfl (fun X hX hE => ?_)
  refine zk_iload_n hX dX12_finger_0 rfl ?_
  refine zk_iconst (v := 0) hX dX12_finger_1 (by decide) ?_
  refine zk_aload_n hX dX12_finger_2 rfl ?_
  refine zk_getI hX dX12_finger_3 flX12_196 k_166 z_166 ?_
  rw [hJ]
  refine zk_iconst (v := 1) hX dX12_finger_6 (by decide) ?_
  refine zk_isub hX dX12_finger_7 ?_
  refine zk_S3i hX dX12_finger_8 kcX12_in mlX12_131 smX12_in rfl (s_X12_in _ _ _) (Nat.le_of_ble_eq_true rfl) rfl ?_
  refine zk_if_eqB (tgt := 41) hX dX12_finger_11 (by decide) (fun c11 => ?_) (fun c11 => ?_)
  · exact absurd c11 (not_not_intro ((zSz_le1 hS (by decide)).mpr ⟨nI_pos' (by omega), nI_lt hj (by omega)⟩))
  refine zk_iload_n hX dX12_finger_14 rfl ?_
  refine zk_iconst (v := 0) hX dX12_finger_15 (by decide) ?_
  refine zk_iconst (v := 3) hX dX12_finger_16 (by decide) ?_
  refine zk_S3i hX dX12_finger_17 kcX12_in mlX12_131 smX12_in rfl (s_X12_in _ _ _) (Nat.le_of_ble_eq_true rfl) rfl ?_
  refine zk_if_eqB (tgt := 41) hX dX12_finger_20 (by decide) (fun c20 => ?_) (fun c20 => ?_)
  · exact absurd c20 (not_not_intro (zrle (n := 3) (by omega)))
  refine zk_aload_n hX dX12_finger_23 rfl ?_
  refine zk_aload_n hX dX12_finger_24 rfl ?_
  refine zk_getR hX dX12_finger_25 flX12_32 k_166 z_166 (hw _ _ (by decide) |>.trans r_166_14) ?_
  refine zk_iconst (v := 4) hX dX12_finger_28 (by decide) ?_
  refine zk_iload_n hX dX12_finger_29 rfl ?_
  refine zk_imul hX dX12_finger_30 ?_
  refine zk_iload_n hX dX12_finger_31 rfl ?_
  refine zk_iadd hX dX12_finger_32 ?_
  refine zk_ialdE hX dX12_finger_33 (nI_addE (nI_mulE (nI_k 4 rfl) rfl) rfl) k_174 z_174 (by first | assumption | omega) rfl ?_
  refine zk_iconst (v := 1) hX dX12_finger_34 (by decide) ?_
  refine zk_V2i hX dX12_finger_35 kcX12_tells mlX12_153 viX12_tells rfl k_166 z_166 (s_X12_tells _ _) (Nat.le_of_ble_eq_true rfl) rfl ?_
  refine zk_goto (tgt := 42) hX dX12_finger_38 (by decide) ?_
  refine zk_iret hX hE rfl ⟨rfl, rfl⟩ dX12_finger_42 ⟨_, rfl, ?_⟩
  exact ⟨rfl, rfl⟩
theorem s_X12_finger_bad {G : zG} {w : zW} {m : Nat} (hm : m ≤ 6) (hJ : w.1 166 11 = nI m) (j k : Int32) (h : ¬ ((0 ≤ j ∧ j < nI m) ∧ (0 ≤ k ∧ k < 4))) : zEi G mX12_finger [.ref 166, .int j, .int k] w (-1) w := by
  have hS : zSz (nI m) 6 := Or.inr ⟨m, hm, rfl⟩
  refine zC_of (lo := [_, _, _]) kcX12_finger (Nat.le_of_ble_eq_true rfl) rfl (fun X hX hE => ?_)
  refine zk_iload_n hX dX12_finger_0 rfl ?_
  refine zk_iconst (v := 0) hX dX12_finger_1 (by decide) ?_
  refine zk_aload_n hX dX12_finger_2 rfl ?_
  refine zk_getI hX dX12_finger_3 flX12_196 k_166 z_166 ?_
  rw [hJ]
  refine zk_iconst (v := 1) hX dX12_finger_6 (by decide) ?_
  refine zk_isub hX dX12_finger_7 ?_
  refine zk_S3i hX dX12_finger_8 kcX12_in mlX12_131 smX12_in rfl (s_X12_in _ _ _) (Nat.le_of_ble_eq_true rfl) rfl ?_
  refine zk_if_eqB (tgt := 41) hX dX12_finger_11 (by decide) (fun c11 => ?_) (fun c11 => ?_)
  · refine zk_iconst (v := -1) hX dX12_finger_41 (by decide) ?_
    refine zk_iret hX hE rfl ⟨rfl, rfl⟩ dX12_finger_42 ⟨_, rfl, ?_⟩
    exact ⟨rfl, rfl⟩
  · refine zk_iload_n hX dX12_finger_14 rfl ?_
    refine zk_iconst (v := 0) hX dX12_finger_15 (by decide) ?_
    refine zk_iconst (v := 3) hX dX12_finger_16 (by decide) ?_
    refine zk_S3i hX dX12_finger_17 kcX12_in mlX12_131 smX12_in rfl (s_X12_in _ _ _) (Nat.le_of_ble_eq_true rfl) rfl ?_
    refine zk_if_eqB (tgt := 41) hX dX12_finger_20 (by decide) (fun c20 => ?_) (fun c20 => ?_)
    rotate_left
    · exact absurd ⟨(zSz_le1 hS (by decide)).mp (by first | exact c11 | exact Decidable.not_not.mp c11), by grind⟩ h
    refine zk_iconst (v := -1) hX dX12_finger_41 (by decide) ?_
    refine zk_iret hX hE rfl ⟨rfl, rfl⟩ dX12_finger_42 ⟨_, rfl, ?_⟩
    exact ⟨rfl, rfl⟩
theorem zO_finger {G : zG} (j k : Int32) : zOi G mX11_finger mX12_finger [.int j, .int k] := by
  intro w h
  have h0 := h
  obtain ⟨hw, hT, hR, hX, hB, D, z, u, v, T, n, nl, c, hH, hL, hS, hP, hK⟩ := h
  have h6 := hH.1.1.2.1
  by_cases hk0 : (0 ≤ j ∧ j < nI (dF D)) ∧ (0 ≤ k ∧ k < 4)
  · obtain ⟨j, hj, rfl⟩ := rn (by omega) hk0.1
    obtain ⟨k, hk, rfl⟩ := r4 hk0.2
    have c1 := s_X11_finger (G := G) hw h6 hH.2.1.1.2.1 hj hk
    have c2 := s_X12_finger (G := G) (w := zsi w 1 0 (w.1 (28 + k) j)) (zWf_i hw) h6 (by rw [zsi_o (by decide)]; exact hH.2.2.1.1.2.1) hj hk
    have e : w.1 174 (4 * j + k) = w.1 (28 + k) j := by
      have a := hH.2.1.2.2.1 j hj
      have b := hH.2.2.1.2.2.1 j hj
      rcases (show k = 0 ∨ k = 1 ∨ k = 2 ∨ k = 3 by omega) with g | g | g | g <;> subst g
      · exact b.1.trans a.1.symm
      · exact b.2.1.trans a.2.1.symm
      · exact b.2.2.1.trans a.2.2.1.symm
      · exact b.2.2.2.trans a.2.2.2.symm
    rw [zsi_o (by decide), e] at c2
    exact zOe c1 c2 rfl (zQ_tell h0 _)
  · exact zOe (s_X11_finger_bad hw j k (by rw [hH.2.1.1.2.1]; exact hk0)) (s_X12_finger_bad h6 hH.2.2.1.1.2.1 j k hk0) rfl h0
