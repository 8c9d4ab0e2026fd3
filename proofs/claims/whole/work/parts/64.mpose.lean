/-! a pose asked of the model -/
abbrev mturnK (w : zW) (D : zD) (r k : Nat) : Prop := ∀ i, i < k → -nI (dB D i) ≤ w.1 169 (40 * r + i) ∧ w.1 169 (40 * r + i) ≤ nI (dA D i)
theorem s_X12_pose_bad {G : zG} {w : zW} {D : zD} (hM : mHd w D) (hD : zDok D) (r j : Int32) (h : ¬ ((0 ≤ r ∧ r < 6) ∧ jok D j)) : zEi G mX12_pose [.ref 166, .int r, .int j] w (-1) w := by
  have h6 := hD.1.2.2
  refine zC_of (lo := [_, _, _, _, _, _, _, _, _]) kcX12_pose (Nat.le_of_ble_eq_true rfl) rfl (fun X hX hE => ?_)
  refine zk_iload_n hX dX12_pose_0 rfl ?_
  refine zk_S1i hX dX12_pose_1 kcX12_isRow mlX12_141 smX12_isRow rfl (s_X12_isRow _) (Nat.le_of_ble_eq_true rfl) rfl ?_
  refine zk_if_eqB (tgt := 21) hX dX12_pose_4 (by decide) (fun c4 => ?_) (fun c4 => ?_)
  · refine zk_iconst (v := -1) hX dX12_pose_21 (by decide) ?_
    refine zk_iret hX hE rfl ⟨rfl, rfl⟩ dX12_pose_22 ⟨_, rfl, ?_⟩
    exact ⟨rfl, rfl⟩
  · refine zk_iload_n hX dX12_pose_7 rfl ?_
    refine zk_bipush (v := -9) hX dX12_pose_8 (by decide) ?_
    refine zk_icmp_eq (tgt := 23) hX dX12_pose_10 (by decide) (fun c10 => ?_) (fun c10 => ?_)
    · exact absurd ⟨by grind, Or.inl c10⟩ h
    refine zk_aload_n hX dX12_pose_13 rfl ?_
    refine zk_iload_n hX dX12_pose_14 rfl ?_
    refine zk_V1i hX dX12_pose_15 kcX12_isJoint mlX12_208 viX12_isJoint rfl k_166 z_166 (s_X12_isJoint (n := dJ D) (by omega) hM.1.2.2 _) (Nat.le_of_ble_eq_true rfl) rfl ?_
    refine zk_if_neB (tgt := 23) hX dX12_pose_18 (by decide) (fun c18 => ?_) (fun c18 => ?_)
    · exact absurd c18 (fun q => h ⟨by grind, Or.inr q⟩)
    refine zk_iconst (v := -1) hX dX12_pose_21 (by decide) ?_
    refine zk_iret hX hE rfl ⟨rfl, rfl⟩ dX12_pose_22 ⟨_, rfl, ?_⟩
    exact ⟨rfl, rfl⟩
theorem s_X12_pose_m {G : zG} {w : zW} {D : zD} {r : Nat} {j : Int32} (hw : zWf w) (hM : mHd w D) (hD : zDok D) (hr : r < 6) (hj : jok D j) (hS : ¬ 0 ≤ w.1 168 r) : zEi G mX12_pose [.ref 166, .int (nI r), .int j] w (-3) (mfind w 1) := by
  have h6 := hD.1.2.2
  refine zC_of (lo := [_, _, _, _, _, _, _, _, _]) kcX12_pose (Nat.le_of_ble_eq_true rfl) rfl (fun X hX hE => ?_)
  refine zk_iload_n hX dX12_pose_0 rfl ?_
  refine zk_S1i hX dX12_pose_1 kcX12_isRow mlX12_141 smX12_isRow rfl (s_X12_isRow _) (Nat.le_of_ble_eq_true rfl) rfl ?_
  refine zk_if_eqB (tgt := 21) hX dX12_pose_4 (by decide) (fun c4 => ?_) (fun c4 => ?_)
  · exact absurd c4 (not_not_intro (zrle (n := 5) (by omega)))
  refine zk_iload_n hX dX12_pose_7 rfl ?_
  refine zk_bipush (v := -9) hX dX12_pose_8 (by decide) ?_
  refine zk_icmp_eq (tgt := 23) hX dX12_pose_10 (by decide) (fun c10 => ?_) (fun c10 => ?_)
  · refine zk_aload_n hX dX12_pose_23 rfl ?_
    refine zk_getR hX dX12_pose_24 flX12_13 k_166 z_166 (hw _ _ (by decide) |>.trans r_166_5) ?_
    refine zk_iload_n hX dX12_pose_27 rfl ?_
    refine zk_ialdE hX dX12_pose_28 rfl k_168 z_168 (by first | assumption | omega) rfl ?_
    refine zk_if_ge (tgt := 38) hX dX12_pose_29 (by decide) (fun c29 => ?_) (fun c29 => ?_)
    · exact absurd c29 hS
    refine zk_aload_n hX dX12_pose_32 rfl ?_
    refine zk_iconst (v := 1) hX dX12_pose_33 (by decide) ?_
    refine zk_V1i hX dX12_pose_34 kcX12_meets mlX12_145 viX12_meets rfl k_166 z_166 (s_X12_meets hw _ (by decide)) (Nat.le_of_ble_eq_true rfl) rfl ?_
    refine zk_iret hX hE rfl ⟨rfl, rfl⟩ dX12_pose_37 ⟨_, rfl, ?_⟩
    exact ⟨rfl, rfl⟩
  · refine zk_aload_n hX dX12_pose_13 rfl ?_
    refine zk_iload_n hX dX12_pose_14 rfl ?_
    refine zk_V1i hX dX12_pose_15 kcX12_isJoint mlX12_208 viX12_isJoint rfl k_166 z_166 (s_X12_isJoint (n := dJ D) (by omega) hM.1.2.2 _) (Nat.le_of_ble_eq_true rfl) rfl ?_
    refine zk_if_neB (tgt := 23) hX dX12_pose_18 (by decide) (fun c18 => ?_) (fun c18 => ?_)
    rotate_left
    · exact absurd (hj.resolve_left c10) c18
    refine zk_aload_n hX dX12_pose_23 rfl ?_
    refine zk_getR hX dX12_pose_24 flX12_13 k_166 z_166 (hw _ _ (by decide) |>.trans r_166_5) ?_
    refine zk_iload_n hX dX12_pose_27 rfl ?_
    refine zk_ialdE hX dX12_pose_28 rfl k_168 z_168 (by first | assumption | omega) rfl ?_
    refine zk_if_ge (tgt := 38) hX dX12_pose_29 (by decide) (fun c29 => ?_) (fun c29 => ?_)
    · exact absurd c29 hS
    refine zk_aload_n hX dX12_pose_32 rfl ?_
    refine zk_iconst (v := 1) hX dX12_pose_33 (by decide) ?_
    refine zk_V1i hX dX12_pose_34 kcX12_meets mlX12_145 viX12_meets rfl k_166 z_166 (s_X12_meets hw _ (by decide)) (Nat.le_of_ble_eq_true rfl) rfl ?_
    refine zk_iret hX hE rfl ⟨rfl, rfl⟩ dX12_pose_37 ⟨_, rfl, ?_⟩
    exact ⟨rfl, rfl⟩
theorem s_X12_pose_s {G : zG} {w : zW} {D : zD} {r : Nat} {j : Int32} (hw : zWf w) (hM : mHd w D) (hD : zDok D) (hr : r < 6) (hj : jok D j) (hS : 0 ≤ w.1 168 r) (hs : ¬ w.1 168 r = nI (dJ D)) : zEi G mX12_pose [.ref 166, .int (nI r), .int j] w (-3) (mfind w 5) := by
  have h6 := hD.1.2.2
  refine zC_of (lo := [_, _, _, _, _, _, _, _, _]) kcX12_pose (Nat.le_of_ble_eq_true rfl) rfl (fun X hX hE => ?_)
  refine zk_iload_n hX dX12_pose_0 rfl ?_
  refine zk_S1i hX dX12_pose_1 kcX12_isRow mlX12_141 smX12_isRow rfl (s_X12_isRow _) (Nat.le_of_ble_eq_true rfl) rfl ?_
  refine zk_if_eqB (tgt := 21) hX dX12_pose_4 (by decide) (fun c4 => ?_) (fun c4 => ?_)
  · exact absurd c4 (not_not_intro (zrle (n := 5) (by omega)))
  refine zk_iload_n hX dX12_pose_7 rfl ?_
  refine zk_bipush (v := -9) hX dX12_pose_8 (by decide) ?_
  refine zk_icmp_eq (tgt := 23) hX dX12_pose_10 (by decide) (fun c10 => ?_) (fun c10 => ?_)
  · refine zk_aload_n hX dX12_pose_23 rfl ?_
    refine zk_getR hX dX12_pose_24 flX12_13 k_166 z_166 (hw _ _ (by decide) |>.trans r_166_5) ?_
    refine zk_iload_n hX dX12_pose_27 rfl ?_
    refine zk_ialdE hX dX12_pose_28 rfl k_168 z_168 (by first | assumption | omega) rfl ?_
    refine zk_if_ge (tgt := 38) hX dX12_pose_29 (by decide) (fun c29 => ?_) (fun c29 => ?_)
    rotate_left
    · exact absurd hS c29
    refine zk_aload_n hX dX12_pose_38 rfl ?_
    refine zk_getR hX dX12_pose_39 flX12_13 k_166 z_166 (hw _ _ (by decide) |>.trans r_166_5) ?_
    refine zk_iload_n hX dX12_pose_42 rfl ?_
    refine zk_ialdE hX dX12_pose_43 rfl k_168 z_168 (by first | assumption | omega) rfl ?_
    refine zk_aload_n hX dX12_pose_44 rfl ?_
    refine zk_getI hX dX12_pose_45 flX12_199 k_166 z_166 ?_
    rw [hM.1.2.2]
    refine zk_icmp_eq (tgt := 57) hX dX12_pose_48 (by decide) (fun c48 => ?_) (fun c48 => ?_)
    · exact absurd c48 hs
    refine zk_aload_n hX dX12_pose_51 rfl ?_
    refine zk_iconst (v := 5) hX dX12_pose_52 (by decide) ?_
    refine zk_V1i hX dX12_pose_53 kcX12_meets mlX12_145 viX12_meets rfl k_166 z_166 (s_X12_meets hw _ (by decide)) (Nat.le_of_ble_eq_true rfl) rfl ?_
    refine zk_iret hX hE rfl ⟨rfl, rfl⟩ dX12_pose_56 ⟨_, rfl, ?_⟩
    exact ⟨rfl, rfl⟩
  · refine zk_aload_n hX dX12_pose_13 rfl ?_
    refine zk_iload_n hX dX12_pose_14 rfl ?_
    refine zk_V1i hX dX12_pose_15 kcX12_isJoint mlX12_208 viX12_isJoint rfl k_166 z_166 (s_X12_isJoint (n := dJ D) (by omega) hM.1.2.2 _) (Nat.le_of_ble_eq_true rfl) rfl ?_
    refine zk_if_neB (tgt := 23) hX dX12_pose_18 (by decide) (fun c18 => ?_) (fun c18 => ?_)
    rotate_left
    · exact absurd (hj.resolve_left c10) c18
    refine zk_aload_n hX dX12_pose_23 rfl ?_
    refine zk_getR hX dX12_pose_24 flX12_13 k_166 z_166 (hw _ _ (by decide) |>.trans r_166_5) ?_
    refine zk_iload_n hX dX12_pose_27 rfl ?_
    refine zk_ialdE hX dX12_pose_28 rfl k_168 z_168 (by first | assumption | omega) rfl ?_
    refine zk_if_ge (tgt := 38) hX dX12_pose_29 (by decide) (fun c29 => ?_) (fun c29 => ?_)
    rotate_left
    · exact absurd hS c29
    refine zk_aload_n hX dX12_pose_38 rfl ?_
    refine zk_getR hX dX12_pose_39 flX12_13 k_166 z_166 (hw _ _ (by decide) |>.trans r_166_5) ?_
    refine zk_iload_n hX dX12_pose_42 rfl ?_
    refine zk_ialdE hX dX12_pose_43 rfl k_168 z_168 (by first | assumption | omega) rfl ?_
    refine zk_aload_n hX dX12_pose_44 rfl ?_
    refine zk_getI hX dX12_pose_45 flX12_199 k_166 z_166 ?_
    rw [hM.1.2.2]
    refine zk_icmp_eq (tgt := 57) hX dX12_pose_48 (by decide) (fun c48 => ?_) (fun c48 => ?_)
    · exact absurd c48 hs
    refine zk_aload_n hX dX12_pose_51 rfl ?_
    refine zk_iconst (v := 5) hX dX12_pose_52 (by decide) ?_
    refine zk_V1i hX dX12_pose_53 kcX12_meets mlX12_145 viX12_meets rfl k_166 z_166 (s_X12_meets hw _ (by decide)) (Nat.le_of_ble_eq_true rfl) rfl ?_
    refine zk_iret hX hE rfl ⟨rfl, rfl⟩ dX12_pose_56 ⟨_, rfl, ?_⟩
    exact ⟨rfl, rfl⟩
theorem s_X12_pose_pre {G : zG} {X : zX} {w : zW} {D : zD} {r : Nat} {j : Int32} (hX : zH G X mX12_pose) (hw : zWf w) (hM : mHd w D) (hD : zDok D) (hr : r < 6) (hj : jok D j) (hS : 0 ≤ w.1 168 r) (hs : w.1 168 r = nI (dJ D))
    (k : zk0 G X mX12_pose 112 [.ref 166, .int (nI r), .int j, .int (zb (mturnK w D r (dJ D))), .int (nI (dJ D)), .null, .null, .null, .null] [] w) : zk0 G X mX12_pose 0 [.ref 166, .int (nI r), .int j, .null, .null, .null, .null, .null, .null] [] w := by
  have h6 := hD.1.2.2
  have loop : ∀ z i, i + z = dJ D → zk0 G X mX12_pose 62 [.ref 166, .int (nI r), .int j, .int (zb (mturnK w D r i)), .int (nI i), .null, .null, .null, .null] [] w := by
    intro z
    induction z with
    | zero =>
      intro i hi
      obtain rfl : i = dJ D := by omega
      refine zk_iload hX dX12_pose_62 rfl ?_
      refine zk_aload_n hX dX12_pose_64 rfl ?_
      refine zk_getI hX dX12_pose_65 flX12_199 k_166 z_166 ?_
      rw [hM.1.2.2]
      refine zk_icmp_ge (tgt := 112) hX dX12_pose_68 (by decide) (fun c68 => ?_) (fun c68 => ?_)
      rotate_left
      · exact absurd (nI_le (Nat.le_refl _) (by omega)) c68
      exact k
    | succ z ih =>
      intro i hi
      have h9 := ih (i + 1) (by omega)
      have et : mturnK w D r i → (-nI (dB D i) ≤ w.1 169 (40 * r + i) ∧ w.1 169 (40 * r + i) ≤ nI (dA D i)) → zb (mturnK w D r (i + 1)) = 1 := fun q1 q2 => zb_t (fun y hy => by
        rcases Nat.lt_succ_iff_lt_or_eq.mp hy with h | rfl
        · exact q1 y h
        · exact q2)
      have ef : ¬ (mturnK w D r i ∧ (-nI (dB D i) ≤ w.1 169 (40 * r + i) ∧ w.1 169 (40 * r + i) ≤ nI (dA D i))) → zb (mturnK w D r (i + 1)) = 0 := fun q => zb_f (fun q1 => q ⟨fun y hy => q1 y (by omega), q1 i (by omega)⟩)
      refine zk_iload hX dX12_pose_62 rfl ?_
      refine zk_aload_n hX dX12_pose_64 rfl ?_
      refine zk_getI hX dX12_pose_65 flX12_199 k_166 z_166 ?_
      rw [hM.1.2.2]
      refine zk_icmp_ge (tgt := 112) hX dX12_pose_68 (by decide) (fun c68 => ?_) (fun c68 => ?_)
      · exact absurd c68 (nI_ge (by omega) (by omega))
      refine zk_iload_n hX dX12_pose_71 rfl ?_
      refine zk_if_eqB (tgt := 104) hX dX12_pose_72 (by decide) (fun c72 => ?_) (fun c72 => ?_)
      · refine zk_iconst (v := 0) hX dX12_pose_104 (by decide) ?_
        refine zk_istore_n (lo' := [_, _, _, _, _, _, _, _, _]) hX dX12_pose_105 (Nat.le_of_ble_eq_true rfl) rfl rfl ?_
        refine zk_iinc (lo' := [_, _, _, _, _, _, _, _, _]) hX dX12_pose_106 rfl (by first | exact zinc _ | exact rfl) (Nat.le_of_ble_eq_true rfl) rfl rfl ?_
        refine zk_goto (tgt := 62) hX dX12_pose_109 (by decide) ?_
        first
        | (rw [et c72 c97] at h9; exact h9)
        | (rw [et (Decidable.not_not.mp c72) (Decidable.not_not.mp c97)] at h9; exact h9)
        | (rw [ef (fun q => c72 q.1)] at h9; exact h9)
        | (rw [ef (fun q => c97 q.2)] at h9; exact h9)
      · refine zk_aload_n hX dX12_pose_75 rfl ?_
        refine zk_iload_n hX dX12_pose_76 rfl ?_
        refine zk_iload hX dX12_pose_77 rfl ?_
        refine zk_V2i hX dX12_pose_79 kcX12_rowAt mlX12_149 viX12_rowAt rfl k_166 z_166 (s_X12_rowAt hw (by omega)) (Nat.le_of_ble_eq_true rfl) rfl ?_
        refine zk_aload_n hX dX12_pose_82 rfl ?_
        refine zk_iload hX dX12_pose_83 rfl ?_
        refine zk_V1i hX dX12_pose_85 kcX12_least mlX12_254 viX12_least rfl k_166 z_166 (s_X12_least hw hM hD (by omega)) (Nat.le_of_ble_eq_true rfl) rfl ?_
        refine zk_aload_n hX dX12_pose_88 rfl ?_
        refine zk_iload hX dX12_pose_89 rfl ?_
        refine zk_V1i hX dX12_pose_91 kcX12_most mlX12_251 viX12_most rfl k_166 z_166 (s_X12_most hw hM hD (by omega)) (Nat.le_of_ble_eq_true rfl) rfl ?_
        refine zk_S3i hX dX12_pose_94 kcX12_in mlX12_131 smX12_in rfl (s_X12_in _ _ _) (Nat.le_of_ble_eq_true rfl) rfl ?_
        refine zk_if_eqB (tgt := 104) hX dX12_pose_97 (by decide) (fun c97 => ?_) (fun c97 => ?_)
        · refine zk_iconst (v := 0) hX dX12_pose_104 (by decide) ?_
          refine zk_istore_n (lo' := [_, _, _, _, _, _, _, _, _]) hX dX12_pose_105 (Nat.le_of_ble_eq_true rfl) rfl rfl ?_
          refine zk_iinc (lo' := [_, _, _, _, _, _, _, _, _]) hX dX12_pose_106 rfl (by first | exact zinc _ | exact rfl) (Nat.le_of_ble_eq_true rfl) rfl rfl ?_
          refine zk_goto (tgt := 62) hX dX12_pose_109 (by decide) ?_
          first
          | (rw [et c72 c97] at h9; exact h9)
          | (rw [et (Decidable.not_not.mp c72) (Decidable.not_not.mp c97)] at h9; exact h9)
          | (rw [ef (fun q => c72 q.1)] at h9; exact h9)
          | (rw [ef (fun q => c97 q.2)] at h9; exact h9)
        · refine zk_iconst (v := 1) hX dX12_pose_100 (by decide) ?_
          refine zk_goto (tgt := 105) hX dX12_pose_101 (by decide) ?_
          refine zk_istore_n (lo' := [_, _, _, _, _, _, _, _, _]) hX dX12_pose_105 (Nat.le_of_ble_eq_true rfl) rfl rfl ?_
          refine zk_iinc (lo' := [_, _, _, _, _, _, _, _, _]) hX dX12_pose_106 rfl (by first | exact zinc _ | exact rfl) (Nat.le_of_ble_eq_true rfl) rfl rfl ?_
          refine zk_goto (tgt := 62) hX dX12_pose_109 (by decide) ?_
          first
          | (rw [et c72 c97] at h9; exact h9)
          | (rw [et (Decidable.not_not.mp c72) (Decidable.not_not.mp c97)] at h9; exact h9)
          | (rw [ef (fun q => c72 q.1)] at h9; exact h9)
          | (rw [ef (fun q => c97 q.2)] at h9; exact h9)
  refine zk_iload_n hX dX12_pose_0 rfl ?_
  refine zk_S1i hX dX12_pose_1 kcX12_isRow mlX12_141 smX12_isRow rfl (s_X12_isRow _) (Nat.le_of_ble_eq_true rfl) rfl ?_
  refine zk_if_eqB (tgt := 21) hX dX12_pose_4 (by decide) (fun c4 => ?_) (fun c4 => ?_)
  · exact absurd c4 (not_not_intro (zrle (n := 5) (by omega)))
  refine zk_iload_n hX dX12_pose_7 rfl ?_
  refine zk_bipush (v := -9) hX dX12_pose_8 (by decide) ?_
  refine zk_icmp_eq (tgt := 23) hX dX12_pose_10 (by decide) (fun c10 => ?_) (fun c10 => ?_)
  · refine zk_aload_n hX dX12_pose_23 rfl ?_
    refine zk_getR hX dX12_pose_24 flX12_13 k_166 z_166 (hw _ _ (by decide) |>.trans r_166_5) ?_
    refine zk_iload_n hX dX12_pose_27 rfl ?_
    refine zk_ialdE hX dX12_pose_28 rfl k_168 z_168 (by first | assumption | omega) rfl ?_
    refine zk_if_ge (tgt := 38) hX dX12_pose_29 (by decide) (fun c29 => ?_) (fun c29 => ?_)
    rotate_left
    · exact absurd hS c29
    refine zk_aload_n hX dX12_pose_38 rfl ?_
    refine zk_getR hX dX12_pose_39 flX12_13 k_166 z_166 (hw _ _ (by decide) |>.trans r_166_5) ?_
    refine zk_iload_n hX dX12_pose_42 rfl ?_
    refine zk_ialdE hX dX12_pose_43 rfl k_168 z_168 (by first | assumption | omega) rfl ?_
    refine zk_aload_n hX dX12_pose_44 rfl ?_
    refine zk_getI hX dX12_pose_45 flX12_199 k_166 z_166 ?_
    rw [hM.1.2.2]
    refine zk_icmp_eq (tgt := 57) hX dX12_pose_48 (by decide) (fun c48 => ?_) (fun c48 => ?_)
    rotate_left
    · exact absurd hs c48
    refine zk_iconst (v := 1) hX dX12_pose_57 (by decide) ?_
    refine zk_istore_n (lo' := [_, _, _, _, _, _, _, _, _]) hX dX12_pose_58 (Nat.le_of_ble_eq_true rfl) rfl rfl ?_
    refine zk_iconst (v := 0) hX dX12_pose_59 (by decide) ?_
    refine zk_istore (lo' := [_, _, _, _, _, _, _, _, _]) hX dX12_pose_60 (Nat.le_of_ble_eq_true rfl) rfl rfl ?_
    have h9 := loop (dJ D) 0 (by omega)
    rw [zb_t (fun y hy => absurd hy (by omega))] at h9
    exact h9
  · refine zk_aload_n hX dX12_pose_13 rfl ?_
    refine zk_iload_n hX dX12_pose_14 rfl ?_
    refine zk_V1i hX dX12_pose_15 kcX12_isJoint mlX12_208 viX12_isJoint rfl k_166 z_166 (s_X12_isJoint (n := dJ D) (by omega) hM.1.2.2 _) (Nat.le_of_ble_eq_true rfl) rfl ?_
    refine zk_if_neB (tgt := 23) hX dX12_pose_18 (by decide) (fun c18 => ?_) (fun c18 => ?_)
    rotate_left
    · exact absurd (hj.resolve_left c10) c18
    refine zk_aload_n hX dX12_pose_23 rfl ?_
    refine zk_getR hX dX12_pose_24 flX12_13 k_166 z_166 (hw _ _ (by decide) |>.trans r_166_5) ?_
    refine zk_iload_n hX dX12_pose_27 rfl ?_
    refine zk_ialdE hX dX12_pose_28 rfl k_168 z_168 (by first | assumption | omega) rfl ?_
    refine zk_if_ge (tgt := 38) hX dX12_pose_29 (by decide) (fun c29 => ?_) (fun c29 => ?_)
    rotate_left
    · exact absurd hS c29
    refine zk_aload_n hX dX12_pose_38 rfl ?_
    refine zk_getR hX dX12_pose_39 flX12_13 k_166 z_166 (hw _ _ (by decide) |>.trans r_166_5) ?_
    refine zk_iload_n hX dX12_pose_42 rfl ?_
    refine zk_ialdE hX dX12_pose_43 rfl k_168 z_168 (by first | assumption | omega) rfl ?_
    refine zk_aload_n hX dX12_pose_44 rfl ?_
    refine zk_getI hX dX12_pose_45 flX12_199 k_166 z_166 ?_
    rw [hM.1.2.2]
    refine zk_icmp_eq (tgt := 57) hX dX12_pose_48 (by decide) (fun c48 => ?_) (fun c48 => ?_)
    rotate_left
    · exact absurd hs c48
    refine zk_iconst (v := 1) hX dX12_pose_57 (by decide) ?_
    refine zk_istore_n (lo' := [_, _, _, _, _, _, _, _, _]) hX dX12_pose_58 (Nat.le_of_ble_eq_true rfl) rfl rfl ?_
    refine zk_iconst (v := 0) hX dX12_pose_59 (by decide) ?_
    refine zk_istore (lo' := [_, _, _, _, _, _, _, _, _]) hX dX12_pose_60 (Nat.le_of_ble_eq_true rfl) rfl rfl ?_
    have h9 := loop (dJ D) 0 (by omega)
    rw [zb_t (fun y hy => absurd hy (by omega))] at h9
    exact h9
theorem s_X12_pose_t {G : zG} {w : zW} {D : zD} {r : Nat} {j : Int32} (hw : zWf w) (hM : mHd w D) (hD : zDok D) (hr : r < 6) (hj : jok D j) (hS : 0 ≤ w.1 168 r) (hs : w.1 168 r = nI (dJ D)) (ht : ¬ mturnK w D r (dJ D)) : zEi G mX12_pose [.ref 166, .int (nI r), .int j] w (-3) (mfind w 3) := by
  refine zC_of (lo := [_, _, _, _, _, _, _, _, _]) kcX12_pose (Nat.le_of_ble_eq_true rfl) rfl (fun X hX hE => ?_)
  refine s_X12_pose_pre hX hw hM hD hr hj hS hs ?_
  refine zk_iload_n hX dX12_pose_112 rfl ?_
  refine zk_if_neB (tgt := 122) hX dX12_pose_113 (by decide) (fun c113 => ?_) (fun c113 => ?_)
  · exact absurd c113 ht
  refine zk_aload_n hX dX12_pose_116 rfl ?_
  refine zk_iconst (v := 3) hX dX12_pose_117 (by decide) ?_
  refine zk_V1i hX dX12_pose_118 kcX12_meets mlX12_145 viX12_meets rfl k_166 z_166 (s_X12_meets hw _ (by decide)) (Nat.le_of_ble_eq_true rfl) rfl ?_
  refine zk_iret hX hE rfl ⟨rfl, rfl⟩ dX12_pose_121 ⟨_, rfl, ?_⟩
  exact ⟨rfl, rfl⟩
theorem s_X12_pose_a {G : zG} {w : zW} {D : zD} {r j : Nat} (hw : zWf w) (hM : mHd w D) (hD : zDok D) (hr : r < 6) (hj : j < dJ D) (hS : 0 ≤ w.1 168 r) (hs : w.1 168 r = nI (dJ D)) (ht : mturnK w D r (dJ D)) (ha : w.1 169 (40 * r + j) = nI (dA D j)) : zEi G mX12_pose [.ref 166, .int (nI r), .int (nI j)] w (-1) w := by
  have h6 := hD.1.2.2
  have h9 : ¬ nI j = -9 := fun q => absurd (show (0 : Int32) ≤ nI j from nI_pos' (by omega)) (by rw [q]; decide)
  refine zC_of (lo := [_, _, _, _, _, _, _, _, _]) kcX12_pose (Nat.le_of_ble_eq_true rfl) rfl (fun X hX hE => ?_)
  refine s_X12_pose_pre hX hw hM hD hr (Or.inr ⟨nI_pos' (by omega), nI_lt hj (by omega)⟩) hS hs ?_
  refine zk_iload_n hX dX12_pose_112 rfl ?_
  refine zk_if_neB (tgt := 122) hX dX12_pose_113 (by decide) (fun c113 => ?_) (fun c113 => ?_)
  rotate_left
  · exact absurd ht c113
  refine zk_iload_n hX dX12_pose_122 rfl ?_
  refine zk_bipush (v := -9) hX dX12_pose_123 (by decide) ?_
  refine zk_icmp_eq (tgt := 144) hX dX12_pose_125 (by decide) (fun c125 => ?_) (fun c125 => ?_)
  · exact absurd c125 h9
  refine zk_aload_n hX dX12_pose_128 rfl ?_
  refine zk_iload_n hX dX12_pose_129 rfl ?_
  refine zk_iload_n hX dX12_pose_130 rfl ?_
  refine zk_V2i hX dX12_pose_131 kcX12_rowAt mlX12_149 viX12_rowAt rfl k_166 z_166 (s_X12_rowAt hw (by omega)) (Nat.le_of_ble_eq_true rfl) rfl ?_
  refine zk_aload_n hX dX12_pose_134 rfl ?_
  refine zk_iload_n hX dX12_pose_135 rfl ?_
  refine zk_V1i hX dX12_pose_136 kcX12_most mlX12_251 viX12_most rfl k_166 z_166 (s_X12_most hw hM hD hj) (Nat.le_of_ble_eq_true rfl) rfl ?_
  refine zk_icmp_ne (tgt := 144) hX dX12_pose_139 (by decide) (fun c139 => ?_) (fun c139 => ?_)
  · exact absurd c139 (fun q => q ha)
  refine zk_iconst (v := -1) hX dX12_pose_142 (by decide) ?_
  refine zk_iret hX hE rfl ⟨rfl, rfl⟩ dX12_pose_143 ⟨_, rfl, ?_⟩
  exact ⟨rfl, rfl⟩
theorem s_X12_pose_144 {G : zG} {X : zX} {w : zW} {D : zD} {r : Nat} {j : Int32} (hX : zH G X mX12_pose) (hw : zWf w) (hM : mHd w D) (hD : zDok D) (hr : r < 6) (hj : jok D j) (hS : 0 ≤ w.1 168 r) (hs : w.1 168 r = nI (dJ D)) (ht : mturnK w D r (dJ D)) (ha : j = -9 ∨ ¬ w.1 169 (40 * r + j.toNatClampNeg) = nI (dA D j.toNatClampNeg))
    (k : zk0 G X mX12_pose 144 [.ref 166, .int (nI r), .int j, .int (zb (mturnK w D r (dJ D))), .int (nI (dJ D)), .null, .null, .null, .null] [] w) : zk0 G X mX12_pose 0 [.ref 166, .int (nI r), .int j, .null, .null, .null, .null, .null, .null] [] w := by
  have h6 := hD.1.2.2
  refine s_X12_pose_pre hX hw hM hD hr hj hS hs ?_
  by_cases h9 : j = -9
  · refine zk_iload_n hX dX12_pose_112 rfl ?_
    refine zk_if_neB (tgt := 122) hX dX12_pose_113 (by decide) (fun c113 => ?_) (fun c113 => ?_)
    rotate_left
    · exact absurd ht c113
    refine zk_iload_n hX dX12_pose_122 rfl ?_
    refine zk_bipush (v := -9) hX dX12_pose_123 (by decide) ?_
    refine zk_icmp_eq (tgt := 144) hX dX12_pose_125 (by decide) (fun c125 => ?_) (fun c125 => ?_)
    rotate_left
    · exact absurd h9 c125
    exact k
  · obtain ⟨j, hj', rfl⟩ := rn (by omega) (hj.resolve_left h9)
    have ha := ha.resolve_left h9
    rw [nI_clamp (by omega)] at ha
    refine zk_iload_n hX dX12_pose_112 rfl ?_
    refine zk_if_neB (tgt := 122) hX dX12_pose_113 (by decide) (fun c113 => ?_) (fun c113 => ?_)
    rotate_left
    · exact absurd ht c113
    refine zk_iload_n hX dX12_pose_122 rfl ?_
    refine zk_bipush (v := -9) hX dX12_pose_123 (by decide) ?_
    refine zk_icmp_eq (tgt := 144) hX dX12_pose_125 (by decide) (fun c125 => ?_) (fun c125 => ?_)
    · exact absurd c125 h9
    refine zk_aload_n hX dX12_pose_128 rfl ?_
    refine zk_iload_n hX dX12_pose_129 rfl ?_
    refine zk_iload_n hX dX12_pose_130 rfl ?_
    refine zk_V2i hX dX12_pose_131 kcX12_rowAt mlX12_149 viX12_rowAt rfl k_166 z_166 (s_X12_rowAt hw (by omega)) (Nat.le_of_ble_eq_true rfl) rfl ?_
    refine zk_aload_n hX dX12_pose_134 rfl ?_
    refine zk_iload_n hX dX12_pose_135 rfl ?_
    refine zk_V1i hX dX12_pose_136 kcX12_most mlX12_251 viX12_most rfl k_166 z_166 (s_X12_most hw hM hD hj') (Nat.le_of_ble_eq_true rfl) rfl ?_
    refine zk_icmp_ne (tgt := 144) hX dX12_pose_139 (by decide) (fun c139 => ?_) (fun c139 => ?_)
    rotate_left
    · exact absurd c139 ha
    exact k
theorem s_X12_pose_12 {G : zG} {w : zW} {D : zD} {r : Nat} {j : Int32} (hw : zWf w) (hM : mHd w D) (hD : zDok D) (hr : r < 6) (hj : jok D j) (hS : 0 ≤ w.1 168 r) (hs : w.1 168 r = nI (dJ D)) (ht : mturnK w D r (dJ D)) (ha : j = -9 ∨ ¬ w.1 169 (40 * r + j.toNatClampNeg) = nI (dA D j.toNatClampNeg)) (hP : w.1 166 33 = nI 12) : zEi G mX12_pose [.ref 166, .int (nI r), .int j] w (-2) w := by
  refine zC_of (lo := [_, _, _, _, _, _, _, _, _]) kcX12_pose (Nat.le_of_ble_eq_true rfl) rfl (fun X hX hE => ?_)
  refine s_X12_pose_144 hX hw hM hD hr hj hS hs ht ha ?_
  refine zk_aload_n hX dX12_pose_144 rfl ?_
  refine zk_getI hX dX12_pose_145 flX12_202 k_166 z_166 ?_
  rw [hP]
  refine zk_bipush (v := 12) hX dX12_pose_148 (by decide) ?_
  refine zk_icmp_ne (tgt := 156) hX dX12_pose_150 (by decide) (fun c150 => ?_) (fun c150 => ?_)
  · exact absurd c150 (fun q => q rfl)
  refine zk_bipush (v := -2) hX dX12_pose_153 (by decide) ?_
  refine zk_iret hX hE rfl ⟨rfl, rfl⟩ dX12_pose_155 ⟨_, rfl, ?_⟩
  exact ⟨rfl, rfl⟩
