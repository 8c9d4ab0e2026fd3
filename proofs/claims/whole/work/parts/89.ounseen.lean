/-! unseen of the model, and the call -/
theorem s_X12_unseen_bad {G : zG} {w : zW} {n : Nat} (hn : n ≤ 12) (hP : w.1 166 33 = nI n) (p q k d : Int32) (h : ¬ ((0 ≤ p ∧ p < nI n) ∧ (0 ≤ q ∧ q < nI n) ∧ (0 ≤ k ∧ k < 6) ∧ 0 ≤ d ∧ d ≤ 120)) : zEi G mX12_unseen [.ref 166, .int p, .int q, .int k, .int d] w (-1) w := by
  refine zC_of (lo := [_, _, _, _, _]) kcX12_unseen (Nat.le_of_ble_eq_true rfl) rfl (fun X hX hE => ?_)
  refine zk_aload_n hX dX12_unseen_0 rfl ?_
  refine zk_iload_n hX dX12_unseen_1 rfl ?_
  refine zk_V1i hX dX12_unseen_2 kcX12_isPose mlX12_290 viX12_isPose rfl k_166 z_166 (s_X12_isPose (n := n) (by omega) hP _) (Nat.le_of_ble_eq_true rfl) rfl ?_
  refine zk_if_eqB (tgt := 34) hX dX12_unseen_5 (by decide) (fun c5 => ?_) (fun c5 => ?_)
  · refine zk_iconst (v := -1) hX dX12_unseen_34 (by decide) ?_
    refine zk_iret hX hE rfl ⟨rfl, rfl⟩ dX12_unseen_35 ⟨_, rfl, ?_⟩
    exact ⟨rfl, rfl⟩
  · refine zk_aload_n hX dX12_unseen_8 rfl ?_
    refine zk_iload_n hX dX12_unseen_9 rfl ?_
    refine zk_V1i hX dX12_unseen_10 kcX12_isPose mlX12_290 viX12_isPose rfl k_166 z_166 (s_X12_isPose (n := n) (by omega) hP _) (Nat.le_of_ble_eq_true rfl) rfl ?_
    refine zk_if_eqB (tgt := 34) hX dX12_unseen_13 (by decide) (fun c13 => ?_) (fun c13 => ?_)
    · refine zk_iconst (v := -1) hX dX12_unseen_34 (by decide) ?_
      refine zk_iret hX hE rfl ⟨rfl, rfl⟩ dX12_unseen_35 ⟨_, rfl, ?_⟩
      exact ⟨rfl, rfl⟩
    · refine zk_iload_n hX dX12_unseen_16 rfl ?_
      refine zk_S1i hX dX12_unseen_17 kcX12_isBeast mlX12_317 smX12_isBeast rfl (s_X12_isBeast' _) (Nat.le_of_ble_eq_true rfl) rfl ?_
      refine zk_if_eqB (tgt := 34) hX dX12_unseen_20 (by decide) (fun c20 => ?_) (fun c20 => ?_)
      · refine zk_iconst (v := -1) hX dX12_unseen_34 (by decide) ?_
        refine zk_iret hX hE rfl ⟨rfl, rfl⟩ dX12_unseen_35 ⟨_, rfl, ?_⟩
        exact ⟨rfl, rfl⟩
      · refine zk_iload hX dX12_unseen_23 rfl ?_
        refine zk_iconst (v := 0) hX dX12_unseen_25 (by decide) ?_
        refine zk_bipush (v := 120) hX dX12_unseen_26 (by decide) ?_
        refine zk_S3i hX dX12_unseen_28 kcX12_in mlX12_131 smX12_in rfl (s_X12_in _ _ _) (Nat.le_of_ble_eq_true rfl) rfl ?_
        refine zk_if_neB (tgt := 36) hX dX12_unseen_31 (by decide) (fun c31 => ?_) (fun c31 => ?_)
        · exact absurd c31 (fun z => h ⟨by first | exact c5 | exact Decidable.not_not.mp c5, by first | exact c13 | exact Decidable.not_not.mp c13, by grind, z⟩)
        refine zk_iconst (v := -1) hX dX12_unseen_34 (by decide) ?_
        refine zk_iret hX hE rfl ⟨rfl, rfl⟩ dX12_unseen_35 ⟨_, rfl, ?_⟩
        exact ⟨rfl, rfl⟩
theorem s_X12_unseen_n {G : zG} {w : zW} {n p q k d : Nat} (hw : zWf w) (hn : n ≤ 12) (hP : w.1 166 33 = nI n) (hp : p < n) (hq : q < n) (hk6 : k < 6) (hd : d ≤ 120) (hk : ¬ (zheldk (w.1 183 (3 * p)) ∧ zheldk (w.1 183 (3 * q)))) : zEi G mX12_unseen [.ref 166, .int (nI p), .int (nI q), .int (nI k), .int (nI d)] w (-3) (mfind w 3) := by
  refine zC_of (lo := [_, _, _, _, _]) kcX12_unseen (Nat.le_of_ble_eq_true rfl) rfl (fun X hX hE => ?_)
  refine zk_aload_n hX dX12_unseen_0 rfl ?_
  refine zk_iload_n hX dX12_unseen_1 rfl ?_
  refine zk_V1i hX dX12_unseen_2 kcX12_isPose mlX12_290 viX12_isPose rfl k_166 z_166 (s_X12_isPose (n := n) (by omega) hP _) (Nat.le_of_ble_eq_true rfl) rfl ?_
  refine zk_if_eqB (tgt := 34) hX dX12_unseen_5 (by decide) (fun c5 => ?_) (fun c5 => ?_)
  · exact absurd c5 (not_not_intro ⟨nI_pos' (by omega), nI_lt hp (by omega)⟩)
  refine zk_aload_n hX dX12_unseen_8 rfl ?_
  refine zk_iload_n hX dX12_unseen_9 rfl ?_
  refine zk_V1i hX dX12_unseen_10 kcX12_isPose mlX12_290 viX12_isPose rfl k_166 z_166 (s_X12_isPose (n := n) (by omega) hP _) (Nat.le_of_ble_eq_true rfl) rfl ?_
  refine zk_if_eqB (tgt := 34) hX dX12_unseen_13 (by decide) (fun c13 => ?_) (fun c13 => ?_)
  · exact absurd c13 (not_not_intro ⟨nI_pos' (by omega), nI_lt hq (by omega)⟩)
  refine zk_iload_n hX dX12_unseen_16 rfl ?_
  refine zk_S1i hX dX12_unseen_17 kcX12_isBeast mlX12_317 smX12_isBeast rfl (s_X12_isBeast' _) (Nat.le_of_ble_eq_true rfl) rfl ?_
  refine zk_if_eqB (tgt := 34) hX dX12_unseen_20 (by decide) (fun c20 => ?_) (fun c20 => ?_)
  · exact absurd c20 (not_not_intro (zrle (n := 5) (by omega)))
  refine zk_iload hX dX12_unseen_23 rfl ?_
  refine zk_iconst (v := 0) hX dX12_unseen_25 (by decide) ?_
  refine zk_bipush (v := 120) hX dX12_unseen_26 (by decide) ?_
  refine zk_S3i hX dX12_unseen_28 kcX12_in mlX12_131 smX12_in rfl (s_X12_in _ _ _) (Nat.le_of_ble_eq_true rfl) rfl ?_
  refine zk_if_neB (tgt := 36) hX dX12_unseen_31 (by decide) (fun c31 => ?_) (fun c31 => ?_)
  rotate_left
  · exact absurd (zrle (n := 120) hd) c31
  refine zk_aload_n hX dX12_unseen_36 rfl ?_
  refine zk_iload_n hX dX12_unseen_37 rfl ?_
  refine zk_V1i hX dX12_unseen_38 kcX12_isHeldPose mlX12_293 viX12_isHeldPose rfl k_166 z_166 (s_X12_isHeldPose hw (by omega)) (Nat.le_of_ble_eq_true rfl) rfl ?_
  refine zk_if_eqB (tgt := 52) hX dX12_unseen_41 (by decide) (fun c41 => ?_) (fun c41 => ?_)
  · refine zk_aload_n hX dX12_unseen_52 rfl ?_
    refine zk_iconst (v := 3) hX dX12_unseen_53 (by decide) ?_
    refine zk_V1i hX dX12_unseen_54 kcX12_meets mlX12_145 viX12_meets rfl k_166 z_166 (s_X12_meets hw _ (by decide)) (Nat.le_of_ble_eq_true rfl) rfl ?_
    refine zk_iret hX hE rfl ⟨rfl, rfl⟩ dX12_unseen_57 ⟨_, rfl, ?_⟩
    exact ⟨rfl, rfl⟩
  · refine zk_aload_n hX dX12_unseen_44 rfl ?_
    refine zk_iload_n hX dX12_unseen_45 rfl ?_
    refine zk_V1i hX dX12_unseen_46 kcX12_isHeldPose mlX12_293 viX12_isHeldPose rfl k_166 z_166 (s_X12_isHeldPose hw (by omega)) (Nat.le_of_ble_eq_true rfl) rfl ?_
    refine zk_if_neB (tgt := 58) hX dX12_unseen_49 (by decide) (fun c49 => ?_) (fun c49 => ?_)
    · exact absurd c49 (fun z => hk ⟨by first | exact c41 | exact Decidable.not_not.mp c41, z⟩)
    refine zk_aload_n hX dX12_unseen_52 rfl ?_
    refine zk_iconst (v := 3) hX dX12_unseen_53 (by decide) ?_
    refine zk_V1i hX dX12_unseen_54 kcX12_meets mlX12_145 viX12_meets rfl k_166 z_166 (s_X12_meets hw _ (by decide)) (Nat.le_of_ble_eq_true rfl) rfl ?_
    refine zk_iret hX hE rfl ⟨rfl, rfl⟩ dX12_unseen_57 ⟨_, rfl, ?_⟩
    exact ⟨rfl, rfl⟩
theorem s_X12_unseen_m {G : zG} {w : zW} {n p q k d : Nat} (hw : zWf w) (hn : n ≤ 12) (hP : w.1 166 33 = nI n) (hp : p < n) (hq : q < n) (hk6 : k < 6) (hd : d ≤ 120) (hk : zheldk (w.1 183 (3 * p)) ∧ zheldk (w.1 183 (3 * q))) (ht : w.1 186 k = 0) : zEi G mX12_unseen [.ref 166, .int (nI p), .int (nI q), .int (nI k), .int (nI d)] w (-3) (mfind w 1) := by
  refine zC_of (lo := [_, _, _, _, _]) kcX12_unseen (Nat.le_of_ble_eq_true rfl) rfl (fun X hX hE => ?_)
  refine zk_aload_n hX dX12_unseen_0 rfl ?_
  refine zk_iload_n hX dX12_unseen_1 rfl ?_
  refine zk_V1i hX dX12_unseen_2 kcX12_isPose mlX12_290 viX12_isPose rfl k_166 z_166 (s_X12_isPose (n := n) (by omega) hP _) (Nat.le_of_ble_eq_true rfl) rfl ?_
  refine zk_if_eqB (tgt := 34) hX dX12_unseen_5 (by decide) (fun c5 => ?_) (fun c5 => ?_)
  · exact absurd c5 (not_not_intro ⟨nI_pos' (by omega), nI_lt hp (by omega)⟩)
  refine zk_aload_n hX dX12_unseen_8 rfl ?_
  refine zk_iload_n hX dX12_unseen_9 rfl ?_
  refine zk_V1i hX dX12_unseen_10 kcX12_isPose mlX12_290 viX12_isPose rfl k_166 z_166 (s_X12_isPose (n := n) (by omega) hP _) (Nat.le_of_ble_eq_true rfl) rfl ?_
  refine zk_if_eqB (tgt := 34) hX dX12_unseen_13 (by decide) (fun c13 => ?_) (fun c13 => ?_)
  · exact absurd c13 (not_not_intro ⟨nI_pos' (by omega), nI_lt hq (by omega)⟩)
  refine zk_iload_n hX dX12_unseen_16 rfl ?_
  refine zk_S1i hX dX12_unseen_17 kcX12_isBeast mlX12_317 smX12_isBeast rfl (s_X12_isBeast' _) (Nat.le_of_ble_eq_true rfl) rfl ?_
  refine zk_if_eqB (tgt := 34) hX dX12_unseen_20 (by decide) (fun c20 => ?_) (fun c20 => ?_)
  · exact absurd c20 (not_not_intro (zrle (n := 5) (by omega)))
  refine zk_iload hX dX12_unseen_23 rfl ?_
  refine zk_iconst (v := 0) hX dX12_unseen_25 (by decide) ?_
  refine zk_bipush (v := 120) hX dX12_unseen_26 (by decide) ?_
  refine zk_S3i hX dX12_unseen_28 kcX12_in mlX12_131 smX12_in rfl (s_X12_in _ _ _) (Nat.le_of_ble_eq_true rfl) rfl ?_
  refine zk_if_neB (tgt := 36) hX dX12_unseen_31 (by decide) (fun c31 => ?_) (fun c31 => ?_)
  rotate_left
  · exact absurd (zrle (n := 120) hd) c31
  refine zk_aload_n hX dX12_unseen_36 rfl ?_
  refine zk_iload_n hX dX12_unseen_37 rfl ?_
  refine zk_V1i hX dX12_unseen_38 kcX12_isHeldPose mlX12_293 viX12_isHeldPose rfl k_166 z_166 (s_X12_isHeldPose hw (by omega)) (Nat.le_of_ble_eq_true rfl) rfl ?_
  refine zk_if_eqB (tgt := 52) hX dX12_unseen_41 (by decide) (fun c41 => ?_) (fun c41 => ?_)
  · exact absurd c41 (not_not_intro hk.1)
  refine zk_aload_n hX dX12_unseen_44 rfl ?_
  refine zk_iload_n hX dX12_unseen_45 rfl ?_
  refine zk_V1i hX dX12_unseen_46 kcX12_isHeldPose mlX12_293 viX12_isHeldPose rfl k_166 z_166 (s_X12_isHeldPose hw (by omega)) (Nat.le_of_ble_eq_true rfl) rfl ?_
  refine zk_if_neB (tgt := 58) hX dX12_unseen_49 (by decide) (fun c49 => ?_) (fun c49 => ?_)
  rotate_left
  · exact absurd hk.2 c49
  refine zk_aload_n hX dX12_unseen_58 rfl ?_
  refine zk_getR hX dX12_unseen_59 flX12_68 k_166 z_166 (hw _ _ (by decide) |>.trans r_166_37) ?_
  refine zk_iload_n hX dX12_unseen_62 rfl ?_
  refine zk_zaldE hX dX12_unseen_63 rfl k_186 z_186 (by first | assumption | omega) rfl ?_
  refine zk_if_ne (tgt := 73) hX dX12_unseen_64 (by decide) (fun c64 => ?_) (fun c64 => ?_)
  · exact absurd c64 (fun z => z ht)
  refine zk_aload_n hX dX12_unseen_67 rfl ?_
  refine zk_iconst (v := 1) hX dX12_unseen_68 (by decide) ?_
  refine zk_V1i hX dX12_unseen_69 kcX12_meets mlX12_145 viX12_meets rfl k_166 z_166 (s_X12_meets hw _ (by decide)) (Nat.le_of_ble_eq_true rfl) rfl ?_
  refine zk_iret hX hE rfl ⟨rfl, rfl⟩ dX12_unseen_72 ⟨_, rfl, ?_⟩
  exact ⟨rfl, rfl⟩
theorem s_X12_unseen_s {G : zG} {w : zW} {D : zD} {n p q k d : Nat} (hw : zWf w) (hM : mHd w D) (hD : zDok D) (hn : n ≤ 12) (hP : w.1 166 33 = nI n) (hp : p < n) (hq : q < n) (hk6 : k < 6) (hd : d ≤ 120) (hk : zheldk (w.1 183 (3 * p)) ∧ zheldk (w.1 183 (3 * q))) (ht : ¬ w.1 186 k = 0) (hN : 4096 < zpr (zsp D) (dJ D)) : zEi G mX12_unseen [.ref 166, .int (nI p), .int (nI q), .int (nI k), .int (nI d)] w (-6) w := by
  have hN0 := zpr_le hD (Nat.le_refl _)
  refine zC_of (lo := [_, _, _, _, _]) kcX12_unseen (Nat.le_of_ble_eq_true rfl) rfl (fun X hX hE => ?_)
  refine zk_aload_n hX dX12_unseen_0 rfl ?_
  refine zk_iload_n hX dX12_unseen_1 rfl ?_
  refine zk_V1i hX dX12_unseen_2 kcX12_isPose mlX12_290 viX12_isPose rfl k_166 z_166 (s_X12_isPose (n := n) (by omega) hP _) (Nat.le_of_ble_eq_true rfl) rfl ?_
  refine zk_if_eqB (tgt := 34) hX dX12_unseen_5 (by decide) (fun c5 => ?_) (fun c5 => ?_)
  · exact absurd c5 (not_not_intro ⟨nI_pos' (by omega), nI_lt hp (by omega)⟩)
  refine zk_aload_n hX dX12_unseen_8 rfl ?_
  refine zk_iload_n hX dX12_unseen_9 rfl ?_
  refine zk_V1i hX dX12_unseen_10 kcX12_isPose mlX12_290 viX12_isPose rfl k_166 z_166 (s_X12_isPose (n := n) (by omega) hP _) (Nat.le_of_ble_eq_true rfl) rfl ?_
  refine zk_if_eqB (tgt := 34) hX dX12_unseen_13 (by decide) (fun c13 => ?_) (fun c13 => ?_)
  · exact absurd c13 (not_not_intro ⟨nI_pos' (by omega), nI_lt hq (by omega)⟩)
  refine zk_iload_n hX dX12_unseen_16 rfl ?_
  refine zk_S1i hX dX12_unseen_17 kcX12_isBeast mlX12_317 smX12_isBeast rfl (s_X12_isBeast' _) (Nat.le_of_ble_eq_true rfl) rfl ?_
  refine zk_if_eqB (tgt := 34) hX dX12_unseen_20 (by decide) (fun c20 => ?_) (fun c20 => ?_)
  · exact absurd c20 (not_not_intro (zrle (n := 5) (by omega)))
  refine zk_iload hX dX12_unseen_23 rfl ?_
  refine zk_iconst (v := 0) hX dX12_unseen_25 (by decide) ?_
  refine zk_bipush (v := 120) hX dX12_unseen_26 (by decide) ?_
  refine zk_S3i hX dX12_unseen_28 kcX12_in mlX12_131 smX12_in rfl (s_X12_in _ _ _) (Nat.le_of_ble_eq_true rfl) rfl ?_
  refine zk_if_neB (tgt := 36) hX dX12_unseen_31 (by decide) (fun c31 => ?_) (fun c31 => ?_)
  rotate_left
  · exact absurd (zrle (n := 120) hd) c31
  refine zk_aload_n hX dX12_unseen_36 rfl ?_
  refine zk_iload_n hX dX12_unseen_37 rfl ?_
  refine zk_V1i hX dX12_unseen_38 kcX12_isHeldPose mlX12_293 viX12_isHeldPose rfl k_166 z_166 (s_X12_isHeldPose hw (by omega)) (Nat.le_of_ble_eq_true rfl) rfl ?_
  refine zk_if_eqB (tgt := 52) hX dX12_unseen_41 (by decide) (fun c41 => ?_) (fun c41 => ?_)
  · exact absurd c41 (not_not_intro hk.1)
  refine zk_aload_n hX dX12_unseen_44 rfl ?_
  refine zk_iload_n hX dX12_unseen_45 rfl ?_
  refine zk_V1i hX dX12_unseen_46 kcX12_isHeldPose mlX12_293 viX12_isHeldPose rfl k_166 z_166 (s_X12_isHeldPose hw (by omega)) (Nat.le_of_ble_eq_true rfl) rfl ?_
  refine zk_if_neB (tgt := 58) hX dX12_unseen_49 (by decide) (fun c49 => ?_) (fun c49 => ?_)
  rotate_left
  · exact absurd hk.2 c49
  refine zk_aload_n hX dX12_unseen_58 rfl ?_
  refine zk_getR hX dX12_unseen_59 flX12_68 k_166 z_166 (hw _ _ (by decide) |>.trans r_166_37) ?_
  refine zk_iload_n hX dX12_unseen_62 rfl ?_
  refine zk_zaldE hX dX12_unseen_63 rfl k_186 z_186 (by first | assumption | omega) rfl ?_
  refine zk_if_ne (tgt := 73) hX dX12_unseen_64 (by decide) (fun c64 => ?_) (fun c64 => ?_)
  rotate_left
  · exact absurd c64 ht
  refine zk_aload_n hX dX12_unseen_73 rfl ?_
  refine zk_V0i hX dX12_unseen_74 kcX12_turnsMany mlX12_329 viX12_turnsMany rfl k_166 z_166 (s_X12_turnsMany hw hM hD) (Nat.le_of_ble_eq_true rfl) rfl ?_
  refine zk_sipush (v := 4096) hX dX12_unseen_77 (by decide) ?_
  refine zk_icmp_le (tgt := 86) hX dX12_unseen_80 (by decide) (fun c80 => ?_) (fun c80 => ?_)
  · exact absurd c80 (fun z => absurd (nI_leD (y := 4096) z) (by omega))
  refine zk_bipush (v := -6) hX dX12_unseen_83 (by decide) ?_
  refine zk_iret hX hE rfl ⟨rfl, rfl⟩ dX12_unseen_85 ⟨_, rfl, ?_⟩
  exact ⟨rfl, rfl⟩
def mU (D : zD) (z u v T : Nat) (M Y : zS) (d i : Nat) : Bool := mQ D (-1) T i && decide (d < mF D (-1) z u v M Y i)
theorem s_X12_unseen {G : zG} {w : zW} {D : zD} {n p q k dd z u v T : Nat} {d e : Nat → Nat} {M Y : zS} (hw : zWf w) (hM : mHd w D) (hD : zDok D) (hN : zpr (zsp D) (dJ D) ≤ 4096) (hT9 : T ≤ 99) (hS : w.1 166 24 = nI T) (hl : mLm w z u v) (ho : zlok z u v) (hn : n ≤ 12) (hP : w.1 166 33 = nI n) (hp : p < n) (hq : q < n) (hk6 : k < 6) (hdd : dd ≤ 120) (hk : zheldk (w.1 183 (3 * p)) ∧ zheldk (w.1 183 (3 * q))) (ht : ¬ w.1 186 k = 0) (hB : mBe w k M Y)
    (hdl : ∀ j, j < dJ D → d j < zsp D j) (hel : ∀ j, j < dJ D → e j < zsp D j) (hd : ∀ j, j < dJ D → w.1 184 (6 * p + j) = ztv D d j) (he : ∀ j, j < dJ D → w.1 184 (6 * q + j) = ztv D e j) :
    zCi G mX12_unseen [.ref 166, .int (nI p), .int (nI q), .int (nI k), .int (nI dd)] w (fun r w' => zFr [179, 180, 181, 182, 194, 195, 196] [] [29] w w' ∧ ((¬ (zkd D (zcode_t D (zcd (zsp D) d (dJ D))) (-1) T = 1 ∧ zkd D (zcode_t D (zcd (zsp D) e (dJ D))) (-1) T = 1) ∧ r = -9) ∨
      ((zkd D (zcode_t D (zcd (zsp D) d (dJ D))) (-1) T = 1 ∧ zkd D (zcode_t D (zcd (zsp D) e (dJ D))) (-1) T = 1) ∧ ∃ res, r = zoe res ∧ zDs (zadj (zsp D) (dJ D)) (fun a => mU D z u v T M Y dd a || decide (a = zcd (zsp D) e (dJ D))) (zcd (zsp D) d (dJ D)) (zcd (zsp D) e (dJ D)) res))) := by
  have ez : ∀ i, zb (zkd D (zcode_t D i) (-1) T = 1 ∧ dd < zofB M Y (zthr z u v (zdkL zno (zP D (zcode_t D i) (-1))))) = zb (mU D z u v T M Y dd i = true) := fun i => zb_c (by
    unfold mU
    rw [Bool.and_eq_true, mQ_t, decide_eq_true_eq]
    exact Iff.rfl)
  refine zC_of (lo := [_, _, _, _, _]) kcX12_unseen (Nat.le_of_ble_eq_true rfl) rfl (fun X hX hE => ?_)
  refine zk_aload_n hX dX12_unseen_0 rfl ?_
  refine zk_iload_n hX dX12_unseen_1 rfl ?_
  refine zk_V1i hX dX12_unseen_2 kcX12_isPose mlX12_290 viX12_isPose rfl k_166 z_166 (s_X12_isPose (n := n) (by omega) hP _) (Nat.le_of_ble_eq_true rfl) rfl ?_
  refine zk_if_eqB (tgt := 34) hX dX12_unseen_5 (by decide) (fun c5 => ?_) (fun c5 => ?_)
  · exact absurd c5 (not_not_intro ⟨nI_pos' (by omega), nI_lt hp (by omega)⟩)
  refine zk_aload_n hX dX12_unseen_8 rfl ?_
  refine zk_iload_n hX dX12_unseen_9 rfl ?_
  refine zk_V1i hX dX12_unseen_10 kcX12_isPose mlX12_290 viX12_isPose rfl k_166 z_166 (s_X12_isPose (n := n) (by omega) hP _) (Nat.le_of_ble_eq_true rfl) rfl ?_
  refine zk_if_eqB (tgt := 34) hX dX12_unseen_13 (by decide) (fun c13 => ?_) (fun c13 => ?_)
  · exact absurd c13 (not_not_intro ⟨nI_pos' (by omega), nI_lt hq (by omega)⟩)
  refine zk_iload_n hX dX12_unseen_16 rfl ?_
  refine zk_S1i hX dX12_unseen_17 kcX12_isBeast mlX12_317 smX12_isBeast rfl (s_X12_isBeast' _) (Nat.le_of_ble_eq_true rfl) rfl ?_
  refine zk_if_eqB (tgt := 34) hX dX12_unseen_20 (by decide) (fun c20 => ?_) (fun c20 => ?_)
  · exact absurd c20 (not_not_intro (zrle (n := 5) (by omega)))
  refine zk_iload hX dX12_unseen_23 rfl ?_
  refine zk_iconst (v := 0) hX dX12_unseen_25 (by decide) ?_
  refine zk_bipush (v := 120) hX dX12_unseen_26 (by decide) ?_
  refine zk_S3i hX dX12_unseen_28 kcX12_in mlX12_131 smX12_in rfl (s_X12_in _ _ _) (Nat.le_of_ble_eq_true rfl) rfl ?_
  refine zk_if_neB (tgt := 36) hX dX12_unseen_31 (by decide) (fun c31 => ?_) (fun c31 => ?_)
  rotate_left
  · exact absurd (zrle (n := 120) hdd) c31
  refine zk_aload_n hX dX12_unseen_36 rfl ?_
  refine zk_iload_n hX dX12_unseen_37 rfl ?_
  refine zk_V1i hX dX12_unseen_38 kcX12_isHeldPose mlX12_293 viX12_isHeldPose rfl k_166 z_166 (s_X12_isHeldPose hw (by omega)) (Nat.le_of_ble_eq_true rfl) rfl ?_
  refine zk_if_eqB (tgt := 52) hX dX12_unseen_41 (by decide) (fun c41 => ?_) (fun c41 => ?_)
  · exact absurd c41 (not_not_intro hk.1)
  refine zk_aload_n hX dX12_unseen_44 rfl ?_
  refine zk_iload_n hX dX12_unseen_45 rfl ?_
  refine zk_V1i hX dX12_unseen_46 kcX12_isHeldPose mlX12_293 viX12_isHeldPose rfl k_166 z_166 (s_X12_isHeldPose hw (by omega)) (Nat.le_of_ble_eq_true rfl) rfl ?_
  refine zk_if_neB (tgt := 58) hX dX12_unseen_49 (by decide) (fun c49 => ?_) (fun c49 => ?_)
  rotate_left
  · exact absurd hk.2 c49
  refine zk_aload_n hX dX12_unseen_58 rfl ?_
  refine zk_getR hX dX12_unseen_59 flX12_68 k_166 z_166 (hw _ _ (by decide) |>.trans r_166_37) ?_
  refine zk_iload_n hX dX12_unseen_62 rfl ?_
  refine zk_zaldE hX dX12_unseen_63 rfl k_186 z_186 (by first | assumption | omega) rfl ?_
  refine zk_if_ne (tgt := 73) hX dX12_unseen_64 (by decide) (fun c64 => ?_) (fun c64 => ?_)
  rotate_left
  · exact absurd c64 ht
  refine zk_aload_n hX dX12_unseen_73 rfl ?_
  refine zk_V0i hX dX12_unseen_74 kcX12_turnsMany mlX12_329 viX12_turnsMany rfl k_166 z_166 (s_X12_turnsMany hw hM hD) (Nat.le_of_ble_eq_true rfl) rfl ?_
  refine zk_sipush (v := 4096) hX dX12_unseen_77 (by decide) ?_
  refine zk_icmp_le (tgt := 86) hX dX12_unseen_80 (by decide) (fun c80 => ?_) (fun c80 => ?_)
  rotate_left
  · exact absurd (nI_le (b := 4096) hN (by decide)) c80
  refine zk_aload_n hX dX12_unseen_86 rfl ?_
  refine zk_iload_n hX dX12_unseen_87 rfl ?_
  refine zk_iload hX dX12_unseen_88 rfl ?_
  refine zk_V2vp hX dX12_unseen_90 kcX12_layOpen mlX12_359 viX12_layOpen rfl k_166 z_166 (s_X12_layOpen_k (d := dd) hw hM hD hS hT9 hN hk6 hB (by omega) hl ho) (Nat.le_of_ble_eq_true rfl) rfl (fun w1 q1 => ?_)
  have hw1 := zFr_wf q1.1 hw
  have hM1 := mHd_f hM q1.1 (by decide)
  refine zk_aload_n hX dX12_unseen_93 rfl ?_
  refine zk_aload_n hX dX12_unseen_94 rfl ?_
  refine zk_iload_n hX dX12_unseen_95 rfl ?_
  refine zk_V1ip hX dX12_unseen_96 kcX12_codeOf mlX12_362 viX12_codeOf rfl k_166 z_166 (s_X12_codeOf hw1 hM1 hD (by omega) hdl (fun j hj => by rw [q1.1.2.1 184 (by decide) (by decide)]; exact hd j hj)) (Nat.le_of_ble_eq_true rfl) rfl (fun r2 w2 q2 => ?_)
  obtain ⟨rfl, q2⟩ := q2
  have hw2 := zFr_wf q2 hw1
  have hM2 := mHd_f hM1 q2 (by decide)
  refine zk_aload_n hX dX12_unseen_99 rfl ?_
  refine zk_iload_n hX dX12_unseen_100 rfl ?_
  refine zk_V1ip hX dX12_unseen_101 kcX12_codeOf mlX12_362 viX12_codeOf rfl k_166 z_166 (s_X12_codeOf hw2 hM2 hD (by omega) hel (fun j hj => by rw [q2.2.1 184 (by decide) (by decide), q1.1.2.1 184 (by decide) (by decide)]; exact he j hj)) (Nat.le_of_ble_eq_true rfl) rfl (fun r3 w3 q3 => ?_)
  obtain ⟨rfl, q3⟩ := q3
  have hw3 := zFr_wf q3 hw2
  have hM3 := mHd_f hM2 q3 (by decide)
  refine zk_V2ip hX dX12_unseen_104 kcX12_wayBetween mlX12_365 viX12_wayBetween rfl k_166 z_166 (s_X12_wayBetween (T := T) (P := mU D z u v T M Y dd) hw3 hM3 hD (by rw [q3.2.2.2 24 (by decide), q2.2.2.2 24 (by decide), q1.1.2.2.2 24 (by decide)]; exact hS) hT9 hN (fun i hi => by rw [q3.2.1 196 (by decide) (by decide), q2.2.1 196 (by decide) (by decide), q1.2 i hi]; exact ez i) (zcd_lt hdl) (zcd_lt hel)) (Nat.le_of_ble_eq_true rfl) rfl (fun r9 w9 q9 => ?_)
  refine zk_iret hX hE rfl ⟨rfl, rfl⟩ dX12_unseen_107 ⟨_, rfl, ?_⟩
  exact ⟨zFr_t (zFr_t (zFr_s q1.1 (by decide)) (zFr_s q2 (by decide))) (zFr_t (zFr_s q3 (by decide)) (zFr_s q9.1 (by decide))), q9.2⟩
theorem zO_unseen {G : zG} (p q k d : Int32) : zOi G mX11_unseen mX12_unseen [.int p, .int q, .int k, .int d] := by
  intro w h
  have h0 := h
  obtain ⟨hw, hT, hR, hX, hB, D, z, u, v, T, n, nl, c, hH, hL, hS, hP, hK⟩ := h
  obtain ⟨hD, hH1, hM, hRe⟩ := hH
  have h12 := hP.1
  by_cases hk0 : (0 ≤ p ∧ p < nI n) ∧ (0 ≤ q ∧ q < nI n) ∧ (0 ≤ k ∧ k < 6) ∧ 0 ≤ d ∧ d ≤ 120
  · obtain ⟨p, hp, rfl⟩ := rn (by omega) hk0.1
    obtain ⟨q, hq, rfl⟩ := rn (by omega) hk0.2.1
    obtain ⟨k, hk6, rfl⟩ := r6 hk0.2.2.1
    obtain ⟨dd, hdd, rfl⟩ := znatle (n := 120) (by decide) hk0.2.2.2.1 hk0.2.2.2.2
    have gp := hP.2.2.2 p hp
    have gq := hP.2.2.2 q hq
    obtain ⟨b1, b2, b3, M, Y, b4, b5⟩ := hB k hk6
    by_cases hk : (w.1 183 (3 * p) = 1 ∨ w.1 183 (3 * p) = 4 ∨ w.1 183 (3 * p) = 5) ∧ (w.1 183 (3 * q) = 1 ∨ w.1 183 (3 * q) = 4 ∨ w.1 183 (3 * q) = 5)
    · have hk' : zheldk (w.1 (47 + 4 * p) 3) ∧ zheldk (w.1 (47 + 4 * q) 3) := by rw [gp.2.2.2.1.1, gq.2.2.2.1.1]; exact hk
      by_cases hz : w.1 186 k = 0
      · exact zO_find h0 1 (s_X11_unseen_m hw h12 hP.2.1 hp hq hk6 hdd hk' (b1.trans hz)) (s_X12_unseen_m (zfind_w hw) h12 (by rw [zfind_a (by decide) (by decide)]; exact hP.2.2.1) hp hq hk6 hdd (by rw [zfind_a (by decide) (by decide)]; exact hk) (by rw [zfind_a (by decide) (by decide)]; exact hz))
      · have hz' : ¬ w.1 (96 + 3 * k) 3 = 0 := by rw [b1]; exact hz
        by_cases hN : 4096 < zpr (zsp D) (dJ D)
        · exact zOe (s_X11_unseen_s hw h12 hP.2.1 hp hq hk6 hdd hk' hz' (by rw [hRe.2.2.1, if_pos hN])) (s_X12_unseen_s hw hM hD h12 hP.2.2.1 hp hq hk6 hdd hk hz hN) rfl h0
        · obtain ⟨d, hdl, hd⟩ := qP1_d gp
          obtain ⟨e, hel, he⟩ := qP1_d gq
          have hdN := zcd_lt hdl
          have heN := zcd_lt hel
          refine zCi_m (s_X11_unseen (G := G) hw hD hH1 hRe (by omega) hS.1 hS.2.1 hL.2.1 hL.1 h12 hP.2.1 hp hq hk6 hdd hk' hz' b4 hd he hdN heN) (fun r w1 g => ?_)
          obtain ⟨k1, g⟩ := g
          refine zCi_m (s_X12_unseen (G := G) (w := w1) (T := T) (zFr_wf k1 hw) (mHd_f hM k1 (by decide)) hD (by omega) hS.1 (by rw [k1.2.2.2 24 (by decide)]; exact hS.2.2) (mLm_o hL.2.2 ⟨k1.2.2.2 25 (by decide), k1.2.2.2 26 (by decide), k1.2.2.2 27 (by decide)⟩) hL.1 h12 (by rw [k1.2.2.2 33 (by decide)]; exact hP.2.2.1) hp hq hk6 hdd (by rw [k1.2.1 183 (by decide) (by decide)]; exact hk) (by rw [k1.2.1 186 (by decide) (by decide)]; exact hz) (mBe_o b5 ⟨k1.2.1 187 (by decide) (by decide), k1.2.1 188 (by decide) (by decide)⟩) hdl hel (fun j hj => by rw [k1.2.1 184 (by decide) (by decide), gp.2.2.1 j hj]; exact hd j hj) (fun j hj => by rw [k1.2.1 184 (by decide) (by decide), gq.2.2.1 j hj]; exact he j hj)) (fun r' w2 g' => ?_)
          obtain ⟨k2, g'⟩ := g'
          have hF : zFr [147, 148, 149, 179, 180, 181, 182, 194, 195, 196] [137, 138, 143, 144, 146] [29] w w2 := zFr_t (zFr_s k1 (by decide)) (zFr_s k2 (by decide))
          refine ⟨?_, zQ_told h0 (zFr_wf hF hw) hF.2 (by decide) (qT_f hT hF.2 (by decide))⟩
          generalize zcd (zsp D) d (dJ D) = P at *
          generalize zcd (zsp D) e (dJ D) = Q at *
          have ep : rH D (-1) T P = mQ D (-1) T P := rH_code hD hdN
          have eq : rH D (-1) T Q = mQ D (-1) T Q := rH_code hD heN
          have uP : rU D z u v T M Y P Q dd P = mQ D (-1) T P := by
            unfold rU
            rw [ep]
            simp
          have uQ : rU D z u v T M Y P Q dd Q = mQ D (-1) T Q := by
            unfold rU
            rw [eq]
            simp
          rcases g with ⟨g1, rfl⟩ | ⟨g1, res, rfl, g2⟩
          · rcases g' with ⟨_, rfl⟩ | ⟨g3, _⟩
            · rfl
            · rw [uP, mQ_t.mpr g3.1] at g1
              cases g1
          · rcases g' with ⟨g3, rfl⟩ | ⟨g3, res', rfl, g4⟩
            · have nq : ¬ zkd D (zcode_t D Q) (-1) T = 1 := fun z => g3 ⟨mQ_t.mp (uP ▸ g1), z⟩
              have hq0 : rU D z u v T M Y P Q dd Q = false := by
                rw [uQ]
                exact Bool.eq_false_iff.mpr (fun z => nq (mQ_t.mp z))
              have hne : Q ≠ P := fun z => by rw [z] at hq0; rw [z] at g1; rw [g1] at hq0; cases hq0
              rw [zDs_no hq0 hne g2]
              rfl
            · have g5 := zDs_bc (N := zpr (zsp D) (dJ D)) (O' := fun a => mU D z u v T M Y dd a || decide (a = Q)) (fun a b ha hb => zadj_lt (fun j hj => (zsp_b hD hj).1) ha hb) hdN (fun a ha hne => by
                unfold rU mU
                rw [rH_code hD ha, rO_code hD]
                by_cases ea : a = Q
                · rw [ea, mQ_t.mpr g3.2]
                  simp
                · simp [ea, hne]) g2
              rw [zDs_u g4 g5]
    · exact zO_find h0 3 (s_X11_unseen_n hw h12 hP.2.1 hp hq hk6 hdd (by rw [gp.2.2.2.1.1, gq.2.2.2.1.1]; exact hk)) (s_X12_unseen_n (zfind_w hw) h12 (by rw [zfind_a (by decide) (by decide)]; exact hP.2.2.1) hp hq hk6 hdd (by rw [zfind_a (by decide) (by decide)]; exact hk))
  · exact zOe (s_X11_unseen_bad hw p q k d (by rw [hP.2.1]; exact hk0)) (s_X12_unseen_bad h12 hP.2.2.1 p q k d hk0) rfl h0
