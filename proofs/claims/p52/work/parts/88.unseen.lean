def rU (D : zD) (z u v T : Nat) (M Y : zS) (p q d : Nat) (a : Nat) : Bool := rH D (-1) T a && (decide (a = p) || decide (a = q) || decide (d < rO D (-1) z u v M Y a))
theorem s_X11_unseen_bad {G : zG} {w : zW} (hw : zWf w) (p q k d : Int32) (h : ¬ ((0 ≤ p ∧ p < w.1 0 10) ∧ (0 ≤ q ∧ q < w.1 0 10) ∧ (0 ≤ k ∧ k < 6) ∧ 0 ≤ d ∧ d ≤ 120)) : zEi G mX11_unseen [.ref 0, .int p, .int q, .int k, .int d] w (-1) w := by
  refine zC_of (lo := [_, _, _, _, _]) kcX11_unseen (Nat.le_of_ble_eq_true rfl) rfl (fun X hX hE => ?_)
  refine zk_aload_n hX dX11_unseen_0 rfl ?_
  refine zk_iload_n hX dX11_unseen_1 rfl ?_
  refine zk_V1i hX dX11_unseen_2 kcX11_isPose mlX11_227 viX11_isPose rfl k_0 z_0 (s_X11_isPose hw _) (Nat.le_of_ble_eq_true rfl) rfl ?_
  refine zk_if_eqB (tgt := 35) hX dX11_unseen_5 (by decide) (fun c5 => ?_) (fun c5 => ?_)
  · refine zk_iconst (v := -1) hX dX11_unseen_35 (by decide) ?_
    refine zk_iret hX hE rfl ⟨rfl, rfl⟩ dX11_unseen_36 ⟨_, rfl, ?_⟩
    exact ⟨rfl, rfl⟩
  · refine zk_aload_n hX dX11_unseen_8 rfl ?_
    refine zk_iload_n hX dX11_unseen_9 rfl ?_
    refine zk_V1i hX dX11_unseen_10 kcX11_isPose mlX11_227 viX11_isPose rfl k_0 z_0 (s_X11_isPose hw _) (Nat.le_of_ble_eq_true rfl) rfl ?_
    refine zk_if_eqB (tgt := 35) hX dX11_unseen_13 (by decide) (fun c13 => ?_) (fun c13 => ?_)
    · refine zk_iconst (v := -1) hX dX11_unseen_35 (by decide) ?_
      refine zk_iret hX hE rfl ⟨rfl, rfl⟩ dX11_unseen_36 ⟨_, rfl, ?_⟩
      exact ⟨rfl, rfl⟩
    · refine zk_iload_n hX dX11_unseen_16 rfl ?_
      refine zk_S1i hX dX11_unseen_17 kcX11_isBeast mlX11_272 smX11_isBeast rfl (s_X11_isBeast _) (Nat.le_of_ble_eq_true rfl) rfl ?_
      refine zk_if_eqB (tgt := 35) hX dX11_unseen_20 (by decide) (fun c20 => ?_) (fun c20 => ?_)
      · refine zk_iconst (v := -1) hX dX11_unseen_35 (by decide) ?_
        refine zk_iret hX hE rfl ⟨rfl, rfl⟩ dX11_unseen_36 ⟨_, rfl, ?_⟩
        exact ⟨rfl, rfl⟩
      · refine zk_iload hX dX11_unseen_23 rfl ?_
        refine zk_if_lt (tgt := 35) hX dX11_unseen_25 (by decide) (fun c25 => ?_) (fun c25 => ?_)
        · refine zk_iconst (v := -1) hX dX11_unseen_35 (by decide) ?_
          refine zk_iret hX hE rfl ⟨rfl, rfl⟩ dX11_unseen_36 ⟨_, rfl, ?_⟩
          exact ⟨rfl, rfl⟩
        · refine zk_iload hX dX11_unseen_28 rfl ?_
          refine zk_bipush (v := 120) hX dX11_unseen_30 (by decide) ?_
          refine zk_icmp_le (tgt := 37) hX dX11_unseen_32 (by decide) (fun c32 => ?_) (fun c32 => ?_)
          · exact absurd c32 (fun z => h ⟨by first | exact c5 | exact Decidable.not_not.mp c5, by first | exact c13 | exact Decidable.not_not.mp c13, by first | exact c20 | exact Decidable.not_not.mp c20, by grind, z⟩)
          refine zk_iconst (v := -1) hX dX11_unseen_35 (by decide) ?_
          refine zk_iret hX hE rfl ⟨rfl, rfl⟩ dX11_unseen_36 ⟨_, rfl, ?_⟩
          exact ⟨rfl, rfl⟩
theorem s_X11_unseen_n {G : zG} {w : zW} {n p q k d : Nat} (hw : zWf w) (hn : n ≤ 12) (hP : w.1 0 10 = nI n) (hp : p < n) (hq : q < n) (hk6 : k < 6) (hd : d ≤ 120) (hk : ¬ (zheldk (w.1 (47 + 4 * p) 3) ∧ zheldk (w.1 (47 + 4 * q) 3))) : zEi G mX11_unseen [.ref 0, .int (nI p), .int (nI q), .int (nI k), .int (nI d)] w (-3) (zfind w 3) := by
  refine zC_of (lo := [_, _, _, _, _]) kcX11_unseen (Nat.le_of_ble_eq_true rfl) rfl (fun X hX hE => ?_)
  refine zk_aload_n hX dX11_unseen_0 rfl ?_
  refine zk_iload_n hX dX11_unseen_1 rfl ?_
  refine zk_V1i hX dX11_unseen_2 kcX11_isPose mlX11_227 viX11_isPose rfl k_0 z_0 (s_X11_isPose hw _) (Nat.le_of_ble_eq_true rfl) rfl ?_
  refine zk_if_eqB (tgt := 35) hX dX11_unseen_5 (by decide) (fun c5 => ?_) (fun c5 => ?_)
  · exact absurd c5 (not_not_intro (by rw [hP]; exact ⟨nI_pos' (by omega), nI_lt hp (by omega)⟩))
  refine zk_aload_n hX dX11_unseen_8 rfl ?_
  refine zk_iload_n hX dX11_unseen_9 rfl ?_
  refine zk_V1i hX dX11_unseen_10 kcX11_isPose mlX11_227 viX11_isPose rfl k_0 z_0 (s_X11_isPose hw _) (Nat.le_of_ble_eq_true rfl) rfl ?_
  refine zk_if_eqB (tgt := 35) hX dX11_unseen_13 (by decide) (fun c13 => ?_) (fun c13 => ?_)
  · exact absurd c13 (not_not_intro (by rw [hP]; exact ⟨nI_pos' (by omega), nI_lt hq (by omega)⟩))
  refine zk_iload_n hX dX11_unseen_16 rfl ?_
  refine zk_S1i hX dX11_unseen_17 kcX11_isBeast mlX11_272 smX11_isBeast rfl (s_X11_isBeast _) (Nat.le_of_ble_eq_true rfl) rfl ?_
  refine zk_if_eqB (tgt := 35) hX dX11_unseen_20 (by decide) (fun c20 => ?_) (fun c20 => ?_)
  · exact absurd c20 (not_not_intro (zrlt hk6))
  refine zk_iload hX dX11_unseen_23 rfl ?_
  refine zk_if_lt (tgt := 35) hX dX11_unseen_25 (by decide) (fun c25 => ?_) (fun c25 => ?_)
  · exact absurd c25 (nI_pos (by omega))
  refine zk_iload hX dX11_unseen_28 rfl ?_
  refine zk_bipush (v := 120) hX dX11_unseen_30 (by decide) ?_
  refine zk_icmp_le (tgt := 37) hX dX11_unseen_32 (by decide) (fun c32 => ?_) (fun c32 => ?_)
  rotate_left
  · exact absurd (nI_le (b := 120) hd (by decide)) c32
  refine zk_aload_n hX dX11_unseen_37 rfl ?_
  refine zk_getR hX dX11_unseen_38 flX11_61 k_0 z_0 (hw _ _ (by decide) |>.trans r_0_9) ?_
  refine zk_iload_n hX dX11_unseen_41 rfl ?_
  refine zk_poses hX hw dX11_unseen_42 rfl (by first | assumption | omega) ?_
  refine zk_V0i hX dX11_unseen_43 kcX5_isHeld mlX11_230 viX5_isHeld rfl (zPok (by first | assumption | omega)) (zPoz _ (by first | assumption | omega)).1 (s_X5_isHeld (by omega)) (Nat.le_of_ble_eq_true rfl) rfl ?_
  refine zk_if_eqB (tgt := 61) hX dX11_unseen_46 (by decide) (fun c46 => ?_) (fun c46 => ?_)
  · refine zk_aload_n hX dX11_unseen_61 rfl ?_
    refine zk_getR hX dX11_unseen_62 flX11_12 k_0 z_0 (hw _ _ (by decide) |>.trans r_0_0) ?_
    refine zk_iconst (v := 3) hX dX11_unseen_65 (by decide) ?_
    refine zk_V1i hX dX11_unseen_66 kcX9_find mlX11_111 viX9_find rfl k_1 z_1 (s_X9_find hw _ (by decide)) (Nat.le_of_ble_eq_true rfl) rfl ?_
    refine zk_iret hX hE rfl ⟨rfl, rfl⟩ dX11_unseen_69 ⟨_, rfl, ?_⟩
    exact ⟨rfl, rfl⟩
  · refine zk_aload_n hX dX11_unseen_49 rfl ?_
    refine zk_getR hX dX11_unseen_50 flX11_61 k_0 z_0 (hw _ _ (by decide) |>.trans r_0_9) ?_
    refine zk_iload_n hX dX11_unseen_53 rfl ?_
    refine zk_poses hX hw dX11_unseen_54 rfl (by first | assumption | omega) ?_
    refine zk_V0i hX dX11_unseen_55 kcX5_isHeld mlX11_230 viX5_isHeld rfl (zPok (by first | assumption | omega)) (zPoz _ (by first | assumption | omega)).1 (s_X5_isHeld (by omega)) (Nat.le_of_ble_eq_true rfl) rfl ?_
    refine zk_if_neB (tgt := 70) hX dX11_unseen_58 (by decide) (fun c58 => ?_) (fun c58 => ?_)
    · exact absurd c58 (fun z => hk ⟨by first | exact c46 | exact Decidable.not_not.mp c46, z⟩)
    refine zk_aload_n hX dX11_unseen_61 rfl ?_
    refine zk_getR hX dX11_unseen_62 flX11_12 k_0 z_0 (hw _ _ (by decide) |>.trans r_0_0) ?_
    refine zk_iconst (v := 3) hX dX11_unseen_65 (by decide) ?_
    refine zk_V1i hX dX11_unseen_66 kcX9_find mlX11_111 viX9_find rfl k_1 z_1 (s_X9_find hw _ (by decide)) (Nat.le_of_ble_eq_true rfl) rfl ?_
    refine zk_iret hX hE rfl ⟨rfl, rfl⟩ dX11_unseen_69 ⟨_, rfl, ?_⟩
    exact ⟨rfl, rfl⟩
theorem s_X11_unseen_m {G : zG} {w : zW} {n p q k d : Nat} (hw : zWf w) (hn : n ≤ 12) (hP : w.1 0 10 = nI n) (hp : p < n) (hq : q < n) (hk6 : k < 6) (hd : d ≤ 120) (hk : zheldk (w.1 (47 + 4 * p) 3) ∧ zheldk (w.1 (47 + 4 * q) 3)) (ht : w.1 (96 + 3 * k) 3 = 0) : zEi G mX11_unseen [.ref 0, .int (nI p), .int (nI q), .int (nI k), .int (nI d)] w (-3) (zfind w 1) := by
  refine zC_of (lo := [_, _, _, _, _]) kcX11_unseen (Nat.le_of_ble_eq_true rfl) rfl (fun X hX hE => ?_)
  refine zk_aload_n hX dX11_unseen_0 rfl ?_
  refine zk_iload_n hX dX11_unseen_1 rfl ?_
  refine zk_V1i hX dX11_unseen_2 kcX11_isPose mlX11_227 viX11_isPose rfl k_0 z_0 (s_X11_isPose hw _) (Nat.le_of_ble_eq_true rfl) rfl ?_
  refine zk_if_eqB (tgt := 35) hX dX11_unseen_5 (by decide) (fun c5 => ?_) (fun c5 => ?_)
  · exact absurd c5 (not_not_intro (by rw [hP]; exact ⟨nI_pos' (by omega), nI_lt hp (by omega)⟩))
  refine zk_aload_n hX dX11_unseen_8 rfl ?_
  refine zk_iload_n hX dX11_unseen_9 rfl ?_
  refine zk_V1i hX dX11_unseen_10 kcX11_isPose mlX11_227 viX11_isPose rfl k_0 z_0 (s_X11_isPose hw _) (Nat.le_of_ble_eq_true rfl) rfl ?_
  refine zk_if_eqB (tgt := 35) hX dX11_unseen_13 (by decide) (fun c13 => ?_) (fun c13 => ?_)
  · exact absurd c13 (not_not_intro (by rw [hP]; exact ⟨nI_pos' (by omega), nI_lt hq (by omega)⟩))
  refine zk_iload_n hX dX11_unseen_16 rfl ?_
  refine zk_S1i hX dX11_unseen_17 kcX11_isBeast mlX11_272 smX11_isBeast rfl (s_X11_isBeast _) (Nat.le_of_ble_eq_true rfl) rfl ?_
  refine zk_if_eqB (tgt := 35) hX dX11_unseen_20 (by decide) (fun c20 => ?_) (fun c20 => ?_)
  · exact absurd c20 (not_not_intro (zrlt hk6))
  refine zk_iload hX dX11_unseen_23 rfl ?_
  refine zk_if_lt (tgt := 35) hX dX11_unseen_25 (by decide) (fun c25 => ?_) (fun c25 => ?_)
  · exact absurd c25 (nI_pos (by omega))
  refine zk_iload hX dX11_unseen_28 rfl ?_
  refine zk_bipush (v := 120) hX dX11_unseen_30 (by decide) ?_
  refine zk_icmp_le (tgt := 37) hX dX11_unseen_32 (by decide) (fun c32 => ?_) (fun c32 => ?_)
  rotate_left
  · exact absurd (nI_le (b := 120) hd (by decide)) c32
  refine zk_aload_n hX dX11_unseen_37 rfl ?_
  refine zk_getR hX dX11_unseen_38 flX11_61 k_0 z_0 (hw _ _ (by decide) |>.trans r_0_9) ?_
  refine zk_iload_n hX dX11_unseen_41 rfl ?_
  refine zk_poses hX hw dX11_unseen_42 rfl (by first | assumption | omega) ?_
  refine zk_V0i hX dX11_unseen_43 kcX5_isHeld mlX11_230 viX5_isHeld rfl (zPok (by first | assumption | omega)) (zPoz _ (by first | assumption | omega)).1 (s_X5_isHeld (by omega)) (Nat.le_of_ble_eq_true rfl) rfl ?_
  refine zk_if_eqB (tgt := 61) hX dX11_unseen_46 (by decide) (fun c46 => ?_) (fun c46 => ?_)
  · exact absurd c46 (not_not_intro hk.1)
  refine zk_aload_n hX dX11_unseen_49 rfl ?_
  refine zk_getR hX dX11_unseen_50 flX11_61 k_0 z_0 (hw _ _ (by decide) |>.trans r_0_9) ?_
  refine zk_iload_n hX dX11_unseen_53 rfl ?_
  refine zk_poses hX hw dX11_unseen_54 rfl (by first | assumption | omega) ?_
  refine zk_V0i hX dX11_unseen_55 kcX5_isHeld mlX11_230 viX5_isHeld rfl (zPok (by first | assumption | omega)) (zPoz _ (by first | assumption | omega)).1 (s_X5_isHeld (by omega)) (Nat.le_of_ble_eq_true rfl) rfl ?_
  refine zk_if_neB (tgt := 70) hX dX11_unseen_58 (by decide) (fun c58 => ?_) (fun c58 => ?_)
  rotate_left
  · exact absurd hk.2 c58
  refine zk_aload_n hX dX11_unseen_70 rfl ?_
  refine zk_getR hX dX11_unseen_71 flX11_68 k_0 z_0 (hw _ _ (by decide) |>.trans r_0_11) ?_
  refine zk_iload_n hX dX11_unseen_74 rfl ?_
  refine zk_beasts hX hw dX11_unseen_75 rfl (by first | assumption | omega) ?_
  refine zk_getI hX dX11_unseen_76 flX11_284 (zBek (by first | assumption | omega)) (zBez _ (by first | assumption | omega)).1 ?_
  refine zk_if_ne (tgt := 91) hX dX11_unseen_79 (by decide) (fun c79 => ?_) (fun c79 => ?_)
  · exact absurd c79 (fun z => z ht)
  refine zk_aload_n hX dX11_unseen_82 rfl ?_
  refine zk_getR hX dX11_unseen_83 flX11_12 k_0 z_0 (hw _ _ (by decide) |>.trans r_0_0) ?_
  refine zk_iconst (v := 1) hX dX11_unseen_86 (by decide) ?_
  refine zk_V1i hX dX11_unseen_87 kcX9_find mlX11_111 viX9_find rfl k_1 z_1 (s_X9_find hw _ (by decide)) (Nat.le_of_ble_eq_true rfl) rfl ?_
  refine zk_iret hX hE rfl ⟨rfl, rfl⟩ dX11_unseen_90 ⟨_, rfl, ?_⟩
  exact ⟨rfl, rfl⟩
theorem s_X11_unseen_s {G : zG} {w : zW} {n p q k d : Nat} (hw : zWf w) (hn : n ≤ 12) (hP : w.1 0 10 = nI n) (hp : p < n) (hq : q < n) (hk6 : k < 6) (hd : d ≤ 120) (hk : zheldk (w.1 (47 + 4 * p) 3) ∧ zheldk (w.1 (47 + 4 * q) 3)) (ht : ¬ w.1 (96 + 3 * k) 3 = 0) (hs : w.1 131 0 = 1) : zEi G mX11_unseen [.ref 0, .int (nI p), .int (nI q), .int (nI k), .int (nI d)] w (-6) w := by
  refine zC_of (lo := [_, _, _, _, _]) kcX11_unseen (Nat.le_of_ble_eq_true rfl) rfl (fun X hX hE => ?_)
  refine zk_aload_n hX dX11_unseen_0 rfl ?_
  refine zk_iload_n hX dX11_unseen_1 rfl ?_
  refine zk_V1i hX dX11_unseen_2 kcX11_isPose mlX11_227 viX11_isPose rfl k_0 z_0 (s_X11_isPose hw _) (Nat.le_of_ble_eq_true rfl) rfl ?_
  refine zk_if_eqB (tgt := 35) hX dX11_unseen_5 (by decide) (fun c5 => ?_) (fun c5 => ?_)
  · exact absurd c5 (not_not_intro (by rw [hP]; exact ⟨nI_pos' (by omega), nI_lt hp (by omega)⟩))
  refine zk_aload_n hX dX11_unseen_8 rfl ?_
  refine zk_iload_n hX dX11_unseen_9 rfl ?_
  refine zk_V1i hX dX11_unseen_10 kcX11_isPose mlX11_227 viX11_isPose rfl k_0 z_0 (s_X11_isPose hw _) (Nat.le_of_ble_eq_true rfl) rfl ?_
  refine zk_if_eqB (tgt := 35) hX dX11_unseen_13 (by decide) (fun c13 => ?_) (fun c13 => ?_)
  · exact absurd c13 (not_not_intro (by rw [hP]; exact ⟨nI_pos' (by omega), nI_lt hq (by omega)⟩))
  refine zk_iload_n hX dX11_unseen_16 rfl ?_
  refine zk_S1i hX dX11_unseen_17 kcX11_isBeast mlX11_272 smX11_isBeast rfl (s_X11_isBeast _) (Nat.le_of_ble_eq_true rfl) rfl ?_
  refine zk_if_eqB (tgt := 35) hX dX11_unseen_20 (by decide) (fun c20 => ?_) (fun c20 => ?_)
  · exact absurd c20 (not_not_intro (zrlt hk6))
  refine zk_iload hX dX11_unseen_23 rfl ?_
  refine zk_if_lt (tgt := 35) hX dX11_unseen_25 (by decide) (fun c25 => ?_) (fun c25 => ?_)
  · exact absurd c25 (nI_pos (by omega))
  refine zk_iload hX dX11_unseen_28 rfl ?_
  refine zk_bipush (v := 120) hX dX11_unseen_30 (by decide) ?_
  refine zk_icmp_le (tgt := 37) hX dX11_unseen_32 (by decide) (fun c32 => ?_) (fun c32 => ?_)
  rotate_left
  · exact absurd (nI_le (b := 120) hd (by decide)) c32
  refine zk_aload_n hX dX11_unseen_37 rfl ?_
  refine zk_getR hX dX11_unseen_38 flX11_61 k_0 z_0 (hw _ _ (by decide) |>.trans r_0_9) ?_
  refine zk_iload_n hX dX11_unseen_41 rfl ?_
  refine zk_poses hX hw dX11_unseen_42 rfl (by first | assumption | omega) ?_
  refine zk_V0i hX dX11_unseen_43 kcX5_isHeld mlX11_230 viX5_isHeld rfl (zPok (by first | assumption | omega)) (zPoz _ (by first | assumption | omega)).1 (s_X5_isHeld (by omega)) (Nat.le_of_ble_eq_true rfl) rfl ?_
  refine zk_if_eqB (tgt := 61) hX dX11_unseen_46 (by decide) (fun c46 => ?_) (fun c46 => ?_)
  · exact absurd c46 (not_not_intro hk.1)
  refine zk_aload_n hX dX11_unseen_49 rfl ?_
  refine zk_getR hX dX11_unseen_50 flX11_61 k_0 z_0 (hw _ _ (by decide) |>.trans r_0_9) ?_
  refine zk_iload_n hX dX11_unseen_53 rfl ?_
  refine zk_poses hX hw dX11_unseen_54 rfl (by first | assumption | omega) ?_
  refine zk_V0i hX dX11_unseen_55 kcX5_isHeld mlX11_230 viX5_isHeld rfl (zPok (by first | assumption | omega)) (zPoz _ (by first | assumption | omega)).1 (s_X5_isHeld (by omega)) (Nat.le_of_ble_eq_true rfl) rfl ?_
  refine zk_if_neB (tgt := 70) hX dX11_unseen_58 (by decide) (fun c58 => ?_) (fun c58 => ?_)
  rotate_left
  · exact absurd hk.2 c58
  refine zk_aload_n hX dX11_unseen_70 rfl ?_
  refine zk_getR hX dX11_unseen_71 flX11_68 k_0 z_0 (hw _ _ (by decide) |>.trans r_0_11) ?_
  refine zk_iload_n hX dX11_unseen_74 rfl ?_
  refine zk_beasts hX hw dX11_unseen_75 rfl (by first | assumption | omega) ?_
  refine zk_getI hX dX11_unseen_76 flX11_284 (zBek (by first | assumption | omega)) (zBez _ (by first | assumption | omega)).1 ?_
  refine zk_if_ne (tgt := 91) hX dX11_unseen_79 (by decide) (fun c79 => ?_) (fun c79 => ?_)
  rotate_left
  · exact absurd c79 ht
  refine zk_aload_n hX dX11_unseen_91 rfl ?_
  refine zk_getR hX dX11_unseen_92 flX11_83 k_0 z_0 (hw _ _ (by decide) |>.trans r_0_13) ?_
  refine zk_getI hX dX11_unseen_95 flX11_302 k_131 z_131 ?_
  rw [hs]
  refine zk_if_eq (tgt := 104) hX dX11_unseen_98 (by decide) (fun c98 => ?_) (fun c98 => ?_)
  · exact absurd c98 (by decide)
  refine zk_bipush (v := -6) hX dX11_unseen_101 (by decide) ?_
  refine zk_iret hX hE rfl ⟨rfl, rfl⟩ dX11_unseen_103 ⟨_, rfl, ?_⟩
  exact ⟨rfl, rfl⟩
theorem s_X11_unseen {G : zG} {w : zW} {D : zD} {n p q k dd z u v T : Nat} {d e : Nat → Nat} {M Y : zS} (hw : zWf w) (hD : zDok D) (hH : cHd w 26 D) (hRe : cRe w D) (hN : zpr (zsp D) (dJ D) ≤ 4096) (hT9 : T ≤ 99) (hS : w.1 0 8 = nI T) (hL : zLm w 44 z u v) (ho : zlok z u v) (hn : n ≤ 12) (hP : w.1 0 10 = nI n) (hp : p < n) (hq : q < n) (hk6 : k < 6) (hdd : dd ≤ 120) (hk : zheldk (w.1 (47 + 4 * p) 3) ∧ zheldk (w.1 (47 + 4 * q) 3)) (ht : ¬ w.1 (96 + 3 * k) 3 = 0) (hB : cBe w k M Y)
    (hd : ∀ j, j < dJ D → w.1 (48 + 4 * p) j = ztv D d j) (he : ∀ j, j < dJ D → w.1 (48 + 4 * q) j = ztv D e j) (hdp : zcd (zsp D) d (dJ D) < zpr (zsp D) (dJ D)) (hep : zcd (zsp D) e (dJ D) < zpr (zsp D) (dJ D)) :
    zCi G mX11_unseen [.ref 0, .int (nI p), .int (nI q), .int (nI k), .int (nI dd)] w (fun r w' => zFr [147, 148, 149] [137, 138, 143, 144, 146] [] w w' ∧ ((rU D z u v T M Y (zcd (zsp D) d (dJ D)) (zcd (zsp D) e (dJ D)) dd (zcd (zsp D) d (dJ D)) = false ∧ r = -9) ∨ (rU D z u v T M Y (zcd (zsp D) d (dJ D)) (zcd (zsp D) e (dJ D)) dd (zcd (zsp D) d (dJ D)) = true ∧ ∃ res, r = zoe res ∧ zDs (zadj (zsp D) (dJ D)) (rU D z u v T M Y (zcd (zsp D) d (dJ D)) (zcd (zsp D) e (dJ D)) dd) (zcd (zsp D) d (dJ D)) (zcd (zsp D) e (dJ D)) res))) := by
  have hc := hRe.2.2.2 hN
  have hT : cTab w D (-1) := ⟨hc.1, hc.2, by rw [zN_code hD]; exact hN⟩
  have hs : w.1 131 0 = 0 := by rw [hRe.2.2.1, if_neg (by omega)]
  have hON : ∀ v, rH D (-1) T v = true → v < zN_ D (-1) (dF D) := fun v hv => (of_decide_eq_true hv).1
  have hUN : ∀ a, rU D z u v T M Y (zcd (zsp D) d (dJ D)) (zcd (zsp D) e (dJ D)) dd a = true → a < zpr (zsp D) (dJ D) := fun a ha => by
    unfold rU at ha
    rw [Bool.and_eq_true] at ha
    have := hON a ha.1
    rw [zN_code hD] at this
    exact this
  have pre : ∀ w1, zFr [147, 148, 149] [137, 138, 143, 144, 146] [] w w1 → zWf w1 ∧ cHd w1 26 D ∧ cTab w1 D (-1) ∧ cBe w1 k M Y ∧ cStep w1 D ∧ (∀ j, j < dJ D → w1.1 (48 + 4 * p) j = ztv D d j) ∧ ∀ j, j < dJ D → w1.1 (48 + 4 * q) j = ztv D e j := fun w1 hF => ⟨zFr_wf hF hw, cHd_o hH (fun a h1 h2 => hF.2.1 a (by simp; omega) (by omega)), cTab_f hT hF (by decide), ⟨zHas_o hB.1 (hF.2.2.1 _ (by simp; omega)), zHas_o hB.2 (hF.2.2.1 _ (by simp; omega))⟩, fun j hj => by rw [hF.2.1 132 (by decide) (by decide), hF.2.1 133 (by decide) (by decide)]; exact hRe.1 j hj, fun j hj => by rw [hF.2.1 (48 + 4 * p) (by simp; omega) (by omega)]; exact hd j hj, fun j hj => by rw [hF.2.1 (48 + 4 * q) (by simp; omega) (by omega)]; exact he j hj⟩
  refine zC_of (lo := [_, _, _, _, _]) kcX11_unseen (Nat.le_of_ble_eq_true rfl) rfl (fun X hX hE => ?_)
  refine zk_aload_n hX dX11_unseen_0 rfl ?_
  refine zk_iload_n hX dX11_unseen_1 rfl ?_
  refine zk_V1i hX dX11_unseen_2 kcX11_isPose mlX11_227 viX11_isPose rfl k_0 z_0 (s_X11_isPose hw _) (Nat.le_of_ble_eq_true rfl) rfl ?_
  refine zk_if_eqB (tgt := 35) hX dX11_unseen_5 (by decide) (fun c5 => ?_) (fun c5 => ?_)
  · exact absurd c5 (not_not_intro (by rw [hP]; exact ⟨nI_pos' (by omega), nI_lt hp (by omega)⟩))
  refine zk_aload_n hX dX11_unseen_8 rfl ?_
  refine zk_iload_n hX dX11_unseen_9 rfl ?_
  refine zk_V1i hX dX11_unseen_10 kcX11_isPose mlX11_227 viX11_isPose rfl k_0 z_0 (s_X11_isPose hw _) (Nat.le_of_ble_eq_true rfl) rfl ?_
  refine zk_if_eqB (tgt := 35) hX dX11_unseen_13 (by decide) (fun c13 => ?_) (fun c13 => ?_)
  · exact absurd c13 (not_not_intro (by rw [hP]; exact ⟨nI_pos' (by omega), nI_lt hq (by omega)⟩))
  refine zk_iload_n hX dX11_unseen_16 rfl ?_
  refine zk_S1i hX dX11_unseen_17 kcX11_isBeast mlX11_272 smX11_isBeast rfl (s_X11_isBeast _) (Nat.le_of_ble_eq_true rfl) rfl ?_
  refine zk_if_eqB (tgt := 35) hX dX11_unseen_20 (by decide) (fun c20 => ?_) (fun c20 => ?_)
  · exact absurd c20 (not_not_intro (zrlt hk6))
  refine zk_iload hX dX11_unseen_23 rfl ?_
  refine zk_if_lt (tgt := 35) hX dX11_unseen_25 (by decide) (fun c25 => ?_) (fun c25 => ?_)
  · exact absurd c25 (nI_pos (by omega))
  refine zk_iload hX dX11_unseen_28 rfl ?_
  refine zk_bipush (v := 120) hX dX11_unseen_30 (by decide) ?_
  refine zk_icmp_le (tgt := 37) hX dX11_unseen_32 (by decide) (fun c32 => ?_) (fun c32 => ?_)
  rotate_left
  · exact absurd (nI_le (b := 120) hdd (by decide)) c32
  refine zk_aload_n hX dX11_unseen_37 rfl ?_
  refine zk_getR hX dX11_unseen_38 flX11_61 k_0 z_0 (hw _ _ (by decide) |>.trans r_0_9) ?_
  refine zk_iload_n hX dX11_unseen_41 rfl ?_
  refine zk_poses hX hw dX11_unseen_42 rfl (by first | assumption | omega) ?_
  refine zk_V0i hX dX11_unseen_43 kcX5_isHeld mlX11_230 viX5_isHeld rfl (zPok (by first | assumption | omega)) (zPoz _ (by first | assumption | omega)).1 (s_X5_isHeld (by omega)) (Nat.le_of_ble_eq_true rfl) rfl ?_
  refine zk_if_eqB (tgt := 61) hX dX11_unseen_46 (by decide) (fun c46 => ?_) (fun c46 => ?_)
  · exact absurd c46 (not_not_intro hk.1)
  refine zk_aload_n hX dX11_unseen_49 rfl ?_
  refine zk_getR hX dX11_unseen_50 flX11_61 k_0 z_0 (hw _ _ (by decide) |>.trans r_0_9) ?_
  refine zk_iload_n hX dX11_unseen_53 rfl ?_
  refine zk_poses hX hw dX11_unseen_54 rfl (by first | assumption | omega) ?_
  refine zk_V0i hX dX11_unseen_55 kcX5_isHeld mlX11_230 viX5_isHeld rfl (zPok (by first | assumption | omega)) (zPoz _ (by first | assumption | omega)).1 (s_X5_isHeld (by omega)) (Nat.le_of_ble_eq_true rfl) rfl ?_
  refine zk_if_neB (tgt := 70) hX dX11_unseen_58 (by decide) (fun c58 => ?_) (fun c58 => ?_)
  rotate_left
  · exact absurd hk.2 c58
  refine zk_aload_n hX dX11_unseen_70 rfl ?_
  refine zk_getR hX dX11_unseen_71 flX11_68 k_0 z_0 (hw _ _ (by decide) |>.trans r_0_11) ?_
  refine zk_iload_n hX dX11_unseen_74 rfl ?_
  refine zk_beasts hX hw dX11_unseen_75 rfl (by first | assumption | omega) ?_
  refine zk_getI hX dX11_unseen_76 flX11_284 (zBek (by first | assumption | omega)) (zBez _ (by first | assumption | omega)).1 ?_
  refine zk_if_ne (tgt := 91) hX dX11_unseen_79 (by decide) (fun c79 => ?_) (fun c79 => ?_)
  rotate_left
  · exact absurd c79 ht
  refine zk_aload_n hX dX11_unseen_91 rfl ?_
  refine zk_getR hX dX11_unseen_92 flX11_83 k_0 z_0 (hw _ _ (by decide) |>.trans r_0_13) ?_
  refine zk_getI hX dX11_unseen_95 flX11_302 k_131 z_131 ?_
  rw [hs]
  refine zk_if_eq (tgt := 104) hX dX11_unseen_98 (by decide) (fun c98 => ?_) (fun c98 => ?_)
  rotate_left
  · exact absurd rfl c98
  refine zk_aload_n hX dX11_unseen_104 rfl ?_
  refine zk_getR hX dX11_unseen_105 flX11_83 k_0 z_0 (hw _ _ (by decide) |>.trans r_0_13) ?_
  refine zk_aload_n hX dX11_unseen_108 rfl ?_
  refine zk_getR hX dX11_unseen_109 flX11_38 k_0 z_0 (hw _ _ (by decide) |>.trans r_0_4) ?_
  refine zk_aload_n hX dX11_unseen_112 rfl ?_
  refine zk_getR hX dX11_unseen_113 flX11_48 k_0 z_0 (hw _ _ (by decide) |>.trans r_0_6) ?_
  refine zk_iconst (v := -1) hX dX11_unseen_116 (by decide) ?_
  refine zk_V3vp hX dX11_unseen_117 kcX6_shade mlX11_311 viX6_shade rfl k_131 z_131 (s_X6_shade hw hH hD hRe.2.1 hN (Or.inl rfl) hL ho (-1)) (Nat.le_of_ble_eq_true rfl) rfl (fun w1 q1 => ?_)
  have hF1 : zFr [147, 148, 149] [137, 138, 143, 144, 146] [] w w1 := zFr_s q1.1 (by decide)
  obtain ⟨a1, a2, a3, a4, a5, a6, a7⟩ := pre w1 hF1
  have e8 : w1.1 0 8 = nI T := (by rw [hF1.2.1 0 (by decide) (by decide)]; exact hS)
  refine zk_aload_n hX dX11_unseen_120 rfl ?_
  refine zk_getR hX dX11_unseen_121 flX11_90 k_0 z_0 (a1 _ _ (by decide) |>.trans r_0_14) ?_
  refine zk_aload_n hX dX11_unseen_124 rfl ?_
  refine zk_getR hX dX11_unseen_125 flX11_83 k_0 z_0 (a1 _ _ (by decide) |>.trans r_0_13) ?_
  refine zk_aload_n hX dX11_unseen_128 rfl ?_
  refine zk_getI hX dX11_unseen_129 flX11_55 k_0 z_0 ?_
  rw [e8]
  refine zk_V2vp hX dX11_unseen_132 kcX10_openHeld mlX11_347 viX10_openHeld rfl k_147 z_147 (s_X10_openHeld a1 hD a3 hT9) (Nat.le_of_ble_eq_true rfl) rfl (fun w2 q2 => ?_)
  have hF2 : zFr [147, 148, 149] [137, 138, 143, 144, 146] [] w w2 := zFr_t hF1 (zFr_s q2.1 (by decide))
  obtain ⟨b1, b2, b3, b4, b5, b6, b7⟩ := pre w2 hF2
  have bR : cThr w2 D (-1) z u v (dF D) := cThr_f q1.2 q2.1 (by decide)
  refine zk_aload_n hX dX11_unseen_135 rfl ?_
  refine zk_getR hX dX11_unseen_136 flX11_90 k_0 z_0 (b1 _ _ (by decide) |>.trans r_0_14) ?_
  refine zk_aload_n hX dX11_unseen_139 rfl ?_
  refine zk_getR hX dX11_unseen_140 flX11_83 k_0 z_0 (b1 _ _ (by decide) |>.trans r_0_13) ?_
  refine zk_aload_n hX dX11_unseen_143 rfl ?_
  refine zk_getR hX dX11_unseen_144 flX11_68 k_0 z_0 (b1 _ _ (by decide) |>.trans r_0_11) ?_
  refine zk_iload_n hX dX11_unseen_147 rfl ?_
  refine zk_beasts hX b1 dX11_unseen_148 rfl (by first | assumption | omega) ?_
  refine zk_iload hX dX11_unseen_149 rfl ?_
  refine zk_aload_n hX dX11_unseen_151 rfl ?_
  refine zk_iload_n hX dX11_unseen_152 rfl ?_
  refine zk_V1i hX dX11_unseen_153 kcX11_placeOf mlX11_351 viX11_placeOf rfl k_0 z_0 (s_X11_placeOf b1 hD b2 b5 (by omega) b6) (Nat.le_of_ble_eq_true rfl) rfl ?_
  refine zk_aload_n hX dX11_unseen_156 rfl ?_
  refine zk_iload_n hX dX11_unseen_157 rfl ?_
  refine zk_V1i hX dX11_unseen_158 kcX11_placeOf mlX11_351 viX11_placeOf rfl k_0 z_0 (s_X11_placeOf b1 hD b2 b5 (by omega) b7) (Nat.le_of_ble_eq_true rfl) rfl ?_
  refine zk_V5vp hX dX11_unseen_161 kcX10_closeSeen mlX11_357 viX10_closeSeen rfl k_147 z_147 (s_X10_closeSeen (d := dd) b1 b3 bR hk6 b4 (by omega) (by omega) (by omega) q2.2 hON) (Nat.le_of_ble_eq_true rfl) rfl (fun w3 q3 => ?_)
  have hF3 : zFr [147, 148, 149] [137, 138, 143, 144, 146] [] w w3 := zFr_t hF2 (zFr_s q3.1 (by decide))
  obtain ⟨d1, d2, d3, d4, d5, d6, d7⟩ := pre w3 hF3
  refine zk_aload_n hX dX11_unseen_164 rfl ?_
  refine zk_getR hX dX11_unseen_165 flX11_90 k_0 z_0 (d1 _ _ (by decide) |>.trans r_0_14) ?_
  refine zk_aload_n hX dX11_unseen_168 rfl ?_
  refine zk_getR hX dX11_unseen_169 flX11_83 k_0 z_0 (d1 _ _ (by decide) |>.trans r_0_13) ?_
  refine zk_aload_n hX dX11_unseen_172 rfl ?_
  refine zk_getR hX dX11_unseen_173 flX11_38 k_0 z_0 (d1 _ _ (by decide) |>.trans r_0_4) ?_
  refine zk_aload_n hX dX11_unseen_176 rfl ?_
  refine zk_iload_n hX dX11_unseen_177 rfl ?_
  refine zk_V1i hX dX11_unseen_178 kcX11_placeOf mlX11_351 viX11_placeOf rfl k_0 z_0 (s_X11_placeOf d1 hD d2 d5 (by omega) d6) (Nat.le_of_ble_eq_true rfl) rfl ?_
  refine zk_aload_n hX dX11_unseen_181 rfl ?_
  refine zk_iload_n hX dX11_unseen_182 rfl ?_
  refine zk_V1i hX dX11_unseen_183 kcX11_placeOf mlX11_351 viX11_placeOf rfl k_0 z_0 (s_X11_placeOf d1 hD d2 d5 (by omega) d7) (Nat.le_of_ble_eq_true rfl) rfl ?_
  refine zk_V4ip hX dX11_unseen_186 kcX10_length mlX11_354 viX10_length rfl k_147 z_147 (s_X10_length (O := rU D z u v T M Y (zcd (zsp D) d (dJ D)) (zcd (zsp D) e (dJ D)) dd) d1 hD d2 d5 hN q3.2 hUN (by omega) (by omega)) (Nat.le_of_ble_eq_true rfl) rfl (fun r9 w9 q9 => ?_)
  refine zk_iret hX hE rfl ⟨rfl, rfl⟩ dX11_unseen_189 ⟨_, rfl, ?_⟩
  exact ⟨zFr_t hF3 (zFr_s q9.1 (by decide)), q9.2⟩

