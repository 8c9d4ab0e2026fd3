/-! marks -/
theorem s_X11_mark_bad {G : zG} {w : zW} (hw : zWf w) (p m : Int32) (h : ¬ ((0 ≤ p ∧ p < w.1 0 10) ∧ (1 ≤ m ∧ m ≤ 5))) : zEi G mX11_mark [.ref 0, .int p, .int m] w (-1) w := by
  refine zC_of (lo := [_, _, _, _]) kcX11_mark (Nat.le_of_ble_eq_true rfl) rfl (fun X hX hE => ?_)
  refine zk_aload_n hX dX11_mark_0 rfl ?_
  refine zk_iload_n hX dX11_mark_1 rfl ?_
  refine zk_V1i hX dX11_mark_2 kcX11_isPose mlX11_227 viX11_isPose rfl k_0 z_0 (s_X11_isPose hw _) (Nat.le_of_ble_eq_true rfl) rfl ?_
  refine zk_if_eqB (tgt := 18) hX dX11_mark_5 (by decide) (fun c5 => ?_) (fun c5 => ?_)
  · refine zk_iconst (v := -1) hX dX11_mark_18 (by decide) ?_
    refine zk_iret hX hE rfl ⟨rfl, rfl⟩ dX11_mark_19 ⟨_, rfl, ?_⟩
    exact ⟨rfl, rfl⟩
  · refine zk_iload_n hX dX11_mark_8 rfl ?_
    refine zk_iconst (v := 1) hX dX11_mark_9 (by decide) ?_
    refine zk_icmp_lt (tgt := 18) hX dX11_mark_10 (by decide) (fun c10 => ?_) (fun c10 => ?_)
    · refine zk_iconst (v := -1) hX dX11_mark_18 (by decide) ?_
      refine zk_iret hX hE rfl ⟨rfl, rfl⟩ dX11_mark_19 ⟨_, rfl, ?_⟩
      exact ⟨rfl, rfl⟩
    · refine zk_iload_n hX dX11_mark_13 rfl ?_
      refine zk_iconst (v := 5) hX dX11_mark_14 (by decide) ?_
      refine zk_icmp_le (tgt := 20) hX dX11_mark_15 (by decide) (fun c15 => ?_) (fun c15 => ?_)
      · exact absurd c15 (fun q => h ⟨by first | exact c5 | exact Decidable.not_not.mp c5, by grind⟩)
      refine zk_iconst (v := -1) hX dX11_mark_18 (by decide) ?_
      refine zk_iret hX hE rfl ⟨rfl, rfl⟩ dX11_mark_19 ⟨_, rfl, ?_⟩
      exact ⟨rfl, rfl⟩
def c_mark (w : zW) (p m : Nat) (S C : zS) : Int32 × zW := if (m = 1 ∧ (w.1 (47 + 4 * p) 3 = 1 ∨ w.1 (47 + 4 * p) 3 = 4 ∨ w.1 (47 + 4 * p) 3 = 5)) ∨ (¬ m = 1 ∧ w.1 (47 + 4 * p) 3 = nI m) then (if m = 1 then nI (zcard S) else if m = 2 then w.1 (47 + 4 * p) 6 else if m = 3 then w.1 (47 + 4 * p) 7 else if m = 4 then w.1 (47 + 4 * p) 4 else nI (zcard C), w) else (-3, zfind w 3)
theorem s_X11_mark {G : zG} {w : zW} {n p m : Nat} {S C : zS} (hw : zWf w) (hn : n ≤ 12) (hP : w.1 0 10 = nI n) (hp : p < n) (hm : 1 ≤ m ∧ m ≤ 5) (hS : zHas w (49 + 4 * p) S) (hC : zHas w (50 + 4 * p) C) :
    zFi G mX11_mark [.ref 0, .int (nI p), .int (nI m)] w (c_mark w p m S C) := by
  rcases (show m = 1 ∨ m = 2 ∨ m = 3 ∨ m = 4 ∨ m = 5 by omega) with g | g | g | g | g <;> subst g
  · skip
    refine zC_of (lo := [_, _, _, _]) kcX11_mark (Nat.le_of_ble_eq_true rfl) rfl (fun X hX hE => ?_)
    refine zk_aload_n hX dX11_mark_0 rfl ?_
    refine zk_iload_n hX dX11_mark_1 rfl ?_
    refine zk_V1i hX dX11_mark_2 kcX11_isPose mlX11_227 viX11_isPose rfl k_0 z_0 (s_X11_isPose hw _) (Nat.le_of_ble_eq_true rfl) rfl ?_
    refine zk_if_eqB (tgt := 18) hX dX11_mark_5 (by decide) (fun c5 => ?_) (fun c5 => ?_)
    · exact absurd c5 (not_not_intro (by rw [hP]; exact ⟨nI_pos' (by omega), nI_lt hp (by omega)⟩))
    refine zk_iload_n hX dX11_mark_8 rfl ?_
    refine zk_iconst (v := 1) hX dX11_mark_9 (by decide) ?_
    refine zk_icmp_lt (tgt := 18) hX dX11_mark_10 (by decide) (fun c10 => ?_) (fun c10 => ?_)
    · exact absurd c10 (by decide)
    refine zk_iload_n hX dX11_mark_13 rfl ?_
    refine zk_iconst (v := 5) hX dX11_mark_14 (by decide) ?_
    refine zk_icmp_le (tgt := 20) hX dX11_mark_15 (by decide) (fun c15 => ?_) (fun c15 => ?_)
    rotate_left
    · exact absurd (by decide) c15
    refine zk_aload_n hX dX11_mark_20 rfl ?_
    refine zk_getR hX dX11_mark_21 flX11_61 k_0 z_0 (hw _ _ (by decide) |>.trans r_0_9) ?_
    refine zk_iload_n hX dX11_mark_24 rfl ?_
    refine zk_poses hX hw dX11_mark_25 rfl (by first | assumption | omega) ?_
    refine zk_astore_n (lo' := [_, _, _, _]) hX dX11_mark_26 (Nat.le_of_ble_eq_true rfl) rfl rfl ?_
    refine zk_iload_n hX dX11_mark_27 rfl ?_
    refine zk_iconst (v := 1) hX dX11_mark_28 (by decide) ?_
    refine zk_icmp_ne (tgt := 42) hX dX11_mark_29 (by decide) (fun c29 => ?_) (fun c29 => ?_)
    · exact absurd rfl c29
    refine zk_aload_n hX dX11_mark_32 rfl ?_
    refine zk_V0i hX dX11_mark_33 kcX5_isHeld mlX11_230 viX5_isHeld rfl (zPok (by first | assumption | omega)) (zPoz _ (by first | assumption | omega)).1 (s_X5_isHeld (by omega)) (Nat.le_of_ble_eq_true rfl) rfl ?_
    refine zk_if_neB (tgt := 59) hX dX11_mark_36 (by decide) (fun c36 => ?_) (fun c36 => ?_)
    · refine zk_iload_n hX dX11_mark_59 rfl ?_
      refine zk_tableIn hX dX11_mark_60 (by decide) (by decide) (off := 32) (tgt := 92) (by decide +kernel) (by decide) ?_
      refine zk_aload_n hX dX11_mark_92 rfl ?_
      refine zk_getR hX dX11_mark_93 flX11_256 (zPok (by first | assumption | omega)) (zPoz _ (by first | assumption | omega)).1 ((hw _ _ (by omega)).trans (zPoz _ (by first | assumption | omega)).2.2.2.2.2.1) ?_
      refine zk_V0i hX dX11_mark_96 kcX1_number mlX11_247 viX1_number rfl (show 49 + 4 * _ < 202 by omega) (zPoz _ (by first | assumption | omega)).2.2.1 (s_X1_number (zPoD (by omega)) hS) (Nat.le_of_ble_eq_true rfl) rfl ?_
      refine zk_iret hX hE rfl ⟨rfl, rfl⟩ dX11_mark_99 ⟨_, rfl, ?_⟩
      unfold c_mark; rw [if_pos (Or.inl ⟨rfl, by first | exact c36 | exact Decidable.not_not.mp c36⟩)]; exact ⟨rfl, rfl⟩
    · refine zk_goto (tgt := 50) hX dX11_mark_39 (by decide) ?_
      refine zk_aload_n hX dX11_mark_50 rfl ?_
      refine zk_getR hX dX11_mark_51 flX11_12 k_0 z_0 (hw _ _ (by decide) |>.trans r_0_0) ?_
      refine zk_iconst (v := 3) hX dX11_mark_54 (by decide) ?_
      refine zk_V1i hX dX11_mark_55 kcX9_find mlX11_111 viX9_find rfl k_1 z_1 (s_X9_find hw _ (by decide)) (Nat.le_of_ble_eq_true rfl) rfl ?_
      refine zk_iret hX hE rfl ⟨rfl, rfl⟩ dX11_mark_58 ⟨_, rfl, ?_⟩
      unfold c_mark; rw [if_neg (fun q => q.elim (fun q => absurd q.2 c36) (fun q => q.1 rfl))]; exact ⟨rfl, rfl⟩
  · skip
    refine zC_of (lo := [_, _, _, _]) kcX11_mark (Nat.le_of_ble_eq_true rfl) rfl (fun X hX hE => ?_)
    refine zk_aload_n hX dX11_mark_0 rfl ?_
    refine zk_iload_n hX dX11_mark_1 rfl ?_
    refine zk_V1i hX dX11_mark_2 kcX11_isPose mlX11_227 viX11_isPose rfl k_0 z_0 (s_X11_isPose hw _) (Nat.le_of_ble_eq_true rfl) rfl ?_
    refine zk_if_eqB (tgt := 18) hX dX11_mark_5 (by decide) (fun c5 => ?_) (fun c5 => ?_)
    · exact absurd c5 (not_not_intro (by rw [hP]; exact ⟨nI_pos' (by omega), nI_lt hp (by omega)⟩))
    refine zk_iload_n hX dX11_mark_8 rfl ?_
    refine zk_iconst (v := 1) hX dX11_mark_9 (by decide) ?_
    refine zk_icmp_lt (tgt := 18) hX dX11_mark_10 (by decide) (fun c10 => ?_) (fun c10 => ?_)
    · exact absurd c10 (by decide)
    refine zk_iload_n hX dX11_mark_13 rfl ?_
    refine zk_iconst (v := 5) hX dX11_mark_14 (by decide) ?_
    refine zk_icmp_le (tgt := 20) hX dX11_mark_15 (by decide) (fun c15 => ?_) (fun c15 => ?_)
    rotate_left
    · exact absurd (by decide) c15
    refine zk_aload_n hX dX11_mark_20 rfl ?_
    refine zk_getR hX dX11_mark_21 flX11_61 k_0 z_0 (hw _ _ (by decide) |>.trans r_0_9) ?_
    refine zk_iload_n hX dX11_mark_24 rfl ?_
    refine zk_poses hX hw dX11_mark_25 rfl (by first | assumption | omega) ?_
    refine zk_astore_n (lo' := [_, _, _, _]) hX dX11_mark_26 (Nat.le_of_ble_eq_true rfl) rfl rfl ?_
    refine zk_iload_n hX dX11_mark_27 rfl ?_
    refine zk_iconst (v := 1) hX dX11_mark_28 (by decide) ?_
    refine zk_icmp_ne (tgt := 42) hX dX11_mark_29 (by decide) (fun c29 => ?_) (fun c29 => ?_)
    rotate_left
    · exact absurd c29 (by decide)
    refine zk_aload_n hX dX11_mark_42 rfl ?_
    refine zk_getI hX dX11_mark_43 flX11_224 (zPok (by first | assumption | omega)) (zPoz _ (by first | assumption | omega)).1 ?_
    refine zk_iload_n hX dX11_mark_46 rfl ?_
    refine zk_icmp_eq (tgt := 59) hX dX11_mark_47 (by decide) (fun c47 => ?_) (fun c47 => ?_)
    · refine zk_iload_n hX dX11_mark_59 rfl ?_
      refine zk_tableIn hX dX11_mark_60 (by decide) (by decide) (off := 40) (tgt := 100) (by decide +kernel) (by decide) ?_
      refine zk_aload_n hX dX11_mark_100 rfl ?_
      refine zk_getI hX dX11_mark_101 flX11_259 (zPok (by first | assumption | omega)) (zPoz _ (by first | assumption | omega)).1 ?_
      refine zk_iret hX hE rfl ⟨rfl, rfl⟩ dX11_mark_104 ⟨_, rfl, ?_⟩
      unfold c_mark; rw [if_pos (Or.inr ⟨by decide, c47⟩)]; exact ⟨rfl, rfl⟩
    · refine zk_aload_n hX dX11_mark_50 rfl ?_
      refine zk_getR hX dX11_mark_51 flX11_12 k_0 z_0 (hw _ _ (by decide) |>.trans r_0_0) ?_
      refine zk_iconst (v := 3) hX dX11_mark_54 (by decide) ?_
      refine zk_V1i hX dX11_mark_55 kcX9_find mlX11_111 viX9_find rfl k_1 z_1 (s_X9_find hw _ (by decide)) (Nat.le_of_ble_eq_true rfl) rfl ?_
      refine zk_iret hX hE rfl ⟨rfl, rfl⟩ dX11_mark_58 ⟨_, rfl, ?_⟩
      unfold c_mark; rw [if_neg (fun q => q.elim (fun q => absurd q.1 (by decide)) (fun q => c47 q.2))]; exact ⟨rfl, rfl⟩
  · skip
    refine zC_of (lo := [_, _, _, _]) kcX11_mark (Nat.le_of_ble_eq_true rfl) rfl (fun X hX hE => ?_)
    refine zk_aload_n hX dX11_mark_0 rfl ?_
    refine zk_iload_n hX dX11_mark_1 rfl ?_
    refine zk_V1i hX dX11_mark_2 kcX11_isPose mlX11_227 viX11_isPose rfl k_0 z_0 (s_X11_isPose hw _) (Nat.le_of_ble_eq_true rfl) rfl ?_
    refine zk_if_eqB (tgt := 18) hX dX11_mark_5 (by decide) (fun c5 => ?_) (fun c5 => ?_)
    · exact absurd c5 (not_not_intro (by rw [hP]; exact ⟨nI_pos' (by omega), nI_lt hp (by omega)⟩))
    refine zk_iload_n hX dX11_mark_8 rfl ?_
    refine zk_iconst (v := 1) hX dX11_mark_9 (by decide) ?_
    refine zk_icmp_lt (tgt := 18) hX dX11_mark_10 (by decide) (fun c10 => ?_) (fun c10 => ?_)
    · exact absurd c10 (by decide)
    refine zk_iload_n hX dX11_mark_13 rfl ?_
    refine zk_iconst (v := 5) hX dX11_mark_14 (by decide) ?_
    refine zk_icmp_le (tgt := 20) hX dX11_mark_15 (by decide) (fun c15 => ?_) (fun c15 => ?_)
    rotate_left
    · exact absurd (by decide) c15
    refine zk_aload_n hX dX11_mark_20 rfl ?_
    refine zk_getR hX dX11_mark_21 flX11_61 k_0 z_0 (hw _ _ (by decide) |>.trans r_0_9) ?_
    refine zk_iload_n hX dX11_mark_24 rfl ?_
    refine zk_poses hX hw dX11_mark_25 rfl (by first | assumption | omega) ?_
    refine zk_astore_n (lo' := [_, _, _, _]) hX dX11_mark_26 (Nat.le_of_ble_eq_true rfl) rfl rfl ?_
    refine zk_iload_n hX dX11_mark_27 rfl ?_
    refine zk_iconst (v := 1) hX dX11_mark_28 (by decide) ?_
    refine zk_icmp_ne (tgt := 42) hX dX11_mark_29 (by decide) (fun c29 => ?_) (fun c29 => ?_)
    rotate_left
    · exact absurd c29 (by decide)
    refine zk_aload_n hX dX11_mark_42 rfl ?_
    refine zk_getI hX dX11_mark_43 flX11_224 (zPok (by first | assumption | omega)) (zPoz _ (by first | assumption | omega)).1 ?_
    refine zk_iload_n hX dX11_mark_46 rfl ?_
    refine zk_icmp_eq (tgt := 59) hX dX11_mark_47 (by decide) (fun c47 => ?_) (fun c47 => ?_)
    · refine zk_iload_n hX dX11_mark_59 rfl ?_
      refine zk_tableIn hX dX11_mark_60 (by decide) (by decide) (off := 45) (tgt := 105) (by decide +kernel) (by decide) ?_
      refine zk_aload_n hX dX11_mark_105 rfl ?_
      refine zk_getI hX dX11_mark_106 flX11_262 (zPok (by first | assumption | omega)) (zPoz _ (by first | assumption | omega)).1 ?_
      refine zk_iret hX hE rfl ⟨rfl, rfl⟩ dX11_mark_109 ⟨_, rfl, ?_⟩
      unfold c_mark; rw [if_pos (Or.inr ⟨by decide, c47⟩)]; exact ⟨rfl, rfl⟩
    · refine zk_aload_n hX dX11_mark_50 rfl ?_
      refine zk_getR hX dX11_mark_51 flX11_12 k_0 z_0 (hw _ _ (by decide) |>.trans r_0_0) ?_
      refine zk_iconst (v := 3) hX dX11_mark_54 (by decide) ?_
      refine zk_V1i hX dX11_mark_55 kcX9_find mlX11_111 viX9_find rfl k_1 z_1 (s_X9_find hw _ (by decide)) (Nat.le_of_ble_eq_true rfl) rfl ?_
      refine zk_iret hX hE rfl ⟨rfl, rfl⟩ dX11_mark_58 ⟨_, rfl, ?_⟩
      unfold c_mark; rw [if_neg (fun q => q.elim (fun q => absurd q.1 (by decide)) (fun q => c47 q.2))]; exact ⟨rfl, rfl⟩
  · skip
    refine zC_of (lo := [_, _, _, _]) kcX11_mark (Nat.le_of_ble_eq_true rfl) rfl (fun X hX hE => ?_)
    refine zk_aload_n hX dX11_mark_0 rfl ?_
    refine zk_iload_n hX dX11_mark_1 rfl ?_
    refine zk_V1i hX dX11_mark_2 kcX11_isPose mlX11_227 viX11_isPose rfl k_0 z_0 (s_X11_isPose hw _) (Nat.le_of_ble_eq_true rfl) rfl ?_
    refine zk_if_eqB (tgt := 18) hX dX11_mark_5 (by decide) (fun c5 => ?_) (fun c5 => ?_)
    · exact absurd c5 (not_not_intro (by rw [hP]; exact ⟨nI_pos' (by omega), nI_lt hp (by omega)⟩))
    refine zk_iload_n hX dX11_mark_8 rfl ?_
    refine zk_iconst (v := 1) hX dX11_mark_9 (by decide) ?_
    refine zk_icmp_lt (tgt := 18) hX dX11_mark_10 (by decide) (fun c10 => ?_) (fun c10 => ?_)
    · exact absurd c10 (by decide)
    refine zk_iload_n hX dX11_mark_13 rfl ?_
    refine zk_iconst (v := 5) hX dX11_mark_14 (by decide) ?_
    refine zk_icmp_le (tgt := 20) hX dX11_mark_15 (by decide) (fun c15 => ?_) (fun c15 => ?_)
    rotate_left
    · exact absurd (by decide) c15
    refine zk_aload_n hX dX11_mark_20 rfl ?_
    refine zk_getR hX dX11_mark_21 flX11_61 k_0 z_0 (hw _ _ (by decide) |>.trans r_0_9) ?_
    refine zk_iload_n hX dX11_mark_24 rfl ?_
    refine zk_poses hX hw dX11_mark_25 rfl (by first | assumption | omega) ?_
    refine zk_astore_n (lo' := [_, _, _, _]) hX dX11_mark_26 (Nat.le_of_ble_eq_true rfl) rfl rfl ?_
    refine zk_iload_n hX dX11_mark_27 rfl ?_
    refine zk_iconst (v := 1) hX dX11_mark_28 (by decide) ?_
    refine zk_icmp_ne (tgt := 42) hX dX11_mark_29 (by decide) (fun c29 => ?_) (fun c29 => ?_)
    rotate_left
    · exact absurd c29 (by decide)
    refine zk_aload_n hX dX11_mark_42 rfl ?_
    refine zk_getI hX dX11_mark_43 flX11_224 (zPok (by first | assumption | omega)) (zPoz _ (by first | assumption | omega)).1 ?_
    refine zk_iload_n hX dX11_mark_46 rfl ?_
    refine zk_icmp_eq (tgt := 59) hX dX11_mark_47 (by decide) (fun c47 => ?_) (fun c47 => ?_)
    · refine zk_iload_n hX dX11_mark_59 rfl ?_
      refine zk_tableIn hX dX11_mark_60 (by decide) (by decide) (off := 50) (tgt := 110) (by decide +kernel) (by decide) ?_
      refine zk_aload_n hX dX11_mark_110 rfl ?_
      refine zk_getI hX dX11_mark_111 flX11_244 (zPok (by first | assumption | omega)) (zPoz _ (by first | assumption | omega)).1 ?_
      refine zk_iret hX hE rfl ⟨rfl, rfl⟩ dX11_mark_114 ⟨_, rfl, ?_⟩
      unfold c_mark; rw [if_pos (Or.inr ⟨by decide, c47⟩)]; exact ⟨rfl, rfl⟩
    · refine zk_aload_n hX dX11_mark_50 rfl ?_
      refine zk_getR hX dX11_mark_51 flX11_12 k_0 z_0 (hw _ _ (by decide) |>.trans r_0_0) ?_
      refine zk_iconst (v := 3) hX dX11_mark_54 (by decide) ?_
      refine zk_V1i hX dX11_mark_55 kcX9_find mlX11_111 viX9_find rfl k_1 z_1 (s_X9_find hw _ (by decide)) (Nat.le_of_ble_eq_true rfl) rfl ?_
      refine zk_iret hX hE rfl ⟨rfl, rfl⟩ dX11_mark_58 ⟨_, rfl, ?_⟩
      unfold c_mark; rw [if_neg (fun q => q.elim (fun q => absurd q.1 (by decide)) (fun q => c47 q.2))]; exact ⟨rfl, rfl⟩
  · skip
    refine zC_of (lo := [_, _, _, _]) kcX11_mark (Nat.le_of_ble_eq_true rfl) rfl (fun X hX hE => ?_)
    refine zk_aload_n hX dX11_mark_0 rfl ?_
    refine zk_iload_n hX dX11_mark_1 rfl ?_
    refine zk_V1i hX dX11_mark_2 kcX11_isPose mlX11_227 viX11_isPose rfl k_0 z_0 (s_X11_isPose hw _) (Nat.le_of_ble_eq_true rfl) rfl ?_
    refine zk_if_eqB (tgt := 18) hX dX11_mark_5 (by decide) (fun c5 => ?_) (fun c5 => ?_)
    · exact absurd c5 (not_not_intro (by rw [hP]; exact ⟨nI_pos' (by omega), nI_lt hp (by omega)⟩))
    refine zk_iload_n hX dX11_mark_8 rfl ?_
    refine zk_iconst (v := 1) hX dX11_mark_9 (by decide) ?_
    refine zk_icmp_lt (tgt := 18) hX dX11_mark_10 (by decide) (fun c10 => ?_) (fun c10 => ?_)
    · exact absurd c10 (by decide)
    refine zk_iload_n hX dX11_mark_13 rfl ?_
    refine zk_iconst (v := 5) hX dX11_mark_14 (by decide) ?_
    refine zk_icmp_le (tgt := 20) hX dX11_mark_15 (by decide) (fun c15 => ?_) (fun c15 => ?_)
    rotate_left
    · exact absurd (by decide) c15
    refine zk_aload_n hX dX11_mark_20 rfl ?_
    refine zk_getR hX dX11_mark_21 flX11_61 k_0 z_0 (hw _ _ (by decide) |>.trans r_0_9) ?_
    refine zk_iload_n hX dX11_mark_24 rfl ?_
    refine zk_poses hX hw dX11_mark_25 rfl (by first | assumption | omega) ?_
    refine zk_astore_n (lo' := [_, _, _, _]) hX dX11_mark_26 (Nat.le_of_ble_eq_true rfl) rfl rfl ?_
    refine zk_iload_n hX dX11_mark_27 rfl ?_
    refine zk_iconst (v := 1) hX dX11_mark_28 (by decide) ?_
    refine zk_icmp_ne (tgt := 42) hX dX11_mark_29 (by decide) (fun c29 => ?_) (fun c29 => ?_)
    rotate_left
    · exact absurd c29 (by decide)
    refine zk_aload_n hX dX11_mark_42 rfl ?_
    refine zk_getI hX dX11_mark_43 flX11_224 (zPok (by first | assumption | omega)) (zPoz _ (by first | assumption | omega)).1 ?_
    refine zk_iload_n hX dX11_mark_46 rfl ?_
    refine zk_icmp_eq (tgt := 59) hX dX11_mark_47 (by decide) (fun c47 => ?_) (fun c47 => ?_)
    · refine zk_iload_n hX dX11_mark_59 rfl ?_
      refine zk_tableOut hX dX11_mark_60 (Or.inr (by decide)) (tgt := 115) (by decide) ?_
      refine zk_aload_n hX dX11_mark_115 rfl ?_
      refine zk_getR hX dX11_mark_116 flX11_237 (zPok (by first | assumption | omega)) (zPoz _ (by first | assumption | omega)).1 ((hw _ _ (by omega)).trans (zPoz _ (by first | assumption | omega)).2.2.2.2.2.2) ?_
      refine zk_V0i hX dX11_mark_119 kcX1_number mlX11_247 viX1_number rfl (show 50 + 4 * _ < 202 by omega) (zPoz _ (by first | assumption | omega)).2.2.2.1 (s_X1_number (zPoC (by omega)) hC) (Nat.le_of_ble_eq_true rfl) rfl ?_
      refine zk_iret hX hE rfl ⟨rfl, rfl⟩ dX11_mark_122 ⟨_, rfl, ?_⟩
      unfold c_mark; rw [if_pos (Or.inr ⟨by decide, c47⟩)]; exact ⟨rfl, rfl⟩
    · refine zk_aload_n hX dX11_mark_50 rfl ?_
      refine zk_getR hX dX11_mark_51 flX11_12 k_0 z_0 (hw _ _ (by decide) |>.trans r_0_0) ?_
      refine zk_iconst (v := 3) hX dX11_mark_54 (by decide) ?_
      refine zk_V1i hX dX11_mark_55 kcX9_find mlX11_111 viX9_find rfl k_1 z_1 (s_X9_find hw _ (by decide)) (Nat.le_of_ble_eq_true rfl) rfl ?_
      refine zk_iret hX hE rfl ⟨rfl, rfl⟩ dX11_mark_58 ⟨_, rfl, ?_⟩
      unfold c_mark; rw [if_neg (fun q => q.elim (fun q => absurd q.1 (by decide)) (fun q => c47 q.2))]; exact ⟨rfl, rfl⟩
theorem s_X12_mark_bad {G : zG} {w : zW} {n : Nat} (hn : n ≤ 12) (hP : w.1 166 33 = nI n) (p m : Int32) (h : ¬ ((0 ≤ p ∧ p < nI n) ∧ (1 ≤ m ∧ m ≤ 5))) : zEi G mX12_mark [.ref 166, .int p, .int m] w (-1) w := by
  refine zC_of (lo := [_, _, _]) kcX12_mark (Nat.le_of_ble_eq_true rfl) rfl (fun X hX hE => ?_)
  refine zk_aload_n hX dX12_mark_0 rfl ?_
  refine zk_iload_n hX dX12_mark_1 rfl ?_
  refine zk_V1i hX dX12_mark_2 kcX12_isPose mlX12_290 viX12_isPose rfl k_166 z_166 (s_X12_isPose (n := n) (by omega) hP _) (Nat.le_of_ble_eq_true rfl) rfl ?_
  refine zk_if_eqB (tgt := 17) hX dX12_mark_5 (by decide) (fun c5 => ?_) (fun c5 => ?_)
  · refine zk_iconst (v := -1) hX dX12_mark_17 (by decide) ?_
    refine zk_iret hX hE rfl ⟨rfl, rfl⟩ dX12_mark_18 ⟨_, rfl, ?_⟩
    exact ⟨rfl, rfl⟩
  · refine zk_iload_n hX dX12_mark_8 rfl ?_
    refine zk_iconst (v := 1) hX dX12_mark_9 (by decide) ?_
    refine zk_iconst (v := 5) hX dX12_mark_10 (by decide) ?_
    refine zk_S3i hX dX12_mark_11 kcX12_in mlX12_131 smX12_in rfl (s_X12_in _ _ _) (Nat.le_of_ble_eq_true rfl) rfl ?_
    refine zk_if_neB (tgt := 19) hX dX12_mark_14 (by decide) (fun c14 => ?_) (fun c14 => ?_)
    · exact absurd c14 (fun q => h ⟨by first | exact c5 | exact Decidable.not_not.mp c5, by grind⟩)
    refine zk_iconst (v := -1) hX dX12_mark_17 (by decide) ?_
    refine zk_iret hX hE rfl ⟨rfl, rfl⟩ dX12_mark_18 ⟨_, rfl, ?_⟩
    exact ⟨rfl, rfl⟩
theorem s_X12_mark_n {G : zG} {w : zW} {n p m : Nat} (hw : zWf w) (hn : n ≤ 12) (hP : w.1 166 33 = nI n) (hp : p < n) (hm : 1 ≤ m ∧ m ≤ 5) (h : ¬ ((m = 1 ∧ zheldk (w.1 183 (3 * p))) ∨ (¬ m = 1 ∧ w.1 183 (3 * p) = nI m))) :
    zEi G mX12_mark [.ref 166, .int (nI p), .int (nI m)] w (-3) (mfind w 3) := by
  rcases (show m = 1 ∨ ¬ m = 1 by omega) with g | g
  · subst g
    have h1 : ¬ zheldk (w.1 183 (3 * p)) := fun q => h (Or.inl ⟨rfl, q⟩)
    refine zC_of (lo := [_, _, _]) kcX12_mark (Nat.le_of_ble_eq_true rfl) rfl (fun X hX hE => ?_)
    refine zk_aload_n hX dX12_mark_0 rfl ?_
    refine zk_iload_n hX dX12_mark_1 rfl ?_
    refine zk_V1i hX dX12_mark_2 kcX12_isPose mlX12_290 viX12_isPose rfl k_166 z_166 (s_X12_isPose (n := n) (by omega) hP _) (Nat.le_of_ble_eq_true rfl) rfl ?_
    refine zk_if_eqB (tgt := 17) hX dX12_mark_5 (by decide) (fun c5 => ?_) (fun c5 => ?_)
    · exact absurd c5 (not_not_intro ⟨nI_pos' (by omega), nI_lt hp (by omega)⟩)
    refine zk_iload_n hX dX12_mark_8 rfl ?_
    refine zk_iconst (v := 1) hX dX12_mark_9 (by decide) ?_
    refine zk_iconst (v := 5) hX dX12_mark_10 (by decide) ?_
    refine zk_S3i hX dX12_mark_11 kcX12_in mlX12_131 smX12_in rfl (s_X12_in _ _ _) (Nat.le_of_ble_eq_true rfl) rfl ?_
    refine zk_if_neB (tgt := 19) hX dX12_mark_14 (by decide) (fun c14 => ?_) (fun c14 => ?_)
    rotate_left
    · exact absurd (by decide) c14
    refine zk_aload_n hX dX12_mark_19 rfl ?_
    refine zk_iload_n hX dX12_mark_20 rfl ?_
    refine zk_V1i hX dX12_mark_21 kcX12_kind mlX12_281 viX12_kind rfl k_166 z_166 (s_X12_kind hw (by omega)) (Nat.le_of_ble_eq_true rfl) rfl ?_
    refine zk_iload_n hX dX12_mark_24 rfl ?_
    refine zk_icmp_eq (tgt := 47) hX dX12_mark_25 (by decide) (fun c25 => ?_) (fun c25 => ?_)
    · exact absurd c25 (fun q => h1 (Or.inl q))
    refine zk_iload_n hX dX12_mark_28 rfl ?_
    refine zk_iconst (v := 1) hX dX12_mark_29 (by decide) ?_
    refine zk_icmp_ne (tgt := 41) hX dX12_mark_30 (by decide) (fun c30 => ?_) (fun c30 => ?_)
    · exact absurd rfl c30
    refine zk_aload_n hX dX12_mark_33 rfl ?_
    refine zk_iload_n hX dX12_mark_34 rfl ?_
    refine zk_V1i hX dX12_mark_35 kcX12_isHeldPose mlX12_293 viX12_isHeldPose rfl k_166 z_166 (s_X12_isHeldPose hw (by omega)) (Nat.le_of_ble_eq_true rfl) rfl ?_
    refine zk_if_neB (tgt := 47) hX dX12_mark_38 (by decide) (fun c38 => ?_) (fun c38 => ?_)
    · exact absurd c38 h1
    refine zk_aload_n hX dX12_mark_41 rfl ?_
    refine zk_iconst (v := 3) hX dX12_mark_42 (by decide) ?_
    refine zk_V1i hX dX12_mark_43 kcX12_meets mlX12_145 viX12_meets rfl k_166 z_166 (s_X12_meets hw _ (by decide)) (Nat.le_of_ble_eq_true rfl) rfl ?_
    refine zk_iret hX hE rfl ⟨rfl, rfl⟩ dX12_mark_46 ⟨_, rfl, ?_⟩
    exact ⟨rfl, rfl⟩
  · have h1 : ¬ w.1 183 (3 * p) = nI m := fun q => h (Or.inr ⟨g, q⟩)
    refine zC_of (lo := [_, _, _]) kcX12_mark (Nat.le_of_ble_eq_true rfl) rfl (fun X hX hE => ?_)
    refine zk_aload_n hX dX12_mark_0 rfl ?_
    refine zk_iload_n hX dX12_mark_1 rfl ?_
    refine zk_V1i hX dX12_mark_2 kcX12_isPose mlX12_290 viX12_isPose rfl k_166 z_166 (s_X12_isPose (n := n) (by omega) hP _) (Nat.le_of_ble_eq_true rfl) rfl ?_
    refine zk_if_eqB (tgt := 17) hX dX12_mark_5 (by decide) (fun c5 => ?_) (fun c5 => ?_)
    · exact absurd c5 (not_not_intro ⟨nI_pos' (by omega), nI_lt hp (by omega)⟩)
    refine zk_iload_n hX dX12_mark_8 rfl ?_
    refine zk_iconst (v := 1) hX dX12_mark_9 (by decide) ?_
    refine zk_iconst (v := 5) hX dX12_mark_10 (by decide) ?_
    refine zk_S3i hX dX12_mark_11 kcX12_in mlX12_131 smX12_in rfl (s_X12_in _ _ _) (Nat.le_of_ble_eq_true rfl) rfl ?_
    refine zk_if_neB (tgt := 19) hX dX12_mark_14 (by decide) (fun c14 => ?_) (fun c14 => ?_)
    rotate_left
    · exact absurd ⟨nI_le (a := 1) (by omega) (by omega), nI_le (b := 5) (by omega) (by decide)⟩ c14
    refine zk_aload_n hX dX12_mark_19 rfl ?_
    refine zk_iload_n hX dX12_mark_20 rfl ?_
    refine zk_V1i hX dX12_mark_21 kcX12_kind mlX12_281 viX12_kind rfl k_166 z_166 (s_X12_kind hw (by omega)) (Nat.le_of_ble_eq_true rfl) rfl ?_
    refine zk_iload_n hX dX12_mark_24 rfl ?_
    refine zk_icmp_eq (tgt := 47) hX dX12_mark_25 (by decide) (fun c25 => ?_) (fun c25 => ?_)
    · exact absurd c25 h1
    refine zk_iload_n hX dX12_mark_28 rfl ?_
    refine zk_iconst (v := 1) hX dX12_mark_29 (by decide) ?_
    refine zk_icmp_ne (tgt := 41) hX dX12_mark_30 (by decide) (fun c30 => ?_) (fun c30 => ?_)
    rotate_left
    · exact absurd (nI_inj (a := m) (b := 1) (by omega) (by decide) c30) g
    refine zk_aload_n hX dX12_mark_41 rfl ?_
    refine zk_iconst (v := 3) hX dX12_mark_42 (by decide) ?_
    refine zk_V1i hX dX12_mark_43 kcX12_meets mlX12_145 viX12_meets rfl k_166 z_166 (s_X12_meets hw _ (by decide)) (Nat.le_of_ble_eq_true rfl) rfl ?_
    refine zk_iret hX hE rfl ⟨rfl, rfl⟩ dX12_mark_46 ⟨_, rfl, ?_⟩
    exact ⟨rfl, rfl⟩
theorem s_X12_mark {G : zG} {w : zW} {D : zD} {n p m : Nat} {t : Nat → Int32} {C : zS} (hw : zWf w) (hM : mHd w D) (hD : zDok D) (hn : n ≤ 12) (hP : w.1 166 33 = nI n) (hp : p < n) (hm : 1 ≤ m ∧ m ≤ 5) (hT : zT2 D t) (ht : ∀ j, j < dJ D → w.1 184 (6 * p + j) = t j) (hC : ∀ y, y < 10 → w.1 185 (10 * p + y) = nI (zline C y)) (h : (m = 1 ∧ zheldk (w.1 183 (3 * p))) ∨ (¬ m = 1 ∧ w.1 183 (3 * p) = nI m)) :
    zCi G mX12_mark [.ref 166, .int (nI p), .int (nI m)] w (fun a w' => a = (if m = 1 then nI (zP D t (-1)).length else if m = 4 then w.1 183 (3 * p + 1) else if m = 5 then nI (zcard C) else w.1 183 (3 * p + 2)) ∧ zFr [179, 180, 181] [] [29] w w') := by
  rcases (show m = 1 ∨ m = 2 ∨ m = 3 ∨ m = 4 ∨ m = 5 by omega) with g | g | g | g | g <;> subst g
  · have h1 : zheldk (w.1 183 (3 * p)) := h.elim (fun q => q.2) (fun q => absurd rfl q.1)
    refine zC_of (lo := [_, _, _]) kcX12_mark (Nat.le_of_ble_eq_true rfl) rfl (fun X hX hE => ?_)
    refine zk_aload_n hX dX12_mark_0 rfl ?_
    refine zk_iload_n hX dX12_mark_1 rfl ?_
    refine zk_V1i hX dX12_mark_2 kcX12_isPose mlX12_290 viX12_isPose rfl k_166 z_166 (s_X12_isPose (n := n) (by omega) hP _) (Nat.le_of_ble_eq_true rfl) rfl ?_
    refine zk_if_eqB (tgt := 17) hX dX12_mark_5 (by decide) (fun c5 => ?_) (fun c5 => ?_)
    · exact absurd c5 (not_not_intro ⟨nI_pos' (by omega), nI_lt hp (by omega)⟩)
    refine zk_iload_n hX dX12_mark_8 rfl ?_
    refine zk_iconst (v := 1) hX dX12_mark_9 (by decide) ?_
    refine zk_iconst (v := 5) hX dX12_mark_10 (by decide) ?_
    refine zk_S3i hX dX12_mark_11 kcX12_in mlX12_131 smX12_in rfl (s_X12_in _ _ _) (Nat.le_of_ble_eq_true rfl) rfl ?_
    refine zk_if_neB (tgt := 19) hX dX12_mark_14 (by decide) (fun c14 => ?_) (fun c14 => ?_)
    rotate_left
    · exact absurd (by decide) c14
    refine zk_aload_n hX dX12_mark_19 rfl ?_
    refine zk_iload_n hX dX12_mark_20 rfl ?_
    refine zk_V1i hX dX12_mark_21 kcX12_kind mlX12_281 viX12_kind rfl k_166 z_166 (s_X12_kind hw (by omega)) (Nat.le_of_ble_eq_true rfl) rfl ?_
    refine zk_iload_n hX dX12_mark_24 rfl ?_
    refine zk_icmp_eq (tgt := 47) hX dX12_mark_25 (by decide) (fun c25 => ?_) (fun c25 => ?_)
    · refine zk_iload_n hX dX12_mark_47 rfl ?_
      refine zk_tableIn hX dX12_mark_48 (by decide) (by decide) (off := 36) (tgt := 84) (by decide +kernel) (by decide) ?_
      refine zk_aload_n hX dX12_mark_84 rfl ?_
      refine zk_iload_n hX dX12_mark_85 rfl ?_
      refine zk_V1vp hX dX12_mark_86 kcX12_layPose mlX12_284 viX12_layPose rfl k_166 z_166 (s_X12_layPose hw hM hD (by omega) hT ht) (Nat.le_of_ble_eq_true rfl) rfl (fun w2 q2 => ?_)
      obtain ⟨k1, k2, k3⟩ := q2
      refine zk_aload_n hX dX12_mark_89 rfl ?_
      refine zk_getI hX dX12_mark_90 flX12_225 k_166 z_166 ?_
      rw [k3.1]
      refine zk_iret hX hE rfl ⟨rfl, rfl⟩ dX12_mark_93 ⟨_, rfl, ?_⟩
      exact ⟨rfl, k1⟩
    · refine zk_iload_n hX dX12_mark_28 rfl ?_
      refine zk_iconst (v := 1) hX dX12_mark_29 (by decide) ?_
      refine zk_icmp_ne (tgt := 41) hX dX12_mark_30 (by decide) (fun c30 => ?_) (fun c30 => ?_)
      · exact absurd rfl c30
      refine zk_aload_n hX dX12_mark_33 rfl ?_
      refine zk_iload_n hX dX12_mark_34 rfl ?_
      refine zk_V1i hX dX12_mark_35 kcX12_isHeldPose mlX12_293 viX12_isHeldPose rfl k_166 z_166 (s_X12_isHeldPose hw (by omega)) (Nat.le_of_ble_eq_true rfl) rfl ?_
      refine zk_if_neB (tgt := 47) hX dX12_mark_38 (by decide) (fun c38 => ?_) (fun c38 => ?_)
      rotate_left
      · exact absurd h1 c38
      refine zk_iload_n hX dX12_mark_47 rfl ?_
      refine zk_tableIn hX dX12_mark_48 (by decide) (by decide) (off := 36) (tgt := 84) (by decide +kernel) (by decide) ?_
      refine zk_aload_n hX dX12_mark_84 rfl ?_
      refine zk_iload_n hX dX12_mark_85 rfl ?_
      refine zk_V1vp hX dX12_mark_86 kcX12_layPose mlX12_284 viX12_layPose rfl k_166 z_166 (s_X12_layPose hw hM hD (by omega) hT ht) (Nat.le_of_ble_eq_true rfl) rfl (fun w2 q2 => ?_)
      obtain ⟨k1, k2, k3⟩ := q2
      refine zk_aload_n hX dX12_mark_89 rfl ?_
      refine zk_getI hX dX12_mark_90 flX12_225 k_166 z_166 ?_
      rw [k3.1]
      refine zk_iret hX hE rfl ⟨rfl, rfl⟩ dX12_mark_93 ⟨_, rfl, ?_⟩
      exact ⟨rfl, k1⟩
  · have h1 : w.1 183 (3 * p) = nI 2 := h.elim (fun q => absurd q.1 (by decide)) (fun q => q.2)
    refine zC_of (lo := [_, _, _]) kcX12_mark (Nat.le_of_ble_eq_true rfl) rfl (fun X hX hE => ?_)
    refine zk_aload_n hX dX12_mark_0 rfl ?_
    refine zk_iload_n hX dX12_mark_1 rfl ?_
    refine zk_V1i hX dX12_mark_2 kcX12_isPose mlX12_290 viX12_isPose rfl k_166 z_166 (s_X12_isPose (n := n) (by omega) hP _) (Nat.le_of_ble_eq_true rfl) rfl ?_
    refine zk_if_eqB (tgt := 17) hX dX12_mark_5 (by decide) (fun c5 => ?_) (fun c5 => ?_)
    · exact absurd c5 (not_not_intro ⟨nI_pos' (by omega), nI_lt hp (by omega)⟩)
    refine zk_iload_n hX dX12_mark_8 rfl ?_
    refine zk_iconst (v := 1) hX dX12_mark_9 (by decide) ?_
    refine zk_iconst (v := 5) hX dX12_mark_10 (by decide) ?_
    refine zk_S3i hX dX12_mark_11 kcX12_in mlX12_131 smX12_in rfl (s_X12_in _ _ _) (Nat.le_of_ble_eq_true rfl) rfl ?_
    refine zk_if_neB (tgt := 19) hX dX12_mark_14 (by decide) (fun c14 => ?_) (fun c14 => ?_)
    rotate_left
    · exact absurd (by decide) c14
    refine zk_aload_n hX dX12_mark_19 rfl ?_
    refine zk_iload_n hX dX12_mark_20 rfl ?_
    refine zk_V1i hX dX12_mark_21 kcX12_kind mlX12_281 viX12_kind rfl k_166 z_166 (s_X12_kind hw (by omega)) (Nat.le_of_ble_eq_true rfl) rfl ?_
    refine zk_iload_n hX dX12_mark_24 rfl ?_
    refine zk_icmp_eq (tgt := 47) hX dX12_mark_25 (by decide) (fun c25 => ?_) (fun c25 => ?_)
    rotate_left
    · exact absurd h1 c25
    refine zk_iload_n hX dX12_mark_47 rfl ?_
    refine zk_tableIn hX dX12_mark_48 (by decide) (by decide) (off := 63) (tgt := 111) (by decide +kernel) (by decide) ?_
    refine zk_aload_n hX dX12_mark_111 rfl ?_
    refine zk_getR hX dX12_mark_112 flX12_59 k_166 z_166 (hw _ _ (by decide) |>.trans r_166_34) ?_
    refine zk_iconst (v := 3) hX dX12_mark_115 (by decide) ?_
    refine zk_iload_n hX dX12_mark_116 rfl ?_
    refine zk_imul hX dX12_mark_117 ?_
    refine zk_iconst (v := 2) hX dX12_mark_118 (by decide) ?_
    refine zk_iadd hX dX12_mark_119 ?_
    refine zk_ialdE hX dX12_mark_120 (nI_addE (nI_mulE (nI_k 3 rfl) rfl) (nI_k 2 rfl)) k_183 z_183 (by first | assumption | omega) rfl ?_
    refine zk_iret hX hE rfl ⟨rfl, rfl⟩ dX12_mark_121 ⟨_, rfl, ?_⟩
    exact ⟨rfl, zFr_r⟩
  · have h1 : w.1 183 (3 * p) = nI 3 := h.elim (fun q => absurd q.1 (by decide)) (fun q => q.2)
    refine zC_of (lo := [_, _, _]) kcX12_mark (Nat.le_of_ble_eq_true rfl) rfl (fun X hX hE => ?_)
    refine zk_aload_n hX dX12_mark_0 rfl ?_
    refine zk_iload_n hX dX12_mark_1 rfl ?_
    refine zk_V1i hX dX12_mark_2 kcX12_isPose mlX12_290 viX12_isPose rfl k_166 z_166 (s_X12_isPose (n := n) (by omega) hP _) (Nat.le_of_ble_eq_true rfl) rfl ?_
    refine zk_if_eqB (tgt := 17) hX dX12_mark_5 (by decide) (fun c5 => ?_) (fun c5 => ?_)
    · exact absurd c5 (not_not_intro ⟨nI_pos' (by omega), nI_lt hp (by omega)⟩)
    refine zk_iload_n hX dX12_mark_8 rfl ?_
    refine zk_iconst (v := 1) hX dX12_mark_9 (by decide) ?_
    refine zk_iconst (v := 5) hX dX12_mark_10 (by decide) ?_
    refine zk_S3i hX dX12_mark_11 kcX12_in mlX12_131 smX12_in rfl (s_X12_in _ _ _) (Nat.le_of_ble_eq_true rfl) rfl ?_
    refine zk_if_neB (tgt := 19) hX dX12_mark_14 (by decide) (fun c14 => ?_) (fun c14 => ?_)
    rotate_left
    · exact absurd (by decide) c14
    refine zk_aload_n hX dX12_mark_19 rfl ?_
    refine zk_iload_n hX dX12_mark_20 rfl ?_
    refine zk_V1i hX dX12_mark_21 kcX12_kind mlX12_281 viX12_kind rfl k_166 z_166 (s_X12_kind hw (by omega)) (Nat.le_of_ble_eq_true rfl) rfl ?_
    refine zk_iload_n hX dX12_mark_24 rfl ?_
    refine zk_icmp_eq (tgt := 47) hX dX12_mark_25 (by decide) (fun c25 => ?_) (fun c25 => ?_)
    rotate_left
    · exact absurd h1 c25
    refine zk_iload_n hX dX12_mark_47 rfl ?_
    refine zk_tableIn hX dX12_mark_48 (by decide) (by decide) (off := 63) (tgt := 111) (by decide +kernel) (by decide) ?_
    refine zk_aload_n hX dX12_mark_111 rfl ?_
    refine zk_getR hX dX12_mark_112 flX12_59 k_166 z_166 (hw _ _ (by decide) |>.trans r_166_34) ?_
    refine zk_iconst (v := 3) hX dX12_mark_115 (by decide) ?_
    refine zk_iload_n hX dX12_mark_116 rfl ?_
    refine zk_imul hX dX12_mark_117 ?_
    refine zk_iconst (v := 2) hX dX12_mark_118 (by decide) ?_
    refine zk_iadd hX dX12_mark_119 ?_
    refine zk_ialdE hX dX12_mark_120 (nI_addE (nI_mulE (nI_k 3 rfl) rfl) (nI_k 2 rfl)) k_183 z_183 (by first | assumption | omega) rfl ?_
    refine zk_iret hX hE rfl ⟨rfl, rfl⟩ dX12_mark_121 ⟨_, rfl, ?_⟩
    exact ⟨rfl, zFr_r⟩
  · have h1 : w.1 183 (3 * p) = nI 4 := h.elim (fun q => absurd q.1 (by decide)) (fun q => q.2)
    refine zC_of (lo := [_, _, _]) kcX12_mark (Nat.le_of_ble_eq_true rfl) rfl (fun X hX hE => ?_)
    refine zk_aload_n hX dX12_mark_0 rfl ?_
    refine zk_iload_n hX dX12_mark_1 rfl ?_
    refine zk_V1i hX dX12_mark_2 kcX12_isPose mlX12_290 viX12_isPose rfl k_166 z_166 (s_X12_isPose (n := n) (by omega) hP _) (Nat.le_of_ble_eq_true rfl) rfl ?_
    refine zk_if_eqB (tgt := 17) hX dX12_mark_5 (by decide) (fun c5 => ?_) (fun c5 => ?_)
    · exact absurd c5 (not_not_intro ⟨nI_pos' (by omega), nI_lt hp (by omega)⟩)
    refine zk_iload_n hX dX12_mark_8 rfl ?_
    refine zk_iconst (v := 1) hX dX12_mark_9 (by decide) ?_
    refine zk_iconst (v := 5) hX dX12_mark_10 (by decide) ?_
    refine zk_S3i hX dX12_mark_11 kcX12_in mlX12_131 smX12_in rfl (s_X12_in _ _ _) (Nat.le_of_ble_eq_true rfl) rfl ?_
    refine zk_if_neB (tgt := 19) hX dX12_mark_14 (by decide) (fun c14 => ?_) (fun c14 => ?_)
    rotate_left
    · exact absurd (by decide) c14
    refine zk_aload_n hX dX12_mark_19 rfl ?_
    refine zk_iload_n hX dX12_mark_20 rfl ?_
    refine zk_V1i hX dX12_mark_21 kcX12_kind mlX12_281 viX12_kind rfl k_166 z_166 (s_X12_kind hw (by omega)) (Nat.le_of_ble_eq_true rfl) rfl ?_
    refine zk_iload_n hX dX12_mark_24 rfl ?_
    refine zk_icmp_eq (tgt := 47) hX dX12_mark_25 (by decide) (fun c25 => ?_) (fun c25 => ?_)
    rotate_left
    · exact absurd h1 c25
    refine zk_iload_n hX dX12_mark_47 rfl ?_
    refine zk_tableIn hX dX12_mark_48 (by decide) (by decide) (off := 46) (tgt := 94) (by decide +kernel) (by decide) ?_
    refine zk_aload_n hX dX12_mark_94 rfl ?_
    refine zk_getR hX dX12_mark_95 flX12_59 k_166 z_166 (hw _ _ (by decide) |>.trans r_166_34) ?_
    refine zk_iconst (v := 3) hX dX12_mark_98 (by decide) ?_
    refine zk_iload_n hX dX12_mark_99 rfl ?_
    refine zk_imul hX dX12_mark_100 ?_
    refine zk_iconst (v := 1) hX dX12_mark_101 (by decide) ?_
    refine zk_iadd hX dX12_mark_102 ?_
    refine zk_ialdE hX dX12_mark_103 (nI_addE (nI_mulE (nI_k 3 rfl) rfl) (nI_k 1 rfl)) k_183 z_183 (by first | assumption | omega) rfl ?_
    refine zk_iret hX hE rfl ⟨rfl, rfl⟩ dX12_mark_104 ⟨_, rfl, ?_⟩
    exact ⟨rfl, zFr_r⟩
  · have h1 : w.1 183 (3 * p) = nI 5 := h.elim (fun q => absurd q.1 (by decide)) (fun q => q.2)
    refine zC_of (lo := [_, _, _]) kcX12_mark (Nat.le_of_ble_eq_true rfl) rfl (fun X hX hE => ?_)
    refine zk_aload_n hX dX12_mark_0 rfl ?_
    refine zk_iload_n hX dX12_mark_1 rfl ?_
    refine zk_V1i hX dX12_mark_2 kcX12_isPose mlX12_290 viX12_isPose rfl k_166 z_166 (s_X12_isPose (n := n) (by omega) hP _) (Nat.le_of_ble_eq_true rfl) rfl ?_
    refine zk_if_eqB (tgt := 17) hX dX12_mark_5 (by decide) (fun c5 => ?_) (fun c5 => ?_)
    · exact absurd c5 (not_not_intro ⟨nI_pos' (by omega), nI_lt hp (by omega)⟩)
    refine zk_iload_n hX dX12_mark_8 rfl ?_
    refine zk_iconst (v := 1) hX dX12_mark_9 (by decide) ?_
    refine zk_iconst (v := 5) hX dX12_mark_10 (by decide) ?_
    refine zk_S3i hX dX12_mark_11 kcX12_in mlX12_131 smX12_in rfl (s_X12_in _ _ _) (Nat.le_of_ble_eq_true rfl) rfl ?_
    refine zk_if_neB (tgt := 19) hX dX12_mark_14 (by decide) (fun c14 => ?_) (fun c14 => ?_)
    rotate_left
    · exact absurd (by decide) c14
    refine zk_aload_n hX dX12_mark_19 rfl ?_
    refine zk_iload_n hX dX12_mark_20 rfl ?_
    refine zk_V1i hX dX12_mark_21 kcX12_kind mlX12_281 viX12_kind rfl k_166 z_166 (s_X12_kind hw (by omega)) (Nat.le_of_ble_eq_true rfl) rfl ?_
    refine zk_iload_n hX dX12_mark_24 rfl ?_
    refine zk_icmp_eq (tgt := 47) hX dX12_mark_25 (by decide) (fun c25 => ?_) (fun c25 => ?_)
    rotate_left
    · exact absurd h1 c25
    refine zk_iload_n hX dX12_mark_47 rfl ?_
    refine zk_tableIn hX dX12_mark_48 (by decide) (by decide) (off := 57) (tgt := 105) (by decide +kernel) (by decide) ?_
    refine zk_aload_n hX dX12_mark_105 rfl ?_
    refine zk_iload_n hX dX12_mark_106 rfl ?_
    refine zk_V1i hX dX12_mark_107 kcX12_cardMany mlX12_299 viX12_cardMany rfl k_166 z_166 (s_X12_cardMany hw (by omega) hC) (Nat.le_of_ble_eq_true rfl) rfl ?_
    refine zk_iret hX hE rfl ⟨rfl, rfl⟩ dX12_mark_110 ⟨_, rfl, ?_⟩
    exact ⟨rfl, zFr_r⟩
theorem zO_mark {G : zG} (p m : Int32) : zOi G mX11_mark mX12_mark [.int p, .int m] := by
  intro w h
  have h0 := h
  obtain ⟨hw, hT, hR, hX, hB, D, z, u, v, T, n, nl, c, hH, hL, hS, hP, hK⟩ := h
  have h12 := hP.1
  by_cases hk0 : (0 ≤ p ∧ p < nI n) ∧ (1 ≤ m ∧ m ≤ 5)
  · obtain ⟨p, hp, rfl⟩ := rn (by omega) hk0.1
    obtain ⟨m, hm, rfl⟩ := znatle (n := 5) (by decide) (show 0 ≤ m by have := hk0.2.1; grind) hk0.2.2
    have hm1 : 1 ≤ m := nI_leD (a := 1) (y := m) hk0.2.1
    have q := hP.2.2.2 p hp
    obtain ⟨C, hC1, hC2⟩ := q.2.2.2.2.2.1
    have c1 := s_X11_mark (G := G) hw h12 hP.2.1 hp ⟨hm1, hm⟩ q.2.2.2.2.1 hC1
    unfold zFi c_mark at c1
    rw [q.2.2.2.1.1] at c1
    by_cases hc : (m = 1 ∧ (w.1 183 (3 * p) = 1 ∨ w.1 183 (3 * p) = 4 ∨ w.1 183 (3 * p) = 5)) ∨ (¬ m = 1 ∧ w.1 183 (3 * p) = nI m)
    · rw [if_pos hc] at c1
      refine zEi_c c1 (zCi_m (s_X12_mark (G := G) hw hH.2.2.1 hH.1 h12 hP.2.2.1 hp ⟨hm1, hm⟩ (qP1_t2 hH.1 q) q.2.2.1 hC2 hc) (fun a w2 g => ?_))
      obtain ⟨rfl, k1⟩ := g
      refine ⟨?_, zQ_told h0 (zFr_wf k1 hw) k1.2 (by decide) (qT_f hT k1.2 (by decide))⟩
      have q7 := q.2.2.2.2.2.2
      rcases (show m = 1 ∨ m = 2 ∨ m = 3 ∨ m = 4 ∨ m = 5 by omega) with g | g | g | g | g <;> subst g
      · rcases hc with hc | hc
        · have e0 : zwrL zno (zP D (w.1 (48 + 4 * p)) (-1)) = 0 := by
            rcases q7 with e | e | e
            · exfalso
              rcases hc.2 with g | g | g <;> (rw [e.1] at g; exact absurd g (by decide))
            · exfalso
              rcases hc.2 with g | g | g <;> (rw [e.1] at g; exact absurd g (by decide))
            · exact e.2
          show nI _ = nI _
          rw [zcard_P e0]
        · exact absurd rfl hc.1
      · rcases hc with hc | hc
        · exact absurd hc.1 (by decide)
        · show w.1 183 (3 * p + 2) = w.1 (47 + 4 * p) 6
          rcases q7 with e | e | e
          · exact absurd (e.1.symm.trans hc.2) (by decide)
          · exact e.2.symm
          · exfalso
            rw [hc.2] at e
            rcases e.1 with g | g | g <;> exact absurd g (by decide)
      · rcases hc with hc | hc
        · exact absurd hc.1 (by decide)
        · show w.1 183 (3 * p + 2) = w.1 (47 + 4 * p) 7
          rcases q7 with e | e | e
          · exact e.2.symm
          · exact absurd (e.1.symm.trans hc.2) (by decide)
          · exfalso
            rw [hc.2] at e
            rcases e.1 with g | g | g <;> exact absurd g (by decide)
      · exact q.2.2.2.1.2.1.symm
      · rfl
    · rw [if_neg hc] at c1
      exact zO_find h0 3 c1 (s_X12_mark_n (zfind_w hw) h12 (by rw [zfind_a (by decide) (by decide)]; exact hP.2.2.1) hp ⟨hm1, hm⟩ (by rw [zfind_a (by decide) (by decide)]; exact hc))
  · exact zOe (s_X11_mark_bad hw p m (by rw [hP.2.1]; exact hk0)) (s_X12_mark_bad h12 hP.2.2.1 p m hk0) rfl h0
