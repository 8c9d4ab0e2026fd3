def jw (D : zD) (t : Nat → Int32) (mv : Int32) : Nat := if mv = -9 then zwrL zno (zP D t (-1)) else max (zwrL zno (zP D t (-1))) (zwrL zno (zP D (ztup t mv.toNatClampNeg) (-1)))
def jm (t : Nat → Int32) (mv : Int32) : Nat := if mv = -9 then zld t else max (zld t) (zld (ztup t mv.toNatClampNeg))
def jk (D : zD) (t : Nat → Int32) (mv : Int32) (T : Nat) : Int32 := if 0 < jw D t mv then 3 else if T < jm t mv then 2 else if mv = -9 then 1 else 4
/-- a mover is none or a joint -/
def jok (D : zD) (mv : Int32) : Prop := mv = -9 ∨ (0 ≤ mv ∧ mv < nI (dJ D))
theorem s_X5_judge {G : zG} {w : zW} {D : zD} {p T : Nat} {mv : Int32} (hw : zWf w) (hp : p < 12) (hH : cHd w 26 D) (hD : zDok D) (hT : zT6 D (w.1 (48 + 4 * p))) (hT9 : T ≤ 99) (hj : jok D mv) (hm : w.1 (47 + 4 * p) 4 = mv) (hj1 : mv = -9 ∨ w.1 (48 + 4 * p) mv.toNatClampNeg + 1 ≤ 2) :
    zCv G mX5_judge [.ref (47 + 4 * p), .ref 26, .int (nI T), .ref 163] w (fun w' => cJd w p D T (zld (w.1 (48 + 4 * p))) (jw D (w.1 (48 + 4 * p)) mv) (jm (w.1 (48 + 4 * p)) mv) mv w') := by
  have h6 := hD.1.2.2
  by_cases e : mv = -9
  · unfold jw jm
    rw [if_pos e, if_pos e, e]
    exact s_X5_judge_n hw hp hH hD hT hT9 (hm.trans e)
  · obtain ⟨j, hj', rfl⟩ := rn (by omega) (hj.resolve_left e)
    unfold jw jm
    rw [if_neg e, if_neg e, nI_clamp (by omega)]
    have h1 := hj1.resolve_left e
    rw [nI_clamp (by omega)] at h1
    exact s_X5_judge_m hw hp hH hD hT hT9 hj' hm h1
/-- the row's turns keep the joints' bounds -/
def zturn (w : zW) (D : zD) (a : Nat) : Prop := ∀ j, j < dJ D → -nI (dB D j) ≤ zRget w a (nI j) ∧ zRget w a (nI j) ≤ nI (dA D j)
theorem s_X11_pose_bad {G : zG} {w : zW} {D : zD} (hw : zWf w) (hH : cHd w 26 D) (r j : Int32) (h : ¬ ((0 ≤ r ∧ r < 6) ∧ jok D j)) : zEi G mX11_pose [.ref 0, .int r, .int j] w (-1) w := by
  refine zC_of (lo := [_, _, _, _, _]) kcX11_pose (Nat.le_of_ble_eq_true rfl) rfl (fun X hX hE => ?_)
  refine zk_iload_n hX dX11_pose_0 rfl ?_
  refine zk_S1i hX dX11_pose_1 kcX11_isRow mlX11_107 smX11_isRow rfl (s_X11_isRow _) (Nat.le_of_ble_eq_true rfl) rfl ?_
  refine zk_if_eqB (tgt := 21) hX dX11_pose_4 (by decide) (fun c4 => ?_) (fun c4 => ?_)
  · refine zk_iconst (v := -1) hX dX11_pose_21 (by decide) ?_
    refine zk_iret hX hE rfl ⟨rfl, rfl⟩ dX11_pose_22 ⟨_, rfl, ?_⟩
    exact ⟨rfl, rfl⟩
  · refine zk_iload_n hX dX11_pose_7 rfl ?_
    refine zk_bipush (v := -9) hX dX11_pose_8 (by decide) ?_
    refine zk_icmp_eq (tgt := 23) hX dX11_pose_10 (by decide) (fun c10 => ?_) (fun c10 => ?_)
    · exact absurd ⟨by first | exact c4 | exact Decidable.not_not.mp c4, Or.inl c10⟩ h
    refine zk_aload_n hX dX11_pose_13 rfl ?_
    refine zk_iload_n hX dX11_pose_14 rfl ?_
    refine zk_V1i hX dX11_pose_15 kcX11_isJoint mlX11_186 viX11_isJoint rfl k_0 z_0 (s_X11_isJoint hw _) (Nat.le_of_ble_eq_true rfl) rfl ?_
    refine zk_if_neB (tgt := 23) hX dX11_pose_18 (by decide) (fun c18 => ?_) (fun c18 => ?_)
    · exact absurd c18 (fun q => h ⟨by first | exact c4 | exact Decidable.not_not.mp c4, Or.inr (by rw [← hH.1.2.2]; exact q)⟩)
    refine zk_iconst (v := -1) hX dX11_pose_21 (by decide) ?_
    refine zk_iret hX hE rfl ⟨rfl, rfl⟩ dX11_pose_22 ⟨_, rfl, ?_⟩
    exact ⟨rfl, rfl⟩
theorem s_X11_pose_m {G : zG} {w : zW} {D : zD} {r : Nat} {j : Int32} (hw : zWf w) (hH : cHd w 26 D) (hr : r < 6) (hj : jok D j) (hS : ¬ 0 ≤ w.1 (4 + 2 * r) 0) : zEi G mX11_pose [.ref 0, .int (nI r), .int j] w (-3) (zfind w 1) := by
  refine zC_of (lo := [_, _, _, _, _]) kcX11_pose (Nat.le_of_ble_eq_true rfl) rfl (fun X hX hE => ?_)
  refine zk_iload_n hX dX11_pose_0 rfl ?_
  refine zk_S1i hX dX11_pose_1 kcX11_isRow mlX11_107 smX11_isRow rfl (s_X11_isRow _) (Nat.le_of_ble_eq_true rfl) rfl ?_
  refine zk_if_eqB (tgt := 21) hX dX11_pose_4 (by decide) (fun c4 => ?_) (fun c4 => ?_)
  · exact absurd c4 (not_not_intro (zrlt hr))
  refine zk_iload_n hX dX11_pose_7 rfl ?_
  refine zk_bipush (v := -9) hX dX11_pose_8 (by decide) ?_
  refine zk_icmp_eq (tgt := 23) hX dX11_pose_10 (by decide) (fun c10 => ?_) (fun c10 => ?_)
  · refine zk_aload_n hX dX11_pose_23 rfl ?_
    refine zk_getR hX dX11_pose_24 flX11_18 k_0 z_0 (hw _ _ (by decide) |>.trans r_0_1) ?_
    refine zk_iload_n hX dX11_pose_27 rfl ?_
    refine zk_rows hX hw dX11_pose_28 rfl (by first | assumption | omega) ?_
    refine zk_astore_n (lo' := [_, _, _, _, _]) hX dX11_pose_29 (Nat.le_of_ble_eq_true rfl) rfl rfl ?_
    refine zk_aload_n hX dX11_pose_30 rfl ?_
    refine zk_V0i hX dX11_pose_31 kcX8_isThere mlX11_119 viX8_isThere rfl (zRwR0 (by first | assumption | omega)) (zRw_r _ (by first | assumption | omega)).2.1 (s_X8_isThere (zRwR hr)) (Nat.le_of_ble_eq_true rfl) rfl ?_
    refine zk_if_neB (tgt := 46) hX dX11_pose_34 (by decide) (fun c34 => ?_) (fun c34 => ?_)
    · exact absurd c34 hS
    refine zk_aload_n hX dX11_pose_37 rfl ?_
    refine zk_getR hX dX11_pose_38 flX11_12 k_0 z_0 (hw _ _ (by decide) |>.trans r_0_0) ?_
    refine zk_iconst (v := 1) hX dX11_pose_41 (by decide) ?_
    refine zk_V1i hX dX11_pose_42 kcX9_find mlX11_111 viX9_find rfl k_1 z_1 (s_X9_find hw _ (by decide)) (Nat.le_of_ble_eq_true rfl) rfl ?_
    refine zk_iret hX hE rfl ⟨rfl, rfl⟩ dX11_pose_45 ⟨_, rfl, ?_⟩
    exact ⟨rfl, rfl⟩
  · refine zk_aload_n hX dX11_pose_13 rfl ?_
    refine zk_iload_n hX dX11_pose_14 rfl ?_
    refine zk_V1i hX dX11_pose_15 kcX11_isJoint mlX11_186 viX11_isJoint rfl k_0 z_0 (s_X11_isJoint hw _) (Nat.le_of_ble_eq_true rfl) rfl ?_
    refine zk_if_neB (tgt := 23) hX dX11_pose_18 (by decide) (fun c18 => ?_) (fun c18 => ?_)
    rotate_left
    · exact absurd (by rw [hH.1.2.2]; exact hj.resolve_left c10) c18
    refine zk_aload_n hX dX11_pose_23 rfl ?_
    refine zk_getR hX dX11_pose_24 flX11_18 k_0 z_0 (hw _ _ (by decide) |>.trans r_0_1) ?_
    refine zk_iload_n hX dX11_pose_27 rfl ?_
    refine zk_rows hX hw dX11_pose_28 rfl (by first | assumption | omega) ?_
    refine zk_astore_n (lo' := [_, _, _, _, _]) hX dX11_pose_29 (Nat.le_of_ble_eq_true rfl) rfl rfl ?_
    refine zk_aload_n hX dX11_pose_30 rfl ?_
    refine zk_V0i hX dX11_pose_31 kcX8_isThere mlX11_119 viX8_isThere rfl (zRwR0 (by first | assumption | omega)) (zRw_r _ (by first | assumption | omega)).2.1 (s_X8_isThere (zRwR hr)) (Nat.le_of_ble_eq_true rfl) rfl ?_
    refine zk_if_neB (tgt := 46) hX dX11_pose_34 (by decide) (fun c34 => ?_) (fun c34 => ?_)
    · exact absurd c34 hS
    refine zk_aload_n hX dX11_pose_37 rfl ?_
    refine zk_getR hX dX11_pose_38 flX11_12 k_0 z_0 (hw _ _ (by decide) |>.trans r_0_0) ?_
    refine zk_iconst (v := 1) hX dX11_pose_41 (by decide) ?_
    refine zk_V1i hX dX11_pose_42 kcX9_find mlX11_111 viX9_find rfl k_1 z_1 (s_X9_find hw _ (by decide)) (Nat.le_of_ble_eq_true rfl) rfl ?_
    refine zk_iret hX hE rfl ⟨rfl, rfl⟩ dX11_pose_45 ⟨_, rfl, ?_⟩
    exact ⟨rfl, rfl⟩
theorem s_X11_pose_s {G : zG} {w : zW} {D : zD} {r : Nat} {j : Int32} (hw : zWf w) (hH : cHd w 26 D) (hr : r < 6) (hj : jok D j) (hS : 0 ≤ w.1 (4 + 2 * r) 0) (hs : ¬ w.1 (4 + 2 * r) 0 = nI (dJ D)) : zEi G mX11_pose [.ref 0, .int (nI r), .int j] w (-3) (zfind w 5) := by
  refine zC_of (lo := [_, _, _, _, _]) kcX11_pose (Nat.le_of_ble_eq_true rfl) rfl (fun X hX hE => ?_)
  refine zk_iload_n hX dX11_pose_0 rfl ?_
  refine zk_S1i hX dX11_pose_1 kcX11_isRow mlX11_107 smX11_isRow rfl (s_X11_isRow _) (Nat.le_of_ble_eq_true rfl) rfl ?_
  refine zk_if_eqB (tgt := 21) hX dX11_pose_4 (by decide) (fun c4 => ?_) (fun c4 => ?_)
  · exact absurd c4 (not_not_intro (zrlt hr))
  refine zk_iload_n hX dX11_pose_7 rfl ?_
  refine zk_bipush (v := -9) hX dX11_pose_8 (by decide) ?_
  refine zk_icmp_eq (tgt := 23) hX dX11_pose_10 (by decide) (fun c10 => ?_) (fun c10 => ?_)
  · refine zk_aload_n hX dX11_pose_23 rfl ?_
    refine zk_getR hX dX11_pose_24 flX11_18 k_0 z_0 (hw _ _ (by decide) |>.trans r_0_1) ?_
    refine zk_iload_n hX dX11_pose_27 rfl ?_
    refine zk_rows hX hw dX11_pose_28 rfl (by first | assumption | omega) ?_
    refine zk_astore_n (lo' := [_, _, _, _, _]) hX dX11_pose_29 (Nat.le_of_ble_eq_true rfl) rfl rfl ?_
    refine zk_aload_n hX dX11_pose_30 rfl ?_
    refine zk_V0i hX dX11_pose_31 kcX8_isThere mlX11_119 viX8_isThere rfl (zRwR0 (by first | assumption | omega)) (zRw_r _ (by first | assumption | omega)).2.1 (s_X8_isThere (zRwR hr)) (Nat.le_of_ble_eq_true rfl) rfl ?_
    refine zk_if_neB (tgt := 46) hX dX11_pose_34 (by decide) (fun c34 => ?_) (fun c34 => ?_)
    rotate_left
    · exact absurd hS c34
    refine zk_aload_n hX dX11_pose_46 rfl ?_
    refine zk_getI hX dX11_pose_47 flX11_146 (zRwR0 (by first | assumption | omega)) (zRw_r _ (by first | assumption | omega)).2.1 ?_
    refine zk_aload_n hX dX11_pose_50 rfl ?_
    refine zk_getR hX dX11_pose_51 flX11_38 k_0 z_0 (hw _ _ (by decide) |>.trans r_0_4) ?_
    refine zk_getI hX dX11_pose_54 flX11_167 k_26 z_26 ?_
    rw [hH.1.2.2]
    refine zk_icmp_eq (tgt := 69) hX dX11_pose_57 (by decide) (fun c57 => ?_) (fun c57 => ?_)
    · exact absurd c57 hs
    refine zk_aload_n hX dX11_pose_60 rfl ?_
    refine zk_getR hX dX11_pose_61 flX11_12 k_0 z_0 (hw _ _ (by decide) |>.trans r_0_0) ?_
    refine zk_iconst (v := 5) hX dX11_pose_64 (by decide) ?_
    refine zk_V1i hX dX11_pose_65 kcX9_find mlX11_111 viX9_find rfl k_1 z_1 (s_X9_find hw _ (by decide)) (Nat.le_of_ble_eq_true rfl) rfl ?_
    refine zk_iret hX hE rfl ⟨rfl, rfl⟩ dX11_pose_68 ⟨_, rfl, ?_⟩
    exact ⟨rfl, rfl⟩
  · refine zk_aload_n hX dX11_pose_13 rfl ?_
    refine zk_iload_n hX dX11_pose_14 rfl ?_
    refine zk_V1i hX dX11_pose_15 kcX11_isJoint mlX11_186 viX11_isJoint rfl k_0 z_0 (s_X11_isJoint hw _) (Nat.le_of_ble_eq_true rfl) rfl ?_
    refine zk_if_neB (tgt := 23) hX dX11_pose_18 (by decide) (fun c18 => ?_) (fun c18 => ?_)
    rotate_left
    · exact absurd (by rw [hH.1.2.2]; exact hj.resolve_left c10) c18
    refine zk_aload_n hX dX11_pose_23 rfl ?_
    refine zk_getR hX dX11_pose_24 flX11_18 k_0 z_0 (hw _ _ (by decide) |>.trans r_0_1) ?_
    refine zk_iload_n hX dX11_pose_27 rfl ?_
    refine zk_rows hX hw dX11_pose_28 rfl (by first | assumption | omega) ?_
    refine zk_astore_n (lo' := [_, _, _, _, _]) hX dX11_pose_29 (Nat.le_of_ble_eq_true rfl) rfl rfl ?_
    refine zk_aload_n hX dX11_pose_30 rfl ?_
    refine zk_V0i hX dX11_pose_31 kcX8_isThere mlX11_119 viX8_isThere rfl (zRwR0 (by first | assumption | omega)) (zRw_r _ (by first | assumption | omega)).2.1 (s_X8_isThere (zRwR hr)) (Nat.le_of_ble_eq_true rfl) rfl ?_
    refine zk_if_neB (tgt := 46) hX dX11_pose_34 (by decide) (fun c34 => ?_) (fun c34 => ?_)
    rotate_left
    · exact absurd hS c34
    refine zk_aload_n hX dX11_pose_46 rfl ?_
    refine zk_getI hX dX11_pose_47 flX11_146 (zRwR0 (by first | assumption | omega)) (zRw_r _ (by first | assumption | omega)).2.1 ?_
    refine zk_aload_n hX dX11_pose_50 rfl ?_
    refine zk_getR hX dX11_pose_51 flX11_38 k_0 z_0 (hw _ _ (by decide) |>.trans r_0_4) ?_
    refine zk_getI hX dX11_pose_54 flX11_167 k_26 z_26 ?_
    rw [hH.1.2.2]
    refine zk_icmp_eq (tgt := 69) hX dX11_pose_57 (by decide) (fun c57 => ?_) (fun c57 => ?_)
    · exact absurd c57 hs
    refine zk_aload_n hX dX11_pose_60 rfl ?_
    refine zk_getR hX dX11_pose_61 flX11_12 k_0 z_0 (hw _ _ (by decide) |>.trans r_0_0) ?_
    refine zk_iconst (v := 5) hX dX11_pose_64 (by decide) ?_
    refine zk_V1i hX dX11_pose_65 kcX9_find mlX11_111 viX9_find rfl k_1 z_1 (s_X9_find hw _ (by decide)) (Nat.le_of_ble_eq_true rfl) rfl ?_
    refine zk_iret hX hE rfl ⟨rfl, rfl⟩ dX11_pose_68 ⟨_, rfl, ?_⟩
    exact ⟨rfl, rfl⟩
theorem s_X11_pose_t {G : zG} {w : zW} {D : zD} {r : Nat} {j : Int32} (hw : zWf w) (hH : cHd w 26 D) (hD : zDok D) (hr : r < 6) (hj : jok D j) (hS : zSz (w.1 (4 + 2 * r) 0) 40) (h0 : 0 ≤ w.1 (4 + 2 * r) 0) (hs : w.1 (4 + 2 * r) 0 = nI (dJ D)) (ht : ¬ zturn w D (4 + 2 * r)) : zEi G mX11_pose [.ref 0, .int (nI r), .int j] w (-3) (zfind w 3) := by
  refine zC_of (lo := [_, _, _, _, _]) kcX11_pose (Nat.le_of_ble_eq_true rfl) rfl (fun X hX hE => ?_)
  refine zk_iload_n hX dX11_pose_0 rfl ?_
  refine zk_S1i hX dX11_pose_1 kcX11_isRow mlX11_107 smX11_isRow rfl (s_X11_isRow _) (Nat.le_of_ble_eq_true rfl) rfl ?_
  refine zk_if_eqB (tgt := 21) hX dX11_pose_4 (by decide) (fun c4 => ?_) (fun c4 => ?_)
  · exact absurd c4 (not_not_intro (zrlt hr))
  refine zk_iload_n hX dX11_pose_7 rfl ?_
  refine zk_bipush (v := -9) hX dX11_pose_8 (by decide) ?_
  refine zk_icmp_eq (tgt := 23) hX dX11_pose_10 (by decide) (fun c10 => ?_) (fun c10 => ?_)
  · refine zk_aload_n hX dX11_pose_23 rfl ?_
    refine zk_getR hX dX11_pose_24 flX11_18 k_0 z_0 (hw _ _ (by decide) |>.trans r_0_1) ?_
    refine zk_iload_n hX dX11_pose_27 rfl ?_
    refine zk_rows hX hw dX11_pose_28 rfl (by first | assumption | omega) ?_
    refine zk_astore_n (lo' := [_, _, _, _, _]) hX dX11_pose_29 (Nat.le_of_ble_eq_true rfl) rfl rfl ?_
    refine zk_aload_n hX dX11_pose_30 rfl ?_
    refine zk_V0i hX dX11_pose_31 kcX8_isThere mlX11_119 viX8_isThere rfl (zRwR0 (by first | assumption | omega)) (zRw_r _ (by first | assumption | omega)).2.1 (s_X8_isThere (zRwR hr)) (Nat.le_of_ble_eq_true rfl) rfl ?_
    refine zk_if_neB (tgt := 46) hX dX11_pose_34 (by decide) (fun c34 => ?_) (fun c34 => ?_)
    rotate_left
    · exact absurd h0 c34
    refine zk_aload_n hX dX11_pose_46 rfl ?_
    refine zk_getI hX dX11_pose_47 flX11_146 (zRwR0 (by first | assumption | omega)) (zRw_r _ (by first | assumption | omega)).2.1 ?_
    refine zk_aload_n hX dX11_pose_50 rfl ?_
    refine zk_getR hX dX11_pose_51 flX11_38 k_0 z_0 (hw _ _ (by decide) |>.trans r_0_4) ?_
    refine zk_getI hX dX11_pose_54 flX11_167 k_26 z_26 ?_
    rw [hH.1.2.2]
    refine zk_icmp_eq (tgt := 69) hX dX11_pose_57 (by decide) (fun c57 => ?_) (fun c57 => ?_)
    rotate_left
    · exact absurd hs c57
    refine zk_aload_n hX dX11_pose_69 rfl ?_
    refine zk_getR hX dX11_pose_70 flX11_38 k_0 z_0 (hw _ _ (by decide) |>.trans r_0_4) ?_
    refine zk_aload_n hX dX11_pose_73 rfl ?_
    refine zk_V1i hX dX11_pose_74 kcX2_canTurn mlX11_209 viX2_canTurn rfl k_26 z_26 (s_X2_canTurn hw hH hD (zRwR hr) hS) (Nat.le_of_ble_eq_true rfl) rfl ?_
    refine zk_if_neB (tgt := 89) hX dX11_pose_77 (by decide) (fun c77 => ?_) (fun c77 => ?_)
    · exact absurd c77 ht
    refine zk_aload_n hX dX11_pose_80 rfl ?_
    refine zk_getR hX dX11_pose_81 flX11_12 k_0 z_0 (hw _ _ (by decide) |>.trans r_0_0) ?_
    refine zk_iconst (v := 3) hX dX11_pose_84 (by decide) ?_
    refine zk_V1i hX dX11_pose_85 kcX9_find mlX11_111 viX9_find rfl k_1 z_1 (s_X9_find hw _ (by decide)) (Nat.le_of_ble_eq_true rfl) rfl ?_
    refine zk_iret hX hE rfl ⟨rfl, rfl⟩ dX11_pose_88 ⟨_, rfl, ?_⟩
    exact ⟨rfl, rfl⟩
  · refine zk_aload_n hX dX11_pose_13 rfl ?_
    refine zk_iload_n hX dX11_pose_14 rfl ?_
    refine zk_V1i hX dX11_pose_15 kcX11_isJoint mlX11_186 viX11_isJoint rfl k_0 z_0 (s_X11_isJoint hw _) (Nat.le_of_ble_eq_true rfl) rfl ?_
    refine zk_if_neB (tgt := 23) hX dX11_pose_18 (by decide) (fun c18 => ?_) (fun c18 => ?_)
    rotate_left
    · exact absurd (by rw [hH.1.2.2]; exact hj.resolve_left c10) c18
    refine zk_aload_n hX dX11_pose_23 rfl ?_
    refine zk_getR hX dX11_pose_24 flX11_18 k_0 z_0 (hw _ _ (by decide) |>.trans r_0_1) ?_
    refine zk_iload_n hX dX11_pose_27 rfl ?_
    refine zk_rows hX hw dX11_pose_28 rfl (by first | assumption | omega) ?_
    refine zk_astore_n (lo' := [_, _, _, _, _]) hX dX11_pose_29 (Nat.le_of_ble_eq_true rfl) rfl rfl ?_
    refine zk_aload_n hX dX11_pose_30 rfl ?_
    refine zk_V0i hX dX11_pose_31 kcX8_isThere mlX11_119 viX8_isThere rfl (zRwR0 (by first | assumption | omega)) (zRw_r _ (by first | assumption | omega)).2.1 (s_X8_isThere (zRwR hr)) (Nat.le_of_ble_eq_true rfl) rfl ?_
    refine zk_if_neB (tgt := 46) hX dX11_pose_34 (by decide) (fun c34 => ?_) (fun c34 => ?_)
    rotate_left
    · exact absurd h0 c34
    refine zk_aload_n hX dX11_pose_46 rfl ?_
    refine zk_getI hX dX11_pose_47 flX11_146 (zRwR0 (by first | assumption | omega)) (zRw_r _ (by first | assumption | omega)).2.1 ?_
    refine zk_aload_n hX dX11_pose_50 rfl ?_
    refine zk_getR hX dX11_pose_51 flX11_38 k_0 z_0 (hw _ _ (by decide) |>.trans r_0_4) ?_
    refine zk_getI hX dX11_pose_54 flX11_167 k_26 z_26 ?_
    rw [hH.1.2.2]
    refine zk_icmp_eq (tgt := 69) hX dX11_pose_57 (by decide) (fun c57 => ?_) (fun c57 => ?_)
    rotate_left
    · exact absurd hs c57
    refine zk_aload_n hX dX11_pose_69 rfl ?_
    refine zk_getR hX dX11_pose_70 flX11_38 k_0 z_0 (hw _ _ (by decide) |>.trans r_0_4) ?_
    refine zk_aload_n hX dX11_pose_73 rfl ?_
    refine zk_V1i hX dX11_pose_74 kcX2_canTurn mlX11_209 viX2_canTurn rfl k_26 z_26 (s_X2_canTurn hw hH hD (zRwR hr) hS) (Nat.le_of_ble_eq_true rfl) rfl ?_
    refine zk_if_neB (tgt := 89) hX dX11_pose_77 (by decide) (fun c77 => ?_) (fun c77 => ?_)
    · exact absurd c77 ht
    refine zk_aload_n hX dX11_pose_80 rfl ?_
    refine zk_getR hX dX11_pose_81 flX11_12 k_0 z_0 (hw _ _ (by decide) |>.trans r_0_0) ?_
    refine zk_iconst (v := 3) hX dX11_pose_84 (by decide) ?_
    refine zk_V1i hX dX11_pose_85 kcX9_find mlX11_111 viX9_find rfl k_1 z_1 (s_X9_find hw _ (by decide)) (Nat.le_of_ble_eq_true rfl) rfl ?_
    refine zk_iret hX hE rfl ⟨rfl, rfl⟩ dX11_pose_88 ⟨_, rfl, ?_⟩
    exact ⟨rfl, rfl⟩
theorem s_X11_pose_a {G : zG} {w : zW} {D : zD} {r j : Nat} (hw : zWf w) (hH : cHd w 26 D) (hD : zDok D) (hr : r < 6) (hj : j < dJ D) (hS : zSz (w.1 (4 + 2 * r) 0) 40) (h0 : 0 ≤ w.1 (4 + 2 * r) 0) (hs : w.1 (4 + 2 * r) 0 = nI (dJ D)) (ht : zturn w D (4 + 2 * r)) (ha : ¬ zRget w (4 + 2 * r) (nI j) < nI (dA D j)) : zEi G mX11_pose [.ref 0, .int (nI r), .int (nI j)] w (-1) w := by
  have h6 := hD.1.2.2
  have h9 : ¬ nI j = -9 := fun q => absurd (show (0 : Int32) ≤ nI j from nI_pos' (by omega)) (by rw [q]; decide)
  refine zC_of (lo := [_, _, _, _, _]) kcX11_pose (Nat.le_of_ble_eq_true rfl) rfl (fun X hX hE => ?_)
  refine zk_iload_n hX dX11_pose_0 rfl ?_
  refine zk_S1i hX dX11_pose_1 kcX11_isRow mlX11_107 smX11_isRow rfl (s_X11_isRow _) (Nat.le_of_ble_eq_true rfl) rfl ?_
  refine zk_if_eqB (tgt := 21) hX dX11_pose_4 (by decide) (fun c4 => ?_) (fun c4 => ?_)
  · exact absurd c4 (not_not_intro (zrlt hr))
  refine zk_iload_n hX dX11_pose_7 rfl ?_
  refine zk_bipush (v := -9) hX dX11_pose_8 (by decide) ?_
  refine zk_icmp_eq (tgt := 23) hX dX11_pose_10 (by decide) (fun c10 => ?_) (fun c10 => ?_)
  · exact absurd c10 h9
  refine zk_aload_n hX dX11_pose_13 rfl ?_
  refine zk_iload_n hX dX11_pose_14 rfl ?_
  refine zk_V1i hX dX11_pose_15 kcX11_isJoint mlX11_186 viX11_isJoint rfl k_0 z_0 (s_X11_isJoint hw _) (Nat.le_of_ble_eq_true rfl) rfl ?_
  refine zk_if_neB (tgt := 23) hX dX11_pose_18 (by decide) (fun c18 => ?_) (fun c18 => ?_)
  rotate_left
  · exact absurd (by rw [hH.1.2.2]; exact ⟨nI_pos' (by omega), nI_lt hj (by omega)⟩) c18
  refine zk_aload_n hX dX11_pose_23 rfl ?_
  refine zk_getR hX dX11_pose_24 flX11_18 k_0 z_0 (hw _ _ (by decide) |>.trans r_0_1) ?_
  refine zk_iload_n hX dX11_pose_27 rfl ?_
  refine zk_rows hX hw dX11_pose_28 rfl (by first | assumption | omega) ?_
  refine zk_astore_n (lo' := [_, _, _, _, _]) hX dX11_pose_29 (Nat.le_of_ble_eq_true rfl) rfl rfl ?_
  refine zk_aload_n hX dX11_pose_30 rfl ?_
  refine zk_V0i hX dX11_pose_31 kcX8_isThere mlX11_119 viX8_isThere rfl (zRwR0 (by first | assumption | omega)) (zRw_r _ (by first | assumption | omega)).2.1 (s_X8_isThere (zRwR hr)) (Nat.le_of_ble_eq_true rfl) rfl ?_
  refine zk_if_neB (tgt := 46) hX dX11_pose_34 (by decide) (fun c34 => ?_) (fun c34 => ?_)
  rotate_left
  · exact absurd h0 c34
  refine zk_aload_n hX dX11_pose_46 rfl ?_
  refine zk_getI hX dX11_pose_47 flX11_146 (zRwR0 (by first | assumption | omega)) (zRw_r _ (by first | assumption | omega)).2.1 ?_
  refine zk_aload_n hX dX11_pose_50 rfl ?_
  refine zk_getR hX dX11_pose_51 flX11_38 k_0 z_0 (hw _ _ (by decide) |>.trans r_0_4) ?_
  refine zk_getI hX dX11_pose_54 flX11_167 k_26 z_26 ?_
  rw [hH.1.2.2]
  refine zk_icmp_eq (tgt := 69) hX dX11_pose_57 (by decide) (fun c57 => ?_) (fun c57 => ?_)
  rotate_left
  · exact absurd hs c57
  refine zk_aload_n hX dX11_pose_69 rfl ?_
  refine zk_getR hX dX11_pose_70 flX11_38 k_0 z_0 (hw _ _ (by decide) |>.trans r_0_4) ?_
  refine zk_aload_n hX dX11_pose_73 rfl ?_
  refine zk_V1i hX dX11_pose_74 kcX2_canTurn mlX11_209 viX2_canTurn rfl k_26 z_26 (s_X2_canTurn hw hH hD (zRwR hr) hS) (Nat.le_of_ble_eq_true rfl) rfl ?_
  refine zk_if_neB (tgt := 89) hX dX11_pose_77 (by decide) (fun c77 => ?_) (fun c77 => ?_)
  rotate_left
  · exact absurd ht c77
  refine zk_iload_n hX dX11_pose_89 rfl ?_
  refine zk_bipush (v := -9) hX dX11_pose_90 (by decide) ?_
  refine zk_icmp_eq (tgt := 114) hX dX11_pose_92 (by decide) (fun c92 => ?_) (fun c92 => ?_)
  · exact absurd c92 h9
  refine zk_aload_n hX dX11_pose_95 rfl ?_
  refine zk_iload_n hX dX11_pose_96 rfl ?_
  refine zk_V1i hX dX11_pose_97 kcX8_get mlX11_126 viX8_get rfl (zRwR0 (by first | assumption | omega)) (zRw_r _ (by first | assumption | omega)).2.1 (s_X8_get (zRwR hr) hw hS _) (Nat.le_of_ble_eq_true rfl) rfl ?_
  refine zk_aload_n hX dX11_pose_100 rfl ?_
  refine zk_getR hX dX11_pose_101 flX11_38 k_0 z_0 (hw _ _ (by decide) |>.trans r_0_4) ?_
  refine zk_getR hX dX11_pose_104 flX11_195 k_26 z_26 (hw _ _ (by decide) |>.trans r_26_10) ?_
  refine zk_iload_n hX dX11_pose_107 rfl ?_
  refine zk_ialdE hX dX11_pose_108 rfl k_34 z_34 (by first | assumption | omega) rfl ?_
  rw [(hH.2.2.2 j hj).2.2]
  refine zk_icmp_lt (tgt := 114) hX dX11_pose_109 (by decide) (fun c109 => ?_) (fun c109 => ?_)
  · exact absurd c109 ha
  refine zk_iconst (v := -1) hX dX11_pose_112 (by decide) ?_
  refine zk_iret hX hE rfl ⟨rfl, rfl⟩ dX11_pose_113 ⟨_, rfl, ?_⟩
  exact ⟨rfl, rfl⟩
theorem s_X11_pose_pre {G : zG} {X : zX} {w : zW} {D : zD} {r : Nat} {j : Int32} (hX : zH G X mX11_pose) (hw : zWf w) (hH : cHd w 26 D) (hD : zDok D) (hr : r < 6) (hj : jok D j) (hS : zSz (w.1 (4 + 2 * r) 0) 40) (h0 : 0 ≤ w.1 (4 + 2 * r) 0) (hs : w.1 (4 + 2 * r) 0 = nI (dJ D)) (ht : zturn w D (4 + 2 * r)) (ha : j = -9 ∨ zRget w (4 + 2 * r) j < nI (dA D j.toNatClampNeg))
    (k : zk0 G X mX11_pose 114 [.ref 0, .int (nI r), .int j, .ref (4 + 2 * r), .null] [] w) : zk0 G X mX11_pose 0 [.ref 0, .int (nI r), .int j, .null, .null] [] w := by
  have h6 := hD.1.2.2
  by_cases h9 : j = -9
  · refine zk_iload_n hX dX11_pose_0 rfl ?_
    refine zk_S1i hX dX11_pose_1 kcX11_isRow mlX11_107 smX11_isRow rfl (s_X11_isRow _) (Nat.le_of_ble_eq_true rfl) rfl ?_
    refine zk_if_eqB (tgt := 21) hX dX11_pose_4 (by decide) (fun c4 => ?_) (fun c4 => ?_)
    · exact absurd c4 (not_not_intro (zrlt hr))
    refine zk_iload_n hX dX11_pose_7 rfl ?_
    refine zk_bipush (v := -9) hX dX11_pose_8 (by decide) ?_
    refine zk_icmp_eq (tgt := 23) hX dX11_pose_10 (by decide) (fun c10 => ?_) (fun c10 => ?_)
    rotate_left
    · exact absurd h9 c10
    refine zk_aload_n hX dX11_pose_23 rfl ?_
    refine zk_getR hX dX11_pose_24 flX11_18 k_0 z_0 (hw _ _ (by decide) |>.trans r_0_1) ?_
    refine zk_iload_n hX dX11_pose_27 rfl ?_
    refine zk_rows hX hw dX11_pose_28 rfl (by first | assumption | omega) ?_
    refine zk_astore_n (lo' := [_, _, _, _, _]) hX dX11_pose_29 (Nat.le_of_ble_eq_true rfl) rfl rfl ?_
    refine zk_aload_n hX dX11_pose_30 rfl ?_
    refine zk_V0i hX dX11_pose_31 kcX8_isThere mlX11_119 viX8_isThere rfl (zRwR0 (by first | assumption | omega)) (zRw_r _ (by first | assumption | omega)).2.1 (s_X8_isThere (zRwR hr)) (Nat.le_of_ble_eq_true rfl) rfl ?_
    refine zk_if_neB (tgt := 46) hX dX11_pose_34 (by decide) (fun c34 => ?_) (fun c34 => ?_)
    rotate_left
    · exact absurd h0 c34
    refine zk_aload_n hX dX11_pose_46 rfl ?_
    refine zk_getI hX dX11_pose_47 flX11_146 (zRwR0 (by first | assumption | omega)) (zRw_r _ (by first | assumption | omega)).2.1 ?_
    refine zk_aload_n hX dX11_pose_50 rfl ?_
    refine zk_getR hX dX11_pose_51 flX11_38 k_0 z_0 (hw _ _ (by decide) |>.trans r_0_4) ?_
    refine zk_getI hX dX11_pose_54 flX11_167 k_26 z_26 ?_
    rw [hH.1.2.2]
    refine zk_icmp_eq (tgt := 69) hX dX11_pose_57 (by decide) (fun c57 => ?_) (fun c57 => ?_)
    rotate_left
    · exact absurd hs c57
    refine zk_aload_n hX dX11_pose_69 rfl ?_
    refine zk_getR hX dX11_pose_70 flX11_38 k_0 z_0 (hw _ _ (by decide) |>.trans r_0_4) ?_
    refine zk_aload_n hX dX11_pose_73 rfl ?_
    refine zk_V1i hX dX11_pose_74 kcX2_canTurn mlX11_209 viX2_canTurn rfl k_26 z_26 (s_X2_canTurn hw hH hD (zRwR hr) hS) (Nat.le_of_ble_eq_true rfl) rfl ?_
    refine zk_if_neB (tgt := 89) hX dX11_pose_77 (by decide) (fun c77 => ?_) (fun c77 => ?_)
    rotate_left
    · exact absurd ht c77
    refine zk_iload_n hX dX11_pose_89 rfl ?_
    refine zk_bipush (v := -9) hX dX11_pose_90 (by decide) ?_
    refine zk_icmp_eq (tgt := 114) hX dX11_pose_92 (by decide) (fun c92 => ?_) (fun c92 => ?_)
    rotate_left
    · exact absurd h9 c92
    exact k
  · obtain ⟨j, hj', rfl⟩ := rn (by omega) (hj.resolve_left h9)
    have ha := ha.resolve_left h9
    rw [nI_clamp (by omega)] at ha
    refine zk_iload_n hX dX11_pose_0 rfl ?_
    refine zk_S1i hX dX11_pose_1 kcX11_isRow mlX11_107 smX11_isRow rfl (s_X11_isRow _) (Nat.le_of_ble_eq_true rfl) rfl ?_
    refine zk_if_eqB (tgt := 21) hX dX11_pose_4 (by decide) (fun c4 => ?_) (fun c4 => ?_)
    · exact absurd c4 (not_not_intro (zrlt hr))
    refine zk_iload_n hX dX11_pose_7 rfl ?_
    refine zk_bipush (v := -9) hX dX11_pose_8 (by decide) ?_
    refine zk_icmp_eq (tgt := 23) hX dX11_pose_10 (by decide) (fun c10 => ?_) (fun c10 => ?_)
    · exact absurd c10 h9
    refine zk_aload_n hX dX11_pose_13 rfl ?_
    refine zk_iload_n hX dX11_pose_14 rfl ?_
    refine zk_V1i hX dX11_pose_15 kcX11_isJoint mlX11_186 viX11_isJoint rfl k_0 z_0 (s_X11_isJoint hw _) (Nat.le_of_ble_eq_true rfl) rfl ?_
    refine zk_if_neB (tgt := 23) hX dX11_pose_18 (by decide) (fun c18 => ?_) (fun c18 => ?_)
    rotate_left
    · exact absurd (by rw [hH.1.2.2]; exact ⟨nI_pos' (by omega), nI_lt hj' (by omega)⟩) c18
    refine zk_aload_n hX dX11_pose_23 rfl ?_
    refine zk_getR hX dX11_pose_24 flX11_18 k_0 z_0 (hw _ _ (by decide) |>.trans r_0_1) ?_
    refine zk_iload_n hX dX11_pose_27 rfl ?_
    refine zk_rows hX hw dX11_pose_28 rfl (by first | assumption | omega) ?_
    refine zk_astore_n (lo' := [_, _, _, _, _]) hX dX11_pose_29 (Nat.le_of_ble_eq_true rfl) rfl rfl ?_
    refine zk_aload_n hX dX11_pose_30 rfl ?_
    refine zk_V0i hX dX11_pose_31 kcX8_isThere mlX11_119 viX8_isThere rfl (zRwR0 (by first | assumption | omega)) (zRw_r _ (by first | assumption | omega)).2.1 (s_X8_isThere (zRwR hr)) (Nat.le_of_ble_eq_true rfl) rfl ?_
    refine zk_if_neB (tgt := 46) hX dX11_pose_34 (by decide) (fun c34 => ?_) (fun c34 => ?_)
    rotate_left
    · exact absurd h0 c34
    refine zk_aload_n hX dX11_pose_46 rfl ?_
    refine zk_getI hX dX11_pose_47 flX11_146 (zRwR0 (by first | assumption | omega)) (zRw_r _ (by first | assumption | omega)).2.1 ?_
    refine zk_aload_n hX dX11_pose_50 rfl ?_
    refine zk_getR hX dX11_pose_51 flX11_38 k_0 z_0 (hw _ _ (by decide) |>.trans r_0_4) ?_
    refine zk_getI hX dX11_pose_54 flX11_167 k_26 z_26 ?_
    rw [hH.1.2.2]
    refine zk_icmp_eq (tgt := 69) hX dX11_pose_57 (by decide) (fun c57 => ?_) (fun c57 => ?_)
    rotate_left
    · exact absurd hs c57
    refine zk_aload_n hX dX11_pose_69 rfl ?_
    refine zk_getR hX dX11_pose_70 flX11_38 k_0 z_0 (hw _ _ (by decide) |>.trans r_0_4) ?_
    refine zk_aload_n hX dX11_pose_73 rfl ?_
    refine zk_V1i hX dX11_pose_74 kcX2_canTurn mlX11_209 viX2_canTurn rfl k_26 z_26 (s_X2_canTurn hw hH hD (zRwR hr) hS) (Nat.le_of_ble_eq_true rfl) rfl ?_
    refine zk_if_neB (tgt := 89) hX dX11_pose_77 (by decide) (fun c77 => ?_) (fun c77 => ?_)
    rotate_left
    · exact absurd ht c77
    refine zk_iload_n hX dX11_pose_89 rfl ?_
    refine zk_bipush (v := -9) hX dX11_pose_90 (by decide) ?_
    refine zk_icmp_eq (tgt := 114) hX dX11_pose_92 (by decide) (fun c92 => ?_) (fun c92 => ?_)
    · exact absurd c92 h9
    refine zk_aload_n hX dX11_pose_95 rfl ?_
    refine zk_iload_n hX dX11_pose_96 rfl ?_
    refine zk_V1i hX dX11_pose_97 kcX8_get mlX11_126 viX8_get rfl (zRwR0 (by first | assumption | omega)) (zRw_r _ (by first | assumption | omega)).2.1 (s_X8_get (zRwR hr) hw hS _) (Nat.le_of_ble_eq_true rfl) rfl ?_
    refine zk_aload_n hX dX11_pose_100 rfl ?_
    refine zk_getR hX dX11_pose_101 flX11_38 k_0 z_0 (hw _ _ (by decide) |>.trans r_0_4) ?_
    refine zk_getR hX dX11_pose_104 flX11_195 k_26 z_26 (hw _ _ (by decide) |>.trans r_26_10) ?_
    refine zk_iload_n hX dX11_pose_107 rfl ?_
    refine zk_ialdE hX dX11_pose_108 rfl k_34 z_34 (by first | assumption | omega) rfl ?_
    rw [(hH.2.2.2 j hj').2.2]
    refine zk_icmp_lt (tgt := 114) hX dX11_pose_109 (by decide) (fun c109 => ?_) (fun c109 => ?_)
    rotate_left
    · exact absurd ha c109
    exact k
theorem s_X11_pose_12 {G : zG} {w : zW} {D : zD} {r : Nat} {j : Int32} (hw : zWf w) (hH : cHd w 26 D) (hD : zDok D) (hr : r < 6) (hj : jok D j) (hS : zSz (w.1 (4 + 2 * r) 0) 40) (h0 : 0 ≤ w.1 (4 + 2 * r) 0) (hs : w.1 (4 + 2 * r) 0 = nI (dJ D)) (ht : zturn w D (4 + 2 * r)) (ha : j = -9 ∨ zRget w (4 + 2 * r) j < nI (dA D j.toNatClampNeg)) (hP : w.1 0 10 = nI 12) : zEi G mX11_pose [.ref 0, .int (nI r), .int j] w (-2) w := by
  refine zC_of (lo := [_, _, _, _, _]) kcX11_pose (Nat.le_of_ble_eq_true rfl) rfl (fun X hX hE => ?_)
  refine s_X11_pose_pre hX hw hH hD hr hj hS h0 hs ht ha ?_
  refine zk_aload_n hX dX11_pose_114 rfl ?_
  refine zk_getI hX dX11_pose_115 flX11_213 k_0 z_0 ?_
  rw [hP]
  refine zk_bipush (v := 12) hX dX11_pose_118 (by decide) ?_
  refine zk_icmp_lt (tgt := 126) hX dX11_pose_120 (by decide) (fun c120 => ?_) (fun c120 => ?_)
  · exact absurd c120 (by decide)
  refine zk_bipush (v := -2) hX dX11_pose_123 (by decide) ?_
  refine zk_iret hX hE rfl ⟨rfl, rfl⟩ dX11_pose_125 ⟨_, rfl, ?_⟩
  exact ⟨rfl, rfl⟩
theorem s_X11_pose_g {G : zG} {w : zW} {D : zD} {r n T : Nat} {j : Int32} (hw : zWf w) (hH : cHd w 26 D) (hD : zDok D) (hr : r < 6) (hj : jok D j) (hS : zSz (w.1 (4 + 2 * r) 0) 40) (h0 : 0 ≤ w.1 (4 + 2 * r) 0) (hs : w.1 (4 + 2 * r) 0 = nI (dJ D)) (ht : zturn w D (4 + 2 * r)) (ha : j = -9 ∨ zRget w (4 + 2 * r) j < nI (dA D j.toNatClampNeg)) (hn : n < 12) (hP : w.1 0 10 = nI n) (hT9 : T ≤ 99) (hT : w.1 0 8 = nI T) :
    zCi G mX11_pose [.ref 0, .int (nI r), .int j] w (fun a w' => a = nI n ∧ ∃ w2 w3, (zFr [47 + 4 * n, 48 + 4 * n] [50 + 4 * n] [] w w2 ∧ (∀ i, i < 6 → w2.1 (48 + 4 * n) i = zRget w (4 + 2 * r) (nI i)) ∧ w2.1 (47 + 4 * n) 4 = j ∧ zHas w2 (50 + 4 * n) zno) ∧
      cJd w2 n D T (zld (w2.1 (48 + 4 * n))) (jw D (w2.1 (48 + 4 * n)) j) (jm (w2.1 (48 + 4 * n)) j) j w3 ∧ w' = zsi (zsi w3 1 0 (jk D (w2.1 (48 + 4 * n)) j T)) 0 10 (nI (n + 1))) := by
  have h6 := hD.1.2.2
  have gz : ∀ i, dJ D ≤ i → i < 6 → zRget w (4 + 2 * r) (nI i) = 0 := fun i h1 h2 => by
    unfold zRget
    rw [hs, if_neg (fun q => absurd ((nI_ltI (by omega) (by omega)).mp q.2) (by omega))]
  have gj : ∀ i, i < dJ D → -2 ≤ zRget w (4 + 2 * r) (nI i) ∧ zRget w (4 + 2 * r) (nI i) ≤ 2 := fun i hi => by
    have q := ht i hi
    have qd := hD.2.2.2.2.1 i hi
    have a1 : nI (dB D i) ≤ 2 := nI_le (b := 2) qd.2.1 (by decide)
    have a2 : nI (dA D i) ≤ 2 := nI_le (b := 2) qd.2.2 (by decide)
    have a3 : 0 ≤ nI (dB D i) := nI_pos' (by omega)
    grind
  have gh : ∀ w2 : zW, (∀ i, i < 6 → w2.1 (48 + 4 * n) i = zRget w (4 + 2 * r) (nI i)) → j = -9 ∨ w2.1 (48 + 4 * n) j.toNatClampNeg + 1 ≤ 2 := by
    intro w2 g
    by_cases e : j = -9
    · exact Or.inl e
    · right
      obtain ⟨i, hi, rfl⟩ := rn (by omega) (hj.resolve_left e)
      have ha := ha.resolve_left e
      rw [nI_clamp (by omega)] at ha ⊢
      rw [g i (by omega)]
      have a2 : nI (dA D i) ≤ 2 := nI_le (b := 2) (hD.2.2.2.2.1 i hi).2.2 (by decide)
      have a3 := gj i hi
      grind
  refine zC_of (lo := [_, _, _, _, _]) kcX11_pose (Nat.le_of_ble_eq_true rfl) rfl (fun X hX hE => ?_)
  refine s_X11_pose_pre hX hw hH hD hr hj hS h0 hs ht ha ?_
  refine zk_aload_n hX dX11_pose_114 rfl ?_
  refine zk_getI hX dX11_pose_115 flX11_213 k_0 z_0 ?_
  rw [hP]
  refine zk_bipush (v := 12) hX dX11_pose_118 (by decide) ?_
  refine zk_icmp_lt (tgt := 126) hX dX11_pose_120 (by decide) (fun c120 => ?_) (fun c120 => ?_)
  rotate_left
  · exact absurd (nI_lt (b := 12) hn (by decide)) c120
  refine zk_aload_n hX dX11_pose_126 rfl ?_
  refine zk_getR hX dX11_pose_127 flX11_61 k_0 z_0 (hw _ _ (by decide) |>.trans r_0_9) ?_
  refine zk_aload_n hX dX11_pose_130 rfl ?_
  refine zk_getI hX dX11_pose_131 flX11_213 k_0 z_0 ?_
  rw [hP]
  refine zk_poses hX hw dX11_pose_134 rfl (by first | assumption | omega) ?_
  refine zk_astore (lo' := [_, _, _, _, _]) hX dX11_pose_135 (Nat.le_of_ble_eq_true rfl) rfl rfl ?_
  refine zk_aload hX dX11_pose_137 rfl ?_
  refine zk_aload_n hX dX11_pose_139 rfl ?_
  refine zk_iload_n hX dX11_pose_140 rfl ?_
  refine zk_V2vp hX dX11_pose_141 kcX5_begin mlX11_216 viX5_begin rfl (zPok (by first | assumption | omega)) (zPoz _ (by first | assumption | omega)).1 (s_X5_begin hw hn (zRwR hr) (by omega) hS j) (Nat.le_of_ble_eq_true rfl) rfl (fun w2 q2 => ?_)
  have hw2 := zFr_wf q2.1 hw
  have hH2 : cHd w2 26 D := cHd_o hH (fun a h1 h2 => q2.1.2.1 a (by simp; omega) (by omega))
  have hT6 : zT6 D (w2.1 (48 + 4 * n)) := (fun i hi => by rw [q2.2.1 i hi]; exact ⟨by (by_cases g : i < dJ D; exact gj i g; rw [gz i (by omega) hi]; decide), fun g => gz i g hi⟩)
  have hj1 : j = -9 ∨ w2.1 (48 + 4 * n) j.toNatClampNeg + 1 ≤ 2 := gh w2 q2.2.1
  have hT2 : w2.1 0 8 = nI T := by rw [q2.1.2.1 0 (by simp; omega) (by decide)]; exact hT
  refine zk_aload hX dX11_pose_144 rfl ?_
  refine zk_aload_n hX dX11_pose_146 rfl ?_
  refine zk_getR hX dX11_pose_147 flX11_38 k_0 z_0 (hw2 _ _ (by decide) |>.trans r_0_4) ?_
  refine zk_aload_n hX dX11_pose_150 rfl ?_
  refine zk_getI hX dX11_pose_151 flX11_55 k_0 z_0 ?_
  rw [hT2]
  refine zk_aload_n hX dX11_pose_154 rfl ?_
  refine zk_getR hX dX11_pose_155 flX11_97 k_0 z_0 (hw2 _ _ (by decide) |>.trans r_0_15) ?_
  refine zk_V3vp hX dX11_pose_158 kcX5_judge mlX11_220 viX5_judge rfl (zPok (by first | assumption | omega)) (zPoz _ (by first | assumption | omega)).1 (s_X5_judge hw2 hn hH2 hD hT6 hT9 hj q2.2.2.1 hj1) (Nat.le_of_ble_eq_true rfl) rfl (fun w3 q3 => ?_)
  have hw3 := zFr_wf q3.1 hw2
  refine zk_aload_n hX dX11_pose_161 rfl ?_
  refine zk_getR hX dX11_pose_162 flX11_12 k_0 z_0 (hw3 _ _ (by decide) |>.trans r_0_0) ?_
  refine zk_aload hX dX11_pose_165 rfl ?_
  refine zk_getI hX dX11_pose_167 flX11_224 (zPok (by first | assumption | omega)) (zPoz _ (by first | assumption | omega)).1 ?_
  rw [q3.2.2.1.1]
  refine zk_V1i hX dX11_pose_170 kcX9_tell mlX11_132 viX9_tell rfl k_1 z_1 (s_X9_tell _) (Nat.le_of_ble_eq_true rfl) rfl ?_
  refine zk_pop hX dX11_pose_173 rfl ?_
  refine zk_aload_n hX dX11_pose_174 rfl ?_
  refine zk_dup hX dX11_pose_175 rfl ?_
  refine zk_getI hX dX11_pose_176 flX11_213 k_0 z_0 ?_
  rw [zsi_o (by decide), q3.1.2.1 0 (by simp; omega) (by decide), q2.1.2.1 0 (by simp; omega) (by decide), hP]
  refine zk_iconst (v := 1) hX dX11_pose_179 (by decide) ?_
  refine zk_iadd hX dX11_pose_180 ?_
  rw [nI_1]
  refine zk_putI hX dX11_pose_181 plX11_213 (fun h => by cases h) k_0 z_0 rfl rfl ?_
  refine zk_aload_n hX dX11_pose_184 rfl ?_
  refine zk_getI hX dX11_pose_185 flX11_213 k_0 z_0 ?_
  rw [zsi_1, if_pos ⟨rfl, rfl⟩]
  refine zk_iconst (v := 1) hX dX11_pose_188 (by decide) ?_
  refine zk_isub hX dX11_pose_189 ?_
  rw [show (1 : Int32) = nI 1 from rfl, nI_sub (by omega), Nat.add_sub_cancel]
  refine zk_iret hX hE rfl ⟨rfl, rfl⟩ dX11_pose_190 ⟨_, rfl, ?_⟩
  exact ⟨rfl, w2, w3, q2, q3, rfl⟩

