theorem s_X11_nearest_bad {G : zG} {w : zW} (k r : Int32) (h : ¬ ((0 ≤ k ∧ k < 6) ∧ (0 ≤ r ∧ r < 6))) : zEi G mX11_nearest [.ref 0, .int k, .int r] w (-1) w := by
  refine zC_of (lo := [_, _, _, _, _]) kcX11_nearest (Nat.le_of_ble_eq_true rfl) rfl (fun X hX hE => ?_)
  refine zk_iload_n hX dX11_nearest_0 rfl ?_
  refine zk_S1i hX dX11_nearest_1 kcX11_isBeast mlX11_272 smX11_isBeast rfl (s_X11_isBeast _) (Nat.le_of_ble_eq_true rfl) rfl ?_
  refine zk_if_eqB (tgt := 14) hX dX11_nearest_4 (by decide) (fun c4 => ?_) (fun c4 => ?_)
  · refine zk_iconst (v := -1) hX dX11_nearest_14 (by decide) ?_
    refine zk_iret hX hE rfl ⟨rfl, rfl⟩ dX11_nearest_15 ⟨_, rfl, ?_⟩
    exact ⟨rfl, rfl⟩
  · refine zk_iload_n hX dX11_nearest_7 rfl ?_
    refine zk_S1i hX dX11_nearest_8 kcX11_isRow mlX11_107 smX11_isRow rfl (s_X11_isRow _) (Nat.le_of_ble_eq_true rfl) rfl ?_
    refine zk_if_neB (tgt := 16) hX dX11_nearest_11 (by decide) (fun c11 => ?_) (fun c11 => ?_)
    · exact absurd c11 (fun q => h ⟨by first | exact c4 | exact Decidable.not_not.mp c4, q⟩)
    refine zk_iconst (v := -1) hX dX11_nearest_14 (by decide) ?_
    refine zk_iret hX hE rfl ⟨rfl, rfl⟩ dX11_nearest_15 ⟨_, rfl, ?_⟩
    exact ⟨rfl, rfl⟩
theorem s_X11_nearest_m {G : zG} {w : zW} {k r : Nat} (hw : zWf w) (hk : k < 6) (hr : r < 6) (h : w.1 (96 + 3 * k) 3 = 0) : zEi G mX11_nearest [.ref 0, .int (nI k), .int (nI r)] w (-3) (zfind w 1) := by
  refine zC_of (lo := [_, _, _, _, _]) kcX11_nearest (Nat.le_of_ble_eq_true rfl) rfl (fun X hX hE => ?_)
  refine zk_iload_n hX dX11_nearest_0 rfl ?_
  refine zk_S1i hX dX11_nearest_1 kcX11_isBeast mlX11_272 smX11_isBeast rfl (s_X11_isBeast _) (Nat.le_of_ble_eq_true rfl) rfl ?_
  refine zk_if_eqB (tgt := 14) hX dX11_nearest_4 (by decide) (fun c4 => ?_) (fun c4 => ?_)
  · exact absurd c4 (not_not_intro (zrlt hk))
  refine zk_iload_n hX dX11_nearest_7 rfl ?_
  refine zk_S1i hX dX11_nearest_8 kcX11_isRow mlX11_107 smX11_isRow rfl (s_X11_isRow _) (Nat.le_of_ble_eq_true rfl) rfl ?_
  refine zk_if_neB (tgt := 16) hX dX11_nearest_11 (by decide) (fun c11 => ?_) (fun c11 => ?_)
  rotate_left
  · exact absurd (zrlt hr) c11
  refine zk_aload_n hX dX11_nearest_16 rfl ?_
  refine zk_getR hX dX11_nearest_17 flX11_68 k_0 z_0 (hw _ _ (by decide) |>.trans r_0_11) ?_
  refine zk_iload_n hX dX11_nearest_20 rfl ?_
  refine zk_beasts hX hw dX11_nearest_21 rfl (by first | assumption | omega) ?_
  refine zk_getI hX dX11_nearest_22 flX11_284 (zBek (by first | assumption | omega)) (zBez _ (by first | assumption | omega)).1 ?_
  refine zk_if_ne (tgt := 37) hX dX11_nearest_25 (by decide) (fun c25 => ?_) (fun c25 => ?_)
  · exact absurd c25 (fun q => q h)
  refine zk_aload_n hX dX11_nearest_28 rfl ?_
  refine zk_getR hX dX11_nearest_29 flX11_12 k_0 z_0 (hw _ _ (by decide) |>.trans r_0_0) ?_
  refine zk_iconst (v := 1) hX dX11_nearest_32 (by decide) ?_
  refine zk_V1i hX dX11_nearest_33 kcX9_find mlX11_111 viX9_find rfl k_1 z_1 (s_X9_find hw _ (by decide)) (Nat.le_of_ble_eq_true rfl) rfl ?_
  refine zk_iret hX hE rfl ⟨rfl, rfl⟩ dX11_nearest_36 ⟨_, rfl, ?_⟩
  exact ⟨rfl, rfl⟩
theorem s_X11_nearest_s {G : zG} {w : zW} {k r : Nat} (hw : zWf w) (hk : k < 6) (hr : r < 6) (h : ¬ w.1 (96 + 3 * k) 3 = 0) (hs : w.1 131 0 = 1) : zEi G mX11_nearest [.ref 0, .int (nI k), .int (nI r)] w (-6) w := by
  refine zC_of (lo := [_, _, _, _, _]) kcX11_nearest (Nat.le_of_ble_eq_true rfl) rfl (fun X hX hE => ?_)
  refine zk_iload_n hX dX11_nearest_0 rfl ?_
  refine zk_S1i hX dX11_nearest_1 kcX11_isBeast mlX11_272 smX11_isBeast rfl (s_X11_isBeast _) (Nat.le_of_ble_eq_true rfl) rfl ?_
  refine zk_if_eqB (tgt := 14) hX dX11_nearest_4 (by decide) (fun c4 => ?_) (fun c4 => ?_)
  · exact absurd c4 (not_not_intro (zrlt hk))
  refine zk_iload_n hX dX11_nearest_7 rfl ?_
  refine zk_S1i hX dX11_nearest_8 kcX11_isRow mlX11_107 smX11_isRow rfl (s_X11_isRow _) (Nat.le_of_ble_eq_true rfl) rfl ?_
  refine zk_if_neB (tgt := 16) hX dX11_nearest_11 (by decide) (fun c11 => ?_) (fun c11 => ?_)
  rotate_left
  · exact absurd (zrlt hr) c11
  refine zk_aload_n hX dX11_nearest_16 rfl ?_
  refine zk_getR hX dX11_nearest_17 flX11_68 k_0 z_0 (hw _ _ (by decide) |>.trans r_0_11) ?_
  refine zk_iload_n hX dX11_nearest_20 rfl ?_
  refine zk_beasts hX hw dX11_nearest_21 rfl (by first | assumption | omega) ?_
  refine zk_getI hX dX11_nearest_22 flX11_284 (zBek (by first | assumption | omega)) (zBez _ (by first | assumption | omega)).1 ?_
  refine zk_if_ne (tgt := 37) hX dX11_nearest_25 (by decide) (fun c25 => ?_) (fun c25 => ?_)
  rotate_left
  · exact absurd c25 h
  refine zk_aload_n hX dX11_nearest_37 rfl ?_
  refine zk_getR hX dX11_nearest_38 flX11_83 k_0 z_0 (hw _ _ (by decide) |>.trans r_0_13) ?_
  refine zk_getI hX dX11_nearest_41 flX11_302 k_131 z_131 ?_
  rw [hs]
  refine zk_if_eq (tgt := 50) hX dX11_nearest_44 (by decide) (fun c44 => ?_) (fun c44 => ?_)
  · exact absurd c44 (by decide)
  refine zk_bipush (v := -6) hX dX11_nearest_47 (by decide) ?_
  refine zk_iret hX hE rfl ⟨rfl, rfl⟩ dX11_nearest_49 ⟨_, rfl, ?_⟩
  exact ⟨rfl, rfl⟩

