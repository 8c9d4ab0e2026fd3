theorem s_X11_never_bad {G : zG} {w : zW} (k r : Int32) (h : ¬ ((0 ≤ k ∧ k < 6) ∧ (0 ≤ r ∧ r < 6))) : zEi G mX11_never [.ref 0, .int k, .int r] w (-1) w := by
  refine zC_of (lo := [_, _, _]) kcX11_never (Nat.le_of_ble_eq_true rfl) rfl (fun X hX hE => ?_)
  refine zk_iload_n hX dX11_never_0 rfl ?_
  refine zk_S1i hX dX11_never_1 kcX11_isBeast mlX11_272 smX11_isBeast rfl (s_X11_isBeast _) (Nat.le_of_ble_eq_true rfl) rfl ?_
  refine zk_if_eqB (tgt := 14) hX dX11_never_4 (by decide) (fun c4 => ?_) (fun c4 => ?_)
  · refine zk_iconst (v := -1) hX dX11_never_14 (by decide) ?_
    refine zk_iret hX hE rfl ⟨rfl, rfl⟩ dX11_never_15 ⟨_, rfl, ?_⟩
    exact ⟨rfl, rfl⟩
  · refine zk_iload_n hX dX11_never_7 rfl ?_
    refine zk_S1i hX dX11_never_8 kcX11_isRow mlX11_107 smX11_isRow rfl (s_X11_isRow _) (Nat.le_of_ble_eq_true rfl) rfl ?_
    refine zk_if_neB (tgt := 16) hX dX11_never_11 (by decide) (fun c11 => ?_) (fun c11 => ?_)
    · exact absurd c11 (fun q => h ⟨by first | exact c4 | exact Decidable.not_not.mp c4, q⟩)
    refine zk_iconst (v := -1) hX dX11_never_14 (by decide) ?_
    refine zk_iret hX hE rfl ⟨rfl, rfl⟩ dX11_never_15 ⟨_, rfl, ?_⟩
    exact ⟨rfl, rfl⟩
theorem s_X11_never_m {G : zG} {w : zW} {k r : Nat} (hw : zWf w) (hk : k < 6) (hr : r < 6) (h : w.1 (96 + 3 * k) 3 = 0) : zEi G mX11_never [.ref 0, .int (nI k), .int (nI r)] w (-3) (zfind w 1) := by
  refine zC_of (lo := [_, _, _]) kcX11_never (Nat.le_of_ble_eq_true rfl) rfl (fun X hX hE => ?_)
  refine zk_iload_n hX dX11_never_0 rfl ?_
  refine zk_S1i hX dX11_never_1 kcX11_isBeast mlX11_272 smX11_isBeast rfl (s_X11_isBeast _) (Nat.le_of_ble_eq_true rfl) rfl ?_
  refine zk_if_eqB (tgt := 14) hX dX11_never_4 (by decide) (fun c4 => ?_) (fun c4 => ?_)
  · exact absurd c4 (not_not_intro (zrlt hk))
  refine zk_iload_n hX dX11_never_7 rfl ?_
  refine zk_S1i hX dX11_never_8 kcX11_isRow mlX11_107 smX11_isRow rfl (s_X11_isRow _) (Nat.le_of_ble_eq_true rfl) rfl ?_
  refine zk_if_neB (tgt := 16) hX dX11_never_11 (by decide) (fun c11 => ?_) (fun c11 => ?_)
  rotate_left
  · exact absurd (zrlt hr) c11
  refine zk_aload_n hX dX11_never_16 rfl ?_
  refine zk_getR hX dX11_never_17 flX11_68 k_0 z_0 (hw _ _ (by decide) |>.trans r_0_11) ?_
  refine zk_iload_n hX dX11_never_20 rfl ?_
  refine zk_beasts hX hw dX11_never_21 rfl (by first | assumption | omega) ?_
  refine zk_getI hX dX11_never_22 flX11_284 (zBek (by first | assumption | omega)) (zBez _ (by first | assumption | omega)).1 ?_
  refine zk_if_ne (tgt := 37) hX dX11_never_25 (by decide) (fun c25 => ?_) (fun c25 => ?_)
  · exact absurd c25 (fun q => q h)
  refine zk_aload_n hX dX11_never_28 rfl ?_
  refine zk_getR hX dX11_never_29 flX11_12 k_0 z_0 (hw _ _ (by decide) |>.trans r_0_0) ?_
  refine zk_iconst (v := 1) hX dX11_never_32 (by decide) ?_
  refine zk_V1i hX dX11_never_33 kcX9_find mlX11_111 viX9_find rfl k_1 z_1 (s_X9_find hw _ (by decide)) (Nat.le_of_ble_eq_true rfl) rfl ?_
  refine zk_iret hX hE rfl ⟨rfl, rfl⟩ dX11_never_36 ⟨_, rfl, ?_⟩
  exact ⟨rfl, rfl⟩
theorem s_X11_never_s {G : zG} {w : zW} {k r : Nat} (hw : zWf w) (hk : k < 6) (hr : r < 6) (h : ¬ w.1 (96 + 3 * k) 3 = 0) (hs : w.1 131 0 = 1) : zEi G mX11_never [.ref 0, .int (nI k), .int (nI r)] w (-6) w := by
  refine zC_of (lo := [_, _, _]) kcX11_never (Nat.le_of_ble_eq_true rfl) rfl (fun X hX hE => ?_)
  refine zk_iload_n hX dX11_never_0 rfl ?_
  refine zk_S1i hX dX11_never_1 kcX11_isBeast mlX11_272 smX11_isBeast rfl (s_X11_isBeast _) (Nat.le_of_ble_eq_true rfl) rfl ?_
  refine zk_if_eqB (tgt := 14) hX dX11_never_4 (by decide) (fun c4 => ?_) (fun c4 => ?_)
  · exact absurd c4 (not_not_intro (zrlt hk))
  refine zk_iload_n hX dX11_never_7 rfl ?_
  refine zk_S1i hX dX11_never_8 kcX11_isRow mlX11_107 smX11_isRow rfl (s_X11_isRow _) (Nat.le_of_ble_eq_true rfl) rfl ?_
  refine zk_if_neB (tgt := 16) hX dX11_never_11 (by decide) (fun c11 => ?_) (fun c11 => ?_)
  rotate_left
  · exact absurd (zrlt hr) c11
  refine zk_aload_n hX dX11_never_16 rfl ?_
  refine zk_getR hX dX11_never_17 flX11_68 k_0 z_0 (hw _ _ (by decide) |>.trans r_0_11) ?_
  refine zk_iload_n hX dX11_never_20 rfl ?_
  refine zk_beasts hX hw dX11_never_21 rfl (by first | assumption | omega) ?_
  refine zk_getI hX dX11_never_22 flX11_284 (zBek (by first | assumption | omega)) (zBez _ (by first | assumption | omega)).1 ?_
  refine zk_if_ne (tgt := 37) hX dX11_never_25 (by decide) (fun c25 => ?_) (fun c25 => ?_)
  rotate_left
  · exact absurd c25 h
  refine zk_aload_n hX dX11_never_37 rfl ?_
  refine zk_getR hX dX11_never_38 flX11_83 k_0 z_0 (hw _ _ (by decide) |>.trans r_0_13) ?_
  refine zk_getI hX dX11_never_41 flX11_302 k_131 z_131 ?_
  rw [hs]
  refine zk_if_eq (tgt := 50) hX dX11_never_44 (by decide) (fun c44 => ?_) (fun c44 => ?_)
  · exact absurd c44 (by decide)
  refine zk_bipush (v := -6) hX dX11_never_47 (by decide) ?_
  refine zk_iret hX hE rfl ⟨rfl, rfl⟩ dX11_never_49 ⟨_, rfl, ?_⟩
  exact ⟨rfl, rfl⟩
