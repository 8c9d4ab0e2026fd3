/-! nearest -/
theorem s_X12_needBeast_bad {G : zG} {w : zW} {p : Prop} [Decidable p] (k : Int32) (h : ¬ (p ∧ (0 ≤ k ∧ k < 6))) : zEi G mX12_needBeast [.ref 166, .int (zb p), .int k] w (-1) w := by
  refine zC_of (lo := [_, _, _]) kcX12_needBeast (Nat.le_of_ble_eq_true rfl) rfl (fun X hX hE => ?_)
  refine zk_iload_n hX dX12_needBeast_0 rfl ?_
  refine zk_if_eqB (tgt := 11) hX dX12_needBeast_1 (by decide) (fun c1 => ?_) (fun c1 => ?_)
  · refine zk_iconst (v := -1) hX dX12_needBeast_11 (by decide) ?_
    refine zk_iret hX hE rfl ⟨rfl, rfl⟩ dX12_needBeast_12 ⟨_, rfl, ?_⟩
    exact ⟨rfl, rfl⟩
  · refine zk_iload_n hX dX12_needBeast_4 rfl ?_
    refine zk_S1i hX dX12_needBeast_5 kcX12_isBeast mlX12_317 smX12_isBeast rfl (s_X12_isBeast' _) (Nat.le_of_ble_eq_true rfl) rfl ?_
    refine zk_if_neB (tgt := 13) hX dX12_needBeast_8 (by decide) (fun c8 => ?_) (fun c8 => ?_)
    · exact absurd c8 (fun q => h ⟨by first | exact c1 | exact Decidable.not_not.mp c1, by grind⟩)
    refine zk_iconst (v := -1) hX dX12_needBeast_11 (by decide) ?_
    refine zk_iret hX hE rfl ⟨rfl, rfl⟩ dX12_needBeast_12 ⟨_, rfl, ?_⟩
    exact ⟨rfl, rfl⟩
theorem s_X12_needBeast_m {G : zG} {w : zW} {p : Prop} [Decidable p] {k : Nat} (hw : zWf w) (hp : p) (hk : k < 6) (h : w.1 186 k = 0) : zEi G mX12_needBeast [.ref 166, .int (zb p), .int (nI k)] w (-3) (mfind w 1) := by
  refine zC_of (lo := [_, _, _]) kcX12_needBeast (Nat.le_of_ble_eq_true rfl) rfl (fun X hX hE => ?_)
  refine zk_iload_n hX dX12_needBeast_0 rfl ?_
  refine zk_if_eqB (tgt := 11) hX dX12_needBeast_1 (by decide) (fun c1 => ?_) (fun c1 => ?_)
  · exact absurd c1 (not_not_intro hp)
  refine zk_iload_n hX dX12_needBeast_4 rfl ?_
  refine zk_S1i hX dX12_needBeast_5 kcX12_isBeast mlX12_317 smX12_isBeast rfl (s_X12_isBeast' _) (Nat.le_of_ble_eq_true rfl) rfl ?_
  refine zk_if_neB (tgt := 13) hX dX12_needBeast_8 (by decide) (fun c8 => ?_) (fun c8 => ?_)
  rotate_left
  · exact absurd (zrle (n := 5) (by omega)) c8
  refine zk_aload_n hX dX12_needBeast_13 rfl ?_
  refine zk_getR hX dX12_needBeast_14 flX12_68 k_166 z_166 (hw _ _ (by decide) |>.trans r_166_37) ?_
  refine zk_iload_n hX dX12_needBeast_17 rfl ?_
  refine zk_zaldE hX dX12_needBeast_18 rfl k_186 z_186 (by first | assumption | omega) rfl ?_
  refine zk_if_ne (tgt := 28) hX dX12_needBeast_19 (by decide) (fun c19 => ?_) (fun c19 => ?_)
  · exact absurd c19 (fun q => q h)
  refine zk_aload_n hX dX12_needBeast_22 rfl ?_
  refine zk_iconst (v := 1) hX dX12_needBeast_23 (by decide) ?_
  refine zk_V1i hX dX12_needBeast_24 kcX12_meets mlX12_145 viX12_meets rfl k_166 z_166 (s_X12_meets hw _ (by decide)) (Nat.le_of_ble_eq_true rfl) rfl ?_
  refine zk_iret hX hE rfl ⟨rfl, rfl⟩ dX12_needBeast_27 ⟨_, rfl, ?_⟩
  exact ⟨rfl, rfl⟩
theorem s_X12_needBeast_s {G : zG} {w : zW} {D : zD} {p : Prop} [Decidable p] {k : Nat} (hw : zWf w) (hM : mHd w D) (hD : zDok D) (hp : p) (hk : k < 6) (h : ¬ w.1 186 k = 0) (hN : 4096 < zpr (zsp D) (dJ D)) : zEi G mX12_needBeast [.ref 166, .int (zb p), .int (nI k)] w (-6) w := by
  have hN0 := zpr_le hD (Nat.le_refl _)
  refine zC_of (lo := [_, _, _]) kcX12_needBeast (Nat.le_of_ble_eq_true rfl) rfl (fun X hX hE => ?_)
  refine zk_iload_n hX dX12_needBeast_0 rfl ?_
  refine zk_if_eqB (tgt := 11) hX dX12_needBeast_1 (by decide) (fun c1 => ?_) (fun c1 => ?_)
  · exact absurd c1 (not_not_intro hp)
  refine zk_iload_n hX dX12_needBeast_4 rfl ?_
  refine zk_S1i hX dX12_needBeast_5 kcX12_isBeast mlX12_317 smX12_isBeast rfl (s_X12_isBeast' _) (Nat.le_of_ble_eq_true rfl) rfl ?_
  refine zk_if_neB (tgt := 13) hX dX12_needBeast_8 (by decide) (fun c8 => ?_) (fun c8 => ?_)
  rotate_left
  · exact absurd (zrle (n := 5) (by omega)) c8
  refine zk_aload_n hX dX12_needBeast_13 rfl ?_
  refine zk_getR hX dX12_needBeast_14 flX12_68 k_166 z_166 (hw _ _ (by decide) |>.trans r_166_37) ?_
  refine zk_iload_n hX dX12_needBeast_17 rfl ?_
  refine zk_zaldE hX dX12_needBeast_18 rfl k_186 z_186 (by first | assumption | omega) rfl ?_
  refine zk_if_ne (tgt := 28) hX dX12_needBeast_19 (by decide) (fun c19 => ?_) (fun c19 => ?_)
  rotate_left
  · exact absurd c19 h
  refine zk_aload_n hX dX12_needBeast_28 rfl ?_
  refine zk_V0i hX dX12_needBeast_29 kcX12_turnsMany mlX12_329 viX12_turnsMany rfl k_166 z_166 (s_X12_turnsMany hw hM hD) (Nat.le_of_ble_eq_true rfl) rfl ?_
  refine zk_sipush (v := 4096) hX dX12_needBeast_32 (by decide) ?_
  refine zk_icmp_le (tgt := 43) hX dX12_needBeast_35 (by decide) (fun c35 => ?_) (fun c35 => ?_)
  · exact absurd c35 (fun q => absurd (nI_leD (y := 4096) q) (by omega))
  refine zk_bipush (v := -6) hX dX12_needBeast_38 (by decide) ?_
  refine zk_goto (tgt := 44) hX dX12_needBeast_40 (by decide) ?_
  refine zk_iret hX hE rfl ⟨rfl, rfl⟩ dX12_needBeast_44 ⟨_, rfl, ?_⟩
  exact ⟨rfl, rfl⟩
theorem s_X12_needBeast {G : zG} {w : zW} {D : zD} {p : Prop} [Decidable p] {k : Nat} (hw : zWf w) (hM : mHd w D) (hD : zDok D) (hp : p) (hk : k < 6) (h : ¬ w.1 186 k = 0) (hN : zpr (zsp D) (dJ D) ≤ 4096) : zEi G mX12_needBeast [.ref 166, .int (zb p), .int (nI k)] w 0 w := by
  refine zC_of (lo := [_, _, _]) kcX12_needBeast (Nat.le_of_ble_eq_true rfl) rfl (fun X hX hE => ?_)
  refine zk_iload_n hX dX12_needBeast_0 rfl ?_
  refine zk_if_eqB (tgt := 11) hX dX12_needBeast_1 (by decide) (fun c1 => ?_) (fun c1 => ?_)
  · exact absurd c1 (not_not_intro hp)
  refine zk_iload_n hX dX12_needBeast_4 rfl ?_
  refine zk_S1i hX dX12_needBeast_5 kcX12_isBeast mlX12_317 smX12_isBeast rfl (s_X12_isBeast' _) (Nat.le_of_ble_eq_true rfl) rfl ?_
  refine zk_if_neB (tgt := 13) hX dX12_needBeast_8 (by decide) (fun c8 => ?_) (fun c8 => ?_)
  rotate_left
  · exact absurd (zrle (n := 5) (by omega)) c8
  refine zk_aload_n hX dX12_needBeast_13 rfl ?_
  refine zk_getR hX dX12_needBeast_14 flX12_68 k_166 z_166 (hw _ _ (by decide) |>.trans r_166_37) ?_
  refine zk_iload_n hX dX12_needBeast_17 rfl ?_
  refine zk_zaldE hX dX12_needBeast_18 rfl k_186 z_186 (by first | assumption | omega) rfl ?_
  refine zk_if_ne (tgt := 28) hX dX12_needBeast_19 (by decide) (fun c19 => ?_) (fun c19 => ?_)
  rotate_left
  · exact absurd c19 h
  refine zk_aload_n hX dX12_needBeast_28 rfl ?_
  refine zk_V0i hX dX12_needBeast_29 kcX12_turnsMany mlX12_329 viX12_turnsMany rfl k_166 z_166 (s_X12_turnsMany hw hM hD) (Nat.le_of_ble_eq_true rfl) rfl ?_
  refine zk_sipush (v := 4096) hX dX12_needBeast_32 (by decide) ?_
  refine zk_icmp_le (tgt := 43) hX dX12_needBeast_35 (by decide) (fun c35 => ?_) (fun c35 => ?_)
  rotate_left
  · exact absurd (nI_le (b := 4096) hN (by decide)) c35
  refine zk_iconst (v := 0) hX dX12_needBeast_43 (by decide) ?_
  refine zk_iret hX hE rfl ⟨rfl, rfl⟩ dX12_needBeast_44 ⟨_, rfl, ?_⟩
  exact ⟨rfl, rfl⟩
theorem s_X11_nearest_bad {G : zG} {w : zW} (k r : Int32) (h : ¬ ((0 ≤ k ∧ k < 6) ∧ (0 ≤ r ∧ r < 6))) : zEi G mX11_nearest [.ref 0, .int k, .int r] w (-1) w := by
  refine zC_of (lo := [_, _, _, _, _]) kcX11_nearest (Nat.le_of_ble_eq_true rfl) rfl (fun X hX hE => ?_)
  refine zk_iload_n hX dX11_nearest_0 rfl ?_
  refine zk_S1i hX dX11_nearest_1 kcX11_isBeast mlX11_272 smX11_isBeast rfl (s_X11_isBeast _) (Nat.le_of_ble_eq_true rfl) rfl ?_
  refine zk_if_eqB (tgt := 14) hX dX11_nearest_4 (by decide) (fun c4 => ?_) (fun c4 => ?_)
  · refine zk_iconst (v := -1) hX dX11_nearest_14 (by decide) ?_
    refine zk_iret hX hE rfl ⟨rfl, rfl⟩ dX11_nearest_15 ⟨_, rfl, ?_⟩
    exact ⟨rfl, rfl⟩
  · refine zk_iload_n hX dX11_nearest_7 rfl ?_
    refine zk_S1i hX dX11_nearest_8 kcX11_isRow mlX11_107 smX11_isRow rfl (s_X11_isRow _) (Nat.le_of_ble_eq_true rfl) rfl ?_
    refine zk_if_neB (tgt := 16) hX dX11_nearest_11 (by decide) (fun c11 => ?_) (fun c11 => ?_)
    · exact absurd c11 (fun q => h ⟨by first | exact c4 | exact Decidable.not_not.mp c4, q⟩)
    refine zk_iconst (v := -1) hX dX11_nearest_14 (by decide) ?_
    refine zk_iret hX hE rfl ⟨rfl, rfl⟩ dX11_nearest_15 ⟨_, rfl, ?_⟩
    exact ⟨rfl, rfl⟩
theorem s_X11_nearest_m {G : zG} {w : zW} {k r : Nat} (hw : zWf w) (hk : k < 6) (hr : r < 6) (h : w.1 (96 + 3 * k) 3 = 0) : zEi G mX11_nearest [.ref 0, .int (nI k), .int (nI r)] w (-3) (zfind w 1) := by
  refine zC_of (lo := [_, _, _, _, _]) kcX11_nearest (Nat.le_of_ble_eq_true rfl) rfl (fun X hX hE => ?_)
  refine zk_iload_n hX dX11_nearest_0 rfl ?_
  refine zk_S1i hX dX11_nearest_1 kcX11_isBeast mlX11_272 smX11_isBeast rfl (s_X11_isBeast _) (Nat.le_of_ble_eq_true rfl) rfl ?_
  refine zk_if_eqB (tgt := 14) hX dX11_nearest_4 (by decide) (fun c4 => ?_) (fun c4 => ?_)
  · exact absurd c4 (not_not_intro (zrlt hk))
  refine zk_iload_n hX dX11_nearest_7 rfl ?_
  refine zk_S1i hX dX11_nearest_8 kcX11_isRow mlX11_107 smX11_isRow rfl (s_X11_isRow _) (Nat.le_of_ble_eq_true rfl) rfl ?_
  refine zk_if_neB (tgt := 16) hX dX11_nearest_11 (by decide) (fun c11 => ?_) (fun c11 => ?_)
  rotate_left
  · exact absurd (zrlt hr) c11
  refine zk_aload_n hX dX11_nearest_16 rfl ?_
  refine zk_getR hX dX11_nearest_17 flX11_68 k_0 z_0 (hw _ _ (by decide) |>.trans r_0_11) ?_
  refine zk_iload_n hX dX11_nearest_20 rfl ?_
  refine zk_beasts hX hw dX11_nearest_21 rfl (by first | assumption | omega) ?_
  refine zk_getI hX dX11_nearest_22 flX11_284 (zBek (by first | assumption | omega)) (zBez _ (by first | assumption | omega)).1 ?_
  refine zk_if_ne (tgt := 37) hX dX11_nearest_25 (by decide) (fun c25 => ?_) (fun c25 => ?_)
  · exact absurd c25 (fun q => q h)
  refine zk_aload_n hX dX11_nearest_28 rfl ?_
  refine zk_getR hX dX11_nearest_29 flX11_12 k_0 z_0 (hw _ _ (by decide) |>.trans r_0_0) ?_
  refine zk_iconst (v := 1) hX dX11_nearest_32 (by decide) ?_
  refine zk_V1i hX dX11_nearest_33 kcX9_find mlX11_111 viX9_find rfl k_1 z_1 (s_X9_find hw _ (by decide)) (Nat.le_of_ble_eq_true rfl) rfl ?_
  refine zk_iret hX hE rfl ⟨rfl, rfl⟩ dX11_nearest_36 ⟨_, rfl, ?_⟩
  exact ⟨rfl, rfl⟩
theorem s_X11_nearest_s {G : zG} {w : zW} {k r : Nat} (hw : zWf w) (hk : k < 6) (hr : r < 6) (h : ¬ w.1 (96 + 3 * k) 3 = 0) (hs : w.1 131 0 = 1) : zEi G mX11_nearest [.ref 0, .int (nI k), .int (nI r)] w (-6) w := by
  refine zC_of (lo := [_, _, _, _, _]) kcX11_nearest (Nat.le_of_ble_eq_true rfl) rfl (fun X hX hE => ?_)
  refine zk_iload_n hX dX11_nearest_0 rfl ?_
  refine zk_S1i hX dX11_nearest_1 kcX11_isBeast mlX11_272 smX11_isBeast rfl (s_X11_isBeast _) (Nat.le_of_ble_eq_true rfl) rfl ?_
  refine zk_if_eqB (tgt := 14) hX dX11_nearest_4 (by decide) (fun c4 => ?_) (fun c4 => ?_)
  · exact absurd c4 (not_not_intro (zrlt hk))
  refine zk_iload_n hX dX11_nearest_7 rfl ?_
  refine zk_S1i hX dX11_nearest_8 kcX11_isRow mlX11_107 smX11_isRow rfl (s_X11_isRow _) (Nat.le_of_ble_eq_true rfl) rfl ?_
  refine zk_if_neB (tgt := 16) hX dX11_nearest_11 (by decide) (fun c11 => ?_) (fun c11 => ?_)
  rotate_left
  · exact absurd (zrlt hr) c11
  refine zk_aload_n hX dX11_nearest_16 rfl ?_
  refine zk_getR hX dX11_nearest_17 flX11_68 k_0 z_0 (hw _ _ (by decide) |>.trans r_0_11) ?_
  refine zk_iload_n hX dX11_nearest_20 rfl ?_
  refine zk_beasts hX hw dX11_nearest_21 rfl (by first | assumption | omega) ?_
  refine zk_getI hX dX11_nearest_22 flX11_284 (zBek (by first | assumption | omega)) (zBez _ (by first | assumption | omega)).1 ?_
  refine zk_if_ne (tgt := 37) hX dX11_nearest_25 (by decide) (fun c25 => ?_) (fun c25 => ?_)
  rotate_left
  · exact absurd c25 h
  refine zk_aload_n hX dX11_nearest_37 rfl ?_
  refine zk_getR hX dX11_nearest_38 flX11_83 k_0 z_0 (hw _ _ (by decide) |>.trans r_0_13) ?_
  refine zk_getI hX dX11_nearest_41 flX11_302 k_131 z_131 ?_
  rw [hs]
  refine zk_if_eq (tgt := 50) hX dX11_nearest_44 (by decide) (fun c44 => ?_) (fun c44 => ?_)
  · exact absurd c44 (by decide)
  refine zk_bipush (v := -6) hX dX11_nearest_47 (by decide) ?_
  refine zk_iret hX hE rfl ⟨rfl, rfl⟩ dX11_nearest_49 ⟨_, rfl, ?_⟩
  exact ⟨rfl, rfl⟩
