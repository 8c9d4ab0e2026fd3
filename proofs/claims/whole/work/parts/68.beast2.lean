/-! a beast is told -/
theorem zBeM {k : Nat} (hk : k < 6) : zCe (97 + 3 * k) := ⟨by show 97 + 3 * k < 202; omega, (zBez k hk).2.1⟩
theorem zBeY {k : Nat} (hk : k < 6) : zCe (98 + 3 * k) := ⟨by show 98 + 3 * k < 202; omega, (zBez k hk).2.2.1⟩
theorem s_X11_beast_bad {G : zG} {w : zW} (k r t m : Int32) (h : ¬ ((0 ≤ k ∧ k < 6) ∧ (0 ≤ r ∧ r < 6) ∧ (0 ≤ t ∧ t < 6) ∧ (0 ≤ m ∧ m ≤ 1))) : zEi G mX11_beast [.ref 0, .int k, .int r, .int t, .int m] w (-1) w := by
  refine zC_of (lo := [_, _, _, _, _, _]) kcX11_beast (Nat.le_of_ble_eq_true rfl) rfl (fun X hX hE => ?_)
  refine zk_iload_n hX dX11_beast_0 rfl ?_
  refine zk_S1i hX dX11_beast_1 kcX11_isBeast mlX11_272 smX11_isBeast rfl (s_X11_isBeast _) (Nat.le_of_ble_eq_true rfl) rfl ?_
  refine zk_if_eqB (tgt := 32) hX dX11_beast_4 (by decide) (fun c4 => ?_) (fun c4 => ?_)
  · refine zk_iconst (v := -1) hX dX11_beast_32 (by decide) ?_
    refine zk_iret hX hE rfl ⟨rfl, rfl⟩ dX11_beast_33 ⟨_, rfl, ?_⟩
    exact ⟨rfl, rfl⟩
  · refine zk_iload_n hX dX11_beast_7 rfl ?_
    refine zk_S1i hX dX11_beast_8 kcX11_isRow mlX11_107 smX11_isRow rfl (s_X11_isRow _) (Nat.le_of_ble_eq_true rfl) rfl ?_
    refine zk_if_eqB (tgt := 32) hX dX11_beast_11 (by decide) (fun c11 => ?_) (fun c11 => ?_)
    · refine zk_iconst (v := -1) hX dX11_beast_32 (by decide) ?_
      refine zk_iret hX hE rfl ⟨rfl, rfl⟩ dX11_beast_33 ⟨_, rfl, ?_⟩
      exact ⟨rfl, rfl⟩
    · refine zk_iload_n hX dX11_beast_14 rfl ?_
      refine zk_S1i hX dX11_beast_15 kcX11_isRow mlX11_107 smX11_isRow rfl (s_X11_isRow _) (Nat.le_of_ble_eq_true rfl) rfl ?_
      refine zk_if_eqB (tgt := 32) hX dX11_beast_18 (by decide) (fun c18 => ?_) (fun c18 => ?_)
      · refine zk_iconst (v := -1) hX dX11_beast_32 (by decide) ?_
        refine zk_iret hX hE rfl ⟨rfl, rfl⟩ dX11_beast_33 ⟨_, rfl, ?_⟩
        exact ⟨rfl, rfl⟩
      · refine zk_iload hX dX11_beast_21 rfl ?_
        refine zk_if_lt (tgt := 32) hX dX11_beast_23 (by decide) (fun c23 => ?_) (fun c23 => ?_)
        · refine zk_iconst (v := -1) hX dX11_beast_32 (by decide) ?_
          refine zk_iret hX hE rfl ⟨rfl, rfl⟩ dX11_beast_33 ⟨_, rfl, ?_⟩
          exact ⟨rfl, rfl⟩
        · refine zk_iload hX dX11_beast_26 rfl ?_
          refine zk_iconst (v := 1) hX dX11_beast_28 (by decide) ?_
          refine zk_icmp_le (tgt := 34) hX dX11_beast_29 (by decide) (fun c29 => ?_) (fun c29 => ?_)
          · exact absurd c29 (fun q => h ⟨by first | exact c4 | exact Decidable.not_not.mp c4, by first | exact c11 | exact Decidable.not_not.mp c11, by first | exact c18 | exact Decidable.not_not.mp c18, by grind⟩)
          refine zk_iconst (v := -1) hX dX11_beast_32 (by decide) ?_
          refine zk_iret hX hE rfl ⟨rfl, rfl⟩ dX11_beast_33 ⟨_, rfl, ?_⟩
          exact ⟨rfl, rfl⟩
theorem s_X11_beast_f {G : zG} {w : zW} {k r t q : Nat} {m : Int32} (hw : zWf w) (hk : k < 6) (hr : r < 6) (ht : t < 6) (hm : 0 ≤ m ∧ m ≤ 1) (h5 : 1 ≤ q ∧ q ≤ 5) (hf : c_shf w r t = nI q) : zEi G mX11_beast [.ref 0, .int (nI k), .int (nI r), .int (nI t), .int m] w (-3) (zfind w q) := by
  refine zC_of (lo := [_, _, _, _, _, _]) kcX11_beast (Nat.le_of_ble_eq_true rfl) rfl (fun X hX hE => ?_)
  refine zk_iload_n hX dX11_beast_0 rfl ?_
  refine zk_S1i hX dX11_beast_1 kcX11_isBeast mlX11_272 smX11_isBeast rfl (s_X11_isBeast _) (Nat.le_of_ble_eq_true rfl) rfl ?_
  refine zk_if_eqB (tgt := 32) hX dX11_beast_4 (by decide) (fun c4 => ?_) (fun c4 => ?_)
  · exact absurd c4 (not_not_intro (zrlt hk))
  refine zk_iload_n hX dX11_beast_7 rfl ?_
  refine zk_S1i hX dX11_beast_8 kcX11_isRow mlX11_107 smX11_isRow rfl (s_X11_isRow _) (Nat.le_of_ble_eq_true rfl) rfl ?_
  refine zk_if_eqB (tgt := 32) hX dX11_beast_11 (by decide) (fun c11 => ?_) (fun c11 => ?_)
  · exact absurd c11 (not_not_intro (zrlt hr))
  refine zk_iload_n hX dX11_beast_14 rfl ?_
  refine zk_S1i hX dX11_beast_15 kcX11_isRow mlX11_107 smX11_isRow rfl (s_X11_isRow _) (Nat.le_of_ble_eq_true rfl) rfl ?_
  refine zk_if_eqB (tgt := 32) hX dX11_beast_18 (by decide) (fun c18 => ?_) (fun c18 => ?_)
  · exact absurd c18 (not_not_intro (zrlt ht))
  refine zk_iload hX dX11_beast_21 rfl ?_
  refine zk_if_lt (tgt := 32) hX dX11_beast_23 (by decide) (fun c23 => ?_) (fun c23 => ?_)
  · exact absurd c23 (Int32.not_lt.mpr hm.1)
  refine zk_iload hX dX11_beast_26 rfl ?_
  refine zk_iconst (v := 1) hX dX11_beast_28 (by decide) ?_
  refine zk_icmp_le (tgt := 34) hX dX11_beast_29 (by decide) (fun c29 => ?_) (fun c29 => ?_)
  rotate_left
  · exact absurd hm.2 c29
  refine zk_aload_n hX dX11_beast_34 rfl ?_
  refine zk_getR hX dX11_beast_35 flX11_18 k_0 z_0 (hw _ _ (by decide) |>.trans r_0_1) ?_
  refine zk_iload_n hX dX11_beast_38 rfl ?_
  refine zk_rows hX hw dX11_beast_39 rfl (by first | assumption | omega) ?_
  refine zk_aload_n hX dX11_beast_40 rfl ?_
  refine zk_getR hX dX11_beast_41 flX11_18 k_0 z_0 (hw _ _ (by decide) |>.trans r_0_1) ?_
  refine zk_iload_n hX dX11_beast_44 rfl ?_
  refine zk_rows hX hw dX11_beast_45 rfl (by first | assumption | omega) ?_
  refine zk_S2i hX dX11_beast_46 kcX11_shadowFinding mlX11_233 smX11_shadowFinding rfl (s_X11_shadowFinding hw hr ht) (Nat.le_of_ble_eq_true rfl) rfl ?_
  rw [hf]
  refine zk_istore (lo' := [_, _, _, _, _, _]) hX dX11_beast_49 (Nat.le_of_ble_eq_true rfl) rfl rfl ?_
  refine zk_iload hX dX11_beast_51 rfl ?_
  refine zk_if_eq (tgt := 66) hX dX11_beast_53 (by decide) (fun c53 => ?_) (fun c53 => ?_)
  · exact absurd (nI_inj (a := q) (b := 0) (by omega) (by decide) c53) (by omega)
  refine zk_aload_n hX dX11_beast_56 rfl ?_
  refine zk_getR hX dX11_beast_57 flX11_12 k_0 z_0 (hw _ _ (by decide) |>.trans r_0_0) ?_
  refine zk_iload hX dX11_beast_60 rfl ?_
  refine zk_V1i hX dX11_beast_62 kcX9_find mlX11_111 viX9_find rfl k_1 z_1 (s_X9_find hw q h5) (Nat.le_of_ble_eq_true rfl) rfl ?_
  refine zk_iret hX hE rfl ⟨rfl, rfl⟩ dX11_beast_65 ⟨_, rfl, ?_⟩
  exact ⟨rfl, rfl⟩
theorem s_X11_beast {G : zG} {w : zW} {k r t : Nat} {m : Int32} {f g : Nat → Nat} (hw : zWf w) (hk : k < 6) (hr : r < 6) (ht : t < 6) (hm : 0 ≤ m ∧ m ≤ 1) (h0 : c_shf w r t = 0) (hr0 : w.1 (4 + 2 * r) 0 = nI 10) (ht0 : w.1 (4 + 2 * t) 0 = nI 10) (hf : ∀ y, y < 10 → w.1 (5 + 2 * r) y = nI (f y)) (hg : ∀ y, y < 10 → w.1 (5 + 2 * t) y = nI (g y)) :
    zEi G mX11_beast [.ref 0, .int (nI k), .int (nI r), .int (nI t), .int m] w (nI (zcard (zofL f))) (zsi (zsi (zsetS (zsetS w (97 + 3 * k) (zofL f)) (98 + 3 * k) (zofL g)) (96 + 3 * k) 2 m) (96 + 3 * k) 3 1) := by
  have hw1 : zWf (zsetS w (97 + 3 * k) (zofL f)) := zWf_of hw rfl
  have hw2 : zWf (zsetS (zsetS w (97 + 3 * k) (zofL f)) (98 + 3 * k) (zofL g)) := zWf_of hw rfl
  refine zC_of (lo := [_, _, _, _, _, _]) kcX11_beast (Nat.le_of_ble_eq_true rfl) rfl (fun X hX hE => ?_)
  refine zk_iload_n hX dX11_beast_0 rfl ?_
  refine zk_S1i hX dX11_beast_1 kcX11_isBeast mlX11_272 smX11_isBeast rfl (s_X11_isBeast _) (Nat.le_of_ble_eq_true rfl) rfl ?_
  refine zk_if_eqB (tgt := 32) hX dX11_beast_4 (by decide) (fun c4 => ?_) (fun c4 => ?_)
  · exact absurd c4 (not_not_intro (zrlt hk))
  refine zk_iload_n hX dX11_beast_7 rfl ?_
  refine zk_S1i hX dX11_beast_8 kcX11_isRow mlX11_107 smX11_isRow rfl (s_X11_isRow _) (Nat.le_of_ble_eq_true rfl) rfl ?_
  refine zk_if_eqB (tgt := 32) hX dX11_beast_11 (by decide) (fun c11 => ?_) (fun c11 => ?_)
  · exact absurd c11 (not_not_intro (zrlt hr))
  refine zk_iload_n hX dX11_beast_14 rfl ?_
  refine zk_S1i hX dX11_beast_15 kcX11_isRow mlX11_107 smX11_isRow rfl (s_X11_isRow _) (Nat.le_of_ble_eq_true rfl) rfl ?_
  refine zk_if_eqB (tgt := 32) hX dX11_beast_18 (by decide) (fun c18 => ?_) (fun c18 => ?_)
  · exact absurd c18 (not_not_intro (zrlt ht))
  refine zk_iload hX dX11_beast_21 rfl ?_
  refine zk_if_lt (tgt := 32) hX dX11_beast_23 (by decide) (fun c23 => ?_) (fun c23 => ?_)
  · exact absurd c23 (Int32.not_lt.mpr hm.1)
  refine zk_iload hX dX11_beast_26 rfl ?_
  refine zk_iconst (v := 1) hX dX11_beast_28 (by decide) ?_
  refine zk_icmp_le (tgt := 34) hX dX11_beast_29 (by decide) (fun c29 => ?_) (fun c29 => ?_)
  rotate_left
  · exact absurd hm.2 c29
  refine zk_aload_n hX dX11_beast_34 rfl ?_
  refine zk_getR hX dX11_beast_35 flX11_18 k_0 z_0 (hw _ _ (by decide) |>.trans r_0_1) ?_
  refine zk_iload_n hX dX11_beast_38 rfl ?_
  refine zk_rows hX hw dX11_beast_39 rfl (by first | assumption | omega) ?_
  refine zk_aload_n hX dX11_beast_40 rfl ?_
  refine zk_getR hX dX11_beast_41 flX11_18 k_0 z_0 (hw _ _ (by decide) |>.trans r_0_1) ?_
  refine zk_iload_n hX dX11_beast_44 rfl ?_
  refine zk_rows hX hw dX11_beast_45 rfl (by first | assumption | omega) ?_
  refine zk_S2i hX dX11_beast_46 kcX11_shadowFinding mlX11_233 smX11_shadowFinding rfl (s_X11_shadowFinding hw hr ht) (Nat.le_of_ble_eq_true rfl) rfl ?_
  rw [h0]
  refine zk_istore (lo' := [_, _, _, _, _, _]) hX dX11_beast_49 (Nat.le_of_ble_eq_true rfl) rfl rfl ?_
  refine zk_iload hX dX11_beast_51 rfl ?_
  refine zk_if_eq (tgt := 66) hX dX11_beast_53 (by decide) (fun c53 => ?_) (fun c53 => ?_)
  rotate_left
  · exact absurd rfl c53
  refine zk_aload_n hX dX11_beast_66 rfl ?_
  refine zk_getR hX dX11_beast_67 flX11_18 k_0 z_0 (hw _ _ (by decide) |>.trans r_0_1) ?_
  refine zk_iload_n hX dX11_beast_70 rfl ?_
  refine zk_rows hX hw dX11_beast_71 rfl (by first | assumption | omega) ?_
  refine zk_aload_n hX dX11_beast_72 rfl ?_
  refine zk_getR hX dX11_beast_73 flX11_68 k_0 z_0 (hw _ _ (by decide) |>.trans r_0_11) ?_
  refine zk_iload_n hX dX11_beast_76 rfl ?_
  refine zk_beasts hX hw dX11_beast_77 rfl (by first | assumption | omega) ?_
  refine zk_getR hX dX11_beast_78 flX11_275 (zBek (by first | assumption | omega)) (zBez _ (by first | assumption | omega)).1 ((hw _ _ (by omega)).trans (zBez _ (by first | assumption | omega)).2.2.2.1) ?_
  refine zk_V1v hX dX11_beast_81 kcX8_showTo mlX11_240 viX8_showTo rfl (zRwR0 (by first | assumption | omega)) (zRw_r _ (by first | assumption | omega)).2.1 (s_X8_showTo hw (zRwR hr) (zBeM hk) hr0 (fun y hy => by rw [show 4 + 2 * r + 1 = 5 + 2 * r by omega]; exact hf y hy)) (Nat.le_of_ble_eq_true rfl) rfl ?_
  refine zk_aload_n hX dX11_beast_84 rfl ?_
  refine zk_getR hX dX11_beast_85 flX11_18 k_0 z_0 (hw1 _ _ (by decide) |>.trans r_0_1) ?_
  refine zk_iload_n hX dX11_beast_88 rfl ?_
  refine zk_rows hX hw1 dX11_beast_89 rfl (by first | assumption | omega) ?_
  refine zk_aload_n hX dX11_beast_90 rfl ?_
  refine zk_getR hX dX11_beast_91 flX11_68 k_0 z_0 (hw1 _ _ (by decide) |>.trans r_0_11) ?_
  refine zk_iload_n hX dX11_beast_94 rfl ?_
  refine zk_beasts hX hw1 dX11_beast_95 rfl (by first | assumption | omega) ?_
  refine zk_getR hX dX11_beast_96 flX11_278 (zBek (by first | assumption | omega)) (zBez _ (by first | assumption | omega)).1 ((hw1 _ _ (by omega)).trans (zBez _ (by first | assumption | omega)).2.2.2.2) ?_
  refine zk_V1v hX dX11_beast_99 kcX8_showTo mlX11_240 viX8_showTo rfl (zRwR0 (by first | assumption | omega)) (zRw_r _ (by first | assumption | omega)).2.1 (s_X8_showTo hw1 (zRwR ht) (zBeY hk) ht0 (fun y hy => by rw [show 4 + 2 * t + 1 = 5 + 2 * t by omega]; exact hg y hy)) (Nat.le_of_ble_eq_true rfl) rfl ?_
  refine zk_aload_n hX dX11_beast_102 rfl ?_
  refine zk_getR hX dX11_beast_103 flX11_68 k_0 z_0 (hw2 _ _ (by decide) |>.trans r_0_11) ?_
  refine zk_iload_n hX dX11_beast_106 rfl ?_
  refine zk_beasts hX hw2 dX11_beast_107 rfl (by first | assumption | omega) ?_
  refine zk_iload hX dX11_beast_108 rfl ?_
  refine zk_putI hX dX11_beast_110 plX11_281 (fun h => by cases h) (zBek (by first | assumption | omega)) (zBez _ (by first | assumption | omega)).1 rfl rfl ?_
  refine zk_aload_n hX dX11_beast_113 rfl ?_
  refine zk_getR hX dX11_beast_114 flX11_68 k_0 z_0 ((zWf_i hw2) _ _ (by decide) |>.trans r_0_11) ?_
  refine zk_iload_n hX dX11_beast_117 rfl ?_
  refine zk_beasts hX (zWf_i hw2) dX11_beast_118 rfl (by first | assumption | omega) ?_
  refine zk_iconst (v := 1) hX dX11_beast_119 (by decide) ?_
  refine zk_putI hX dX11_beast_120 plX11_284 (fun h => by cases h) (zBek (by first | assumption | omega)) (zBez _ (by first | assumption | omega)).1 rfl rfl ?_
  refine zk_aload_n hX dX11_beast_123 rfl ?_
  refine zk_getR hX dX11_beast_124 flX11_68 k_0 z_0 ((zWf_i (zWf_i hw2)) _ _ (by decide) |>.trans r_0_11) ?_
  refine zk_iload_n hX dX11_beast_127 rfl ?_
  refine zk_beasts hX (zWf_i (zWf_i hw2)) dX11_beast_128 rfl (by first | assumption | omega) ?_
  refine zk_getR hX dX11_beast_129 flX11_275 (zBek (by first | assumption | omega)) (zBez _ (by first | assumption | omega)).1 (((zWf_i (zWf_i hw2)) _ _ (by omega)).trans (zBez _ (by first | assumption | omega)).2.2.2.1) ?_
  refine zk_V0i hX dX11_beast_132 kcX1_number mlX11_247 viX1_number rfl (show 97 + 3 * _ < 202 by omega) (zBez _ (by first | assumption | omega)).2.1 (s_X1_number (zBeM hk) (zHas_o (zsetS_has (w := w)) (zsetS_2 (by omega)))) (Nat.le_of_ble_eq_true rfl) rfl ?_
  refine zk_iret hX hE rfl ⟨rfl, rfl⟩ dX11_beast_135 ⟨_, rfl, ?_⟩
  exact ⟨rfl, rfl⟩
abbrev zLkK (w : zW) (r t i : Nat) : Prop := ∀ y, y < i → (0 ≤ w.1 169 (40 * r + y) ∧ w.1 169 (40 * r + y) ≤ 4095) ∧ (0 ≤ w.1 169 (40 * t + y) ∧ w.1 169 (40 * t + y) ≤ 4095)
theorem s_X12_beast_bad {G : zG} {w : zW} (k r t m : Int32) (h : ¬ ((0 ≤ k ∧ k < 6) ∧ (0 ≤ r ∧ r < 6) ∧ (0 ≤ t ∧ t < 6) ∧ (0 ≤ m ∧ m ≤ 1))) : zEi G mX12_beast [.ref 166, .int k, .int r, .int t, .int m] w (-1) w := by
  refine zC_of (lo := [_, _, _, _, _, _, _, _]) kcX12_beast (Nat.le_of_ble_eq_true rfl) rfl (fun X hX hE => ?_)
  refine zk_iload_n hX dX12_beast_0 rfl ?_
  refine zk_S1i hX dX12_beast_1 kcX12_isBeast mlX12_317 smX12_isBeast rfl (s_X12_isBeast' _) (Nat.le_of_ble_eq_true rfl) rfl ?_
  refine zk_if_eqB (tgt := 31) hX dX12_beast_4 (by decide) (fun c4 => ?_) (fun c4 => ?_)
  · refine zk_iconst (v := -1) hX dX12_beast_31 (by decide) ?_
    refine zk_iret hX hE rfl ⟨rfl, rfl⟩ dX12_beast_32 ⟨_, rfl, ?_⟩
    exact ⟨rfl, rfl⟩
  · refine zk_iload_n hX dX12_beast_7 rfl ?_
    refine zk_S1i hX dX12_beast_8 kcX12_isRow mlX12_141 smX12_isRow rfl (s_X12_isRow _) (Nat.le_of_ble_eq_true rfl) rfl ?_
    refine zk_if_eqB (tgt := 31) hX dX12_beast_11 (by decide) (fun c11 => ?_) (fun c11 => ?_)
    · refine zk_iconst (v := -1) hX dX12_beast_31 (by decide) ?_
      refine zk_iret hX hE rfl ⟨rfl, rfl⟩ dX12_beast_32 ⟨_, rfl, ?_⟩
      exact ⟨rfl, rfl⟩
    · refine zk_iload_n hX dX12_beast_14 rfl ?_
      refine zk_S1i hX dX12_beast_15 kcX12_isRow mlX12_141 smX12_isRow rfl (s_X12_isRow _) (Nat.le_of_ble_eq_true rfl) rfl ?_
      refine zk_if_eqB (tgt := 31) hX dX12_beast_18 (by decide) (fun c18 => ?_) (fun c18 => ?_)
      · refine zk_iconst (v := -1) hX dX12_beast_31 (by decide) ?_
        refine zk_iret hX hE rfl ⟨rfl, rfl⟩ dX12_beast_32 ⟨_, rfl, ?_⟩
        exact ⟨rfl, rfl⟩
      · refine zk_iload hX dX12_beast_21 rfl ?_
        refine zk_iconst (v := 0) hX dX12_beast_23 (by decide) ?_
        refine zk_iconst (v := 1) hX dX12_beast_24 (by decide) ?_
        refine zk_S3i hX dX12_beast_25 kcX12_in mlX12_131 smX12_in rfl (s_X12_in _ _ _) (Nat.le_of_ble_eq_true rfl) rfl ?_
        refine zk_if_neB (tgt := 33) hX dX12_beast_28 (by decide) (fun c28 => ?_) (fun c28 => ?_)
        · exact absurd c28 (fun q => h ⟨by grind, by grind, by grind, q⟩)
        refine zk_iconst (v := -1) hX dX12_beast_31 (by decide) ?_
        refine zk_iret hX hE rfl ⟨rfl, rfl⟩ dX12_beast_32 ⟨_, rfl, ?_⟩
        exact ⟨rfl, rfl⟩
theorem s_X12_beast_m {G : zG} {w : zW} {k r t : Nat} {m : Int32} (hw : zWf w) (hk : k < 6) (hr : r < 6) (ht : t < 6) (hm : 0 ≤ m ∧ m ≤ 1) (h : ¬ (0 ≤ w.1 168 r ∧ 0 ≤ w.1 168 t)) : zEi G mX12_beast [.ref 166, .int (nI k), .int (nI r), .int (nI t), .int m] w (-3) (mfind w 1) := by
  refine zC_of (lo := [_, _, _, _, _, _, _, _]) kcX12_beast (Nat.le_of_ble_eq_true rfl) rfl (fun X hX hE => ?_)
  refine zk_iload_n hX dX12_beast_0 rfl ?_
  refine zk_S1i hX dX12_beast_1 kcX12_isBeast mlX12_317 smX12_isBeast rfl (s_X12_isBeast' _) (Nat.le_of_ble_eq_true rfl) rfl ?_
  refine zk_if_eqB (tgt := 31) hX dX12_beast_4 (by decide) (fun c4 => ?_) (fun c4 => ?_)
  · exact absurd c4 (not_not_intro (zrle (n := 5) (by omega)))
  refine zk_iload_n hX dX12_beast_7 rfl ?_
  refine zk_S1i hX dX12_beast_8 kcX12_isRow mlX12_141 smX12_isRow rfl (s_X12_isRow _) (Nat.le_of_ble_eq_true rfl) rfl ?_
  refine zk_if_eqB (tgt := 31) hX dX12_beast_11 (by decide) (fun c11 => ?_) (fun c11 => ?_)
  · exact absurd c11 (not_not_intro (zrle (n := 5) (by omega)))
  refine zk_iload_n hX dX12_beast_14 rfl ?_
  refine zk_S1i hX dX12_beast_15 kcX12_isRow mlX12_141 smX12_isRow rfl (s_X12_isRow _) (Nat.le_of_ble_eq_true rfl) rfl ?_
  refine zk_if_eqB (tgt := 31) hX dX12_beast_18 (by decide) (fun c18 => ?_) (fun c18 => ?_)
  · exact absurd c18 (not_not_intro (zrle (n := 5) (by omega)))
  refine zk_iload hX dX12_beast_21 rfl ?_
  refine zk_iconst (v := 0) hX dX12_beast_23 (by decide) ?_
  refine zk_iconst (v := 1) hX dX12_beast_24 (by decide) ?_
  refine zk_S3i hX dX12_beast_25 kcX12_in mlX12_131 smX12_in rfl (s_X12_in _ _ _) (Nat.le_of_ble_eq_true rfl) rfl ?_
  refine zk_if_neB (tgt := 33) hX dX12_beast_28 (by decide) (fun c28 => ?_) (fun c28 => ?_)
  rotate_left
  · exact absurd hm c28
  refine zk_aload_n hX dX12_beast_33 rfl ?_
  refine zk_getR hX dX12_beast_34 flX12_13 k_166 z_166 (hw _ _ (by decide) |>.trans r_166_5) ?_
  refine zk_iload_n hX dX12_beast_37 rfl ?_
  refine zk_ialdE hX dX12_beast_38 rfl k_168 z_168 (by first | assumption | omega) rfl ?_
  refine zk_if_lt (tgt := 51) hX dX12_beast_39 (by decide) (fun c39 => ?_) (fun c39 => ?_)
  · refine zk_aload_n hX dX12_beast_51 rfl ?_
    refine zk_iconst (v := 1) hX dX12_beast_52 (by decide) ?_
    refine zk_V1i hX dX12_beast_53 kcX12_meets mlX12_145 viX12_meets rfl k_166 z_166 (s_X12_meets hw _ (by decide)) (Nat.le_of_ble_eq_true rfl) rfl ?_
    refine zk_iret hX hE rfl ⟨rfl, rfl⟩ dX12_beast_56 ⟨_, rfl, ?_⟩
    exact ⟨rfl, rfl⟩
  · refine zk_aload_n hX dX12_beast_42 rfl ?_
    refine zk_getR hX dX12_beast_43 flX12_13 k_166 z_166 (hw _ _ (by decide) |>.trans r_166_5) ?_
    refine zk_iload_n hX dX12_beast_46 rfl ?_
    refine zk_ialdE hX dX12_beast_47 rfl k_168 z_168 (by first | assumption | omega) rfl ?_
    refine zk_if_ge (tgt := 57) hX dX12_beast_48 (by decide) (fun c48 => ?_) (fun c48 => ?_)
    · exact absurd c48 (fun q => h ⟨Int32.not_lt.mp c39, q⟩)
    refine zk_aload_n hX dX12_beast_51 rfl ?_
    refine zk_iconst (v := 1) hX dX12_beast_52 (by decide) ?_
    refine zk_V1i hX dX12_beast_53 kcX12_meets mlX12_145 viX12_meets rfl k_166 z_166 (s_X12_meets hw _ (by decide)) (Nat.le_of_ble_eq_true rfl) rfl ?_
    refine zk_iret hX hE rfl ⟨rfl, rfl⟩ dX12_beast_56 ⟨_, rfl, ?_⟩
    exact ⟨rfl, rfl⟩
theorem s_X12_beast_s {G : zG} {w : zW} {k r t : Nat} {m : Int32} (hw : zWf w) (hk : k < 6) (hr : r < 6) (ht : t < 6) (hm : 0 ≤ m ∧ m ≤ 1) (h : 0 ≤ w.1 168 r ∧ 0 ≤ w.1 168 t) (h10 : ¬ (w.1 168 r = 10 ∧ w.1 168 t = 10)) : zEi G mX12_beast [.ref 166, .int (nI k), .int (nI r), .int (nI t), .int m] w (-3) (mfind w 5) := by
  refine zC_of (lo := [_, _, _, _, _, _, _, _]) kcX12_beast (Nat.le_of_ble_eq_true rfl) rfl (fun X hX hE => ?_)
  refine zk_iload_n hX dX12_beast_0 rfl ?_
  refine zk_S1i hX dX12_beast_1 kcX12_isBeast mlX12_317 smX12_isBeast rfl (s_X12_isBeast' _) (Nat.le_of_ble_eq_true rfl) rfl ?_
  refine zk_if_eqB (tgt := 31) hX dX12_beast_4 (by decide) (fun c4 => ?_) (fun c4 => ?_)
  · exact absurd c4 (not_not_intro (zrle (n := 5) (by omega)))
  refine zk_iload_n hX dX12_beast_7 rfl ?_
  refine zk_S1i hX dX12_beast_8 kcX12_isRow mlX12_141 smX12_isRow rfl (s_X12_isRow _) (Nat.le_of_ble_eq_true rfl) rfl ?_
  refine zk_if_eqB (tgt := 31) hX dX12_beast_11 (by decide) (fun c11 => ?_) (fun c11 => ?_)
  · exact absurd c11 (not_not_intro (zrle (n := 5) (by omega)))
  refine zk_iload_n hX dX12_beast_14 rfl ?_
  refine zk_S1i hX dX12_beast_15 kcX12_isRow mlX12_141 smX12_isRow rfl (s_X12_isRow _) (Nat.le_of_ble_eq_true rfl) rfl ?_
  refine zk_if_eqB (tgt := 31) hX dX12_beast_18 (by decide) (fun c18 => ?_) (fun c18 => ?_)
  · exact absurd c18 (not_not_intro (zrle (n := 5) (by omega)))
  refine zk_iload hX dX12_beast_21 rfl ?_
  refine zk_iconst (v := 0) hX dX12_beast_23 (by decide) ?_
  refine zk_iconst (v := 1) hX dX12_beast_24 (by decide) ?_
  refine zk_S3i hX dX12_beast_25 kcX12_in mlX12_131 smX12_in rfl (s_X12_in _ _ _) (Nat.le_of_ble_eq_true rfl) rfl ?_
  refine zk_if_neB (tgt := 33) hX dX12_beast_28 (by decide) (fun c28 => ?_) (fun c28 => ?_)
  rotate_left
  · exact absurd hm c28
  refine zk_aload_n hX dX12_beast_33 rfl ?_
  refine zk_getR hX dX12_beast_34 flX12_13 k_166 z_166 (hw _ _ (by decide) |>.trans r_166_5) ?_
  refine zk_iload_n hX dX12_beast_37 rfl ?_
  refine zk_ialdE hX dX12_beast_38 rfl k_168 z_168 (by first | assumption | omega) rfl ?_
  refine zk_if_lt (tgt := 51) hX dX12_beast_39 (by decide) (fun c39 => ?_) (fun c39 => ?_)
  · exact absurd c39 (Int32.not_lt.mpr h.1)
  refine zk_aload_n hX dX12_beast_42 rfl ?_
  refine zk_getR hX dX12_beast_43 flX12_13 k_166 z_166 (hw _ _ (by decide) |>.trans r_166_5) ?_
  refine zk_iload_n hX dX12_beast_46 rfl ?_
  refine zk_ialdE hX dX12_beast_47 rfl k_168 z_168 (by first | assumption | omega) rfl ?_
  refine zk_if_ge (tgt := 57) hX dX12_beast_48 (by decide) (fun c48 => ?_) (fun c48 => ?_)
  rotate_left
  · exact absurd h.2 c48
  refine zk_aload_n hX dX12_beast_57 rfl ?_
  refine zk_getR hX dX12_beast_58 flX12_13 k_166 z_166 (hw _ _ (by decide) |>.trans r_166_5) ?_
  refine zk_iload_n hX dX12_beast_61 rfl ?_
  refine zk_ialdE hX dX12_beast_62 rfl k_168 z_168 (by first | assumption | omega) rfl ?_
  refine zk_bipush (v := 10) hX dX12_beast_63 (by decide) ?_
  refine zk_icmp_ne (tgt := 79) hX dX12_beast_65 (by decide) (fun c65 => ?_) (fun c65 => ?_)
  · refine zk_aload_n hX dX12_beast_79 rfl ?_
    refine zk_iconst (v := 5) hX dX12_beast_80 (by decide) ?_
    refine zk_V1i hX dX12_beast_81 kcX12_meets mlX12_145 viX12_meets rfl k_166 z_166 (s_X12_meets hw _ (by decide)) (Nat.le_of_ble_eq_true rfl) rfl ?_
    refine zk_iret hX hE rfl ⟨rfl, rfl⟩ dX12_beast_84 ⟨_, rfl, ?_⟩
    exact ⟨rfl, rfl⟩
  · refine zk_aload_n hX dX12_beast_68 rfl ?_
    refine zk_getR hX dX12_beast_69 flX12_13 k_166 z_166 (hw _ _ (by decide) |>.trans r_166_5) ?_
    refine zk_iload_n hX dX12_beast_72 rfl ?_
    refine zk_ialdE hX dX12_beast_73 rfl k_168 z_168 (by first | assumption | omega) rfl ?_
    refine zk_bipush (v := 10) hX dX12_beast_74 (by decide) ?_
    refine zk_icmp_eq (tgt := 85) hX dX12_beast_76 (by decide) (fun c76 => ?_) (fun c76 => ?_)
    · exact absurd c76 (fun q => h10 ⟨by first | exact c65 | exact Decidable.not_not.mp c65, q⟩)
    refine zk_aload_n hX dX12_beast_79 rfl ?_
    refine zk_iconst (v := 5) hX dX12_beast_80 (by decide) ?_
    refine zk_V1i hX dX12_beast_81 kcX12_meets mlX12_145 viX12_meets rfl k_166 z_166 (s_X12_meets hw _ (by decide)) (Nat.le_of_ble_eq_true rfl) rfl ?_
    refine zk_iret hX hE rfl ⟨rfl, rfl⟩ dX12_beast_84 ⟨_, rfl, ?_⟩
    exact ⟨rfl, rfl⟩
theorem s_X12_beast_pre {G : zG} {X : zX} {w : zW} {k r t : Nat} {m : Int32} (hX : zH G X mX12_beast) (hw : zWf w) (hk : k < 6) (hr : r < 6) (ht : t < 6) (hm : 0 ≤ m ∧ m ≤ 1) (h : 0 ≤ w.1 168 r ∧ 0 ≤ w.1 168 t) (h10 : w.1 168 r = 10 ∧ w.1 168 t = 10)
    (kk : zk0 G X mX12_beast 150 [.ref 166, .int (nI k), .int (nI r), .int (nI t), .int m, .int (zb (zLkK w r t 10)), .int (nI 10), .null] [] w) : zk0 G X mX12_beast 0 [.ref 166, .int (nI k), .int (nI r), .int (nI t), .int m, .null, .null, .null] [] w := by
  have loop : ∀ z i, i + z = 10 → zk0 G X mX12_beast 91 [.ref 166, .int (nI k), .int (nI r), .int (nI t), .int m, .int (zb (zLkK w r t i)), .int (nI i), .null] [] w := by
    intro z
    induction z with
    | zero =>
      intro i hi
      obtain rfl : i = 10 := by omega
      refine zk_iload hX dX12_beast_91 rfl ?_
      refine zk_bipush (v := 10) hX dX12_beast_93 (by decide) ?_
      refine zk_icmp_ge (tgt := 150) hX dX12_beast_95 (by decide) (fun c95 => ?_) (fun c95 => ?_)
      rotate_left
      · exact absurd (by decide) c95
      exact kk
    | succ z ih =>
      intro i hi
      have h9 := ih (i + 1) (by omega)
      have et : zLkK w r t i → (0 ≤ w.1 169 (40 * r + i) ∧ w.1 169 (40 * r + i) ≤ 4095) → (0 ≤ w.1 169 (40 * t + i) ∧ w.1 169 (40 * t + i) ≤ 4095) → zb (zLkK w r t (i + 1)) = 1 := fun q1 q2 q3 => zb_t (fun y hy => by
        rcases Nat.lt_succ_iff_lt_or_eq.mp hy with h | rfl
        · exact q1 y h
        · exact ⟨q2, q3⟩)
      have ef : ¬ (zLkK w r t i ∧ (0 ≤ w.1 169 (40 * r + i) ∧ w.1 169 (40 * r + i) ≤ 4095) ∧ (0 ≤ w.1 169 (40 * t + i) ∧ w.1 169 (40 * t + i) ≤ 4095)) → zb (zLkK w r t (i + 1)) = 0 := fun q => zb_f (fun q1 => q ⟨fun y hy => q1 y (by omega), q1 i (by omega)⟩)
      refine zk_iload hX dX12_beast_91 rfl ?_
      refine zk_bipush (v := 10) hX dX12_beast_93 (by decide) ?_
      refine zk_icmp_ge (tgt := 150) hX dX12_beast_95 (by decide) (fun c95 => ?_) (fun c95 => ?_)
      · exact absurd c95 (nI_ge (b := 10) (by omega) (by decide))
      refine zk_iload hX dX12_beast_98 rfl ?_
      refine zk_if_eqB (tgt := 141) hX dX12_beast_100 (by decide) (fun c100 => ?_) (fun c100 => ?_)
      · refine zk_iconst (v := 0) hX dX12_beast_141 (by decide) ?_
        refine zk_istore (lo' := [_, _, _, _, _, _, _, _]) hX dX12_beast_142 (Nat.le_of_ble_eq_true rfl) rfl rfl ?_
        refine zk_iinc (lo' := [_, _, _, _, _, _, _, _]) hX dX12_beast_144 rfl (by first | exact zinc _ | exact rfl) (Nat.le_of_ble_eq_true rfl) rfl rfl ?_
        refine zk_goto (tgt := 91) hX dX12_beast_147 (by decide) ?_
        first
        | (rw [et c100 c117 c134] at h9; exact h9)
        | (rw [et (Decidable.not_not.mp c100) (Decidable.not_not.mp c117) (Decidable.not_not.mp c134)] at h9; exact h9)
        | (rw [ef (fun q => c100 q.1)] at h9; exact h9)
        | (rw [ef (fun q => c117 q.2.1)] at h9; exact h9)
        | (rw [ef (fun q => c134 q.2.2)] at h9; exact h9)
      · refine zk_aload_n hX dX12_beast_103 rfl ?_
        refine zk_iload_n hX dX12_beast_104 rfl ?_
        refine zk_iload hX dX12_beast_105 rfl ?_
        refine zk_V2i hX dX12_beast_107 kcX12_rowAt mlX12_149 viX12_rowAt rfl k_166 z_166 (s_X12_rowAt hw (by omega)) (Nat.le_of_ble_eq_true rfl) rfl ?_
        refine zk_iconst (v := 0) hX dX12_beast_110 (by decide) ?_
        refine zk_sipush (v := 4095) hX dX12_beast_111 (by decide) ?_
        refine zk_S3i hX dX12_beast_114 kcX12_in mlX12_131 smX12_in rfl (s_X12_in _ _ _) (Nat.le_of_ble_eq_true rfl) rfl ?_
        refine zk_if_eqB (tgt := 141) hX dX12_beast_117 (by decide) (fun c117 => ?_) (fun c117 => ?_)
        · refine zk_iconst (v := 0) hX dX12_beast_141 (by decide) ?_
          refine zk_istore (lo' := [_, _, _, _, _, _, _, _]) hX dX12_beast_142 (Nat.le_of_ble_eq_true rfl) rfl rfl ?_
          refine zk_iinc (lo' := [_, _, _, _, _, _, _, _]) hX dX12_beast_144 rfl (by first | exact zinc _ | exact rfl) (Nat.le_of_ble_eq_true rfl) rfl rfl ?_
          refine zk_goto (tgt := 91) hX dX12_beast_147 (by decide) ?_
          first
          | (rw [et c100 c117 c134] at h9; exact h9)
          | (rw [et (Decidable.not_not.mp c100) (Decidable.not_not.mp c117) (Decidable.not_not.mp c134)] at h9; exact h9)
          | (rw [ef (fun q => c100 q.1)] at h9; exact h9)
          | (rw [ef (fun q => c117 q.2.1)] at h9; exact h9)
          | (rw [ef (fun q => c134 q.2.2)] at h9; exact h9)
        · refine zk_aload_n hX dX12_beast_120 rfl ?_
          refine zk_iload_n hX dX12_beast_121 rfl ?_
          refine zk_iload hX dX12_beast_122 rfl ?_
          refine zk_V2i hX dX12_beast_124 kcX12_rowAt mlX12_149 viX12_rowAt rfl k_166 z_166 (s_X12_rowAt hw (by omega)) (Nat.le_of_ble_eq_true rfl) rfl ?_
          refine zk_iconst (v := 0) hX dX12_beast_127 (by decide) ?_
          refine zk_sipush (v := 4095) hX dX12_beast_128 (by decide) ?_
          refine zk_S3i hX dX12_beast_131 kcX12_in mlX12_131 smX12_in rfl (s_X12_in _ _ _) (Nat.le_of_ble_eq_true rfl) rfl ?_
          refine zk_if_eqB (tgt := 141) hX dX12_beast_134 (by decide) (fun c134 => ?_) (fun c134 => ?_)
          · refine zk_iconst (v := 0) hX dX12_beast_141 (by decide) ?_
            refine zk_istore (lo' := [_, _, _, _, _, _, _, _]) hX dX12_beast_142 (Nat.le_of_ble_eq_true rfl) rfl rfl ?_
            refine zk_iinc (lo' := [_, _, _, _, _, _, _, _]) hX dX12_beast_144 rfl (by first | exact zinc _ | exact rfl) (Nat.le_of_ble_eq_true rfl) rfl rfl ?_
            refine zk_goto (tgt := 91) hX dX12_beast_147 (by decide) ?_
            first
            | (rw [et c100 c117 c134] at h9; exact h9)
            | (rw [et (Decidable.not_not.mp c100) (Decidable.not_not.mp c117) (Decidable.not_not.mp c134)] at h9; exact h9)
            | (rw [ef (fun q => c100 q.1)] at h9; exact h9)
            | (rw [ef (fun q => c117 q.2.1)] at h9; exact h9)
            | (rw [ef (fun q => c134 q.2.2)] at h9; exact h9)
          · refine zk_iconst (v := 1) hX dX12_beast_137 (by decide) ?_
            refine zk_goto (tgt := 142) hX dX12_beast_138 (by decide) ?_
            refine zk_istore (lo' := [_, _, _, _, _, _, _, _]) hX dX12_beast_142 (Nat.le_of_ble_eq_true rfl) rfl rfl ?_
            refine zk_iinc (lo' := [_, _, _, _, _, _, _, _]) hX dX12_beast_144 rfl (by first | exact zinc _ | exact rfl) (Nat.le_of_ble_eq_true rfl) rfl rfl ?_
            refine zk_goto (tgt := 91) hX dX12_beast_147 (by decide) ?_
            first
            | (rw [et c100 c117 c134] at h9; exact h9)
            | (rw [et (Decidable.not_not.mp c100) (Decidable.not_not.mp c117) (Decidable.not_not.mp c134)] at h9; exact h9)
            | (rw [ef (fun q => c100 q.1)] at h9; exact h9)
            | (rw [ef (fun q => c117 q.2.1)] at h9; exact h9)
            | (rw [ef (fun q => c134 q.2.2)] at h9; exact h9)
  refine zk_iload_n hX dX12_beast_0 rfl ?_
  refine zk_S1i hX dX12_beast_1 kcX12_isBeast mlX12_317 smX12_isBeast rfl (s_X12_isBeast' _) (Nat.le_of_ble_eq_true rfl) rfl ?_
  refine zk_if_eqB (tgt := 31) hX dX12_beast_4 (by decide) (fun c4 => ?_) (fun c4 => ?_)
  · exact absurd c4 (not_not_intro (zrle (n := 5) (by omega)))
  refine zk_iload_n hX dX12_beast_7 rfl ?_
  refine zk_S1i hX dX12_beast_8 kcX12_isRow mlX12_141 smX12_isRow rfl (s_X12_isRow _) (Nat.le_of_ble_eq_true rfl) rfl ?_
  refine zk_if_eqB (tgt := 31) hX dX12_beast_11 (by decide) (fun c11 => ?_) (fun c11 => ?_)
  · exact absurd c11 (not_not_intro (zrle (n := 5) (by omega)))
  refine zk_iload_n hX dX12_beast_14 rfl ?_
  refine zk_S1i hX dX12_beast_15 kcX12_isRow mlX12_141 smX12_isRow rfl (s_X12_isRow _) (Nat.le_of_ble_eq_true rfl) rfl ?_
  refine zk_if_eqB (tgt := 31) hX dX12_beast_18 (by decide) (fun c18 => ?_) (fun c18 => ?_)
  · exact absurd c18 (not_not_intro (zrle (n := 5) (by omega)))
  refine zk_iload hX dX12_beast_21 rfl ?_
  refine zk_iconst (v := 0) hX dX12_beast_23 (by decide) ?_
  refine zk_iconst (v := 1) hX dX12_beast_24 (by decide) ?_
  refine zk_S3i hX dX12_beast_25 kcX12_in mlX12_131 smX12_in rfl (s_X12_in _ _ _) (Nat.le_of_ble_eq_true rfl) rfl ?_
  refine zk_if_neB (tgt := 33) hX dX12_beast_28 (by decide) (fun c28 => ?_) (fun c28 => ?_)
  rotate_left
  · exact absurd hm c28
  refine zk_aload_n hX dX12_beast_33 rfl ?_
  refine zk_getR hX dX12_beast_34 flX12_13 k_166 z_166 (hw _ _ (by decide) |>.trans r_166_5) ?_
  refine zk_iload_n hX dX12_beast_37 rfl ?_
  refine zk_ialdE hX dX12_beast_38 rfl k_168 z_168 (by first | assumption | omega) rfl ?_
  refine zk_if_lt (tgt := 51) hX dX12_beast_39 (by decide) (fun c39 => ?_) (fun c39 => ?_)
  · exact absurd c39 (Int32.not_lt.mpr h.1)
  refine zk_aload_n hX dX12_beast_42 rfl ?_
  refine zk_getR hX dX12_beast_43 flX12_13 k_166 z_166 (hw _ _ (by decide) |>.trans r_166_5) ?_
  refine zk_iload_n hX dX12_beast_46 rfl ?_
  refine zk_ialdE hX dX12_beast_47 rfl k_168 z_168 (by first | assumption | omega) rfl ?_
  refine zk_if_ge (tgt := 57) hX dX12_beast_48 (by decide) (fun c48 => ?_) (fun c48 => ?_)
  rotate_left
  · exact absurd h.2 c48
  refine zk_aload_n hX dX12_beast_57 rfl ?_
  refine zk_getR hX dX12_beast_58 flX12_13 k_166 z_166 (hw _ _ (by decide) |>.trans r_166_5) ?_
  refine zk_iload_n hX dX12_beast_61 rfl ?_
  refine zk_ialdE hX dX12_beast_62 rfl k_168 z_168 (by first | assumption | omega) rfl ?_
  refine zk_bipush (v := 10) hX dX12_beast_63 (by decide) ?_
  refine zk_icmp_ne (tgt := 79) hX dX12_beast_65 (by decide) (fun c65 => ?_) (fun c65 => ?_)
  · exact absurd c65 (not_not_intro h10.1)
  refine zk_aload_n hX dX12_beast_68 rfl ?_
  refine zk_getR hX dX12_beast_69 flX12_13 k_166 z_166 (hw _ _ (by decide) |>.trans r_166_5) ?_
  refine zk_iload_n hX dX12_beast_72 rfl ?_
  refine zk_ialdE hX dX12_beast_73 rfl k_168 z_168 (by first | assumption | omega) rfl ?_
  refine zk_bipush (v := 10) hX dX12_beast_74 (by decide) ?_
  refine zk_icmp_eq (tgt := 85) hX dX12_beast_76 (by decide) (fun c76 => ?_) (fun c76 => ?_)
  rotate_left
  · exact absurd h10.2 c76
  refine zk_iconst (v := 1) hX dX12_beast_85 (by decide) ?_
  refine zk_istore (lo' := [_, _, _, _, _, _, _, _]) hX dX12_beast_86 (Nat.le_of_ble_eq_true rfl) rfl rfl ?_
  refine zk_iconst (v := 0) hX dX12_beast_88 (by decide) ?_
  refine zk_istore (lo' := [_, _, _, _, _, _, _, _]) hX dX12_beast_89 (Nat.le_of_ble_eq_true rfl) rfl rfl ?_
  have h9 := loop 10 0 (by omega)
  rw [zb_t (fun y hy => absurd hy (by omega))] at h9
  exact h9
theorem s_X12_beast_l {G : zG} {w : zW} {k r t : Nat} {m : Int32} (hw : zWf w) (hk : k < 6) (hr : r < 6) (ht : t < 6) (hm : 0 ≤ m ∧ m ≤ 1) (h : 0 ≤ w.1 168 r ∧ 0 ≤ w.1 168 t) (h10 : w.1 168 r = 10 ∧ w.1 168 t = 10) (hl : ¬ zLkK w r t 10) : zEi G mX12_beast [.ref 166, .int (nI k), .int (nI r), .int (nI t), .int m] w (-3) (mfind w 3) := by
  refine zC_of (lo := [_, _, _, _, _, _, _, _]) kcX12_beast (Nat.le_of_ble_eq_true rfl) rfl (fun X hX hE => ?_)
  refine s_X12_beast_pre hX hw hk hr ht hm h h10 ?_
  refine zk_iload hX dX12_beast_150 rfl ?_
  refine zk_if_neB (tgt := 161) hX dX12_beast_152 (by decide) (fun c152 => ?_) (fun c152 => ?_)
  · exact absurd c152 hl
  refine zk_aload_n hX dX12_beast_155 rfl ?_
  refine zk_iconst (v := 3) hX dX12_beast_156 (by decide) ?_
  refine zk_V1i hX dX12_beast_157 kcX12_meets mlX12_145 viX12_meets rfl k_166 z_166 (s_X12_meets hw _ (by decide)) (Nat.le_of_ble_eq_true rfl) rfl ?_
  refine zk_iret hX hE rfl ⟨rfl, rfl⟩ dX12_beast_160 ⟨_, rfl, ?_⟩
  exact ⟨rfl, rfl⟩
def mTold (w w' : zW) (k : Nat) (m : Int32) (f g : Nat → Nat) : Prop := zFr [186, 187, 188, 189] [] [] w w' ∧ (∀ y, y < 10 → w'.1 187 (10 * k + y) = nI (f y) ∧ w'.1 188 (10 * k + y) = nI (g y)) ∧ (∀ q, q < 10 * k ∨ 10 * k + 10 ≤ q → w'.1 187 q = w.1 187 q ∧ w'.1 188 q = w.1 188 q) ∧ (w'.1 189 k = m ∧ w'.1 186 k = 1) ∧ ∀ q, q ≠ k → w'.1 189 q = w.1 189 q ∧ w'.1 186 q = w.1 186 q
theorem s_X12_beast {G : zG} {w : zW} {k r t : Nat} {m : Int32} {f g : Nat → Nat} (hw : zWf w) (hk : k < 6) (hr : r < 6) (ht : t < 6) (hm : 0 ≤ m ∧ m ≤ 1) (h : 0 ≤ w.1 168 r ∧ 0 ≤ w.1 168 t) (h10 : w.1 168 r = 10 ∧ w.1 168 t = 10) (hl : zLkK w r t 10) (hf : ∀ y, y < 10 → w.1 169 (40 * r + y) = nI (f y)) (hg : ∀ y, y < 10 → w.1 169 (40 * t + y) = nI (g y)) (h4 : ∀ y, y < 10 → f y < 4096) :
    zCi G mX12_beast [.ref 166, .int (nI k), .int (nI r), .int (nI t), .int m] w (fun a w' => a = nI (zcard (zofL f)) ∧ mTold w w' k m f g) := by
  refine zC_of (lo := [_, _, _, _, _, _, _, _]) kcX12_beast (Nat.le_of_ble_eq_true rfl) rfl (fun X hX hE => ?_)
  refine s_X12_beast_pre hX hw hk hr ht hm h h10 ?_
  have loop : ∀ z i w1, i + z = 10 → zFr [187, 188] [] [] w w1 → (∀ y, y < i → w1.1 187 (10 * k + y) = nI (f y) ∧ w1.1 188 (10 * k + y) = nI (g y)) → (∀ q, q < 10 * k ∨ 10 * k + 10 ≤ q → w1.1 187 q = w.1 187 q ∧ w1.1 188 q = w.1 188 q) → zk0 G X mX12_beast 167 [.ref 166, .int (nI k), .int (nI r), .int (nI t), .int m, .int (zb (zLkK w r t 10)), .int (nI (zcnt (zofL f) (12 * i))), .int (nI i)] [] w1 := by
    intro z
    induction z with
    | zero =>
      intro i w1 hi hF g1 g2
      obtain rfl : i = 10 := by omega
      have hw1 := zFr_wf hF hw
      refine zk_iload hX dX12_beast_167 rfl ?_
      refine zk_bipush (v := 10) hX dX12_beast_169 (by decide) ?_
      refine zk_icmp_ge (tgt := 233) hX dX12_beast_171 (by decide) (fun c171 => ?_) (fun c171 => ?_)
      rotate_left
      · exact absurd (by decide) c171
      refine zk_aload_n hX dX12_beast_233 rfl ?_
      refine zk_getR hX dX12_beast_234 flX12_78 k_166 z_166 (hw1 _ _ (by decide) |>.trans r_166_40) ?_
      refine zk_iload_n hX dX12_beast_237 rfl ?_
      refine zk_iload hX dX12_beast_238 rfl ?_
      refine zk_iastE hX dX12_beast_240 rfl k_189 z_189 (by first | assumption | omega) rfl ?_
      refine zk_aload_n hX dX12_beast_241 rfl ?_
      refine zk_getR hX dX12_beast_242 flX12_68 k_166 z_166 (hw1 _ _ (by decide) |>.trans r_166_37) ?_
      refine zk_iload_n hX dX12_beast_245 rfl ?_
      refine zk_iconst (v := 1) hX dX12_beast_246 (by decide) ?_
      refine zk_zastE hX dX12_beast_247 rfl k_186 z_186 (by first | assumption | omega) rfl ?_
      refine zk_iload hX dX12_beast_248 rfl ?_
      refine zk_iret hX hE rfl ⟨rfl, rfl⟩ dX12_beast_250 ⟨_, rfl, ?_⟩
      refine ⟨rfl, zFr_t (zFr_s hF (by decide)) (zFr_t (zFr_i (by decide) (by decide)) (zFr_i (by decide) (by decide))), fun y hy => ?_, fun q hq => ?_, ⟨?_, ?_⟩, fun q hq => ⟨?_, ?_⟩⟩
      · rw [zsi_o (by decide), zsi_o (by decide), zsi_o (by decide), zsi_o (by decide)]
        exact g1 y hy
      · rw [zsi_o (by decide), zsi_o (by decide), zsi_o (by decide), zsi_o (by decide)]
        exact g2 q hq
      · rw [zsi_o (by decide), zsi_1, if_pos ⟨rfl, rfl⟩]
      · rw [zsi_1, if_pos ⟨rfl, rfl⟩]
        first | rfl | decide
      · rw [zsi_o (by decide), zsi_1, if_neg (fun z => hq z.2), hF.2.1 189 (by decide) (by decide)]
      · rw [zsi_1, if_neg (fun z => hq z.2), zsi_o (by decide), hF.2.1 186 (by decide) (by decide)]
    | succ z ih =>
      intro i w1 hi hF g1 g2
      have hw1 := zFr_wf hF hw
      have e9 : w1.1 169 = w.1 169 := hF.2.1 169 (by decide) (by decide)
      have h0 := ih (i + 1)
      rw [zcnt_lines, zline_of (h4 i (by omega)), ← nI_add] at h0
      refine zk_iload hX dX12_beast_167 rfl ?_
      refine zk_bipush (v := 10) hX dX12_beast_169 (by decide) ?_
      refine zk_icmp_ge (tgt := 233) hX dX12_beast_171 (by decide) (fun c171 => ?_) (fun c171 => ?_)
      · exact absurd c171 (nI_ge (b := 10) (by omega) (by decide))
      refine zk_aload_n hX dX12_beast_174 rfl ?_
      refine zk_getR hX dX12_beast_175 flX12_72 k_166 z_166 (hw1 _ _ (by decide) |>.trans r_166_38) ?_
      refine zk_bipush (v := 10) hX dX12_beast_178 (by decide) ?_
      refine zk_iload_n hX dX12_beast_180 rfl ?_
      refine zk_imul hX dX12_beast_181 ?_
      refine zk_iload hX dX12_beast_182 rfl ?_
      refine zk_iadd hX dX12_beast_184 ?_
      refine zk_aload_n hX dX12_beast_185 rfl ?_
      refine zk_iload_n hX dX12_beast_186 rfl ?_
      refine zk_iload hX dX12_beast_187 rfl ?_
      refine zk_V2i hX dX12_beast_189 kcX12_rowAt mlX12_149 viX12_rowAt rfl k_166 z_166 (s_X12_rowAt hw1 (by omega)) (Nat.le_of_ble_eq_true rfl) rfl ?_
      rw [e9, hf i (by omega)]
      refine zk_iastE hX dX12_beast_192 (nI_addE (nI_mulE (nI_k 10 rfl) rfl) rfl) k_187 z_187 (by first | assumption | omega) rfl ?_
      refine zk_aload_n hX dX12_beast_193 rfl ?_
      refine zk_getR hX dX12_beast_194 flX12_75 k_166 z_166 ((zWf_i hw1) _ _ (by decide) |>.trans r_166_39) ?_
      refine zk_bipush (v := 10) hX dX12_beast_197 (by decide) ?_
      refine zk_iload_n hX dX12_beast_199 rfl ?_
      refine zk_imul hX dX12_beast_200 ?_
      refine zk_iload hX dX12_beast_201 rfl ?_
      refine zk_iadd hX dX12_beast_203 ?_
      refine zk_aload_n hX dX12_beast_204 rfl ?_
      refine zk_iload_n hX dX12_beast_205 rfl ?_
      refine zk_iload hX dX12_beast_206 rfl ?_
      refine zk_V2i hX dX12_beast_208 kcX12_rowAt mlX12_149 viX12_rowAt rfl k_166 z_166 (s_X12_rowAt (zWf_i hw1) (by omega)) (Nat.le_of_ble_eq_true rfl) rfl ?_
      rw [zsi_o (by decide), e9, hg i (by omega)]
      refine zk_iastE hX dX12_beast_211 (nI_addE (nI_mulE (nI_k 10 rfl) rfl) rfl) k_188 z_188 (by first | assumption | omega) rfl ?_
      refine zk_iload hX dX12_beast_212 rfl ?_
      refine zk_aload_n hX dX12_beast_214 rfl ?_
      refine zk_iload_n hX dX12_beast_215 rfl ?_
      refine zk_iload hX dX12_beast_216 rfl ?_
      refine zk_V2i hX dX12_beast_218 kcX12_rowAt mlX12_149 viX12_rowAt rfl k_166 z_166 (s_X12_rowAt (zWf_i (zWf_i hw1)) (by omega)) (Nat.le_of_ble_eq_true rfl) rfl ?_
      rw [zsi_o (by decide), zsi_o (by decide), e9, hf i (by omega)]
      refine zk_S1i hX dX12_beast_221 kcX12_bits mlX12_266 smX12_bits rfl (s_X12_bits (h4 i (by omega))) (Nat.le_of_ble_eq_true rfl) rfl ?_
      refine zk_iadd hX dX12_beast_224 ?_
      refine zk_istore (lo' := [_, _, _, _, _, _, _, _]) hX dX12_beast_225 (Nat.le_of_ble_eq_true rfl) rfl rfl ?_
      refine zk_iinc (lo' := [_, _, _, _, _, _, _, _]) hX dX12_beast_227 rfl (by first | exact zinc _ | exact rfl) (Nat.le_of_ble_eq_true rfl) rfl rfl ?_
      refine zk_goto (tgt := 167) hX dX12_beast_230 (by decide) ?_
      refine h0 _ (by omega) (zFr_t hF (zFr_t (zFr_i (by decide) (by decide)) (zFr_i (by decide) (by decide)))) (fun y hy => ?_) (fun q hq => ?_)
      · rw [zsi_o (a := 187) (by decide), zsi_1, zsi_1, zsi_o (a := 188) (by decide)]
        by_cases e : y = i
        · subst e
          rw [if_pos ⟨rfl, rfl⟩, if_pos ⟨rfl, rfl⟩]
          exact ⟨rfl, rfl⟩
        · rw [if_neg (by omega), if_neg (by omega)]
          exact g1 y (by omega)
      · rw [zsi_o (a := 187) (by decide), zsi_1, zsi_1, zsi_o (a := 188) (by decide), if_neg (by omega), if_neg (by omega)]
        exact g2 q hq
  refine zk_iload hX dX12_beast_150 rfl ?_
  refine zk_if_neB (tgt := 161) hX dX12_beast_152 (by decide) (fun c152 => ?_) (fun c152 => ?_)
  rotate_left
  · exact absurd hl c152
  refine zk_iconst (v := 0) hX dX12_beast_161 (by decide) ?_
  refine zk_istore (lo' := [_, _, _, _, _, _, _, _]) hX dX12_beast_162 (Nat.le_of_ble_eq_true rfl) rfl rfl ?_
  refine zk_iconst (v := 0) hX dX12_beast_164 (by decide) ?_
  refine zk_istore (lo' := [_, _, _, _, _, _, _, _]) hX dX12_beast_165 (Nat.le_of_ble_eq_true rfl) rfl rfl ?_
  exact loop 10 0 w rfl zFr_r (fun y hy => absurd hy (by omega)) (fun _ _ => ⟨rfl, rfl⟩)
