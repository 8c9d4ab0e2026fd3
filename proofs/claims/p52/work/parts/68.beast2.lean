theorem zBeM {k : Nat} (hk : k < 6) : zCe (97 + 3 * k) := ⟨by show 97 + 3 * k < 166; omega, (zBez k hk).2.1⟩
theorem zBeY {k : Nat} (hk : k < 6) : zCe (98 + 3 * k) := ⟨by show 98 + 3 * k < 166; omega, (zBez k hk).2.2.1⟩
theorem s_X11_beast_bad {G : zG} {w : zW} (k r t m : Int32) (h : ¬ ((0 ≤ k ∧ k < 6) ∧ (0 ≤ r ∧ r < 6) ∧ (0 ≤ t ∧ t < 6) ∧ (0 ≤ m ∧ m ≤ 1))) : zEi G mX11_beast [.ref 0, .int k, .int r, .int t, .int m] w (-1) w := by
  refine zC_of (lo := [_, _, _, _, _, _]) kcX11_beast (Nat.le_of_ble_eq_true rfl) rfl (fun X hX hE => ?_)
  refine zk_iload_n hX dX11_beast_0 rfl ?_
  refine zk_S1i hX dX11_beast_1 kcX11_isBeast mlX11_272 smX11_isBeast rfl (s_X11_isBeast _) (Nat.le_of_ble_eq_true rfl) rfl ?_
  refine zk_if_eqB (tgt := 32) hX dX11_beast_4 (by decide) (fun c4 => ?_) (fun c4 => ?_)
  · refine zk_iconst (v := -1) hX dX11_beast_32 (by decide) ?_
    refine zk_iret hX hE rfl ⟨rfl, rfl⟩ dX11_beast_33 ⟨_, rfl, ?_⟩
    exact ⟨rfl, rfl⟩
  · refine zk_iload_n hX dX11_beast_7 rfl ?_
    refine zk_S1i hX dX11_beast_8 kcX11_isRow mlX11_107 smX11_isRow rfl (s_X11_isRow _) (Nat.le_of_ble_eq_true rfl) rfl ?_
    refine zk_if_eqB (tgt := 32) hX dX11_beast_11 (by decide) (fun c11 => ?_) (fun c11 => ?_)
    · refine zk_iconst (v := -1) hX dX11_beast_32 (by decide) ?_
      refine zk_iret hX hE rfl ⟨rfl, rfl⟩ dX11_beast_33 ⟨_, rfl, ?_⟩
      exact ⟨rfl, rfl⟩
    · refine zk_iload_n hX dX11_beast_14 rfl ?_
      refine zk_S1i hX dX11_beast_15 kcX11_isRow mlX11_107 smX11_isRow rfl (s_X11_isRow _) (Nat.le_of_ble_eq_true rfl) rfl ?_
      refine zk_if_eqB (tgt := 32) hX dX11_beast_18 (by decide) (fun c18 => ?_) (fun c18 => ?_)
      · refine zk_iconst (v := -1) hX dX11_beast_32 (by decide) ?_
        refine zk_iret hX hE rfl ⟨rfl, rfl⟩ dX11_beast_33 ⟨_, rfl, ?_⟩
        exact ⟨rfl, rfl⟩
      · refine zk_iload hX dX11_beast_21 rfl ?_
        refine zk_if_lt (tgt := 32) hX dX11_beast_23 (by decide) (fun c23 => ?_) (fun c23 => ?_)
        · refine zk_iconst (v := -1) hX dX11_beast_32 (by decide) ?_
          refine zk_iret hX hE rfl ⟨rfl, rfl⟩ dX11_beast_33 ⟨_, rfl, ?_⟩
          exact ⟨rfl, rfl⟩
        · refine zk_iload hX dX11_beast_26 rfl ?_
          refine zk_iconst (v := 1) hX dX11_beast_28 (by decide) ?_
          refine zk_icmp_le (tgt := 34) hX dX11_beast_29 (by decide) (fun c29 => ?_) (fun c29 => ?_)
          · exact absurd c29 (fun q => h ⟨by first | exact c4 | exact Decidable.not_not.mp c4, by first | exact c11 | exact Decidable.not_not.mp c11, by first | exact c18 | exact Decidable.not_not.mp c18, by grind⟩)
          refine zk_iconst (v := -1) hX dX11_beast_32 (by decide) ?_
          refine zk_iret hX hE rfl ⟨rfl, rfl⟩ dX11_beast_33 ⟨_, rfl, ?_⟩
          exact ⟨rfl, rfl⟩
theorem s_X11_beast_f {G : zG} {w : zW} {k r t q : Nat} {m : Int32} (hw : zWf w) (hk : k < 6) (hr : r < 6) (ht : t < 6) (hm : 0 ≤ m ∧ m ≤ 1) (h5 : 1 ≤ q ∧ q ≤ 5) (hf : c_shf w r t = nI q) : zEi G mX11_beast [.ref 0, .int (nI k), .int (nI r), .int (nI t), .int m] w (-3) (zfind w q) := by
  refine zC_of (lo := [_, _, _, _, _, _]) kcX11_beast (Nat.le_of_ble_eq_true rfl) rfl (fun X hX hE => ?_)
  refine zk_iload_n hX dX11_beast_0 rfl ?_
  refine zk_S1i hX dX11_beast_1 kcX11_isBeast mlX11_272 smX11_isBeast rfl (s_X11_isBeast _) (Nat.le_of_ble_eq_true rfl) rfl ?_
  refine zk_if_eqB (tgt := 32) hX dX11_beast_4 (by decide) (fun c4 => ?_) (fun c4 => ?_)
  · exact absurd c4 (not_not_intro (zrlt hk))
  refine zk_iload_n hX dX11_beast_7 rfl ?_
  refine zk_S1i hX dX11_beast_8 kcX11_isRow mlX11_107 smX11_isRow rfl (s_X11_isRow _) (Nat.le_of_ble_eq_true rfl) rfl ?_
  refine zk_if_eqB (tgt := 32) hX dX11_beast_11 (by decide) (fun c11 => ?_) (fun c11 => ?_)
  · exact absurd c11 (not_not_intro (zrlt hr))
  refine zk_iload_n hX dX11_beast_14 rfl ?_
  refine zk_S1i hX dX11_beast_15 kcX11_isRow mlX11_107 smX11_isRow rfl (s_X11_isRow _) (Nat.le_of_ble_eq_true rfl) rfl ?_
  refine zk_if_eqB (tgt := 32) hX dX11_beast_18 (by decide) (fun c18 => ?_) (fun c18 => ?_)
  · exact absurd c18 (not_not_intro (zrlt ht))
  refine zk_iload hX dX11_beast_21 rfl ?_
  refine zk_if_lt (tgt := 32) hX dX11_beast_23 (by decide) (fun c23 => ?_) (fun c23 => ?_)
  · exact absurd c23 (Int32.not_lt.mpr hm.1)
  refine zk_iload hX dX11_beast_26 rfl ?_
  refine zk_iconst (v := 1) hX dX11_beast_28 (by decide) ?_
  refine zk_icmp_le (tgt := 34) hX dX11_beast_29 (by decide) (fun c29 => ?_) (fun c29 => ?_)
  rotate_left
  · exact absurd hm.2 c29
  refine zk_aload_n hX dX11_beast_34 rfl ?_
  refine zk_getR hX dX11_beast_35 flX11_18 k_0 z_0 (hw _ _ (by decide) |>.trans r_0_1) ?_
  refine zk_iload_n hX dX11_beast_38 rfl ?_
  refine zk_rows hX hw dX11_beast_39 rfl (by first | assumption | omega) ?_
  refine zk_aload_n hX dX11_beast_40 rfl ?_
  refine zk_getR hX dX11_beast_41 flX11_18 k_0 z_0 (hw _ _ (by decide) |>.trans r_0_1) ?_
  refine zk_iload_n hX dX11_beast_44 rfl ?_
  refine zk_rows hX hw dX11_beast_45 rfl (by first | assumption | omega) ?_
  refine zk_S2i hX dX11_beast_46 kcX11_shadowFinding mlX11_233 smX11_shadowFinding rfl (s_X11_shadowFinding hw hr ht) (Nat.le_of_ble_eq_true rfl) rfl ?_
  rw [hf]
  refine zk_istore (lo' := [_, _, _, _, _, _]) hX dX11_beast_49 (Nat.le_of_ble_eq_true rfl) rfl rfl ?_
  refine zk_iload hX dX11_beast_51 rfl ?_
  refine zk_if_eq (tgt := 66) hX dX11_beast_53 (by decide) (fun c53 => ?_) (fun c53 => ?_)
  · exact absurd (nI_inj (a := q) (b := 0) (by omega) (by decide) c53) (by omega)
  refine zk_aload_n hX dX11_beast_56 rfl ?_
  refine zk_getR hX dX11_beast_57 flX11_12 k_0 z_0 (hw _ _ (by decide) |>.trans r_0_0) ?_
  refine zk_iload hX dX11_beast_60 rfl ?_
  refine zk_V1i hX dX11_beast_62 kcX9_find mlX11_111 viX9_find rfl k_1 z_1 (s_X9_find hw q h5) (Nat.le_of_ble_eq_true rfl) rfl ?_
  refine zk_iret hX hE rfl ⟨rfl, rfl⟩ dX11_beast_65 ⟨_, rfl, ?_⟩
  exact ⟨rfl, rfl⟩
theorem s_X11_beast {G : zG} {w : zW} {k r t : Nat} {m : Int32} {f g : Nat → Nat} (hw : zWf w) (hk : k < 6) (hr : r < 6) (ht : t < 6) (hm : 0 ≤ m ∧ m ≤ 1) (h0 : c_shf w r t = 0) (hr0 : w.1 (4 + 2 * r) 0 = nI 10) (ht0 : w.1 (4 + 2 * t) 0 = nI 10) (hf : ∀ y, y < 10 → w.1 (5 + 2 * r) y = nI (f y)) (hg : ∀ y, y < 10 → w.1 (5 + 2 * t) y = nI (g y)) :
    zEi G mX11_beast [.ref 0, .int (nI k), .int (nI r), .int (nI t), .int m] w (nI (zcard (zofL f))) (zsi (zsi (zsetS (zsetS w (97 + 3 * k) (zofL f)) (98 + 3 * k) (zofL g)) (96 + 3 * k) 2 m) (96 + 3 * k) 3 1) := by
  have hw1 : zWf (zsetS w (97 + 3 * k) (zofL f)) := zWf_of hw rfl
  have hw2 : zWf (zsetS (zsetS w (97 + 3 * k) (zofL f)) (98 + 3 * k) (zofL g)) := zWf_of hw rfl
  refine zC_of (lo := [_, _, _, _, _, _]) kcX11_beast (Nat.le_of_ble_eq_true rfl) rfl (fun X hX hE => ?_)
  refine zk_iload_n hX dX11_beast_0 rfl ?_
  refine zk_S1i hX dX11_beast_1 kcX11_isBeast mlX11_272 smX11_isBeast rfl (s_X11_isBeast _) (Nat.le_of_ble_eq_true rfl) rfl ?_
  refine zk_if_eqB (tgt := 32) hX dX11_beast_4 (by decide) (fun c4 => ?_) (fun c4 => ?_)
  · exact absurd c4 (not_not_intro (zrlt hk))
  refine zk_iload_n hX dX11_beast_7 rfl ?_
  refine zk_S1i hX dX11_beast_8 kcX11_isRow mlX11_107 smX11_isRow rfl (s_X11_isRow _) (Nat.le_of_ble_eq_true rfl) rfl ?_
  refine zk_if_eqB (tgt := 32) hX dX11_beast_11 (by decide) (fun c11 => ?_) (fun c11 => ?_)
  · exact absurd c11 (not_not_intro (zrlt hr))
  refine zk_iload_n hX dX11_beast_14 rfl ?_
  refine zk_S1i hX dX11_beast_15 kcX11_isRow mlX11_107 smX11_isRow rfl (s_X11_isRow _) (Nat.le_of_ble_eq_true rfl) rfl ?_
  refine zk_if_eqB (tgt := 32) hX dX11_beast_18 (by decide) (fun c18 => ?_) (fun c18 => ?_)
  · exact absurd c18 (not_not_intro (zrlt ht))
  refine zk_iload hX dX11_beast_21 rfl ?_
  refine zk_if_lt (tgt := 32) hX dX11_beast_23 (by decide) (fun c23 => ?_) (fun c23 => ?_)
  · exact absurd c23 (Int32.not_lt.mpr hm.1)
  refine zk_iload hX dX11_beast_26 rfl ?_
  refine zk_iconst (v := 1) hX dX11_beast_28 (by decide) ?_
  refine zk_icmp_le (tgt := 34) hX dX11_beast_29 (by decide) (fun c29 => ?_) (fun c29 => ?_)
  rotate_left
  · exact absurd hm.2 c29
  refine zk_aload_n hX dX11_beast_34 rfl ?_
  refine zk_getR hX dX11_beast_35 flX11_18 k_0 z_0 (hw _ _ (by decide) |>.trans r_0_1) ?_
  refine zk_iload_n hX dX11_beast_38 rfl ?_
  refine zk_rows hX hw dX11_beast_39 rfl (by first | assumption | omega) ?_
  refine zk_aload_n hX dX11_beast_40 rfl ?_
  refine zk_getR hX dX11_beast_41 flX11_18 k_0 z_0 (hw _ _ (by decide) |>.trans r_0_1) ?_
  refine zk_iload_n hX dX11_beast_44 rfl ?_
  refine zk_rows hX hw dX11_beast_45 rfl (by first | assumption | omega) ?_
  refine zk_S2i hX dX11_beast_46 kcX11_shadowFinding mlX11_233 smX11_shadowFinding rfl (s_X11_shadowFinding hw hr ht) (Nat.le_of_ble_eq_true rfl) rfl ?_
  rw [h0]
  refine zk_istore (lo' := [_, _, _, _, _, _]) hX dX11_beast_49 (Nat.le_of_ble_eq_true rfl) rfl rfl ?_
  refine zk_iload hX dX11_beast_51 rfl ?_
  refine zk_if_eq (tgt := 66) hX dX11_beast_53 (by decide) (fun c53 => ?_) (fun c53 => ?_)
  rotate_left
  · exact absurd rfl c53
  refine zk_aload_n hX dX11_beast_66 rfl ?_
  refine zk_getR hX dX11_beast_67 flX11_18 k_0 z_0 (hw _ _ (by decide) |>.trans r_0_1) ?_
  refine zk_iload_n hX dX11_beast_70 rfl ?_
  refine zk_rows hX hw dX11_beast_71 rfl (by first | assumption | omega) ?_
  refine zk_aload_n hX dX11_beast_72 rfl ?_
  refine zk_getR hX dX11_beast_73 flX11_68 k_0 z_0 (hw _ _ (by decide) |>.trans r_0_11) ?_
  refine zk_iload_n hX dX11_beast_76 rfl ?_
  refine zk_beasts hX hw dX11_beast_77 rfl (by first | assumption | omega) ?_
  refine zk_getR hX dX11_beast_78 flX11_275 (zBek (by first | assumption | omega)) (zBez _ (by first | assumption | omega)).1 ((hw _ _ (by omega)).trans (zBez _ (by first | assumption | omega)).2.2.2.1) ?_
  refine zk_V1v hX dX11_beast_81 kcX8_showTo mlX11_240 viX8_showTo rfl (zRwR0 (by first | assumption | omega)) (zRw_r _ (by first | assumption | omega)).2.1 (s_X8_showTo hw (zRwR hr) (zBeM hk) hr0 (fun y hy => by rw [show 4 + 2 * r + 1 = 5 + 2 * r by omega]; exact hf y hy)) (Nat.le_of_ble_eq_true rfl) rfl ?_
  refine zk_aload_n hX dX11_beast_84 rfl ?_
  refine zk_getR hX dX11_beast_85 flX11_18 k_0 z_0 (hw1 _ _ (by decide) |>.trans r_0_1) ?_
  refine zk_iload_n hX dX11_beast_88 rfl ?_
  refine zk_rows hX hw1 dX11_beast_89 rfl (by first | assumption | omega) ?_
  refine zk_aload_n hX dX11_beast_90 rfl ?_
  refine zk_getR hX dX11_beast_91 flX11_68 k_0 z_0 (hw1 _ _ (by decide) |>.trans r_0_11) ?_
  refine zk_iload_n hX dX11_beast_94 rfl ?_
  refine zk_beasts hX hw1 dX11_beast_95 rfl (by first | assumption | omega) ?_
  refine zk_getR hX dX11_beast_96 flX11_278 (zBek (by first | assumption | omega)) (zBez _ (by first | assumption | omega)).1 ((hw1 _ _ (by omega)).trans (zBez _ (by first | assumption | omega)).2.2.2.2) ?_
  refine zk_V1v hX dX11_beast_99 kcX8_showTo mlX11_240 viX8_showTo rfl (zRwR0 (by first | assumption | omega)) (zRw_r _ (by first | assumption | omega)).2.1 (s_X8_showTo hw1 (zRwR ht) (zBeY hk) ht0 (fun y hy => by rw [show 4 + 2 * t + 1 = 5 + 2 * t by omega]; exact hg y hy)) (Nat.le_of_ble_eq_true rfl) rfl ?_
  refine zk_aload_n hX dX11_beast_102 rfl ?_
  refine zk_getR hX dX11_beast_103 flX11_68 k_0 z_0 (hw2 _ _ (by decide) |>.trans r_0_11) ?_
  refine zk_iload_n hX dX11_beast_106 rfl ?_
  refine zk_beasts hX hw2 dX11_beast_107 rfl (by first | assumption | omega) ?_
  refine zk_iload hX dX11_beast_108 rfl ?_
  refine zk_putI hX dX11_beast_110 plX11_281 (fun h => by cases h) (zBek (by first | assumption | omega)) (zBez _ (by first | assumption | omega)).1 rfl rfl ?_
  refine zk_aload_n hX dX11_beast_113 rfl ?_
  refine zk_getR hX dX11_beast_114 flX11_68 k_0 z_0 ((zWf_i hw2) _ _ (by decide) |>.trans r_0_11) ?_
  refine zk_iload_n hX dX11_beast_117 rfl ?_
  refine zk_beasts hX (zWf_i hw2) dX11_beast_118 rfl (by first | assumption | omega) ?_
  refine zk_iconst (v := 1) hX dX11_beast_119 (by decide) ?_
  refine zk_putI hX dX11_beast_120 plX11_284 (fun h => by cases h) (zBek (by first | assumption | omega)) (zBez _ (by first | assumption | omega)).1 rfl rfl ?_
  refine zk_aload_n hX dX11_beast_123 rfl ?_
  refine zk_getR hX dX11_beast_124 flX11_68 k_0 z_0 ((zWf_i (zWf_i hw2)) _ _ (by decide) |>.trans r_0_11) ?_
  refine zk_iload_n hX dX11_beast_127 rfl ?_
  refine zk_beasts hX (zWf_i (zWf_i hw2)) dX11_beast_128 rfl (by first | assumption | omega) ?_
  refine zk_getR hX dX11_beast_129 flX11_275 (zBek (by first | assumption | omega)) (zBez _ (by first | assumption | omega)).1 (((zWf_i (zWf_i hw2)) _ _ (by omega)).trans (zBez _ (by first | assumption | omega)).2.2.2.1) ?_
  refine zk_V0i hX dX11_beast_132 kcX1_number mlX11_247 viX1_number rfl (show 97 + 3 * _ < 166 by omega) (zBez _ (by first | assumption | omega)).2.1 (s_X1_number (zBeM hk) (zHas_o (zsetS_has (w := w)) (zsetS_2 (by omega)))) (Nat.le_of_ble_eq_true rfl) rfl ?_
  refine zk_iret hX hE rfl ⟨rfl, rfl⟩ dX11_beast_135 ⟨_, rfl, ?_⟩
  exact ⟨rfl, rfl⟩
