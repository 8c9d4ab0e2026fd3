/-! two: the model's, and the call -/
theorem s_X12_two_bad {G : zG} {w : zW} (k l : Int32) (h : ¬ ((0 ≤ k ∧ k < 6) ∧ (0 ≤ l ∧ l < 6))) : zEi G mX12_two [.ref 166, .int k, .int l] w (-1) w := by
  refine zC_of (lo := [_, _, _, _, _, _, _]) kcX12_two (Nat.le_of_ble_eq_true rfl) rfl (fun X hX hE => ?_)
  refine zk_iload_n hX dX12_two_0 rfl ?_
  refine zk_S1i hX dX12_two_1 kcX12_isBeast mlX12_317 smX12_isBeast rfl (s_X12_isBeast' _) (Nat.le_of_ble_eq_true rfl) rfl ?_
  refine zk_if_eqB (tgt := 14) hX dX12_two_4 (by decide) (fun c4 => ?_) (fun c4 => ?_)
  · refine zk_iconst (v := -1) hX dX12_two_14 (by decide) ?_
    refine zk_iret hX hE rfl ⟨rfl, rfl⟩ dX12_two_15 ⟨_, rfl, ?_⟩
    exact ⟨rfl, rfl⟩
  · refine zk_iload_n hX dX12_two_7 rfl ?_
    refine zk_S1i hX dX12_two_8 kcX12_isBeast mlX12_317 smX12_isBeast rfl (s_X12_isBeast' _) (Nat.le_of_ble_eq_true rfl) rfl ?_
    refine zk_if_neB (tgt := 16) hX dX12_two_11 (by decide) (fun c11 => ?_) (fun c11 => ?_)
    · exact absurd c11 (fun q => h ⟨by grind, by grind⟩)
    refine zk_iconst (v := -1) hX dX12_two_14 (by decide) ?_
    refine zk_iret hX hE rfl ⟨rfl, rfl⟩ dX12_two_15 ⟨_, rfl, ?_⟩
    exact ⟨rfl, rfl⟩
theorem s_X12_two_t {G : zG} {w : zW} {k l n : Nat} (hk : k < 6) (hl : l < 6) (hn : n < 2) (h : w.1 166 10 = nI n) : zEi G mX12_two [.ref 166, .int (nI k), .int (nI l)] w (-4) w := by
  refine zC_of (lo := [_, _, _, _, _, _, _]) kcX12_two (Nat.le_of_ble_eq_true rfl) rfl (fun X hX hE => ?_)
  refine zk_iload_n hX dX12_two_0 rfl ?_
  refine zk_S1i hX dX12_two_1 kcX12_isBeast mlX12_317 smX12_isBeast rfl (s_X12_isBeast' _) (Nat.le_of_ble_eq_true rfl) rfl ?_
  refine zk_if_eqB (tgt := 14) hX dX12_two_4 (by decide) (fun c4 => ?_) (fun c4 => ?_)
  · exact absurd c4 (not_not_intro (zrle (n := 5) (by omega)))
  refine zk_iload_n hX dX12_two_7 rfl ?_
  refine zk_S1i hX dX12_two_8 kcX12_isBeast mlX12_317 smX12_isBeast rfl (s_X12_isBeast' _) (Nat.le_of_ble_eq_true rfl) rfl ?_
  refine zk_if_neB (tgt := 16) hX dX12_two_11 (by decide) (fun c11 => ?_) (fun c11 => ?_)
  rotate_left
  · exact absurd (zrle (n := 5) (by omega)) c11
  refine zk_aload_n hX dX12_two_16 rfl ?_
  refine zk_getI hX dX12_two_17 flX12_193 k_166 z_166 ?_
  rw [h]
  refine zk_iconst (v := 2) hX dX12_two_20 (by decide) ?_
  refine zk_icmp_eq (tgt := 27) hX dX12_two_21 (by decide) (fun c21 => ?_) (fun c21 => ?_)
  · exact absurd (nI_inj (b := 2) (by omega) (by decide) c21) (by omega)
  refine zk_bipush (v := -4) hX dX12_two_24 (by decide) ?_
  refine zk_iret hX hE rfl ⟨rfl, rfl⟩ dX12_two_26 ⟨_, rfl, ?_⟩
  exact ⟨rfl, rfl⟩
theorem s_X12_two_m {G : zG} {w : zW} {k l : Nat} (hw : zWf w) (hk : k < 6) (hl : l < 6) (h : w.1 166 10 = 2) (ht : ¬ (¬ w.1 186 k = 0 ∧ ¬ w.1 186 l = 0)) : zEi G mX12_two [.ref 166, .int (nI k), .int (nI l)] w (-3) (mfind w 1) := by
  refine zC_of (lo := [_, _, _, _, _, _, _]) kcX12_two (Nat.le_of_ble_eq_true rfl) rfl (fun X hX hE => ?_)
  refine zk_iload_n hX dX12_two_0 rfl ?_
  refine zk_S1i hX dX12_two_1 kcX12_isBeast mlX12_317 smX12_isBeast rfl (s_X12_isBeast' _) (Nat.le_of_ble_eq_true rfl) rfl ?_
  refine zk_if_eqB (tgt := 14) hX dX12_two_4 (by decide) (fun c4 => ?_) (fun c4 => ?_)
  · exact absurd c4 (not_not_intro (zrle (n := 5) (by omega)))
  refine zk_iload_n hX dX12_two_7 rfl ?_
  refine zk_S1i hX dX12_two_8 kcX12_isBeast mlX12_317 smX12_isBeast rfl (s_X12_isBeast' _) (Nat.le_of_ble_eq_true rfl) rfl ?_
  refine zk_if_neB (tgt := 16) hX dX12_two_11 (by decide) (fun c11 => ?_) (fun c11 => ?_)
  rotate_left
  · exact absurd (zrle (n := 5) (by omega)) c11
  refine zk_aload_n hX dX12_two_16 rfl ?_
  refine zk_getI hX dX12_two_17 flX12_193 k_166 z_166 ?_
  refine zk_iconst (v := 2) hX dX12_two_20 (by decide) ?_
  refine zk_icmp_eq (tgt := 27) hX dX12_two_21 (by decide) (fun c21 => ?_) (fun c21 => ?_)
  rotate_left
  · exact absurd h c21
  refine zk_aload_n hX dX12_two_27 rfl ?_
  refine zk_getR hX dX12_two_28 flX12_68 k_166 z_166 (hw _ _ (by decide) |>.trans r_166_37) ?_
  refine zk_iload_n hX dX12_two_31 rfl ?_
  refine zk_zaldE hX dX12_two_32 rfl k_186 z_186 (by first | assumption | omega) rfl ?_
  refine zk_if_eq (tgt := 45) hX dX12_two_33 (by decide) (fun c33 => ?_) (fun c33 => ?_)
  · refine zk_aload_n hX dX12_two_45 rfl ?_
    refine zk_iconst (v := 1) hX dX12_two_46 (by decide) ?_
    refine zk_V1i hX dX12_two_47 kcX12_meets mlX12_145 viX12_meets rfl k_166 z_166 (s_X12_meets hw _ (by decide)) (Nat.le_of_ble_eq_true rfl) rfl ?_
    refine zk_iret hX hE rfl ⟨rfl, rfl⟩ dX12_two_50 ⟨_, rfl, ?_⟩
    exact ⟨rfl, rfl⟩
  · refine zk_aload_n hX dX12_two_36 rfl ?_
    refine zk_getR hX dX12_two_37 flX12_68 k_166 z_166 (hw _ _ (by decide) |>.trans r_166_37) ?_
    refine zk_iload_n hX dX12_two_40 rfl ?_
    refine zk_zaldE hX dX12_two_41 rfl k_186 z_186 (by first | assumption | omega) rfl ?_
    refine zk_if_ne (tgt := 51) hX dX12_two_42 (by decide) (fun c42 => ?_) (fun c42 => ?_)
    · exact absurd c42 (fun q => ht ⟨c33, q⟩)
    refine zk_aload_n hX dX12_two_45 rfl ?_
    refine zk_iconst (v := 1) hX dX12_two_46 (by decide) ?_
    refine zk_V1i hX dX12_two_47 kcX12_meets mlX12_145 viX12_meets rfl k_166 z_166 (s_X12_meets hw _ (by decide)) (Nat.le_of_ble_eq_true rfl) rfl ?_
    refine zk_iret hX hE rfl ⟨rfl, rfl⟩ dX12_two_50 ⟨_, rfl, ?_⟩
    exact ⟨rfl, rfl⟩
theorem s_X12_two_s {G : zG} {w : zW} {D : zD} {k l : Nat} (hw : zWf w) (hM : mHd w D) (hD : zDok D) (hk : k < 6) (hl : l < 6) (h : w.1 166 10 = 2) (ht : ¬ w.1 186 k = 0 ∧ ¬ w.1 186 l = 0) (hN : 4096 < zpr (zsp D) (dJ D)) : zEi G mX12_two [.ref 166, .int (nI k), .int (nI l)] w (-6) w := by
  have hN0 := zpr_le hD (Nat.le_refl _)
  refine zC_of (lo := [_, _, _, _, _, _, _]) kcX12_two (Nat.le_of_ble_eq_true rfl) rfl (fun X hX hE => ?_)
  refine zk_iload_n hX dX12_two_0 rfl ?_
  refine zk_S1i hX dX12_two_1 kcX12_isBeast mlX12_317 smX12_isBeast rfl (s_X12_isBeast' _) (Nat.le_of_ble_eq_true rfl) rfl ?_
  refine zk_if_eqB (tgt := 14) hX dX12_two_4 (by decide) (fun c4 => ?_) (fun c4 => ?_)
  · exact absurd c4 (not_not_intro (zrle (n := 5) (by omega)))
  refine zk_iload_n hX dX12_two_7 rfl ?_
  refine zk_S1i hX dX12_two_8 kcX12_isBeast mlX12_317 smX12_isBeast rfl (s_X12_isBeast' _) (Nat.le_of_ble_eq_true rfl) rfl ?_
  refine zk_if_neB (tgt := 16) hX dX12_two_11 (by decide) (fun c11 => ?_) (fun c11 => ?_)
  rotate_left
  · exact absurd (zrle (n := 5) (by omega)) c11
  refine zk_aload_n hX dX12_two_16 rfl ?_
  refine zk_getI hX dX12_two_17 flX12_193 k_166 z_166 ?_
  refine zk_iconst (v := 2) hX dX12_two_20 (by decide) ?_
  refine zk_icmp_eq (tgt := 27) hX dX12_two_21 (by decide) (fun c21 => ?_) (fun c21 => ?_)
  rotate_left
  · exact absurd h c21
  refine zk_aload_n hX dX12_two_27 rfl ?_
  refine zk_getR hX dX12_two_28 flX12_68 k_166 z_166 (hw _ _ (by decide) |>.trans r_166_37) ?_
  refine zk_iload_n hX dX12_two_31 rfl ?_
  refine zk_zaldE hX dX12_two_32 rfl k_186 z_186 (by first | assumption | omega) rfl ?_
  refine zk_if_eq (tgt := 45) hX dX12_two_33 (by decide) (fun c33 => ?_) (fun c33 => ?_)
  · exact absurd c33 ht.1
  refine zk_aload_n hX dX12_two_36 rfl ?_
  refine zk_getR hX dX12_two_37 flX12_68 k_166 z_166 (hw _ _ (by decide) |>.trans r_166_37) ?_
  refine zk_iload_n hX dX12_two_40 rfl ?_
  refine zk_zaldE hX dX12_two_41 rfl k_186 z_186 (by first | assumption | omega) rfl ?_
  refine zk_if_ne (tgt := 51) hX dX12_two_42 (by decide) (fun c42 => ?_) (fun c42 => ?_)
  rotate_left
  · exact absurd c42 ht.2
  refine zk_aload_n hX dX12_two_51 rfl ?_
  refine zk_V0i hX dX12_two_52 kcX12_turnsMany mlX12_329 viX12_turnsMany rfl k_166 z_166 (s_X12_turnsMany hw hM hD) (Nat.le_of_ble_eq_true rfl) rfl ?_
  refine zk_sipush (v := 4096) hX dX12_two_55 (by decide) ?_
  refine zk_icmp_le (tgt := 64) hX dX12_two_58 (by decide) (fun c58 => ?_) (fun c58 => ?_)
  · exact absurd c58 (fun z => absurd (nI_leD (y := 4096) z) (by omega))
  refine zk_bipush (v := -6) hX dX12_two_61 (by decide) ?_
  refine zk_iret hX hE rfl ⟨rfl, rfl⟩ dX12_two_63 ⟨_, rfl, ?_⟩
  exact ⟨rfl, rfl⟩
theorem s_X12_mO {G : zG} {w : zW} {D : zD} {T k z u v : Nat} {M Y : zS} {o r : Int32} (hw : zWf w) (hM : mHd w D) (hD : zDok D) (hS : w.1 166 24 = nI T) (hT9 : T ≤ 99) (hN : zpr (zsp D) (dJ D) ≤ 4096) (hk : k < 6) (hB : mBe w k M Y) (hl : mLm w z u v) (ho : zlok z u v) (hh : o = -1 ∨ 0 ≤ o) (hr : mO D o z u v T M Y = r) :
    zCi G mX12_leastOff [.ref 166, .int (nI k), .int o, .int (-9)] w (fun a w' => a = r ∧ zFr [179, 180, 181, 182] [] [29, 41] w w') := by
  rw [← hr]
  exact zCi_m (s_X12_leastOff (G := G) (T := T) (P := mQ D o T) hw hM hD hS hT9 hN hk hB hl ho hh (Or.inl ⟨rfl, rfl⟩)) (fun a w' q => ⟨q.1, q.2.1⟩)
theorem s_X12_two {G : zG} {w : zW} {D : zD} {k l z u v T : Nat} {M Y M' Y' : zS} (hw : zWf w) (hM : mHd w D) (hD : zDok D) (hN : zpr (zsp D) (dJ D) ≤ 4096) (hT9 : T ≤ 99) (hS : w.1 166 24 = nI T) (hL : mLm w z u v) (ho : zlok z u v) (hk : k < 6) (hl : l < 6) (h : w.1 166 10 = 2) (ht : ¬ w.1 186 k = 0 ∧ ¬ w.1 186 l = 0) (hB : mBe w k M Y) (hB' : mBe w l M' Y') {α β γ δ : Int32}
    (hα : mO D 0 z u v T M Y = α) (hβ : mO D 1 z u v T M' Y' = β) (hγ : mO D 0 z u v T M' Y' = γ) (hδ : mO D 1 z u v T M Y = δ) :
    zCi G mX12_two [.ref 166, .int (nI k), .int (nI l)] w (fun a w' => a = zt2a α β γ δ ∧ zFr [179, 180, 181, 182] [] [2, 29, 41] w w' ∧ w'.1 166 2 = zt2b α β γ δ (w.1 166 2)) := by
  have pre : ∀ w1, zFr [179, 180, 181, 182] [] [29, 41] w w1 → zWf w1 ∧ mHd w1 D ∧ mBe w1 k M Y ∧ mBe w1 l M' Y' ∧ mLm w1 z u v ∧ w1.1 166 24 = nI T := fun w1 hF => ⟨zFr_wf hF hw, mHd_f hM hF (by decide), mBe_o hB ⟨hF.2.1 187 (by decide) (by decide), hF.2.1 188 (by decide) (by decide)⟩, mBe_o hB' ⟨hF.2.1 187 (by decide) (by decide), hF.2.1 188 (by decide) (by decide)⟩, mLm_o hL ⟨hF.2.2.2 25 (by decide), hF.2.2.2 26 (by decide), hF.2.2.2 27 (by decide)⟩, by rw [hF.2.2.2 24 (by decide)]; exact hS⟩
  refine zC_of (lo := [_, _, _, _, _, _, _]) kcX12_two (Nat.le_of_ble_eq_true rfl) rfl (fun X hX hE => ?_)
  refine zk_iload_n hX dX12_two_0 rfl ?_
  refine zk_S1i hX dX12_two_1 kcX12_isBeast mlX12_317 smX12_isBeast rfl (s_X12_isBeast' _) (Nat.le_of_ble_eq_true rfl) rfl ?_
  refine zk_if_eqB (tgt := 14) hX dX12_two_4 (by decide) (fun c4 => ?_) (fun c4 => ?_)
  · exact absurd c4 (not_not_intro (zrle (n := 5) (by omega)))
  refine zk_iload_n hX dX12_two_7 rfl ?_
  refine zk_S1i hX dX12_two_8 kcX12_isBeast mlX12_317 smX12_isBeast rfl (s_X12_isBeast' _) (Nat.le_of_ble_eq_true rfl) rfl ?_
  refine zk_if_neB (tgt := 16) hX dX12_two_11 (by decide) (fun c11 => ?_) (fun c11 => ?_)
  rotate_left
  · exact absurd (zrle (n := 5) (by omega)) c11
  refine zk_aload_n hX dX12_two_16 rfl ?_
  refine zk_getI hX dX12_two_17 flX12_193 k_166 z_166 ?_
  refine zk_iconst (v := 2) hX dX12_two_20 (by decide) ?_
  refine zk_icmp_eq (tgt := 27) hX dX12_two_21 (by decide) (fun c21 => ?_) (fun c21 => ?_)
  rotate_left
  · exact absurd h c21
  refine zk_aload_n hX dX12_two_27 rfl ?_
  refine zk_getR hX dX12_two_28 flX12_68 k_166 z_166 (hw _ _ (by decide) |>.trans r_166_37) ?_
  refine zk_iload_n hX dX12_two_31 rfl ?_
  refine zk_zaldE hX dX12_two_32 rfl k_186 z_186 (by first | assumption | omega) rfl ?_
  refine zk_if_eq (tgt := 45) hX dX12_two_33 (by decide) (fun c33 => ?_) (fun c33 => ?_)
  · exact absurd c33 ht.1
  refine zk_aload_n hX dX12_two_36 rfl ?_
  refine zk_getR hX dX12_two_37 flX12_68 k_166 z_166 (hw _ _ (by decide) |>.trans r_166_37) ?_
  refine zk_iload_n hX dX12_two_40 rfl ?_
  refine zk_zaldE hX dX12_two_41 rfl k_186 z_186 (by first | assumption | omega) rfl ?_
  refine zk_if_ne (tgt := 51) hX dX12_two_42 (by decide) (fun c42 => ?_) (fun c42 => ?_)
  rotate_left
  · exact absurd c42 ht.2
  refine zk_aload_n hX dX12_two_51 rfl ?_
  refine zk_V0i hX dX12_two_52 kcX12_turnsMany mlX12_329 viX12_turnsMany rfl k_166 z_166 (s_X12_turnsMany hw hM hD) (Nat.le_of_ble_eq_true rfl) rfl ?_
  refine zk_sipush (v := 4096) hX dX12_two_55 (by decide) ?_
  refine zk_icmp_le (tgt := 64) hX dX12_two_58 (by decide) (fun c58 => ?_) (fun c58 => ?_)
  rotate_left
  · exact absurd (nI_le (b := 4096) hN (by decide)) c58
  refine zk_aload_n hX dX12_two_64 rfl ?_
  refine zk_iload_n hX dX12_two_65 rfl ?_
  refine zk_iconst (v := 0) hX dX12_two_66 (by decide) ?_
  refine zk_bipush (v := -9) hX dX12_two_67 (by decide) ?_
  refine zk_V3ip hX dX12_two_69 kcX12_leastOff mlX12_342 viX12_leastOff rfl k_166 z_166 (s_X12_mO hw hM hD hS hT9 hN hk hB hL ho (Or.inr (by decide)) hα) (Nat.le_of_ble_eq_true rfl) rfl (fun x1 w1 q1 => ?_)
  obtain ⟨rfl, k1⟩ := q1
  obtain ⟨a1, a2, a3, a4, a5, a6⟩ := pre w1 k1
  refine zk_istore_n (lo' := [_, _, _, _, _, _, _]) hX dX12_two_72 (Nat.le_of_ble_eq_true rfl) rfl rfl ?_
  refine zk_aload_n hX dX12_two_73 rfl ?_
  refine zk_iload_n hX dX12_two_74 rfl ?_
  refine zk_iconst (v := 1) hX dX12_two_75 (by decide) ?_
  refine zk_bipush (v := -9) hX dX12_two_76 (by decide) ?_
  refine zk_V3ip hX dX12_two_78 kcX12_leastOff mlX12_342 viX12_leastOff rfl k_166 z_166 (s_X12_mO a1 a2 hD a6 hT9 hN hl a4 a5 ho (Or.inr (by decide)) hβ) (Nat.le_of_ble_eq_true rfl) rfl (fun x2 w2 q2 => ?_)
  obtain ⟨rfl, k2⟩ := q2
  have hF2 := zFr_t k1 k2
  obtain ⟨b1, b2, b3, b4, b5, b6⟩ := pre w2 hF2
  refine zk_istore (lo' := [_, _, _, _, _, _, _]) hX dX12_two_81 (Nat.le_of_ble_eq_true rfl) rfl rfl ?_
  refine zk_iload_n hX dX12_two_83 rfl ?_
  refine zk_bipush (v := -9) hX dX12_two_84 (by decide) ?_
  refine zk_icmp_eq (tgt := 96) hX dX12_two_86 (by decide) (fun c86 => ?_) (fun c86 => ?_)
  · refine zk_bipush (v := -9) hX dX12_two_96 (by decide) ?_
    refine zk_iret hX hE rfl ⟨rfl, rfl⟩ dX12_two_98 ⟨_, rfl, ?_⟩
    refine ⟨?_, zFr_s hF2 (by decide), ?_⟩
    · unfold zt2a
      rw [if_pos (by first | exact Or.inl c86 | exact Or.inl (Decidable.not_not.mp c86) | exact Or.inr c93 | exact Or.inr (Decidable.not_not.mp c93))]
    · unfold zt2b
      rw [if_pos (by first | exact Or.inl c86 | exact Or.inl (Decidable.not_not.mp c86) | exact Or.inr c93 | exact Or.inr (Decidable.not_not.mp c93)), hF2.2.2.2 2 (by decide)]
  · refine zk_iload hX dX12_two_89 rfl ?_
    refine zk_bipush (v := -9) hX dX12_two_91 (by decide) ?_
    refine zk_icmp_ne (tgt := 99) hX dX12_two_93 (by decide) (fun c93 => ?_) (fun c93 => ?_)
    · refine zk_aload_n hX dX12_two_99 rfl ?_
      refine zk_iload_n hX dX12_two_100 rfl ?_
      refine zk_iconst (v := 0) hX dX12_two_101 (by decide) ?_
      refine zk_bipush (v := -9) hX dX12_two_102 (by decide) ?_
      refine zk_V3ip hX dX12_two_104 kcX12_leastOff mlX12_342 viX12_leastOff rfl k_166 z_166 (s_X12_mO b1 b2 hD b6 hT9 hN hl b4 b5 ho (Or.inr (by decide)) hγ) (Nat.le_of_ble_eq_true rfl) rfl (fun x3 w3 q3 => ?_)
      obtain ⟨rfl, k3⟩ := q3
      have hF3 := zFr_t hF2 k3
      obtain ⟨d1, d2, d3, d4, d5, d6⟩ := pre w3 hF3
      refine zk_istore (lo' := [_, _, _, _, _, _, _]) hX dX12_two_107 (Nat.le_of_ble_eq_true rfl) rfl rfl ?_
      refine zk_aload_n hX dX12_two_109 rfl ?_
      refine zk_iload_n hX dX12_two_110 rfl ?_
      refine zk_iconst (v := 1) hX dX12_two_111 (by decide) ?_
      refine zk_bipush (v := -9) hX dX12_two_112 (by decide) ?_
      refine zk_V3ip hX dX12_two_114 kcX12_leastOff mlX12_342 viX12_leastOff rfl k_166 z_166 (s_X12_mO d1 d2 hD d6 hT9 hN hk d3 d5 ho (Or.inr (by decide)) hδ) (Nat.le_of_ble_eq_true rfl) rfl (fun x4 w4 q4 => ?_)
      obtain ⟨rfl, k4⟩ := q4
      have hF4 := zFr_t hF3 k4
      refine zk_istore (lo' := [_, _, _, _, _, _, _]) hX dX12_two_117 (Nat.le_of_ble_eq_true rfl) rfl rfl ?_
      refine zk_iload_n hX dX12_two_119 rfl ?_
      refine zk_iload hX dX12_two_120 rfl ?_
      refine zk_iadd hX dX12_two_122 ?_
      refine zk_iload hX dX12_two_123 rfl ?_
      refine zk_iload hX dX12_two_125 rfl ?_
      refine zk_iadd hX dX12_two_127 ?_
      refine zk_icmp_gt (tgt := 143) hX dX12_two_128 (by decide) (fun c128 => ?_) (fun c128 => ?_)
      · refine zk_aload_n hX dX12_two_143 rfl ?_
        refine zk_iload hX dX12_two_144 rfl ?_
        refine zk_iload hX dX12_two_146 rfl ?_
        refine zk_iadd hX dX12_two_148 ?_
        refine zk_iconst (v := 1) hX dX12_two_149 (by decide) ?_
        refine zk_V2i hX dX12_two_150 kcX12_tells mlX12_153 viX12_tells rfl k_166 z_166 (s_X12_tells _ _) (Nat.le_of_ble_eq_true rfl) rfl ?_
        refine zk_iret hX hE rfl ⟨rfl, rfl⟩ dX12_two_153 ⟨_, rfl, ?_⟩
        first
        | exact ⟨by unfold zt2a; rw [if_neg (fun q => q.elim c86 c93), if_pos (by first | exact c128 | exact Int32.not_lt.mp c128)], zFr_t (zFr_s hF4 (by decide)) (zFr_m (by decide)), by unfold zt2b; rw [if_neg (fun q => q.elim c86 c93), if_pos (by first | exact c128 | exact Int32.not_lt.mp c128), zsi_1, if_pos ⟨rfl, rfl⟩]⟩
        | exact ⟨by unfold zt2a; rw [if_neg (fun q => q.elim c86 c93), if_neg (by first | exact c128 | exact Int32.not_le.mpr c128)], zFr_t (zFr_s hF4 (by decide)) (zFr_m (by decide)), by unfold zt2b; rw [if_neg (fun q => q.elim c86 c93), if_neg (by first | exact c128 | exact Int32.not_le.mpr c128), zsi_1, if_pos ⟨rfl, rfl⟩]⟩
      · refine zk_aload_n hX dX12_two_131 rfl ?_
        refine zk_iload_n hX dX12_two_132 rfl ?_
        refine zk_iload hX dX12_two_133 rfl ?_
        refine zk_iadd hX dX12_two_135 ?_
        refine zk_iconst (v := 0) hX dX12_two_136 (by decide) ?_
        refine zk_V2i hX dX12_two_137 kcX12_tells mlX12_153 viX12_tells rfl k_166 z_166 (s_X12_tells _ _) (Nat.le_of_ble_eq_true rfl) rfl ?_
        refine zk_goto (tgt := 153) hX dX12_two_140 (by decide) ?_
        refine zk_iret hX hE rfl ⟨rfl, rfl⟩ dX12_two_153 ⟨_, rfl, ?_⟩
        first
        | exact ⟨by unfold zt2a; rw [if_neg (fun q => q.elim c86 c93), if_pos (by first | exact c128 | exact Int32.not_lt.mp c128)], zFr_t (zFr_s hF4 (by decide)) (zFr_m (by decide)), by unfold zt2b; rw [if_neg (fun q => q.elim c86 c93), if_pos (by first | exact c128 | exact Int32.not_lt.mp c128), zsi_1, if_pos ⟨rfl, rfl⟩]⟩
        | exact ⟨by unfold zt2a; rw [if_neg (fun q => q.elim c86 c93), if_neg (by first | exact c128 | exact Int32.not_le.mpr c128)], zFr_t (zFr_s hF4 (by decide)) (zFr_m (by decide)), by unfold zt2b; rw [if_neg (fun q => q.elim c86 c93), if_neg (by first | exact c128 | exact Int32.not_le.mpr c128), zsi_1, if_pos ⟨rfl, rfl⟩]⟩
    · refine zk_bipush (v := -9) hX dX12_two_96 (by decide) ?_
      refine zk_iret hX hE rfl ⟨rfl, rfl⟩ dX12_two_98 ⟨_, rfl, ?_⟩
      refine ⟨?_, zFr_s hF2 (by decide), ?_⟩
      · unfold zt2a
        rw [if_pos (by first | exact Or.inl c86 | exact Or.inl (Decidable.not_not.mp c86) | exact Or.inr c93 | exact Or.inr (Decidable.not_not.mp c93))]
      · unfold zt2b
        rw [if_pos (by first | exact Or.inl c86 | exact Or.inl (Decidable.not_not.mp c86) | exact Or.inr c93 | exact Or.inr (Decidable.not_not.mp c93)), hF2.2.2.2 2 (by decide)]
theorem zO_two {G : zG} (k l : Int32) : zOi G mX11_two mX12_two [.int k, .int l] := by
  intro w h
  have h0 := h
  obtain ⟨hw, hT, hR, hX, hB, D, z, u, v, T, n, nl, c, hH, hL, hS, hP, hK⟩ := h
  have h1 := hH
  obtain ⟨hD, hH1, hM, hRe⟩ := hH
  by_cases hk0 : (0 ≤ k ∧ k < 6) ∧ (0 ≤ l ∧ l < 6)
  · obtain ⟨k, hk, rfl⟩ := r6 hk0.1
    obtain ⟨l, hl, rfl⟩ := r6 hk0.2
    by_cases hW : dW D < 2
    · exact zOe (s_X11_two_t hw hk hl hW hH1.1.1) (s_X12_two_t hk hl hW hM.1.1) rfl h0
    · have eW : dW D = 2 := by have := hD.1.1; omega
      have w1 : w.1 26 0 = 2 := by rw [hH1.1.1, eW]; rfl
      have w2 : w.1 166 10 = 2 := by rw [hM.1.1, eW]; rfl
      obtain ⟨b1, b2, b3, M, Y, b4, b5⟩ := hB k hk
      obtain ⟨d1, d2, d3, M', Y', d4, d5⟩ := hB l hl
      by_cases hz : ¬ w.1 186 k = 0 ∧ ¬ w.1 186 l = 0
      · have hz' : ¬ w.1 (96 + 3 * k) 3 = 0 ∧ ¬ w.1 (96 + 3 * l) 3 = 0 := by rw [b1, d1]; exact hz
        by_cases hN : 4096 < zpr (zsp D) (dJ D)
        · exact zOe (s_X11_two_s hw hk hl w1 hz' (by rw [hRe.2.2.1, if_pos hN])) (s_X12_two_s hw hM hD hk hl w2 hz hN) rfl h0
        · refine zCi_m (s_X11_two (G := G) (T := T) hw hD hH1 hRe (by omega) hS.1 hS.2.1 hL.2.1 hL.1 hk hl w1 hz' b4 d4 (cO_m hD) (cO_m hD) (cO_m hD) (cO_m hD)) (fun a w1 g => ?_)
          obtain ⟨rfl, k1, k2, k3, kR⟩ := g
          refine zCi_m (s_X12_two (G := G) (w := w1) (D := D) (T := T) (zFr_wf k1 hw) (mHd_f hM k1 (by decide)) hD (by omega) hS.1 (by rw [k1.2.2.2 24 (by decide)]; exact hS.2.2) (mLm_o hL.2.2 ⟨k1.2.2.2 25 (by decide), k1.2.2.2 26 (by decide), k1.2.2.2 27 (by decide)⟩) hL.1 hk hl (by rw [k1.2.2.2 10 (by decide)]; exact w2) (by rw [k1.2.1 186 (by decide) (by decide)]; exact hz) (mBe_o b5 ⟨k1.2.1 187 (by decide) (by decide), k1.2.1 188 (by decide) (by decide)⟩) (mBe_o d5 ⟨k1.2.1 187 (by decide) (by decide), k1.2.1 188 (by decide) (by decide)⟩) rfl rfl rfl rfl) (fun a w2 g => ?_)
          obtain ⟨rfl, k4, k5⟩ := g
          have hF : zFr [1, 131, 134, 179, 180, 181, 182] [135, 136, 137, 138, 143, 144, 146] [2, 29, 41] w w2 := zFr_t (zFr_s k1 (by decide)) (zFr_s k4 (by decide))
          refine ⟨rfl, zFr_wf hF hw, qT_v hT ?_ ⟨hF.2.2.1 1 (by decide), hF.2.2.1 166 (by decide)⟩ ⟨?_, hF.2.2.2 0 (by decide)⟩ ⟨hF.2.1 2 (by decide) (by decide), hF.2.1 167 (by decide) (by decide)⟩, qR_f hR hF.2 (by decide), qX_f hX hF.2 (by decide), qB_f hB hF.2 (by decide), D, z, u, v, T, n, nl, c, ⟨hD, cHd_o hH1 (fun a h1 h2 => hF.2.1 a (by simp; omega) (by omega)), mHd_f hM hF (by decide), cRe_f kR k4.2 (by decide)⟩, qL_f hL hF.2 (by decide), qS_f hS hF.2 (by decide), qP_f hP hF.2 (by decide), qK_f hK hF.2 (by decide)⟩
          · rw [k4.2.1 1 (by decide) (by decide), k3, k5, k1.2.2.2 2 (by decide), hT.1]
          · rw [k4.2.1 1 (by decide) (by decide), k2 3 (by decide)]
      · exact zO_find h0 1 (s_X11_two_m hw hk hl w1 (by rw [b1, d1]; exact hz)) (s_X12_two_m (zfind_w hw) hk hl ((zfind_fr (w := w) 1).2.2.2 10 (by decide) ▸ w2) (by rw [zfind_a (by decide) (by decide)]; exact hz))
  · exact zOe (s_X11_two_bad k l hk0) (s_X12_two_bad k l hk0) rfl h0
