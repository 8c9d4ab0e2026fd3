theorem s_X12_nearest_bad {G : zG} {w : zW} (k r : Int32) (h : ¬ ((0 ≤ k ∧ k < 6) ∧ (0 ≤ r ∧ r < 6))) : zEi G mX12_nearest [.ref 166, .int k, .int r] w (-1) w := by
  refine zC_of (lo := [_, _, _, _, _, _]) kcX12_nearest (Nat.le_of_ble_eq_true rfl) rfl (fun X hX hE => ?_)
  refine zk_aload_n hX dX12_nearest_0 rfl ?_
  refine zk_iload_n hX dX12_nearest_1 rfl ?_
  refine zk_S1i hX dX12_nearest_2 kcX12_isRow mlX12_141 smX12_isRow rfl (s_X12_isRow _) (Nat.le_of_ble_eq_true rfl) rfl ?_
  refine zk_iload_n hX dX12_nearest_5 rfl ?_
  refine zk_V2i hX dX12_nearest_6 kcX12_needBeast mlX12_338 viX12_needBeast rfl k_166 z_166 (s_X12_needBeast_bad k (fun q => h ⟨q.2, by grind⟩)) (Nat.le_of_ble_eq_true rfl) rfl ?_
  refine zk_istore_n (lo' := [_, _, _, _, _, _]) hX dX12_nearest_9 (Nat.le_of_ble_eq_true rfl) rfl rfl ?_
  refine zk_iload_n hX dX12_nearest_10 rfl ?_
  refine zk_if_ge (tgt := 16) hX dX12_nearest_11 (by decide) (fun c11 => ?_) (fun c11 => ?_)
  · exact absurd c11 (by decide)
  refine zk_iload_n hX dX12_nearest_14 rfl ?_
  refine zk_iret hX hE rfl ⟨rfl, rfl⟩ dX12_nearest_15 ⟨_, rfl, ?_⟩
  exact ⟨rfl, rfl⟩
theorem s_X12_nearest_m {G : zG} {w : zW} {k r : Nat} (hw : zWf w) (hk : k < 6) (hr : r < 6) (h : w.1 186 k = 0) : zEi G mX12_nearest [.ref 166, .int (nI k), .int (nI r)] w (-3) (mfind w 1) := by
  refine zC_of (lo := [_, _, _, _, _, _]) kcX12_nearest (Nat.le_of_ble_eq_true rfl) rfl (fun X hX hE => ?_)
  refine zk_aload_n hX dX12_nearest_0 rfl ?_
  refine zk_iload_n hX dX12_nearest_1 rfl ?_
  refine zk_S1i hX dX12_nearest_2 kcX12_isRow mlX12_141 smX12_isRow rfl (s_X12_isRow _) (Nat.le_of_ble_eq_true rfl) rfl ?_
  refine zk_iload_n hX dX12_nearest_5 rfl ?_
  refine zk_V2i hX dX12_nearest_6 kcX12_needBeast mlX12_338 viX12_needBeast rfl k_166 z_166 (s_X12_needBeast_m hw (zrle (n := 5) (by omega)) hk h) (Nat.le_of_ble_eq_true rfl) rfl ?_
  refine zk_istore_n (lo' := [_, _, _, _, _, _]) hX dX12_nearest_9 (Nat.le_of_ble_eq_true rfl) rfl rfl ?_
  refine zk_iload_n hX dX12_nearest_10 rfl ?_
  refine zk_if_ge (tgt := 16) hX dX12_nearest_11 (by decide) (fun c11 => ?_) (fun c11 => ?_)
  · exact absurd c11 (by decide)
  refine zk_iload_n hX dX12_nearest_14 rfl ?_
  refine zk_iret hX hE rfl ⟨rfl, rfl⟩ dX12_nearest_15 ⟨_, rfl, ?_⟩
  exact ⟨rfl, rfl⟩
theorem s_X12_nearest_s {G : zG} {w : zW} {D : zD} {k r : Nat} (hw : zWf w) (hM : mHd w D) (hD : zDok D) (hk : k < 6) (hr : r < 6) (h : ¬ w.1 186 k = 0) (hN : 4096 < zpr (zsp D) (dJ D)) : zEi G mX12_nearest [.ref 166, .int (nI k), .int (nI r)] w (-6) w := by
  refine zC_of (lo := [_, _, _, _, _, _]) kcX12_nearest (Nat.le_of_ble_eq_true rfl) rfl (fun X hX hE => ?_)
  refine zk_aload_n hX dX12_nearest_0 rfl ?_
  refine zk_iload_n hX dX12_nearest_1 rfl ?_
  refine zk_S1i hX dX12_nearest_2 kcX12_isRow mlX12_141 smX12_isRow rfl (s_X12_isRow _) (Nat.le_of_ble_eq_true rfl) rfl ?_
  refine zk_iload_n hX dX12_nearest_5 rfl ?_
  refine zk_V2i hX dX12_nearest_6 kcX12_needBeast mlX12_338 viX12_needBeast rfl k_166 z_166 (s_X12_needBeast_s hw hM hD (zrle (n := 5) (by omega)) hk h hN) (Nat.le_of_ble_eq_true rfl) rfl ?_
  refine zk_istore_n (lo' := [_, _, _, _, _, _]) hX dX12_nearest_9 (Nat.le_of_ble_eq_true rfl) rfl rfl ?_
  refine zk_iload_n hX dX12_nearest_10 rfl ?_
  refine zk_if_ge (tgt := 16) hX dX12_nearest_11 (by decide) (fun c11 => ?_) (fun c11 => ?_)
  · exact absurd c11 (by decide)
  refine zk_iload_n hX dX12_nearest_14 rfl ?_
  refine zk_iret hX hE rfl ⟨rfl, rfl⟩ dX12_nearest_15 ⟨_, rfl, ?_⟩
  exact ⟨rfl, rfl⟩
theorem s_X12_nearest {G : zG} {w : zW} {D : zD} {k r z u v T : Nat} {M Y : zS} (hw : zWf w) (hM : mHd w D) (hD : zDok D) (hN : zpr (zsp D) (dJ D) ≤ 4096) (hT9 : T ≤ 99) (hS : w.1 166 24 = nI T) (hl : mLm w z u v) (ho : zlok z u v) (hk : k < 6) (hr : r < 6) (h : ¬ w.1 186 k = 0) (hB : mBe w k M Y) :
    zCi G mX12_nearest [.ref 166, .int (nI k), .int (nI r)] w (fun a w' => a = zoe ((zbst (mQ D (-1) T) (mF D (-1) z u v M Y) (zpr (zsp D) (dJ D))).map (mF D (-1) z u v M Y)) ∧
      ((zbst (mQ D (-1) T) (mF D (-1) z u v M Y) (zpr (zsp D) (dJ D)) = none ∧ zFr [179, 180, 181, 182] [] [29, 41] w w') ∨ ∃ b, zbst (mQ D (-1) T) (mF D (-1) z u v M Y) (zpr (zsp D) (dJ D)) = some b ∧ b < zpr (zsp D) (dJ D) ∧ ∃ w1, zFr [179, 180, 181, 182] [] [29, 41] w w1 ∧ mRowW w1 r (dJ D) (zcode_t D b) w')) := by
  have h6 := hD.1.2.2
  have cl := s_X12_leastOff (G := G) (T := T) (k := k) (z := z) (u := u) (v := v) (M := M) (Y := Y) (o := -1) (st := -9) (P := mQ D (-1) T) hw hM hD hS hT9 hN hk hB hl ho (Or.inl rfl) (Or.inl ⟨rfl, rfl⟩)
  rcases zbst_ok (mQ D (-1) T) (mF D (-1) z u v M Y) (zpr (zsp D) (dJ D)) with ⟨e, _⟩ | ⟨b, e, hb, _, _⟩
  · rw [e] at cl ⊢
    refine zC_of (lo := [_, _, _, _, _, _]) kcX12_nearest (Nat.le_of_ble_eq_true rfl) rfl (fun X hX hE => ?_)
    refine zk_aload_n hX dX12_nearest_0 rfl ?_
    refine zk_iload_n hX dX12_nearest_1 rfl ?_
    refine zk_S1i hX dX12_nearest_2 kcX12_isRow mlX12_141 smX12_isRow rfl (s_X12_isRow _) (Nat.le_of_ble_eq_true rfl) rfl ?_
    refine zk_iload_n hX dX12_nearest_5 rfl ?_
    refine zk_V2i hX dX12_nearest_6 kcX12_needBeast mlX12_338 viX12_needBeast rfl k_166 z_166 (s_X12_needBeast hw hM hD (zrle (n := 5) (by omega)) hk h hN) (Nat.le_of_ble_eq_true rfl) rfl ?_
    refine zk_istore_n (lo' := [_, _, _, _, _, _]) hX dX12_nearest_9 (Nat.le_of_ble_eq_true rfl) rfl rfl ?_
    refine zk_iload_n hX dX12_nearest_10 rfl ?_
    refine zk_if_ge (tgt := 16) hX dX12_nearest_11 (by decide) (fun c11 => ?_) (fun c11 => ?_)
    rotate_left
    · exact absurd (by decide) c11
    refine zk_aload_n hX dX12_nearest_16 rfl ?_
    refine zk_iload_n hX dX12_nearest_17 rfl ?_
    refine zk_iconst (v := -1) hX dX12_nearest_18 (by decide) ?_
    refine zk_bipush (v := -9) hX dX12_nearest_19 (by decide) ?_
    refine zk_V3ip hX dX12_nearest_21 kcX12_leastOff mlX12_342 viX12_leastOff rfl k_166 z_166 cl (Nat.le_of_ble_eq_true rfl) rfl (fun x w1 q1 => ?_)
    obtain ⟨rfl, k1, k2⟩ := q1
    refine zk_istore (lo' := [_, _, _, _, _, _]) hX dX12_nearest_24 (Nat.le_of_ble_eq_true rfl) rfl rfl ?_
    refine zk_iload hX dX12_nearest_26 rfl ?_
    refine zk_bipush (v := -9) hX dX12_nearest_28 (by decide) ?_
    refine zk_icmp_ne (tgt := 36) hX dX12_nearest_30 (by decide) (fun c30 => ?_) (fun c30 => ?_)
    · exact absurd c30 (fun q => q rfl)
    refine zk_bipush (v := -9) hX dX12_nearest_33 (by decide) ?_
    refine zk_iret hX hE rfl ⟨rfl, rfl⟩ dX12_nearest_35 ⟨_, rfl, ?_⟩
    exact ⟨rfl, Or.inl ⟨rfl, k1⟩⟩
  · rw [e] at cl ⊢
    have hF9 : ¬ nI (mF D (-1) z u v M Y b) = -9 := fun q => absurd (show (0 : Int32) ≤ nI (mF D (-1) z u v M Y b) from nI_pos' (by have := mF_le (D := D) (o := -1) (z := z) (u := u) (v := v) (M := M) (Y := Y) (i := b); omega)) (by rw [q]; decide)
    refine zC_of (lo := [_, _, _, _, _, _]) kcX12_nearest (Nat.le_of_ble_eq_true rfl) rfl (fun X hX hE => ?_)
    have loop : ∀ w1 v3, zWf w1 → mHd w1 D → (∀ j, j < dJ D → w1.1 179 j = zcode_t D b j) → zFr [179, 180, 181, 182] [] [29, 41] w w1 → ∀ z' i w2, i + z' = dJ D → zFr [168, 169] [] [] w1 w2 → (∀ q, q ≠ r → w2.1 168 q = w1.1 168 q) → w2.1 168 r = nI (dJ D) → (∀ q, q < 40 * r ∨ 40 * r + 40 ≤ q → w2.1 169 q = w1.1 169 q) → (∀ q, q < i → w2.1 169 (40 * r + q) = zcode_t D b q) → zk0 G X mX12_nearest 56 [.ref 166, .int (nI k), .int (nI r), .int v3, .int (nI (mF D (-1) z u v M Y b)), .int (nI i)] [] w2 := by
      intro w1 v3 hw1 hM1 ht hF1 z'
      induction z' with
      | zero =>
        intro i w2 hi hF g1 g2 g3 g4
        obtain rfl : i = dJ D := by omega
        have hw2 := zFr_wf hF hw1
        have hM2 := mHd_f hM1 hF (by decide)
        refine zk_iload hX dX12_nearest_56 rfl ?_
        refine zk_aload_n hX dX12_nearest_58 rfl ?_
        refine zk_getI hX dX12_nearest_59 flX12_199 k_166 z_166 ?_
        rw [hM2.1.2.2]
        refine zk_icmp_ge (tgt := 90) hX dX12_nearest_62 (by decide) (fun c62 => ?_) (fun c62 => ?_)
        rotate_left
        · exact absurd (nI_le (Nat.le_refl _) (by omega)) c62
        refine zk_iload hX dX12_nearest_90 rfl ?_
        refine zk_iret hX hE rfl ⟨rfl, rfl⟩ dX12_nearest_92 ⟨_, rfl, ?_⟩
        exact ⟨rfl, Or.inr ⟨b, rfl, hb, w1, hF1, hF, g1, g2, g3, g4⟩⟩
      | succ z' ih =>
        intro i w2 hi hF g1 g2 g3 g4
        have hw2 := zFr_wf hF hw1
        have hM2 := mHd_f hM1 hF (by decide)
        refine zk_iload hX dX12_nearest_56 rfl ?_
        refine zk_aload_n hX dX12_nearest_58 rfl ?_
        refine zk_getI hX dX12_nearest_59 flX12_199 k_166 z_166 ?_
        rw [hM2.1.2.2]
        refine zk_icmp_ge (tgt := 90) hX dX12_nearest_62 (by decide) (fun c62 => ?_) (fun c62 => ?_)
        · exact absurd c62 (nI_ge (by omega) (by omega))
        refine zk_aload_n hX dX12_nearest_65 rfl ?_
        refine zk_getR hX dX12_nearest_66 flX12_16 k_166 z_166 (hw2 _ _ (by decide) |>.trans r_166_6) ?_
        refine zk_bipush (v := 40) hX dX12_nearest_69 (by decide) ?_
        refine zk_iload_n hX dX12_nearest_71 rfl ?_
        refine zk_imul hX dX12_nearest_72 ?_
        refine zk_iload hX dX12_nearest_73 rfl ?_
        refine zk_iadd hX dX12_nearest_75 ?_
        refine zk_aload_n hX dX12_nearest_76 rfl ?_
        refine zk_getR hX dX12_nearest_77 flX12_47 k_166 z_166 (hw2 _ _ (by decide) |>.trans r_166_28) ?_
        refine zk_iload hX dX12_nearest_80 rfl ?_
        refine zk_ialdE hX dX12_nearest_82 rfl k_179 z_179 (by first | assumption | omega) rfl ?_
        rw [hF.2.1 179 (by decide) (by decide), ht i (by omega)]
        refine zk_iastE hX dX12_nearest_83 (nI_addE (nI_mulE (nI_k 40 rfl) rfl) rfl) k_169 z_169 (by first | assumption | omega) rfl ?_
        refine zk_iinc (lo' := [_, _, _, _, _, _]) hX dX12_nearest_84 rfl (by first | exact zinc _ | exact rfl) (Nat.le_of_ble_eq_true rfl) rfl rfl ?_
        refine zk_goto (tgt := 56) hX dX12_nearest_87 (by decide) ?_
        refine ih (i + 1) _ (by omega) (zFr_t hF (zFr_i (by decide) (by decide))) (fun q hq => by rw [zsi_o (by decide)]; exact g1 q hq) (by rw [zsi_o (by decide)]; exact g2) (fun q hq => by rw [zsi_1, if_neg (by omega)]; exact g3 q hq) (fun q hq => ?_)
        rw [zsi_1]
        by_cases e5 : q = i
        · subst e5
          rw [if_pos ⟨rfl, rfl⟩]
        · rw [if_neg (by omega)]
          exact g4 q (by omega)
    refine zk_aload_n hX dX12_nearest_0 rfl ?_
    refine zk_iload_n hX dX12_nearest_1 rfl ?_
    refine zk_S1i hX dX12_nearest_2 kcX12_isRow mlX12_141 smX12_isRow rfl (s_X12_isRow _) (Nat.le_of_ble_eq_true rfl) rfl ?_
    refine zk_iload_n hX dX12_nearest_5 rfl ?_
    refine zk_V2i hX dX12_nearest_6 kcX12_needBeast mlX12_338 viX12_needBeast rfl k_166 z_166 (s_X12_needBeast hw hM hD (zrle (n := 5) (by omega)) hk h hN) (Nat.le_of_ble_eq_true rfl) rfl ?_
    refine zk_istore_n (lo' := [_, _, _, _, _, _]) hX dX12_nearest_9 (Nat.le_of_ble_eq_true rfl) rfl rfl ?_
    refine zk_iload_n hX dX12_nearest_10 rfl ?_
    refine zk_if_ge (tgt := 16) hX dX12_nearest_11 (by decide) (fun c11 => ?_) (fun c11 => ?_)
    rotate_left
    · exact absurd (by decide) c11
    refine zk_aload_n hX dX12_nearest_16 rfl ?_
    refine zk_iload_n hX dX12_nearest_17 rfl ?_
    refine zk_iconst (v := -1) hX dX12_nearest_18 (by decide) ?_
    refine zk_bipush (v := -9) hX dX12_nearest_19 (by decide) ?_
    refine zk_V3ip hX dX12_nearest_21 kcX12_leastOff mlX12_342 viX12_leastOff rfl k_166 z_166 cl (Nat.le_of_ble_eq_true rfl) rfl (fun x w1 q1 => ?_)
    obtain ⟨rfl, k1, k2⟩ := q1
    have hw1 := zFr_wf k1 hw
    have hM1 := mHd_f hM k1 (by decide)
    refine zk_istore (lo' := [_, _, _, _, _, _]) hX dX12_nearest_24 (Nat.le_of_ble_eq_true rfl) rfl rfl ?_
    refine zk_iload hX dX12_nearest_26 rfl ?_
    refine zk_bipush (v := -9) hX dX12_nearest_28 (by decide) ?_
    refine zk_icmp_ne (tgt := 36) hX dX12_nearest_30 (by decide) (fun c30 => ?_) (fun c30 => ?_)
    rotate_left
    · exact absurd c30 hF9
    refine zk_aload_n hX dX12_nearest_36 rfl ?_
    refine zk_aload_n hX dX12_nearest_37 rfl ?_
    refine zk_getI hX dX12_nearest_38 flX12_335 k_166 z_166 ?_
    rw [k2 b rfl]
    refine zk_V1vp hX dX12_nearest_41 kcX12_layTurns mlX12_257 viX12_layTurns rfl k_166 z_166 (s_X12_layTurns hw1 hM1 hD (by omega)) (Nat.le_of_ble_eq_true rfl) rfl (fun w2 q2 => ?_)
    have hw2 := zFr_wf q2.1 hw1
    have hM2 := mHd_f hM1 q2.1 (by decide)
    refine zk_aload_n hX dX12_nearest_44 rfl ?_
    refine zk_iload_n hX dX12_nearest_45 rfl ?_
    refine zk_aload_n hX dX12_nearest_46 rfl ?_
    refine zk_getI hX dX12_nearest_47 flX12_199 k_166 z_166 ?_
    rw [hM2.1.2.2]
    refine zk_V2v hX dX12_nearest_50 kcX12_clear mlX12_275 viX12_clear rfl k_166 z_166 (s_X12_clear hw2 hr _) (Nat.le_of_ble_eq_true rfl) rfl ?_
    refine zk_iconst (v := 0) hX dX12_nearest_53 (by decide) ?_
    refine zk_istore (lo' := [_, _, _, _, _, _]) hX dX12_nearest_54 (Nat.le_of_ble_eq_true rfl) rfl rfl ?_
    refine loop w2 _ hw2 hM2 q2.2 (zFr_t k1 (zFr_s q2.1 (by decide))) (dJ D) 0 _ (by omega) (zFr_t (zFr_i (by decide) (by decide)) (zfillR_fr (by decide) (by decide))) (fun q hq => ?_) ?_ (fun q hq => ?_) (fun q hq => absurd hq (by omega))
    · rw [zfillR_o (by decide), zsi_1, if_neg (fun z => hq z.2)]
    · rw [zfillR_o (by decide), zsi_1, if_pos ⟨rfl, rfl⟩]
    · rw [zfillR_1, if_neg (by omega), zsi_o (by decide)]
