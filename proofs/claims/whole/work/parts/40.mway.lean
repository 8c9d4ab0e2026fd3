theorem zb_nar {p : Prop} [Decidable p] : vp_nar .boolean (zb p) = zb p := by
  unfold zb
  split <;> decide
theorem ffar_r {F : Nat → Option Nat} {O : Nat → Bool} {v : Nat} (hm : ∀ m, F v = some m → m < 5000) : (ffar F O v < 0 ∧ F v = none) ∨ ∃ m, F v = some m ∧ ffar F O v = nI m ∧ ¬ nI m < 0 := by
  unfold ffar
  cases e : F v with
  | none =>
    refine Or.inl ⟨?_, rfl⟩
    show (if O v = true then (-1 : Int32) else -2) < 0
    split <;> decide
  | some m =>
    have := hm m e
    exact Or.inr ⟨m, rfl, rfl, nI_pos (by omega)⟩
theorem s_X10_length {G : zG} {w : zW} {D : zD} {O : Nat → Bool} {p q : Nat} (hw : zWf w) (hD : zDok D) (hH : cHd w 26 D) (hSt : cStep w D) (hN : zpr (zsp D) (dJ D) ≤ 4096) (hO : ∀ v, v < 4096 → w.1 148 v = if O v = true then -1 else -2) (hON : ∀ v, O v = true → v < zpr (zsp D) (dJ D)) (hp : p < 4096) (hq : q < 4096) :
    zCi G mX10_length [.ref 147, .ref 131, .ref 26, .int (nI p), .int (nI q)] w (fun r w' => zFr [147, 148, 149] [] [] w w' ∧ ((O p = false ∧ r = -9) ∨ (O p = true ∧ ∃ res, r = zoe res ∧ zDs (zadj (zsp D) (dJ D)) O p q res))) := by
  refine zC_of (lo := [_, _, _, _, _]) kcX10_length (Nat.le_of_ble_eq_true rfl) rfl (fun X hX hE => ?_)
  refine zk_aload_n hX dX10_length_0 rfl ?_
  refine zk_aload_n hX dX10_length_1 rfl ?_
  refine zk_aload_n hX dX10_length_2 rfl ?_
  refine zk_iload_n hX dX10_length_3 rfl ?_
  refine zk_iload hX dX10_length_4 rfl ?_
  refine zk_V4vp hX dX10_length_6 kcX10_walk mlX10_45 viX10_walk rfl k_147 z_147 (s_X10_walk hw hD hH hSt hN hO hON hp (Or.inr ⟨q, rfl, hq⟩)) (Nat.le_of_ble_eq_true rfl) rfl (fun w1 q1 => ?_)
  have hw1 := zFr_wf q1.1 hw
  refine zk_aload_n hX dX10_length_9 rfl ?_
  refine zk_iload hX dX10_length_10 rfl ?_
  refine zk_V1i hX dX10_length_12 kcX10_farOf mlX10_49 viX10_farOf rfl k_147 z_147 (s_X10_farOf hw1 hq) (Nat.le_of_ble_eq_true rfl) rfl ?_
  refine zk_if_ge (tgt := 23) hX dX10_length_15 (by decide) (fun c15 => ?_) (fun c15 => ?_)
  · refine zk_aload_n hX dX10_length_23 rfl ?_
    refine zk_iload hX dX10_length_24 rfl ?_
    refine zk_V1i hX dX10_length_26 kcX10_farOf mlX10_49 viX10_farOf rfl k_147 z_147 (s_X10_farOf hw1 hq) (Nat.le_of_ble_eq_true rfl) rfl ?_
    refine zk_iret hX hE rfl ⟨rfl, rfl⟩ dX10_length_29 ⟨_, rfl, ?_⟩
    refine ⟨q1.1, ?_⟩
    rcases q1.2.2 with ⟨h1, h2⟩ | ⟨h1, F, Q, n, h, b1, b2, b3⟩
    · refine Or.inl ⟨h1, ?_⟩
      first
        | rfl
        | (rw [h2 q hq] at c15
           exfalso
           by_cases z : O q = true
           · rw [if_pos z] at c15
             exact absurd c15 (by decide)
           · rw [if_neg z] at c15
             exact absurd c15 (by decide))
    · refine Or.inr ⟨h1, F q, ?_, zBI_far b1 (b3.imp_right (fun z => by
        obtain ⟨b, e1, e2, e3⟩ := z
        rw [show q = b from (nI_eq (by omega) (by omega)).mp e1]
        exact e3))⟩
      have e0 := b2.1 q hq
      rcases ffar_r (F := F) (O := O) (v := q) (fun m e => by
        have hm := (b1.2.2.2.2.1 q m e).2
        have hn : n ≤ 4096 := by rw [b1.1.1]; exact Nat.le_trans (zcnt_le _ _) hN
        omega) with ⟨e1, e2⟩ | ⟨m, e1, e2, e3⟩
      · rw [e2]
        first
          | rfl
          | (exfalso
             rw [e0] at c15
             exact absurd c15 (Int32.not_le.mpr e1))
      · rw [e1]
        first
          | exact e0.trans e2
          | (exfalso
             rw [e0, e2] at c15
             exact absurd (Int32.not_lt.mp e3) c15)
  · refine zk_bipush (v := -9) hX dX10_length_18 (by decide) ?_
    refine zk_goto (tgt := 29) hX dX10_length_20 (by decide) ?_
    refine zk_iret hX hE rfl ⟨rfl, rfl⟩ dX10_length_29 ⟨_, rfl, ?_⟩
    refine ⟨q1.1, ?_⟩
    rcases q1.2.2 with ⟨h1, h2⟩ | ⟨h1, F, Q, n, h, b1, b2, b3⟩
    · refine Or.inl ⟨h1, ?_⟩
      first
        | rfl
        | (rw [h2 q hq] at c15
           exfalso
           by_cases z : O q = true
           · rw [if_pos z] at c15
             exact absurd c15 (by decide)
           · rw [if_neg z] at c15
             exact absurd c15 (by decide))
    · refine Or.inr ⟨h1, F q, ?_, zBI_far b1 (b3.imp_right (fun z => by
        obtain ⟨b, e1, e2, e3⟩ := z
        rw [show q = b from (nI_eq (by omega) (by omega)).mp e1]
        exact e3))⟩
      have e0 := b2.1 q hq
      rcases ffar_r (F := F) (O := O) (v := q) (fun m e => by
        have hm := (b1.2.2.2.2.1 q m e).2
        have hn : n ≤ 4096 := by rw [b1.1.1]; exact Nat.le_trans (zcnt_le _ _) hN
        omega) with ⟨e1, e2⟩ | ⟨m, e1, e2, e3⟩
      · rw [e2]
        first
          | rfl
          | (exfalso
             rw [e0] at c15
             exact absurd c15 (Int32.not_le.mpr e1))
      · rw [e1]
        first
          | exact e0.trans e2
          | (exfalso
             rw [e0, e2] at c15
             exact absurd (Int32.not_lt.mp e3) c15)
theorem s_X12_layOpen_n {G : zG} {w : zW} {D : zD} {T : Nat} (d : Int32) (hw : zWf w) (hM : mHd w D) (hD : zDok D) (hS : w.1 166 24 = nI T) (hT9 : T ≤ 99) (hN : zpr (zsp D) (dJ D) ≤ 4096) :
    zCv G mX12_layOpen [.ref 166, .int (-9), .int d] w (fun w' => zFr [179, 180, 181, 196] [] [29] w w' ∧ ∀ i, i < zpr (zsp D) (dJ D) → w'.1 196 i = zb (zkd D (zcode_t D i) (-1) T = 1)) := by
  refine zC_of (lo := [_, _, _, _, _]) kcX12_layOpen (Nat.le_of_ble_eq_true rfl) rfl (fun X hX hE => ?_)
  have loop : ∀ m i w1, i + m = zpr (zsp D) (dJ D) → zFr [179, 180, 181, 196] [] [29] w w1 → (∀ k, k < i → w1.1 196 k = zb (zkd D (zcode_t D k) (-1) T = 1)) → zk0 G X mX12_layOpen 8 [.ref 166, .int (-9), .int d, .int (nI (zpr (zsp D) (dJ D))), .int (nI i)] [] w1 := by
    intro m
    induction m with
    | zero =>
      intro i w1 hi hF h
      obtain rfl : i = zpr (zsp D) (dJ D) := by omega
      refine zk_iload hX dX12_layOpen_8 rfl ?_
      refine zk_iload_n hX dX12_layOpen_10 rfl ?_
      refine zk_icmp_ge (tgt := 75) hX dX12_layOpen_11 (by decide) (fun c11 => ?_) (fun c11 => ?_)
      rotate_left
      · exact absurd (nI_le (Nat.le_refl _) (by omega)) c11
      refine zk_vret hX hE rfl ⟨rfl, rfl⟩ dX12_layOpen_75 ⟨rfl, ?_⟩
      exact ⟨hF, h⟩
    | succ m ih =>
      intro i w1 hi hF h
      have hw1 := zFr_wf hF hw
      have hM1 := mHd_f hM hF (by decide)
      have e24 : w1.1 166 24 = nI T := (hF.2.2.2 24 (by decide)).trans hS
      have step : ∀ w2, zFr [179, 180, 181] [] [29] w1 w2 → zk0 G X mX12_layOpen 69 [.ref 166, .int (-9), .int d, .int (nI (zpr (zsp D) (dJ D))), .int (nI i)] [] (zsi w2 196 i (zb (zkd D (zcode_t D i) (-1) T = 1))) := by
        intro w2 k1
        refine zk_iinc (lo' := [_, _, _, _, _]) hX dX12_layOpen_69 rfl (by first | exact zinc _ | exact rfl) (Nat.le_of_ble_eq_true rfl) rfl rfl ?_
        refine zk_goto (tgt := 8) hX dX12_layOpen_72 (by decide) ?_
        refine ih (i + 1) _ (by omega) (zFr_t (zFr_t hF (zFr_s k1 (by decide))) (zFr_i (by decide) (by decide))) (fun j hj => ?_)
        rw [zsi_1]
        by_cases q : j = i
        · rw [if_pos ⟨rfl, q⟩, q]
        · rw [if_neg (fun z => q z.2), k1.2.1 196 (by decide) (by decide)]
          exact h j (by omega)
      refine zk_iload hX dX12_layOpen_8 rfl ?_
      refine zk_iload_n hX dX12_layOpen_10 rfl ?_
      refine zk_icmp_ge (tgt := 75) hX dX12_layOpen_11 (by decide) (fun c11 => ?_) (fun c11 => ?_)
      · exact absurd c11 (nI_ge (by omega) (by omega))
      refine zk_aload_n hX dX12_layOpen_14 rfl ?_
      refine zk_getR hX dX12_layOpen_15 flX12_99 k_166 z_166 (hw1 _ _ (by decide) |>.trans r_166_48) ?_
      refine zk_iload hX dX12_layOpen_18 rfl ?_
      refine zk_aload_n hX dX12_layOpen_20 rfl ?_
      refine zk_iload hX dX12_layOpen_21 rfl ?_
      refine zk_iconst (v := -1) hX dX12_layOpen_23 (by decide) ?_
      refine zk_V2ip hX dX12_layOpen_24 kcX12_isHeld mlX12_332 viX12_isHeld rfl k_166 z_166 (s_X12_isHeld hw1 hM1 hD (Or.inl rfl) e24 hT9 (by omega)) (Nat.le_of_ble_eq_true rfl) rfl (fun r w2 q2 => ?_)
      obtain ⟨rfl, a1, a2, a3⟩ := q2
      have hw2 := zFr_wf a1 hw1
      refine zk_zastE hX dX12_layOpen_27 rfl k_196 z_196 (by first | assumption | omega) rfl ?_
      rw [zb_nar]
      refine zk_aload_n hX dX12_layOpen_28 rfl ?_
      refine zk_getR hX dX12_layOpen_29 flX12_99 k_166 z_166 (hw2 _ _ (by decide) |>.trans r_166_48) ?_
      refine zk_iload hX dX12_layOpen_32 rfl ?_
      refine zk_zaldE hX dX12_layOpen_34 rfl k_196 z_196 (by first | assumption | omega) rfl ?_
      refine zk_if_eq (tgt := 69) hX dX12_layOpen_35 (by decide) (fun c35 => ?_) (fun c35 => ?_)
      · exact step w2 a1
      · refine zk_iload_n hX dX12_layOpen_38 rfl ?_
        refine zk_bipush (v := -9) hX dX12_layOpen_39 (by decide) ?_
        refine zk_icmp_eq (tgt := 69) hX dX12_layOpen_41 (by decide) (fun c41 => ?_) (fun c41 => ?_)
        rotate_left
        · exact absurd rfl c41
        exact step w2 a1
  refine zk_aload_n hX dX12_layOpen_0 rfl ?_
  refine zk_V0i hX dX12_layOpen_1 kcX12_turnsMany mlX12_329 viX12_turnsMany rfl k_166 z_166 (s_X12_turnsMany hw hM hD) (Nat.le_of_ble_eq_true rfl) rfl ?_
  refine zk_istore_n (lo' := [_, _, _, _, _]) hX dX12_layOpen_4 (Nat.le_of_ble_eq_true rfl) rfl rfl ?_
  refine zk_iconst (v := 0) hX dX12_layOpen_5 (by decide) ?_
  refine zk_istore (lo' := [_, _, _, _, _]) hX dX12_layOpen_6 (Nat.le_of_ble_eq_true rfl) rfl rfl ?_
  exact loop (zpr (zsp D) (dJ D)) 0 w (by omega) zFr_r (fun k hk => absurd hk (by omega))
theorem s_X12_layOpen_k {G : zG} {w : zW} {D : zD} {T k d z u v : Nat} {M Y : zS} (hw : zWf w) (hM : mHd w D) (hD : zDok D) (hS : w.1 166 24 = nI T) (hT9 : T ≤ 99) (hN : zpr (zsp D) (dJ D) ≤ 4096) (hk : k < 6) (hB : mBe w k M Y) (hd : d < 5000) (hl : mLm w z u v) (ho : zlok z u v) :
    zCv G mX12_layOpen [.ref 166, .int (nI k), .int (nI d)] w (fun w' => zFr [179, 180, 181, 182, 196] [] [29] w w' ∧ ∀ i, i < zpr (zsp D) (dJ D) → w'.1 196 i = zb (zkd D (zcode_t D i) (-1) T = 1 ∧ d < zofB M Y (zthr z u v (zdkL zno (zP D (zcode_t D i) (-1)))))) := by
  refine zC_of (lo := [_, _, _, _, _]) kcX12_layOpen (Nat.le_of_ble_eq_true rfl) rfl (fun X hX hE => ?_)
  have loop : ∀ m i w1, i + m = zpr (zsp D) (dJ D) → zFr [179, 180, 181, 182, 196] [] [29] w w1 → (∀ j, j < i → w1.1 196 j = zb (zkd D (zcode_t D j) (-1) T = 1 ∧ d < zofB M Y (zthr z u v (zdkL zno (zP D (zcode_t D j) (-1)))))) → zk0 G X mX12_layOpen 8 [.ref 166, .int (nI k), .int (nI d), .int (nI (zpr (zsp D) (dJ D))), .int (nI i)] [] w1 := by
    intro m
    induction m with
    | zero =>
      intro i w1 hi hF h
      obtain rfl : i = zpr (zsp D) (dJ D) := by omega
      refine zk_iload hX dX12_layOpen_8 rfl ?_
      refine zk_iload_n hX dX12_layOpen_10 rfl ?_
      refine zk_icmp_ge (tgt := 75) hX dX12_layOpen_11 (by decide) (fun c11 => ?_) (fun c11 => ?_)
      rotate_left
      · exact absurd (nI_le (Nat.le_refl _) (by omega)) c11
      refine zk_vret hX hE rfl ⟨rfl, rfl⟩ dX12_layOpen_75 ⟨rfl, ?_⟩
      exact ⟨hF, h⟩
    | succ m ih =>
      intro i w1 hi hF h
      have hw1 := zFr_wf hF hw
      have hM1 := mHd_f hM hF (by decide)
      have e24 : w1.1 166 24 = nI T := (hF.2.2.2 24 (by decide)).trans hS
      have step : ∀ w2 x, zFr [179, 180, 181, 182, 196] [] [29] w1 w2 → (∀ j, j ≠ i → w2.1 196 j = w1.1 196 j) → w2.1 196 i = x → x = zb (zkd D (zcode_t D i) (-1) T = 1 ∧ d < zofB M Y (zthr z u v (zdkL zno (zP D (zcode_t D i) (-1))))) → zk0 G X mX12_layOpen 69 [.ref 166, .int (nI k), .int (nI d), .int (nI (zpr (zsp D) (dJ D))), .int (nI i)] [] w2 := by
        intro w2 x k1 k2 k3 k4
        refine zk_iinc (lo' := [_, _, _, _, _]) hX dX12_layOpen_69 rfl (by first | exact zinc _ | exact rfl) (Nat.le_of_ble_eq_true rfl) rfl rfl ?_
        refine zk_goto (tgt := 8) hX dX12_layOpen_72 (by decide) ?_
        refine ih (i + 1) w2 (by omega) (zFr_t hF k1) (fun j hj => ?_)
        rcases Nat.lt_succ_iff_lt_or_eq.mp hj with g | rfl
        · rw [k2 j (by omega)]
          exact h j g
        · rw [k3, k4]
      have hx : ∀ w3, zFr [182] [] [] w3 w3 := fun w3 => zFr_r
      refine zk_iload hX dX12_layOpen_8 rfl ?_
      refine zk_iload_n hX dX12_layOpen_10 rfl ?_
      refine zk_icmp_ge (tgt := 75) hX dX12_layOpen_11 (by decide) (fun c11 => ?_) (fun c11 => ?_)
      · exact absurd c11 (nI_ge (by omega) (by omega))
      refine zk_aload_n hX dX12_layOpen_14 rfl ?_
      refine zk_getR hX dX12_layOpen_15 flX12_99 k_166 z_166 (hw1 _ _ (by decide) |>.trans r_166_48) ?_
      refine zk_iload hX dX12_layOpen_18 rfl ?_
      refine zk_aload_n hX dX12_layOpen_20 rfl ?_
      refine zk_iload hX dX12_layOpen_21 rfl ?_
      refine zk_iconst (v := -1) hX dX12_layOpen_23 (by decide) ?_
      refine zk_V2ip hX dX12_layOpen_24 kcX12_isHeld mlX12_332 viX12_isHeld rfl k_166 z_166 (s_X12_isHeld hw1 hM1 hD (Or.inl rfl) e24 hT9 (by omega)) (Nat.le_of_ble_eq_true rfl) rfl (fun r w2 q2 => ?_)
      obtain ⟨rfl, a1, a2, a3⟩ := q2
      have hw2 := zFr_wf a1 hw1
      have hF2 := zFr_t hF (zFr_s a1 (by decide))
      have e196 : w2.1 196 = w1.1 196 := a1.2.1 196 (by decide) (by decide)
      refine zk_zastE hX dX12_layOpen_27 rfl k_196 z_196 (by first | assumption | omega) rfl ?_
      rw [zb_nar]
      refine zk_aload_n hX dX12_layOpen_28 rfl ?_
      refine zk_getR hX dX12_layOpen_29 flX12_99 k_166 z_166 ((zWf_i hw2) _ _ (by decide) |>.trans r_166_48) ?_
      refine zk_iload hX dX12_layOpen_32 rfl ?_
      refine zk_zaldE hX dX12_layOpen_34 rfl k_196 z_196 (by first | assumption | omega) rfl ?_
      rw [zsi_1, if_pos ⟨rfl, rfl⟩]
      refine zk_if_eq (tgt := 69) hX dX12_layOpen_35 (by decide) (fun c35 => ?_) (fun c35 => ?_)
      · have hl9 := zofB_le M Y (zthr z u v (zdkL zno (zP D (zcode_t D i) (-1))))
        first
          | (refine step _ _ (zFr_t (zFr_s a1 (by decide)) (zFr_i (by decide) (by decide))) (fun j hj => by rw [zsi_1, if_neg (fun z => hj z.2), e196]) rfl ?_
             rw [zsi_1, if_pos ⟨rfl, rfl⟩, c35]
             exact zb_f' (fun z => zb_0.mp c35 z.1))
          | (refine step _ _ (zFr_t (zFr_t (zFr_t (zFr_s a1 (by decide)) (zFr_i (by decide) (by decide))) (zFr_s q3.1 (by decide))) (zFr_i (by decide) (by decide))) (fun j hj => by rw [zsi_1, if_neg (fun z => hj z.2), q3.1.2.1 196 (by decide) (by decide), zsi_1, if_neg (fun z => hj z.2), e196]) rfl ?_
             rw [zsi_1, if_pos ⟨rfl, rfl⟩]
             first
               | exact zb_t' ⟨hheld, nI_ltD c60⟩
               | exact zb_f' (fun z => absurd z.2 (Nat.not_lt.mpr (nI_leD c60))))
      · have hheld : zkd D (zcode_t D i) (-1) T = 1 := Decidable.not_not.mp (fun z => c35 (zb_f z))
        refine zk_iload_n hX dX12_layOpen_38 rfl ?_
        refine zk_bipush (v := -9) hX dX12_layOpen_39 (by decide) ?_
        refine zk_icmp_eq (tgt := 69) hX dX12_layOpen_41 (by decide) (fun c41 => ?_) (fun c41 => ?_)
        · exact absurd c41 (nI_n9 (by omega))
        refine zk_aload_n hX dX12_layOpen_44 rfl ?_
        refine zk_V0vp hX dX12_layOpen_45 kcX12_layThrown mlX12_311 viX12_layThrown rfl k_166 z_166 (s_X12_layThrown (zWf_i hw2) (zPts_o a3 ⟨by rw [zsi_o (by decide)], by rw [zsi_o (by decide)], by rw [zsi_o (by decide)]⟩) (zP_len hD _ _) (mLm_o hl ⟨by rw [zsi_o (by decide)]; exact hF2.2.2.2 25 (by decide), by rw [zsi_o (by decide)]; exact hF2.2.2.2 26 (by decide), by rw [zsi_o (by decide)]; exact hF2.2.2.2 27 (by decide)⟩) ho) (Nat.le_of_ble_eq_true rfl) rfl (fun w3 q3 => ?_)
        have hw3 := zFr_wf q3.1 (zWf_i hw2)
        refine zk_aload_n hX dX12_layOpen_48 rfl ?_
        refine zk_getR hX dX12_layOpen_49 flX12_99 k_166 z_166 (hw3 _ _ (by decide) |>.trans r_166_48) ?_
        refine zk_iload hX dX12_layOpen_52 rfl ?_
        refine zk_aload_n hX dX12_layOpen_54 rfl ?_
        refine zk_iload_n hX dX12_layOpen_55 rfl ?_
        refine zk_V1i hX dX12_layOpen_56 kcX12_offBy mlX12_326 viX12_offBy rfl k_166 z_166 (s_X12_offBy hw3 hk (mBe_o hB ⟨by rw [q3.1.2.1 187 (by decide) (by decide), zsi_o (by decide)]; exact hF2.2.1 187 (by decide) (by decide), by rw [q3.1.2.1 188 (by decide) (by decide), zsi_o (by decide)]; exact hF2.2.1 188 (by decide) (by decide)⟩) q3.2) (Nat.le_of_ble_eq_true rfl) rfl ?_
        refine zk_iload_n hX dX12_layOpen_59 rfl ?_
        refine zk_icmp_le (tgt := 67) hX dX12_layOpen_60 (by decide) (fun c60 => ?_) (fun c60 => ?_)
        · refine zk_iconst (v := 0) hX dX12_layOpen_67 (by decide) ?_
          refine zk_zastE hX dX12_layOpen_68 rfl k_196 z_196 (by first | assumption | omega) rfl ?_
          have hl9 := zofB_le M Y (zthr z u v (zdkL zno (zP D (zcode_t D i) (-1))))
          first
            | (refine step _ _ (zFr_t (zFr_s a1 (by decide)) (zFr_i (by decide) (by decide))) (fun j hj => by rw [zsi_1, if_neg (fun z => hj z.2), e196]) rfl ?_
               rw [zsi_1, if_pos ⟨rfl, rfl⟩, c35]
               exact zb_f' (fun z => zb_0.mp c35 z.1))
            | (refine step _ _ (zFr_t (zFr_t (zFr_t (zFr_s a1 (by decide)) (zFr_i (by decide) (by decide))) (zFr_s q3.1 (by decide))) (zFr_i (by decide) (by decide))) (fun j hj => by rw [zsi_1, if_neg (fun z => hj z.2), q3.1.2.1 196 (by decide) (by decide), zsi_1, if_neg (fun z => hj z.2), e196]) rfl ?_
               rw [zsi_1, if_pos ⟨rfl, rfl⟩]
               first
                 | exact zb_t' ⟨hheld, nI_ltD c60⟩
                 | exact zb_f' (fun z => absurd z.2 (Nat.not_lt.mpr (nI_leD c60))))
        · refine zk_iconst (v := 1) hX dX12_layOpen_63 (by decide) ?_
          refine zk_goto (tgt := 68) hX dX12_layOpen_64 (by decide) ?_
          refine zk_zastE hX dX12_layOpen_68 rfl k_196 z_196 (by first | assumption | omega) rfl ?_
          have hl9 := zofB_le M Y (zthr z u v (zdkL zno (zP D (zcode_t D i) (-1))))
          first
            | (refine step _ _ (zFr_t (zFr_s a1 (by decide)) (zFr_i (by decide) (by decide))) (fun j hj => by rw [zsi_1, if_neg (fun z => hj z.2), e196]) rfl ?_
               rw [zsi_1, if_pos ⟨rfl, rfl⟩, c35]
               exact zb_f' (fun z => zb_0.mp c35 z.1))
            | (refine step _ _ (zFr_t (zFr_t (zFr_t (zFr_s a1 (by decide)) (zFr_i (by decide) (by decide))) (zFr_s q3.1 (by decide))) (zFr_i (by decide) (by decide))) (fun j hj => by rw [zsi_1, if_neg (fun z => hj z.2), q3.1.2.1 196 (by decide) (by decide), zsi_1, if_neg (fun z => hj z.2), e196]) rfl ?_
               rw [zsi_1, if_pos ⟨rfl, rfl⟩]
               first
                 | exact zb_t' ⟨hheld, nI_ltD c60⟩
                 | exact zb_f' (fun z => absurd z.2 (Nat.not_lt.mpr (nI_leD c60))))
  refine zk_aload_n hX dX12_layOpen_0 rfl ?_
  refine zk_V0i hX dX12_layOpen_1 kcX12_turnsMany mlX12_329 viX12_turnsMany rfl k_166 z_166 (s_X12_turnsMany hw hM hD) (Nat.le_of_ble_eq_true rfl) rfl ?_
  refine zk_istore_n (lo' := [_, _, _, _, _]) hX dX12_layOpen_4 (Nat.le_of_ble_eq_true rfl) rfl rfl ?_
  refine zk_iconst (v := 0) hX dX12_layOpen_5 (by decide) ?_
  refine zk_istore (lo' := [_, _, _, _, _]) hX dX12_layOpen_6 (Nat.le_of_ble_eq_true rfl) rfl rfl ?_
  exact loop (zpr (zsp D) (dJ D)) 0 w (by omega) zFr_r (fun k hk => absurd hk (by omega))
theorem s_X12_codeOf {G : zG} {w : zW} {D : zD} {p : Nat} {d : Nat → Nat} (hw : zWf w) (hM : mHd w D) (hD : zDok D) (hp : p < 12) (hd : ∀ j, j < dJ D → d j < zsp D j) (ht : ∀ j, j < dJ D → w.1 184 (6 * p + j) = ztv D d j) :
    zCi G mX12_codeOf [.ref 166, .int (nI p)] w (fun r w' => r = nI (zcd (zsp D) d (dJ D)) ∧ zFr [179, 180, 181] [] [29] w w') := by
  refine zC_of (lo := [_, _]) kcX12_codeOf (Nat.le_of_ble_eq_true rfl) rfl (fun X hX hE => ?_)
  refine zk_aload_n hX dX12_codeOf_0 rfl ?_
  refine zk_iload_n hX dX12_codeOf_1 rfl ?_
  refine zk_V1vp hX dX12_codeOf_2 kcX12_layPose mlX12_284 viX12_layPose rfl k_166 z_166 (s_X12_layPose hw hM hD hp (ztv_2 hD hd) ht) (Nat.le_of_ble_eq_true rfl) rfl (fun w1 q1 => ?_)
  have hw1 := zFr_wf q1.1 hw
  refine zk_aload_n hX dX12_codeOf_5 rfl ?_
  refine zk_V0i hX dX12_codeOf_6 kcX12_codeNow mlX12_356 viX12_codeNow rfl k_166 z_166 (s_X12_codeNow hw1 (mHd_f hM q1.1 (by decide)) hD q1.2.1) (Nat.le_of_ble_eq_true rfl) rfl ?_
  refine zk_iret hX hE rfl ⟨rfl, rfl⟩ dX12_codeOf_9 ⟨_, rfl, ?_⟩
  exact ⟨rfl, q1.1⟩
