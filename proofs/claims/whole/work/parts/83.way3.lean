theorem s_X12_way {G : zG} {w : zW} {D : zD} {n p q T : Nat} {d e : Nat → Nat} (hw : zWf w) (hM : mHd w D) (hD : zDok D) (hN : zpr (zsp D) (dJ D) ≤ 4096) (hT9 : T ≤ 99) (hS : w.1 166 24 = nI T) (hn : n ≤ 12) (hP : w.1 166 33 = nI n) (hp : p < n) (hq : q < n) (hk : zheldk (w.1 183 (3 * p)) ∧ zheldk (w.1 183 (3 * q)))
    (hdl : ∀ j, j < dJ D → d j < zsp D j) (hel : ∀ j, j < dJ D → e j < zsp D j) (hd : ∀ j, j < dJ D → w.1 184 (6 * p + j) = ztv D d j) (he : ∀ j, j < dJ D → w.1 184 (6 * q + j) = ztv D e j) :
    zCi G mX12_way [.ref 166, .int (nI p), .int (nI q)] w (fun r w' => zFr [179, 180, 181, 194, 195, 196] [] [29] w w' ∧ ((¬ (zkd D (zcode_t D (zcd (zsp D) d (dJ D))) (-1) T = 1 ∧ zkd D (zcode_t D (zcd (zsp D) e (dJ D))) (-1) T = 1) ∧ r = -9) ∨
      ((zkd D (zcode_t D (zcd (zsp D) d (dJ D))) (-1) T = 1 ∧ zkd D (zcode_t D (zcd (zsp D) e (dJ D))) (-1) T = 1) ∧ ∃ res, r = zoe res ∧ zDs (zadj (zsp D) (dJ D)) (fun v => mQ D (-1) T v || decide (v = zcd (zsp D) e (dJ D))) (zcd (zsp D) d (dJ D)) (zcd (zsp D) e (dJ D)) res))) := by
  have ez : ∀ i, zb (zkd D (zcode_t D i) (-1) T = 1) = zb (mQ D (-1) T i = true) := fun i => by
    by_cases g : mQ D (-1) T i = true
    · rw [zb_t (mQ_t.mp g), zb_t g]
    · rw [zb_f (fun z => g (mQ_t.mpr z)), zb_f g]
  refine zC_of (lo := [_, _, _]) kcX12_way (Nat.le_of_ble_eq_true rfl) rfl (fun X hX hE => ?_)
  refine zk_aload_n hX dX12_way_0 rfl ?_
  refine zk_iload_n hX dX12_way_1 rfl ?_
  refine zk_V1i hX dX12_way_2 kcX12_isPose mlX12_290 viX12_isPose rfl k_166 z_166 (s_X12_isPose (n := n) (by omega) hP _) (Nat.le_of_ble_eq_true rfl) rfl ?_
  refine zk_if_eqB (tgt := 16) hX dX12_way_5 (by decide) (fun c5 => ?_) (fun c5 => ?_)
  · exact absurd c5 (not_not_intro ⟨nI_pos' (by omega), nI_lt hp (by omega)⟩)
  refine zk_aload_n hX dX12_way_8 rfl ?_
  refine zk_iload_n hX dX12_way_9 rfl ?_
  refine zk_V1i hX dX12_way_10 kcX12_isPose mlX12_290 viX12_isPose rfl k_166 z_166 (s_X12_isPose (n := n) (by omega) hP _) (Nat.le_of_ble_eq_true rfl) rfl ?_
  refine zk_if_neB (tgt := 18) hX dX12_way_13 (by decide) (fun c13 => ?_) (fun c13 => ?_)
  rotate_left
  · exact absurd ⟨nI_pos' (by omega), nI_lt hq (by omega)⟩ c13
  refine zk_aload_n hX dX12_way_18 rfl ?_
  refine zk_iload_n hX dX12_way_19 rfl ?_
  refine zk_V1i hX dX12_way_20 kcX12_isHeldPose mlX12_293 viX12_isHeldPose rfl k_166 z_166 (s_X12_isHeldPose hw (by omega)) (Nat.le_of_ble_eq_true rfl) rfl ?_
  refine zk_if_eqB (tgt := 34) hX dX12_way_23 (by decide) (fun c23 => ?_) (fun c23 => ?_)
  · exact absurd c23 (not_not_intro hk.1)
  refine zk_aload_n hX dX12_way_26 rfl ?_
  refine zk_iload_n hX dX12_way_27 rfl ?_
  refine zk_V1i hX dX12_way_28 kcX12_isHeldPose mlX12_293 viX12_isHeldPose rfl k_166 z_166 (s_X12_isHeldPose hw (by omega)) (Nat.le_of_ble_eq_true rfl) rfl ?_
  refine zk_if_neB (tgt := 40) hX dX12_way_31 (by decide) (fun c31 => ?_) (fun c31 => ?_)
  rotate_left
  · exact absurd hk.2 c31
  refine zk_aload_n hX dX12_way_40 rfl ?_
  refine zk_V0i hX dX12_way_41 kcX12_turnsMany mlX12_329 viX12_turnsMany rfl k_166 z_166 (s_X12_turnsMany hw hM hD) (Nat.le_of_ble_eq_true rfl) rfl ?_
  refine zk_sipush (v := 4096) hX dX12_way_44 (by decide) ?_
  refine zk_icmp_le (tgt := 53) hX dX12_way_47 (by decide) (fun c47 => ?_) (fun c47 => ?_)
  rotate_left
  · exact absurd (nI_le (b := 4096) hN (by decide)) c47
  refine zk_aload_n hX dX12_way_53 rfl ?_
  refine zk_bipush (v := -9) hX dX12_way_54 (by decide) ?_
  refine zk_iconst (v := 0) hX dX12_way_56 (by decide) ?_
  refine zk_V2vp hX dX12_way_57 kcX12_layOpen mlX12_359 viX12_layOpen rfl k_166 z_166 (s_X12_layOpen_n _ hw hM hD hS hT9 hN) (Nat.le_of_ble_eq_true rfl) rfl (fun w1 q1 => ?_)
  have hw1 := zFr_wf q1.1 hw
  have hM1 := mHd_f hM q1.1 (by decide)
  refine zk_aload_n hX dX12_way_60 rfl ?_
  refine zk_aload_n hX dX12_way_61 rfl ?_
  refine zk_iload_n hX dX12_way_62 rfl ?_
  refine zk_V1ip hX dX12_way_63 kcX12_codeOf mlX12_362 viX12_codeOf rfl k_166 z_166 (s_X12_codeOf hw1 hM1 hD (by omega) hdl (fun j hj => by rw [q1.1.2.1 184 (by decide) (by decide)]; exact hd j hj)) (Nat.le_of_ble_eq_true rfl) rfl (fun r2 w2 q2 => ?_)
  obtain ⟨rfl, q2⟩ := q2
  have hw2 := zFr_wf q2 hw1
  have hM2 := mHd_f hM1 q2 (by decide)
  refine zk_aload_n hX dX12_way_66 rfl ?_
  refine zk_iload_n hX dX12_way_67 rfl ?_
  refine zk_V1ip hX dX12_way_68 kcX12_codeOf mlX12_362 viX12_codeOf rfl k_166 z_166 (s_X12_codeOf hw2 hM2 hD (by omega) hel (fun j hj => by rw [q2.2.1 184 (by decide) (by decide), q1.1.2.1 184 (by decide) (by decide)]; exact he j hj)) (Nat.le_of_ble_eq_true rfl) rfl (fun r3 w3 q3 => ?_)
  obtain ⟨rfl, q3⟩ := q3
  have hw3 := zFr_wf q3 hw2
  have hM3 := mHd_f hM2 q3 (by decide)
  refine zk_V2ip hX dX12_way_71 kcX12_wayBetween mlX12_365 viX12_wayBetween rfl k_166 z_166 (s_X12_wayBetween (T := T) (P := mQ D (-1) T) hw3 hM3 hD (by rw [q3.2.2.2 24 (by decide), q2.2.2.2 24 (by decide), q1.1.2.2.2 24 (by decide)]; exact hS) hT9 hN (fun i hi => by rw [q3.2.1 196 (by decide) (by decide), q2.2.1 196 (by decide) (by decide), q1.2 i hi]; exact ez i) (zcd_lt hdl) (zcd_lt hel)) (Nat.le_of_ble_eq_true rfl) rfl (fun r9 w9 q9 => ?_)
  refine zk_iret hX hE rfl ⟨rfl, rfl⟩ dX12_way_74 ⟨_, rfl, ?_⟩
  exact ⟨zFr_t (zFr_t (zFr_s q1.1 (by decide)) (zFr_s q2 (by decide))) (zFr_t (zFr_s q3 (by decide)) (zFr_s q9.1 (by decide))), q9.2⟩
